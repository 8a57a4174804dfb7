theorem dX12_findSoon_0 : decode cX12_findSoon 0 = .ok (.iconst 0, 1) := by decide +kernel
theorem dX12_findSoon_1 : decode cX12_findSoon 1 = .ok (.istore 4, 2) := by decide +kernel
theorem dX12_findSoon_3 : decode cX12_findSoon 3 = .ok (.iload 4, 2) := by decide +kernel
theorem dX12_findSoon_5 : decode cX12_findSoon 5 = .ok (.aload_n 0, 1) := by decide +kernel
theorem dX12_findSoon_6 : decode cX12_findSoon 6 = .ok (.getfield 276, 3) := by decide +kernel
theorem dX12_findSoon_9 : decode cX12_findSoon 9 = .ok (.if_icmp .ge 29, 3) := by decide +kernel
theorem dX12_findSoon_12 : decode cX12_findSoon 12 = .ok (.aload_n 0, 1) := by decide +kernel
theorem dX12_findSoon_13 : decode cX12_findSoon 13 = .ok (.getfield 80, 3) := by decide +kernel
theorem dX12_findSoon_16 : decode cX12_findSoon 16 = .ok (.iload 4, 2) := by decide +kernel
theorem dX12_findSoon_18 : decode cX12_findSoon 18 = .ok (.iload 4, 2) := by decide +kernel
theorem dX12_findSoon_20 : decode cX12_findSoon 20 = .ok (.iload_n 1, 1) := by decide +kernel
theorem dX12_findSoon_21 : decode cX12_findSoon 21 = .ok (.if_icmp .ne 7, 3) := by decide +kernel
theorem dX12_findSoon_24 : decode cX12_findSoon 24 = .ok (.iconst 0, 1) := by decide +kernel
theorem dX12_findSoon_25 : decode cX12_findSoon 25 = .ok (.goto 6, 3) := by decide +kernel
theorem dX12_findSoon_28 : decode cX12_findSoon 28 = .ok (.ldc_w 423, 3) := by decide +kernel
theorem dX12_findSoon_31 : decode cX12_findSoon 31 = .ok (.iastore, 1) := by decide +kernel
theorem dX12_findSoon_32 : decode cX12_findSoon 32 = .ok (.iinc 4 1, 3) := by decide +kernel
theorem dX12_findSoon_35 : decode cX12_findSoon 35 = .ok (.goto (-32), 3) := by decide +kernel
theorem dX12_findSoon_38 : decode cX12_findSoon 38 = .ok (.iconst 0, 1) := by decide +kernel
theorem dX12_findSoon_39 : decode cX12_findSoon 39 = .ok (.istore 4, 2) := by decide +kernel
theorem dX12_findSoon_41 : decode cX12_findSoon 41 = .ok (.iload 4, 2) := by decide +kernel
theorem dX12_findSoon_43 : decode cX12_findSoon 43 = .ok (.bipush 6, 2) := by decide +kernel
theorem dX12_findSoon_45 : decode cX12_findSoon 45 = .ok (.if_icmp .ge 129, 3) := by decide +kernel
theorem dX12_findSoon_48 : decode cX12_findSoon 48 = .ok (.iconst 0, 1) := by decide +kernel
theorem dX12_findSoon_49 : decode cX12_findSoon 49 = .ok (.istore 5, 2) := by decide +kernel
theorem dX12_findSoon_51 : decode cX12_findSoon 51 = .ok (.iload 5, 2) := by decide +kernel
theorem dX12_findSoon_53 : decode cX12_findSoon 53 = .ok (.aload_n 0, 1) := by decide +kernel
theorem dX12_findSoon_54 : decode cX12_findSoon 54 = .ok (.getfield 276, 3) := by decide +kernel
theorem dX12_findSoon_57 : decode cX12_findSoon 57 = .ok (.if_icmp .ge 111, 3) := by decide +kernel
theorem dX12_findSoon_60 : decode cX12_findSoon 60 = .ok (.iconst 0, 1) := by decide +kernel
theorem dX12_findSoon_61 : decode cX12_findSoon 61 = .ok (.istore 6, 2) := by decide +kernel
theorem dX12_findSoon_63 : decode cX12_findSoon 63 = .ok (.iload 6, 2) := by decide +kernel
theorem dX12_findSoon_65 : decode cX12_findSoon 65 = .ok (.aload_n 0, 1) := by decide +kernel
theorem dX12_findSoon_66 : decode cX12_findSoon 66 = .ok (.getfield 276, 3) := by decide +kernel
theorem dX12_findSoon_69 : decode cX12_findSoon 69 = .ok (.if_icmp .ge 93, 3) := by decide +kernel
theorem dX12_findSoon_72 : decode cX12_findSoon 72 = .ok (.aload_n 0, 1) := by decide +kernel
theorem dX12_findSoon_73 : decode cX12_findSoon 73 = .ok (.bipush 33, 2) := by decide +kernel
theorem dX12_findSoon_75 : decode cX12_findSoon 75 = .ok (.iload 5, 2) := by decide +kernel
theorem dX12_findSoon_77 : decode cX12_findSoon 77 = .ok (.iadd, 1) := by decide +kernel
theorem dX12_findSoon_78 : decode cX12_findSoon 78 = .ok (.invokevirtual 269, 3) := by decide +kernel
theorem dX12_findSoon_81 : decode cX12_findSoon 81 = .ok (.aload_n 0, 1) := by decide +kernel
theorem dX12_findSoon_82 : decode cX12_findSoon 82 = .ok (.bipush 33, 2) := by decide +kernel
theorem dX12_findSoon_84 : decode cX12_findSoon 84 = .ok (.iload 6, 2) := by decide +kernel
theorem dX12_findSoon_86 : decode cX12_findSoon 86 = .ok (.iadd, 1) := by decide +kernel
theorem dX12_findSoon_87 : decode cX12_findSoon 87 = .ok (.invokevirtual 269, 3) := by decide +kernel
theorem dX12_findSoon_90 : decode cX12_findSoon 90 = .ok (.invokestatic 282, 3) := by decide +kernel
theorem dX12_findSoon_93 : decode cX12_findSoon 93 = .ok (.istore 7, 2) := by decide +kernel
theorem dX12_findSoon_95 : decode cX12_findSoon 95 = .ok (.iload 7, 2) := by decide +kernel
theorem dX12_findSoon_97 : decode cX12_findSoon 97 = .ok (.iload_n 2, 1) := by decide +kernel
theorem dX12_findSoon_98 : decode cX12_findSoon 98 = .ok (.invokestatic 295, 3) := by decide +kernel
theorem dX12_findSoon_101 : decode cX12_findSoon 101 = .ok (.if_icmp .gt 31, 3) := by decide +kernel
theorem dX12_findSoon_104 : decode cX12_findSoon 104 = .ok (.iload 5, 2) := by decide +kernel
theorem dX12_findSoon_106 : decode cX12_findSoon 106 = .ok (.iload 6, 2) := by decide +kernel
theorem dX12_findSoon_108 : decode cX12_findSoon 108 = .ok (.if_icmp .eq 24, 3) := by decide +kernel
theorem dX12_findSoon_111 : decode cX12_findSoon 111 = .ok (.aload_n 0, 1) := by decide +kernel
theorem dX12_findSoon_112 : decode cX12_findSoon 112 = .ok (.getfield 80, 3) := by decide +kernel
theorem dX12_findSoon_115 : decode cX12_findSoon 115 = .ok (.iload 5, 2) := by decide +kernel
theorem dX12_findSoon_117 : decode cX12_findSoon 117 = .ok (.iaload, 1) := by decide +kernel
theorem dX12_findSoon_118 : decode cX12_findSoon 118 = .ok (.iload_n 3, 1) := by decide +kernel
theorem dX12_findSoon_119 : decode cX12_findSoon 119 = .ok (.ifCond .eq 7, 3) := by decide +kernel
theorem dX12_findSoon_122 : decode cX12_findSoon 122 = .ok (.iconst 1, 1) := by decide +kernel
theorem dX12_findSoon_123 : decode cX12_findSoon 123 = .ok (.goto 5, 3) := by decide +kernel
theorem dX12_findSoon_126 : decode cX12_findSoon 126 = .ok (.iload 7, 2) := by decide +kernel
theorem dX12_findSoon_128 : decode cX12_findSoon 128 = .ok (.iadd, 1) := by decide +kernel
theorem dX12_findSoon_129 : decode cX12_findSoon 129 = .ok (.goto 6, 3) := by decide +kernel
theorem dX12_findSoon_132 : decode cX12_findSoon 132 = .ok (.ldc_w 423, 3) := by decide +kernel
theorem dX12_findSoon_135 : decode cX12_findSoon 135 = .ok (.istore 8, 2) := by decide +kernel
theorem dX12_findSoon_137 : decode cX12_findSoon 137 = .ok (.aload_n 0, 1) := by decide +kernel
theorem dX12_findSoon_138 : decode cX12_findSoon 138 = .ok (.getfield 80, 3) := by decide +kernel
theorem dX12_findSoon_141 : decode cX12_findSoon 141 = .ok (.iload 6, 2) := by decide +kernel
theorem dX12_findSoon_143 : decode cX12_findSoon 143 = .ok (.aload_n 0, 1) := by decide +kernel
theorem dX12_findSoon_144 : decode cX12_findSoon 144 = .ok (.getfield 80, 3) := by decide +kernel
theorem dX12_findSoon_147 : decode cX12_findSoon 147 = .ok (.iload 6, 2) := by decide +kernel
theorem dX12_findSoon_149 : decode cX12_findSoon 149 = .ok (.iaload, 1) := by decide +kernel
theorem dX12_findSoon_150 : decode cX12_findSoon 150 = .ok (.iload 8, 2) := by decide +kernel
theorem dX12_findSoon_152 : decode cX12_findSoon 152 = .ok (.invokestatic 404, 3) := by decide +kernel
theorem dX12_findSoon_155 : decode cX12_findSoon 155 = .ok (.iastore, 1) := by decide +kernel
theorem dX12_findSoon_156 : decode cX12_findSoon 156 = .ok (.iinc 6 1, 3) := by decide +kernel
theorem dX12_findSoon_159 : decode cX12_findSoon 159 = .ok (.goto (-96), 3) := by decide +kernel
theorem dX12_findSoon_162 : decode cX12_findSoon 162 = .ok (.iinc 5 1, 3) := by decide +kernel
theorem dX12_findSoon_165 : decode cX12_findSoon 165 = .ok (.goto (-114), 3) := by decide +kernel
theorem dX12_findSoon_168 : decode cX12_findSoon 168 = .ok (.iinc 4 1, 3) := by decide +kernel
theorem dX12_findSoon_171 : decode cX12_findSoon 171 = .ok (.goto (-130), 3) := by decide +kernel
theorem dX12_findSoon_174 : decode cX12_findSoon 174 = .ok (.return_, 1) := by decide +kernel
def fX12_findSoon_l3 (x0 : Nat) (x1 : Int32) (F3 : Int32 → zM → Option (zM)) (x4_1 : Int32) (m2 : zM) : Option (zM) :=
  zb1 (zm_gI m2 12 x0 25) fun v7 =>
  if v7 ≤ x4_1 then (
  some m2)
  else (
  zb1 (zm_gR m2 12 x0 50) fun v9 =>
  zb1 (if x4_1 = x1 then (
  some 0)
  else (
  some 1000000)) fun s11 =>
  zb1 (zm_sI m2 0 v9 x4_1 s11) fun m13 =>
  F3 (x4_1 + 1) m13)
def fX12_findSoon_b132xxxxxxx  : Option (Int32) :=
  some 1000000
def fX12_findSoon_l63xxx (x0 : Nat) (x5_22 : Int32) (x2 : Int32) (x3 : Int32) (F32 : Int32 → zM → Option (zM)) (x6_30 : Int32) (m31 : zM) : Option (zM) :=
  zb1 (zm_gI m31 12 x0 25) fun v36 =>
  if v36 ≤ x6_30 then (
  some m31)
  else (
  zb1 (fX12_of m31 x0 (33 + x5_22)) fun v39 =>
  zb1 (fX12_of m31 x0 (33 + x6_30)) fun v41 =>
  zb1 (fX12_apart m31 v39 v41) fun v43 =>
  zb1 (fX12_range m31 x2) fun v45 =>
  zb1 (if v45 < v43 then (
  fX12_findSoon_b132xxxxxxx)
  else (
  if x5_22 = x6_30 then (
  fX12_findSoon_b132xxxxxxx)
  else (
  zb1 (zm_gR m31 12 x0 50) fun v59 =>
  zb1 (zm_aI m31 0 v59 x5_22) fun v61 =>
  zb1 (if x3 = 0 then (
  some v43)
  else (
  some 1)) fun s63 =>
  some (v61 + s63)))) fun s46 =>
  zb1 (zm_gR m31 12 x0 50) fun v49 =>
  zb1 (zm_gR m31 12 x0 50) fun v51 =>
  zb1 (zm_aI m31 0 v51 x6_30) fun v53 =>
  zb1 (fX12_lesser m31 v53 s46) fun v56 =>
  zb1 (zm_sI m31 0 v49 x6_30 v56) fun m57 =>
  F32 (x6_30 + 1) m57)
def fX12_findSoon_l51x (x0 : Nat) (x2 : Int32) (x3 : Int32) (F24 : Int32 → zM → Option (zM)) (x5_22 : Int32) (m23 : zM) : Option (zM) :=
  zb1 (zm_gI m23 12 x0 25) fun v28 =>
  if v28 ≤ x5_22 then (
  some m23)
  else (
  zb1 (zf2 (fX12_findSoon_l63xxx x0 x5_22 x2 x3) zfu 0 m23) fun m34 =>
  F24 (x5_22 + 1) m34)
def fX12_findSoon_l41 (x0 : Nat) (x2 : Int32) (x3 : Int32) (F18 : Int32 → zM → Option (zM)) (x4_16 : Int32) (m17 : zM) : Option (zM) :=
  if 6 ≤ x4_16 then (
  some m17)
  else (
  zb1 (zf2 (fX12_findSoon_l51x x0 x2 x3) zfu 0 m17) fun m26 =>
  F18 (x4_16 + 1) m26)
def fX12_findSoon (μ : zM) (x0 : Nat) (x1 : Int32) (x2 : Int32) (x3 : Int32) : Option (zM) := zgd (zm_ck μ 12 x0) <|
  zb1 (zf2 (fX12_findSoon_l3 x0 x1) zfu 0 μ) fun m5 =>
  zb1 (zf2 (fX12_findSoon_l41 x0 x2 x3) zfu 0 m5) fun m20 =>
  some m20
theorem fX12_findSoon_ck {μ : zM} {x0 : Nat} {x1 : Int32} {x2 : Int32} {x3 : Int32} {z : zM} (h : fX12_findSoon μ x0 x1 x2 x3 = some z) : zm_ck μ 12 x0 = true := (zgd_s h).1
set_option maxHeartbeats 4000000 in
set_option maxRecDepth 100000 in
theorem cX12_findSoon_ok {μ : zM} {x0 : Nat} {x1 : Int32} {x2 : Int32} {x3 : Int32} {mo : zM} (hf : fX12_findSoon μ x0 x1 x2 x3 = some mo) : zC yX12_findSoon cX12_findSoon 9 (none) 1 0 0 [.ref x0, .int x1, .int x2, .int x3] μ (none) mo := by
  replace hf := (zgd_s hf).2
  refine zC.of (by decide) (Nat.le_of_ble_eq_true rfl) (fun K hin => ?_)
  clear hin
  show zz K cX12_findSoon (9, RX12, none, 1, 0, 0, none, mo) 0 0 0 [(0, .ref x0), (1, .int x1), (2, .int x2), (3, .int x3)] [] μ
  refine zr_iconst 0 dX12_findSoon_0 (by decide) ?_
  refine zr_istore [(4, .int 0), (0, .ref x0), (1, .int x1), (2, .int x2), (3, .int x3)] dX12_findSoon_1 (Nat.le_of_ble_eq_true rfl) rfl ?_
  replace hf := zb1_s hf
  obtain ⟨m5, hg, hf⟩ := hf
  have hj6 : zz K cX12_findSoon (9, RX12, none, 1, 0, 0, none, mo) 0 0 38 [(0, .ref x0), (2, .int x2), (3, .int x3)] [] m5 := by
    refine zr_iconst 0 dX12_findSoon_38 (by decide) ?_
    refine zr_istore [(4, .int 0), (0, .ref x0), (2, .int x2), (3, .int x3)] dX12_findSoon_39 (Nat.le_of_ble_eq_true rfl) rfl ?_
    replace hf := zb1_s hf
    obtain ⟨m20, hg, hf⟩ := hf
    have hj21 : zz K cX12_findSoon (9, RX12, none, 1, 0, 0, none, mo) 0 0 174 [] [] m20 := by
      cases hf
      exact zr_vret dX12_findSoon_174
    clear hf
    have hf := hg
    clear hg
    have hL67 : ∀ (n : Nat) (x4_16 : Int32) (m17 : zM), zf2 (fX12_findSoon_l41 x0 x2 x3) n x4_16 m17 = some m20 → zz K cX12_findSoon (9, RX12, none, 1, 0, 0, none, mo) 0 0 41 [(0, .ref x0), (2, .int x2), (3, .int x3), (4, .int x4_16)] [] m17 := by
      intro n
      induction n with
      | zero => intro x4_16 m17 hf; cases hf
      | succ n ih19 =>
        intro x4_16 m17 hf
        replace hf := zf2_s hf
        generalize zf2 (fX12_findSoon_l41 x0 x2 x3) n = F18 at hf ih19
        unfold fX12_findSoon_l41 at hf
        refine zr_iload 3 dX12_findSoon_41 rfl ?_
        refine zr_bipush 6 dX12_findSoon_43 (by decide) ?_
        refine zr_icmp_ge 174 dX12_findSoon_45 (by decide) (fun hc => ?_) (fun hc => ?_)
        · rw [if_pos hc] at hf
          cases hf
          exact zr_lv [] rfl hj21
        · rw [if_neg hc] at hf
          refine zr_iconst 0 dX12_findSoon_48 (by decide) ?_
          refine zr_istore [(5, .int 0), (0, .ref x0), (2, .int x2), (3, .int x3), (4, .int x4_16)] dX12_findSoon_49 (Nat.le_of_ble_eq_true rfl) rfl ?_
          replace hf := zb1_s hf
          obtain ⟨m26, hg, hf⟩ := hf
          have hj27 : zz K cX12_findSoon (9, RX12, none, 1, 0, 0, none, mo) 0 0 168 [(0, .ref x0), (2, .int x2), (3, .int x3), (4, .int x4_16)] [] m26 := by
            refine zr_iinc (j := 3) (x4_16 + 1) [(4, .int (x4_16 + 1)), (0, .ref x0), (2, .int x2), (3, .int x3)] dX12_findSoon_168 rfl rfl (Nat.le_of_ble_eq_true rfl) rfl ?_
            refine zr_goto 41 dX12_findSoon_171 (by decide) ?_
            exact zr_lv [1, 2, 3, 0] rfl (ih19 (x4_16 + 1) m26 hf)
          clear hf
          have hf := hg
          clear hg
          have hL66 : ∀ (n : Nat) (x5_22 : Int32) (m23 : zM), zf2 (fX12_findSoon_l51x x0 x2 x3) n x5_22 m23 = some m26 → zz K cX12_findSoon (9, RX12, none, 1, 0, 0, none, mo) 0 0 51 [(0, .ref x0), (2, .int x2), (3, .int x3), (4, .int x4_16), (5, .int x5_22)] [] m23 := by
            intro n
            induction n with
            | zero => intro x5_22 m23 hf; cases hf
            | succ n ih25 =>
              intro x5_22 m23 hf
              replace hf := zf2_s hf
              generalize zf2 (fX12_findSoon_l51x x0 x2 x3) n = F24 at hf ih25
              unfold fX12_findSoon_l51x at hf
              refine zr_iload 4 dX12_findSoon_51 rfl ?_
              refine zr_aload_n 0 dX12_findSoon_53 rfl ?_
              replace hf := zb1_s hf
              obtain ⟨v28, h29, hf⟩ := hf
              refine zr_get (zm_gI_g h29) zk12 (by decide) zl_921 dX12_findSoon_54 ?_
              refine zr_icmp_ge 168 dX12_findSoon_57 (by decide) (fun hc => ?_) (fun hc => ?_)
              · rw [if_pos hc] at hf
                cases hf
                exact zr_lv [0, 1, 2, 3] rfl hj27
              · rw [if_neg hc] at hf
                refine zr_iconst 0 dX12_findSoon_60 (by decide) ?_
                refine zr_istore [(6, .int 0), (0, .ref x0), (2, .int x2), (3, .int x3), (4, .int x4_16), (5, .int x5_22)] dX12_findSoon_61 (Nat.le_of_ble_eq_true rfl) rfl ?_
                replace hf := zb1_s hf
                obtain ⟨m34, hg, hf⟩ := hf
                have hj35 : zz K cX12_findSoon (9, RX12, none, 1, 0, 0, none, mo) 0 0 162 [(0, .ref x0), (2, .int x2), (3, .int x3), (4, .int x4_16), (5, .int x5_22)] [] m34 := by
                  refine zr_iinc (j := 4) (x5_22 + 1) [(5, .int (x5_22 + 1)), (0, .ref x0), (2, .int x2), (3, .int x3), (4, .int x4_16)] dX12_findSoon_162 rfl rfl (Nat.le_of_ble_eq_true rfl) rfl ?_
                  refine zr_goto 51 dX12_findSoon_165 (by decide) ?_
                  exact zr_lv [1, 2, 3, 4, 0] rfl (ih25 (x5_22 + 1) m34 hf)
                clear hf
                have hf := hg
                clear hg
                have hL65 : ∀ (n : Nat) (x6_30 : Int32) (m31 : zM), zf2 (fX12_findSoon_l63xxx x0 x5_22 x2 x3) n x6_30 m31 = some m34 → zz K cX12_findSoon (9, RX12, none, 1, 0, 0, none, mo) 0 0 63 [(0, .ref x0), (2, .int x2), (3, .int x3), (4, .int x4_16), (5, .int x5_22), (6, .int x6_30)] [] m31 := by
                  intro n
                  induction n with
                  | zero => intro x6_30 m31 hf; cases hf
                  | succ n ih33 =>
                    intro x6_30 m31 hf
                    replace hf := zf2_s hf
                    generalize zf2 (fX12_findSoon_l63xxx x0 x5_22 x2 x3) n = F32 at hf ih33
                    unfold fX12_findSoon_l63xxx at hf
                    refine zr_iload 5 dX12_findSoon_63 rfl ?_
                    refine zr_aload_n 0 dX12_findSoon_65 rfl ?_
                    replace hf := zb1_s hf
                    obtain ⟨v36, h37, hf⟩ := hf
                    refine zr_get (zm_gI_g h37) zk12 (by decide) zl_921 dX12_findSoon_66 ?_
                    refine zr_icmp_ge 162 dX12_findSoon_69 (by decide) (fun hc => ?_) (fun hc => ?_)
                    · rw [if_pos hc] at hf
                      cases hf
                      exact zr_lv [0, 1, 2, 3, 4] rfl hj35
                    · rw [if_neg hc] at hf
                      refine zr_aload_n 0 dX12_findSoon_72 rfl ?_
                      refine zr_bipush 33 dX12_findSoon_73 (by decide) ?_
                      refine zr_iload 4 dX12_findSoon_75 rfl ?_
                      refine zr_iadd dX12_findSoon_77 ?_
                      replace hf := zb1_s hf
                      obtain ⟨v39, h38, hf⟩ := hf
                      refine zr_callV (ci := 12) [.int (33 + x5_22)] (cX12_of_ok h38) zvs_X12_of zl_918 zl_919 (fX12_of_ck h38) rfl rfl zl_917 rfl (Nat.le_of_ble_eq_true rfl) (Nat.le_of_ble_eq_true rfl) (Nat.le_of_ble_eq_true rfl) (Nat.le_of_ble_eq_true rfl) dX12_findSoon_78 rfl ?_
                      refine zr_aload_n 0 dX12_findSoon_81 rfl ?_
                      refine zr_bipush 33 dX12_findSoon_82 (by decide) ?_
                      refine zr_iload 5 dX12_findSoon_84 rfl ?_
                      refine zr_iadd dX12_findSoon_86 ?_
                      replace hf := zb1_s hf
                      obtain ⟨v41, h40, hf⟩ := hf
                      refine zr_callV (ci := 12) [.int (33 + x6_30)] (cX12_of_ok h40) zvs_X12_of zl_918 zl_919 (fX12_of_ck h40) rfl rfl zl_917 rfl (Nat.le_of_ble_eq_true rfl) (Nat.le_of_ble_eq_true rfl) (Nat.le_of_ble_eq_true rfl) (Nat.le_of_ble_eq_true rfl) dX12_findSoon_87 rfl ?_
                      replace hf := zb1_s hf
                      obtain ⟨v43, h42, hf⟩ := hf
                      refine zr_callS [.int v39, .int v41] (cX12_apart_ok h42) zvs_X12_apart zl_928 zl_927 rfl (Nat.le_of_ble_eq_true rfl) (Nat.le_of_ble_eq_true rfl) (Nat.le_of_ble_eq_true rfl) (Nat.le_of_ble_eq_true rfl) dX12_findSoon_90 rfl ?_
                      refine zr_istore [(7, .int v43), (0, .ref x0), (2, .int x2), (3, .int x3), (4, .int x4_16), (5, .int x5_22), (6, .int x6_30)] dX12_findSoon_93 (Nat.le_of_ble_eq_true rfl) rfl ?_
                      refine zr_iload 0 dX12_findSoon_95 rfl ?_
                      refine zr_iload_n 2 dX12_findSoon_97 rfl ?_
                      replace hf := zb1_s hf
                      obtain ⟨v45, h44, hf⟩ := hf
                      refine zr_callS [.int x2] (cX12_range_ok h44) zvs_X12_range zl_943 zl_942 rfl (Nat.le_of_ble_eq_true rfl) (Nat.le_of_ble_eq_true rfl) (Nat.le_of_ble_eq_true rfl) (Nat.le_of_ble_eq_true rfl) dX12_findSoon_98 rfl ?_
                      replace hf := zb1_s hf
                      obtain ⟨s46, hg, hf⟩ := hf
                      have hj47 : zz K cX12_findSoon (9, RX12, none, 1, 0, 0, none, mo) 0 0 135 [(0, .ref x0), (2, .int x2), (3, .int x3), (4, .int x4_16), (5, .int x5_22), (6, .int x6_30)] [.int s46] m31 := by
                        refine zr_istore [(8, .int s46), (0, .ref x0), (2, .int x2), (3, .int x3), (4, .int x4_16), (5, .int x5_22), (6, .int x6_30)] dX12_findSoon_135 (Nat.le_of_ble_eq_true rfl) rfl ?_
                        refine zr_aload_n 1 dX12_findSoon_137 rfl ?_
                        replace hf := zb1_s hf
                        obtain ⟨v49, h50, hf⟩ := hf
                        refine zr_get (zm_gR_g h50) zk12 (by decide) zl_776 dX12_findSoon_138 ?_
                        refine zr_iload 6 dX12_findSoon_141 rfl ?_
                        refine zr_aload_n 1 dX12_findSoon_143 rfl ?_
                        replace hf := zb1_s hf
                        obtain ⟨v51, h52, hf⟩ := hf
                        refine zr_get (zm_gR_g h52) zk12 (by decide) zl_776 dX12_findSoon_144 ?_
                        refine zr_iload 6 dX12_findSoon_147 rfl ?_
                        replace hf := zb1_s hf
                        obtain ⟨v53, h54, hf⟩ := hf
                        refine zr_iald h54 dX12_findSoon_149 ?_
                        refine zr_iload 0 dX12_findSoon_150 rfl ?_
                        replace hf := zb1_s hf
                        obtain ⟨v56, h55, hf⟩ := hf
                        refine zr_callS [.int v53, .int s46] (cX12_lesser_ok h55) zvs_X12_lesser zl_1056 zl_1055 rfl (Nat.le_of_ble_eq_true rfl) (Nat.le_of_ble_eq_true rfl) (Nat.le_of_ble_eq_true rfl) (Nat.le_of_ble_eq_true rfl) dX12_findSoon_152 rfl ?_
                        replace hf := zb1_s hf
                        obtain ⟨m57, h58, hf⟩ := hf
                        refine zr_iast h58 dX12_findSoon_155 ?_
                        refine zr_iinc (j := 6) (x6_30 + 1) [(6, .int (x6_30 + 1)), (8, .int s46), (0, .ref x0), (2, .int x2), (3, .int x3), (4, .int x4_16), (5, .int x5_22)] dX12_findSoon_156 rfl rfl (Nat.le_of_ble_eq_true rfl) rfl ?_
                        refine zr_goto 63 dX12_findSoon_159 (by decide) ?_
                        exact zr_lv [2, 3, 4, 5, 6, 0] rfl (ih33 (x6_30 + 1) m57 hf)
                      clear hf
                      have hf := hg
                      clear hg
                      have hb48 : ∀ (_ : Unit), fX12_findSoon_b132xxxxxxx = some s46 → zz K cX12_findSoon (9, RX12, none, 1, 0, 0, none, mo) 0 0 132 [(0, .ref x0), (2, .int x2), (3, .int x3), (4, .int x4_16), (5, .int x5_22), (6, .int x6_30)] [] m31 := by
                        intro _ hf
                        unfold fX12_findSoon_b132xxxxxxx at hf
                        refine zr_ldcw zl_1076 dX12_findSoon_132 ?_
                        cases hf
                        exact zr_lv [0, 1, 2, 3, 4, 5] rfl hj47
                      refine zr_icmp_gt 132 dX12_findSoon_101 (by decide) (fun hc => ?_) (fun hc => ?_)
                      · rw [if_pos hc] at hf
                        exact zr_lv [1, 2, 3, 4, 5, 6] rfl (hb48 () hf)
                      · rw [if_neg hc] at hf
                        refine zr_iload 5 dX12_findSoon_104 rfl ?_
                        refine zr_iload 6 dX12_findSoon_106 rfl ?_
                        refine zr_icmp_eq 132 dX12_findSoon_108 (by decide) (fun hc => ?_) (fun hc => ?_)
                        · rw [if_pos hc] at hf
                          exact zr_lv [1, 2, 3, 4, 5, 6] rfl (hb48 () hf)
                        · rw [if_neg hc] at hf
                          refine zr_aload_n 1 dX12_findSoon_111 rfl ?_
                          replace hf := zb1_s hf
                          obtain ⟨v59, h60, hf⟩ := hf
                          refine zr_get (zm_gR_g h60) zk12 (by decide) zl_776 dX12_findSoon_112 ?_
                          refine zr_iload 5 dX12_findSoon_115 rfl ?_
                          replace hf := zb1_s hf
                          obtain ⟨v61, h62, hf⟩ := hf
                          refine zr_iald h62 dX12_findSoon_117 ?_
                          refine zr_iload_n 3 dX12_findSoon_118 rfl ?_
                          replace hf := zb1_s hf
                          obtain ⟨s63, hg, hf⟩ := hf
                          have hj64 : zz K cX12_findSoon (9, RX12, none, 1, 0, 0, none, mo) 0 0 128 [(0, .ref x0), (2, .int x2), (3, .int x3), (4, .int x4_16), (5, .int x5_22), (6, .int x6_30)] [.int s63, .int v61] m31 := by
                            refine zr_iadd dX12_findSoon_128 ?_
                            refine zr_goto 135 dX12_findSoon_129 (by decide) ?_
                            cases hf
                            exact zr_lv [0, 1, 2, 3, 4, 5] rfl hj47
                          clear hf
                          have hf := hg
                          clear hg
                          refine zr_if_eq 126 dX12_findSoon_119 (by decide) (fun hc => ?_) (fun hc => ?_)
                          · rw [if_pos hc] at hf
                            refine zr_iload 0 dX12_findSoon_126 rfl ?_
                            cases hf
                            exact zr_lv [1, 2, 3, 4, 5, 6] rfl hj64
                          · rw [if_neg hc] at hf
                            refine zr_iconst 1 dX12_findSoon_122 (by decide) ?_
                            refine zr_goto 128 dX12_findSoon_123 (by decide) ?_
                            cases hf
                            exact zr_lv [1, 2, 3, 4, 5, 6] rfl hj64
                exact zr_lv [1, 2, 3, 4, 5, 0] rfl (hL65 _ 0 m23 hf)
          exact zr_lv [1, 2, 3, 4, 0] rfl (hL66 _ 0 m17 hf)
    exact zr_lv [1, 2, 3, 0] rfl (hL67 _ 0 m5 hf)
  clear hf
  have hf := hg
  clear hg
  have hL15 : ∀ (n : Nat) (x4_1 : Int32) (m2 : zM), zf2 (fX12_findSoon_l3 x0 x1) n x4_1 m2 = some m5 → zz K cX12_findSoon (9, RX12, none, 1, 0, 0, none, mo) 0 0 3 [(0, .ref x0), (1, .int x1), (2, .int x2), (3, .int x3), (4, .int x4_1)] [] m2 := by
    intro n
    induction n with
    | zero => intro x4_1 m2 hf; cases hf
    | succ n ih4 =>
      intro x4_1 m2 hf
      replace hf := zf2_s hf
      generalize zf2 (fX12_findSoon_l3 x0 x1) n = F3 at hf ih4
      unfold fX12_findSoon_l3 at hf
      refine zr_iload 4 dX12_findSoon_3 rfl ?_
      refine zr_aload_n 0 dX12_findSoon_5 rfl ?_
      replace hf := zb1_s hf
      obtain ⟨v7, h8, hf⟩ := hf
      refine zr_get (zm_gI_g h8) zk12 (by decide) zl_921 dX12_findSoon_6 ?_
      refine zr_icmp_ge 38 dX12_findSoon_9 (by decide) (fun hc => ?_) (fun hc => ?_)
      · rw [if_pos hc] at hf
        cases hf
        exact zr_lv [0, 2, 3] rfl hj6
      · rw [if_neg hc] at hf
        refine zr_aload_n 0 dX12_findSoon_12 rfl ?_
        replace hf := zb1_s hf
        obtain ⟨v9, h10, hf⟩ := hf
        refine zr_get (zm_gR_g h10) zk12 (by decide) zl_776 dX12_findSoon_13 ?_
        refine zr_iload 4 dX12_findSoon_16 rfl ?_
        refine zr_iload 4 dX12_findSoon_18 rfl ?_
        refine zr_iload_n 1 dX12_findSoon_20 rfl ?_
        replace hf := zb1_s hf
        obtain ⟨s11, hg, hf⟩ := hf
        have hj12 : zz K cX12_findSoon (9, RX12, none, 1, 0, 0, none, mo) 0 0 31 [(0, .ref x0), (1, .int x1), (2, .int x2), (3, .int x3), (4, .int x4_1)] [.int s11, .int x4_1, .ref v9] m2 := by
          replace hf := zb1_s hf
          obtain ⟨m13, h14, hf⟩ := hf
          refine zr_iast h14 dX12_findSoon_31 ?_
          refine zr_iinc (j := 4) (x4_1 + 1) [(4, .int (x4_1 + 1)), (0, .ref x0), (1, .int x1), (2, .int x2), (3, .int x3)] dX12_findSoon_32 rfl rfl (Nat.le_of_ble_eq_true rfl) rfl ?_
          refine zr_goto 3 dX12_findSoon_35 (by decide) ?_
          exact zr_lv [1, 2, 3, 4, 0] rfl (ih4 (x4_1 + 1) m13 hf)
        clear hf
        have hf := hg
        clear hg
        refine zr_icmp_ne 28 dX12_findSoon_21 (by decide) (fun hc => ?_) (fun hc => ?_)
        · rw [if_neg hc] at hf
          refine zr_ldcw zl_1076 dX12_findSoon_28 ?_
          cases hf
          exact zr_lv [0, 1, 2, 3, 4] rfl hj12
        · rw [if_pos hc] at hf
          refine zr_iconst 0 dX12_findSoon_24 (by decide) ?_
          refine zr_goto 31 dX12_findSoon_25 (by decide) ?_
          cases hf
          exact zr_lv [0, 1, 2, 3, 4] rfl hj12
  exact zr_lv [1, 2, 3, 4, 0] rfl (hL15 _ 0 μ hf)
theorem zl_1162 : Cond.code yX12_findSoon cX12_findSoon 9 (none) ∈ zt := zt_at 1962 (by decide +kernel)
theorem zvs_X12_findSoon : zvS yX12_findSoon cX12_findSoon 9 (none) 3 := ⟨zl_1162, zl_782, ⟨by decide +kernel, by decide +kernel, by decide +kernel⟩, by decide⟩
theorem zl_1163 : Cond.methodLink RX12 498 yX12_findSoon ∈ zt := zt_at 1959 (by decide +kernel)
theorem zl_1164 : Cond.instanceMethod yX12_findSoon ∈ zt := zt_at 1961 (by decide +kernel)
theorem zl_1165 : Cond.selects RX12 yX12_findSoon yX12_findSoon ∈ zt := zt_at 120 (by decide +kernel)
theorem dX12_spread_0 : decode cX12_spread 0 = .ok (.aload_n 0, 1) := by decide +kernel
theorem dX12_spread_1 : decode cX12_spread 1 = .ok (.iconst 0, 1) := by decide +kernel
theorem dX12_spread_2 : decode cX12_spread 2 = .ok (.putfield 93, 3) := by decide +kernel
theorem dX12_spread_5 : decode cX12_spread 5 = .ok (.aload_n 0, 1) := by decide +kernel
theorem dX12_spread_6 : decode cX12_spread 6 = .ok (.iload_n 1, 1) := by decide +kernel
theorem dX12_spread_7 : decode cX12_spread 7 = .ok (.invokevirtual 298, 3) := by decide +kernel
theorem dX12_spread_10 : decode cX12_spread 10 = .ok (.ifCond .eq 20, 3) := by decide +kernel
theorem dX12_spread_13 : decode cX12_spread 13 = .ok (.aload_n 0, 1) := by decide +kernel
theorem dX12_spread_14 : decode cX12_spread 14 = .ok (.iload_n 2, 1) := by decide +kernel
theorem dX12_spread_15 : decode cX12_spread 15 = .ok (.invokevirtual 301, 3) := by decide +kernel
theorem dX12_spread_18 : decode cX12_spread 18 = .ok (.ifCond .eq 12, 3) := by decide +kernel
theorem dX12_spread_21 : decode cX12_spread 21 = .ok (.iload_n 3, 1) := by decide +kernel
theorem dX12_spread_22 : decode cX12_spread 22 = .ok (.iconst 0, 1) := by decide +kernel
theorem dX12_spread_23 : decode cX12_spread 23 = .ok (.iconst 2, 1) := by decide +kernel
theorem dX12_spread_24 : decode cX12_spread 24 = .ok (.invokestatic 101, 3) := by decide +kernel
theorem dX12_spread_27 : decode cX12_spread 27 = .ok (.ifCond .ne 5, 3) := by decide +kernel
theorem dX12_spread_30 : decode cX12_spread 30 = .ok (.iconst (-1), 1) := by decide +kernel
theorem dX12_spread_31 : decode cX12_spread 31 = .ok (.ireturn, 1) := by decide +kernel
theorem dX12_spread_32 : decode cX12_spread 32 = .ok (.aload_n 0, 1) := by decide +kernel
theorem dX12_spread_33 : decode cX12_spread 33 = .ok (.iload_n 2, 1) := by decide +kernel
theorem dX12_spread_34 : decode cX12_spread 34 = .ok (.iload_n 3, 1) := by decide +kernel
theorem dX12_spread_35 : decode cX12_spread 35 = .ok (.iconst 0, 1) := by decide +kernel
theorem dX12_spread_36 : decode cX12_spread 36 = .ok (.invokevirtual 498, 3) := by decide +kernel
theorem dX12_spread_39 : decode cX12_spread 39 = .ok (.iconst 0, 1) := by decide +kernel
theorem dX12_spread_40 : decode cX12_spread 40 = .ok (.istore 5, 2) := by decide +kernel
theorem dX12_spread_42 : decode cX12_spread 42 = .ok (.iconst 0, 1) := by decide +kernel
theorem dX12_spread_43 : decode cX12_spread 43 = .ok (.istore 6, 2) := by decide +kernel
theorem dX12_spread_45 : decode cX12_spread 45 = .ok (.iconst 0, 1) := by decide +kernel
theorem dX12_spread_46 : decode cX12_spread 46 = .ok (.istore 7, 2) := by decide +kernel
theorem dX12_spread_48 : decode cX12_spread 48 = .ok (.iload 7, 2) := by decide +kernel
theorem dX12_spread_50 : decode cX12_spread 50 = .ok (.aload_n 0, 1) := by decide +kernel
theorem dX12_spread_51 : decode cX12_spread 51 = .ok (.getfield 276, 3) := by decide +kernel
theorem dX12_spread_54 : decode cX12_spread 54 = .ok (.if_icmp .ge 64, 3) := by decide +kernel
theorem dX12_spread_57 : decode cX12_spread 57 = .ok (.iload 5, 2) := by decide +kernel
theorem dX12_spread_59 : decode cX12_spread 59 = .ok (.aload_n 0, 1) := by decide +kernel
theorem dX12_spread_60 : decode cX12_spread 60 = .ok (.getfield 80, 3) := by decide +kernel
theorem dX12_spread_63 : decode cX12_spread 63 = .ok (.iload 7, 2) := by decide +kernel
theorem dX12_spread_65 : decode cX12_spread 65 = .ok (.iaload, 1) := by decide +kernel
theorem dX12_spread_66 : decode cX12_spread 66 = .ok (.ldc_w 423, 3) := by decide +kernel
theorem dX12_spread_69 : decode cX12_spread 69 = .ok (.if_icmp .ge 7, 3) := by decide +kernel
theorem dX12_spread_72 : decode cX12_spread 72 = .ok (.iconst 1, 1) := by decide +kernel
theorem dX12_spread_73 : decode cX12_spread 73 = .ok (.goto 4, 3) := by decide +kernel
theorem dX12_spread_76 : decode cX12_spread 76 = .ok (.iconst 0, 1) := by decide +kernel
theorem dX12_spread_77 : decode cX12_spread 77 = .ok (.iadd, 1) := by decide +kernel
theorem dX12_spread_78 : decode cX12_spread 78 = .ok (.istore 5, 2) := by decide +kernel
theorem dX12_spread_80 : decode cX12_spread 80 = .ok (.aload_n 0, 1) := by decide +kernel
theorem dX12_spread_81 : decode cX12_spread 81 = .ok (.getfield 80, 3) := by decide +kernel
theorem dX12_spread_84 : decode cX12_spread 84 = .ok (.iload 7, 2) := by decide +kernel
theorem dX12_spread_86 : decode cX12_spread 86 = .ok (.iaload, 1) := by decide +kernel
theorem dX12_spread_87 : decode cX12_spread 87 = .ok (.ldc_w 423, 3) := by decide +kernel
theorem dX12_spread_90 : decode cX12_spread 90 = .ok (.if_icmp .ge 18, 3) := by decide +kernel
theorem dX12_spread_93 : decode cX12_spread 93 = .ok (.iload 6, 2) := by decide +kernel
theorem dX12_spread_95 : decode cX12_spread 95 = .ok (.aload_n 0, 1) := by decide +kernel
theorem dX12_spread_96 : decode cX12_spread 96 = .ok (.getfield 80, 3) := by decide +kernel
theorem dX12_spread_99 : decode cX12_spread 99 = .ok (.iload 7, 2) := by decide +kernel
theorem dX12_spread_101 : decode cX12_spread 101 = .ok (.iaload, 1) := by decide +kernel
theorem dX12_spread_102 : decode cX12_spread 102 = .ok (.invokestatic 168, 3) := by decide +kernel
theorem dX12_spread_105 : decode cX12_spread 105 = .ok (.goto 5, 3) := by decide +kernel
theorem dX12_spread_108 : decode cX12_spread 108 = .ok (.iload 6, 2) := by decide +kernel
theorem dX12_spread_110 : decode cX12_spread 110 = .ok (.istore 6, 2) := by decide +kernel
theorem dX12_spread_112 : decode cX12_spread 112 = .ok (.iinc 7 1, 3) := by decide +kernel
theorem dX12_spread_115 : decode cX12_spread 115 = .ok (.goto (-67), 3) := by decide +kernel
theorem dX12_spread_118 : decode cX12_spread 118 = .ok (.iload 4, 2) := by decide +kernel
theorem dX12_spread_120 : decode cX12_spread 120 = .ok (.ifCond .eq 8, 3) := by decide +kernel
theorem dX12_spread_123 : decode cX12_spread 123 = .ok (.iload 6, 2) := by decide +kernel
theorem dX12_spread_125 : decode cX12_spread 125 = .ok (.goto 5, 3) := by decide +kernel
theorem dX12_spread_128 : decode cX12_spread 128 = .ok (.iload 5, 2) := by decide +kernel
theorem dX12_spread_130 : decode cX12_spread 130 = .ok (.ireturn, 1) := by decide +kernel
def fX12_spread_l48 (m11 : zM) (x0 : Nat) (F15 : Int32 → Int32 → Int32 → Option (Int32 × Int32)) (x5_12 : Int32) (x6_13 : Int32) (x7_14 : Int32) : Option (Int32 × Int32) :=
  zb1 (zm_gI m11 12 x0 25) fun v20 =>
  if v20 ≤ x7_14 then (
  some (x5_12, x6_13))
  else (
  zb1 (zm_gR m11 12 x0 50) fun v22 =>
  zb1 (zm_aI m11 0 v22 x7_14) fun v24 =>
  zb1 (if 1000000 ≤ v24 then (
  some 0)
  else (
  some 1)) fun s26 =>
  zb1 (zm_gR m11 12 x0 50) fun v28 =>
  zb1 (zm_aI m11 0 v28 x7_14) fun v30 =>
  zb1 (if 1000000 ≤ v30 then (
  some x6_13)
  else (
  zb1 (zm_gR m11 12 x0 50) fun v34 =>
  zb1 (zm_aI m11 0 v34 x7_14) fun v36 =>
  zb1 (fX12_greater m11 x6_13 v36) fun v39 =>
  some v39)) fun s32 =>
  F15 (x5_12 + s26) s32 (x7_14 + 1))
def fX12_spread (μ : zM) (x0 : Nat) (x1 : Int32) (x2 : Int32) (x3 : Int32) (x4 : Int32) : Option (Int32 × zM) := zgd (zm_ck μ 12 x0) <|
  zb1 (zm_p μ 12 x0 0 (.int 0)) fun m1 =>
  zb2 (fX12_hand m1 x0 x1) fun v5 m4 =>
  if v5 = 0 then (
  some ((-1), m4))
  else (
  zb1 (fX12_isPerson m4 x0 x2) fun v7 =>
  if v7 = 0 then (
  some ((-1), m4))
  else (
  zb1 (fX12_in m4 x3 0 2) fun v9 =>
  if v9 = 0 then (
  some ((-1), m4))
  else (
  zb1 (fX12_findSoon m4 x0 x2 x3 0) fun m11 =>
  zb2 (zf3 (fX12_spread_l48 m11 x0) zfu 0 0 0) fun x5_17 x6_18 =>
  zb1 (if x4 = 0 then (
  some x5_17)
  else (
  some x6_18)) fun s41 =>
  some (s41, m11))))
theorem fX12_spread_ck {μ : zM} {x0 : Nat} {x1 : Int32} {x2 : Int32} {x3 : Int32} {x4 : Int32} {z : Int32 × zM} (h : fX12_spread μ x0 x1 x2 x3 x4 = some z) : zm_ck μ 12 x0 = true := (zgd_s h).1
set_option maxHeartbeats 4000000 in
set_option maxRecDepth 100000 in
theorem cX12_spread_ok {μ : zM} {x0 : Nat} {x1 : Int32} {x2 : Int32} {x3 : Int32} {x4 : Int32} {r : Int32} {mo : zM} (hf : fX12_spread μ x0 x1 x2 x3 x4 = some (r, mo)) : zC yX12_spread cX12_spread 8 (some .int) 3 0 0 [.ref x0, .int x1, .int x2, .int x3, .int x4] μ (some (.int r)) mo := by
  replace hf := (zgd_s hf).2
  refine zC.of (by decide) (Nat.le_of_ble_eq_true rfl) (fun K hin => ?_)
  clear hin
  show zz K cX12_spread (8, RX12, some .int, 3, 0, 0, some (.int r), mo) 0 0 0 [(0, .ref x0), (1, .int x1), (2, .int x2), (3, .int x3), (4, .int x4)] [] μ
  refine zr_aload_n 0 dX12_spread_0 rfl ?_
  refine zr_iconst 0 dX12_spread_1 (by decide) ?_
  replace hf := zb1_s hf
  obtain ⟨m1, h2, hf⟩ := hf
  refine zr_put h2 zk12 (by decide) zl_788 rfl rfl rfl dX12_spread_2 ?_
  refine zr_aload_n 0 dX12_spread_5 rfl ?_
  refine zr_iload_n 1 dX12_spread_6 rfl ?_
  replace hf := zb2_s hf
  obtain ⟨v5, m4, h3, hf⟩ := hf
  refine zr_callV (ci := 12) [.int x1] (cX12_hand_ok h3) zvs_X12_hand zl_946 zl_947 (fX12_hand_ck h3) rfl rfl zl_945 rfl (Nat.le_of_ble_eq_true rfl) (Nat.le_of_ble_eq_true rfl) (Nat.le_of_ble_eq_true rfl) (Nat.le_of_ble_eq_true rfl) dX12_spread_7 rfl ?_
  refine zr_if_eq 30 dX12_spread_10 (by decide) (fun hc => ?_) (fun hc => ?_)
  · rw [if_pos hc] at hf
    refine zr_iconst (-1) dX12_spread_30 (by decide) ?_
    cases hf
    exact zr_iret dX12_spread_31
  · rw [if_neg hc] at hf
    refine zr_aload_n 0 dX12_spread_13 rfl ?_
    refine zr_iload_n 2 dX12_spread_14 rfl ?_
    replace hf := zb1_s hf
    obtain ⟨v7, h6, hf⟩ := hf
    refine zr_callV (ci := 12) [.int x2] (cX12_isPerson_ok h6) zvs_X12_isPerson zl_950 zl_951 (fX12_isPerson_ck h6) rfl rfl zl_949 rfl (Nat.le_of_ble_eq_true rfl) (Nat.le_of_ble_eq_true rfl) (Nat.le_of_ble_eq_true rfl) (Nat.le_of_ble_eq_true rfl) dX12_spread_15 rfl ?_
    refine zr_if_eq 30 dX12_spread_18 (by decide) (fun hc => ?_) (fun hc => ?_)
    · rw [if_pos hc] at hf
      refine zr_iconst (-1) dX12_spread_30 (by decide) ?_
      cases hf
      exact zr_iret dX12_spread_31
    · rw [if_neg hc] at hf
      refine zr_iload_n 3 dX12_spread_21 rfl ?_
      refine zr_iconst 0 dX12_spread_22 (by decide) ?_
      refine zr_iconst 2 dX12_spread_23 (by decide) ?_
      replace hf := zb1_s hf
      obtain ⟨v9, h8, hf⟩ := hf
      refine zr_callS [.int x3, .int 0, .int 2] (cX12_in_ok h8) zvs_X12_in zl_787 zl_786 rfl (Nat.le_of_ble_eq_true rfl) (Nat.le_of_ble_eq_true rfl) (Nat.le_of_ble_eq_true rfl) (Nat.le_of_ble_eq_true rfl) dX12_spread_24 rfl ?_
      refine zr_if_ne 32 dX12_spread_27 (by decide) (fun hc => ?_) (fun hc => ?_)
      · rw [if_neg hc] at hf
        refine zr_aload_n 0 dX12_spread_32 rfl ?_
        refine zr_iload_n 2 dX12_spread_33 rfl ?_
        refine zr_iload_n 3 dX12_spread_34 rfl ?_
        refine zr_iconst 0 dX12_spread_35 (by decide) ?_
        replace hf := zb1_s hf
        obtain ⟨m11, h10, hf⟩ := hf
        refine zr_callV (ci := 12) [.int x2, .int x3, .int 0] (cX12_findSoon_ok h10) zvs_X12_findSoon zl_1164 zl_1165 (fX12_findSoon_ck h10) rfl rfl zl_1163 rfl (Nat.le_of_ble_eq_true rfl) (Nat.le_of_ble_eq_true rfl) (Nat.le_of_ble_eq_true rfl) (Nat.le_of_ble_eq_true rfl) dX12_spread_36 rfl ?_
        refine zr_iconst 0 dX12_spread_39 (by decide) ?_
        refine zr_istore [(5, .int 0), (0, .ref x0), (1, .int x1), (2, .int x2), (3, .int x3), (4, .int x4)] dX12_spread_40 (Nat.le_of_ble_eq_true rfl) rfl ?_
        refine zr_iconst 0 dX12_spread_42 (by decide) ?_
        refine zr_istore [(6, .int 0), (5, .int 0), (0, .ref x0), (1, .int x1), (2, .int x2), (3, .int x3), (4, .int x4)] dX12_spread_43 (Nat.le_of_ble_eq_true rfl) rfl ?_
        refine zr_iconst 0 dX12_spread_45 (by decide) ?_
        refine zr_istore [(7, .int 0), (6, .int 0), (5, .int 0), (0, .ref x0), (1, .int x1), (2, .int x2), (3, .int x3), (4, .int x4)] dX12_spread_46 (Nat.le_of_ble_eq_true rfl) rfl ?_
        replace hf := zb2_s hf
        obtain ⟨x5_17, x6_18, hg, hf⟩ := hf
        have hj19 : zz K cX12_spread (8, RX12, some .int, 3, 0, 0, some (.int r), mo) 0 0 118 [(4, .int x4), (5, .int x5_17), (6, .int x6_18)] [] m11 := by
          refine zr_iload 0 dX12_spread_118 rfl ?_
          replace hf := zb1_s hf
          obtain ⟨s41, hg, hf⟩ := hf
          have hj42 : zz K cX12_spread (8, RX12, some .int, 3, 0, 0, some (.int r), mo) 0 0 130 [] [.int s41] m11 := by
            cases hf
            exact zr_iret dX12_spread_130
          clear hf
          have hf := hg
          clear hg
          refine zr_if_eq 128 dX12_spread_120 (by decide) (fun hc => ?_) (fun hc => ?_)
          · rw [if_pos hc] at hf
            refine zr_iload 1 dX12_spread_128 rfl ?_
            cases hf
            exact zr_lv [] rfl hj42
          · rw [if_neg hc] at hf
            refine zr_iload 2 dX12_spread_123 rfl ?_
            refine zr_goto 130 dX12_spread_125 (by decide) ?_
            cases hf
            exact zr_lv [] rfl hj42
        clear hf
        have hf := hg
        clear hg
        have hL40 : ∀ (n : Nat) (x5_12 : Int32) (x6_13 : Int32) (x7_14 : Int32), zf3 (fX12_spread_l48 m11 x0) n x5_12 x6_13 x7_14 = some (x5_17, x6_18) → zz K cX12_spread (8, RX12, some .int, 3, 0, 0, some (.int r), mo) 0 0 48 [(0, .ref x0), (4, .int x4), (5, .int x5_12), (6, .int x6_13), (7, .int x7_14)] [] m11 := by
          intro n
          induction n with
          | zero => intro x5_12 x6_13 x7_14 hf; cases hf
          | succ n ih16 =>
            intro x5_12 x6_13 x7_14 hf
            replace hf := zf3_s hf
            generalize zf3 (fX12_spread_l48 m11 x0) n = F15 at hf ih16
            unfold fX12_spread_l48 at hf
            refine zr_iload 4 dX12_spread_48 rfl ?_
            refine zr_aload_n 0 dX12_spread_50 rfl ?_
            replace hf := zb1_s hf
            obtain ⟨v20, h21, hf⟩ := hf
            refine zr_get (zm_gI_g h21) zk12 (by decide) zl_921 dX12_spread_51 ?_
            refine zr_icmp_ge 118 dX12_spread_54 (by decide) (fun hc => ?_) (fun hc => ?_)
            · rw [if_pos hc] at hf
              cases hf
              exact zr_lv [1, 2, 3] rfl hj19
            · rw [if_neg hc] at hf
              refine zr_iload 2 dX12_spread_57 rfl ?_
              refine zr_aload_n 0 dX12_spread_59 rfl ?_
              replace hf := zb1_s hf
              obtain ⟨v22, h23, hf⟩ := hf
              refine zr_get (zm_gR_g h23) zk12 (by decide) zl_776 dX12_spread_60 ?_
              refine zr_iload 4 dX12_spread_63 rfl ?_
              replace hf := zb1_s hf
              obtain ⟨v24, h25, hf⟩ := hf
              refine zr_iald h25 dX12_spread_65 ?_
              refine zr_ldcw zl_1076 dX12_spread_66 ?_
              replace hf := zb1_s hf
              obtain ⟨s26, hg, hf⟩ := hf
              have hj27 : zz K cX12_spread (8, RX12, some .int, 3, 0, 0, some (.int r), mo) 0 0 77 [(0, .ref x0), (4, .int x4), (6, .int x6_13), (7, .int x7_14)] [.int s26, .int x5_12] m11 := by
                refine zr_iadd dX12_spread_77 ?_
                refine zr_istore [(5, .int (x5_12 + s26)), (0, .ref x0), (4, .int x4), (6, .int x6_13), (7, .int x7_14)] dX12_spread_78 (Nat.le_of_ble_eq_true rfl) rfl ?_
                refine zr_aload_n 1 dX12_spread_80 rfl ?_
                replace hf := zb1_s hf
                obtain ⟨v28, h29, hf⟩ := hf
                refine zr_get (zm_gR_g h29) zk12 (by decide) zl_776 dX12_spread_81 ?_
                refine zr_iload 4 dX12_spread_84 rfl ?_
                replace hf := zb1_s hf
                obtain ⟨v30, h31, hf⟩ := hf
                refine zr_iald h31 dX12_spread_86 ?_
                refine zr_ldcw zl_1076 dX12_spread_87 ?_
                replace hf := zb1_s hf
                obtain ⟨s32, hg, hf⟩ := hf
                have hj33 : zz K cX12_spread (8, RX12, some .int, 3, 0, 0, some (.int r), mo) 0 0 110 [(0, .ref x0), (4, .int x4), (5, .int (x5_12 + s26)), (7, .int x7_14)] [.int s32] m11 := by
                  refine zr_istore [(6, .int s32), (0, .ref x0), (4, .int x4), (5, .int (x5_12 + s26)), (7, .int x7_14)] dX12_spread_110 (Nat.le_of_ble_eq_true rfl) rfl ?_
                  refine zr_iinc (j := 4) (x7_14 + 1) [(7, .int (x7_14 + 1)), (6, .int s32), (0, .ref x0), (4, .int x4), (5, .int (x5_12 + s26))] dX12_spread_112 rfl rfl (Nat.le_of_ble_eq_true rfl) rfl ?_
                  refine zr_goto 48 dX12_spread_115 (by decide) ?_
                  exact zr_lv [2, 3, 4, 1, 0] rfl (ih16 (x5_12 + s26) s32 (x7_14 + 1) hf)
                clear hf
                have hf := hg
                clear hg
                refine zr_icmp_ge 108 dX12_spread_90 (by decide) (fun hc => ?_) (fun hc => ?_)
                · rw [if_pos hc] at hf
                  refine zr_iload 3 dX12_spread_108 rfl ?_
                  cases hf
                  exact zr_lv [1, 2, 0, 4] rfl hj33
                · rw [if_neg hc] at hf
                  refine zr_iload 3 dX12_spread_93 rfl ?_
                  refine zr_aload_n 1 dX12_spread_95 rfl ?_
                  replace hf := zb1_s hf
                  obtain ⟨v34, h35, hf⟩ := hf
                  refine zr_get (zm_gR_g h35) zk12 (by decide) zl_776 dX12_spread_96 ?_
                  refine zr_iload 4 dX12_spread_99 rfl ?_
                  replace hf := zb1_s hf
                  obtain ⟨v36, h37, hf⟩ := hf
                  refine zr_iald h37 dX12_spread_101 ?_
                  replace hf := zb1_s hf
                  obtain ⟨v39, h38, hf⟩ := hf
                  refine zr_callS [.int x6_13, .int v36] (cX12_greater_ok h38) zvs_X12_greater zl_829 zl_828 rfl (Nat.le_of_ble_eq_true rfl) (Nat.le_of_ble_eq_true rfl) (Nat.le_of_ble_eq_true rfl) (Nat.le_of_ble_eq_true rfl) dX12_spread_102 rfl ?_
                  refine zr_goto 110 dX12_spread_105 (by decide) ?_
                  cases hf
                  exact zr_lv [1, 2, 0, 4] rfl hj33
              clear hf
              have hf := hg
              clear hg
              refine zr_icmp_ge 76 dX12_spread_69 (by decide) (fun hc => ?_) (fun hc => ?_)
              · rw [if_pos hc] at hf
                refine zr_iconst 0 dX12_spread_76 (by decide) ?_
                cases hf
                exact zr_lv [0, 1, 3, 4] rfl hj27
              · rw [if_neg hc] at hf
                refine zr_iconst 1 dX12_spread_72 (by decide) ?_
                refine zr_goto 77 dX12_spread_73 (by decide) ?_
                cases hf
                exact zr_lv [0, 1, 3, 4] rfl hj27
        exact zr_lv [3, 7, 2, 1, 0] rfl (hL40 _ 0 0 0 hf)
      · rw [if_pos hc] at hf
        refine zr_iconst (-1) dX12_spread_30 (by decide) ?_
        cases hf
        exact zr_iret dX12_spread_31
theorem dX12_areGuarded_0 : decode cX12_areGuarded 0 = .ok (.iconst 0, 1) := by decide +kernel
theorem dX12_areGuarded_1 : decode cX12_areGuarded 1 = .ok (.istore_n 3, 1) := by decide +kernel
theorem dX12_areGuarded_2 : decode cX12_areGuarded 2 = .ok (.iload_n 3, 1) := by decide +kernel
theorem dX12_areGuarded_3 : decode cX12_areGuarded 3 = .ok (.aload_n 0, 1) := by decide +kernel
theorem dX12_areGuarded_4 : decode cX12_areGuarded 4 = .ok (.getfield 273, 3) := by decide +kernel
theorem dX12_areGuarded_7 : decode cX12_areGuarded 7 = .ok (.if_icmp .gt 78, 3) := by decide +kernel
theorem dX12_areGuarded_10 : decode cX12_areGuarded 10 = .ok (.iconst 0, 1) := by decide +kernel
theorem dX12_areGuarded_11 : decode cX12_areGuarded 11 = .ok (.istore 4, 2) := by decide +kernel
theorem dX12_areGuarded_13 : decode cX12_areGuarded 13 = .ok (.iconst 0, 1) := by decide +kernel
theorem dX12_areGuarded_14 : decode cX12_areGuarded 14 = .ok (.istore 5, 2) := by decide +kernel
theorem dX12_areGuarded_16 : decode cX12_areGuarded 16 = .ok (.iload 5, 2) := by decide +kernel
theorem dX12_areGuarded_18 : decode cX12_areGuarded 18 = .ok (.aload_n 0, 1) := by decide +kernel
theorem dX12_areGuarded_19 : decode cX12_areGuarded 19 = .ok (.getfield 276, 3) := by decide +kernel
theorem dX12_areGuarded_22 : decode cX12_areGuarded 22 = .ok (.if_icmp .ge 50, 3) := by decide +kernel
theorem dX12_areGuarded_25 : decode cX12_areGuarded 25 = .ok (.iload 4, 2) := by decide +kernel
theorem dX12_areGuarded_27 : decode cX12_areGuarded 27 = .ok (.ifCond .ne 32, 3) := by decide +kernel
theorem dX12_areGuarded_30 : decode cX12_areGuarded 30 = .ok (.iload_n 1, 1) := by decide +kernel
theorem dX12_areGuarded_31 : decode cX12_areGuarded 31 = .ok (.iload 5, 2) := by decide +kernel
theorem dX12_areGuarded_33 : decode cX12_areGuarded 33 = .ok (.invokestatic 380, 3) := by decide +kernel
theorem dX12_areGuarded_36 : decode cX12_areGuarded 36 = .ok (.ifCond .eq 27, 3) := by decide +kernel
theorem dX12_areGuarded_39 : decode cX12_areGuarded 39 = .ok (.iload_n 3, 1) := by decide +kernel
theorem dX12_areGuarded_40 : decode cX12_areGuarded 40 = .ok (.aload_n 0, 1) := by decide +kernel
theorem dX12_areGuarded_41 : decode cX12_areGuarded 41 = .ok (.bipush 33, 2) := by decide +kernel
theorem dX12_areGuarded_43 : decode cX12_areGuarded 43 = .ok (.iload 5, 2) := by decide +kernel
theorem dX12_areGuarded_45 : decode cX12_areGuarded 45 = .ok (.iadd, 1) := by decide +kernel
theorem dX12_areGuarded_46 : decode cX12_areGuarded 46 = .ok (.invokevirtual 269, 3) := by decide +kernel
theorem dX12_areGuarded_49 : decode cX12_areGuarded 49 = .ok (.invokestatic 282, 3) := by decide +kernel
theorem dX12_areGuarded_52 : decode cX12_areGuarded 52 = .ok (.iload_n 2, 1) := by decide +kernel
theorem dX12_areGuarded_53 : decode cX12_areGuarded 53 = .ok (.invokestatic 295, 3) := by decide +kernel
theorem dX12_areGuarded_56 : decode cX12_areGuarded 56 = .ok (.if_icmp .gt 7, 3) := by decide +kernel
theorem dX12_areGuarded_59 : decode cX12_areGuarded 59 = .ok (.iconst 1, 1) := by decide +kernel
theorem dX12_areGuarded_60 : decode cX12_areGuarded 60 = .ok (.goto 4, 3) := by decide +kernel
theorem dX12_areGuarded_63 : decode cX12_areGuarded 63 = .ok (.iconst 0, 1) := by decide +kernel
theorem dX12_areGuarded_64 : decode cX12_areGuarded 64 = .ok (.istore 4, 2) := by decide +kernel
theorem dX12_areGuarded_66 : decode cX12_areGuarded 66 = .ok (.iinc 5 1, 3) := by decide +kernel
theorem dX12_areGuarded_69 : decode cX12_areGuarded 69 = .ok (.goto (-53), 3) := by decide +kernel
theorem dX12_areGuarded_72 : decode cX12_areGuarded 72 = .ok (.iload 4, 2) := by decide +kernel
theorem dX12_areGuarded_74 : decode cX12_areGuarded 74 = .ok (.ifCond .ne 5, 3) := by decide +kernel
theorem dX12_areGuarded_77 : decode cX12_areGuarded 77 = .ok (.iconst 0, 1) := by decide +kernel
theorem dX12_areGuarded_78 : decode cX12_areGuarded 78 = .ok (.ireturn, 1) := by decide +kernel
theorem dX12_areGuarded_79 : decode cX12_areGuarded 79 = .ok (.iinc 3 1, 3) := by decide +kernel
theorem dX12_areGuarded_82 : decode cX12_areGuarded 82 = .ok (.goto (-80), 3) := by decide +kernel
theorem dX12_areGuarded_85 : decode cX12_areGuarded 85 = .ok (.iconst 1, 1) := by decide +kernel
theorem dX12_areGuarded_86 : decode cX12_areGuarded 86 = .ok (.ireturn, 1) := by decide +kernel
def fX12_areGuarded_l16 (μ : zM) (x0 : Nat) (x1 : Int32) (x3_1 : Int32) (x2 : Int32) (F8 : Int32 → Int32 → Option (Int32)) (x4_6 : Int32) (x5_7 : Int32) : Option (Int32) :=
  zb1 (zm_gI μ 12 x0 25) fun v12 =>
  if v12 ≤ x5_7 then (
  some x4_6)
  else (
  zb1 (if x4_6 = 0 then (
  zb1 (fX12_has μ x1 x5_7) fun v17 =>
  if v17 = 0 then (
  some 0)
  else (
  zb1 (fX12_of μ x0 (33 + x5_7)) fun v19 =>
  zb1 (fX12_apart μ x3_1 v19) fun v21 =>
  zb1 (fX12_range μ x2) fun v23 =>
  if v23 < v21 then (
  some 0)
  else (
  some 1)))
  else (
  some 1)) fun s14 =>
  F8 s14 (x5_7 + 1))
def fX12_areGuarded_l2 (μ : zM) (x0 : Nat) (x1 : Int32) (x2 : Int32) (F2 : Int32 → Option (Int32)) (x3_1 : Int32) : Option (Int32) :=
  zb1 (zm_gI μ 12 x0 24) fun v4 =>
  if v4 < x3_1 then (
  some 1)
  else (
  zb1 (zf2 (fX12_areGuarded_l16 μ x0 x1 x3_1 x2) zfu 0 0) fun x4_10 =>
  if x4_10 = 0 then (
  some 0)
  else (
  F2 (x3_1 + 1)))
def fX12_areGuarded (μ : zM) (x0 : Nat) (x1 : Int32) (x2 : Int32) : Option (Int32) := zgd (zm_ck μ 12 x0) <|
  zf1 (fX12_areGuarded_l2 μ x0 x1 x2) zfu 0
theorem fX12_areGuarded_ck {μ : zM} {x0 : Nat} {x1 : Int32} {x2 : Int32} {z : Int32} (h : fX12_areGuarded μ x0 x1 x2 = some z) : zm_ck μ 12 x0 = true := (zgd_s h).1
set_option maxHeartbeats 4000000 in
set_option maxRecDepth 100000 in
theorem cX12_areGuarded_ok {μ : zM} {x0 : Nat} {x1 : Int32} {x2 : Int32} {r : Int32} (hf : fX12_areGuarded μ x0 x1 x2 = some r) : zC yX12_areGuarded cX12_areGuarded 6 (some .boolean) 1 0 0 [.ref x0, .int x1, .int x2] μ (some (.int r)) μ := by
  replace hf := (zgd_s hf).2
  refine zC.of (by decide) (Nat.le_of_ble_eq_true rfl) (fun K hin => ?_)
  clear hin
  show zz K cX12_areGuarded (6, RX12, some .boolean, 1, 0, 0, some (.int r), μ) 0 0 0 [(0, .ref x0), (1, .int x1), (2, .int x2)] [] μ
  refine zr_iconst 0 dX12_areGuarded_0 (by decide) ?_
  refine zr_istore_n [(3, .int 0), (0, .ref x0), (1, .int x1), (2, .int x2)] dX12_areGuarded_1 (Nat.le_of_ble_eq_true rfl) rfl ?_
  have hL25 : ∀ (n : Nat) (x3_1 : Int32), zf1 (fX12_areGuarded_l2 μ x0 x1 x2) n x3_1 = some r → zz K cX12_areGuarded (6, RX12, some .boolean, 1, 0, 0, some (.int r), μ) 0 0 2 [(0, .ref x0), (1, .int x1), (2, .int x2), (3, .int x3_1)] [] μ := by
    intro n
    induction n with
    | zero => intro x3_1 hf; cases hf
    | succ n ih3 =>
      intro x3_1 hf
      replace hf := zf1_s hf
      generalize zf1 (fX12_areGuarded_l2 μ x0 x1 x2) n = F2 at hf ih3
      unfold fX12_areGuarded_l2 at hf
      refine zr_iload_n 3 dX12_areGuarded_2 rfl ?_
      refine zr_aload_n 0 dX12_areGuarded_3 rfl ?_
      replace hf := zb1_s hf
      obtain ⟨v4, h5, hf⟩ := hf
      refine zr_get (zm_gI_g h5) zk12 (by decide) zl_920 dX12_areGuarded_4 ?_
      refine zr_icmp_gt 85 dX12_areGuarded_7 (by decide) (fun hc => ?_) (fun hc => ?_)
      · rw [if_pos hc] at hf
        refine zr_iconst 1 dX12_areGuarded_85 (by decide) ?_
        cases hf
        exact zr_zret rfl dX12_areGuarded_86
      · rw [if_neg hc] at hf
        refine zr_iconst 0 dX12_areGuarded_10 (by decide) ?_
        refine zr_istore [(4, .int 0), (0, .ref x0), (1, .int x1), (2, .int x2), (3, .int x3_1)] dX12_areGuarded_11 (Nat.le_of_ble_eq_true rfl) rfl ?_
        refine zr_iconst 0 dX12_areGuarded_13 (by decide) ?_
        refine zr_istore [(5, .int 0), (4, .int 0), (0, .ref x0), (1, .int x1), (2, .int x2), (3, .int x3_1)] dX12_areGuarded_14 (Nat.le_of_ble_eq_true rfl) rfl ?_
        replace hf := zb1_s hf
        obtain ⟨x4_10, hg, hf⟩ := hf
        have hj11 : zz K cX12_areGuarded (6, RX12, some .boolean, 1, 0, 0, some (.int r), μ) 0 0 72 [(0, .ref x0), (1, .int x1), (2, .int x2), (3, .int x3_1), (4, .int x4_10)] [] μ := by
          refine zr_iload 4 dX12_areGuarded_72 rfl ?_
          refine zr_if_ne 79 dX12_areGuarded_74 (by decide) (fun hc => ?_) (fun hc => ?_)
          · rw [if_neg hc] at hf
            refine zr_iinc (j := 3) (x3_1 + 1) [(3, .int (x3_1 + 1)), (0, .ref x0), (1, .int x1), (2, .int x2), (4, .int x4_10)] dX12_areGuarded_79 rfl rfl (Nat.le_of_ble_eq_true rfl) rfl ?_
            refine zr_goto 2 dX12_areGuarded_82 (by decide) ?_
            exact zr_lv [1, 2, 3, 0] rfl (ih3 (x3_1 + 1) hf)
          · rw [if_pos hc] at hf
            refine zr_iconst 0 dX12_areGuarded_77 (by decide) ?_
            cases hf
            exact zr_zret rfl dX12_areGuarded_78
        clear hf
        have hf := hg
        clear hg
        have hL24 : ∀ (n : Nat) (x4_6 : Int32) (x5_7 : Int32), zf2 (fX12_areGuarded_l16 μ x0 x1 x3_1 x2) n x4_6 x5_7 = some x4_10 → zz K cX12_areGuarded (6, RX12, some .boolean, 1, 0, 0, some (.int r), μ) 0 0 16 [(0, .ref x0), (1, .int x1), (2, .int x2), (3, .int x3_1), (4, .int x4_6), (5, .int x5_7)] [] μ := by
          intro n
          induction n with
          | zero => intro x4_6 x5_7 hf; cases hf
          | succ n ih9 =>
            intro x4_6 x5_7 hf
            replace hf := zf2_s hf
            generalize zf2 (fX12_areGuarded_l16 μ x0 x1 x3_1 x2) n = F8 at hf ih9
            unfold fX12_areGuarded_l16 at hf
            refine zr_iload 5 dX12_areGuarded_16 rfl ?_
            refine zr_aload_n 0 dX12_areGuarded_18 rfl ?_
            replace hf := zb1_s hf
            obtain ⟨v12, h13, hf⟩ := hf
            refine zr_get (zm_gI_g h13) zk12 (by decide) zl_921 dX12_areGuarded_19 ?_
            refine zr_icmp_ge 72 dX12_areGuarded_22 (by decide) (fun hc => ?_) (fun hc => ?_)
            · rw [if_pos hc] at hf
              cases hf
              exact zr_lv [0, 1, 2, 3, 4] rfl hj11
            · rw [if_neg hc] at hf
              refine zr_iload 4 dX12_areGuarded_25 rfl ?_
              replace hf := zb1_s hf
              obtain ⟨s14, hg, hf⟩ := hf
              have hj15 : zz K cX12_areGuarded (6, RX12, some .boolean, 1, 0, 0, some (.int r), μ) 0 0 64 [(0, .ref x0), (1, .int x1), (2, .int x2), (3, .int x3_1), (5, .int x5_7)] [.int s14] μ := by
                refine zr_istore [(4, .int s14), (0, .ref x0), (1, .int x1), (2, .int x2), (3, .int x3_1), (5, .int x5_7)] dX12_areGuarded_64 (Nat.le_of_ble_eq_true rfl) rfl ?_
                refine zr_iinc (j := 5) (x5_7 + 1) [(5, .int (x5_7 + 1)), (4, .int s14), (0, .ref x0), (1, .int x1), (2, .int x2), (3, .int x3_1)] dX12_areGuarded_66 rfl rfl (Nat.le_of_ble_eq_true rfl) rfl ?_
                refine zr_goto 16 dX12_areGuarded_69 (by decide) ?_
                exact zr_lv [2, 3, 4, 5, 1, 0] rfl (ih9 s14 (x5_7 + 1) hf)
              clear hf
              have hf := hg
              clear hg
              refine zr_if_ne 59 dX12_areGuarded_27 (by decide) (fun hc => ?_) (fun hc => ?_)
              · rw [if_neg hc] at hf
                refine zr_iconst 1 dX12_areGuarded_59 (by decide) ?_
                refine zr_goto 64 dX12_areGuarded_60 (by decide) ?_
                cases hf
                exact zr_lv [0, 1, 2, 3, 5] rfl hj15
              · rw [if_pos hc] at hf
                refine zr_iload_n 1 dX12_areGuarded_30 rfl ?_
                refine zr_iload 5 dX12_areGuarded_31 rfl ?_
                replace hf := zb1_s hf
                obtain ⟨v17, h16, hf⟩ := hf
                refine zr_callS [.int x1, .int x5_7] (cX12_has_ok h16) zvs_X12_has zl_1035 zl_1034 rfl (Nat.le_of_ble_eq_true rfl) (Nat.le_of_ble_eq_true rfl) (Nat.le_of_ble_eq_true rfl) (Nat.le_of_ble_eq_true rfl) dX12_areGuarded_33 rfl ?_
                refine zr_if_eq 63 dX12_areGuarded_36 (by decide) (fun hc => ?_) (fun hc => ?_)
                · rw [if_pos hc] at hf
                  refine zr_iconst 0 dX12_areGuarded_63 (by decide) ?_
                  cases hf
                  exact zr_lv [0, 1, 2, 3, 5] rfl hj15
                · rw [if_neg hc] at hf
                  refine zr_iload_n 3 dX12_areGuarded_39 rfl ?_
                  refine zr_aload_n 0 dX12_areGuarded_40 rfl ?_
                  refine zr_bipush 33 dX12_areGuarded_41 (by decide) ?_
                  refine zr_iload 5 dX12_areGuarded_43 rfl ?_
                  refine zr_iadd dX12_areGuarded_45 ?_
                  replace hf := zb1_s hf
                  obtain ⟨v19, h18, hf⟩ := hf
                  refine zr_callV (ci := 12) [.int (33 + x5_7)] (cX12_of_ok h18) zvs_X12_of zl_918 zl_919 (fX12_of_ck h18) rfl rfl zl_917 rfl (Nat.le_of_ble_eq_true rfl) (Nat.le_of_ble_eq_true rfl) (Nat.le_of_ble_eq_true rfl) (Nat.le_of_ble_eq_true rfl) dX12_areGuarded_46 rfl ?_
                  replace hf := zb1_s hf
                  obtain ⟨v21, h20, hf⟩ := hf
                  refine zr_callS [.int x3_1, .int v19] (cX12_apart_ok h20) zvs_X12_apart zl_928 zl_927 rfl (Nat.le_of_ble_eq_true rfl) (Nat.le_of_ble_eq_true rfl) (Nat.le_of_ble_eq_true rfl) (Nat.le_of_ble_eq_true rfl) dX12_areGuarded_49 rfl ?_
                  refine zr_iload_n 2 dX12_areGuarded_52 rfl ?_
                  replace hf := zb1_s hf
                  obtain ⟨v23, h22, hf⟩ := hf
                  refine zr_callS [.int x2] (cX12_range_ok h22) zvs_X12_range zl_943 zl_942 rfl (Nat.le_of_ble_eq_true rfl) (Nat.le_of_ble_eq_true rfl) (Nat.le_of_ble_eq_true rfl) (Nat.le_of_ble_eq_true rfl) dX12_areGuarded_53 rfl ?_
                  refine zr_icmp_gt 63 dX12_areGuarded_56 (by decide) (fun hc => ?_) (fun hc => ?_)
                  · rw [if_pos hc] at hf
                    refine zr_iconst 0 dX12_areGuarded_63 (by decide) ?_
                    cases hf
                    exact zr_lv [0, 1, 2, 3, 5] rfl hj15
                  · rw [if_neg hc] at hf
                    refine zr_iconst 1 dX12_areGuarded_59 (by decide) ?_
                    refine zr_goto 64 dX12_areGuarded_60 (by decide) ?_
                    cases hf
                    exact zr_lv [0, 1, 2, 3, 5] rfl hj15
        exact zr_lv [2, 3, 4, 5, 1, 0] rfl (hL24 _ 0 0 hf)
  exact zr_lv [1, 2, 3, 0] rfl (hL25 _ 0 hf)
theorem dX12_ones_0 : decode cX12_ones 0 = .ok (.iconst 0, 1) := by decide +kernel
theorem dX12_ones_1 : decode cX12_ones 1 = .ok (.istore_n 1, 1) := by decide +kernel
theorem dX12_ones_2 : decode cX12_ones 2 = .ok (.iconst 0, 1) := by decide +kernel
theorem dX12_ones_3 : decode cX12_ones 3 = .ok (.istore_n 2, 1) := by decide +kernel
theorem dX12_ones_4 : decode cX12_ones 4 = .ok (.iload_n 2, 1) := by decide +kernel
theorem dX12_ones_5 : decode cX12_ones 5 = .ok (.bipush 6, 2) := by decide +kernel
theorem dX12_ones_7 : decode cX12_ones 7 = .ok (.if_icmp .ge 25, 3) := by decide +kernel
theorem dX12_ones_10 : decode cX12_ones 10 = .ok (.iload_n 1, 1) := by decide +kernel
theorem dX12_ones_11 : decode cX12_ones 11 = .ok (.iload_n 0, 1) := by decide +kernel
theorem dX12_ones_12 : decode cX12_ones 12 = .ok (.iload_n 2, 1) := by decide +kernel
theorem dX12_ones_13 : decode cX12_ones 13 = .ok (.invokestatic 380, 3) := by decide +kernel
theorem dX12_ones_16 : decode cX12_ones 16 = .ok (.ifCond .eq 7, 3) := by decide +kernel
theorem dX12_ones_19 : decode cX12_ones 19 = .ok (.iconst 1, 1) := by decide +kernel
theorem dX12_ones_20 : decode cX12_ones 20 = .ok (.goto 4, 3) := by decide +kernel
theorem dX12_ones_23 : decode cX12_ones 23 = .ok (.iconst 0, 1) := by decide +kernel
theorem dX12_ones_24 : decode cX12_ones 24 = .ok (.iadd, 1) := by decide +kernel
theorem dX12_ones_25 : decode cX12_ones 25 = .ok (.istore_n 1, 1) := by decide +kernel
theorem dX12_ones_26 : decode cX12_ones 26 = .ok (.iinc 2 1, 3) := by decide +kernel
theorem dX12_ones_29 : decode cX12_ones 29 = .ok (.goto (-25), 3) := by decide +kernel
theorem dX12_ones_32 : decode cX12_ones 32 = .ok (.iload_n 1, 1) := by decide +kernel
theorem dX12_ones_33 : decode cX12_ones 33 = .ok (.ireturn, 1) := by decide +kernel
def fX12_ones_l4 (μ : zM) (x0 : Int32) (F3 : Int32 → Int32 → Option (Int32)) (x1_1 : Int32) (x2_2 : Int32) : Option (Int32) :=
  if 6 ≤ x2_2 then (
  some x1_1)
  else (
  zb1 (fX12_has μ x0 x2_2) fun v8 =>
  zb1 (if v8 = 0 then (
  some 0)
  else (
  some 1)) fun s9 =>
  F3 (x1_1 + s9) (x2_2 + 1))
def fX12_ones (μ : zM) (x0 : Int32) : Option (Int32) :=
  zb1 (zf2 (fX12_ones_l4 μ x0) zfu 0 0) fun x1_5 =>
  some x1_5
set_option maxHeartbeats 4000000 in
set_option maxRecDepth 100000 in
theorem cX12_ones_ok {μ : zM} {x0 : Int32} {r : Int32} (hf : fX12_ones μ x0 = some r) : zC yX12_ones cX12_ones 3 (some .int) 1 0 0 [.int x0] μ (some (.int r)) μ := by
  unfold fX12_ones at hf
  refine zC.of (by decide) (Nat.le_of_ble_eq_true rfl) (fun K hin => ?_)
  clear hin
  show zz K cX12_ones (3, RX12, some .int, 1, 0, 0, some (.int r), μ) 0 0 0 [(0, .int x0)] [] μ
  refine zr_iconst 0 dX12_ones_0 (by decide) ?_
  refine zr_istore_n [(1, .int 0), (0, .int x0)] dX12_ones_1 (Nat.le_of_ble_eq_true rfl) rfl ?_
  refine zr_iconst 0 dX12_ones_2 (by decide) ?_
  refine zr_istore_n [(2, .int 0), (1, .int 0), (0, .int x0)] dX12_ones_3 (Nat.le_of_ble_eq_true rfl) rfl ?_
  replace hf := zb1_s hf
  obtain ⟨x1_5, hg, hf⟩ := hf
  have hj6 : zz K cX12_ones (3, RX12, some .int, 1, 0, 0, some (.int r), μ) 0 0 32 [(1, .int x1_5)] [] μ := by
    refine zr_iload_n 0 dX12_ones_32 rfl ?_
    cases hf
    exact zr_iret dX12_ones_33
  clear hf
  have hf := hg
  clear hg
  have hL11 : ∀ (n : Nat) (x1_1 : Int32) (x2_2 : Int32), zf2 (fX12_ones_l4 μ x0) n x1_1 x2_2 = some x1_5 → zz K cX12_ones (3, RX12, some .int, 1, 0, 0, some (.int r), μ) 0 0 4 [(0, .int x0), (1, .int x1_1), (2, .int x2_2)] [] μ := by
    intro n
    induction n with
    | zero => intro x1_1 x2_2 hf; cases hf
    | succ n ih4 =>
      intro x1_1 x2_2 hf
      replace hf := zf2_s hf
      generalize zf2 (fX12_ones_l4 μ x0) n = F3 at hf ih4
      unfold fX12_ones_l4 at hf
      refine zr_iload_n 2 dX12_ones_4 rfl ?_
      refine zr_bipush 6 dX12_ones_5 (by decide) ?_
      refine zr_icmp_ge 32 dX12_ones_7 (by decide) (fun hc => ?_) (fun hc => ?_)
      · rw [if_pos hc] at hf
        cases hf
        exact zr_lv [1] rfl hj6
      · rw [if_neg hc] at hf
        refine zr_iload_n 1 dX12_ones_10 rfl ?_
        refine zr_iload_n 0 dX12_ones_11 rfl ?_
        refine zr_iload_n 2 dX12_ones_12 rfl ?_
        replace hf := zb1_s hf
        obtain ⟨v8, h7, hf⟩ := hf
        refine zr_callS [.int x0, .int x2_2] (cX12_has_ok h7) zvs_X12_has zl_1035 zl_1034 rfl (Nat.le_of_ble_eq_true rfl) (Nat.le_of_ble_eq_true rfl) (Nat.le_of_ble_eq_true rfl) (Nat.le_of_ble_eq_true rfl) dX12_ones_13 rfl ?_
        replace hf := zb1_s hf
        obtain ⟨s9, hg, hf⟩ := hf
        have hj10 : zz K cX12_ones (3, RX12, some .int, 1, 0, 0, some (.int r), μ) 0 0 24 [(0, .int x0), (2, .int x2_2)] [.int s9, .int x1_1] μ := by
          refine zr_iadd dX12_ones_24 ?_
          refine zr_istore_n [(1, .int (x1_1 + s9)), (0, .int x0), (2, .int x2_2)] dX12_ones_25 (Nat.le_of_ble_eq_true rfl) rfl ?_
          refine zr_iinc (j := 2) (x2_2 + 1) [(2, .int (x2_2 + 1)), (1, .int (x1_1 + s9)), (0, .int x0)] dX12_ones_26 rfl rfl (Nat.le_of_ble_eq_true rfl) rfl ?_
          refine zr_goto 4 dX12_ones_29 (by decide) ?_
          exact zr_lv [2, 1, 0] rfl (ih4 (x1_1 + s9) (x2_2 + 1) hf)
        clear hf
        have hf := hg
        clear hg
        refine zr_if_eq 23 dX12_ones_16 (by decide) (fun hc => ?_) (fun hc => ?_)
        · rw [if_pos hc] at hf
          refine zr_iconst 0 dX12_ones_23 (by decide) ?_
          cases hf
          exact zr_lv [0, 2] rfl hj10
        · rw [if_neg hc] at hf
          refine zr_iconst 1 dX12_ones_19 (by decide) ?_
          refine zr_goto 24 dX12_ones_20 (by decide) ?_
          cases hf
          exact zr_lv [0, 2] rfl hj10
  exact zr_lv [2, 1, 0] rfl (hL11 _ 0 0 hf)
theorem zl_1166 : Cond.code yX12_areGuarded cX12_areGuarded 6 (some .boolean) ∈ zt := zt_at 1970 (by decide +kernel)
theorem zvs_X12_areGuarded : zvS yX12_areGuarded cX12_areGuarded 6 (some .boolean) 2 := ⟨zl_1166, zl_782, ⟨by decide +kernel, by decide +kernel, by decide +kernel⟩, by decide⟩
theorem zl_1167 : Cond.methodLink RX12 502 yX12_areGuarded ∈ zt := zt_at 1967 (by decide +kernel)
theorem zl_1168 : Cond.instanceMethod yX12_areGuarded ∈ zt := zt_at 1969 (by decide +kernel)
theorem zl_1169 : Cond.selects RX12 yX12_areGuarded yX12_areGuarded ∈ zt := zt_at 121 (by decide +kernel)
theorem zl_1170 : Cond.code yX12_ones cX12_ones 3 (some .int) ∈ zt := zt_at 1973 (by decide +kernel)
theorem zvs_X12_ones : zvS yX12_ones cX12_ones 3 (some .int) 1 := ⟨zl_1170, zl_782, ⟨by decide +kernel, by decide +kernel, by decide +kernel⟩, by decide⟩
theorem zl_1171 : Cond.methodLink RX12 505 yX12_ones ∈ zt := zt_at 1971 (by decide +kernel)
theorem zl_1172 : Cond.static yX12_ones ∈ zt := zt_at 1972 (by decide +kernel)
theorem dX12_guards_0 : decode cX12_guards 0 = .ok (.aload_n 0, 1) := by decide +kernel
theorem dX12_guards_1 : decode cX12_guards 1 = .ok (.iconst 0, 1) := by decide +kernel
theorem dX12_guards_2 : decode cX12_guards 2 = .ok (.putfield 93, 3) := by decide +kernel
theorem dX12_guards_5 : decode cX12_guards 5 = .ok (.aload_n 0, 1) := by decide +kernel
theorem dX12_guards_6 : decode cX12_guards 6 = .ok (.iload_n 1, 1) := by decide +kernel
theorem dX12_guards_7 : decode cX12_guards 7 = .ok (.invokevirtual 298, 3) := by decide +kernel
theorem dX12_guards_10 : decode cX12_guards 10 = .ok (.ifCond .eq 12, 3) := by decide +kernel
theorem dX12_guards_13 : decode cX12_guards 13 = .ok (.iload_n 2, 1) := by decide +kernel
theorem dX12_guards_14 : decode cX12_guards 14 = .ok (.iconst 0, 1) := by decide +kernel
theorem dX12_guards_15 : decode cX12_guards 15 = .ok (.iconst 2, 1) := by decide +kernel
theorem dX12_guards_16 : decode cX12_guards 16 = .ok (.invokestatic 101, 3) := by decide +kernel
theorem dX12_guards_19 : decode cX12_guards 19 = .ok (.ifCond .ne 5, 3) := by decide +kernel
theorem dX12_guards_22 : decode cX12_guards 22 = .ok (.iconst (-1), 1) := by decide +kernel
theorem dX12_guards_23 : decode cX12_guards 23 = .ok (.ireturn, 1) := by decide +kernel
theorem dX12_guards_24 : decode cX12_guards 24 = .ok (.iconst (-1), 1) := by decide +kernel
theorem dX12_guards_25 : decode cX12_guards 25 = .ok (.istore_n 3, 1) := by decide +kernel
theorem dX12_guards_26 : decode cX12_guards 26 = .ok (.iconst 0, 1) := by decide +kernel
theorem dX12_guards_27 : decode cX12_guards 27 = .ok (.istore 4, 2) := by decide +kernel
theorem dX12_guards_29 : decode cX12_guards 29 = .ok (.iload 4, 2) := by decide +kernel
theorem dX12_guards_31 : decode cX12_guards 31 = .ok (.iconst 1, 1) := by decide +kernel
theorem dX12_guards_32 : decode cX12_guards 32 = .ok (.aload_n 0, 1) := by decide +kernel
theorem dX12_guards_33 : decode cX12_guards 33 = .ok (.getfield 276, 3) := by decide +kernel
theorem dX12_guards_36 : decode cX12_guards 36 = .ok (.ishl, 1) := by decide +kernel
theorem dX12_guards_37 : decode cX12_guards 37 = .ok (.if_icmp .ge 43, 3) := by decide +kernel
theorem dX12_guards_40 : decode cX12_guards 40 = .ok (.aload_n 0, 1) := by decide +kernel
theorem dX12_guards_41 : decode cX12_guards 41 = .ok (.iload 4, 2) := by decide +kernel
theorem dX12_guards_43 : decode cX12_guards 43 = .ok (.iload_n 2, 1) := by decide +kernel
theorem dX12_guards_44 : decode cX12_guards 44 = .ok (.invokevirtual 502, 3) := by decide +kernel
theorem dX12_guards_47 : decode cX12_guards 47 = .ok (.ifCond .eq 25, 3) := by decide +kernel
theorem dX12_guards_50 : decode cX12_guards 50 = .ok (.iload_n 3, 1) := by decide +kernel
theorem dX12_guards_51 : decode cX12_guards 51 = .ok (.iconst (-1), 1) := by decide +kernel
theorem dX12_guards_52 : decode cX12_guards 52 = .ok (.if_icmp .eq 15, 3) := by decide +kernel
theorem dX12_guards_55 : decode cX12_guards 55 = .ok (.iload 4, 2) := by decide +kernel
theorem dX12_guards_57 : decode cX12_guards 57 = .ok (.invokestatic 505, 3) := by decide +kernel
theorem dX12_guards_60 : decode cX12_guards 60 = .ok (.iload_n 3, 1) := by decide +kernel
theorem dX12_guards_61 : decode cX12_guards 61 = .ok (.invokestatic 505, 3) := by decide +kernel
theorem dX12_guards_64 : decode cX12_guards 64 = .ok (.if_icmp .ge 8, 3) := by decide +kernel
theorem dX12_guards_67 : decode cX12_guards 67 = .ok (.iload 4, 2) := by decide +kernel
theorem dX12_guards_69 : decode cX12_guards 69 = .ok (.goto 4, 3) := by decide +kernel
theorem dX12_guards_72 : decode cX12_guards 72 = .ok (.iload_n 3, 1) := by decide +kernel
theorem dX12_guards_73 : decode cX12_guards 73 = .ok (.istore_n 3, 1) := by decide +kernel
theorem dX12_guards_74 : decode cX12_guards 74 = .ok (.iinc 4 1, 3) := by decide +kernel
theorem dX12_guards_77 : decode cX12_guards 77 = .ok (.goto (-48), 3) := by decide +kernel
theorem dX12_guards_80 : decode cX12_guards 80 = .ok (.iload_n 3, 1) := by decide +kernel
theorem dX12_guards_81 : decode cX12_guards 81 = .ok (.ireturn, 1) := by decide +kernel
def fX12_guards_l29 (m4 : zM) (x0 : Nat) (x2 : Int32) (F10 : Int32 → Int32 → Option (Int32)) (x3_8 : Int32) (x4_9 : Int32) : Option (Int32) :=
  zb1 (zm_gI m4 12 x0 25) fun v14 =>
  if (1 <<< (v14 &&& 31)) ≤ x4_9 then (
  some x3_8)
  else (
  zb1 (fX12_areGuarded m4 x0 x4_9 x2) fun v17 =>
  zb1 (if v17 = 0 then (
  some x3_8)
  else (
  if x3_8 = (-1) then (
  some x4_9)
  else (
  zb1 (fX12_ones m4 x4_9) fun v21 =>
  zb1 (fX12_ones m4 x3_8) fun v23 =>
  if v23 ≤ v21 then (
  some x3_8)
  else (
  some x4_9)))) fun s18 =>
  F10 s18 (x4_9 + 1))
def fX12_guards (μ : zM) (x0 : Nat) (x1 : Int32) (x2 : Int32) : Option (Int32 × zM) := zgd (zm_ck μ 12 x0) <|
  zb1 (zm_p μ 12 x0 0 (.int 0)) fun m1 =>
  zb2 (fX12_hand m1 x0 x1) fun v5 m4 =>
  if v5 = 0 then (
  some ((-1), m4))
  else (
  zb1 (fX12_in m4 x2 0 2) fun v7 =>
  if v7 = 0 then (
  some ((-1), m4))
  else (
  zb1 (zf2 (fX12_guards_l29 m4 x0 x2) zfu (-1) 0) fun x3_12 =>
  some (x3_12, m4)))
theorem fX12_guards_ck {μ : zM} {x0 : Nat} {x1 : Int32} {x2 : Int32} {z : Int32 × zM} (h : fX12_guards μ x0 x1 x2 = some z) : zm_ck μ 12 x0 = true := (zgd_s h).1
set_option maxHeartbeats 4000000 in
set_option maxRecDepth 100000 in
theorem cX12_guards_ok {μ : zM} {x0 : Nat} {x1 : Int32} {x2 : Int32} {r : Int32} {mo : zM} (hf : fX12_guards μ x0 x1 x2 = some (r, mo)) : zC yX12_guards cX12_guards 5 (some .int) 3 0 0 [.ref x0, .int x1, .int x2] μ (some (.int r)) mo := by
  replace hf := (zgd_s hf).2
  refine zC.of (by decide) (Nat.le_of_ble_eq_true rfl) (fun K hin => ?_)
  clear hin
  show zz K cX12_guards (5, RX12, some .int, 3, 0, 0, some (.int r), mo) 0 0 0 [(0, .ref x0), (1, .int x1), (2, .int x2)] [] μ
  refine zr_aload_n 0 dX12_guards_0 rfl ?_
  refine zr_iconst 0 dX12_guards_1 (by decide) ?_
  replace hf := zb1_s hf
  obtain ⟨m1, h2, hf⟩ := hf
  refine zr_put h2 zk12 (by decide) zl_788 rfl rfl rfl dX12_guards_2 ?_
  refine zr_aload_n 0 dX12_guards_5 rfl ?_
  refine zr_iload_n 1 dX12_guards_6 rfl ?_
  replace hf := zb2_s hf
  obtain ⟨v5, m4, h3, hf⟩ := hf
  refine zr_callV (ci := 12) [.int x1] (cX12_hand_ok h3) zvs_X12_hand zl_946 zl_947 (fX12_hand_ck h3) rfl rfl zl_945 rfl (Nat.le_of_ble_eq_true rfl) (Nat.le_of_ble_eq_true rfl) (Nat.le_of_ble_eq_true rfl) (Nat.le_of_ble_eq_true rfl) dX12_guards_7 rfl ?_
  refine zr_if_eq 22 dX12_guards_10 (by decide) (fun hc => ?_) (fun hc => ?_)
  · rw [if_pos hc] at hf
    refine zr_iconst (-1) dX12_guards_22 (by decide) ?_
    cases hf
    exact zr_iret dX12_guards_23
  · rw [if_neg hc] at hf
    refine zr_iload_n 2 dX12_guards_13 rfl ?_
    refine zr_iconst 0 dX12_guards_14 (by decide) ?_
    refine zr_iconst 2 dX12_guards_15 (by decide) ?_
    replace hf := zb1_s hf
    obtain ⟨v7, h6, hf⟩ := hf
    refine zr_callS [.int x2, .int 0, .int 2] (cX12_in_ok h6) zvs_X12_in zl_787 zl_786 rfl (Nat.le_of_ble_eq_true rfl) (Nat.le_of_ble_eq_true rfl) (Nat.le_of_ble_eq_true rfl) (Nat.le_of_ble_eq_true rfl) dX12_guards_16 rfl ?_
    refine zr_if_ne 24 dX12_guards_19 (by decide) (fun hc => ?_) (fun hc => ?_)
    · rw [if_neg hc] at hf
      refine zr_iconst (-1) dX12_guards_24 (by decide) ?_
      refine zr_istore_n [(3, .int (-1)), (0, .ref x0), (1, .int x1), (2, .int x2)] dX12_guards_25 (Nat.le_of_ble_eq_true rfl) rfl ?_
      refine zr_iconst 0 dX12_guards_26 (by decide) ?_
      refine zr_istore [(4, .int 0), (3, .int (-1)), (0, .ref x0), (1, .int x1), (2, .int x2)] dX12_guards_27 (Nat.le_of_ble_eq_true rfl) rfl ?_
      replace hf := zb1_s hf
      obtain ⟨x3_12, hg, hf⟩ := hf
      have hj13 : zz K cX12_guards (5, RX12, some .int, 3, 0, 0, some (.int r), mo) 0 0 80 [(3, .int x3_12)] [] m4 := by
        refine zr_iload_n 0 dX12_guards_80 rfl ?_
        cases hf
        exact zr_iret dX12_guards_81
      clear hf
      have hf := hg
      clear hg
      have hL24 : ∀ (n : Nat) (x3_8 : Int32) (x4_9 : Int32), zf2 (fX12_guards_l29 m4 x0 x2) n x3_8 x4_9 = some x3_12 → zz K cX12_guards (5, RX12, some .int, 3, 0, 0, some (.int r), mo) 0 0 29 [(0, .ref x0), (2, .int x2), (3, .int x3_8), (4, .int x4_9)] [] m4 := by
        intro n
        induction n with
        | zero => intro x3_8 x4_9 hf; cases hf
        | succ n ih11 =>
          intro x3_8 x4_9 hf
          replace hf := zf2_s hf
          generalize zf2 (fX12_guards_l29 m4 x0 x2) n = F10 at hf ih11
          unfold fX12_guards_l29 at hf
          refine zr_iload 3 dX12_guards_29 rfl ?_
          refine zr_iconst 1 dX12_guards_31 (by decide) ?_
          refine zr_aload_n 0 dX12_guards_32 rfl ?_
          replace hf := zb1_s hf
          obtain ⟨v14, h15, hf⟩ := hf
          refine zr_get (zm_gI_g h15) zk12 (by decide) zl_921 dX12_guards_33 ?_
          refine zr_ishl dX12_guards_36 ?_
          refine zr_icmp_ge 80 dX12_guards_37 (by decide) (fun hc => ?_) (fun hc => ?_)
          · rw [if_pos hc] at hf
            cases hf
            exact zr_lv [2] rfl hj13
          · rw [if_neg hc] at hf
            refine zr_aload_n 0 dX12_guards_40 rfl ?_
            refine zr_iload 3 dX12_guards_41 rfl ?_
            refine zr_iload_n 1 dX12_guards_43 rfl ?_
            replace hf := zb1_s hf
            obtain ⟨v17, h16, hf⟩ := hf
            refine zr_callV (ci := 12) [.int x4_9, .int x2] (cX12_areGuarded_ok h16) zvs_X12_areGuarded zl_1168 zl_1169 (fX12_areGuarded_ck h16) rfl rfl zl_1167 rfl (Nat.le_of_ble_eq_true rfl) (Nat.le_of_ble_eq_true rfl) (Nat.le_of_ble_eq_true rfl) (Nat.le_of_ble_eq_true rfl) dX12_guards_44 rfl ?_
            replace hf := zb1_s hf
            obtain ⟨s18, hg, hf⟩ := hf
            have hj19 : zz K cX12_guards (5, RX12, some .int, 3, 0, 0, some (.int r), mo) 0 0 73 [(0, .ref x0), (2, .int x2), (4, .int x4_9)] [.int s18] m4 := by
              refine zr_istore_n [(3, .int s18), (0, .ref x0), (2, .int x2), (4, .int x4_9)] dX12_guards_73 (Nat.le_of_ble_eq_true rfl) rfl ?_
              refine zr_iinc (j := 3) (x4_9 + 1) [(4, .int (x4_9 + 1)), (3, .int s18), (0, .ref x0), (2, .int x2)] dX12_guards_74 rfl rfl (Nat.le_of_ble_eq_true rfl) rfl ?_
              refine zr_goto 29 dX12_guards_77 (by decide) ?_
              exact zr_lv [2, 3, 1, 0] rfl (ih11 s18 (x4_9 + 1) hf)
            clear hf
            have hf := hg
            clear hg
            refine zr_if_eq 72 dX12_guards_47 (by decide) (fun hc => ?_) (fun hc => ?_)
            · rw [if_pos hc] at hf
              refine zr_iload_n 2 dX12_guards_72 rfl ?_
              cases hf
              exact zr_lv [0, 1, 3] rfl hj19
            · rw [if_neg hc] at hf
              refine zr_iload_n 2 dX12_guards_50 rfl ?_
              refine zr_iconst (-1) dX12_guards_51 (by decide) ?_
              refine zr_icmp_eq 67 dX12_guards_52 (by decide) (fun hc => ?_) (fun hc => ?_)
              · rw [if_pos hc] at hf
                refine zr_iload 3 dX12_guards_67 rfl ?_
                refine zr_goto 73 dX12_guards_69 (by decide) ?_
                cases hf
                exact zr_lv [0, 1, 3] rfl hj19
              · rw [if_neg hc] at hf
                refine zr_iload 3 dX12_guards_55 rfl ?_
                replace hf := zb1_s hf
                obtain ⟨v21, h20, hf⟩ := hf
                refine zr_callS [.int x4_9] (cX12_ones_ok h20) zvs_X12_ones zl_1172 zl_1171 rfl (Nat.le_of_ble_eq_true rfl) (Nat.le_of_ble_eq_true rfl) (Nat.le_of_ble_eq_true rfl) (Nat.le_of_ble_eq_true rfl) dX12_guards_57 rfl ?_
                refine zr_iload_n 2 dX12_guards_60 rfl ?_
                replace hf := zb1_s hf
                obtain ⟨v23, h22, hf⟩ := hf
                refine zr_callS [.int x3_8] (cX12_ones_ok h22) zvs_X12_ones zl_1172 zl_1171 rfl (Nat.le_of_ble_eq_true rfl) (Nat.le_of_ble_eq_true rfl) (Nat.le_of_ble_eq_true rfl) (Nat.le_of_ble_eq_true rfl) dX12_guards_61 rfl ?_
                refine zr_icmp_ge 72 dX12_guards_64 (by decide) (fun hc => ?_) (fun hc => ?_)
                · rw [if_pos hc] at hf
                  refine zr_iload_n 2 dX12_guards_72 rfl ?_
                  cases hf
                  exact zr_lv [0, 1, 3] rfl hj19
                · rw [if_neg hc] at hf
                  refine zr_iload 3 dX12_guards_67 rfl ?_
                  refine zr_goto 73 dX12_guards_69 (by decide) ?_
                  cases hf
                  exact zr_lv [0, 1, 3] rfl hj19
      exact zr_lv [2, 4, 1, 0] rfl (hL24 _ (-1) 0 hf)
    · rw [if_pos hc] at hf
      refine zr_iconst (-1) dX12_guards_22 (by decide) ?_
      cases hf
      exact zr_iret dX12_guards_23
theorem dX12_together_0 : decode cX12_together 0 = .ok (.iconst 0, 1) := by decide +kernel
theorem dX12_together_1 : decode cX12_together 1 = .ok (.istore_n 2, 1) := by decide +kernel
theorem dX12_together_2 : decode cX12_together 2 = .ok (.iconst 0, 1) := by decide +kernel
theorem dX12_together_3 : decode cX12_together 3 = .ok (.istore_n 3, 1) := by decide +kernel
theorem dX12_together_4 : decode cX12_together 4 = .ok (.iload_n 3, 1) := by decide +kernel
theorem dX12_together_5 : decode cX12_together 5 = .ok (.aload_n 0, 1) := by decide +kernel
theorem dX12_together_6 : decode cX12_together 6 = .ok (.getfield 276, 3) := by decide +kernel
theorem dX12_together_9 : decode cX12_together 9 = .ok (.if_icmp .ge 24, 3) := by decide +kernel
theorem dX12_together_12 : decode cX12_together 12 = .ok (.iload_n 2, 1) := by decide +kernel
theorem dX12_together_13 : decode cX12_together 13 = .ok (.iload_n 1, 1) := by decide +kernel
theorem dX12_together_14 : decode cX12_together 14 = .ok (.aload_n 0, 1) := by decide +kernel
theorem dX12_together_15 : decode cX12_together 15 = .ok (.bipush 33, 2) := by decide +kernel
theorem dX12_together_17 : decode cX12_together 17 = .ok (.iload_n 3, 1) := by decide +kernel
theorem dX12_together_18 : decode cX12_together 18 = .ok (.iadd, 1) := by decide +kernel
theorem dX12_together_19 : decode cX12_together 19 = .ok (.invokevirtual 269, 3) := by decide +kernel
theorem dX12_together_22 : decode cX12_together 22 = .ok (.invokestatic 282, 3) := by decide +kernel
theorem dX12_together_25 : decode cX12_together 25 = .ok (.iadd, 1) := by decide +kernel
theorem dX12_together_26 : decode cX12_together 26 = .ok (.istore_n 2, 1) := by decide +kernel
theorem dX12_together_27 : decode cX12_together 27 = .ok (.iinc 3 1, 3) := by decide +kernel
theorem dX12_together_30 : decode cX12_together 30 = .ok (.goto (-26), 3) := by decide +kernel
theorem dX12_together_33 : decode cX12_together 33 = .ok (.iload_n 2, 1) := by decide +kernel
theorem dX12_together_34 : decode cX12_together 34 = .ok (.ireturn, 1) := by decide +kernel
def fX12_together_l4 (μ : zM) (x0 : Nat) (x1 : Int32) (F3 : Int32 → Int32 → Option (Int32)) (x2_1 : Int32) (x3_2 : Int32) : Option (Int32) :=
  zb1 (zm_gI μ 12 x0 25) fun v7 =>
  if v7 ≤ x3_2 then (
  some x2_1)
  else (
  zb1 (fX12_of μ x0 (33 + x3_2)) fun v10 =>
  zb1 (fX12_apart μ x1 v10) fun v12 =>
  F3 (x2_1 + v12) (x3_2 + 1))
def fX12_together (μ : zM) (x0 : Nat) (x1 : Int32) : Option (Int32) := zgd (zm_ck μ 12 x0) <|
  zb1 (zf2 (fX12_together_l4 μ x0 x1) zfu 0 0) fun x2_5 =>
  some x2_5
theorem fX12_together_ck {μ : zM} {x0 : Nat} {x1 : Int32} {z : Int32} (h : fX12_together μ x0 x1 = some z) : zm_ck μ 12 x0 = true := (zgd_s h).1
set_option maxHeartbeats 4000000 in
set_option maxRecDepth 100000 in
theorem cX12_together_ok {μ : zM} {x0 : Nat} {x1 : Int32} {r : Int32} (hf : fX12_together μ x0 x1 = some r) : zC yX12_together cX12_together 4 (some .int) 1 0 0 [.ref x0, .int x1] μ (some (.int r)) μ := by
  replace hf := (zgd_s hf).2
  refine zC.of (by decide) (Nat.le_of_ble_eq_true rfl) (fun K hin => ?_)
  clear hin
  show zz K cX12_together (4, RX12, some .int, 1, 0, 0, some (.int r), μ) 0 0 0 [(0, .ref x0), (1, .int x1)] [] μ
  refine zr_iconst 0 dX12_together_0 (by decide) ?_
  refine zr_istore_n [(2, .int 0), (0, .ref x0), (1, .int x1)] dX12_together_1 (Nat.le_of_ble_eq_true rfl) rfl ?_
  refine zr_iconst 0 dX12_together_2 (by decide) ?_
  refine zr_istore_n [(3, .int 0), (2, .int 0), (0, .ref x0), (1, .int x1)] dX12_together_3 (Nat.le_of_ble_eq_true rfl) rfl ?_
  replace hf := zb1_s hf
  obtain ⟨x2_5, hg, hf⟩ := hf
  have hj6 : zz K cX12_together (4, RX12, some .int, 1, 0, 0, some (.int r), μ) 0 0 33 [(2, .int x2_5)] [] μ := by
    refine zr_iload_n 0 dX12_together_33 rfl ?_
    cases hf
    exact zr_iret dX12_together_34
  clear hf
  have hf := hg
  clear hg
  have hL13 : ∀ (n : Nat) (x2_1 : Int32) (x3_2 : Int32), zf2 (fX12_together_l4 μ x0 x1) n x2_1 x3_2 = some x2_5 → zz K cX12_together (4, RX12, some .int, 1, 0, 0, some (.int r), μ) 0 0 4 [(0, .ref x0), (1, .int x1), (2, .int x2_1), (3, .int x3_2)] [] μ := by
    intro n
    induction n with
    | zero => intro x2_1 x3_2 hf; cases hf
    | succ n ih4 =>
      intro x2_1 x3_2 hf
      replace hf := zf2_s hf
      generalize zf2 (fX12_together_l4 μ x0 x1) n = F3 at hf ih4
      unfold fX12_together_l4 at hf
      refine zr_iload_n 3 dX12_together_4 rfl ?_
      refine zr_aload_n 0 dX12_together_5 rfl ?_
      replace hf := zb1_s hf
      obtain ⟨v7, h8, hf⟩ := hf
      refine zr_get (zm_gI_g h8) zk12 (by decide) zl_921 dX12_together_6 ?_
      refine zr_icmp_ge 33 dX12_together_9 (by decide) (fun hc => ?_) (fun hc => ?_)
      · rw [if_pos hc] at hf
        cases hf
        exact zr_lv [2] rfl hj6
      · rw [if_neg hc] at hf
        refine zr_iload_n 2 dX12_together_12 rfl ?_
        refine zr_iload_n 1 dX12_together_13 rfl ?_
        refine zr_aload_n 0 dX12_together_14 rfl ?_
        refine zr_bipush 33 dX12_together_15 (by decide) ?_
        refine zr_iload_n 3 dX12_together_17 rfl ?_
        refine zr_iadd dX12_together_18 ?_
        replace hf := zb1_s hf
        obtain ⟨v10, h9, hf⟩ := hf
        refine zr_callV (ci := 12) [.int (33 + x3_2)] (cX12_of_ok h9) zvs_X12_of zl_918 zl_919 (fX12_of_ck h9) rfl rfl zl_917 rfl (Nat.le_of_ble_eq_true rfl) (Nat.le_of_ble_eq_true rfl) (Nat.le_of_ble_eq_true rfl) (Nat.le_of_ble_eq_true rfl) dX12_together_19 rfl ?_
        replace hf := zb1_s hf
        obtain ⟨v12, h11, hf⟩ := hf
        refine zr_callS [.int x1, .int v10] (cX12_apart_ok h11) zvs_X12_apart zl_928 zl_927 rfl (Nat.le_of_ble_eq_true rfl) (Nat.le_of_ble_eq_true rfl) (Nat.le_of_ble_eq_true rfl) (Nat.le_of_ble_eq_true rfl) dX12_together_22 rfl ?_
        refine zr_iadd dX12_together_25 ?_
        refine zr_istore_n [(2, .int (x2_1 + v12)), (0, .ref x0), (1, .int x1), (3, .int x3_2)] dX12_together_26 (Nat.le_of_ble_eq_true rfl) rfl ?_
        refine zr_iinc (j := 3) (x3_2 + 1) [(3, .int (x3_2 + 1)), (2, .int (x2_1 + v12)), (0, .ref x0), (1, .int x1)] dX12_together_27 rfl rfl (Nat.le_of_ble_eq_true rfl) rfl ?_
        refine zr_goto 4 dX12_together_30 (by decide) ?_
        exact zr_lv [2, 3, 1, 0] rfl (ih4 (x2_1 + v12) (x3_2 + 1) hf)
  exact zr_lv [2, 3, 1, 0] rfl (hL13 _ 0 0 hf)
theorem dX12_furthest_0 : decode cX12_furthest 0 = .ok (.iconst 0, 1) := by decide +kernel
theorem dX12_furthest_1 : decode cX12_furthest 1 = .ok (.istore_n 2, 1) := by decide +kernel
theorem dX12_furthest_2 : decode cX12_furthest 2 = .ok (.iconst 0, 1) := by decide +kernel
theorem dX12_furthest_3 : decode cX12_furthest 3 = .ok (.istore_n 3, 1) := by decide +kernel
theorem dX12_furthest_4 : decode cX12_furthest 4 = .ok (.iload_n 3, 1) := by decide +kernel
theorem dX12_furthest_5 : decode cX12_furthest 5 = .ok (.aload_n 0, 1) := by decide +kernel
theorem dX12_furthest_6 : decode cX12_furthest 6 = .ok (.getfield 276, 3) := by decide +kernel
theorem dX12_furthest_9 : decode cX12_furthest 9 = .ok (.if_icmp .ge 26, 3) := by decide +kernel
theorem dX12_furthest_12 : decode cX12_furthest 12 = .ok (.iload_n 2, 1) := by decide +kernel
theorem dX12_furthest_13 : decode cX12_furthest 13 = .ok (.iload_n 1, 1) := by decide +kernel
theorem dX12_furthest_14 : decode cX12_furthest 14 = .ok (.aload_n 0, 1) := by decide +kernel
theorem dX12_furthest_15 : decode cX12_furthest 15 = .ok (.bipush 33, 2) := by decide +kernel
theorem dX12_furthest_17 : decode cX12_furthest 17 = .ok (.iload_n 3, 1) := by decide +kernel
theorem dX12_furthest_18 : decode cX12_furthest 18 = .ok (.iadd, 1) := by decide +kernel
theorem dX12_furthest_19 : decode cX12_furthest 19 = .ok (.invokevirtual 269, 3) := by decide +kernel
theorem dX12_furthest_22 : decode cX12_furthest 22 = .ok (.invokestatic 282, 3) := by decide +kernel
theorem dX12_furthest_25 : decode cX12_furthest 25 = .ok (.invokestatic 168, 3) := by decide +kernel
theorem dX12_furthest_28 : decode cX12_furthest 28 = .ok (.istore_n 2, 1) := by decide +kernel
theorem dX12_furthest_29 : decode cX12_furthest 29 = .ok (.iinc 3 1, 3) := by decide +kernel
theorem dX12_furthest_32 : decode cX12_furthest 32 = .ok (.goto (-28), 3) := by decide +kernel
theorem dX12_furthest_35 : decode cX12_furthest 35 = .ok (.iload_n 2, 1) := by decide +kernel
theorem dX12_furthest_36 : decode cX12_furthest 36 = .ok (.ireturn, 1) := by decide +kernel
def fX12_furthest_l4 (μ : zM) (x0 : Nat) (x1 : Int32) (F3 : Int32 → Int32 → Option (Int32)) (x2_1 : Int32) (x3_2 : Int32) : Option (Int32) :=
  zb1 (zm_gI μ 12 x0 25) fun v7 =>
  if v7 ≤ x3_2 then (
  some x2_1)
  else (
  zb1 (fX12_of μ x0 (33 + x3_2)) fun v10 =>
  zb1 (fX12_apart μ x1 v10) fun v12 =>
  zb1 (fX12_greater μ x2_1 v12) fun v14 =>
  F3 v14 (x3_2 + 1))
def fX12_furthest (μ : zM) (x0 : Nat) (x1 : Int32) : Option (Int32) := zgd (zm_ck μ 12 x0) <|
  zb1 (zf2 (fX12_furthest_l4 μ x0 x1) zfu 0 0) fun x2_5 =>
  some x2_5
theorem fX12_furthest_ck {μ : zM} {x0 : Nat} {x1 : Int32} {z : Int32} (h : fX12_furthest μ x0 x1 = some z) : zm_ck μ 12 x0 = true := (zgd_s h).1
set_option maxHeartbeats 4000000 in
set_option maxRecDepth 100000 in
theorem cX12_furthest_ok {μ : zM} {x0 : Nat} {x1 : Int32} {r : Int32} (hf : fX12_furthest μ x0 x1 = some r) : zC yX12_furthest cX12_furthest 4 (some .int) 1 0 0 [.ref x0, .int x1] μ (some (.int r)) μ := by
  replace hf := (zgd_s hf).2
  refine zC.of (by decide) (Nat.le_of_ble_eq_true rfl) (fun K hin => ?_)
  clear hin
  show zz K cX12_furthest (4, RX12, some .int, 1, 0, 0, some (.int r), μ) 0 0 0 [(0, .ref x0), (1, .int x1)] [] μ
  refine zr_iconst 0 dX12_furthest_0 (by decide) ?_
  refine zr_istore_n [(2, .int 0), (0, .ref x0), (1, .int x1)] dX12_furthest_1 (Nat.le_of_ble_eq_true rfl) rfl ?_
  refine zr_iconst 0 dX12_furthest_2 (by decide) ?_
  refine zr_istore_n [(3, .int 0), (2, .int 0), (0, .ref x0), (1, .int x1)] dX12_furthest_3 (Nat.le_of_ble_eq_true rfl) rfl ?_
  replace hf := zb1_s hf
  obtain ⟨x2_5, hg, hf⟩ := hf
  have hj6 : zz K cX12_furthest (4, RX12, some .int, 1, 0, 0, some (.int r), μ) 0 0 35 [(2, .int x2_5)] [] μ := by
    refine zr_iload_n 0 dX12_furthest_35 rfl ?_
    cases hf
    exact zr_iret dX12_furthest_36
  clear hf
  have hf := hg
  clear hg
  have hL15 : ∀ (n : Nat) (x2_1 : Int32) (x3_2 : Int32), zf2 (fX12_furthest_l4 μ x0 x1) n x2_1 x3_2 = some x2_5 → zz K cX12_furthest (4, RX12, some .int, 1, 0, 0, some (.int r), μ) 0 0 4 [(0, .ref x0), (1, .int x1), (2, .int x2_1), (3, .int x3_2)] [] μ := by
    intro n
    induction n with
    | zero => intro x2_1 x3_2 hf; cases hf
    | succ n ih4 =>
      intro x2_1 x3_2 hf
      replace hf := zf2_s hf
      generalize zf2 (fX12_furthest_l4 μ x0 x1) n = F3 at hf ih4
      unfold fX12_furthest_l4 at hf
      refine zr_iload_n 3 dX12_furthest_4 rfl ?_
      refine zr_aload_n 0 dX12_furthest_5 rfl ?_
      replace hf := zb1_s hf
      obtain ⟨v7, h8, hf⟩ := hf
      refine zr_get (zm_gI_g h8) zk12 (by decide) zl_921 dX12_furthest_6 ?_
      refine zr_icmp_ge 35 dX12_furthest_9 (by decide) (fun hc => ?_) (fun hc => ?_)
      · rw [if_pos hc] at hf
        cases hf
        exact zr_lv [2] rfl hj6
      · rw [if_neg hc] at hf
        refine zr_iload_n 2 dX12_furthest_12 rfl ?_
        refine zr_iload_n 1 dX12_furthest_13 rfl ?_
        refine zr_aload_n 0 dX12_furthest_14 rfl ?_
        refine zr_bipush 33 dX12_furthest_15 (by decide) ?_
        refine zr_iload_n 3 dX12_furthest_17 rfl ?_
        refine zr_iadd dX12_furthest_18 ?_
        replace hf := zb1_s hf
        obtain ⟨v10, h9, hf⟩ := hf
        refine zr_callV (ci := 12) [.int (33 + x3_2)] (cX12_of_ok h9) zvs_X12_of zl_918 zl_919 (fX12_of_ck h9) rfl rfl zl_917 rfl (Nat.le_of_ble_eq_true rfl) (Nat.le_of_ble_eq_true rfl) (Nat.le_of_ble_eq_true rfl) (Nat.le_of_ble_eq_true rfl) dX12_furthest_19 rfl ?_
        replace hf := zb1_s hf
        obtain ⟨v12, h11, hf⟩ := hf
        refine zr_callS [.int x1, .int v10] (cX12_apart_ok h11) zvs_X12_apart zl_928 zl_927 rfl (Nat.le_of_ble_eq_true rfl) (Nat.le_of_ble_eq_true rfl) (Nat.le_of_ble_eq_true rfl) (Nat.le_of_ble_eq_true rfl) dX12_furthest_22 rfl ?_
        replace hf := zb1_s hf
        obtain ⟨v14, h13, hf⟩ := hf
        refine zr_callS [.int x2_1, .int v12] (cX12_greater_ok h13) zvs_X12_greater zl_829 zl_828 rfl (Nat.le_of_ble_eq_true rfl) (Nat.le_of_ble_eq_true rfl) (Nat.le_of_ble_eq_true rfl) (Nat.le_of_ble_eq_true rfl) dX12_furthest_25 rfl ?_
        refine zr_istore_n [(2, .int v14), (0, .ref x0), (1, .int x1), (3, .int x3_2)] dX12_furthest_28 (Nat.le_of_ble_eq_true rfl) rfl ?_
        refine zr_iinc (j := 3) (x3_2 + 1) [(3, .int (x3_2 + 1)), (2, .int v14), (0, .ref x0), (1, .int x1)] dX12_furthest_29 rfl rfl (Nat.le_of_ble_eq_true rfl) rfl ?_
        refine zr_goto 4 dX12_furthest_32 (by decide) ?_
        exact zr_lv [2, 3, 1, 0] rfl (ih4 v14 (x3_2 + 1) hf)
  exact zr_lv [2, 3, 1, 0] rfl (hL15 _ 0 0 hf)
theorem zl_1173 : Cond.code yX12_together cX12_together 4 (some .int) ∈ zt := zt_at 1981 (by decide +kernel)
theorem zvs_X12_together : zvS yX12_together cX12_together 4 (some .int) 1 := ⟨zl_1173, zl_782, ⟨by decide +kernel, by decide +kernel, by decide +kernel⟩, by decide⟩
theorem zl_1174 : Cond.methodLink RX12 508 yX12_together ∈ zt := zt_at 1978 (by decide +kernel)
theorem zl_1175 : Cond.instanceMethod yX12_together ∈ zt := zt_at 1980 (by decide +kernel)
theorem zl_1176 : Cond.selects RX12 yX12_together yX12_together ∈ zt := zt_at 122 (by decide +kernel)
theorem zl_1177 : Cond.code yX12_furthest cX12_furthest 4 (some .int) ∈ zt := zt_at 1985 (by decide +kernel)
theorem zvs_X12_furthest : zvS yX12_furthest cX12_furthest 4 (some .int) 1 := ⟨zl_1177, zl_782, ⟨by decide +kernel, by decide +kernel, by decide +kernel⟩, by decide⟩
theorem zl_1178 : Cond.methodLink RX12 511 yX12_furthest ∈ zt := zt_at 1982 (by decide +kernel)
theorem zl_1179 : Cond.instanceMethod yX12_furthest ∈ zt := zt_at 1984 (by decide +kernel)
theorem zl_1180 : Cond.selects RX12 yX12_furthest yX12_furthest ∈ zt := zt_at 123 (by decide +kernel)
theorem dX12_middle_0 : decode cX12_middle 0 = .ok (.aload_n 0, 1) := by decide +kernel
theorem dX12_middle_1 : decode cX12_middle 1 = .ok (.iconst 0, 1) := by decide +kernel
theorem dX12_middle_2 : decode cX12_middle 2 = .ok (.putfield 93, 3) := by decide +kernel
theorem dX12_middle_5 : decode cX12_middle 5 = .ok (.aload_n 0, 1) := by decide +kernel
theorem dX12_middle_6 : decode cX12_middle 6 = .ok (.iload_n 1, 1) := by decide +kernel
theorem dX12_middle_7 : decode cX12_middle 7 = .ok (.invokevirtual 298, 3) := by decide +kernel
theorem dX12_middle_10 : decode cX12_middle 10 = .ok (.ifCond .eq 12, 3) := by decide +kernel
theorem dX12_middle_13 : decode cX12_middle 13 = .ok (.iload_n 2, 1) := by decide +kernel
theorem dX12_middle_14 : decode cX12_middle 14 = .ok (.iconst 0, 1) := by decide +kernel
theorem dX12_middle_15 : decode cX12_middle 15 = .ok (.iconst 3, 1) := by decide +kernel
theorem dX12_middle_16 : decode cX12_middle 16 = .ok (.invokestatic 101, 3) := by decide +kernel
theorem dX12_middle_19 : decode cX12_middle 19 = .ok (.ifCond .ne 5, 3) := by decide +kernel
theorem dX12_middle_22 : decode cX12_middle 22 = .ok (.iconst (-1), 1) := by decide +kernel
theorem dX12_middle_23 : decode cX12_middle 23 = .ok (.ireturn, 1) := by decide +kernel
theorem dX12_middle_24 : decode cX12_middle 24 = .ok (.iconst 0, 1) := by decide +kernel
theorem dX12_middle_25 : decode cX12_middle 25 = .ok (.istore_n 3, 1) := by decide +kernel
theorem dX12_middle_26 : decode cX12_middle 26 = .ok (.iconst 0, 1) := by decide +kernel
theorem dX12_middle_27 : decode cX12_middle 27 = .ok (.istore 4, 2) := by decide +kernel
theorem dX12_middle_29 : decode cX12_middle 29 = .ok (.iconst 1, 1) := by decide +kernel
theorem dX12_middle_30 : decode cX12_middle 30 = .ok (.istore 5, 2) := by decide +kernel
theorem dX12_middle_32 : decode cX12_middle 32 = .ok (.iload 5, 2) := by decide +kernel
theorem dX12_middle_34 : decode cX12_middle 34 = .ok (.aload_n 0, 1) := by decide +kernel
theorem dX12_middle_35 : decode cX12_middle 35 = .ok (.getfield 273, 3) := by decide +kernel
theorem dX12_middle_38 : decode cX12_middle 38 = .ok (.if_icmp .gt 54, 3) := by decide +kernel
theorem dX12_middle_41 : decode cX12_middle 41 = .ok (.aload_n 0, 1) := by decide +kernel
theorem dX12_middle_42 : decode cX12_middle 42 = .ok (.iload 5, 2) := by decide +kernel
theorem dX12_middle_44 : decode cX12_middle 44 = .ok (.invokevirtual 508, 3) := by decide +kernel
theorem dX12_middle_47 : decode cX12_middle 47 = .ok (.aload_n 0, 1) := by decide +kernel
theorem dX12_middle_48 : decode cX12_middle 48 = .ok (.iload_n 3, 1) := by decide +kernel
theorem dX12_middle_49 : decode cX12_middle 49 = .ok (.invokevirtual 508, 3) := by decide +kernel
theorem dX12_middle_52 : decode cX12_middle 52 = .ok (.if_icmp .ge 8, 3) := by decide +kernel
theorem dX12_middle_55 : decode cX12_middle 55 = .ok (.iload 5, 2) := by decide +kernel
theorem dX12_middle_57 : decode cX12_middle 57 = .ok (.goto 4, 3) := by decide +kernel
theorem dX12_middle_60 : decode cX12_middle 60 = .ok (.iload_n 3, 1) := by decide +kernel
theorem dX12_middle_61 : decode cX12_middle 61 = .ok (.istore_n 3, 1) := by decide +kernel
theorem dX12_middle_62 : decode cX12_middle 62 = .ok (.aload_n 0, 1) := by decide +kernel
theorem dX12_middle_63 : decode cX12_middle 63 = .ok (.iload 5, 2) := by decide +kernel
theorem dX12_middle_65 : decode cX12_middle 65 = .ok (.invokevirtual 511, 3) := by decide +kernel
theorem dX12_middle_68 : decode cX12_middle 68 = .ok (.aload_n 0, 1) := by decide +kernel
theorem dX12_middle_69 : decode cX12_middle 69 = .ok (.iload 4, 2) := by decide +kernel
theorem dX12_middle_71 : decode cX12_middle 71 = .ok (.invokevirtual 511, 3) := by decide +kernel
theorem dX12_middle_74 : decode cX12_middle 74 = .ok (.if_icmp .ge 8, 3) := by decide +kernel
theorem dX12_middle_77 : decode cX12_middle 77 = .ok (.iload 5, 2) := by decide +kernel
theorem dX12_middle_79 : decode cX12_middle 79 = .ok (.goto 5, 3) := by decide +kernel
theorem dX12_middle_82 : decode cX12_middle 82 = .ok (.iload 4, 2) := by decide +kernel
theorem dX12_middle_84 : decode cX12_middle 84 = .ok (.istore 4, 2) := by decide +kernel
theorem dX12_middle_86 : decode cX12_middle 86 = .ok (.iinc 5 1, 3) := by decide +kernel
theorem dX12_middle_89 : decode cX12_middle 89 = .ok (.goto (-57), 3) := by decide +kernel
theorem dX12_middle_92 : decode cX12_middle 92 = .ok (.iload_n 2, 1) := by decide +kernel
theorem dX12_middle_93 : decode cX12_middle 93 = .ok (.ifCond .ne 7, 3) := by decide +kernel
theorem dX12_middle_96 : decode cX12_middle 96 = .ok (.iload_n 3, 1) := by decide +kernel
theorem dX12_middle_97 : decode cX12_middle 97 = .ok (.goto 32, 3) := by decide +kernel
theorem dX12_middle_100 : decode cX12_middle 100 = .ok (.iload_n 2, 1) := by decide +kernel
theorem dX12_middle_101 : decode cX12_middle 101 = .ok (.iconst 1, 1) := by decide +kernel
theorem dX12_middle_102 : decode cX12_middle 102 = .ok (.if_icmp .ne 11, 3) := by decide +kernel
theorem dX12_middle_105 : decode cX12_middle 105 = .ok (.aload_n 0, 1) := by decide +kernel
theorem dX12_middle_106 : decode cX12_middle 106 = .ok (.iload_n 3, 1) := by decide +kernel
theorem dX12_middle_107 : decode cX12_middle 107 = .ok (.invokevirtual 508, 3) := by decide +kernel
theorem dX12_middle_110 : decode cX12_middle 110 = .ok (.goto 19, 3) := by decide +kernel
theorem dX12_middle_113 : decode cX12_middle 113 = .ok (.iload_n 2, 1) := by decide +kernel
theorem dX12_middle_114 : decode cX12_middle 114 = .ok (.iconst 2, 1) := by decide +kernel
theorem dX12_middle_115 : decode cX12_middle 115 = .ok (.if_icmp .ne 8, 3) := by decide +kernel
theorem dX12_middle_118 : decode cX12_middle 118 = .ok (.iload 4, 2) := by decide +kernel
theorem dX12_middle_120 : decode cX12_middle 120 = .ok (.goto 9, 3) := by decide +kernel
theorem dX12_middle_123 : decode cX12_middle 123 = .ok (.aload_n 0, 1) := by decide +kernel
theorem dX12_middle_124 : decode cX12_middle 124 = .ok (.iload 4, 2) := by decide +kernel
theorem dX12_middle_126 : decode cX12_middle 126 = .ok (.invokevirtual 511, 3) := by decide +kernel
theorem dX12_middle_129 : decode cX12_middle 129 = .ok (.ireturn, 1) := by decide +kernel
def fX12_middle_l32 (m4 : zM) (x0 : Nat) (F11 : Int32 → Int32 → Int32 → Option (Int32 × Int32)) (x3_8 : Int32) (x4_9 : Int32) (x5_10 : Int32) : Option (Int32 × Int32) :=
  zb1 (zm_gI m4 12 x0 24) fun v16 =>
  if v16 < x5_10 then (
  some (x3_8, x4_9))
  else (
  zb1 (fX12_together m4 x0 x5_10) fun v19 =>
  zb1 (fX12_together m4 x0 x3_8) fun v21 =>
  zb1 (if v21 ≤ v19 then (
  some x3_8)
  else (
  some x5_10)) fun s22 =>
  zb1 (fX12_furthest m4 x0 x5_10) fun v25 =>
  zb1 (fX12_furthest m4 x0 x4_9) fun v27 =>
  zb1 (if v27 ≤ v25 then (
  some x4_9)
  else (
  some x5_10)) fun s28 =>
  F11 s22 s28 (x5_10 + 1))
def fX12_middle (μ : zM) (x0 : Nat) (x1 : Int32) (x2 : Int32) : Option (Int32 × zM) := zgd (zm_ck μ 12 x0) <|
  zb1 (zm_p μ 12 x0 0 (.int 0)) fun m1 =>
  zb2 (fX12_hand m1 x0 x1) fun v5 m4 =>
  if v5 = 0 then (
  some ((-1), m4))
  else (
  zb1 (fX12_in m4 x2 0 3) fun v7 =>
  if v7 = 0 then (
  some ((-1), m4))
  else (
  zb2 (zf3 (fX12_middle_l32 m4 x0) zfu 0 0 1) fun x3_13 x4_14 =>
  zb1 (if x2 = 0 then (
  some x3_13)
  else (
  if x2 = 1 then (
  zb1 (fX12_together m4 x0 x3_13) fun v36 =>
  some v36)
  else (
  if x2 = 2 then (
  some x4_14)
  else (
  zb1 (fX12_furthest m4 x0 x4_14) fun v34 =>
  some v34)))) fun s31 =>
  some (s31, m4)))
theorem fX12_middle_ck {μ : zM} {x0 : Nat} {x1 : Int32} {x2 : Int32} {z : Int32 × zM} (h : fX12_middle μ x0 x1 x2 = some z) : zm_ck μ 12 x0 = true := (zgd_s h).1
set_option maxHeartbeats 4000000 in
set_option maxRecDepth 100000 in
theorem cX12_middle_ok {μ : zM} {x0 : Nat} {x1 : Int32} {x2 : Int32} {r : Int32} {mo : zM} (hf : fX12_middle μ x0 x1 x2 = some (r, mo)) : zC yX12_middle cX12_middle 6 (some .int) 3 0 0 [.ref x0, .int x1, .int x2] μ (some (.int r)) mo := by
  replace hf := (zgd_s hf).2
  refine zC.of (by decide) (Nat.le_of_ble_eq_true rfl) (fun K hin => ?_)
  clear hin
  show zz K cX12_middle (6, RX12, some .int, 3, 0, 0, some (.int r), mo) 0 0 0 [(0, .ref x0), (1, .int x1), (2, .int x2)] [] μ
  refine zr_aload_n 0 dX12_middle_0 rfl ?_
  refine zr_iconst 0 dX12_middle_1 (by decide) ?_
  replace hf := zb1_s hf
  obtain ⟨m1, h2, hf⟩ := hf
  refine zr_put h2 zk12 (by decide) zl_788 rfl rfl rfl dX12_middle_2 ?_
  refine zr_aload_n 0 dX12_middle_5 rfl ?_
  refine zr_iload_n 1 dX12_middle_6 rfl ?_
  replace hf := zb2_s hf
  obtain ⟨v5, m4, h3, hf⟩ := hf
  refine zr_callV (ci := 12) [.int x1] (cX12_hand_ok h3) zvs_X12_hand zl_946 zl_947 (fX12_hand_ck h3) rfl rfl zl_945 rfl (Nat.le_of_ble_eq_true rfl) (Nat.le_of_ble_eq_true rfl) (Nat.le_of_ble_eq_true rfl) (Nat.le_of_ble_eq_true rfl) dX12_middle_7 rfl ?_
  refine zr_if_eq 22 dX12_middle_10 (by decide) (fun hc => ?_) (fun hc => ?_)
  · rw [if_pos hc] at hf
    refine zr_iconst (-1) dX12_middle_22 (by decide) ?_
    cases hf
    exact zr_iret dX12_middle_23
  · rw [if_neg hc] at hf
    refine zr_iload_n 2 dX12_middle_13 rfl ?_
    refine zr_iconst 0 dX12_middle_14 (by decide) ?_
    refine zr_iconst 3 dX12_middle_15 (by decide) ?_
    replace hf := zb1_s hf
    obtain ⟨v7, h6, hf⟩ := hf
    refine zr_callS [.int x2, .int 0, .int 3] (cX12_in_ok h6) zvs_X12_in zl_787 zl_786 rfl (Nat.le_of_ble_eq_true rfl) (Nat.le_of_ble_eq_true rfl) (Nat.le_of_ble_eq_true rfl) (Nat.le_of_ble_eq_true rfl) dX12_middle_16 rfl ?_
    refine zr_if_ne 24 dX12_middle_19 (by decide) (fun hc => ?_) (fun hc => ?_)
    · rw [if_neg hc] at hf
      refine zr_iconst 0 dX12_middle_24 (by decide) ?_
      refine zr_istore_n [(3, .int 0), (0, .ref x0), (1, .int x1), (2, .int x2)] dX12_middle_25 (Nat.le_of_ble_eq_true rfl) rfl ?_
      refine zr_iconst 0 dX12_middle_26 (by decide) ?_
      refine zr_istore [(4, .int 0), (3, .int 0), (0, .ref x0), (1, .int x1), (2, .int x2)] dX12_middle_27 (Nat.le_of_ble_eq_true rfl) rfl ?_
      refine zr_iconst 1 dX12_middle_29 (by decide) ?_
      refine zr_istore [(5, .int 1), (4, .int 0), (3, .int 0), (0, .ref x0), (1, .int x1), (2, .int x2)] dX12_middle_30 (Nat.le_of_ble_eq_true rfl) rfl ?_
      replace hf := zb2_s hf
      obtain ⟨x3_13, x4_14, hg, hf⟩ := hf
      have hj15 : zz K cX12_middle (6, RX12, some .int, 3, 0, 0, some (.int r), mo) 0 0 92 [(0, .ref x0), (2, .int x2), (3, .int x3_13), (4, .int x4_14)] [] m4 := by
        refine zr_iload_n 1 dX12_middle_92 rfl ?_
        replace hf := zb1_s hf
        obtain ⟨s31, hg, hf⟩ := hf
        have hj32 : zz K cX12_middle (6, RX12, some .int, 3, 0, 0, some (.int r), mo) 0 0 129 [] [.int s31] m4 := by
          cases hf
          exact zr_iret dX12_middle_129
        clear hf
        have hf := hg
        clear hg
        refine zr_if_ne 100 dX12_middle_93 (by decide) (fun hc => ?_) (fun hc => ?_)
        · rw [if_neg hc] at hf
          refine zr_iload_n 1 dX12_middle_100 rfl ?_
          refine zr_iconst 1 dX12_middle_101 (by decide) ?_
          refine zr_icmp_ne 113 dX12_middle_102 (by decide) (fun hc => ?_) (fun hc => ?_)
          · rw [if_neg hc] at hf
            refine zr_iload_n 1 dX12_middle_113 rfl ?_
            refine zr_iconst 2 dX12_middle_114 (by decide) ?_
            refine zr_icmp_ne 123 dX12_middle_115 (by decide) (fun hc => ?_) (fun hc => ?_)
            · rw [if_neg hc] at hf
              refine zr_aload_n 0 dX12_middle_123 rfl ?_
              refine zr_iload 3 dX12_middle_124 rfl ?_
              replace hf := zb1_s hf
              obtain ⟨v34, h33, hf⟩ := hf
              refine zr_callV (ci := 12) [.int x4_14] (cX12_furthest_ok h33) zvs_X12_furthest zl_1179 zl_1180 (fX12_furthest_ck h33) rfl rfl zl_1178 rfl (Nat.le_of_ble_eq_true rfl) (Nat.le_of_ble_eq_true rfl) (Nat.le_of_ble_eq_true rfl) (Nat.le_of_ble_eq_true rfl) dX12_middle_126 rfl ?_
              cases hf
              exact zr_lv [] rfl hj32
            · rw [if_pos hc] at hf
              refine zr_iload 3 dX12_middle_118 rfl ?_
              refine zr_goto 129 dX12_middle_120 (by decide) ?_
              cases hf
              exact zr_lv [] rfl hj32
          · rw [if_pos hc] at hf
            refine zr_aload_n 0 dX12_middle_105 rfl ?_
            refine zr_iload_n 2 dX12_middle_106 rfl ?_
            replace hf := zb1_s hf
            obtain ⟨v36, h35, hf⟩ := hf
            refine zr_callV (ci := 12) [.int x3_13] (cX12_together_ok h35) zvs_X12_together zl_1175 zl_1176 (fX12_together_ck h35) rfl rfl zl_1174 rfl (Nat.le_of_ble_eq_true rfl) (Nat.le_of_ble_eq_true rfl) (Nat.le_of_ble_eq_true rfl) (Nat.le_of_ble_eq_true rfl) dX12_middle_107 rfl ?_
            refine zr_goto 129 dX12_middle_110 (by decide) ?_
            cases hf
            exact zr_lv [] rfl hj32
        · rw [if_pos hc] at hf
          refine zr_iload_n 2 dX12_middle_96 rfl ?_
          refine zr_goto 129 dX12_middle_97 (by decide) ?_
          cases hf
          exact zr_lv [] rfl hj32
      clear hf
      have hf := hg
      clear hg
      have hL30 : ∀ (n : Nat) (x3_8 : Int32) (x4_9 : Int32) (x5_10 : Int32), zf3 (fX12_middle_l32 m4 x0) n x3_8 x4_9 x5_10 = some (x3_13, x4_14) → zz K cX12_middle (6, RX12, some .int, 3, 0, 0, some (.int r), mo) 0 0 32 [(0, .ref x0), (2, .int x2), (3, .int x3_8), (4, .int x4_9), (5, .int x5_10)] [] m4 := by
        intro n
        induction n with
        | zero => intro x3_8 x4_9 x5_10 hf; cases hf
        | succ n ih12 =>
          intro x3_8 x4_9 x5_10 hf
          replace hf := zf3_s hf
          generalize zf3 (fX12_middle_l32 m4 x0) n = F11 at hf ih12
          unfold fX12_middle_l32 at hf
          refine zr_iload 4 dX12_middle_32 rfl ?_
          refine zr_aload_n 0 dX12_middle_34 rfl ?_
          replace hf := zb1_s hf
          obtain ⟨v16, h17, hf⟩ := hf
          refine zr_get (zm_gI_g h17) zk12 (by decide) zl_920 dX12_middle_35 ?_
          refine zr_icmp_gt 92 dX12_middle_38 (by decide) (fun hc => ?_) (fun hc => ?_)
          · rw [if_pos hc] at hf
            cases hf
            exact zr_lv [0, 1, 2, 3] rfl hj15
          · rw [if_neg hc] at hf
            refine zr_aload_n 0 dX12_middle_41 rfl ?_
            refine zr_iload 4 dX12_middle_42 rfl ?_
            replace hf := zb1_s hf
            obtain ⟨v19, h18, hf⟩ := hf
            refine zr_callV (ci := 12) [.int x5_10] (cX12_together_ok h18) zvs_X12_together zl_1175 zl_1176 (fX12_together_ck h18) rfl rfl zl_1174 rfl (Nat.le_of_ble_eq_true rfl) (Nat.le_of_ble_eq_true rfl) (Nat.le_of_ble_eq_true rfl) (Nat.le_of_ble_eq_true rfl) dX12_middle_44 rfl ?_
            refine zr_aload_n 0 dX12_middle_47 rfl ?_
            refine zr_iload_n 2 dX12_middle_48 rfl ?_
            replace hf := zb1_s hf
            obtain ⟨v21, h20, hf⟩ := hf
            refine zr_callV (ci := 12) [.int x3_8] (cX12_together_ok h20) zvs_X12_together zl_1175 zl_1176 (fX12_together_ck h20) rfl rfl zl_1174 rfl (Nat.le_of_ble_eq_true rfl) (Nat.le_of_ble_eq_true rfl) (Nat.le_of_ble_eq_true rfl) (Nat.le_of_ble_eq_true rfl) dX12_middle_49 rfl ?_
            replace hf := zb1_s hf
            obtain ⟨s22, hg, hf⟩ := hf
            have hj23 : zz K cX12_middle (6, RX12, some .int, 3, 0, 0, some (.int r), mo) 0 0 61 [(0, .ref x0), (2, .int x2), (4, .int x4_9), (5, .int x5_10)] [.int s22] m4 := by
              refine zr_istore_n [(3, .int s22), (0, .ref x0), (2, .int x2), (4, .int x4_9), (5, .int x5_10)] dX12_middle_61 (Nat.le_of_ble_eq_true rfl) rfl ?_
              refine zr_aload_n 1 dX12_middle_62 rfl ?_
              refine zr_iload 4 dX12_middle_63 rfl ?_
              replace hf := zb1_s hf
              obtain ⟨v25, h24, hf⟩ := hf
              refine zr_callV (ci := 12) [.int x5_10] (cX12_furthest_ok h24) zvs_X12_furthest zl_1179 zl_1180 (fX12_furthest_ck h24) rfl rfl zl_1178 rfl (Nat.le_of_ble_eq_true rfl) (Nat.le_of_ble_eq_true rfl) (Nat.le_of_ble_eq_true rfl) (Nat.le_of_ble_eq_true rfl) dX12_middle_65 rfl ?_
              refine zr_aload_n 1 dX12_middle_68 rfl ?_
              refine zr_iload 3 dX12_middle_69 rfl ?_
              replace hf := zb1_s hf
              obtain ⟨v27, h26, hf⟩ := hf
              refine zr_callV (ci := 12) [.int x4_9] (cX12_furthest_ok h26) zvs_X12_furthest zl_1179 zl_1180 (fX12_furthest_ck h26) rfl rfl zl_1178 rfl (Nat.le_of_ble_eq_true rfl) (Nat.le_of_ble_eq_true rfl) (Nat.le_of_ble_eq_true rfl) (Nat.le_of_ble_eq_true rfl) dX12_middle_71 rfl ?_
              replace hf := zb1_s hf
              obtain ⟨s28, hg, hf⟩ := hf
              have hj29 : zz K cX12_middle (6, RX12, some .int, 3, 0, 0, some (.int r), mo) 0 0 84 [(0, .ref x0), (2, .int x2), (3, .int s22), (5, .int x5_10)] [.int s28] m4 := by
                refine zr_istore [(4, .int s28), (0, .ref x0), (2, .int x2), (3, .int s22), (5, .int x5_10)] dX12_middle_84 (Nat.le_of_ble_eq_true rfl) rfl ?_
                refine zr_iinc (j := 4) (x5_10 + 1) [(5, .int (x5_10 + 1)), (4, .int s28), (0, .ref x0), (2, .int x2), (3, .int s22)] dX12_middle_86 rfl rfl (Nat.le_of_ble_eq_true rfl) rfl ?_
                refine zr_goto 32 dX12_middle_89 (by decide) ?_
                exact zr_lv [2, 3, 4, 1, 0] rfl (ih12 s22 s28 (x5_10 + 1) hf)
              clear hf
              have hf := hg
              clear hg
              refine zr_icmp_ge 82 dX12_middle_74 (by decide) (fun hc => ?_) (fun hc => ?_)
              · rw [if_pos hc] at hf
                refine zr_iload 3 dX12_middle_82 rfl ?_
                cases hf
                exact zr_lv [1, 2, 0, 4] rfl hj29
              · rw [if_neg hc] at hf
                refine zr_iload 4 dX12_middle_77 rfl ?_
                refine zr_goto 84 dX12_middle_79 (by decide) ?_
                cases hf
                exact zr_lv [1, 2, 0, 4] rfl hj29
            clear hf
            have hf := hg
            clear hg
            refine zr_icmp_ge 60 dX12_middle_52 (by decide) (fun hc => ?_) (fun hc => ?_)
            · rw [if_pos hc] at hf
              refine zr_iload_n 2 dX12_middle_60 rfl ?_
              cases hf
              exact zr_lv [0, 1, 3, 4] rfl hj23
            · rw [if_neg hc] at hf
              refine zr_iload 4 dX12_middle_55 rfl ?_
              refine zr_goto 61 dX12_middle_57 (by decide) ?_
              cases hf
              exact zr_lv [0, 1, 3, 4] rfl hj23
      exact zr_lv [3, 5, 2, 1, 0] rfl (hL30 _ 0 0 1 hf)
    · rw [if_pos hc] at hf
      refine zr_iconst (-1) dX12_middle_22 (by decide) ?_
      cases hf
      exact zr_iret dX12_middle_23
theorem dX12_auction_0 : decode cX12_auction 0 = .ok (.aload_n 0, 1) := by decide +kernel
theorem dX12_auction_1 : decode cX12_auction 1 = .ok (.iconst 0, 1) := by decide +kernel
theorem dX12_auction_2 : decode cX12_auction 2 = .ok (.putfield 93, 3) := by decide +kernel
theorem dX12_auction_5 : decode cX12_auction 5 = .ok (.aload_n 0, 1) := by decide +kernel
theorem dX12_auction_6 : decode cX12_auction 6 = .ok (.iload_n 1, 1) := by decide +kernel
theorem dX12_auction_7 : decode cX12_auction 7 = .ok (.invokevirtual 298, 3) := by decide +kernel
theorem dX12_auction_10 : decode cX12_auction 10 = .ok (.ifCond .eq 12, 3) := by decide +kernel
theorem dX12_auction_13 : decode cX12_auction 13 = .ok (.aload_n 0, 1) := by decide +kernel
theorem dX12_auction_14 : decode cX12_auction 14 = .ok (.iload_n 2, 1) := by decide +kernel
theorem dX12_auction_15 : decode cX12_auction 15 = .ok (.iconst 0, 1) := by decide +kernel
theorem dX12_auction_16 : decode cX12_auction 16 = .ok (.invokevirtual 391, 3) := by decide +kernel
theorem dX12_auction_19 : decode cX12_auction 19 = .ok (.ifCond .ne 5, 3) := by decide +kernel
theorem dX12_auction_22 : decode cX12_auction 22 = .ok (.iconst (-1), 1) := by decide +kernel
theorem dX12_auction_23 : decode cX12_auction 23 = .ok (.ireturn, 1) := by decide +kernel
theorem dX12_auction_24 : decode cX12_auction 24 = .ok (.iconst (-1), 1) := by decide +kernel
theorem dX12_auction_25 : decode cX12_auction 25 = .ok (.istore 4, 2) := by decide +kernel
theorem dX12_auction_27 : decode cX12_auction 27 = .ok (.iconst 0, 1) := by decide +kernel
theorem dX12_auction_28 : decode cX12_auction 28 = .ok (.istore 5, 2) := by decide +kernel
theorem dX12_auction_30 : decode cX12_auction 30 = .ok (.iload 5, 2) := by decide +kernel
theorem dX12_auction_32 : decode cX12_auction 32 = .ok (.aload_n 0, 1) := by decide +kernel
theorem dX12_auction_33 : decode cX12_auction 33 = .ok (.getfield 276, 3) := by decide +kernel
theorem dX12_auction_36 : decode cX12_auction 36 = .ok (.if_icmp .ge 55, 3) := by decide +kernel
theorem dX12_auction_39 : decode cX12_auction 39 = .ok (.aload_n 0, 1) := by decide +kernel
theorem dX12_auction_40 : decode cX12_auction 40 = .ok (.iload 5, 2) := by decide +kernel
theorem dX12_auction_42 : decode cX12_auction 42 = .ok (.iconst 1, 1) := by decide +kernel
theorem dX12_auction_43 : decode cX12_auction 43 = .ok (.invokevirtual 391, 3) := by decide +kernel
theorem dX12_auction_46 : decode cX12_auction 46 = .ok (.ifCond .eq 35, 3) := by decide +kernel
theorem dX12_auction_49 : decode cX12_auction 49 = .ok (.iload 4, 2) := by decide +kernel
theorem dX12_auction_51 : decode cX12_auction 51 = .ok (.iconst (-1), 1) := by decide +kernel
theorem dX12_auction_52 : decode cX12_auction 52 = .ok (.if_icmp .eq 24, 3) := by decide +kernel
theorem dX12_auction_55 : decode cX12_auction 55 = .ok (.aload_n 0, 1) := by decide +kernel
theorem dX12_auction_56 : decode cX12_auction 56 = .ok (.bipush 39, 2) := by decide +kernel
theorem dX12_auction_58 : decode cX12_auction 58 = .ok (.iload 5, 2) := by decide +kernel
theorem dX12_auction_60 : decode cX12_auction 60 = .ok (.iadd, 1) := by decide +kernel
theorem dX12_auction_61 : decode cX12_auction 61 = .ok (.invokevirtual 269, 3) := by decide +kernel
theorem dX12_auction_64 : decode cX12_auction 64 = .ok (.aload_n 0, 1) := by decide +kernel
theorem dX12_auction_65 : decode cX12_auction 65 = .ok (.bipush 39, 2) := by decide +kernel
theorem dX12_auction_67 : decode cX12_auction 67 = .ok (.iload 4, 2) := by decide +kernel
theorem dX12_auction_69 : decode cX12_auction 69 = .ok (.iadd, 1) := by decide +kernel
theorem dX12_auction_70 : decode cX12_auction 70 = .ok (.invokevirtual 269, 3) := by decide +kernel
theorem dX12_auction_73 : decode cX12_auction 73 = .ok (.if_icmp .le 8, 3) := by decide +kernel
theorem dX12_auction_76 : decode cX12_auction 76 = .ok (.iload 5, 2) := by decide +kernel
theorem dX12_auction_78 : decode cX12_auction 78 = .ok (.goto 5, 3) := by decide +kernel
theorem dX12_auction_81 : decode cX12_auction 81 = .ok (.iload 4, 2) := by decide +kernel
theorem dX12_auction_83 : decode cX12_auction 83 = .ok (.istore 4, 2) := by decide +kernel
theorem dX12_auction_85 : decode cX12_auction 85 = .ok (.iinc 5 1, 3) := by decide +kernel
theorem dX12_auction_88 : decode cX12_auction 88 = .ok (.goto (-58), 3) := by decide +kernel
theorem dX12_auction_91 : decode cX12_auction 91 = .ok (.iload 4, 2) := by decide +kernel
theorem dX12_auction_93 : decode cX12_auction 93 = .ok (.iconst (-1), 1) := by decide +kernel
theorem dX12_auction_94 : decode cX12_auction 94 = .ok (.if_icmp .eq 23, 3) := by decide +kernel
theorem dX12_auction_97 : decode cX12_auction 97 = .ok (.aload_n 0, 1) := by decide +kernel
theorem dX12_auction_98 : decode cX12_auction 98 = .ok (.bipush 39, 2) := by decide +kernel
theorem dX12_auction_100 : decode cX12_auction 100 = .ok (.iload 4, 2) := by decide +kernel
theorem dX12_auction_102 : decode cX12_auction 102 = .ok (.iadd, 1) := by decide +kernel
theorem dX12_auction_103 : decode cX12_auction 103 = .ok (.invokevirtual 269, 3) := by decide +kernel
theorem dX12_auction_106 : decode cX12_auction 106 = .ok (.aload_n 0, 1) := by decide +kernel
theorem dX12_auction_107 : decode cX12_auction 107 = .ok (.bipush 39, 2) := by decide +kernel
theorem dX12_auction_109 : decode cX12_auction 109 = .ok (.iload_n 2, 1) := by decide +kernel
theorem dX12_auction_110 : decode cX12_auction 110 = .ok (.iadd, 1) := by decide +kernel
theorem dX12_auction_111 : decode cX12_auction 111 = .ok (.invokevirtual 269, 3) := by decide +kernel
theorem dX12_auction_114 : decode cX12_auction 114 = .ok (.if_icmp .ge 5, 3) := by decide +kernel
theorem dX12_auction_117 : decode cX12_auction 117 = .ok (.iconst (-1), 1) := by decide +kernel
theorem dX12_auction_118 : decode cX12_auction 118 = .ok (.ireturn, 1) := by decide +kernel
theorem dX12_auction_119 : decode cX12_auction 119 = .ok (.aload_n 0, 1) := by decide +kernel
theorem dX12_auction_120 : decode cX12_auction 120 = .ok (.bipush 39, 2) := by decide +kernel
theorem dX12_auction_122 : decode cX12_auction 122 = .ok (.iload_n 2, 1) := by decide +kernel
theorem dX12_auction_123 : decode cX12_auction 123 = .ok (.iadd, 1) := by decide +kernel
theorem dX12_auction_124 : decode cX12_auction 124 = .ok (.invokevirtual 269, 3) := by decide +kernel
theorem dX12_auction_127 : decode cX12_auction 127 = .ok (.istore 5, 2) := by decide +kernel
theorem dX12_auction_129 : decode cX12_auction 129 = .ok (.iconst 0, 1) := by decide +kernel
theorem dX12_auction_130 : decode cX12_auction 130 = .ok (.istore 6, 2) := by decide +kernel
theorem dX12_auction_132 : decode cX12_auction 132 = .ok (.iload 6, 2) := by decide +kernel
theorem dX12_auction_134 : decode cX12_auction 134 = .ok (.aload_n 0, 1) := by decide +kernel
theorem dX12_auction_135 : decode cX12_auction 135 = .ok (.getfield 276, 3) := by decide +kernel
theorem dX12_auction_138 : decode cX12_auction 138 = .ok (.if_icmp .ge 47, 3) := by decide +kernel
theorem dX12_auction_141 : decode cX12_auction 141 = .ok (.aload_n 0, 1) := by decide +kernel
theorem dX12_auction_142 : decode cX12_auction 142 = .ok (.iload 6, 2) := by decide +kernel
theorem dX12_auction_144 : decode cX12_auction 144 = .ok (.iconst 1, 1) := by decide +kernel
theorem dX12_auction_145 : decode cX12_auction 145 = .ok (.invokevirtual 391, 3) := by decide +kernel
theorem dX12_auction_148 : decode cX12_auction 148 = .ok (.ifCond .eq 27, 3) := by decide +kernel
theorem dX12_auction_151 : decode cX12_auction 151 = .ok (.iload 6, 2) := by decide +kernel
theorem dX12_auction_153 : decode cX12_auction 153 = .ok (.iload 4, 2) := by decide +kernel
theorem dX12_auction_155 : decode cX12_auction 155 = .ok (.if_icmp .eq 20, 3) := by decide +kernel
theorem dX12_auction_158 : decode cX12_auction 158 = .ok (.iload 5, 2) := by decide +kernel
theorem dX12_auction_160 : decode cX12_auction 160 = .ok (.aload_n 0, 1) := by decide +kernel
theorem dX12_auction_161 : decode cX12_auction 161 = .ok (.bipush 39, 2) := by decide +kernel
theorem dX12_auction_163 : decode cX12_auction 163 = .ok (.iload 6, 2) := by decide +kernel
theorem dX12_auction_165 : decode cX12_auction 165 = .ok (.iadd, 1) := by decide +kernel
theorem dX12_auction_166 : decode cX12_auction 166 = .ok (.invokevirtual 269, 3) := by decide +kernel
theorem dX12_auction_169 : decode cX12_auction 169 = .ok (.invokestatic 168, 3) := by decide +kernel
theorem dX12_auction_172 : decode cX12_auction 172 = .ok (.goto 5, 3) := by decide +kernel
theorem dX12_auction_175 : decode cX12_auction 175 = .ok (.iload 5, 2) := by decide +kernel
theorem dX12_auction_177 : decode cX12_auction 177 = .ok (.istore 5, 2) := by decide +kernel
theorem dX12_auction_179 : decode cX12_auction 179 = .ok (.iinc 6 1, 3) := by decide +kernel
theorem dX12_auction_182 : decode cX12_auction 182 = .ok (.goto (-50), 3) := by decide +kernel
theorem dX12_auction_185 : decode cX12_auction 185 = .ok (.iload_n 3, 1) := by decide +kernel
theorem dX12_auction_186 : decode cX12_auction 186 = .ok (.ifCond .eq 8, 3) := by decide +kernel
theorem dX12_auction_189 : decode cX12_auction 189 = .ok (.iload 5, 2) := by decide +kernel
theorem dX12_auction_191 : decode cX12_auction 191 = .ok (.goto 5, 3) := by decide +kernel
theorem dX12_auction_194 : decode cX12_auction 194 = .ok (.iload 4, 2) := by decide +kernel
theorem dX12_auction_196 : decode cX12_auction 196 = .ok (.ireturn, 1) := by decide +kernel
def fX12_auction_l30 (m4 : zM) (x0 : Nat) (F10 : Int32 → Int32 → Option (Int32)) (x4_8 : Int32) (x5_9 : Int32) : Option (Int32) :=
  zb1 (zm_gI m4 12 x0 25) fun v14 =>
  if v14 ≤ x5_9 then (
  some x4_8)
  else (
  zb1 (fX12_isKind m4 x0 x5_9 1) fun v17 =>
  zb1 (if v17 = 0 then (
  some x4_8)
  else (
  if x4_8 = (-1) then (
  some x5_9)
  else (
  zb1 (fX12_of m4 x0 (39 + x5_9)) fun v21 =>
  zb1 (fX12_of m4 x0 (39 + x4_8)) fun v23 =>
  if v21 ≤ v23 then (
  some x4_8)
  else (
  some x5_9)))) fun s18 =>
  F10 s18 (x5_9 + 1))
def fX12_auction_l132 (m4 : zM) (x0 : Nat) (x4_12 : Int32) (F33 : Int32 → Int32 → Option (Int32)) (x5_31 : Int32) (x6_32 : Int32) : Option (Int32) :=
  zb1 (zm_gI m4 12 x0 25) fun v37 =>
  if v37 ≤ x6_32 then (
  some x5_31)
  else (
  zb1 (fX12_isKind m4 x0 x6_32 1) fun v40 =>
  zb1 (if v40 = 0 then (
  some x5_31)
  else (
  if x6_32 = x4_12 then (
  some x5_31)
  else (
  zb1 (fX12_of m4 x0 (39 + x6_32)) fun v44 =>
  zb1 (fX12_greater m4 x5_31 v44) fun v46 =>
  some v46))) fun s41 =>
  F33 s41 (x6_32 + 1))
def fX12_auction (μ : zM) (x0 : Nat) (x1 : Int32) (x2 : Int32) (x3 : Int32) : Option (Int32 × zM) := zgd (zm_ck μ 12 x0) <|
  zb1 (zm_p μ 12 x0 0 (.int 0)) fun m1 =>
  zb2 (fX12_hand m1 x0 x1) fun v5 m4 =>
  if v5 = 0 then (
  some ((-1), m4))
  else (
  zb1 (fX12_isKind m4 x0 x2 0) fun v7 =>
  if v7 = 0 then (
  some ((-1), m4))
  else (
  zb1 (zf2 (fX12_auction_l30 m4 x0) zfu (-1) 0) fun x4_12 =>
  if x4_12 = (-1) then (
  some ((-1), m4))
  else (
  zb1 (fX12_of m4 x0 (39 + x4_12)) fun v26 =>
  zb1 (fX12_of m4 x0 (39 + x2)) fun v28 =>
  if v28 ≤ v26 then (
  zb1 (fX12_of m4 x0 (39 + x2)) fun v30 =>
  zb1 (zf2 (fX12_auction_l132 m4 x0 x4_12) zfu v30 0) fun x5_35 =>
  zb1 (if x3 = 0 then (
  some x4_12)
  else (
  some x5_35)) fun s48 =>
  some (s48, m4))
  else (
  some ((-1), m4)))))
theorem fX12_auction_ck {μ : zM} {x0 : Nat} {x1 : Int32} {x2 : Int32} {x3 : Int32} {z : Int32 × zM} (h : fX12_auction μ x0 x1 x2 x3 = some z) : zm_ck μ 12 x0 = true := (zgd_s h).1
set_option maxHeartbeats 4000000 in
set_option maxRecDepth 100000 in
theorem cX12_auction_ok {μ : zM} {x0 : Nat} {x1 : Int32} {x2 : Int32} {x3 : Int32} {r : Int32} {mo : zM} (hf : fX12_auction μ x0 x1 x2 x3 = some (r, mo)) : zC yX12_auction cX12_auction 7 (some .int) 3 0 0 [.ref x0, .int x1, .int x2, .int x3] μ (some (.int r)) mo := by
  replace hf := (zgd_s hf).2
  refine zC.of (by decide) (Nat.le_of_ble_eq_true rfl) (fun K hin => ?_)
  clear hin
  show zz K cX12_auction (7, RX12, some .int, 3, 0, 0, some (.int r), mo) 0 0 0 [(0, .ref x0), (1, .int x1), (2, .int x2), (3, .int x3)] [] μ
  refine zr_aload_n 0 dX12_auction_0 rfl ?_
  refine zr_iconst 0 dX12_auction_1 (by decide) ?_
  replace hf := zb1_s hf
  obtain ⟨m1, h2, hf⟩ := hf
  refine zr_put h2 zk12 (by decide) zl_788 rfl rfl rfl dX12_auction_2 ?_
  refine zr_aload_n 0 dX12_auction_5 rfl ?_
  refine zr_iload_n 1 dX12_auction_6 rfl ?_
  replace hf := zb2_s hf
  obtain ⟨v5, m4, h3, hf⟩ := hf
  refine zr_callV (ci := 12) [.int x1] (cX12_hand_ok h3) zvs_X12_hand zl_946 zl_947 (fX12_hand_ck h3) rfl rfl zl_945 rfl (Nat.le_of_ble_eq_true rfl) (Nat.le_of_ble_eq_true rfl) (Nat.le_of_ble_eq_true rfl) (Nat.le_of_ble_eq_true rfl) dX12_auction_7 rfl ?_
  refine zr_if_eq 22 dX12_auction_10 (by decide) (fun hc => ?_) (fun hc => ?_)
  · rw [if_pos hc] at hf
    refine zr_iconst (-1) dX12_auction_22 (by decide) ?_
    cases hf
    exact zr_iret dX12_auction_23
  · rw [if_neg hc] at hf
    refine zr_aload_n 0 dX12_auction_13 rfl ?_
    refine zr_iload_n 2 dX12_auction_14 rfl ?_
    refine zr_iconst 0 dX12_auction_15 (by decide) ?_
    replace hf := zb1_s hf
    obtain ⟨v7, h6, hf⟩ := hf
    refine zr_callV (ci := 12) [.int x2, .int 0] (cX12_isKind_ok h6) zvs_X12_isKind zl_1046 zl_1047 (fX12_isKind_ck h6) rfl rfl zl_1045 rfl (Nat.le_of_ble_eq_true rfl) (Nat.le_of_ble_eq_true rfl) (Nat.le_of_ble_eq_true rfl) (Nat.le_of_ble_eq_true rfl) dX12_auction_16 rfl ?_
    refine zr_if_ne 24 dX12_auction_19 (by decide) (fun hc => ?_) (fun hc => ?_)
    · rw [if_neg hc] at hf
      refine zr_iconst (-1) dX12_auction_24 (by decide) ?_
      refine zr_istore [(4, .int (-1)), (0, .ref x0), (1, .int x1), (2, .int x2), (3, .int x3)] dX12_auction_25 (Nat.le_of_ble_eq_true rfl) rfl ?_
      refine zr_iconst 0 dX12_auction_27 (by decide) ?_
      refine zr_istore [(5, .int 0), (4, .int (-1)), (0, .ref x0), (1, .int x1), (2, .int x2), (3, .int x3)] dX12_auction_28 (Nat.le_of_ble_eq_true rfl) rfl ?_
      replace hf := zb1_s hf
      obtain ⟨x4_12, hg, hf⟩ := hf
      have hj13 : zz K cX12_auction (7, RX12, some .int, 3, 0, 0, some (.int r), mo) 0 0 91 [(0, .ref x0), (2, .int x2), (3, .int x3), (4, .int x4_12)] [] m4 := by
        refine zr_iload 3 dX12_auction_91 rfl ?_
        refine zr_iconst (-1) dX12_auction_93 (by decide) ?_
        refine zr_icmp_eq 117 dX12_auction_94 (by decide) (fun hc => ?_) (fun hc => ?_)
        · rw [if_pos hc] at hf
          refine zr_iconst (-1) dX12_auction_117 (by decide) ?_
          cases hf
          exact zr_iret dX12_auction_118
        · rw [if_neg hc] at hf
          refine zr_aload_n 0 dX12_auction_97 rfl ?_
          refine zr_bipush 39 dX12_auction_98 (by decide) ?_
          refine zr_iload 3 dX12_auction_100 rfl ?_
          refine zr_iadd dX12_auction_102 ?_
          replace hf := zb1_s hf
          obtain ⟨v26, h25, hf⟩ := hf
          refine zr_callV (ci := 12) [.int (39 + x4_12)] (cX12_of_ok h25) zvs_X12_of zl_918 zl_919 (fX12_of_ck h25) rfl rfl zl_917 rfl (Nat.le_of_ble_eq_true rfl) (Nat.le_of_ble_eq_true rfl) (Nat.le_of_ble_eq_true rfl) (Nat.le_of_ble_eq_true rfl) dX12_auction_103 rfl ?_
          refine zr_aload_n 0 dX12_auction_106 rfl ?_
          refine zr_bipush 39 dX12_auction_107 (by decide) ?_
          refine zr_iload_n 1 dX12_auction_109 rfl ?_
          refine zr_iadd dX12_auction_110 ?_
          replace hf := zb1_s hf
          obtain ⟨v28, h27, hf⟩ := hf
          refine zr_callV (ci := 12) [.int (39 + x2)] (cX12_of_ok h27) zvs_X12_of zl_918 zl_919 (fX12_of_ck h27) rfl rfl zl_917 rfl (Nat.le_of_ble_eq_true rfl) (Nat.le_of_ble_eq_true rfl) (Nat.le_of_ble_eq_true rfl) (Nat.le_of_ble_eq_true rfl) dX12_auction_111 rfl ?_
          refine zr_icmp_ge 119 dX12_auction_114 (by decide) (fun hc => ?_) (fun hc => ?_)
          · rw [if_pos hc] at hf
            refine zr_aload_n 0 dX12_auction_119 rfl ?_
            refine zr_bipush 39 dX12_auction_120 (by decide) ?_
            refine zr_iload_n 1 dX12_auction_122 rfl ?_
            refine zr_iadd dX12_auction_123 ?_
            replace hf := zb1_s hf
            obtain ⟨v30, h29, hf⟩ := hf
            refine zr_callV (ci := 12) [.int (39 + x2)] (cX12_of_ok h29) zvs_X12_of zl_918 zl_919 (fX12_of_ck h29) rfl rfl zl_917 rfl (Nat.le_of_ble_eq_true rfl) (Nat.le_of_ble_eq_true rfl) (Nat.le_of_ble_eq_true rfl) (Nat.le_of_ble_eq_true rfl) dX12_auction_124 rfl ?_
            refine zr_istore [(5, .int v30), (0, .ref x0), (2, .int x2), (3, .int x3), (4, .int x4_12)] dX12_auction_127 (Nat.le_of_ble_eq_true rfl) rfl ?_
            refine zr_iconst 0 dX12_auction_129 (by decide) ?_
            refine zr_istore [(6, .int 0), (5, .int v30), (0, .ref x0), (2, .int x2), (3, .int x3), (4, .int x4_12)] dX12_auction_130 (Nat.le_of_ble_eq_true rfl) rfl ?_
            replace hf := zb1_s hf
            obtain ⟨x5_35, hg, hf⟩ := hf
            have hj36 : zz K cX12_auction (7, RX12, some .int, 3, 0, 0, some (.int r), mo) 0 0 185 [(3, .int x3), (4, .int x4_12), (5, .int x5_35)] [] m4 := by
              refine zr_iload_n 0 dX12_auction_185 rfl ?_
              replace hf := zb1_s hf
              obtain ⟨s48, hg, hf⟩ := hf
              have hj49 : zz K cX12_auction (7, RX12, some .int, 3, 0, 0, some (.int r), mo) 0 0 196 [] [.int s48] m4 := by
                cases hf
                exact zr_iret dX12_auction_196
              clear hf
              have hf := hg
              clear hg
              refine zr_if_eq 194 dX12_auction_186 (by decide) (fun hc => ?_) (fun hc => ?_)
              · rw [if_pos hc] at hf
                refine zr_iload 1 dX12_auction_194 rfl ?_
                cases hf
                exact zr_lv [] rfl hj49
              · rw [if_neg hc] at hf
                refine zr_iload 2 dX12_auction_189 rfl ?_
                refine zr_goto 196 dX12_auction_191 (by decide) ?_
                cases hf
                exact zr_lv [] rfl hj49
            clear hf
            have hf := hg
            clear hg
            have hL47 : ∀ (n : Nat) (x5_31 : Int32) (x6_32 : Int32), zf2 (fX12_auction_l132 m4 x0 x4_12) n x5_31 x6_32 = some x5_35 → zz K cX12_auction (7, RX12, some .int, 3, 0, 0, some (.int r), mo) 0 0 132 [(0, .ref x0), (3, .int x3), (4, .int x4_12), (5, .int x5_31), (6, .int x6_32)] [] m4 := by
              intro n
              induction n with
              | zero => intro x5_31 x6_32 hf; cases hf
              | succ n ih34 =>
                intro x5_31 x6_32 hf
                replace hf := zf2_s hf
                generalize zf2 (fX12_auction_l132 m4 x0 x4_12) n = F33 at hf ih34
                unfold fX12_auction_l132 at hf
                refine zr_iload 4 dX12_auction_132 rfl ?_
                refine zr_aload_n 0 dX12_auction_134 rfl ?_
                replace hf := zb1_s hf
                obtain ⟨v37, h38, hf⟩ := hf
                refine zr_get (zm_gI_g h38) zk12 (by decide) zl_921 dX12_auction_135 ?_
                refine zr_icmp_ge 185 dX12_auction_138 (by decide) (fun hc => ?_) (fun hc => ?_)
                · rw [if_pos hc] at hf
                  cases hf
                  exact zr_lv [1, 2, 3] rfl hj36
                · rw [if_neg hc] at hf
                  refine zr_aload_n 0 dX12_auction_141 rfl ?_
                  refine zr_iload 4 dX12_auction_142 rfl ?_
                  refine zr_iconst 1 dX12_auction_144 (by decide) ?_
                  replace hf := zb1_s hf
                  obtain ⟨v40, h39, hf⟩ := hf
                  refine zr_callV (ci := 12) [.int x6_32, .int 1] (cX12_isKind_ok h39) zvs_X12_isKind zl_1046 zl_1047 (fX12_isKind_ck h39) rfl rfl zl_1045 rfl (Nat.le_of_ble_eq_true rfl) (Nat.le_of_ble_eq_true rfl) (Nat.le_of_ble_eq_true rfl) (Nat.le_of_ble_eq_true rfl) dX12_auction_145 rfl ?_
                  replace hf := zb1_s hf
                  obtain ⟨s41, hg, hf⟩ := hf
                  have hj42 : zz K cX12_auction (7, RX12, some .int, 3, 0, 0, some (.int r), mo) 0 0 177 [(0, .ref x0), (3, .int x3), (4, .int x4_12), (6, .int x6_32)] [.int s41] m4 := by
                    refine zr_istore [(5, .int s41), (0, .ref x0), (3, .int x3), (4, .int x4_12), (6, .int x6_32)] dX12_auction_177 (Nat.le_of_ble_eq_true rfl) rfl ?_
                    refine zr_iinc (j := 4) (x6_32 + 1) [(6, .int (x6_32 + 1)), (5, .int s41), (0, .ref x0), (3, .int x3), (4, .int x4_12)] dX12_auction_179 rfl rfl (Nat.le_of_ble_eq_true rfl) rfl ?_
                    refine zr_goto 132 dX12_auction_182 (by decide) ?_
                    exact zr_lv [2, 3, 4, 1, 0] rfl (ih34 s41 (x6_32 + 1) hf)
                  clear hf
                  have hf := hg
                  clear hg
                  refine zr_if_eq 175 dX12_auction_148 (by decide) (fun hc => ?_) (fun hc => ?_)
                  · rw [if_pos hc] at hf
                    refine zr_iload 3 dX12_auction_175 rfl ?_
                    cases hf
                    exact zr_lv [0, 1, 2, 4] rfl hj42
                  · rw [if_neg hc] at hf
                    refine zr_iload 4 dX12_auction_151 rfl ?_
                    refine zr_iload 2 dX12_auction_153 rfl ?_
                    refine zr_icmp_eq 175 dX12_auction_155 (by decide) (fun hc => ?_) (fun hc => ?_)
                    · rw [if_pos hc] at hf
                      refine zr_iload 3 dX12_auction_175 rfl ?_
                      cases hf
                      exact zr_lv [0, 1, 2, 4] rfl hj42
                    · rw [if_neg hc] at hf
                      refine zr_iload 3 dX12_auction_158 rfl ?_
                      refine zr_aload_n 0 dX12_auction_160 rfl ?_
                      refine zr_bipush 39 dX12_auction_161 (by decide) ?_
                      refine zr_iload 4 dX12_auction_163 rfl ?_
                      refine zr_iadd dX12_auction_165 ?_
                      replace hf := zb1_s hf
                      obtain ⟨v44, h43, hf⟩ := hf
                      refine zr_callV (ci := 12) [.int (39 + x6_32)] (cX12_of_ok h43) zvs_X12_of zl_918 zl_919 (fX12_of_ck h43) rfl rfl zl_917 rfl (Nat.le_of_ble_eq_true rfl) (Nat.le_of_ble_eq_true rfl) (Nat.le_of_ble_eq_true rfl) (Nat.le_of_ble_eq_true rfl) dX12_auction_166 rfl ?_
                      replace hf := zb1_s hf
                      obtain ⟨v46, h45, hf⟩ := hf
                      refine zr_callS [.int x5_31, .int v44] (cX12_greater_ok h45) zvs_X12_greater zl_829 zl_828 rfl (Nat.le_of_ble_eq_true rfl) (Nat.le_of_ble_eq_true rfl) (Nat.le_of_ble_eq_true rfl) (Nat.le_of_ble_eq_true rfl) dX12_auction_169 rfl ?_
                      refine zr_goto 177 dX12_auction_172 (by decide) ?_
                      cases hf
                      exact zr_lv [0, 1, 2, 4] rfl hj42
            exact zr_lv [2, 4, 5, 1, 0] rfl (hL47 _ v30 0 hf)
          · rw [if_neg hc] at hf
            refine zr_iconst (-1) dX12_auction_117 (by decide) ?_
            cases hf
            exact zr_iret dX12_auction_118
      clear hf
      have hf := hg
      clear hg
      have hL24 : ∀ (n : Nat) (x4_8 : Int32) (x5_9 : Int32), zf2 (fX12_auction_l30 m4 x0) n x4_8 x5_9 = some x4_12 → zz K cX12_auction (7, RX12, some .int, 3, 0, 0, some (.int r), mo) 0 0 30 [(0, .ref x0), (2, .int x2), (3, .int x3), (4, .int x4_8), (5, .int x5_9)] [] m4 := by
        intro n
        induction n with
        | zero => intro x4_8 x5_9 hf; cases hf
        | succ n ih11 =>
          intro x4_8 x5_9 hf
          replace hf := zf2_s hf
          generalize zf2 (fX12_auction_l30 m4 x0) n = F10 at hf ih11
          unfold fX12_auction_l30 at hf
          refine zr_iload 4 dX12_auction_30 rfl ?_
          refine zr_aload_n 0 dX12_auction_32 rfl ?_
          replace hf := zb1_s hf
          obtain ⟨v14, h15, hf⟩ := hf
          refine zr_get (zm_gI_g h15) zk12 (by decide) zl_921 dX12_auction_33 ?_
          refine zr_icmp_ge 91 dX12_auction_36 (by decide) (fun hc => ?_) (fun hc => ?_)
          · rw [if_pos hc] at hf
            cases hf
            exact zr_lv [0, 1, 2, 3] rfl hj13
          · rw [if_neg hc] at hf
            refine zr_aload_n 0 dX12_auction_39 rfl ?_
            refine zr_iload 4 dX12_auction_40 rfl ?_
            refine zr_iconst 1 dX12_auction_42 (by decide) ?_
            replace hf := zb1_s hf
            obtain ⟨v17, h16, hf⟩ := hf
            refine zr_callV (ci := 12) [.int x5_9, .int 1] (cX12_isKind_ok h16) zvs_X12_isKind zl_1046 zl_1047 (fX12_isKind_ck h16) rfl rfl zl_1045 rfl (Nat.le_of_ble_eq_true rfl) (Nat.le_of_ble_eq_true rfl) (Nat.le_of_ble_eq_true rfl) (Nat.le_of_ble_eq_true rfl) dX12_auction_43 rfl ?_
            replace hf := zb1_s hf
            obtain ⟨s18, hg, hf⟩ := hf
            have hj19 : zz K cX12_auction (7, RX12, some .int, 3, 0, 0, some (.int r), mo) 0 0 83 [(0, .ref x0), (2, .int x2), (3, .int x3), (5, .int x5_9)] [.int s18] m4 := by
              refine zr_istore [(4, .int s18), (0, .ref x0), (2, .int x2), (3, .int x3), (5, .int x5_9)] dX12_auction_83 (Nat.le_of_ble_eq_true rfl) rfl ?_
              refine zr_iinc (j := 4) (x5_9 + 1) [(5, .int (x5_9 + 1)), (4, .int s18), (0, .ref x0), (2, .int x2), (3, .int x3)] dX12_auction_85 rfl rfl (Nat.le_of_ble_eq_true rfl) rfl ?_
              refine zr_goto 30 dX12_auction_88 (by decide) ?_
              exact zr_lv [2, 3, 4, 1, 0] rfl (ih11 s18 (x5_9 + 1) hf)
            clear hf
            have hf := hg
            clear hg
            refine zr_if_eq 81 dX12_auction_46 (by decide) (fun hc => ?_) (fun hc => ?_)
            · rw [if_pos hc] at hf
              refine zr_iload 3 dX12_auction_81 rfl ?_
              cases hf
              exact zr_lv [0, 1, 2, 4] rfl hj19
            · rw [if_neg hc] at hf
              refine zr_iload 3 dX12_auction_49 rfl ?_
              refine zr_iconst (-1) dX12_auction_51 (by decide) ?_
              refine zr_icmp_eq 76 dX12_auction_52 (by decide) (fun hc => ?_) (fun hc => ?_)
              · rw [if_pos hc] at hf
                refine zr_iload 4 dX12_auction_76 rfl ?_
                refine zr_goto 83 dX12_auction_78 (by decide) ?_
                cases hf
                exact zr_lv [0, 1, 2, 4] rfl hj19
              · rw [if_neg hc] at hf
                refine zr_aload_n 0 dX12_auction_55 rfl ?_
                refine zr_bipush 39 dX12_auction_56 (by decide) ?_
                refine zr_iload 4 dX12_auction_58 rfl ?_
                refine zr_iadd dX12_auction_60 ?_
                replace hf := zb1_s hf
                obtain ⟨v21, h20, hf⟩ := hf
                refine zr_callV (ci := 12) [.int (39 + x5_9)] (cX12_of_ok h20) zvs_X12_of zl_918 zl_919 (fX12_of_ck h20) rfl rfl zl_917 rfl (Nat.le_of_ble_eq_true rfl) (Nat.le_of_ble_eq_true rfl) (Nat.le_of_ble_eq_true rfl) (Nat.le_of_ble_eq_true rfl) dX12_auction_61 rfl ?_
                refine zr_aload_n 0 dX12_auction_64 rfl ?_
                refine zr_bipush 39 dX12_auction_65 (by decide) ?_
                refine zr_iload 3 dX12_auction_67 rfl ?_
                refine zr_iadd dX12_auction_69 ?_
                replace hf := zb1_s hf
                obtain ⟨v23, h22, hf⟩ := hf
                refine zr_callV (ci := 12) [.int (39 + x4_8)] (cX12_of_ok h22) zvs_X12_of zl_918 zl_919 (fX12_of_ck h22) rfl rfl zl_917 rfl (Nat.le_of_ble_eq_true rfl) (Nat.le_of_ble_eq_true rfl) (Nat.le_of_ble_eq_true rfl) (Nat.le_of_ble_eq_true rfl) dX12_auction_70 rfl ?_
                refine zr_icmp_le 81 dX12_auction_73 (by decide) (fun hc => ?_) (fun hc => ?_)
                · rw [if_pos hc] at hf
                  refine zr_iload 3 dX12_auction_81 rfl ?_
                  cases hf
                  exact zr_lv [0, 1, 2, 4] rfl hj19
                · rw [if_neg hc] at hf
                  refine zr_iload 4 dX12_auction_76 rfl ?_
                  refine zr_goto 83 dX12_auction_78 (by decide) ?_
                  cases hf
                  exact zr_lv [0, 1, 2, 4] rfl hj19
      exact zr_lv [2, 4, 5, 1, 0] rfl (hL24 _ (-1) 0 hf)
    · rw [if_pos hc] at hf
      refine zr_iconst (-1) dX12_auction_22 (by decide) ?_
      cases hf
      exact zr_iret dX12_auction_23
theorem dX12_relayed_0 : decode cX12_relayed 0 = .ok (.aload_n 0, 1) := by decide +kernel
theorem dX12_relayed_1 : decode cX12_relayed 1 = .ok (.iconst 0, 1) := by decide +kernel
theorem dX12_relayed_2 : decode cX12_relayed 2 = .ok (.putfield 93, 3) := by decide +kernel
theorem dX12_relayed_5 : decode cX12_relayed 5 = .ok (.aload_n 0, 1) := by decide +kernel
theorem dX12_relayed_6 : decode cX12_relayed 6 = .ok (.iload_n 1, 1) := by decide +kernel
theorem dX12_relayed_7 : decode cX12_relayed 7 = .ok (.invokevirtual 298, 3) := by decide +kernel
theorem dX12_relayed_10 : decode cX12_relayed 10 = .ok (.ifCond .eq 29, 3) := by decide +kernel
theorem dX12_relayed_13 : decode cX12_relayed 13 = .ok (.aload_n 0, 1) := by decide +kernel
theorem dX12_relayed_14 : decode cX12_relayed 14 = .ok (.iload_n 2, 1) := by decide +kernel
theorem dX12_relayed_15 : decode cX12_relayed 15 = .ok (.invokevirtual 301, 3) := by decide +kernel
theorem dX12_relayed_18 : decode cX12_relayed 18 = .ok (.ifCond .eq 21, 3) := by decide +kernel
theorem dX12_relayed_21 : decode cX12_relayed 21 = .ok (.aload_n 0, 1) := by decide +kernel
theorem dX12_relayed_22 : decode cX12_relayed 22 = .ok (.iload_n 3, 1) := by decide +kernel
theorem dX12_relayed_23 : decode cX12_relayed 23 = .ok (.invokevirtual 301, 3) := by decide +kernel
theorem dX12_relayed_26 : decode cX12_relayed 26 = .ok (.ifCond .eq 13, 3) := by decide +kernel
theorem dX12_relayed_29 : decode cX12_relayed 29 = .ok (.iload 4, 2) := by decide +kernel
theorem dX12_relayed_31 : decode cX12_relayed 31 = .ok (.iconst 0, 1) := by decide +kernel
theorem dX12_relayed_32 : decode cX12_relayed 32 = .ok (.iconst 2, 1) := by decide +kernel
theorem dX12_relayed_33 : decode cX12_relayed 33 = .ok (.invokestatic 101, 3) := by decide +kernel
theorem dX12_relayed_36 : decode cX12_relayed 36 = .ok (.ifCond .ne 5, 3) := by decide +kernel
theorem dX12_relayed_39 : decode cX12_relayed 39 = .ok (.iconst (-1), 1) := by decide +kernel
theorem dX12_relayed_40 : decode cX12_relayed 40 = .ok (.ireturn, 1) := by decide +kernel
theorem dX12_relayed_41 : decode cX12_relayed 41 = .ok (.aload_n 0, 1) := by decide +kernel
theorem dX12_relayed_42 : decode cX12_relayed 42 = .ok (.iload_n 2, 1) := by decide +kernel
theorem dX12_relayed_43 : decode cX12_relayed 43 = .ok (.iload 4, 2) := by decide +kernel
theorem dX12_relayed_45 : decode cX12_relayed 45 = .ok (.iconst 1, 1) := by decide +kernel
theorem dX12_relayed_46 : decode cX12_relayed 46 = .ok (.invokevirtual 498, 3) := by decide +kernel
theorem dX12_relayed_49 : decode cX12_relayed 49 = .ok (.aload_n 0, 1) := by decide +kernel
theorem dX12_relayed_50 : decode cX12_relayed 50 = .ok (.getfield 80, 3) := by decide +kernel
theorem dX12_relayed_53 : decode cX12_relayed 53 = .ok (.iload_n 3, 1) := by decide +kernel
theorem dX12_relayed_54 : decode cX12_relayed 54 = .ok (.iaload, 1) := by decide +kernel
theorem dX12_relayed_55 : decode cX12_relayed 55 = .ok (.ldc_w 423, 3) := by decide +kernel
theorem dX12_relayed_58 : decode cX12_relayed 58 = .ok (.if_icmp .lt 7, 3) := by decide +kernel
theorem dX12_relayed_61 : decode cX12_relayed 61 = .ok (.iconst (-1), 1) := by decide +kernel
theorem dX12_relayed_62 : decode cX12_relayed 62 = .ok (.goto 9, 3) := by decide +kernel
theorem dX12_relayed_65 : decode cX12_relayed 65 = .ok (.aload_n 0, 1) := by decide +kernel
theorem dX12_relayed_66 : decode cX12_relayed 66 = .ok (.getfield 80, 3) := by decide +kernel
theorem dX12_relayed_69 : decode cX12_relayed 69 = .ok (.iload_n 3, 1) := by decide +kernel
theorem dX12_relayed_70 : decode cX12_relayed 70 = .ok (.iaload, 1) := by decide +kernel
theorem dX12_relayed_71 : decode cX12_relayed 71 = .ok (.ireturn, 1) := by decide +kernel
def fX12_relayed (μ : zM) (x0 : Nat) (x1 : Int32) (x2 : Int32) (x3 : Int32) (x4 : Int32) : Option (Int32 × zM) := zgd (zm_ck μ 12 x0) <|
  zb1 (zm_p μ 12 x0 0 (.int 0)) fun m1 =>
  zb2 (fX12_hand m1 x0 x1) fun v5 m4 =>
  if v5 = 0 then (
  some ((-1), m4))
  else (
  zb1 (fX12_isPerson m4 x0 x2) fun v7 =>
  if v7 = 0 then (
  some ((-1), m4))
  else (
  zb1 (fX12_isPerson m4 x0 x3) fun v9 =>
  if v9 = 0 then (
  some ((-1), m4))
  else (
  zb1 (fX12_in m4 x4 0 2) fun v11 =>
  if v11 = 0 then (
  some ((-1), m4))
  else (
  zb1 (fX12_findSoon m4 x0 x2 x4 1) fun m13 =>
  zb1 (zm_gR m13 12 x0 50) fun v14 =>
  zb1 (zm_aI m13 0 v14 x3) fun v16 =>
  zb1 (if v16 < 1000000 then (
  zb1 (zm_gR m13 12 x0 50) fun v20 =>
  zb1 (zm_aI m13 0 v20 x3) fun v22 =>
  some v22)
  else (
  some (-1))) fun s18 =>
  some (s18, m13)))))
theorem fX12_relayed_ck {μ : zM} {x0 : Nat} {x1 : Int32} {x2 : Int32} {x3 : Int32} {x4 : Int32} {z : Int32 × zM} (h : fX12_relayed μ x0 x1 x2 x3 x4 = some z) : zm_ck μ 12 x0 = true := (zgd_s h).1
set_option maxHeartbeats 4000000 in
set_option maxRecDepth 100000 in
theorem cX12_relayed_ok {μ : zM} {x0 : Nat} {x1 : Int32} {x2 : Int32} {x3 : Int32} {x4 : Int32} {r : Int32} {mo : zM} (hf : fX12_relayed μ x0 x1 x2 x3 x4 = some (r, mo)) : zC yX12_relayed cX12_relayed 5 (some .int) 3 0 0 [.ref x0, .int x1, .int x2, .int x3, .int x4] μ (some (.int r)) mo := by
  replace hf := (zgd_s hf).2
  refine zC.of (by decide) (Nat.le_of_ble_eq_true rfl) (fun K hin => ?_)
  clear hin
  show zz K cX12_relayed (5, RX12, some .int, 3, 0, 0, some (.int r), mo) 0 0 0 [(0, .ref x0), (1, .int x1), (2, .int x2), (3, .int x3), (4, .int x4)] [] μ
  refine zr_aload_n 0 dX12_relayed_0 rfl ?_
  refine zr_iconst 0 dX12_relayed_1 (by decide) ?_
  replace hf := zb1_s hf
  obtain ⟨m1, h2, hf⟩ := hf
  refine zr_put h2 zk12 (by decide) zl_788 rfl rfl rfl dX12_relayed_2 ?_
  refine zr_aload_n 0 dX12_relayed_5 rfl ?_
  refine zr_iload_n 1 dX12_relayed_6 rfl ?_
  replace hf := zb2_s hf
  obtain ⟨v5, m4, h3, hf⟩ := hf
  refine zr_callV (ci := 12) [.int x1] (cX12_hand_ok h3) zvs_X12_hand zl_946 zl_947 (fX12_hand_ck h3) rfl rfl zl_945 rfl (Nat.le_of_ble_eq_true rfl) (Nat.le_of_ble_eq_true rfl) (Nat.le_of_ble_eq_true rfl) (Nat.le_of_ble_eq_true rfl) dX12_relayed_7 rfl ?_
  refine zr_if_eq 39 dX12_relayed_10 (by decide) (fun hc => ?_) (fun hc => ?_)
  · rw [if_pos hc] at hf
    refine zr_iconst (-1) dX12_relayed_39 (by decide) ?_
    cases hf
    exact zr_iret dX12_relayed_40
  · rw [if_neg hc] at hf
    refine zr_aload_n 0 dX12_relayed_13 rfl ?_
    refine zr_iload_n 2 dX12_relayed_14 rfl ?_
    replace hf := zb1_s hf
    obtain ⟨v7, h6, hf⟩ := hf
    refine zr_callV (ci := 12) [.int x2] (cX12_isPerson_ok h6) zvs_X12_isPerson zl_950 zl_951 (fX12_isPerson_ck h6) rfl rfl zl_949 rfl (Nat.le_of_ble_eq_true rfl) (Nat.le_of_ble_eq_true rfl) (Nat.le_of_ble_eq_true rfl) (Nat.le_of_ble_eq_true rfl) dX12_relayed_15 rfl ?_
    refine zr_if_eq 39 dX12_relayed_18 (by decide) (fun hc => ?_) (fun hc => ?_)
    · rw [if_pos hc] at hf
      refine zr_iconst (-1) dX12_relayed_39 (by decide) ?_
      cases hf
      exact zr_iret dX12_relayed_40
    · rw [if_neg hc] at hf
      refine zr_aload_n 0 dX12_relayed_21 rfl ?_
      refine zr_iload_n 3 dX12_relayed_22 rfl ?_
      replace hf := zb1_s hf
      obtain ⟨v9, h8, hf⟩ := hf
      refine zr_callV (ci := 12) [.int x3] (cX12_isPerson_ok h8) zvs_X12_isPerson zl_950 zl_951 (fX12_isPerson_ck h8) rfl rfl zl_949 rfl (Nat.le_of_ble_eq_true rfl) (Nat.le_of_ble_eq_true rfl) (Nat.le_of_ble_eq_true rfl) (Nat.le_of_ble_eq_true rfl) dX12_relayed_23 rfl ?_
      refine zr_if_eq 39 dX12_relayed_26 (by decide) (fun hc => ?_) (fun hc => ?_)
      · rw [if_pos hc] at hf
        refine zr_iconst (-1) dX12_relayed_39 (by decide) ?_
        cases hf
        exact zr_iret dX12_relayed_40
      · rw [if_neg hc] at hf
        refine zr_iload 4 dX12_relayed_29 rfl ?_
        refine zr_iconst 0 dX12_relayed_31 (by decide) ?_
        refine zr_iconst 2 dX12_relayed_32 (by decide) ?_
        replace hf := zb1_s hf
        obtain ⟨v11, h10, hf⟩ := hf
        refine zr_callS [.int x4, .int 0, .int 2] (cX12_in_ok h10) zvs_X12_in zl_787 zl_786 rfl (Nat.le_of_ble_eq_true rfl) (Nat.le_of_ble_eq_true rfl) (Nat.le_of_ble_eq_true rfl) (Nat.le_of_ble_eq_true rfl) dX12_relayed_33 rfl ?_
        refine zr_if_ne 41 dX12_relayed_36 (by decide) (fun hc => ?_) (fun hc => ?_)
        · rw [if_neg hc] at hf
          refine zr_aload_n 0 dX12_relayed_41 rfl ?_
          refine zr_iload_n 2 dX12_relayed_42 rfl ?_
          refine zr_iload 4 dX12_relayed_43 rfl ?_
          refine zr_iconst 1 dX12_relayed_45 (by decide) ?_
          replace hf := zb1_s hf
          obtain ⟨m13, h12, hf⟩ := hf
          refine zr_callV (ci := 12) [.int x2, .int x4, .int 1] (cX12_findSoon_ok h12) zvs_X12_findSoon zl_1164 zl_1165 (fX12_findSoon_ck h12) rfl rfl zl_1163 rfl (Nat.le_of_ble_eq_true rfl) (Nat.le_of_ble_eq_true rfl) (Nat.le_of_ble_eq_true rfl) (Nat.le_of_ble_eq_true rfl) dX12_relayed_46 rfl ?_
          refine zr_aload_n 0 dX12_relayed_49 rfl ?_
          replace hf := zb1_s hf
          obtain ⟨v14, h15, hf⟩ := hf
          refine zr_get (zm_gR_g h15) zk12 (by decide) zl_776 dX12_relayed_50 ?_
          refine zr_iload_n 3 dX12_relayed_53 rfl ?_
          replace hf := zb1_s hf
          obtain ⟨v16, h17, hf⟩ := hf
          refine zr_iald h17 dX12_relayed_54 ?_
          refine zr_ldcw zl_1076 dX12_relayed_55 ?_
          replace hf := zb1_s hf
          obtain ⟨s18, hg, hf⟩ := hf
          have hj19 : zz K cX12_relayed (5, RX12, some .int, 3, 0, 0, some (.int r), mo) 0 0 71 [] [.int s18] m13 := by
            cases hf
            exact zr_iret dX12_relayed_71
          clear hf
          have hf := hg
          clear hg
          refine zr_icmp_lt 65 dX12_relayed_58 (by decide) (fun hc => ?_) (fun hc => ?_)
          · rw [if_pos hc] at hf
            refine zr_aload_n 0 dX12_relayed_65 rfl ?_
            replace hf := zb1_s hf
            obtain ⟨v20, h21, hf⟩ := hf
            refine zr_get (zm_gR_g h21) zk12 (by decide) zl_776 dX12_relayed_66 ?_
            refine zr_iload_n 3 dX12_relayed_69 rfl ?_
            replace hf := zb1_s hf
            obtain ⟨v22, h23, hf⟩ := hf
            refine zr_iald h23 dX12_relayed_70 ?_
            cases hf
            exact zr_lv [] rfl hj19
          · rw [if_neg hc] at hf
            refine zr_iconst (-1) dX12_relayed_61 (by decide) ?_
            refine zr_goto 71 dX12_relayed_62 (by decide) ?_
            cases hf
            exact zr_lv [] rfl hj19
        · rw [if_pos hc] at hf
          refine zr_iconst (-1) dX12_relayed_39 (by decide) ?_
          cases hf
          exact zr_iret dX12_relayed_40
theorem dX12_weather_0 : decode cX12_weather 0 = .ok (.aload_n 0, 1) := by decide +kernel
theorem dX12_weather_1 : decode cX12_weather 1 = .ok (.iconst 0, 1) := by decide +kernel
theorem dX12_weather_2 : decode cX12_weather 2 = .ok (.putfield 93, 3) := by decide +kernel
theorem dX12_weather_5 : decode cX12_weather 5 = .ok (.iload_n 2, 1) := by decide +kernel
theorem dX12_weather_6 : decode cX12_weather 6 = .ok (.iconst (-1), 1) := by decide +kernel
theorem dX12_weather_7 : decode cX12_weather 7 = .ok (.bipush 99, 2) := by decide +kernel
theorem dX12_weather_9 : decode cX12_weather 9 = .ok (.invokestatic 101, 3) := by decide +kernel
theorem dX12_weather_12 : decode cX12_weather 12 = .ok (.ifCond .eq 11, 3) := by decide +kernel
theorem dX12_weather_15 : decode cX12_weather 15 = .ok (.aload_n 0, 1) := by decide +kernel
theorem dX12_weather_16 : decode cX12_weather 16 = .ok (.iload_n 1, 1) := by decide +kernel
theorem dX12_weather_17 : decode cX12_weather 17 = .ok (.invokevirtual 298, 3) := by decide +kernel
theorem dX12_weather_20 : decode cX12_weather 20 = .ok (.ifCond .ne 5, 3) := by decide +kernel
theorem dX12_weather_23 : decode cX12_weather 23 = .ok (.iconst (-1), 1) := by decide +kernel
theorem dX12_weather_24 : decode cX12_weather 24 = .ok (.ireturn, 1) := by decide +kernel
theorem dX12_weather_25 : decode cX12_weather 25 = .ok (.iload_n 2, 1) := by decide +kernel
theorem dX12_weather_26 : decode cX12_weather 26 = .ok (.iconst (-1), 1) := by decide +kernel
theorem dX12_weather_27 : decode cX12_weather 27 = .ok (.if_icmp .eq 33, 3) := by decide +kernel
theorem dX12_weather_30 : decode cX12_weather 30 = .ok (.aload_n 0, 1) := by decide +kernel
theorem dX12_weather_31 : decode cX12_weather 31 = .ok (.iconst 0, 1) := by decide +kernel
theorem dX12_weather_32 : decode cX12_weather 32 = .ok (.iload_n 2, 1) := by decide +kernel
theorem dX12_weather_33 : decode cX12_weather 33 = .ok (.invokevirtual 279, 3) := by decide +kernel
theorem dX12_weather_36 : decode cX12_weather 36 = .ok (.ifCond .eq 7, 3) := by decide +kernel
theorem dX12_weather_39 : decode cX12_weather 39 = .ok (.iconst 1, 1) := by decide +kernel
theorem dX12_weather_40 : decode cX12_weather 40 = .ok (.goto 4, 3) := by decide +kernel
theorem dX12_weather_43 : decode cX12_weather 43 = .ok (.iconst 0, 1) := by decide +kernel
theorem dX12_weather_44 : decode cX12_weather 44 = .ok (.aload_n 0, 1) := by decide +kernel
theorem dX12_weather_45 : decode cX12_weather 45 = .ok (.iconst 1, 1) := by decide +kernel
theorem dX12_weather_46 : decode cX12_weather 46 = .ok (.iload_n 2, 1) := by decide +kernel
theorem dX12_weather_47 : decode cX12_weather 47 = .ok (.invokevirtual 279, 3) := by decide +kernel
theorem dX12_weather_50 : decode cX12_weather 50 = .ok (.ifCond .eq 7, 3) := by decide +kernel
theorem dX12_weather_53 : decode cX12_weather 53 = .ok (.iconst 2, 1) := by decide +kernel
theorem dX12_weather_54 : decode cX12_weather 54 = .ok (.goto 4, 3) := by decide +kernel
theorem dX12_weather_57 : decode cX12_weather 57 = .ok (.iconst 0, 1) := by decide +kernel
theorem dX12_weather_58 : decode cX12_weather 58 = .ok (.iadd, 1) := by decide +kernel
theorem dX12_weather_59 : decode cX12_weather 59 = .ok (.ireturn, 1) := by decide +kernel
theorem dX12_weather_60 : decode cX12_weather 60 = .ok (.iconst 0, 1) := by decide +kernel
theorem dX12_weather_61 : decode cX12_weather 61 = .ok (.istore_n 3, 1) := by decide +kernel
theorem dX12_weather_62 : decode cX12_weather 62 = .ok (.iconst 0, 1) := by decide +kernel
theorem dX12_weather_63 : decode cX12_weather 63 = .ok (.istore 4, 2) := by decide +kernel
theorem dX12_weather_65 : decode cX12_weather 65 = .ok (.iconst 0, 1) := by decide +kernel
theorem dX12_weather_66 : decode cX12_weather 66 = .ok (.istore 5, 2) := by decide +kernel
theorem dX12_weather_68 : decode cX12_weather 68 = .ok (.iload 5, 2) := by decide +kernel
theorem dX12_weather_70 : decode cX12_weather 70 = .ok (.bipush 99, 2) := by decide +kernel
theorem dX12_weather_72 : decode cX12_weather 72 = .ok (.if_icmp .gt 46, 3) := by decide +kernel
theorem dX12_weather_75 : decode cX12_weather 75 = .ok (.aload_n 0, 1) := by decide +kernel
theorem dX12_weather_76 : decode cX12_weather 76 = .ok (.iconst 0, 1) := by decide +kernel
theorem dX12_weather_77 : decode cX12_weather 77 = .ok (.iload 5, 2) := by decide +kernel
theorem dX12_weather_79 : decode cX12_weather 79 = .ok (.invokevirtual 279, 3) := by decide +kernel
theorem dX12_weather_82 : decode cX12_weather 82 = .ok (.ifCond .ne 13, 3) := by decide +kernel
theorem dX12_weather_85 : decode cX12_weather 85 = .ok (.aload_n 0, 1) := by decide +kernel
theorem dX12_weather_86 : decode cX12_weather 86 = .ok (.iconst 1, 1) := by decide +kernel
theorem dX12_weather_87 : decode cX12_weather 87 = .ok (.iload 5, 2) := by decide +kernel
theorem dX12_weather_89 : decode cX12_weather 89 = .ok (.invokevirtual 279, 3) := by decide +kernel
theorem dX12_weather_92 : decode cX12_weather 92 = .ok (.ifCond .eq 7, 3) := by decide +kernel
theorem dX12_weather_95 : decode cX12_weather 95 = .ok (.iconst 0, 1) := by decide +kernel
theorem dX12_weather_96 : decode cX12_weather 96 = .ok (.goto 7, 3) := by decide +kernel
theorem dX12_weather_99 : decode cX12_weather 99 = .ok (.iload 4, 2) := by decide +kernel
theorem dX12_weather_101 : decode cX12_weather 101 = .ok (.iconst 1, 1) := by decide +kernel
theorem dX12_weather_102 : decode cX12_weather 102 = .ok (.iadd, 1) := by decide +kernel
theorem dX12_weather_103 : decode cX12_weather 103 = .ok (.istore 4, 2) := by decide +kernel
theorem dX12_weather_105 : decode cX12_weather 105 = .ok (.iload_n 3, 1) := by decide +kernel
theorem dX12_weather_106 : decode cX12_weather 106 = .ok (.iload 4, 2) := by decide +kernel
theorem dX12_weather_108 : decode cX12_weather 108 = .ok (.invokestatic 168, 3) := by decide +kernel
theorem dX12_weather_111 : decode cX12_weather 111 = .ok (.istore_n 3, 1) := by decide +kernel
theorem dX12_weather_112 : decode cX12_weather 112 = .ok (.iinc 5 1, 3) := by decide +kernel
theorem dX12_weather_115 : decode cX12_weather 115 = .ok (.goto (-47), 3) := by decide +kernel
theorem dX12_weather_118 : decode cX12_weather 118 = .ok (.iload_n 3, 1) := by decide +kernel
theorem dX12_weather_119 : decode cX12_weather 119 = .ok (.ireturn, 1) := by decide +kernel
def fX12_weather_b95x  : Option (Int32) :=
  some 0
def fX12_weather_l68 (m6 : zM) (x0 : Nat) (F11 : Int32 → Int32 → Int32 → Option (Int32)) (x3_8 : Int32) (x4_9 : Int32) (x5_10 : Int32) : Option (Int32) :=
  if 99 < x5_10 then (
  some x3_8)
  else (
  zb1 (fX12_isSky m6 x0 0 x5_10) fun v16 =>
  zb1 (if v16 = 0 then (
  zb1 (fX12_isSky m6 x0 1 x5_10) fun v23 =>
  if v23 = 0 then (
  some (x4_9 + 1))
  else (
  fX12_weather_b95x))
  else (
  fX12_weather_b95x)) fun s17 =>
  zb1 (fX12_greater m6 x3_8 s17) fun v21 =>
  F11 v21 s17 (x5_10 + 1))
def fX12_weather (μ : zM) (x0 : Nat) (x1 : Int32) (x2 : Int32) : Option (Int32 × zM) := zgd (zm_ck μ 12 x0) <|
  zb1 (zm_p μ 12 x0 0 (.int 0)) fun m1 =>
  zb1 (fX12_in m1 x2 (-1) 99) fun v4 =>
  if v4 = 0 then (
  some ((-1), m1))
  else (
  zb2 (fX12_hand m1 x0 x1) fun v7 m6 =>
  if v7 = 0 then (
  some ((-1), m6))
  else (
  if x2 = (-1) then (
  zb1 (zf3 (fX12_weather_l68 m6 x0) zfu 0 0 0) fun x3_13 =>
  some (x3_13, m6))
  else (
  zb1 (fX12_isSky m6 x0 0 x2) fun v26 =>
  zb1 (if v26 = 0 then (
  some 0)
  else (
  some 1)) fun s27 =>
  zb1 (fX12_isSky m6 x0 1 x2) fun v30 =>
  zb1 (if v30 = 0 then (
  some 0)
  else (
  some 2)) fun s31 =>
  some (s27 + s31, m6))))
theorem fX12_weather_ck {μ : zM} {x0 : Nat} {x1 : Int32} {x2 : Int32} {z : Int32 × zM} (h : fX12_weather μ x0 x1 x2 = some z) : zm_ck μ 12 x0 = true := (zgd_s h).1
set_option maxHeartbeats 4000000 in
set_option maxRecDepth 100000 in
theorem cX12_weather_ok {μ : zM} {x0 : Nat} {x1 : Int32} {x2 : Int32} {r : Int32} {mo : zM} (hf : fX12_weather μ x0 x1 x2 = some (r, mo)) : zC yX12_weather cX12_weather 6 (some .int) 3 0 0 [.ref x0, .int x1, .int x2] μ (some (.int r)) mo := by
  replace hf := (zgd_s hf).2
  refine zC.of (by decide) (Nat.le_of_ble_eq_true rfl) (fun K hin => ?_)
  clear hin
  show zz K cX12_weather (6, RX12, some .int, 3, 0, 0, some (.int r), mo) 0 0 0 [(0, .ref x0), (1, .int x1), (2, .int x2)] [] μ
  refine zr_aload_n 0 dX12_weather_0 rfl ?_
  refine zr_iconst 0 dX12_weather_1 (by decide) ?_
  replace hf := zb1_s hf
  obtain ⟨m1, h2, hf⟩ := hf
  refine zr_put h2 zk12 (by decide) zl_788 rfl rfl rfl dX12_weather_2 ?_
  refine zr_iload_n 2 dX12_weather_5 rfl ?_
  refine zr_iconst (-1) dX12_weather_6 (by decide) ?_
  refine zr_bipush 99 dX12_weather_7 (by decide) ?_
  replace hf := zb1_s hf
  obtain ⟨v4, h3, hf⟩ := hf
  refine zr_callS [.int x2, .int (-1), .int 99] (cX12_in_ok h3) zvs_X12_in zl_787 zl_786 rfl (Nat.le_of_ble_eq_true rfl) (Nat.le_of_ble_eq_true rfl) (Nat.le_of_ble_eq_true rfl) (Nat.le_of_ble_eq_true rfl) dX12_weather_9 rfl ?_
  refine zr_if_eq 23 dX12_weather_12 (by decide) (fun hc => ?_) (fun hc => ?_)
  · rw [if_pos hc] at hf
    refine zr_iconst (-1) dX12_weather_23 (by decide) ?_
    cases hf
    exact zr_iret dX12_weather_24
  · rw [if_neg hc] at hf
    refine zr_aload_n 0 dX12_weather_15 rfl ?_
    refine zr_iload_n 1 dX12_weather_16 rfl ?_
    replace hf := zb2_s hf
    obtain ⟨v7, m6, h5, hf⟩ := hf
    refine zr_callV (ci := 12) [.int x1] (cX12_hand_ok h5) zvs_X12_hand zl_946 zl_947 (fX12_hand_ck h5) rfl rfl zl_945 rfl (Nat.le_of_ble_eq_true rfl) (Nat.le_of_ble_eq_true rfl) (Nat.le_of_ble_eq_true rfl) (Nat.le_of_ble_eq_true rfl) dX12_weather_17 rfl ?_
    refine zr_if_ne 25 dX12_weather_20 (by decide) (fun hc => ?_) (fun hc => ?_)
    · rw [if_neg hc] at hf
      refine zr_iload_n 2 dX12_weather_25 rfl ?_
      refine zr_iconst (-1) dX12_weather_26 (by decide) ?_
      refine zr_icmp_eq 60 dX12_weather_27 (by decide) (fun hc => ?_) (fun hc => ?_)
      · rw [if_pos hc] at hf
        refine zr_iconst 0 dX12_weather_60 (by decide) ?_
        refine zr_istore_n [(3, .int 0), (0, .ref x0), (1, .int x1), (2, .int x2)] dX12_weather_61 (Nat.le_of_ble_eq_true rfl) rfl ?_
        refine zr_iconst 0 dX12_weather_62 (by decide) ?_
        refine zr_istore [(4, .int 0), (3, .int 0), (0, .ref x0), (1, .int x1), (2, .int x2)] dX12_weather_63 (Nat.le_of_ble_eq_true rfl) rfl ?_
        refine zr_iconst 0 dX12_weather_65 (by decide) ?_
        refine zr_istore [(5, .int 0), (4, .int 0), (3, .int 0), (0, .ref x0), (1, .int x1), (2, .int x2)] dX12_weather_66 (Nat.le_of_ble_eq_true rfl) rfl ?_
        replace hf := zb1_s hf
        obtain ⟨x3_13, hg, hf⟩ := hf
        have hj14 : zz K cX12_weather (6, RX12, some .int, 3, 0, 0, some (.int r), mo) 0 0 118 [(3, .int x3_13)] [] m6 := by
          refine zr_iload_n 0 dX12_weather_118 rfl ?_
          cases hf
          exact zr_iret dX12_weather_119
        clear hf
        have hf := hg
        clear hg
        have hL24 : ∀ (n : Nat) (x3_8 : Int32) (x4_9 : Int32) (x5_10 : Int32), zf3 (fX12_weather_l68 m6 x0) n x3_8 x4_9 x5_10 = some x3_13 → zz K cX12_weather (6, RX12, some .int, 3, 0, 0, some (.int r), mo) 0 0 68 [(0, .ref x0), (3, .int x3_8), (4, .int x4_9), (5, .int x5_10)] [] m6 := by
          intro n
          induction n with
          | zero => intro x3_8 x4_9 x5_10 hf; cases hf
          | succ n ih12 =>
            intro x3_8 x4_9 x5_10 hf
            replace hf := zf3_s hf
            generalize zf3 (fX12_weather_l68 m6 x0) n = F11 at hf ih12
            unfold fX12_weather_l68 at hf
            refine zr_iload 3 dX12_weather_68 rfl ?_
            refine zr_bipush 99 dX12_weather_70 (by decide) ?_
            refine zr_icmp_gt 118 dX12_weather_72 (by decide) (fun hc => ?_) (fun hc => ?_)
            · rw [if_pos hc] at hf
              cases hf
              exact zr_lv [1] rfl hj14
            · rw [if_neg hc] at hf
              refine zr_aload_n 0 dX12_weather_75 rfl ?_
              refine zr_iconst 0 dX12_weather_76 (by decide) ?_
              refine zr_iload 3 dX12_weather_77 rfl ?_
              replace hf := zb1_s hf
              obtain ⟨v16, h15, hf⟩ := hf
              refine zr_callV (ci := 12) [.int 0, .int x5_10] (cX12_isSky_ok h15) zvs_X12_isSky zl_924 zl_925 (fX12_isSky_ck h15) rfl rfl zl_923 rfl (Nat.le_of_ble_eq_true rfl) (Nat.le_of_ble_eq_true rfl) (Nat.le_of_ble_eq_true rfl) (Nat.le_of_ble_eq_true rfl) dX12_weather_79 rfl ?_
              replace hf := zb1_s hf
              obtain ⟨s17, hg, hf⟩ := hf
              have hj18 : zz K cX12_weather (6, RX12, some .int, 3, 0, 0, some (.int r), mo) 0 0 103 [(0, .ref x0), (3, .int x3_8), (5, .int x5_10)] [.int s17] m6 := by
                refine zr_istore [(4, .int s17), (0, .ref x0), (3, .int x3_8), (5, .int x5_10)] dX12_weather_103 (Nat.le_of_ble_eq_true rfl) rfl ?_
                refine zr_iload_n 2 dX12_weather_105 rfl ?_
                refine zr_iload 0 dX12_weather_106 rfl ?_
                replace hf := zb1_s hf
                obtain ⟨v21, h20, hf⟩ := hf
                refine zr_callS [.int x3_8, .int s17] (cX12_greater_ok h20) zvs_X12_greater zl_829 zl_828 rfl (Nat.le_of_ble_eq_true rfl) (Nat.le_of_ble_eq_true rfl) (Nat.le_of_ble_eq_true rfl) (Nat.le_of_ble_eq_true rfl) dX12_weather_108 rfl ?_
                refine zr_istore_n [(3, .int v21), (4, .int s17), (0, .ref x0), (5, .int x5_10)] dX12_weather_111 (Nat.le_of_ble_eq_true rfl) rfl ?_
                refine zr_iinc (j := 3) (x5_10 + 1) [(5, .int (x5_10 + 1)), (3, .int v21), (4, .int s17), (0, .ref x0)] dX12_weather_112 rfl rfl (Nat.le_of_ble_eq_true rfl) rfl ?_
                refine zr_goto 68 dX12_weather_115 (by decide) ?_
                exact zr_lv [3, 1, 2, 0] rfl (ih12 v21 s17 (x5_10 + 1) hf)
              clear hf
              have hf := hg
              clear hg
              have hb19 : ∀ (_ : Unit), fX12_weather_b95x = some s17 → zz K cX12_weather (6, RX12, some .int, 3, 0, 0, some (.int r), mo) 0 0 95 [(0, .ref x0), (3, .int x3_8), (5, .int x5_10)] [] m6 := by
                intro _ hf
                unfold fX12_weather_b95x at hf
                refine zr_iconst 0 dX12_weather_95 (by decide) ?_
                refine zr_goto 103 dX12_weather_96 (by decide) ?_
                cases hf
                exact zr_lv [0, 1, 2] rfl hj18
              refine zr_if_ne 95 dX12_weather_82 (by decide) (fun hc => ?_) (fun hc => ?_)
              · rw [if_neg hc] at hf
                exact zr_lv [0, 1, 3] rfl (hb19 () hf)
              · rw [if_pos hc] at hf
                refine zr_aload_n 0 dX12_weather_85 rfl ?_
                refine zr_iconst 1 dX12_weather_86 (by decide) ?_
                refine zr_iload 3 dX12_weather_87 rfl ?_
                replace hf := zb1_s hf
                obtain ⟨v23, h22, hf⟩ := hf
                refine zr_callV (ci := 12) [.int 1, .int x5_10] (cX12_isSky_ok h22) zvs_X12_isSky zl_924 zl_925 (fX12_isSky_ck h22) rfl rfl zl_923 rfl (Nat.le_of_ble_eq_true rfl) (Nat.le_of_ble_eq_true rfl) (Nat.le_of_ble_eq_true rfl) (Nat.le_of_ble_eq_true rfl) dX12_weather_89 rfl ?_
                refine zr_if_eq 99 dX12_weather_92 (by decide) (fun hc => ?_) (fun hc => ?_)
                · rw [if_pos hc] at hf
                  refine zr_iload 2 dX12_weather_99 rfl ?_
                  refine zr_iconst 1 dX12_weather_101 (by decide) ?_
                  refine zr_iadd dX12_weather_102 ?_
                  cases hf
                  exact zr_lv [0, 1, 3] rfl hj18
                · rw [if_neg hc] at hf
                  exact zr_lv [0, 1, 3] rfl (hb19 () hf)
        exact zr_lv [3, 2, 1, 0] rfl (hL24 _ 0 0 0 hf)
      · rw [if_neg hc] at hf
        refine zr_aload_n 0 dX12_weather_30 rfl ?_
        refine zr_iconst 0 dX12_weather_31 (by decide) ?_
        refine zr_iload_n 2 dX12_weather_32 rfl ?_
        replace hf := zb1_s hf
        obtain ⟨v26, h25, hf⟩ := hf
        refine zr_callV (ci := 12) [.int 0, .int x2] (cX12_isSky_ok h25) zvs_X12_isSky zl_924 zl_925 (fX12_isSky_ck h25) rfl rfl zl_923 rfl (Nat.le_of_ble_eq_true rfl) (Nat.le_of_ble_eq_true rfl) (Nat.le_of_ble_eq_true rfl) (Nat.le_of_ble_eq_true rfl) dX12_weather_33 rfl ?_
        replace hf := zb1_s hf
        obtain ⟨s27, hg, hf⟩ := hf
        have hj28 : zz K cX12_weather (6, RX12, some .int, 3, 0, 0, some (.int r), mo) 0 0 44 [(0, .ref x0), (2, .int x2)] [.int s27] m6 := by
          refine zr_aload_n 0 dX12_weather_44 rfl ?_
          refine zr_iconst 1 dX12_weather_45 (by decide) ?_
          refine zr_iload_n 1 dX12_weather_46 rfl ?_
          replace hf := zb1_s hf
          obtain ⟨v30, h29, hf⟩ := hf
          refine zr_callV (ci := 12) [.int 1, .int x2] (cX12_isSky_ok h29) zvs_X12_isSky zl_924 zl_925 (fX12_isSky_ck h29) rfl rfl zl_923 rfl (Nat.le_of_ble_eq_true rfl) (Nat.le_of_ble_eq_true rfl) (Nat.le_of_ble_eq_true rfl) (Nat.le_of_ble_eq_true rfl) dX12_weather_47 rfl ?_
          replace hf := zb1_s hf
          obtain ⟨s31, hg, hf⟩ := hf
          have hj32 : zz K cX12_weather (6, RX12, some .int, 3, 0, 0, some (.int r), mo) 0 0 58 [] [.int s31, .int s27] m6 := by
            refine zr_iadd dX12_weather_58 ?_
            cases hf
            exact zr_iret dX12_weather_59
          clear hf
          have hf := hg
          clear hg
          refine zr_if_eq 57 dX12_weather_50 (by decide) (fun hc => ?_) (fun hc => ?_)
          · rw [if_pos hc] at hf
            refine zr_iconst 0 dX12_weather_57 (by decide) ?_
            cases hf
            exact zr_lv [] rfl hj32
          · rw [if_neg hc] at hf
            refine zr_iconst 2 dX12_weather_53 (by decide) ?_
            refine zr_goto 58 dX12_weather_54 (by decide) ?_
            cases hf
            exact zr_lv [] rfl hj32
        clear hf
        have hf := hg
        clear hg
        refine zr_if_eq 43 dX12_weather_36 (by decide) (fun hc => ?_) (fun hc => ?_)
        · rw [if_pos hc] at hf
          refine zr_iconst 0 dX12_weather_43 (by decide) ?_
          cases hf
          exact zr_lv [0, 2] rfl hj28
        · rw [if_neg hc] at hf
          refine zr_iconst 1 dX12_weather_39 (by decide) ?_
          refine zr_goto 44 dX12_weather_40 (by decide) ?_
          cases hf
          exact zr_lv [0, 2] rfl hj28
    · rw [if_pos hc] at hf
      refine zr_iconst (-1) dX12_weather_23 (by decide) ?_
      cases hf
      exact zr_iret dX12_weather_24
