theorem zl_429 : Cond.methodLink RX4 69 Lib.Math.min.name ∈ zt := zt_at 531 (by decide +kernel)
theorem zl_430 : Cond.static Lib.Math.min.name ∈ zt := zt_at 532 (by decide +kernel)
theorem zl_431 : Cond.code Lib.Math.min.name Lib.Math.min.code 2 (some .int) ∈ zt := zt_at 533 (by decide +kernel)
theorem zl_432 : Cond.code yX4_clearDraft cX4_clearDraft 2 (none) ∈ zt := zt_at 537 (by decide +kernel)
theorem zvs_X4_clearDraft : zvS yX4_clearDraft cX4_clearDraft 2 (none) 1 := ⟨zl_432, zl_296, ⟨by decide +kernel, by decide +kernel, by decide +kernel⟩, by decide⟩
theorem zl_433 : Cond.methodLink RX4 75 yX4_clearDraft ∈ zt := zt_at 534 (by decide +kernel)
theorem zl_434 : Cond.instanceMethod yX4_clearDraft ∈ zt := zt_at 536 (by decide +kernel)
theorem zl_435 : Cond.selects RX4 yX4_clearDraft yX4_clearDraft ∈ zt := zt_at 0 (by decide +kernel)
theorem zl_436 : Cond.code yX4_readLine cX4_readLine 5 (none) ∈ zt := zt_at 573 (by decide +kernel)
theorem zvs_X4_readLine : zvS yX4_readLine cX4_readLine 5 (none) 1 := ⟨zl_436, zl_296, ⟨by decide +kernel, by decide +kernel, by decide +kernel⟩, by decide⟩
theorem zl_437 : Cond.methodLink RX4 82 yX4_readLine ∈ zt := zt_at 570 (by decide +kernel)
theorem zl_438 : Cond.instanceMethod yX4_readLine ∈ zt := zt_at 572 (by decide +kernel)
theorem zl_439 : Cond.selects RX4 yX4_readLine yX4_readLine ∈ zt := zt_at 2 (by decide +kernel)
theorem zl_440 : Cond.code yX9_holdsItsPeople cX9_holdsItsPeople 2 (some .boolean) ∈ zt := zt_at 723 (by decide +kernel)
theorem zvs_X9_holdsItsPeople : zvS yX9_holdsItsPeople cX9_holdsItsPeople 2 (some .boolean) 0 := ⟨zl_440, zl_14, ⟨by decide +kernel, by decide +kernel, by decide +kernel⟩, by decide⟩
theorem zl_441 : Cond.methodLink RX4 85 yX9_holdsItsPeople ∈ zt := zt_at 720 (by decide +kernel)
theorem zl_442 : Cond.instanceMethod yX9_holdsItsPeople ∈ zt := zt_at 721 (by decide +kernel)
theorem zl_443 : Cond.selects RX9 yX9_holdsItsPeople yX9_holdsItsPeople ∈ zt := zt_at 722 (by decide +kernel)
theorem dX4_read_0 : decode cX4_read 0 = .ok (.aload_n 0, 1) := by decide +kernel
theorem dX4_read_1 : decode cX4_read 1 = .ok (.iload_n 1, 1) := by decide +kernel
theorem dX4_read_2 : decode cX4_read 2 = .ok (.aload_n 0, 1) := by decide +kernel
theorem dX4_read_3 : decode cX4_read 3 = .ok (.getfield 65, 3) := by decide +kernel
theorem dX4_read_6 : decode cX4_read 6 = .ok (.arraylength, 1) := by decide +kernel
theorem dX4_read_7 : decode cX4_read 7 = .ok (.invokestatic 69, 3) := by decide +kernel
theorem dX4_read_10 : decode cX4_read 10 = .ok (.putfield 46, 3) := by decide +kernel
theorem dX4_read_13 : decode cX4_read 13 = .ok (.aload_n 0, 1) := by decide +kernel
theorem dX4_read_14 : decode cX4_read 14 = .ok (.iconst 0, 1) := by decide +kernel
theorem dX4_read_15 : decode cX4_read 15 = .ok (.putfield 39, 3) := by decide +kernel
theorem dX4_read_18 : decode cX4_read 18 = .ok (.aload_n 0, 1) := by decide +kernel
theorem dX4_read_19 : decode cX4_read 19 = .ok (.iconst (-1), 1) := by decide +kernel
theorem dX4_read_20 : decode cX4_read 20 = .ok (.putfield 43, 3) := by decide +kernel
theorem dX4_read_23 : decode cX4_read 23 = .ok (.aload_n 0, 1) := by decide +kernel
theorem dX4_read_24 : decode cX4_read 24 = .ok (.iconst 0, 1) := by decide +kernel
theorem dX4_read_25 : decode cX4_read 25 = .ok (.putfield 55, 3) := by decide +kernel
theorem dX4_read_28 : decode cX4_read 28 = .ok (.aload_n 0, 1) := by decide +kernel
theorem dX4_read_29 : decode cX4_read 29 = .ok (.iload_n 2, 1) := by decide +kernel
theorem dX4_read_30 : decode cX4_read 30 = .ok (.invokevirtual 75, 3) := by decide +kernel
theorem dX4_read_33 : decode cX4_read 33 = .ok (.aload_n 0, 1) := by decide +kernel
theorem dX4_read_34 : decode cX4_read 34 = .ok (.invokevirtual 79, 3) := by decide +kernel
theorem dX4_read_37 : decode cX4_read 37 = .ok (.iconst 0, 1) := by decide +kernel
theorem dX4_read_38 : decode cX4_read 38 = .ok (.istore_n 3, 1) := by decide +kernel
theorem dX4_read_39 : decode cX4_read 39 = .ok (.iload_n 3, 1) := by decide +kernel
theorem dX4_read_40 : decode cX4_read 40 = .ok (.aload_n 0, 1) := by decide +kernel
theorem dX4_read_41 : decode cX4_read 41 = .ok (.getfield 46, 3) := by decide +kernel
theorem dX4_read_44 : decode cX4_read 44 = .ok (.if_icmp .gt 29, 3) := by decide +kernel
theorem dX4_read_47 : decode cX4_read 47 = .ok (.aload_n 0, 1) := by decide +kernel
theorem dX4_read_48 : decode cX4_read 48 = .ok (.getfield 49, 3) := by decide +kernel
theorem dX4_read_51 : decode cX4_read 51 = .ok (.ifCond .eq 22, 3) := by decide +kernel
theorem dX4_read_54 : decode cX4_read 54 = .ok (.aload_n 0, 1) := by decide +kernel
theorem dX4_read_55 : decode cX4_read 55 = .ok (.getfield 39, 3) := by decide +kernel
theorem dX4_read_58 : decode cX4_read 58 = .ok (.iconst 1, 1) := by decide +kernel
theorem dX4_read_59 : decode cX4_read 59 = .ok (.if_icmp .eq 14, 3) := by decide +kernel
theorem dX4_read_62 : decode cX4_read 62 = .ok (.aload_n 0, 1) := by decide +kernel
theorem dX4_read_63 : decode cX4_read 63 = .ok (.iload_n 2, 1) := by decide +kernel
theorem dX4_read_64 : decode cX4_read 64 = .ok (.invokevirtual 82, 3) := by decide +kernel
theorem dX4_read_67 : decode cX4_read 67 = .ok (.iinc 3 1, 3) := by decide +kernel
theorem dX4_read_70 : decode cX4_read 70 = .ok (.goto (-31), 3) := by decide +kernel
theorem dX4_read_73 : decode cX4_read 73 = .ok (.aload_n 0, 1) := by decide +kernel
theorem dX4_read_74 : decode cX4_read 74 = .ok (.getfield 39, 3) := by decide +kernel
theorem dX4_read_77 : decode cX4_read 77 = .ok (.ifCond .ne 26, 3) := by decide +kernel
theorem dX4_read_80 : decode cX4_read 80 = .ok (.iload_n 2, 1) := by decide +kernel
theorem dX4_read_81 : decode cX4_read 81 = .ok (.ifCond .ne 22, 3) := by decide +kernel
theorem dX4_read_84 : decode cX4_read 84 = .ok (.aload_n 0, 1) := by decide +kernel
theorem dX4_read_85 : decode cX4_read 85 = .ok (.getfield 12, 3) := by decide +kernel
theorem dX4_read_88 : decode cX4_read 88 = .ok (.invokevirtual 85, 3) := by decide +kernel
theorem dX4_read_91 : decode cX4_read 91 = .ok (.ifCond .ne 12, 3) := by decide +kernel
theorem dX4_read_94 : decode cX4_read 94 = .ok (.aload_n 0, 1) := by decide +kernel
theorem dX4_read_95 : decode cX4_read 95 = .ok (.iconst 4, 1) := by decide +kernel
theorem dX4_read_96 : decode cX4_read 96 = .ok (.aload_n 0, 1) := by decide +kernel
theorem dX4_read_97 : decode cX4_read 97 = .ok (.getfield 46, 3) := by decide +kernel
theorem dX4_read_100 : decode cX4_read 100 = .ok (.invokevirtual 89, 3) := by decide +kernel
theorem dX4_read_103 : decode cX4_read 103 = .ok (.return_, 1) := by decide +kernel
noncomputable def fX4_read_l39 (x0 : Nat) (x2 : Int32) (F19 : Int32 → zM → Option (zM)) (x3_17 : Int32) (m18 : zM) : Option (zM) :=
  zb1 (zm_gI m18 4 x0 7) fun v23 =>
  if v23 < x3_17 then (
  some m18)
  else (
  zb1 (zm_gI m18 4 x0 8) fun v25 =>
  if v25 = 0 then (
  some m18)
  else (
  zb1 (zm_gI m18 4 x0 4) fun v27 =>
  if v27 = 1 then (
  some m18)
  else (
  zb1 (fX4_readLine m18 x0 x2) fun m30 =>
  F19 (x3_17 + 1) m30)))
noncomputable def fX4_read (μ : zM) (x0 : Nat) (x1 : Int32) (x2 : Int32) : Option (zM) := zgd (zm_ck μ 4 x0) <|
  zb1 (zm_gR μ 4 x0 6) fun v1 =>
  zb1 (zm_len μ v1) fun v3 =>
  zb1 (zm_p μ 4 x0 7 (.int (if v3 < x1 then v3 else x1 : Int32))) fun m5 =>
  zb1 (zm_p m5 4 x0 4 (.int 0)) fun m7 =>
  zb1 (zm_p m7 4 x0 5 (.int (-1))) fun m9 =>
  zb1 (zm_p m9 4 x0 10 (.int 0)) fun m11 =>
  zb1 (fX4_clearDraft m11 x0 x2) fun m14 =>
  zb1 (fX4_advance m14 x0) fun m16 =>
  zb1 (zf2 (fX4_read_l39 x0 x2) zfu 0 m16 : Option (zM)) fun (m21 : zM) =>
  zb1 (zm_gI m21 4 x0 4) fun v32 =>
  zc1 (if v32 = 0 then (
  if x2 = 0 then (
  zb1 (zm_gR m21 4 x0 0) fun v36 =>
  zb1 (fX9_holdsItsPeople m21 v36) fun v39 =>
  if v39 = 0 then (
  zb1 (zm_gI m21 4 x0 7) fun v40 =>
  zb1 (fX4_mark m21 x0 4 v40) fun m43 =>
  some m43)
  else (
  some m21))
  else (
  some m21))
  else (
  some m21) : Option (zM)) fun (m34 : zM) =>
  some m34
theorem fX4_read_ck {μ : zM} {x0 : Nat} {x1 : Int32} {x2 : Int32} {z : zM} (h : fX4_read μ x0 x1 x2 = some z) : zm_ck μ 4 x0 = true := (zgd_s h).1
set_option maxHeartbeats 4000000 in
set_option maxRecDepth 100000 in
theorem cX4_read_ok {μ : zM} {x0 : Nat} {x1 : Int32} {x2 : Int32} {mo : zM} (hf : fX4_read μ x0 x1 x2 = some mo) : zC yX4_read cX4_read 4 (none) 7 0 0 [.ref x0, .int x1, .int x2] μ (none) mo := by
  replace hf := (zgd_s hf).2
  refine zC.of (by decide) (Nat.le_of_ble_eq_true rfl) (fun K hin => ?_)
  clear hin
  show zz K cX4_read (4, RX4, none, 7, 0, 0, none, mo) 0 0 0 [(0, .ref x0), (1, .int x1), (2, .int x2)] [] μ
  refine zr_aload_n 0 dX4_read_0 rfl ?_
  refine zr_iload_n 1 dX4_read_1 rfl ?_
  refine zr_aload_n 0 dX4_read_2 rfl ?_
  replace hf := zb1_s hf
  obtain ⟨v1, h2, hf⟩ := hf
  refine zr_get (zm_gR_g h2) zk4 (by decide) zl_275 dX4_read_3 ?_
  replace hf := zb1_s hf
  obtain ⟨v3, h4, hf⟩ := hf
  refine zr_alen h4 dX4_read_6 ?_
  refine zr_mmin zl_429 zl_430 zl_11 zl_431 (Nat.le_of_ble_eq_true rfl) (Nat.le_of_ble_eq_true rfl) (Nat.le_of_ble_eq_true rfl) (Nat.le_of_ble_eq_true rfl) dX4_read_7 ?_
  replace hf := zb1_s hf
  obtain ⟨m5, h6, hf⟩ := hf
  refine zr_put h6 zk4 (by decide) zl_269 rfl rfl rfl dX4_read_10 ?_
  refine zr_aload_n 0 dX4_read_13 rfl ?_
  refine zr_iconst 0 dX4_read_14 (by decide) ?_
  replace hf := zb1_s hf
  obtain ⟨m7, h8, hf⟩ := hf
  refine zr_put h8 zk4 (by decide) zl_267 rfl rfl rfl dX4_read_15 ?_
  refine zr_aload_n 0 dX4_read_18 rfl ?_
  refine zr_iconst (-1) dX4_read_19 (by decide) ?_
  replace hf := zb1_s hf
  obtain ⟨m9, h10, hf⟩ := hf
  refine zr_put h10 zk4 (by decide) zl_268 rfl rfl rfl dX4_read_20 ?_
  refine zr_aload_n 0 dX4_read_23 rfl ?_
  refine zr_iconst 0 dX4_read_24 (by decide) ?_
  replace hf := zb1_s hf
  obtain ⟨m11, h12, hf⟩ := hf
  refine zr_put h12 zk4 (by decide) zl_272 rfl rfl rfl dX4_read_25 ?_
  refine zr_aload_n 0 dX4_read_28 rfl ?_
  refine zr_iload_n 2 dX4_read_29 rfl ?_
  replace hf := zb1_s hf
  obtain ⟨m14, h13, hf⟩ := hf
  refine zr_callV (ci := 4) [.int x2] (cX4_clearDraft_ok h13) zvs_X4_clearDraft zl_434 zl_435 (fX4_clearDraft_ck h13) rfl rfl zl_433 rfl (Nat.le_of_ble_eq_true rfl) (Nat.le_of_ble_eq_true rfl) (Nat.le_of_ble_eq_true rfl) (Nat.le_of_ble_eq_true rfl) dX4_read_30 rfl ?_
  refine zr_aload_n 0 dX4_read_33 rfl ?_
  replace hf := zb1_s hf
  obtain ⟨m16, h15, hf⟩ := hf
  refine zr_callV (ci := 4) [] (cX4_advance_ok h15) zvs_X4_advance zl_410 zl_411 (fX4_advance_ck h15) rfl rfl zl_409 rfl (Nat.le_of_ble_eq_true rfl) (Nat.le_of_ble_eq_true rfl) (Nat.le_of_ble_eq_true rfl) (Nat.le_of_ble_eq_true rfl) dX4_read_34 rfl ?_
  refine zr_iconst 0 dX4_read_37 (by decide) ?_
  refine zr_istore_n [(3, .int 0), (0, .ref x0), (1, .int x1), (2, .int x2)] dX4_read_38 (Nat.le_of_ble_eq_true rfl) rfl ?_
  replace hf := zb1_s hf
  obtain ⟨m21, hg, hf⟩ := hf
  have hj22 : zz K cX4_read (4, RX4, none, 7, 0, 0, none, mo) 0 0 73 [(0, .ref x0), (2, .int x2)] [] m21 := by
    refine zr_aload_n 0 dX4_read_73 rfl ?_
    replace hf := zb1_s hf
    obtain ⟨v32, h33, hf⟩ := hf
    refine zr_get (zm_gI_g h33) zk4 (by decide) zl_267 dX4_read_74 ?_
    replace hf := zc1_s hf
    obtain ⟨m34, hg, hf⟩ := hf
    have hj35 : zz K cX4_read (4, RX4, none, 7, 0, 0, none, mo) 0 0 103 [] [] m34 := by
      cases hf
      exact zr_vret dX4_read_103
    clear hf
    have hf := hg
    clear hg
    refine zr_if_ne 103 dX4_read_77 (by decide) (fun hc => ?_) (fun hc => ?_)
    · rw [if_neg hc] at hf
      cases hf
      exact zr_lv [] rfl hj35
    · rw [if_pos hc] at hf
      refine zr_iload_n 1 dX4_read_80 rfl ?_
      refine zr_if_ne 103 dX4_read_81 (by decide) (fun hc => ?_) (fun hc => ?_)
      · rw [if_neg hc] at hf
        cases hf
        exact zr_lv [] rfl hj35
      · rw [if_pos hc] at hf
        refine zr_aload_n 0 dX4_read_84 rfl ?_
        replace hf := zb1_s hf
        obtain ⟨v36, h37, hf⟩ := hf
        refine zr_get (zm_gR_g h37) zk4 (by decide) zl_246 dX4_read_85 ?_
        replace hf := zb1_s hf
        obtain ⟨v39, h38, hf⟩ := hf
        refine zr_callV (ci := 9) [] (cX9_holdsItsPeople_ok h38) zvs_X9_holdsItsPeople zl_442 zl_443 (fX9_holdsItsPeople_ck h38) rfl rfl zl_441 rfl (Nat.le_of_ble_eq_true rfl) (Nat.le_of_ble_eq_true rfl) (Nat.le_of_ble_eq_true rfl) (Nat.le_of_ble_eq_true rfl) dX4_read_88 rfl ?_
        refine zr_if_ne 103 dX4_read_91 (by decide) (fun hc => ?_) (fun hc => ?_)
        · rw [if_neg hc] at hf
          cases hf
          exact zr_lv [] rfl hj35
        · rw [if_pos hc] at hf
          refine zr_aload_n 0 dX4_read_94 rfl ?_
          refine zr_iconst 4 dX4_read_95 (by decide) ?_
          refine zr_aload_n 0 dX4_read_96 rfl ?_
          replace hf := zb1_s hf
          obtain ⟨v40, h41, hf⟩ := hf
          refine zr_get (zm_gI_g h41) zk4 (by decide) zl_269 dX4_read_97 ?_
          replace hf := zb1_s hf
          obtain ⟨m43, h42, hf⟩ := hf
          refine zr_callV (ci := 4) [.int 4, .int v40] (cX4_mark_ok h42) zvs_X4_mark zl_361 zl_362 (fX4_mark_ck h42) rfl rfl zl_360 rfl (Nat.le_of_ble_eq_true rfl) (Nat.le_of_ble_eq_true rfl) (Nat.le_of_ble_eq_true rfl) (Nat.le_of_ble_eq_true rfl) dX4_read_100 rfl ?_
          cases hf
          exact zr_lv [] rfl hj35
  clear hf
  have hf := hg
  clear hg
  have hL31 : ∀ (n : Nat) (x3_17 : Int32) (m18 : zM), zf2 (fX4_read_l39 x0 x2) n x3_17 m18 = some m21 → zz K cX4_read (4, RX4, none, 7, 0, 0, none, mo) 0 0 39 [(0, .ref x0), (2, .int x2), (3, .int x3_17)] [] m18 := by
    intro n
    induction n with
    | zero => intro x3_17 m18 hf; cases hf
    | succ n ih20 =>
      intro x3_17 m18 hf
      replace hf := zf2_s hf
      generalize zf2 (fX4_read_l39 x0 x2) n = F19 at hf ih20
      unfold fX4_read_l39 at hf
      refine zr_iload_n 2 dX4_read_39 rfl ?_
      refine zr_aload_n 0 dX4_read_40 rfl ?_
      replace hf := zb1_s hf
      obtain ⟨v23, h24, hf⟩ := hf
      refine zr_get (zm_gI_g h24) zk4 (by decide) zl_269 dX4_read_41 ?_
      refine zr_icmp_gt 73 dX4_read_44 (by decide) (fun hc => ?_) (fun hc => ?_)
      · rw [if_pos hc] at hf
        cases hf
        exact zr_lv [0, 1] rfl hj22
      · rw [if_neg hc] at hf
        refine zr_aload_n 0 dX4_read_47 rfl ?_
        replace hf := zb1_s hf
        obtain ⟨v25, h26, hf⟩ := hf
        refine zr_get (zm_gI_g h26) zk4 (by decide) zl_270 dX4_read_48 ?_
        refine zr_if_eq 73 dX4_read_51 (by decide) (fun hc => ?_) (fun hc => ?_)
        · rw [if_pos hc] at hf
          cases hf
          exact zr_lv [0, 1] rfl hj22
        · rw [if_neg hc] at hf
          refine zr_aload_n 0 dX4_read_54 rfl ?_
          replace hf := zb1_s hf
          obtain ⟨v27, h28, hf⟩ := hf
          refine zr_get (zm_gI_g h28) zk4 (by decide) zl_267 dX4_read_55 ?_
          refine zr_iconst 1 dX4_read_58 (by decide) ?_
          refine zr_icmp_eq 73 dX4_read_59 (by decide) (fun hc => ?_) (fun hc => ?_)
          · rw [if_pos hc] at hf
            cases hf
            exact zr_lv [0, 1] rfl hj22
          · rw [if_neg hc] at hf
            refine zr_aload_n 0 dX4_read_62 rfl ?_
            refine zr_iload_n 1 dX4_read_63 rfl ?_
            replace hf := zb1_s hf
            obtain ⟨m30, h29, hf⟩ := hf
            refine zr_callV (ci := 4) [.int x2] (cX4_readLine_ok h29) zvs_X4_readLine zl_438 zl_439 (fX4_readLine_ck h29) rfl rfl zl_437 rfl (Nat.le_of_ble_eq_true rfl) (Nat.le_of_ble_eq_true rfl) (Nat.le_of_ble_eq_true rfl) (Nat.le_of_ble_eq_true rfl) dX4_read_64 rfl ?_
            refine zr_iinc (j := 2) (x3_17 + 1) [(3, .int (x3_17 + 1)), (0, .ref x0), (2, .int x2)] dX4_read_67 rfl rfl (Nat.le_of_ble_eq_true rfl) rfl ?_
            refine zr_goto 39 dX4_read_70 (by decide) ?_
            exact zr_lv [1, 2, 0] rfl (ih20 (x3_17 + 1) m30 hf)
  exact zr_lv [1, 3, 0] rfl (hL31 _ 0 m16 hf)
theorem zl_444 : Cond.methodLink RX5 3 Lib.objectInit ∈ zt := zt_at 443 (by decide +kernel)
theorem zl_445 : Cond.fieldLink RX5 9 "TwoEchoes$Search" "hits" "[I" ∈ zt := zt_at 444 (by decide +kernel)
theorem zl_446 : Cond.fieldLink RX5 15 "TwoEchoes$Search" "byThought" "[I" ∈ zt := zt_at 445 (by decide +kernel)
theorem zl_447 : Cond.fieldLink RX5 18 "TwoEchoes$Search" "longest" "I" ∈ zt := zt_at 446 (by decide +kernel)
theorem dX5_init_0 : decode cX5_init 0 = .ok (.aload_n 0, 1) := by decide +kernel
theorem dX5_init_1 : decode cX5_init 1 = .ok (.invokespecial 3, 3) := by decide +kernel
theorem dX5_init_4 : decode cX5_init 4 = .ok (.aload_n 0, 1) := by decide +kernel
theorem dX5_init_5 : decode cX5_init 5 = .ok (.sipush 3100, 3) := by decide +kernel
theorem dX5_init_8 : decode cX5_init 8 = .ok (.newarray .int, 2) := by decide +kernel
theorem dX5_init_10 : decode cX5_init 10 = .ok (.putfield 9, 3) := by decide +kernel
theorem dX5_init_13 : decode cX5_init 13 = .ok (.aload_n 0, 1) := by decide +kernel
theorem dX5_init_14 : decode cX5_init 14 = .ok (.bipush 10, 2) := by decide +kernel
theorem dX5_init_16 : decode cX5_init 16 = .ok (.newarray .int, 2) := by decide +kernel
theorem dX5_init_18 : decode cX5_init 18 = .ok (.putfield 15, 3) := by decide +kernel
theorem dX5_init_21 : decode cX5_init 21 = .ok (.aload_n 0, 1) := by decide +kernel
theorem dX5_init_22 : decode cX5_init 22 = .ok (.iconst 0, 1) := by decide +kernel
theorem dX5_init_23 : decode cX5_init 23 = .ok (.putfield 18, 3) := by decide +kernel
theorem dX5_init_26 : decode cX5_init 26 = .ok (.return_, 1) := by decide +kernel
noncomputable def fX5_init (μ : zM) (x0 : Nat) : Option (zM) :=
  zb1 (some (zm_nw μ (.inl (0, 3100, .inl (fun _ => 0))))) fun m1 =>
  zb1 (zm_p m1 5 x0 0 (.ref μ.2.1)) fun m3 =>
  zb1 (some (zm_nw m3 (.inl (0, 10, .inl (fun _ => 0))))) fun m5 =>
  zb1 (zm_p m5 5 x0 1 (.ref m3.2.1)) fun m7 =>
  zb1 (zm_p m7 5 x0 2 (.int 0)) fun m9 =>
  some m9
set_option maxHeartbeats 4000000 in
set_option maxRecDepth 100000 in
theorem cX5_init_ok {μ : zM} {x0 : Nat} {mo : zM} (hf : fX5_init μ x0 = some mo) : zC yX5_init cX5_init 1 (none) 1 2 3110 [.ref x0] μ (none) mo := by
  unfold fX5_init at hf
  refine zC.of (by decide) (Nat.le_of_ble_eq_true rfl) (fun K hin => ?_)
  replace hin := hin rfl
  show zz K cX5_init (1, RX5, none, 1, 2, 3110, none, mo) 0 0 0 [(0, .ref x0)] [] μ
  refine zr_aload_n 0 dX5_init_0 rfl ?_
  refine zr_objInit zl_444 zl_1 zl_2 (Nat.le_of_ble_eq_true rfl) (Nat.le_of_ble_eq_true rfl) dX5_init_1 ?_
  refine zr_aload_n 0 dX5_init_4 rfl ?_
  refine zr_sipush 3100 dX5_init_5 (by decide) ?_
  refine zr_newa (t := 0) (N := 3100) (atype := .int) (by decide) rfl zl_3 (by decide) (by decide) (by decide) (Nat.le_of_ble_eq_true rfl) (Nat.le_of_ble_eq_true rfl) dX5_init_8 ?_
  replace hf := zb1_s hf
  obtain ⟨m1, h2, hf⟩ := hf
  obtain rfl := Option.some.inj h2
  replace hf := zb1_s hf
  obtain ⟨m3, h4, hf⟩ := hf
  refine zr_putF h4 hin rfl zk5 (by decide) zl_445 rfl rfl rfl dX5_init_10 ?_
  refine zr_aload_n 0 dX5_init_13 rfl ?_
  refine zr_bipush 10 dX5_init_14 (by decide) ?_
  refine zr_newa (t := 0) (N := 10) (atype := .int) (by decide) rfl zl_3 (by decide) (by decide) (by decide) (Nat.le_of_ble_eq_true rfl) (Nat.le_of_ble_eq_true rfl) dX5_init_16 ?_
  replace hf := zb1_s hf
  obtain ⟨m5, h6, hf⟩ := hf
  obtain rfl := Option.some.inj h6
  replace hf := zb1_s hf
  obtain ⟨m7, h8, hf⟩ := hf
  refine zr_putF h8 hin rfl zk5 (by decide) zl_446 rfl rfl rfl dX5_init_18 ?_
  refine zr_aload_n 0 dX5_init_21 rfl ?_
  refine zr_iconst 0 dX5_init_22 (by decide) ?_
  replace hf := zb1_s hf
  obtain ⟨m9, h10, hf⟩ := hf
  refine zr_put h10 zk5 (by decide) zl_447 rfl rfl rfl dX5_init_23 ?_
  cases hf
  exact zr_vret dX5_init_26
theorem zl_448 : Cond.fieldLink RX5 51 "TwoEchoes$Valley" "should" "[I" ∈ zt := zt_at 178 (by decide +kernel)
theorem zl_449 : Cond.fieldLink RX5 54 "TwoEchoes$Valley" "thought" "[I" ∈ zt := zt_at 181 (by decide +kernel)
theorem dX5_wordsJudged_0 : decode cX5_wordsJudged 0 = .ok (.iconst 0, 1) := by decide +kernel
theorem dX5_wordsJudged_1 : decode cX5_wordsJudged 1 = .ok (.istore_n 3, 1) := by decide +kernel
theorem dX5_wordsJudged_2 : decode cX5_wordsJudged 2 = .ok (.iconst 0, 1) := by decide +kernel
theorem dX5_wordsJudged_3 : decode cX5_wordsJudged 3 = .ok (.istore 4, 2) := by decide +kernel
theorem dX5_wordsJudged_5 : decode cX5_wordsJudged 5 = .ok (.iload 4, 2) := by decide +kernel
theorem dX5_wordsJudged_7 : decode cX5_wordsJudged 7 = .ok (.bipush 8, 2) := by decide +kernel
theorem dX5_wordsJudged_9 : decode cX5_wordsJudged 9 = .ok (.if_icmp .ge 44, 3) := by decide +kernel
theorem dX5_wordsJudged_12 : decode cX5_wordsJudged 12 = .ok (.iload_n 2, 1) := by decide +kernel
theorem dX5_wordsJudged_13 : decode cX5_wordsJudged 13 = .ok (.bipush 10, 2) := by decide +kernel
theorem dX5_wordsJudged_15 : decode cX5_wordsJudged 15 = .ok (.if_icmp .ge 38, 3) := by decide +kernel
theorem dX5_wordsJudged_18 : decode cX5_wordsJudged 18 = .ok (.aload_n 0, 1) := by decide +kernel
theorem dX5_wordsJudged_19 : decode cX5_wordsJudged 19 = .ok (.getfield 51, 3) := by decide +kernel
theorem dX5_wordsJudged_22 : decode cX5_wordsJudged 22 = .ok (.iload 4, 2) := by decide +kernel
theorem dX5_wordsJudged_24 : decode cX5_wordsJudged 24 = .ok (.iaload, 1) := by decide +kernel
theorem dX5_wordsJudged_25 : decode cX5_wordsJudged 25 = .ok (.iload_n 1, 1) := by decide +kernel
theorem dX5_wordsJudged_26 : decode cX5_wordsJudged 26 = .ok (.if_icmp .ne 21, 3) := by decide +kernel
theorem dX5_wordsJudged_29 : decode cX5_wordsJudged 29 = .ok (.aload_n 0, 1) := by decide +kernel
theorem dX5_wordsJudged_30 : decode cX5_wordsJudged 30 = .ok (.getfield 54, 3) := by decide +kernel
theorem dX5_wordsJudged_33 : decode cX5_wordsJudged 33 = .ok (.iload 4, 2) := by decide +kernel
theorem dX5_wordsJudged_35 : decode cX5_wordsJudged 35 = .ok (.iaload, 1) := by decide +kernel
theorem dX5_wordsJudged_36 : decode cX5_wordsJudged 36 = .ok (.iload_n 2, 1) := by decide +kernel
theorem dX5_wordsJudged_37 : decode cX5_wordsJudged 37 = .ok (.if_icmp .ne 10, 3) := by decide +kernel
theorem dX5_wordsJudged_40 : decode cX5_wordsJudged 40 = .ok (.iload_n 3, 1) := by decide +kernel
theorem dX5_wordsJudged_41 : decode cX5_wordsJudged 41 = .ok (.iconst 1, 1) := by decide +kernel
theorem dX5_wordsJudged_42 : decode cX5_wordsJudged 42 = .ok (.iload 4, 2) := by decide +kernel
theorem dX5_wordsJudged_44 : decode cX5_wordsJudged 44 = .ok (.ishl, 1) := by decide +kernel
theorem dX5_wordsJudged_45 : decode cX5_wordsJudged 45 = .ok (.ior, 1) := by decide +kernel
theorem dX5_wordsJudged_46 : decode cX5_wordsJudged 46 = .ok (.istore_n 3, 1) := by decide +kernel
theorem dX5_wordsJudged_47 : decode cX5_wordsJudged 47 = .ok (.iinc 4 1, 3) := by decide +kernel
theorem dX5_wordsJudged_50 : decode cX5_wordsJudged 50 = .ok (.goto (-45), 3) := by decide +kernel
theorem dX5_wordsJudged_53 : decode cX5_wordsJudged 53 = .ok (.iload_n 3, 1) := by decide +kernel
theorem dX5_wordsJudged_54 : decode cX5_wordsJudged 54 = .ok (.ireturn, 1) := by decide +kernel
noncomputable def fX5_wordsJudged_l5 (x2 : Int32) (μ : zM) (x0 : Nat) (x1 : Int32) (F3 : Int32 → Int32 → Option (Int32)) (x3_1 : Int32) (x4_2 : Int32) : Option (Int32) :=
  if 8 ≤ x4_2 then (
  some x3_1)
  else (
  if 10 ≤ x2 then (
  some x3_1)
  else (
  zb1 (zm_gR μ 9 x0 1) fun v7 =>
  zb1 (zm_aI μ 0 v7 x4_2) fun v9 =>
  zb1 (if v9 = x1 then (
  zb1 (zm_gR μ 9 x0 2) fun v13 =>
  zb1 (zm_aI μ 0 v13 x4_2) fun v15 =>
  if v15 = x2 then (
  some (x3_1 ||| (1 <<< (x4_2 &&& 31))))
  else (
  some x3_1))
  else (
  some x3_1) : Option (Int32)) fun (x3_11 : Int32) =>
  F3 x3_11 (x4_2 + 1)))
noncomputable def fX5_wordsJudged (μ : zM) (x0 : Nat) (x1 : Int32) (x2 : Int32) : Option (Int32) :=
  zb1 (zf2 (fX5_wordsJudged_l5 x2 μ x0 x1) zfu 0 0 : Option (Int32)) fun (x3_5 : Int32) =>
  some x3_5
set_option maxHeartbeats 4000000 in
set_option maxRecDepth 100000 in
theorem cX5_wordsJudged_ok {μ : zM} {x0 : Nat} {x1 : Int32} {x2 : Int32} {r : Int32} (hf : fX5_wordsJudged μ x0 x1 x2 = some r) : zC yX5_wordsJudged cX5_wordsJudged 5 (some .int) 0 0 0 [.ref x0, .int x1, .int x2] μ (some (.int r)) μ := by
  unfold fX5_wordsJudged at hf
  refine zC.of (by decide) (Nat.le_of_ble_eq_true rfl) (fun K hin => ?_)
  clear hin
  show zz K cX5_wordsJudged (5, RX5, some .int, 0, 0, 0, some (.int r), μ) 0 0 0 [(0, .ref x0), (1, .int x1), (2, .int x2)] [] μ
  refine zr_iconst 0 dX5_wordsJudged_0 (by decide) ?_
  refine zr_istore_n [(3, .int 0), (0, .ref x0), (1, .int x1), (2, .int x2)] dX5_wordsJudged_1 (Nat.le_of_ble_eq_true rfl) rfl ?_
  refine zr_iconst 0 dX5_wordsJudged_2 (by decide) ?_
  refine zr_istore [(4, .int 0), (3, .int 0), (0, .ref x0), (1, .int x1), (2, .int x2)] dX5_wordsJudged_3 (Nat.le_of_ble_eq_true rfl) rfl ?_
  replace hf := zb1_s hf
  obtain ⟨x3_5, hg, hf⟩ := hf
  have hj6 : zz K cX5_wordsJudged (5, RX5, some .int, 0, 0, 0, some (.int r), μ) 0 0 53 [(3, .int x3_5)] [] μ := by
    refine zr_iload_n 0 dX5_wordsJudged_53 rfl ?_
    cases hf
    exact zr_iret dX5_wordsJudged_54
  clear hf
  have hf := hg
  clear hg
  have hL17 : ∀ (n : Nat) (x3_1 : Int32) (x4_2 : Int32), zf2 (fX5_wordsJudged_l5 x2 μ x0 x1) n x3_1 x4_2 = some x3_5 → zz K cX5_wordsJudged (5, RX5, some .int, 0, 0, 0, some (.int r), μ) 0 0 5 [(0, .ref x0), (1, .int x1), (2, .int x2), (3, .int x3_1), (4, .int x4_2)] [] μ := by
    intro n
    induction n with
    | zero => intro x3_1 x4_2 hf; cases hf
    | succ n ih4 =>
      intro x3_1 x4_2 hf
      replace hf := zf2_s hf
      generalize zf2 (fX5_wordsJudged_l5 x2 μ x0 x1) n = F3 at hf ih4
      unfold fX5_wordsJudged_l5 at hf
      refine zr_iload 4 dX5_wordsJudged_5 rfl ?_
      refine zr_bipush 8 dX5_wordsJudged_7 (by decide) ?_
      refine zr_icmp_ge 53 dX5_wordsJudged_9 (by decide) (fun hc => ?_) (fun hc => ?_)
      · rw [if_pos hc] at hf
        cases hf
        exact zr_lv [3] rfl hj6
      · rw [if_neg hc] at hf
        refine zr_iload_n 2 dX5_wordsJudged_12 rfl ?_
        refine zr_bipush 10 dX5_wordsJudged_13 (by decide) ?_
        refine zr_icmp_ge 53 dX5_wordsJudged_15 (by decide) (fun hc => ?_) (fun hc => ?_)
        · rw [if_pos hc] at hf
          cases hf
          exact zr_lv [3] rfl hj6
        · rw [if_neg hc] at hf
          refine zr_aload_n 0 dX5_wordsJudged_18 rfl ?_
          replace hf := zb1_s hf
          obtain ⟨v7, h8, hf⟩ := hf
          refine zr_get (zm_gR_g h8) zk9 (by decide) zl_448 dX5_wordsJudged_19 ?_
          refine zr_iload 4 dX5_wordsJudged_22 rfl ?_
          replace hf := zb1_s hf
          obtain ⟨v9, h10, hf⟩ := hf
          refine zr_iald h10 dX5_wordsJudged_24 ?_
          refine zr_iload_n 1 dX5_wordsJudged_25 rfl ?_
          replace hf := zb1_s hf
          obtain ⟨x3_11, hg, hf⟩ := hf
          have hj12 : zz K cX5_wordsJudged (5, RX5, some .int, 0, 0, 0, some (.int r), μ) 0 0 47 [(0, .ref x0), (1, .int x1), (2, .int x2), (3, .int x3_11), (4, .int x4_2)] [] μ := by
            refine zr_iinc (j := 4) (x4_2 + 1) [(4, .int (x4_2 + 1)), (0, .ref x0), (1, .int x1), (2, .int x2), (3, .int x3_11)] dX5_wordsJudged_47 rfl rfl (Nat.le_of_ble_eq_true rfl) rfl ?_
            refine zr_goto 5 dX5_wordsJudged_50 (by decide) ?_
            exact zr_lv [1, 2, 3, 4, 0] rfl (ih4 x3_11 (x4_2 + 1) hf)
          clear hf
          have hf := hg
          clear hg
          refine zr_icmp_ne 47 dX5_wordsJudged_26 (by decide) (fun hc => ?_) (fun hc => ?_)
          · rw [if_neg hc] at hf
            cases hf
            exact zr_lv [0, 1, 2, 3, 4] rfl hj12
          · rw [if_pos hc] at hf
            refine zr_aload_n 0 dX5_wordsJudged_29 rfl ?_
            replace hf := zb1_s hf
            obtain ⟨v13, h14, hf⟩ := hf
            refine zr_get (zm_gR_g h14) zk9 (by decide) zl_449 dX5_wordsJudged_30 ?_
            refine zr_iload 4 dX5_wordsJudged_33 rfl ?_
            replace hf := zb1_s hf
            obtain ⟨v15, h16, hf⟩ := hf
            refine zr_iald h16 dX5_wordsJudged_35 ?_
            refine zr_iload_n 2 dX5_wordsJudged_36 rfl ?_
            refine zr_icmp_ne 47 dX5_wordsJudged_37 (by decide) (fun hc => ?_) (fun hc => ?_)
            · rw [if_neg hc] at hf
              cases hf
              exact zr_lv [0, 1, 2, 3, 4] rfl hj12
            · rw [if_pos hc] at hf
              refine zr_iload_n 3 dX5_wordsJudged_40 rfl ?_
              refine zr_iconst 1 dX5_wordsJudged_41 (by decide) ?_
              refine zr_iload 4 dX5_wordsJudged_42 rfl ?_
              refine zr_ishl dX5_wordsJudged_44 ?_
              refine zr_ior dX5_wordsJudged_45 ?_
              refine zr_istore_n [(3, .int (x3_1 ||| (1 <<< (x4_2 &&& 31)))), (0, .ref x0), (1, .int x1), (2, .int x2), (4, .int x4_2)] dX5_wordsJudged_46 (Nat.le_of_ble_eq_true rfl) rfl ?_
              cases hf
              exact zr_lv [1, 2, 3, 0, 4] rfl hj12
  exact zr_lv [2, 3, 4, 1, 0] rfl (hL17 _ 0 0 hf)
theorem zl_450 : Cond.fieldLink RX5 22 "TwoEchoes$Sight" "minute" "[I" ∈ zt := zt_at 301 (by decide +kernel)
theorem zl_451 : Cond.fieldLink RX5 27 "TwoEchoes$Sight" "place" "[I" ∈ zt := zt_at 299 (by decide +kernel)
theorem zl_452 : Cond.methodLink RX5 30 yX9_way ∈ zt := zt_at 1124 (by decide +kernel)
theorem zl_453 : Cond.methodLink RX5 36 yX9_isMute ∈ zt := zt_at 1125 (by decide +kernel)
theorem zl_454 : Cond.methodLink RX5 40 yX9_judge ∈ zt := zt_at 1126 (by decide +kernel)
theorem zl_455 : Cond.fieldLink RX5 44 "TwoEchoes$Sight" "word" "[I" ∈ zt := zt_at 303 (by decide +kernel)
theorem zl_456 : Cond.code yX5_wordsJudged cX5_wordsJudged 5 (some .int) ∈ zt := zt_at 1129 (by decide +kernel)
theorem zl_457 : Cond.initialized RX5 ∈ zt := zt_at 137 (by decide +kernel)
theorem zvs_X5_wordsJudged : zvS yX5_wordsJudged cX5_wordsJudged 5 (some .int) 3 := ⟨zl_456, zl_457, ⟨by decide +kernel, by decide +kernel, by decide +kernel⟩, by decide⟩
theorem zl_458 : Cond.methodLink RX5 47 yX5_wordsJudged ∈ zt := zt_at 1127 (by decide +kernel)
theorem zl_459 : Cond.static yX5_wordsJudged ∈ zt := zt_at 1128 (by decide +kernel)
theorem dX5_wordsHeardAs_0 : decode cX5_wordsHeardAs 0 = .ok (.iconst 0, 1) := by decide +kernel
theorem dX5_wordsHeardAs_1 : decode cX5_wordsHeardAs 1 = .ok (.istore 5, 2) := by decide +kernel
theorem dX5_wordsHeardAs_3 : decode cX5_wordsHeardAs 3 = .ok (.aload_n 1, 1) := by decide +kernel
theorem dX5_wordsHeardAs_4 : decode cX5_wordsHeardAs 4 = .ok (.getfield 22, 3) := by decide +kernel
theorem dX5_wordsHeardAs_7 : decode cX5_wordsHeardAs 7 = .ok (.iload_n 2, 1) := by decide +kernel
theorem dX5_wordsHeardAs_8 : decode cX5_wordsHeardAs 8 = .ok (.iaload, 1) := by decide +kernel
theorem dX5_wordsHeardAs_9 : decode cX5_wordsHeardAs 9 = .ok (.iload 4, 2) := by decide +kernel
theorem dX5_wordsHeardAs_11 : decode cX5_wordsHeardAs 11 = .ok (.isub, 1) := by decide +kernel
theorem dX5_wordsHeardAs_12 : decode cX5_wordsHeardAs 12 = .ok (.istore 6, 2) := by decide +kernel
theorem dX5_wordsHeardAs_14 : decode cX5_wordsHeardAs 14 = .ok (.iconst 0, 1) := by decide +kernel
theorem dX5_wordsHeardAs_15 : decode cX5_wordsHeardAs 15 = .ok (.istore 7, 2) := by decide +kernel
theorem dX5_wordsHeardAs_17 : decode cX5_wordsHeardAs 17 = .ok (.iload 7, 2) := by decide +kernel
theorem dX5_wordsHeardAs_19 : decode cX5_wordsHeardAs 19 = .ok (.iconst 2, 1) := by decide +kernel
theorem dX5_wordsHeardAs_20 : decode cX5_wordsHeardAs 20 = .ok (.if_icmp .gt 100, 3) := by decide +kernel
theorem dX5_wordsHeardAs_23 : decode cX5_wordsHeardAs 23 = .ok (.iload 6, 2) := by decide +kernel
theorem dX5_wordsHeardAs_25 : decode cX5_wordsHeardAs 25 = .ok (.ifCond .lt 95, 3) := by decide +kernel
theorem dX5_wordsHeardAs_28 : decode cX5_wordsHeardAs 28 = .ok (.iload 6, 2) := by decide +kernel
theorem dX5_wordsHeardAs_30 : decode cX5_wordsHeardAs 30 = .ok (.aload_n 0, 1) := by decide +kernel
theorem dX5_wordsHeardAs_31 : decode cX5_wordsHeardAs 31 = .ok (.iload_n 3, 1) := by decide +kernel
theorem dX5_wordsHeardAs_32 : decode cX5_wordsHeardAs 32 = .ok (.aload_n 1, 1) := by decide +kernel
theorem dX5_wordsHeardAs_33 : decode cX5_wordsHeardAs 33 = .ok (.getfield 27, 3) := by decide +kernel
theorem dX5_wordsHeardAs_36 : decode cX5_wordsHeardAs 36 = .ok (.iload_n 2, 1) := by decide +kernel
theorem dX5_wordsHeardAs_37 : decode cX5_wordsHeardAs 37 = .ok (.iaload, 1) := by decide +kernel
theorem dX5_wordsHeardAs_38 : decode cX5_wordsHeardAs 38 = .ok (.iload 7, 2) := by decide +kernel
theorem dX5_wordsHeardAs_40 : decode cX5_wordsHeardAs 40 = .ok (.invokevirtual 30, 3) := by decide +kernel
theorem dX5_wordsHeardAs_43 : decode cX5_wordsHeardAs 43 = .ok (.isub, 1) := by decide +kernel
theorem dX5_wordsHeardAs_44 : decode cX5_wordsHeardAs 44 = .ok (.istore 8, 2) := by decide +kernel
theorem dX5_wordsHeardAs_46 : decode cX5_wordsHeardAs 46 = .ok (.iload 8, 2) := by decide +kernel
theorem dX5_wordsHeardAs_48 : decode cX5_wordsHeardAs 48 = .ok (.ifCond .lt 66, 3) := by decide +kernel
theorem dX5_wordsHeardAs_51 : decode cX5_wordsHeardAs 51 = .ok (.aload_n 0, 1) := by decide +kernel
theorem dX5_wordsHeardAs_52 : decode cX5_wordsHeardAs 52 = .ok (.iload 7, 2) := by decide +kernel
theorem dX5_wordsHeardAs_54 : decode cX5_wordsHeardAs 54 = .ok (.iload 4, 2) := by decide +kernel
theorem dX5_wordsHeardAs_56 : decode cX5_wordsHeardAs 56 = .ok (.invokevirtual 36, 3) := by decide +kernel
theorem dX5_wordsHeardAs_59 : decode cX5_wordsHeardAs 59 = .ok (.ifCond .eq 6, 3) := by decide +kernel
theorem dX5_wordsHeardAs_62 : decode cX5_wordsHeardAs 62 = .ok (.goto 52, 3) := by decide +kernel
theorem dX5_wordsHeardAs_65 : decode cX5_wordsHeardAs 65 = .ok (.iload 7, 2) := by decide +kernel
theorem dX5_wordsHeardAs_67 : decode cX5_wordsHeardAs 67 = .ok (.aload_n 0, 1) := by decide +kernel
theorem dX5_wordsHeardAs_68 : decode cX5_wordsHeardAs 68 = .ok (.iload 4, 2) := by decide +kernel
theorem dX5_wordsHeardAs_70 : decode cX5_wordsHeardAs 70 = .ok (.invokevirtual 40, 3) := by decide +kernel
theorem dX5_wordsHeardAs_73 : decode cX5_wordsHeardAs 73 = .ok (.if_icmp .ne 23, 3) := by decide +kernel
theorem dX5_wordsHeardAs_76 : decode cX5_wordsHeardAs 76 = .ok (.iload 5, 2) := by decide +kernel
theorem dX5_wordsHeardAs_78 : decode cX5_wordsHeardAs 78 = .ok (.aload_n 0, 1) := by decide +kernel
theorem dX5_wordsHeardAs_79 : decode cX5_wordsHeardAs 79 = .ok (.aload_n 1, 1) := by decide +kernel
theorem dX5_wordsHeardAs_80 : decode cX5_wordsHeardAs 80 = .ok (.getfield 44, 3) := by decide +kernel
theorem dX5_wordsHeardAs_83 : decode cX5_wordsHeardAs 83 = .ok (.iload_n 2, 1) := by decide +kernel
theorem dX5_wordsHeardAs_84 : decode cX5_wordsHeardAs 84 = .ok (.iaload, 1) := by decide +kernel
theorem dX5_wordsHeardAs_85 : decode cX5_wordsHeardAs 85 = .ok (.iload 8, 2) := by decide +kernel
theorem dX5_wordsHeardAs_87 : decode cX5_wordsHeardAs 87 = .ok (.invokestatic 47, 3) := by decide +kernel
theorem dX5_wordsHeardAs_90 : decode cX5_wordsHeardAs 90 = .ok (.ior, 1) := by decide +kernel
theorem dX5_wordsHeardAs_91 : decode cX5_wordsHeardAs 91 = .ok (.istore 5, 2) := by decide +kernel
theorem dX5_wordsHeardAs_93 : decode cX5_wordsHeardAs 93 = .ok (.goto 21, 3) := by decide +kernel
theorem dX5_wordsHeardAs_96 : decode cX5_wordsHeardAs 96 = .ok (.iload 8, 2) := by decide +kernel
theorem dX5_wordsHeardAs_98 : decode cX5_wordsHeardAs 98 = .ok (.ifCond .ne 16, 3) := by decide +kernel
theorem dX5_wordsHeardAs_101 : decode cX5_wordsHeardAs 101 = .ok (.iload 5, 2) := by decide +kernel
theorem dX5_wordsHeardAs_103 : decode cX5_wordsHeardAs 103 = .ok (.iconst 1, 1) := by decide +kernel
theorem dX5_wordsHeardAs_104 : decode cX5_wordsHeardAs 104 = .ok (.aload_n 1, 1) := by decide +kernel
theorem dX5_wordsHeardAs_105 : decode cX5_wordsHeardAs 105 = .ok (.getfield 44, 3) := by decide +kernel
theorem dX5_wordsHeardAs_108 : decode cX5_wordsHeardAs 108 = .ok (.iload_n 2, 1) := by decide +kernel
theorem dX5_wordsHeardAs_109 : decode cX5_wordsHeardAs 109 = .ok (.iaload, 1) := by decide +kernel
theorem dX5_wordsHeardAs_110 : decode cX5_wordsHeardAs 110 = .ok (.ishl, 1) := by decide +kernel
theorem dX5_wordsHeardAs_111 : decode cX5_wordsHeardAs 111 = .ok (.ior, 1) := by decide +kernel
theorem dX5_wordsHeardAs_112 : decode cX5_wordsHeardAs 112 = .ok (.istore 5, 2) := by decide +kernel
theorem dX5_wordsHeardAs_114 : decode cX5_wordsHeardAs 114 = .ok (.iinc 7 1, 3) := by decide +kernel
theorem dX5_wordsHeardAs_117 : decode cX5_wordsHeardAs 117 = .ok (.goto (-100), 3) := by decide +kernel
theorem dX5_wordsHeardAs_120 : decode cX5_wordsHeardAs 120 = .ok (.iload 5, 2) := by decide +kernel
theorem dX5_wordsHeardAs_122 : decode cX5_wordsHeardAs 122 = .ok (.ireturn, 1) := by decide +kernel
noncomputable def fX5_wordsHeardAs_l17 (v3 : Int32) (x4 : Int32) (μ : zM) (x1 : Nat) (x2 : Int32) (x0 : Nat) (x3 : Int32) (F7 : Int32 → Int32 → Option (Int32)) (x5_5 : Int32) (x7_6 : Int32) : Option (Int32) :=
  if 2 < x7_6 then (
  some x5_5)
  else (
  if (v3 - x4) < 0 then (
  some x5_5)
  else (
  zb1 (zm_gR μ 6 x1 2) fun v11 =>
  zb1 (zm_aI μ 0 v11 x2) fun v13 =>
  zb1 (fX9_way μ x0 x3 v13 x7_6) fun v16 =>
  zb1 (if ((v3 - x4) - v16) < 0 then (
  some x5_5)
  else (
  zb1 (fX9_isMute μ x0 x7_6 x4) fun v20 =>
  if v20 = 0 then (
  zb1 (fX9_judge μ x0 x4) fun v22 =>
  if x7_6 = v22 then (
  zb1 (zm_gR μ 6 x1 4) fun v27 =>
  zb1 (zm_aI μ 0 v27 x2) fun v29 =>
  zb1 (fX5_wordsJudged μ x0 v29 ((v3 - x4) - v16)) fun v32 =>
  some (x5_5 ||| v32))
  else (
  if ((v3 - x4) - v16) = 0 then (
  zb1 (zm_gR μ 6 x1 4) fun v23 =>
  zb1 (zm_aI μ 0 v23 x2) fun v25 =>
  some (x5_5 ||| (1 <<< (v25 &&& 31))))
  else (
  some x5_5)))
  else (
  some x5_5)) : Option (Int32)) fun (x5_17 : Int32) =>
  F7 x5_17 (x7_6 + 1)))
noncomputable def fX5_wordsHeardAs (μ : zM) (x0 : Nat) (x1 : Nat) (x2 : Int32) (x3 : Int32) (x4 : Int32) : Option (Int32) :=
  zb1 (zm_gR μ 6 x1 3) fun v1 =>
  zb1 (zm_aI μ 0 v1 x2) fun v3 =>
  zb1 (zf2 (fX5_wordsHeardAs_l17 v3 x4 μ x1 x2 x0 x3) zfu 0 0 : Option (Int32)) fun (x5_9 : Int32) =>
  some x5_9
set_option maxHeartbeats 4000000 in
set_option maxRecDepth 100000 in
theorem cX5_wordsHeardAs_ok {μ : zM} {x0 : Nat} {x1 : Nat} {x2 : Int32} {x3 : Int32} {x4 : Int32} {r : Int32} (hf : fX5_wordsHeardAs μ x0 x1 x2 x3 x4 = some r) : zC yX5_wordsHeardAs cX5_wordsHeardAs 9 (some .int) 2 0 0 [.ref x0, .ref x1, .int x2, .int x3, .int x4] μ (some (.int r)) μ := by
  unfold fX5_wordsHeardAs at hf
  refine zC.of (by decide) (Nat.le_of_ble_eq_true rfl) (fun K hin => ?_)
  clear hin
  show zz K cX5_wordsHeardAs (9, RX5, some .int, 2, 0, 0, some (.int r), μ) 0 0 0 [(0, .ref x0), (1, .ref x1), (2, .int x2), (3, .int x3), (4, .int x4)] [] μ
  refine zr_iconst 0 dX5_wordsHeardAs_0 (by decide) ?_
  refine zr_istore [(5, .int 0), (0, .ref x0), (1, .ref x1), (2, .int x2), (3, .int x3), (4, .int x4)] dX5_wordsHeardAs_1 (Nat.le_of_ble_eq_true rfl) rfl ?_
  refine zr_aload_n 2 dX5_wordsHeardAs_3 rfl ?_
  replace hf := zb1_s hf
  obtain ⟨v1, h2, hf⟩ := hf
  refine zr_get (zm_gR_g h2) zk6 (by decide) zl_450 dX5_wordsHeardAs_4 ?_
  refine zr_iload_n 3 dX5_wordsHeardAs_7 rfl ?_
  replace hf := zb1_s hf
  obtain ⟨v3, h4, hf⟩ := hf
  refine zr_iald h4 dX5_wordsHeardAs_8 ?_
  refine zr_iload 5 dX5_wordsHeardAs_9 rfl ?_
  refine zr_isub dX5_wordsHeardAs_11 ?_
  refine zr_istore [(6, .int (v3 - x4)), (5, .int 0), (0, .ref x0), (1, .ref x1), (2, .int x2), (3, .int x3), (4, .int x4)] dX5_wordsHeardAs_12 (Nat.le_of_ble_eq_true rfl) rfl ?_
  refine zr_iconst 0 dX5_wordsHeardAs_14 (by decide) ?_
  refine zr_istore [(7, .int 0), (6, .int (v3 - x4)), (5, .int 0), (0, .ref x0), (1, .ref x1), (2, .int x2), (3, .int x3), (4, .int x4)] dX5_wordsHeardAs_15 (Nat.le_of_ble_eq_true rfl) rfl ?_
  replace hf := zb1_s hf
  obtain ⟨x5_9, hg, hf⟩ := hf
  have hj10 : zz K cX5_wordsHeardAs (9, RX5, some .int, 2, 0, 0, some (.int r), μ) 0 0 120 [(5, .int x5_9)] [] μ := by
    refine zr_iload 0 dX5_wordsHeardAs_120 rfl ?_
    cases hf
    exact zr_iret dX5_wordsHeardAs_122
  clear hf
  have hf := hg
  clear hg
  have hL33 : ∀ (n : Nat) (x5_5 : Int32) (x7_6 : Int32), zf2 (fX5_wordsHeardAs_l17 v3 x4 μ x1 x2 x0 x3) n x5_5 x7_6 = some x5_9 → zz K cX5_wordsHeardAs (9, RX5, some .int, 2, 0, 0, some (.int r), μ) 0 0 17 [(0, .ref x0), (1, .ref x1), (2, .int x2), (3, .int x3), (4, .int x4), (5, .int x5_5), (6, .int (v3 - x4)), (7, .int x7_6)] [] μ := by
    intro n
    induction n with
    | zero => intro x5_5 x7_6 hf; cases hf
    | succ n ih8 =>
      intro x5_5 x7_6 hf
      replace hf := zf2_s hf
      generalize zf2 (fX5_wordsHeardAs_l17 v3 x4 μ x1 x2 x0 x3) n = F7 at hf ih8
      unfold fX5_wordsHeardAs_l17 at hf
      refine zr_iload 7 dX5_wordsHeardAs_17 rfl ?_
      refine zr_iconst 2 dX5_wordsHeardAs_19 (by decide) ?_
      refine zr_icmp_gt 120 dX5_wordsHeardAs_20 (by decide) (fun hc => ?_) (fun hc => ?_)
      · rw [if_pos hc] at hf
        cases hf
        exact zr_lv [5] rfl hj10
      · rw [if_neg hc] at hf
        refine zr_iload 6 dX5_wordsHeardAs_23 rfl ?_
        refine zr_if_lt 120 dX5_wordsHeardAs_25 (by decide) (fun hc => ?_) (fun hc => ?_)
        · rw [if_pos hc] at hf
          cases hf
          exact zr_lv [5] rfl hj10
        · rw [if_neg hc] at hf
          refine zr_iload 6 dX5_wordsHeardAs_28 rfl ?_
          refine zr_aload_n 0 dX5_wordsHeardAs_30 rfl ?_
          refine zr_iload_n 3 dX5_wordsHeardAs_31 rfl ?_
          refine zr_aload_n 1 dX5_wordsHeardAs_32 rfl ?_
          replace hf := zb1_s hf
          obtain ⟨v11, h12, hf⟩ := hf
          refine zr_get (zm_gR_g h12) zk6 (by decide) zl_451 dX5_wordsHeardAs_33 ?_
          refine zr_iload_n 2 dX5_wordsHeardAs_36 rfl ?_
          replace hf := zb1_s hf
          obtain ⟨v13, h14, hf⟩ := hf
          refine zr_iald h14 dX5_wordsHeardAs_37 ?_
          refine zr_iload 7 dX5_wordsHeardAs_38 rfl ?_
          replace hf := zb1_s hf
          obtain ⟨v16, h15, hf⟩ := hf
          refine zr_callV (ci := 9) [.int x3, .int v13, .int x7_6] (cX9_way_ok h15) zvs_X9_way zl_20 zl_21 (fX9_way_ck h15) rfl rfl zl_452 rfl (Nat.le_of_ble_eq_true rfl) (Nat.le_of_ble_eq_true rfl) (Nat.le_of_ble_eq_true rfl) (Nat.le_of_ble_eq_true rfl) dX5_wordsHeardAs_40 rfl ?_
          refine zr_isub dX5_wordsHeardAs_43 ?_
          refine zr_istore [(8, .int ((v3 - x4) - v16)), (0, .ref x0), (1, .ref x1), (2, .int x2), (3, .int x3), (4, .int x4), (5, .int x5_5), (6, .int (v3 - x4)), (7, .int x7_6)] dX5_wordsHeardAs_44 (Nat.le_of_ble_eq_true rfl) rfl ?_
          refine zr_iload 0 dX5_wordsHeardAs_46 rfl ?_
          replace hf := zb1_s hf
          obtain ⟨x5_17, hg, hf⟩ := hf
          have hj18 : zz K cX5_wordsHeardAs (9, RX5, some .int, 2, 0, 0, some (.int r), μ) 0 0 114 [(0, .ref x0), (1, .ref x1), (2, .int x2), (3, .int x3), (4, .int x4), (5, .int x5_17), (6, .int (v3 - x4)), (7, .int x7_6)] [] μ := by
            refine zr_iinc (j := 7) (x7_6 + 1) [(7, .int (x7_6 + 1)), (0, .ref x0), (1, .ref x1), (2, .int x2), (3, .int x3), (4, .int x4), (5, .int x5_17), (6, .int (v3 - x4))] dX5_wordsHeardAs_114 rfl rfl (Nat.le_of_ble_eq_true rfl) rfl ?_
            refine zr_goto 17 dX5_wordsHeardAs_117 (by decide) ?_
            exact zr_lv [1, 2, 3, 4, 5, 6, 7, 0] rfl (ih8 x5_17 (x7_6 + 1) hf)
          clear hf
          have hf := hg
          clear hg
          refine zr_if_lt 114 dX5_wordsHeardAs_48 (by decide) (fun hc => ?_) (fun hc => ?_)
          · rw [if_pos hc] at hf
            cases hf
            exact zr_lv [1, 2, 3, 4, 5, 6, 7, 8] rfl hj18
          · rw [if_neg hc] at hf
            refine zr_aload_n 1 dX5_wordsHeardAs_51 rfl ?_
            refine zr_iload 8 dX5_wordsHeardAs_52 rfl ?_
            refine zr_iload 5 dX5_wordsHeardAs_54 rfl ?_
            replace hf := zb1_s hf
            obtain ⟨v20, h19, hf⟩ := hf
            refine zr_callV (ci := 9) [.int x7_6, .int x4] (cX9_isMute_ok h19) zvs_X9_isMute zl_16 zl_17 (fX9_isMute_ck h19) rfl rfl zl_453 rfl (Nat.le_of_ble_eq_true rfl) (Nat.le_of_ble_eq_true rfl) (Nat.le_of_ble_eq_true rfl) (Nat.le_of_ble_eq_true rfl) dX5_wordsHeardAs_56 rfl ?_
            refine zr_if_eq 65 dX5_wordsHeardAs_59 (by decide) (fun hc => ?_) (fun hc => ?_)
            · rw [if_pos hc] at hf
              refine zr_iload 8 dX5_wordsHeardAs_65 rfl ?_
              refine zr_aload_n 1 dX5_wordsHeardAs_67 rfl ?_
              refine zr_iload 5 dX5_wordsHeardAs_68 rfl ?_
              replace hf := zb1_s hf
              obtain ⟨v22, h21, hf⟩ := hf
              refine zr_callV (ci := 9) [.int x4] (cX9_judge_ok h21) zvs_X9_judge zl_36 zl_37 (fX9_judge_ck h21) rfl rfl zl_454 rfl (Nat.le_of_ble_eq_true rfl) (Nat.le_of_ble_eq_true rfl) (Nat.le_of_ble_eq_true rfl) (Nat.le_of_ble_eq_true rfl) dX5_wordsHeardAs_70 rfl ?_
              refine zr_icmp_ne 96 dX5_wordsHeardAs_73 (by decide) (fun hc => ?_) (fun hc => ?_)
              · rw [if_neg hc] at hf
                refine zr_iload 0 dX5_wordsHeardAs_96 rfl ?_
                refine zr_if_ne 114 dX5_wordsHeardAs_98 (by decide) (fun hc => ?_) (fun hc => ?_)
                · rw [if_neg hc] at hf
                  cases hf
                  exact zr_lv [1, 2, 3, 4, 5, 6, 7, 8] rfl hj18
                · rw [if_pos hc] at hf
                  refine zr_iload 6 dX5_wordsHeardAs_101 rfl ?_
                  refine zr_iconst 1 dX5_wordsHeardAs_103 (by decide) ?_
                  refine zr_aload_n 2 dX5_wordsHeardAs_104 rfl ?_
                  replace hf := zb1_s hf
                  obtain ⟨v23, h24, hf⟩ := hf
                  refine zr_get (zm_gR_g h24) zk6 (by decide) zl_455 dX5_wordsHeardAs_105 ?_
                  refine zr_iload_n 3 dX5_wordsHeardAs_108 rfl ?_
                  replace hf := zb1_s hf
                  obtain ⟨v25, h26, hf⟩ := hf
                  refine zr_iald h26 dX5_wordsHeardAs_109 ?_
                  refine zr_ishl dX5_wordsHeardAs_110 ?_
                  refine zr_ior dX5_wordsHeardAs_111 ?_
                  refine zr_istore [(5, .int (x5_5 ||| (1 <<< (v25 &&& 31)))), (8, .int ((v3 - x4) - v16)), (0, .ref x0), (1, .ref x1), (2, .int x2), (3, .int x3), (4, .int x4), (6, .int (v3 - x4)), (7, .int x7_6)] dX5_wordsHeardAs_112 (Nat.le_of_ble_eq_true rfl) rfl ?_
                  cases hf
                  exact zr_lv [2, 3, 4, 5, 6, 0, 7, 8] rfl hj18
              · rw [if_pos hc] at hf
                refine zr_iload 6 dX5_wordsHeardAs_76 rfl ?_
                refine zr_aload_n 1 dX5_wordsHeardAs_78 rfl ?_
                refine zr_aload_n 2 dX5_wordsHeardAs_79 rfl ?_
                replace hf := zb1_s hf
                obtain ⟨v27, h28, hf⟩ := hf
                refine zr_get (zm_gR_g h28) zk6 (by decide) zl_455 dX5_wordsHeardAs_80 ?_
                refine zr_iload_n 3 dX5_wordsHeardAs_83 rfl ?_
                replace hf := zb1_s hf
                obtain ⟨v29, h30, hf⟩ := hf
                refine zr_iald h30 dX5_wordsHeardAs_84 ?_
                refine zr_iload 0 dX5_wordsHeardAs_85 rfl ?_
                replace hf := zb1_s hf
                obtain ⟨v32, h31, hf⟩ := hf
                refine zr_callS [.ref x0, .int v29, .int ((v3 - x4) - v16)] (cX5_wordsJudged_ok h31) zvs_X5_wordsJudged zl_459 zl_458 rfl (Nat.le_of_ble_eq_true rfl) (Nat.le_of_ble_eq_true rfl) (Nat.le_of_ble_eq_true rfl) (Nat.le_of_ble_eq_true rfl) dX5_wordsHeardAs_87 rfl ?_
                refine zr_ior dX5_wordsHeardAs_90 ?_
                refine zr_istore [(5, .int (x5_5 ||| v32)), (8, .int ((v3 - x4) - v16)), (0, .ref x0), (1, .ref x1), (2, .int x2), (3, .int x3), (4, .int x4), (6, .int (v3 - x4)), (7, .int x7_6)] dX5_wordsHeardAs_91 (Nat.le_of_ble_eq_true rfl) rfl ?_
                refine zr_goto 114 dX5_wordsHeardAs_93 (by decide) ?_
                cases hf
                exact zr_lv [2, 3, 4, 5, 6, 0, 7, 8] rfl hj18
            · rw [if_neg hc] at hf
              refine zr_goto 114 dX5_wordsHeardAs_62 (by decide) ?_
              cases hf
              exact zr_lv [1, 2, 3, 4, 5, 6, 7, 8] rfl hj18
  exact zr_lv [3, 4, 5, 6, 7, 2, 1, 0] rfl (hL33 _ 0 0 hf)
theorem zl_460 : Cond.fieldLink RX5 57 "TwoEchoes$Sight" "facts" "I" ∈ zt := zt_at 294 (by decide +kernel)
theorem zl_461 : Cond.code yX5_wordsHeardAs cX5_wordsHeardAs 9 (some .int) ∈ zt := zt_at 1123 (by decide +kernel)
theorem zvs_X5_wordsHeardAs : zvS yX5_wordsHeardAs cX5_wordsHeardAs 9 (some .int) 5 := ⟨zl_461, zl_457, ⟨by decide +kernel, by decide +kernel, by decide +kernel⟩, by decide⟩
theorem zl_462 : Cond.methodLink RX5 60 yX5_wordsHeardAs ∈ zt := zt_at 1121 (by decide +kernel)
theorem zl_463 : Cond.static yX5_wordsHeardAs ∈ zt := zt_at 1122 (by decide +kernel)
theorem zl_464 : Cond.fieldLink RX5 64 "TwoEchoes$Sight" "wasHeard" "[I" ∈ zt := zt_at 297 (by decide +kernel)
theorem dX5_wordsMaybe_0 : decode cX5_wordsMaybe 0 = .ok (.sipush 255, 3) := by decide +kernel
theorem dX5_wordsMaybe_3 : decode cX5_wordsMaybe 3 = .ok (.istore 4, 2) := by decide +kernel
theorem dX5_wordsMaybe_5 : decode cX5_wordsMaybe 5 = .ok (.iconst 0, 1) := by decide +kernel
theorem dX5_wordsMaybe_6 : decode cX5_wordsMaybe 6 = .ok (.istore 5, 2) := by decide +kernel
theorem dX5_wordsMaybe_8 : decode cX5_wordsMaybe 8 = .ok (.iload 5, 2) := by decide +kernel
theorem dX5_wordsMaybe_10 : decode cX5_wordsMaybe 10 = .ok (.aload_n 1, 1) := by decide +kernel
theorem dX5_wordsMaybe_11 : decode cX5_wordsMaybe 11 = .ok (.getfield 57, 3) := by decide +kernel
theorem dX5_wordsMaybe_14 : decode cX5_wordsMaybe 14 = .ok (.if_icmp .ge 50, 3) := by decide +kernel
theorem dX5_wordsMaybe_17 : decode cX5_wordsMaybe 17 = .ok (.iload 4, 2) := by decide +kernel
theorem dX5_wordsMaybe_19 : decode cX5_wordsMaybe 19 = .ok (.ifCond .eq 45, 3) := by decide +kernel
theorem dX5_wordsMaybe_22 : decode cX5_wordsMaybe 22 = .ok (.aload_n 0, 1) := by decide +kernel
theorem dX5_wordsMaybe_23 : decode cX5_wordsMaybe 23 = .ok (.aload_n 1, 1) := by decide +kernel
theorem dX5_wordsMaybe_24 : decode cX5_wordsMaybe 24 = .ok (.iload 5, 2) := by decide +kernel
theorem dX5_wordsMaybe_26 : decode cX5_wordsMaybe 26 = .ok (.iload_n 2, 1) := by decide +kernel
theorem dX5_wordsMaybe_27 : decode cX5_wordsMaybe 27 = .ok (.iload_n 3, 1) := by decide +kernel
theorem dX5_wordsMaybe_28 : decode cX5_wordsMaybe 28 = .ok (.invokestatic 60, 3) := by decide +kernel
theorem dX5_wordsMaybe_31 : decode cX5_wordsMaybe 31 = .ok (.istore 6, 2) := by decide +kernel
theorem dX5_wordsMaybe_33 : decode cX5_wordsMaybe 33 = .ok (.iload 4, 2) := by decide +kernel
theorem dX5_wordsMaybe_35 : decode cX5_wordsMaybe 35 = .ok (.aload_n 1, 1) := by decide +kernel
theorem dX5_wordsMaybe_36 : decode cX5_wordsMaybe 36 = .ok (.getfield 64, 3) := by decide +kernel
theorem dX5_wordsMaybe_39 : decode cX5_wordsMaybe 39 = .ok (.iload 5, 2) := by decide +kernel
theorem dX5_wordsMaybe_41 : decode cX5_wordsMaybe 41 = .ok (.iaload, 1) := by decide +kernel
theorem dX5_wordsMaybe_42 : decode cX5_wordsMaybe 42 = .ok (.iconst 1, 1) := by decide +kernel
theorem dX5_wordsMaybe_43 : decode cX5_wordsMaybe 43 = .ok (.if_icmp .ne 8, 3) := by decide +kernel
theorem dX5_wordsMaybe_46 : decode cX5_wordsMaybe 46 = .ok (.iload 6, 2) := by decide +kernel
theorem dX5_wordsMaybe_48 : decode cX5_wordsMaybe 48 = .ok (.goto 7, 3) := by decide +kernel
theorem dX5_wordsMaybe_51 : decode cX5_wordsMaybe 51 = .ok (.iload 6, 2) := by decide +kernel
theorem dX5_wordsMaybe_53 : decode cX5_wordsMaybe 53 = .ok (.iconst (-1), 1) := by decide +kernel
theorem dX5_wordsMaybe_54 : decode cX5_wordsMaybe 54 = .ok (.ixor, 1) := by decide +kernel
theorem dX5_wordsMaybe_55 : decode cX5_wordsMaybe 55 = .ok (.iand, 1) := by decide +kernel
theorem dX5_wordsMaybe_56 : decode cX5_wordsMaybe 56 = .ok (.istore 4, 2) := by decide +kernel
theorem dX5_wordsMaybe_58 : decode cX5_wordsMaybe 58 = .ok (.iinc 5 1, 3) := by decide +kernel
theorem dX5_wordsMaybe_61 : decode cX5_wordsMaybe 61 = .ok (.goto (-53), 3) := by decide +kernel
theorem dX5_wordsMaybe_64 : decode cX5_wordsMaybe 64 = .ok (.iload 4, 2) := by decide +kernel
theorem dX5_wordsMaybe_66 : decode cX5_wordsMaybe 66 = .ok (.ireturn, 1) := by decide +kernel
noncomputable def fX5_wordsMaybe_l8 (μ : zM) (x1 : Nat) (x0 : Nat) (x2 : Int32) (x3 : Int32) (F3 : Int32 → Int32 → Option (Int32)) (x4_1 : Int32) (x5_2 : Int32) : Option (Int32) :=
  zb1 (zm_gI μ 6 x1 0) fun v7 =>
  if v7 ≤ x5_2 then (
  some x4_1)
  else (
  if x4_1 = 0 then (
  some x4_1)
  else (
  zb1 (fX5_wordsHeardAs μ x0 x1 x5_2 x2 x3) fun v10 =>
  zb1 (zm_gR μ 6 x1 1) fun v11 =>
  zb1 (zm_aI μ 0 v11 x5_2) fun v13 =>
  zb1 (if v13 = 1 then (
  some v10)
  else (
  some (v10 ^^^ (-1))) : Option (Int32)) fun (s15 : Int32) =>
  F3 (x4_1 &&& s15) (x5_2 + 1)))
noncomputable def fX5_wordsMaybe (μ : zM) (x0 : Nat) (x1 : Nat) (x2 : Int32) (x3 : Int32) : Option (Int32) :=
  zb1 (zf2 (fX5_wordsMaybe_l8 μ x1 x0 x2 x3) zfu 255 0 : Option (Int32)) fun (x4_5 : Int32) =>
  some x4_5
set_option maxHeartbeats 4000000 in
set_option maxRecDepth 100000 in
theorem cX5_wordsMaybe_ok {μ : zM} {x0 : Nat} {x1 : Nat} {x2 : Int32} {x3 : Int32} {r : Int32} (hf : fX5_wordsMaybe μ x0 x1 x2 x3 = some r) : zC yX5_wordsMaybe cX5_wordsMaybe 7 (some .int) 3 0 0 [.ref x0, .ref x1, .int x2, .int x3] μ (some (.int r)) μ := by
  unfold fX5_wordsMaybe at hf
  refine zC.of (by decide) (Nat.le_of_ble_eq_true rfl) (fun K hin => ?_)
  clear hin
  show zz K cX5_wordsMaybe (7, RX5, some .int, 3, 0, 0, some (.int r), μ) 0 0 0 [(0, .ref x0), (1, .ref x1), (2, .int x2), (3, .int x3)] [] μ
  refine zr_sipush 255 dX5_wordsMaybe_0 (by decide) ?_
  refine zr_istore [(4, .int 255), (0, .ref x0), (1, .ref x1), (2, .int x2), (3, .int x3)] dX5_wordsMaybe_3 (Nat.le_of_ble_eq_true rfl) rfl ?_
  refine zr_iconst 0 dX5_wordsMaybe_5 (by decide) ?_
  refine zr_istore [(5, .int 0), (4, .int 255), (0, .ref x0), (1, .ref x1), (2, .int x2), (3, .int x3)] dX5_wordsMaybe_6 (Nat.le_of_ble_eq_true rfl) rfl ?_
  replace hf := zb1_s hf
  obtain ⟨x4_5, hg, hf⟩ := hf
  have hj6 : zz K cX5_wordsMaybe (7, RX5, some .int, 3, 0, 0, some (.int r), μ) 0 0 64 [(4, .int x4_5)] [] μ := by
    refine zr_iload 0 dX5_wordsMaybe_64 rfl ?_
    cases hf
    exact zr_iret dX5_wordsMaybe_66
  clear hf
  have hf := hg
  clear hg
  have hL17 : ∀ (n : Nat) (x4_1 : Int32) (x5_2 : Int32), zf2 (fX5_wordsMaybe_l8 μ x1 x0 x2 x3) n x4_1 x5_2 = some x4_5 → zz K cX5_wordsMaybe (7, RX5, some .int, 3, 0, 0, some (.int r), μ) 0 0 8 [(0, .ref x0), (1, .ref x1), (2, .int x2), (3, .int x3), (4, .int x4_1), (5, .int x5_2)] [] μ := by
    intro n
    induction n with
    | zero => intro x4_1 x5_2 hf; cases hf
    | succ n ih4 =>
      intro x4_1 x5_2 hf
      replace hf := zf2_s hf
      generalize zf2 (fX5_wordsMaybe_l8 μ x1 x0 x2 x3) n = F3 at hf ih4
      unfold fX5_wordsMaybe_l8 at hf
      refine zr_iload 5 dX5_wordsMaybe_8 rfl ?_
      refine zr_aload_n 1 dX5_wordsMaybe_10 rfl ?_
      replace hf := zb1_s hf
      obtain ⟨v7, h8, hf⟩ := hf
      refine zr_get (zm_gI_g h8) zk6 (by decide) zl_460 dX5_wordsMaybe_11 ?_
      refine zr_icmp_ge 64 dX5_wordsMaybe_14 (by decide) (fun hc => ?_) (fun hc => ?_)
      · rw [if_pos hc] at hf
        cases hf
        exact zr_lv [4] rfl hj6
      · rw [if_neg hc] at hf
        refine zr_iload 4 dX5_wordsMaybe_17 rfl ?_
        refine zr_if_eq 64 dX5_wordsMaybe_19 (by decide) (fun hc => ?_) (fun hc => ?_)
        · rw [if_pos hc] at hf
          cases hf
          exact zr_lv [4] rfl hj6
        · rw [if_neg hc] at hf
          refine zr_aload_n 0 dX5_wordsMaybe_22 rfl ?_
          refine zr_aload_n 1 dX5_wordsMaybe_23 rfl ?_
          refine zr_iload 5 dX5_wordsMaybe_24 rfl ?_
          refine zr_iload_n 2 dX5_wordsMaybe_26 rfl ?_
          refine zr_iload_n 3 dX5_wordsMaybe_27 rfl ?_
          replace hf := zb1_s hf
          obtain ⟨v10, h9, hf⟩ := hf
          refine zr_callS [.ref x0, .ref x1, .int x5_2, .int x2, .int x3] (cX5_wordsHeardAs_ok h9) zvs_X5_wordsHeardAs zl_463 zl_462 rfl (Nat.le_of_ble_eq_true rfl) (Nat.le_of_ble_eq_true rfl) (Nat.le_of_ble_eq_true rfl) (Nat.le_of_ble_eq_true rfl) dX5_wordsMaybe_28 rfl ?_
          refine zr_istore [(6, .int v10), (0, .ref x0), (1, .ref x1), (2, .int x2), (3, .int x3), (4, .int x4_1), (5, .int x5_2)] dX5_wordsMaybe_31 (Nat.le_of_ble_eq_true rfl) rfl ?_
          refine zr_iload 5 dX5_wordsMaybe_33 rfl ?_
          refine zr_aload_n 2 dX5_wordsMaybe_35 rfl ?_
          replace hf := zb1_s hf
          obtain ⟨v11, h12, hf⟩ := hf
          refine zr_get (zm_gR_g h12) zk6 (by decide) zl_464 dX5_wordsMaybe_36 ?_
          refine zr_iload 6 dX5_wordsMaybe_39 rfl ?_
          replace hf := zb1_s hf
          obtain ⟨v13, h14, hf⟩ := hf
          refine zr_iald h14 dX5_wordsMaybe_41 ?_
          refine zr_iconst 1 dX5_wordsMaybe_42 (by decide) ?_
          replace hf := zb1_s hf
          obtain ⟨s15, hg, hf⟩ := hf
          have hj16 : zz K cX5_wordsMaybe (7, RX5, some .int, 3, 0, 0, some (.int r), μ) 0 0 55 [(0, .ref x0), (1, .ref x1), (2, .int x2), (3, .int x3), (5, .int x5_2)] [.int s15, .int x4_1] μ := by
            refine zr_iand dX5_wordsMaybe_55 ?_
            refine zr_istore [(4, .int (x4_1 &&& s15)), (0, .ref x0), (1, .ref x1), (2, .int x2), (3, .int x3), (5, .int x5_2)] dX5_wordsMaybe_56 (Nat.le_of_ble_eq_true rfl) rfl ?_
            refine zr_iinc (j := 5) (x5_2 + 1) [(5, .int (x5_2 + 1)), (4, .int (x4_1 &&& s15)), (0, .ref x0), (1, .ref x1), (2, .int x2), (3, .int x3)] dX5_wordsMaybe_58 rfl rfl (Nat.le_of_ble_eq_true rfl) rfl ?_
            refine zr_goto 8 dX5_wordsMaybe_61 (by decide) ?_
            exact zr_lv [2, 3, 4, 5, 1, 0] rfl (ih4 (x4_1 &&& s15) (x5_2 + 1) hf)
          clear hf
          have hf := hg
          clear hg
          refine zr_icmp_ne 51 dX5_wordsMaybe_43 (by decide) (fun hc => ?_) (fun hc => ?_)
          · rw [if_neg hc] at hf
            refine zr_iload 0 dX5_wordsMaybe_51 rfl ?_
            refine zr_iconst (-1) dX5_wordsMaybe_53 (by decide) ?_
            refine zr_ixor dX5_wordsMaybe_54 ?_
            cases hf
            exact zr_lv [1, 2, 3, 4, 6] rfl hj16
          · rw [if_pos hc] at hf
            refine zr_iload 0 dX5_wordsMaybe_46 rfl ?_
            refine zr_goto 55 dX5_wordsMaybe_48 (by decide) ?_
            cases hf
            exact zr_lv [1, 2, 3, 4, 6] rfl hj16
  exact zr_lv [2, 3, 4, 5, 1, 0] rfl (hL17 _ 255 0 hf)
theorem zl_465 : Cond.code yX5_wordsMaybe cX5_wordsMaybe 7 (some .int) ∈ zt := zt_at 1120 (by decide +kernel)
theorem zvs_X5_wordsMaybe : zvS yX5_wordsMaybe cX5_wordsMaybe 7 (some .int) 4 := ⟨zl_465, zl_457, ⟨by decide +kernel, by decide +kernel, by decide +kernel⟩, by decide⟩
theorem zl_466 : Cond.methodLink RX5 67 yX5_wordsMaybe ∈ zt := zt_at 1118 (by decide +kernel)
theorem zl_467 : Cond.static yX5_wordsMaybe ∈ zt := zt_at 1119 (by decide +kernel)
theorem zl_468 : Cond.methodLink RX5 71 yJ6_bitCount_0f7a4 ∈ zt := zt_at 1130 (by decide +kernel)
theorem dX5_howManyAt_0 : decode cX5_howManyAt 0 = .ok (.iconst 0, 1) := by decide +kernel
theorem dX5_howManyAt_1 : decode cX5_howManyAt 1 = .ok (.istore_n 3, 1) := by decide +kernel
theorem dX5_howManyAt_2 : decode cX5_howManyAt 2 = .ok (.iconst 0, 1) := by decide +kernel
theorem dX5_howManyAt_3 : decode cX5_howManyAt 3 = .ok (.istore 4, 2) := by decide +kernel
theorem dX5_howManyAt_5 : decode cX5_howManyAt 5 = .ok (.iload 4, 2) := by decide +kernel
theorem dX5_howManyAt_7 : decode cX5_howManyAt 7 = .ok (.bipush 100, 2) := by decide +kernel
theorem dX5_howManyAt_9 : decode cX5_howManyAt 9 = .ok (.if_icmp .ge 23, 3) := by decide +kernel
theorem dX5_howManyAt_12 : decode cX5_howManyAt 12 = .ok (.iload_n 3, 1) := by decide +kernel
theorem dX5_howManyAt_13 : decode cX5_howManyAt 13 = .ok (.aload_n 0, 1) := by decide +kernel
theorem dX5_howManyAt_14 : decode cX5_howManyAt 14 = .ok (.aload_n 1, 1) := by decide +kernel
theorem dX5_howManyAt_15 : decode cX5_howManyAt 15 = .ok (.iload_n 2, 1) := by decide +kernel
theorem dX5_howManyAt_16 : decode cX5_howManyAt 16 = .ok (.iload 4, 2) := by decide +kernel
theorem dX5_howManyAt_18 : decode cX5_howManyAt 18 = .ok (.invokestatic 67, 3) := by decide +kernel
theorem dX5_howManyAt_21 : decode cX5_howManyAt 21 = .ok (.invokestatic 71, 3) := by decide +kernel
theorem dX5_howManyAt_24 : decode cX5_howManyAt 24 = .ok (.iadd, 1) := by decide +kernel
theorem dX5_howManyAt_25 : decode cX5_howManyAt 25 = .ok (.istore_n 3, 1) := by decide +kernel
theorem dX5_howManyAt_26 : decode cX5_howManyAt 26 = .ok (.iinc 4 1, 3) := by decide +kernel
theorem dX5_howManyAt_29 : decode cX5_howManyAt 29 = .ok (.goto (-24), 3) := by decide +kernel
theorem dX5_howManyAt_32 : decode cX5_howManyAt 32 = .ok (.iload_n 3, 1) := by decide +kernel
theorem dX5_howManyAt_33 : decode cX5_howManyAt 33 = .ok (.ireturn, 1) := by decide +kernel
noncomputable def fX5_howManyAt_l5 (μ : zM) (x0 : Nat) (x1 : Nat) (x2 : Int32) (F3 : Int32 → Int32 → Option (Int32)) (x3_1 : Int32) (x4_2 : Int32) : Option (Int32) :=
  if 100 ≤ x4_2 then (
  some x3_1)
  else (
  zb1 (fX5_wordsMaybe μ x0 x1 x2 x4_2) fun v8 =>
  zb1 (fJ6_bitCount_0f7a4 μ v8) fun v10 =>
  F3 (x3_1 + v10) (x4_2 + 1))
noncomputable def fX5_howManyAt (μ : zM) (x0 : Nat) (x1 : Nat) (x2 : Int32) : Option (Int32) :=
  zb1 (zf2 (fX5_howManyAt_l5 μ x0 x1 x2) zfu 0 0 : Option (Int32)) fun (x3_5 : Int32) =>
  some x3_5
set_option maxHeartbeats 4000000 in
set_option maxRecDepth 100000 in
theorem cX5_howManyAt_ok {μ : zM} {x0 : Nat} {x1 : Nat} {x2 : Int32} {r : Int32} (hf : fX5_howManyAt μ x0 x1 x2 = some r) : zC yX5_howManyAt cX5_howManyAt 5 (some .int) 4 0 0 [.ref x0, .ref x1, .int x2] μ (some (.int r)) μ := by
  unfold fX5_howManyAt at hf
  refine zC.of (by decide) (Nat.le_of_ble_eq_true rfl) (fun K hin => ?_)
  clear hin
  show zz K cX5_howManyAt (5, RX5, some .int, 4, 0, 0, some (.int r), μ) 0 0 0 [(0, .ref x0), (1, .ref x1), (2, .int x2)] [] μ
  refine zr_iconst 0 dX5_howManyAt_0 (by decide) ?_
  refine zr_istore_n [(3, .int 0), (0, .ref x0), (1, .ref x1), (2, .int x2)] dX5_howManyAt_1 (Nat.le_of_ble_eq_true rfl) rfl ?_
  refine zr_iconst 0 dX5_howManyAt_2 (by decide) ?_
  refine zr_istore [(4, .int 0), (3, .int 0), (0, .ref x0), (1, .ref x1), (2, .int x2)] dX5_howManyAt_3 (Nat.le_of_ble_eq_true rfl) rfl ?_
  replace hf := zb1_s hf
  obtain ⟨x3_5, hg, hf⟩ := hf
  have hj6 : zz K cX5_howManyAt (5, RX5, some .int, 4, 0, 0, some (.int r), μ) 0 0 32 [(3, .int x3_5)] [] μ := by
    refine zr_iload_n 0 dX5_howManyAt_32 rfl ?_
    cases hf
    exact zr_iret dX5_howManyAt_33
  clear hf
  have hf := hg
  clear hg
  have hL11 : ∀ (n : Nat) (x3_1 : Int32) (x4_2 : Int32), zf2 (fX5_howManyAt_l5 μ x0 x1 x2) n x3_1 x4_2 = some x3_5 → zz K cX5_howManyAt (5, RX5, some .int, 4, 0, 0, some (.int r), μ) 0 0 5 [(0, .ref x0), (1, .ref x1), (2, .int x2), (3, .int x3_1), (4, .int x4_2)] [] μ := by
    intro n
    induction n with
    | zero => intro x3_1 x4_2 hf; cases hf
    | succ n ih4 =>
      intro x3_1 x4_2 hf
      replace hf := zf2_s hf
      generalize zf2 (fX5_howManyAt_l5 μ x0 x1 x2) n = F3 at hf ih4
      unfold fX5_howManyAt_l5 at hf
      refine zr_iload 4 dX5_howManyAt_5 rfl ?_
      refine zr_bipush 100 dX5_howManyAt_7 (by decide) ?_
      refine zr_icmp_ge 32 dX5_howManyAt_9 (by decide) (fun hc => ?_) (fun hc => ?_)
      · rw [if_pos hc] at hf
        cases hf
        exact zr_lv [3] rfl hj6
      · rw [if_neg hc] at hf
        refine zr_iload_n 3 dX5_howManyAt_12 rfl ?_
        refine zr_aload_n 0 dX5_howManyAt_13 rfl ?_
        refine zr_aload_n 1 dX5_howManyAt_14 rfl ?_
        refine zr_iload_n 2 dX5_howManyAt_15 rfl ?_
        refine zr_iload 4 dX5_howManyAt_16 rfl ?_
        replace hf := zb1_s hf
        obtain ⟨v8, h7, hf⟩ := hf
        refine zr_callS [.ref x0, .ref x1, .int x2, .int x4_2] (cX5_wordsMaybe_ok h7) zvs_X5_wordsMaybe zl_467 zl_466 rfl (Nat.le_of_ble_eq_true rfl) (Nat.le_of_ble_eq_true rfl) (Nat.le_of_ble_eq_true rfl) (Nat.le_of_ble_eq_true rfl) dX5_howManyAt_18 rfl ?_
        replace hf := zb1_s hf
        obtain ⟨v10, h9, hf⟩ := hf
        refine zr_callS [.int v8] (cJ6_bitCount_0f7a4_ok h9) zvs_J6_bitCount_0f7a4 zl_67 zl_468 rfl (Nat.le_of_ble_eq_true rfl) (Nat.le_of_ble_eq_true rfl) (Nat.le_of_ble_eq_true rfl) (Nat.le_of_ble_eq_true rfl) dX5_howManyAt_21 rfl ?_
        refine zr_iadd dX5_howManyAt_24 ?_
        refine zr_istore_n [(3, .int (x3_1 + v10)), (0, .ref x0), (1, .ref x1), (2, .int x2), (4, .int x4_2)] dX5_howManyAt_25 (Nat.le_of_ble_eq_true rfl) rfl ?_
        refine zr_iinc (j := 4) (x4_2 + 1) [(4, .int (x4_2 + 1)), (3, .int (x3_1 + v10)), (0, .ref x0), (1, .ref x1), (2, .int x2)] dX5_howManyAt_26 rfl rfl (Nat.le_of_ble_eq_true rfl) rfl ?_
        refine zr_goto 5 dX5_howManyAt_29 (by decide) ?_
        exact zr_lv [2, 3, 4, 1, 0] rfl (ih4 (x3_1 + v10) (x4_2 + 1) hf)
  exact zr_lv [2, 3, 4, 1, 0] rfl (hL11 _ 0 0 hf)
theorem zl_469 : Cond.fieldLink RX5 76 "TwoEchoes$Valley" "wide" "I" ∈ zt := zt_at 174 (by decide +kernel)
theorem zl_470 : Cond.code yX5_howManyAt cX5_howManyAt 5 (some .int) ∈ zt := zt_at 1117 (by decide +kernel)
theorem zvs_X5_howManyAt : zvS yX5_howManyAt cX5_howManyAt 5 (some .int) 3 := ⟨zl_470, zl_457, ⟨by decide +kernel, by decide +kernel, by decide +kernel⟩, by decide⟩
theorem zl_471 : Cond.methodLink RX5 79 yX5_howManyAt ∈ zt := zt_at 1115 (by decide +kernel)
theorem zl_472 : Cond.static yX5_howManyAt ∈ zt := zt_at 1116 (by decide +kernel)
theorem dX5_howMany_0 : decode cX5_howMany 0 = .ok (.iconst 0, 1) := by decide +kernel
theorem dX5_howMany_1 : decode cX5_howMany 1 = .ok (.istore_n 2, 1) := by decide +kernel
theorem dX5_howMany_2 : decode cX5_howMany 2 = .ok (.iconst 0, 1) := by decide +kernel
theorem dX5_howMany_3 : decode cX5_howMany 3 = .ok (.istore_n 3, 1) := by decide +kernel
theorem dX5_howMany_4 : decode cX5_howMany 4 = .ok (.iload_n 3, 1) := by decide +kernel
theorem dX5_howMany_5 : decode cX5_howMany 5 = .ok (.aload_n 0, 1) := by decide +kernel
theorem dX5_howMany_6 : decode cX5_howMany 6 = .ok (.getfield 76, 3) := by decide +kernel
theorem dX5_howMany_9 : decode cX5_howMany 9 = .ok (.if_icmp .gt 18, 3) := by decide +kernel
theorem dX5_howMany_12 : decode cX5_howMany 12 = .ok (.iload_n 2, 1) := by decide +kernel
theorem dX5_howMany_13 : decode cX5_howMany 13 = .ok (.aload_n 0, 1) := by decide +kernel
theorem dX5_howMany_14 : decode cX5_howMany 14 = .ok (.aload_n 1, 1) := by decide +kernel
theorem dX5_howMany_15 : decode cX5_howMany 15 = .ok (.iload_n 3, 1) := by decide +kernel
theorem dX5_howMany_16 : decode cX5_howMany 16 = .ok (.invokestatic 79, 3) := by decide +kernel
theorem dX5_howMany_19 : decode cX5_howMany 19 = .ok (.iadd, 1) := by decide +kernel
theorem dX5_howMany_20 : decode cX5_howMany 20 = .ok (.istore_n 2, 1) := by decide +kernel
theorem dX5_howMany_21 : decode cX5_howMany 21 = .ok (.iinc 3 1, 3) := by decide +kernel
theorem dX5_howMany_24 : decode cX5_howMany 24 = .ok (.goto (-20), 3) := by decide +kernel
theorem dX5_howMany_27 : decode cX5_howMany 27 = .ok (.iload_n 2, 1) := by decide +kernel
theorem dX5_howMany_28 : decode cX5_howMany 28 = .ok (.ireturn, 1) := by decide +kernel
noncomputable def fX5_howMany_l4 (μ : zM) (x0 : Nat) (x1 : Nat) (F3 : Int32 → Int32 → Option (Int32)) (x2_1 : Int32) (x3_2 : Int32) : Option (Int32) :=
  zb1 (zm_gI μ 9 x0 0) fun v7 =>
  if v7 < x3_2 then (
  some x2_1)
  else (
  zb1 (fX5_howManyAt μ x0 x1 x3_2) fun v10 =>
  F3 (x2_1 + v10) (x3_2 + 1))
noncomputable def fX5_howMany (μ : zM) (x0 : Nat) (x1 : Nat) : Option (Int32) :=
  zb1 (zf2 (fX5_howMany_l4 μ x0 x1) zfu 0 0 : Option (Int32)) fun (x2_5 : Int32) =>
  some x2_5
set_option maxHeartbeats 4000000 in
set_option maxRecDepth 100000 in
theorem cX5_howMany_ok {μ : zM} {x0 : Nat} {x1 : Nat} {r : Int32} (hf : fX5_howMany μ x0 x1 = some r) : zC yX5_howMany cX5_howMany 4 (some .int) 5 0 0 [.ref x0, .ref x1] μ (some (.int r)) μ := by
  unfold fX5_howMany at hf
  refine zC.of (by decide) (Nat.le_of_ble_eq_true rfl) (fun K hin => ?_)
  clear hin
  show zz K cX5_howMany (4, RX5, some .int, 5, 0, 0, some (.int r), μ) 0 0 0 [(0, .ref x0), (1, .ref x1)] [] μ
  refine zr_iconst 0 dX5_howMany_0 (by decide) ?_
  refine zr_istore_n [(2, .int 0), (0, .ref x0), (1, .ref x1)] dX5_howMany_1 (Nat.le_of_ble_eq_true rfl) rfl ?_
  refine zr_iconst 0 dX5_howMany_2 (by decide) ?_
  refine zr_istore_n [(3, .int 0), (2, .int 0), (0, .ref x0), (1, .ref x1)] dX5_howMany_3 (Nat.le_of_ble_eq_true rfl) rfl ?_
  replace hf := zb1_s hf
  obtain ⟨x2_5, hg, hf⟩ := hf
  have hj6 : zz K cX5_howMany (4, RX5, some .int, 5, 0, 0, some (.int r), μ) 0 0 27 [(2, .int x2_5)] [] μ := by
    refine zr_iload_n 0 dX5_howMany_27 rfl ?_
    cases hf
    exact zr_iret dX5_howMany_28
  clear hf
  have hf := hg
  clear hg
  have hL11 : ∀ (n : Nat) (x2_1 : Int32) (x3_2 : Int32), zf2 (fX5_howMany_l4 μ x0 x1) n x2_1 x3_2 = some x2_5 → zz K cX5_howMany (4, RX5, some .int, 5, 0, 0, some (.int r), μ) 0 0 4 [(0, .ref x0), (1, .ref x1), (2, .int x2_1), (3, .int x3_2)] [] μ := by
    intro n
    induction n with
    | zero => intro x2_1 x3_2 hf; cases hf
    | succ n ih4 =>
      intro x2_1 x3_2 hf
      replace hf := zf2_s hf
      generalize zf2 (fX5_howMany_l4 μ x0 x1) n = F3 at hf ih4
      unfold fX5_howMany_l4 at hf
      refine zr_iload_n 3 dX5_howMany_4 rfl ?_
      refine zr_aload_n 0 dX5_howMany_5 rfl ?_
      replace hf := zb1_s hf
      obtain ⟨v7, h8, hf⟩ := hf
      refine zr_get (zm_gI_g h8) zk9 (by decide) zl_469 dX5_howMany_6 ?_
      refine zr_icmp_gt 27 dX5_howMany_9 (by decide) (fun hc => ?_) (fun hc => ?_)
      · rw [if_pos hc] at hf
        cases hf
        exact zr_lv [2] rfl hj6
      · rw [if_neg hc] at hf
        refine zr_iload_n 2 dX5_howMany_12 rfl ?_
        refine zr_aload_n 0 dX5_howMany_13 rfl ?_
        refine zr_aload_n 1 dX5_howMany_14 rfl ?_
        refine zr_iload_n 3 dX5_howMany_15 rfl ?_
        replace hf := zb1_s hf
        obtain ⟨v10, h9, hf⟩ := hf
        refine zr_callS [.ref x0, .ref x1, .int x3_2] (cX5_howManyAt_ok h9) zvs_X5_howManyAt zl_472 zl_471 rfl (Nat.le_of_ble_eq_true rfl) (Nat.le_of_ble_eq_true rfl) (Nat.le_of_ble_eq_true rfl) (Nat.le_of_ble_eq_true rfl) dX5_howMany_16 rfl ?_
        refine zr_iadd dX5_howMany_19 ?_
        refine zr_istore_n [(2, .int (x2_1 + v10)), (0, .ref x0), (1, .ref x1), (3, .int x3_2)] dX5_howMany_20 (Nat.le_of_ble_eq_true rfl) rfl ?_
        refine zr_iinc (j := 3) (x3_2 + 1) [(3, .int (x3_2 + 1)), (2, .int (x2_1 + v10)), (0, .ref x0), (1, .ref x1)] dX5_howMany_21 rfl rfl (Nat.le_of_ble_eq_true rfl) rfl ?_
        refine zr_goto 4 dX5_howMany_24 (by decide) ?_
        exact zr_lv [2, 3, 1, 0] rfl (ih4 (x2_1 + v10) (x3_2 + 1) hf)
  exact zr_lv [2, 3, 1, 0] rfl (hL11 _ 0 0 hf)
theorem dX5_wordNumbered_0 : decode cX5_wordNumbered 0 = .ok (.iload_n 1, 1) := by decide +kernel
theorem dX5_wordNumbered_1 : decode cX5_wordNumbered 1 = .ok (.istore_n 2, 1) := by decide +kernel
theorem dX5_wordNumbered_2 : decode cX5_wordNumbered 2 = .ok (.iconst 0, 1) := by decide +kernel
theorem dX5_wordNumbered_3 : decode cX5_wordNumbered 3 = .ok (.istore_n 3, 1) := by decide +kernel
theorem dX5_wordNumbered_4 : decode cX5_wordNumbered 4 = .ok (.iload_n 3, 1) := by decide +kernel
theorem dX5_wordNumbered_5 : decode cX5_wordNumbered 5 = .ok (.bipush 8, 2) := by decide +kernel
theorem dX5_wordNumbered_7 : decode cX5_wordNumbered 7 = .ok (.if_icmp .ge 29, 3) := by decide +kernel
theorem dX5_wordNumbered_10 : decode cX5_wordNumbered 10 = .ok (.iload_n 0, 1) := by decide +kernel
theorem dX5_wordNumbered_11 : decode cX5_wordNumbered 11 = .ok (.iload_n 3, 1) := by decide +kernel
theorem dX5_wordNumbered_12 : decode cX5_wordNumbered 12 = .ok (.ishr, 1) := by decide +kernel
theorem dX5_wordNumbered_13 : decode cX5_wordNumbered 13 = .ok (.iconst 1, 1) := by decide +kernel
theorem dX5_wordNumbered_14 : decode cX5_wordNumbered 14 = .ok (.iand, 1) := by decide +kernel
theorem dX5_wordNumbered_15 : decode cX5_wordNumbered 15 = .ok (.ifCond .ne 6, 3) := by decide +kernel
theorem dX5_wordNumbered_18 : decode cX5_wordNumbered 18 = .ok (.goto 12, 3) := by decide +kernel
theorem dX5_wordNumbered_21 : decode cX5_wordNumbered 21 = .ok (.iload_n 2, 1) := by decide +kernel
theorem dX5_wordNumbered_22 : decode cX5_wordNumbered 22 = .ok (.ifCond .ne 5, 3) := by decide +kernel
theorem dX5_wordNumbered_25 : decode cX5_wordNumbered 25 = .ok (.iload_n 3, 1) := by decide +kernel
theorem dX5_wordNumbered_26 : decode cX5_wordNumbered 26 = .ok (.ireturn, 1) := by decide +kernel
theorem dX5_wordNumbered_27 : decode cX5_wordNumbered 27 = .ok (.iinc 2 (-1), 3) := by decide +kernel
theorem dX5_wordNumbered_30 : decode cX5_wordNumbered 30 = .ok (.iinc 3 1, 3) := by decide +kernel
theorem dX5_wordNumbered_33 : decode cX5_wordNumbered 33 = .ok (.goto (-29), 3) := by decide +kernel
theorem dX5_wordNumbered_36 : decode cX5_wordNumbered 36 = .ok (.iconst (-1), 1) := by decide +kernel
theorem dX5_wordNumbered_37 : decode cX5_wordNumbered 37 = .ok (.ireturn, 1) := by decide +kernel
noncomputable def fX5_wordNumbered_l4 (x0 : Int32) (F3 : Int32 → Int32 → Option (Int32)) (x2_1 : Int32) (x3_2 : Int32) : Option (Int32) :=
  if 8 ≤ x3_2 then (
  some (-1))
  else (
  if ((x0 >>> (x3_2 &&& 31)) &&& 1) = 0 then (
  F3 x2_1 (x3_2 + 1))
  else (
  if x2_1 = 0 then (
  some x3_2)
  else (
  F3 (x2_1 + (-1)) (x3_2 + 1))))
noncomputable def fX5_wordNumbered (μ : zM) (x0 : Int32) (x1 : Int32) : Option (Int32) :=
  zf2 (fX5_wordNumbered_l4 x0) zfu x1 0
set_option maxHeartbeats 4000000 in
set_option maxRecDepth 100000 in
theorem cX5_wordNumbered_ok {μ : zM} {x0 : Int32} {x1 : Int32} {r : Int32} (hf : fX5_wordNumbered μ x0 x1 = some r) : zC yX5_wordNumbered cX5_wordNumbered 4 (some .int) 0 0 0 [.int x0, .int x1] μ (some (.int r)) μ := by
  unfold fX5_wordNumbered at hf
  refine zC.of (by decide) (Nat.le_of_ble_eq_true rfl) (fun K hin => ?_)
  clear hin
  show zz K cX5_wordNumbered (4, RX5, some .int, 0, 0, 0, some (.int r), μ) 0 0 0 [(0, .int x0), (1, .int x1)] [] μ
  refine zr_iload_n 1 dX5_wordNumbered_0 rfl ?_
  refine zr_istore_n [(2, .int x1), (0, .int x0), (1, .int x1)] dX5_wordNumbered_1 (Nat.le_of_ble_eq_true rfl) rfl ?_
  refine zr_iconst 0 dX5_wordNumbered_2 (by decide) ?_
  refine zr_istore_n [(3, .int 0), (2, .int x1), (0, .int x0), (1, .int x1)] dX5_wordNumbered_3 (Nat.le_of_ble_eq_true rfl) rfl ?_
  have hL5 : ∀ (n : Nat) (x2_1 : Int32) (x3_2 : Int32), zf2 (fX5_wordNumbered_l4 x0) n x2_1 x3_2 = some r → zz K cX5_wordNumbered (4, RX5, some .int, 0, 0, 0, some (.int r), μ) 0 0 4 [(0, .int x0), (2, .int x2_1), (3, .int x3_2)] [] μ := by
    intro n
    induction n with
    | zero => intro x2_1 x3_2 hf; cases hf
    | succ n ih4 =>
      intro x2_1 x3_2 hf
      replace hf := zf2_s hf
      generalize zf2 (fX5_wordNumbered_l4 x0) n = F3 at hf ih4
      unfold fX5_wordNumbered_l4 at hf
      refine zr_iload_n 2 dX5_wordNumbered_4 rfl ?_
      refine zr_bipush 8 dX5_wordNumbered_5 (by decide) ?_
      refine zr_icmp_ge 36 dX5_wordNumbered_7 (by decide) (fun hc => ?_) (fun hc => ?_)
      · rw [if_pos hc] at hf
        refine zr_iconst (-1) dX5_wordNumbered_36 (by decide) ?_
        cases hf
        exact zr_iret dX5_wordNumbered_37
      · rw [if_neg hc] at hf
        refine zr_iload_n 0 dX5_wordNumbered_10 rfl ?_
        refine zr_iload_n 2 dX5_wordNumbered_11 rfl ?_
        refine zr_ishr dX5_wordNumbered_12 ?_
        refine zr_iconst 1 dX5_wordNumbered_13 (by decide) ?_
        refine zr_iand dX5_wordNumbered_14 ?_
        refine zr_if_ne 21 dX5_wordNumbered_15 (by decide) (fun hc => ?_) (fun hc => ?_)
        · rw [if_neg hc] at hf
          refine zr_iload_n 1 dX5_wordNumbered_21 rfl ?_
          refine zr_if_ne 27 dX5_wordNumbered_22 (by decide) (fun hc => ?_) (fun hc => ?_)
          · rw [if_neg hc] at hf
            refine zr_iinc (j := 1) (x2_1 + (-1)) [(2, .int (x2_1 + (-1))), (0, .int x0), (3, .int x3_2)] dX5_wordNumbered_27 rfl rfl (Nat.le_of_ble_eq_true rfl) rfl ?_
            refine zr_iinc (j := 2) (x3_2 + 1) [(3, .int (x3_2 + 1)), (2, .int (x2_1 + (-1))), (0, .int x0)] dX5_wordNumbered_30 rfl rfl (Nat.le_of_ble_eq_true rfl) rfl ?_
            refine zr_goto 4 dX5_wordNumbered_33 (by decide) ?_
            exact zr_lv [2, 1, 0] rfl (ih4 (x2_1 + (-1)) (x3_2 + 1) hf)
          · rw [if_pos hc] at hf
            refine zr_iload_n 2 dX5_wordNumbered_25 rfl ?_
            cases hf
            exact zr_iret dX5_wordNumbered_26
        · rw [if_pos hc] at hf
          refine zr_goto 30 dX5_wordNumbered_18 (by decide) ?_
          refine zr_iinc (j := 2) (x3_2 + 1) [(3, .int (x3_2 + 1)), (0, .int x0), (2, .int x2_1)] dX5_wordNumbered_30 rfl rfl (Nat.le_of_ble_eq_true rfl) rfl ?_
          refine zr_goto 4 dX5_wordNumbered_33 (by decide) ?_
          exact zr_lv [1, 2, 0] rfl (ih4 x2_1 (x3_2 + 1) hf)
  exact zr_lv [2, 1, 0] rfl (hL5 _ x1 0 hf)
theorem zl_473 : Cond.code yX5_wordNumbered cX5_wordNumbered 4 (some .int) ∈ zt := zt_at 1136 (by decide +kernel)
theorem zvs_X5_wordNumbered : zvS yX5_wordNumbered cX5_wordNumbered 4 (some .int) 2 := ⟨zl_473, zl_457, ⟨by decide +kernel, by decide +kernel, by decide +kernel⟩, by decide⟩
theorem zl_474 : Cond.methodLink RX5 83 yX5_wordNumbered ∈ zt := zt_at 1134 (by decide +kernel)
theorem zl_475 : Cond.static yX5_wordNumbered ∈ zt := zt_at 1135 (by decide +kernel)
theorem dX5_numbered_0 : decode cX5_numbered 0 = .ok (.iload_n 2, 1) := by decide +kernel
theorem dX5_numbered_1 : decode cX5_numbered 1 = .ok (.istore_n 3, 1) := by decide +kernel
theorem dX5_numbered_2 : decode cX5_numbered 2 = .ok (.iconst 0, 1) := by decide +kernel
theorem dX5_numbered_3 : decode cX5_numbered 3 = .ok (.istore 4, 2) := by decide +kernel
theorem dX5_numbered_5 : decode cX5_numbered 5 = .ok (.iload 4, 2) := by decide +kernel
theorem dX5_numbered_7 : decode cX5_numbered 7 = .ok (.aload_n 0, 1) := by decide +kernel
theorem dX5_numbered_8 : decode cX5_numbered 8 = .ok (.getfield 76, 3) := by decide +kernel
theorem dX5_numbered_11 : decode cX5_numbered 11 = .ok (.if_icmp .gt 78, 3) := by decide +kernel
theorem dX5_numbered_14 : decode cX5_numbered 14 = .ok (.iload_n 3, 1) := by decide +kernel
theorem dX5_numbered_15 : decode cX5_numbered 15 = .ok (.ifCond .lt 74, 3) := by decide +kernel
theorem dX5_numbered_18 : decode cX5_numbered 18 = .ok (.iconst 0, 1) := by decide +kernel
theorem dX5_numbered_19 : decode cX5_numbered 19 = .ok (.istore 5, 2) := by decide +kernel
theorem dX5_numbered_21 : decode cX5_numbered 21 = .ok (.iload 5, 2) := by decide +kernel
theorem dX5_numbered_23 : decode cX5_numbered 23 = .ok (.bipush 100, 2) := by decide +kernel
theorem dX5_numbered_25 : decode cX5_numbered 25 = .ok (.if_icmp .ge 58, 3) := by decide +kernel
theorem dX5_numbered_28 : decode cX5_numbered 28 = .ok (.aload_n 0, 1) := by decide +kernel
theorem dX5_numbered_29 : decode cX5_numbered 29 = .ok (.aload_n 1, 1) := by decide +kernel
theorem dX5_numbered_30 : decode cX5_numbered 30 = .ok (.iload 4, 2) := by decide +kernel
theorem dX5_numbered_32 : decode cX5_numbered 32 = .ok (.iload 5, 2) := by decide +kernel
theorem dX5_numbered_34 : decode cX5_numbered 34 = .ok (.invokestatic 67, 3) := by decide +kernel
theorem dX5_numbered_37 : decode cX5_numbered 37 = .ok (.istore 6, 2) := by decide +kernel
theorem dX5_numbered_39 : decode cX5_numbered 39 = .ok (.iload 6, 2) := by decide +kernel
theorem dX5_numbered_41 : decode cX5_numbered 41 = .ok (.invokestatic 71, 3) := by decide +kernel
theorem dX5_numbered_44 : decode cX5_numbered 44 = .ok (.istore 7, 2) := by decide +kernel
theorem dX5_numbered_46 : decode cX5_numbered 46 = .ok (.iload_n 3, 1) := by decide +kernel
theorem dX5_numbered_47 : decode cX5_numbered 47 = .ok (.iload 7, 2) := by decide +kernel
theorem dX5_numbered_49 : decode cX5_numbered 49 = .ok (.if_icmp .ge 23, 3) := by decide +kernel
theorem dX5_numbered_52 : decode cX5_numbered 52 = .ok (.sipush 1000, 3) := by decide +kernel
theorem dX5_numbered_55 : decode cX5_numbered 55 = .ok (.iload 4, 2) := by decide +kernel
theorem dX5_numbered_57 : decode cX5_numbered 57 = .ok (.imul, 1) := by decide +kernel
theorem dX5_numbered_58 : decode cX5_numbered 58 = .ok (.bipush 10, 2) := by decide +kernel
theorem dX5_numbered_60 : decode cX5_numbered 60 = .ok (.iload 5, 2) := by decide +kernel
theorem dX5_numbered_62 : decode cX5_numbered 62 = .ok (.imul, 1) := by decide +kernel
theorem dX5_numbered_63 : decode cX5_numbered 63 = .ok (.iadd, 1) := by decide +kernel
theorem dX5_numbered_64 : decode cX5_numbered 64 = .ok (.iload 6, 2) := by decide +kernel
theorem dX5_numbered_66 : decode cX5_numbered 66 = .ok (.iload_n 3, 1) := by decide +kernel
theorem dX5_numbered_67 : decode cX5_numbered 67 = .ok (.invokestatic 83, 3) := by decide +kernel
theorem dX5_numbered_70 : decode cX5_numbered 70 = .ok (.iadd, 1) := by decide +kernel
theorem dX5_numbered_71 : decode cX5_numbered 71 = .ok (.ireturn, 1) := by decide +kernel
theorem dX5_numbered_72 : decode cX5_numbered 72 = .ok (.iload_n 3, 1) := by decide +kernel
theorem dX5_numbered_73 : decode cX5_numbered 73 = .ok (.iload 7, 2) := by decide +kernel
theorem dX5_numbered_75 : decode cX5_numbered 75 = .ok (.isub, 1) := by decide +kernel
theorem dX5_numbered_76 : decode cX5_numbered 76 = .ok (.istore_n 3, 1) := by decide +kernel
theorem dX5_numbered_77 : decode cX5_numbered 77 = .ok (.iinc 5 1, 3) := by decide +kernel
theorem dX5_numbered_80 : decode cX5_numbered 80 = .ok (.goto (-59), 3) := by decide +kernel
theorem dX5_numbered_83 : decode cX5_numbered 83 = .ok (.iinc 4 1, 3) := by decide +kernel
theorem dX5_numbered_86 : decode cX5_numbered 86 = .ok (.goto (-81), 3) := by decide +kernel
theorem dX5_numbered_89 : decode cX5_numbered 89 = .ok (.iconst (-1), 1) := by decide +kernel
theorem dX5_numbered_90 : decode cX5_numbered 90 = .ok (.ireturn, 1) := by decide +kernel
noncomputable def fX5_numbered_l21 (F3 : Int32 → Int32 → Option (Int32)) (x4_2 : Int32) (μ : zM) (x0 : Nat) (x1 : Nat) (F9 : Int32 → Int32 → Option (Int32)) (x3_7 : Int32) (x5_8 : Int32) : Option (Int32) :=
  if 100 ≤ x5_8 then (
  F3 x3_7 (x4_2 + 1))
  else (
  zb1 (fX5_wordsMaybe μ x0 x1 x4_2 x5_8) fun v12 =>
  zb1 (fJ6_bitCount_0f7a4 μ v12) fun v14 =>
  if v14 ≤ x3_7 then (
  F9 (x3_7 - v14) (x5_8 + 1))
  else (
  zb1 (fX5_wordNumbered μ v12 x3_7) fun v16 =>
  some (((1000 * x4_2) + (10 * x5_8)) + v16)))
noncomputable def fX5_numbered_l5 (μ : zM) (x0 : Nat) (x1 : Nat) (F3 : Int32 → Int32 → Option (Int32)) (x3_1 : Int32) (x4_2 : Int32) : Option (Int32) :=
  zb1 (zm_gI μ 9 x0 0) fun v5 =>
  if v5 < x4_2 then (
  some (-1))
  else (
  if x3_1 < 0 then (
  some (-1))
  else (
  zf2 (fX5_numbered_l21 F3 x4_2 μ x0 x1) zfu x3_1 0))
noncomputable def fX5_numbered (μ : zM) (x0 : Nat) (x1 : Nat) (x2 : Int32) : Option (Int32) :=
  zf2 (fX5_numbered_l5 μ x0 x1) zfu x2 0
set_option maxHeartbeats 4000000 in
set_option maxRecDepth 100000 in
theorem cX5_numbered_ok {μ : zM} {x0 : Nat} {x1 : Nat} {x2 : Int32} {r : Int32} (hf : fX5_numbered μ x0 x1 x2 = some r) : zC yX5_numbered cX5_numbered 8 (some .int) 4 0 0 [.ref x0, .ref x1, .int x2] μ (some (.int r)) μ := by
  unfold fX5_numbered at hf
  refine zC.of (by decide) (Nat.le_of_ble_eq_true rfl) (fun K hin => ?_)
  clear hin
  show zz K cX5_numbered (8, RX5, some .int, 4, 0, 0, some (.int r), μ) 0 0 0 [(0, .ref x0), (1, .ref x1), (2, .int x2)] [] μ
  refine zr_iload_n 2 dX5_numbered_0 rfl ?_
  refine zr_istore_n [(3, .int x2), (0, .ref x0), (1, .ref x1), (2, .int x2)] dX5_numbered_1 (Nat.le_of_ble_eq_true rfl) rfl ?_
  refine zr_iconst 0 dX5_numbered_2 (by decide) ?_
  refine zr_istore [(4, .int 0), (3, .int x2), (0, .ref x0), (1, .ref x1), (2, .int x2)] dX5_numbered_3 (Nat.le_of_ble_eq_true rfl) rfl ?_
  have hL18 : ∀ (n : Nat) (x3_1 : Int32) (x4_2 : Int32), zf2 (fX5_numbered_l5 μ x0 x1) n x3_1 x4_2 = some r → zz K cX5_numbered (8, RX5, some .int, 4, 0, 0, some (.int r), μ) 0 0 5 [(0, .ref x0), (1, .ref x1), (3, .int x3_1), (4, .int x4_2)] [] μ := by
    intro n
    induction n with
    | zero => intro x3_1 x4_2 hf; cases hf
    | succ n ih4 =>
      intro x3_1 x4_2 hf
      replace hf := zf2_s hf
      generalize zf2 (fX5_numbered_l5 μ x0 x1) n = F3 at hf ih4
      unfold fX5_numbered_l5 at hf
      refine zr_iload 3 dX5_numbered_5 rfl ?_
      refine zr_aload_n 0 dX5_numbered_7 rfl ?_
      replace hf := zb1_s hf
      obtain ⟨v5, h6, hf⟩ := hf
      refine zr_get (zm_gI_g h6) zk9 (by decide) zl_469 dX5_numbered_8 ?_
      refine zr_icmp_gt 89 dX5_numbered_11 (by decide) (fun hc => ?_) (fun hc => ?_)
      · rw [if_pos hc] at hf
        refine zr_iconst (-1) dX5_numbered_89 (by decide) ?_
        cases hf
        exact zr_iret dX5_numbered_90
      · rw [if_neg hc] at hf
        refine zr_iload_n 2 dX5_numbered_14 rfl ?_
        refine zr_if_lt 89 dX5_numbered_15 (by decide) (fun hc => ?_) (fun hc => ?_)
        · rw [if_pos hc] at hf
          refine zr_iconst (-1) dX5_numbered_89 (by decide) ?_
          cases hf
          exact zr_iret dX5_numbered_90
        · rw [if_neg hc] at hf
          refine zr_iconst 0 dX5_numbered_18 (by decide) ?_
          refine zr_istore [(5, .int 0), (0, .ref x0), (1, .ref x1), (3, .int x3_1), (4, .int x4_2)] dX5_numbered_19 (Nat.le_of_ble_eq_true rfl) rfl ?_
          have hL17 : ∀ (n : Nat) (x3_7 : Int32) (x5_8 : Int32), zf2 (fX5_numbered_l21 F3 x4_2 μ x0 x1) n x3_7 x5_8 = some r → zz K cX5_numbered (8, RX5, some .int, 4, 0, 0, some (.int r), μ) 0 0 21 [(0, .ref x0), (1, .ref x1), (3, .int x3_7), (4, .int x4_2), (5, .int x5_8)] [] μ := by
            intro n
            induction n with
            | zero => intro x3_7 x5_8 hf; cases hf
            | succ n ih10 =>
              intro x3_7 x5_8 hf
              replace hf := zf2_s hf
              generalize zf2 (fX5_numbered_l21 F3 x4_2 μ x0 x1) n = F9 at hf ih10
              unfold fX5_numbered_l21 at hf
              refine zr_iload 4 dX5_numbered_21 rfl ?_
              refine zr_bipush 100 dX5_numbered_23 (by decide) ?_
              refine zr_icmp_ge 83 dX5_numbered_25 (by decide) (fun hc => ?_) (fun hc => ?_)
              · rw [if_pos hc] at hf
                refine zr_iinc (j := 3) (x4_2 + 1) [(4, .int (x4_2 + 1)), (0, .ref x0), (1, .ref x1), (3, .int x3_7), (5, .int x5_8)] dX5_numbered_83 rfl rfl (Nat.le_of_ble_eq_true rfl) rfl ?_
                refine zr_goto 5 dX5_numbered_86 (by decide) ?_
                exact zr_lv [1, 2, 3, 0] rfl (ih4 x3_7 (x4_2 + 1) hf)
              · rw [if_neg hc] at hf
                refine zr_aload_n 0 dX5_numbered_28 rfl ?_
                refine zr_aload_n 1 dX5_numbered_29 rfl ?_
                refine zr_iload 3 dX5_numbered_30 rfl ?_
                refine zr_iload 4 dX5_numbered_32 rfl ?_
                replace hf := zb1_s hf
                obtain ⟨v12, h11, hf⟩ := hf
                refine zr_callS [.ref x0, .ref x1, .int x4_2, .int x5_8] (cX5_wordsMaybe_ok h11) zvs_X5_wordsMaybe zl_467 zl_466 rfl (Nat.le_of_ble_eq_true rfl) (Nat.le_of_ble_eq_true rfl) (Nat.le_of_ble_eq_true rfl) (Nat.le_of_ble_eq_true rfl) dX5_numbered_34 rfl ?_
                refine zr_istore [(6, .int v12), (0, .ref x0), (1, .ref x1), (3, .int x3_7), (4, .int x4_2), (5, .int x5_8)] dX5_numbered_37 (Nat.le_of_ble_eq_true rfl) rfl ?_
                refine zr_iload 0 dX5_numbered_39 rfl ?_
                replace hf := zb1_s hf
                obtain ⟨v14, h13, hf⟩ := hf
                refine zr_callS [.int v12] (cJ6_bitCount_0f7a4_ok h13) zvs_J6_bitCount_0f7a4 zl_67 zl_468 rfl (Nat.le_of_ble_eq_true rfl) (Nat.le_of_ble_eq_true rfl) (Nat.le_of_ble_eq_true rfl) (Nat.le_of_ble_eq_true rfl) dX5_numbered_41 rfl ?_
                refine zr_istore [(7, .int v14), (6, .int v12), (0, .ref x0), (1, .ref x1), (3, .int x3_7), (4, .int x4_2), (5, .int x5_8)] dX5_numbered_44 (Nat.le_of_ble_eq_true rfl) rfl ?_
                refine zr_iload_n 4 dX5_numbered_46 rfl ?_
                refine zr_iload 0 dX5_numbered_47 rfl ?_
                refine zr_icmp_ge 72 dX5_numbered_49 (by decide) (fun hc => ?_) (fun hc => ?_)
                · rw [if_pos hc] at hf
                  refine zr_iload_n 4 dX5_numbered_72 rfl ?_
                  refine zr_iload 0 dX5_numbered_73 rfl ?_
                  refine zr_isub dX5_numbered_75 ?_
                  refine zr_istore_n [(3, .int (x3_7 - v14)), (7, .int v14), (6, .int v12), (0, .ref x0), (1, .ref x1), (4, .int x4_2), (5, .int x5_8)] dX5_numbered_76 (Nat.le_of_ble_eq_true rfl) rfl ?_
                  refine zr_iinc (j := 6) (x5_8 + 1) [(5, .int (x5_8 + 1)), (3, .int (x3_7 - v14)), (7, .int v14), (6, .int v12), (0, .ref x0), (1, .ref x1), (4, .int x4_2)] dX5_numbered_77 rfl rfl (Nat.le_of_ble_eq_true rfl) rfl ?_
                  refine zr_goto 21 dX5_numbered_80 (by decide) ?_
                  exact zr_lv [4, 5, 1, 6, 0] rfl (ih10 (x3_7 - v14) (x5_8 + 1) hf)
                · rw [if_neg hc] at hf
                  refine zr_sipush 1000 dX5_numbered_52 (by decide) ?_
                  refine zr_iload 5 dX5_numbered_55 rfl ?_
                  refine zr_imul dX5_numbered_57 ?_
                  refine zr_bipush 10 dX5_numbered_58 (by decide) ?_
                  refine zr_iload 6 dX5_numbered_60 rfl ?_
                  refine zr_imul dX5_numbered_62 ?_
                  refine zr_iadd dX5_numbered_63 ?_
                  refine zr_iload 1 dX5_numbered_64 rfl ?_
                  refine zr_iload_n 4 dX5_numbered_66 rfl ?_
                  replace hf := zb1_s hf
                  obtain ⟨v16, h15, hf⟩ := hf
                  refine zr_callS [.int v12, .int x3_7] (cX5_wordNumbered_ok h15) zvs_X5_wordNumbered zl_475 zl_474 rfl (Nat.le_of_ble_eq_true rfl) (Nat.le_of_ble_eq_true rfl) (Nat.le_of_ble_eq_true rfl) (Nat.le_of_ble_eq_true rfl) dX5_numbered_67 rfl ?_
                  refine zr_iadd dX5_numbered_70 ?_
                  cases hf
                  exact zr_iret dX5_numbered_71
          exact zr_lv [1, 2, 3, 4, 0] rfl (hL17 _ x3_1 0 hf)
  exact zr_lv [2, 3, 1, 0] rfl (hL18 _ x2 0 hf)
theorem dX5_onlyPlace_0 : decode cX5_onlyPlace 0 = .ok (.iconst (-1), 1) := by decide +kernel
theorem dX5_onlyPlace_1 : decode cX5_onlyPlace 1 = .ok (.istore_n 2, 1) := by decide +kernel
theorem dX5_onlyPlace_2 : decode cX5_onlyPlace 2 = .ok (.iconst 0, 1) := by decide +kernel
theorem dX5_onlyPlace_3 : decode cX5_onlyPlace 3 = .ok (.istore_n 3, 1) := by decide +kernel
theorem dX5_onlyPlace_4 : decode cX5_onlyPlace 4 = .ok (.iload_n 3, 1) := by decide +kernel
theorem dX5_onlyPlace_5 : decode cX5_onlyPlace 5 = .ok (.aload_n 0, 1) := by decide +kernel
theorem dX5_onlyPlace_6 : decode cX5_onlyPlace 6 = .ok (.getfield 76, 3) := by decide +kernel
theorem dX5_onlyPlace_9 : decode cX5_onlyPlace 9 = .ok (.if_icmp .gt 30, 3) := by decide +kernel
theorem dX5_onlyPlace_12 : decode cX5_onlyPlace 12 = .ok (.aload_n 0, 1) := by decide +kernel
theorem dX5_onlyPlace_13 : decode cX5_onlyPlace 13 = .ok (.aload_n 1, 1) := by decide +kernel
theorem dX5_onlyPlace_14 : decode cX5_onlyPlace 14 = .ok (.iload_n 3, 1) := by decide +kernel
theorem dX5_onlyPlace_15 : decode cX5_onlyPlace 15 = .ok (.invokestatic 79, 3) := by decide +kernel
theorem dX5_onlyPlace_18 : decode cX5_onlyPlace 18 = .ok (.ifCond .ne 6, 3) := by decide +kernel
theorem dX5_onlyPlace_21 : decode cX5_onlyPlace 21 = .ok (.goto 12, 3) := by decide +kernel
theorem dX5_onlyPlace_24 : decode cX5_onlyPlace 24 = .ok (.iload_n 2, 1) := by decide +kernel
theorem dX5_onlyPlace_25 : decode cX5_onlyPlace 25 = .ok (.iconst (-1), 1) := by decide +kernel
theorem dX5_onlyPlace_26 : decode cX5_onlyPlace 26 = .ok (.if_icmp .eq 5, 3) := by decide +kernel
theorem dX5_onlyPlace_29 : decode cX5_onlyPlace 29 = .ok (.iconst (-1), 1) := by decide +kernel
theorem dX5_onlyPlace_30 : decode cX5_onlyPlace 30 = .ok (.ireturn, 1) := by decide +kernel
theorem dX5_onlyPlace_31 : decode cX5_onlyPlace 31 = .ok (.iload_n 3, 1) := by decide +kernel
theorem dX5_onlyPlace_32 : decode cX5_onlyPlace 32 = .ok (.istore_n 2, 1) := by decide +kernel
theorem dX5_onlyPlace_33 : decode cX5_onlyPlace 33 = .ok (.iinc 3 1, 3) := by decide +kernel
theorem dX5_onlyPlace_36 : decode cX5_onlyPlace 36 = .ok (.goto (-32), 3) := by decide +kernel
theorem dX5_onlyPlace_39 : decode cX5_onlyPlace 39 = .ok (.iload_n 2, 1) := by decide +kernel
theorem dX5_onlyPlace_40 : decode cX5_onlyPlace 40 = .ok (.ireturn, 1) := by decide +kernel
noncomputable def fX5_onlyPlace_l4 (μ : zM) (x0 : Nat) (x1 : Nat) (F3 : Int32 → Int32 → Option (Int32)) (x2_1 : Int32) (x3_2 : Int32) : Option (Int32) :=
  zb1 (zm_gI μ 9 x0 0) fun v5 =>
  if v5 < x3_2 then (
  some x2_1)
  else (
  zb1 (fX5_howManyAt μ x0 x1 x3_2) fun v8 =>
  if v8 = 0 then (
  F3 x2_1 (x3_2 + 1))
  else (
  if x2_1 = (-1) then (
  F3 x3_2 (x3_2 + 1))
  else (
  some (-1))))
noncomputable def fX5_onlyPlace (μ : zM) (x0 : Nat) (x1 : Nat) : Option (Int32) :=
  zf2 (fX5_onlyPlace_l4 μ x0 x1) zfu (-1) 0
set_option maxHeartbeats 4000000 in
set_option maxRecDepth 100000 in
theorem cX5_onlyPlace_ok {μ : zM} {x0 : Nat} {x1 : Nat} {r : Int32} (hf : fX5_onlyPlace μ x0 x1 = some r) : zC yX5_onlyPlace cX5_onlyPlace 4 (some .int) 5 0 0 [.ref x0, .ref x1] μ (some (.int r)) μ := by
  unfold fX5_onlyPlace at hf
  refine zC.of (by decide) (Nat.le_of_ble_eq_true rfl) (fun K hin => ?_)
  clear hin
  show zz K cX5_onlyPlace (4, RX5, some .int, 5, 0, 0, some (.int r), μ) 0 0 0 [(0, .ref x0), (1, .ref x1)] [] μ
  refine zr_iconst (-1) dX5_onlyPlace_0 (by decide) ?_
  refine zr_istore_n [(2, .int (-1)), (0, .ref x0), (1, .ref x1)] dX5_onlyPlace_1 (Nat.le_of_ble_eq_true rfl) rfl ?_
  refine zr_iconst 0 dX5_onlyPlace_2 (by decide) ?_
  refine zr_istore_n [(3, .int 0), (2, .int (-1)), (0, .ref x0), (1, .ref x1)] dX5_onlyPlace_3 (Nat.le_of_ble_eq_true rfl) rfl ?_
  have hL9 : ∀ (n : Nat) (x2_1 : Int32) (x3_2 : Int32), zf2 (fX5_onlyPlace_l4 μ x0 x1) n x2_1 x3_2 = some r → zz K cX5_onlyPlace (4, RX5, some .int, 5, 0, 0, some (.int r), μ) 0 0 4 [(0, .ref x0), (1, .ref x1), (2, .int x2_1), (3, .int x3_2)] [] μ := by
    intro n
    induction n with
    | zero => intro x2_1 x3_2 hf; cases hf
    | succ n ih4 =>
      intro x2_1 x3_2 hf
      replace hf := zf2_s hf
      generalize zf2 (fX5_onlyPlace_l4 μ x0 x1) n = F3 at hf ih4
      unfold fX5_onlyPlace_l4 at hf
      refine zr_iload_n 3 dX5_onlyPlace_4 rfl ?_
      refine zr_aload_n 0 dX5_onlyPlace_5 rfl ?_
      replace hf := zb1_s hf
      obtain ⟨v5, h6, hf⟩ := hf
      refine zr_get (zm_gI_g h6) zk9 (by decide) zl_469 dX5_onlyPlace_6 ?_
      refine zr_icmp_gt 39 dX5_onlyPlace_9 (by decide) (fun hc => ?_) (fun hc => ?_)
      · rw [if_pos hc] at hf
        refine zr_iload_n 2 dX5_onlyPlace_39 rfl ?_
        cases hf
        exact zr_iret dX5_onlyPlace_40
      · rw [if_neg hc] at hf
        refine zr_aload_n 0 dX5_onlyPlace_12 rfl ?_
        refine zr_aload_n 1 dX5_onlyPlace_13 rfl ?_
        refine zr_iload_n 3 dX5_onlyPlace_14 rfl ?_
        replace hf := zb1_s hf
        obtain ⟨v8, h7, hf⟩ := hf
        refine zr_callS [.ref x0, .ref x1, .int x3_2] (cX5_howManyAt_ok h7) zvs_X5_howManyAt zl_472 zl_471 rfl (Nat.le_of_ble_eq_true rfl) (Nat.le_of_ble_eq_true rfl) (Nat.le_of_ble_eq_true rfl) (Nat.le_of_ble_eq_true rfl) dX5_onlyPlace_15 rfl ?_
        refine zr_if_ne 24 dX5_onlyPlace_18 (by decide) (fun hc => ?_) (fun hc => ?_)
        · rw [if_neg hc] at hf
          refine zr_iload_n 2 dX5_onlyPlace_24 rfl ?_
          refine zr_iconst (-1) dX5_onlyPlace_25 (by decide) ?_
          refine zr_icmp_eq 31 dX5_onlyPlace_26 (by decide) (fun hc => ?_) (fun hc => ?_)
          · rw [if_pos hc] at hf
            refine zr_iload_n 3 dX5_onlyPlace_31 rfl ?_
            refine zr_istore_n [(2, .int x3_2), (0, .ref x0), (1, .ref x1), (3, .int x3_2)] dX5_onlyPlace_32 (Nat.le_of_ble_eq_true rfl) rfl ?_
            refine zr_iinc (j := 3) (x3_2 + 1) [(3, .int (x3_2 + 1)), (2, .int x3_2), (0, .ref x0), (1, .ref x1)] dX5_onlyPlace_33 rfl rfl (Nat.le_of_ble_eq_true rfl) rfl ?_
            refine zr_goto 4 dX5_onlyPlace_36 (by decide) ?_
            exact zr_lv [2, 3, 1, 0] rfl (ih4 x3_2 (x3_2 + 1) hf)
          · rw [if_neg hc] at hf
            refine zr_iconst (-1) dX5_onlyPlace_29 (by decide) ?_
            cases hf
            exact zr_iret dX5_onlyPlace_30
        · rw [if_pos hc] at hf
          refine zr_goto 33 dX5_onlyPlace_21 (by decide) ?_
          refine zr_iinc (j := 3) (x3_2 + 1) [(3, .int (x3_2 + 1)), (0, .ref x0), (1, .ref x1), (2, .int x2_1)] dX5_onlyPlace_33 rfl rfl (Nat.le_of_ble_eq_true rfl) rfl ?_
          refine zr_goto 4 dX5_onlyPlace_36 (by decide) ?_
          exact zr_lv [1, 2, 3, 0] rfl (ih4 x2_1 (x3_2 + 1) hf)
  exact zr_lv [2, 3, 1, 0] rfl (hL9 _ (-1) 0 hf)
theorem zl_476 : Cond.methodLink RX5 87 yJ7_fill_53178 ∈ zt := zt_at 1145 (by decide +kernel)
theorem zl_477 : Cond.methodLink RX5 97 Lib.Math.max.name ∈ zt := zt_at 1154 (by decide +kernel)
theorem dX5_countByThought_0 : decode cX5_countByThought 0 = .ok (.aload_n 0, 1) := by decide +kernel
theorem dX5_countByThought_1 : decode cX5_countByThought 1 = .ok (.getfield 15, 3) := by decide +kernel
theorem dX5_countByThought_4 : decode cX5_countByThought 4 = .ok (.iconst 0, 1) := by decide +kernel
theorem dX5_countByThought_5 : decode cX5_countByThought 5 = .ok (.invokestatic 87, 3) := by decide +kernel
theorem dX5_countByThought_8 : decode cX5_countByThought 8 = .ok (.aload_n 0, 1) := by decide +kernel
theorem dX5_countByThought_9 : decode cX5_countByThought 9 = .ok (.iconst 0, 1) := by decide +kernel
theorem dX5_countByThought_10 : decode cX5_countByThought 10 = .ok (.putfield 18, 3) := by decide +kernel
theorem dX5_countByThought_13 : decode cX5_countByThought 13 = .ok (.iconst 0, 1) := by decide +kernel
theorem dX5_countByThought_14 : decode cX5_countByThought 14 = .ok (.istore_n 3, 1) := by decide +kernel
theorem dX5_countByThought_15 : decode cX5_countByThought 15 = .ok (.iload_n 3, 1) := by decide +kernel
theorem dX5_countByThought_16 : decode cX5_countByThought 16 = .ok (.bipush 8, 2) := by decide +kernel
theorem dX5_countByThought_18 : decode cX5_countByThought 18 = .ok (.if_icmp .ge 49, 3) := by decide +kernel
theorem dX5_countByThought_21 : decode cX5_countByThought 21 = .ok (.iload_n 2, 1) := by decide +kernel
theorem dX5_countByThought_22 : decode cX5_countByThought 22 = .ok (.iload_n 3, 1) := by decide +kernel
theorem dX5_countByThought_23 : decode cX5_countByThought 23 = .ok (.ishr, 1) := by decide +kernel
theorem dX5_countByThought_24 : decode cX5_countByThought 24 = .ok (.iconst 1, 1) := by decide +kernel
theorem dX5_countByThought_25 : decode cX5_countByThought 25 = .ok (.iand, 1) := by decide +kernel
theorem dX5_countByThought_26 : decode cX5_countByThought 26 = .ok (.ifCond .eq 35, 3) := by decide +kernel
theorem dX5_countByThought_29 : decode cX5_countByThought 29 = .ok (.aload_n 0, 1) := by decide +kernel
theorem dX5_countByThought_30 : decode cX5_countByThought 30 = .ok (.getfield 15, 3) := by decide +kernel
theorem dX5_countByThought_33 : decode cX5_countByThought 33 = .ok (.aload_n 1, 1) := by decide +kernel
theorem dX5_countByThought_34 : decode cX5_countByThought 34 = .ok (.getfield 54, 3) := by decide +kernel
theorem dX5_countByThought_37 : decode cX5_countByThought 37 = .ok (.iload_n 3, 1) := by decide +kernel
theorem dX5_countByThought_38 : decode cX5_countByThought 38 = .ok (.iaload, 1) := by decide +kernel
theorem dX5_countByThought_39 : decode cX5_countByThought 39 = .ok (.dup2, 1) := by decide +kernel
theorem dX5_countByThought_40 : decode cX5_countByThought 40 = .ok (.iaload, 1) := by decide +kernel
theorem dX5_countByThought_41 : decode cX5_countByThought 41 = .ok (.iconst 1, 1) := by decide +kernel
theorem dX5_countByThought_42 : decode cX5_countByThought 42 = .ok (.iadd, 1) := by decide +kernel
theorem dX5_countByThought_43 : decode cX5_countByThought 43 = .ok (.iastore, 1) := by decide +kernel
theorem dX5_countByThought_44 : decode cX5_countByThought 44 = .ok (.aload_n 0, 1) := by decide +kernel
theorem dX5_countByThought_45 : decode cX5_countByThought 45 = .ok (.aload_n 0, 1) := by decide +kernel
theorem dX5_countByThought_46 : decode cX5_countByThought 46 = .ok (.getfield 18, 3) := by decide +kernel
theorem dX5_countByThought_49 : decode cX5_countByThought 49 = .ok (.aload_n 1, 1) := by decide +kernel
theorem dX5_countByThought_50 : decode cX5_countByThought 50 = .ok (.getfield 54, 3) := by decide +kernel
theorem dX5_countByThought_53 : decode cX5_countByThought 53 = .ok (.iload_n 3, 1) := by decide +kernel
theorem dX5_countByThought_54 : decode cX5_countByThought 54 = .ok (.iaload, 1) := by decide +kernel
theorem dX5_countByThought_55 : decode cX5_countByThought 55 = .ok (.invokestatic 97, 3) := by decide +kernel
theorem dX5_countByThought_58 : decode cX5_countByThought 58 = .ok (.putfield 18, 3) := by decide +kernel
theorem dX5_countByThought_61 : decode cX5_countByThought 61 = .ok (.iinc 3 1, 3) := by decide +kernel
theorem dX5_countByThought_64 : decode cX5_countByThought 64 = .ok (.goto (-49), 3) := by decide +kernel
theorem dX5_countByThought_67 : decode cX5_countByThought 67 = .ok (.return_, 1) := by decide +kernel
noncomputable def fX5_countByThought_l15 (x2 : Int32) (x0 : Nat) (x1 : Nat) (F9 : Int32 → zM → Option (zM)) (x3_7 : Int32) (m8 : zM) : Option (zM) :=
  if 8 ≤ x3_7 then (
  some m8)
  else (
  zc1 (if ((x2 >>> (x3_7 &&& 31)) &&& 1) = 0 then (
  some m8)
  else (
  zb1 (zm_gR m8 5 x0 1) fun v15 =>
  zb1 (zm_gR m8 9 x1 2) fun v17 =>
  zb1 (zm_aI m8 0 v17 x3_7) fun v19 =>
  zb1 (zm_aI m8 0 v15 v19) fun v21 =>
  zb1 (zm_sI m8 0 v15 v19 (v21 + 1)) fun m23 =>
  zb1 (zm_gI m23 5 x0 2) fun v25 =>
  zb1 (zm_gR m23 9 x1 2) fun v27 =>
  zb1 (zm_aI m23 0 v27 x3_7) fun v29 =>
  zb1 (zm_p m23 5 x0 2 (.int (if v25 < v29 then v29 else v25 : Int32))) fun m31 =>
  some m31) : Option (zM)) fun (m13 : zM) =>
  F9 (x3_7 + 1) m13)
noncomputable def fX5_countByThought (μ : zM) (x0 : Nat) (x1 : Nat) (x2 : Int32) : Option (zM) := zgd (zm_ck μ 5 x0) <|
  zb1 (zm_gR μ 5 x0 1) fun v1 =>
  zb1 (fJ7_fill_53178 μ v1 0) fun m4 =>
  zb1 (zm_p m4 5 x0 2 (.int 0)) fun m5 =>
  zb1 (zf2 (fX5_countByThought_l15 x2 x0 x1) zfu 0 m5 : Option (zM)) fun (m11 : zM) =>
  some m11
theorem fX5_countByThought_ck {μ : zM} {x0 : Nat} {x1 : Nat} {x2 : Int32} {z : zM} (h : fX5_countByThought μ x0 x1 x2 = some z) : zm_ck μ 5 x0 = true := (zgd_s h).1
set_option maxHeartbeats 4000000 in
set_option maxRecDepth 100000 in
theorem cX5_countByThought_ok {μ : zM} {x0 : Nat} {x1 : Nat} {x2 : Int32} {mo : zM} (hf : fX5_countByThought μ x0 x1 x2 = some mo) : zC yX5_countByThought cX5_countByThought 4 (none) 1 0 0 [.ref x0, .ref x1, .int x2] μ (none) mo := by
  replace hf := (zgd_s hf).2
  refine zC.of (by decide) (Nat.le_of_ble_eq_true rfl) (fun K hin => ?_)
  clear hin
  show zz K cX5_countByThought (4, RX5, none, 1, 0, 0, none, mo) 0 0 0 [(0, .ref x0), (1, .ref x1), (2, .int x2)] [] μ
  refine zr_aload_n 0 dX5_countByThought_0 rfl ?_
  replace hf := zb1_s hf
  obtain ⟨v1, h2, hf⟩ := hf
  refine zr_get (zm_gR_g h2) zk5 (by decide) zl_446 dX5_countByThought_1 ?_
  refine zr_iconst 0 dX5_countByThought_4 (by decide) ?_
  replace hf := zb1_s hf
  obtain ⟨m4, h3, hf⟩ := hf
  refine zr_callS [.ref v1, .int 0] (cJ7_fill_53178_ok h3) zvs_J7_fill_53178 zl_49 zl_476 rfl (Nat.le_of_ble_eq_true rfl) (Nat.le_of_ble_eq_true rfl) (Nat.le_of_ble_eq_true rfl) (Nat.le_of_ble_eq_true rfl) dX5_countByThought_5 rfl ?_
  refine zr_aload_n 0 dX5_countByThought_8 rfl ?_
  refine zr_iconst 0 dX5_countByThought_9 (by decide) ?_
  replace hf := zb1_s hf
  obtain ⟨m5, h6, hf⟩ := hf
  refine zr_put h6 zk5 (by decide) zl_447 rfl rfl rfl dX5_countByThought_10 ?_
  refine zr_iconst 0 dX5_countByThought_13 (by decide) ?_
  refine zr_istore_n [(3, .int 0), (0, .ref x0), (1, .ref x1), (2, .int x2)] dX5_countByThought_14 (Nat.le_of_ble_eq_true rfl) rfl ?_
  replace hf := zb1_s hf
  obtain ⟨m11, hg, hf⟩ := hf
  have hj12 : zz K cX5_countByThought (4, RX5, none, 1, 0, 0, none, mo) 0 0 67 [] [] m11 := by
    cases hf
    exact zr_vret dX5_countByThought_67
  clear hf
  have hf := hg
  clear hg
  have hL33 : ∀ (n : Nat) (x3_7 : Int32) (m8 : zM), zf2 (fX5_countByThought_l15 x2 x0 x1) n x3_7 m8 = some m11 → zz K cX5_countByThought (4, RX5, none, 1, 0, 0, none, mo) 0 0 15 [(0, .ref x0), (1, .ref x1), (2, .int x2), (3, .int x3_7)] [] m8 := by
    intro n
    induction n with
    | zero => intro x3_7 m8 hf; cases hf
    | succ n ih10 =>
      intro x3_7 m8 hf
      replace hf := zf2_s hf
      generalize zf2 (fX5_countByThought_l15 x2 x0 x1) n = F9 at hf ih10
      unfold fX5_countByThought_l15 at hf
      refine zr_iload_n 3 dX5_countByThought_15 rfl ?_
      refine zr_bipush 8 dX5_countByThought_16 (by decide) ?_
      refine zr_icmp_ge 67 dX5_countByThought_18 (by decide) (fun hc => ?_) (fun hc => ?_)
      · rw [if_pos hc] at hf
        cases hf
        exact zr_lv [] rfl hj12
      · rw [if_neg hc] at hf
        refine zr_iload_n 2 dX5_countByThought_21 rfl ?_
        refine zr_iload_n 3 dX5_countByThought_22 rfl ?_
        refine zr_ishr dX5_countByThought_23 ?_
        refine zr_iconst 1 dX5_countByThought_24 (by decide) ?_
        refine zr_iand dX5_countByThought_25 ?_
        replace hf := zc1_s hf
        obtain ⟨m13, hg, hf⟩ := hf
        have hj14 : zz K cX5_countByThought (4, RX5, none, 1, 0, 0, none, mo) 0 0 61 [(0, .ref x0), (1, .ref x1), (2, .int x2), (3, .int x3_7)] [] m13 := by
          refine zr_iinc (j := 3) (x3_7 + 1) [(3, .int (x3_7 + 1)), (0, .ref x0), (1, .ref x1), (2, .int x2)] dX5_countByThought_61 rfl rfl (Nat.le_of_ble_eq_true rfl) rfl ?_
          refine zr_goto 15 dX5_countByThought_64 (by decide) ?_
          exact zr_lv [1, 2, 3, 0] rfl (ih10 (x3_7 + 1) m13 hf)
        clear hf
        have hf := hg
        clear hg
        refine zr_if_eq 61 dX5_countByThought_26 (by decide) (fun hc => ?_) (fun hc => ?_)
        · rw [if_pos hc] at hf
          cases hf
          exact zr_lv [0, 1, 2, 3] rfl hj14
        · rw [if_neg hc] at hf
          refine zr_aload_n 0 dX5_countByThought_29 rfl ?_
          replace hf := zb1_s hf
          obtain ⟨v15, h16, hf⟩ := hf
          refine zr_get (zm_gR_g h16) zk5 (by decide) zl_446 dX5_countByThought_30 ?_
          refine zr_aload_n 1 dX5_countByThought_33 rfl ?_
          replace hf := zb1_s hf
          obtain ⟨v17, h18, hf⟩ := hf
          refine zr_get (zm_gR_g h18) zk9 (by decide) zl_449 dX5_countByThought_34 ?_
          refine zr_iload_n 3 dX5_countByThought_37 rfl ?_
          replace hf := zb1_s hf
          obtain ⟨v19, h20, hf⟩ := hf
          refine zr_iald h20 dX5_countByThought_38 ?_
          refine zr_dup2 dX5_countByThought_39 rfl rfl ?_
          replace hf := zb1_s hf
          obtain ⟨v21, h22, hf⟩ := hf
          refine zr_iald h22 dX5_countByThought_40 ?_
          refine zr_iconst 1 dX5_countByThought_41 (by decide) ?_
          refine zr_iadd dX5_countByThought_42 ?_
          replace hf := zb1_s hf
          obtain ⟨m23, h24, hf⟩ := hf
          refine zr_iast h24 dX5_countByThought_43 ?_
          refine zr_aload_n 0 dX5_countByThought_44 rfl ?_
          refine zr_aload_n 0 dX5_countByThought_45 rfl ?_
          replace hf := zb1_s hf
          obtain ⟨v25, h26, hf⟩ := hf
          refine zr_get (zm_gI_g h26) zk5 (by decide) zl_447 dX5_countByThought_46 ?_
          refine zr_aload_n 1 dX5_countByThought_49 rfl ?_
          replace hf := zb1_s hf
          obtain ⟨v27, h28, hf⟩ := hf
          refine zr_get (zm_gR_g h28) zk9 (by decide) zl_449 dX5_countByThought_50 ?_
          refine zr_iload_n 3 dX5_countByThought_53 rfl ?_
          replace hf := zb1_s hf
          obtain ⟨v29, h30, hf⟩ := hf
          refine zr_iald h30 dX5_countByThought_54 ?_
          refine zr_mmax zl_477 zl_55 zl_11 zl_56 (Nat.le_of_ble_eq_true rfl) (Nat.le_of_ble_eq_true rfl) (Nat.le_of_ble_eq_true rfl) (Nat.le_of_ble_eq_true rfl) dX5_countByThought_55 ?_
          replace hf := zb1_s hf
          obtain ⟨m31, h32, hf⟩ := hf
          refine zr_put h32 zk5 (by decide) zl_447 rfl rfl rfl dX5_countByThought_58 ?_
          cases hf
          exact zr_lv [0, 1, 2, 3] rfl hj14
  exact zr_lv [1, 2, 3, 0] rfl (hL33 _ 0 m5 hf)
theorem zl_478 : Cond.methodLinkNest RX5 114 yX11_isMinute "TwoEchoes" ∈ zn := zn_at 1159 (by decide +kernel)
theorem dX5_hit_0 : decode cX5_hit 0 = .ok (.iload_n 2, 1) := by decide +kernel
theorem dX5_hit_1 : decode cX5_hit 1 = .ok (.invokestatic 114, 3) := by decide +kernel
theorem dX5_hit_4 : decode cX5_hit 4 = .ok (.ifCond .eq 18, 3) := by decide +kernel
theorem dX5_hit_7 : decode cX5_hit 7 = .ok (.aload_n 0, 1) := by decide +kernel
theorem dX5_hit_8 : decode cX5_hit 8 = .ok (.getfield 9, 3) := by decide +kernel
theorem dX5_hit_11 : decode cX5_hit 11 = .ok (.iload_n 1, 1) := by decide +kernel
theorem dX5_hit_12 : decode cX5_hit 12 = .ok (.bipush 100, 2) := by decide +kernel
theorem dX5_hit_14 : decode cX5_hit 14 = .ok (.imul, 1) := by decide +kernel
theorem dX5_hit_15 : decode cX5_hit 15 = .ok (.iload_n 2, 1) := by decide +kernel
theorem dX5_hit_16 : decode cX5_hit 16 = .ok (.iadd, 1) := by decide +kernel
theorem dX5_hit_17 : decode cX5_hit 17 = .ok (.dup2, 1) := by decide +kernel
theorem dX5_hit_18 : decode cX5_hit 18 = .ok (.iaload, 1) := by decide +kernel
theorem dX5_hit_19 : decode cX5_hit 19 = .ok (.iload_n 3, 1) := by decide +kernel
theorem dX5_hit_20 : decode cX5_hit 20 = .ok (.iadd, 1) := by decide +kernel
theorem dX5_hit_21 : decode cX5_hit 21 = .ok (.iastore, 1) := by decide +kernel
theorem dX5_hit_22 : decode cX5_hit 22 = .ok (.return_, 1) := by decide +kernel
noncomputable def fX5_hit (μ : zM) (x0 : Nat) (x1 : Int32) (x2 : Int32) (x3 : Int32) : Option (zM) := zgd (zm_ck μ 5 x0) <|
  zb1 (fX11_isMinute μ x2) fun v2 =>
  zc1 (if v2 = 0 then (
  some μ)
  else (
  zb1 (zm_gR μ 5 x0 0) fun v5 =>
  zb1 (zm_aI μ 0 v5 ((x1 * 100) + x2)) fun v7 =>
  zb1 (zm_sI μ 0 v5 ((x1 * 100) + x2) (v7 + x3)) fun m9 =>
  some m9) : Option (zM)) fun (m3 : zM) =>
  some m3
theorem fX5_hit_ck {μ : zM} {x0 : Nat} {x1 : Int32} {x2 : Int32} {x3 : Int32} {z : zM} (h : fX5_hit μ x0 x1 x2 x3 = some z) : zm_ck μ 5 x0 = true := (zgd_s h).1
set_option maxHeartbeats 4000000 in
set_option maxRecDepth 100000 in
theorem cX5_hit_ok {μ : zM} {x0 : Nat} {x1 : Int32} {x2 : Int32} {x3 : Int32} {mo : zM} (hf : fX5_hit μ x0 x1 x2 x3 = some mo) : zC yX5_hit cX5_hit 4 (none) 1 0 0 [.ref x0, .int x1, .int x2, .int x3] μ (none) mo := by
  replace hf := (zgd_s hf).2
  refine zC.of (by decide) (Nat.le_of_ble_eq_true rfl) (fun K hin => ?_)
  clear hin
  show zz K cX5_hit (4, RX5, none, 1, 0, 0, none, mo) 0 0 0 [(0, .ref x0), (1, .int x1), (2, .int x2), (3, .int x3)] [] μ
  refine zr_iload_n 2 dX5_hit_0 rfl ?_
  replace hf := zb1_s hf
  obtain ⟨v2, h1, hf⟩ := hf
  refine zr_callSN [.int x2] (cX11_isMinute_ok h1) zvs_X11_isMinute zl_120 zl_478 rfl (Nat.le_of_ble_eq_true rfl) (Nat.le_of_ble_eq_true rfl) (Nat.le_of_ble_eq_true rfl) (Nat.le_of_ble_eq_true rfl) dX5_hit_1 rfl ?_
  replace hf := zc1_s hf
  obtain ⟨m3, hg, hf⟩ := hf
  have hj4 : zz K cX5_hit (4, RX5, none, 1, 0, 0, none, mo) 0 0 22 [] [] m3 := by
    cases hf
    exact zr_vret dX5_hit_22
  clear hf
  have hf := hg
  clear hg
  refine zr_if_eq 22 dX5_hit_4 (by decide) (fun hc => ?_) (fun hc => ?_)
  · rw [if_pos hc] at hf
    cases hf
    exact zr_lv [] rfl hj4
  · rw [if_neg hc] at hf
    refine zr_aload_n 0 dX5_hit_7 rfl ?_
    replace hf := zb1_s hf
    obtain ⟨v5, h6, hf⟩ := hf
    refine zr_get (zm_gR_g h6) zk5 (by decide) zl_445 dX5_hit_8 ?_
    refine zr_iload_n 1 dX5_hit_11 rfl ?_
    refine zr_bipush 100 dX5_hit_12 (by decide) ?_
    refine zr_imul dX5_hit_14 ?_
    refine zr_iload_n 2 dX5_hit_15 rfl ?_
    refine zr_iadd dX5_hit_16 ?_
    refine zr_dup2 dX5_hit_17 rfl rfl ?_
    replace hf := zb1_s hf
    obtain ⟨v7, h8, hf⟩ := hf
    refine zr_iald h8 dX5_hit_18 ?_
    refine zr_iload_n 3 dX5_hit_19 rfl ?_
    refine zr_iadd dX5_hit_20 ?_
    replace hf := zb1_s hf
    obtain ⟨m9, h10, hf⟩ := hf
    refine zr_iast h10 dX5_hit_21 ?_
    cases hf
    exact zr_lv [] rfl hj4
theorem zl_479 : Cond.code yX5_hit cX5_hit 4 (none) ∈ zt := zt_at 1158 (by decide +kernel)
theorem zvs_X5_hit : zvS yX5_hit cX5_hit 4 (none) 3 := ⟨zl_479, zl_457, ⟨by decide +kernel, by decide +kernel, by decide +kernel⟩, by decide⟩
theorem zl_480 : Cond.methodLink RX5 106 yX5_hit ∈ zt := zt_at 1155 (by decide +kernel)
theorem zl_481 : Cond.instanceMethod yX5_hit ∈ zt := zt_at 1157 (by decide +kernel)
theorem zl_482 : Cond.selects RX5 yX5_hit yX5_hit ∈ zt := zt_at 40 (by decide +kernel)
theorem dX5_hitByJudge_0 : decode cX5_hitByJudge 0 = .ok (.iconst 0, 1) := by decide +kernel
theorem dX5_hitByJudge_1 : decode cX5_hitByJudge 1 = .ok (.istore 5, 2) := by decide +kernel
theorem dX5_hitByJudge_3 : decode cX5_hitByJudge 3 = .ok (.iload 5, 2) := by decide +kernel
theorem dX5_hitByJudge_5 : decode cX5_hitByJudge 5 = .ok (.aload_n 0, 1) := by decide +kernel
theorem dX5_hitByJudge_6 : decode cX5_hitByJudge 6 = .ok (.getfield 18, 3) := by decide +kernel
theorem dX5_hitByJudge_9 : decode cX5_hitByJudge 9 = .ok (.if_icmp .gt 42, 3) := by decide +kernel
theorem dX5_hitByJudge_12 : decode cX5_hitByJudge 12 = .ok (.iload_n 2, 1) := by decide +kernel
theorem dX5_hitByJudge_13 : decode cX5_hitByJudge 13 = .ok (.iload 5, 2) := by decide +kernel
theorem dX5_hitByJudge_15 : decode cX5_hitByJudge 15 = .ok (.iadd, 1) := by decide +kernel
theorem dX5_hitByJudge_16 : decode cX5_hitByJudge 16 = .ok (.istore 6, 2) := by decide +kernel
theorem dX5_hitByJudge_18 : decode cX5_hitByJudge 18 = .ok (.iload 6, 2) := by decide +kernel
theorem dX5_hitByJudge_20 : decode cX5_hitByJudge 20 = .ok (.iload_n 3, 1) := by decide +kernel
theorem dX5_hitByJudge_21 : decode cX5_hitByJudge 21 = .ok (.if_icmp .eq 24, 3) := by decide +kernel
theorem dX5_hitByJudge_24 : decode cX5_hitByJudge 24 = .ok (.iload 6, 2) := by decide +kernel
theorem dX5_hitByJudge_26 : decode cX5_hitByJudge 26 = .ok (.iload 4, 2) := by decide +kernel
theorem dX5_hitByJudge_28 : decode cX5_hitByJudge 28 = .ok (.if_icmp .eq 17, 3) := by decide +kernel
theorem dX5_hitByJudge_31 : decode cX5_hitByJudge 31 = .ok (.aload_n 0, 1) := by decide +kernel
theorem dX5_hitByJudge_32 : decode cX5_hitByJudge 32 = .ok (.iload_n 1, 1) := by decide +kernel
theorem dX5_hitByJudge_33 : decode cX5_hitByJudge 33 = .ok (.iload 6, 2) := by decide +kernel
theorem dX5_hitByJudge_35 : decode cX5_hitByJudge 35 = .ok (.aload_n 0, 1) := by decide +kernel
theorem dX5_hitByJudge_36 : decode cX5_hitByJudge 36 = .ok (.getfield 15, 3) := by decide +kernel
theorem dX5_hitByJudge_39 : decode cX5_hitByJudge 39 = .ok (.iload 5, 2) := by decide +kernel
theorem dX5_hitByJudge_41 : decode cX5_hitByJudge 41 = .ok (.iaload, 1) := by decide +kernel
theorem dX5_hitByJudge_42 : decode cX5_hitByJudge 42 = .ok (.invokevirtual 106, 3) := by decide +kernel
theorem dX5_hitByJudge_45 : decode cX5_hitByJudge 45 = .ok (.iinc 5 1, 3) := by decide +kernel
theorem dX5_hitByJudge_48 : decode cX5_hitByJudge 48 = .ok (.goto (-45), 3) := by decide +kernel
theorem dX5_hitByJudge_51 : decode cX5_hitByJudge 51 = .ok (.return_, 1) := by decide +kernel
noncomputable def fX5_hitByJudge_l3 (x0 : Nat) (x2 : Int32) (x3 : Int32) (x4 : Int32) (x1 : Int32) (F3 : Int32 → zM → Option (zM)) (x5_1 : Int32) (m2 : zM) : Option (zM) :=
  zb1 (zm_gI m2 5 x0 2) fun v7 =>
  if v7 < x5_1 then (
  some m2)
  else (
  zc1 (if (x2 + x5_1) = x3 then (
  some m2)
  else (
  if (x2 + x5_1) = x4 then (
  some m2)
  else (
  zb1 (zm_gR m2 5 x0 1) fun v11 =>
  zb1 (zm_aI m2 0 v11 x5_1) fun v13 =>
  zb1 (fX5_hit m2 x0 x1 (x2 + x5_1) v13) fun m16 =>
  some m16)) : Option (zM)) fun (m9 : zM) =>
  F3 (x5_1 + 1) m9)
noncomputable def fX5_hitByJudge (μ : zM) (x0 : Nat) (x1 : Int32) (x2 : Int32) (x3 : Int32) (x4 : Int32) : Option (zM) := zgd (zm_ck μ 5 x0) <|
  zb1 (zf2 (fX5_hitByJudge_l3 x0 x2 x3 x4 x1) zfu 0 μ : Option (zM)) fun (m5 : zM) =>
  some m5
theorem fX5_hitByJudge_ck {μ : zM} {x0 : Nat} {x1 : Int32} {x2 : Int32} {x3 : Int32} {x4 : Int32} {z : zM} (h : fX5_hitByJudge μ x0 x1 x2 x3 x4 = some z) : zm_ck μ 5 x0 = true := (zgd_s h).1
set_option maxHeartbeats 4000000 in
set_option maxRecDepth 100000 in
theorem cX5_hitByJudge_ok {μ : zM} {x0 : Nat} {x1 : Int32} {x2 : Int32} {x3 : Int32} {x4 : Int32} {mo : zM} (hf : fX5_hitByJudge μ x0 x1 x2 x3 x4 = some mo) : zC yX5_hitByJudge cX5_hitByJudge 7 (none) 2 0 0 [.ref x0, .int x1, .int x2, .int x3, .int x4] μ (none) mo := by
  replace hf := (zgd_s hf).2
  refine zC.of (by decide) (Nat.le_of_ble_eq_true rfl) (fun K hin => ?_)
  clear hin
  show zz K cX5_hitByJudge (7, RX5, none, 2, 0, 0, none, mo) 0 0 0 [(0, .ref x0), (1, .int x1), (2, .int x2), (3, .int x3), (4, .int x4)] [] μ
  refine zr_iconst 0 dX5_hitByJudge_0 (by decide) ?_
  refine zr_istore [(5, .int 0), (0, .ref x0), (1, .int x1), (2, .int x2), (3, .int x3), (4, .int x4)] dX5_hitByJudge_1 (Nat.le_of_ble_eq_true rfl) rfl ?_
  replace hf := zb1_s hf
  obtain ⟨m5, hg, hf⟩ := hf
  have hj6 : zz K cX5_hitByJudge (7, RX5, none, 2, 0, 0, none, mo) 0 0 51 [] [] m5 := by
    cases hf
    exact zr_vret dX5_hitByJudge_51
  clear hf
  have hf := hg
  clear hg
  have hL17 : ∀ (n : Nat) (x5_1 : Int32) (m2 : zM), zf2 (fX5_hitByJudge_l3 x0 x2 x3 x4 x1) n x5_1 m2 = some m5 → zz K cX5_hitByJudge (7, RX5, none, 2, 0, 0, none, mo) 0 0 3 [(0, .ref x0), (1, .int x1), (2, .int x2), (3, .int x3), (4, .int x4), (5, .int x5_1)] [] m2 := by
    intro n
    induction n with
    | zero => intro x5_1 m2 hf; cases hf
    | succ n ih4 =>
      intro x5_1 m2 hf
      replace hf := zf2_s hf
      generalize zf2 (fX5_hitByJudge_l3 x0 x2 x3 x4 x1) n = F3 at hf ih4
      unfold fX5_hitByJudge_l3 at hf
      refine zr_iload 5 dX5_hitByJudge_3 rfl ?_
      refine zr_aload_n 0 dX5_hitByJudge_5 rfl ?_
      replace hf := zb1_s hf
      obtain ⟨v7, h8, hf⟩ := hf
      refine zr_get (zm_gI_g h8) zk5 (by decide) zl_447 dX5_hitByJudge_6 ?_
      refine zr_icmp_gt 51 dX5_hitByJudge_9 (by decide) (fun hc => ?_) (fun hc => ?_)
      · rw [if_pos hc] at hf
        cases hf
        exact zr_lv [] rfl hj6
      · rw [if_neg hc] at hf
        refine zr_iload_n 2 dX5_hitByJudge_12 rfl ?_
        refine zr_iload 5 dX5_hitByJudge_13 rfl ?_
        refine zr_iadd dX5_hitByJudge_15 ?_
        refine zr_istore [(6, .int (x2 + x5_1)), (0, .ref x0), (1, .int x1), (2, .int x2), (3, .int x3), (4, .int x4), (5, .int x5_1)] dX5_hitByJudge_16 (Nat.le_of_ble_eq_true rfl) rfl ?_
        refine zr_iload 0 dX5_hitByJudge_18 rfl ?_
        refine zr_iload_n 4 dX5_hitByJudge_20 rfl ?_
        replace hf := zc1_s hf
        obtain ⟨m9, hg, hf⟩ := hf
        have hj10 : zz K cX5_hitByJudge (7, RX5, none, 2, 0, 0, none, mo) 0 0 45 [(0, .ref x0), (1, .int x1), (2, .int x2), (3, .int x3), (4, .int x4), (5, .int x5_1)] [] m9 := by
          refine zr_iinc (j := 5) (x5_1 + 1) [(5, .int (x5_1 + 1)), (0, .ref x0), (1, .int x1), (2, .int x2), (3, .int x3), (4, .int x4)] dX5_hitByJudge_45 rfl rfl (Nat.le_of_ble_eq_true rfl) rfl ?_
          refine zr_goto 3 dX5_hitByJudge_48 (by decide) ?_
          exact zr_lv [1, 2, 3, 4, 5, 0] rfl (ih4 (x5_1 + 1) m9 hf)
        clear hf
        have hf := hg
        clear hg
        refine zr_icmp_eq 45 dX5_hitByJudge_21 (by decide) (fun hc => ?_) (fun hc => ?_)
        · rw [if_pos hc] at hf
          cases hf
          exact zr_lv [1, 2, 3, 4, 5, 6] rfl hj10
        · rw [if_neg hc] at hf
          refine zr_iload 0 dX5_hitByJudge_24 rfl ?_
          refine zr_iload 5 dX5_hitByJudge_26 rfl ?_
          refine zr_icmp_eq 45 dX5_hitByJudge_28 (by decide) (fun hc => ?_) (fun hc => ?_)
          · rw [if_pos hc] at hf
            cases hf
            exact zr_lv [1, 2, 3, 4, 5, 6] rfl hj10
          · rw [if_neg hc] at hf
            refine zr_aload_n 1 dX5_hitByJudge_31 rfl ?_
            refine zr_iload_n 2 dX5_hitByJudge_32 rfl ?_
            refine zr_iload 0 dX5_hitByJudge_33 rfl ?_
            refine zr_aload_n 1 dX5_hitByJudge_35 rfl ?_
            replace hf := zb1_s hf
            obtain ⟨v11, h12, hf⟩ := hf
            refine zr_get (zm_gR_g h12) zk5 (by decide) zl_446 dX5_hitByJudge_36 ?_
            refine zr_iload 6 dX5_hitByJudge_39 rfl ?_
            replace hf := zb1_s hf
            obtain ⟨v13, h14, hf⟩ := hf
            refine zr_iald h14 dX5_hitByJudge_41 ?_
            replace hf := zb1_s hf
            obtain ⟨m16, h15, hf⟩ := hf
            refine zr_callV (ci := 5) [.int x1, .int (x2 + x5_1), .int v13] (cX5_hit_ok h15) zvs_X5_hit zl_481 zl_482 (fX5_hit_ck h15) rfl rfl zl_480 rfl (Nat.le_of_ble_eq_true rfl) (Nat.le_of_ble_eq_true rfl) (Nat.le_of_ble_eq_true rfl) (Nat.le_of_ble_eq_true rfl) dX5_hitByJudge_42 rfl ?_
            cases hf
            exact zr_lv [1, 2, 3, 4, 5, 6] rfl hj10
  exact zr_lv [1, 2, 3, 4, 5, 0] rfl (hL17 _ 0 μ hf)
theorem zl_483 : Cond.code yX5_countByThought cX5_countByThought 4 (none) ∈ zt := zt_at 1153 (by decide +kernel)
theorem zvs_X5_countByThought : zvS yX5_countByThought cX5_countByThought 4 (none) 2 := ⟨zl_483, zl_457, ⟨by decide +kernel, by decide +kernel, by decide +kernel⟩, by decide⟩
theorem zl_484 : Cond.methodLink RX5 102 yX5_countByThought ∈ zt := zt_at 1150 (by decide +kernel)
theorem zl_485 : Cond.instanceMethod yX5_countByThought ∈ zt := zt_at 1152 (by decide +kernel)
theorem zl_486 : Cond.selects RX5 yX5_countByThought yX5_countByThought ∈ zt := zt_at 39 (by decide +kernel)
theorem zl_487 : Cond.code yX5_hitByJudge cX5_hitByJudge 7 (none) ∈ zt := zt_at 1163 (by decide +kernel)
theorem zvs_X5_hitByJudge : zvS yX5_hitByJudge cX5_hitByJudge 7 (none) 4 := ⟨zl_487, zl_457, ⟨by decide +kernel, by decide +kernel, by decide +kernel⟩, by decide⟩
theorem zl_488 : Cond.methodLink RX5 110 yX5_hitByJudge ∈ zt := zt_at 1160 (by decide +kernel)
theorem zl_489 : Cond.instanceMethod yX5_hitByJudge ∈ zt := zt_at 1162 (by decide +kernel)
theorem zl_490 : Cond.selects RX5 yX5_hitByJudge yX5_hitByJudge ∈ zt := zt_at 41 (by decide +kernel)
theorem dX5_hitByWords_0 : decode cX5_hitByWords 0 = .ok (.iload 4, 2) := by decide +kernel
theorem dX5_hitByWords_2 : decode cX5_hitByWords 2 = .ok (.invokestatic 71, 3) := by decide +kernel
theorem dX5_hitByWords_5 : decode cX5_hitByWords 5 = .ok (.istore 5, 2) := by decide +kernel
theorem dX5_hitByWords_7 : decode cX5_hitByWords 7 = .ok (.aload_n 1, 1) := by decide +kernel
theorem dX5_hitByWords_8 : decode cX5_hitByWords 8 = .ok (.iload_n 3, 1) := by decide +kernel
theorem dX5_hitByWords_9 : decode cX5_hitByWords 9 = .ok (.invokevirtual 40, 3) := by decide +kernel
theorem dX5_hitByWords_12 : decode cX5_hitByWords 12 = .ok (.istore 6, 2) := by decide +kernel
theorem dX5_hitByWords_14 : decode cX5_hitByWords 14 = .ok (.iload 6, 2) := by decide +kernel
theorem dX5_hitByWords_16 : decode cX5_hitByWords 16 = .ok (.iconst 1, 1) := by decide +kernel
theorem dX5_hitByWords_17 : decode cX5_hitByWords 17 = .ok (.if_icmp .ne 7, 3) := by decide +kernel
theorem dX5_hitByWords_20 : decode cX5_hitByWords 20 = .ok (.iconst 2, 1) := by decide +kernel
theorem dX5_hitByWords_21 : decode cX5_hitByWords 21 = .ok (.goto 4, 3) := by decide +kernel
theorem dX5_hitByWords_24 : decode cX5_hitByWords 24 = .ok (.iconst 1, 1) := by decide +kernel
theorem dX5_hitByWords_25 : decode cX5_hitByWords 25 = .ok (.istore 7, 2) := by decide +kernel
theorem dX5_hitByWords_27 : decode cX5_hitByWords 27 = .ok (.aload_n 1, 1) := by decide +kernel
theorem dX5_hitByWords_28 : decode cX5_hitByWords 28 = .ok (.iload 7, 2) := by decide +kernel
theorem dX5_hitByWords_30 : decode cX5_hitByWords 30 = .ok (.iload_n 3, 1) := by decide +kernel
theorem dX5_hitByWords_31 : decode cX5_hitByWords 31 = .ok (.invokevirtual 36, 3) := by decide +kernel
theorem dX5_hitByWords_34 : decode cX5_hitByWords 34 = .ok (.istore 8, 2) := by decide +kernel
theorem dX5_hitByWords_36 : decode cX5_hitByWords 36 = .ok (.aload_n 1, 1) := by decide +kernel
theorem dX5_hitByWords_37 : decode cX5_hitByWords 37 = .ok (.iload 6, 2) := by decide +kernel
theorem dX5_hitByWords_39 : decode cX5_hitByWords 39 = .ok (.iload_n 3, 1) := by decide +kernel
theorem dX5_hitByWords_40 : decode cX5_hitByWords 40 = .ok (.invokevirtual 36, 3) := by decide +kernel
theorem dX5_hitByWords_43 : decode cX5_hitByWords 43 = .ok (.istore 9, 2) := by decide +kernel
theorem dX5_hitByWords_45 : decode cX5_hitByWords 45 = .ok (.aload_n 0, 1) := by decide +kernel
theorem dX5_hitByWords_46 : decode cX5_hitByWords 46 = .ok (.aload_n 1, 1) := by decide +kernel
theorem dX5_hitByWords_47 : decode cX5_hitByWords 47 = .ok (.iload 4, 2) := by decide +kernel
theorem dX5_hitByWords_49 : decode cX5_hitByWords 49 = .ok (.invokevirtual 102, 3) := by decide +kernel
theorem dX5_hitByWords_52 : decode cX5_hitByWords 52 = .ok (.iconst 0, 1) := by decide +kernel
theorem dX5_hitByWords_53 : decode cX5_hitByWords 53 = .ok (.istore 10, 2) := by decide +kernel
theorem dX5_hitByWords_55 : decode cX5_hitByWords 55 = .ok (.iload 10, 2) := by decide +kernel
theorem dX5_hitByWords_57 : decode cX5_hitByWords 57 = .ok (.aload_n 1, 1) := by decide +kernel
theorem dX5_hitByWords_58 : decode cX5_hitByWords 58 = .ok (.getfield 76, 3) := by decide +kernel
theorem dX5_hitByWords_61 : decode cX5_hitByWords 61 = .ok (.if_icmp .gt 101, 3) := by decide +kernel
theorem dX5_hitByWords_64 : decode cX5_hitByWords 64 = .ok (.iload 5, 2) := by decide +kernel
theorem dX5_hitByWords_66 : decode cX5_hitByWords 66 = .ok (.ifCond .le 96, 3) := by decide +kernel
theorem dX5_hitByWords_69 : decode cX5_hitByWords 69 = .ok (.iload_n 3, 1) := by decide +kernel
theorem dX5_hitByWords_70 : decode cX5_hitByWords 70 = .ok (.aload_n 1, 1) := by decide +kernel
theorem dX5_hitByWords_71 : decode cX5_hitByWords 71 = .ok (.iload_n 2, 1) := by decide +kernel
theorem dX5_hitByWords_72 : decode cX5_hitByWords 72 = .ok (.iload 10, 2) := by decide +kernel
theorem dX5_hitByWords_74 : decode cX5_hitByWords 74 = .ok (.iconst 0, 1) := by decide +kernel
theorem dX5_hitByWords_75 : decode cX5_hitByWords 75 = .ok (.invokevirtual 30, 3) := by decide +kernel
theorem dX5_hitByWords_78 : decode cX5_hitByWords 78 = .ok (.iadd, 1) := by decide +kernel
theorem dX5_hitByWords_79 : decode cX5_hitByWords 79 = .ok (.istore 11, 2) := by decide +kernel
theorem dX5_hitByWords_81 : decode cX5_hitByWords 81 = .ok (.iload 8, 2) := by decide +kernel
theorem dX5_hitByWords_83 : decode cX5_hitByWords 83 = .ok (.ifCond .eq 7, 3) := by decide +kernel
theorem dX5_hitByWords_86 : decode cX5_hitByWords 86 = .ok (.iconst (-1), 1) := by decide +kernel
theorem dX5_hitByWords_87 : decode cX5_hitByWords 87 = .ok (.goto 14, 3) := by decide +kernel
theorem dX5_hitByWords_90 : decode cX5_hitByWords 90 = .ok (.iload_n 3, 1) := by decide +kernel
theorem dX5_hitByWords_91 : decode cX5_hitByWords 91 = .ok (.aload_n 1, 1) := by decide +kernel
theorem dX5_hitByWords_92 : decode cX5_hitByWords 92 = .ok (.iload_n 2, 1) := by decide +kernel
theorem dX5_hitByWords_93 : decode cX5_hitByWords 93 = .ok (.iload 10, 2) := by decide +kernel
theorem dX5_hitByWords_95 : decode cX5_hitByWords 95 = .ok (.iload 7, 2) := by decide +kernel
theorem dX5_hitByWords_97 : decode cX5_hitByWords 97 = .ok (.invokevirtual 30, 3) := by decide +kernel
theorem dX5_hitByWords_100 : decode cX5_hitByWords 100 = .ok (.iadd, 1) := by decide +kernel
theorem dX5_hitByWords_101 : decode cX5_hitByWords 101 = .ok (.istore 12, 2) := by decide +kernel
theorem dX5_hitByWords_103 : decode cX5_hitByWords 103 = .ok (.aload_n 0, 1) := by decide +kernel
theorem dX5_hitByWords_104 : decode cX5_hitByWords 104 = .ok (.iload 10, 2) := by decide +kernel
theorem dX5_hitByWords_106 : decode cX5_hitByWords 106 = .ok (.iload 11, 2) := by decide +kernel
theorem dX5_hitByWords_108 : decode cX5_hitByWords 108 = .ok (.iload 5, 2) := by decide +kernel
theorem dX5_hitByWords_110 : decode cX5_hitByWords 110 = .ok (.invokevirtual 106, 3) := by decide +kernel
theorem dX5_hitByWords_113 : decode cX5_hitByWords 113 = .ok (.iload 12, 2) := by decide +kernel
theorem dX5_hitByWords_115 : decode cX5_hitByWords 115 = .ok (.iload 11, 2) := by decide +kernel
theorem dX5_hitByWords_117 : decode cX5_hitByWords 117 = .ok (.if_icmp .eq 13, 3) := by decide +kernel
theorem dX5_hitByWords_120 : decode cX5_hitByWords 120 = .ok (.aload_n 0, 1) := by decide +kernel
theorem dX5_hitByWords_121 : decode cX5_hitByWords 121 = .ok (.iload 10, 2) := by decide +kernel
theorem dX5_hitByWords_123 : decode cX5_hitByWords 123 = .ok (.iload 12, 2) := by decide +kernel
theorem dX5_hitByWords_125 : decode cX5_hitByWords 125 = .ok (.iload 5, 2) := by decide +kernel
theorem dX5_hitByWords_127 : decode cX5_hitByWords 127 = .ok (.invokevirtual 106, 3) := by decide +kernel
theorem dX5_hitByWords_130 : decode cX5_hitByWords 130 = .ok (.iload 9, 2) := by decide +kernel
theorem dX5_hitByWords_132 : decode cX5_hitByWords 132 = .ok (.ifCond .ne 24, 3) := by decide +kernel
theorem dX5_hitByWords_135 : decode cX5_hitByWords 135 = .ok (.aload_n 0, 1) := by decide +kernel
theorem dX5_hitByWords_136 : decode cX5_hitByWords 136 = .ok (.iload 10, 2) := by decide +kernel
theorem dX5_hitByWords_138 : decode cX5_hitByWords 138 = .ok (.iload_n 3, 1) := by decide +kernel
theorem dX5_hitByWords_139 : decode cX5_hitByWords 139 = .ok (.aload_n 1, 1) := by decide +kernel
theorem dX5_hitByWords_140 : decode cX5_hitByWords 140 = .ok (.iload_n 2, 1) := by decide +kernel
theorem dX5_hitByWords_141 : decode cX5_hitByWords 141 = .ok (.iload 10, 2) := by decide +kernel
theorem dX5_hitByWords_143 : decode cX5_hitByWords 143 = .ok (.iload 6, 2) := by decide +kernel
theorem dX5_hitByWords_145 : decode cX5_hitByWords 145 = .ok (.invokevirtual 30, 3) := by decide +kernel
theorem dX5_hitByWords_148 : decode cX5_hitByWords 148 = .ok (.iadd, 1) := by decide +kernel
theorem dX5_hitByWords_149 : decode cX5_hitByWords 149 = .ok (.iload 11, 2) := by decide +kernel
theorem dX5_hitByWords_151 : decode cX5_hitByWords 151 = .ok (.iload 12, 2) := by decide +kernel
theorem dX5_hitByWords_153 : decode cX5_hitByWords 153 = .ok (.invokevirtual 110, 3) := by decide +kernel
theorem dX5_hitByWords_156 : decode cX5_hitByWords 156 = .ok (.iinc 10 1, 3) := by decide +kernel
theorem dX5_hitByWords_159 : decode cX5_hitByWords 159 = .ok (.goto (-104), 3) := by decide +kernel
theorem dX5_hitByWords_162 : decode cX5_hitByWords 162 = .ok (.return_, 1) := by decide +kernel
noncomputable def fX5_hitByWords_l55 (x1 : Nat) (v2 : Int32) (x2 : Int32) (v8 : Int32) (s5 : Int32) (x3 : Int32) (x0 : Nat) (v10 : Int32) (v4 : Int32) (F15 : Int32 → zM → Option (zM)) (x10_13 : Int32) (m14 : zM) : Option (zM) :=
  zb1 (zm_gI m14 9 x1 0) fun v19 =>
  if v19 < x10_13 then (
  some m14)
  else (
  if v2 ≤ 0 then (
  some m14)
  else (
  zb1 (fX9_way m14 x1 x2 x10_13 0) fun v22 =>
  zb1 (if v8 = 0 then (
  zb1 (fX9_way m14 x1 x2 x10_13 s5) fun v38 =>
  some (x3 + v38))
  else (
  some (-1)) : Option (Int32)) fun (s23 : Int32) =>
  zb1 (fX5_hit m14 x0 x10_13 (x3 + v22) v2) fun m26 =>
  zc1 (if s23 = (x3 + v22) then (
  some m26)
  else (
  zb1 (fX5_hit m26 x0 x10_13 s23 v2) fun m36 =>
  some m36) : Option (zM)) fun (m27 : zM) =>
  zc1 (if v10 = 0 then (
  zb1 (fX9_way m27 x1 x2 x10_13 v4) fun v32 =>
  zb1 (fX5_hitByJudge m27 x0 x10_13 (x3 + v32) (x3 + v22) s23) fun m34 =>
  some m34)
  else (
  some m27) : Option (zM)) fun (m29 : zM) =>
  F15 (x10_13 + 1) m29))
noncomputable def fX5_hitByWords (μ : zM) (x0 : Nat) (x1 : Nat) (x2 : Int32) (x3 : Int32) (x4 : Int32) : Option (zM) := zgd (zm_ck μ 5 x0) <|
  zb1 (fJ6_bitCount_0f7a4 μ x4) fun v2 =>
  zb1 (fX9_judge μ x1 x3) fun v4 =>
  zb1 (if v4 = 1 then (
  some 2)
  else (
  some 1) : Option (Int32)) fun (s5 : Int32) =>
  zb1 (fX9_isMute μ x1 s5 x3) fun v8 =>
  zb1 (fX9_isMute μ x1 v4 x3) fun v10 =>
  zb1 (fX5_countByThought μ x0 x1 x4) fun m12 =>
  zb1 (zf2 (fX5_hitByWords_l55 x1 v2 x2 v8 s5 x3 x0 v10 v4) zfu 0 m12 : Option (zM)) fun (m17 : zM) =>
  some m17
theorem fX5_hitByWords_ck {μ : zM} {x0 : Nat} {x1 : Nat} {x2 : Int32} {x3 : Int32} {x4 : Int32} {z : zM} (h : fX5_hitByWords μ x0 x1 x2 x3 x4 = some z) : zm_ck μ 5 x0 = true := (zgd_s h).1
set_option maxHeartbeats 4000000 in
set_option maxRecDepth 100000 in
theorem cX5_hitByWords_ok {μ : zM} {x0 : Nat} {x1 : Nat} {x2 : Int32} {x3 : Int32} {x4 : Int32} {mo : zM} (hf : fX5_hitByWords μ x0 x1 x2 x3 x4 = some mo) : zC yX5_hitByWords cX5_hitByWords 13 (none) 3 0 0 [.ref x0, .ref x1, .int x2, .int x3, .int x4] μ (none) mo := by
  replace hf := (zgd_s hf).2
  refine zC.of (by decide) (Nat.le_of_ble_eq_true rfl) (fun K hin => ?_)
  clear hin
  show zz K cX5_hitByWords (13, RX5, none, 3, 0, 0, none, mo) 0 0 0 [(0, .ref x0), (1, .ref x1), (2, .int x2), (3, .int x3), (4, .int x4)] [] μ
  refine zr_iload 4 dX5_hitByWords_0 rfl ?_
  replace hf := zb1_s hf
  obtain ⟨v2, h1, hf⟩ := hf
  refine zr_callS [.int x4] (cJ6_bitCount_0f7a4_ok h1) zvs_J6_bitCount_0f7a4 zl_67 zl_468 rfl (Nat.le_of_ble_eq_true rfl) (Nat.le_of_ble_eq_true rfl) (Nat.le_of_ble_eq_true rfl) (Nat.le_of_ble_eq_true rfl) dX5_hitByWords_2 rfl ?_
  refine zr_istore [(5, .int v2), (0, .ref x0), (1, .ref x1), (2, .int x2), (3, .int x3), (4, .int x4)] dX5_hitByWords_5 (Nat.le_of_ble_eq_true rfl) rfl ?_
  refine zr_aload_n 2 dX5_hitByWords_7 rfl ?_
  refine zr_iload_n 4 dX5_hitByWords_8 rfl ?_
  replace hf := zb1_s hf
  obtain ⟨v4, h3, hf⟩ := hf
  refine zr_callV (ci := 9) [.int x3] (cX9_judge_ok h3) zvs_X9_judge zl_36 zl_37 (fX9_judge_ck h3) rfl rfl zl_454 rfl (Nat.le_of_ble_eq_true rfl) (Nat.le_of_ble_eq_true rfl) (Nat.le_of_ble_eq_true rfl) (Nat.le_of_ble_eq_true rfl) dX5_hitByWords_9 rfl ?_
  refine zr_istore [(6, .int v4), (5, .int v2), (0, .ref x0), (1, .ref x1), (2, .int x2), (3, .int x3), (4, .int x4)] dX5_hitByWords_12 (Nat.le_of_ble_eq_true rfl) rfl ?_
  refine zr_iload 0 dX5_hitByWords_14 rfl ?_
  refine zr_iconst 1 dX5_hitByWords_16 (by decide) ?_
  replace hf := zb1_s hf
  obtain ⟨s5, hg, hf⟩ := hf
  have hj6 : zz K cX5_hitByWords (13, RX5, none, 3, 0, 0, none, mo) 0 0 25 [(0, .ref x0), (1, .ref x1), (2, .int x2), (3, .int x3), (4, .int x4), (5, .int v2), (6, .int v4)] [.int s5] μ := by
    refine zr_istore [(7, .int s5), (0, .ref x0), (1, .ref x1), (2, .int x2), (3, .int x3), (4, .int x4), (5, .int v2), (6, .int v4)] dX5_hitByWords_25 (Nat.le_of_ble_eq_true rfl) rfl ?_
    refine zr_aload_n 2 dX5_hitByWords_27 rfl ?_
    refine zr_iload 0 dX5_hitByWords_28 rfl ?_
    refine zr_iload_n 4 dX5_hitByWords_30 rfl ?_
    replace hf := zb1_s hf
    obtain ⟨v8, h7, hf⟩ := hf
    refine zr_callV (ci := 9) [.int s5, .int x3] (cX9_isMute_ok h7) zvs_X9_isMute zl_16 zl_17 (fX9_isMute_ck h7) rfl rfl zl_453 rfl (Nat.le_of_ble_eq_true rfl) (Nat.le_of_ble_eq_true rfl) (Nat.le_of_ble_eq_true rfl) (Nat.le_of_ble_eq_true rfl) dX5_hitByWords_31 rfl ?_
    refine zr_istore [(8, .int v8), (7, .int s5), (0, .ref x0), (1, .ref x1), (2, .int x2), (3, .int x3), (4, .int x4), (5, .int v2), (6, .int v4)] dX5_hitByWords_34 (Nat.le_of_ble_eq_true rfl) rfl ?_
    refine zr_aload_n 3 dX5_hitByWords_36 rfl ?_
    refine zr_iload 8 dX5_hitByWords_37 rfl ?_
    refine zr_iload_n 5 dX5_hitByWords_39 rfl ?_
    replace hf := zb1_s hf
    obtain ⟨v10, h9, hf⟩ := hf
    refine zr_callV (ci := 9) [.int v4, .int x3] (cX9_isMute_ok h9) zvs_X9_isMute zl_16 zl_17 (fX9_isMute_ck h9) rfl rfl zl_453 rfl (Nat.le_of_ble_eq_true rfl) (Nat.le_of_ble_eq_true rfl) (Nat.le_of_ble_eq_true rfl) (Nat.le_of_ble_eq_true rfl) dX5_hitByWords_40 rfl ?_
    refine zr_istore [(9, .int v10), (8, .int v8), (7, .int s5), (0, .ref x0), (1, .ref x1), (2, .int x2), (3, .int x3), (4, .int x4), (5, .int v2), (6, .int v4)] dX5_hitByWords_43 (Nat.le_of_ble_eq_true rfl) rfl ?_
    refine zr_aload_n 3 dX5_hitByWords_45 rfl ?_
    refine zr_aload_n 4 dX5_hitByWords_46 rfl ?_
    refine zr_iload 7 dX5_hitByWords_47 rfl ?_
    replace hf := zb1_s hf
    obtain ⟨m12, h11, hf⟩ := hf
    refine zr_callV (ci := 5) [.ref x1, .int x4] (cX5_countByThought_ok h11) zvs_X5_countByThought zl_485 zl_486 (fX5_countByThought_ck h11) rfl rfl zl_484 rfl (Nat.le_of_ble_eq_true rfl) (Nat.le_of_ble_eq_true rfl) (Nat.le_of_ble_eq_true rfl) (Nat.le_of_ble_eq_true rfl) dX5_hitByWords_49 rfl ?_
    refine zr_iconst 0 dX5_hitByWords_52 (by decide) ?_
    refine zr_istore [(10, .int 0), (9, .int v10), (8, .int v8), (7, .int s5), (0, .ref x0), (1, .ref x1), (2, .int x2), (3, .int x3), (4, .int x4), (5, .int v2), (6, .int v4)] dX5_hitByWords_53 (Nat.le_of_ble_eq_true rfl) rfl ?_
    replace hf := zb1_s hf
    obtain ⟨m17, hg, hf⟩ := hf
    have hj18 : zz K cX5_hitByWords (13, RX5, none, 3, 0, 0, none, mo) 0 0 162 [] [] m17 := by
      cases hf
      exact zr_vret dX5_hitByWords_162
    clear hf
    have hf := hg
    clear hg
    have hL39 : ∀ (n : Nat) (x10_13 : Int32) (m14 : zM), zf2 (fX5_hitByWords_l55 x1 v2 x2 v8 s5 x3 x0 v10 v4) n x10_13 m14 = some m17 → zz K cX5_hitByWords (13, RX5, none, 3, 0, 0, none, mo) 0 0 55 [(0, .ref x0), (1, .ref x1), (2, .int x2), (3, .int x3), (5, .int v2), (6, .int v4), (7, .int s5), (8, .int v8), (9, .int v10), (10, .int x10_13)] [] m14 := by
      intro n
      induction n with
      | zero => intro x10_13 m14 hf; cases hf
      | succ n ih16 =>
        intro x10_13 m14 hf
        replace hf := zf2_s hf
        generalize zf2 (fX5_hitByWords_l55 x1 v2 x2 v8 s5 x3 x0 v10 v4) n = F15 at hf ih16
        unfold fX5_hitByWords_l55 at hf
        refine zr_iload 9 dX5_hitByWords_55 rfl ?_
        refine zr_aload_n 1 dX5_hitByWords_57 rfl ?_
        replace hf := zb1_s hf
        obtain ⟨v19, h20, hf⟩ := hf
        refine zr_get (zm_gI_g h20) zk9 (by decide) zl_469 dX5_hitByWords_58 ?_
        refine zr_icmp_gt 162 dX5_hitByWords_61 (by decide) (fun hc => ?_) (fun hc => ?_)
        · rw [if_pos hc] at hf
          cases hf
          exact zr_lv [] rfl hj18
        · rw [if_neg hc] at hf
          refine zr_iload 4 dX5_hitByWords_64 rfl ?_
          refine zr_if_le 162 dX5_hitByWords_66 (by decide) (fun hc => ?_) (fun hc => ?_)
          · rw [if_pos hc] at hf
            cases hf
            exact zr_lv [] rfl hj18
          · rw [if_neg hc] at hf
            refine zr_iload_n 3 dX5_hitByWords_69 rfl ?_
            refine zr_aload_n 1 dX5_hitByWords_70 rfl ?_
            refine zr_iload_n 2 dX5_hitByWords_71 rfl ?_
            refine zr_iload 9 dX5_hitByWords_72 rfl ?_
            refine zr_iconst 0 dX5_hitByWords_74 (by decide) ?_
            replace hf := zb1_s hf
            obtain ⟨v22, h21, hf⟩ := hf
            refine zr_callV (ci := 9) [.int x2, .int x10_13, .int 0] (cX9_way_ok h21) zvs_X9_way zl_20 zl_21 (fX9_way_ck h21) rfl rfl zl_452 rfl (Nat.le_of_ble_eq_true rfl) (Nat.le_of_ble_eq_true rfl) (Nat.le_of_ble_eq_true rfl) (Nat.le_of_ble_eq_true rfl) dX5_hitByWords_75 rfl ?_
            refine zr_iadd dX5_hitByWords_78 ?_
            refine zr_istore [(11, .int (x3 + v22)), (0, .ref x0), (1, .ref x1), (2, .int x2), (3, .int x3), (5, .int v2), (6, .int v4), (7, .int s5), (8, .int v8), (9, .int v10), (10, .int x10_13)] dX5_hitByWords_79 (Nat.le_of_ble_eq_true rfl) rfl ?_
            refine zr_iload 8 dX5_hitByWords_81 rfl ?_
            replace hf := zb1_s hf
            obtain ⟨s23, hg, hf⟩ := hf
            have hj24 : zz K cX5_hitByWords (13, RX5, none, 3, 0, 0, none, mo) 0 0 101 [(0, .ref x0), (1, .ref x1), (2, .int x2), (3, .int x3), (5, .int v2), (6, .int v4), (7, .int s5), (8, .int v8), (9, .int v10), (10, .int x10_13), (11, .int (x3 + v22))] [.int s23] m14 := by
              refine zr_istore [(12, .int s23), (0, .ref x0), (1, .ref x1), (2, .int x2), (3, .int x3), (5, .int v2), (6, .int v4), (7, .int s5), (8, .int v8), (9, .int v10), (10, .int x10_13), (11, .int (x3 + v22))] dX5_hitByWords_101 (Nat.le_of_ble_eq_true rfl) rfl ?_
              refine zr_aload_n 1 dX5_hitByWords_103 rfl ?_
              refine zr_iload 10 dX5_hitByWords_104 rfl ?_
              refine zr_iload 11 dX5_hitByWords_106 rfl ?_
              refine zr_iload 5 dX5_hitByWords_108 rfl ?_
              replace hf := zb1_s hf
              obtain ⟨m26, h25, hf⟩ := hf
              refine zr_callV (ci := 5) [.int x10_13, .int (x3 + v22), .int v2] (cX5_hit_ok h25) zvs_X5_hit zl_481 zl_482 (fX5_hit_ck h25) rfl rfl zl_480 rfl (Nat.le_of_ble_eq_true rfl) (Nat.le_of_ble_eq_true rfl) (Nat.le_of_ble_eq_true rfl) (Nat.le_of_ble_eq_true rfl) dX5_hitByWords_110 rfl ?_
              refine zr_iload 0 dX5_hitByWords_113 rfl ?_
              refine zr_iload 11 dX5_hitByWords_115 rfl ?_
              replace hf := zc1_s hf
              obtain ⟨m27, hg, hf⟩ := hf
              have hj28 : zz K cX5_hitByWords (13, RX5, none, 3, 0, 0, none, mo) 0 0 130 [(0, .ref x0), (1, .ref x1), (2, .int x2), (3, .int x3), (5, .int v2), (6, .int v4), (7, .int s5), (8, .int v8), (9, .int v10), (10, .int x10_13), (11, .int (x3 + v22)), (12, .int s23)] [] m27 := by
                refine zr_iload 8 dX5_hitByWords_130 rfl ?_
                replace hf := zc1_s hf
                obtain ⟨m29, hg, hf⟩ := hf
                have hj30 : zz K cX5_hitByWords (13, RX5, none, 3, 0, 0, none, mo) 0 0 156 [(0, .ref x0), (1, .ref x1), (2, .int x2), (3, .int x3), (5, .int v2), (6, .int v4), (7, .int s5), (8, .int v8), (9, .int v10), (10, .int x10_13)] [] m29 := by
                  refine zr_iinc (j := 9) (x10_13 + 1) [(10, .int (x10_13 + 1)), (0, .ref x0), (1, .ref x1), (2, .int x2), (3, .int x3), (5, .int v2), (6, .int v4), (7, .int s5), (8, .int v8), (9, .int v10)] dX5_hitByWords_156 rfl rfl (Nat.le_of_ble_eq_true rfl) rfl ?_
                  refine zr_goto 55 dX5_hitByWords_159 (by decide) ?_
                  exact zr_lv [1, 2, 3, 4, 5, 6, 7, 8, 9, 0] rfl (ih16 (x10_13 + 1) m29 hf)
                clear hf
                have hf := hg
                clear hg
                refine zr_if_ne 156 dX5_hitByWords_132 (by decide) (fun hc => ?_) (fun hc => ?_)
                · rw [if_neg hc] at hf
                  cases hf
                  exact zr_lv [0, 1, 2, 3, 4, 5, 6, 7, 8, 9] rfl hj30
                · rw [if_pos hc] at hf
                  refine zr_aload_n 0 dX5_hitByWords_135 rfl ?_
                  refine zr_iload 9 dX5_hitByWords_136 rfl ?_
                  refine zr_iload_n 3 dX5_hitByWords_138 rfl ?_
                  refine zr_aload_n 1 dX5_hitByWords_139 rfl ?_
                  refine zr_iload_n 2 dX5_hitByWords_140 rfl ?_
                  refine zr_iload 9 dX5_hitByWords_141 rfl ?_
                  refine zr_iload 5 dX5_hitByWords_143 rfl ?_
                  replace hf := zb1_s hf
                  obtain ⟨v32, h31, hf⟩ := hf
                  refine zr_callV (ci := 9) [.int x2, .int x10_13, .int v4] (cX9_way_ok h31) zvs_X9_way zl_20 zl_21 (fX9_way_ck h31) rfl rfl zl_452 rfl (Nat.le_of_ble_eq_true rfl) (Nat.le_of_ble_eq_true rfl) (Nat.le_of_ble_eq_true rfl) (Nat.le_of_ble_eq_true rfl) dX5_hitByWords_145 rfl ?_
                  refine zr_iadd dX5_hitByWords_148 ?_
                  refine zr_iload 10 dX5_hitByWords_149 rfl ?_
                  refine zr_iload 11 dX5_hitByWords_151 rfl ?_
                  replace hf := zb1_s hf
                  obtain ⟨m34, h33, hf⟩ := hf
                  refine zr_callV (ci := 5) [.int x10_13, .int (x3 + v32), .int (x3 + v22), .int s23] (cX5_hitByJudge_ok h33) zvs_X5_hitByJudge zl_489 zl_490 (fX5_hitByJudge_ck h33) rfl rfl zl_488 rfl (Nat.le_of_ble_eq_true rfl) (Nat.le_of_ble_eq_true rfl) (Nat.le_of_ble_eq_true rfl) (Nat.le_of_ble_eq_true rfl) dX5_hitByWords_153 rfl ?_
                  cases hf
                  exact zr_lv [0, 1, 2, 3, 4, 5, 6, 7, 8, 9] rfl hj30
              clear hf
              have hf := hg
              clear hg
              refine zr_icmp_eq 130 dX5_hitByWords_117 (by decide) (fun hc => ?_) (fun hc => ?_)
              · rw [if_pos hc] at hf
                cases hf
                exact zr_lv [1, 2, 3, 4, 5, 6, 7, 8, 9, 10, 11, 0] rfl hj28
              · rw [if_neg hc] at hf
                refine zr_aload_n 1 dX5_hitByWords_120 rfl ?_
                refine zr_iload 10 dX5_hitByWords_121 rfl ?_
                refine zr_iload 0 dX5_hitByWords_123 rfl ?_
                refine zr_iload 5 dX5_hitByWords_125 rfl ?_
                replace hf := zb1_s hf
                obtain ⟨m36, h35, hf⟩ := hf
                refine zr_callV (ci := 5) [.int x10_13, .int s23, .int v2] (cX5_hit_ok h35) zvs_X5_hit zl_481 zl_482 (fX5_hit_ck h35) rfl rfl zl_480 rfl (Nat.le_of_ble_eq_true rfl) (Nat.le_of_ble_eq_true rfl) (Nat.le_of_ble_eq_true rfl) (Nat.le_of_ble_eq_true rfl) dX5_hitByWords_127 rfl ?_
                cases hf
                exact zr_lv [1, 2, 3, 4, 5, 6, 7, 8, 9, 10, 11, 0] rfl hj28
            clear hf
            have hf := hg
            clear hg
            refine zr_if_eq 90 dX5_hitByWords_83 (by decide) (fun hc => ?_) (fun hc => ?_)
            · rw [if_pos hc] at hf
              refine zr_iload_n 4 dX5_hitByWords_90 rfl ?_
              refine zr_aload_n 2 dX5_hitByWords_91 rfl ?_
              refine zr_iload_n 3 dX5_hitByWords_92 rfl ?_
              refine zr_iload 10 dX5_hitByWords_93 rfl ?_
              refine zr_iload 7 dX5_hitByWords_95 rfl ?_
              replace hf := zb1_s hf
              obtain ⟨v38, h37, hf⟩ := hf
              refine zr_callV (ci := 9) [.int x2, .int x10_13, .int s5] (cX9_way_ok h37) zvs_X9_way zl_20 zl_21 (fX9_way_ck h37) rfl rfl zl_452 rfl (Nat.le_of_ble_eq_true rfl) (Nat.le_of_ble_eq_true rfl) (Nat.le_of_ble_eq_true rfl) (Nat.le_of_ble_eq_true rfl) dX5_hitByWords_97 rfl ?_
              refine zr_iadd dX5_hitByWords_100 ?_
              cases hf
              exact zr_lv [1, 2, 3, 4, 5, 6, 7, 8, 9, 10, 0] rfl hj24
            · rw [if_neg hc] at hf
              refine zr_iconst (-1) dX5_hitByWords_86 (by decide) ?_
              refine zr_goto 101 dX5_hitByWords_87 (by decide) ?_
              cases hf
              exact zr_lv [1, 2, 3, 4, 5, 6, 7, 8, 9, 10, 0] rfl hj24
    exact zr_lv [4, 5, 6, 7, 9, 10, 3, 2, 1, 0] rfl (hL39 _ 0 m12 hf)
  clear hf
  have hf := hg
  clear hg
  refine zr_icmp_ne 24 dX5_hitByWords_17 (by decide) (fun hc => ?_) (fun hc => ?_)
  · rw [if_neg hc] at hf
    refine zr_iconst 1 dX5_hitByWords_24 (by decide) ?_
    cases hf
    exact zr_lv [2, 3, 4, 5, 6, 1, 0] rfl hj6
  · rw [if_pos hc] at hf
    refine zr_iconst 2 dX5_hitByWords_20 (by decide) ?_
    refine zr_goto 25 dX5_hitByWords_21 (by decide) ?_
    cases hf
    exact zr_lv [2, 3, 4, 5, 6, 1, 0] rfl hj6
theorem zl_491 : Cond.code yX5_hitByWords cX5_hitByWords 13 (none) ∈ zt := zt_at 1149 (by decide +kernel)
theorem zvs_X5_hitByWords : zvS yX5_hitByWords cX5_hitByWords 13 (none) 4 := ⟨zl_491, zl_457, ⟨by decide +kernel, by decide +kernel, by decide +kernel⟩, by decide⟩
theorem zl_492 : Cond.methodLink RX5 93 yX5_hitByWords ∈ zt := zt_at 1146 (by decide +kernel)
theorem zl_493 : Cond.instanceMethod yX5_hitByWords ∈ zt := zt_at 1148 (by decide +kernel)
theorem zl_494 : Cond.selects RX5 yX5_hitByWords yX5_hitByWords ∈ zt := zt_at 38 (by decide +kernel)
theorem dX5_whereToListen_0 : decode cX5_whereToListen 0 = .ok (.aload_n 0, 1) := by decide +kernel
theorem dX5_whereToListen_1 : decode cX5_whereToListen 1 = .ok (.getfield 9, 3) := by decide +kernel
theorem dX5_whereToListen_4 : decode cX5_whereToListen 4 = .ok (.iconst 0, 1) := by decide +kernel
theorem dX5_whereToListen_5 : decode cX5_whereToListen 5 = .ok (.invokestatic 87, 3) := by decide +kernel
theorem dX5_whereToListen_8 : decode cX5_whereToListen 8 = .ok (.iconst 0, 1) := by decide +kernel
theorem dX5_whereToListen_9 : decode cX5_whereToListen 9 = .ok (.istore_n 3, 1) := by decide +kernel
theorem dX5_whereToListen_10 : decode cX5_whereToListen 10 = .ok (.iconst 0, 1) := by decide +kernel
theorem dX5_whereToListen_11 : decode cX5_whereToListen 11 = .ok (.istore 4, 2) := by decide +kernel
theorem dX5_whereToListen_13 : decode cX5_whereToListen 13 = .ok (.iload 4, 2) := by decide +kernel
theorem dX5_whereToListen_15 : decode cX5_whereToListen 15 = .ok (.aload_n 1, 1) := by decide +kernel
theorem dX5_whereToListen_16 : decode cX5_whereToListen 16 = .ok (.getfield 76, 3) := by decide +kernel
theorem dX5_whereToListen_19 : decode cX5_whereToListen 19 = .ok (.if_icmp .gt 55, 3) := by decide +kernel
theorem dX5_whereToListen_22 : decode cX5_whereToListen 22 = .ok (.iconst 0, 1) := by decide +kernel
theorem dX5_whereToListen_23 : decode cX5_whereToListen 23 = .ok (.istore 5, 2) := by decide +kernel
theorem dX5_whereToListen_25 : decode cX5_whereToListen 25 = .ok (.iload 5, 2) := by decide +kernel
theorem dX5_whereToListen_27 : decode cX5_whereToListen 27 = .ok (.bipush 100, 2) := by decide +kernel
theorem dX5_whereToListen_29 : decode cX5_whereToListen 29 = .ok (.if_icmp .ge 39, 3) := by decide +kernel
theorem dX5_whereToListen_32 : decode cX5_whereToListen 32 = .ok (.aload_n 1, 1) := by decide +kernel
theorem dX5_whereToListen_33 : decode cX5_whereToListen 33 = .ok (.aload_n 2, 1) := by decide +kernel
theorem dX5_whereToListen_34 : decode cX5_whereToListen 34 = .ok (.iload 4, 2) := by decide +kernel
theorem dX5_whereToListen_36 : decode cX5_whereToListen 36 = .ok (.iload 5, 2) := by decide +kernel
theorem dX5_whereToListen_38 : decode cX5_whereToListen 38 = .ok (.invokestatic 67, 3) := by decide +kernel
theorem dX5_whereToListen_41 : decode cX5_whereToListen 41 = .ok (.istore 6, 2) := by decide +kernel
theorem dX5_whereToListen_43 : decode cX5_whereToListen 43 = .ok (.iload_n 3, 1) := by decide +kernel
theorem dX5_whereToListen_44 : decode cX5_whereToListen 44 = .ok (.iload 6, 2) := by decide +kernel
theorem dX5_whereToListen_46 : decode cX5_whereToListen 46 = .ok (.invokestatic 71, 3) := by decide +kernel
theorem dX5_whereToListen_49 : decode cX5_whereToListen 49 = .ok (.iadd, 1) := by decide +kernel
theorem dX5_whereToListen_50 : decode cX5_whereToListen 50 = .ok (.istore_n 3, 1) := by decide +kernel
theorem dX5_whereToListen_51 : decode cX5_whereToListen 51 = .ok (.aload_n 0, 1) := by decide +kernel
theorem dX5_whereToListen_52 : decode cX5_whereToListen 52 = .ok (.aload_n 1, 1) := by decide +kernel
theorem dX5_whereToListen_53 : decode cX5_whereToListen 53 = .ok (.iload 4, 2) := by decide +kernel
theorem dX5_whereToListen_55 : decode cX5_whereToListen 55 = .ok (.iload 5, 2) := by decide +kernel
theorem dX5_whereToListen_57 : decode cX5_whereToListen 57 = .ok (.iload 6, 2) := by decide +kernel
theorem dX5_whereToListen_59 : decode cX5_whereToListen 59 = .ok (.invokevirtual 93, 3) := by decide +kernel
theorem dX5_whereToListen_62 : decode cX5_whereToListen 62 = .ok (.iinc 5 1, 3) := by decide +kernel
theorem dX5_whereToListen_65 : decode cX5_whereToListen 65 = .ok (.goto (-40), 3) := by decide +kernel
theorem dX5_whereToListen_68 : decode cX5_whereToListen 68 = .ok (.iinc 4 1, 3) := by decide +kernel
theorem dX5_whereToListen_71 : decode cX5_whereToListen 71 = .ok (.goto (-58), 3) := by decide +kernel
theorem dX5_whereToListen_74 : decode cX5_whereToListen 74 = .ok (.iconst (-1), 1) := by decide +kernel
theorem dX5_whereToListen_75 : decode cX5_whereToListen 75 = .ok (.istore 4, 2) := by decide +kernel
theorem dX5_whereToListen_77 : decode cX5_whereToListen 77 = .ok (.iload_n 3, 1) := by decide +kernel
theorem dX5_whereToListen_78 : decode cX5_whereToListen 78 = .ok (.istore 5, 2) := by decide +kernel
theorem dX5_whereToListen_80 : decode cX5_whereToListen 80 = .ok (.iconst 0, 1) := by decide +kernel
theorem dX5_whereToListen_81 : decode cX5_whereToListen 81 = .ok (.istore 6, 2) := by decide +kernel
theorem dX5_whereToListen_83 : decode cX5_whereToListen 83 = .ok (.iload 6, 2) := by decide +kernel
theorem dX5_whereToListen_85 : decode cX5_whereToListen 85 = .ok (.aload_n 1, 1) := by decide +kernel
theorem dX5_whereToListen_86 : decode cX5_whereToListen 86 = .ok (.getfield 76, 3) := by decide +kernel
theorem dX5_whereToListen_89 : decode cX5_whereToListen 89 = .ok (.iconst 1, 1) := by decide +kernel
theorem dX5_whereToListen_90 : decode cX5_whereToListen 90 = .ok (.iadd, 1) := by decide +kernel
theorem dX5_whereToListen_91 : decode cX5_whereToListen 91 = .ok (.bipush 100, 2) := by decide +kernel
theorem dX5_whereToListen_93 : decode cX5_whereToListen 93 = .ok (.imul, 1) := by decide +kernel
theorem dX5_whereToListen_94 : decode cX5_whereToListen 94 = .ok (.if_icmp .ge 55, 3) := by decide +kernel
theorem dX5_whereToListen_97 : decode cX5_whereToListen 97 = .ok (.iload_n 3, 1) := by decide +kernel
theorem dX5_whereToListen_98 : decode cX5_whereToListen 98 = .ok (.ifCond .le 51, 3) := by decide +kernel
theorem dX5_whereToListen_101 : decode cX5_whereToListen 101 = .ok (.aload_n 0, 1) := by decide +kernel
theorem dX5_whereToListen_102 : decode cX5_whereToListen 102 = .ok (.getfield 9, 3) := by decide +kernel
theorem dX5_whereToListen_105 : decode cX5_whereToListen 105 = .ok (.iload 6, 2) := by decide +kernel
theorem dX5_whereToListen_107 : decode cX5_whereToListen 107 = .ok (.iaload, 1) := by decide +kernel
theorem dX5_whereToListen_108 : decode cX5_whereToListen 108 = .ok (.iload_n 3, 1) := by decide +kernel
theorem dX5_whereToListen_109 : decode cX5_whereToListen 109 = .ok (.aload_n 0, 1) := by decide +kernel
theorem dX5_whereToListen_110 : decode cX5_whereToListen 110 = .ok (.getfield 9, 3) := by decide +kernel
theorem dX5_whereToListen_113 : decode cX5_whereToListen 113 = .ok (.iload 6, 2) := by decide +kernel
theorem dX5_whereToListen_115 : decode cX5_whereToListen 115 = .ok (.iaload, 1) := by decide +kernel
theorem dX5_whereToListen_116 : decode cX5_whereToListen 116 = .ok (.isub, 1) := by decide +kernel
theorem dX5_whereToListen_117 : decode cX5_whereToListen 117 = .ok (.invokestatic 97, 3) := by decide +kernel
theorem dX5_whereToListen_120 : decode cX5_whereToListen 120 = .ok (.istore 7, 2) := by decide +kernel
theorem dX5_whereToListen_122 : decode cX5_whereToListen 122 = .ok (.iload 4, 2) := by decide +kernel
theorem dX5_whereToListen_124 : decode cX5_whereToListen 124 = .ok (.iconst (-1), 1) := by decide +kernel
theorem dX5_whereToListen_125 : decode cX5_whereToListen 125 = .ok (.if_icmp .eq 10, 3) := by decide +kernel
theorem dX5_whereToListen_128 : decode cX5_whereToListen 128 = .ok (.iload 7, 2) := by decide +kernel
theorem dX5_whereToListen_130 : decode cX5_whereToListen 130 = .ok (.iload 5, 2) := by decide +kernel
theorem dX5_whereToListen_132 : decode cX5_whereToListen 132 = .ok (.if_icmp .ge 11, 3) := by decide +kernel
theorem dX5_whereToListen_135 : decode cX5_whereToListen 135 = .ok (.iload 7, 2) := by decide +kernel
theorem dX5_whereToListen_137 : decode cX5_whereToListen 137 = .ok (.istore 5, 2) := by decide +kernel
theorem dX5_whereToListen_139 : decode cX5_whereToListen 139 = .ok (.iload 6, 2) := by decide +kernel
theorem dX5_whereToListen_141 : decode cX5_whereToListen 141 = .ok (.istore 4, 2) := by decide +kernel
theorem dX5_whereToListen_143 : decode cX5_whereToListen 143 = .ok (.iinc 6 1, 3) := by decide +kernel
theorem dX5_whereToListen_146 : decode cX5_whereToListen 146 = .ok (.goto (-63), 3) := by decide +kernel
theorem dX5_whereToListen_149 : decode cX5_whereToListen 149 = .ok (.iload 4, 2) := by decide +kernel
theorem dX5_whereToListen_151 : decode cX5_whereToListen 151 = .ok (.ireturn, 1) := by decide +kernel
noncomputable def fX5_whereToListen_l25 (x1 : Nat) (x2 : Nat) (x4_6 : Int32) (x0 : Nat) (F18 : Int32 → Int32 → zM → Option (Int32 × zM)) (x3_15 : Int32) (x5_16 : Int32) (m17 : zM) : Option (Int32 × zM) :=
  if 100 ≤ x5_16 then (
  some (x3_15, m17))
  else (
  zb1 (fX5_wordsMaybe m17 x1 x2 x4_6 x5_16) fun v24 =>
  zb1 (fJ6_bitCount_0f7a4 m17 v24) fun v26 =>
  zb1 (fX5_hitByWords m17 x0 x1 x4_6 x5_16 v24) fun m28 =>
  F18 (x3_15 + v26) (x5_16 + 1) m28)
noncomputable def fX5_whereToListen_l13 (x1 : Nat) (x2 : Nat) (x0 : Nat) (F8 : Int32 → Int32 → zM → Option (Int32 × zM)) (x3_5 : Int32) (x4_6 : Int32) (m7 : zM) : Option (Int32 × zM) :=
  zb1 (zm_gI m7 9 x1 0) fun v13 =>
  if v13 < x4_6 then (
  some (x3_5, m7))
  else (
  zb2 (zf3 (fX5_whereToListen_l25 x1 x2 x4_6 x0) zfu x3_5 0 m7 : Option (Int32 × zM)) fun (x3_20 : Int32) (m21 : zM) =>
  F8 x3_20 (x4_6 + 1) m21)
noncomputable def fX5_whereToListen_l83 (m11 : zM) (x1 : Nat) (x3_10 : Int32) (x0 : Nat) (F34 : Int32 → Int32 → Int32 → Option (Int32)) (x4_31 : Int32) (x5_32 : Int32) (x6_33 : Int32) : Option (Int32) :=
  zb1 (zm_gI m11 9 x1 0) fun v38 =>
  if ((v38 + 1) * 100) ≤ x6_33 then (
  some x4_31)
  else (
  if x3_10 ≤ 0 then (
  some x4_31)
  else (
  zb1 (zm_gR m11 5 x0 0) fun v40 =>
  zb1 (zm_aI m11 0 v40 x6_33) fun v42 =>
  zb1 (zm_gR m11 5 x0 0) fun v44 =>
  zb1 (zm_aI m11 0 v44 x6_33) fun v46 =>
  zb2 (if x4_31 = (-1) then (
  some (x6_33, (if v42 < (x3_10 - v46) then (x3_10 - v46) else v42 : Int32)))
  else (
  if x5_32 ≤ (if v42 < (x3_10 - v46) then (x3_10 - v46) else v42 : Int32) then (
  some (x4_31, x5_32))
  else (
  some (x6_33, (if v42 < (x3_10 - v46) then (x3_10 - v46) else v42 : Int32)))) : Option (Int32 × Int32)) fun (x4_48 : Int32) (x5_49 : Int32) =>
  F34 x4_48 x5_49 (x6_33 + 1)))
noncomputable def fX5_whereToListen (μ : zM) (x0 : Nat) (x1 : Nat) (x2 : Nat) : Option (Int32 × zM) := zgd (zm_ck μ 5 x0) <|
  zb1 (zm_gR μ 5 x0 0) fun v1 =>
  zb1 (fJ7_fill_53178 μ v1 0) fun m4 =>
  zb2 (zf3 (fX5_whereToListen_l13 x1 x2 x0) zfu 0 0 m4 : Option (Int32 × zM)) fun (x3_10 : Int32) (m11 : zM) =>
  zb1 (zf3 (fX5_whereToListen_l83 m11 x1 x3_10 x0) zfu (-1) x3_10 0 : Option (Int32)) fun (x4_36 : Int32) =>
  some (x4_36, m11)
theorem fX5_whereToListen_ck {μ : zM} {x0 : Nat} {x1 : Nat} {x2 : Nat} {z : Int32 × zM} (h : fX5_whereToListen μ x0 x1 x2 = some z) : zm_ck μ 5 x0 = true := (zgd_s h).1
set_option maxHeartbeats 4000000 in
set_option maxRecDepth 100000 in
theorem cX5_whereToListen_ok {μ : zM} {x0 : Nat} {x1 : Nat} {x2 : Nat} {r : Int32} {mo : zM} (hf : fX5_whereToListen μ x0 x1 x2 = some (r, mo)) : zC yX5_whereToListen cX5_whereToListen 8 (some .int) 4 0 0 [.ref x0, .ref x1, .ref x2] μ (some (.int r)) mo := by
  replace hf := (zgd_s hf).2
  refine zC.of (by decide) (Nat.le_of_ble_eq_true rfl) (fun K hin => ?_)
  clear hin
  show zz K cX5_whereToListen (8, RX5, some .int, 4, 0, 0, some (.int r), mo) 0 0 0 [(0, .ref x0), (1, .ref x1), (2, .ref x2)] [] μ
  refine zr_aload_n 0 dX5_whereToListen_0 rfl ?_
  replace hf := zb1_s hf
  obtain ⟨v1, h2, hf⟩ := hf
  refine zr_get (zm_gR_g h2) zk5 (by decide) zl_445 dX5_whereToListen_1 ?_
  refine zr_iconst 0 dX5_whereToListen_4 (by decide) ?_
  replace hf := zb1_s hf
  obtain ⟨m4, h3, hf⟩ := hf
  refine zr_callS [.ref v1, .int 0] (cJ7_fill_53178_ok h3) zvs_J7_fill_53178 zl_49 zl_476 rfl (Nat.le_of_ble_eq_true rfl) (Nat.le_of_ble_eq_true rfl) (Nat.le_of_ble_eq_true rfl) (Nat.le_of_ble_eq_true rfl) dX5_whereToListen_5 rfl ?_
  refine zr_iconst 0 dX5_whereToListen_8 (by decide) ?_
  refine zr_istore_n [(3, .int 0), (0, .ref x0), (1, .ref x1), (2, .ref x2)] dX5_whereToListen_9 (Nat.le_of_ble_eq_true rfl) rfl ?_
  refine zr_iconst 0 dX5_whereToListen_10 (by decide) ?_
  refine zr_istore [(4, .int 0), (3, .int 0), (0, .ref x0), (1, .ref x1), (2, .ref x2)] dX5_whereToListen_11 (Nat.le_of_ble_eq_true rfl) rfl ?_
  replace hf := zb2_s hf
  obtain ⟨x3_10, m11, hg, hf⟩ := hf
  have hj12 : zz K cX5_whereToListen (8, RX5, some .int, 4, 0, 0, some (.int r), mo) 0 0 74 [(0, .ref x0), (1, .ref x1), (3, .int x3_10)] [] m11 := by
    refine zr_iconst (-1) dX5_whereToListen_74 (by decide) ?_
    refine zr_istore [(4, .int (-1)), (0, .ref x0), (1, .ref x1), (3, .int x3_10)] dX5_whereToListen_75 (Nat.le_of_ble_eq_true rfl) rfl ?_
    refine zr_iload_n 3 dX5_whereToListen_77 rfl ?_
    refine zr_istore [(5, .int x3_10), (4, .int (-1)), (0, .ref x0), (1, .ref x1), (3, .int x3_10)] dX5_whereToListen_78 (Nat.le_of_ble_eq_true rfl) rfl ?_
    refine zr_iconst 0 dX5_whereToListen_80 (by decide) ?_
    refine zr_istore [(6, .int 0), (5, .int x3_10), (4, .int (-1)), (0, .ref x0), (1, .ref x1), (3, .int x3_10)] dX5_whereToListen_81 (Nat.le_of_ble_eq_true rfl) rfl ?_
    replace hf := zb1_s hf
    obtain ⟨x4_36, hg, hf⟩ := hf
    have hj37 : zz K cX5_whereToListen (8, RX5, some .int, 4, 0, 0, some (.int r), mo) 0 0 149 [(4, .int x4_36)] [] m11 := by
      refine zr_iload 0 dX5_whereToListen_149 rfl ?_
      cases hf
      exact zr_iret dX5_whereToListen_151
    clear hf
    have hf := hg
    clear hg
    have hL51 : ∀ (n : Nat) (x4_31 : Int32) (x5_32 : Int32) (x6_33 : Int32), zf3 (fX5_whereToListen_l83 m11 x1 x3_10 x0) n x4_31 x5_32 x6_33 = some x4_36 → zz K cX5_whereToListen (8, RX5, some .int, 4, 0, 0, some (.int r), mo) 0 0 83 [(0, .ref x0), (1, .ref x1), (3, .int x3_10), (4, .int x4_31), (5, .int x5_32), (6, .int x6_33)] [] m11 := by
      intro n
      induction n with
      | zero => intro x4_31 x5_32 x6_33 hf; cases hf
      | succ n ih35 =>
        intro x4_31 x5_32 x6_33 hf
        replace hf := zf3_s hf
        generalize zf3 (fX5_whereToListen_l83 m11 x1 x3_10 x0) n = F34 at hf ih35
        unfold fX5_whereToListen_l83 at hf
        refine zr_iload 5 dX5_whereToListen_83 rfl ?_
        refine zr_aload_n 1 dX5_whereToListen_85 rfl ?_
        replace hf := zb1_s hf
        obtain ⟨v38, h39, hf⟩ := hf
        refine zr_get (zm_gI_g h39) zk9 (by decide) zl_469 dX5_whereToListen_86 ?_
        refine zr_iconst 1 dX5_whereToListen_89 (by decide) ?_
        refine zr_iadd dX5_whereToListen_90 ?_
        refine zr_bipush 100 dX5_whereToListen_91 (by decide) ?_
        refine zr_imul dX5_whereToListen_93 ?_
        refine zr_icmp_ge 149 dX5_whereToListen_94 (by decide) (fun hc => ?_) (fun hc => ?_)
        · rw [if_pos hc] at hf
          cases hf
          exact zr_lv [3] rfl hj37
        · rw [if_neg hc] at hf
          refine zr_iload_n 2 dX5_whereToListen_97 rfl ?_
          refine zr_if_le 149 dX5_whereToListen_98 (by decide) (fun hc => ?_) (fun hc => ?_)
          · rw [if_pos hc] at hf
            cases hf
            exact zr_lv [3] rfl hj37
          · rw [if_neg hc] at hf
            refine zr_aload_n 0 dX5_whereToListen_101 rfl ?_
            replace hf := zb1_s hf
            obtain ⟨v40, h41, hf⟩ := hf
            refine zr_get (zm_gR_g h41) zk5 (by decide) zl_445 dX5_whereToListen_102 ?_
            refine zr_iload 5 dX5_whereToListen_105 rfl ?_
            replace hf := zb1_s hf
            obtain ⟨v42, h43, hf⟩ := hf
            refine zr_iald h43 dX5_whereToListen_107 ?_
            refine zr_iload_n 2 dX5_whereToListen_108 rfl ?_
            refine zr_aload_n 0 dX5_whereToListen_109 rfl ?_
            replace hf := zb1_s hf
            obtain ⟨v44, h45, hf⟩ := hf
            refine zr_get (zm_gR_g h45) zk5 (by decide) zl_445 dX5_whereToListen_110 ?_
            refine zr_iload 5 dX5_whereToListen_113 rfl ?_
            replace hf := zb1_s hf
            obtain ⟨v46, h47, hf⟩ := hf
            refine zr_iald h47 dX5_whereToListen_115 ?_
            refine zr_isub dX5_whereToListen_116 ?_
            refine zr_mmax zl_477 zl_55 zl_11 zl_56 (Nat.le_of_ble_eq_true rfl) (Nat.le_of_ble_eq_true rfl) (Nat.le_of_ble_eq_true rfl) (Nat.le_of_ble_eq_true rfl) dX5_whereToListen_117 ?_
            refine zr_istore [(7, .int (if v42 < (x3_10 - v46) then (x3_10 - v46) else v42 : Int32)), (0, .ref x0), (1, .ref x1), (3, .int x3_10), (4, .int x4_31), (5, .int x5_32), (6, .int x6_33)] dX5_whereToListen_120 (Nat.le_of_ble_eq_true rfl) rfl ?_
            refine zr_iload 4 dX5_whereToListen_122 rfl ?_
            refine zr_iconst (-1) dX5_whereToListen_124 (by decide) ?_
            replace hf := zb2_s hf
            obtain ⟨x4_48, x5_49, hg, hf⟩ := hf
            have hj50 : zz K cX5_whereToListen (8, RX5, some .int, 4, 0, 0, some (.int r), mo) 0 0 143 [(0, .ref x0), (1, .ref x1), (3, .int x3_10), (4, .int x4_48), (5, .int x5_49), (6, .int x6_33)] [] m11 := by
              refine zr_iinc (j := 5) (x6_33 + 1) [(6, .int (x6_33 + 1)), (0, .ref x0), (1, .ref x1), (3, .int x3_10), (4, .int x4_48), (5, .int x5_49)] dX5_whereToListen_143 rfl rfl (Nat.le_of_ble_eq_true rfl) rfl ?_
              refine zr_goto 83 dX5_whereToListen_146 (by decide) ?_
              exact zr_lv [1, 2, 3, 4, 5, 0] rfl (ih35 x4_48 x5_49 (x6_33 + 1) hf)
            clear hf
            have hf := hg
            clear hg
            refine zr_icmp_eq 135 dX5_whereToListen_125 (by decide) (fun hc => ?_) (fun hc => ?_)
            · rw [if_pos hc] at hf
              refine zr_iload 0 dX5_whereToListen_135 rfl ?_
              refine zr_istore [(5, .int (if v42 < (x3_10 - v46) then (x3_10 - v46) else v42 : Int32)), (7, .int (if v42 < (x3_10 - v46) then (x3_10 - v46) else v42 : Int32)), (0, .ref x0), (1, .ref x1), (3, .int x3_10), (4, .int x4_31), (6, .int x6_33)] dX5_whereToListen_137 (Nat.le_of_ble_eq_true rfl) rfl ?_
              refine zr_iload 6 dX5_whereToListen_139 rfl ?_
              refine zr_istore [(4, .int x6_33), (5, .int (if v42 < (x3_10 - v46) then (x3_10 - v46) else v42 : Int32)), (7, .int (if v42 < (x3_10 - v46) then (x3_10 - v46) else v42 : Int32)), (0, .ref x0), (1, .ref x1), (3, .int x3_10), (6, .int x6_33)] dX5_whereToListen_141 (Nat.le_of_ble_eq_true rfl) rfl ?_
              cases hf
              exact zr_lv [3, 4, 5, 0, 1, 6] rfl hj50
            · rw [if_neg hc] at hf
              refine zr_iload 0 dX5_whereToListen_128 rfl ?_
              refine zr_iload 5 dX5_whereToListen_130 rfl ?_
              refine zr_icmp_ge 143 dX5_whereToListen_132 (by decide) (fun hc => ?_) (fun hc => ?_)
              · rw [if_pos hc] at hf
                cases hf
                exact zr_lv [1, 2, 3, 4, 5, 6] rfl hj50
              · rw [if_neg hc] at hf
                refine zr_iload 0 dX5_whereToListen_135 rfl ?_
                refine zr_istore [(5, .int (if v42 < (x3_10 - v46) then (x3_10 - v46) else v42 : Int32)), (7, .int (if v42 < (x3_10 - v46) then (x3_10 - v46) else v42 : Int32)), (0, .ref x0), (1, .ref x1), (3, .int x3_10), (4, .int x4_31), (6, .int x6_33)] dX5_whereToListen_137 (Nat.le_of_ble_eq_true rfl) rfl ?_
                refine zr_iload 6 dX5_whereToListen_139 rfl ?_
                refine zr_istore [(4, .int x6_33), (5, .int (if v42 < (x3_10 - v46) then (x3_10 - v46) else v42 : Int32)), (7, .int (if v42 < (x3_10 - v46) then (x3_10 - v46) else v42 : Int32)), (0, .ref x0), (1, .ref x1), (3, .int x3_10), (6, .int x6_33)] dX5_whereToListen_141 (Nat.le_of_ble_eq_true rfl) rfl ?_
                cases hf
                exact zr_lv [3, 4, 5, 0, 1, 6] rfl hj50
    exact zr_lv [3, 4, 5, 2, 1, 0] rfl (hL51 _ (-1) x3_10 0 hf)
  clear hf
  have hf := hg
  clear hg
  have hL30 : ∀ (n : Nat) (x3_5 : Int32) (x4_6 : Int32) (m7 : zM), zf3 (fX5_whereToListen_l13 x1 x2 x0) n x3_5 x4_6 m7 = some (x3_10, m11) → zz K cX5_whereToListen (8, RX5, some .int, 4, 0, 0, some (.int r), mo) 0 0 13 [(0, .ref x0), (1, .ref x1), (2, .ref x2), (3, .int x3_5), (4, .int x4_6)] [] m7 := by
    intro n
    induction n with
    | zero => intro x3_5 x4_6 m7 hf; cases hf
    | succ n ih9 =>
      intro x3_5 x4_6 m7 hf
      replace hf := zf3_s hf
      generalize zf3 (fX5_whereToListen_l13 x1 x2 x0) n = F8 at hf ih9
      unfold fX5_whereToListen_l13 at hf
      refine zr_iload 4 dX5_whereToListen_13 rfl ?_
      refine zr_aload_n 1 dX5_whereToListen_15 rfl ?_
      replace hf := zb1_s hf
      obtain ⟨v13, h14, hf⟩ := hf
      refine zr_get (zm_gI_g h14) zk9 (by decide) zl_469 dX5_whereToListen_16 ?_
      refine zr_icmp_gt 74 dX5_whereToListen_19 (by decide) (fun hc => ?_) (fun hc => ?_)
      · rw [if_pos hc] at hf
        cases hf
        exact zr_lv [0, 1, 3] rfl hj12
      · rw [if_neg hc] at hf
        refine zr_iconst 0 dX5_whereToListen_22 (by decide) ?_
        refine zr_istore [(5, .int 0), (0, .ref x0), (1, .ref x1), (2, .ref x2), (3, .int x3_5), (4, .int x4_6)] dX5_whereToListen_23 (Nat.le_of_ble_eq_true rfl) rfl ?_
        replace hf := zb2_s hf
        obtain ⟨x3_20, m21, hg, hf⟩ := hf
        have hj22 : zz K cX5_whereToListen (8, RX5, some .int, 4, 0, 0, some (.int r), mo) 0 0 68 [(0, .ref x0), (1, .ref x1), (2, .ref x2), (3, .int x3_20), (4, .int x4_6)] [] m21 := by
          refine zr_iinc (j := 4) (x4_6 + 1) [(4, .int (x4_6 + 1)), (0, .ref x0), (1, .ref x1), (2, .ref x2), (3, .int x3_20)] dX5_whereToListen_68 rfl rfl (Nat.le_of_ble_eq_true rfl) rfl ?_
          refine zr_goto 13 dX5_whereToListen_71 (by decide) ?_
          exact zr_lv [1, 2, 3, 4, 0] rfl (ih9 x3_20 (x4_6 + 1) m21 hf)
        clear hf
        have hf := hg
        clear hg
        have hL29 : ∀ (n : Nat) (x3_15 : Int32) (x5_16 : Int32) (m17 : zM), zf3 (fX5_whereToListen_l25 x1 x2 x4_6 x0) n x3_15 x5_16 m17 = some (x3_20, m21) → zz K cX5_whereToListen (8, RX5, some .int, 4, 0, 0, some (.int r), mo) 0 0 25 [(0, .ref x0), (1, .ref x1), (2, .ref x2), (3, .int x3_15), (4, .int x4_6), (5, .int x5_16)] [] m17 := by
          intro n
          induction n with
          | zero => intro x3_15 x5_16 m17 hf; cases hf
          | succ n ih19 =>
            intro x3_15 x5_16 m17 hf
            replace hf := zf3_s hf
            generalize zf3 (fX5_whereToListen_l25 x1 x2 x4_6 x0) n = F18 at hf ih19
            unfold fX5_whereToListen_l25 at hf
            refine zr_iload 5 dX5_whereToListen_25 rfl ?_
            refine zr_bipush 100 dX5_whereToListen_27 (by decide) ?_
            refine zr_icmp_ge 68 dX5_whereToListen_29 (by decide) (fun hc => ?_) (fun hc => ?_)
            · rw [if_pos hc] at hf
              cases hf
              exact zr_lv [0, 1, 2, 3, 4] rfl hj22
            · rw [if_neg hc] at hf
              refine zr_aload_n 1 dX5_whereToListen_32 rfl ?_
              refine zr_aload_n 2 dX5_whereToListen_33 rfl ?_
              refine zr_iload 4 dX5_whereToListen_34 rfl ?_
              refine zr_iload 5 dX5_whereToListen_36 rfl ?_
              replace hf := zb1_s hf
              obtain ⟨v24, h23, hf⟩ := hf
              refine zr_callS [.ref x1, .ref x2, .int x4_6, .int x5_16] (cX5_wordsMaybe_ok h23) zvs_X5_wordsMaybe zl_467 zl_466 rfl (Nat.le_of_ble_eq_true rfl) (Nat.le_of_ble_eq_true rfl) (Nat.le_of_ble_eq_true rfl) (Nat.le_of_ble_eq_true rfl) dX5_whereToListen_38 rfl ?_
              refine zr_istore [(6, .int v24), (0, .ref x0), (1, .ref x1), (2, .ref x2), (3, .int x3_15), (4, .int x4_6), (5, .int x5_16)] dX5_whereToListen_41 (Nat.le_of_ble_eq_true rfl) rfl ?_
              refine zr_iload_n 4 dX5_whereToListen_43 rfl ?_
              refine zr_iload 0 dX5_whereToListen_44 rfl ?_
              replace hf := zb1_s hf
              obtain ⟨v26, h25, hf⟩ := hf
              refine zr_callS [.int v24] (cJ6_bitCount_0f7a4_ok h25) zvs_J6_bitCount_0f7a4 zl_67 zl_468 rfl (Nat.le_of_ble_eq_true rfl) (Nat.le_of_ble_eq_true rfl) (Nat.le_of_ble_eq_true rfl) (Nat.le_of_ble_eq_true rfl) dX5_whereToListen_46 rfl ?_
              refine zr_iadd dX5_whereToListen_49 ?_
              refine zr_istore_n [(3, .int (x3_15 + v26)), (6, .int v24), (0, .ref x0), (1, .ref x1), (2, .ref x2), (4, .int x4_6), (5, .int x5_16)] dX5_whereToListen_50 (Nat.le_of_ble_eq_true rfl) rfl ?_
              refine zr_aload_n 2 dX5_whereToListen_51 rfl ?_
              refine zr_aload_n 3 dX5_whereToListen_52 rfl ?_
              refine zr_iload 5 dX5_whereToListen_53 rfl ?_
              refine zr_iload 6 dX5_whereToListen_55 rfl ?_
              refine zr_iload 1 dX5_whereToListen_57 rfl ?_
              replace hf := zb1_s hf
              obtain ⟨m28, h27, hf⟩ := hf
              refine zr_callV (ci := 5) [.ref x1, .int x4_6, .int x5_16, .int v24] (cX5_hitByWords_ok h27) zvs_X5_hitByWords zl_493 zl_494 (fX5_hitByWords_ck h27) rfl rfl zl_492 rfl (Nat.le_of_ble_eq_true rfl) (Nat.le_of_ble_eq_true rfl) (Nat.le_of_ble_eq_true rfl) (Nat.le_of_ble_eq_true rfl) dX5_whereToListen_59 rfl ?_
              refine zr_iinc (j := 6) (x5_16 + 1) [(5, .int (x5_16 + 1)), (3, .int (x3_15 + v26)), (6, .int v24), (0, .ref x0), (1, .ref x1), (2, .ref x2), (4, .int x4_6)] dX5_whereToListen_62 rfl rfl (Nat.le_of_ble_eq_true rfl) rfl ?_
              refine zr_goto 25 dX5_whereToListen_65 (by decide) ?_
              exact zr_lv [3, 4, 5, 1, 6, 0] rfl (ih19 (x3_15 + v26) (x5_16 + 1) m28 hf)
        exact zr_lv [1, 2, 3, 4, 5, 0] rfl (hL29 _ x3_5 0 m7 hf)
  exact zr_lv [2, 3, 4, 1, 0] rfl (hL30 _ 0 0 m4 hf)
