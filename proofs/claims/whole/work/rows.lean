section
-- ===== PART A: goes FIRST, ahead of the names: the tables' words, and 'selects' of the private methods out of them =====
/-- a private method of a class that the tables say can be made, by its rows of tables_1 -/
def lw_okq (q : MethodName × Nat) : Prop := (q.1.cls ≠ "java/lang/invoke/MethodHandle" ∧ q.1.cls ≠ "java/lang/invoke/VarHandle") ∧ Cond.instantiable q.1.cls q.2 ∈ tables_1 ∧ Cond.privateMethod q.1 ∈ tables_1 ∧ Cond.instanceMethod q.1 ∈ tables_1
theorem lw_p0 : lw_okq (⟨"TwoEchoes$Reader", "clearDraft", "(I)V"⟩, 13) := ⟨⟨by decide +kernel, by decide +kernel⟩, List.mem_of_getElem? (i := 226) (by decide +kernel), List.mem_of_getElem? (i := 407) (by decide +kernel), List.mem_of_getElem? (i := 408) (by decide +kernel)⟩
theorem lw_p1 : lw_okq (⟨"TwoEchoes$Reader", "advance", "()V"⟩, 13) := ⟨⟨by decide +kernel, by decide +kernel⟩, List.mem_of_getElem? (i := 226) (by decide +kernel), List.mem_of_getElem? (i := 430) (by decide +kernel), List.mem_of_getElem? (i := 431) (by decide +kernel)⟩
theorem lw_p2 : lw_okq (⟨"TwoEchoes$Reader", "readLine", "(I)V"⟩, 13) := ⟨⟨by decide +kernel, by decide +kernel⟩, List.mem_of_getElem? (i := 226) (by decide +kernel), List.mem_of_getElem? (i := 443) (by decide +kernel), List.mem_of_getElem? (i := 444) (by decide +kernel)⟩
theorem lw_p3 : lw_okq (⟨"TwoEchoes$Reader", "lineWord", "(I)I"⟩, 13) := ⟨⟨by decide +kernel, by decide +kernel⟩, List.mem_of_getElem? (i := 226) (by decide +kernel), List.mem_of_getElem? (i := 447) (by decide +kernel), List.mem_of_getElem? (i := 448) (by decide +kernel)⟩
theorem lw_p4 : lw_okq (⟨"TwoEchoes$Reader", "isSpelt", "(Ljava/lang/String;)Z"⟩, 13) := ⟨⟨by decide +kernel, by decide +kernel⟩, List.mem_of_getElem? (i := 226) (by decide +kernel), List.mem_of_getElem? (i := 474) (by decide +kernel), List.mem_of_getElem? (i := 475) (by decide +kernel)⟩
theorem lw_p5 : lw_okq (⟨"TwoEchoes$Reader", "breakOff", "()V"⟩, 13) := ⟨⟨by decide +kernel, by decide +kernel⟩, List.mem_of_getElem? (i := 226) (by decide +kernel), List.mem_of_getElem? (i := 526) (by decide +kernel), List.mem_of_getElem? (i := 527) (by decide +kernel)⟩
theorem lw_p6 : lw_okq (⟨"TwoEchoes$Reader", "tokenNumber", "()I"⟩, 13) := ⟨⟨by decide +kernel, by decide +kernel⟩, List.mem_of_getElem? (i := 226) (by decide +kernel), List.mem_of_getElem? (i := 532) (by decide +kernel), List.mem_of_getElem? (i := 533) (by decide +kernel)⟩
theorem lw_p7 : lw_okq (⟨"TwoEchoes$Reader", "check", "(II)V"⟩, 13) := ⟨⟨by decide +kernel, by decide +kernel⟩, List.mem_of_getElem? (i := 226) (by decide +kernel), List.mem_of_getElem? (i := 536) (by decide +kernel), List.mem_of_getElem? (i := 537) (by decide +kernel)⟩
theorem lw_p8 : lw_okq (⟨"TwoEchoes$Reader", "isFull", "(I)Z"⟩, 13) := ⟨⟨by decide +kernel, by decide +kernel⟩, List.mem_of_getElem? (i := 226) (by decide +kernel), List.mem_of_getElem? (i := 540) (by decide +kernel), List.mem_of_getElem? (i := 541) (by decide +kernel)⟩
theorem lw_p9 : lw_okq (⟨"TwoEchoes$Reader", "mark", "(II)V"⟩, 13) := ⟨⟨by decide +kernel, by decide +kernel⟩, List.mem_of_getElem? (i := 226) (by decide +kernel), List.mem_of_getElem? (i := 544) (by decide +kernel), List.mem_of_getElem? (i := 545) (by decide +kernel)⟩
theorem lw_p10 : lw_okq (⟨"TwoEchoes$Reader", "leastNumber", "(II)I"⟩, 13) := ⟨⟨by decide +kernel, by decide +kernel⟩, List.mem_of_getElem? (i := 226) (by decide +kernel), List.mem_of_getElem? (i := 548) (by decide +kernel), List.mem_of_getElem? (i := 549) (by decide +kernel)⟩
theorem lw_p11 : lw_okq (⟨"TwoEchoes$Reader", "take", "(I)V"⟩, 13) := ⟨⟨by decide +kernel, by decide +kernel⟩, List.mem_of_getElem? (i := 226) (by decide +kernel), List.mem_of_getElem? (i := 554) (by decide +kernel), List.mem_of_getElem? (i := 555) (by decide +kernel)⟩
theorem lw_p12 : lw_okq (⟨"TwoEchoes$Reader", "takeOfLesson", "(I)V"⟩, 13) := ⟨⟨by decide +kernel, by decide +kernel⟩, List.mem_of_getElem? (i := 226) (by decide +kernel), List.mem_of_getElem? (i := 562) (by decide +kernel), List.mem_of_getElem? (i := 563) (by decide +kernel)⟩
theorem lw_p13 : lw_okq (⟨"TwoEchoes$Reader", "takeOfValley", "(I)V"⟩, 13) := ⟨⟨by decide +kernel, by decide +kernel⟩, List.mem_of_getElem? (i := 226) (by decide +kernel), List.mem_of_getElem? (i := 574) (by decide +kernel), List.mem_of_getElem? (i := 575) (by decide +kernel)⟩
theorem lw_p14 : lw_okq (⟨"TwoEchoes$Reader", "takeOfWord", "(III)V"⟩, 13) := ⟨⟨by decide +kernel, by decide +kernel⟩, List.mem_of_getElem? (i := 226) (by decide +kernel), List.mem_of_getElem? (i := 589) (by decide +kernel), List.mem_of_getElem? (i := 590) (by decide +kernel)⟩
theorem lw_p15 : lw_okq (⟨"TwoEchoes", "valleyAt", "(I)LTwoEchoes$Valley;"⟩, 7) := ⟨⟨by decide +kernel, by decide +kernel⟩, List.mem_of_getElem? (i := 23) (by decide +kernel), List.mem_of_getElem? (i := 638) (by decide +kernel), List.mem_of_getElem? (i := 639) (by decide +kernel)⟩
def lw_privs_1 : List (MethodName × Nat) := [(⟨"TwoEchoes$Reader", "clearDraft", "(I)V"⟩, 13), (⟨"TwoEchoes$Reader", "advance", "()V"⟩, 13), (⟨"TwoEchoes$Reader", "readLine", "(I)V"⟩, 13), (⟨"TwoEchoes$Reader", "lineWord", "(I)I"⟩, 13), (⟨"TwoEchoes$Reader", "isSpelt", "(Ljava/lang/String;)Z"⟩, 13), (⟨"TwoEchoes$Reader", "breakOff", "()V"⟩, 13), (⟨"TwoEchoes$Reader", "tokenNumber", "()I"⟩, 13), (⟨"TwoEchoes$Reader", "check", "(II)V"⟩, 13), (⟨"TwoEchoes$Reader", "isFull", "(I)Z"⟩, 13), (⟨"TwoEchoes$Reader", "mark", "(II)V"⟩, 13), (⟨"TwoEchoes$Reader", "leastNumber", "(II)I"⟩, 13), (⟨"TwoEchoes$Reader", "take", "(I)V"⟩, 13), (⟨"TwoEchoes$Reader", "takeOfLesson", "(I)V"⟩, 13), (⟨"TwoEchoes$Reader", "takeOfValley", "(I)V"⟩, 13), (⟨"TwoEchoes$Reader", "takeOfWord", "(III)V"⟩, 13), (⟨"TwoEchoes", "valleyAt", "(I)LTwoEchoes$Valley;"⟩, 7)]
theorem lw_r1 : ∀ q ∈ lw_privs_1, lw_okq q := List.forall_mem_cons.mpr ⟨lw_p0, List.forall_mem_cons.mpr ⟨lw_p1, List.forall_mem_cons.mpr ⟨lw_p2, List.forall_mem_cons.mpr ⟨lw_p3, List.forall_mem_cons.mpr ⟨lw_p4, List.forall_mem_cons.mpr ⟨lw_p5, List.forall_mem_cons.mpr ⟨lw_p6, List.forall_mem_cons.mpr ⟨lw_p7, List.forall_mem_cons.mpr ⟨lw_p8, List.forall_mem_cons.mpr ⟨lw_p9, List.forall_mem_cons.mpr ⟨lw_p10, List.forall_mem_cons.mpr ⟨lw_p11, List.forall_mem_cons.mpr ⟨lw_p12, List.forall_mem_cons.mpr ⟨lw_p13, List.forall_mem_cons.mpr ⟨lw_p14, List.forall_mem_cons.mpr ⟨lw_p15, fun _ h => absurd h List.not_mem_nil⟩⟩⟩⟩⟩⟩⟩⟩⟩⟩⟩⟩⟩⟩⟩⟩
theorem lw_p16 : lw_okq (⟨"TwoEchoes$Valley", "tellWord", "(II)I"⟩, 13) := ⟨⟨by decide +kernel, by decide +kernel⟩, List.mem_of_getElem? (i := 38) (by decide +kernel), List.mem_of_getElem? (i := 647) (by decide +kernel), List.mem_of_getElem? (i := 648) (by decide +kernel)⟩
theorem lw_p17 : lw_okq (⟨"TwoEchoes$Valley", "tellPerson", "(II)I"⟩, 13) := ⟨⟨by decide +kernel, by decide +kernel⟩, List.mem_of_getElem? (i := 38) (by decide +kernel), List.mem_of_getElem? (i := 655) (by decide +kernel), List.mem_of_getElem? (i := 656) (by decide +kernel)⟩
theorem lw_p18 : lw_okq (⟨"TwoEchoes$Valley", "tellSky", "(II)I"⟩, 13) := ⟨⟨by decide +kernel, by decide +kernel⟩, List.mem_of_getElem? (i := 38) (by decide +kernel), List.mem_of_getElem? (i := 659) (by decide +kernel), List.mem_of_getElem? (i := 660) (by decide +kernel)⟩
theorem lw_p19 : lw_okq (⟨"TwoEchoes", "dayAt", "(I)LTwoEchoes$Day;"⟩, 7) := ⟨⟨by decide +kernel, by decide +kernel⟩, List.mem_of_getElem? (i := 23) (by decide +kernel), List.mem_of_getElem? (i := 708) (by decide +kernel), List.mem_of_getElem? (i := 709) (by decide +kernel)⟩
theorem lw_p20 : lw_okq (⟨"TwoEchoes$Course", "begin", "(LTwoEchoes$Valley;)V"⟩, 6) := ⟨⟨by decide +kernel, by decide +kernel⟩, List.mem_of_getElem? (i := 286) (by decide +kernel), List.mem_of_getElem? (i := 724) (by decide +kernel), List.mem_of_getElem? (i := 725) (by decide +kernel)⟩
theorem lw_p21 : lw_okq (⟨"TwoEchoes$Course", "perform", "(LTwoEchoes$Valley;III)Z"⟩, 6) := ⟨⟨by decide +kernel, by decide +kernel⟩, List.mem_of_getElem? (i := 286) (by decide +kernel), List.mem_of_getElem? (i := 730) (by decide +kernel), List.mem_of_getElem? (i := 731) (by decide +kernel)⟩
theorem lw_p22 : lw_okq (⟨"TwoEchoes$Course", "pass", "(I)Z"⟩, 6) := ⟨⟨by decide +kernel, by decide +kernel⟩, List.mem_of_getElem? (i := 286) (by decide +kernel), List.mem_of_getElem? (i := 734) (by decide +kernel), List.mem_of_getElem? (i := 735) (by decide +kernel)⟩
theorem lw_p23 : lw_okq (⟨"TwoEchoes$Course", "walk", "(LTwoEchoes$Valley;II)Z"⟩, 6) := ⟨⟨by decide +kernel, by decide +kernel⟩, List.mem_of_getElem? (i := 286) (by decide +kernel), List.mem_of_getElem? (i := 739) (by decide +kernel), List.mem_of_getElem? (i := 740) (by decide +kernel)⟩
theorem lw_p24 : lw_okq (⟨"TwoEchoes$Course", "speak", "(LTwoEchoes$Valley;III)V"⟩, 6) := ⟨⟨by decide +kernel, by decide +kernel⟩, List.mem_of_getElem? (i := 286) (by decide +kernel), List.mem_of_getElem? (i := 745) (by decide +kernel), List.mem_of_getElem? (i := 746) (by decide +kernel)⟩
theorem lw_p25 : lw_okq (⟨"TwoEchoes$Course", "hear", "(III)V"⟩, 6) := ⟨⟨by decide +kernel, by decide +kernel⟩, List.mem_of_getElem? (i := 286) (by decide +kernel), List.mem_of_getElem? (i := 751) (by decide +kernel), List.mem_of_getElem? (i := 752) (by decide +kernel)⟩
theorem lw_p26 : lw_okq (⟨"TwoEchoes$Course", "clashes", "(LTwoEchoes$Valley;)I"⟩, 6) := ⟨⟨by decide +kernel, by decide +kernel⟩, List.mem_of_getElem? (i := 286) (by decide +kernel), List.mem_of_getElem? (i := 764) (by decide +kernel), List.mem_of_getElem? (i := 765) (by decide +kernel)⟩
theorem lw_p27 : lw_okq (⟨"TwoEchoes$Course", "isClash", "(II)Z"⟩, 6) := ⟨⟨by decide +kernel, by decide +kernel⟩, List.mem_of_getElem? (i := 286) (by decide +kernel), List.mem_of_getElem? (i := 768) (by decide +kernel), List.mem_of_getElem? (i := 769) (by decide +kernel)⟩
theorem lw_p28 : lw_okq (⟨"TwoEchoes$Course", "firstClash", "(LTwoEchoes$Valley;Z)I"⟩, 6) := ⟨⟨by decide +kernel, by decide +kernel⟩, List.mem_of_getElem? (i := 286) (by decide +kernel), List.mem_of_getElem? (i := 778) (by decide +kernel), List.mem_of_getElem? (i := 779) (by decide +kernel)⟩
theorem lw_p29 : lw_okq (⟨"TwoEchoes$Course", "tellPerson", "(II)I"⟩, 6) := ⟨⟨by decide +kernel, by decide +kernel⟩, List.mem_of_getElem? (i := 286) (by decide +kernel), List.mem_of_getElem? (i := 782) (by decide +kernel), List.mem_of_getElem? (i := 783) (by decide +kernel)⟩
theorem lw_p30 : lw_okq (⟨"TwoEchoes$Course", "wordsHeard", "(I)I"⟩, 6) := ⟨⟨by decide +kernel, by decide +kernel⟩, List.mem_of_getElem? (i := 286) (by decide +kernel), List.mem_of_getElem? (i := 786) (by decide +kernel), List.mem_of_getElem? (i := 787) (by decide +kernel)⟩
theorem lw_p31 : lw_okq (⟨"TwoEchoes$Course", "howOften", "(I)I"⟩, 6) := ⟨⟨by decide +kernel, by decide +kernel⟩, List.mem_of_getElem? (i := 286) (by decide +kernel), List.mem_of_getElem? (i := 790) (by decide +kernel), List.mem_of_getElem? (i := 791) (by decide +kernel)⟩
def lw_privs_2 : List (MethodName × Nat) := [(⟨"TwoEchoes$Valley", "tellWord", "(II)I"⟩, 13), (⟨"TwoEchoes$Valley", "tellPerson", "(II)I"⟩, 13), (⟨"TwoEchoes$Valley", "tellSky", "(II)I"⟩, 13), (⟨"TwoEchoes", "dayAt", "(I)LTwoEchoes$Day;"⟩, 7), (⟨"TwoEchoes$Course", "begin", "(LTwoEchoes$Valley;)V"⟩, 6), (⟨"TwoEchoes$Course", "perform", "(LTwoEchoes$Valley;III)Z"⟩, 6), (⟨"TwoEchoes$Course", "pass", "(I)Z"⟩, 6), (⟨"TwoEchoes$Course", "walk", "(LTwoEchoes$Valley;II)Z"⟩, 6), (⟨"TwoEchoes$Course", "speak", "(LTwoEchoes$Valley;III)V"⟩, 6), (⟨"TwoEchoes$Course", "hear", "(III)V"⟩, 6), (⟨"TwoEchoes$Course", "clashes", "(LTwoEchoes$Valley;)I"⟩, 6), (⟨"TwoEchoes$Course", "isClash", "(II)Z"⟩, 6), (⟨"TwoEchoes$Course", "firstClash", "(LTwoEchoes$Valley;Z)I"⟩, 6), (⟨"TwoEchoes$Course", "tellPerson", "(II)I"⟩, 6), (⟨"TwoEchoes$Course", "wordsHeard", "(I)I"⟩, 6), (⟨"TwoEchoes$Course", "howOften", "(I)I"⟩, 6)]
theorem lw_r2 : ∀ q ∈ lw_privs_2, lw_okq q := List.forall_mem_cons.mpr ⟨lw_p16, List.forall_mem_cons.mpr ⟨lw_p17, List.forall_mem_cons.mpr ⟨lw_p18, List.forall_mem_cons.mpr ⟨lw_p19, List.forall_mem_cons.mpr ⟨lw_p20, List.forall_mem_cons.mpr ⟨lw_p21, List.forall_mem_cons.mpr ⟨lw_p22, List.forall_mem_cons.mpr ⟨lw_p23, List.forall_mem_cons.mpr ⟨lw_p24, List.forall_mem_cons.mpr ⟨lw_p25, List.forall_mem_cons.mpr ⟨lw_p26, List.forall_mem_cons.mpr ⟨lw_p27, List.forall_mem_cons.mpr ⟨lw_p28, List.forall_mem_cons.mpr ⟨lw_p29, List.forall_mem_cons.mpr ⟨lw_p30, List.forall_mem_cons.mpr ⟨lw_p31, fun _ h => absurd h List.not_mem_nil⟩⟩⟩⟩⟩⟩⟩⟩⟩⟩⟩⟩⟩⟩⟩⟩
theorem lw_p32 : lw_okq (⟨"TwoEchoes$Course", "firstHearing", "(I)I"⟩, 6) := ⟨⟨by decide +kernel, by decide +kernel⟩, List.mem_of_getElem? (i := 286) (by decide +kernel), List.mem_of_getElem? (i := 794) (by decide +kernel), List.mem_of_getElem? (i := 795) (by decide +kernel)⟩
theorem lw_p33 : lw_okq (⟨"TwoEchoes$Trade", "findBest", "(II)V"⟩, 2) := ⟨⟨by decide +kernel, by decide +kernel⟩, List.mem_of_getElem? (i := 327) (by decide +kernel), List.mem_of_getElem? (i := 881) (by decide +kernel), List.mem_of_getElem? (i := 882) (by decide +kernel)⟩
theorem lw_p34 : lw_okq (⟨"TwoEchoes", "lessonAt", "(I)LTwoEchoes$Lesson;"⟩, 7) := ⟨⟨by decide +kernel, by decide +kernel⟩, List.mem_of_getElem? (i := 23) (by decide +kernel), List.mem_of_getElem? (i := 918) (by decide +kernel), List.mem_of_getElem? (i := 919) (by decide +kernel)⟩
theorem lw_p35 : lw_okq (⟨"TwoEchoes$Lesson", "mostLeft", "(I)I"⟩, 4) := ⟨⟨by decide +kernel, by decide +kernel⟩, List.mem_of_getElem? (i := 138) (by decide +kernel), List.mem_of_getElem? (i := 951) (by decide +kernel), List.mem_of_getElem? (i := 952) (by decide +kernel)⟩
theorem lw_p36 : lw_okq (⟨"TwoEchoes$Lesson", "left", "(II)I"⟩, 4) := ⟨⟨by decide +kernel, by decide +kernel⟩, List.mem_of_getElem? (i := 138) (by decide +kernel), List.mem_of_getElem? (i := 955) (by decide +kernel), List.mem_of_getElem? (i := 956) (by decide +kernel)⟩
theorem lw_p37 : lw_okq (⟨"TwoEchoes", "sightAt", "(I)LTwoEchoes$Sight;"⟩, 7) := ⟨⟨by decide +kernel, by decide +kernel⟩, List.mem_of_getElem? (i := 23) (by decide +kernel), List.mem_of_getElem? (i := 968) (by decide +kernel), List.mem_of_getElem? (i := 969) (by decide +kernel)⟩
theorem lw_p38 : lw_okq (⟨"TwoEchoes$Search", "hitByWords", "(LTwoEchoes$Valley;III)V"⟩, 3) := ⟨⟨by decide +kernel, by decide +kernel⟩, List.mem_of_getElem? (i := 311) (by decide +kernel), List.mem_of_getElem? (i := 1019) (by decide +kernel), List.mem_of_getElem? (i := 1020) (by decide +kernel)⟩
theorem lw_p39 : lw_okq (⟨"TwoEchoes$Search", "countByThought", "(LTwoEchoes$Valley;I)V"⟩, 3) := ⟨⟨by decide +kernel, by decide +kernel⟩, List.mem_of_getElem? (i := 311) (by decide +kernel), List.mem_of_getElem? (i := 1023) (by decide +kernel), List.mem_of_getElem? (i := 1024) (by decide +kernel)⟩
theorem lw_p40 : lw_okq (⟨"TwoEchoes$Search", "hit", "(III)V"⟩, 3) := ⟨⟨by decide +kernel, by decide +kernel⟩, List.mem_of_getElem? (i := 311) (by decide +kernel), List.mem_of_getElem? (i := 1028) (by decide +kernel), List.mem_of_getElem? (i := 1029) (by decide +kernel)⟩
theorem lw_p41 : lw_okq (⟨"TwoEchoes$Search", "hitByJudge", "(IIII)V"⟩, 3) := ⟨⟨by decide +kernel, by decide +kernel⟩, List.mem_of_getElem? (i := 311) (by decide +kernel), List.mem_of_getElem? (i := 1033) (by decide +kernel), List.mem_of_getElem? (i := 1034) (by decide +kernel)⟩
theorem lw_p42 : lw_okq (⟨"TwoEchoes$Course", "below", "(I)I"⟩, 6) := ⟨⟨by decide +kernel, by decide +kernel⟩, List.mem_of_getElem? (i := 286) (by decide +kernel), List.mem_of_getElem? (i := 1048) (by decide +kernel), List.mem_of_getElem? (i := 1049) (by decide +kernel)⟩
theorem lw_p43 : lw_okq (⟨"TwoEchoes$Company", "sayOn", "(LTwoEchoes$Valley;IIZ)V"⟩, 3) := ⟨⟨by decide +kernel, by decide +kernel⟩, List.mem_of_getElem? (i := 340) (by decide +kernel), List.mem_of_getElem? (i := 1100) (by decide +kernel), List.mem_of_getElem? (i := 1101) (by decide +kernel)⟩
theorem lw_p44 : lw_okq (⟨"TwoEchoes$Company", "nextAsker", "(LTwoEchoes$Valley;)I"⟩, 3) := ⟨⟨by decide +kernel, by decide +kernel⟩, List.mem_of_getElem? (i := 340) (by decide +kernel), List.mem_of_getElem? (i := 1176) (by decide +kernel), List.mem_of_getElem? (i := 1177) (by decide +kernel)⟩
theorem lw_p45 : lw_okq (⟨"TwoEchoes$Company", "nearestUnasked", "(LTwoEchoes$Valley;I)I"⟩, 3) := ⟨⟨by decide +kernel, by decide +kernel⟩, List.mem_of_getElem? (i := 340) (by decide +kernel), List.mem_of_getElem? (i := 1180) (by decide +kernel), List.mem_of_getElem? (i := 1181) (by decide +kernel)⟩
theorem lw_p46 : lw_okq (⟨"TwoEchoes$Company", "ask", "(LTwoEchoes$Valley;II)V"⟩, 3) := ⟨⟨by decide +kernel, by decide +kernel⟩, List.mem_of_getElem? (i := 340) (by decide +kernel), List.mem_of_getElem? (i := 1187) (by decide +kernel), List.mem_of_getElem? (i := 1188) (by decide +kernel)⟩
theorem lw_p47 : lw_okq (⟨"TwoEchoesModel", "four", "(I)V"⟩, 54) := ⟨⟨by decide +kernel, by decide +kernel⟩, List.mem_of_getElem? (i := 1208) (by decide +kernel), List.mem_of_getElem? (i := 1382) (by decide +kernel), List.mem_of_getElem? (i := 1383) (by decide +kernel)⟩
def lw_privs_3 : List (MethodName × Nat) := [(⟨"TwoEchoes$Course", "firstHearing", "(I)I"⟩, 6), (⟨"TwoEchoes$Trade", "findBest", "(II)V"⟩, 2), (⟨"TwoEchoes", "lessonAt", "(I)LTwoEchoes$Lesson;"⟩, 7), (⟨"TwoEchoes$Lesson", "mostLeft", "(I)I"⟩, 4), (⟨"TwoEchoes$Lesson", "left", "(II)I"⟩, 4), (⟨"TwoEchoes", "sightAt", "(I)LTwoEchoes$Sight;"⟩, 7), (⟨"TwoEchoes$Search", "hitByWords", "(LTwoEchoes$Valley;III)V"⟩, 3), (⟨"TwoEchoes$Search", "countByThought", "(LTwoEchoes$Valley;I)V"⟩, 3), (⟨"TwoEchoes$Search", "hit", "(III)V"⟩, 3), (⟨"TwoEchoes$Search", "hitByJudge", "(IIII)V"⟩, 3), (⟨"TwoEchoes$Course", "below", "(I)I"⟩, 6), (⟨"TwoEchoes$Company", "sayOn", "(LTwoEchoes$Valley;IIZ)V"⟩, 3), (⟨"TwoEchoes$Company", "nextAsker", "(LTwoEchoes$Valley;)I"⟩, 3), (⟨"TwoEchoes$Company", "nearestUnasked", "(LTwoEchoes$Valley;I)I"⟩, 3), (⟨"TwoEchoes$Company", "ask", "(LTwoEchoes$Valley;II)V"⟩, 3), (⟨"TwoEchoesModel", "four", "(I)V"⟩, 54)]
theorem lw_r3 : ∀ q ∈ lw_privs_3, lw_okq q := List.forall_mem_cons.mpr ⟨lw_p32, List.forall_mem_cons.mpr ⟨lw_p33, List.forall_mem_cons.mpr ⟨lw_p34, List.forall_mem_cons.mpr ⟨lw_p35, List.forall_mem_cons.mpr ⟨lw_p36, List.forall_mem_cons.mpr ⟨lw_p37, List.forall_mem_cons.mpr ⟨lw_p38, List.forall_mem_cons.mpr ⟨lw_p39, List.forall_mem_cons.mpr ⟨lw_p40, List.forall_mem_cons.mpr ⟨lw_p41, List.forall_mem_cons.mpr ⟨lw_p42, List.forall_mem_cons.mpr ⟨lw_p43, List.forall_mem_cons.mpr ⟨lw_p44, List.forall_mem_cons.mpr ⟨lw_p45, List.forall_mem_cons.mpr ⟨lw_p46, List.forall_mem_cons.mpr ⟨lw_p47, fun _ h => absurd h List.not_mem_nil⟩⟩⟩⟩⟩⟩⟩⟩⟩⟩⟩⟩⟩⟩⟩⟩
theorem lw_p48 : lw_okq (⟨"TwoEchoesModel", "is", "(II)Z"⟩, 54) := ⟨⟨by decide +kernel, by decide +kernel⟩, List.mem_of_getElem? (i := 1208) (by decide +kernel), List.mem_of_getElem? (i := 1397) (by decide +kernel), List.mem_of_getElem? (i := 1398) (by decide +kernel)⟩
theorem lw_p49 : lw_okq (⟨"TwoEchoesModel", "readText", "(I)Z"⟩, 54) := ⟨⟨by decide +kernel, by decide +kernel⟩, List.mem_of_getElem? (i := 1208) (by decide +kernel), List.mem_of_getElem? (i := 1401) (by decide +kernel), List.mem_of_getElem? (i := 1402) (by decide +kernel)⟩
theorem lw_p50 : lw_okq (⟨"TwoEchoesModel", "blank", "(I)V"⟩, 54) := ⟨⟨by decide +kernel, by decide +kernel⟩, List.mem_of_getElem? (i := 1208) (by decide +kernel), List.mem_of_getElem? (i := 1405) (by decide +kernel), List.mem_of_getElem? (i := 1406) (by decide +kernel)⟩
theorem lw_p51 : lw_okq (⟨"TwoEchoesModel", "token", "()V"⟩, 54) := ⟨⟨by decide +kernel, by decide +kernel⟩, List.mem_of_getElem? (i := 1208) (by decide +kernel), List.mem_of_getElem? (i := 1409) (by decide +kernel), List.mem_of_getElem? (i := 1410) (by decide +kernel)⟩
theorem lw_p52 : lw_okq (⟨"TwoEchoesModel", "see", "()I"⟩, 54) := ⟨⟨by decide +kernel, by decide +kernel⟩, List.mem_of_getElem? (i := 1208) (by decide +kernel), List.mem_of_getElem? (i := 1413) (by decide +kernel), List.mem_of_getElem? (i := 1414) (by decide +kernel)⟩
theorem lw_p53 : lw_okq (⟨"TwoEchoesModel", "lines", "(I)Z"⟩, 54) := ⟨⟨by decide +kernel, by decide +kernel⟩, List.mem_of_getElem? (i := 1208) (by decide +kernel), List.mem_of_getElem? (i := 1417) (by decide +kernel), List.mem_of_getElem? (i := 1418) (by decide +kernel)⟩
theorem lw_p54 : lw_okq (⟨"TwoEchoesModel", "lineOf", "(IJI)Z"⟩, 54) := ⟨⟨by decide +kernel, by decide +kernel⟩, List.mem_of_getElem? (i := 1208) (by decide +kernel), List.mem_of_getElem? (i := 1421) (by decide +kernel), List.mem_of_getElem? (i := 1422) (by decide +kernel)⟩
theorem lw_p55 : lw_okq (⟨"TwoEchoesModel", "valleyLine", "(JI)Z"⟩, 54) := ⟨⟨by decide +kernel, by decide +kernel⟩, List.mem_of_getElem? (i := 1208) (by decide +kernel), List.mem_of_getElem? (i := 1425) (by decide +kernel), List.mem_of_getElem? (i := 1426) (by decide +kernel)⟩
theorem lw_p56 : lw_okq (⟨"TwoEchoesModel", "fails", "()Z"⟩, 54) := ⟨⟨by decide +kernel, by decide +kernel⟩, List.mem_of_getElem? (i := 1208) (by decide +kernel), List.mem_of_getElem? (i := 1441) (by decide +kernel), List.mem_of_getElem? (i := 1442) (by decide +kernel)⟩
theorem lw_p57 : lw_okq (⟨"TwoEchoesModel", "full", "(III)V"⟩, 54) := ⟨⟨by decide +kernel, by decide +kernel⟩, List.mem_of_getElem? (i := 1208) (by decide +kernel), List.mem_of_getElem? (i := 1445) (by decide +kernel), List.mem_of_getElem? (i := 1446) (by decide +kernel)⟩
theorem lw_p58 : lw_okq (⟨"TwoEchoesModel", "later", "(II)V"⟩, 54) := ⟨⟨by decide +kernel, by decide +kernel⟩, List.mem_of_getElem? (i := 1208) (by decide +kernel), List.mem_of_getElem? (i := 1449) (by decide +kernel), List.mem_of_getElem? (i := 1450) (by decide +kernel)⟩
theorem lw_p59 : lw_okq (⟨"TwoEchoesModel", "personLine", "(I)Z"⟩, 54) := ⟨⟨by decide +kernel, by decide +kernel⟩, List.mem_of_getElem? (i := 1208) (by decide +kernel), List.mem_of_getElem? (i := 1453) (by decide +kernel), List.mem_of_getElem? (i := 1454) (by decide +kernel)⟩
theorem lw_p60 : lw_okq (⟨"TwoEchoesModel", "take", "(III)Z"⟩, 54) := ⟨⟨by decide +kernel, by decide +kernel⟩, List.mem_of_getElem? (i := 1208) (by decide +kernel), List.mem_of_getElem? (i := 1457) (by decide +kernel), List.mem_of_getElem? (i := 1458) (by decide +kernel)⟩
theorem lw_p61 : lw_okq (⟨"TwoEchoesModel", "skyLine", "(Z)Z"⟩, 54) := ⟨⟨by decide +kernel, by decide +kernel⟩, List.mem_of_getElem? (i := 1208) (by decide +kernel), List.mem_of_getElem? (i := 1464) (by decide +kernel), List.mem_of_getElem? (i := 1465) (by decide +kernel)⟩
theorem lw_p62 : lw_okq (⟨"TwoEchoesModel", "wordLine", "(J)Z"⟩, 54) := ⟨⟨by decide +kernel, by decide +kernel⟩, List.mem_of_getElem? (i := 1208) (by decide +kernel), List.mem_of_getElem? (i := 1468) (by decide +kernel), List.mem_of_getElem? (i := 1469) (by decide +kernel)⟩
theorem lw_p63 : lw_okq (⟨"TwoEchoesModel", "dayLine", "(JI)Z"⟩, 54) := ⟨⟨by decide +kernel, by decide +kernel⟩, List.mem_of_getElem? (i := 1208) (by decide +kernel), List.mem_of_getElem? (i := 1472) (by decide +kernel), List.mem_of_getElem? (i := 1473) (by decide +kernel)⟩
def lw_privs_4 : List (MethodName × Nat) := [(⟨"TwoEchoesModel", "is", "(II)Z"⟩, 54), (⟨"TwoEchoesModel", "readText", "(I)Z"⟩, 54), (⟨"TwoEchoesModel", "blank", "(I)V"⟩, 54), (⟨"TwoEchoesModel", "token", "()V"⟩, 54), (⟨"TwoEchoesModel", "see", "()I"⟩, 54), (⟨"TwoEchoesModel", "lines", "(I)Z"⟩, 54), (⟨"TwoEchoesModel", "lineOf", "(IJI)Z"⟩, 54), (⟨"TwoEchoesModel", "valleyLine", "(JI)Z"⟩, 54), (⟨"TwoEchoesModel", "fails", "()Z"⟩, 54), (⟨"TwoEchoesModel", "full", "(III)V"⟩, 54), (⟨"TwoEchoesModel", "later", "(II)V"⟩, 54), (⟨"TwoEchoesModel", "personLine", "(I)Z"⟩, 54), (⟨"TwoEchoesModel", "take", "(III)Z"⟩, 54), (⟨"TwoEchoesModel", "skyLine", "(Z)Z"⟩, 54), (⟨"TwoEchoesModel", "wordLine", "(J)Z"⟩, 54), (⟨"TwoEchoesModel", "dayLine", "(JI)Z"⟩, 54)]
theorem lw_r4 : ∀ q ∈ lw_privs_4, lw_okq q := List.forall_mem_cons.mpr ⟨lw_p48, List.forall_mem_cons.mpr ⟨lw_p49, List.forall_mem_cons.mpr ⟨lw_p50, List.forall_mem_cons.mpr ⟨lw_p51, List.forall_mem_cons.mpr ⟨lw_p52, List.forall_mem_cons.mpr ⟨lw_p53, List.forall_mem_cons.mpr ⟨lw_p54, List.forall_mem_cons.mpr ⟨lw_p55, List.forall_mem_cons.mpr ⟨lw_p56, List.forall_mem_cons.mpr ⟨lw_p57, List.forall_mem_cons.mpr ⟨lw_p58, List.forall_mem_cons.mpr ⟨lw_p59, List.forall_mem_cons.mpr ⟨lw_p60, List.forall_mem_cons.mpr ⟨lw_p61, List.forall_mem_cons.mpr ⟨lw_p62, List.forall_mem_cons.mpr ⟨lw_p63, fun _ h => absurd h List.not_mem_nil⟩⟩⟩⟩⟩⟩⟩⟩⟩⟩⟩⟩⟩⟩⟩⟩
theorem lw_p64 : lw_okq (⟨"TwoEchoesModel", "keep", "(IIII)V"⟩, 54) := ⟨⟨by decide +kernel, by decide +kernel⟩, List.mem_of_getElem? (i := 1208) (by decide +kernel), List.mem_of_getElem? (i := 1484) (by decide +kernel), List.mem_of_getElem? (i := 1485) (by decide +kernel)⟩
theorem lw_p65 : lw_okq (⟨"TwoEchoesModel", "lessonLine", "(JI)Z"⟩, 54) := ⟨⟨by decide +kernel, by decide +kernel⟩, List.mem_of_getElem? (i := 1208) (by decide +kernel), List.mem_of_getElem? (i := 1488) (by decide +kernel), List.mem_of_getElem? (i := 1489) (by decide +kernel)⟩
theorem lw_p66 : lw_okq (⟨"TwoEchoesModel", "sightLine", "(JI)Z"⟩, 54) := ⟨⟨by decide +kernel, by decide +kernel⟩, List.mem_of_getElem? (i := 1208) (by decide +kernel), List.mem_of_getElem? (i := 1494) (by decide +kernel), List.mem_of_getElem? (i := 1495) (by decide +kernel)⟩
theorem lw_p67 : lw_okq (⟨"TwoEchoesModel", "storeAll", "(II)V"⟩, 54) := ⟨⟨by decide +kernel, by decide +kernel⟩, List.mem_of_getElem? (i := 1208) (by decide +kernel), List.mem_of_getElem? (i := 1500) (by decide +kernel), List.mem_of_getElem? (i := 1501) (by decide +kernel)⟩
theorem lw_p68 : lw_okq (⟨"TwoEchoesModel", "store", "([III)V"⟩, 54) := ⟨⟨by decide +kernel, by decide +kernel⟩, List.mem_of_getElem? (i := 1208) (by decide +kernel), List.mem_of_getElem? (i := 1504) (by decide +kernel), List.mem_of_getElem? (i := 1505) (by decide +kernel)⟩
theorem lw_p69 : lw_okq (⟨"TwoEchoesModel", "hand", "(I)Z"⟩, 54) := ⟨⟨by decide +kernel, by decide +kernel⟩, List.mem_of_getElem? (i := 1208) (by decide +kernel), List.mem_of_getElem? (i := 1516) (by decide +kernel), List.mem_of_getElem? (i := 1517) (by decide +kernel)⟩
theorem lw_p70 : lw_okq (⟨"TwoEchoesModel", "of", "(I)I"⟩, 54) := ⟨⟨by decide +kernel, by decide +kernel⟩, List.mem_of_getElem? (i := 1208) (by decide +kernel), List.mem_of_getElem? (i := 1520) (by decide +kernel), List.mem_of_getElem? (i := 1521) (by decide +kernel)⟩
theorem lw_p71 : lw_okq (⟨"TwoEchoesModel", "isPerson", "(I)Z"⟩, 54) := ⟨⟨by decide +kernel, by decide +kernel⟩, List.mem_of_getElem? (i := 1208) (by decide +kernel), List.mem_of_getElem? (i := 1524) (by decide +kernel), List.mem_of_getElem? (i := 1525) (by decide +kernel)⟩
theorem lw_p72 : lw_okq (⟨"TwoEchoesModel", "isPlace", "(I)Z"⟩, 54) := ⟨⟨by decide +kernel, by decide +kernel⟩, List.mem_of_getElem? (i := 1208) (by decide +kernel), List.mem_of_getElem? (i := 1532) (by decide +kernel), List.mem_of_getElem? (i := 1533) (by decide +kernel)⟩
theorem lw_p73 : lw_okq (⟨"TwoEchoesModel", "comes", "(IIIIII)I"⟩, 54) := ⟨⟨by decide +kernel, by decide +kernel⟩, List.mem_of_getElem? (i := 1208) (by decide +kernel), List.mem_of_getElem? (i := 1539) (by decide +kernel), List.mem_of_getElem? (i := 1540) (by decide +kernel)⟩
theorem lw_p74 : lw_okq (⟨"TwoEchoesModel", "wayOf", "(III)I"⟩, 54) := ⟨⟨by decide +kernel, by decide +kernel⟩, List.mem_of_getElem? (i := 1208) (by decide +kernel), List.mem_of_getElem? (i := 1543) (by decide +kernel), List.mem_of_getElem? (i := 1544) (by decide +kernel)⟩
theorem lw_p75 : lw_okq (⟨"TwoEchoesModel", "isStill", "(II)Z"⟩, 54) := ⟨⟨by decide +kernel, by decide +kernel⟩, List.mem_of_getElem? (i := 1208) (by decide +kernel), List.mem_of_getElem? (i := 1553) (by decide +kernel), List.mem_of_getElem? (i := 1554) (by decide +kernel)⟩
theorem lw_p76 : lw_okq (⟨"TwoEchoesModel", "isSky", "(II)Z"⟩, 54) := ⟨⟨by decide +kernel, by decide +kernel⟩, List.mem_of_getElem? (i := 1208) (by decide +kernel), List.mem_of_getElem? (i := 1557) (by decide +kernel), List.mem_of_getElem? (i := 1558) (by decide +kernel)⟩
theorem lw_p77 : lw_okq (⟨"TwoEchoesModel", "judges", "(II)Z"⟩, 54) := ⟨⟨by decide +kernel, by decide +kernel⟩, List.mem_of_getElem? (i := 1208) (by decide +kernel), List.mem_of_getElem? (i := 1561) (by decide +kernel), List.mem_of_getElem? (i := 1562) (by decide +kernel)⟩
theorem lw_p78 : lw_okq (⟨"TwoEchoesModel", "given", "(III)I"⟩, 54) := ⟨⟨by decide +kernel, by decide +kernel⟩, List.mem_of_getElem? (i := 1208) (by decide +kernel), List.mem_of_getElem? (i := 1569) (by decide +kernel), List.mem_of_getElem? (i := 1570) (by decide +kernel)⟩
theorem lw_p79 : lw_okq (⟨"TwoEchoesModel", "hasDay", "(I)Z"⟩, 54) := ⟨⟨by decide +kernel, by decide +kernel⟩, List.mem_of_getElem? (i := 1208) (by decide +kernel), List.mem_of_getElem? (i := 1577) (by decide +kernel), List.mem_of_getElem? (i := 1578) (by decide +kernel)⟩
def lw_privs_5 : List (MethodName × Nat) := [(⟨"TwoEchoesModel", "keep", "(IIII)V"⟩, 54), (⟨"TwoEchoesModel", "lessonLine", "(JI)Z"⟩, 54), (⟨"TwoEchoesModel", "sightLine", "(JI)Z"⟩, 54), (⟨"TwoEchoesModel", "storeAll", "(II)V"⟩, 54), (⟨"TwoEchoesModel", "store", "([III)V"⟩, 54), (⟨"TwoEchoesModel", "hand", "(I)Z"⟩, 54), (⟨"TwoEchoesModel", "of", "(I)I"⟩, 54), (⟨"TwoEchoesModel", "isPerson", "(I)Z"⟩, 54), (⟨"TwoEchoesModel", "isPlace", "(I)Z"⟩, 54), (⟨"TwoEchoesModel", "comes", "(IIIIII)I"⟩, 54), (⟨"TwoEchoesModel", "wayOf", "(III)I"⟩, 54), (⟨"TwoEchoesModel", "isStill", "(II)Z"⟩, 54), (⟨"TwoEchoesModel", "isSky", "(II)Z"⟩, 54), (⟨"TwoEchoesModel", "judges", "(II)Z"⟩, 54), (⟨"TwoEchoesModel", "given", "(III)I"⟩, 54), (⟨"TwoEchoesModel", "hasDay", "(I)Z"⟩, 54)]
theorem lw_r5 : ∀ q ∈ lw_privs_5, lw_okq q := List.forall_mem_cons.mpr ⟨lw_p64, List.forall_mem_cons.mpr ⟨lw_p65, List.forall_mem_cons.mpr ⟨lw_p66, List.forall_mem_cons.mpr ⟨lw_p67, List.forall_mem_cons.mpr ⟨lw_p68, List.forall_mem_cons.mpr ⟨lw_p69, List.forall_mem_cons.mpr ⟨lw_p70, List.forall_mem_cons.mpr ⟨lw_p71, List.forall_mem_cons.mpr ⟨lw_p72, List.forall_mem_cons.mpr ⟨lw_p73, List.forall_mem_cons.mpr ⟨lw_p74, List.forall_mem_cons.mpr ⟨lw_p75, List.forall_mem_cons.mpr ⟨lw_p76, List.forall_mem_cons.mpr ⟨lw_p77, List.forall_mem_cons.mpr ⟨lw_p78, List.forall_mem_cons.mpr ⟨lw_p79, fun _ h => absurd h List.not_mem_nil⟩⟩⟩⟩⟩⟩⟩⟩⟩⟩⟩⟩⟩⟩⟩⟩
theorem lw_p80 : lw_okq (⟨"TwoEchoesModel", "deeds", "()I"⟩, 54) := ⟨⟨by decide +kernel, by decide +kernel⟩, List.mem_of_getElem? (i := 1208) (by decide +kernel), List.mem_of_getElem? (i := 1581) (by decide +kernel), List.mem_of_getElem? (i := 1582) (by decide +kernel)⟩
theorem lw_p81 : lw_okq (⟨"TwoEchoesModel", "deedOf", "(II)I"⟩, 54) := ⟨⟨by decide +kernel, by decide +kernel⟩, List.mem_of_getElem? (i := 1208) (by decide +kernel), List.mem_of_getElem? (i := 1585) (by decide +kernel), List.mem_of_getElem? (i := 1586) (by decide +kernel)⟩
theorem lw_p82 : lw_okq (⟨"TwoEchoesModel", "layAll", "(II)Z"⟩, 54) := ⟨⟨by decide +kernel, by decide +kernel⟩, List.mem_of_getElem? (i := 1208) (by decide +kernel), List.mem_of_getElem? (i := 1593) (by decide +kernel), List.mem_of_getElem? (i := 1594) (by decide +kernel)⟩
theorem lw_p83 : lw_okq (⟨"TwoEchoesModel", "play", "(I)I"⟩, 54) := ⟨⟨by decide +kernel, by decide +kernel⟩, List.mem_of_getElem? (i := 1208) (by decide +kernel), List.mem_of_getElem? (i := 1597) (by decide +kernel), List.mem_of_getElem? (i := 1598) (by decide +kernel)⟩
theorem lw_p84 : lw_okq (⟨"TwoEchoesModel", "begin", "()V"⟩, 54) := ⟨⟨by decide +kernel, by decide +kernel⟩, List.mem_of_getElem? (i := 1208) (by decide +kernel), List.mem_of_getElem? (i := 1601) (by decide +kernel), List.mem_of_getElem? (i := 1602) (by decide +kernel)⟩
theorem lw_p85 : lw_okq (⟨"TwoEchoesModel", "does", "(I)Z"⟩, 54) := ⟨⟨by decide +kernel, by decide +kernel⟩, List.mem_of_getElem? (i := 1208) (by decide +kernel), List.mem_of_getElem? (i := 1605) (by decide +kernel), List.mem_of_getElem? (i := 1606) (by decide +kernel)⟩
theorem lw_p86 : lw_okq (⟨"TwoEchoesModel", "waits", "(I)Z"⟩, 54) := ⟨⟨by decide +kernel, by decide +kernel⟩, List.mem_of_getElem? (i := 1208) (by decide +kernel), List.mem_of_getElem? (i := 1609) (by decide +kernel), List.mem_of_getElem? (i := 1610) (by decide +kernel)⟩
theorem lw_p87 : lw_okq (⟨"TwoEchoesModel", "passes", "(II)V"⟩, 54) := ⟨⟨by decide +kernel, by decide +kernel⟩, List.mem_of_getElem? (i := 1208) (by decide +kernel), List.mem_of_getElem? (i := 1613) (by decide +kernel), List.mem_of_getElem? (i := 1614) (by decide +kernel)⟩
theorem lw_p88 : lw_okq (⟨"TwoEchoesModel", "walks", "(II)Z"⟩, 54) := ⟨⟨by decide +kernel, by decide +kernel⟩, List.mem_of_getElem? (i := 1208) (by decide +kernel), List.mem_of_getElem? (i := 1617) (by decide +kernel), List.mem_of_getElem? (i := 1618) (by decide +kernel)⟩
theorem lw_p89 : lw_okq (⟨"TwoEchoesModel", "says", "(III)V"⟩, 54) := ⟨⟨by decide +kernel, by decide +kernel⟩, List.mem_of_getElem? (i := 1208) (by decide +kernel), List.mem_of_getElem? (i := 1621) (by decide +kernel), List.mem_of_getElem? (i := 1622) (by decide +kernel)⟩
theorem lw_p90 : lw_okq (⟨"TwoEchoesModel", "ofState", "(I)I"⟩, 54) := ⟨⟨by decide +kernel, by decide +kernel⟩, List.mem_of_getElem? (i := 1208) (by decide +kernel), List.mem_of_getElem? (i := 1629) (by decide +kernel), List.mem_of_getElem? (i := 1630) (by decide +kernel)⟩
theorem lw_p91 : lw_okq (⟨"TwoEchoesModel", "findHeard", "()V"⟩, 54) := ⟨⟨by decide +kernel, by decide +kernel⟩, List.mem_of_getElem? (i := 1208) (by decide +kernel), List.mem_of_getElem? (i := 1633) (by decide +kernel), List.mem_of_getElem? (i := 1634) (by decide +kernel)⟩
theorem lw_p92 : lw_okq (⟨"TwoEchoesModel", "hears", "(III)I"⟩, 54) := ⟨⟨by decide +kernel, by decide +kernel⟩, List.mem_of_getElem? (i := 1208) (by decide +kernel), List.mem_of_getElem? (i := 1637) (by decide +kernel), List.mem_of_getElem? (i := 1638) (by decide +kernel)⟩
theorem lw_p93 : lw_okq (⟨"TwoEchoesModel", "ofPerson", "(II)I"⟩, 54) := ⟨⟨by decide +kernel, by decide +kernel⟩, List.mem_of_getElem? (i := 1208) (by decide +kernel), List.mem_of_getElem? (i := 1641) (by decide +kernel), List.mem_of_getElem? (i := 1642) (by decide +kernel)⟩
theorem lw_p94 : lw_okq (⟨"TwoEchoesModel", "isHeardBy", "(IIII)Z"⟩, 54) := ⟨⟨by decide +kernel, by decide +kernel⟩, List.mem_of_getElem? (i := 1208) (by decide +kernel), List.mem_of_getElem? (i := 1649) (by decide +kernel), List.mem_of_getElem? (i := 1650) (by decide +kernel)⟩
theorem lw_p95 : lw_okq (⟨"TwoEchoesModel", "reaches", "(IIIII)Z"⟩, 54) := ⟨⟨by decide +kernel, by decide +kernel⟩, List.mem_of_getElem? (i := 1208) (by decide +kernel), List.mem_of_getElem? (i := 1656) (by decide +kernel), List.mem_of_getElem? (i := 1657) (by decide +kernel)⟩
def lw_privs_6 : List (MethodName × Nat) := [(⟨"TwoEchoesModel", "deeds", "()I"⟩, 54), (⟨"TwoEchoesModel", "deedOf", "(II)I"⟩, 54), (⟨"TwoEchoesModel", "layAll", "(II)Z"⟩, 54), (⟨"TwoEchoesModel", "play", "(I)I"⟩, 54), (⟨"TwoEchoesModel", "begin", "()V"⟩, 54), (⟨"TwoEchoesModel", "does", "(I)Z"⟩, 54), (⟨"TwoEchoesModel", "waits", "(I)Z"⟩, 54), (⟨"TwoEchoesModel", "passes", "(II)V"⟩, 54), (⟨"TwoEchoesModel", "walks", "(II)Z"⟩, 54), (⟨"TwoEchoesModel", "says", "(III)V"⟩, 54), (⟨"TwoEchoesModel", "ofState", "(I)I"⟩, 54), (⟨"TwoEchoesModel", "findHeard", "()V"⟩, 54), (⟨"TwoEchoesModel", "hears", "(III)I"⟩, 54), (⟨"TwoEchoesModel", "ofPerson", "(II)I"⟩, 54), (⟨"TwoEchoesModel", "isHeardBy", "(IIII)Z"⟩, 54), (⟨"TwoEchoesModel", "reaches", "(IIIII)Z"⟩, 54)]
theorem lw_r6 : ∀ q ∈ lw_privs_6, lw_okq q := List.forall_mem_cons.mpr ⟨lw_p80, List.forall_mem_cons.mpr ⟨lw_p81, List.forall_mem_cons.mpr ⟨lw_p82, List.forall_mem_cons.mpr ⟨lw_p83, List.forall_mem_cons.mpr ⟨lw_p84, List.forall_mem_cons.mpr ⟨lw_p85, List.forall_mem_cons.mpr ⟨lw_p86, List.forall_mem_cons.mpr ⟨lw_p87, List.forall_mem_cons.mpr ⟨lw_p88, List.forall_mem_cons.mpr ⟨lw_p89, List.forall_mem_cons.mpr ⟨lw_p90, List.forall_mem_cons.mpr ⟨lw_p91, List.forall_mem_cons.mpr ⟨lw_p92, List.forall_mem_cons.mpr ⟨lw_p93, List.forall_mem_cons.mpr ⟨lw_p94, List.forall_mem_cons.mpr ⟨lw_p95, fun _ h => absurd h List.not_mem_nil⟩⟩⟩⟩⟩⟩⟩⟩⟩⟩⟩⟩⟩⟩⟩⟩
theorem lw_p96 : lw_okq (⟨"TwoEchoesModel", "layMarket", "()V"⟩, 54) := ⟨⟨by decide +kernel, by decide +kernel⟩, List.mem_of_getElem? (i := 1208) (by decide +kernel), List.mem_of_getElem? (i := 1676) (by decide +kernel), List.mem_of_getElem? (i := 1677) (by decide +kernel)⟩
theorem lw_p97 : lw_okq (⟨"TwoEchoesModel", "isKind", "(II)Z"⟩, 54) := ⟨⟨by decide +kernel, by decide +kernel⟩, List.mem_of_getElem? (i := 1208) (by decide +kernel), List.mem_of_getElem? (i := 1680) (by decide +kernel), List.mem_of_getElem? (i := 1681) (by decide +kernel)⟩
theorem lw_p98 : lw_okq (⟨"TwoEchoesModel", "rankOf", "(IZ)I"⟩, 54) := ⟨⟨by decide +kernel, by decide +kernel⟩, List.mem_of_getElem? (i := 1208) (by decide +kernel), List.mem_of_getElem? (i := 1684) (by decide +kernel), List.mem_of_getElem? (i := 1685) (by decide +kernel)⟩
theorem lw_p99 : lw_okq (⟨"TwoEchoesModel", "clears", "(I)Z"⟩, 54) := ⟨⟨by decide +kernel, by decide +kernel⟩, List.mem_of_getElem? (i := 1208) (by decide +kernel), List.mem_of_getElem? (i := 1688) (by decide +kernel), List.mem_of_getElem? (i := 1689) (by decide +kernel)⟩
theorem lw_p100 : lw_okq (⟨"TwoEchoesModel", "treeOf", "(I)I"⟩, 54) := ⟨⟨by decide +kernel, by decide +kernel⟩, List.mem_of_getElem? (i := 1208) (by decide +kernel), List.mem_of_getElem? (i := 1710) (by decide +kernel), List.mem_of_getElem? (i := 1711) (by decide +kernel)⟩
theorem lw_p101 : lw_okq (⟨"TwoEchoesModel", "heavy", "(I)I"⟩, 54) := ⟨⟨by decide +kernel, by decide +kernel⟩, List.mem_of_getElem? (i := 1208) (by decide +kernel), List.mem_of_getElem? (i := 1714) (by decide +kernel), List.mem_of_getElem? (i := 1715) (by decide +kernel)⟩
theorem lw_p102 : lw_okq (⟨"TwoEchoesModel", "hasLesson", "(I)Z"⟩, 54) := ⟨⟨by decide +kernel, by decide +kernel⟩, List.mem_of_getElem? (i := 1208) (by decide +kernel), List.mem_of_getElem? (i := 1723) (by decide +kernel), List.mem_of_getElem? (i := 1724) (by decide +kernel)⟩
theorem lw_p103 : lw_okq (⟨"TwoEchoesModel", "lessonOf", "(I)I"⟩, 54) := ⟨⟨by decide +kernel, by decide +kernel⟩, List.mem_of_getElem? (i := 1208) (by decide +kernel), List.mem_of_getElem? (i := 1727) (by decide +kernel), List.mem_of_getElem? (i := 1728) (by decide +kernel)⟩
theorem lw_p104 : lw_okq (⟨"TwoEchoesModel", "fits", "(I)Z"⟩, 54) := ⟨⟨by decide +kernel, by decide +kernel⟩, List.mem_of_getElem? (i := 1208) (by decide +kernel), List.mem_of_getElem? (i := 1735) (by decide +kernel), List.mem_of_getElem? (i := 1736) (by decide +kernel)⟩
theorem lw_p105 : lw_okq (⟨"TwoEchoesModel", "wrongs", "(I)I"⟩, 54) := ⟨⟨by decide +kernel, by decide +kernel⟩, List.mem_of_getElem? (i := 1208) (by decide +kernel), List.mem_of_getElem? (i := 1739) (by decide +kernel), List.mem_of_getElem? (i := 1740) (by decide +kernel)⟩
theorem lw_p106 : lw_okq (⟨"TwoEchoesModel", "comesOf", "(II)I"⟩, 54) := ⟨⟨by decide +kernel, by decide +kernel⟩, List.mem_of_getElem? (i := 1208) (by decide +kernel), List.mem_of_getElem? (i := 1746) (by decide +kernel), List.mem_of_getElem? (i := 1747) (by decide +kernel)⟩
theorem lw_p107 : lw_okq (⟨"TwoEchoesModel", "findGroups", "(I)V"⟩, 54) := ⟨⟨by decide +kernel, by decide +kernel⟩, List.mem_of_getElem? (i := 1208) (by decide +kernel), List.mem_of_getElem? (i := 1750) (by decide +kernel), List.mem_of_getElem? (i := 1751) (by decide +kernel)⟩
theorem lw_p108 : lw_okq (⟨"TwoEchoesModel", "largest", "(I)I"⟩, 54) := ⟨⟨by decide +kernel, by decide +kernel⟩, List.mem_of_getElem? (i := 1208) (by decide +kernel), List.mem_of_getElem? (i := 1754) (by decide +kernel), List.mem_of_getElem? (i := 1755) (by decide +kernel)⟩
theorem lw_p109 : lw_okq (⟨"TwoEchoesModel", "hasSight", "(I)Z"⟩, 54) := ⟨⟨by decide +kernel, by decide +kernel⟩, List.mem_of_getElem? (i := 1208) (by decide +kernel), List.mem_of_getElem? (i := 1762) (by decide +kernel), List.mem_of_getElem? (i := 1763) (by decide +kernel)⟩
theorem lw_p110 : lw_okq (⟨"TwoEchoesModel", "facts", "()I"⟩, 54) := ⟨⟨by decide +kernel, by decide +kernel⟩, List.mem_of_getElem? (i := 1208) (by decide +kernel), List.mem_of_getElem? (i := 1766) (by decide +kernel), List.mem_of_getElem? (i := 1767) (by decide +kernel)⟩
theorem lw_p111 : lw_okq (⟨"TwoEchoesModel", "factOf", "(II)I"⟩, 54) := ⟨⟨by decide +kernel, by decide +kernel⟩, List.mem_of_getElem? (i := 1208) (by decide +kernel), List.mem_of_getElem? (i := 1770) (by decide +kernel), List.mem_of_getElem? (i := 1771) (by decide +kernel)⟩
def lw_privs_7 : List (MethodName × Nat) := [(⟨"TwoEchoesModel", "layMarket", "()V"⟩, 54), (⟨"TwoEchoesModel", "isKind", "(II)Z"⟩, 54), (⟨"TwoEchoesModel", "rankOf", "(IZ)I"⟩, 54), (⟨"TwoEchoesModel", "clears", "(I)Z"⟩, 54), (⟨"TwoEchoesModel", "treeOf", "(I)I"⟩, 54), (⟨"TwoEchoesModel", "heavy", "(I)I"⟩, 54), (⟨"TwoEchoesModel", "hasLesson", "(I)Z"⟩, 54), (⟨"TwoEchoesModel", "lessonOf", "(I)I"⟩, 54), (⟨"TwoEchoesModel", "fits", "(I)Z"⟩, 54), (⟨"TwoEchoesModel", "wrongs", "(I)I"⟩, 54), (⟨"TwoEchoesModel", "comesOf", "(II)I"⟩, 54), (⟨"TwoEchoesModel", "findGroups", "(I)V"⟩, 54), (⟨"TwoEchoesModel", "largest", "(I)I"⟩, 54), (⟨"TwoEchoesModel", "hasSight", "(I)Z"⟩, 54), (⟨"TwoEchoesModel", "facts", "()I"⟩, 54), (⟨"TwoEchoesModel", "factOf", "(II)I"⟩, 54)]
theorem lw_r7 : ∀ q ∈ lw_privs_7, lw_okq q := List.forall_mem_cons.mpr ⟨lw_p96, List.forall_mem_cons.mpr ⟨lw_p97, List.forall_mem_cons.mpr ⟨lw_p98, List.forall_mem_cons.mpr ⟨lw_p99, List.forall_mem_cons.mpr ⟨lw_p100, List.forall_mem_cons.mpr ⟨lw_p101, List.forall_mem_cons.mpr ⟨lw_p102, List.forall_mem_cons.mpr ⟨lw_p103, List.forall_mem_cons.mpr ⟨lw_p104, List.forall_mem_cons.mpr ⟨lw_p105, List.forall_mem_cons.mpr ⟨lw_p106, List.forall_mem_cons.mpr ⟨lw_p107, List.forall_mem_cons.mpr ⟨lw_p108, List.forall_mem_cons.mpr ⟨lw_p109, List.forall_mem_cons.mpr ⟨lw_p110, List.forall_mem_cons.mpr ⟨lw_p111, fun _ h => absurd h List.not_mem_nil⟩⟩⟩⟩⟩⟩⟩⟩⟩⟩⟩⟩⟩⟩⟩⟩
theorem lw_p112 : lw_okq (⟨"TwoEchoesModel", "laySight", "(II)Z"⟩, 54) := ⟨⟨by decide +kernel, by decide +kernel⟩, List.mem_of_getElem? (i := 1208) (by decide +kernel), List.mem_of_getElem? (i := 1778) (by decide +kernel), List.mem_of_getElem? (i := 1779) (by decide +kernel)⟩
theorem lw_p113 : lw_okq (⟨"TwoEchoesModel", "findSaid", "(I)I"⟩, 54) := ⟨⟨by decide +kernel, by decide +kernel⟩, List.mem_of_getElem? (i := 1208) (by decide +kernel), List.mem_of_getElem? (i := 1782) (by decide +kernel), List.mem_of_getElem? (i := 1783) (by decide +kernel)⟩
theorem lw_p114 : lw_okq (⟨"TwoEchoesModel", "isSo", "(III)Z"⟩, 54) := ⟨⟨by decide +kernel, by decide +kernel⟩, List.mem_of_getElem? (i := 1208) (by decide +kernel), List.mem_of_getElem? (i := 1786) (by decide +kernel), List.mem_of_getElem? (i := 1787) (by decide +kernel)⟩
theorem lw_p115 : lw_okq (⟨"TwoEchoesModel", "listens", "(III)V"⟩, 54) := ⟨⟨by decide +kernel, by decide +kernel⟩, List.mem_of_getElem? (i := 1208) (by decide +kernel), List.mem_of_getElem? (i := 1794) (by decide +kernel), List.mem_of_getElem? (i := 1795) (by decide +kernel)⟩
theorem lw_p116 : lw_okq (⟨"TwoEchoesModel", "drawDeed", "()V"⟩, 54) := ⟨⟨by decide +kernel, by decide +kernel⟩, List.mem_of_getElem? (i := 1208) (by decide +kernel), List.mem_of_getElem? (i := 1802) (by decide +kernel), List.mem_of_getElem? (i := 1803) (by decide +kernel)⟩
theorem lw_p117 : lw_okq (⟨"TwoEchoesModel", "draw", "(I)I"⟩, 54) := ⟨⟨by decide +kernel, by decide +kernel⟩, List.mem_of_getElem? (i := 1208) (by decide +kernel), List.mem_of_getElem? (i := 1806) (by decide +kernel), List.mem_of_getElem? (i := 1807) (by decide +kernel)⟩
theorem lw_p118 : lw_okq (⟨"TwoEchoesModel", "ringOf", "(I)I"⟩, 54) := ⟨⟨by decide +kernel, by decide +kernel⟩, List.mem_of_getElem? (i := 1208) (by decide +kernel), List.mem_of_getElem? (i := 1815) (by decide +kernel), List.mem_of_getElem? (i := 1816) (by decide +kernel)⟩
theorem lw_p119 : lw_okq (⟨"TwoEchoesModel", "isFirst", "(I)Z"⟩, 54) := ⟨⟨by decide +kernel, by decide +kernel⟩, List.mem_of_getElem? (i := 1208) (by decide +kernel), List.mem_of_getElem? (i := 1819) (by decide +kernel), List.mem_of_getElem? (i := 1820) (by decide +kernel)⟩
theorem lw_p120 : lw_okq (⟨"TwoEchoesModel", "findSoon", "(IIZ)V"⟩, 54) := ⟨⟨by decide +kernel, by decide +kernel⟩, List.mem_of_getElem? (i := 1208) (by decide +kernel), List.mem_of_getElem? (i := 1832) (by decide +kernel), List.mem_of_getElem? (i := 1833) (by decide +kernel)⟩
theorem lw_p121 : lw_okq (⟨"TwoEchoesModel", "areGuarded", "(II)Z"⟩, 54) := ⟨⟨by decide +kernel, by decide +kernel⟩, List.mem_of_getElem? (i := 1208) (by decide +kernel), List.mem_of_getElem? (i := 1840) (by decide +kernel), List.mem_of_getElem? (i := 1841) (by decide +kernel)⟩
theorem lw_p122 : lw_okq (⟨"TwoEchoesModel", "together", "(I)I"⟩, 54) := ⟨⟨by decide +kernel, by decide +kernel⟩, List.mem_of_getElem? (i := 1208) (by decide +kernel), List.mem_of_getElem? (i := 1851) (by decide +kernel), List.mem_of_getElem? (i := 1852) (by decide +kernel)⟩
theorem lw_p123 : lw_okq (⟨"TwoEchoesModel", "furthest", "(I)I"⟩, 54) := ⟨⟨by decide +kernel, by decide +kernel⟩, List.mem_of_getElem? (i := 1208) (by decide +kernel), List.mem_of_getElem? (i := 1855) (by decide +kernel), List.mem_of_getElem? (i := 1856) (by decide +kernel)⟩
theorem lw_p124 : lw_okq (⟨"TwoEchoesModel", "asksOn", "(I)Z"⟩, 54) := ⟨⟨by decide +kernel, by decide +kernel⟩, List.mem_of_getElem? (i := 1208) (by decide +kernel), List.mem_of_getElem? (i := 1875) (by decide +kernel), List.mem_of_getElem? (i := 1876) (by decide +kernel)⟩
theorem lw_p125 : lw_okq (⟨"TwoEchoesModel", "nextFor", "(I)I"⟩, 54) := ⟨⟨by decide +kernel, by decide +kernel⟩, List.mem_of_getElem? (i := 1208) (by decide +kernel), List.mem_of_getElem? (i := 1879) (by decide +kernel), List.mem_of_getElem? (i := 1880) (by decide +kernel)⟩
theorem lw_p126 : lw_okq (⟨"TwoEchoesModel", "isNearer", "(III)Z"⟩, 54) := ⟨⟨by decide +kernel, by decide +kernel⟩, List.mem_of_getElem? (i := 1208) (by decide +kernel), List.mem_of_getElem? (i := 1883) (by decide +kernel), List.mem_of_getElem? (i := 1884) (by decide +kernel)⟩
theorem lw_p127 : lw_okq (⟨"TwoEchoesModel", "copyAll", "(II)V"⟩, 54) := ⟨⟨by decide +kernel, by decide +kernel⟩, List.mem_of_getElem? (i := 1208) (by decide +kernel), List.mem_of_getElem? (i := 1895) (by decide +kernel), List.mem_of_getElem? (i := 1896) (by decide +kernel)⟩
def lw_privs_8 : List (MethodName × Nat) := [(⟨"TwoEchoesModel", "laySight", "(II)Z"⟩, 54), (⟨"TwoEchoesModel", "findSaid", "(I)I"⟩, 54), (⟨"TwoEchoesModel", "isSo", "(III)Z"⟩, 54), (⟨"TwoEchoesModel", "listens", "(III)V"⟩, 54), (⟨"TwoEchoesModel", "drawDeed", "()V"⟩, 54), (⟨"TwoEchoesModel", "draw", "(I)I"⟩, 54), (⟨"TwoEchoesModel", "ringOf", "(I)I"⟩, 54), (⟨"TwoEchoesModel", "isFirst", "(I)Z"⟩, 54), (⟨"TwoEchoesModel", "findSoon", "(IIZ)V"⟩, 54), (⟨"TwoEchoesModel", "areGuarded", "(II)Z"⟩, 54), (⟨"TwoEchoesModel", "together", "(I)I"⟩, 54), (⟨"TwoEchoesModel", "furthest", "(I)I"⟩, 54), (⟨"TwoEchoesModel", "asksOn", "(I)Z"⟩, 54), (⟨"TwoEchoesModel", "nextFor", "(I)I"⟩, 54), (⟨"TwoEchoesModel", "isNearer", "(III)Z"⟩, 54), (⟨"TwoEchoesModel", "copyAll", "(II)V"⟩, 54)]
theorem lw_r8 : ∀ q ∈ lw_privs_8, lw_okq q := List.forall_mem_cons.mpr ⟨lw_p112, List.forall_mem_cons.mpr ⟨lw_p113, List.forall_mem_cons.mpr ⟨lw_p114, List.forall_mem_cons.mpr ⟨lw_p115, List.forall_mem_cons.mpr ⟨lw_p116, List.forall_mem_cons.mpr ⟨lw_p117, List.forall_mem_cons.mpr ⟨lw_p118, List.forall_mem_cons.mpr ⟨lw_p119, List.forall_mem_cons.mpr ⟨lw_p120, List.forall_mem_cons.mpr ⟨lw_p121, List.forall_mem_cons.mpr ⟨lw_p122, List.forall_mem_cons.mpr ⟨lw_p123, List.forall_mem_cons.mpr ⟨lw_p124, List.forall_mem_cons.mpr ⟨lw_p125, List.forall_mem_cons.mpr ⟨lw_p126, List.forall_mem_cons.mpr ⟨lw_p127, fun _ h => absurd h List.not_mem_nil⟩⟩⟩⟩⟩⟩⟩⟩⟩⟩⟩⟩⟩⟩⟩⟩
def lw_privs : List (MethodName × Nat) := lw_privs_1 ++ (lw_privs_2 ++ (lw_privs_3 ++ (lw_privs_4 ++ (lw_privs_5 ++ (lw_privs_6 ++ (lw_privs_7 ++ (lw_privs_8)))))))
def lw_tbl : List Cond := k2_sels lw_privs ++ tables_1
theorem lw_privs_ok : ∀ q ∈ lw_privs, lw_okq q := by
  show ∀ q ∈ lw_privs_1 ++ (lw_privs_2 ++ (lw_privs_3 ++ (lw_privs_4 ++ (lw_privs_5 ++ (lw_privs_6 ++ (lw_privs_7 ++ (lw_privs_8))))))), lw_okq q
  exact List.forall_mem_append.mpr ⟨lw_r1, List.forall_mem_append.mpr ⟨lw_r2, List.forall_mem_append.mpr ⟨lw_r3, List.forall_mem_append.mpr ⟨lw_r4, List.forall_mem_append.mpr ⟨lw_r5, List.forall_mem_append.mpr ⟨lw_r6, List.forall_mem_append.mpr ⟨lw_r7, lw_r8⟩⟩⟩⟩⟩⟩⟩
end
section
def RX0 : String := "TwoEchoes$Company"
def TX0 : u_T := fun k => match k with
  | 0 => ("TwoEchoes$Company", "reached", "[I", true)
  | 1 => ("TwoEchoes$Company", "partner", "[I", true)
  | _ => ("TwoEchoes$Company", "asked", "[I", true)
def tyX0 : Nat → FieldType := fun k => match k with
  | 0 => .array .int
  | 1 => .array .int
  | _ => .array .int
theorem nmX0 : ∀ a, a < 3 → ∀ b, b < 3 → a ≠ b → (TX0 a).2.1 ≠ (TX0 b).2.1 := by decide +kernel
theorem tyX0_ok : ∀ k, k < 3 → parseFieldDescriptor (TX0 k).2.2.1 = some (tyX0 k) := by decide +kernel
abbrev cX0_init : ByteArray := prog_2_method_1_code
def yX0_init : MethodName := ⟨RX0, "<init>", "()V"⟩
abbrev cX0_isSilent : ByteArray := prog_2_method_2_code
def yX0_isSilent : MethodName := ⟨RX0, "isSilent", "(LTwoEchoes$Valley;IIII)Z"⟩
abbrev cX0_silentPlaces : ByteArray := prog_2_method_3_code
def yX0_silentPlaces : MethodName := ⟨RX0, "silentPlaces", "(LTwoEchoes$Valley;III)I"⟩
abbrev cX0_leastSilent : ByteArray := prog_2_method_4_code
def yX0_leastSilent : MethodName := ⟨RX0, "leastSilent", "(LTwoEchoes$Valley;III)I"⟩
abbrev cX0_judgedHearers : ByteArray := prog_2_method_5_code
def yX0_judgedHearers : MethodName := ⟨RX0, "judgedHearers", "(LTwoEchoes$Valley;III)I"⟩
abbrev cX0_fullestPlace : ByteArray := prog_2_method_6_code
def yX0_fullestPlace : MethodName := ⟨RX0, "fullestPlace", "(LTwoEchoes$Valley;II)I"⟩
abbrev cX0_apart : ByteArray := prog_2_method_7_code
def yX0_apart : MethodName := ⟨RX0, "apart", "(LTwoEchoes$Valley;II)I"⟩
abbrev cX0_reach : ByteArray := prog_2_method_8_code
def yX0_reach : MethodName := ⟨RX0, "reach", "(LTwoEchoes$Valley;IIZ)V"⟩
abbrev cX0_sayOn : ByteArray := prog_2_method_9_code
def yX0_sayOn : MethodName := ⟨RX0, "sayOn", "(LTwoEchoes$Valley;IIZ)V"⟩
abbrev cX0_howManyReached : ByteArray := prog_2_method_10_code
def yX0_howManyReached : MethodName := ⟨RX0, "howManyReached", "()I"⟩
abbrev cX0_lastReached : ByteArray := prog_2_method_11_code
def yX0_lastReached : MethodName := ⟨RX0, "lastReached", "()I"⟩
abbrev cX0_fewestGuards : ByteArray := prog_2_method_12_code
def yX0_fewestGuards : MethodName := ⟨RX0, "fewestGuards", "(LTwoEchoes$Valley;I)I"⟩
abbrev cX0_areGuards : ByteArray := prog_2_method_13_code
def yX0_areGuards : MethodName := ⟨RX0, "areGuards", "(LTwoEchoes$Valley;II)Z"⟩
abbrev cX0_isGuarded : ByteArray := prog_2_method_14_code
def yX0_isGuarded : MethodName := ⟨RX0, "isGuarded", "(LTwoEchoes$Valley;III)Z"⟩
abbrev cX0_nearestPlace : ByteArray := prog_2_method_15_code
def yX0_nearestPlace : MethodName := ⟨RX0, "nearestPlace", "(LTwoEchoes$Valley;Z)I"⟩
abbrev cX0_farness : ByteArray := prog_2_method_16_code
def yX0_farness : MethodName := ⟨RX0, "farness", "(LTwoEchoes$Valley;IZ)I"⟩
abbrev cX0_match : ByteArray := prog_2_method_17_code
def yX0_match : MethodName := ⟨RX0, "match", "(LTwoEchoes$Valley;)V"⟩
abbrev cX0_nextAsker : ByteArray := prog_2_method_18_code
def yX0_nextAsker : MethodName := ⟨RX0, "nextAsker", "(LTwoEchoes$Valley;)I"⟩
abbrev cX0_nearestUnasked : ByteArray := prog_2_method_19_code
def yX0_nearestUnasked : MethodName := ⟨RX0, "nearestUnasked", "(LTwoEchoes$Valley;I)I"⟩
abbrev cX0_ask : ByteArray := prog_2_method_20_code
def yX0_ask : MethodName := ⟨RX0, "ask", "(LTwoEchoes$Valley;II)V"⟩
abbrev cX0_isNearer : ByteArray := prog_2_method_21_code
def yX0_isNearer : MethodName := ⟨RX0, "isNearer", "(LTwoEchoes$Valley;III)Z"⟩
def RX1 : String := "TwoEchoes$Course"
def TX1 : u_T := fun k => match k with
  | 0 => ("TwoEchoes$Course", "now", "I", false)
  | 1 => ("TwoEchoes$Course", "sayings", "I", false)
  | 2 => ("TwoEchoes$Course", "x", "I", false)
  | 3 => ("TwoEchoes$Course", "places", "[I", true)
  | 4 => ("TwoEchoes$Course", "words", "[I", true)
  | _ => ("TwoEchoes$Course", "hearings", "[I", true)
def tyX1 : Nat → FieldType := fun k => match k with
  | 0 => .int
  | 1 => .int
  | 2 => .int
  | 3 => .array .int
  | 4 => .array .int
  | _ => .array .int
theorem nmX1 : ∀ a, a < 6 → ∀ b, b < 6 → a ≠ b → (TX1 a).2.1 ≠ (TX1 b).2.1 := by decide +kernel
theorem tyX1_ok : ∀ k, k < 6 → parseFieldDescriptor (TX1 k).2.2.1 = some (tyX1 k) := by decide +kernel
abbrev cX1_init : ByteArray := prog_3_method_1_code
def yX1_init : MethodName := ⟨RX1, "<init>", "()V"⟩
abbrev cX1_follow : ByteArray := prog_3_method_2_code
def yX1_follow : MethodName := ⟨RX1, "follow", "(LTwoEchoes$Valley;LTwoEchoes$Day;I)I"⟩
abbrev cX1_draw : ByteArray := prog_3_method_3_code
def yX1_draw : MethodName := ⟨RX1, "draw", "(LTwoEchoes$Valley;II)V"⟩
abbrev cX1_below : ByteArray := prog_3_method_4_code
def yX1_below : MethodName := ⟨RX1, "below", "(I)I"⟩
abbrev cX1_begin : ByteArray := prog_3_method_5_code
def yX1_begin : MethodName := ⟨RX1, "begin", "(LTwoEchoes$Valley;)V"⟩
abbrev cX1_perform : ByteArray := prog_3_method_6_code
def yX1_perform : MethodName := ⟨RX1, "perform", "(LTwoEchoes$Valley;III)Z"⟩
abbrev cX1_pass : ByteArray := prog_3_method_7_code
def yX1_pass : MethodName := ⟨RX1, "pass", "(I)Z"⟩
abbrev cX1_walk : ByteArray := prog_3_method_8_code
def yX1_walk : MethodName := ⟨RX1, "walk", "(LTwoEchoes$Valley;II)Z"⟩
abbrev cX1_speak : ByteArray := prog_3_method_9_code
def yX1_speak : MethodName := ⟨RX1, "speak", "(LTwoEchoes$Valley;III)V"⟩
abbrev cX1_hear : ByteArray := prog_3_method_10_code
def yX1_hear : MethodName := ⟨RX1, "hear", "(III)V"⟩
abbrev cX1_tell : ByteArray := prog_3_method_11_code
def yX1_tell : MethodName := ⟨RX1, "tell", "(LTwoEchoes$Valley;I)I"⟩
abbrev cX1_tellPerson : ByteArray := prog_3_method_12_code
def yX1_tellPerson : MethodName := ⟨RX1, "tellPerson", "(II)I"⟩
abbrev cX1_isClash : ByteArray := prog_3_method_13_code
def yX1_isClash : MethodName := ⟨RX1, "isClash", "(II)Z"⟩
abbrev cX1_clashes : ByteArray := prog_3_method_14_code
def yX1_clashes : MethodName := ⟨RX1, "clashes", "(LTwoEchoes$Valley;)I"⟩
abbrev cX1_firstClash : ByteArray := prog_3_method_15_code
def yX1_firstClash : MethodName := ⟨RX1, "firstClash", "(LTwoEchoes$Valley;Z)I"⟩
abbrev cX1_wordsHeard : ByteArray := prog_3_method_16_code
def yX1_wordsHeard : MethodName := ⟨RX1, "wordsHeard", "(I)I"⟩
abbrev cX1_howOften : ByteArray := prog_3_method_17_code
def yX1_howOften : MethodName := ⟨RX1, "howOften", "(I)I"⟩
abbrev cX1_firstHearing : ByteArray := prog_3_method_18_code
def yX1_firstHearing : MethodName := ⟨RX1, "firstHearing", "(I)I"⟩
def RX2 : String := "TwoEchoes$Day"
def TX2 : u_T := fun k => match k with
  | 0 => ("TwoEchoes$Day", "deeds", "I", false)
  | 1 => ("TwoEchoes$Day", "act", "[I", true)
  | 2 => ("TwoEchoes$Day", "first", "[I", true)
  | _ => ("TwoEchoes$Day", "second", "[I", true)
def tyX2 : Nat → FieldType := fun k => match k with
  | 0 => .int
  | 1 => .array .int
  | 2 => .array .int
  | _ => .array .int
theorem nmX2 : ∀ a, a < 4 → ∀ b, b < 4 → a ≠ b → (TX2 a).2.1 ≠ (TX2 b).2.1 := by decide +kernel
theorem tyX2_ok : ∀ k, k < 4 → parseFieldDescriptor (TX2 k).2.2.1 = some (tyX2 k) := by decide +kernel
abbrev cX2_init : ByteArray := prog_4_method_1_code
def yX2_init : MethodName := ⟨RX2, "<init>", "()V"⟩
abbrev cX2_clear : ByteArray := prog_4_method_2_code
def yX2_clear : MethodName := ⟨RX2, "clear", "()V"⟩
abbrev cX2_copyFrom : ByteArray := prog_4_method_3_code
def yX2_copyFrom : MethodName := ⟨RX2, "copyFrom", "(LTwoEchoes$Day;)V"⟩
abbrev cX2_add : ByteArray := prog_4_method_4_code
def yX2_add : MethodName := ⟨RX2, "add", "(III)V"⟩
abbrev cX2_tell : ByteArray := prog_4_method_5_code
def yX2_tell : MethodName := ⟨RX2, "tell", "(II)I"⟩
def RX3 : String := "TwoEchoes$Lesson"
def TX3 : u_T := fun k => match k with
  | 0 => ("TwoEchoes$Lesson", "lies", "I", false)
  | 1 => ("TwoEchoes$Lesson", "pairs", "I", false)
  | 2 => ("TwoEchoes$Lesson", "spoken", "[I", true)
  | _ => ("TwoEchoes$Lesson", "came", "[I", true)
def tyX3 : Nat → FieldType := fun k => match k with
  | 0 => .int
  | 1 => .int
  | 2 => .array .int
  | _ => .array .int
theorem nmX3 : ∀ a, a < 4 → ∀ b, b < 4 → a ≠ b → (TX3 a).2.1 ≠ (TX3 b).2.1 := by decide +kernel
theorem tyX3_ok : ∀ k, k < 4 → parseFieldDescriptor (TX3 k).2.2.1 = some (tyX3 k) := by decide +kernel
abbrev cX3_init : ByteArray := prog_5_method_1_code
def yX3_init : MethodName := ⟨RX3, "<init>", "()V"⟩
abbrev cX3_clear : ByteArray := prog_5_method_2_code
def yX3_clear : MethodName := ⟨RX3, "clear", "()V"⟩
abbrev cX3_copyFrom : ByteArray := prog_5_method_3_code
def yX3_copyFrom : MethodName := ⟨RX3, "copyFrom", "(LTwoEchoes$Lesson;)V"⟩
abbrev cX3_add : ByteArray := prog_5_method_4_code
def yX3_add : MethodName := ⟨RX3, "add", "(II)V"⟩
abbrev cX3_tell : ByteArray := prog_5_method_5_code
def yX3_tell : MethodName := ⟨RX3, "tell", "(I)I"⟩
abbrev cX3_comes : ByteArray := prog_5_method_6_code
def yX3_comes : MethodName := ⟨RX3, "comes", "(II)I"⟩
abbrev cX3_misses : ByteArray := prog_5_method_7_code
def yX3_misses : MethodName := ⟨RX3, "misses", "(I)I"⟩
abbrev cX3_fits : ByteArray := prog_5_method_8_code
def yX3_fits : MethodName := ⟨RX3, "fits", "()I"⟩
abbrev cX3_bestRule : ByteArray := prog_5_method_9_code
def yX3_bestRule : MethodName := ⟨RX3, "bestRule", "()I"⟩
abbrev cX3_surelyComes : ByteArray := prog_5_method_10_code
def yX3_surelyComes : MethodName := ⟨RX3, "surelyComes", "(I)I"⟩
abbrev cX3_wordToCall : ByteArray := prog_5_method_11_code
def yX3_wordToCall : MethodName := ⟨RX3, "wordToCall", "()I"⟩
abbrev cX3_mostLeft : ByteArray := prog_5_method_12_code
def yX3_mostLeft : MethodName := ⟨RX3, "mostLeft", "(I)I"⟩
abbrev cX3_left : ByteArray := prog_5_method_13_code
def yX3_left : MethodName := ⟨RX3, "left", "(II)I"⟩
def RX4 : String := "TwoEchoes$Reader"
def TX4 : u_T := fun k => match k with
  | 0 => ("TwoEchoes$Reader", "valley", "LTwoEchoes$Valley;", true)
  | 1 => ("TwoEchoes$Reader", "day", "LTwoEchoes$Day;", true)
  | 2 => ("TwoEchoes$Reader", "lesson", "LTwoEchoes$Lesson;", true)
  | 3 => ("TwoEchoes$Reader", "sight", "LTwoEchoes$Sight;", true)
  | 4 => ("TwoEchoes$Reader", "fault", "I", false)
  | 5 => ("TwoEchoes$Reader", "faultPlace", "I", false)
  | 6 => ("TwoEchoes$Reader", "tape", "[B", true)
  | 7 => ("TwoEchoes$Reader", "length", "I", false)
  | 8 => ("TwoEchoes$Reader", "token", "I", false)
  | 9 => ("TwoEchoes$Reader", "start", "I", false)
  | 10 => ("TwoEchoes$Reader", "behind", "I", false)
  | 11 => ("TwoEchoes$Reader", "numbers", "[I", true)
  | _ => ("TwoEchoes$Reader", "places", "[I", true)
def tyX4 : Nat → FieldType := fun k => match k with
  | 0 => .object "TwoEchoes$Valley"
  | 1 => .object "TwoEchoes$Day"
  | 2 => .object "TwoEchoes$Lesson"
  | 3 => .object "TwoEchoes$Sight"
  | 4 => .int
  | 5 => .int
  | 6 => .array .byte
  | 7 => .int
  | 8 => .int
  | 9 => .int
  | 10 => .int
  | 11 => .array .int
  | _ => .array .int
theorem nmX4 : ∀ a, a < 13 → ∀ b, b < 13 → a ≠ b → (TX4 a).2.1 ≠ (TX4 b).2.1 := by decide +kernel
theorem tyX4_ok : ∀ k, k < 13 → parseFieldDescriptor (TX4 k).2.2.1 = some (tyX4 k) := by decide +kernel
abbrev cX4_init : ByteArray := prog_6_method_1_code
def yX4_init : MethodName := ⟨RX4, "<init>", "([B)V"⟩
abbrev cX4_read : ByteArray := prog_6_method_2_code
def yX4_read : MethodName := ⟨RX4, "read", "(II)V"⟩
abbrev cX4_clearDraft : ByteArray := prog_6_method_3_code
def yX4_clearDraft : MethodName := ⟨RX4, "clearDraft", "(I)V"⟩
abbrev cX4_readLine : ByteArray := prog_6_method_4_code
def yX4_readLine : MethodName := ⟨RX4, "readLine", "(I)V"⟩
abbrev cX4_breakOff : ByteArray := prog_6_method_5_code
def yX4_breakOff : MethodName := ⟨RX4, "breakOff", "()V"⟩
abbrev cX4_mark : ByteArray := prog_6_method_6_code
def yX4_mark : MethodName := ⟨RX4, "mark", "(II)V"⟩
abbrev cX4_check : ByteArray := prog_6_method_7_code
def yX4_check : MethodName := ⟨RX4, "check", "(II)V"⟩
abbrev cX4_isFull : ByteArray := prog_6_method_8_code
def yX4_isFull : MethodName := ⟨RX4, "isFull", "(I)Z"⟩
abbrev cX4_leastNumber : ByteArray := prog_6_method_9_code
def yX4_leastNumber : MethodName := ⟨RX4, "leastNumber", "(II)I"⟩
abbrev cX4_take : ByteArray := prog_6_method_10_code
def yX4_take : MethodName := ⟨RX4, "take", "(I)V"⟩
abbrev cX4_takeOfLesson : ByteArray := prog_6_method_11_code
def yX4_takeOfLesson : MethodName := ⟨RX4, "takeOfLesson", "(I)V"⟩
abbrev cX4_takeOfValley : ByteArray := prog_6_method_12_code
def yX4_takeOfValley : MethodName := ⟨RX4, "takeOfValley", "(I)V"⟩
abbrev cX4_takeOfWord : ByteArray := prog_6_method_13_code
def yX4_takeOfWord : MethodName := ⟨RX4, "takeOfWord", "(III)V"⟩
abbrev cX4_lineWord : ByteArray := prog_6_method_14_code
def yX4_lineWord : MethodName := ⟨RX4, "lineWord", "(I)I"⟩
abbrev cX4_isSpelt : ByteArray := prog_6_method_15_code
def yX4_isSpelt : MethodName := ⟨RX4, "isSpelt", "(Ljava/lang/String;)Z"⟩
abbrev cX4_spelling : ByteArray := prog_6_method_16_code
def yX4_spelling : MethodName := ⟨RX4, "spelling", "(I)Ljava/lang/String;"⟩
abbrev cX4_tokenNumber : ByteArray := prog_6_method_17_code
def yX4_tokenNumber : MethodName := ⟨RX4, "tokenNumber", "()I"⟩
abbrev cX4_advance : ByteArray := prog_6_method_18_code
def yX4_advance : MethodName := ⟨RX4, "advance", "()V"⟩
abbrev cX4_isBlank : ByteArray := prog_6_method_19_code
def yX4_isBlank : MethodName := ⟨RX4, "isBlank", "(B)Z"⟩
abbrev cX4_isLetter : ByteArray := prog_6_method_20_code
def yX4_isLetter : MethodName := ⟨RX4, "isLetter", "(B)Z"⟩
abbrev cX4_isDigit : ByteArray := prog_6_method_21_code
def yX4_isDigit : MethodName := ⟨RX4, "isDigit", "(B)Z"⟩
def RX5 : String := "TwoEchoes$Search"
def TX5 : u_T := fun k => match k with
  | 0 => ("TwoEchoes$Search", "hits", "[I", true)
  | 1 => ("TwoEchoes$Search", "byThought", "[I", true)
  | _ => ("TwoEchoes$Search", "longest", "I", false)
def tyX5 : Nat → FieldType := fun k => match k with
  | 0 => .array .int
  | 1 => .array .int
  | _ => .int
theorem nmX5 : ∀ a, a < 3 → ∀ b, b < 3 → a ≠ b → (TX5 a).2.1 ≠ (TX5 b).2.1 := by decide +kernel
theorem tyX5_ok : ∀ k, k < 3 → parseFieldDescriptor (TX5 k).2.2.1 = some (tyX5 k) := by decide +kernel
abbrev cX5_init : ByteArray := prog_7_method_1_code
def yX5_init : MethodName := ⟨RX5, "<init>", "()V"⟩
abbrev cX5_wordsHeardAs : ByteArray := prog_7_method_2_code
def yX5_wordsHeardAs : MethodName := ⟨RX5, "wordsHeardAs", "(LTwoEchoes$Valley;LTwoEchoes$Sight;III)I"⟩
abbrev cX5_wordsJudged : ByteArray := prog_7_method_3_code
def yX5_wordsJudged : MethodName := ⟨RX5, "wordsJudged", "(LTwoEchoes$Valley;II)I"⟩
abbrev cX5_wordsMaybe : ByteArray := prog_7_method_4_code
def yX5_wordsMaybe : MethodName := ⟨RX5, "wordsMaybe", "(LTwoEchoes$Valley;LTwoEchoes$Sight;II)I"⟩
abbrev cX5_howManyAt : ByteArray := prog_7_method_5_code
def yX5_howManyAt : MethodName := ⟨RX5, "howManyAt", "(LTwoEchoes$Valley;LTwoEchoes$Sight;I)I"⟩
abbrev cX5_howMany : ByteArray := prog_7_method_6_code
def yX5_howMany : MethodName := ⟨RX5, "howMany", "(LTwoEchoes$Valley;LTwoEchoes$Sight;)I"⟩
abbrev cX5_numbered : ByteArray := prog_7_method_7_code
def yX5_numbered : MethodName := ⟨RX5, "numbered", "(LTwoEchoes$Valley;LTwoEchoes$Sight;I)I"⟩
abbrev cX5_wordNumbered : ByteArray := prog_7_method_8_code
def yX5_wordNumbered : MethodName := ⟨RX5, "wordNumbered", "(II)I"⟩
abbrev cX5_onlyPlace : ByteArray := prog_7_method_9_code
def yX5_onlyPlace : MethodName := ⟨RX5, "onlyPlace", "(LTwoEchoes$Valley;LTwoEchoes$Sight;)I"⟩
abbrev cX5_whereToListen : ByteArray := prog_7_method_10_code
def yX5_whereToListen : MethodName := ⟨RX5, "whereToListen", "(LTwoEchoes$Valley;LTwoEchoes$Sight;)I"⟩
abbrev cX5_hitByWords : ByteArray := prog_7_method_11_code
def yX5_hitByWords : MethodName := ⟨RX5, "hitByWords", "(LTwoEchoes$Valley;III)V"⟩
abbrev cX5_countByThought : ByteArray := prog_7_method_12_code
def yX5_countByThought : MethodName := ⟨RX5, "countByThought", "(LTwoEchoes$Valley;I)V"⟩
abbrev cX5_hitByJudge : ByteArray := prog_7_method_13_code
def yX5_hitByJudge : MethodName := ⟨RX5, "hitByJudge", "(IIII)V"⟩
abbrev cX5_hit : ByteArray := prog_7_method_14_code
def yX5_hit : MethodName := ⟨RX5, "hit", "(III)V"⟩
def RX6 : String := "TwoEchoes$Sight"
def TX6 : u_T := fun k => match k with
  | 0 => ("TwoEchoes$Sight", "facts", "I", false)
  | 1 => ("TwoEchoes$Sight", "wasHeard", "[I", true)
  | 2 => ("TwoEchoes$Sight", "place", "[I", true)
  | 3 => ("TwoEchoes$Sight", "minute", "[I", true)
  | _ => ("TwoEchoes$Sight", "word", "[I", true)
def tyX6 : Nat → FieldType := fun k => match k with
  | 0 => .int
  | 1 => .array .int
  | 2 => .array .int
  | 3 => .array .int
  | _ => .array .int
theorem nmX6 : ∀ a, a < 5 → ∀ b, b < 5 → a ≠ b → (TX6 a).2.1 ≠ (TX6 b).2.1 := by decide +kernel
theorem tyX6_ok : ∀ k, k < 5 → parseFieldDescriptor (TX6 k).2.2.1 = some (tyX6 k) := by decide +kernel
abbrev cX6_init : ByteArray := prog_8_method_1_code
def yX6_init : MethodName := ⟨RX6, "<init>", "()V"⟩
abbrev cX6_clear : ByteArray := prog_8_method_2_code
def yX6_clear : MethodName := ⟨RX6, "clear", "()V"⟩
abbrev cX6_copyFrom : ByteArray := prog_8_method_3_code
def yX6_copyFrom : MethodName := ⟨RX6, "copyFrom", "(LTwoEchoes$Sight;)V"⟩
abbrev cX6_add : ByteArray := prog_8_method_4_code
def yX6_add : MethodName := ⟨RX6, "add", "(IIII)V"⟩
abbrev cX6_tell : ByteArray := prog_8_method_5_code
def yX6_tell : MethodName := ⟨RX6, "tell", "(II)I"⟩
abbrev cX6_isWithin : ByteArray := prog_8_method_6_code
def yX6_isWithin : MethodName := ⟨RX6, "isWithin", "(LTwoEchoes$Valley;)Z"⟩
def RX7 : String := "TwoEchoes$Told"
def TX7 : u_T := fun k => match k with
  | 0 => ("TwoEchoes$Told", "tape", "[B", true)
  | 1 => ("TwoEchoes$Told", "length", "I", false)
  | 2 => ("TwoEchoes$Told", "fault", "I", false)
  | 3 => ("TwoEchoes$Told", "faultPlace", "I", false)
  | 4 => ("TwoEchoes$Told", "counts", "[I", true)
  | 5 => ("TwoEchoes$Told", "valleys", "[LTwoEchoes$Valley;", true)
  | 6 => ("TwoEchoes$Told", "days", "[LTwoEchoes$Day;", true)
  | 7 => ("TwoEchoes$Told", "lessons", "[LTwoEchoes$Lesson;", true)
  | _ => ("TwoEchoes$Told", "sights", "[LTwoEchoes$Sight;", true)
def tyX7 : Nat → FieldType := fun k => match k with
  | 0 => .array .byte
  | 1 => .int
  | 2 => .int
  | 3 => .int
  | 4 => .array .int
  | 5 => .array (.object "TwoEchoes$Valley")
  | 6 => .array (.object "TwoEchoes$Day")
  | 7 => .array (.object "TwoEchoes$Lesson")
  | _ => .array (.object "TwoEchoes$Sight")
theorem nmX7 : ∀ a, a < 9 → ∀ b, b < 9 → a ≠ b → (TX7 a).2.1 ≠ (TX7 b).2.1 := by decide +kernel
theorem tyX7_ok : ∀ k, k < 9 → parseFieldDescriptor (TX7 k).2.2.1 = some (tyX7 k) := by decide +kernel
abbrev cX7_init : ByteArray := prog_9_method_1_code
def yX7_init : MethodName := ⟨RX7, "<init>", "()V"⟩
abbrev cX7_put : ByteArray := prog_9_method_2_code
def yX7_put : MethodName := ⟨RX7, "put", "(I)V"⟩
abbrev cX7_slotFor : ByteArray := prog_9_method_3_code
def yX7_slotFor : MethodName := ⟨RX7, "slotFor", "(II)I"⟩
abbrev cX7_keep : ByteArray := prog_9_method_4_code
def yX7_keep : MethodName := ⟨RX7, "keep", "(IILTwoEchoes$Reader;)V"⟩
abbrev cX7_copyFrom : ByteArray := prog_9_method_5_code
def yX7_copyFrom : MethodName := ⟨RX7, "copyFrom", "(LTwoEchoes$Told;)V"⟩
def RX8 : String := "TwoEchoes$Trade"
def TX8 : u_T := fun k => match k with
  | 0 => ("TwoEchoes$Trade", "bestOfSeller", "[I", true)
  | _ => ("TwoEchoes$Trade", "bestOfBuyer", "[I", true)
def tyX8 : Nat → FieldType := fun k => match k with
  | 0 => .array .int
  | _ => .array .int
theorem nmX8 : ∀ a, a < 2 → ∀ b, b < 2 → a ≠ b → (TX8 a).2.1 ≠ (TX8 b).2.1 := by decide +kernel
theorem tyX8_ok : ∀ k, k < 2 → parseFieldDescriptor (TX8 k).2.2.1 = some (tyX8 k) := by decide +kernel
abbrev cX8_init : ByteArray := prog_10_method_1_code
def yX8_init : MethodName := ⟨RX8, "<init>", "()V"⟩
abbrev cX8_gainOfCouple : ByteArray := prog_10_method_2_code
def yX8_gainOfCouple : MethodName := ⟨RX8, "gainOfCouple", "(LTwoEchoes$Valley;I)I"⟩
abbrev cX8_bestLeft : ByteArray := prog_10_method_3_code
def yX8_bestLeft : MethodName := ⟨RX8, "bestLeft", "(LTwoEchoes$Valley;II)I"⟩
abbrev cX8_isKeener : ByteArray := prog_10_method_4_code
def yX8_isKeener : MethodName := ⟨RX8, "isKeener", "(III)Z"⟩
abbrev cX8_gain : ByteArray := prog_10_method_5_code
def yX8_gain : MethodName := ⟨RX8, "gain", "(LTwoEchoes$Valley;)I"⟩
abbrev cX8_couples : ByteArray := prog_10_method_6_code
def yX8_couples : MethodName := ⟨RX8, "couples", "(LTwoEchoes$Valley;)I"⟩
abbrev cX8_leastPrice : ByteArray := prog_10_method_7_code
def yX8_leastPrice : MethodName := ⟨RX8, "leastPrice", "(LTwoEchoes$Valley;)I"⟩
abbrev cX8_greatestPrice : ByteArray := prog_10_method_8_code
def yX8_greatestPrice : MethodName := ⟨RX8, "greatestPrice", "(LTwoEchoes$Valley;)I"⟩
abbrev cX8_isFair : ByteArray := prog_10_method_9_code
def yX8_isFair : MethodName := ⟨RX8, "isFair", "(LTwoEchoes$Valley;I)Z"⟩
abbrev cX8_rests : ByteArray := prog_10_method_10_code
def yX8_rests : MethodName := ⟨RX8, "rests", "(IIZ)I"⟩
abbrev cX8_findBest : ByteArray := prog_10_method_11_code
def yX8_findBest : MethodName := ⟨RX8, "findBest", "(II)V"⟩
abbrev cX8_sellerGain : ByteArray := prog_10_method_12_code
def yX8_sellerGain : MethodName := ⟨RX8, "sellerGain", "(III)I"⟩
abbrev cX8_buyerGain : ByteArray := prog_10_method_13_code
def yX8_buyerGain : MethodName := ⟨RX8, "buyerGain", "(III)I"⟩
abbrev cX8_greatestBuyer : ByteArray := prog_10_method_14_code
def yX8_greatestBuyer : MethodName := ⟨RX8, "greatestBuyer", "(LTwoEchoes$Valley;I)I"⟩
abbrev cX8_priceFor : ByteArray := prog_10_method_15_code
def yX8_priceFor : MethodName := ⟨RX8, "priceFor", "(LTwoEchoes$Valley;II)I"⟩
def RX9 : String := "TwoEchoes$Valley"
def TX9 : u_T := fun k => match k with
  | 0 => ("TwoEchoes$Valley", "wide", "I", false)
  | 1 => ("TwoEchoes$Valley", "should", "[I", true)
  | 2 => ("TwoEchoes$Valley", "thought", "[I", true)
  | 3 => ("TwoEchoes$Valley", "weight", "[I", true)
  | 4 => ("TwoEchoes$Valley", "people", "I", false)
  | 5 => ("TwoEchoes$Valley", "kind", "[I", true)
  | 6 => ("TwoEchoes$Valley", "place", "[I", true)
  | 7 => ("TwoEchoes$Valley", "wish", "[I", true)
  | 8 => ("TwoEchoes$Valley", "skies", "I", false)
  | 9 => ("TwoEchoes$Valley", "skyKind", "[I", true)
  | 10 => ("TwoEchoes$Valley", "skyFrom", "[I", true)
  | 11 => ("TwoEchoes$Valley", "skyUpTo", "[I", true)
  | _ => ("TwoEchoes$Valley", "sky", "[I", true)
def tyX9 : Nat → FieldType := fun k => match k with
  | 0 => .int
  | 1 => .array .int
  | 2 => .array .int
  | 3 => .array .int
  | 4 => .int
  | 5 => .array .int
  | 6 => .array .int
  | 7 => .array .int
  | 8 => .int
  | 9 => .array .int
  | 10 => .array .int
  | 11 => .array .int
  | _ => .array .int
theorem nmX9 : ∀ a, a < 13 → ∀ b, b < 13 → a ≠ b → (TX9 a).2.1 ≠ (TX9 b).2.1 := by decide +kernel
theorem tyX9_ok : ∀ k, k < 13 → parseFieldDescriptor (TX9 k).2.2.1 = some (tyX9 k) := by decide +kernel
abbrev cX9_init : ByteArray := prog_11_method_1_code
def yX9_init : MethodName := ⟨RX9, "<init>", "()V"⟩
abbrev cX9_clear : ByteArray := prog_11_method_2_code
def yX9_clear : MethodName := ⟨RX9, "clear", "()V"⟩
abbrev cX9_copyFrom : ByteArray := prog_11_method_3_code
def yX9_copyFrom : MethodName := ⟨RX9, "copyFrom", "(LTwoEchoes$Valley;)V"⟩
abbrev cX9_addPerson : ByteArray := prog_11_method_4_code
def yX9_addPerson : MethodName := ⟨RX9, "addPerson", "(III)V"⟩
abbrev cX9_addSky : ByteArray := prog_11_method_5_code
def yX9_addSky : MethodName := ⟨RX9, "addSky", "(III)V"⟩
abbrev cX9_hasPlace : ByteArray := prog_11_method_6_code
def yX9_hasPlace : MethodName := ⟨RX9, "hasPlace", "(I)Z"⟩
abbrev cX9_hasPerson : ByteArray := prog_11_method_7_code
def yX9_hasPerson : MethodName := ⟨RX9, "hasPerson", "(I)Z"⟩
abbrev cX9_isOfKind : ByteArray := prog_11_method_8_code
def yX9_isOfKind : MethodName := ⟨RX9, "isOfKind", "(II)Z"⟩
abbrev cX9_holdsItsPeople : ByteArray := prog_11_method_9_code
def yX9_holdsItsPeople : MethodName := ⟨RX9, "holdsItsPeople", "()Z"⟩
abbrev cX9_tell : ByteArray := prog_11_method_10_code
def yX9_tell : MethodName := ⟨RX9, "tell", "(I)I"⟩
abbrev cX9_tellWord : ByteArray := prog_11_method_11_code
def yX9_tellWord : MethodName := ⟨RX9, "tellWord", "(II)I"⟩
abbrev cX9_tellPerson : ByteArray := prog_11_method_12_code
def yX9_tellPerson : MethodName := ⟨RX9, "tellPerson", "(II)I"⟩
abbrev cX9_tellSky : ByteArray := prog_11_method_13_code
def yX9_tellSky : MethodName := ⟨RX9, "tellSky", "(II)I"⟩
abbrev cX9_way : ByteArray := prog_11_method_14_code
def yX9_way : MethodName := ⟨RX9, "way", "(III)I"⟩
abbrev cX9_judge : ByteArray := prog_11_method_15_code
def yX9_judge : MethodName := ⟨RX9, "judge", "(I)I"⟩
abbrev cX9_isMute : ByteArray := prog_11_method_16_code
def yX9_isMute : MethodName := ⟨RX9, "isMute", "(II)Z"⟩
abbrev cX9_wordBy : ByteArray := prog_11_method_17_code
def yX9_wordBy : MethodName := ⟨RX9, "wordBy", "(III)I"⟩
abbrev cX9_carries : ByteArray := prog_11_method_18_code
def yX9_carries : MethodName := ⟨RX9, "carries", "(IIIII)Z"⟩
abbrev cX9_arrival : ByteArray := prog_11_method_19_code
def yX9_arrival : MethodName := ⟨RX9, "arrival", "(IIIIII)I"⟩
abbrev cX9_longestClear : ByteArray := prog_11_method_20_code
def yX9_longestClear : MethodName := ⟨RX9, "longestClear", "()I"⟩
def RX10 : String := "TwoEchoes$Words"
def TX10 : u_T := fun k => match k with
  | _ => ("", "", "", false)
def tyX10 : Nat → FieldType := fun k => match k with
  | _ => .int
theorem nmX10 : ∀ a, a < 0 → ∀ b, b < 0 → a ≠ b → (TX10 a).2.1 ≠ (TX10 b).2.1 := by decide +kernel
theorem tyX10_ok : ∀ k, k < 0 → parseFieldDescriptor (TX10 k).2.2.1 = some (tyX10 k) := by decide +kernel
abbrev cX10_sayingsUntil : ByteArray := prog_12_method_2_code
def yX10_sayingsUntil : MethodName := ⟨RX10, "sayingsUntil", "(LTwoEchoes$Valley;II)I"⟩
abbrev cX10_ringCount : ByteArray := prog_12_method_3_code
def yX10_ringCount : MethodName := ⟨RX10, "ringCount", "(LTwoEchoes$Valley;)I"⟩
abbrev cX10_isLeastOfRing : ByteArray := prog_12_method_4_code
def yX10_isLeastOfRing : MethodName := ⟨RX10, "isLeastOfRing", "(LTwoEchoes$Valley;I)Z"⟩
abbrev cX10_longestRing : ByteArray := prog_12_method_5_code
def yX10_longestRing : MethodName := ⟨RX10, "longestRing", "(LTwoEchoes$Valley;)I"⟩
abbrev cX10_wordsInRings : ByteArray := prog_12_method_6_code
def yX10_wordsInRings : MethodName := ⟨RX10, "wordsInRings", "(LTwoEchoes$Valley;)I"⟩
abbrev cX10_fewestAnswers : ByteArray := prog_12_method_7_code
def yX10_fewestAnswers : MethodName := ⟨RX10, "fewestAnswers", "(LTwoEchoes$Valley;I)I"⟩
abbrev cX10_fewestBelow : ByteArray := prog_12_method_8_code
def yX10_fewestBelow : MethodName := ⟨RX10, "fewestBelow", "([IIII)I"⟩
abbrev cX10_weightFrom : ByteArray := prog_12_method_9_code
def yX10_weightFrom : MethodName := ⟨RX10, "weightFrom", "([II)I"⟩
abbrev cX10_weightOfAll : ByteArray := prog_12_method_10_code
def yX10_weightOfAll : MethodName := ⟨RX10, "weightOfAll", "(LTwoEchoes$Valley;)J"⟩
abbrev cX10_weightOfSelfSame : ByteArray := prog_12_method_11_code
def yX10_weightOfSelfSame : MethodName := ⟨RX10, "weightOfSelfSame", "(LTwoEchoes$Valley;)J"⟩
abbrev cX10_commonDivisor : ByteArray := prog_12_method_12_code
def yX10_commonDivisor : MethodName := ⟨RX10, "commonDivisor", "(JJ)J"⟩
abbrev cX10_power : ByteArray := prog_12_method_13_code
def yX10_power : MethodName := ⟨RX10, "power", "(JI)J"⟩
def RX11 : String := "TwoEchoes"
def TX11 : u_T := fun k => match k with
  | 0 => ("TwoEchoes", "told", "LTwoEchoes$Told;", true)
  | 1 => ("TwoEchoes", "images", "[LTwoEchoes$Told;", true)
  | 2 => ("TwoEchoes", "reader", "LTwoEchoes$Reader;", true)
  | 3 => ("TwoEchoes", "course", "LTwoEchoes$Course;", true)
  | 4 => ("TwoEchoes", "search", "LTwoEchoes$Search;", true)
  | 5 => ("TwoEchoes", "trade", "LTwoEchoes$Trade;", true)
  | _ => ("TwoEchoes", "company", "LTwoEchoes$Company;", true)
def tyX11 : Nat → FieldType := fun k => match k with
  | 0 => .object "TwoEchoes$Told"
  | 1 => .array (.object "TwoEchoes$Told")
  | 2 => .object "TwoEchoes$Reader"
  | 3 => .object "TwoEchoes$Course"
  | 4 => .object "TwoEchoes$Search"
  | 5 => .object "TwoEchoes$Trade"
  | _ => .object "TwoEchoes$Company"
theorem nmX11 : ∀ a, a < 7 → ∀ b, b < 7 → a ≠ b → (TX11 a).2.1 ≠ (TX11 b).2.1 := by decide +kernel
theorem tyX11_ok : ∀ k, k < 7 → parseFieldDescriptor (TX11 k).2.2.1 = some (tyX11 k) := by decide +kernel
abbrev cX11_init : ByteArray := prog_1_method_1_code
def yX11_init : MethodName := ⟨RX11, "<init>", "()V"⟩
abbrev cX11_feed : ByteArray := prog_1_method_2_code
def yX11_feed : MethodName := ⟨RX11, "feed", "(IIIII)I"⟩
abbrev cX11_end : ByteArray := prog_1_method_3_code
def yX11_end : MethodName := ⟨RX11, "end", "(I)I"⟩
abbrev cX11_text : ByteArray := prog_1_method_4_code
def yX11_text : MethodName := ⟨RX11, "text", "(II)I"⟩
abbrev cX11_fault : ByteArray := prog_1_method_5_code
def yX11_fault : MethodName := ⟨RX11, "fault", "(I)I"⟩
abbrev cX11_valley : ByteArray := prog_1_method_6_code
def yX11_valley : MethodName := ⟨RX11, "valley", "(II)I"⟩
abbrev cX11_heard : ByteArray := prog_1_method_7_code
def yX11_heard : MethodName := ⟨RX11, "heard", "(IIIIIII)I"⟩
abbrev cX11_gives : ByteArray := prog_1_method_8_code
def yX11_gives : MethodName := ⟨RX11, "gives", "(IIII)I"⟩
abbrev cX11_deed : ByteArray := prog_1_method_9_code
def yX11_deed : MethodName := ⟨RX11, "deed", "(III)I"⟩
abbrev cX11_stop : ByteArray := prog_1_method_10_code
def yX11_stop : MethodName := ⟨RX11, "stop", "(II)I"⟩
abbrev cX11_state : ByteArray := prog_1_method_11_code
def yX11_state : MethodName := ⟨RX11, "state", "(IIII)I"⟩
abbrev cX11_hush : ByteArray := prog_1_method_12_code
def yX11_hush : MethodName := ⟨RX11, "hush", "(IIIIZ)I"⟩
abbrev cX11_crowd : ByteArray := prog_1_method_13_code
def yX11_crowd : MethodName := ⟨RX11, "crowd", "(IIIZ)I"⟩
abbrev cX11_chain : ByteArray := prog_1_method_14_code
def yX11_chain : MethodName := ⟨RX11, "chain", "(III)I"⟩
abbrev cX11_late : ByteArray := prog_1_method_15_code
def yX11_late : MethodName := ⟨RX11, "late", "(III)I"⟩
abbrev cX11_market : ByteArray := prog_1_method_16_code
def yX11_market : MethodName := ⟨RX11, "market", "(II)I"⟩
abbrev cX11_bargain : ByteArray := prog_1_method_17_code
def yX11_bargain : MethodName := ⟨RX11, "bargain", "(IIIZ)I"⟩
abbrev cX11_talk : ByteArray := prog_1_method_18_code
def yX11_talk : MethodName := ⟨RX11, "talk", "(II)I"⟩
abbrev cX11_lesson : ByteArray := prog_1_method_19_code
def yX11_lesson : MethodName := ⟨RX11, "lesson", "(II)I"⟩
abbrev cX11_rules : ByteArray := prog_1_method_20_code
def yX11_rules : MethodName := ⟨RX11, "rules", "(II)I"⟩
abbrev cX11_fact : ByteArray := prog_1_method_21_code
def yX11_fact : MethodName := ⟨RX11, "fact", "(III)I"⟩
abbrev cX11_said : ByteArray := prog_1_method_22_code
def yX11_said : MethodName := ⟨RX11, "said", "(III)I"⟩
abbrev cX11_spot : ByteArray := prog_1_method_23_code
def yX11_spot : MethodName := ⟨RX11, "spot", "(IIZ)I"⟩
abbrev cX11_drawn : ByteArray := prog_1_method_24_code
def yX11_drawn : MethodName := ⟨RX11, "drawn", "(IIII)I"⟩
abbrev cX11_rings : ByteArray := prog_1_method_25_code
def yX11_rings : MethodName := ⟨RX11, "rings", "(II)I"⟩
abbrev cX11_unsure : ByteArray := prog_1_method_26_code
def yX11_unsure : MethodName := ⟨RX11, "unsure", "(IIZ)J"⟩
abbrev cX11_spread : ByteArray := prog_1_method_27_code
def yX11_spread : MethodName := ⟨RX11, "spread", "(IIIZ)I"⟩
abbrev cX11_guards : ByteArray := prog_1_method_28_code
def yX11_guards : MethodName := ⟨RX11, "guards", "(II)I"⟩
abbrev cX11_middle : ByteArray := prog_1_method_29_code
def yX11_middle : MethodName := ⟨RX11, "middle", "(II)I"⟩
abbrev cX11_auction : ByteArray := prog_1_method_30_code
def yX11_auction : MethodName := ⟨RX11, "auction", "(IIZ)I"⟩
abbrev cX11_relayed : ByteArray := prog_1_method_31_code
def yX11_relayed : MethodName := ⟨RX11, "relayed", "(IIII)I"⟩
abbrev cX11_weather : ByteArray := prog_1_method_32_code
def yX11_weather : MethodName := ⟨RX11, "weather", "(II)I"⟩
abbrev cX11_matched : ByteArray := prog_1_method_33_code
def yX11_matched : MethodName := ⟨RX11, "matched", "(II)I"⟩
abbrev cX11_count : ByteArray := prog_1_method_34_code
def yX11_count : MethodName := ⟨RX11, "count", "(I)I"⟩
abbrev cX11_image : ByteArray := prog_1_method_35_code
def yX11_image : MethodName := ⟨RX11, "image", "(I)Z"⟩
abbrev cX11_again : ByteArray := prog_1_method_36_code
def yX11_again : MethodName := ⟨RX11, "again", "(I)Z"⟩
abbrev cX11_valleyAt : ByteArray := prog_1_method_37_code
def yX11_valleyAt : MethodName := ⟨RX11, "valleyAt", "(I)LTwoEchoes$Valley;"⟩
abbrev cX11_dayAt : ByteArray := prog_1_method_38_code
def yX11_dayAt : MethodName := ⟨RX11, "dayAt", "(I)LTwoEchoes$Day;"⟩
abbrev cX11_lessonAt : ByteArray := prog_1_method_39_code
def yX11_lessonAt : MethodName := ⟨RX11, "lessonAt", "(I)LTwoEchoes$Lesson;"⟩
abbrev cX11_sightAt : ByteArray := prog_1_method_40_code
def yX11_sightAt : MethodName := ⟨RX11, "sightAt", "(I)LTwoEchoes$Sight;"⟩
abbrev cX11_isWord : ByteArray := prog_1_method_41_code
def yX11_isWord : MethodName := ⟨RX11, "isWord", "(I)Z"⟩
abbrev cX11_isLoud : ByteArray := prog_1_method_42_code
def yX11_isLoud : MethodName := ⟨RX11, "isLoud", "(I)Z"⟩
abbrev cX11_isMinute : ByteArray := prog_1_method_43_code
def yX11_isMinute : MethodName := ⟨RX11, "isMinute", "(I)Z"⟩
def RX12 : String := "TwoEchoesModel"
def TX12 : u_T := fun k => match k with
  | 0 => ("TwoEchoesModel", "code", "I", false)
  | 1 => ("TwoEchoesModel", "tape", "[B", true)
  | 2 => ("TwoEchoesModel", "size", "[I", true)
  | 3 => ("TwoEchoesModel", "fault", "[I", true)
  | 4 => ("TwoEchoesModel", "faultPlace", "[I", true)
  | 5 => ("TwoEchoesModel", "many", "[I", true)
  | 6 => ("TwoEchoesModel", "valleys", "[I", true)
  | 7 => ("TwoEchoesModel", "days", "[I", true)
  | 8 => ("TwoEchoesModel", "lessons", "[I", true)
  | 9 => ("TwoEchoesModel", "sights", "[I", true)
  | 10 => ("TwoEchoesModel", "reached", "I", false)
  | 11 => ("TwoEchoesModel", "length", "I", false)
  | 12 => ("TwoEchoesModel", "begins", "I", false)
  | 13 => ("TwoEchoesModel", "sort", "I", false)
  | 14 => ("TwoEchoesModel", "value", "I", false)
  | 15 => ("TwoEchoesModel", "word", "J", false)
  | 16 => ("TwoEchoesModel", "wrongAt", "I", false)
  | 17 => ("TwoEchoesModel", "laterFault", "I", false)
  | 18 => ("TwoEchoesModel", "laterPlace", "I", false)
  | 19 => ("TwoEchoesModel", "told", "[I", true)
  | 20 => ("TwoEchoesModel", "read", "[I", true)
  | 21 => ("TwoEchoesModel", "farPlace", "I", false)
  | 22 => ("TwoEchoesModel", "good", "Z", false)
  | 23 => ("TwoEchoesModel", "valley", "I", false)
  | 24 => ("TwoEchoesModel", "wide", "I", false)
  | 25 => ("TwoEchoesModel", "people", "I", false)
  | 26 => ("TwoEchoesModel", "day", "I", false)
  | 27 => ("TwoEchoesModel", "stands", "[I", true)
  | 28 => ("TwoEchoesModel", "sayings", "[I", true)
  | 29 => ("TwoEchoesModel", "said", "I", false)
  | 30 => ("TwoEchoesModel", "now", "I", false)
  | 31 => ("TwoEchoesModel", "words", "[I", true)
  | 32 => ("TwoEchoesModel", "often", "[I", true)
  | 33 => ("TwoEchoesModel", "first", "[I", true)
  | 34 => ("TwoEchoesModel", "clashes", "I", false)
  | 35 => ("TwoEchoesModel", "clashAt", "I", false)
  | 36 => ("TwoEchoesModel", "clashOf", "I", false)
  | 37 => ("TwoEchoesModel", "asks", "[I", true)
  | 38 => ("TwoEchoesModel", "bids", "[I", true)
  | 39 => ("TwoEchoesModel", "sellers", "I", false)
  | 40 => ("TwoEchoesModel", "buyers", "I", false)
  | 41 => ("TwoEchoesModel", "mostSold", "[I", true)
  | 42 => ("TwoEchoesModel", "mostBought", "[I", true)
  | 43 => ("TwoEchoesModel", "cost", "[I", true)
  | 44 => ("TwoEchoesModel", "lesson", "I", false)
  | 45 => ("TwoEchoesModel", "groups", "[I", true)
  | 46 => ("TwoEchoesModel", "sight", "I", false)
  | 47 => ("TwoEchoesModel", "listens", "[I", true)
  | 48 => ("TwoEchoesModel", "spotted", "I", false)
  | 49 => ("TwoEchoesModel", "seed", "I", false)
  | 50 => ("TwoEchoesModel", "soon", "[I", true)
  | 51 => ("TwoEchoesModel", "with", "[I", true)
  | 52 => ("TwoEchoesModel", "asked", "[I", true)
  | _ => ("TwoEchoesModel", "kept", "[Z", true)
def tyX12 : Nat → FieldType := fun k => match k with
  | 0 => .int
  | 1 => .array .byte
  | 2 => .array .int
  | 3 => .array .int
  | 4 => .array .int
  | 5 => .array .int
  | 6 => .array .int
  | 7 => .array .int
  | 8 => .array .int
  | 9 => .array .int
  | 10 => .int
  | 11 => .int
  | 12 => .int
  | 13 => .int
  | 14 => .int
  | 15 => .long
  | 16 => .int
  | 17 => .int
  | 18 => .int
  | 19 => .array .int
  | 20 => .array .int
  | 21 => .int
  | 22 => .boolean
  | 23 => .int
  | 24 => .int
  | 25 => .int
  | 26 => .int
  | 27 => .array .int
  | 28 => .array .int
  | 29 => .int
  | 30 => .int
  | 31 => .array .int
  | 32 => .array .int
  | 33 => .array .int
  | 34 => .int
  | 35 => .int
  | 36 => .int
  | 37 => .array .int
  | 38 => .array .int
  | 39 => .int
  | 40 => .int
  | 41 => .array .int
  | 42 => .array .int
  | 43 => .array .int
  | 44 => .int
  | 45 => .array .int
  | 46 => .int
  | 47 => .array .int
  | 48 => .int
  | 49 => .int
  | 50 => .array .int
  | 51 => .array .int
  | 52 => .array .int
  | _ => .array .boolean
theorem nmX12 : ∀ a, a < 54 → ∀ b, b < 54 → a ≠ b → (TX12 a).2.1 ≠ (TX12 b).2.1 := by decide +kernel
theorem tyX12_ok : ∀ k, k < 54 → parseFieldDescriptor (TX12 k).2.2.1 = some (tyX12 k) := by decide +kernel
abbrev cX12_init : ByteArray := prog_14_method_1_code
def yX12_init : MethodName := ⟨RX12, "<init>", "()V"⟩
abbrev cX12_in : ByteArray := prog_14_method_3_code
def yX12_in : MethodName := ⟨RX12, "in", "(III)Z"⟩
abbrev cX12_has : ByteArray := prog_14_method_4_code
def yX12_has : MethodName := ⟨RX12, "has", "(II)Z"⟩
abbrev cX12_greater : ByteArray := prog_14_method_5_code
def yX12_greater : MethodName := ⟨RX12, "greater", "(II)I"⟩
abbrev cX12_lesser : ByteArray := prog_14_method_6_code
def yX12_lesser : MethodName := ⟨RX12, "lesser", "(II)I"⟩
abbrev cX12_apart : ByteArray := prog_14_method_7_code
def yX12_apart : MethodName := ⟨RX12, "apart", "(II)I"⟩
abbrev cX12_copyRow : ByteArray := prog_14_method_8_code
def yX12_copyRow : MethodName := ⟨RX12, "copyRow", "([IIII)V"⟩
abbrev cX12_copyAll : ByteArray := prog_14_method_9_code
def yX12_copyAll : MethodName := ⟨RX12, "copyAll", "(II)V"⟩
abbrev cX12_is : ByteArray := prog_14_method_10_code
def yX12_is : MethodName := ⟨RX12, "is", "(II)Z"⟩
abbrev cX12_feed : ByteArray := prog_14_method_11_code
def yX12_feed : MethodName := ⟨RX12, "feed", "(IIIII)I"⟩
abbrev cX12_four : ByteArray := prog_14_method_12_code
def yX12_four : MethodName := ⟨RX12, "four", "(I)V"⟩
abbrev cX12_end : ByteArray := prog_14_method_13_code
def yX12_end : MethodName := ⟨RX12, "end", "(I)I"⟩
abbrev cX12_see : ByteArray := prog_14_method_14_code
def yX12_see : MethodName := ⟨RX12, "see", "()I"⟩
abbrev cX12_token : ByteArray := prog_14_method_15_code
def yX12_token : MethodName := ⟨RX12, "token", "()V"⟩
abbrev cX12_fails : ByteArray := prog_14_method_16_code
def yX12_fails : MethodName := ⟨RX12, "fails", "()Z"⟩
abbrev cX12_later : ByteArray := prog_14_method_17_code
def yX12_later : MethodName := ⟨RX12, "later", "(II)V"⟩
abbrev cX12_take : ByteArray := prog_14_method_18_code
def yX12_take : MethodName := ⟨RX12, "take", "(III)Z"⟩
abbrev cX12_full : ByteArray := prog_14_method_19_code
def yX12_full : MethodName := ⟨RX12, "full", "(III)V"⟩
abbrev cX12_kindBy : ByteArray := prog_14_method_20_code
def yX12_kindBy : MethodName := ⟨RX12, "kindBy", "(J)I"⟩
abbrev cX12_personLine : ByteArray := prog_14_method_21_code
def yX12_personLine : MethodName := ⟨RX12, "personLine", "(I)Z"⟩
abbrev cX12_skyLine : ByteArray := prog_14_method_22_code
def yX12_skyLine : MethodName := ⟨RX12, "skyLine", "(Z)Z"⟩
abbrev cX12_wordLine : ByteArray := prog_14_method_23_code
def yX12_wordLine : MethodName := ⟨RX12, "wordLine", "(J)Z"⟩
abbrev cX12_valleyLine : ByteArray := prog_14_method_24_code
def yX12_valleyLine : MethodName := ⟨RX12, "valleyLine", "(JI)Z"⟩
abbrev cX12_keep : ByteArray := prog_14_method_25_code
def yX12_keep : MethodName := ⟨RX12, "keep", "(IIII)V"⟩
abbrev cX12_deedBy : ByteArray := prog_14_method_26_code
def yX12_deedBy : MethodName := ⟨RX12, "deedBy", "(J)I"⟩
abbrev cX12_dayLine : ByteArray := prog_14_method_27_code
def yX12_dayLine : MethodName := ⟨RX12, "dayLine", "(JI)Z"⟩
abbrev cX12_lessonLine : ByteArray := prog_14_method_28_code
def yX12_lessonLine : MethodName := ⟨RX12, "lessonLine", "(JI)Z"⟩
abbrev cX12_sightLine : ByteArray := prog_14_method_29_code
def yX12_sightLine : MethodName := ⟨RX12, "sightLine", "(JI)Z"⟩
abbrev cX12_lineOf : ByteArray := prog_14_method_30_code
def yX12_lineOf : MethodName := ⟨RX12, "lineOf", "(IJI)Z"⟩
abbrev cX12_lines : ByteArray := prog_14_method_31_code
def yX12_lines : MethodName := ⟨RX12, "lines", "(I)Z"⟩
abbrev cX12_blank : ByteArray := prog_14_method_32_code
def yX12_blank : MethodName := ⟨RX12, "blank", "(I)V"⟩
abbrev cX12_readText : ByteArray := prog_14_method_33_code
def yX12_readText : MethodName := ⟨RX12, "readText", "(I)Z"⟩
abbrev cX12_store : ByteArray := prog_14_method_34_code
def yX12_store : MethodName := ⟨RX12, "store", "([III)V"⟩
abbrev cX12_storeAll : ByteArray := prog_14_method_35_code
def yX12_storeAll : MethodName := ⟨RX12, "storeAll", "(II)V"⟩
abbrev cX12_text : ByteArray := prog_14_method_36_code
def yX12_text : MethodName := ⟨RX12, "text", "(II)I"⟩
abbrev cX12_fault : ByteArray := prog_14_method_37_code
def yX12_fault : MethodName := ⟨RX12, "fault", "(I)I"⟩
abbrev cX12_of : ByteArray := prog_14_method_38_code
def yX12_of : MethodName := ⟨RX12, "of", "(I)I"⟩
abbrev cX12_hand : ByteArray := prog_14_method_39_code
def yX12_hand : MethodName := ⟨RX12, "hand", "(I)Z"⟩
abbrev cX12_isPlace : ByteArray := prog_14_method_40_code
def yX12_isPlace : MethodName := ⟨RX12, "isPlace", "(I)Z"⟩
abbrev cX12_isPerson : ByteArray := prog_14_method_41_code
def yX12_isPerson : MethodName := ⟨RX12, "isPerson", "(I)Z"⟩
abbrev cX12_isWord : ByteArray := prog_14_method_42_code
def yX12_isWord : MethodName := ⟨RX12, "isWord", "(I)Z"⟩
abbrev cX12_range : ByteArray := prog_14_method_43_code
def yX12_range : MethodName := ⟨RX12, "range", "(I)I"⟩
abbrev cX12_isSky : ByteArray := prog_14_method_44_code
def yX12_isSky : MethodName := ⟨RX12, "isSky", "(II)Z"⟩
abbrev cX12_judges : ByteArray := prog_14_method_45_code
def yX12_judges : MethodName := ⟨RX12, "judges", "(II)Z"⟩
abbrev cX12_isStill : ByteArray := prog_14_method_46_code
def yX12_isStill : MethodName := ⟨RX12, "isStill", "(II)Z"⟩
abbrev cX12_wayOf : ByteArray := prog_14_method_47_code
def yX12_wayOf : MethodName := ⟨RX12, "wayOf", "(III)I"⟩
abbrev cX12_given : ByteArray := prog_14_method_48_code
def yX12_given : MethodName := ⟨RX12, "given", "(III)I"⟩
abbrev cX12_comes : ByteArray := prog_14_method_49_code
def yX12_comes : MethodName := ⟨RX12, "comes", "(IIIIII)I"⟩
abbrev cX12_valley : ByteArray := prog_14_method_50_code
def yX12_valley : MethodName := ⟨RX12, "valley", "(II)I"⟩
abbrev cX12_heard : ByteArray := prog_14_method_51_code
def yX12_heard : MethodName := ⟨RX12, "heard", "(IIIIIII)I"⟩
abbrev cX12_gives : ByteArray := prog_14_method_52_code
def yX12_gives : MethodName := ⟨RX12, "gives", "(IIII)I"⟩
abbrev cX12_deeds : ByteArray := prog_14_method_53_code
def yX12_deeds : MethodName := ⟨RX12, "deeds", "()I"⟩
abbrev cX12_deedOf : ByteArray := prog_14_method_54_code
def yX12_deedOf : MethodName := ⟨RX12, "deedOf", "(II)I"⟩
abbrev cX12_hasDay : ByteArray := prog_14_method_55_code
def yX12_hasDay : MethodName := ⟨RX12, "hasDay", "(I)Z"⟩
abbrev cX12_deed : ByteArray := prog_14_method_56_code
def yX12_deed : MethodName := ⟨RX12, "deed", "(III)I"⟩
abbrev cX12_begin : ByteArray := prog_14_method_57_code
def yX12_begin : MethodName := ⟨RX12, "begin", "()V"⟩
abbrev cX12_says : ByteArray := prog_14_method_58_code
def yX12_says : MethodName := ⟨RX12, "says", "(III)V"⟩
abbrev cX12_passes : ByteArray := prog_14_method_59_code
def yX12_passes : MethodName := ⟨RX12, "passes", "(II)V"⟩
abbrev cX12_waits : ByteArray := prog_14_method_60_code
def yX12_waits : MethodName := ⟨RX12, "waits", "(I)Z"⟩
abbrev cX12_walks : ByteArray := prog_14_method_61_code
def yX12_walks : MethodName := ⟨RX12, "walks", "(II)Z"⟩
abbrev cX12_does : ByteArray := prog_14_method_62_code
def yX12_does : MethodName := ⟨RX12, "does", "(I)Z"⟩
abbrev cX12_play : ByteArray := prog_14_method_63_code
def yX12_play : MethodName := ⟨RX12, "play", "(I)I"⟩
abbrev cX12_layAll : ByteArray := prog_14_method_64_code
def yX12_layAll : MethodName := ⟨RX12, "layAll", "(II)Z"⟩
abbrev cX12_stop : ByteArray := prog_14_method_65_code
def yX12_stop : MethodName := ⟨RX12, "stop", "(II)I"⟩
abbrev cX12_hears : ByteArray := prog_14_method_66_code
def yX12_hears : MethodName := ⟨RX12, "hears", "(III)I"⟩
abbrev cX12_findHeard : ByteArray := prog_14_method_67_code
def yX12_findHeard : MethodName := ⟨RX12, "findHeard", "()V"⟩
abbrev cX12_ofPerson : ByteArray := prog_14_method_68_code
def yX12_ofPerson : MethodName := ⟨RX12, "ofPerson", "(II)I"⟩
abbrev cX12_ofState : ByteArray := prog_14_method_69_code
def yX12_ofState : MethodName := ⟨RX12, "ofState", "(I)I"⟩
abbrev cX12_state : ByteArray := prog_14_method_70_code
def yX12_state : MethodName := ⟨RX12, "state", "(IIII)I"⟩
abbrev cX12_reaches : ByteArray := prog_14_method_71_code
def yX12_reaches : MethodName := ⟨RX12, "reaches", "(IIIII)Z"⟩
abbrev cX12_isHeardBy : ByteArray := prog_14_method_72_code
def yX12_isHeardBy : MethodName := ⟨RX12, "isHeardBy", "(IIII)Z"⟩
abbrev cX12_hush : ByteArray := prog_14_method_73_code
def yX12_hush : MethodName := ⟨RX12, "hush", "(IIIIZ)I"⟩
abbrev cX12_crowd : ByteArray := prog_14_method_74_code
def yX12_crowd : MethodName := ⟨RX12, "crowd", "(IIIZ)I"⟩
abbrev cX12_chain : ByteArray := prog_14_method_75_code
def yX12_chain : MethodName := ⟨RX12, "chain", "(III)I"⟩
abbrev cX12_late : ByteArray := prog_14_method_76_code
def yX12_late : MethodName := ⟨RX12, "late", "(III)I"⟩
abbrev cX12_isKind : ByteArray := prog_14_method_77_code
def yX12_isKind : MethodName := ⟨RX12, "isKind", "(II)Z"⟩
abbrev cX12_rankOf : ByteArray := prog_14_method_78_code
def yX12_rankOf : MethodName := ⟨RX12, "rankOf", "(IZ)I"⟩
abbrev cX12_layMarket : ByteArray := prog_14_method_79_code
def yX12_layMarket : MethodName := ⟨RX12, "layMarket", "()V"⟩
abbrev cX12_clears : ByteArray := prog_14_method_80_code
def yX12_clears : MethodName := ⟨RX12, "clears", "(I)Z"⟩
abbrev cX12_market : ByteArray := prog_14_method_81_code
def yX12_market : MethodName := ⟨RX12, "market", "(II)I"⟩
abbrev cX12_soldFor : ByteArray := prog_14_method_82_code
def yX12_soldFor : MethodName := ⟨RX12, "soldFor", "(III)I"⟩
abbrev cX12_boughtFor : ByteArray := prog_14_method_83_code
def yX12_boughtFor : MethodName := ⟨RX12, "boughtFor", "(III)I"⟩
abbrev cX12_bargain : ByteArray := prog_14_method_84_code
def yX12_bargain : MethodName := ⟨RX12, "bargain", "(IIIZ)I"⟩
abbrev cX12_heavy : ByteArray := prog_14_method_85_code
def yX12_heavy : MethodName := ⟨RX12, "heavy", "(I)I"⟩
abbrev cX12_treeOf : ByteArray := prog_14_method_86_code
def yX12_treeOf : MethodName := ⟨RX12, "treeOf", "(I)I"⟩
abbrev cX12_talk : ByteArray := prog_14_method_87_code
def yX12_talk : MethodName := ⟨RX12, "talk", "(II)I"⟩
abbrev cX12_lessonOf : ByteArray := prog_14_method_88_code
def yX12_lessonOf : MethodName := ⟨RX12, "lessonOf", "(I)I"⟩
abbrev cX12_hasLesson : ByteArray := prog_14_method_89_code
def yX12_hasLesson : MethodName := ⟨RX12, "hasLesson", "(I)Z"⟩
abbrev cX12_lesson : ByteArray := prog_14_method_90_code
def yX12_lesson : MethodName := ⟨RX12, "lesson", "(II)I"⟩
abbrev cX12_ruled : ByteArray := prog_14_method_91_code
def yX12_ruled : MethodName := ⟨RX12, "ruled", "(II)I"⟩
abbrev cX12_wrongs : ByteArray := prog_14_method_92_code
def yX12_wrongs : MethodName := ⟨RX12, "wrongs", "(I)I"⟩
abbrev cX12_fits : ByteArray := prog_14_method_93_code
def yX12_fits : MethodName := ⟨RX12, "fits", "(I)Z"⟩
abbrev cX12_findGroups : ByteArray := prog_14_method_94_code
def yX12_findGroups : MethodName := ⟨RX12, "findGroups", "(I)V"⟩
abbrev cX12_largest : ByteArray := prog_14_method_95_code
def yX12_largest : MethodName := ⟨RX12, "largest", "(I)I"⟩
abbrev cX12_comesOf : ByteArray := prog_14_method_96_code
def yX12_comesOf : MethodName := ⟨RX12, "comesOf", "(II)I"⟩
abbrev cX12_rules : ByteArray := prog_14_method_97_code
def yX12_rules : MethodName := ⟨RX12, "rules", "(II)I"⟩
abbrev cX12_facts : ByteArray := prog_14_method_98_code
def yX12_facts : MethodName := ⟨RX12, "facts", "()I"⟩
abbrev cX12_factOf : ByteArray := prog_14_method_99_code
def yX12_factOf : MethodName := ⟨RX12, "factOf", "(II)I"⟩
abbrev cX12_hasSight : ByteArray := prog_14_method_100_code
def yX12_hasSight : MethodName := ⟨RX12, "hasSight", "(I)Z"⟩
abbrev cX12_fact : ByteArray := prog_14_method_101_code
def yX12_fact : MethodName := ⟨RX12, "fact", "(III)I"⟩
abbrev cX12_laySight : ByteArray := prog_14_method_102_code
def yX12_laySight : MethodName := ⟨RX12, "laySight", "(II)Z"⟩
abbrev cX12_isSo : ByteArray := prog_14_method_103_code
def yX12_isSo : MethodName := ⟨RX12, "isSo", "(III)Z"⟩
abbrev cX12_findSaid : ByteArray := prog_14_method_104_code
def yX12_findSaid : MethodName := ⟨RX12, "findSaid", "(I)I"⟩
abbrev cX12_said : ByteArray := prog_14_method_105_code
def yX12_said : MethodName := ⟨RX12, "said", "(III)I"⟩
abbrev cX12_listens : ByteArray := prog_14_method_106_code
def yX12_listens : MethodName := ⟨RX12, "listens", "(III)V"⟩
abbrev cX12_spot : ByteArray := prog_14_method_107_code
def yX12_spot : MethodName := ⟨RX12, "spot", "(IIZ)I"⟩
abbrev cX12_draw : ByteArray := prog_14_method_108_code
def yX12_draw : MethodName := ⟨RX12, "draw", "(I)I"⟩
abbrev cX12_drawDeed : ByteArray := prog_14_method_109_code
def yX12_drawDeed : MethodName := ⟨RX12, "drawDeed", "()V"⟩
abbrev cX12_drawn : ByteArray := prog_14_method_110_code
def yX12_drawn : MethodName := ⟨RX12, "drawn", "(IIII)I"⟩
abbrev cX12_ringOf : ByteArray := prog_14_method_111_code
def yX12_ringOf : MethodName := ⟨RX12, "ringOf", "(I)I"⟩
abbrev cX12_isFirst : ByteArray := prog_14_method_112_code
def yX12_isFirst : MethodName := ⟨RX12, "isFirst", "(I)Z"⟩
abbrev cX12_rings : ByteArray := prog_14_method_113_code
def yX12_rings : MethodName := ⟨RX12, "rings", "(II)I"⟩
abbrev cX12_unsure : ByteArray := prog_14_method_114_code
def yX12_unsure : MethodName := ⟨RX12, "unsure", "(IIZ)J"⟩
abbrev cX12_findSoon : ByteArray := prog_14_method_115_code
def yX12_findSoon : MethodName := ⟨RX12, "findSoon", "(IIZ)V"⟩
abbrev cX12_spread : ByteArray := prog_14_method_116_code
def yX12_spread : MethodName := ⟨RX12, "spread", "(IIIZ)I"⟩
abbrev cX12_areGuarded : ByteArray := prog_14_method_117_code
def yX12_areGuarded : MethodName := ⟨RX12, "areGuarded", "(II)Z"⟩
abbrev cX12_ones : ByteArray := prog_14_method_118_code
def yX12_ones : MethodName := ⟨RX12, "ones", "(I)I"⟩
abbrev cX12_guards : ByteArray := prog_14_method_119_code
def yX12_guards : MethodName := ⟨RX12, "guards", "(II)I"⟩
abbrev cX12_together : ByteArray := prog_14_method_120_code
def yX12_together : MethodName := ⟨RX12, "together", "(I)I"⟩
abbrev cX12_furthest : ByteArray := prog_14_method_121_code
def yX12_furthest : MethodName := ⟨RX12, "furthest", "(I)I"⟩
abbrev cX12_middle : ByteArray := prog_14_method_122_code
def yX12_middle : MethodName := ⟨RX12, "middle", "(II)I"⟩
abbrev cX12_auction : ByteArray := prog_14_method_123_code
def yX12_auction : MethodName := ⟨RX12, "auction", "(IIZ)I"⟩
abbrev cX12_relayed : ByteArray := prog_14_method_124_code
def yX12_relayed : MethodName := ⟨RX12, "relayed", "(IIII)I"⟩
abbrev cX12_weather : ByteArray := prog_14_method_125_code
def yX12_weather : MethodName := ⟨RX12, "weather", "(II)I"⟩
abbrev cX12_isNearer : ByteArray := prog_14_method_126_code
def yX12_isNearer : MethodName := ⟨RX12, "isNearer", "(III)Z"⟩
abbrev cX12_nextFor : ByteArray := prog_14_method_127_code
def yX12_nextFor : MethodName := ⟨RX12, "nextFor", "(I)I"⟩
abbrev cX12_asksOn : ByteArray := prog_14_method_128_code
def yX12_asksOn : MethodName := ⟨RX12, "asksOn", "(I)Z"⟩
abbrev cX12_matched : ByteArray := prog_14_method_129_code
def yX12_matched : MethodName := ⟨RX12, "matched", "(II)I"⟩
abbrev cX12_count : ByteArray := prog_14_method_130_code
def yX12_count : MethodName := ⟨RX12, "count", "(I)I"⟩
abbrev cX12_image : ByteArray := prog_14_method_131_code
def yX12_image : MethodName := ⟨RX12, "image", "(I)Z"⟩
abbrev cX12_again : ByteArray := prog_14_method_132_code
def yX12_again : MethodName := ⟨RX12, "again", "(I)Z"⟩
def RJ6 : String := "java/lang/Integer"
def TJ6 : u_T := fun k => match k with
  | _ => ("", "", "", false)
def tyJ6 : Nat → FieldType := fun k => match k with
  | _ => .int
theorem nmJ6 : ∀ a, a < 0 → ∀ b, b < 0 → a ≠ b → (TJ6 a).2.1 ≠ (TJ6 b).2.1 := by decide +kernel
theorem tyJ6_ok : ∀ k, k < 0 → parseFieldDescriptor (TJ6 k).2.2.1 = some (tyJ6 k) := by decide +kernel
abbrev cJ6_bitCount_0f7a4 : ByteArray := prog_16_method_49_code
def yJ6_bitCount_0f7a4 : MethodName := ⟨RJ6, "bitCount", "(I)I"⟩
def RJ9 : String := "java/lang/Math"
def TJ9 : u_T := fun k => match k with
  | _ => ("", "", "", false)
def tyJ9 : Nat → FieldType := fun k => match k with
  | _ => .int
theorem nmJ9 : ∀ a, a < 0 → ∀ b, b < 0 → a ≠ b → (TJ9 a).2.1 ≠ (TJ9 b).2.1 := by decide +kernel
theorem tyJ9_ok : ∀ k, k < 0 → parseFieldDescriptor (TJ9 k).2.2.1 = some (tyJ9 k) := by decide +kernel
abbrev cJ9_abs_0f7a4 : ByteArray := prog_17_method_59_code
def yJ9_abs_0f7a4 : MethodName := ⟨RJ9, "abs", "(I)I"⟩
abbrev cJ9_max_7cf53 : ByteArray := prog_17_method_65_code
def yJ9_max_7cf53 : MethodName := ⟨RJ9, "max", "(II)I"⟩
abbrev cJ9_min_7cf53 : ByteArray := prog_17_method_69_code
def yJ9_min_7cf53 : MethodName := ⟨RJ9, "min", "(II)I"⟩
def RJ0 : String := "java/lang/String"
def TJ0 : u_T := fun k => match k with
  | _ => ("", "", "", false)
def tyJ0 : Nat → FieldType := fun k => match k with
  | _ => .int
theorem nmJ0 : ∀ a, a < 0 → ∀ b, b < 0 → a ≠ b → (TJ0 a).2.1 ≠ (TJ0 b).2.1 := by decide +kernel
theorem tyJ0_ok : ∀ k, k < 0 → parseFieldDescriptor (TJ0 k).2.2.1 = some (tyJ0 k) := by decide +kernel
abbrev cJ0_length_8abf5 : ByteArray := prog_18_method_54_code
def yJ0_length_8abf5 : MethodName := ⟨RJ0, "length", "()I"⟩
abbrev cJ0_charAt_5068e : ByteArray := prog_18_method_56_code
def yJ0_charAt_5068e : MethodName := ⟨RJ0, "charAt", "(I)C"⟩
abbrev cJ0_coder_7d493 : ByteArray := prog_18_method_152_code
def yJ0_coder_7d493 : MethodName := ⟨RJ0, "coder", "()B"⟩
abbrev cJ0_isLatin1_aae02 : ByteArray := prog_18_method_154_code
def yJ0_isLatin1_aae02 : MethodName := ⟨RJ0, "isLatin1", "()Z"⟩
abbrev cJ0_checkIndex_df160 : ByteArray := prog_18_method_155_code
def yJ0_checkIndex_df160 : MethodName := ⟨RJ0, "checkIndex", "(II)V"⟩
def RJ1 : String := "java/lang/StringLatin1"
def TJ1 : u_T := fun k => match k with
  | _ => ("", "", "", false)
def tyJ1 : Nat → FieldType := fun k => match k with
  | _ => .int
theorem nmJ1 : ∀ a, a < 0 → ∀ b, b < 0 → a ≠ b → (TJ1 a).2.1 ≠ (TJ1 b).2.1 := by decide +kernel
theorem tyJ1_ok : ∀ k, k < 0 → parseFieldDescriptor (TJ1 k).2.2.1 = some (tyJ1 k) := by decide +kernel
abbrev cJ1_charAt_3b067 : ByteArray := prog_19_method_2_code
def yJ1_charAt_3b067 : MethodName := ⟨RJ1, "charAt", "([BI)C"⟩
def RJ2 : String := "java/lang/StringUTF16"
def TJ2 : u_T := fun k => match k with
  | _ => ("", "", "", false)
def tyJ2 : Nat → FieldType := fun k => match k with
  | _ => .int
theorem nmJ2 : ∀ a, a < 0 → ∀ b, b < 0 → a ≠ b → (TJ2 a).2.1 ≠ (TJ2 b).2.1 := by decide +kernel
theorem tyJ2_ok : ∀ k, k < 0 → parseFieldDescriptor (TJ2 k).2.2.1 = some (tyJ2 k) := by decide +kernel
abbrev cJ2_getChar_3b067 : ByteArray := prog_20_method_5_code
def yJ2_getChar_3b067 : MethodName := ⟨RJ2, "getChar", "([BI)C"⟩
abbrev cJ2_length_9d52b : ByteArray := prog_20_method_6_code
def yJ2_length_9d52b : MethodName := ⟨RJ2, "length", "([B)I"⟩
abbrev cJ2_charAt_3b067 : ByteArray := prog_20_method_83_code
def yJ2_charAt_3b067 : MethodName := ⟨RJ2, "charAt", "([BI)C"⟩
abbrev cJ2_checkIndex_2214a : ByteArray := prog_20_method_91_code
def yJ2_checkIndex_2214a : MethodName := ⟨RJ2, "checkIndex", "(I[B)V"⟩
def RJ10 : String := "java/lang/System"
def TJ10 : u_T := fun k => match k with
  | _ => ("", "", "", false)
def tyJ10 : Nat → FieldType := fun k => match k with
  | _ => .int
theorem nmJ10 : ∀ a, a < 0 → ∀ b, b < 0 → a ≠ b → (TJ10 a).2.1 ≠ (TJ10 b).2.1 := by decide +kernel
theorem tyJ10_ok : ∀ k, k < 0 → parseFieldDescriptor (TJ10 k).2.2.1 = some (tyJ10 k) := by decide +kernel
def RJ7 : String := "java/util/Arrays"
def TJ7 : u_T := fun k => match k with
  | _ => ("", "", "", false)
def tyJ7 : Nat → FieldType := fun k => match k with
  | _ => .int
theorem nmJ7 : ∀ a, a < 0 → ∀ b, b < 0 → a ≠ b → (TJ7 a).2.1 ≠ (TJ7 b).2.1 := by decide +kernel
theorem tyJ7_ok : ∀ k, k < 0 → parseFieldDescriptor (TJ7 k).2.2.1 = some (tyJ7 k) := by decide +kernel
abbrev cJ7_fill_53178 : ByteArray := prog_22_method_103_code
def yJ7_fill_53178 : MethodName := ⟨RJ7, "fill", "([II)V"⟩
def RJ3 : String := "jdk/internal/util/Preconditions"
def TJ3 : u_T := fun k => match k with
  | _ => ("", "", "", false)
def tyJ3 : Nat → FieldType := fun k => match k with
  | _ => .int
theorem nmJ3 : ∀ a, a < 0 → ∀ b, b < 0 → a ≠ b → (TJ3 a).2.1 ≠ (TJ3 b).2.1 := by decide +kernel
theorem tyJ3_ok : ∀ k, k < 0 → parseFieldDescriptor (TJ3 k).2.2.1 = some (tyJ3 k) := by decide +kernel
abbrev cJ3_checkIndex_8e157 : ByteArray := prog_23_method_11_code
def yJ3_checkIndex_8e157 : MethodName := ⟨RJ3, "checkIndex", "(IILjava/util/function/BiFunction;)I"⟩
def RL : String := "TwoEchoesLaw"
abbrev cL_law : ByteArray := code
def yL_law : MethodName := ⟨RL, "law", "([I)Z"⟩
end
section
/-! the memory picture, the judgement zz of a walk in a frame, contracts zC -/
/-- the tables' words that hold in every callee -/
def zt : List Cond := lw_tbl.filter goodWord
theorem zt_mem {w : Cond} (h : w ∈ lw_tbl) (g : goodWord w = true) : w ∈ zt := List.mem_filter.mpr ⟨h, g⟩
theorem zt_at (i : Nat) {w : Cond} (h : (lw_tbl[i]? == some w && goodWord w) = true) : w ∈ zt := by
  rw [Bool.and_eq_true] at h
  exact zt_mem (List.mem_of_getElem? (i := i) (beq_iff_eq.mp h.1)) h.2
theorem zt_good {w : Cond} (h : w ∈ zt) : GoodIn zt (w :: zt) := fun v hv => by
  rcases List.mem_cons.mp hv with e | e
  · subst e; exact ⟨h, good_of_word (List.mem_filter.mp h).2⟩
  · exact ⟨e, good_of_word (List.mem_filter.mp e).2⟩
/-- words of the nest, and of arrays of objects: they go down with the states -/
def zn : List Cond := lw_tbl.filter (fun w => match w with | .methodLinkNest .. => true | .fieldLinkNest .. => true | _ => false)
abbrev zcl : List vw_C := [(RX0, TX0, 3), (RX1, TX1, 6), (RX2, TX2, 4), (RX3, TX3, 4), (RX4, TX4, 13), (RX5, TX5, 3), (RX6, TX6, 5), (RX7, TX7, 9), (RX8, TX8, 2), (RX9, TX9, 13), (RX10, TX10, 0), (RX11, TX11, 7), (RX12, TX12, 54)]
/-- a cell: an array by a tag of its kind (0 int, 1 byte, 2 boolean, 3.. arrays of objects; 10, 11: int, byte, that nobody writes), or an object by its class's number and its fields -/
abbrev zE : Type := (Nat × vp_A) ⊕ (Nat × List Value)
/-- the memory: cells, the next free address, the addresses of the static rows and texts -/
abbrev zM : Type := (Nat → Option zE) × Nat × (Nat → Nat)
def zoc (t : Nat) : String := match t with
  | 3 => "TwoEchoes$Told"
  | 4 => "TwoEchoes$Valley"
  | 5 => "TwoEchoes$Day"
  | 6 => "TwoEchoes$Lesson"
  | _ => "TwoEchoes$Sight"
def zty (t : Nat) : FieldType := match t with
  | 1 => .byte
  | 2 => .boolean
  | 3 => .object (zoc 3)
  | 4 => .object (zoc 4)
  | 5 => .object (zoc 5)
  | 6 => .object (zoc 6)
  | 7 => .object (zoc 7)
  | 11 => .byte
  | _ => .int
/-- the tables' numbers: classes and slots, array classes by tag, the first address that is ours -/
abbrev zG : Type := va_G × (Nat → ClassId) × Nat
def zcv (ts : Nat → ClassId) (e : zE) : va_E := match e with
  | .inl (t, a) => .inl (ts t, a)
  | .inr o => .inr o
def zrw (e : zE) : Bool := match e with
  | .inl (t, _) => decide (t < 10)
  | .inr _ => true
/-- the static rows: class, field -/
def zsn (k : Nat) : String × String := match k with
  | 0 => ("TwoEchoes", "RANGE")
  | 1 => ("TwoEchoes$Course", "ACT_OF_DRAW")
  | 2 => ("TwoEchoes$Reader", "FIRST_OF_SORT")
  | 3 => ("TwoEchoes$Reader", "GREATEST")
  | _ => ("TwoEchoes$Reader", "NUMBERS")
abbrev zA (G : zG) : Nat → Prop := fun q => G.2.2 ≤ q
def zR (G : zG) (μ : zM) (U : State) (H : Heap) : Prop :=
  H.size = μ.2.1 ∧ G.2.2 ≤ H.size ∧ (∀ (q : Nat) (e : zE), μ.1 q = some e → va_at G.1 zcl (q, zcv G.2.1 e) H ∧ (zrw e = true → G.2.2 ≤ q)) ∧
  (∀ k : Nat, k < 5 → va_Z (zsn k).1 (zsn k).2 "[I" (.ref (μ.2.2 k)) (zA G) U H)
/-- what holds of the tables in every state below -/
def zK (G : zG) (U : State) : Prop := va_K G.1 zcl [] U ∧ (∀ t : Nat, t < 12 → ArrOfT U (G.2.1 t) (zty t) ∧ va_RA U (G.2.1 t) (zty t)) ∧ (∀ t : Nat, va_AO (zoc t) U) ∧ ∀ w ∈ zn, va_Nw w U
theorem zK.arr {G : zG} {U : State} (h : zK G U) {t : Nat} (ht : t < 12) : va_K G.1 zcl [(G.2.1 t, zty t)] U := ⟨h.1.1, fun k q hk => by
  cases k with
  | zero => cases hk; exact h.2.1 t ht
  | succ k => simp at hk⟩
theorem zn_warm {w : Cond} (h : w ∈ zn) {s U : State} (hW : s.WarmedH U.vm) (hZ : va_Nw w s) : va_Nw w U := by
  have h2 := (List.mem_filter.mp h).2
  cases w <;> simp at h2
  · exact va_Nw.warmM hW hZ
  · exact va_Nw.warmF hW hZ
theorem zn_tab {w : Cond} (h : w ∈ zn) : w.onTables = true := by
  have h2 := (List.mem_filter.mp h).2
  cases w <;> simp at h2 <;> rfl
theorem zK.warm {G : zG} {s U : State} (hW : s.WarmedH U.vm) (h : zK G s) : zK G U := ⟨va_K.moved hW.alike h.1, fun t ht => ⟨arrOfT_moved hW.alike (h.2.1 t ht).1, (h.2.1 t ht).2.moved hW.alike⟩, fun t => (h.2.2.1 t).moved hW.alike, fun w hw => zn_warm hw hW (h.2.2.2 w hw)⟩
theorem zK.calling {G : zG} {U : State} {g : JFrame} {mk : MethodId} {a : Array Value} (h : zK G U) : zK G (U.calling g mk a) :=
  ⟨va_K.moved (u := U) (U := U.calling g mk a) (Vm.Alike.refl U.vm) h.1, fun t ht => ⟨arrOfT_moved (E := U.calling g mk a) (Vm.Alike.refl U.vm) (h.2.1 t ht).1, (h.2.1 t ht).2.moved (u := U) (U := U.calling g mk a) (Vm.Alike.refl U.vm)⟩, fun t => (h.2.2.1 t).moved (u := U) (U := U.calling g mk a) (Vm.Alike.refl U.vm), fun w hw => va_Nw.same (zn_tab hw) (u := U) (U := U.calling g mk a) rfl (h.2.2.2 w hw)⟩
theorem zR.moved {G : zG} {μ : zM} {u U : State} {H : Heap} (hvm : u.vm.Alike U.vm) (h : zR G μ u H) : zR G μ U H := ⟨h.1, h.2.1, h.2.2.1, fun k hk => (h.2.2.2 k hk).moved hvm⟩
/-- the room of a frame with d frames above it -/
def zrm (d mc ms : Nat) : Room := { frames := d, cells := mc, slots := ms, locals := 48 * d }
/-- a method's CONTRACT at one call: from the memory μ it comes back with rv and the memory μ' -/
def zC (y : MethodName) (cc : ByteArray) (nL : Nat) (rt : Option FieldType) (d mc ms : Nat) (av : List Value) (μ : zM) (rv : Option Value) (μ' : zM) : Prop :=
  ∀ (l : Launch) (G : zG), Met l y (.code y cc nL rt :: zt) (zrm d mc ms) (va_Pc av (fun U => zR G μ U U.heap ∧ zK G U)) (fun _ st oc t => oc = .returned rv ∧ zR G μ' t t.heap ∧ va_F (zA G) st t) mc ms (zA G)
/-- a frame: the machine, and the tables' numbers -/
abbrev zKT : Type := Program × Launch × Env × State × MethodId × Array Value × List Frame × Method × Code × zG
/-- a method: locals, class, answer's type, depth, cells, slots; what it answers, and the memory behind it -/
abbrev zFT : Type := Nat × String × Option FieldType × Nat × Nat × Nat × Option Value × zM
def zOk (K : zKT) (cc : ByteArray) (F : zFT) : Prop := match K, F with
  | (p, _, _, s, m, args, _, meth, c, G), (nL, own, rt, _, _, _, _, _) =>
    p.tables.exec = Jvm.exec ∧ c.code = cc ∧ c.maxLocals = nL ∧ s.vm.findClass own = some m.cls ∧ (∀ w ∈ zt, w.before args s = true) ∧ meth.sig.returnType = rt ∧ meth.locks = false ∧ zK G s
def zz (K : zKT) (cc : ByteArray) (F : zFT) (kc ks pc : Nat) (lv : List (Nat × Value)) (st : List Value) (μ : zM) : Prop :=
  zOk K cc F → match K, F with
  | (p, l, e, s, m, args, below, meth, c, G), (nL, _, _, d, mc, ms, rv, μ') =>
    ∀ (H : Heap) (locs : List Loc) (ls : Array Slot), zR G μ s H → va_S (zA G) s.heap H locs → lv_has ls nL lv →
      W p l e (zrm d mc ms) s m args below meth c H locs kc ks (MQ below (fun _ st oc t => oc = .returned rv ∧ zR G μ' t t.heap ∧ va_F (zA G) st t) args s mc ms (zA G)) (F0 m pc ls st)
theorem zC.of {y : MethodName} {cc : ByteArray} {nL : Nat} {rt : Option FieldType} {d mc ms : Nat} {av : List Value} {μ : zM} {rv : Option Value} {μ' : zM} (hy : plainName y.cls = true) (hn : (lg_sl av).length ≤ nL)
    (h : ∀ K : zKT, (y.name = "<init>" → K.2.2.2.2.2.2.2.1.name = "<init>") → zz K cc (nL, y.cls, rt, d, mc, ms, rv, μ') 0 0 0 (lv_args 0 av) [] μ) : zC y cc nL rt d mc ms av μ rv μ' := by
  intro l G
  refine Met.ofW (cc := cc) (maxL := nL) (ret := rt) hy rfl ?_
  intro p e s m args below meth c s₁ B hml hv
  obtain ⟨rfl, hR, hK⟩ := hv
  have hts := atoms_spec (ws := .code y cc nL rt :: zt) B.pre
  have hown : s.vm.findClass y.cls = some m.cls := findClass_of_methodNamed B.named
  have hl := lv_entry av hn
  rw [lg_entry_eq]
  exact h (p, l, e, s, m, av.toArray, below, meth, c, G) (fun q => (name_of_methodNamed B.named B.method).1.trans q) ⟨B.exec, B.bytes, hml, hown, fun w hw => hts w (List.mem_cons_of_mem _ hw), B.returns, B.notSynchronized, hK⟩ s.heap [] _ hR va_S.rf hl
end
section
theorem zr_iconst {K : zKT} {cc : ByteArray} {F : zFT} {kc ks pc : Nat} {lv : List (Nat × Value)} {st : List Value} {μ : zM} {n : Int} (v : Int32) (dg : decode cc pc = .ok (.iconst n, 1)) (hv : Int32.ofInt n = v) (k : zz K cc F kc ks (pc + 1) lv (.int v :: st) μ) : zz K cc F kc ks pc lv (st) μ := by
  obtain ⟨p, l, e, s, m, args, below, meth, c, G⟩ := K
  obtain ⟨nL, own, rt, d0, mc, ms, rv, μ'⟩ := F
  intro C H locs ls hR hS hl
  obtain ⟨hx, hb, hml, hown, hts, hr, hlk, hK⟩ := id C
  exact lv_iconst hx hb dg hv (k C H locs ls hR hS hl)
theorem zr_bipush {K : zKT} {cc : ByteArray} {F : zFT} {kc ks pc : Nat} {lv : List (Nat × Value)} {st : List Value} {μ : zM} {n : Int} (v : Int32) (dg : decode cc pc = .ok (.bipush n, 2)) (hv : (Int8.ofInt n).toInt32 = v) (k : zz K cc F kc ks (pc + 2) lv (.int v :: st) μ) : zz K cc F kc ks pc lv (st) μ := by
  obtain ⟨p, l, e, s, m, args, below, meth, c, G⟩ := K
  obtain ⟨nL, own, rt, d0, mc, ms, rv, μ'⟩ := F
  intro C H locs ls hR hS hl
  obtain ⟨hx, hb, hml, hown, hts, hr, hlk, hK⟩ := id C
  exact lv_bipush hx hb dg hv (k C H locs ls hR hS hl)
theorem zr_sipush {K : zKT} {cc : ByteArray} {F : zFT} {kc ks pc : Nat} {lv : List (Nat × Value)} {st : List Value} {μ : zM} {n : Int} (v : Int32) (dg : decode cc pc = .ok (.sipush n, 3)) (hv : (Int16.ofInt n).toInt32 = v) (k : zz K cc F kc ks (pc + 3) lv (.int v :: st) μ) : zz K cc F kc ks pc lv (st) μ := by
  obtain ⟨p, l, e, s, m, args, below, meth, c, G⟩ := K
  obtain ⟨nL, own, rt, d0, mc, ms, rv, μ'⟩ := F
  intro C H locs ls hR hS hl
  obtain ⟨hx, hb, hml, hown, hts, hr, hlk, hK⟩ := id C
  exact lv_sipush hx hb dg hv (k C H locs ls hR hS hl)
theorem zr_lconst {K : zKT} {cc : ByteArray} {F : zFT} {kc ks pc : Nat} {lv : List (Nat × Value)} {st : List Value} {μ : zM} {n : Fin 2} (v : Int64) (dg : decode cc pc = .ok (.lconst n, 1)) (hv : Int64.ofNat (n : Nat) = v) (k : zz K cc F kc ks (pc + 1) lv (.long v :: st) μ) : zz K cc F kc ks pc lv (st) μ := by
  obtain ⟨p, l, e, s, m, args, below, meth, c, G⟩ := K
  obtain ⟨nL, own, rt, d0, mc, ms, rv, μ'⟩ := F
  intro C H locs ls hR hS hl
  obtain ⟨hx, hb, hml, hown, hts, hr, hlk, hK⟩ := id C
  exact lv_lconst hx hb dg hv (k C H locs ls hR hS hl)
theorem zr_null {K : zKT} {cc : ByteArray} {F : zFT} {kc ks pc : Nat} {lv : List (Nat × Value)} {st : List Value} {μ : zM} (dg : decode cc pc = .ok (.aconst_null, 1)) (k : zz K cc F kc ks (pc + 1) lv (.null :: st) μ) : zz K cc F kc ks pc lv (st) μ := by
  obtain ⟨p, l, e, s, m, args, below, meth, c, G⟩ := K
  obtain ⟨nL, own, rt, d0, mc, ms, rv, μ'⟩ := F
  intro C H locs ls hR hS hl
  obtain ⟨hx, hb, hml, hown, hts, hr, hlk, hK⟩ := id C
  exact lv_null hx hb dg (k C H locs ls hR hS hl)
theorem zr_ldc {K : zKT} {cc : ByteArray} {F : zFT} {kc ks pc : Nat} {lv : List (Nat × Value)} {st : List Value} {μ : zM} {ix : Nat} {v : Int32} (hc : Cond.constant F.2.1 ix v ∈ zt) (dg : decode cc pc = .ok (.ldc ix, 2)) (k : zz K cc F kc ks (pc + 2) lv (.int v :: st) μ) : zz K cc F kc ks pc lv (st) μ := by
  obtain ⟨p, l, e, s, m, args, below, meth, c, G⟩ := K
  obtain ⟨nL, own, rt, d0, mc, ms, rv, μ'⟩ := F
  intro C H locs ls hR hS hl
  obtain ⟨hx, hb, hml, hown, hts, hr, hlk, hK⟩ := id C
  exact lv_ldc hx hb hown (hts _ hc) dg (k C H locs ls hR hS hl)
theorem zr_ldcw {K : zKT} {cc : ByteArray} {F : zFT} {kc ks pc : Nat} {lv : List (Nat × Value)} {st : List Value} {μ : zM} {ix : Nat} {v : Int32} (hc : Cond.constant F.2.1 ix v ∈ zt) (dg : decode cc pc = .ok (.ldc_w ix, 3)) (k : zz K cc F kc ks (pc + 3) lv (.int v :: st) μ) : zz K cc F kc ks pc lv (st) μ := by
  obtain ⟨p, l, e, s, m, args, below, meth, c, G⟩ := K
  obtain ⟨nL, own, rt, d0, mc, ms, rv, μ'⟩ := F
  intro C H locs ls hR hS hl
  obtain ⟨hx, hb, hml, hown, hts, hr, hlk, hK⟩ := id C
  exact lv_ldcw hx hb hown (hts _ hc) dg (k C H locs ls hR hS hl)
theorem zr_ldc2 {K : zKT} {cc : ByteArray} {F : zFT} {kc ks pc : Nat} {lv : List (Nat × Value)} {st : List Value} {μ : zM} {ix : Nat} {v : Int64} (hc : Cond.constantLong F.2.1 ix v ∈ zt) (dg : decode cc pc = .ok (.ldc2_w ix, 3)) (k : zz K cc F kc ks (pc + 3) lv (.long v :: st) μ) : zz K cc F kc ks pc lv (st) μ := by
  obtain ⟨p, l, e, s, m, args, below, meth, c, G⟩ := K
  obtain ⟨nL, own, rt, d0, mc, ms, rv, μ'⟩ := F
  intro C H locs ls hR hS hl
  obtain ⟨hx, hb, hml, hown, hts, hr, hlk, hK⟩ := id C
  exact lv_ldc2 hx hb hown (hts _ hc) dg (k C H locs ls hR hS hl)
theorem zr_iload_n {K : zKT} {cc : ByteArray} {F : zFT} {kc ks pc : Nat} {lv : List (Nat × Value)} {st : List Value} {μ : zM} {i : Fin 4} {x : Int32} (j : Nat) (dg : decode cc pc = .ok (.iload_n i, 1)) (h : lv[j]? = some ((i : Nat), .int x)) (k : zz K cc F kc ks (pc + 1) lv (.int x :: st) μ) : zz K cc F kc ks pc lv (st) μ := by
  obtain ⟨p, l, e, s, m, args, below, meth, c, G⟩ := K
  obtain ⟨nL, own, rt, d0, mc, ms, rv, μ'⟩ := F
  intro C H locs ls hR hS hl
  obtain ⟨hx, hb, hml, hown, hts, hr, hlk, hK⟩ := id C
  exact lv_iload_n hx hb dg rfl (lv_at hl j h) (k C H locs ls hR hS hl)
theorem zr_iload {K : zKT} {cc : ByteArray} {F : zFT} {kc ks pc : Nat} {lv : List (Nat × Value)} {st : List Value} {μ : zM} {i : Nat} {x : Int32} (j : Nat) (dg : decode cc pc = .ok (.iload i, 2)) (h : lv[j]? = some (i, .int x)) (k : zz K cc F kc ks (pc + 2) lv (.int x :: st) μ) : zz K cc F kc ks pc lv (st) μ := by
  obtain ⟨p, l, e, s, m, args, below, meth, c, G⟩ := K
  obtain ⟨nL, own, rt, d0, mc, ms, rv, μ'⟩ := F
  intro C H locs ls hR hS hl
  obtain ⟨hx, hb, hml, hown, hts, hr, hlk, hK⟩ := id C
  exact lv_iload hx hb dg (lv_at hl j h) (k C H locs ls hR hS hl)
theorem zr_lload_n {K : zKT} {cc : ByteArray} {F : zFT} {kc ks pc : Nat} {lv : List (Nat × Value)} {st : List Value} {μ : zM} {i : Fin 4} {x : Int64} (j : Nat) (dg : decode cc pc = .ok (.lload_n i, 1)) (h : lv[j]? = some ((i : Nat), .long x)) (k : zz K cc F kc ks (pc + 1) lv (.long x :: st) μ) : zz K cc F kc ks pc lv (st) μ := by
  obtain ⟨p, l, e, s, m, args, below, meth, c, G⟩ := K
  obtain ⟨nL, own, rt, d0, mc, ms, rv, μ'⟩ := F
  intro C H locs ls hR hS hl
  obtain ⟨hx, hb, hml, hown, hts, hr, hlk, hK⟩ := id C
  exact lv_lload_n hx hb dg rfl (lv_at hl j h) (k C H locs ls hR hS hl)
theorem zr_lload {K : zKT} {cc : ByteArray} {F : zFT} {kc ks pc : Nat} {lv : List (Nat × Value)} {st : List Value} {μ : zM} {i : Nat} {x : Int64} (j : Nat) (dg : decode cc pc = .ok (.lload i, 2)) (h : lv[j]? = some (i, .long x)) (k : zz K cc F kc ks (pc + 2) lv (.long x :: st) μ) : zz K cc F kc ks pc lv (st) μ := by
  obtain ⟨p, l, e, s, m, args, below, meth, c, G⟩ := K
  obtain ⟨nL, own, rt, d0, mc, ms, rv, μ'⟩ := F
  intro C H locs ls hR hS hl
  obtain ⟨hx, hb, hml, hown, hts, hr, hlk, hK⟩ := id C
  exact lv_lload hx hb dg (lv_at hl j h) (k C H locs ls hR hS hl)
theorem zr_aload_n {K : zKT} {cc : ByteArray} {F : zFT} {kc ks pc : Nat} {lv : List (Nat × Value)} {st : List Value} {μ : zM} {i : Fin 4} {x : Nat} (j : Nat) (dg : decode cc pc = .ok (.aload_n i, 1)) (h : lv[j]? = some ((i : Nat), .ref x)) (k : zz K cc F kc ks (pc + 1) lv (.ref x :: st) μ) : zz K cc F kc ks pc lv (st) μ := by
  obtain ⟨p, l, e, s, m, args, below, meth, c, G⟩ := K
  obtain ⟨nL, own, rt, d0, mc, ms, rv, μ'⟩ := F
  intro C H locs ls hR hS hl
  obtain ⟨hx, hb, hml, hown, hts, hr, hlk, hK⟩ := id C
  exact lv_aload_n hx hb dg rfl (lv_at hl j h) (k C H locs ls hR hS hl)
theorem zr_aload {K : zKT} {cc : ByteArray} {F : zFT} {kc ks pc : Nat} {lv : List (Nat × Value)} {st : List Value} {μ : zM} {i : Nat} {x : Nat} (j : Nat) (dg : decode cc pc = .ok (.aload i, 2)) (h : lv[j]? = some (i, .ref x)) (k : zz K cc F kc ks (pc + 2) lv (.ref x :: st) μ) : zz K cc F kc ks pc lv (st) μ := by
  obtain ⟨p, l, e, s, m, args, below, meth, c, G⟩ := K
  obtain ⟨nL, own, rt, d0, mc, ms, rv, μ'⟩ := F
  intro C H locs ls hR hS hl
  obtain ⟨hx, hb, hml, hown, hts, hr, hlk, hK⟩ := id C
  exact lv_aload hx hb dg (lv_at hl j h) (k C H locs ls hR hS hl)
theorem zr_oload_n {K : zKT} {cc : ByteArray} {F : zFT} {kc ks pc : Nat} {lv : List (Nat × Value)} {st : List Value} {μ : zM} {i : Fin 4} {x : Option Nat} (j : Nat) (dg : decode cc pc = .ok (.aload_n i, 1)) (h : lv[j]? = some ((i : Nat), va_rf x)) (k : zz K cc F kc ks (pc + 1) lv (va_rf x :: st) μ) : zz K cc F kc ks pc lv st μ := by
  obtain ⟨p, l, e, s, m, args, below, meth, c, G⟩ := K
  obtain ⟨nL, own, rt, d0, mc, ms, rv, μ'⟩ := F
  intro C H locs ls hR hS hl
  obtain ⟨hx, hb, hml, hown, hts, hr, hlk, hK⟩ := id C
  cases x with
  | none => exact lv_aload_nN hx hb dg rfl (lv_at hl j h) (k C H locs ls hR hS hl)
  | some y => exact lv_aload_n hx hb dg rfl (lv_at hl j h) (k C H locs ls hR hS hl)
theorem zr_oload {K : zKT} {cc : ByteArray} {F : zFT} {kc ks pc : Nat} {lv : List (Nat × Value)} {st : List Value} {μ : zM} {i : Nat} {x : Option Nat} (j : Nat) (dg : decode cc pc = .ok (.aload i, 2)) (h : lv[j]? = some (i, va_rf x)) (k : zz K cc F kc ks (pc + 2) lv (va_rf x :: st) μ) : zz K cc F kc ks pc lv st μ := by
  obtain ⟨p, l, e, s, m, args, below, meth, c, G⟩ := K
  obtain ⟨nL, own, rt, d0, mc, ms, rv, μ'⟩ := F
  intro C H locs ls hR hS hl
  obtain ⟨hx, hb, hml, hown, hts, hr, hlk, hK⟩ := id C
  cases x with
  | none => exact lv_aloadN hx hb dg (lv_at hl j h) (k C H locs ls hR hS hl)
  | some y => exact lv_aload hx hb dg (lv_at hl j h) (k C H locs ls hR hS hl)
theorem zr_istore_n {K : zKT} {cc : ByteArray} {F : zFT} {kc ks pc : Nat} {lv : List (Nat × Value)} {st : List Value} {μ : zM} {i : Fin 4} {x : Int32} (lv' : List (Nat × Value)) (dg : decode cc pc = .ok (.istore_n i, 1)) (hn : (i : Nat) < F.1) (hv : ((i : Nat), Value.int x) :: lv.filter (fun q => !(q.1 == (i : Nat)) && !(q.1 + 1 == (i : Nat) && q.2.category == 2)) = lv') (k : zz K cc F kc ks (pc + 1) lv' (st) μ) : zz K cc F kc ks pc lv (.int x :: st) μ := by
  obtain ⟨p, l, e, s, m, args, below, meth, c, G⟩ := K
  obtain ⟨nL, own, rt, d0, mc, ms, rv, μ'⟩ := F
  intro C H locs ls hR hS hl
  obtain ⟨hx, hb, hml, hown, hts, hr, hlk, hK⟩ := id C
  exact lv_istore_n hx hb dg rfl hl hn hv (fun ls hl => k C H locs ls hR hS hl)
theorem zr_istore {K : zKT} {cc : ByteArray} {F : zFT} {kc ks pc : Nat} {lv : List (Nat × Value)} {st : List Value} {μ : zM} {i : Nat} {x : Int32} (lv' : List (Nat × Value)) (dg : decode cc pc = .ok (.istore i, 2)) (hn : i < F.1) (hv : (i, Value.int x) :: lv.filter (fun q => !(q.1 == i) && !(q.1 + 1 == i && q.2.category == 2)) = lv') (k : zz K cc F kc ks (pc + 2) lv' (st) μ) : zz K cc F kc ks pc lv (.int x :: st) μ := by
  obtain ⟨p, l, e, s, m, args, below, meth, c, G⟩ := K
  obtain ⟨nL, own, rt, d0, mc, ms, rv, μ'⟩ := F
  intro C H locs ls hR hS hl
  obtain ⟨hx, hb, hml, hown, hts, hr, hlk, hK⟩ := id C
  exact lv_istore hx hb dg hl hn hv (fun ls hl => k C H locs ls hR hS hl)
theorem zr_lstore_n {K : zKT} {cc : ByteArray} {F : zFT} {kc ks pc : Nat} {lv : List (Nat × Value)} {st : List Value} {μ : zM} {i : Fin 4} {x : Int64} (lv' : List (Nat × Value)) (dg : decode cc pc = .ok (.lstore_n i, 1)) (hn : (i : Nat) + 1 < F.1) (hv : ((i : Nat), Value.long x) :: lv.filter (fun q => !(q.1 == (i : Nat)) && (!(q.1 == (i : Nat) + 1) && !(q.1 + 1 == (i : Nat) && q.2.category == 2))) = lv') (k : zz K cc F kc ks (pc + 1) lv' (st) μ) : zz K cc F kc ks pc lv (.long x :: st) μ := by
  obtain ⟨p, l, e, s, m, args, below, meth, c, G⟩ := K
  obtain ⟨nL, own, rt, d0, mc, ms, rv, μ'⟩ := F
  intro C H locs ls hR hS hl
  obtain ⟨hx, hb, hml, hown, hts, hr, hlk, hK⟩ := id C
  exact lv_lstore_n hx hb dg rfl hl hn hv (fun ls hl => k C H locs ls hR hS hl)
theorem zr_lstore {K : zKT} {cc : ByteArray} {F : zFT} {kc ks pc : Nat} {lv : List (Nat × Value)} {st : List Value} {μ : zM} {i : Nat} {x : Int64} (lv' : List (Nat × Value)) (dg : decode cc pc = .ok (.lstore i, 2)) (hn : i + 1 < F.1) (hv : (i, Value.long x) :: lv.filter (fun q => !(q.1 == i) && (!(q.1 == i + 1) && !(q.1 + 1 == i && q.2.category == 2))) = lv') (k : zz K cc F kc ks (pc + 2) lv' (st) μ) : zz K cc F kc ks pc lv (.long x :: st) μ := by
  obtain ⟨p, l, e, s, m, args, below, meth, c, G⟩ := K
  obtain ⟨nL, own, rt, d0, mc, ms, rv, μ'⟩ := F
  intro C H locs ls hR hS hl
  obtain ⟨hx, hb, hml, hown, hts, hr, hlk, hK⟩ := id C
  exact lv_lstore hx hb dg hl hn hv (fun ls hl => k C H locs ls hR hS hl)
theorem zr_astore_n {K : zKT} {cc : ByteArray} {F : zFT} {kc ks pc : Nat} {lv : List (Nat × Value)} {st : List Value} {μ : zM} {i : Fin 4} {x : Nat} (lv' : List (Nat × Value)) (dg : decode cc pc = .ok (.astore_n i, 1)) (hn : (i : Nat) < F.1) (hv : ((i : Nat), Value.ref x) :: lv.filter (fun q => !(q.1 == (i : Nat)) && !(q.1 + 1 == (i : Nat) && q.2.category == 2)) = lv') (k : zz K cc F kc ks (pc + 1) lv' (st) μ) : zz K cc F kc ks pc lv (.ref x :: st) μ := by
  obtain ⟨p, l, e, s, m, args, below, meth, c, G⟩ := K
  obtain ⟨nL, own, rt, d0, mc, ms, rv, μ'⟩ := F
  intro C H locs ls hR hS hl
  obtain ⟨hx, hb, hml, hown, hts, hr, hlk, hK⟩ := id C
  exact lv_astore_n hx hb dg rfl hl hn hv (fun ls hl => k C H locs ls hR hS hl)
theorem zr_astore {K : zKT} {cc : ByteArray} {F : zFT} {kc ks pc : Nat} {lv : List (Nat × Value)} {st : List Value} {μ : zM} {i : Nat} {x : Nat} (lv' : List (Nat × Value)) (dg : decode cc pc = .ok (.astore i, 2)) (hn : i < F.1) (hv : (i, Value.ref x) :: lv.filter (fun q => !(q.1 == i) && !(q.1 + 1 == i && q.2.category == 2)) = lv') (k : zz K cc F kc ks (pc + 2) lv' (st) μ) : zz K cc F kc ks pc lv (.ref x :: st) μ := by
  obtain ⟨p, l, e, s, m, args, below, meth, c, G⟩ := K
  obtain ⟨nL, own, rt, d0, mc, ms, rv, μ'⟩ := F
  intro C H locs ls hR hS hl
  obtain ⟨hx, hb, hml, hown, hts, hr, hlk, hK⟩ := id C
  exact lv_astore hx hb dg hl hn hv (fun ls hl => k C H locs ls hR hS hl)
theorem zr_ostore_n {K : zKT} {cc : ByteArray} {F : zFT} {kc ks pc : Nat} {lv : List (Nat × Value)} {st : List Value} {μ : zM} {i : Fin 4} {x : Option Nat} (lv' : List (Nat × Value)) (dg : decode cc pc = .ok (.astore_n i, 1)) (hn : (i : Nat) < F.1) (hv : ((i : Nat), va_rf x) :: lv.filter (fun q => !(q.1 == (i : Nat)) && !(q.1 + 1 == (i : Nat) && q.2.category == 2)) = lv') (k : zz K cc F kc ks (pc + 1) lv' st μ) : zz K cc F kc ks pc lv (va_rf x :: st) μ := by
  obtain ⟨p, l, e, s, m, args, below, meth, c, G⟩ := K
  obtain ⟨nL, own, rt, d0, mc, ms, rv, μ'⟩ := F
  intro C H locs ls hR hS hl
  obtain ⟨hx, hb, hml, hown, hts, hr, hlk, hK⟩ := id C
  cases x with
  | none => exact lv_astore_nN hx hb dg rfl hl hn hv (fun ls hl => k C H locs ls hR hS hl)
  | some y => exact lv_astore_n hx hb dg rfl hl hn hv (fun ls hl => k C H locs ls hR hS hl)
theorem zr_ostore {K : zKT} {cc : ByteArray} {F : zFT} {kc ks pc : Nat} {lv : List (Nat × Value)} {st : List Value} {μ : zM} {i : Nat} {x : Option Nat} (lv' : List (Nat × Value)) (dg : decode cc pc = .ok (.astore i, 2)) (hn : i < F.1) (hv : (i, va_rf x) :: lv.filter (fun q => !(q.1 == i) && !(q.1 + 1 == i && q.2.category == 2)) = lv') (k : zz K cc F kc ks (pc + 2) lv' st μ) : zz K cc F kc ks pc lv (va_rf x :: st) μ := by
  obtain ⟨p, l, e, s, m, args, below, meth, c, G⟩ := K
  obtain ⟨nL, own, rt, d0, mc, ms, rv, μ'⟩ := F
  intro C H locs ls hR hS hl
  obtain ⟨hx, hb, hml, hown, hts, hr, hlk, hK⟩ := id C
  cases x with
  | none => exact lv_astoreN hx hb dg hl hn hv (fun ls hl => k C H locs ls hR hS hl)
  | some y => exact lv_astore hx hb dg hl hn hv (fun ls hl => k C H locs ls hR hS hl)
theorem zr_iinc {K : zKT} {cc : ByteArray} {F : zFT} {kc ks pc : Nat} {lv : List (Nat × Value)} {st : List Value} {μ : zM} {i j : Nat} {n : Int} {x : Int32} (v : Int32) (lv' : List (Nat × Value)) (dg : decode cc pc = .ok (.iinc i n, 3)) (hk : lv[j]? = some (i, .int x)) (hx' : x + Int32.ofInt n = v) (hn : i < F.1) (hv : (i, Value.int v) :: lv.filter (fun q => !(q.1 == i) && !(q.1 + 1 == i && q.2.category == 2)) = lv') (k : zz K cc F kc ks (pc + 3) lv' (st) μ) : zz K cc F kc ks pc lv (st) μ := by
  obtain ⟨p, l, e, s, m, args, below, meth, c, G⟩ := K
  obtain ⟨nL, own, rt, d0, mc, ms, rv, μ'⟩ := F
  intro C H locs ls hR hS hl
  obtain ⟨hx, hb, hml, hown, hts, hr, hlk, hK⟩ := id C
  exact lv_iinc hx hb dg hl hk hx' hn hv (fun ls hl => k C H locs ls hR hS hl)
theorem zr_iadd {K : zKT} {cc : ByteArray} {F : zFT} {kc ks pc : Nat} {lv : List (Nat × Value)} {st : List Value} {μ : zM} {x y : Int32} (dg : decode cc pc = .ok (.iadd, 1)) (k : zz K cc F kc ks (pc + 1) lv (.int (x + y) :: st) μ) : zz K cc F kc ks pc lv (.int y :: .int x :: st) μ := by
  obtain ⟨p, l, e, s, m, args, below, meth, c, G⟩ := K
  obtain ⟨nL, own, rt, d0, mc, ms, rv, μ'⟩ := F
  intro C H locs ls hR hS hl
  obtain ⟨hx, hb, hml, hown, hts, hr, hlk, hK⟩ := id C
  exact lv_iadd hx hb dg (k C H locs ls hR hS hl)
theorem zr_isub {K : zKT} {cc : ByteArray} {F : zFT} {kc ks pc : Nat} {lv : List (Nat × Value)} {st : List Value} {μ : zM} {x y : Int32} (dg : decode cc pc = .ok (.isub, 1)) (k : zz K cc F kc ks (pc + 1) lv (.int (x - y) :: st) μ) : zz K cc F kc ks pc lv (.int y :: .int x :: st) μ := by
  obtain ⟨p, l, e, s, m, args, below, meth, c, G⟩ := K
  obtain ⟨nL, own, rt, d0, mc, ms, rv, μ'⟩ := F
  intro C H locs ls hR hS hl
  obtain ⟨hx, hb, hml, hown, hts, hr, hlk, hK⟩ := id C
  exact lv_isub hx hb dg (k C H locs ls hR hS hl)
theorem zr_imul {K : zKT} {cc : ByteArray} {F : zFT} {kc ks pc : Nat} {lv : List (Nat × Value)} {st : List Value} {μ : zM} {x y : Int32} (dg : decode cc pc = .ok (.imul, 1)) (k : zz K cc F kc ks (pc + 1) lv (.int (x * y) :: st) μ) : zz K cc F kc ks pc lv (.int y :: .int x :: st) μ := by
  obtain ⟨p, l, e, s, m, args, below, meth, c, G⟩ := K
  obtain ⟨nL, own, rt, d0, mc, ms, rv, μ'⟩ := F
  intro C H locs ls hR hS hl
  obtain ⟨hx, hb, hml, hown, hts, hr, hlk, hK⟩ := id C
  exact lv_imul hx hb dg (k C H locs ls hR hS hl)
theorem zr_iand {K : zKT} {cc : ByteArray} {F : zFT} {kc ks pc : Nat} {lv : List (Nat × Value)} {st : List Value} {μ : zM} {x y : Int32} (dg : decode cc pc = .ok (.iand, 1)) (k : zz K cc F kc ks (pc + 1) lv (.int (x &&& y) :: st) μ) : zz K cc F kc ks pc lv (.int y :: .int x :: st) μ := by
  obtain ⟨p, l, e, s, m, args, below, meth, c, G⟩ := K
  obtain ⟨nL, own, rt, d0, mc, ms, rv, μ'⟩ := F
  intro C H locs ls hR hS hl
  obtain ⟨hx, hb, hml, hown, hts, hr, hlk, hK⟩ := id C
  exact lv_iand hx hb dg (k C H locs ls hR hS hl)
theorem zr_ior {K : zKT} {cc : ByteArray} {F : zFT} {kc ks pc : Nat} {lv : List (Nat × Value)} {st : List Value} {μ : zM} {x y : Int32} (dg : decode cc pc = .ok (.ior, 1)) (k : zz K cc F kc ks (pc + 1) lv (.int (x ||| y) :: st) μ) : zz K cc F kc ks pc lv (.int y :: .int x :: st) μ := by
  obtain ⟨p, l, e, s, m, args, below, meth, c, G⟩ := K
  obtain ⟨nL, own, rt, d0, mc, ms, rv, μ'⟩ := F
  intro C H locs ls hR hS hl
  obtain ⟨hx, hb, hml, hown, hts, hr, hlk, hK⟩ := id C
  exact lv_ior hx hb dg (k C H locs ls hR hS hl)
theorem zr_ixor {K : zKT} {cc : ByteArray} {F : zFT} {kc ks pc : Nat} {lv : List (Nat × Value)} {st : List Value} {μ : zM} {x y : Int32} (dg : decode cc pc = .ok (.ixor, 1)) (k : zz K cc F kc ks (pc + 1) lv (.int (x ^^^ y) :: st) μ) : zz K cc F kc ks pc lv (.int y :: .int x :: st) μ := by
  obtain ⟨p, l, e, s, m, args, below, meth, c, G⟩ := K
  obtain ⟨nL, own, rt, d0, mc, ms, rv, μ'⟩ := F
  intro C H locs ls hR hS hl
  obtain ⟨hx, hb, hml, hown, hts, hr, hlk, hK⟩ := id C
  exact lv_ixor hx hb dg (k C H locs ls hR hS hl)
theorem zr_ishl {K : zKT} {cc : ByteArray} {F : zFT} {kc ks pc : Nat} {lv : List (Nat × Value)} {st : List Value} {μ : zM} {x y : Int32} (dg : decode cc pc = .ok (.ishl, 1)) (k : zz K cc F kc ks (pc + 1) lv (.int (x <<< (y &&& 31)) :: st) μ) : zz K cc F kc ks pc lv (.int y :: .int x :: st) μ := by
  obtain ⟨p, l, e, s, m, args, below, meth, c, G⟩ := K
  obtain ⟨nL, own, rt, d0, mc, ms, rv, μ'⟩ := F
  intro C H locs ls hR hS hl
  obtain ⟨hx, hb, hml, hown, hts, hr, hlk, hK⟩ := id C
  exact lv_ishl hx hb dg (k C H locs ls hR hS hl)
theorem zr_ishr {K : zKT} {cc : ByteArray} {F : zFT} {kc ks pc : Nat} {lv : List (Nat × Value)} {st : List Value} {μ : zM} {x y : Int32} (dg : decode cc pc = .ok (.ishr, 1)) (k : zz K cc F kc ks (pc + 1) lv (.int (x >>> (y &&& 31)) :: st) μ) : zz K cc F kc ks pc lv (.int y :: .int x :: st) μ := by
  obtain ⟨p, l, e, s, m, args, below, meth, c, G⟩ := K
  obtain ⟨nL, own, rt, d0, mc, ms, rv, μ'⟩ := F
  intro C H locs ls hR hS hl
  obtain ⟨hx, hb, hml, hown, hts, hr, hlk, hK⟩ := id C
  exact lv_ishr hx hb dg (k C H locs ls hR hS hl)
theorem zr_iushr {K : zKT} {cc : ByteArray} {F : zFT} {kc ks pc : Nat} {lv : List (Nat × Value)} {st : List Value} {μ : zM} {x y : Int32} (dg : decode cc pc = .ok (.iushr, 1)) (k : zz K cc F kc ks (pc + 1) lv (.int ((x.toUInt32 >>> (y.toUInt32 &&& Int32.toUInt32 31)).toInt32) :: st) μ) : zz K cc F kc ks pc lv (.int y :: .int x :: st) μ := by
  obtain ⟨p, l, e, s, m, args, below, meth, c, G⟩ := K
  obtain ⟨nL, own, rt, d0, mc, ms, rv, μ'⟩ := F
  intro C H locs ls hR hS hl
  obtain ⟨hx, hb, hml, hown, hts, hr, hlk, hK⟩ := id C
  exact lv_iushr hx hb dg rfl (k C H locs ls hR hS hl)
theorem zr_idiv {K : zKT} {cc : ByteArray} {F : zFT} {kc ks pc : Nat} {lv : List (Nat × Value)} {st : List Value} {μ : zM} {x y : Int32} (dg : decode cc pc = .ok (.idiv, 1)) (hne : ¬ y = 0) (k : zz K cc F kc ks (pc + 1) lv (.int (x / y) :: st) μ) : zz K cc F kc ks pc lv (.int y :: .int x :: st) μ := by
  obtain ⟨p, l, e, s, m, args, below, meth, c, G⟩ := K
  obtain ⟨nL, own, rt, d0, mc, ms, rv, μ'⟩ := F
  intro C H locs ls hR hS hl
  obtain ⟨hx, hb, hml, hown, hts, hr, hlk, hK⟩ := id C
  exact lv_idiv hx hb dg hne (k C H locs ls hR hS hl)
theorem zr_irem {K : zKT} {cc : ByteArray} {F : zFT} {kc ks pc : Nat} {lv : List (Nat × Value)} {st : List Value} {μ : zM} {x y : Int32} (dg : decode cc pc = .ok (.irem, 1)) (hne : ¬ y = 0) (k : zz K cc F kc ks (pc + 1) lv (.int (x - x / y * y) :: st) μ) : zz K cc F kc ks pc lv (.int y :: .int x :: st) μ := by
  obtain ⟨p, l, e, s, m, args, below, meth, c, G⟩ := K
  obtain ⟨nL, own, rt, d0, mc, ms, rv, μ'⟩ := F
  intro C H locs ls hR hS hl
  obtain ⟨hx, hb, hml, hown, hts, hr, hlk, hK⟩ := id C
  exact lv_irem hx hb dg hne (k C H locs ls hR hS hl)
theorem zr_ladd {K : zKT} {cc : ByteArray} {F : zFT} {kc ks pc : Nat} {lv : List (Nat × Value)} {st : List Value} {μ : zM} {x y : Int64} (dg : decode cc pc = .ok (.ladd, 1)) (k : zz K cc F kc ks (pc + 1) lv (.long (x + y) :: st) μ) : zz K cc F kc ks pc lv (.long y :: .long x :: st) μ := by
  obtain ⟨p, l, e, s, m, args, below, meth, c, G⟩ := K
  obtain ⟨nL, own, rt, d0, mc, ms, rv, μ'⟩ := F
  intro C H locs ls hR hS hl
  obtain ⟨hx, hb, hml, hown, hts, hr, hlk, hK⟩ := id C
  exact lv_ladd hx hb dg (k C H locs ls hR hS hl)
theorem zr_lmul {K : zKT} {cc : ByteArray} {F : zFT} {kc ks pc : Nat} {lv : List (Nat × Value)} {st : List Value} {μ : zM} {x y : Int64} (dg : decode cc pc = .ok (.lmul, 1)) (k : zz K cc F kc ks (pc + 1) lv (.long (x * y) :: st) μ) : zz K cc F kc ks pc lv (.long y :: .long x :: st) μ := by
  obtain ⟨p, l, e, s, m, args, below, meth, c, G⟩ := K
  obtain ⟨nL, own, rt, d0, mc, ms, rv, μ'⟩ := F
  intro C H locs ls hR hS hl
  obtain ⟨hx, hb, hml, hown, hts, hr, hlk, hK⟩ := id C
  exact lv_lmul hx hb dg (k C H locs ls hR hS hl)
theorem zr_lor {K : zKT} {cc : ByteArray} {F : zFT} {kc ks pc : Nat} {lv : List (Nat × Value)} {st : List Value} {μ : zM} {x y : Int64} (dg : decode cc pc = .ok (.lor, 1)) (k : zz K cc F kc ks (pc + 1) lv (.long (x ||| y) :: st) μ) : zz K cc F kc ks pc lv (.long y :: .long x :: st) μ := by
  obtain ⟨p, l, e, s, m, args, below, meth, c, G⟩ := K
  obtain ⟨nL, own, rt, d0, mc, ms, rv, μ'⟩ := F
  intro C H locs ls hR hS hl
  obtain ⟨hx, hb, hml, hown, hts, hr, hlk, hK⟩ := id C
  exact lv_lor hx hb dg (k C H locs ls hR hS hl)
theorem zr_ldiv {K : zKT} {cc : ByteArray} {F : zFT} {kc ks pc : Nat} {lv : List (Nat × Value)} {st : List Value} {μ : zM} {x y : Int64} (dg : decode cc pc = .ok (.ldiv, 1)) (hne : ¬ y = 0) (k : zz K cc F kc ks (pc + 1) lv (.long (x / y) :: st) μ) : zz K cc F kc ks pc lv (.long y :: .long x :: st) μ := by
  obtain ⟨p, l, e, s, m, args, below, meth, c, G⟩ := K
  obtain ⟨nL, own, rt, d0, mc, ms, rv, μ'⟩ := F
  intro C H locs ls hR hS hl
  obtain ⟨hx, hb, hml, hown, hts, hr, hlk, hK⟩ := id C
  exact lv_ldiv hx hb dg hne (k C H locs ls hR hS hl)
theorem zr_lrem {K : zKT} {cc : ByteArray} {F : zFT} {kc ks pc : Nat} {lv : List (Nat × Value)} {st : List Value} {μ : zM} {x y : Int64} (dg : decode cc pc = .ok (.lrem, 1)) (hne : ¬ y = 0) (k : zz K cc F kc ks (pc + 1) lv (.long (x - x / y * y) :: st) μ) : zz K cc F kc ks pc lv (.long y :: .long x :: st) μ := by
  obtain ⟨p, l, e, s, m, args, below, meth, c, G⟩ := K
  obtain ⟨nL, own, rt, d0, mc, ms, rv, μ'⟩ := F
  intro C H locs ls hR hS hl
  obtain ⟨hx, hb, hml, hown, hts, hr, hlk, hK⟩ := id C
  exact lv_lrem hx hb dg hne (k C H locs ls hR hS hl)
theorem zr_lshl {K : zKT} {cc : ByteArray} {F : zFT} {kc ks pc : Nat} {lv : List (Nat × Value)} {st : List Value} {μ : zM} {x : Int64} {y : Int32} (dg : decode cc pc = .ok (.lshl, 1)) (k : zz K cc F kc ks (pc + 1) lv (.long (x <<< (y.toInt64 &&& 63)) :: st) μ) : zz K cc F kc ks pc lv (.int y :: .long x :: st) μ := by
  obtain ⟨p, l, e, s, m, args, below, meth, c, G⟩ := K
  obtain ⟨nL, own, rt, d0, mc, ms, rv, μ'⟩ := F
  intro C H locs ls hR hS hl
  obtain ⟨hx, hb, hml, hown, hts, hr, hlk, hK⟩ := id C
  exact lv_lshl hx hb dg rfl (k C H locs ls hR hS hl)
theorem zr_lcmp {K : zKT} {cc : ByteArray} {F : zFT} {kc ks pc : Nat} {lv : List (Nat × Value)} {st : List Value} {μ : zM} {x y : Int64} (dg : decode cc pc = .ok (.lcmp, 1)) (k : zz K cc F kc ks (pc + 1) lv (.int (lg_cmp x y) :: st) μ) : zz K cc F kc ks pc lv (.long y :: .long x :: st) μ := by
  obtain ⟨p, l, e, s, m, args, below, meth, c, G⟩ := K
  obtain ⟨nL, own, rt, d0, mc, ms, rv, μ'⟩ := F
  intro C H locs ls hR hS hl
  obtain ⟨hx, hb, hml, hown, hts, hr, hlk, hK⟩ := id C
  exact W.lcmp hx hb dg (k C H locs ls hR hS hl)
theorem zr_i2l {K : zKT} {cc : ByteArray} {F : zFT} {kc ks pc : Nat} {lv : List (Nat × Value)} {st : List Value} {μ : zM} {x : Int32} (dg : decode cc pc = .ok (.i2l, 1)) (k : zz K cc F kc ks (pc + 1) lv (.long x.toInt64 :: st) μ) : zz K cc F kc ks pc lv (.int x :: st) μ := by
  obtain ⟨p, l, e, s, m, args, below, meth, c, G⟩ := K
  obtain ⟨nL, own, rt, d0, mc, ms, rv, μ'⟩ := F
  intro C H locs ls hR hS hl
  obtain ⟨hx, hb, hml, hown, hts, hr, hlk, hK⟩ := id C
  exact lv_i2l hx hb dg rfl (k C H locs ls hR hS hl)
theorem zr_l2i {K : zKT} {cc : ByteArray} {F : zFT} {kc ks pc : Nat} {lv : List (Nat × Value)} {st : List Value} {μ : zM} {x : Int64} (dg : decode cc pc = .ok (.l2i, 1)) (k : zz K cc F kc ks (pc + 1) lv (.int x.toInt32 :: st) μ) : zz K cc F kc ks pc lv (.long x :: st) μ := by
  obtain ⟨p, l, e, s, m, args, below, meth, c, G⟩ := K
  obtain ⟨nL, own, rt, d0, mc, ms, rv, μ'⟩ := F
  intro C H locs ls hR hS hl
  obtain ⟨hx, hb, hml, hown, hts, hr, hlk, hK⟩ := id C
  exact lv_l2i hx hb dg rfl (k C H locs ls hR hS hl)
theorem zr_i2b {K : zKT} {cc : ByteArray} {F : zFT} {kc ks pc : Nat} {lv : List (Nat × Value)} {st : List Value} {μ : zM} {x : Int32} (dg : decode cc pc = .ok (.i2b, 1)) (k : zz K cc F kc ks (pc + 1) lv (.int x.toInt8.toInt32 :: st) μ) : zz K cc F kc ks pc lv (.int x :: st) μ := by
  obtain ⟨p, l, e, s, m, args, below, meth, c, G⟩ := K
  obtain ⟨nL, own, rt, d0, mc, ms, rv, μ'⟩ := F
  intro C H locs ls hR hS hl
  obtain ⟨hx, hb, hml, hown, hts, hr, hlk, hK⟩ := id C
  exact lv_i2b hx hb dg rfl (k C H locs ls hR hS hl)
theorem zr_i2c {K : zKT} {cc : ByteArray} {F : zFT} {kc ks pc : Nat} {lv : List (Nat × Value)} {st : List Value} {μ : zM} {x : Int32} (dg : decode cc pc = .ok (.i2c, 1)) (k : zz K cc F kc ks (pc + 1) lv (.int (x.toUInt32 % 65536).toInt32 :: st) μ) : zz K cc F kc ks pc lv (.int x :: st) μ := by
  obtain ⟨p, l, e, s, m, args, below, meth, c, G⟩ := K
  obtain ⟨nL, own, rt, d0, mc, ms, rv, μ'⟩ := F
  intro C H locs ls hR hS hl
  obtain ⟨hx, hb, hml, hown, hts, hr, hlk, hK⟩ := id C
  exact lv_i2c hx hb dg rfl (k C H locs ls hR hS hl)
theorem zr_dup {K : zKT} {cc : ByteArray} {F : zFT} {kc ks pc : Nat} {lv : List (Nat × Value)} {st : List Value} {μ : zM} {a : Value} (dg : decode cc pc = .ok (.dup, 1)) (h : a.category = 1) (k : zz K cc F kc ks (pc + 1) lv (a :: a :: st) μ) : zz K cc F kc ks pc lv (a :: st) μ := by
  obtain ⟨p, l, e, s, m, args, below, meth, c, G⟩ := K
  obtain ⟨nL, own, rt, d0, mc, ms, rv, μ'⟩ := F
  intro C H locs ls hR hS hl
  obtain ⟨hx, hb, hml, hown, hts, hr, hlk, hK⟩ := id C
  exact lv_dup hx hb dg h (k C H locs ls hR hS hl)
theorem zr_dup_x1 {K : zKT} {cc : ByteArray} {F : zFT} {kc ks pc : Nat} {lv : List (Nat × Value)} {st : List Value} {μ : zM} {a b : Value} (dg : decode cc pc = .ok (.dup_x1, 1)) (h : a.category = 1) (h2 : b.category = 1) (k : zz K cc F kc ks (pc + 1) lv (a :: b :: a :: st) μ) : zz K cc F kc ks pc lv (a :: b :: st) μ := by
  obtain ⟨p, l, e, s, m, args, below, meth, c, G⟩ := K
  obtain ⟨nL, own, rt, d0, mc, ms, rv, μ'⟩ := F
  intro C H locs ls hR hS hl
  obtain ⟨hx, hb, hml, hown, hts, hr, hlk, hK⟩ := id C
  exact lv_dup_x1 hx hb dg h h2 (k C H locs ls hR hS hl)
theorem zr_dup2 {K : zKT} {cc : ByteArray} {F : zFT} {kc ks pc : Nat} {lv : List (Nat × Value)} {st : List Value} {μ : zM} {a b : Value} (dg : decode cc pc = .ok (.dup2, 1)) (h : a.category = 1) (h2 : b.category = 1) (k : zz K cc F kc ks (pc + 1) lv (a :: b :: a :: b :: st) μ) : zz K cc F kc ks pc lv (a :: b :: st) μ := by
  obtain ⟨p, l, e, s, m, args, below, meth, c, G⟩ := K
  obtain ⟨nL, own, rt, d0, mc, ms, rv, μ'⟩ := F
  intro C H locs ls hR hS hl
  obtain ⟨hx, hb, hml, hown, hts, hr, hlk, hK⟩ := id C
  exact lv_dup2_11 hx hb dg h h2 (k C H locs ls hR hS hl)
theorem zr_pop {K : zKT} {cc : ByteArray} {F : zFT} {kc ks pc : Nat} {lv : List (Nat × Value)} {st : List Value} {μ : zM} {a : Value} (dg : decode cc pc = .ok (.pop, 1)) (h : a.category = 1) (k : zz K cc F kc ks (pc + 1) lv (st) μ) : zz K cc F kc ks pc lv (a :: st) μ := by
  obtain ⟨p, l, e, s, m, args, below, meth, c, G⟩ := K
  obtain ⟨nL, own, rt, d0, mc, ms, rv, μ'⟩ := F
  intro C H locs ls hR hS hl
  obtain ⟨hx, hb, hml, hown, hts, hr, hlk, hK⟩ := id C
  exact lv_pop hx hb dg h (k C H locs ls hR hS hl)
theorem zr_goto {K : zKT} {cc : ByteArray} {F : zFT} {kc ks pc : Nat} {lv : List (Nat × Value)} {st : List Value} {μ : zM} {off : Int} (tgt : Nat) (dg : decode cc pc = .ok (.goto off, 3)) (ht : (pc : Int) + off = (tgt : Int)) (k : zz K cc F kc ks (tgt) lv (st) μ) : zz K cc F kc ks pc lv (st) μ := by
  obtain ⟨p, l, e, s, m, args, below, meth, c, G⟩ := K
  obtain ⟨nL, own, rt, d0, mc, ms, rv, μ'⟩ := F
  intro C H locs ls hR hS hl
  obtain ⟨hx, hb, hml, hown, hts, hr, hlk, hK⟩ := id C
  exact lv_goto hx hb dg ht (k C H locs ls hR hS hl)
theorem zr_if_eq {K : zKT} {cc : ByteArray} {F : zFT} {kc ks pc : Nat} {lv : List (Nat × Value)} {st : List Value} {μ : zM} {x : Int32} {off : Int} (tgt : Nat) (dg : decode cc pc = .ok (.ifCond .eq off, 3)) (ht : (pc : Int) + off = (tgt : Int)) (kt : (x = 0) → zz K cc F kc ks tgt lv st μ) (kf : (¬ x = 0) → zz K cc F kc ks (pc + 3) lv st μ) : zz K cc F kc ks pc lv (.int x :: st) μ := by
  obtain ⟨p, l, e, s, m, args, below, meth, c, G⟩ := K
  obtain ⟨nL, own, rt, d0, mc, ms, rv, μ'⟩ := F
  intro C H locs ls hR hS hl
  obtain ⟨hx, hb, hml, hown, hts, hr, hlk, hK⟩ := id C
  exact lv_if_eq hx hb dg ht (fun h => kt h C H locs ls hR hS hl) (fun h => kf h C H locs ls hR hS hl)
theorem zr_if_ne {K : zKT} {cc : ByteArray} {F : zFT} {kc ks pc : Nat} {lv : List (Nat × Value)} {st : List Value} {μ : zM} {x : Int32} {off : Int} (tgt : Nat) (dg : decode cc pc = .ok (.ifCond .ne off, 3)) (ht : (pc : Int) + off = (tgt : Int)) (kt : (¬ x = 0) → zz K cc F kc ks tgt lv st μ) (kf : (x = 0) → zz K cc F kc ks (pc + 3) lv st μ) : zz K cc F kc ks pc lv (.int x :: st) μ := by
  obtain ⟨p, l, e, s, m, args, below, meth, c, G⟩ := K
  obtain ⟨nL, own, rt, d0, mc, ms, rv, μ'⟩ := F
  intro C H locs ls hR hS hl
  obtain ⟨hx, hb, hml, hown, hts, hr, hlk, hK⟩ := id C
  exact lv_if_ne hx hb dg ht (fun h => kt h C H locs ls hR hS hl) (fun h => kf h C H locs ls hR hS hl)
theorem zr_if_lt {K : zKT} {cc : ByteArray} {F : zFT} {kc ks pc : Nat} {lv : List (Nat × Value)} {st : List Value} {μ : zM} {x : Int32} {off : Int} (tgt : Nat) (dg : decode cc pc = .ok (.ifCond .lt off, 3)) (ht : (pc : Int) + off = (tgt : Int)) (kt : (x < 0) → zz K cc F kc ks tgt lv st μ) (kf : (¬ x < 0) → zz K cc F kc ks (pc + 3) lv st μ) : zz K cc F kc ks pc lv (.int x :: st) μ := by
  obtain ⟨p, l, e, s, m, args, below, meth, c, G⟩ := K
  obtain ⟨nL, own, rt, d0, mc, ms, rv, μ'⟩ := F
  intro C H locs ls hR hS hl
  obtain ⟨hx, hb, hml, hown, hts, hr, hlk, hK⟩ := id C
  exact lv_if_lt hx hb dg ht (fun h => kt h C H locs ls hR hS hl) (fun h => kf h C H locs ls hR hS hl)
theorem zr_if_ge {K : zKT} {cc : ByteArray} {F : zFT} {kc ks pc : Nat} {lv : List (Nat × Value)} {st : List Value} {μ : zM} {x : Int32} {off : Int} (tgt : Nat) (dg : decode cc pc = .ok (.ifCond .ge off, 3)) (ht : (pc : Int) + off = (tgt : Int)) (kt : (0 ≤ x) → zz K cc F kc ks tgt lv st μ) (kf : (¬ 0 ≤ x) → zz K cc F kc ks (pc + 3) lv st μ) : zz K cc F kc ks pc lv (.int x :: st) μ := by
  obtain ⟨p, l, e, s, m, args, below, meth, c, G⟩ := K
  obtain ⟨nL, own, rt, d0, mc, ms, rv, μ'⟩ := F
  intro C H locs ls hR hS hl
  obtain ⟨hx, hb, hml, hown, hts, hr, hlk, hK⟩ := id C
  exact lv_if_ge hx hb dg ht (fun h => kt h C H locs ls hR hS hl) (fun h => kf h C H locs ls hR hS hl)
theorem zr_if_gt {K : zKT} {cc : ByteArray} {F : zFT} {kc ks pc : Nat} {lv : List (Nat × Value)} {st : List Value} {μ : zM} {x : Int32} {off : Int} (tgt : Nat) (dg : decode cc pc = .ok (.ifCond .gt off, 3)) (ht : (pc : Int) + off = (tgt : Int)) (kt : (0 < x) → zz K cc F kc ks tgt lv st μ) (kf : (¬ 0 < x) → zz K cc F kc ks (pc + 3) lv st μ) : zz K cc F kc ks pc lv (.int x :: st) μ := by
  obtain ⟨p, l, e, s, m, args, below, meth, c, G⟩ := K
  obtain ⟨nL, own, rt, d0, mc, ms, rv, μ'⟩ := F
  intro C H locs ls hR hS hl
  obtain ⟨hx, hb, hml, hown, hts, hr, hlk, hK⟩ := id C
  exact lv_if_gt hx hb dg ht (fun h => kt h C H locs ls hR hS hl) (fun h => kf h C H locs ls hR hS hl)
theorem zr_if_le {K : zKT} {cc : ByteArray} {F : zFT} {kc ks pc : Nat} {lv : List (Nat × Value)} {st : List Value} {μ : zM} {x : Int32} {off : Int} (tgt : Nat) (dg : decode cc pc = .ok (.ifCond .le off, 3)) (ht : (pc : Int) + off = (tgt : Int)) (kt : (x ≤ 0) → zz K cc F kc ks tgt lv st μ) (kf : (¬ x ≤ 0) → zz K cc F kc ks (pc + 3) lv st μ) : zz K cc F kc ks pc lv (.int x :: st) μ := by
  obtain ⟨p, l, e, s, m, args, below, meth, c, G⟩ := K
  obtain ⟨nL, own, rt, d0, mc, ms, rv, μ'⟩ := F
  intro C H locs ls hR hS hl
  obtain ⟨hx, hb, hml, hown, hts, hr, hlk, hK⟩ := id C
  exact lv_if_le hx hb dg ht (fun h => kt h C H locs ls hR hS hl) (fun h => kf h C H locs ls hR hS hl)
theorem zr_icmp_eq {K : zKT} {cc : ByteArray} {F : zFT} {kc ks pc : Nat} {lv : List (Nat × Value)} {st : List Value} {μ : zM} {x y : Int32} {off : Int} (tgt : Nat) (dg : decode cc pc = .ok (.if_icmp .eq off, 3)) (ht : (pc : Int) + off = (tgt : Int)) (kt : (x = y) → zz K cc F kc ks tgt lv st μ) (kf : (¬ x = y) → zz K cc F kc ks (pc + 3) lv st μ) : zz K cc F kc ks pc lv (.int y :: .int x :: st) μ := by
  obtain ⟨p, l, e, s, m, args, below, meth, c, G⟩ := K
  obtain ⟨nL, own, rt, d0, mc, ms, rv, μ'⟩ := F
  intro C H locs ls hR hS hl
  obtain ⟨hx, hb, hml, hown, hts, hr, hlk, hK⟩ := id C
  exact lv_icmp_eq hx hb dg ht (fun h => kt h C H locs ls hR hS hl) (fun h => kf h C H locs ls hR hS hl)
theorem zr_icmp_ne {K : zKT} {cc : ByteArray} {F : zFT} {kc ks pc : Nat} {lv : List (Nat × Value)} {st : List Value} {μ : zM} {x y : Int32} {off : Int} (tgt : Nat) (dg : decode cc pc = .ok (.if_icmp .ne off, 3)) (ht : (pc : Int) + off = (tgt : Int)) (kt : (¬ x = y) → zz K cc F kc ks tgt lv st μ) (kf : (x = y) → zz K cc F kc ks (pc + 3) lv st μ) : zz K cc F kc ks pc lv (.int y :: .int x :: st) μ := by
  obtain ⟨p, l, e, s, m, args, below, meth, c, G⟩ := K
  obtain ⟨nL, own, rt, d0, mc, ms, rv, μ'⟩ := F
  intro C H locs ls hR hS hl
  obtain ⟨hx, hb, hml, hown, hts, hr, hlk, hK⟩ := id C
  exact lv_icmp_ne hx hb dg ht (fun h => kt h C H locs ls hR hS hl) (fun h => kf h C H locs ls hR hS hl)
theorem zr_icmp_lt {K : zKT} {cc : ByteArray} {F : zFT} {kc ks pc : Nat} {lv : List (Nat × Value)} {st : List Value} {μ : zM} {x y : Int32} {off : Int} (tgt : Nat) (dg : decode cc pc = .ok (.if_icmp .lt off, 3)) (ht : (pc : Int) + off = (tgt : Int)) (kt : (x < y) → zz K cc F kc ks tgt lv st μ) (kf : (¬ x < y) → zz K cc F kc ks (pc + 3) lv st μ) : zz K cc F kc ks pc lv (.int y :: .int x :: st) μ := by
  obtain ⟨p, l, e, s, m, args, below, meth, c, G⟩ := K
  obtain ⟨nL, own, rt, d0, mc, ms, rv, μ'⟩ := F
  intro C H locs ls hR hS hl
  obtain ⟨hx, hb, hml, hown, hts, hr, hlk, hK⟩ := id C
  exact lv_icmp_lt hx hb dg ht (fun h => kt h C H locs ls hR hS hl) (fun h => kf h C H locs ls hR hS hl)
theorem zr_icmp_ge {K : zKT} {cc : ByteArray} {F : zFT} {kc ks pc : Nat} {lv : List (Nat × Value)} {st : List Value} {μ : zM} {x y : Int32} {off : Int} (tgt : Nat) (dg : decode cc pc = .ok (.if_icmp .ge off, 3)) (ht : (pc : Int) + off = (tgt : Int)) (kt : (y ≤ x) → zz K cc F kc ks tgt lv st μ) (kf : (¬ y ≤ x) → zz K cc F kc ks (pc + 3) lv st μ) : zz K cc F kc ks pc lv (.int y :: .int x :: st) μ := by
  obtain ⟨p, l, e, s, m, args, below, meth, c, G⟩ := K
  obtain ⟨nL, own, rt, d0, mc, ms, rv, μ'⟩ := F
  intro C H locs ls hR hS hl
  obtain ⟨hx, hb, hml, hown, hts, hr, hlk, hK⟩ := id C
  exact lv_icmp_ge hx hb dg ht (fun h => kt h C H locs ls hR hS hl) (fun h => kf h C H locs ls hR hS hl)
theorem zr_icmp_gt {K : zKT} {cc : ByteArray} {F : zFT} {kc ks pc : Nat} {lv : List (Nat × Value)} {st : List Value} {μ : zM} {x y : Int32} {off : Int} (tgt : Nat) (dg : decode cc pc = .ok (.if_icmp .gt off, 3)) (ht : (pc : Int) + off = (tgt : Int)) (kt : (y < x) → zz K cc F kc ks tgt lv st μ) (kf : (¬ y < x) → zz K cc F kc ks (pc + 3) lv st μ) : zz K cc F kc ks pc lv (.int y :: .int x :: st) μ := by
  obtain ⟨p, l, e, s, m, args, below, meth, c, G⟩ := K
  obtain ⟨nL, own, rt, d0, mc, ms, rv, μ'⟩ := F
  intro C H locs ls hR hS hl
  obtain ⟨hx, hb, hml, hown, hts, hr, hlk, hK⟩ := id C
  exact lv_icmp_gt hx hb dg ht (fun h => kt h C H locs ls hR hS hl) (fun h => kf h C H locs ls hR hS hl)
theorem zr_icmp_le {K : zKT} {cc : ByteArray} {F : zFT} {kc ks pc : Nat} {lv : List (Nat × Value)} {st : List Value} {μ : zM} {x y : Int32} {off : Int} (tgt : Nat) (dg : decode cc pc = .ok (.if_icmp .le off, 3)) (ht : (pc : Int) + off = (tgt : Int)) (kt : (x ≤ y) → zz K cc F kc ks tgt lv st μ) (kf : (¬ x ≤ y) → zz K cc F kc ks (pc + 3) lv st μ) : zz K cc F kc ks pc lv (.int y :: .int x :: st) μ := by
  obtain ⟨p, l, e, s, m, args, below, meth, c, G⟩ := K
  obtain ⟨nL, own, rt, d0, mc, ms, rv, μ'⟩ := F
  intro C H locs ls hR hS hl
  obtain ⟨hx, hb, hml, hown, hts, hr, hlk, hK⟩ := id C
  exact lv_icmp_le hx hb dg ht (fun h => kt h C H locs ls hR hS hl) (fun h => kf h C H locs ls hR hS hl)
theorem zr_ifnull_r {K : zKT} {cc : ByteArray} {F : zFT} {kc ks pc : Nat} {lv : List (Nat × Value)} {st : List Value} {μ : zM} {x : Nat} {off : Int} (dg : decode cc pc = .ok (.ifnull off, 3)) (k : zz K cc F kc ks (pc + 3) lv (st) μ) : zz K cc F kc ks pc lv (.ref x :: st) μ := by
  obtain ⟨p, l, e, s, m, args, below, meth, c, G⟩ := K
  obtain ⟨nL, own, rt, d0, mc, ms, rv, μ'⟩ := F
  intro C H locs ls hR hS hl
  obtain ⟨hx, hb, hml, hown, hts, hr, hlk, hK⟩ := id C
  exact lv_ifnull hx hb dg (k C H locs ls hR hS hl)
theorem zr_ifnull_n {K : zKT} {cc : ByteArray} {F : zFT} {kc ks pc : Nat} {lv : List (Nat × Value)} {st : List Value} {μ : zM} {off : Int} (tgt : Nat) (dg : decode cc pc = .ok (.ifnull off, 3)) (ht : (pc : Int) + off = (tgt : Int)) (k : zz K cc F kc ks (tgt) lv (st) μ) : zz K cc F kc ks pc lv (.null :: st) μ := by
  obtain ⟨p, l, e, s, m, args, below, meth, c, G⟩ := K
  obtain ⟨nL, own, rt, d0, mc, ms, rv, μ'⟩ := F
  intro C H locs ls hR hS hl
  obtain ⟨hx, hb, hml, hown, hts, hr, hlk, hK⟩ := id C
  exact lv_ifnullN hx hb dg ht (k C H locs ls hR hS hl)
theorem zr_ifnonnull_r {K : zKT} {cc : ByteArray} {F : zFT} {kc ks pc : Nat} {lv : List (Nat × Value)} {st : List Value} {μ : zM} {x : Nat} {off : Int} (tgt : Nat) (dg : decode cc pc = .ok (.ifnonnull off, 3)) (ht : (pc : Int) + off = (tgt : Int)) (k : zz K cc F kc ks (tgt) lv (st) μ) : zz K cc F kc ks pc lv (.ref x :: st) μ := by
  obtain ⟨p, l, e, s, m, args, below, meth, c, G⟩ := K
  obtain ⟨nL, own, rt, d0, mc, ms, rv, μ'⟩ := F
  intro C H locs ls hR hS hl
  obtain ⟨hx, hb, hml, hown, hts, hr, hlk, hK⟩ := id C
  exact lv_ifnonnull hx hb dg ht (k C H locs ls hR hS hl)
theorem zr_ifnonnull_n {K : zKT} {cc : ByteArray} {F : zFT} {kc ks pc : Nat} {lv : List (Nat × Value)} {st : List Value} {μ : zM} {off : Int} (dg : decode cc pc = .ok (.ifnonnull off, 3)) (k : zz K cc F kc ks (pc + 3) lv (st) μ) : zz K cc F kc ks pc lv (.null :: st) μ := by
  obtain ⟨p, l, e, s, m, args, below, meth, c, G⟩ := K
  obtain ⟨nL, own, rt, d0, mc, ms, rv, μ'⟩ := F
  intro C H locs ls hR hS hl
  obtain ⟨hx, hb, hml, hown, hts, hr, hlk, hK⟩ := id C
  exact lv_ifnonnullN hx hb dg (k C H locs ls hR hS hl)
theorem zr_tableOut {K : zKT} {cc : ByteArray} {F : zFT} {kc ks pc : Nat} {lv : List (Nat × Value)} {st : List Value} {μ : zM} {dflt lo hi : Int} {offs : Array Int} {len : Nat} {x : Int32} (tgt : Nat) (dg : decode cc pc = .ok (.tableswitch dflt lo hi offs, len)) (h : x.toInt < lo ∨ hi < x.toInt) (ht : (pc : Int) + dflt = (tgt : Int)) (k : zz K cc F kc ks (tgt) lv (st) μ) : zz K cc F kc ks pc lv (.int x :: st) μ := by
  obtain ⟨p, l, e, s, m, args, below, meth, c, G⟩ := K
  obtain ⟨nL, own, rt, d0, mc, ms, rv, μ'⟩ := F
  intro C H locs ls hR hS hl
  obtain ⟨hx, hb, hml, hown, hts, hr, hlk, hK⟩ := id C
  exact lv_tableOut hx hb dg h ht (k C H locs ls hR hS hl)
theorem zr_tableIn {K : zKT} {cc : ByteArray} {F : zFT} {kc ks pc : Nat} {lv : List (Nat × Value)} {st : List Value} {μ : zM} {dflt lo hi : Int} {offs : Array Int} {len : Nat} {x : Int32} {off : Int} (tgt : Nat) (dg : decode cc pc = .ok (.tableswitch dflt lo hi offs, len)) (h1 : ¬ x.toInt < lo) (h2 : ¬ hi < x.toInt) (ho : offs[(x.toInt - lo).toNat]? = some off) (ht : (pc : Int) + off = (tgt : Int)) (k : zz K cc F kc ks (tgt) lv (st) μ) : zz K cc F kc ks pc lv (.int x :: st) μ := by
  obtain ⟨p, l, e, s, m, args, below, meth, c, G⟩ := K
  obtain ⟨nL, own, rt, d0, mc, ms, rv, μ'⟩ := F
  intro C H locs ls hR hS hl
  obtain ⟨hx, hb, hml, hown, hts, hr, hlk, hK⟩ := id C
  exact lv_tableIn hx hb dg h1 h2 ho ht (k C H locs ls hR hS hl)
theorem zr_lv {K : zKT} {cc : ByteArray} {F : zFT} {kc ks pc : Nat} {lv : List (Nat × Value)} {st : List Value} {μ : zM} {lv' : List (Nat × Value)} (is : List Nat) (h : lv_pick lv is = lv') (k : zz K cc F kc ks pc lv' st μ) : zz K cc F kc ks pc lv st μ := by
  obtain ⟨p, l, e, s, m, args, below, meth, c, G⟩ := K
  obtain ⟨nL, own, rt, d0, mc, ms, rv, μ'⟩ := F
  intro C H locs ls hR hS hl
  obtain ⟨hx, hb, hml, hown, hts, hr, hlk, hK⟩ := id C
  exact k C H locs ls hR hS (lv_sub hl is h)
theorem zr_widen {K : zKT} {cc : ByteArray} {F : zFT} {kc ks pc : Nat} {lv : List (Nat × Value)} {st : List Value} {μ : zM} {k n : Nat} (h1 : kc ≤ k) (h2 : ks ≤ n) (kk : zz K cc F k n pc lv st μ) : zz K cc F kc ks pc lv st μ := by
  obtain ⟨p, l, e, s, m, args, below, meth, c, G⟩ := K
  obtain ⟨nL, own, rt, d0, mc, ms, rv, μ'⟩ := F
  intro C H locs ls hR hS hl
  obtain ⟨hx, hb, hml, hown, hts, hr, hlk, hK⟩ := id C
  exact W.widen h1 h2 (kk C H locs ls hR hS hl)
theorem zr_iret {K : zKT} {cc : ByteArray} {nL pc : Nat} {own : String} {d0 mc ms : Nat} {lv : List (Nat × Value)} {μ : zM} {v : Int32} (dg : decode cc pc = .ok (.ireturn, 1)) : zz K cc (nL, own, some .int, d0, mc, ms, some (.int v), μ) mc ms pc lv ([.int v]) μ := by
  obtain ⟨p, l, e, s, m, args, below, meth, c, G⟩ := K
  intro C H locs ls hR hS hl
  obtain ⟨hx, hb, hml, hown, hts, hr, hlk, hK⟩ := id C
  exact W.iret hx hb hr (fun t ht hW => ⟨rfl, by rw [ht]; exact hR.moved hW.alike, hS.F ht⟩) hS.2.2 dg hlk
theorem zr_zret {K : zKT} {cc : ByteArray} {nL pc : Nat} {own : String} {d0 mc ms : Nat} {lv : List (Nat × Value)} {μ : zM} {v : Int32} {ty : FieldType} (hn : narrow ty (.int v) = .int v) (dg : decode cc pc = .ok (.ireturn, 1)) : zz K cc (nL, own, some ty, d0, mc, ms, some (.int v), μ) mc ms pc lv ([.int v]) μ := by
  obtain ⟨p, l, e, s, m, args, below, meth, c, G⟩ := K
  intro C H locs ls hR hS hl
  obtain ⟨hx, hb, hml, hown, hts, hr, hlk, hK⟩ := id C
  exact W.zret hx hb hr hn (fun t ht hW => ⟨rfl, by rw [ht]; exact hR.moved hW.alike, hS.F ht⟩) hS.2.2 dg hlk
theorem zr_lret {K : zKT} {cc : ByteArray} {nL pc : Nat} {own : String} {d0 mc ms : Nat} {lv : List (Nat × Value)} {μ : zM} {v : Int64} (dg : decode cc pc = .ok (.lreturn, 1)) : zz K cc (nL, own, some .long, d0, mc, ms, some (.long v), μ) mc ms pc lv ([.long v]) μ := by
  obtain ⟨p, l, e, s, m, args, below, meth, c, G⟩ := K
  intro C H locs ls hR hS hl
  obtain ⟨hx, hb, hml, hown, hts, hr, hlk, hK⟩ := id C
  exact W.lret hx hb hr (fun t ht hW => ⟨rfl, by rw [ht]; exact hR.moved hW.alike, hS.F ht⟩) hS.2.2 dg hlk
theorem zr_vret {K : zKT} {cc : ByteArray} {nL pc : Nat} {own : String} {d0 mc ms : Nat} {lv : List (Nat × Value)} {μ : zM} (dg : decode cc pc = .ok (.return_, 1)) : zz K cc (nL, own, none, d0, mc, ms, none, μ) mc ms pc lv [] μ := by
  obtain ⟨p, l, e, s, m, args, below, meth, c, G⟩ := K
  intro C H locs ls hR hS hl
  obtain ⟨hx, hb, hml, hown, hts, hr, hlk, hK⟩ := id C
  exact W.vret hx hb hr (fun t ht hW => ⟨rfl, by rw [ht]; exact hR.moved hW.alike, hS.F ht⟩) hS.2.2 dg hlk
end
section
/-! the memory's readings and writings, and the rules of the instructions that use them -/
def zm_up (μ : zM) (a : Nat) (e : zE) : zM := (fun q => if q = a then some e else μ.1 q, μ.2)
def zm_nw (μ : zM) (e : zE) : zM := (fun q => if q = μ.2.1 then some e else μ.1 q, μ.2.1 + 1, μ.2.2)
def zm_g (μ : zM) (ci a k : Nat) : Option Value := match μ.1 a with
  | some (.inr (c, fs)) => if c = ci then fs[k]? else none
  | _ => none
def zm_gI (μ : zM) (ci a k : Nat) : Option Int32 := match zm_g μ ci a k with
  | some (.int v) => some v
  | _ => none
def zm_gL (μ : zM) (ci a k : Nat) : Option Int64 := match zm_g μ ci a k with
  | some (.long v) => some v
  | _ => none
def zm_gR (μ : zM) (ci a k : Nat) : Option Nat := match zm_g μ ci a k with
  | some (.ref v) => some v
  | _ => none
def zm_p (μ : zM) (ci a k : Nat) (v : Value) : Option zM := match μ.1 a with
  | some (.inr (c, fs)) => if c = ci ∧ k < fs.length then some (zm_up μ a (.inr (c, fs.set k v))) else none
  | _ => none
def zm_ck (μ : zM) (ci a : Nat) : Bool := match μ.1 a with
  | some (.inr (c, _)) => c == ci
  | _ => false
def zm_len (μ : zM) (a : Nat) : Option Int32 := match μ.1 a with
  | some (.inl (t, n, _)) => if t < 12 then some (Int32.ofNat n) else none
  | _ => none
def zm_aI (μ : zM) (t a : Nat) (i : Int32) : Option Int32 := match μ.1 a with
  | some (.inl (u, n, .inl f)) => if u % 10 = t ∧ u < 12 ∧ ¬ (i < 0 ∨ n ≤ i.toNatClampNeg) then some (f i.toNatClampNeg) else none
  | _ => none
def zm_sI (μ : zM) (t a : Nat) (i v : Int32) : Option zM := match μ.1 a with
  | some (.inl (u, n, .inl f)) => if u = t ∧ ¬ (i < 0 ∨ n ≤ i.toNatClampNeg) then some (zm_up μ a (.inl (t, n, .inl (upd f i.toNatClampNeg v)))) else none
  | _ => none
def zm_aQ (μ : zM) (t a : Nat) (i : Int32) : Option (Option Nat) := match μ.1 a with
  | some (.inl (u, n, .inr (.inr (.inr (.inr f))))) => if u = t ∧ ¬ (i < 0 ∨ n ≤ i.toNatClampNeg) then some (f i.toNatClampNeg) else none
  | _ => none
def zm_sQ (μ : zM) (t ci a : Nat) (i : Int32) (v : Nat) : Option zM := match μ.1 a with
  | some (.inl (u, n, .inr (.inr (.inr (.inr f))))) => if u = t ∧ zm_ck μ ci v = true ∧ ¬ (i < 0 ∨ n ≤ i.toNatClampNeg) then some (zm_up μ a (.inl (t, n, .inr (.inr (.inr (.inr (va_up f i.toNatClampNeg (some v)))))))) else none
  | _ => none
theorem zm_g_some {μ : zM} {ci a k : Nat} {v : Value} (h : zm_g μ ci a k = some v) : ∃ fs, μ.1 a = some (.inr (ci, fs)) ∧ fs[k]? = some v := by
  unfold zm_g at h
  split at h
  · next c fs e =>
    split at h
    · next hc => subst hc; exact ⟨fs, e, h⟩
    · cases h
  · cases h
theorem zm_gI_g {μ : zM} {ci a k : Nat} {v : Int32} (h : zm_gI μ ci a k = some v) : zm_g μ ci a k = some (.int v) := by
  unfold zm_gI at h
  split at h
  · next e => cases h; exact e
  · cases h
theorem zm_gL_g {μ : zM} {ci a k : Nat} {v : Int64} (h : zm_gL μ ci a k = some v) : zm_g μ ci a k = some (.long v) := by
  unfold zm_gL at h
  split at h
  · next e => cases h; exact e
  · cases h
theorem zm_gR_g {μ : zM} {ci a k : Nat} {v : Nat} (h : zm_gR μ ci a k = some v) : zm_g μ ci a k = some (.ref v) := by
  unfold zm_gR at h
  split at h
  · next e => cases h; exact e
  · cases h
theorem zm_p_some {μ μ1 : zM} {ci a k : Nat} {v : Value} (h : zm_p μ ci a k v = some μ1) : ∃ fs, μ.1 a = some (.inr (ci, fs)) ∧ k < fs.length ∧ μ1 = zm_up μ a (.inr (ci, fs.set k v)) := by
  unfold zm_p at h
  split at h
  · next c fs e =>
    split at h
    · next hc => obtain ⟨rfl, hl⟩ := hc; cases h; exact ⟨fs, e, hl, rfl⟩
    · cases h
  · cases h
theorem zm_ck_some {μ : zM} {ci a : Nat} (h : zm_ck μ ci a = true) : ∃ fs, μ.1 a = some (.inr (ci, fs)) := by
  unfold zm_ck at h
  split at h
  · next c fs e => rw [beq_iff_eq] at h; subst h; exact ⟨fs, e⟩
  · cases h
theorem zm_len_some {μ : zM} {a : Nat} {v : Int32} (h : zm_len μ a = some v) : ∃ t x, μ.1 a = some (.inl (t, x)) ∧ t < 12 ∧ Int32.ofNat x.1 = v := by
  unfold zm_len at h
  split at h
  · next t n f e =>
    split at h
    · next ht => cases h; exact ⟨t, (n, f), e, ht, rfl⟩
    · cases h
  · cases h
theorem zm_aI_some {μ : zM} {t a : Nat} {i v : Int32} (h : zm_aI μ t a i = some v) : ∃ u n f, μ.1 a = some (.inl (u, n, .inl f)) ∧ u % 10 = t ∧ u < 12 ∧ vp_in i n ∧ f i.toNatClampNeg = v := by
  unfold zm_aI at h
  split at h
  · next u n f e =>
    split at h
    · next hc => obtain ⟨h1, h2, h3⟩ := hc; cases h; exact ⟨u, n, f, e, h1, h2, h3, rfl⟩
    · cases h
  · cases h
theorem zm_sI_some {μ μ1 : zM} {t a : Nat} {i v : Int32} (h : zm_sI μ t a i v = some μ1) : ∃ n f, μ.1 a = some (.inl (t, n, .inl f)) ∧ vp_in i n ∧ μ1 = zm_up μ a (.inl (t, n, .inl (upd f i.toNatClampNeg v))) := by
  unfold zm_sI at h
  split at h
  · next u n f e =>
    split at h
    · next hc => obtain ⟨rfl, h3⟩ := hc; cases h; exact ⟨n, f, e, h3, rfl⟩
    · cases h
  · cases h
theorem zm_aQ_some {μ : zM} {t a : Nat} {i : Int32} {v : Option Nat} (h : zm_aQ μ t a i = some v) : ∃ n f, μ.1 a = some (.inl (t, n, .inr (.inr (.inr (.inr f))))) ∧ vp_in i n ∧ f i.toNatClampNeg = v := by
  unfold zm_aQ at h
  split at h
  · next u n f e =>
    split at h
    · next hc => obtain ⟨rfl, h3⟩ := hc; cases h; exact ⟨n, f, e, h3, rfl⟩
    · cases h
  · cases h
theorem zm_sQ_some {μ μ1 : zM} {t ci a v : Nat} {i : Int32} (h : zm_sQ μ t ci a i v = some μ1) : ∃ n f, μ.1 a = some (.inl (t, n, .inr (.inr (.inr (.inr f))))) ∧ vp_in i n ∧ zm_ck μ ci v = true ∧ μ1 = zm_up μ a (.inl (t, n, .inr (.inr (.inr (.inr (va_up f i.toNatClampNeg (some v))))))) := by
  unfold zm_sQ at h
  split at h
  · next u n f e =>
    split at h
    · next hc => obtain ⟨rfl, h2, h3⟩ := hc; cases h; exact ⟨n, f, e, h3, h2, rfl⟩
    · cases h
  · cases h
theorem zR.at {G : zG} {μ : zM} {s : State} {H : Heap} (h : zR G μ s H) {a : Nat} {e : zE} (he : μ.1 a = some e) : va_P G.1 zcl [(a, zcv G.2.1 e)] H := fun k q hk => by
  cases k with
  | zero => cases hk; exact (h.2.2.1 a e he).1
  | succ k => simp at hk
/-- a cell is written -/
theorem zR.up {G : zG} {μ : zM} {s : State} {H H1 : Heap} (h : zR G μ s H) {a : Nat} {e : zE} (ha : G.2.2 ≤ a) (he : va_at G.1 zcl (a, zcv G.2.1 e) H1) (hz : H1.size = H.size) (oq : ∀ q : Nat, q ≠ a → H1[q]? = H[q]?) : zR G (zm_up μ a e) s H1 := by
  refine ⟨hz.trans h.1, by rw [hz]; exact h.2.1, fun q e' hq => ?_, fun k hk => (h.2.2.2 k hk).kept fun x _ hx => oq x (fun z => hx (by rw [z]; exact ha))⟩
  simp only [zm_up] at hq
  by_cases hqa : q = a
  · rw [if_pos hqa] at hq
    cases hq
    subst hqa
    exact ⟨he, fun _ => ha⟩
  · rw [if_neg hqa] at hq
    exact ⟨(h.2.2.1 q e' hq).1.kept (oq q hqa), (h.2.2.1 q e' hq).2⟩
/-- a cell is made -/
theorem zR.nw {G : zG} {μ : zM} {s : State} {H H1 : Heap} (h : zR G μ s H) {e : zE} (he : va_at G.1 zcl (H.size, zcv G.2.1 e) H1) (hz : H1.size = H.size + 1) (oq : ∀ q : Nat, q < H.size → H1[q]? = H[q]?) : zR G (zm_nw μ e) s H1 := by
  refine ⟨by rw [hz, h.1]; rfl, by rw [hz]; exact Nat.le_succ_of_le h.2.1, fun q e' hq => ?_, fun k hk => (h.2.2.2 k hk).kept fun x hx _ => oq x hx⟩
  simp only [zm_nw] at hq
  by_cases hqa : q = μ.2.1
  · rw [if_pos hqa] at hq
    cases hq
    subst hqa
    rw [← h.1]
    exact ⟨he, fun _ => h.2.1⟩
  · rw [if_neg hqa] at hq
    have h2 := h.2.2.1 q e' hq
    exact ⟨h2.1.kept (oq q h2.1.lt), h2.2⟩
/-- a class by its number: its row, its fields' words, types, names -/
def zcOk (ci : Nat) (q : vw_C) (ty : Nat → FieldType) : Prop := zcl[ci]? = some q ∧ (∀ w ∈ u_ws q.1 q.2.1 q.2.2, w ∈ zt) ∧ (∀ k, k < q.2.2 → parseFieldDescriptor (q.2.1 k).2.2.1 = some (ty k)) ∧ ∀ a, a < q.2.2 → ∀ b, b < q.2.2 → a ≠ b → (q.2.1 a).2.1 ≠ (q.2.1 b).2.1
section
variable {K : zKT} {cc : ByteArray} {F : zFT} {kc ks pc : Nat} {lv : List (Nat × Value)} {st : List Value} {μ μ1 : zM}
theorem zr_get {ci a k ix : Nat} {q : vw_C} {ty : Nat → FieldType} {v : Value} (hv : zm_g μ ci a k = some v) (hq : zcOk ci q ty) (hk : k < q.2.2) (hl : Cond.fieldLink F.2.1 ix (q.2.1 k).1 (q.2.1 k).2.1 (q.2.1 k).2.2.1 ∈ zt) (dg : decode cc pc = .ok (.getfield ix, 3))
    (kk : zz K cc F kc ks (pc + 3) lv (v :: st) μ) : zz K cc F kc ks pc lv (.ref a :: st) μ := by
  obtain ⟨p, l, e, s, m, args, below, meth, c, G⟩ := K
  obtain ⟨nL, own, rt, d0, mc, ms, rv, μ'⟩ := F
  intro C H locs ls hR hS hlv
  obtain ⟨hx, hb, hml, hown, hts, hr, hlk, hK⟩ := id C
  obtain ⟨fs, h1, h2⟩ := zm_g_some hv
  obtain ⟨qC, qT, qN⟩ := q
  exact va_get (D := G.1) hx hb hts hq.2.1 hown hK.1 (hR.at h1) 0 rfl hq.1 k hk (hts _ hl) (fun _ h => h) h2 dg (kk C H locs ls hR hS hlv)
theorem zr_getN {ci a k ix : Nat} {q : vw_C} {ty : Nat → FieldType} {v : Value} {host : String} (hv : zm_g μ ci a k = some v) (hq : zcOk ci q ty) (hk : k < q.2.2) (hl : Cond.fieldLinkNest F.2.1 ix (q.2.1 k).1 (q.2.1 k).2.1 (q.2.1 k).2.2.1 host ∈ zn) (dg : decode cc pc = .ok (.getfield ix, 3))
    (kk : zz K cc F kc ks (pc + 3) lv (v :: st) μ) : zz K cc F kc ks pc lv (.ref a :: st) μ := by
  obtain ⟨p, l, e, s, m, args, below, meth, c, G⟩ := K
  obtain ⟨nL, own, rt, d0, mc, ms, rv, μ'⟩ := F
  intro C H locs ls hR hS hlv
  obtain ⟨hx, hb, hml, hown, hts, hr, hlk, hK⟩ := id C
  obtain ⟨fs, h1, h2⟩ := zm_g_some hv
  obtain ⟨qC, qT, qN⟩ := q
  exact va_getN (D := G.1) hx hb hts hq.2.1 hown hK.1 (hR.at h1) 0 rfl hq.1 k hk (va_Nw.use rfl (hK.2.2.2 _ hl)) (fun _ h => h) h2 dg (kk C H locs ls hR hS hlv)
theorem zr_put {ci a k ix : Nat} {q : vw_C} {ty : Nat → FieldType} {v : Value} (hv : zm_p μ ci a k v = some μ1) (hq : zcOk ci q ty) (hk : k < q.2.2) (hl : Cond.fieldLink F.2.1 ix (q.2.1 k).1 (q.2.1 k).2.1 (q.2.1 k).2.2.1 ∈ zt) (hfin : (q.2.1 k).2.2.2 = false) (hn : narrow (ty k) v = v) (hfit : fits (ty k) v = true) (dg : decode cc pc = .ok (.putfield ix, 3))
    (kk : zz K cc F kc ks (pc + 3) lv st μ1) : zz K cc F kc ks pc lv (v :: .ref a :: st) μ := by
  obtain ⟨p, l, e, s, m, args, below, meth, c, G⟩ := K
  obtain ⟨nL, own, rt, d0, mc, ms, rv, μ'⟩ := F
  intro C H locs ls hR hS hlv
  obtain ⟨hx, hb, hml, hown, hts, hr, hlk, hK⟩ := id C
  obtain ⟨fs, h1, hln, rfl⟩ := zm_p_some hv
  have hbase : G.2.2 ≤ a := (hR.2.2.1 a _ h1).2 rfl
  obtain ⟨qC, qT, qN⟩ := q
  have hap := va_apart (own := own) hts hq.2.1 ty hq.2.2.1 hq.2.2.2 hK.1 hq.1
  obtain ⟨r, g1, cell, q1, q2, q3, q4⟩ := (hR.2.2.1 a _ h1).1
  have hrr : r = (qC, qT, qN) := Option.some.inj (g1.symm.trans hq.1)
  subst hrr
  obtain ⟨hSl, hfc, kC, hkC, hkind⟩ := hK.1.1 ci _ hq.1
  obtain ⟨cf, kf, fi, f, hi, hsl⟩ := hSl k hk
  have hlay := hts _ (hq.2.1 _ (u_in_lay hk))
  unfold u_lay at hlay
  rw [if_neg (by rw [hfin]; decide)] at hlay
  have hst := (u_facts hfc hkC (u_lays hts hq.2.1 hk) hi).1
  have h6 := u_store hfc hkC hkind hlay hi (hq.2.2.1 k hk) hn hfit
  refine W.putK hx hb (f := f) ⟨hown, hts _ hl, ⟨_, _, _, hi⟩, hst⟩ (by rw [q2]; exact h6) q1 q3 (by rw [hsl]; exact k2_hasslot (q4 k hk)) rfl rfl dg fun H' e1 e2 e3 => ?_
  rw [hsl] at e1 ⊢
  exact kk C H' _ ls (hR.up hbase ⟨_, hq.1, t_OB.to (V := updV (vp_V fs) k v) ⟨_, e1, q2, q3, t_set q4 hap hk v⟩ (fun j _ => vp_updV_set hln v j)⟩ e2 e3) (hS.put e2 e3 hbase) hlv
theorem zr_putF {ci a k ix : Nat} {q : vw_C} {ty : Nat → FieldType} {v : Value} (hv : zm_p μ ci a k v = some μ1) (hin2 : K.2.2.2.2.2.2.2.1.name = "<init>") (hown2 : (q.2.1 k).1 = F.2.1) (hq : zcOk ci q ty) (hk : k < q.2.2) (hl : Cond.fieldLink F.2.1 ix (q.2.1 k).1 (q.2.1 k).2.1 (q.2.1 k).2.2.1 ∈ zt) (hfin : (q.2.1 k).2.2.2 = true) (hn : narrow (ty k) v = v) (hfit : fits (ty k) v = true) (dg : decode cc pc = .ok (.putfield ix, 3))
    (kk : zz K cc F kc ks (pc + 3) lv st μ1) : zz K cc F kc ks pc lv (v :: .ref a :: st) μ := by
  obtain ⟨p, l, e, s, m, args, below, meth, c, G⟩ := K
  obtain ⟨nL, own, rt, d0, mc, ms, rv, μ'⟩ := F
  intro C H locs ls hR hS hlv
  obtain ⟨hx, hb, hml, hown, hts, hr, hlk, hK⟩ := id C
  obtain ⟨fs, h1, hln, rfl⟩ := zm_p_some hv
  have hbase : G.2.2 ≤ a := (hR.2.2.1 a _ h1).2 rfl
  obtain ⟨qC, qT, qN⟩ := q
  have hap := va_apart (own := own) hts hq.2.1 ty hq.2.2.1 hq.2.2.2 hK.1 hq.1
  obtain ⟨r, g1, cell, q1, q2, q3, q4⟩ := (hR.2.2.1 a _ h1).1
  have hrr : r = (qC, qT, qN) := Option.some.inj (g1.symm.trans hq.1)
  subst hrr
  obtain ⟨hSl, hfc, kC, hkC, hkind⟩ := hK.1.1 ci _ hq.1
  obtain ⟨cf, kf, fi, f, hi, hsl⟩ := hSl k hk
  have hlay := hts _ (hq.2.1 _ (u_in_lay hk))
  unfold u_lay at hlay
  rw [if_pos hfin] at hlay
  have hst := (u_facts hfc hkC (u_lays hts hq.2.1 hk) hi).1
  have hcf : m.cls = cf := by
    obtain ⟨_, _, c', _, _, _, -, -, hf', -, -, -, hown2', -⟩ := Cond.laysFinal_spec hlay
    have e1 : c' = cf := by have := hi.symm.trans hf'; simp at this; exact this.1.symm
    rw [show (qT k).1 = own from hown2] at hown2'
    rw [← e1]; exact Option.some.inj (hown.symm.trans hown2')
  have h6 := u_fits hfc hkC hkind (Or.inr hlay) hi (hq.2.2.1 k hk) hn hfit
  refine W.putFinK hx hb hown (hts _ hl) hi hst hcf hin2 (by rw [q2]; exact h6) q1 q3 (by rw [hsl]; exact k2_hasslot (q4 k hk)) rfl rfl dg fun H' e1 e2 e3 => ?_
  rw [hsl] at e1 ⊢
  exact kk C H' _ ls (hR.up hbase ⟨_, hq.1, t_OB.to (V := updV (vp_V fs) k v) ⟨_, e1, q2, q3, t_set q4 hap hk v⟩ (fun j _ => vp_updV_set hln v j)⟩ e2 e3) (hS.put e2 e3 hbase) hlv
theorem zr_iald {a : Nat} {i v : Int32} (hv : zm_aI μ 0 a i = some v) (dg : decode cc pc = .ok (.iaload, 1)) (kk : zz K cc F kc ks (pc + 1) lv (.int v :: st) μ) : zz K cc F kc ks pc lv (.int i :: .ref a :: st) μ := by
  obtain ⟨p, l, e, s, m, args, below, meth, c, G⟩ := K
  obtain ⟨nL, own, rt, d0, mc, ms, rv, μ'⟩ := F
  intro C H locs ls hR hS hlv
  obtain ⟨hx, hb, hml, hown, hts, hr, hlk, hK⟩ := id C
  obtain ⟨u, n, f, h1, h2, h3, h4, rfl⟩ := zm_aI_some hv
  have hu : zty u = .int := by
    rcases (show u = 0 ∨ u = 10 by omega) with rfl | rfl <;> rfl
  exact va_iald (D := G.1) hx hb (hK.arr h3) (hR.at h1) 0 0 rfl (by rw [hu]; rfl) h4 dg (kk C H locs ls hR hS hlv)
theorem zr_bald {a : Nat} {i v : Int32} (hv : zm_aI μ 1 a i = some v) (dg : decode cc pc = .ok (.baload, 1)) (kk : zz K cc F kc ks (pc + 1) lv (.int v :: st) μ) : zz K cc F kc ks pc lv (.int i :: .ref a :: st) μ := by
  obtain ⟨p, l, e, s, m, args, below, meth, c, G⟩ := K
  obtain ⟨nL, own, rt, d0, mc, ms, rv, μ'⟩ := F
  intro C H locs ls hR hS hlv
  obtain ⟨hx, hb, hml, hown, hts, hr, hlk, hK⟩ := id C
  obtain ⟨u, n, f, h1, h2, h3, h4, rfl⟩ := zm_aI_some hv
  have hu : zty u = .byte := by
    rcases (show u = 1 ∨ u = 11 by omega) with rfl | rfl <;> rfl
  exact va_bald (D := G.1) hx hb (hK.arr h3) (hR.at h1) 0 0 rfl (by rw [hu]; rfl) h4 dg (kk C H locs ls hR hS hlv)
theorem zr_zald {a : Nat} {i v : Int32} (hv : zm_aI μ 2 a i = some v) (dg : decode cc pc = .ok (.baload, 1)) (kk : zz K cc F kc ks (pc + 1) lv (.int v :: st) μ) : zz K cc F kc ks pc lv (.int i :: .ref a :: st) μ := by
  obtain ⟨p, l, e, s, m, args, below, meth, c, G⟩ := K
  obtain ⟨nL, own, rt, d0, mc, ms, rv, μ'⟩ := F
  intro C H locs ls hR hS hlv
  obtain ⟨hx, hb, hml, hown, hts, hr, hlk, hK⟩ := id C
  obtain ⟨u, n, f, h1, h2, h3, h4, rfl⟩ := zm_aI_some hv
  have hu : zty u = .boolean := by
    rcases (show u = 2 by omega) with rfl <;> rfl
  exact va_zald (D := G.1) hx hb (hK.arr h3) (hR.at h1) 0 0 rfl (by rw [hu]; rfl) h4 dg (kk C H locs ls hR hS hlv)
theorem zr_alen {a : Nat} {v : Int32} (hv : zm_len μ a = some v) (dg : decode cc pc = .ok (.arraylength, 1)) (kk : zz K cc F kc ks (pc + 1) lv (.int v :: st) μ) : zz K cc F kc ks pc lv (.ref a :: st) μ := by
  obtain ⟨p, l, e, s, m, args, below, meth, c, G⟩ := K
  obtain ⟨nL, own, rt, d0, mc, ms, rv, μ'⟩ := F
  intro C H locs ls hR hS hlv
  obtain ⟨hx, hb, hml, hown, hts, hr, hlk, hK⟩ := id C
  obtain ⟨t, x, h1, h2, h3⟩ := zm_len_some hv
  exact va_alen (D := G.1) hx hb (hK.arr h2) (hR.at h1) 0 0 rfl rfl h3 dg (kk C H locs ls hR hS hlv)
theorem zr_aald {a t : Nat} {i : Int32} {v : Option Nat} (hv : zm_aQ μ t a i = some v) (ht : t < 12) (hc : zty t = .object (zoc t)) (dg : decode cc pc = .ok (.aaload, 1)) (kk : zz K cc F kc ks (pc + 1) lv (va_rf v :: st) μ) : zz K cc F kc ks pc lv (.int i :: .ref a :: st) μ := by
  obtain ⟨p, l, e, s, m, args, below, meth, c, G⟩ := K
  obtain ⟨nL, own, rt, d0, mc, ms, rv, μ'⟩ := F
  intro C H locs ls hR hS hlv
  obtain ⟨hx, hb, hml, hown, hts, hr, hlk, hK⟩ := id C
  obtain ⟨n, f, h1, h2, rfl⟩ := zm_aQ_some hv
  exact va_aldq (D := G.1) (C := zoc t) hx hb (hK.arr ht) (hR.at h1) 0 0 rfl (by rw [hc]; rfl) h2 dg (kk C H locs ls hR hS hlv)
theorem zr_iast {a : Nat} {i v : Int32} (hv : zm_sI μ 0 a i v = some μ1) (dg : decode cc pc = .ok (.iastore, 1)) (kk : zz K cc F kc ks (pc + 1) lv st μ1) : zz K cc F kc ks pc lv (.int v :: .int i :: .ref a :: st) μ := by
  obtain ⟨p, l, e, s, m, args, below, meth, c, G⟩ := K
  obtain ⟨nL, own, rt, d0, mc, ms, rv, μ'⟩ := F
  intro C H locs ls hR hS hlv
  obtain ⟨hx, hb, hml, hown, hts, hr, hlk, hK⟩ := id C
  obtain ⟨n, f, h1, h2, rfl⟩ := zm_sI_some hv
  have hbase : G.2.2 ≤ a := (hR.2.2.1 a _ h1).2 rfl
  refine W.iast hx hb (hR.2.2.1 a _ h1).1 ((hK.2.1 0 (by omega)).1 n (fun j => .int (f j))) (fun q => by cases q) (by show ¬ (i < 0 ∨ (arrV _ _ _).slots.size ≤ _); rw [arrV_size]; exact h2) rfl rfl dg fun H1 e z oq => ?_
  refine kk C H1 _ ls (hR.up hbase ?_ z oq) (hS.put z oq hbase) hlv
  show H1[a]? = some (vp_cell _ _)
  rw [e]
  rw [vp_cell_i, vp_cell_i, arrV_store]
  congr 2
  funext q
  by_cases hq : q = i.toNatClampNeg
  · subst hq
    simp [updV, upd]
  · simp [updV, upd, hq]
theorem zr_bast {a : Nat} {i v : Int32} (hv : zm_sI μ 1 a i (vp_nar .byte v) = some μ1) (dg : decode cc pc = .ok (.bastore, 1)) (kk : zz K cc F kc ks (pc + 1) lv st μ1) : zz K cc F kc ks pc lv (.int v :: .int i :: .ref a :: st) μ := by
  obtain ⟨p, l, e, s, m, args, below, meth, c, G⟩ := K
  obtain ⟨nL, own, rt, d0, mc, ms, rv, μ'⟩ := F
  intro C H locs ls hR hS hlv
  obtain ⟨hx, hb, hml, hown, hts, hr, hlk, hK⟩ := id C
  obtain ⟨n, f, h1, h2, rfl⟩ := zm_sI_some hv
  have hbase : G.2.2 ≤ a := (hR.2.2.1 a _ h1).2 rfl
  refine W.bast hx hb (hR.2.2.1 a _ h1).1 ((hK.2.1 1 (by omega)).1 n (fun j => .int (f j))) (fun q => by cases q) (by show ¬ (i < 0 ∨ (arrV _ _ _).slots.size ≤ _); rw [arrV_size]; exact h2) rfl rfl dg fun H1 e z oq => ?_
  refine kk C H1 _ ls (hR.up hbase ?_ z oq) (hS.put z oq hbase) hlv
  show H1[a]? = some (vp_cell _ _)
  rw [e]
  rw [vp_cell_i, vp_cell_i, arrV_store]
  congr 2
  funext q
  by_cases hq : q = i.toNatClampNeg
  · subst hq
    simp [updV, upd, vp_nar_byte]
    simp [narrow]
  · simp [updV, upd, hq]
theorem zr_zast {a : Nat} {i v : Int32} (hv : zm_sI μ 2 a i (vp_nar .boolean v) = some μ1) (dg : decode cc pc = .ok (.bastore, 1)) (kk : zz K cc F kc ks (pc + 1) lv st μ1) : zz K cc F kc ks pc lv (.int v :: .int i :: .ref a :: st) μ := by
  obtain ⟨p, l, e, s, m, args, below, meth, c, G⟩ := K
  obtain ⟨nL, own, rt, d0, mc, ms, rv, μ'⟩ := F
  intro C H locs ls hR hS hlv
  obtain ⟨hx, hb, hml, hown, hts, hr, hlk, hK⟩ := id C
  obtain ⟨n, f, h1, h2, rfl⟩ := zm_sI_some hv
  have hbase : G.2.2 ≤ a := (hR.2.2.1 a _ h1).2 rfl
  refine W.zast hx hb (hR.2.2.1 a _ h1).1 ((hK.2.1 2 (by omega)).1 n (fun j => .int (f j))) (fun q => by cases q) (by show ¬ (i < 0 ∨ (arrV _ _ _).slots.size ≤ _); rw [arrV_size]; exact h2) rfl rfl dg fun H1 e z oq => ?_
  refine kk C H1 _ ls (hR.up hbase ?_ z oq) (hS.put z oq hbase) hlv
  show H1[a]? = some (vp_cell _ _)
  rw [e]
  rw [vp_cell_i, vp_cell_i, arrV_store]
  congr 2
  funext q
  by_cases hq : q = i.toNatClampNeg
  · subst hq
    simp [updV, upd, vp_nar]
    simp [narrow]
  · simp [updV, upd, hq]
theorem zr_aast {a t ci x : Nat} {i : Int32} {q : vw_C} {ty : Nat → FieldType} (hv : zm_sQ μ t ci a i x = some μ1) (ht : t < 10) (hc : zty t = .object q.1) (hq : zcOk ci q ty) (dg : decode cc pc = .ok (.aastore, 1)) (kk : zz K cc F kc ks (pc + 1) lv st μ1) : zz K cc F kc ks pc lv (.ref x :: .int i :: .ref a :: st) μ := by
  obtain ⟨p, l, e, s, m, args, below, meth, c, G⟩ := K
  obtain ⟨nL, own, rt, d0, mc, ms, rv, μ'⟩ := F
  intro C H locs ls hR hS hlv
  obtain ⟨hx, hb, hml, hown, hts, hr, hlk, hK⟩ := id C
  obtain ⟨n, f, h1, h2, h3, rfl⟩ := zm_sQ_some hv
  obtain ⟨vs, h4⟩ := zm_ck_some h3
  have hbase : G.2.2 ≤ a := (hR.2.2.1 a _ h1).2 (by simp [zrw, ht])
  have hlt : i.toNatClampNeg < n := Nat.not_le.mp fun q => h2 (Or.inr q)
  have h0 : ¬ i < 0 := fun q => h2 (Or.inl q)
  obtain ⟨r', hr', cellV, g1, g2, g3, -⟩ := (hR.2.2.1 x _ h4).1
  have hcls := (hK.1.1 ci q hq.1).2
  have hra := (hK.2.1 t (by omega)).2
  rw [hc] at hra
  obtain ⟨kA, comp, k1, k2, k3, -⟩ := hra
  have hcomp : comp = G.1.1 ci := Option.some.inj (k3.symm.trans hcls.1)
  subst hcomp
  obtain ⟨kC, hkC, -⟩ := hcls.2
  refine W.aast hx hb (hR.2.2.1 a _ h1).1 (fun q h => by cases h) (fun h => by cases h) k1 k2 rfl hkC ⟨h0, by show _ < (arrV _ _ _).slots.size; rw [arrV_size]; exact hlt⟩ g1 (fun q h => by rw [g3] at h; cases h) (by rw [g2]; exact hkC) (by rw [g2]; exact va_assign hcls) rfl rfl dg fun H1 e z oq => ?_
  refine kk C H1 _ ls (hR.up hbase ?_ z oq) (hS.put z oq hbase) hlv
  show H1[a]? = some (vp_cell _ _)
  rw [e]
  rw [vp_cell_q, vp_cell_q, arrV_store]
  congr 2
  funext q
  by_cases hq : q = i.toNatClampNeg
  · subst hq
    simp [updV, va_up, va_rf]
  · simp [updV, va_up, hq]
/-- getstatic of a static row -/
theorem zr_gets {k ix : Nat} (hk : k < 5) (hl : Cond.fieldLink F.2.1 ix (zsn k).1 (zsn k).2 "[I" ∈ zt) (dg : decode cc pc = .ok (.getstatic ix, 3)) (kk : zz K cc F kc ks (pc + 3) lv (.ref (μ.2.2 k) :: st) μ) : zz K cc F kc ks pc lv st μ := by
  obtain ⟨p, l, e, s, m, args, below, meth, c, G⟩ := K
  obtain ⟨nL, own, rt, d0, mc, ms, rv, μ'⟩ := F
  intro C H locs ls hR hS hlv
  obtain ⟨hx, hb, hml, hown, hts, hr, hlk, hK⟩ := id C
  obtain ⟨cf, kf, fi, f, a, cell, h1, h2, h3, h4, h5, h6, h7, h8⟩ := hR.2.2.2 k hk
  exact W.gets hx hb hown (hts _ hl) h1 h2 h3 h4 h5 (fun e => by rw [e] at h6; cases h6) h7 rfl dg (kk C H locs ls hR hS hlv)
theorem zr_aret {nL : Nat} {own : String} {d0 mc ms : Nat} {v : Option Nat} {C : String} (dg : decode cc pc = .ok (.areturn, 1)) : zz K cc (nL, own, some (.object C), d0, mc, ms, some (va_rf v), μ) mc ms pc lv [va_rf v] μ := by
  obtain ⟨p, l, e, s, m, args, below, meth, c, G⟩ := K
  intro C H locs ls hR hS hl
  obtain ⟨hx, hb, hml, hown, hts, hr, hlk, hK⟩ := id C
  exact W.aret hx hb hr (Or.inl ⟨_, rfl⟩) (va_rf_or v) (fun t ht hW => ⟨rfl, by rw [ht]; exact hR.moved hW.alike, hS.F ht⟩) hS.2.2 dg hlk
end
end
section
/-! calls, and cells that are made -/
section
variable {p : Program} {l : Launch} {e : Env} {R : Room} {s : State} {m : MethodId} {args : Array Value} {below : List Frame} {meth : Method} {c : Code} {H : Heap} {locs : List Loc} {Q : State → Prop}
theorem zw_run {G : zG} {μ1 : zM} {rv1 : Option Value} {kc ks mc1 ms1 pc : Nat} {ls : Array Slot} {st0 rest : List Value}
    (hr : va_Run p l e R s m args below meth c H locs kc ks mc1 ms1 (F0 m pc ls st0) rest (fun st oc t => oc = .returned rv1 ∧ zR G μ1 t t.heap ∧ va_F (zA G) st t) (zA G)) (hS : va_S (zA G) s.heap H locs)
    (kk : ∀ (H1 : Heap) (locs1 : List Loc), zR G μ1 s H1 → va_S (zA G) s.heap H1 locs1 → W p l e R s m args below meth c H1 locs1 (kc + mc1) (ks + ms1) Q (F0 m (pc + 3) ls (rv1.toList ++ rest))) : W p l e R s m args below meth c H locs kc ks Q (F0 m pc ls st0) := by
  intro T hT X
  obtain ⟨v, st₀, t, T', L, h0, X', hL, e1, e2, ⟨hv, hR1, hz, hk⟩, st⟩ := hr T hT X
  cases hv
  rw [h0] at hz hk
  have hal : s.vm.Alike t.vm := by rw [← e2]; exact X'.warmed.alike
  obtain ⟨t2, a1, b1⟩ := kk T'.heap (locs ++ L) (by rw [e1]; exact hR1.moved hal.symm)
    ⟨Nat.le_trans hS.1 (by rw [e1]; exact hz), fun q h1 h2 => by rw [e1, hk q (Nat.lt_of_lt_of_le h1 hS.1) h2]; exact hS.2.1 q h1 h2, fun q hq => by
      rcases List.mem_append.mp hq with h | h
      · exact hS.2.2 q h
      · exact hL q h⟩ T' rfl X'
  exact ⟨t2, st t2 a1, b1⟩
end
theorem zpc_blind {G : zG} {μ : zM} {av : List Value} : FrameBlind (va_Pc av (fun U => zR G μ U U.heap ∧ zK G U)) := fun a U g mk q => by
  obtain ⟨q0, qR, qK⟩ := q
  exact ⟨q0, zR.moved (u := U) (U := U.calling g mk a) (Vm.Alike.refl U.vm) qR, qK.calling⟩
def zok (y : MethodName) (n : Nat) : Prop := y.cls ≠ "java/lang/invoke/MethodHandle" ∧ y.cls ≠ "java/lang/invoke/VarHandle" ∧ (parseMethodDescriptor y.desc).map (fun d => d.parameters.length) = some n
/-- what the tables say of a method: its code, its class is ready; n parameters -/
def zvS (y : MethodName) (bytes : ByteArray) (maxL : Nat) (rt : Option FieldType) (n : Nat) : Prop := Cond.code y bytes maxL rt ∈ zt ∧ Cond.initialized y.cls ∈ zt ∧ zok y n ∧ maxL ≤ 29
section
variable {K : zKT} {cc : ByteArray} {F : zFT} {kc ks pc : Nat} {lv : List (Nat × Value)} {st : List Value} {μ μ1 : zM}
variable {y : MethodName} {bytes : ByteArray} {maxL d mc1 ms1 n ix : Nat} {rt : Option FieldType} {b : Nat} {rv1 : Option Value}
theorem zr_callV {ci : Nat} {q : vw_C} (As : List Value) (hM : zC y bytes maxL rt d mc1 ms1 (.ref b :: As) μ rv1 μ1) (hv : zvS y bytes maxL rt n) (hin : Cond.instanceMethod y ∈ zt) (hse : Cond.selects y.cls y y ∈ zt) (hck : zm_ck μ ci b = true) (hq : zcl[ci]? = some q) (hC : y.cls = q.1) (hl : Cond.methodLink F.2.1 ix y ∈ zt) (hn : As.length = n) (hd : d + 1 ≤ F.2.2.2.1) (hm1 : kc + mc1 ≤ F.2.2.2.2.1) (hm2 : ks + ms1 ≤ F.2.2.2.2.2.1) (hst : (st.map fun v => v.category).sum ≤ 8) (dg : decode cc pc = .ok (.invokevirtual ix, 3))
    {st0 : List Value} (hs0 : As.reverse ++ .ref b :: st = st0) (kk : zz K cc F (kc + mc1) (ks + ms1) (pc + 3) lv (rv1.toList ++ st) μ1) : zz K cc F kc ks pc lv st0 μ := by
  subst hs0
  obtain ⟨p, l, e, s, m, args, below, meth, c, G⟩ := K
  obtain ⟨nL, own, rt0, d0, mc, ms, rv, μ'⟩ := F
  intro C H locs ls hR hS hlv
  obtain ⟨hx, hb, hml, hown, hts, hr, hlk, hK⟩ := id C
  obtain ⟨fs, h4⟩ := zm_ck_some hck
  obtain ⟨v1, v2, v3, v4⟩ := hv
  have hrec := va_recv (s := s) hK.1 (hR.at h4) hq (q0 := 0) rfl
  rw [← hC] at hrec
  have cw : CallW (zrm d0 mc ms) s args own y.cls ix y bytes maxL rt (.code y bytes maxL rt :: zt) (zrm d mc1 ms1) mc1 ms1 n :=
    ⟨callB_of n hts (zt_good v1) rfl rfl rfl (hts _ v2) (hts _ hl) v3 ⟨hd, by show 8 + (maxL + 11) + 48 * d ≤ 48 * d0; have : d + 1 ≤ d0 := hd; omega⟩, hts _ hin, hts _ hse⟩
  exact zw_run (va_runV ⟨hx, hb, hml, hown, hts⟩ (hM l G) cw ⟨zpc_blind, hrec, fun U hU hW => ⟨rfl, by rw [hU]; exact hR.moved hW.alike, hK.warm hW⟩⟩ rfl hn hlv.1 rfl (lv_room hst) dg ⟨hm1, hm2⟩) hS (fun H1 locs1 hR1 hS1 => kk C H1 locs1 ls hR1 hS1 hlv)
theorem zr_callS (As : List Value) (hM : zC y bytes maxL rt d mc1 ms1 As μ rv1 μ1) (hv : zvS y bytes maxL rt n) (hstt : Cond.static y ∈ zt) (hl : Cond.methodLink F.2.1 ix y ∈ zt) (hn : As.length = n) (hd : d + 1 ≤ F.2.2.2.1) (hm1 : kc + mc1 ≤ F.2.2.2.2.1) (hm2 : ks + ms1 ≤ F.2.2.2.2.2.1) (hst : (st.map fun v => v.category).sum ≤ 8) (dg : decode cc pc = .ok (.invokestatic ix, 3))
    {st0 : List Value} (hs0 : As.reverse ++ st = st0) (kk : zz K cc F (kc + mc1) (ks + ms1) (pc + 3) lv (rv1.toList ++ st) μ1) : zz K cc F kc ks pc lv st0 μ := by
  subst hs0
  obtain ⟨p, l, e, s, m, args, below, meth, c, G⟩ := K
  obtain ⟨nL, own, rt0, d0, mc, ms, rv, μ'⟩ := F
  intro C H locs ls hR hS hlv
  obtain ⟨hx, hb, hml, hown, hts, hr, hlk, hK⟩ := id C
  obtain ⟨v1, v2, v3, v4⟩ := hv
  have cw : CallB (zrm d0 mc ms) s args own ix y bytes maxL rt (.code y bytes maxL rt :: zt) (zrm d mc1 ms1) mc1 ms1 n :=
    callB_of n hts (zt_good v1) rfl rfl rfl (hts _ v2) (hts _ hl) v3 ⟨hd, by show 8 + (maxL + 11) + 48 * d ≤ 48 * d0; have : d + 1 ≤ d0 := hd; omega⟩
  exact zw_run (va_runS ⟨hx, hb, hml, hown, hts⟩ (hM l G) ⟨cw, hts _ hstt⟩ ⟨zpc_blind, fun U hU hW => ⟨rfl, by rw [hU]; exact hR.moved hW.alike, hK.warm hW⟩⟩ rfl hn hlv.1 rfl (lv_room hst) dg ⟨hm1, hm2⟩) hS (fun H1 locs1 hR1 hS1 => kk C H1 locs1 ls hR1 hS1 hlv)
theorem zr_callSN {host : String} (As : List Value) (hM : zC y bytes maxL rt d mc1 ms1 As μ rv1 μ1) (hv : zvS y bytes maxL rt n) (hstt : Cond.static y ∈ zt) (hl : Cond.methodLinkNest F.2.1 ix y host ∈ zn) (hn : As.length = n) (hd : d + 1 ≤ F.2.2.2.1) (hm1 : kc + mc1 ≤ F.2.2.2.2.1) (hm2 : ks + ms1 ≤ F.2.2.2.2.2.1) (hst : (st.map fun v => v.category).sum ≤ 8) (dg : decode cc pc = .ok (.invokestatic ix, 3))
    {st0 : List Value} (hs0 : As.reverse ++ st = st0) (kk : zz K cc F (kc + mc1) (ks + ms1) (pc + 3) lv (rv1.toList ++ st) μ1) : zz K cc F kc ks pc lv st0 μ := by
  subst hs0
  obtain ⟨p, l, e, s, m, args, below, meth, c, G⟩ := K
  obtain ⟨nL, own, rt0, d0, mc, ms, rv, μ'⟩ := F
  intro C H locs ls hR hS hlv
  obtain ⟨hx, hb, hml, hown, hts, hr, hlk, hK⟩ := id C
  obtain ⟨v1, v2, v3, v4⟩ := hv
  have cw : va_CN (zrm d0 mc ms) s args own ix y host bytes maxL rt (.code y bytes maxL rt :: zt) (zrm d mc1 ms1) mc1 ms1 n :=
    va_cnB n hts (zt_good v1) rfl rfl rfl (hK.2.2.2 _ hl) (hts _ v2) v3 ⟨hd, by show 8 + (maxL + 11) + 48 * d ≤ 48 * d0; have : d + 1 ≤ d0 := hd; omega⟩
  exact zw_run (va_runSN ⟨hx, hb, hml, hown, hts⟩ (hM l G) ⟨cw, hts _ hstt, trivial⟩ ⟨zpc_blind, fun U hU hW => ⟨rfl, by rw [hU]; exact hR.moved hW.alike, hK.warm hW⟩⟩ rfl hn hlv.1 rfl (lv_room hst) dg ⟨hm1, hm2⟩) hS (fun H1 locs1 hR1 hS1 => kk C H1 locs1 ls hR1 hS1 hlv)
theorem zr_callI (As : List Value) (hM : zC y bytes maxL none d mc1 ms1 (.ref b :: As) μ rv1 μ1) (hv : zvS y bytes maxL none n) (hin : Cond.instanceMethod y ∈ zt) (hy : y.name = "<init>") (hl : Cond.methodLink F.2.1 ix y ∈ zt) (hn : As.length = n) (hd : d + 1 ≤ F.2.2.2.1) (hm1 : kc + mc1 ≤ F.2.2.2.2.1) (hm2 : ks + ms1 ≤ F.2.2.2.2.2.1) (hst : (st.map fun v => v.category).sum ≤ 8) (dg : decode cc pc = .ok (.invokespecial ix, 3))
    {st0 : List Value} (hs0 : As.reverse ++ .ref b :: st = st0) (kk : zz K cc F (kc + mc1) (ks + ms1) (pc + 3) lv (rv1.toList ++ st) μ1) : zz K cc F kc ks pc lv st0 μ := by
  subst hs0
  obtain ⟨p, l, e, s, m, args, below, meth, c, G⟩ := K
  obtain ⟨nL, own, rt0, d0, mc, ms, rv, μ'⟩ := F
  intro C H locs ls hR hS hlv
  obtain ⟨hx, hb, hml, hown, hts, hr, hlk, hK⟩ := id C
  obtain ⟨v1, v2, v3, v4⟩ := hv
  have cw : CallB (zrm d0 mc ms) s args own ix y bytes maxL none (.code y bytes maxL none :: zt) (zrm d mc1 ms1) mc1 ms1 n :=
    callB_of n hts (zt_good v1) rfl rfl rfl (hts _ v2) (hts _ hl) v3 ⟨hd, by show 8 + (maxL + 11) + 48 * d ≤ 48 * d0; have : d + 1 ≤ d0 := hd; omega⟩
  exact zw_run (va_runI ⟨hx, hb, hml, hown, hts⟩ (hM l G) ⟨cw, hy, hts _ hin⟩ ⟨zpc_blind, fun U hU hW => ⟨rfl, by rw [hU]; exact hR.moved hW.alike, hK.warm hW⟩⟩ rfl hn hlv.1 rfl (lv_room hst) dg ⟨hm1, hm2⟩) hS (fun H1 locs1 hR1 hS1 => kk C H1 locs1 ls hR1 hS1 hlv)
theorem zr_callIN {host : String} (As : List Value) (hM : zC y bytes maxL none d mc1 ms1 (.ref b :: As) μ rv1 μ1) (hv : zvS y bytes maxL none n) (hin : Cond.instanceMethod y ∈ zt) (hy : y.name = "<init>") (hl : Cond.methodLinkNest F.2.1 ix y host ∈ zn) (hn : As.length = n) (hd : d + 1 ≤ F.2.2.2.1) (hm1 : kc + mc1 ≤ F.2.2.2.2.1) (hm2 : ks + ms1 ≤ F.2.2.2.2.2.1) (hst : (st.map fun v => v.category).sum ≤ 8) (dg : decode cc pc = .ok (.invokespecial ix, 3))
    {st0 : List Value} (hs0 : As.reverse ++ .ref b :: st = st0) (kk : zz K cc F (kc + mc1) (ks + ms1) (pc + 3) lv (rv1.toList ++ st) μ1) : zz K cc F kc ks pc lv st0 μ := by
  subst hs0
  obtain ⟨p, l, e, s, m, args, below, meth, c, G⟩ := K
  obtain ⟨nL, own, rt0, d0, mc, ms, rv, μ'⟩ := F
  intro C H locs ls hR hS hlv
  obtain ⟨hx, hb, hml, hown, hts, hr, hlk, hK⟩ := id C
  obtain ⟨v1, v2, v3, v4⟩ := hv
  have cw : va_CN (zrm d0 mc ms) s args own ix y host bytes maxL none (.code y bytes maxL none :: zt) (zrm d mc1 ms1) mc1 ms1 n :=
    va_cnB n hts (zt_good v1) rfl rfl rfl (hK.2.2.2 _ hl) (hts _ v2) v3 ⟨hd, by show 8 + (maxL + 11) + 48 * d ≤ 48 * d0; have : d + 1 ≤ d0 := hd; omega⟩
  exact zw_run (va_runIN ⟨hx, hb, hml, hown, hts⟩ (hM l G) ⟨cw, hy, hts _ hin⟩ ⟨zpc_blind, fun U hU hW => ⟨rfl, by rw [hU]; exact hR.moved hW.alike, hK.warm hW⟩⟩ rfl hn hlv.1 rfl (lv_room hst) dg ⟨hm1, hm2⟩) hS (fun H1 locs1 hR1 hS1 => kk C H1 locs1 ls hR1 hS1 hlv)
theorem zr_objInit {a : Nat} (hl : Cond.methodLink F.2.1 ix Lib.objectInit ∈ zt) (hin : Cond.instanceMethod Lib.objectInit ∈ zt) (hc : Cond.code Lib.objectInit ⟨#[0xb1]⟩ 1 none ∈ zt) (hd : 1 ≤ F.2.2.2.1) (hst : (st.map fun v => v.category).sum ≤ 8) (dg : decode cc pc = .ok (.invokespecial ix, 3)) (kk : zz K cc F kc ks (pc + 3) lv st μ) : zz K cc F kc ks pc lv (.ref a :: st) μ := by
  obtain ⟨p, l, e, s, m, args, below, meth, c, G⟩ := K
  obtain ⟨nL, own, rt0, d0, mc, ms, rv, μ'⟩ := F
  intro C H locs ls hR hS hlv
  obtain ⟨hx, hb, hml, hown, hts, hr, hlk, hK⟩ := id C
  refine W.objInit hx hb hown (hts _ hl) (hts _ hin) (hts _ hc) rfl (by rw [hml]; exact hlv.1) rfl dg hd (by show 2 * 0 + _ + 12 ≤ 48 * d0; have : 1 ≤ d0 := hd; omega) ?_
  exact kk C H locs ls hR hS hlv
theorem zr_new {ci : Nat} {q : vw_C} {ty : Nat → FieldType} (fs : List Value) (hq : zcOk ci q ty) (hl : Cond.classLink F.2.1 ix q.1 ∈ zt) (hi : Cond.instantiable q.1 q.2.2 ∈ zt) (hini : Cond.initialized q.1 ∈ zt) (hfs : ∀ j, j < q.2.2 → defaultValue (ty j) = vp_V fs j) (hm1 : kc + 1 ≤ F.2.2.2.2.1) (hm2 : ks + q.2.2 ≤ F.2.2.2.2.2.1) (dg : decode cc pc = .ok (.new ix, 3))
    (kk : zz K cc F (kc + 1) (ks + q.2.2) (pc + 3) lv (.ref μ.2.1 :: st) (zm_nw μ (.inr (ci, fs)))) : zz K cc F kc ks pc lv st μ := by
  obtain ⟨p, l, e, s, m, args, below, meth, c, G⟩ := K
  obtain ⟨nL, own, rt0, d0, mc, ms, rv, μ'⟩ := F
  intro C H locs ls hR hS hlv
  obtain ⟨hx, hb, hml, hown, hts, hr, hlk, hK⟩ := id C
  obtain ⟨qC, qT, qN⟩ := q
  have hKn := hK.1.1 ci _ hq.1
  refine W.newcK hx hb hown (hts _ hl) (hts _ hi) (hts _ hini) rfl dg hm1 hm2 hKn.2.1 hR.1 fun H1 kC hkC e1 z1 o1 => ?_
  rw [← hR.1] at e1 z1 o1
  exact kk C H1 locs ls (hR.nw ⟨_, hq.1, (u_born ty hts hq.2.1 hKn hkC e1 hq.2.2.1).to hfs⟩ z1 o1) ⟨Nat.le_trans hS.1 (by omega), fun x h1 h2 => (o1 x (Nat.lt_of_lt_of_le h1 hS.1)).trans (hS.2.1 x h1 h2), hS.2.2⟩ hlv
theorem zr_newa {t N : Nat} {n : Int32} {atype : ArrayType} (ht : t < 3) (hty : newarray.typeOf atype = zty t) (ha : Cond.arrayClass (newarray.typeOf atype) ∈ zt) (hn : ¬ n < 0) (hN : n.toNatClampNeg = N) (hby : N * componentBytes (newarray.typeOf atype) ≤ 536870912) (hm1 : kc + 1 ≤ F.2.2.2.2.1) (hm2 : ks + N ≤ F.2.2.2.2.2.1) (dg : decode cc pc = .ok (.newarray atype, 2))
    (kk : zz K cc F (kc + 1) (ks + N) (pc + 2) lv (.ref μ.2.1 :: st) (zm_nw μ (.inl (t, N, .inl (fun _ => 0))))) : zz K cc F kc ks pc lv (.int n :: st) μ := by
  obtain ⟨p, l, e, s, m, args, below, meth, c, G⟩ := K
  obtain ⟨nL, own, rt0, d0, mc, ms, rv, μ'⟩ := F
  intro C H locs ls hR hS hlv
  obtain ⟨hx, hb, hml, hown, hts, hr, hlk, hK⟩ := id C
  refine va_newaK hx hb (hts _ ha) rfl dg rfl hn hN hby hm1 hm2 hR.1 fun H1 cA e1 z1 o1 hAr hNm => ?_
  rw [← hR.1] at e1 z1 o1
  have hra := (hK.2.1 t (by omega)).2
  rw [hty] at hNm e1
  have hcA : cA = G.2.1 t := by
    have h2 : s.vm.findClass ("[" ++ (zty t).toString) = some (G.2.1 t) := by
      rcases (show t = 0 ∨ t = 1 ∨ t = 2 by omega) with rfl | rfl | rfl <;> exact hra
    exact Option.some.inj (hNm.symm.trans h2)
  have hde : defaultValue (zty t) = .int 0 := by
    rcases (show t = 0 ∨ t = 1 ∨ t = 2 by omega) with rfl | rfl | rfl <;> rfl
  subst hcA
  exact kk C H1 locs ls (hR.nw (by show H1[H.size]? = some (vp_cell _ _); rw [e1, hde]; rfl) z1 o1) ⟨Nat.le_trans hS.1 (by omega), fun x h1 h2 => (o1 x (Nat.lt_of_lt_of_le h1 hS.1)).trans (hS.2.1 x h1 h2), hS.2.2⟩ hlv
theorem zr_newq {t N : Nat} {n : Int32} (ht : t < 12) (hty : zty t = .object (zoc t)) (hl : Cond.classLink F.2.1 ix (zoc t) ∈ zt) (hn : ¬ n < 0) (hN : n.toNatClampNeg = N) (hby : N * 4 ≤ 536870912) (hm1 : kc + 1 ≤ F.2.2.2.2.1) (hm2 : ks + N ≤ F.2.2.2.2.2.1) (dg : decode cc pc = .ok (.anewarray ix, 3))
    (kk : zz K cc F (kc + 1) (ks + N) (pc + 3) lv (.ref μ.2.1 :: st) (zm_nw μ (.inl (t, N, .inr (.inr (.inr (.inr (fun _ => none)))))))) : zz K cc F kc ks pc lv (.int n :: st) μ := by
  obtain ⟨p, l, e, s, m, args, below, meth, c, G⟩ := K
  obtain ⟨nL, own, rt0, d0, mc, ms, rv, μ'⟩ := F
  intro C H locs ls hR hS hlv
  obtain ⟨hx, hb, hml, hown, hts, hr, hlk, hK⟩ := id C
  subst hN
  refine W.anew hx hb hown (hts _ hl) (va_AO.use (hK.2.2.1 t)) rfl dg rfl hn hby hm1 hm2 fun cA kA comp f1 f2 f3 f4 => ?_
  generalize hH1 : H.push ({ cls := cA, slots := Array.replicate n.toNatClampNeg .null, vm := .none } : Cell) = H1
  have z1 : H1.size = H.size + 1 := by rw [← hH1, Array.size_push]
  have e1 : H1[H.size]? = some (arrV cA n.toNatClampNeg (fun _ => .null)) := by rw [← hH1, Array.getElem?_push_size, ← arrV_new]
  have o1 : ∀ q : Nat, q < H.size → H1[q]? = H[q]? := fun q hq => by rw [← hH1, Array.getElem?_push, if_neg (Nat.ne_of_lt hq)]
  have hra := (hK.2.1 t ht).2
  rw [hty] at hra
  obtain ⟨_, _, _, _, _, k4⟩ := hra
  have hcA : cA = G.2.1 t := Option.some.inj (f1.symm.trans k4)
  subst hcA
  have := kk C H1 locs ls (hR.nw (by show H1[H.size]? = some (vp_cell _ _); rw [e1]; rfl) z1 o1) ⟨Nat.le_trans hS.1 (by omega), fun x h1 h2 => (o1 x (Nat.lt_of_lt_of_le h1 hS.1)).trans (hS.2.1 x h1 h2), hS.2.2⟩ hlv
  rw [← hR.1] at this
  exact this
theorem zr_mmax {x z : Int32} (hl : Cond.methodLink F.2.1 ix Lib.Math.max.name ∈ zt) (h2 : Cond.static Lib.Math.max.name ∈ zt) (h3 : Cond.initialized "java/lang/Math" ∈ zt) (h4 : Cond.code Lib.Math.max.name Lib.Math.max.code 2 (some .int) ∈ zt) (hd : 1 ≤ F.2.2.2.1) (hm1 : kc ≤ F.2.2.2.2.1) (hm2 : ks ≤ F.2.2.2.2.2.1) (hst : (st.map fun v => v.category).sum ≤ 8) (dg : decode cc pc = .ok (.invokestatic ix, 3)) (kk : zz K cc F kc ks (pc + 3) lv (.int (if x < z then z else x) :: st) μ) : zz K cc F kc ks pc lv (.int z :: .int x :: st) μ := by
  obtain ⟨p, l, e, s, m, args, below, meth, c, G⟩ := K
  obtain ⟨nL, own, rt0, d0, mc, ms, rv, μ'⟩ := F
  intro C H locs ls hR hS hlv
  obtain ⟨hx, hb, hml, hown, hts, hr, hlk, hK⟩ := id C
  exact va_mmax hx hb (by rw [hml]; exact hlv.1.symm) hown (hts _ hl) (hts _ h2) (hts _ h3) (hts _ h4) hd (by show _ ≤ 48 * d0; have : 1 ≤ d0 := hd; omega) hm1 hm2 dg (kk C H locs ls hR hS hlv)
theorem zr_mmin {x z : Int32} (hl : Cond.methodLink F.2.1 ix Lib.Math.min.name ∈ zt) (h2 : Cond.static Lib.Math.min.name ∈ zt) (h3 : Cond.initialized "java/lang/Math" ∈ zt) (h4 : Cond.code Lib.Math.min.name Lib.Math.min.code 2 (some .int) ∈ zt) (hd : 1 ≤ F.2.2.2.1) (hm1 : kc ≤ F.2.2.2.2.1) (hm2 : ks ≤ F.2.2.2.2.2.1) (hst : (st.map fun v => v.category).sum ≤ 8) (dg : decode cc pc = .ok (.invokestatic ix, 3)) (kk : zz K cc F kc ks (pc + 3) lv (.int (if z < x then z else x) :: st) μ) : zz K cc F kc ks pc lv (.int z :: .int x :: st) μ := by
  obtain ⟨p, l, e, s, m, args, below, meth, c, G⟩ := K
  obtain ⟨nL, own, rt0, d0, mc, ms, rv, μ'⟩ := F
  intro C H locs ls hR hS hlv
  obtain ⟨hx, hb, hml, hown, hts, hr, hlk, hK⟩ := id C
  exact va_mmin hx hb (by rw [hml]; exact hlv.1.symm) hown (hts _ hl) (hts _ h2) (hts _ h3) (hts _ h4) hd (by show _ ≤ 48 * d0; have : 1 ≤ d0 := hd; omega) hm1 hm2 dg (kk C H locs ls hR hS hlv)
theorem zr_mabs {x : Int32} (hl : Cond.methodLink F.2.1 ix Lib.Math.abs.name ∈ zt) (h2 : Cond.static Lib.Math.abs.name ∈ zt) (h3 : Cond.initialized "java/lang/Math" ∈ zt) (h4 : Cond.code Lib.Math.abs.name Lib.Math.abs.code 1 (some .int) ∈ zt) (hd : 1 ≤ F.2.2.2.1) (hm1 : kc ≤ F.2.2.2.2.1) (hm2 : ks ≤ F.2.2.2.2.2.1) (hst : (st.map fun v => v.category).sum ≤ 8) (dg : decode cc pc = .ok (.invokestatic ix, 3)) (kk : zz K cc F kc ks (pc + 3) lv (.int (if 0 ≤ x then x else 0 - x) :: st) μ) : zz K cc F kc ks pc lv (.int x :: st) μ := by
  obtain ⟨p, l, e, s, m, args, below, meth, c, G⟩ := K
  obtain ⟨nL, own, rt0, d0, mc, ms, rv, μ'⟩ := F
  intro C H locs ls hR hS hlv
  obtain ⟨hx, hb, hml, hown, hts, hr, hlk, hK⟩ := id C
  exact va_mabs hx hb (by rw [hml]; exact hlv.1.symm) hown (hts _ hl) (hts _ h2) (hts _ h3) (hts _ h4) hd (by show _ ≤ 48 * d0; have : 1 ≤ d0 := hd; omega) hm1 hm2 dg (kk C H locs ls hR hS hlv)
end
end
section
/-! static rows of a nest mate; arraycopy; an array's clone -/
def zm_cpy (μ : zM) (t a0 : Nat) (sp : Int32) (a1 : Nat) (dp n : Int32) : Option zM := match μ.1 a0, μ.1 a1 with
  | some (.inl (u0, n0, .inl f)), some (.inl (u1, n1, .inl g)) => if u0 = t ∧ u1 = t ∧ ¬ sp < 0 ∧ ¬ dp < 0 ∧ ¬ n < 0 ∧ sp.toNatClampNeg + n.toNatClampNeg ≤ n0 ∧ dp.toNatClampNeg + n.toNatClampNeg ≤ n1 ∧ (List.range n.toNatClampNeg).all (fun i => fits (zty t) (.int (f (sp.toNatClampNeg + i)))) = true then some (zm_up μ a1 (.inl (t, n1, .inl (va_cpy f g sp.toNatClampNeg dp.toNatClampNeg n.toNatClampNeg)))) else none
  | _, _ => none
theorem zm_cpy_some {μ μ1 : zM} {t a0 a1 : Nat} {sp dp n : Int32} (h : zm_cpy μ t a0 sp a1 dp n = some μ1) : ∃ n0 f n1 g, μ.1 a0 = some (.inl (t, n0, .inl f)) ∧ μ.1 a1 = some (.inl (t, n1, .inl g)) ∧ ¬ sp < 0 ∧ ¬ dp < 0 ∧ ¬ n < 0 ∧ sp.toNatClampNeg + n.toNatClampNeg ≤ n0 ∧ dp.toNatClampNeg + n.toNatClampNeg ≤ n1 ∧ (∀ i, i < n.toNatClampNeg → fits (zty t) (.int (f (sp.toNatClampNeg + i))) = true) ∧ μ1 = zm_up μ a1 (.inl (t, n1, .inl (va_cpy f g sp.toNatClampNeg dp.toNatClampNeg n.toNatClampNeg))) := by
  unfold zm_cpy at h
  split at h
  · next u0 n0 f u1 n1 g e0 e1 =>
    split at h
    · next hc =>
      obtain ⟨rfl, rfl, h1, h2, h3, h4, h5, h6⟩ := hc
      cases h
      exact ⟨n0, f, n1, g, e0, e1, h1, h2, h3, h4, h5, fun i hi => List.all_eq_true.mp h6 i (List.mem_range.mpr hi), rfl⟩
    · cases h
  · cases h
def zm_cl (μ : zM) (a N : Nat) : Option zM := match μ.1 a with
  | some (.inl (t, n, .inl f)) => if t = 0 ∧ n = N then some (zm_nw μ (.inl (0, N, .inl f))) else none
  | _ => none
theorem zm_cl_some {μ μ1 : zM} {a N : Nat} (h : zm_cl μ a N = some μ1) : ∃ f, μ.1 a = some (.inl (0, N, .inl f)) ∧ μ1 = zm_nw μ (.inl (0, N, .inl f)) := by
  unfold zm_cl at h
  split at h
  · next t n f e =>
    split at h
    · next hc => obtain ⟨rfl, rfl⟩ := hc; cases h; exact ⟨f, e, rfl⟩
    · cases h
  · cases h
section
variable {K : zKT} {cc : ByteArray} {F : zFT} {kc ks pc ix : Nat} {lv : List (Nat × Value)} {st : List Value} {μ μ1 : zM}
theorem zr_getsN {k : Nat} {host : String} (hk : k < 5) (hl : Cond.fieldLinkNest F.2.1 ix (zsn k).1 (zsn k).2 "[I" host ∈ zn) (dg : decode cc pc = .ok (.getstatic ix, 3)) (kk : zz K cc F kc ks (pc + 3) lv (.ref (μ.2.2 k) :: st) μ) : zz K cc F kc ks pc lv st μ := by
  obtain ⟨p, l, e, s, m, args, below, meth, c, G⟩ := K
  obtain ⟨nL, own, rt, d0, mc, ms, rv, μ'⟩ := F
  intro C H locs ls hR hS hlv
  obtain ⟨hx, hb, hml, hown, hts, hr, hlk, hK⟩ := id C
  obtain ⟨cf, kf, fi, f, a, cell, h1, h2, h3, h4, h5, h6, h7, h8⟩ := hR.2.2.2 k hk
  exact va_WgetsN hx hb hown (va_Nw.use (A := args) rfl (hK.2.2.2 _ hl)) h1 h2 h3 h4 h5 (fun e => by rw [e] at h6; cases h6) h7 rfl dg (kk C H locs ls hR hS hlv)
theorem zr_cpy {t a0 a1 : Nat} {sp dp n : Int32} (hv : zm_cpy μ t a0 sp a1 dp n = some μ1) (ht : t < 3) (hl : Cond.methodLink F.2.1 ix arraycopyName ∈ zt) (h2 : Cond.native arraycopyName ∈ zt) (h3 : Cond.static arraycopyName ∈ zt) (h4 : Cond.initialized "java/lang/System" ∈ zt) (hd : 1 ≤ F.2.2.2.1) (hst : (st.map fun v => v.category).sum ≤ 8) (dg : decode cc pc = .ok (.invokestatic ix, 3)) (kk : zz K cc F kc ks (pc + 3) lv st μ1) : zz K cc F kc ks pc lv (.int n :: .int dp :: .ref a1 :: .int sp :: .ref a0 :: st) μ := by
  obtain ⟨p, l, e, s, m, args, below, meth, c, G⟩ := K
  obtain ⟨nL, own, rt, d0, mc, ms, rv, μ'⟩ := F
  intro C H locs ls hR hS hlv
  obtain ⟨hx, hb, hml, hown, hts, hr, hlk, hK⟩ := id C
  obtain ⟨n0, f, n1, g, e0, e1, g1, g2, g3, g4, g5, hfit, rfl⟩ := zm_cpy_some hv
  have hbase : G.2.2 ≤ a1 := (hR.2.2.1 a1 _ e1).2 (by simp [zrw]; omega)
  have nn : ∀ z : Int32, ¬ z < 0 → z.toInt = (z.toNatClampNeg : Int) := by
    intro z hz
    have hz0 : (0 : Int) ≤ z.toInt := by
      have := Int32.not_lt.mp hz
      simpa using Int32.le_iff_toInt_le.mp this
    show z.toInt = ((z.toInt.toNat : Nat) : Int)
    omega
  have hprim : refKind (zty t) = false := by
    rcases (show t = 0 ∨ t = 1 ∨ t = 2 by omega) with rfl | rfl | rfl <;> rfl
  have hnw : nativeFrameWords "java/lang/System" "arraycopy" 5 ≤ 25 := by decide +kernel
  intro T hT X
  have hc0 : H[a0]? = some (vp_cell (G.2.1 t) (n0, .inl f)) := (hR.2.2.1 a0 _ e0).1
  have hc1 : H[a1]? = some (vp_cell (G.2.1 t) (n1, .inl g)) := (hR.2.2.1 a1 _ e1).1
  obtain ⟨-, k0, hk0, cm0, hkk0⟩ := (hK.2.1 t (by omega)).1 n0 (fun j => .int (f j))
  obtain ⟨-, k1, hk1, cm1, hkk1⟩ := (hK.2.1 t (by omega)).1 n1 (fun j => .int (g j))
  obtain ⟨vm', X', step⟩ := X.arraycopy hx hown (hts _ hl) (hts _ h2) (hts _ h3) (hts _ h4) (src := a0) (dst := a1) (cs := vp_cell (G.2.1 t) (n0, .inl f)) (cd := vp_cell (G.2.1 t) (n1, .inl g)) (srcPos := sp) (destPos := dp) (n := n) (by rw [hT]; exact hc0) (by rw [hT]; exact hc1)
    (fun _ h => by cases h) (fun _ h => by cases h) (fun h => by cases h) (fun h => by cases h) hk0 hk1 hkk0 hkk1 (by simp [hprim]) g1 g2 g3
    (by rw [nn sp g1, nn n g3]; show ¬ _ > ((arrV (G.2.1 t) n0 (fun j => .int (f j))).slots.size : Int); rw [arrV_size]; omega)
    (by rw [nn dp g2, nn n g3]; show ¬ _ > ((arrV (G.2.1 t) n1 (fun j => .int (g j))).slots.size : Int); rw [arrV_size]; omega)
    (fun vm₁ _ i hi => by
      have e : (vp_cell (G.2.1 t) (n0, .inl f)).slots.getD (sp.toNatClampNeg + i) .null = .int (f (sp.toNatClampNeg + i)) := by
        show (arrV (G.2.1 t) n0 (fun j => .int (f j))).slots.getD _ _ = _
        rw [Array.getD_eq_getD_getElem?, arrV_read _ _ (by omega)]
        rfl
      refine ⟨?_, ?_⟩
      · rw [e]
        exact hfit i hi
      · rw [e]
        exact trivial)
    (g := F0 m pc ls (.int n :: .int dp :: .ref a1 :: .int sp :: .ref a0 :: st)) rfl (by rw [hml]; exact hlv.1) (rest := st) rfl (by rw [hb]; exact dg) hd (by show 2 * 0 + _ + _ ≤ 48 * d0; have : 1 ≤ d0 := hd; omega)
  have ee : copied (vp_cell (G.2.1 t) (n0, .inl f)) (vp_cell (G.2.1 t) (n1, .inl g)) sp dp n = vp_cell (G.2.1 t) (n1, .inl (va_cpy f g sp.toNatClampNeg dp.toNatClampNeg n.toNatClampNeg)) := va_copied (fun z => .int z) (G.2.1 t) (G.2.1 t) f g g4
  rw [ee] at X' step
  have hlt : a1 < H.size := (Array.getElem?_eq_some_iff.mp hc1).1
  have hheap : ((T.setVm vm').setCell a1 (vp_cell (G.2.1 t) (n1, .inl (va_cpy f g sp.toNatClampNeg dp.toNatClampNeg n.toNatClampNeg)))).heap = H.setIfInBounds a1 (vp_cell (G.2.1 t) (n1, .inl (va_cpy f g sp.toNatClampNeg dp.toNatClampNeg n.toNatClampNeg))) := by rw [← hT]; rfl
  have oq : ∀ q : Nat, q ≠ a1 → (H.setIfInBounds a1 (vp_cell (G.2.1 t) (n1, .inl (va_cpy f g sp.toNatClampNeg dp.toNatClampNeg n.toNatClampNeg))))[q]? = H[q]? := fun q hq => by simp [Array.getElem?_setIfInBounds, Ne.symm hq]
  obtain ⟨t', b1, b2⟩ := kk C _ _ ls (hR.up (e := .inl (t, n1, .inl (va_cpy f g sp.toNatClampNeg dp.toNatClampNeg n.toNatClampNeg))) hbase (show (H.setIfInBounds a1 _)[a1]? = some _ by simp [Array.getElem?_setIfInBounds, hlt]) (by simp) oq) ⟨by simp; exact hS.1, fun q j1 j2 => by
      rw [oq q (fun e => j2 (by rw [e]; exact hbase))]
      exact hS.2.1 q j1 j2, fun q hq => by
      rcases List.mem_append.mp hq with h | h
      · exact hS.2.2 q h
      · obtain ⟨z, -, hz⟩ := List.mem_map.mp h
        rw [← hz]
        exact hbase⟩ hlv _ hheap X'
  exact ⟨t', step t' b1, b2⟩
theorem zr_clone {a N : Nat} (hv : zm_cl μ a N = some μ1) (hl : Cond.methodLink F.2.1 ix ⟨"[I", "clone", "()Ljava/lang/Object;"⟩ ∈ zt) (h1 : Cond.sameMethod "[I" "java/lang/Object" "clone" "()Ljava/lang/Object;" ∈ zt) (h2 : Cond.native ⟨"java/lang/Object", "clone", "()Ljava/lang/Object;"⟩ ∈ zt) (h3 : Cond.instanceMethod ⟨"java/lang/Object", "clone", "()Ljava/lang/Object;"⟩ ∈ zt) (h4 : Cond.selects "[I" ⟨"[I", "clone", "()Ljava/lang/Object;"⟩ ⟨"java/lang/Object", "clone", "()Ljava/lang/Object;"⟩ ∈ zt) (h5 : Cond.castable "[I" "java/lang/Cloneable" ∈ zt) (hd : 1 ≤ F.2.2.2.1) (hst : (st.map fun v => v.category).sum ≤ 8) (hm1 : kc + 1 ≤ F.2.2.2.2.1) (hm2 : ks + N ≤ F.2.2.2.2.2.1) (dg : decode cc pc = .ok (.invokevirtual ix, 3)) (kk : zz K cc F (kc + 1) (ks + N) (pc + 3) lv (.ref μ.2.1 :: st) μ1) : zz K cc F kc ks pc lv (.ref a :: st) μ := by
  obtain ⟨p, l, e, s, m, args, below, meth, c, G⟩ := K
  obtain ⟨nL, own, rt, d0, mc, ms, rv, μ'⟩ := F
  intro C H locs ls hR hS hlv
  obtain ⟨hx, hb, hml, hown, hts, hr, hlk, hK⟩ := id C
  obtain ⟨f, e0, rfl⟩ := zm_cl_some hv
  have hnm : s.vm.findClass "[I" = some (G.2.1 0) := (hK.2.1 0 (by omega)).2
  have hcell : H[a]? = some (vp_cell (G.2.1 0) (N, .inl f)) := (hR.2.2.1 a _ e0).1
  have hsz : (vp_cell (G.2.1 0) (N, .inl f)).slots.size = N := arrV_size _ _ _
  obtain ⟨c0, t0', f1, f2, f3⟩ := Cond.castable_spec (hts _ h5)
  cases hnm.symm.trans f1
  intro T hT X
  have hcellT : T.heap[a]? = some (vp_cell (G.2.1 0) (N, .inl f)) := by rw [hT]; exact hcell
  obtain ⟨-, kA, hkA, comp, hkind⟩ := State.isArrayOf_alike X.warmed.alike ((hK.2.1 0 (by omega)).1 0 (fun _ => .null))
  obtain ⟨-, kS, hkS, compS, hkindS⟩ := (hK.2.1 0 (by omega)).1 0 (fun _ => .null)
  obtain ⟨vm', X', stp⟩ := X.cloneArray hx hown (hts _ hl) (hts _ h1) (hts _ h2) (hts _ h3) (hts _ h4) (a := a) (cell := vp_cell (G.2.1 0) (N, .inl f)) hcellT (fun k h => by cases h) (fun h => by cases h) hnm f2 f3
    (fun i v hv => by
      have hk' : T.vm.classes[G.2.1 0]? = some kA := hkA
      have hlt : i < N := by rw [← hsz]; exact (Array.getElem?_eq_some_iff.mp hv).1
      have hv2 : v = .int (f i) := by
        have h9 : (arrV (G.2.1 0) N (fun j => .int (f j))).slots[i]? = some v := hv
        rw [arrV_read _ _ hlt] at h9
        exact (Option.some.inj h9).symm
      subst hv2
      show State.fitsSlot _ (G.2.1 0) _ _ _ = true
      simp [State.fitsSlot, State.slotType?, hk', hkind]
      rfl)
    (g := F0 m pc ls (.ref a :: st)) rfl (by rw [hml]; exact hlv.1) rfl (by rw [hb]; exact dg) hd (by show 2 * 0 + _ + 14 ≤ 48 * d0; have : 1 ≤ d0 := hd; omega) hm1 (by rw [hsz]; exact hm2) (hloader := Vm.clonesLoader_of_array hkS hkindS)
  have hcellE : ({ cls := (vp_cell (G.2.1 0) (N, .inl f)).cls, slots := (vp_cell (G.2.1 0) (N, .inl f)).slots } : Cell) = vp_cell (G.2.1 0) (N, .inl f) := rfl
  rw [hcellE, hsz] at X'
  generalize hH1 : H.push (vp_cell (G.2.1 0) (N, .inl f)) = H1
  have z1 : H1.size = H.size + 1 := by rw [← hH1, Array.size_push]
  have e1 : H1[H.size]? = some (vp_cell (G.2.1 0) (N, .inl f)) := by rw [← hH1, Array.getElem?_push_size]
  have o1 : ∀ q : Nat, q < H.size → H1[q]? = H[q]? := fun q hq => by rw [← hH1, Array.getElem?_push, if_neg (Nat.ne_of_lt hq)]
  have k2 := kk C H1 locs ls (hR.nw e1 z1 o1) ⟨Nat.le_trans hS.1 (by omega), fun x h1 h2 => (o1 x (Nat.lt_of_lt_of_le h1 hS.1)).trans (hS.2.1 x h1 h2), hS.2.2⟩ hlv
  rw [← hR.1] at k2
  obtain ⟨t, b1, b2⟩ := k2 ((T.setVm vm').pushCell (vp_cell (G.2.1 0) (N, .inl f))) (by rw [← hH1, ← hT]; rfl) X'
  refine ⟨t, stp t ?_, b2⟩
  rw [hcellE, hT]
  exact b1
theorem zr_castA {a N : Nat} {f : Nat → Int32} (hv : μ.1 a = some (.inl (0, N, .inl f))) (hl : Cond.classLink F.2.1 ix "[I" ∈ zt) (dg : decode cc pc = .ok (.checkcast ix, 3)) (kk : zz K cc F kc ks (pc + 3) lv (.ref a :: st) μ) : zz K cc F kc ks pc lv (.ref a :: st) μ := by
  obtain ⟨p, l, e, s, m, args, below, meth, c, G⟩ := K
  obtain ⟨nL, own, rt, d0, mc, ms, rv, μ'⟩ := F
  intro C H locs ls hR hS hlv
  obtain ⟨hx, hb, hml, hown, hts, hr, hlk, hK⟩ := id C
  exact va_castA (D := G.1) hx hb hown (hts _ hl) (hR.at hv) 0 rfl (hK.2.1 0 (by omega)).2 dg (kk C H locs ls hR hS hlv)
end
end
