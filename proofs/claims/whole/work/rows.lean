section
-- ===== PART A: goes FIRST, ahead of the names: the tables' words, and 'selects' of the private methods out of them =====
/-- a private method of a class that the tables say can be made, by its rows of tables_1 -/
def lw_okq (q : MethodName × Nat) : Prop := (q.1.cls ≠ "java/lang/invoke/MethodHandle" ∧ q.1.cls ≠ "java/lang/invoke/VarHandle") ∧ Cond.instantiable q.1.cls q.2 ∈ tables_1 ∧ Cond.privateMethod q.1 ∈ tables_1 ∧ Cond.instanceMethod q.1 ∈ tables_1
theorem lw_p0 : lw_okq (⟨"RankChecker$Reader", "readPart", "(I)V"⟩, 10) := ⟨⟨by decide +kernel, by decide +kernel⟩, List.mem_of_getElem? (i := 232) (by decide +kernel), List.mem_of_getElem? (i := 530) (by decide +kernel), List.mem_of_getElem? (i := 531) (by decide +kernel)⟩
theorem lw_p1 : lw_okq (⟨"RankChecker$Reader", "nextSign", "()I"⟩, 10) := ⟨⟨by decide +kernel, by decide +kernel⟩, List.mem_of_getElem? (i := 232) (by decide +kernel), List.mem_of_getElem? (i := 534) (by decide +kernel), List.mem_of_getElem? (i := 535) (by decide +kernel)⟩
theorem lw_p2 : lw_okq (⟨"RankChecker$Reader", "refuse", "()V"⟩, 10) := ⟨⟨by decide +kernel, by decide +kernel⟩, List.mem_of_getElem? (i := 232) (by decide +kernel), List.mem_of_getElem? (i := 547) (by decide +kernel), List.mem_of_getElem? (i := 548) (by decide +kernel)⟩
theorem lw_p3 : lw_okq (⟨"RankChecker$Reader", "readHead", "(III)V"⟩, 10) := ⟨⟨by decide +kernel, by decide +kernel⟩, List.mem_of_getElem? (i := 232) (by decide +kernel), List.mem_of_getElem? (i := 555) (by decide +kernel), List.mem_of_getElem? (i := 556) (by decide +kernel)⟩
theorem lw_p4 : lw_okq (⟨"RankChecker$Reader", "readNumber", "()I"⟩, 10) := ⟨⟨by decide +kernel, by decide +kernel⟩, List.mem_of_getElem? (i := 232) (by decide +kernel), List.mem_of_getElem? (i := 559) (by decide +kernel), List.mem_of_getElem? (i := 560) (by decide +kernel)⟩
theorem lw_p5 : lw_okq (⟨"RankChecker$Reader", "here", "()I"⟩, 10) := ⟨⟨by decide +kernel, by decide +kernel⟩, List.mem_of_getElem? (i := 232) (by decide +kernel), List.mem_of_getElem? (i := 563) (by decide +kernel), List.mem_of_getElem? (i := 564) (by decide +kernel)⟩
theorem lw_p6 : lw_okq (⟨"RankChecker$Term", "has", "(I)Z"⟩, 9) := ⟨⟨by decide +kernel, by decide +kernel⟩, List.mem_of_getElem? (i := 29) (by decide +kernel), List.mem_of_getElem? (i := 571) (by decide +kernel), List.mem_of_getElem? (i := 572) (by decide +kernel)⟩
theorem lw_p7 : lw_okq (⟨"RankChecker$Reader", "readLetter", "()I"⟩, 10) := ⟨⟨by decide +kernel, by decide +kernel⟩, List.mem_of_getElem? (i := 232) (by decide +kernel), List.mem_of_getElem? (i := 575) (by decide +kernel), List.mem_of_getElem? (i := 576) (by decide +kernel)⟩
theorem lw_p8 : lw_okq (⟨"RankChecker$Reader", "readType", "(I)V"⟩, 10) := ⟨⟨by decide +kernel, by decide +kernel⟩, List.mem_of_getElem? (i := 232) (by decide +kernel), List.mem_of_getElem? (i := 590) (by decide +kernel), List.mem_of_getElem? (i := 591) (by decide +kernel)⟩
theorem lw_p9 : lw_okq (⟨"RankChecker$Reader", "readTypePart", "(I)V"⟩, 10) := ⟨⟨by decide +kernel, by decide +kernel⟩, List.mem_of_getElem? (i := 232) (by decide +kernel), List.mem_of_getElem? (i := 594) (by decide +kernel), List.mem_of_getElem? (i := 595) (by decide +kernel)⟩
theorem lw_p10 : lw_okq (⟨"RankChecker$Reader", "readLeaf", "(I)V"⟩, 10) := ⟨⟨by decide +kernel, by decide +kernel⟩, List.mem_of_getElem? (i := 232) (by decide +kernel), List.mem_of_getElem? (i := 598) (by decide +kernel), List.mem_of_getElem? (i := 599) (by decide +kernel)⟩
theorem lw_p11 : lw_okq (⟨"RankChecker$Reader", "readTwo", "(II)V"⟩, 10) := ⟨⟨by decide +kernel, by decide +kernel⟩, List.mem_of_getElem? (i := 232) (by decide +kernel), List.mem_of_getElem? (i := 606) (by decide +kernel), List.mem_of_getElem? (i := 607) (by decide +kernel)⟩
theorem lw_p12 : lw_okq (⟨"RankChecker$Reader", "readAll", "(I)V"⟩, 10) := ⟨⟨by decide +kernel, by decide +kernel⟩, List.mem_of_getElem? (i := 232) (by decide +kernel), List.mem_of_getElem? (i := 610) (by decide +kernel), List.mem_of_getElem? (i := 611) (by decide +kernel)⟩
theorem lw_p13 : lw_okq (⟨"RankChecker$Reader", "readVariable", "(I)V"⟩, 10) := ⟨⟨by decide +kernel, by decide +kernel⟩, List.mem_of_getElem? (i := 232) (by decide +kernel), List.mem_of_getElem? (i := 617) (by decide +kernel), List.mem_of_getElem? (i := 618) (by decide +kernel)⟩
theorem lw_p14 : lw_okq (⟨"RankChecker$Reader", "readEnd", "()V"⟩, 10) := ⟨⟨by decide +kernel, by decide +kernel⟩, List.mem_of_getElem? (i := 232) (by decide +kernel), List.mem_of_getElem? (i := 621) (by decide +kernel), List.mem_of_getElem? (i := 622) (by decide +kernel)⟩
theorem lw_p15 : lw_okq (⟨"RankChecker$Judge", "start", "(LRankChecker$Judgement;ZI)V"⟩, 10) := ⟨⟨by decide +kernel, by decide +kernel⟩, List.mem_of_getElem? (i := 274) (by decide +kernel), List.mem_of_getElem? (i := 638) (by decide +kernel), List.mem_of_getElem? (i := 639) (by decide +kernel)⟩
def lw_privs_1 : List (MethodName × Nat) := [(⟨"RankChecker$Reader", "readPart", "(I)V"⟩, 10), (⟨"RankChecker$Reader", "nextSign", "()I"⟩, 10), (⟨"RankChecker$Reader", "refuse", "()V"⟩, 10), (⟨"RankChecker$Reader", "readHead", "(III)V"⟩, 10), (⟨"RankChecker$Reader", "readNumber", "()I"⟩, 10), (⟨"RankChecker$Reader", "here", "()I"⟩, 10), (⟨"RankChecker$Term", "has", "(I)Z"⟩, 9), (⟨"RankChecker$Reader", "readLetter", "()I"⟩, 10), (⟨"RankChecker$Reader", "readType", "(I)V"⟩, 10), (⟨"RankChecker$Reader", "readTypePart", "(I)V"⟩, 10), (⟨"RankChecker$Reader", "readLeaf", "(I)V"⟩, 10), (⟨"RankChecker$Reader", "readTwo", "(II)V"⟩, 10), (⟨"RankChecker$Reader", "readAll", "(I)V"⟩, 10), (⟨"RankChecker$Reader", "readVariable", "(I)V"⟩, 10), (⟨"RankChecker$Reader", "readEnd", "()V"⟩, 10), (⟨"RankChecker$Judge", "start", "(LRankChecker$Judgement;ZI)V"⟩, 10)]
theorem lw_r1 : ∀ q ∈ lw_privs_1, lw_okq q := List.forall_mem_cons.mpr ⟨lw_p0, List.forall_mem_cons.mpr ⟨lw_p1, List.forall_mem_cons.mpr ⟨lw_p2, List.forall_mem_cons.mpr ⟨lw_p3, List.forall_mem_cons.mpr ⟨lw_p4, List.forall_mem_cons.mpr ⟨lw_p5, List.forall_mem_cons.mpr ⟨lw_p6, List.forall_mem_cons.mpr ⟨lw_p7, List.forall_mem_cons.mpr ⟨lw_p8, List.forall_mem_cons.mpr ⟨lw_p9, List.forall_mem_cons.mpr ⟨lw_p10, List.forall_mem_cons.mpr ⟨lw_p11, List.forall_mem_cons.mpr ⟨lw_p12, List.forall_mem_cons.mpr ⟨lw_p13, List.forall_mem_cons.mpr ⟨lw_p14, List.forall_mem_cons.mpr ⟨lw_p15, fun _ h => absurd h List.not_mem_nil⟩⟩⟩⟩⟩⟩⟩⟩⟩⟩⟩⟩⟩⟩⟩⟩
theorem lw_p16 : lw_okq (⟨"RankChecker$Context", "put", "(IIII)V"⟩, 10) := ⟨⟨by decide +kernel, by decide +kernel⟩, List.mem_of_getElem? (i := 138) (by decide +kernel), List.mem_of_getElem? (i := 669) (by decide +kernel), List.mem_of_getElem? (i := 670) (by decide +kernel)⟩
theorem lw_p17 : lw_okq (⟨"RankChecker$Term", "standsFor", "(I)I"⟩, 9) := ⟨⟨by decide +kernel, by decide +kernel⟩, List.mem_of_getElem? (i := 29) (by decide +kernel), List.mem_of_getElem? (i := 677) (by decide +kernel), List.mem_of_getElem? (i := 678) (by decide +kernel)⟩
theorem lw_p18 : lw_okq (⟨"RankChecker$Judge", "begin", "()V"⟩, 10) := ⟨⟨by decide +kernel, by decide +kernel⟩, List.mem_of_getElem? (i := 274) (by decide +kernel), List.mem_of_getElem? (i := 694) (by decide +kernel), List.mem_of_getElem? (i := 695) (by decide +kernel)⟩
theorem lw_p19 : lw_okq (⟨"RankChecker$Judge", "takeTypes", "()Z"⟩, 10) := ⟨⟨by decide +kernel, by decide +kernel⟩, List.mem_of_getElem? (i := 274) (by decide +kernel), List.mem_of_getElem? (i := 698) (by decide +kernel), List.mem_of_getElem? (i := 699) (by decide +kernel)⟩
theorem lw_p20 : lw_okq (⟨"RankChecker$Judge", "takeHeld", "(ILRankChecker$Row;)V"⟩, 10) := ⟨⟨by decide +kernel, by decide +kernel⟩, List.mem_of_getElem? (i := 274) (by decide +kernel), List.mem_of_getElem? (i := 702) (by decide +kernel), List.mem_of_getElem? (i := 703) (by decide +kernel)⟩
theorem lw_p21 : lw_okq (⟨"RankChecker$Context", "solvedType", "(I)I"⟩, 10) := ⟨⟨by decide +kernel, by decide +kernel⟩, List.mem_of_getElem? (i := 138) (by decide +kernel), List.mem_of_getElem? (i := 715) (by decide +kernel), List.mem_of_getElem? (i := 716) (by decide +kernel)⟩
theorem lw_p22 : lw_okq (⟨"RankChecker$Context", "placeOf", "(II)I"⟩, 10) := ⟨⟨by decide +kernel, by decide +kernel⟩, List.mem_of_getElem? (i := 138) (by decide +kernel), List.mem_of_getElem? (i := 725) (by decide +kernel), List.mem_of_getElem? (i := 726) (by decide +kernel)⟩
theorem lw_p23 : lw_okq (⟨"RankChecker$Term", "isWrapping", "(I)Z"⟩, 9) := ⟨⟨by decide +kernel, by decide +kernel⟩, List.mem_of_getElem? (i := 29) (by decide +kernel), List.mem_of_getElem? (i := 739) (by decide +kernel), List.mem_of_getElem? (i := 740) (by decide +kernel)⟩
theorem lw_p24 : lw_okq (⟨"RankChecker$Judge", "check", "(I)I"⟩, 10) := ⟨⟨by decide +kernel, by decide +kernel⟩, List.mem_of_getElem? (i := 274) (by decide +kernel), List.mem_of_getElem? (i := 750) (by decide +kernel), List.mem_of_getElem? (i := 751) (by decide +kernel)⟩
theorem lw_p25 : lw_okq (⟨"RankChecker$Judge", "checkAll", "(I)I"⟩, 10) := ⟨⟨by decide +kernel, by decide +kernel⟩, List.mem_of_getElem? (i := 274) (by decide +kernel), List.mem_of_getElem? (i := 763) (by decide +kernel), List.mem_of_getElem? (i := 764) (by decide +kernel)⟩
theorem lw_p26 : lw_okq (⟨"RankChecker$Judge", "openConstant", "(LRankChecker$Row;)V"⟩, 10) := ⟨⟨by decide +kernel, by decide +kernel⟩, List.mem_of_getElem? (i := 274) (by decide +kernel), List.mem_of_getElem? (i := 767) (by decide +kernel), List.mem_of_getElem? (i := 768) (by decide +kernel)⟩
theorem lw_p27 : lw_okq (⟨"RankChecker$Judge", "pushCut", "(II)V"⟩, 10) := ⟨⟨by decide +kernel, by decide +kernel⟩, List.mem_of_getElem? (i := 274) (by decide +kernel), List.mem_of_getElem? (i := 783) (by decide +kernel), List.mem_of_getElem? (i := 784) (by decide +kernel)⟩
theorem lw_p28 : lw_okq (⟨"RankChecker$Judge", "hold", "(LRankChecker$Row;)I"⟩, 10) := ⟨⟨by decide +kernel, by decide +kernel⟩, List.mem_of_getElem? (i := 274) (by decide +kernel), List.mem_of_getElem? (i := 787) (by decide +kernel), List.mem_of_getElem? (i := 788) (by decide +kernel)⟩
theorem lw_p29 : lw_okq (⟨"RankChecker$Judge", "pushCheck", "(II)V"⟩, 10) := ⟨⟨by decide +kernel, by decide +kernel⟩, List.mem_of_getElem? (i := 274) (by decide +kernel), List.mem_of_getElem? (i := 792) (by decide +kernel), List.mem_of_getElem? (i := 793) (by decide +kernel)⟩
theorem lw_p30 : lw_okq (⟨"RankChecker$Judge", "checkFunction", "(I)I"⟩, 10) := ⟨⟨by decide +kernel, by decide +kernel⟩, List.mem_of_getElem? (i := 274) (by decide +kernel), List.mem_of_getElem? (i := 800) (by decide +kernel), List.mem_of_getElem? (i := 801) (by decide +kernel)⟩
theorem lw_p31 : lw_okq (⟨"RankChecker$Judge", "checkInferred", "(I)I"⟩, 10) := ⟨⟨by decide +kernel, by decide +kernel⟩, List.mem_of_getElem? (i := 274) (by decide +kernel), List.mem_of_getElem? (i := 819) (by decide +kernel), List.mem_of_getElem? (i := 820) (by decide +kernel)⟩
def lw_privs_2 : List (MethodName × Nat) := [(⟨"RankChecker$Context", "put", "(IIII)V"⟩, 10), (⟨"RankChecker$Term", "standsFor", "(I)I"⟩, 9), (⟨"RankChecker$Judge", "begin", "()V"⟩, 10), (⟨"RankChecker$Judge", "takeTypes", "()Z"⟩, 10), (⟨"RankChecker$Judge", "takeHeld", "(ILRankChecker$Row;)V"⟩, 10), (⟨"RankChecker$Context", "solvedType", "(I)I"⟩, 10), (⟨"RankChecker$Context", "placeOf", "(II)I"⟩, 10), (⟨"RankChecker$Term", "isWrapping", "(I)Z"⟩, 9), (⟨"RankChecker$Judge", "check", "(I)I"⟩, 10), (⟨"RankChecker$Judge", "checkAll", "(I)I"⟩, 10), (⟨"RankChecker$Judge", "openConstant", "(LRankChecker$Row;)V"⟩, 10), (⟨"RankChecker$Judge", "pushCut", "(II)V"⟩, 10), (⟨"RankChecker$Judge", "hold", "(LRankChecker$Row;)I"⟩, 10), (⟨"RankChecker$Judge", "pushCheck", "(II)V"⟩, 10), (⟨"RankChecker$Judge", "checkFunction", "(I)I"⟩, 10), (⟨"RankChecker$Judge", "checkInferred", "(I)I"⟩, 10)]
theorem lw_r2 : ∀ q ∈ lw_privs_2, lw_okq q := List.forall_mem_cons.mpr ⟨lw_p16, List.forall_mem_cons.mpr ⟨lw_p17, List.forall_mem_cons.mpr ⟨lw_p18, List.forall_mem_cons.mpr ⟨lw_p19, List.forall_mem_cons.mpr ⟨lw_p20, List.forall_mem_cons.mpr ⟨lw_p21, List.forall_mem_cons.mpr ⟨lw_p22, List.forall_mem_cons.mpr ⟨lw_p23, List.forall_mem_cons.mpr ⟨lw_p24, List.forall_mem_cons.mpr ⟨lw_p25, List.forall_mem_cons.mpr ⟨lw_p26, List.forall_mem_cons.mpr ⟨lw_p27, List.forall_mem_cons.mpr ⟨lw_p28, List.forall_mem_cons.mpr ⟨lw_p29, List.forall_mem_cons.mpr ⟨lw_p30, List.forall_mem_cons.mpr ⟨lw_p31, fun _ h => absurd h List.not_mem_nil⟩⟩⟩⟩⟩⟩⟩⟩⟩⟩⟩⟩⟩⟩⟩⟩
theorem lw_p32 : lw_okq (⟨"RankChecker$Judge", "pushGoOn", "(III)V"⟩, 10) := ⟨⟨by decide +kernel, by decide +kernel⟩, List.mem_of_getElem? (i := 274) (by decide +kernel), List.mem_of_getElem? (i := 823) (by decide +kernel), List.mem_of_getElem? (i := 824) (by decide +kernel)⟩
theorem lw_p33 : lw_okq (⟨"RankChecker$Judge", "pushInfer", "(I)V"⟩, 10) := ⟨⟨by decide +kernel, by decide +kernel⟩, List.mem_of_getElem? (i := 274) (by decide +kernel), List.mem_of_getElem? (i := 827) (by decide +kernel), List.mem_of_getElem? (i := 828) (by decide +kernel)⟩
theorem lw_p34 : lw_okq (⟨"RankChecker$Judge", "checkPair", "(I)I"⟩, 10) := ⟨⟨by decide +kernel, by decide +kernel⟩, List.mem_of_getElem? (i := 274) (by decide +kernel), List.mem_of_getElem? (i := 831) (by decide +kernel), List.mem_of_getElem? (i := 832) (by decide +kernel)⟩
theorem lw_p35 : lw_okq (⟨"RankChecker$Judge", "checkIf", "(I)I"⟩, 10) := ⟨⟨by decide +kernel, by decide +kernel⟩, List.mem_of_getElem? (i := 274) (by decide +kernel), List.mem_of_getElem? (i := 835) (by decide +kernel), List.mem_of_getElem? (i := 836) (by decide +kernel)⟩
theorem lw_p36 : lw_okq (⟨"RankChecker$Judge", "checkLet", "(I)I"⟩, 10) := ⟨⟨by decide +kernel, by decide +kernel⟩, List.mem_of_getElem? (i := 274) (by decide +kernel), List.mem_of_getElem? (i := 844) (by decide +kernel), List.mem_of_getElem? (i := 845) (by decide +kernel)⟩
theorem lw_p37 : lw_okq (⟨"RankChecker$Judge", "infer", "(I)I"⟩, 10) := ⟨⟨by decide +kernel, by decide +kernel⟩, List.mem_of_getElem? (i := 274) (by decide +kernel), List.mem_of_getElem? (i := 848) (by decide +kernel), List.mem_of_getElem? (i := 849) (by decide +kernel)⟩
theorem lw_p38 : lw_okq (⟨"RankChecker$Judge", "inferName", "(I)I"⟩, 10) := ⟨⟨by decide +kernel, by decide +kernel⟩, List.mem_of_getElem? (i := 274) (by decide +kernel), List.mem_of_getElem? (i := 852) (by decide +kernel), List.mem_of_getElem? (i := 853) (by decide +kernel)⟩
theorem lw_p39 : lw_okq (⟨"RankChecker$Judge", "inferSign", "(I)I"⟩, 10) := ⟨⟨by decide +kernel, by decide +kernel⟩, List.mem_of_getElem? (i := 274) (by decide +kernel), List.mem_of_getElem? (i := 864) (by decide +kernel), List.mem_of_getElem? (i := 865) (by decide +kernel)⟩
theorem lw_p40 : lw_okq (⟨"RankChecker$Judge", "inferNoted", "(I)I"⟩, 10) := ⟨⟨by decide +kernel, by decide +kernel⟩, List.mem_of_getElem? (i := 274) (by decide +kernel), List.mem_of_getElem? (i := 869) (by decide +kernel), List.mem_of_getElem? (i := 870) (by decide +kernel)⟩
theorem lw_p41 : lw_okq (⟨"RankChecker$Judge", "inferFunction", "(I)I"⟩, 10) := ⟨⟨by decide +kernel, by decide +kernel⟩, List.mem_of_getElem? (i := 274) (by decide +kernel), List.mem_of_getElem? (i := 879) (by decide +kernel), List.mem_of_getElem? (i := 880) (by decide +kernel)⟩
theorem lw_p42 : lw_okq (⟨"RankChecker$Judge", "inferLet", "(I)I"⟩, 10) := ⟨⟨by decide +kernel, by decide +kernel⟩, List.mem_of_getElem? (i := 274) (by decide +kernel), List.mem_of_getElem? (i := 893) (by decide +kernel), List.mem_of_getElem? (i := 894) (by decide +kernel)⟩
theorem lw_p43 : lw_okq (⟨"RankChecker$Judge", "inferOfNumbers", "(II)I"⟩, 10) := ⟨⟨by decide +kernel, by decide +kernel⟩, List.mem_of_getElem? (i := 274) (by decide +kernel), List.mem_of_getElem? (i := 897) (by decide +kernel), List.mem_of_getElem? (i := 898) (by decide +kernel)⟩
theorem lw_p44 : lw_okq (⟨"RankChecker$Judge", "apply", "(I)I"⟩, 10) := ⟨⟨by decide +kernel, by decide +kernel⟩, List.mem_of_getElem? (i := 274) (by decide +kernel), List.mem_of_getElem? (i := 901) (by decide +kernel), List.mem_of_getElem? (i := 902) (by decide +kernel)⟩
theorem lw_p45 : lw_okq (⟨"RankChecker$Judge", "openGuess", "(LRankChecker$Row;)I"⟩, 10) := ⟨⟨by decide +kernel, by decide +kernel⟩, List.mem_of_getElem? (i := 274) (by decide +kernel), List.mem_of_getElem? (i := 905) (by decide +kernel), List.mem_of_getElem? (i := 906) (by decide +kernel)⟩
theorem lw_p46 : lw_okq (⟨"RankChecker$Judge", "compareHeads", "()I"⟩, 10) := ⟨⟨by decide +kernel, by decide +kernel⟩, List.mem_of_getElem? (i := 274) (by decide +kernel), List.mem_of_getElem? (i := 920) (by decide +kernel), List.mem_of_getElem? (i := 921) (by decide +kernel)⟩
theorem lw_p47 : lw_okq (⟨"RankChecker$Judge", "pushBelow", "(I)V"⟩, 10) := ⟨⟨by decide +kernel, by decide +kernel⟩, List.mem_of_getElem? (i := 274) (by decide +kernel), List.mem_of_getElem? (i := 924) (by decide +kernel), List.mem_of_getElem? (i := 925) (by decide +kernel)⟩
def lw_privs_3 : List (MethodName × Nat) := [(⟨"RankChecker$Judge", "pushGoOn", "(III)V"⟩, 10), (⟨"RankChecker$Judge", "pushInfer", "(I)V"⟩, 10), (⟨"RankChecker$Judge", "checkPair", "(I)I"⟩, 10), (⟨"RankChecker$Judge", "checkIf", "(I)I"⟩, 10), (⟨"RankChecker$Judge", "checkLet", "(I)I"⟩, 10), (⟨"RankChecker$Judge", "infer", "(I)I"⟩, 10), (⟨"RankChecker$Judge", "inferName", "(I)I"⟩, 10), (⟨"RankChecker$Judge", "inferSign", "(I)I"⟩, 10), (⟨"RankChecker$Judge", "inferNoted", "(I)I"⟩, 10), (⟨"RankChecker$Judge", "inferFunction", "(I)I"⟩, 10), (⟨"RankChecker$Judge", "inferLet", "(I)I"⟩, 10), (⟨"RankChecker$Judge", "inferOfNumbers", "(II)I"⟩, 10), (⟨"RankChecker$Judge", "apply", "(I)I"⟩, 10), (⟨"RankChecker$Judge", "openGuess", "(LRankChecker$Row;)I"⟩, 10), (⟨"RankChecker$Judge", "compareHeads", "()I"⟩, 10), (⟨"RankChecker$Judge", "pushBelow", "(I)V"⟩, 10)]
theorem lw_r3 : ∀ q ∈ lw_privs_3, lw_okq q := List.forall_mem_cons.mpr ⟨lw_p32, List.forall_mem_cons.mpr ⟨lw_p33, List.forall_mem_cons.mpr ⟨lw_p34, List.forall_mem_cons.mpr ⟨lw_p35, List.forall_mem_cons.mpr ⟨lw_p36, List.forall_mem_cons.mpr ⟨lw_p37, List.forall_mem_cons.mpr ⟨lw_p38, List.forall_mem_cons.mpr ⟨lw_p39, List.forall_mem_cons.mpr ⟨lw_p40, List.forall_mem_cons.mpr ⟨lw_p41, List.forall_mem_cons.mpr ⟨lw_p42, List.forall_mem_cons.mpr ⟨lw_p43, List.forall_mem_cons.mpr ⟨lw_p44, List.forall_mem_cons.mpr ⟨lw_p45, List.forall_mem_cons.mpr ⟨lw_p46, List.forall_mem_cons.mpr ⟨lw_p47, fun _ h => absurd h List.not_mem_nil⟩⟩⟩⟩⟩⟩⟩⟩⟩⟩⟩⟩⟩⟩⟩⟩
theorem lw_p48 : lw_okq (⟨"RankChecker$Judge", "openMarked", "(LRankChecker$Row;)V"⟩, 10) := ⟨⟨by decide +kernel, by decide +kernel⟩, List.mem_of_getElem? (i := 274) (by decide +kernel), List.mem_of_getElem? (i := 928) (by decide +kernel), List.mem_of_getElem? (i := 929) (by decide +kernel)⟩
theorem lw_p49 : lw_okq (⟨"RankChecker$Judge", "compareParts", "()I"⟩, 10) := ⟨⟨by decide +kernel, by decide +kernel⟩, List.mem_of_getElem? (i := 274) (by decide +kernel), List.mem_of_getElem? (i := 940) (by decide +kernel), List.mem_of_getElem? (i := 941) (by decide +kernel)⟩
theorem lw_p50 : lw_okq (⟨"RankChecker$Judge", "solve", "(II)I"⟩, 10) := ⟨⟨by decide +kernel, by decide +kernel⟩, List.mem_of_getElem? (i := 274) (by decide +kernel), List.mem_of_getElem? (i := 944) (by decide +kernel), List.mem_of_getElem? (i := 945) (by decide +kernel)⟩
theorem lw_p51 : lw_okq (⟨"RankChecker$Context", "standsAhead", "(II)Z"⟩, 10) := ⟨⟨by decide +kernel, by decide +kernel⟩, List.mem_of_getElem? (i := 138) (by decide +kernel), List.mem_of_getElem? (i := 956) (by decide +kernel), List.mem_of_getElem? (i := 957) (by decide +kernel)⟩
theorem lw_p52 : lw_okq (⟨"RankChecker$Judge", "solveParts", "(III)V"⟩, 10) := ⟨⟨by decide +kernel, by decide +kernel⟩, List.mem_of_getElem? (i := 274) (by decide +kernel), List.mem_of_getElem? (i := 968) (by decide +kernel), List.mem_of_getElem? (i := 969) (by decide +kernel)⟩
theorem lw_p53 : lw_okq (⟨"RankChecker$Judge", "pushSolve", "(IIII)V"⟩, 10) := ⟨⟨by decide +kernel, by decide +kernel⟩, List.mem_of_getElem? (i := 274) (by decide +kernel), List.mem_of_getElem? (i := 972) (by decide +kernel), List.mem_of_getElem? (i := 973) (by decide +kernel)⟩
theorem lw_p54 : lw_okq (⟨"RankChecker$Judge", "solveAll", "(II)V"⟩, 10) := ⟨⟨by decide +kernel, by decide +kernel⟩, List.mem_of_getElem? (i := 274) (by decide +kernel), List.mem_of_getElem? (i := 976) (by decide +kernel), List.mem_of_getElem? (i := 977) (by decide +kernel)⟩
theorem lw_p55 : lw_okq (⟨"RankChecker$Judge", "fail", "()V"⟩, 10) := ⟨⟨by decide +kernel, by decide +kernel⟩, List.mem_of_getElem? (i := 274) (by decide +kernel), List.mem_of_getElem? (i := 984) (by decide +kernel), List.mem_of_getElem? (i := 985) (by decide +kernel)⟩
theorem lw_p56 : lw_okq (⟨"RankChecker$Judge", "goOn", "()V"⟩, 10) := ⟨⟨by decide +kernel, by decide +kernel⟩, List.mem_of_getElem? (i := 274) (by decide +kernel), List.mem_of_getElem? (i := 988) (by decide +kernel), List.mem_of_getElem? (i := 989) (by decide +kernel)⟩
theorem lw_p57 : lw_okq (⟨"RankChecker$Judge", "bind", "(I)V"⟩, 10) := ⟨⟨by decide +kernel, by decide +kernel⟩, List.mem_of_getElem? (i := 274) (by decide +kernel), List.mem_of_getElem? (i := 1000) (by decide +kernel), List.mem_of_getElem? (i := 1001) (by decide +kernel)⟩
theorem lw_p58 : lw_okq (⟨"RankChecker$Judge", "takeOut", "()Z"⟩, 10) := ⟨⟨by decide +kernel, by decide +kernel⟩, List.mem_of_getElem? (i := 274) (by decide +kernel), List.mem_of_getElem? (i := 1004) (by decide +kernel), List.mem_of_getElem? (i := 1005) (by decide +kernel)⟩
theorem lw_p59 : lw_okq (⟨"RankChecker$Judge", "give", "(I)V"⟩, 10) := ⟨⟨by decide +kernel, by decide +kernel⟩, List.mem_of_getElem? (i := 274) (by decide +kernel), List.mem_of_getElem? (i := 1008) (by decide +kernel), List.mem_of_getElem? (i := 1009) (by decide +kernel)⟩
theorem lw_p60 : lw_okq (⟨"RankChecker$Judge", "putHeld", "(ILRankChecker$Row;)V"⟩, 10) := ⟨⟨by decide +kernel, by decide +kernel⟩, List.mem_of_getElem? (i := 274) (by decide +kernel), List.mem_of_getElem? (i := 1012) (by decide +kernel), List.mem_of_getElem? (i := 1013) (by decide +kernel)⟩
theorem lw_p61 : lw_okq (⟨"RankChecker$Judge", "giveArrow", "(I)V"⟩, 10) := ⟨⟨by decide +kernel, by decide +kernel⟩, List.mem_of_getElem? (i := 274) (by decide +kernel), List.mem_of_getElem? (i := 1016) (by decide +kernel), List.mem_of_getElem? (i := 1017) (by decide +kernel)⟩
theorem lw_p62 : lw_okq (⟨"RankChecker$Judge", "outBelow", "(I)V"⟩, 10) := ⟨⟨by decide +kernel, by decide +kernel⟩, List.mem_of_getElem? (i := 274) (by decide +kernel), List.mem_of_getElem? (i := 1020) (by decide +kernel), List.mem_of_getElem? (i := 1021) (by decide +kernel)⟩
theorem lw_p63 : lw_okq (⟨"RankChecker$Judge", "outElse", "(I)V"⟩, 10) := ⟨⟨by decide +kernel, by decide +kernel⟩, List.mem_of_getElem? (i := 274) (by decide +kernel), List.mem_of_getElem? (i := 1024) (by decide +kernel), List.mem_of_getElem? (i := 1025) (by decide +kernel)⟩
def lw_privs_4 : List (MethodName × Nat) := [(⟨"RankChecker$Judge", "openMarked", "(LRankChecker$Row;)V"⟩, 10), (⟨"RankChecker$Judge", "compareParts", "()I"⟩, 10), (⟨"RankChecker$Judge", "solve", "(II)I"⟩, 10), (⟨"RankChecker$Context", "standsAhead", "(II)Z"⟩, 10), (⟨"RankChecker$Judge", "solveParts", "(III)V"⟩, 10), (⟨"RankChecker$Judge", "pushSolve", "(IIII)V"⟩, 10), (⟨"RankChecker$Judge", "solveAll", "(II)V"⟩, 10), (⟨"RankChecker$Judge", "fail", "()V"⟩, 10), (⟨"RankChecker$Judge", "goOn", "()V"⟩, 10), (⟨"RankChecker$Judge", "bind", "(I)V"⟩, 10), (⟨"RankChecker$Judge", "takeOut", "()Z"⟩, 10), (⟨"RankChecker$Judge", "give", "(I)V"⟩, 10), (⟨"RankChecker$Judge", "putHeld", "(ILRankChecker$Row;)V"⟩, 10), (⟨"RankChecker$Judge", "giveArrow", "(I)V"⟩, 10), (⟨"RankChecker$Judge", "outBelow", "(I)V"⟩, 10), (⟨"RankChecker$Judge", "outElse", "(I)V"⟩, 10)]
theorem lw_r4 : ∀ q ∈ lw_privs_4, lw_okq q := List.forall_mem_cons.mpr ⟨lw_p48, List.forall_mem_cons.mpr ⟨lw_p49, List.forall_mem_cons.mpr ⟨lw_p50, List.forall_mem_cons.mpr ⟨lw_p51, List.forall_mem_cons.mpr ⟨lw_p52, List.forall_mem_cons.mpr ⟨lw_p53, List.forall_mem_cons.mpr ⟨lw_p54, List.forall_mem_cons.mpr ⟨lw_p55, List.forall_mem_cons.mpr ⟨lw_p56, List.forall_mem_cons.mpr ⟨lw_p57, List.forall_mem_cons.mpr ⟨lw_p58, List.forall_mem_cons.mpr ⟨lw_p59, List.forall_mem_cons.mpr ⟨lw_p60, List.forall_mem_cons.mpr ⟨lw_p61, List.forall_mem_cons.mpr ⟨lw_p62, List.forall_mem_cons.mpr ⟨lw_p63, fun _ h => absurd h List.not_mem_nil⟩⟩⟩⟩⟩⟩⟩⟩⟩⟩⟩⟩⟩⟩⟩⟩
theorem lw_p64 : lw_okq (⟨"RankChecker$Judge", "outSecond", "(I)V"⟩, 10) := ⟨⟨by decide +kernel, by decide +kernel⟩, List.mem_of_getElem? (i := 274) (by decide +kernel), List.mem_of_getElem? (i := 1028) (by decide +kernel), List.mem_of_getElem? (i := 1029) (by decide +kernel)⟩
theorem lw_p65 : lw_okq (⟨"RankChecker$Judge", "outPair", "(I)V"⟩, 10) := ⟨⟨by decide +kernel, by decide +kernel⟩, List.mem_of_getElem? (i := 274) (by decide +kernel), List.mem_of_getElem? (i := 1032) (by decide +kernel), List.mem_of_getElem? (i := 1033) (by decide +kernel)⟩
theorem lw_p66 : lw_okq (⟨"RankChecker$Judge", "outPart", "(Z)V"⟩, 10) := ⟨⟨by decide +kernel, by decide +kernel⟩, List.mem_of_getElem? (i := 274) (by decide +kernel), List.mem_of_getElem? (i := 1036) (by decide +kernel), List.mem_of_getElem? (i := 1037) (by decide +kernel)⟩
theorem lw_p67 : lw_okq (⟨"RankChecker$Judge", "finish", "()V"⟩, 10) := ⟨⟨by decide +kernel, by decide +kernel⟩, List.mem_of_getElem? (i := 274) (by decide +kernel), List.mem_of_getElem? (i := 1040) (by decide +kernel), List.mem_of_getElem? (i := 1041) (by decide +kernel)⟩
theorem lw_p68 : lw_okq (⟨"RankChecker", "counted", "()I"⟩, 12) := ⟨⟨by decide +kernel, by decide +kernel⟩, List.mem_of_getElem? (i := 21) (by decide +kernel), List.mem_of_getElem? (i := 1044) (by decide +kernel), List.mem_of_getElem? (i := 1045) (by decide +kernel)⟩
theorem lw_p69 : lw_okq (⟨"RankChecker$Teller", "see", "(II)I"⟩, 5) := ⟨⟨by decide +kernel, by decide +kernel⟩, List.mem_of_getElem? (i := 436) (by decide +kernel), List.mem_of_getElem? (i := 1066) (by decide +kernel), List.mem_of_getElem? (i := 1067) (by decide +kernel)⟩
theorem lw_p70 : lw_okq (⟨"RankChecker$Teller", "name", "(II)V"⟩, 5) := ⟨⟨by decide +kernel, by decide +kernel⟩, List.mem_of_getElem? (i := 436) (by decide +kernel), List.mem_of_getElem? (i := 1084) (by decide +kernel), List.mem_of_getElem? (i := 1085) (by decide +kernel)⟩
theorem lw_p71 : lw_okq (⟨"RankChecker$Teller", "write", "(I)V"⟩, 5) := ⟨⟨by decide +kernel, by decide +kernel⟩, List.mem_of_getElem? (i := 436) (by decide +kernel), List.mem_of_getElem? (i := 1089) (by decide +kernel), List.mem_of_getElem? (i := 1090) (by decide +kernel)⟩
theorem lw_p72 : lw_okq (⟨"RankChecker$Teller", "nameOf", "(I)I"⟩, 5) := ⟨⟨by decide +kernel, by decide +kernel⟩, List.mem_of_getElem? (i := 436) (by decide +kernel), List.mem_of_getElem? (i := 1093) (by decide +kernel), List.mem_of_getElem? (i := 1094) (by decide +kernel)⟩
theorem lw_p73 : lw_okq (⟨"RankChecker$Teller", "orderOf", "(II)I"⟩, 5) := ⟨⟨by decide +kernel, by decide +kernel⟩, List.mem_of_getElem? (i := 436) (by decide +kernel), List.mem_of_getElem? (i := 1097) (by decide +kernel), List.mem_of_getElem? (i := 1098) (by decide +kernel)⟩
theorem lw_p74 : lw_okq (⟨"RankChecker$Worker", "goTo", "(III)V"⟩, 11) := ⟨⟨by decide +kernel, by decide +kernel⟩, List.mem_of_getElem? (i := 357) (by decide +kernel), List.mem_of_getElem? (i := 1183) (by decide +kernel), List.mem_of_getElem? (i := 1184) (by decide +kernel)⟩
theorem lw_p75 : lw_okq (⟨"RankChecker$Worker", "pace", "()V"⟩, 11) := ⟨⟨by decide +kernel, by decide +kernel⟩, List.mem_of_getElem? (i := 357) (by decide +kernel), List.mem_of_getElem? (i := 1188) (by decide +kernel), List.mem_of_getElem? (i := 1189) (by decide +kernel)⟩
theorem lw_p76 : lw_okq (⟨"RankChecker$Worker", "termAt", "(I)LRankChecker$Term;"⟩, 11) := ⟨⟨by decide +kernel, by decide +kernel⟩, List.mem_of_getElem? (i := 357) (by decide +kernel), List.mem_of_getElem? (i := 1192) (by decide +kernel), List.mem_of_getElem? (i := 1193) (by decide +kernel)⟩
theorem lw_p77 : lw_okq (⟨"RankChecker$Worker", "workName", "(I)V"⟩, 11) := ⟨⟨by decide +kernel, by decide +kernel⟩, List.mem_of_getElem? (i := 357) (by decide +kernel), List.mem_of_getElem? (i := 1199) (by decide +kernel), List.mem_of_getElem? (i := 1200) (by decide +kernel)⟩
theorem lw_p78 : lw_okq (⟨"RankChecker$Worker", "give", "(I)V"⟩, 11) := ⟨⟨by decide +kernel, by decide +kernel⟩, List.mem_of_getElem? (i := 357) (by decide +kernel), List.mem_of_getElem? (i := 1208) (by decide +kernel), List.mem_of_getElem? (i := 1209) (by decide +kernel)⟩
theorem lw_p79 : lw_okq (⟨"RankChecker$Values", "make", "(IIII)I"⟩, 10) := ⟨⟨by decide +kernel, by decide +kernel⟩, List.mem_of_getElem? (i := 363) (by decide +kernel), List.mem_of_getElem? (i := 1216) (by decide +kernel), List.mem_of_getElem? (i := 1217) (by decide +kernel)⟩
def lw_privs_5 : List (MethodName × Nat) := [(⟨"RankChecker$Judge", "outSecond", "(I)V"⟩, 10), (⟨"RankChecker$Judge", "outPair", "(I)V"⟩, 10), (⟨"RankChecker$Judge", "outPart", "(Z)V"⟩, 10), (⟨"RankChecker$Judge", "finish", "()V"⟩, 10), (⟨"RankChecker", "counted", "()I"⟩, 12), (⟨"RankChecker$Teller", "see", "(II)I"⟩, 5), (⟨"RankChecker$Teller", "name", "(II)V"⟩, 5), (⟨"RankChecker$Teller", "write", "(I)V"⟩, 5), (⟨"RankChecker$Teller", "nameOf", "(I)I"⟩, 5), (⟨"RankChecker$Teller", "orderOf", "(II)I"⟩, 5), (⟨"RankChecker$Worker", "goTo", "(III)V"⟩, 11), (⟨"RankChecker$Worker", "pace", "()V"⟩, 11), (⟨"RankChecker$Worker", "termAt", "(I)LRankChecker$Term;"⟩, 11), (⟨"RankChecker$Worker", "workName", "(I)V"⟩, 11), (⟨"RankChecker$Worker", "give", "(I)V"⟩, 11), (⟨"RankChecker$Values", "make", "(IIII)I"⟩, 10)]
theorem lw_r5 : ∀ q ∈ lw_privs_5, lw_okq q := List.forall_mem_cons.mpr ⟨lw_p64, List.forall_mem_cons.mpr ⟨lw_p65, List.forall_mem_cons.mpr ⟨lw_p66, List.forall_mem_cons.mpr ⟨lw_p67, List.forall_mem_cons.mpr ⟨lw_p68, List.forall_mem_cons.mpr ⟨lw_p69, List.forall_mem_cons.mpr ⟨lw_p70, List.forall_mem_cons.mpr ⟨lw_p71, List.forall_mem_cons.mpr ⟨lw_p72, List.forall_mem_cons.mpr ⟨lw_p73, List.forall_mem_cons.mpr ⟨lw_p74, List.forall_mem_cons.mpr ⟨lw_p75, List.forall_mem_cons.mpr ⟨lw_p76, List.forall_mem_cons.mpr ⟨lw_p77, List.forall_mem_cons.mpr ⟨lw_p78, List.forall_mem_cons.mpr ⟨lw_p79, fun _ h => absurd h List.not_mem_nil⟩⟩⟩⟩⟩⟩⟩⟩⟩⟩⟩⟩⟩⟩⟩⟩
theorem lw_p80 : lw_okq (⟨"RankChecker$Worker", "await", "(II)V"⟩, 11) := ⟨⟨by decide +kernel, by decide +kernel⟩, List.mem_of_getElem? (i := 357) (by decide +kernel), List.mem_of_getElem? (i := 1226) (by decide +kernel), List.mem_of_getElem? (i := 1227) (by decide +kernel)⟩
theorem lw_p81 : lw_okq (⟨"RankChecker$Worker", "resume", "()V"⟩, 11) := ⟨⟨by decide +kernel, by decide +kernel⟩, List.mem_of_getElem? (i := 357) (by decide +kernel), List.mem_of_getElem? (i := 1230) (by decide +kernel), List.mem_of_getElem? (i := 1231) (by decide +kernel)⟩
theorem lw_p82 : lw_okq (⟨"RankChecker$Worker", "goOnWithFirst", "(LRankChecker$Term;I)V"⟩, 11) := ⟨⟨by decide +kernel, by decide +kernel⟩, List.mem_of_getElem? (i := 357) (by decide +kernel), List.mem_of_getElem? (i := 1234) (by decide +kernel), List.mem_of_getElem? (i := 1235) (by decide +kernel)⟩
theorem lw_p83 : lw_okq (⟨"RankChecker$Worker", "must", "(I)Z"⟩, 11) := ⟨⟨by decide +kernel, by decide +kernel⟩, List.mem_of_getElem? (i := 357) (by decide +kernel), List.mem_of_getElem? (i := 1242) (by decide +kernel), List.mem_of_getElem? (i := 1243) (by decide +kernel)⟩
theorem lw_p84 : lw_okq (⟨"RankChecker$Values", "has", "(I)Z"⟩, 10) := ⟨⟨by decide +kernel, by decide +kernel⟩, List.mem_of_getElem? (i := 363) (by decide +kernel), List.mem_of_getElem? (i := 1250) (by decide +kernel), List.mem_of_getElem? (i := 1251) (by decide +kernel)⟩
theorem lw_p85 : lw_okq (⟨"RankChecker$Worker", "goOnWithBoth", "(II)V"⟩, 11) := ⟨⟨by decide +kernel, by decide +kernel⟩, List.mem_of_getElem? (i := 357) (by decide +kernel), List.mem_of_getElem? (i := 1262) (by decide +kernel), List.mem_of_getElem? (i := 1263) (by decide +kernel)⟩
theorem lw_p86 : lw_okq (⟨"RankChecker$Worker", "workFunction", "(I)V"⟩, 11) := ⟨⟨by decide +kernel, by decide +kernel⟩, List.mem_of_getElem? (i := 357) (by decide +kernel), List.mem_of_getElem? (i := 1266) (by decide +kernel), List.mem_of_getElem? (i := 1267) (by decide +kernel)⟩
theorem lw_p87 : lw_okq (⟨"java/lang/Throwable", "fillInStackTrace", "(I)Ljava/lang/Throwable;"⟩, 6) := ⟨⟨by decide +kernel, by decide +kernel⟩, List.mem_of_getElem? (i := 1368) (by decide +kernel), List.mem_of_getElem? (i := 1366) (by decide +kernel), List.mem_of_getElem? (i := 1367) (by decide +kernel)⟩
theorem lw_p88 : lw_okq (⟨"RankCheckerModel", "brings", "(I)V"⟩, 74) := ⟨⟨by decide +kernel, by decide +kernel⟩, List.mem_of_getElem? (i := 1393) (by decide +kernel), List.mem_of_getElem? (i := 1636) (by decide +kernel), List.mem_of_getElem? (i := 1637) (by decide +kernel)⟩
theorem lw_p89 : lw_okq (⟨"RankCheckerModel", "readsWhole", "()I"⟩, 74) := ⟨⟨by decide +kernel, by decide +kernel⟩, List.mem_of_getElem? (i := 1393) (by decide +kernel), List.mem_of_getElem? (i := 1648) (by decide +kernel), List.mem_of_getElem? (i := 1649) (by decide +kernel)⟩
theorem lw_p90 : lw_okq (⟨"RankCheckerModel", "begins", "()V"⟩, 74) := ⟨⟨by decide +kernel, by decide +kernel⟩, List.mem_of_getElem? (i := 1393) (by decide +kernel), List.mem_of_getElem? (i := 1652) (by decide +kernel), List.mem_of_getElem? (i := 1653) (by decide +kernel)⟩
theorem lw_p91 : lw_okq (⟨"RankCheckerModel", "readsExpression", "(I)I"⟩, 74) := ⟨⟨by decide +kernel, by decide +kernel⟩, List.mem_of_getElem? (i := 1393) (by decide +kernel), List.mem_of_getElem? (i := 1656) (by decide +kernel), List.mem_of_getElem? (i := 1657) (by decide +kernel)⟩
theorem lw_p92 : lw_okq (⟨"RankCheckerModel", "look", "()I"⟩, 74) := ⟨⟨by decide +kernel, by decide +kernel⟩, List.mem_of_getElem? (i := 1393) (by decide +kernel), List.mem_of_getElem? (i := 1660) (by decide +kernel), List.mem_of_getElem? (i := 1661) (by decide +kernel)⟩
theorem lw_p93 : lw_okq (⟨"RankCheckerModel", "here", "()I"⟩, 74) := ⟨⟨by decide +kernel, by decide +kernel⟩, List.mem_of_getElem? (i := 1393) (by decide +kernel), List.mem_of_getElem? (i := 1664) (by decide +kernel), List.mem_of_getElem? (i := 1665) (by decide +kernel)⟩
theorem lw_p94 : lw_okq (⟨"RankCheckerModel", "fails", "(I)I"⟩, 74) := ⟨⟨by decide +kernel, by decide +kernel⟩, List.mem_of_getElem? (i := 1393) (by decide +kernel), List.mem_of_getElem? (i := 1677) (by decide +kernel), List.mem_of_getElem? (i := 1678) (by decide +kernel)⟩
theorem lw_p95 : lw_okq (⟨"RankCheckerModel", "opens", "(II)I"⟩, 74) := ⟨⟨by decide +kernel, by decide +kernel⟩, List.mem_of_getElem? (i := 1393) (by decide +kernel), List.mem_of_getElem? (i := 1681) (by decide +kernel), List.mem_of_getElem? (i := 1682) (by decide +kernel)⟩
def lw_privs_6 : List (MethodName × Nat) := [(⟨"RankChecker$Worker", "await", "(II)V"⟩, 11), (⟨"RankChecker$Worker", "resume", "()V"⟩, 11), (⟨"RankChecker$Worker", "goOnWithFirst", "(LRankChecker$Term;I)V"⟩, 11), (⟨"RankChecker$Worker", "must", "(I)Z"⟩, 11), (⟨"RankChecker$Values", "has", "(I)Z"⟩, 10), (⟨"RankChecker$Worker", "goOnWithBoth", "(II)V"⟩, 11), (⟨"RankChecker$Worker", "workFunction", "(I)V"⟩, 11), (⟨"java/lang/Throwable", "fillInStackTrace", "(I)Ljava/lang/Throwable;"⟩, 6), (⟨"RankCheckerModel", "brings", "(I)V"⟩, 74), (⟨"RankCheckerModel", "readsWhole", "()I"⟩, 74), (⟨"RankCheckerModel", "begins", "()V"⟩, 74), (⟨"RankCheckerModel", "readsExpression", "(I)I"⟩, 74), (⟨"RankCheckerModel", "look", "()I"⟩, 74), (⟨"RankCheckerModel", "here", "()I"⟩, 74), (⟨"RankCheckerModel", "fails", "(I)I"⟩, 74), (⟨"RankCheckerModel", "opens", "(II)I"⟩, 74)]
theorem lw_r6 : ∀ q ∈ lw_privs_6, lw_okq q := List.forall_mem_cons.mpr ⟨lw_p80, List.forall_mem_cons.mpr ⟨lw_p81, List.forall_mem_cons.mpr ⟨lw_p82, List.forall_mem_cons.mpr ⟨lw_p83, List.forall_mem_cons.mpr ⟨lw_p84, List.forall_mem_cons.mpr ⟨lw_p85, List.forall_mem_cons.mpr ⟨lw_p86, List.forall_mem_cons.mpr ⟨lw_p87, List.forall_mem_cons.mpr ⟨lw_p88, List.forall_mem_cons.mpr ⟨lw_p89, List.forall_mem_cons.mpr ⟨lw_p90, List.forall_mem_cons.mpr ⟨lw_p91, List.forall_mem_cons.mpr ⟨lw_p92, List.forall_mem_cons.mpr ⟨lw_p93, List.forall_mem_cons.mpr ⟨lw_p94, List.forall_mem_cons.mpr ⟨lw_p95, fun _ h => absurd h List.not_mem_nil⟩⟩⟩⟩⟩⟩⟩⟩⟩⟩⟩⟩⟩⟩⟩⟩
theorem lw_p96 : lw_okq (⟨"RankCheckerModel", "number", "()I"⟩, 74) := ⟨⟨by decide +kernel, by decide +kernel⟩, List.mem_of_getElem? (i := 1393) (by decide +kernel), List.mem_of_getElem? (i := 1685) (by decide +kernel), List.mem_of_getElem? (i := 1686) (by decide +kernel)⟩
theorem lw_p97 : lw_okq (⟨"RankCheckerModel", "puts", "(III)V"⟩, 74) := ⟨⟨by decide +kernel, by decide +kernel⟩, List.mem_of_getElem? (i := 1393) (by decide +kernel), List.mem_of_getElem? (i := 1689) (by decide +kernel), List.mem_of_getElem? (i := 1690) (by decide +kernel)⟩
theorem lw_p98 : lw_okq (⟨"RankCheckerModel", "letter", "()I"⟩, 74) := ⟨⟨by decide +kernel, by decide +kernel⟩, List.mem_of_getElem? (i := 1393) (by decide +kernel), List.mem_of_getElem? (i := 1693) (by decide +kernel), List.mem_of_getElem? (i := 1694) (by decide +kernel)⟩
theorem lw_p99 : lw_okq (⟨"RankCheckerModel", "readsType", "(II)V"⟩, 74) := ⟨⟨by decide +kernel, by decide +kernel⟩, List.mem_of_getElem? (i := 1393) (by decide +kernel), List.mem_of_getElem? (i := 1700) (by decide +kernel), List.mem_of_getElem? (i := 1701) (by decide +kernel)⟩
theorem lw_p100 : lw_okq (⟨"RankCheckerModel", "puts", "(I)V"⟩, 74) := ⟨⟨by decide +kernel, by decide +kernel⟩, List.mem_of_getElem? (i := 1393) (by decide +kernel), List.mem_of_getElem? (i := 1704) (by decide +kernel), List.mem_of_getElem? (i := 1705) (by decide +kernel)⟩
theorem lw_p101 : lw_okq (⟨"RankCheckerModel", "endsText", "()V"⟩, 74) := ⟨⟨by decide +kernel, by decide +kernel⟩, List.mem_of_getElem? (i := 1393) (by decide +kernel), List.mem_of_getElem? (i := 1708) (by decide +kernel), List.mem_of_getElem? (i := 1709) (by decide +kernel)⟩
theorem lw_p102 : lw_okq (⟨"RankCheckerModel", "readsTypes", "(I)I"⟩, 74) := ⟨⟨by decide +kernel, by decide +kernel⟩, List.mem_of_getElem? (i := 1393) (by decide +kernel), List.mem_of_getElem? (i := 1716) (by decide +kernel), List.mem_of_getElem? (i := 1717) (by decide +kernel)⟩
theorem lw_p103 : lw_okq (⟨"RankCheckerModel", "copies", "(II)V"⟩, 74) := ⟨⟨by decide +kernel, by decide +kernel⟩, List.mem_of_getElem? (i := 1393) (by decide +kernel), List.mem_of_getElem? (i := 1724) (by decide +kernel), List.mem_of_getElem? (i := 1725) (by decide +kernel)⟩
theorem lw_p104 : lw_okq (⟨"RankCheckerModel", "judges", "(I)I"⟩, 74) := ⟨⟨by decide +kernel, by decide +kernel⟩, List.mem_of_getElem? (i := 1393) (by decide +kernel), List.mem_of_getElem? (i := 1728) (by decide +kernel), List.mem_of_getElem? (i := 1729) (by decide +kernel)⟩
theorem lw_p105 : lw_okq (⟨"RankCheckerModel", "clears", "(ZI)V"⟩, 74) := ⟨⟨by decide +kernel, by decide +kernel⟩, List.mem_of_getElem? (i := 1393) (by decide +kernel), List.mem_of_getElem? (i := 1733) (by decide +kernel), List.mem_of_getElem? (i := 1734) (by decide +kernel)⟩
theorem lw_p106 : lw_okq (⟨"RankCheckerModel", "typeFrom", "(I)I"⟩, 74) := ⟨⟨by decide +kernel, by decide +kernel⟩, List.mem_of_getElem? (i := 1393) (by decide +kernel), List.mem_of_getElem? (i := 1740) (by decide +kernel), List.mem_of_getElem? (i := 1741) (by decide +kernel)⟩
theorem lw_p107 : lw_okq (⟨"RankCheckerModel", "builds", "(I)I"⟩, 74) := ⟨⟨by decide +kernel, by decide +kernel⟩, List.mem_of_getElem? (i := 1393) (by decide +kernel), List.mem_of_getElem? (i := 1744) (by decide +kernel), List.mem_of_getElem? (i := 1745) (by decide +kernel)⟩
theorem lw_p108 : lw_okq (⟨"RankCheckerModel", "makes", "(III)I"⟩, 74) := ⟨⟨by decide +kernel, by decide +kernel⟩, List.mem_of_getElem? (i := 1393) (by decide +kernel), List.mem_of_getElem? (i := 1748) (by decide +kernel), List.mem_of_getElem? (i := 1749) (by decide +kernel)⟩
theorem lw_p109 : lw_okq (⟨"RankCheckerModel", "comes", "(III)V"⟩, 74) := ⟨⟨by decide +kernel, by decide +kernel⟩, List.mem_of_getElem? (i := 1393) (by decide +kernel), List.mem_of_getElem? (i := 1752) (by decide +kernel), List.mem_of_getElem? (i := 1753) (by decide +kernel)⟩
theorem lw_p110 : lw_okq (⟨"RankCheckerModel", "infer", "(I)I"⟩, 74) := ⟨⟨by decide +kernel, by decide +kernel⟩, List.mem_of_getElem? (i := 1393) (by decide +kernel), List.mem_of_getElem? (i := 1756) (by decide +kernel), List.mem_of_getElem? (i := 1757) (by decide +kernel)⟩
theorem lw_p111 : lw_okq (⟨"RankCheckerModel", "begins", "(IIII)I"⟩, 74) := ⟨⟨by decide +kernel, by decide +kernel⟩, List.mem_of_getElem? (i := 1393) (by decide +kernel), List.mem_of_getElem? (i := 1760) (by decide +kernel), List.mem_of_getElem? (i := 1761) (by decide +kernel)⟩
def lw_privs_7 : List (MethodName × Nat) := [(⟨"RankCheckerModel", "number", "()I"⟩, 74), (⟨"RankCheckerModel", "puts", "(III)V"⟩, 74), (⟨"RankCheckerModel", "letter", "()I"⟩, 74), (⟨"RankCheckerModel", "readsType", "(II)V"⟩, 74), (⟨"RankCheckerModel", "puts", "(I)V"⟩, 74), (⟨"RankCheckerModel", "endsText", "()V"⟩, 74), (⟨"RankCheckerModel", "readsTypes", "(I)I"⟩, 74), (⟨"RankCheckerModel", "copies", "(II)V"⟩, 74), (⟨"RankCheckerModel", "judges", "(I)I"⟩, 74), (⟨"RankCheckerModel", "clears", "(ZI)V"⟩, 74), (⟨"RankCheckerModel", "typeFrom", "(I)I"⟩, 74), (⟨"RankCheckerModel", "builds", "(I)I"⟩, 74), (⟨"RankCheckerModel", "makes", "(III)I"⟩, 74), (⟨"RankCheckerModel", "comes", "(III)V"⟩, 74), (⟨"RankCheckerModel", "infer", "(I)I"⟩, 74), (⟨"RankCheckerModel", "begins", "(IIII)I"⟩, 74)]
theorem lw_r7 : ∀ q ∈ lw_privs_7, lw_okq q := List.forall_mem_cons.mpr ⟨lw_p96, List.forall_mem_cons.mpr ⟨lw_p97, List.forall_mem_cons.mpr ⟨lw_p98, List.forall_mem_cons.mpr ⟨lw_p99, List.forall_mem_cons.mpr ⟨lw_p100, List.forall_mem_cons.mpr ⟨lw_p101, List.forall_mem_cons.mpr ⟨lw_p102, List.forall_mem_cons.mpr ⟨lw_p103, List.forall_mem_cons.mpr ⟨lw_p104, List.forall_mem_cons.mpr ⟨lw_p105, List.forall_mem_cons.mpr ⟨lw_p106, List.forall_mem_cons.mpr ⟨lw_p107, List.forall_mem_cons.mpr ⟨lw_p108, List.forall_mem_cons.mpr ⟨lw_p109, List.forall_mem_cons.mpr ⟨lw_p110, List.forall_mem_cons.mpr ⟨lw_p111, fun _ h => absurd h List.not_mem_nil⟩⟩⟩⟩⟩⟩⟩⟩⟩⟩⟩⟩⟩⟩⟩⟩
theorem lw_p112 : lw_okq (⟨"RankCheckerModel", "by", "(I)I"⟩, 74) := ⟨⟨by decide +kernel, by decide +kernel⟩, List.mem_of_getElem? (i := 1393) (by decide +kernel), List.mem_of_getElem? (i := 1764) (by decide +kernel), List.mem_of_getElem? (i := 1765) (by decide +kernel)⟩
theorem lw_p113 : lw_okq (⟨"RankCheckerModel", "signsBy", "(II)I"⟩, 74) := ⟨⟨by decide +kernel, by decide +kernel⟩, List.mem_of_getElem? (i := 1393) (by decide +kernel), List.mem_of_getElem? (i := 1768) (by decide +kernel), List.mem_of_getElem? (i := 1769) (by decide +kernel)⟩
theorem lw_p114 : lw_okq (⟨"RankCheckerModel", "isBoth", "(I)Z"⟩, 74) := ⟨⟨by decide +kernel, by decide +kernel⟩, List.mem_of_getElem? (i := 1393) (by decide +kernel), List.mem_of_getElem? (i := 1772) (by decide +kernel), List.mem_of_getElem? (i := 1773) (by decide +kernel)⟩
theorem lw_p115 : lw_okq (⟨"RankCheckerModel", "placeOf", "(II)I"⟩, 74) := ⟨⟨by decide +kernel, by decide +kernel⟩, List.mem_of_getElem? (i := 1393) (by decide +kernel), List.mem_of_getElem? (i := 1776) (by decide +kernel), List.mem_of_getElem? (i := 1777) (by decide +kernel)⟩
theorem lw_p116 : lw_okq (⟨"RankCheckerModel", "replaced", "(I)I"⟩, 74) := ⟨⟨by decide +kernel, by decide +kernel⟩, List.mem_of_getElem? (i := 1393) (by decide +kernel), List.mem_of_getElem? (i := 1780) (by decide +kernel), List.mem_of_getElem? (i := 1781) (by decide +kernel)⟩
theorem lw_p117 : lw_okq (⟨"RankCheckerModel", "of", "(II)I"⟩, 74) := ⟨⟨by decide +kernel, by decide +kernel⟩, List.mem_of_getElem? (i := 1393) (by decide +kernel), List.mem_of_getElem? (i := 1784) (by decide +kernel), List.mem_of_getElem? (i := 1785) (by decide +kernel)⟩
theorem lw_p118 : lw_okq (⟨"RankCheckerModel", "signs", "(I)I"⟩, 74) := ⟨⟨by decide +kernel, by decide +kernel⟩, List.mem_of_getElem? (i := 1393) (by decide +kernel), List.mem_of_getElem? (i := 1788) (by decide +kernel), List.mem_of_getElem? (i := 1789) (by decide +kernel)⟩
theorem lw_p119 : lw_okq (⟨"RankCheckerModel", "infers", "(II)I"⟩, 74) := ⟨⟨by decide +kernel, by decide +kernel⟩, List.mem_of_getElem? (i := 1393) (by decide +kernel), List.mem_of_getElem? (i := 1793) (by decide +kernel), List.mem_of_getElem? (i := 1794) (by decide +kernel)⟩
theorem lw_p120 : lw_okq (⟨"RankCheckerModel", "failsNow", "()I"⟩, 74) := ⟨⟨by decide +kernel, by decide +kernel⟩, List.mem_of_getElem? (i := 1393) (by decide +kernel), List.mem_of_getElem? (i := 1797) (by decide +kernel), List.mem_of_getElem? (i := 1798) (by decide +kernel)⟩
theorem lw_p121 : lw_okq (⟨"RankCheckerModel", "rule", "(II)V"⟩, 74) := ⟨⟨by decide +kernel, by decide +kernel⟩, List.mem_of_getElem? (i := 1393) (by decide +kernel), List.mem_of_getElem? (i := 1801) (by decide +kernel), List.mem_of_getElem? (i := 1802) (by decide +kernel)⟩
theorem lw_p122 : lw_okq (⟨"RankCheckerModel", "plain", "(I)I"⟩, 74) := ⟨⟨by decide +kernel, by decide +kernel⟩, List.mem_of_getElem? (i := 1393) (by decide +kernel), List.mem_of_getElem? (i := 1805) (by decide +kernel), List.mem_of_getElem? (i := 1806) (by decide +kernel)⟩
theorem lw_p123 : lw_okq (⟨"RankCheckerModel", "noted", "(I)I"⟩, 74) := ⟨⟨by decide +kernel, by decide +kernel⟩, List.mem_of_getElem? (i := 1393) (by decide +kernel), List.mem_of_getElem? (i := 1809) (by decide +kernel), List.mem_of_getElem? (i := 1810) (by decide +kernel)⟩
theorem lw_p124 : lw_okq (⟨"RankCheckerModel", "check", "(II)V"⟩, 74) := ⟨⟨by decide +kernel, by decide +kernel⟩, List.mem_of_getElem? (i := 1393) (by decide +kernel), List.mem_of_getElem? (i := 1813) (by decide +kernel), List.mem_of_getElem? (i := 1814) (by decide +kernel)⟩
theorem lw_p125 : lw_okq (⟨"RankCheckerModel", "checks", "(III)V"⟩, 74) := ⟨⟨by decide +kernel, by decide +kernel⟩, List.mem_of_getElem? (i := 1393) (by decide +kernel), List.mem_of_getElem? (i := 1817) (by decide +kernel), List.mem_of_getElem? (i := 1818) (by decide +kernel)⟩
theorem lw_p126 : lw_okq (⟨"RankCheckerModel", "freshConstant", "()I"⟩, 74) := ⟨⟨by decide +kernel, by decide +kernel⟩, List.mem_of_getElem? (i := 1393) (by decide +kernel), List.mem_of_getElem? (i := 1821) (by decide +kernel), List.mem_of_getElem? (i := 1822) (by decide +kernel)⟩
theorem lw_p127 : lw_okq (⟨"RankCheckerModel", "inside", "(II)I"⟩, 74) := ⟨⟨by decide +kernel, by decide +kernel⟩, List.mem_of_getElem? (i := 1393) (by decide +kernel), List.mem_of_getElem? (i := 1825) (by decide +kernel), List.mem_of_getElem? (i := 1826) (by decide +kernel)⟩
def lw_privs_8 : List (MethodName × Nat) := [(⟨"RankCheckerModel", "by", "(I)I"⟩, 74), (⟨"RankCheckerModel", "signsBy", "(II)I"⟩, 74), (⟨"RankCheckerModel", "isBoth", "(I)Z"⟩, 74), (⟨"RankCheckerModel", "placeOf", "(II)I"⟩, 74), (⟨"RankCheckerModel", "replaced", "(I)I"⟩, 74), (⟨"RankCheckerModel", "of", "(II)I"⟩, 74), (⟨"RankCheckerModel", "signs", "(I)I"⟩, 74), (⟨"RankCheckerModel", "infers", "(II)I"⟩, 74), (⟨"RankCheckerModel", "failsNow", "()I"⟩, 74), (⟨"RankCheckerModel", "rule", "(II)V"⟩, 74), (⟨"RankCheckerModel", "plain", "(I)I"⟩, 74), (⟨"RankCheckerModel", "noted", "(I)I"⟩, 74), (⟨"RankCheckerModel", "check", "(II)V"⟩, 74), (⟨"RankCheckerModel", "checks", "(III)V"⟩, 74), (⟨"RankCheckerModel", "freshConstant", "()I"⟩, 74), (⟨"RankCheckerModel", "inside", "(II)I"⟩, 74)]
theorem lw_r8 : ∀ q ∈ lw_privs_8, lw_okq q := List.forall_mem_cons.mpr ⟨lw_p112, List.forall_mem_cons.mpr ⟨lw_p113, List.forall_mem_cons.mpr ⟨lw_p114, List.forall_mem_cons.mpr ⟨lw_p115, List.forall_mem_cons.mpr ⟨lw_p116, List.forall_mem_cons.mpr ⟨lw_p117, List.forall_mem_cons.mpr ⟨lw_p118, List.forall_mem_cons.mpr ⟨lw_p119, List.forall_mem_cons.mpr ⟨lw_p120, List.forall_mem_cons.mpr ⟨lw_p121, List.forall_mem_cons.mpr ⟨lw_p122, List.forall_mem_cons.mpr ⟨lw_p123, List.forall_mem_cons.mpr ⟨lw_p124, List.forall_mem_cons.mpr ⟨lw_p125, List.forall_mem_cons.mpr ⟨lw_p126, List.forall_mem_cons.mpr ⟨lw_p127, fun _ h => absurd h List.not_mem_nil⟩⟩⟩⟩⟩⟩⟩⟩⟩⟩⟩⟩⟩⟩⟩⟩
theorem lw_p128 : lw_okq (⟨"RankCheckerModel", "with", "(III)I"⟩, 74) := ⟨⟨by decide +kernel, by decide +kernel⟩, List.mem_of_getElem? (i := 1393) (by decide +kernel), List.mem_of_getElem? (i := 1829) (by decide +kernel), List.mem_of_getElem? (i := 1830) (by decide +kernel)⟩
theorem lw_p129 : lw_okq (⟨"RankCheckerModel", "cuts", "(II)V"⟩, 74) := ⟨⟨by decide +kernel, by decide +kernel⟩, List.mem_of_getElem? (i := 1393) (by decide +kernel), List.mem_of_getElem? (i := 1833) (by decide +kernel), List.mem_of_getElem? (i := 1834) (by decide +kernel)⟩
theorem lw_p130 : lw_okq (⟨"RankCheckerModel", "marked", "()I"⟩, 74) := ⟨⟨by decide +kernel, by decide +kernel⟩, List.mem_of_getElem? (i := 1393) (by decide +kernel), List.mem_of_getElem? (i := 1837) (by decide +kernel), List.mem_of_getElem? (i := 1838) (by decide +kernel)⟩
theorem lw_p131 : lw_okq (⟨"RankCheckerModel", "entryOwn", "(II)V"⟩, 74) := ⟨⟨by decide +kernel, by decide +kernel⟩, List.mem_of_getElem? (i := 1393) (by decide +kernel), List.mem_of_getElem? (i := 1841) (by decide +kernel), List.mem_of_getElem? (i := 1842) (by decide +kernel)⟩
theorem lw_p132 : lw_okq (⟨"RankCheckerModel", "cutsAt", "(I)V"⟩, 74) := ⟨⟨by decide +kernel, by decide +kernel⟩, List.mem_of_getElem? (i := 1393) (by decide +kernel), List.mem_of_getElem? (i := 1845) (by decide +kernel), List.mem_of_getElem? (i := 1846) (by decide +kernel)⟩
theorem lw_p133 : lw_okq (⟨"RankCheckerModel", "placeOfMark", "(I)I"⟩, 74) := ⟨⟨by decide +kernel, by decide +kernel⟩, List.mem_of_getElem? (i := 1393) (by decide +kernel), List.mem_of_getElem? (i := 1849) (by decide +kernel), List.mem_of_getElem? (i := 1850) (by decide +kernel)⟩
theorem lw_p134 : lw_okq (⟨"RankCheckerModel", "below", "(II)V"⟩, 74) := ⟨⟨by decide +kernel, by decide +kernel⟩, List.mem_of_getElem? (i := 1393) (by decide +kernel), List.mem_of_getElem? (i := 1853) (by decide +kernel), List.mem_of_getElem? (i := 1854) (by decide +kernel)⟩
theorem lw_p135 : lw_okq (⟨"RankCheckerModel", "isBelow", "(III)V"⟩, 74) := ⟨⟨by decide +kernel, by decide +kernel⟩, List.mem_of_getElem? (i := 1393) (by decide +kernel), List.mem_of_getElem? (i := 1857) (by decide +kernel), List.mem_of_getElem? (i := 1858) (by decide +kernel)⟩
theorem lw_p136 : lw_okq (⟨"RankCheckerModel", "freshGuess", "()I"⟩, 74) := ⟨⟨by decide +kernel, by decide +kernel⟩, List.mem_of_getElem? (i := 1393) (by decide +kernel), List.mem_of_getElem? (i := 1861) (by decide +kernel), List.mem_of_getElem? (i := 1862) (by decide +kernel)⟩
theorem lw_p137 : lw_okq (⟨"RankCheckerModel", "areSame", "(II)Z"⟩, 74) := ⟨⟨by decide +kernel, by decide +kernel⟩, List.mem_of_getElem? (i := 1393) (by decide +kernel), List.mem_of_getElem? (i := 1865) (by decide +kernel), List.mem_of_getElem? (i := 1866) (by decide +kernel)⟩
theorem lw_p138 : lw_okq (⟨"RankCheckerModel", "isOpen", "(I)Z"⟩, 74) := ⟨⟨by decide +kernel, by decide +kernel⟩, List.mem_of_getElem? (i := 1393) (by decide +kernel), List.mem_of_getElem? (i := 1869) (by decide +kernel), List.mem_of_getElem? (i := 1870) (by decide +kernel)⟩
theorem lw_p139 : lw_okq (⟨"RankCheckerModel", "hasGuess", "(II)Z"⟩, 74) := ⟨⟨by decide +kernel, by decide +kernel⟩, List.mem_of_getElem? (i := 1393) (by decide +kernel), List.mem_of_getElem? (i := 1873) (by decide +kernel), List.mem_of_getElem? (i := 1874) (by decide +kernel)⟩
theorem lw_p140 : lw_okq (⟨"RankCheckerModel", "left", "(II)V"⟩, 74) := ⟨⟨by decide +kernel, by decide +kernel⟩, List.mem_of_getElem? (i := 1393) (by decide +kernel), List.mem_of_getElem? (i := 1877) (by decide +kernel), List.mem_of_getElem? (i := 1878) (by decide +kernel)⟩
theorem lw_p141 : lw_okq (⟨"RankCheckerModel", "becomesLeft", "(III)V"⟩, 74) := ⟨⟨by decide +kernel, by decide +kernel⟩, List.mem_of_getElem? (i := 1393) (by decide +kernel), List.mem_of_getElem? (i := 1881) (by decide +kernel), List.mem_of_getElem? (i := 1882) (by decide +kernel)⟩
theorem lw_p142 : lw_okq (⟨"RankCheckerModel", "meets", "(IIII)Z"⟩, 74) := ⟨⟨by decide +kernel, by decide +kernel⟩, List.mem_of_getElem? (i := 1393) (by decide +kernel), List.mem_of_getElem? (i := 1885) (by decide +kernel), List.mem_of_getElem? (i := 1886) (by decide +kernel)⟩
theorem lw_p143 : lw_okq (⟨"RankCheckerModel", "hasAll", "(I)Z"⟩, 74) := ⟨⟨by decide +kernel, by decide +kernel⟩, List.mem_of_getElem? (i := 1393) (by decide +kernel), List.mem_of_getElem? (i := 1889) (by decide +kernel), List.mem_of_getElem? (i := 1890) (by decide +kernel)⟩
def lw_privs_9 : List (MethodName × Nat) := [(⟨"RankCheckerModel", "with", "(III)I"⟩, 74), (⟨"RankCheckerModel", "cuts", "(II)V"⟩, 74), (⟨"RankCheckerModel", "marked", "()I"⟩, 74), (⟨"RankCheckerModel", "entryOwn", "(II)V"⟩, 74), (⟨"RankCheckerModel", "cutsAt", "(I)V"⟩, 74), (⟨"RankCheckerModel", "placeOfMark", "(I)I"⟩, 74), (⟨"RankCheckerModel", "below", "(II)V"⟩, 74), (⟨"RankCheckerModel", "isBelow", "(III)V"⟩, 74), (⟨"RankCheckerModel", "freshGuess", "()I"⟩, 74), (⟨"RankCheckerModel", "areSame", "(II)Z"⟩, 74), (⟨"RankCheckerModel", "isOpen", "(I)Z"⟩, 74), (⟨"RankCheckerModel", "hasGuess", "(II)Z"⟩, 74), (⟨"RankCheckerModel", "left", "(II)V"⟩, 74), (⟨"RankCheckerModel", "becomesLeft", "(III)V"⟩, 74), (⟨"RankCheckerModel", "meets", "(IIII)Z"⟩, 74), (⟨"RankCheckerModel", "hasAll", "(I)Z"⟩, 74)]
theorem lw_r9 : ∀ q ∈ lw_privs_9, lw_okq q := List.forall_mem_cons.mpr ⟨lw_p128, List.forall_mem_cons.mpr ⟨lw_p129, List.forall_mem_cons.mpr ⟨lw_p130, List.forall_mem_cons.mpr ⟨lw_p131, List.forall_mem_cons.mpr ⟨lw_p132, List.forall_mem_cons.mpr ⟨lw_p133, List.forall_mem_cons.mpr ⟨lw_p134, List.forall_mem_cons.mpr ⟨lw_p135, List.forall_mem_cons.mpr ⟨lw_p136, List.forall_mem_cons.mpr ⟨lw_p137, List.forall_mem_cons.mpr ⟨lw_p138, List.forall_mem_cons.mpr ⟨lw_p139, List.forall_mem_cons.mpr ⟨lw_p140, List.forall_mem_cons.mpr ⟨lw_p141, List.forall_mem_cons.mpr ⟨lw_p142, List.forall_mem_cons.mpr ⟨lw_p143, fun _ h => absurd h List.not_mem_nil⟩⟩⟩⟩⟩⟩⟩⟩⟩⟩⟩⟩⟩⟩⟩⟩
theorem lw_p144 : lw_okq (⟨"RankCheckerModel", "isAhead", "(II)Z"⟩, 74) := ⟨⟨by decide +kernel, by decide +kernel⟩, List.mem_of_getElem? (i := 1393) (by decide +kernel), List.mem_of_getElem? (i := 1893) (by decide +kernel), List.mem_of_getElem? (i := 1894) (by decide +kernel)⟩
theorem lw_p145 : lw_okq (⟨"RankCheckerModel", "solves", "(II)V"⟩, 74) := ⟨⟨by decide +kernel, by decide +kernel⟩, List.mem_of_getElem? (i := 1393) (by decide +kernel), List.mem_of_getElem? (i := 1897) (by decide +kernel), List.mem_of_getElem? (i := 1898) (by decide +kernel)⟩
theorem lw_p146 : lw_okq (⟨"RankCheckerModel", "splits", "(II)I"⟩, 74) := ⟨⟨by decide +kernel, by decide +kernel⟩, List.mem_of_getElem? (i := 1393) (by decide +kernel), List.mem_of_getElem? (i := 1901) (by decide +kernel), List.mem_of_getElem? (i := 1902) (by decide +kernel)⟩
theorem lw_p147 : lw_okq (⟨"RankCheckerModel", "right", "(II)V"⟩, 74) := ⟨⟨by decide +kernel, by decide +kernel⟩, List.mem_of_getElem? (i := 1393) (by decide +kernel), List.mem_of_getElem? (i := 1905) (by decide +kernel), List.mem_of_getElem? (i := 1906) (by decide +kernel)⟩
theorem lw_p148 : lw_okq (⟨"RankCheckerModel", "becomesRight", "(III)V"⟩, 74) := ⟨⟨by decide +kernel, by decide +kernel⟩, List.mem_of_getElem? (i := 1393) (by decide +kernel), List.mem_of_getElem? (i := 1909) (by decide +kernel), List.mem_of_getElem? (i := 1910) (by decide +kernel)⟩
theorem lw_p149 : lw_okq (⟨"RankCheckerModel", "apply", "(II)I"⟩, 74) := ⟨⟨by decide +kernel, by decide +kernel⟩, List.mem_of_getElem? (i := 1393) (by decide +kernel), List.mem_of_getElem? (i := 1913) (by decide +kernel), List.mem_of_getElem? (i := 1914) (by decide +kernel)⟩
theorem lw_p150 : lw_okq (⟨"RankCheckerModel", "applies", "(III)I"⟩, 74) := ⟨⟨by decide +kernel, by decide +kernel⟩, List.mem_of_getElem? (i := 1393) (by decide +kernel), List.mem_of_getElem? (i := 1917) (by decide +kernel), List.mem_of_getElem? (i := 1918) (by decide +kernel)⟩
theorem lw_p151 : lw_okq (⟨"RankCheckerModel", "takesOut", "(I)V"⟩, 74) := ⟨⟨by decide +kernel, by decide +kernel⟩, List.mem_of_getElem? (i := 1393) (by decide +kernel), List.mem_of_getElem? (i := 1921) (by decide +kernel), List.mem_of_getElem? (i := 1922) (by decide +kernel)⟩
theorem lw_p152 : lw_okq (⟨"RankCheckerModel", "partOf", "(IZ)I"⟩, 74) := ⟨⟨by decide +kernel, by decide +kernel⟩, List.mem_of_getElem? (i := 1393) (by decide +kernel), List.mem_of_getElem? (i := 1925) (by decide +kernel), List.mem_of_getElem? (i := 1926) (by decide +kernel)⟩
theorem lw_p153 : lw_okq (⟨"RankCheckerModel", "splitsPair", "(I)I"⟩, 74) := ⟨⟨by decide +kernel, by decide +kernel⟩, List.mem_of_getElem? (i := 1393) (by decide +kernel), List.mem_of_getElem? (i := 1929) (by decide +kernel), List.mem_of_getElem? (i := 1930) (by decide +kernel)⟩
theorem lw_p154 : lw_okq (⟨"RankCheckerModel", "counted", "()I"⟩, 74) := ⟨⟨by decide +kernel, by decide +kernel⟩, List.mem_of_getElem? (i := 1393) (by decide +kernel), List.mem_of_getElem? (i := 1933) (by decide +kernel), List.mem_of_getElem? (i := 1934) (by decide +kernel)⟩
theorem lw_p155 : lw_okq (⟨"RankCheckerModel", "hasType", "()Z"⟩, 74) := ⟨⟨by decide +kernel, by decide +kernel⟩, List.mem_of_getElem? (i := 1393) (by decide +kernel), List.mem_of_getElem? (i := 1945) (by decide +kernel), List.mem_of_getElem? (i := 1946) (by decide +kernel)⟩
theorem lw_p156 : lw_okq (⟨"RankCheckerModel", "tellsType", "(II)I"⟩, 74) := ⟨⟨by decide +kernel, by decide +kernel⟩, List.mem_of_getElem? (i := 1393) (by decide +kernel), List.mem_of_getElem? (i := 1949) (by decide +kernel), List.mem_of_getElem? (i := 1950) (by decide +kernel)⟩
theorem lw_p157 : lw_okq (⟨"RankCheckerModel", "writesType", "(I)V"⟩, 74) := ⟨⟨by decide +kernel, by decide +kernel⟩, List.mem_of_getElem? (i := 1393) (by decide +kernel), List.mem_of_getElem? (i := 1953) (by decide +kernel), List.mem_of_getElem? (i := 1954) (by decide +kernel)⟩
theorem lw_p158 : lw_okq (⟨"RankCheckerModel", "writes", "(I)V"⟩, 74) := ⟨⟨by decide +kernel, by decide +kernel⟩, List.mem_of_getElem? (i := 1393) (by decide +kernel), List.mem_of_getElem? (i := 1957) (by decide +kernel), List.mem_of_getElem? (i := 1958) (by decide +kernel)⟩
theorem lw_p159 : lw_okq (⟨"RankCheckerModel", "openOf", "(I)I"⟩, 74) := ⟨⟨by decide +kernel, by decide +kernel⟩, List.mem_of_getElem? (i := 1393) (by decide +kernel), List.mem_of_getElem? (i := 1968) (by decide +kernel), List.mem_of_getElem? (i := 1969) (by decide +kernel)⟩
def lw_privs_10 : List (MethodName × Nat) := [(⟨"RankCheckerModel", "isAhead", "(II)Z"⟩, 74), (⟨"RankCheckerModel", "solves", "(II)V"⟩, 74), (⟨"RankCheckerModel", "splits", "(II)I"⟩, 74), (⟨"RankCheckerModel", "right", "(II)V"⟩, 74), (⟨"RankCheckerModel", "becomesRight", "(III)V"⟩, 74), (⟨"RankCheckerModel", "apply", "(II)I"⟩, 74), (⟨"RankCheckerModel", "applies", "(III)I"⟩, 74), (⟨"RankCheckerModel", "takesOut", "(I)V"⟩, 74), (⟨"RankCheckerModel", "partOf", "(IZ)I"⟩, 74), (⟨"RankCheckerModel", "splitsPair", "(I)I"⟩, 74), (⟨"RankCheckerModel", "counted", "()I"⟩, 74), (⟨"RankCheckerModel", "hasType", "()Z"⟩, 74), (⟨"RankCheckerModel", "tellsType", "(II)I"⟩, 74), (⟨"RankCheckerModel", "writesType", "(I)V"⟩, 74), (⟨"RankCheckerModel", "writes", "(I)V"⟩, 74), (⟨"RankCheckerModel", "openOf", "(I)I"⟩, 74)]
theorem lw_r10 : ∀ q ∈ lw_privs_10, lw_okq q := List.forall_mem_cons.mpr ⟨lw_p144, List.forall_mem_cons.mpr ⟨lw_p145, List.forall_mem_cons.mpr ⟨lw_p146, List.forall_mem_cons.mpr ⟨lw_p147, List.forall_mem_cons.mpr ⟨lw_p148, List.forall_mem_cons.mpr ⟨lw_p149, List.forall_mem_cons.mpr ⟨lw_p150, List.forall_mem_cons.mpr ⟨lw_p151, List.forall_mem_cons.mpr ⟨lw_p152, List.forall_mem_cons.mpr ⟨lw_p153, List.forall_mem_cons.mpr ⟨lw_p154, List.forall_mem_cons.mpr ⟨lw_p155, List.forall_mem_cons.mpr ⟨lw_p156, List.forall_mem_cons.mpr ⟨lw_p157, List.forall_mem_cons.mpr ⟨lw_p158, List.forall_mem_cons.mpr ⟨lw_p159, fun _ h => absurd h List.not_mem_nil⟩⟩⟩⟩⟩⟩⟩⟩⟩⟩⟩⟩⟩⟩⟩⟩
theorem lw_p160 : lw_okq (⟨"RankCheckerModel", "rank", "(I)I"⟩, 74) := ⟨⟨by decide +kernel, by decide +kernel⟩, List.mem_of_getElem? (i := 1393) (by decide +kernel), List.mem_of_getElem? (i := 1972) (by decide +kernel), List.mem_of_getElem? (i := 1973) (by decide +kernel)⟩
theorem lw_p161 : lw_okq (⟨"RankCheckerModel", "isEntry", "(I)Z"⟩, 74) := ⟨⟨by decide +kernel, by decide +kernel⟩, List.mem_of_getElem? (i := 1393) (by decide +kernel), List.mem_of_getElem? (i := 1985) (by decide +kernel), List.mem_of_getElem? (i := 1986) (by decide +kernel)⟩
theorem lw_p162 : lw_okq (⟨"RankCheckerModel", "isOnShelf", "(I)Z"⟩, 74) := ⟨⟨by decide +kernel, by decide +kernel⟩, List.mem_of_getElem? (i := 1393) (by decide +kernel), List.mem_of_getElem? (i := 2003) (by decide +kernel), List.mem_of_getElem? (i := 2004) (by decide +kernel)⟩
theorem lw_p163 : lw_okq (⟨"RankCheckerModel", "encodes", "(II)V"⟩, 74) := ⟨⟨by decide +kernel, by decide +kernel⟩, List.mem_of_getElem? (i := 1393) (by decide +kernel), List.mem_of_getElem? (i := 2007) (by decide +kernel), List.mem_of_getElem? (i := 2008) (by decide +kernel)⟩
theorem lw_p164 : lw_okq (⟨"RankCheckerModel", "tellsOf", "(II)I"⟩, 74) := ⟨⟨by decide +kernel, by decide +kernel⟩, List.mem_of_getElem? (i := 1393) (by decide +kernel), List.mem_of_getElem? (i := 2022) (by decide +kernel), List.mem_of_getElem? (i := 2023) (by decide +kernel)⟩
theorem lw_p165 : lw_okq (⟨"RankCheckerModel", "allsIn", "(I)I"⟩, 74) := ⟨⟨by decide +kernel, by decide +kernel⟩, List.mem_of_getElem? (i := 1393) (by decide +kernel), List.mem_of_getElem? (i := 2026) (by decide +kernel), List.mem_of_getElem? (i := 2027) (by decide +kernel)⟩
theorem lw_p166 : lw_okq (⟨"RankCheckerModel", "laysAside", "()V"⟩, 74) := ⟨⟨by decide +kernel, by decide +kernel⟩, List.mem_of_getElem? (i := 1393) (by decide +kernel), List.mem_of_getElem? (i := 2038) (by decide +kernel), List.mem_of_getElem? (i := 2039) (by decide +kernel)⟩
theorem lw_p167 : lw_okq (⟨"RankCheckerModel", "takesBack", "()V"⟩, 74) := ⟨⟨by decide +kernel, by decide +kernel⟩, List.mem_of_getElem? (i := 1393) (by decide +kernel), List.mem_of_getElem? (i := 2042) (by decide +kernel), List.mem_of_getElem? (i := 2043) (by decide +kernel)⟩
theorem lw_p168 : lw_okq (⟨"RankCheckerModel", "judgesNoted", "(II)I"⟩, 74) := ⟨⟨by decide +kernel, by decide +kernel⟩, List.mem_of_getElem? (i := 1393) (by decide +kernel), List.mem_of_getElem? (i := 2050) (by decide +kernel), List.mem_of_getElem? (i := 2051) (by decide +kernel)⟩
theorem lw_p169 : lw_okq (⟨"RankCheckerModel", "areAlike", "()Z"⟩, 74) := ⟨⟨by decide +kernel, by decide +kernel⟩, List.mem_of_getElem? (i := 1393) (by decide +kernel), List.mem_of_getElem? (i := 2059) (by decide +kernel), List.mem_of_getElem? (i := 2060) (by decide +kernel)⟩
theorem lw_p170 : lw_okq (⟨"RankCheckerModel", "works", "(II)I"⟩, 74) := ⟨⟨by decide +kernel, by decide +kernel⟩, List.mem_of_getElem? (i := 1393) (by decide +kernel), List.mem_of_getElem? (i := 2067) (by decide +kernel), List.mem_of_getElem? (i := 2068) (by decide +kernel)⟩
theorem lw_p171 : lw_okq (⟨"RankCheckerModel", "worksName", "(II)I"⟩, 74) := ⟨⟨by decide +kernel, by decide +kernel⟩, List.mem_of_getElem? (i := 1393) (by decide +kernel), List.mem_of_getElem? (i := 2071) (by decide +kernel), List.mem_of_getElem? (i := 2072) (by decide +kernel)⟩
theorem lw_p172 : lw_okq (⟨"RankCheckerModel", "sticks", "()I"⟩, 74) := ⟨⟨by decide +kernel, by decide +kernel⟩, List.mem_of_getElem? (i := 1393) (by decide +kernel), List.mem_of_getElem? (i := 2075) (by decide +kernel), List.mem_of_getElem? (i := 2076) (by decide +kernel)⟩
theorem lw_p173 : lw_okq (⟨"RankCheckerModel", "value", "(III)I"⟩, 74) := ⟨⟨by decide +kernel, by decide +kernel⟩, List.mem_of_getElem? (i := 1393) (by decide +kernel), List.mem_of_getElem? (i := 2079) (by decide +kernel), List.mem_of_getElem? (i := 2080) (by decide +kernel)⟩
theorem lw_p174 : lw_okq (⟨"RankCheckerModel", "is", "(II)Z"⟩, 74) := ⟨⟨by decide +kernel, by decide +kernel⟩, List.mem_of_getElem? (i := 1393) (by decide +kernel), List.mem_of_getElem? (i := 2084) (by decide +kernel), List.mem_of_getElem? (i := 2085) (by decide +kernel)⟩
theorem lw_p175 : lw_okq (⟨"RankCheckerModel", "linked", "(III)I"⟩, 74) := ⟨⟨by decide +kernel, by decide +kernel⟩, List.mem_of_getElem? (i := 1393) (by decide +kernel), List.mem_of_getElem? (i := 2088) (by decide +kernel), List.mem_of_getElem? (i := 2089) (by decide +kernel)⟩
def lw_privs_11 : List (MethodName × Nat) := [(⟨"RankCheckerModel", "rank", "(I)I"⟩, 74), (⟨"RankCheckerModel", "isEntry", "(I)Z"⟩, 74), (⟨"RankCheckerModel", "isOnShelf", "(I)Z"⟩, 74), (⟨"RankCheckerModel", "encodes", "(II)V"⟩, 74), (⟨"RankCheckerModel", "tellsOf", "(II)I"⟩, 74), (⟨"RankCheckerModel", "allsIn", "(I)I"⟩, 74), (⟨"RankCheckerModel", "laysAside", "()V"⟩, 74), (⟨"RankCheckerModel", "takesBack", "()V"⟩, 74), (⟨"RankCheckerModel", "judgesNoted", "(II)I"⟩, 74), (⟨"RankCheckerModel", "areAlike", "()Z"⟩, 74), (⟨"RankCheckerModel", "works", "(II)I"⟩, 74), (⟨"RankCheckerModel", "worksName", "(II)I"⟩, 74), (⟨"RankCheckerModel", "sticks", "()I"⟩, 74), (⟨"RankCheckerModel", "value", "(III)I"⟩, 74), (⟨"RankCheckerModel", "is", "(II)Z"⟩, 74), (⟨"RankCheckerModel", "linked", "(III)I"⟩, 74)]
theorem lw_r11 : ∀ q ∈ lw_privs_11, lw_okq q := List.forall_mem_cons.mpr ⟨lw_p160, List.forall_mem_cons.mpr ⟨lw_p161, List.forall_mem_cons.mpr ⟨lw_p162, List.forall_mem_cons.mpr ⟨lw_p163, List.forall_mem_cons.mpr ⟨lw_p164, List.forall_mem_cons.mpr ⟨lw_p165, List.forall_mem_cons.mpr ⟨lw_p166, List.forall_mem_cons.mpr ⟨lw_p167, List.forall_mem_cons.mpr ⟨lw_p168, List.forall_mem_cons.mpr ⟨lw_p169, List.forall_mem_cons.mpr ⟨lw_p170, List.forall_mem_cons.mpr ⟨lw_p171, List.forall_mem_cons.mpr ⟨lw_p172, List.forall_mem_cons.mpr ⟨lw_p173, List.forall_mem_cons.mpr ⟨lw_p174, List.forall_mem_cons.mpr ⟨lw_p175, fun _ h => absurd h List.not_mem_nil⟩⟩⟩⟩⟩⟩⟩⟩⟩⟩⟩⟩⟩⟩⟩⟩
theorem lw_p176 : lw_okq (⟨"RankCheckerModel", "worksBoth", "(II)I"⟩, 74) := ⟨⟨by decide +kernel, by decide +kernel⟩, List.mem_of_getElem? (i := 1393) (by decide +kernel), List.mem_of_getElem? (i := 2092) (by decide +kernel), List.mem_of_getElem? (i := 2093) (by decide +kernel)⟩
def lw_privs_12 : List (MethodName × Nat) := [(⟨"RankCheckerModel", "worksBoth", "(II)I"⟩, 74)]
theorem lw_r12 : ∀ q ∈ lw_privs_12, lw_okq q := List.forall_mem_cons.mpr ⟨lw_p176, fun _ h => absurd h List.not_mem_nil⟩
def lw_privs : List (MethodName × Nat) := lw_privs_1 ++ (lw_privs_2 ++ (lw_privs_3 ++ (lw_privs_4 ++ (lw_privs_5 ++ (lw_privs_6 ++ (lw_privs_7 ++ (lw_privs_8 ++ (lw_privs_9 ++ (lw_privs_10 ++ (lw_privs_11 ++ (lw_privs_12)))))))))))
def lw_tbl : List Cond := k2_sels lw_privs ++ tables_1
theorem lw_privs_ok : ∀ q ∈ lw_privs, lw_okq q := by
  show ∀ q ∈ lw_privs_1 ++ (lw_privs_2 ++ (lw_privs_3 ++ (lw_privs_4 ++ (lw_privs_5 ++ (lw_privs_6 ++ (lw_privs_7 ++ (lw_privs_8 ++ (lw_privs_9 ++ (lw_privs_10 ++ (lw_privs_11 ++ (lw_privs_12))))))))))), lw_okq q
  exact List.forall_mem_append.mpr ⟨lw_r1, List.forall_mem_append.mpr ⟨lw_r2, List.forall_mem_append.mpr ⟨lw_r3, List.forall_mem_append.mpr ⟨lw_r4, List.forall_mem_append.mpr ⟨lw_r5, List.forall_mem_append.mpr ⟨lw_r6, List.forall_mem_append.mpr ⟨lw_r7, List.forall_mem_append.mpr ⟨lw_r8, List.forall_mem_append.mpr ⟨lw_r9, List.forall_mem_append.mpr ⟨lw_r10, List.forall_mem_append.mpr ⟨lw_r11, lw_r12⟩⟩⟩⟩⟩⟩⟩⟩⟩⟩⟩
-- ===== end of PART A; then your names; then what follows =====
end
section
def RX0 : String := "RankChecker$Context"
def TX0 : u_T := fun k => match k with
  | 0 => ("RankChecker$Context", "kinds", "[I", true)
  | 1 => ("RankChecker$Context", "numbers", "[I", true)
  | 2 => ("RankChecker$Context", "types", "[I", true)
  | 3 => ("RankChecker$Context", "kept", "LRankChecker$Row;", true)
  | 4 => ("RankChecker$Context", "size", "I", false)
  | 5 => ("RankChecker$Context", "guesses", "I", false)
  | 6 => ("RankChecker$Context", "constants", "I", false)
  | 7 => ("RankChecker$Context", "full", "Z", false)
  | 8 => ("RankChecker$Context", "resumes", "[I", true)
  | _ => ("RankChecker$Context", "stops", "[I", true)
def tyX0 : Nat → FieldType := fun k => match k with
  | 0 => .array .int
  | 1 => .array .int
  | 2 => .array .int
  | 3 => .object "RankChecker$Row"
  | 4 => .int
  | 5 => .int
  | 6 => .int
  | 7 => .boolean
  | 8 => .array .int
  | _ => .array .int
abbrev wsX00 : List Cond := u_ws RX0 TX0 10
theorem nmX0 : ∀ a, a < 10 → ∀ b, b < 10 → a ≠ b → (TX0 a).2.1 ≠ (TX0 b).2.1 := by decide +kernel
theorem tyX0_ok : ∀ k, k < 10 → parseFieldDescriptor (TX0 k).2.2.1 = some (tyX0 k) := by decide +kernel
abbrev cX0_init : ByteArray := prog_2_method_1_code
def yX0_init : MethodName := ⟨RX0, "<init>", "()V"⟩
abbrev cX0_clear : ByteArray := prog_2_method_2_code
def yX0_clear : MethodName := ⟨RX0, "clear", "()V"⟩
abbrev cX0_lengthOf : ByteArray := prog_2_method_3_code
def yX0_lengthOf : MethodName := ⟨RX0, "lengthOf", "(I)I"⟩
abbrev cX0_put : ByteArray := prog_2_method_4_code
def yX0_put : MethodName := ⟨RX0, "put", "(IIII)V"⟩
abbrev cX0_addConstant : ByteArray := prog_2_method_5_code
def yX0_addConstant : MethodName := ⟨RX0, "addConstant", "()I"⟩
abbrev cX0_addGuess : ByteArray := prog_2_method_6_code
def yX0_addGuess : MethodName := ⟨RX0, "addGuess", "()I"⟩
abbrev cX0_addMark : ByteArray := prog_2_method_7_code
def yX0_addMark : MethodName := ⟨RX0, "addMark", "()V"⟩
abbrev cX0_addName : ByteArray := prog_2_method_8_code
def yX0_addName : MethodName := ⟨RX0, "addName", "(ILRankChecker$Row;II)V"⟩
abbrev cX0_addGuessedName : ByteArray := prog_2_method_9_code
def yX0_addGuessedName : MethodName := ⟨RX0, "addGuessedName", "(II)V"⟩
abbrev cX0_placeOf : ByteArray := prog_2_method_10_code
def yX0_placeOf : MethodName := ⟨RX0, "placeOf", "(II)I"⟩
abbrev cX0_openPlace : ByteArray := prog_2_method_11_code
def yX0_openPlace : MethodName := ⟨RX0, "openPlace", "(I)I"⟩
abbrev cX0_standsAhead : ByteArray := prog_2_method_12_code
def yX0_standsAhead : MethodName := ⟨RX0, "standsAhead", "(II)Z"⟩
abbrev cX0_allAhead : ByteArray := prog_2_method_13_code
def yX0_allAhead : MethodName := ⟨RX0, "allAhead", "(LRankChecker$Row;I)Z"⟩
abbrev cX0_nameType : ByteArray := prog_2_method_14_code
def yX0_nameType : MethodName := ⟨RX0, "nameType", "(I)I"⟩
abbrev cX0_cutAt : ByteArray := prog_2_method_15_code
def yX0_cutAt : MethodName := ⟨RX0, "cutAt", "(II)V"⟩
abbrev cX0_removeName : ByteArray := prog_2_method_16_code
def yX0_removeName : MethodName := ⟨RX0, "removeName", "(I)V"⟩
abbrev cX0_solve : ByteArray := prog_2_method_17_code
def yX0_solve : MethodName := ⟨RX0, "solve", "(ILRankChecker$Row;)V"⟩
abbrev cX0_solveAs : ByteArray := prog_2_method_18_code
def yX0_solveAs : MethodName := ⟨RX0, "solveAs", "(II)V"⟩
abbrev cX0_split : ByteArray := prog_2_method_19_code
def yX0_split : MethodName := ⟨RX0, "split", "(II)I"⟩
abbrev cX0_solvedType : ByteArray := prog_2_method_20_code
def yX0_solvedType : MethodName := ⟨RX0, "solvedType", "(I)I"⟩
abbrev cX0_take : ByteArray := prog_2_method_21_code
def yX0_take : MethodName := ⟨RX0, "take", "([IIILRankChecker$Row;)V"⟩
def RX1 : String := "RankChecker$Judge"
def TX1 : u_T := fun k => match k with
  | 0 => ("RankChecker$Judge", "todo", "LRankChecker$Todo;", true)
  | 1 => ("RankChecker$Judge", "left", "LRankChecker$Row;", true)
  | 2 => ("RankChecker$Judge", "right", "LRankChecker$Row;", true)
  | 3 => ("RankChecker$Judge", "out", "LRankChecker$Row;", true)
  | 4 => ("RankChecker$Judge", "finding", "LRankChecker$Judgement;", false)
  | 5 => ("RankChecker$Judge", "context", "LRankChecker$Context;", false)
  | 6 => ("RankChecker$Judge", "term", "LRankChecker$Term;", false)
  | 7 => ("RankChecker$Judge", "limit", "I", false)
  | 8 => ("RankChecker$Judge", "inner", "I", false)
  | _ => ("RankChecker$Judge", "begunAt", "I", false)
def tyX1 : Nat → FieldType := fun k => match k with
  | 0 => .object "RankChecker$Todo"
  | 1 => .object "RankChecker$Row"
  | 2 => .object "RankChecker$Row"
  | 3 => .object "RankChecker$Row"
  | 4 => .object "RankChecker$Judgement"
  | 5 => .object "RankChecker$Context"
  | 6 => .object "RankChecker$Term"
  | 7 => .int
  | 8 => .int
  | _ => .int
abbrev wsX10 : List Cond := u_ws RX1 TX1 10
theorem nmX1 : ∀ a, a < 10 → ∀ b, b < 10 → a ≠ b → (TX1 a).2.1 ≠ (TX1 b).2.1 := by decide +kernel
theorem tyX1_ok : ∀ k, k < 10 → parseFieldDescriptor (TX1 k).2.2.1 = some (tyX1 k) := by decide +kernel
abbrev cX1_init : ByteArray := prog_3_method_1_code
def yX1_init : MethodName := ⟨RX1, "<init>", "(LRankChecker$Judgement;LRankChecker$Term;)V"⟩
abbrev cX1_start : ByteArray := prog_3_method_2_code
def yX1_start : MethodName := ⟨RX1, "start", "(LRankChecker$Judgement;ZI)V"⟩
abbrev cX1_startTerm : ByteArray := prog_3_method_3_code
def yX1_startTerm : MethodName := ⟨RX1, "startTerm", "(LRankChecker$Judgement;LRankChecker$Term;LRankChecker$Shelf;I)V"⟩
abbrev cX1_startTypes : ByteArray := prog_3_method_4_code
def yX1_startTypes : MethodName := ⟨RX1, "startTypes", "(LRankChecker$Judgement;LRankChecker$Row;LRankChecker$Row;)V"⟩
abbrev cX1_run : ByteArray := prog_3_method_5_code
def yX1_run : MethodName := ⟨RX1, "run", "()V"⟩
abbrev cX1_finish : ByteArray := prog_3_method_6_code
def yX1_finish : MethodName := ⟨RX1, "finish", "()V"⟩
abbrev cX1_fail : ByteArray := prog_3_method_7_code
def yX1_fail : MethodName := ⟨RX1, "fail", "()V"⟩
abbrev cX1_begin : ByteArray := prog_3_method_8_code
def yX1_begin : MethodName := ⟨RX1, "begin", "()V"⟩
abbrev cX1_takeTypes : ByteArray := prog_3_method_9_code
def yX1_takeTypes : MethodName := ⟨RX1, "takeTypes", "()Z"⟩
abbrev cX1_takeHeld : ByteArray := prog_3_method_10_code
def yX1_takeHeld : MethodName := ⟨RX1, "takeHeld", "(ILRankChecker$Row;)V"⟩
abbrev cX1_hold : ByteArray := prog_3_method_11_code
def yX1_hold : MethodName := ⟨RX1, "hold", "(LRankChecker$Row;)I"⟩
abbrev cX1_pushCheck : ByteArray := prog_3_method_12_code
def yX1_pushCheck : MethodName := ⟨RX1, "pushCheck", "(II)V"⟩
abbrev cX1_pushInfer : ByteArray := prog_3_method_13_code
def yX1_pushInfer : MethodName := ⟨RX1, "pushInfer", "(I)V"⟩
abbrev cX1_pushBelow : ByteArray := prog_3_method_14_code
def yX1_pushBelow : MethodName := ⟨RX1, "pushBelow", "(I)V"⟩
abbrev cX1_pushSolve : ByteArray := prog_3_method_15_code
def yX1_pushSolve : MethodName := ⟨RX1, "pushSolve", "(IIII)V"⟩
abbrev cX1_pushCut : ByteArray := prog_3_method_16_code
def yX1_pushCut : MethodName := ⟨RX1, "pushCut", "(II)V"⟩
abbrev cX1_pushGoOn : ByteArray := prog_3_method_17_code
def yX1_pushGoOn : MethodName := ⟨RX1, "pushGoOn", "(III)V"⟩
abbrev cX1_check : ByteArray := prog_3_method_18_code
def yX1_check : MethodName := ⟨RX1, "check", "(I)I"⟩
abbrev cX1_checkAll : ByteArray := prog_3_method_19_code
def yX1_checkAll : MethodName := ⟨RX1, "checkAll", "(I)I"⟩
abbrev cX1_checkFunction : ByteArray := prog_3_method_20_code
def yX1_checkFunction : MethodName := ⟨RX1, "checkFunction", "(I)I"⟩
abbrev cX1_checkPair : ByteArray := prog_3_method_21_code
def yX1_checkPair : MethodName := ⟨RX1, "checkPair", "(I)I"⟩
abbrev cX1_checkIf : ByteArray := prog_3_method_22_code
def yX1_checkIf : MethodName := ⟨RX1, "checkIf", "(I)I"⟩
abbrev cX1_checkLet : ByteArray := prog_3_method_23_code
def yX1_checkLet : MethodName := ⟨RX1, "checkLet", "(I)I"⟩
abbrev cX1_checkInferred : ByteArray := prog_3_method_24_code
def yX1_checkInferred : MethodName := ⟨RX1, "checkInferred", "(I)I"⟩
abbrev cX1_infer : ByteArray := prog_3_method_25_code
def yX1_infer : MethodName := ⟨RX1, "infer", "(I)I"⟩
abbrev cX1_inferName : ByteArray := prog_3_method_26_code
def yX1_inferName : MethodName := ⟨RX1, "inferName", "(I)I"⟩
abbrev cX1_inferSign : ByteArray := prog_3_method_27_code
def yX1_inferSign : MethodName := ⟨RX1, "inferSign", "(I)I"⟩
abbrev cX1_inferNoted : ByteArray := prog_3_method_28_code
def yX1_inferNoted : MethodName := ⟨RX1, "inferNoted", "(I)I"⟩
abbrev cX1_inferFunction : ByteArray := prog_3_method_29_code
def yX1_inferFunction : MethodName := ⟨RX1, "inferFunction", "(I)I"⟩
abbrev cX1_inferLet : ByteArray := prog_3_method_30_code
def yX1_inferLet : MethodName := ⟨RX1, "inferLet", "(I)I"⟩
abbrev cX1_inferOfNumbers : ByteArray := prog_3_method_31_code
def yX1_inferOfNumbers : MethodName := ⟨RX1, "inferOfNumbers", "(II)I"⟩
abbrev cX1_apply : ByteArray := prog_3_method_32_code
def yX1_apply : MethodName := ⟨RX1, "apply", "(I)I"⟩
abbrev cX1_openGuess : ByteArray := prog_3_method_33_code
def yX1_openGuess : MethodName := ⟨RX1, "openGuess", "(LRankChecker$Row;)I"⟩
abbrev cX1_compareHeads : ByteArray := prog_3_method_34_code
def yX1_compareHeads : MethodName := ⟨RX1, "compareHeads", "()I"⟩
abbrev cX1_compareParts : ByteArray := prog_3_method_35_code
def yX1_compareParts : MethodName := ⟨RX1, "compareParts", "()I"⟩
abbrev cX1_solve : ByteArray := prog_3_method_36_code
def yX1_solve : MethodName := ⟨RX1, "solve", "(II)I"⟩
abbrev cX1_solveParts : ByteArray := prog_3_method_37_code
def yX1_solveParts : MethodName := ⟨RX1, "solveParts", "(III)V"⟩
abbrev cX1_solveAll : ByteArray := prog_3_method_38_code
def yX1_solveAll : MethodName := ⟨RX1, "solveAll", "(II)V"⟩
abbrev cX1_openConstant : ByteArray := prog_3_method_39_code
def yX1_openConstant : MethodName := ⟨RX1, "openConstant", "(LRankChecker$Row;)V"⟩
abbrev cX1_openMarked : ByteArray := prog_3_method_40_code
def yX1_openMarked : MethodName := ⟨RX1, "openMarked", "(LRankChecker$Row;)V"⟩
abbrev cX1_goOn : ByteArray := prog_3_method_41_code
def yX1_goOn : MethodName := ⟨RX1, "goOn", "()V"⟩
abbrev cX1_takeOut : ByteArray := prog_3_method_42_code
def yX1_takeOut : MethodName := ⟨RX1, "takeOut", "()Z"⟩
abbrev cX1_bind : ByteArray := prog_3_method_43_code
def yX1_bind : MethodName := ⟨RX1, "bind", "(I)V"⟩
abbrev cX1_give : ByteArray := prog_3_method_44_code
def yX1_give : MethodName := ⟨RX1, "give", "(I)V"⟩
abbrev cX1_putHeld : ByteArray := prog_3_method_45_code
def yX1_putHeld : MethodName := ⟨RX1, "putHeld", "(ILRankChecker$Row;)V"⟩
abbrev cX1_giveArrow : ByteArray := prog_3_method_46_code
def yX1_giveArrow : MethodName := ⟨RX1, "giveArrow", "(I)V"⟩
abbrev cX1_outBelow : ByteArray := prog_3_method_47_code
def yX1_outBelow : MethodName := ⟨RX1, "outBelow", "(I)V"⟩
abbrev cX1_outElse : ByteArray := prog_3_method_48_code
def yX1_outElse : MethodName := ⟨RX1, "outElse", "(I)V"⟩
abbrev cX1_outSecond : ByteArray := prog_3_method_49_code
def yX1_outSecond : MethodName := ⟨RX1, "outSecond", "(I)V"⟩
abbrev cX1_outPair : ByteArray := prog_3_method_50_code
def yX1_outPair : MethodName := ⟨RX1, "outPair", "(I)V"⟩
abbrev cX1_outPart : ByteArray := prog_3_method_51_code
def yX1_outPart : MethodName := ⟨RX1, "outPart", "(Z)V"⟩
def RX2 : String := "RankChecker$Judgement"
def TX2 : u_T := fun k => match k with
  | 0 => ("RankChecker$Judgement", "context", "LRankChecker$Context;", true)
  | 1 => ("RankChecker$Judgement", "notes", "[I", true)
  | 2 => ("RankChecker$Judgement", "found", "LRankChecker$Row;", true)
  | 3 => ("RankChecker$Judgement", "verdict", "I", false)
  | 4 => ("RankChecker$Judgement", "steps", "I", false)
  | 5 => ("RankChecker$Judgement", "mostEntries", "I", false)
  | 6 => ("RankChecker$Judgement", "failedAt", "I", false)
  | 7 => ("RankChecker$Judgement", "ofTerm", "Z", false)
  | _ => ("RankChecker$Judgement", "kept", "Z", false)
def tyX2 : Nat → FieldType := fun k => match k with
  | 0 => .object "RankChecker$Context"
  | 1 => .array .int
  | 2 => .object "RankChecker$Row"
  | 3 => .int
  | 4 => .int
  | 5 => .int
  | 6 => .int
  | 7 => .boolean
  | _ => .boolean
abbrev wsX20 : List Cond := u_ws RX2 TX2 9
theorem nmX2 : ∀ a, a < 9 → ∀ b, b < 9 → a ≠ b → (TX2 a).2.1 ≠ (TX2 b).2.1 := by decide +kernel
theorem tyX2_ok : ∀ k, k < 9 → parseFieldDescriptor (TX2 k).2.2.1 = some (tyX2 k) := by decide +kernel
abbrev cX2_init : ByteArray := prog_4_method_1_code
def yX2_init : MethodName := ⟨RX2, "<init>", "()V"⟩
abbrev cX2_start : ByteArray := prog_4_method_2_code
def yX2_start : MethodName := ⟨RX2, "start", "(Z)V"⟩
abbrev cX2_mayBeKept : ByteArray := prog_4_method_3_code
def yX2_mayBeKept : MethodName := ⟨RX2, "mayBeKept", "()Z"⟩
abbrev cX2_note : ByteArray := prog_4_method_4_code
def yX2_note : MethodName := ⟨RX2, "note", "(IIII)V"⟩
abbrev cX2_noteRule : ByteArray := prog_4_method_5_code
def yX2_noteRule : MethodName := ⟨RX2, "noteRule", "(I)V"⟩
def RX3 : String := "RankChecker$Reader"
def TX3 : u_T := fun k => match k with
  | 0 => ("RankChecker$Reader", "length", "I", false)
  | 1 => ("RankChecker$Reader", "first", "LRankChecker$Row;", true)
  | 2 => ("RankChecker$Reader", "second", "LRankChecker$Row;", true)
  | 3 => ("RankChecker$Reader", "tape", "[I", true)
  | 4 => ("RankChecker$Reader", "bound", "[I", true)
  | 5 => ("RankChecker$Reader", "at", "I", false)
  | 6 => ("RankChecker$Reader", "faultAt", "I", false)
  | 7 => ("RankChecker$Reader", "allsRead", "I", false)
  | 8 => ("RankChecker$Reader", "term", "LRankChecker$Term;", false)
  | _ => ("RankChecker$Reader", "goal", "LRankChecker$Row;", false)
def tyX3 : Nat → FieldType := fun k => match k with
  | 0 => .int
  | 1 => .object "RankChecker$Row"
  | 2 => .object "RankChecker$Row"
  | 3 => .array .int
  | 4 => .array .int
  | 5 => .int
  | 6 => .int
  | 7 => .int
  | 8 => .object "RankChecker$Term"
  | _ => .object "RankChecker$Row"
abbrev wsX30 : List Cond := u_ws RX3 TX3 10
theorem nmX3 : ∀ a, a < 10 → ∀ b, b < 10 → a ≠ b → (TX3 a).2.1 ≠ (TX3 b).2.1 := by decide +kernel
theorem tyX3_ok : ∀ k, k < 10 → parseFieldDescriptor (TX3 k).2.2.1 = some (tyX3 k) := by decide +kernel
abbrev cX3_init : ByteArray := prog_5_method_1_code
def yX3_init : MethodName := ⟨RX3, "<init>", "(LRankChecker$Term;)V"⟩
abbrev cX3_bytesIn : ByteArray := prog_5_method_2_code
def yX3_bytesIn : MethodName := ⟨RX3, "bytesIn", "(I)I"⟩
abbrev cX3_put : ByteArray := prog_5_method_3_code
def yX3_put : MethodName := ⟨RX3, "put", "(I)V"⟩
abbrev cX3_readTerm : ByteArray := prog_5_method_4_code
def yX3_readTerm : MethodName := ⟨RX3, "readTerm", "(LRankChecker$Term;)I"⟩
abbrev cX3_readTypes : ByteArray := prog_5_method_5_code
def yX3_readTypes : MethodName := ⟨RX3, "readTypes", "(I)I"⟩
abbrev cX3_here : ByteArray := prog_5_method_6_code
def yX3_here : MethodName := ⟨RX3, "here", "()I"⟩
abbrev cX3_nextSign : ByteArray := prog_5_method_7_code
def yX3_nextSign : MethodName := ⟨RX3, "nextSign", "()I"⟩
abbrev cX3_refuse : ByteArray := prog_5_method_8_code
def yX3_refuse : MethodName := ⟨RX3, "refuse", "()V"⟩
abbrev cX3_readEnd : ByteArray := prog_5_method_9_code
def yX3_readEnd : MethodName := ⟨RX3, "readEnd", "()V"⟩
abbrev cX3_isDigit : ByteArray := prog_5_method_10_code
def yX3_isDigit : MethodName := ⟨RX3, "isDigit", "(I)Z"⟩
abbrev cX3_isLetter : ByteArray := prog_5_method_11_code
def yX3_isLetter : MethodName := ⟨RX3, "isLetter", "(I)Z"⟩
abbrev cX3_opOf : ByteArray := prog_5_method_12_code
def yX3_opOf : MethodName := ⟨RX3, "opOf", "(I)I"⟩
abbrev cX3_readPart : ByteArray := prog_5_method_13_code
def yX3_readPart : MethodName := ⟨RX3, "readPart", "(I)V"⟩
abbrev cX3_readHead : ByteArray := prog_5_method_14_code
def yX3_readHead : MethodName := ⟨RX3, "readHead", "(III)V"⟩
abbrev cX3_readNumber : ByteArray := prog_5_method_15_code
def yX3_readNumber : MethodName := ⟨RX3, "readNumber", "()I"⟩
abbrev cX3_readLetter : ByteArray := prog_5_method_16_code
def yX3_readLetter : MethodName := ⟨RX3, "readLetter", "()I"⟩
abbrev cX3_readType : ByteArray := prog_5_method_17_code
def yX3_readType : MethodName := ⟨RX3, "readType", "(I)V"⟩
abbrev cX3_readTypePart : ByteArray := prog_5_method_18_code
def yX3_readTypePart : MethodName := ⟨RX3, "readTypePart", "(I)V"⟩
abbrev cX3_readLeaf : ByteArray := prog_5_method_19_code
def yX3_readLeaf : MethodName := ⟨RX3, "readLeaf", "(I)V"⟩
abbrev cX3_readTwo : ByteArray := prog_5_method_20_code
def yX3_readTwo : MethodName := ⟨RX3, "readTwo", "(II)V"⟩
abbrev cX3_readVariable : ByteArray := prog_5_method_21_code
def yX3_readVariable : MethodName := ⟨RX3, "readVariable", "(I)V"⟩
abbrev cX3_readAll : ByteArray := prog_5_method_22_code
def yX3_readAll : MethodName := ⟨RX3, "readAll", "(I)V"⟩
def RX4 : String := "RankChecker$Row"
def TX4 : u_T := fun k => match k with
  | 0 => ("RankChecker$Row", "signs", "[I", true)
  | 1 => ("RankChecker$Row", "length", "I", false)
  | _ => ("RankChecker$Row", "over", "Z", false)
def tyX4 : Nat → FieldType := fun k => match k with
  | 0 => .array .int
  | 1 => .int
  | _ => .boolean
abbrev wsX40 : List Cond := u_ws RX4 TX4 3
theorem nmX4 : ∀ a, a < 3 → ∀ b, b < 3 → a ≠ b → (TX4 a).2.1 ≠ (TX4 b).2.1 := by decide +kernel
theorem tyX4_ok : ∀ k, k < 3 → parseFieldDescriptor (TX4 k).2.2.1 = some (tyX4 k) := by decide +kernel
abbrev cX4_init : ByteArray := prog_6_method_1_code
def yX4_init : MethodName := ⟨RX4, "<init>", "(I)V"⟩
abbrev cX4_sign : ByteArray := prog_6_method_2_code
def yX4_sign : MethodName := ⟨RX4, "sign", "(II)I"⟩
abbrev cX4_kindOf : ByteArray := prog_6_method_3_code
def yX4_kindOf : MethodName := ⟨RX4, "kindOf", "(I)I"⟩
abbrev cX4_numberOf : ByteArray := prog_6_method_4_code
def yX4_numberOf : MethodName := ⟨RX4, "numberOf", "(I)I"⟩
abbrev cX4_partsOf : ByteArray := prog_6_method_5_code
def yX4_partsOf : MethodName := ⟨RX4, "partsOf", "(I)I"⟩
abbrev cX4_clear : ByteArray := prog_6_method_6_code
def yX4_clear : MethodName := ⟨RX4, "clear", "()V"⟩
abbrev cX4_add : ByteArray := prog_6_method_7_code
def yX4_add : MethodName := ⟨RX4, "add", "(I)V"⟩
abbrev cX4_put : ByteArray := prog_6_method_8_code
def yX4_put : MethodName := ⟨RX4, "put", "([III)V"⟩
abbrev cX4_keep : ByteArray := prog_6_method_9_code
def yX4_keep : MethodName := ⟨RX4, "keep", "(LRankChecker$Row;II)I"⟩
abbrev cX4_keepSign : ByteArray := prog_6_method_10_code
def yX4_keepSign : MethodName := ⟨RX4, "keepSign", "(I)I"⟩
abbrev cX4_keptLength : ByteArray := prog_6_method_11_code
def yX4_keptLength : MethodName := ⟨RX4, "keptLength", "(I)I"⟩
abbrev cX4_at : ByteArray := prog_6_method_12_code
def yX4_at : MethodName := ⟨RX4, "at", "(I)I"⟩
abbrev cX4_kindAt : ByteArray := prog_6_method_13_code
def yX4_kindAt : MethodName := ⟨RX4, "kindAt", "(I)I"⟩
abbrev cX4_past : ByteArray := prog_6_method_14_code
def yX4_past : MethodName := ⟨RX4, "past", "(I)I"⟩
abbrev cX4_open : ByteArray := prog_6_method_15_code
def yX4_open : MethodName := ⟨RX4, "open", "(I)V"⟩
abbrev cX4_has : ByteArray := prog_6_method_16_code
def yX4_has : MethodName := ⟨RX4, "has", "(I)Z"⟩
abbrev cX4_alls : ByteArray := prog_6_method_17_code
def yX4_alls : MethodName := ⟨RX4, "alls", "()I"⟩
abbrev cX4_same : ByteArray := prog_6_method_18_code
def yX4_same : MethodName := ⟨RX4, "same", "(LRankChecker$Row;)Z"⟩
def RX5 : String := "RankChecker$Shelf"
def TX5 : u_T := fun k => match k with
  | 0 => ("RankChecker$Shelf", "size", "I", false)
  | 1 => ("RankChecker$Shelf", "names", "[I", true)
  | 2 => ("RankChecker$Shelf", "opened", "[I", true)
  | 3 => ("RankChecker$Shelf", "types", "[LRankChecker$Row;", true)
  | _ => ("RankChecker$Shelf", "terms", "[LRankChecker$Term;", true)
def tyX5 : Nat → FieldType := fun k => match k with
  | 0 => .int
  | 1 => .array .int
  | 2 => .array .int
  | 3 => .array (.object "RankChecker$Row")
  | _ => .array (.object "RankChecker$Term")
abbrev wsX50 : List Cond := u_ws RX5 TX5 5
theorem nmX5 : ∀ a, a < 5 → ∀ b, b < 5 → a ≠ b → (TX5 a).2.1 ≠ (TX5 b).2.1 := by decide +kernel
theorem tyX5_ok : ∀ k, k < 5 → parseFieldDescriptor (TX5 k).2.2.1 = some (tyX5 k) := by decide +kernel
abbrev cX5_init : ByteArray := prog_7_method_1_code
def yX5_init : MethodName := ⟨RX5, "<init>", "()V"⟩
abbrev cX5_has : ByteArray := prog_7_method_2_code
def yX5_has : MethodName := ⟨RX5, "has", "(I)Z"⟩
abbrev cX5_placeOf : ByteArray := prog_7_method_3_code
def yX5_placeOf : MethodName := ⟨RX5, "placeOf", "(I)I"⟩
abbrev cX5_takes : ByteArray := prog_7_method_4_code
def yX5_takes : MethodName := ⟨RX5, "takes", "(I)Z"⟩
abbrev cX5_put : ByteArray := prog_7_method_5_code
def yX5_put : MethodName := ⟨RX5, "put", "(ILRankChecker$Term;I)LRankChecker$Row;"⟩
def RX6 : String := "RankChecker$Teller"
def TX6 : u_T := fun k => match k with
  | 0 => ("RankChecker$Teller", "text", "[I", true)
  | 1 => ("RankChecker$Teller", "length", "I", false)
  | 2 => ("RankChecker$Teller", "variables", "[I", true)
  | 3 => ("RankChecker$Teller", "seen", "[I", true)
  | _ => ("RankChecker$Teller", "ranks", "[I", true)
def tyX6 : Nat → FieldType := fun k => match k with
  | 0 => .array .int
  | 1 => .int
  | 2 => .array .int
  | 3 => .array .int
  | _ => .array .int
abbrev wsX60 : List Cond := u_ws RX6 TX6 5
theorem nmX6 : ∀ a, a < 5 → ∀ b, b < 5 → a ≠ b → (TX6 a).2.1 ≠ (TX6 b).2.1 := by decide +kernel
theorem tyX6_ok : ∀ k, k < 5 → parseFieldDescriptor (TX6 k).2.2.1 = some (tyX6 k) := by decide +kernel
abbrev cX6_init : ByteArray := prog_8_method_1_code
def yX6_init : MethodName := ⟨RX6, "<init>", "()V"⟩
abbrev cX6_told : ByteArray := prog_8_method_2_code
def yX6_told : MethodName := ⟨RX6, "told", "([IIII)I"⟩
abbrev cX6_write : ByteArray := prog_8_method_3_code
def yX6_write : MethodName := ⟨RX6, "write", "(I)V"⟩
abbrev cX6_plain : ByteArray := prog_8_method_4_code
def yX6_plain : MethodName := ⟨RX6, "plain", "(I)I"⟩
abbrev cX6_name : ByteArray := prog_8_method_5_code
def yX6_name : MethodName := ⟨RX6, "name", "(II)V"⟩
abbrev cX6_nameOf : ByteArray := prog_8_method_6_code
def yX6_nameOf : MethodName := ⟨RX6, "nameOf", "(I)I"⟩
abbrev cX6_see : ByteArray := prog_8_method_7_code
def yX6_see : MethodName := ⟨RX6, "see", "(II)I"⟩
abbrev cX6_orderOf : ByteArray := prog_8_method_8_code
def yX6_orderOf : MethodName := ⟨RX6, "orderOf", "(II)I"⟩
abbrev cX6_guessesIn : ByteArray := prog_8_method_9_code
def yX6_guessesIn : MethodName := ⟨RX6, "guessesIn", "(LRankChecker$Row;)I"⟩
abbrev cX6_close : ByteArray := prog_8_method_10_code
def yX6_close : MethodName := ⟨RX6, "close", "(LRankChecker$Row;LRankChecker$Row;)V"⟩
abbrev cX6_rank : ByteArray := prog_8_method_11_code
def yX6_rank : MethodName := ⟨RX6, "rank", "([III)I"⟩
def RX7 : String := "RankChecker$Term"
def TX7 : u_T := fun k => match k with
  | 0 => ("RankChecker$Term", "size", "I", false)
  | 1 => ("RankChecker$Term", "types", "LRankChecker$Row;", true)
  | 2 => ("RankChecker$Term", "ops", "[I", true)
  | 3 => ("RankChecker$Term", "numbers", "[I", true)
  | 4 => ("RankChecker$Term", "ats", "[I", true)
  | 5 => ("RankChecker$Term", "pasts", "[I", true)
  | 6 => ("RankChecker$Term", "typesAt", "[I", true)
  | 7 => ("RankChecker$Term", "wrapped", "I", false)
  | _ => ("RankChecker$Term", "asked", "LRankChecker$Row;", false)
def tyX7 : Nat → FieldType := fun k => match k with
  | 0 => .int
  | 1 => .object "RankChecker$Row"
  | 2 => .array .int
  | 3 => .array .int
  | 4 => .array .int
  | 5 => .array .int
  | 6 => .array .int
  | 7 => .int
  | _ => .object "RankChecker$Row"
abbrev wsX70 : List Cond := u_ws RX7 TX7 9
theorem nmX7 : ∀ a, a < 9 → ∀ b, b < 9 → a ≠ b → (TX7 a).2.1 ≠ (TX7 b).2.1 := by decide +kernel
theorem tyX7_ok : ∀ k, k < 9 → parseFieldDescriptor (TX7 k).2.2.1 = some (tyX7 k) := by decide +kernel
abbrev cX7_init : ByteArray := prog_9_method_1_code
def yX7_init : MethodName := ⟨RX7, "<init>", "()V"⟩
abbrev cX7_partsOf : ByteArray := prog_9_method_2_code
def yX7_partsOf : MethodName := ⟨RX7, "partsOf", "(I)I"⟩
abbrev cX7_clear : ByteArray := prog_9_method_3_code
def yX7_clear : MethodName := ⟨RX7, "clear", "()V"⟩
abbrev cX7_add : ByteArray := prog_9_method_4_code
def yX7_add : MethodName := ⟨RX7, "add", "(II)I"⟩
abbrev cX7_has : ByteArray := prog_9_method_5_code
def yX7_has : MethodName := ⟨RX7, "has", "(I)Z"⟩
abbrev cX7_setNumber : ByteArray := prog_9_method_6_code
def yX7_setNumber : MethodName := ⟨RX7, "setNumber", "(II)V"⟩
abbrev cX7_close : ByteArray := prog_9_method_7_code
def yX7_close : MethodName := ⟨RX7, "close", "(I)V"⟩
abbrev cX7_beginType : ByteArray := prog_9_method_8_code
def yX7_beginType : MethodName := ⟨RX7, "beginType", "(I)V"⟩
abbrev cX7_wrap : ByteArray := prog_9_method_9_code
def yX7_wrap : MethodName := ⟨RX7, "wrap", "(ILRankChecker$Row;)V"⟩
abbrev cX7_unwrap : ByteArray := prog_9_method_10_code
def yX7_unwrap : MethodName := ⟨RX7, "unwrap", "()V"⟩
abbrev cX7_standsFor : ByteArray := prog_9_method_11_code
def yX7_standsFor : MethodName := ⟨RX7, "standsFor", "(I)I"⟩
abbrev cX7_isWrapping : ByteArray := prog_9_method_12_code
def yX7_isWrapping : MethodName := ⟨RX7, "isWrapping", "(I)Z"⟩
abbrev cX7_root : ByteArray := prog_9_method_13_code
def yX7_root : MethodName := ⟨RX7, "root", "()I"⟩
abbrev cX7_part : ByteArray := prog_9_method_14_code
def yX7_part : MethodName := ⟨RX7, "part", "(II)I"⟩
abbrev cX7_op : ByteArray := prog_9_method_15_code
def yX7_op : MethodName := ⟨RX7, "op", "(I)I"⟩
abbrev cX7_number : ByteArray := prog_9_method_16_code
def yX7_number : MethodName := ⟨RX7, "number", "(I)I"⟩
abbrev cX7_at : ByteArray := prog_9_method_17_code
def yX7_at : MethodName := ⟨RX7, "at", "(I)I"⟩
abbrev cX7_putType : ByteArray := prog_9_method_18_code
def yX7_putType : MethodName := ⟨RX7, "putType", "(ILRankChecker$Row;)V"⟩
abbrev cX7_copy : ByteArray := prog_9_method_19_code
def yX7_copy : MethodName := ⟨RX7, "copy", "(LRankChecker$Term;)V"⟩
def RX8 : String := "RankChecker$Todo"
def TX8 : u_T := fun k => match k with
  | 0 => ("RankChecker$Todo", "job", "I", false)
  | 1 => ("RankChecker$Todo", "depth", "I", false)
  | 2 => ("RankChecker$Todo", "node", "I", false)
  | 3 => ("RankChecker$Todo", "a", "I", false)
  | 4 => ("RankChecker$Todo", "b", "I", false)
  | 5 => ("RankChecker$Todo", "full", "Z", false)
  | 6 => ("RankChecker$Todo", "size", "I", false)
  | 7 => ("RankChecker$Todo", "held", "LRankChecker$Row;", true)
  | _ => ("RankChecker$Todo", "items", "[I", true)
def tyX8 : Nat → FieldType := fun k => match k with
  | 0 => .int
  | 1 => .int
  | 2 => .int
  | 3 => .int
  | 4 => .int
  | 5 => .boolean
  | 6 => .int
  | 7 => .object "RankChecker$Row"
  | _ => .array .int
abbrev wsX80 : List Cond := u_ws RX8 TX8 9
theorem nmX8 : ∀ a, a < 9 → ∀ b, b < 9 → a ≠ b → (TX8 a).2.1 ≠ (TX8 b).2.1 := by decide +kernel
theorem tyX8_ok : ∀ k, k < 9 → parseFieldDescriptor (TX8 k).2.2.1 = some (tyX8 k) := by decide +kernel
abbrev cX8_init : ByteArray := prog_10_method_1_code
def yX8_init : MethodName := ⟨RX8, "<init>", "()V"⟩
abbrev cX8_clear : ByteArray := prog_10_method_2_code
def yX8_clear : MethodName := ⟨RX8, "clear", "()V"⟩
abbrev cX8_push : ByteArray := prog_10_method_3_code
def yX8_push : MethodName := ⟨RX8, "push", "(IIIII)V"⟩
abbrev cX8_pop : ByteArray := prog_10_method_4_code
def yX8_pop : MethodName := ⟨RX8, "pop", "()V"⟩
abbrev cX8_letGo : ByteArray := prog_10_method_5_code
def yX8_letGo : MethodName := ⟨RX8, "letGo", "()V"⟩
def RX9 : String := "RankChecker$Values"
def TX9 : u_T := fun k => match k with
  | 0 => ("RankChecker$Values", "kinds", "[I", true)
  | 1 => ("RankChecker$Values", "firsts", "[I", true)
  | 2 => ("RankChecker$Values", "seconds", "[I", true)
  | 3 => ("RankChecker$Values", "homes", "[I", true)
  | 4 => ("RankChecker$Values", "counted", "[I", true)
  | 5 => ("RankChecker$Values", "size", "I", false)
  | 6 => ("RankChecker$Values", "names", "[I", true)
  | 7 => ("RankChecker$Values", "named", "[I", true)
  | 8 => ("RankChecker$Values", "olders", "[I", true)
  | _ => ("RankChecker$Values", "binds", "I", false)
def tyX9 : Nat → FieldType := fun k => match k with
  | 0 => .array .int
  | 1 => .array .int
  | 2 => .array .int
  | 3 => .array .int
  | 4 => .array .int
  | 5 => .int
  | 6 => .array .int
  | 7 => .array .int
  | 8 => .array .int
  | _ => .int
abbrev wsX90 : List Cond := u_ws RX9 TX9 10
theorem nmX9 : ∀ a, a < 10 → ∀ b, b < 10 → a ≠ b → (TX9 a).2.1 ≠ (TX9 b).2.1 := by decide +kernel
theorem tyX9_ok : ∀ k, k < 10 → parseFieldDescriptor (TX9 k).2.2.1 = some (tyX9 k) := by decide +kernel
abbrev cX9_init : ByteArray := prog_11_method_1_code
def yX9_init : MethodName := ⟨RX9, "<init>", "()V"⟩
abbrev cX9_clear : ByteArray := prog_11_method_2_code
def yX9_clear : MethodName := ⟨RX9, "clear", "()V"⟩
abbrev cX9_has : ByteArray := prog_11_method_3_code
def yX9_has : MethodName := ⟨RX9, "has", "(I)Z"⟩
abbrev cX9_make : ByteArray := prog_11_method_4_code
def yX9_make : MethodName := ⟨RX9, "make", "(IIII)I"⟩
abbrev cX9_makePlain : ByteArray := prog_11_method_5_code
def yX9_makePlain : MethodName := ⟨RX9, "makePlain", "(II)I"⟩
abbrev cX9_makeFunction : ByteArray := prog_11_method_6_code
def yX9_makeFunction : MethodName := ⟨RX9, "makeFunction", "(III)I"⟩
abbrev cX9_makePair : ByteArray := prog_11_method_7_code
def yX9_makePair : MethodName := ⟨RX9, "makePair", "(II)I"⟩
abbrev cX9_kindOf : ByteArray := prog_11_method_8_code
def yX9_kindOf : MethodName := ⟨RX9, "kindOf", "(I)I"⟩
abbrev cX9_firstOf : ByteArray := prog_11_method_9_code
def yX9_firstOf : MethodName := ⟨RX9, "firstOf", "(I)I"⟩
abbrev cX9_secondOf : ByteArray := prog_11_method_10_code
def yX9_secondOf : MethodName := ⟨RX9, "secondOf", "(I)I"⟩
abbrev cX9_homeOf : ByteArray := prog_11_method_11_code
def yX9_homeOf : MethodName := ⟨RX9, "homeOf", "(I)I"⟩
abbrev cX9_countOf : ByteArray := prog_11_method_12_code
def yX9_countOf : MethodName := ⟨RX9, "countOf", "(I)I"⟩
abbrev cX9_bind : ByteArray := prog_11_method_13_code
def yX9_bind : MethodName := ⟨RX9, "bind", "(III)I"⟩
abbrev cX9_find : ByteArray := prog_11_method_14_code
def yX9_find : MethodName := ⟨RX9, "find", "(II)I"⟩
def RX10 : String := "RankChecker$Worker"
def TX10 : u_T := fun k => match k with
  | 0 => ("RankChecker$Worker", "how", "I", false)
  | 1 => ("RankChecker$Worker", "paces", "I", false)
  | 2 => ("RankChecker$Worker", "values", "LRankChecker$Values;", true)
  | 3 => ("RankChecker$Worker", "waits", "[I", true)
  | 4 => ("RankChecker$Worker", "waiting", "I", false)
  | 5 => ("RankChecker$Worker", "latest", "LRankChecker$Term;", false)
  | 6 => ("RankChecker$Worker", "shelf", "LRankChecker$Shelf;", false)
  | 7 => ("RankChecker$Worker", "node", "I", false)
  | 8 => ("RankChecker$Worker", "home", "I", false)
  | 9 => ("RankChecker$Worker", "scope", "I", false)
  | _ => ("RankChecker$Worker", "answer", "I", false)
def tyX10 : Nat → FieldType := fun k => match k with
  | 0 => .int
  | 1 => .int
  | 2 => .object "RankChecker$Values"
  | 3 => .array .int
  | 4 => .int
  | 5 => .object "RankChecker$Term"
  | 6 => .object "RankChecker$Shelf"
  | 7 => .int
  | 8 => .int
  | 9 => .int
  | _ => .int
abbrev wsX100 : List Cond := u_ws RX10 TX10 11
theorem nmX10 : ∀ a, a < 11 → ∀ b, b < 11 → a ≠ b → (TX10 a).2.1 ≠ (TX10 b).2.1 := by decide +kernel
theorem tyX10_ok : ∀ k, k < 11 → parseFieldDescriptor (TX10 k).2.2.1 = some (tyX10 k) := by decide +kernel
abbrev cX10_init : ByteArray := prog_12_method_1_code
def yX10_init : MethodName := ⟨RX10, "<init>", "(LRankChecker$Term;LRankChecker$Shelf;)V"⟩
abbrev cX10_workOut : ByteArray := prog_12_method_2_code
def yX10_workOut : MethodName := ⟨RX10, "workOut", "(LRankChecker$Term;LRankChecker$Shelf;)V"⟩
abbrev cX10_answerKind : ByteArray := prog_12_method_3_code
def yX10_answerKind : MethodName := ⟨RX10, "answerKind", "()I"⟩
abbrev cX10_answerNumber : ByteArray := prog_12_method_4_code
def yX10_answerNumber : MethodName := ⟨RX10, "answerNumber", "()I"⟩
abbrev cX10_termAt : ByteArray := prog_12_method_5_code
def yX10_termAt : MethodName := ⟨RX10, "termAt", "(I)LRankChecker$Term;"⟩
abbrev cX10_goTo : ByteArray := prog_12_method_6_code
def yX10_goTo : MethodName := ⟨RX10, "goTo", "(III)V"⟩
abbrev cX10_give : ByteArray := prog_12_method_7_code
def yX10_give : MethodName := ⟨RX10, "give", "(I)V"⟩
abbrev cX10_await : ByteArray := prog_12_method_8_code
def yX10_await : MethodName := ⟨RX10, "await", "(II)V"⟩
abbrev cX10_pace : ByteArray := prog_12_method_9_code
def yX10_pace : MethodName := ⟨RX10, "pace", "()V"⟩
abbrev cX10_workName : ByteArray := prog_12_method_10_code
def yX10_workName : MethodName := ⟨RX10, "workName", "(I)V"⟩
abbrev cX10_resume : ByteArray := prog_12_method_11_code
def yX10_resume : MethodName := ⟨RX10, "resume", "()V"⟩
abbrev cX10_must : ByteArray := prog_12_method_12_code
def yX10_must : MethodName := ⟨RX10, "must", "(I)Z"⟩
abbrev cX10_goOnWithFirst : ByteArray := prog_12_method_13_code
def yX10_goOnWithFirst : MethodName := ⟨RX10, "goOnWithFirst", "(LRankChecker$Term;I)V"⟩
abbrev cX10_goOnWithBoth : ByteArray := prog_12_method_14_code
def yX10_goOnWithBoth : MethodName := ⟨RX10, "goOnWithBoth", "(II)V"⟩
abbrev cX10_workFunction : ByteArray := prog_12_method_15_code
def yX10_workFunction : MethodName := ⟨RX10, "workFunction", "(I)V"⟩
def RX11 : String := "RankChecker"
def TX11 : u_T := fun k => match k with
  | 0 => ("RankChecker", "reader", "LRankChecker$Reader;", true)
  | 1 => ("RankChecker", "shelf", "LRankChecker$Shelf;", true)
  | 2 => ("RankChecker", "judge", "LRankChecker$Judge;", true)
  | 3 => ("RankChecker", "worker", "LRankChecker$Worker;", true)
  | 4 => ("RankChecker", "teller", "LRankChecker$Teller;", true)
  | 5 => ("RankChecker", "judgement", "LRankChecker$Judgement;", true)
  | 6 => ("RankChecker", "trial", "LRankChecker$Judgement;", true)
  | 7 => ("RankChecker", "latest", "LRankChecker$Term;", false)
  | 8 => ("RankChecker", "spare", "LRankChecker$Term;", false)
  | 9 => ("RankChecker", "inferred", "Z", false)
  | 10 => ("RankChecker", "mostSteps", "I", false)
  | _ => ("RankChecker", "ends", "[I", true)
def tyX11 : Nat → FieldType := fun k => match k with
  | 0 => .object "RankChecker$Reader"
  | 1 => .object "RankChecker$Shelf"
  | 2 => .object "RankChecker$Judge"
  | 3 => .object "RankChecker$Worker"
  | 4 => .object "RankChecker$Teller"
  | 5 => .object "RankChecker$Judgement"
  | 6 => .object "RankChecker$Judgement"
  | 7 => .object "RankChecker$Term"
  | 8 => .object "RankChecker$Term"
  | 9 => .boolean
  | 10 => .int
  | _ => .array .int
abbrev wsX110 : List Cond := u_ws RX11 TX11 12
theorem nmX11 : ∀ a, a < 12 → ∀ b, b < 12 → a ≠ b → (TX11 a).2.1 ≠ (TX11 b).2.1 := by decide +kernel
theorem tyX11_ok : ∀ k, k < 12 → parseFieldDescriptor (TX11 k).2.2.1 = some (tyX11 k) := by decide +kernel
abbrev cX11_init : ByteArray := prog_1_method_1_code
def yX11_init : MethodName := ⟨RX11, "<init>", "()V"⟩
abbrev cX11_feed : ByteArray := prog_1_method_2_code
def yX11_feed : MethodName := ⟨RX11, "feed", "(IIIII)I"⟩
abbrev cX11_end : ByteArray := prog_1_method_3_code
def yX11_end : MethodName := ⟨RX11, "end", "(I)Z"⟩
abbrev cX11_fault : ByteArray := prog_1_method_4_code
def yX11_fault : MethodName := ⟨RX11, "fault", "(I)I"⟩
abbrev cX11_infers : ByteArray := prog_1_method_5_code
def yX11_infers : MethodName := ⟨RX11, "infers", "()I"⟩
abbrev cX11_below : ByteArray := prog_1_method_6_code
def yX11_below : MethodName := ⟨RX11, "below", "()I"⟩
abbrev cX11_counted : ByteArray := prog_1_method_7_code
def yX11_counted : MethodName := ⟨RX11, "counted", "()I"⟩
abbrev cX11_judged : ByteArray := prog_1_method_8_code
def yX11_judged : MethodName := ⟨RX11, "judged", "(I)I"⟩
abbrev cX11_type : ByteArray := prog_1_method_9_code
def yX11_type : MethodName := ⟨RX11, "type", "(I)I"⟩
abbrev cX11_step : ByteArray := prog_1_method_10_code
def yX11_step : MethodName := ⟨RX11, "step", "(II)I"⟩
abbrev cX11_entry : ByteArray := prog_1_method_11_code
def yX11_entry : MethodName := ⟨RX11, "entry", "(II)I"⟩
abbrev cX11_entryType : ByteArray := prog_1_method_12_code
def yX11_entryType : MethodName := ⟨RX11, "entryType", "(II)I"⟩
abbrev cX11_keeps : ByteArray := prog_1_method_13_code
def yX11_keeps : MethodName := ⟨RX11, "keeps", "(I)I"⟩
abbrev cX11_drops : ByteArray := prog_1_method_14_code
def yX11_drops : MethodName := ⟨RX11, "drops", "()I"⟩
abbrev cX11_shelf : ByteArray := prog_1_method_15_code
def yX11_shelf : MethodName := ⟨RX11, "shelf", "(II)I"⟩
abbrev cX11_shelfType : ByteArray := prog_1_method_16_code
def yX11_shelfType : MethodName := ⟨RX11, "shelfType", "(II)I"⟩
abbrev cX11_worked : ByteArray := prog_1_method_17_code
def yX11_worked : MethodName := ⟨RX11, "worked", "(I)I"⟩
abbrev cX11_asks : ByteArray := prog_1_method_18_code
def yX11_asks : MethodName := ⟨RX11, "asks", "()I"⟩
abbrev cX11_tells : ByteArray := prog_1_method_19_code
def yX11_tells : MethodName := ⟨RX11, "tells", "(I)I"⟩
abbrev cX11_shelfBelow : ByteArray := prog_1_method_20_code
def yX11_shelfBelow : MethodName := ⟨RX11, "shelfBelow", "(II)I"⟩
abbrev cX11_count : ByteArray := prog_1_method_21_code
def yX11_count : MethodName := ⟨RX11, "count", "(I)I"⟩
abbrev cX11_byRule : ByteArray := prog_1_method_22_code
def yX11_byRule : MethodName := ⟨RX11, "byRule", "(I)I"⟩
def RX12 : String := "RankCheckerModel"
def TX12 : u_T := fun k => match k with
  | 0 => ("RankCheckerModel", "thrown", "I", false)
  | 1 => ("RankCheckerModel", "tape", "[B", true)
  | 2 => ("RankCheckerModel", "length", "I", false)
  | 3 => ("RankCheckerModel", "at", "I", false)
  | 4 => ("RankCheckerModel", "fault", "I", false)
  | 5 => ("RankCheckerModel", "code", "[I", true)
  | 6 => ("RankCheckerModel", "codes", "I", false)
  | 7 => ("RankCheckerModel", "scope", "[I", true)
  | 8 => ("RankCheckerModel", "expression", "[I", true)
  | 9 => ("RankCheckerModel", "expressions", "I", false)
  | 10 => ("RankCheckerModel", "second", "I", false)
  | 11 => ("RankCheckerModel", "kind", "[I", true)
  | 12 => ("RankCheckerModel", "left", "[I", true)
  | 13 => ("RankCheckerModel", "right", "[I", true)
  | 14 => ("RankCheckerModel", "nodes", "I", false)
  | 15 => ("RankCheckerModel", "alls", "I", false)
  | 16 => ("RankCheckerModel", "spot", "I", false)
  | 17 => ("RankCheckerModel", "about", "[I", true)
  | 18 => ("RankCheckerModel", "entryKind", "[I", true)
  | 19 => ("RankCheckerModel", "entryNumber", "[I", true)
  | 20 => ("RankCheckerModel", "entryOf", "[I", true)
  | 21 => ("RankCheckerModel", "entries", "I", false)
  | 22 => ("RankCheckerModel", "guesses", "I", false)
  | 23 => ("RankCheckerModel", "constants", "I", false)
  | 24 => ("RankCheckerModel", "step", "[I", true)
  | 25 => ("RankCheckerModel", "steps", "I", false)
  | 26 => ("RankCheckerModel", "within", "I", false)
  | 27 => ("RankCheckerModel", "mostEntries", "I", false)
  | 28 => ("RankCheckerModel", "lastPlace", "I", false)
  | 29 => ("RankCheckerModel", "ended", "I", false)
  | 30 => ("RankCheckerModel", "notedInAll", "I", false)
  | 31 => ("RankCheckerModel", "mostInAll", "I", false)
  | 32 => ("RankCheckerModel", "one", "I", false)
  | 33 => ("RankCheckerModel", "other", "I", false)
  | 34 => ("RankCheckerModel", "entryMark", "[I", true)
  | 35 => ("RankCheckerModel", "marks", "I", false)
  | 36 => ("RankCheckerModel", "isJudged", "Z", false)
  | 37 => ("RankCheckerModel", "isOfExpression", "Z", false)
  | 38 => ("RankCheckerModel", "isKept", "Z", false)
  | 39 => ("RankCheckerModel", "hasLatest", "Z", false)
  | 40 => ("RankCheckerModel", "result", "I", false)
  | 41 => ("RankCheckerModel", "type", "I", false)
  | 42 => ("RankCheckerModel", "mostSteps", "I", false)
  | 43 => ("RankCheckerModel", "shelved", "I", false)
  | 44 => ("RankCheckerModel", "counts", "[I", true)
  | 45 => ("RankCheckerModel", "name", "[I", true)
  | 46 => ("RankCheckerModel", "openGuesses", "[I", true)
  | 47 => ("RankCheckerModel", "expressionsOn", "[I", true)
  | 48 => ("RankCheckerModel", "nodeBase", "I", false)
  | 49 => ("RankCheckerModel", "allBase", "I", false)
  | 50 => ("RankCheckerModel", "expressionsRead", "I", false)
  | 51 => ("RankCheckerModel", "told", "[I", true)
  | 52 => ("RankCheckerModel", "letterOf", "[I", true)
  | 53 => ("RankCheckerModel", "metGuess", "[I", true)
  | 54 => ("RankCheckerModel", "metConstant", "[I", true)
  | 55 => ("RankCheckerModel", "tolds", "I", false)
  | 56 => ("RankCheckerModel", "lettered", "I", false)
  | 57 => ("RankCheckerModel", "guessesMet", "I", false)
  | 58 => ("RankCheckerModel", "constantsMet", "I", false)
  | 59 => ("RankCheckerModel", "levelOf", "[I", true)
  | 60 => ("RankCheckerModel", "asideStep", "[I", true)
  | 61 => ("RankCheckerModel", "asideEntry", "[I", true)
  | 62 => ("RankCheckerModel", "aside", "[I", true)
  | 63 => ("RankCheckerModel", "valueKind", "[I", true)
  | 64 => ("RankCheckerModel", "valueOne", "[I", true)
  | 65 => ("RankCheckerModel", "valueTwo", "[I", true)
  | 66 => ("RankCheckerModel", "valueMany", "[I", true)
  | 67 => ("RankCheckerModel", "linkName", "[I", true)
  | 68 => ("RankCheckerModel", "linkValue", "[I", true)
  | 69 => ("RankCheckerModel", "linkNext", "[I", true)
  | 70 => ("RankCheckerModel", "values", "I", false)
  | 71 => ("RankCheckerModel", "links", "I", false)
  | 72 => ("RankCheckerModel", "paces", "I", false)
  | _ => ("RankCheckerModel", "workEnds", "I", false)
def tyX12 : Nat → FieldType := fun k => match k with
  | 0 => .int
  | 1 => .array .byte
  | 2 => .int
  | 3 => .int
  | 4 => .int
  | 5 => .array .int
  | 6 => .int
  | 7 => .array .int
  | 8 => .array .int
  | 9 => .int
  | 10 => .int
  | 11 => .array .int
  | 12 => .array .int
  | 13 => .array .int
  | 14 => .int
  | 15 => .int
  | 16 => .int
  | 17 => .array .int
  | 18 => .array .int
  | 19 => .array .int
  | 20 => .array .int
  | 21 => .int
  | 22 => .int
  | 23 => .int
  | 24 => .array .int
  | 25 => .int
  | 26 => .int
  | 27 => .int
  | 28 => .int
  | 29 => .int
  | 30 => .int
  | 31 => .int
  | 32 => .int
  | 33 => .int
  | 34 => .array .int
  | 35 => .int
  | 36 => .boolean
  | 37 => .boolean
  | 38 => .boolean
  | 39 => .boolean
  | 40 => .int
  | 41 => .int
  | 42 => .int
  | 43 => .int
  | 44 => .array .int
  | 45 => .array .int
  | 46 => .array .int
  | 47 => .array .int
  | 48 => .int
  | 49 => .int
  | 50 => .int
  | 51 => .array .int
  | 52 => .array .int
  | 53 => .array .int
  | 54 => .array .int
  | 55 => .int
  | 56 => .int
  | 57 => .int
  | 58 => .int
  | 59 => .array .int
  | 60 => .array .int
  | 61 => .array .int
  | 62 => .array .int
  | 63 => .array .int
  | 64 => .array .int
  | 65 => .array .int
  | 66 => .array .int
  | 67 => .array .int
  | 68 => .array .int
  | 69 => .array .int
  | 70 => .int
  | 71 => .int
  | 72 => .int
  | _ => .int
abbrev wsX120 : List Cond := u_ws RX12 TX12 74
theorem nmX12 : ∀ a, a < 74 → ∀ b, b < 74 → a ≠ b → (TX12 a).2.1 ≠ (TX12 b).2.1 := by decide +kernel
theorem tyX12_ok : ∀ k, k < 74 → parseFieldDescriptor (TX12 k).2.2.1 = some (tyX12 k) := by decide +kernel
abbrev cX12_init : ByteArray := prog_14_method_1_code
def yX12_init : MethodName := ⟨RX12, "<init>", "()V"⟩
abbrev cX12_thrown : ByteArray := prog_14_method_2_code
def yX12_thrown : MethodName := ⟨RX12, "thrown", "()I"⟩
abbrev cX12_isIn : ByteArray := prog_14_method_3_code
def yX12_isIn : MethodName := ⟨RX12, "isIn", "(JJJ)Z"⟩
abbrev cX12_bytesOf : ByteArray := prog_14_method_4_code
def yX12_bytesOf : MethodName := ⟨RX12, "bytesOf", "(I)I"⟩
abbrev cX12_brings : ByteArray := prog_14_method_5_code
def yX12_brings : MethodName := ⟨RX12, "brings", "(I)V"⟩
abbrev cX12_feed : ByteArray := prog_14_method_6_code
def yX12_feed : MethodName := ⟨RX12, "feed", "(IIIII)I"⟩
abbrev cX12_end : ByteArray := prog_14_method_7_code
def yX12_end : MethodName := ⟨RX12, "end", "(I)Z"⟩
abbrev cX12_here : ByteArray := prog_14_method_8_code
def yX12_here : MethodName := ⟨RX12, "here", "()I"⟩
abbrev cX12_look : ByteArray := prog_14_method_9_code
def yX12_look : MethodName := ⟨RX12, "look", "()I"⟩
abbrev cX12_fails : ByteArray := prog_14_method_10_code
def yX12_fails : MethodName := ⟨RX12, "fails", "(I)I"⟩
abbrev cX12_isLetter : ByteArray := prog_14_method_11_code
def yX12_isLetter : MethodName := ⟨RX12, "isLetter", "(I)Z"⟩
abbrev cX12_isDigit : ByteArray := prog_14_method_12_code
def yX12_isDigit : MethodName := ⟨RX12, "isDigit", "(I)Z"⟩
abbrev cX12_puts : ByteArray := prog_14_method_13_code
def yX12_puts : MethodName := ⟨RX12, "puts", "(I)V"⟩
abbrev cX12_letter : ByteArray := prog_14_method_14_code
def yX12_letter : MethodName := ⟨RX12, "letter", "()I"⟩
abbrev cX12_readsType : ByteArray := prog_14_method_15_code
def yX12_readsType : MethodName := ⟨RX12, "readsType", "(II)V"⟩
abbrev cX12_of : ByteArray := prog_14_method_16_code
def yX12_of : MethodName := ⟨RX12, "of", "(II)I"⟩
abbrev cX12_opens : ByteArray := prog_14_method_17_code
def yX12_opens : MethodName := ⟨RX12, "opens", "(II)I"⟩
abbrev cX12_puts_ : ByteArray := prog_14_method_18_code
def yX12_puts_ : MethodName := ⟨RX12, "puts", "(III)V"⟩
abbrev cX12_kindOf : ByteArray := prog_14_method_19_code
def yX12_kindOf : MethodName := ⟨RX12, "kindOf", "(I)I"⟩
abbrev cX12_parts : ByteArray := prog_14_method_20_code
def yX12_parts : MethodName := ⟨RX12, "parts", "(I)I"⟩
abbrev cX12_number : ByteArray := prog_14_method_21_code
def yX12_number : MethodName := ⟨RX12, "number", "()I"⟩
abbrev cX12_readsExpression : ByteArray := prog_14_method_22_code
def yX12_readsExpression : MethodName := ⟨RX12, "readsExpression", "(I)I"⟩
abbrev cX12_begins : ByteArray := prog_14_method_23_code
def yX12_begins : MethodName := ⟨RX12, "begins", "()V"⟩
abbrev cX12_endsText : ByteArray := prog_14_method_24_code
def yX12_endsText : MethodName := ⟨RX12, "endsText", "()V"⟩
abbrev cX12_readsTypes : ByteArray := prog_14_method_25_code
def yX12_readsTypes : MethodName := ⟨RX12, "readsTypes", "(I)I"⟩
abbrev cX12_readsWhole : ByteArray := prog_14_method_26_code
def yX12_readsWhole : MethodName := ⟨RX12, "readsWhole", "()I"⟩
abbrev cX12_fault : ByteArray := prog_14_method_27_code
def yX12_fault : MethodName := ⟨RX12, "fault", "(I)I"⟩
abbrev cX12_copies : ByteArray := prog_14_method_28_code
def yX12_copies : MethodName := ⟨RX12, "copies", "(II)V"⟩
abbrev cX12_noted : ByteArray := prog_14_method_29_code
def yX12_noted : MethodName := ⟨RX12, "noted", "(I)I"⟩
abbrev cX12_makes : ByteArray := prog_14_method_30_code
def yX12_makes : MethodName := ⟨RX12, "makes", "(III)I"⟩
abbrev cX12_builds : ByteArray := prog_14_method_31_code
def yX12_builds : MethodName := ⟨RX12, "builds", "(I)I"⟩
abbrev cX12_typeFrom : ByteArray := prog_14_method_32_code
def yX12_typeFrom : MethodName := ⟨RX12, "typeFrom", "(I)I"⟩
abbrev cX12_isBoth : ByteArray := prog_14_method_33_code
def yX12_isBoth : MethodName := ⟨RX12, "isBoth", "(I)Z"⟩
abbrev cX12_with : ByteArray := prog_14_method_34_code
def yX12_with : MethodName := ⟨RX12, "with", "(III)I"⟩
abbrev cX12_inside : ByteArray := prog_14_method_35_code
def yX12_inside : MethodName := ⟨RX12, "inside", "(II)I"⟩
abbrev cX12_signs : ByteArray := prog_14_method_36_code
def yX12_signs : MethodName := ⟨RX12, "signs", "(I)I"⟩
abbrev cX12_rank : ByteArray := prog_14_method_37_code
def yX12_rank : MethodName := ⟨RX12, "rank", "(I)I"⟩
abbrev cX12_hasAll : ByteArray := prog_14_method_38_code
def yX12_hasAll : MethodName := ⟨RX12, "hasAll", "(I)Z"⟩
abbrev cX12_hasGuess : ByteArray := prog_14_method_39_code
def yX12_hasGuess : MethodName := ⟨RX12, "hasGuess", "(II)Z"⟩
abbrev cX12_comes : ByteArray := prog_14_method_40_code
def yX12_comes : MethodName := ⟨RX12, "comes", "(III)V"⟩
abbrev cX12_freshGuess : ByteArray := prog_14_method_41_code
def yX12_freshGuess : MethodName := ⟨RX12, "freshGuess", "()I"⟩
abbrev cX12_freshConstant : ByteArray := prog_14_method_42_code
def yX12_freshConstant : MethodName := ⟨RX12, "freshConstant", "()I"⟩
abbrev cX12_placeOf : ByteArray := prog_14_method_43_code
def yX12_placeOf : MethodName := ⟨RX12, "placeOf", "(II)I"⟩
abbrev cX12_isOpen : ByteArray := prog_14_method_44_code
def yX12_isOpen : MethodName := ⟨RX12, "isOpen", "(I)Z"⟩
abbrev cX12_cuts : ByteArray := prog_14_method_45_code
def yX12_cuts : MethodName := ⟨RX12, "cuts", "(II)V"⟩
abbrev cX12_splits : ByteArray := prog_14_method_46_code
def yX12_splits : MethodName := ⟨RX12, "splits", "(II)I"⟩
abbrev cX12_signsBy : ByteArray := prog_14_method_47_code
def yX12_signsBy : MethodName := ⟨RX12, "signsBy", "(II)I"⟩
abbrev cX12_replaced : ByteArray := prog_14_method_48_code
def yX12_replaced : MethodName := ⟨RX12, "replaced", "(I)I"⟩
abbrev cX12_by : ByteArray := prog_14_method_49_code
def yX12_by : MethodName := ⟨RX12, "by", "(I)I"⟩
abbrev cX12_begins_ : ByteArray := prog_14_method_50_code
def yX12_begins_ : MethodName := ⟨RX12, "begins", "(IIII)I"⟩
abbrev cX12_rule : ByteArray := prog_14_method_51_code
def yX12_rule : MethodName := ⟨RX12, "rule", "(II)V"⟩
abbrev cX12_plain : ByteArray := prog_14_method_52_code
def yX12_plain : MethodName := ⟨RX12, "plain", "(I)I"⟩
abbrev cX12_check : ByteArray := prog_14_method_53_code
def yX12_check : MethodName := ⟨RX12, "check", "(II)V"⟩
abbrev cX12_checks : ByteArray := prog_14_method_54_code
def yX12_checks : MethodName := ⟨RX12, "checks", "(III)V"⟩
abbrev cX12_marked : ByteArray := prog_14_method_55_code
def yX12_marked : MethodName := ⟨RX12, "marked", "()I"⟩
abbrev cX12_entryOwn : ByteArray := prog_14_method_56_code
def yX12_entryOwn : MethodName := ⟨RX12, "entryOwn", "(II)V"⟩
abbrev cX12_placeOfMark : ByteArray := prog_14_method_57_code
def yX12_placeOfMark : MethodName := ⟨RX12, "placeOfMark", "(I)I"⟩
abbrev cX12_cutsAt : ByteArray := prog_14_method_58_code
def yX12_cutsAt : MethodName := ⟨RX12, "cutsAt", "(I)V"⟩
abbrev cX12_takesOut : ByteArray := prog_14_method_59_code
def yX12_takesOut : MethodName := ⟨RX12, "takesOut", "(I)V"⟩
abbrev cX12_infer : ByteArray := prog_14_method_60_code
def yX12_infer : MethodName := ⟨RX12, "infer", "(I)I"⟩
abbrev cX12_failsNow : ByteArray := prog_14_method_61_code
def yX12_failsNow : MethodName := ⟨RX12, "failsNow", "()I"⟩
abbrev cX12_infers : ByteArray := prog_14_method_62_code
def yX12_infers : MethodName := ⟨RX12, "infers", "(II)I"⟩
abbrev cX12_partOf : ByteArray := prog_14_method_63_code
def yX12_partOf : MethodName := ⟨RX12, "partOf", "(IZ)I"⟩
abbrev cX12_splitsPair : ByteArray := prog_14_method_64_code
def yX12_splitsPair : MethodName := ⟨RX12, "splitsPair", "(I)I"⟩
abbrev cX12_apply : ByteArray := prog_14_method_65_code
def yX12_apply : MethodName := ⟨RX12, "apply", "(II)I"⟩
abbrev cX12_applies : ByteArray := prog_14_method_66_code
def yX12_applies : MethodName := ⟨RX12, "applies", "(III)I"⟩
abbrev cX12_below : ByteArray := prog_14_method_67_code
def yX12_below : MethodName := ⟨RX12, "below", "(II)V"⟩
abbrev cX12_areSame : ByteArray := prog_14_method_68_code
def yX12_areSame : MethodName := ⟨RX12, "areSame", "(II)Z"⟩
abbrev cX12_isBelow : ByteArray := prog_14_method_69_code
def yX12_isBelow : MethodName := ⟨RX12, "isBelow", "(III)V"⟩
abbrev cX12_isAhead : ByteArray := prog_14_method_70_code
def yX12_isAhead : MethodName := ⟨RX12, "isAhead", "(II)Z"⟩
abbrev cX12_solves : ByteArray := prog_14_method_71_code
def yX12_solves : MethodName := ⟨RX12, "solves", "(II)V"⟩
abbrev cX12_meets : ByteArray := prog_14_method_72_code
def yX12_meets : MethodName := ⟨RX12, "meets", "(IIII)Z"⟩
abbrev cX12_left : ByteArray := prog_14_method_73_code
def yX12_left : MethodName := ⟨RX12, "left", "(II)V"⟩
abbrev cX12_becomesLeft : ByteArray := prog_14_method_74_code
def yX12_becomesLeft : MethodName := ⟨RX12, "becomesLeft", "(III)V"⟩
abbrev cX12_right : ByteArray := prog_14_method_75_code
def yX12_right : MethodName := ⟨RX12, "right", "(II)V"⟩
abbrev cX12_becomesRight : ByteArray := prog_14_method_76_code
def yX12_becomesRight : MethodName := ⟨RX12, "becomesRight", "(III)V"⟩
abbrev cX12_rowOf : ByteArray := prog_14_method_77_code
def yX12_rowOf : MethodName := ⟨RX12, "rowOf", "(I)I"⟩
abbrev cX12_typeRowOf : ByteArray := prog_14_method_78_code
def yX12_typeRowOf : MethodName := ⟨RX12, "typeRowOf", "(I)I"⟩
abbrev cX12_clears : ByteArray := prog_14_method_79_code
def yX12_clears : MethodName := ⟨RX12, "clears", "(ZI)V"⟩
abbrev cX12_judges : ByteArray := prog_14_method_80_code
def yX12_judges : MethodName := ⟨RX12, "judges", "(I)I"⟩
abbrev cX12_counted : ByteArray := prog_14_method_81_code
def yX12_counted : MethodName := ⟨RX12, "counted", "()I"⟩
abbrev cX12_infers_ : ByteArray := prog_14_method_82_code
def yX12_infers_ : MethodName := ⟨RX12, "infers", "()I"⟩
abbrev cX12_below_ : ByteArray := prog_14_method_83_code
def yX12_below_ : MethodName := ⟨RX12, "below", "()I"⟩
abbrev cX12_writes : ByteArray := prog_14_method_84_code
def yX12_writes : MethodName := ⟨RX12, "writes", "(I)V"⟩
abbrev cX12_among : ByteArray := prog_14_method_85_code
def yX12_among : MethodName := ⟨RX12, "among", "([III)I"⟩
abbrev cX12_writesType : ByteArray := prog_14_method_86_code
def yX12_writesType : MethodName := ⟨RX12, "writesType", "(I)V"⟩
abbrev cX12_tellsType : ByteArray := prog_14_method_87_code
def yX12_tellsType : MethodName := ⟨RX12, "tellsType", "(II)I"⟩
abbrev cX12_hasType : ByteArray := prog_14_method_88_code
def yX12_hasType : MethodName := ⟨RX12, "hasType", "()Z"⟩
abbrev cX12_type : ByteArray := prog_14_method_89_code
def yX12_type : MethodName := ⟨RX12, "type", "(I)I"⟩
abbrev cX12_openOf : ByteArray := prog_14_method_90_code
def yX12_openOf : MethodName := ⟨RX12, "openOf", "(I)I"⟩
abbrev cX12_judged : ByteArray := prog_14_method_91_code
def yX12_judged : MethodName := ⟨RX12, "judged", "(I)I"⟩
abbrev cX12_step : ByteArray := prog_14_method_92_code
def yX12_step : MethodName := ⟨RX12, "step", "(II)I"⟩
abbrev cX12_isEntry : ByteArray := prog_14_method_93_code
def yX12_isEntry : MethodName := ⟨RX12, "isEntry", "(I)Z"⟩
abbrev cX12_entry : ByteArray := prog_14_method_94_code
def yX12_entry : MethodName := ⟨RX12, "entry", "(II)I"⟩
abbrev cX12_entryType : ByteArray := prog_14_method_95_code
def yX12_entryType : MethodName := ⟨RX12, "entryType", "(II)I"⟩
abbrev cX12_byRule : ByteArray := prog_14_method_96_code
def yX12_byRule : MethodName := ⟨RX12, "byRule", "(I)I"⟩
abbrev cX12_encodes : ByteArray := prog_14_method_97_code
def yX12_encodes : MethodName := ⟨RX12, "encodes", "(II)V"⟩
abbrev cX12_isOnShelf : ByteArray := prog_14_method_98_code
def yX12_isOnShelf : MethodName := ⟨RX12, "isOnShelf", "(I)Z"⟩
abbrev cX12_keeps : ByteArray := prog_14_method_99_code
def yX12_keeps : MethodName := ⟨RX12, "keeps", "(I)I"⟩
abbrev cX12_drops : ByteArray := prog_14_method_100_code
def yX12_drops : MethodName := ⟨RX12, "drops", "()I"⟩
abbrev cX12_tellsOf : ByteArray := prog_14_method_101_code
def yX12_tellsOf : MethodName := ⟨RX12, "tellsOf", "(II)I"⟩
abbrev cX12_allsIn : ByteArray := prog_14_method_102_code
def yX12_allsIn : MethodName := ⟨RX12, "allsIn", "(I)I"⟩
abbrev cX12_shelf : ByteArray := prog_14_method_103_code
def yX12_shelf : MethodName := ⟨RX12, "shelf", "(II)I"⟩
abbrev cX12_shelfType : ByteArray := prog_14_method_104_code
def yX12_shelfType : MethodName := ⟨RX12, "shelfType", "(II)I"⟩
abbrev cX12_laysAside : ByteArray := prog_14_method_105_code
def yX12_laysAside : MethodName := ⟨RX12, "laysAside", "()V"⟩
abbrev cX12_takesBack : ByteArray := prog_14_method_106_code
def yX12_takesBack : MethodName := ⟨RX12, "takesBack", "()V"⟩
abbrev cX12_shelfBelow : ByteArray := prog_14_method_107_code
def yX12_shelfBelow : MethodName := ⟨RX12, "shelfBelow", "(II)I"⟩
abbrev cX12_judgesNoted : ByteArray := prog_14_method_108_code
def yX12_judgesNoted : MethodName := ⟨RX12, "judgesNoted", "(II)I"⟩
abbrev cX12_asks : ByteArray := prog_14_method_109_code
def yX12_asks : MethodName := ⟨RX12, "asks", "()I"⟩
abbrev cX12_tells : ByteArray := prog_14_method_110_code
def yX12_tells : MethodName := ⟨RX12, "tells", "(I)I"⟩
abbrev cX12_areAlike : ByteArray := prog_14_method_111_code
def yX12_areAlike : MethodName := ⟨RX12, "areAlike", "()Z"⟩
abbrev cX12_value : ByteArray := prog_14_method_112_code
def yX12_value : MethodName := ⟨RX12, "value", "(III)I"⟩
abbrev cX12_linked : ByteArray := prog_14_method_113_code
def yX12_linked : MethodName := ⟨RX12, "linked", "(III)I"⟩
abbrev cX12_sticks : ByteArray := prog_14_method_114_code
def yX12_sticks : MethodName := ⟨RX12, "sticks", "()I"⟩
abbrev cX12_is : ByteArray := prog_14_method_115_code
def yX12_is : MethodName := ⟨RX12, "is", "(II)Z"⟩
abbrev cX12_works : ByteArray := prog_14_method_116_code
def yX12_works : MethodName := ⟨RX12, "works", "(II)I"⟩
abbrev cX12_worksName : ByteArray := prog_14_method_117_code
def yX12_worksName : MethodName := ⟨RX12, "worksName", "(II)I"⟩
abbrev cX12_worksBoth : ByteArray := prog_14_method_118_code
def yX12_worksBoth : MethodName := ⟨RX12, "worksBoth", "(II)I"⟩
abbrev cX12_worked : ByteArray := prog_14_method_119_code
def yX12_worked : MethodName := ⟨RX12, "worked", "(I)I"⟩
abbrev cX12_count : ByteArray := prog_14_method_120_code
def yX12_count : MethodName := ⟨RX12, "count", "(I)I"⟩
def RL : String := "RankCheckerLaw"
abbrev cL_step : ByteArray := method_3_code
def yL_step : MethodName := ⟨RL, "step", "(LRankChecker;II[J)I"⟩
abbrev cL_law : ByteArray := code
def yL_law : MethodName := ⟨RL, "law", "([I)Z"⟩
abbrev vwCl : List vw_C := [(RX0, TX0, 10), (RX1, TX1, 10), (RX2, TX2, 9), (RX3, TX3, 10), (RX4, TX4, 3), (RX5, TX5, 5), (RX6, TX6, 5), (RX7, TX7, 9), (RX8, TX8, 9), (RX9, TX9, 10), (RX10, TX10, 11), (RX11, TX11, 12), (RX12, TX12, 74)]
end
section
/-! types of the abstract machine; the tables of the program -/
abbrev am_St : Type := Nat × Nat × (Nat → Nat × Nat) × (Nat → Nat → Int32) × (Nat → Nat → Option Nat)
/-- own class, name, code, locals, what it returns, arguments beside this, whether a long is among them -/
abbrev am_I : Type := Nat × MethodName × ByteArray × Nat × Option FieldType × Nat × Bool
def am_Rn (c : Nat) : String := match c with
  | 0 => RX0
  | 1 => RX1
  | 2 => RX2
  | 3 => RX3
  | 4 => RX4
  | 5 => RX5
  | 6 => RX6
  | 7 => RX7
  | 8 => RX8
  | 9 => RX9
  | 10 => RX10
  | 11 => RX11
  | 12 => RX12
  | 13 => RL
  | _ => "java/lang/Math"
def am_T (c : Nat) : u_T := match c with
  | 0 => TX0
  | 1 => TX1
  | 2 => TX2
  | 3 => TX3
  | 4 => TX4
  | 5 => TX5
  | 6 => TX6
  | 7 => TX7
  | 8 => TX8
  | 9 => TX9
  | 10 => TX10
  | 11 => TX11
  | _ => TX12
def am_ty (c : Nat) : Nat → FieldType := match c with
  | 0 => tyX0
  | 1 => tyX1
  | 2 => tyX2
  | 3 => tyX3
  | 4 => tyX4
  | 5 => tyX5
  | 6 => tyX6
  | 7 => tyX7
  | 8 => tyX8
  | 9 => tyX9
  | 10 => tyX10
  | 11 => tyX11
  | _ => tyX12
def am_nf (c : Nat) : Nat := match c with
  | 0 => 10
  | 1 => 10
  | 2 => 9
  | 3 => 10
  | 4 => 3
  | 5 => 5
  | 6 => 5
  | 7 => 9
  | 8 => 9
  | 9 => 10
  | 10 => 11
  | 11 => 12
  | _ => 74
def mX11_init : am_I := (11, yX11_init, cX11_init, 1, none, 0, false)
def mX7_init : am_I := (7, yX7_init, cX7_init, 1, none, 0, false)
def mX4_init : am_I := (4, yX4_init, cX4_init, 2, none, 1, false)
def mX5_init : am_I := (5, yX5_init, cX5_init, 2, none, 0, false)
def mX2_init : am_I := (2, yX2_init, cX2_init, 1, none, 0, false)
def mX0_init : am_I := (0, yX0_init, cX0_init, 1, none, 0, false)
def mX3_init : am_I := (3, yX3_init, cX3_init, 2, none, 1, false)
def mX1_init : am_I := (1, yX1_init, cX1_init, 3, none, 2, false)
def mX8_init : am_I := (8, yX8_init, cX8_init, 1, none, 0, false)
def mX10_init : am_I := (10, yX10_init, cX10_init, 3, none, 2, false)
def mX9_init : am_I := (9, yX9_init, cX9_init, 1, none, 0, false)
def mX6_init : am_I := (6, yX6_init, cX6_init, 1, none, 0, false)
def mX11_feed : am_I := (11, yX11_feed, cX11_feed, 7, (some FieldType.int), 5, false)
def mX3_bytesIn : am_I := (3, yX3_bytesIn, cX3_bytesIn, 3, (some FieldType.int), 1, false)
def mX3_put : am_I := (3, yX3_put, cX3_put, 4, none, 1, false)
def mX11_end : am_I := (11, yX11_end, cX11_end, 2, (some FieldType.boolean), 1, false)
def mX11_fault : am_I := (11, yX11_fault, cX11_fault, 2, (some FieldType.int), 1, false)
def mX3_readTerm : am_I := (3, yX3_readTerm, cX3_readTerm, 2, (some FieldType.int), 1, false)
def mX7_clear : am_I := (7, yX7_clear, cX7_clear, 1, none, 0, false)
def mX4_clear : am_I := (4, yX4_clear, cX4_clear, 1, none, 0, false)
def mX7_unwrap : am_I := (7, yX7_unwrap, cX7_unwrap, 1, none, 0, false)
def mX3_readPart : am_I := (3, yX3_readPart, cX3_readPart, 6, none, 1, false)
def mX3_nextSign : am_I := (3, yX3_nextSign, cX3_nextSign, 1, (some FieldType.int), 0, false)
def mX3_opOf : am_I := (3, yX3_opOf, cX3_opOf, 1, (some FieldType.int), 1, false)
def mX3_isDigit : am_I := (3, yX3_isDigit, cX3_isDigit, 1, (some FieldType.boolean), 1, false)
def mX3_isLetter : am_I := (3, yX3_isLetter, cX3_isLetter, 1, (some FieldType.boolean), 1, false)
def mX3_refuse : am_I := (3, yX3_refuse, cX3_refuse, 1, none, 0, false)
def mX7_add : am_I := (7, yX7_add, cX7_add, 3, (some FieldType.int), 2, false)
def mX3_readHead : am_I := (3, yX3_readHead, cX3_readHead, 4, none, 3, false)
def mX3_readNumber : am_I := (3, yX3_readNumber, cX3_readNumber, 3, (some FieldType.int), 0, false)
def mX3_here : am_I := (3, yX3_here, cX3_here, 1, (some FieldType.int), 0, false)
def mX7_setNumber : am_I := (7, yX7_setNumber, cX7_setNumber, 3, none, 2, false)
def mX7_has : am_I := (7, yX7_has, cX7_has, 2, (some FieldType.boolean), 1, false)
def mX3_readLetter : am_I := (3, yX3_readLetter, cX3_readLetter, 2, (some FieldType.int), 0, false)
def mX7_partsOf : am_I := (7, yX7_partsOf, cX7_partsOf, 1, (some FieldType.int), 1, false)
def mX7_close : am_I := (7, yX7_close, cX7_close, 2, none, 1, false)
def mX7_beginType : am_I := (7, yX7_beginType, cX7_beginType, 2, none, 1, false)
def mX3_readType : am_I := (3, yX3_readType, cX3_readType, 3, none, 1, false)
def mX3_readTypePart : am_I := (3, yX3_readTypePart, cX3_readTypePart, 3, none, 1, false)
def mX3_readLeaf : am_I := (3, yX3_readLeaf, cX3_readLeaf, 2, none, 1, false)
def mX4_add : am_I := (4, yX4_add, cX4_add, 2, none, 1, false)
def mX3_readTwo : am_I := (3, yX3_readTwo, cX3_readTwo, 3, none, 2, false)
def mX3_readAll : am_I := (3, yX3_readAll, cX3_readAll, 4, none, 1, false)
def mX4_sign : am_I := (4, yX4_sign, cX4_sign, 2, (some FieldType.int), 2, false)
def mX3_readVariable : am_I := (3, yX3_readVariable, cX3_readVariable, 2, none, 1, false)
def mX3_readEnd : am_I := (3, yX3_readEnd, cX3_readEnd, 1, none, 0, false)
def mX3_readTypes : am_I := (3, yX3_readTypes, cX3_readTypes, 2, (some FieldType.int), 1, false)
def mX11_infers : am_I := (11, yX11_infers, cX11_infers, 2, (some FieldType.int), 0, false)
def mX1_startTerm : am_I := (1, yX1_startTerm, cX1_startTerm, 7, none, 4, false)
def mX1_start : am_I := (1, yX1_start, cX1_start, 4, none, 3, false)
def mX2_start : am_I := (2, yX2_start, cX2_start, 2, none, 1, false)
def mX0_clear : am_I := (0, yX0_clear, cX0_clear, 1, none, 0, false)
def mX8_clear : am_I := (8, yX8_clear, cX8_clear, 1, none, 0, false)
def mX0_addName : am_I := (0, yX0_addName, cX0_addName, 5, none, 4, false)
def mX4_keep : am_I := (4, yX4_keep, cX4_keep, 6, (some FieldType.int), 3, false)
def mX0_put : am_I := (0, yX0_put, cX0_put, 6, none, 4, false)
def mX7_root : am_I := (7, yX7_root, cX7_root, 1, (some FieldType.int), 0, false)
def mX7_standsFor : am_I := (7, yX7_standsFor, cX7_standsFor, 2, (some FieldType.int), 1, false)
def mX8_push : am_I := (8, yX8_push, cX8_push, 7, none, 5, false)
def mX1_run : am_I := (1, yX1_run, cX1_run, 2, none, 0, false)
def mX8_pop : am_I := (8, yX8_pop, cX8_pop, 2, none, 0, false)
def mX1_begin : am_I := (1, yX1_begin, cX1_begin, 3, none, 0, false)
def mX1_takeTypes : am_I := (1, yX1_takeTypes, cX1_takeTypes, 1, (some FieldType.boolean), 0, false)
def mX1_takeHeld : am_I := (1, yX1_takeHeld, cX1_takeHeld, 3, none, 2, false)
def mX4_keptLength : am_I := (4, yX4_keptLength, cX4_keptLength, 2, (some FieldType.int), 1, false)
def mX0_take : am_I := (0, yX0_take, cX0_take, 12, none, 4, false)
def mX0_solvedType : am_I := (0, yX0_solvedType, cX0_solvedType, 3, (some FieldType.int), 1, false)
def mX4_kindOf : am_I := (4, yX4_kindOf, cX4_kindOf, 1, (some FieldType.int), 1, false)
def mX4_numberOf : am_I := (4, yX4_numberOf, cX4_numberOf, 1, (some FieldType.int), 1, false)
def mX0_placeOf : am_I := (0, yX0_placeOf, cX0_placeOf, 4, (some FieldType.int), 2, false)
def mX8_letGo : am_I := (8, yX8_letGo, cX8_letGo, 1, none, 0, false)
def mX7_at : am_I := (7, yX7_at, cX7_at, 3, (some FieldType.int), 1, false)
def mX7_isWrapping : am_I := (7, yX7_isWrapping, cX7_isWrapping, 2, (some FieldType.boolean), 1, false)
def mX2_note : am_I := (2, yX2_note, cX2_note, 6, none, 4, false)
def mX1_check : am_I := (1, yX1_check, cX1_check, 3, (some FieldType.int), 1, false)
def mX4_kindAt : am_I := (4, yX4_kindAt, cX4_kindAt, 2, (some FieldType.int), 1, false)
def mX4_at : am_I := (4, yX4_at, cX4_at, 2, (some FieldType.int), 1, false)
def mX1_checkAll : am_I := (1, yX1_checkAll, cX1_checkAll, 2, (some FieldType.int), 1, false)
def mX1_openConstant : am_I := (1, yX1_openConstant, cX1_openConstant, 3, none, 1, false)
def mX0_addConstant : am_I := (0, yX0_addConstant, cX0_addConstant, 1, (some FieldType.int), 0, false)
def mX4_open : am_I := (4, yX4_open, cX4_open, 4, none, 1, false)
def mX1_pushCut : am_I := (1, yX1_pushCut, cX1_pushCut, 3, none, 2, false)
def mX1_hold : am_I := (1, yX1_hold, cX1_hold, 2, (some FieldType.int), 1, false)
def mX1_pushCheck : am_I := (1, yX1_pushCheck, cX1_pushCheck, 3, none, 2, false)
def mX7_op : am_I := (7, yX7_op, cX7_op, 2, (some FieldType.int), 1, false)
def mX1_checkFunction : am_I := (1, yX1_checkFunction, cX1_checkFunction, 3, (some FieldType.int), 1, false)
def mX4_past : am_I := (4, yX4_past, cX4_past, 4, (some FieldType.int), 1, false)
def mX4_partsOf : am_I := (4, yX4_partsOf, cX4_partsOf, 2, (some FieldType.int), 1, false)
def mX7_number : am_I := (7, yX7_number, cX7_number, 2, (some FieldType.int), 1, false)
def mX7_part : am_I := (7, yX7_part, cX7_part, 5, (some FieldType.int), 2, false)
def mX1_checkInferred : am_I := (1, yX1_checkInferred, cX1_checkInferred, 2, (some FieldType.int), 1, false)
def mX1_pushGoOn : am_I := (1, yX1_pushGoOn, cX1_pushGoOn, 4, none, 3, false)
def mX1_pushInfer : am_I := (1, yX1_pushInfer, cX1_pushInfer, 2, none, 1, false)
def mX1_checkPair : am_I := (1, yX1_checkPair, cX1_checkPair, 3, (some FieldType.int), 1, false)
def mX1_checkIf : am_I := (1, yX1_checkIf, cX1_checkIf, 2, (some FieldType.int), 1, false)
def mX4_keepSign : am_I := (4, yX4_keepSign, cX4_keepSign, 2, (some FieldType.int), 1, false)
def mX1_checkLet : am_I := (1, yX1_checkLet, cX1_checkLet, 2, (some FieldType.int), 1, false)
def mX1_infer : am_I := (1, yX1_infer, cX1_infer, 2, (some FieldType.int), 1, false)
def mX1_inferName : am_I := (1, yX1_inferName, cX1_inferName, 3, (some FieldType.int), 1, false)
def mX0_nameType : am_I := (0, yX0_nameType, cX0_nameType, 3, (some FieldType.int), 1, false)
def mX4_put : am_I := (4, yX4_put, cX4_put, 5, none, 3, false)
def mX1_inferSign : am_I := (1, yX1_inferSign, cX1_inferSign, 2, (some FieldType.int), 1, false)
def mX1_inferNoted : am_I := (1, yX1_inferNoted, cX1_inferNoted, 2, (some FieldType.int), 1, false)
def mX7_putType : am_I := (7, yX7_putType, cX7_putType, 3, none, 2, false)
def mX1_inferFunction : am_I := (1, yX1_inferFunction, cX1_inferFunction, 4, (some FieldType.int), 1, false)
def mX0_addGuess : am_I := (0, yX0_addGuess, cX0_addGuess, 1, (some FieldType.int), 0, false)
def mX0_addGuessedName : am_I := (0, yX0_addGuessedName, cX0_addGuessedName, 3, none, 2, false)
def mX1_inferLet : am_I := (1, yX1_inferLet, cX1_inferLet, 2, (some FieldType.int), 1, false)
def mX1_inferOfNumbers : am_I := (1, yX1_inferOfNumbers, cX1_inferOfNumbers, 3, (some FieldType.int), 2, false)
def mX1_apply : am_I := (1, yX1_apply, cX1_apply, 4, (some FieldType.int), 1, false)
def mX1_openGuess : am_I := (1, yX1_openGuess, cX1_openGuess, 3, (some FieldType.int), 1, false)
def mX0_openPlace : am_I := (0, yX0_openPlace, cX0_openPlace, 2, (some FieldType.int), 1, false)
def mX0_split : am_I := (0, yX0_split, cX0_split, 5, (some FieldType.int), 2, false)
def mX1_compareHeads : am_I := (1, yX1_compareHeads, cX1_compareHeads, 2, (some FieldType.int), 0, false)
def mX1_pushBelow : am_I := (1, yX1_pushBelow, cX1_pushBelow, 3, none, 1, false)
def mX1_openMarked : am_I := (1, yX1_openMarked, cX1_openMarked, 3, none, 1, false)
def mX0_addMark : am_I := (0, yX0_addMark, cX0_addMark, 1, none, 0, false)
def mX4_has : am_I := (4, yX4_has, cX4_has, 3, (some FieldType.boolean), 1, false)
def mX1_compareParts : am_I := (1, yX1_compareParts, cX1_compareParts, 7, (some FieldType.int), 0, false)
def mX1_solve : am_I := (1, yX1_solve, cX1_solve, 6, (some FieldType.int), 2, false)
def mX4_alls : am_I := (4, yX4_alls, cX4_alls, 3, (some FieldType.int), 0, false)
def mX0_allAhead : am_I := (0, yX0_allAhead, cX0_allAhead, 4, (some FieldType.boolean), 2, false)
def mX0_standsAhead : am_I := (0, yX0_standsAhead, cX0_standsAhead, 5, (some FieldType.boolean), 2, false)
def mX0_solve : am_I := (0, yX0_solve, cX0_solve, 4, none, 2, false)
def mX0_solveAs : am_I := (0, yX0_solveAs, cX0_solveAs, 4, none, 2, false)
def mX1_solveParts : am_I := (1, yX1_solveParts, cX1_solveParts, 5, none, 3, false)
def mX1_pushSolve : am_I := (1, yX1_pushSolve, cX1_pushSolve, 5, none, 4, false)
def mX1_solveAll : am_I := (1, yX1_solveAll, cX1_solveAll, 3, none, 2, false)
def mX2_noteRule : am_I := (2, yX2_noteRule, cX2_noteRule, 3, none, 1, false)
def mX1_fail : am_I := (1, yX1_fail, cX1_fail, 1, none, 0, false)
def mX1_goOn : am_I := (1, yX1_goOn, cX1_goOn, 1, none, 0, false)
def mX0_cutAt : am_I := (0, yX0_cutAt, cX0_cutAt, 4, none, 2, false)
def mX0_removeName : am_I := (0, yX0_removeName, cX0_removeName, 4, none, 1, false)
def mX1_bind : am_I := (1, yX1_bind, cX1_bind, 2, none, 1, false)
def mX1_takeOut : am_I := (1, yX1_takeOut, cX1_takeOut, 1, (some FieldType.boolean), 0, false)
def mX1_give : am_I := (1, yX1_give, cX1_give, 2, none, 1, false)
def mX1_putHeld : am_I := (1, yX1_putHeld, cX1_putHeld, 3, none, 2, false)
def mX1_giveArrow : am_I := (1, yX1_giveArrow, cX1_giveArrow, 2, none, 1, false)
def mX1_outBelow : am_I := (1, yX1_outBelow, cX1_outBelow, 3, none, 1, false)
def mX1_outElse : am_I := (1, yX1_outElse, cX1_outElse, 2, none, 1, false)
def mX1_outSecond : am_I := (1, yX1_outSecond, cX1_outSecond, 2, none, 1, false)
def mX1_outPair : am_I := (1, yX1_outPair, cX1_outPair, 2, none, 1, false)
def mX1_outPart : am_I := (1, yX1_outPart, cX1_outPart, 4, none, 1, false)
def mX1_finish : am_I := (1, yX1_finish, cX1_finish, 1, none, 0, false)
def mX11_counted : am_I := (11, yX11_counted, cX11_counted, 2, (some FieldType.int), 0, false)
def mX11_below : am_I := (11, yX11_below, cX11_below, 1, (some FieldType.int), 0, false)
def mX1_startTypes : am_I := (1, yX1_startTypes, cX1_startTypes, 4, none, 3, false)
def mX11_judged : am_I := (11, yX11_judged, cX11_judged, 3, (some FieldType.int), 1, false)
def mX6_guessesIn : am_I := (6, yX6_guessesIn, cX6_guessesIn, 4, (some FieldType.int), 1, false)
def mX6_see : am_I := (6, yX6_see, cX6_see, 4, (some FieldType.int), 2, false)
def mX6_rank : am_I := (6, yX6_rank, cX6_rank, 10, (some FieldType.int), 3, false)
def mX11_type : am_I := (11, yX11_type, cX11_type, 3, (some FieldType.int), 1, false)
def mX6_told : am_I := (6, yX6_told, cX6_told, 9, (some FieldType.int), 4, false)
def mX6_name : am_I := (6, yX6_name, cX6_name, 4, none, 2, false)
def mX6_write : am_I := (6, yX6_write, cX6_write, 2, none, 1, false)
def mX6_nameOf : am_I := (6, yX6_nameOf, cX6_nameOf, 3, (some FieldType.int), 1, false)
def mX6_orderOf : am_I := (6, yX6_orderOf, cX6_orderOf, 5, (some FieldType.int), 2, false)
def mX6_plain : am_I := (6, yX6_plain, cX6_plain, 1, (some FieldType.int), 1, false)
def mX11_entry : am_I := (11, yX11_entry, cX11_entry, 4, (some FieldType.int), 2, false)
def mX0_lengthOf : am_I := (0, yX0_lengthOf, cX0_lengthOf, 2, (some FieldType.int), 1, false)
def mX11_entryType : am_I := (11, yX11_entryType, cX11_entryType, 5, (some FieldType.int), 2, false)
def mX11_keeps : am_I := (11, yX11_keeps, cX11_keeps, 3, (some FieldType.int), 1, false)
def mX2_mayBeKept : am_I := (2, yX2_mayBeKept, cX2_mayBeKept, 1, (some FieldType.boolean), 0, false)
def mX5_takes : am_I := (5, yX5_takes, cX5_takes, 2, (some FieldType.boolean), 1, false)
def mX5_placeOf : am_I := (5, yX5_placeOf, cX5_placeOf, 3, (some FieldType.int), 1, false)
def mX5_put : am_I := (5, yX5_put, cX5_put, 5, (some (FieldType.object "RankChecker$Row")), 3, false)
def mX7_copy : am_I := (7, yX7_copy, cX7_copy, 2, none, 1, false)
def mX6_close : am_I := (6, yX6_close, cX6_close, 8, none, 2, false)
def mX11_drops : am_I := (11, yX11_drops, cX11_drops, 1, (some FieldType.int), 0, false)
def mX11_shelf : am_I := (11, yX11_shelf, cX11_shelf, 4, (some FieldType.int), 2, false)
def mX5_has : am_I := (5, yX5_has, cX5_has, 2, (some FieldType.boolean), 1, false)
def mX11_shelfType : am_I := (11, yX11_shelfType, cX11_shelfType, 4, (some FieldType.int), 2, false)
def mX11_worked : am_I := (11, yX11_worked, cX11_worked, 2, (some FieldType.int), 1, false)
def mX10_workOut : am_I := (10, yX10_workOut, cX10_workOut, 4, none, 2, false)
def mX9_clear : am_I := (9, yX9_clear, cX9_clear, 1, none, 0, false)
def mX10_goTo : am_I := (10, yX10_goTo, cX10_goTo, 4, none, 3, false)
def mX10_pace : am_I := (10, yX10_pace, cX10_pace, 2, none, 0, false)
def mX10_termAt : am_I := (10, yX10_termAt, cX10_termAt, 2, (some (FieldType.object "RankChecker$Term")), 1, false)
def mX10_workName : am_I := (10, yX10_workName, cX10_workName, 4, none, 1, false)
def mX9_find : am_I := (9, yX9_find, cX9_find, 5, (some FieldType.int), 2, false)
def mX10_give : am_I := (10, yX10_give, cX10_give, 2, none, 1, false)
def mX9_makePlain : am_I := (9, yX9_makePlain, cX9_makePlain, 3, (some FieldType.int), 2, false)
def mX9_make : am_I := (9, yX9_make, cX9_make, 6, (some FieldType.int), 4, false)
def mX9_makeFunction : am_I := (9, yX9_makeFunction, cX9_makeFunction, 4, (some FieldType.int), 3, false)
def mX10_await : am_I := (10, yX10_await, cX10_await, 4, none, 2, false)
def mX10_resume : am_I := (10, yX10_resume, cX10_resume, 3, none, 0, false)
def mX10_goOnWithFirst : am_I := (10, yX10_goOnWithFirst, cX10_goOnWithFirst, 3, none, 2, false)
def mX9_bind : am_I := (9, yX9_bind, cX9_bind, 5, (some FieldType.int), 3, false)
def mX10_must : am_I := (10, yX10_must, cX10_must, 2, (some FieldType.boolean), 1, false)
def mX9_kindOf : am_I := (9, yX9_kindOf, cX9_kindOf, 2, (some FieldType.int), 1, false)
def mX9_has : am_I := (9, yX9_has, cX9_has, 2, (some FieldType.boolean), 1, false)
def mX9_firstOf : am_I := (9, yX9_firstOf, cX9_firstOf, 2, (some FieldType.int), 1, false)
def mX9_secondOf : am_I := (9, yX9_secondOf, cX9_secondOf, 2, (some FieldType.int), 1, false)
def mX10_goOnWithBoth : am_I := (10, yX10_goOnWithBoth, cX10_goOnWithBoth, 5, none, 2, false)
def mX10_workFunction : am_I := (10, yX10_workFunction, cX10_workFunction, 6, none, 1, false)
def mX9_homeOf : am_I := (9, yX9_homeOf, cX9_homeOf, 2, (some FieldType.int), 1, false)
def mX9_makePair : am_I := (9, yX9_makePair, cX9_makePair, 5, (some FieldType.int), 2, false)
def mX9_countOf : am_I := (9, yX9_countOf, cX9_countOf, 2, (some FieldType.int), 1, false)
def mX10_answerKind : am_I := (10, yX10_answerKind, cX10_answerKind, 1, (some FieldType.int), 0, false)
def mX10_answerNumber : am_I := (10, yX10_answerNumber, cX10_answerNumber, 2, (some FieldType.int), 0, false)
def mX11_asks : am_I := (11, yX11_asks, cX11_asks, 5, (some FieldType.int), 0, false)
def mX7_wrap : am_I := (7, yX7_wrap, cX7_wrap, 3, none, 2, false)
def mX11_tells : am_I := (11, yX11_tells, cX11_tells, 3, (some FieldType.int), 1, false)
def mX4_same : am_I := (4, yX4_same, cX4_same, 3, (some FieldType.boolean), 1, false)
def mX11_shelfBelow : am_I := (11, yX11_shelfBelow, cX11_shelfBelow, 3, (some FieldType.int), 2, false)
def mX11_count : am_I := (11, yX11_count, cX11_count, 2, (some FieldType.int), 1, false)
def mX11_byRule : am_I := (11, yX11_byRule, cX11_byRule, 4, (some FieldType.int), 1, false)
def mX11_step : am_I := (11, yX11_step, cX11_step, 3, (some FieldType.int), 2, false)
def mX12_init : am_I := (12, yX12_init, cX12_init, 1, none, 0, false)
def mX12_thrown : am_I := (12, yX12_thrown, cX12_thrown, 1, (some FieldType.int), 0, false)
def mX12_feed : am_I := (12, yX12_feed, cX12_feed, 6, (some FieldType.int), 5, false)
def mX12_bytesOf : am_I := (12, yX12_bytesOf, cX12_bytesOf, 3, (some FieldType.int), 1, false)
def mX12_brings : am_I := (12, yX12_brings, cX12_brings, 4, none, 1, false)
def mX12_end : am_I := (12, yX12_end, cX12_end, 2, (some FieldType.boolean), 1, false)
def mX12_fault : am_I := (12, yX12_fault, cX12_fault, 2, (some FieldType.int), 1, false)
def mX12_readsWhole : am_I := (12, yX12_readsWhole, cX12_readsWhole, 2, (some FieldType.int), 0, false)
def mX12_begins : am_I := (12, yX12_begins, cX12_begins, 1, none, 0, false)
def mX12_readsExpression : am_I := (12, yX12_readsExpression, cX12_readsExpression, 7, (some FieldType.int), 1, false)
def mX12_look : am_I := (12, yX12_look, cX12_look, 1, (some FieldType.int), 0, false)
def mX12_here : am_I := (12, yX12_here, cX12_here, 1, (some FieldType.int), 0, false)
def mX12_kindOf : am_I := (12, yX12_kindOf, cX12_kindOf, 1, (some FieldType.int), 1, false)
def mX12_isLetter : am_I := (12, yX12_isLetter, cX12_isLetter, 1, (some FieldType.boolean), 1, false)
def mX12_isDigit : am_I := (12, yX12_isDigit, cX12_isDigit, 1, (some FieldType.boolean), 1, false)
def mX12_fails : am_I := (12, yX12_fails, cX12_fails, 2, (some FieldType.int), 1, false)
def mX12_opens : am_I := (12, yX12_opens, cX12_opens, 5, (some FieldType.int), 2, false)
def mX12_number : am_I := (12, yX12_number, cX12_number, 3, (some FieldType.int), 0, false)
def mX12_puts_ : am_I := (12, yX12_puts_, cX12_puts_, 4, none, 3, false)
def mX12_letter : am_I := (12, yX12_letter, cX12_letter, 2, (some FieldType.int), 0, false)
def mX12_parts : am_I := (12, yX12_parts, cX12_parts, 1, (some FieldType.int), 1, false)
def mX12_readsType : am_I := (12, yX12_readsType, cX12_readsType, 8, none, 2, false)
def mX12_puts : am_I := (12, yX12_puts, cX12_puts, 2, none, 1, false)
def mX12_endsText : am_I := (12, yX12_endsText, cX12_endsText, 1, none, 0, false)
def mX12_isIn : am_I := (12, yX12_isIn, cX12_isIn, 6, (some FieldType.boolean), 3, true)
def mX12_readsTypes : am_I := (12, yX12_readsTypes, cX12_readsTypes, 2, (some FieldType.int), 1, false)
def mX12_infers_ : am_I := (12, yX12_infers_, cX12_infers_, 2, (some FieldType.int), 0, false)
def mX12_copies : am_I := (12, yX12_copies, cX12_copies, 7, none, 2, false)
def mX12_judges : am_I := (12, yX12_judges, cX12_judges, 4, (some FieldType.int), 1, false)
def mX12_clears : am_I := (12, yX12_clears, cX12_clears, 4, none, 2, false)
def mX12_typeRowOf : am_I := (12, yX12_typeRowOf, cX12_typeRowOf, 1, (some FieldType.int), 1, false)
def mX12_typeFrom : am_I := (12, yX12_typeFrom, cX12_typeFrom, 2, (some FieldType.int), 1, false)
def mX12_builds : am_I := (12, yX12_builds, cX12_builds, 4, (some FieldType.int), 1, false)
def mX12_makes : am_I := (12, yX12_makes, cX12_makes, 4, (some FieldType.int), 3, false)
def mX12_comes : am_I := (12, yX12_comes, cX12_comes, 4, none, 3, false)
def mX12_infer : am_I := (12, yX12_infer, cX12_infer, 4, (some FieldType.int), 1, false)
def mX12_begins_ : am_I := (12, yX12_begins_, cX12_begins_, 9, (some FieldType.int), 4, false)
def mX12_by : am_I := (12, yX12_by, cX12_by, 2, (some FieldType.int), 1, false)
def mX12_signsBy : am_I := (12, yX12_signsBy, cX12_signsBy, 4, (some FieldType.int), 2, false)
def mX12_isBoth : am_I := (12, yX12_isBoth, cX12_isBoth, 2, (some FieldType.boolean), 1, false)
def mX12_placeOf : am_I := (12, yX12_placeOf, cX12_placeOf, 4, (some FieldType.int), 2, false)
def mX12_replaced : am_I := (12, yX12_replaced, cX12_replaced, 4, (some FieldType.int), 1, false)
def mX12_of : am_I := (12, yX12_of, cX12_of, 3, (some FieldType.int), 2, false)
def mX12_signs : am_I := (12, yX12_signs, cX12_signs, 2, (some FieldType.int), 1, false)
def mX12_infers : am_I := (12, yX12_infers, cX12_infers, 6, (some FieldType.int), 2, false)
def mX12_failsNow : am_I := (12, yX12_failsNow, cX12_failsNow, 1, (some FieldType.int), 0, false)
def mX12_rule : am_I := (12, yX12_rule, cX12_rule, 3, none, 2, false)
def mX12_plain : am_I := (12, yX12_plain, cX12_plain, 2, (some FieldType.int), 1, false)
def mX12_noted : am_I := (12, yX12_noted, cX12_noted, 2, (some FieldType.int), 1, false)
def mX12_check : am_I := (12, yX12_check, cX12_check, 4, none, 2, false)
def mX12_checks : am_I := (12, yX12_checks, cX12_checks, 7, none, 3, false)
def mX12_freshConstant : am_I := (12, yX12_freshConstant, cX12_freshConstant, 1, (some FieldType.int), 0, false)
def mX12_inside : am_I := (12, yX12_inside, cX12_inside, 3, (some FieldType.int), 2, false)
def mX12_with : am_I := (12, yX12_with, cX12_with, 6, (some FieldType.int), 3, false)
def mX12_cuts : am_I := (12, yX12_cuts, cX12_cuts, 3, none, 2, false)
def mX12_marked : am_I := (12, yX12_marked, cX12_marked, 1, (some FieldType.int), 0, false)
def mX12_entryOwn : am_I := (12, yX12_entryOwn, cX12_entryOwn, 3, none, 2, false)
def mX12_cutsAt : am_I := (12, yX12_cutsAt, cX12_cutsAt, 2, none, 1, false)
def mX12_placeOfMark : am_I := (12, yX12_placeOfMark, cX12_placeOfMark, 3, (some FieldType.int), 1, false)
def mX12_below : am_I := (12, yX12_below, cX12_below, 4, none, 2, false)
def mX12_isBelow : am_I := (12, yX12_isBelow, cX12_isBelow, 5, none, 3, false)
def mX12_freshGuess : am_I := (12, yX12_freshGuess, cX12_freshGuess, 1, (some FieldType.int), 0, false)
def mX12_areSame : am_I := (12, yX12_areSame, cX12_areSame, 3, (some FieldType.boolean), 2, false)
def mX12_isOpen : am_I := (12, yX12_isOpen, cX12_isOpen, 2, (some FieldType.boolean), 1, false)
def mX12_hasGuess : am_I := (12, yX12_hasGuess, cX12_hasGuess, 3, (some FieldType.boolean), 2, false)
def mX12_left : am_I := (12, yX12_left, cX12_left, 4, none, 2, false)
def mX12_becomesLeft : am_I := (12, yX12_becomesLeft, cX12_becomesLeft, 5, none, 3, false)
def mX12_meets : am_I := (12, yX12_meets, cX12_meets, 6, (some FieldType.boolean), 4, false)
def mX12_hasAll : am_I := (12, yX12_hasAll, cX12_hasAll, 2, (some FieldType.boolean), 1, false)
def mX12_isAhead : am_I := (12, yX12_isAhead, cX12_isAhead, 4, (some FieldType.boolean), 2, false)
def mX12_solves : am_I := (12, yX12_solves, cX12_solves, 3, none, 2, false)
def mX12_splits : am_I := (12, yX12_splits, cX12_splits, 6, (some FieldType.int), 2, false)
def mX12_right : am_I := (12, yX12_right, cX12_right, 4, none, 2, false)
def mX12_becomesRight : am_I := (12, yX12_becomesRight, cX12_becomesRight, 5, none, 3, false)
def mX12_apply : am_I := (12, yX12_apply, cX12_apply, 5, (some FieldType.int), 2, false)
def mX12_applies : am_I := (12, yX12_applies, cX12_applies, 5, (some FieldType.int), 3, false)
def mX12_takesOut : am_I := (12, yX12_takesOut, cX12_takesOut, 4, none, 1, false)
def mX12_partOf : am_I := (12, yX12_partOf, cX12_partOf, 4, (some FieldType.int), 2, false)
def mX12_splitsPair : am_I := (12, yX12_splitsPair, cX12_splitsPair, 2, (some FieldType.int), 1, false)
def mX12_counted : am_I := (12, yX12_counted, cX12_counted, 1, (some FieldType.int), 0, false)
def mX12_below_ : am_I := (12, yX12_below_, cX12_below_, 2, (some FieldType.int), 0, false)
def mX12_type : am_I := (12, yX12_type, cX12_type, 2, (some FieldType.int), 1, false)
def mX12_hasType : am_I := (12, yX12_hasType, cX12_hasType, 1, (some FieldType.boolean), 0, false)
def mX12_tellsType : am_I := (12, yX12_tellsType, cX12_tellsType, 3, (some FieldType.int), 2, false)
def mX12_writesType : am_I := (12, yX12_writesType, cX12_writesType, 3, none, 1, false)
def mX12_writes : am_I := (12, yX12_writes, cX12_writes, 2, none, 1, false)
def mX12_among : am_I := (12, yX12_among, cX12_among, 4, (some FieldType.int), 3, false)
def mX12_judged : am_I := (12, yX12_judged, cX12_judged, 2, (some FieldType.int), 1, false)
def mX12_openOf : am_I := (12, yX12_openOf, cX12_openOf, 3, (some FieldType.int), 1, false)
def mX12_rank : am_I := (12, yX12_rank, cX12_rank, 3, (some FieldType.int), 1, false)
def mX12_step : am_I := (12, yX12_step, cX12_step, 3, (some FieldType.int), 2, false)
def mX12_entry : am_I := (12, yX12_entry, cX12_entry, 3, (some FieldType.int), 2, false)
def mX12_isEntry : am_I := (12, yX12_isEntry, cX12_isEntry, 2, (some FieldType.boolean), 1, false)
def mX12_entryType : am_I := (12, yX12_entryType, cX12_entryType, 3, (some FieldType.int), 2, false)
def mX12_byRule : am_I := (12, yX12_byRule, cX12_byRule, 4, (some FieldType.int), 1, false)
def mX12_keeps : am_I := (12, yX12_keeps, cX12_keeps, 4, (some FieldType.int), 1, false)
def mX12_isOnShelf : am_I := (12, yX12_isOnShelf, cX12_isOnShelf, 3, (some FieldType.boolean), 1, false)
def mX12_encodes : am_I := (12, yX12_encodes, cX12_encodes, 3, none, 2, false)
def mX12_rowOf : am_I := (12, yX12_rowOf, cX12_rowOf, 1, (some FieldType.int), 1, false)
def mX12_drops : am_I := (12, yX12_drops, cX12_drops, 1, (some FieldType.int), 0, false)
def mX12_shelf : am_I := (12, yX12_shelf, cX12_shelf, 3, (some FieldType.int), 2, false)
def mX12_tellsOf : am_I := (12, yX12_tellsOf, cX12_tellsOf, 7, (some FieldType.int), 2, false)
def mX12_allsIn : am_I := (12, yX12_allsIn, cX12_allsIn, 2, (some FieldType.int), 1, false)
def mX12_shelfType : am_I := (12, yX12_shelfType, cX12_shelfType, 6, (some FieldType.int), 2, false)
def mX12_shelfBelow : am_I := (12, yX12_shelfBelow, cX12_shelfBelow, 5, (some FieldType.int), 2, false)
def mX12_laysAside : am_I := (12, yX12_laysAside, cX12_laysAside, 2, none, 0, false)
def mX12_takesBack : am_I := (12, yX12_takesBack, cX12_takesBack, 2, none, 0, false)
def mX12_asks : am_I := (12, yX12_asks, cX12_asks, 6, (some FieldType.int), 0, false)
def mX12_judgesNoted : am_I := (12, yX12_judgesNoted, cX12_judgesNoted, 5, (some FieldType.int), 2, false)
def mX12_tells : am_I := (12, yX12_tells, cX12_tells, 2, (some FieldType.int), 1, false)
def mX12_areAlike : am_I := (12, yX12_areAlike, cX12_areAlike, 2, (some FieldType.boolean), 0, false)
def mX12_worked : am_I := (12, yX12_worked, cX12_worked, 3, (some FieldType.int), 1, false)
def mX12_works : am_I := (12, yX12_works, cX12_works, 6, (some FieldType.int), 2, false)
def mX12_worksName : am_I := (12, yX12_worksName, cX12_worksName, 4, (some FieldType.int), 2, false)
def mX12_sticks : am_I := (12, yX12_sticks, cX12_sticks, 1, (some FieldType.int), 0, false)
def mX12_value : am_I := (12, yX12_value, cX12_value, 4, (some FieldType.int), 3, false)
def mX12_is : am_I := (12, yX12_is, cX12_is, 3, (some FieldType.boolean), 2, false)
def mX12_linked : am_I := (12, yX12_linked, cX12_linked, 4, (some FieldType.int), 3, false)
def mX12_worksBoth : am_I := (12, yX12_worksBoth, cX12_worksBoth, 6, (some FieldType.int), 2, false)
def mX12_count : am_I := (12, yX12_count, cX12_count, 2, (some FieldType.int), 1, false)
def am_fldL_0 : List (Nat × Nat × Nat × Nat × Nat) := [(0, 15, 0, 0, 1145), (0, 19, 0, 1, 1147), (0, 22, 0, 2, 1149), (0, 30, 0, 3, 1151), (0, 34, 0, 8, 1164), (0, 37, 0, 9, 1165), (0, 40, 0, 4, 1154), (0, 44, 0, 5, 1158), (0, 47, 0, 6, 1160), (0, 50, 0, 7, 1162), (0, 85, 4, 1, 1052), (0, 88, 4, 0, 1044), (0, 102, 4, 2, 1055), (1, 12, 1, 0, 2085), (1, 25, 1, 1, 2086), (1, 29, 1, 2, 2087), (1, 32, 1, 3, 2088), (1, 35, 1, 4, 2089), (1, 39, 2, 0, 1190), (1, 43, 1, 5, 2090), (1, 44, 1, 6, 2091), (1, 48, 1, 7, 2092), (1, 52, 1, 8, 2093), (1, 55, 1, 9, 2094), (1, 69, 5, 0, 1107), (1, 74, 5, 3, 1115), (1, 78, 5, 1, 1110), (1, 82, 4, 1, 1047), (1, 101, 4, 0, 1041), (1, 112, 2, 3, 1198), (1, 115, 8, 6, 2060), (1, 119, 8, 1, 2050), (1, 122, 8, 0, 2048), (1, 131, 8, 5, 2058), (1, 135, 8, 7, 2062), (1, 138, 4, 2, 1054), (1, 141, 0, 7, 1163), (1, 142, 0, 3, 1152), (1, 148, 2, 7, 1209), (1, 151, 2, 2, 1195), (1, 158, 2, 6, 1206), (1, 161, 2, 4, 1202), (1, 164, 0, 4, 1156), (1, 169, 8, 2, 2052), (1, 192, 8, 4, 2056), (1, 205, 8, 3, 2054), (2, 12, 2, 0, 1189), (2, 18, 2, 1, 1192), (2, 27, 2, 2, 1194), (2, 31, 2, 3, 1197), (2, 35, 2, 4, 1200), (2, 38, 2, 5, 1203), (2, 41, 2, 6, 1205), (2, 44, 2, 7, 1208), (2, 48, 2, 8, 1210), (2, 55, 0, 4, 1155), (3, 11, 3, 3, 2005), (3, 15, 3, 4, 2006), (3, 23, 3, 1, 2001), (3, 27, 3, 2, 2003)]
def am_fldL_1 : List (Nat × Nat × Nat × Nat × Nat) := [(3, 30, 3, 0, 1239), (3, 34, 3, 5, 2007), (3, 37, 3, 6, 2008), (3, 40, 3, 7, 2009), (3, 43, 3, 8, 2010), (3, 47, 3, 9, 2011), (3, 55, 7, 1, 1067), (4, 9, 4, 0, 1040), (4, 15, 4, 1, 1046), (4, 19, 4, 2, 1053), (5, 13, 5, 1, 1109), (5, 17, 5, 2, 1112), (5, 22, 5, 3, 1114), (5, 28, 5, 4, 1117), (5, 36, 5, 0, 1106), (6, 13, 6, 0, 2201), (6, 17, 6, 2, 2203), (6, 20, 6, 3, 2204), (6, 23, 6, 4, 2205), (6, 26, 6, 1, 2202), (6, 60, 4, 1, 1051), (6, 61, 4, 0, 1043), (7, 11, 7, 2, 1068), (7, 17, 7, 3, 1069), (7, 20, 7, 4, 1070), (7, 23, 7, 5, 1071), (7, 26, 7, 6, 1072), (7, 34, 7, 1, 1066), (7, 38, 7, 0, 1064), (7, 42, 7, 7, 1073), (7, 45, 7, 8, 1074), (7, 58, 4, 1, 1049), (7, 68, 4, 0, 1045), (8, 13, 8, 8, 2063), (8, 22, 8, 7, 2061), (8, 26, 8, 0, 2047), (8, 30, 8, 1, 2049), (8, 33, 8, 2, 2051), (8, 36, 8, 3, 2053), (8, 39, 8, 4, 2055), (8, 42, 8, 6, 2059), (8, 45, 8, 5, 2057), (8, 52, 4, 1, 1048), (9, 13, 9, 0, 2128), (9, 17, 9, 1, 2129), (9, 20, 9, 2, 2130), (9, 23, 9, 3, 2131), (9, 26, 9, 4, 2132), (9, 29, 9, 6, 2134), (9, 32, 9, 7, 2135), (9, 35, 9, 8, 2136), (9, 38, 9, 5, 2133), (9, 42, 9, 9, 2137), (10, 12, 10, 2, 2163), (10, 18, 10, 3, 2164), (10, 22, 10, 0, 2159), (10, 26, 10, 1, 2161), (10, 29, 10, 4, 2165), (10, 32, 10, 5, 2166), (10, 36, 10, 6, 2167)]
def am_fldL_2 : List (Nat × Nat × Nat × Nat × Nat) := [(10, 40, 10, 7, 2168), (10, 43, 10, 8, 2169), (10, 46, 10, 9, 2170), (10, 49, 10, 10, 2171), (10, 88, 5, 4, 1118), (11, 10, 11, 7, 2224), (11, 16, 11, 8, 2225), (11, 22, 11, 1, 2218), (11, 29, 11, 5, 2222), (11, 33, 11, 6, 2223), (11, 41, 11, 0, 2217), (11, 50, 11, 2, 2219), (11, 59, 11, 3, 2220), (11, 66, 11, 4, 2221), (11, 70, 11, 9, 2226), (11, 74, 11, 10, 2227), (11, 78, 11, 11, 2228), (11, 86, 3, 0, 2000), (11, 111, 3, 1, 2002), (11, 115, 3, 2, 2004), (11, 122, 2, 4, 1201), (11, 131, 2, 3, 1199), (11, 134, 2, 2, 1196), (11, 137, 2, 0, 1191), (11, 141, 0, 5, 1159), (11, 146, 0, 6, 1161), (11, 149, 0, 4, 1157), (11, 152, 2, 5, 1204), (11, 155, 2, 6, 1207), (11, 162, 4, 1, 1050), (11, 165, 4, 0, 1042), (11, 179, 2, 1, 1193), (11, 182, 0, 0, 1146), (11, 185, 0, 1, 1148), (11, 191, 0, 2, 1150), (11, 194, 0, 3, 1153), (11, 212, 2, 8, 1211), (11, 214, 5, 0, 1108), (11, 218, 5, 3, 1116), (11, 221, 5, 1, 1111), (11, 224, 5, 2, 1113), (11, 227, 5, 4, 1119), (11, 231, 7, 0, 1065), (11, 235, 10, 0, 2160), (11, 238, 10, 1, 2162), (12, 9, 12, 1, 6201), (12, 13, 12, 5, 6205), (12, 17, 12, 7, 6207), (12, 20, 12, 8, 6208), (12, 24, 12, 11, 6211), (12, 27, 12, 12, 6212), (12, 30, 12, 13, 6213), (12, 33, 12, 17, 6217), (12, 36, 12, 18, 6218), (12, 39, 12, 19, 6219), (12, 42, 12, 20, 6220), (12, 45, 12, 24, 6224), (12, 48, 12, 34, 6234), (12, 51, 12, 41, 7001), (12, 55, 12, 44, 7004)]
def am_fldL_3 : List (Nat × Nat × Nat × Nat × Nat) := [(12, 58, 12, 45, 7005), (12, 61, 12, 46, 7006), (12, 64, 12, 47, 7007), (12, 67, 12, 51, 7011), (12, 71, 12, 52, 7012), (12, 74, 12, 53, 7013), (12, 77, 12, 54, 7014), (12, 80, 12, 59, 7019), (12, 83, 12, 60, 7020), (12, 86, 12, 61, 7021), (12, 89, 12, 62, 7022), (12, 92, 12, 63, 7023), (12, 95, 12, 64, 7024), (12, 98, 12, 65, 7025), (12, 101, 12, 66, 7026), (12, 104, 12, 67, 7027), (12, 107, 12, 68, 7028), (12, 110, 12, 69, 7029), (12, 113, 12, 0, 6200), (12, 116, 12, 2, 6202), (12, 127, 12, 3, 6203), (12, 134, 12, 4, 6204), (12, 137, 12, 6, 6206), (12, 160, 12, 9, 6209), (12, 188, 12, 10, 6210), (12, 209, 12, 14, 6214), (12, 212, 12, 16, 6216), (12, 219, 12, 15, 6215), (12, 249, 12, 21, 6221), (12, 252, 12, 22, 6222), (12, 258, 12, 23, 6223), (12, 264, 12, 29, 6229), (12, 273, 12, 25, 6225), (12, 279, 12, 30, 6230), (12, 282, 12, 31, 6231), (12, 285, 12, 26, 6226), (12, 288, 12, 27, 6227), (12, 291, 12, 28, 6228), (12, 294, 12, 32, 6232), (12, 297, 12, 33, 6233), (12, 336, 12, 35, 6235), (12, 408, 12, 48, 7008), (12, 411, 12, 49, 7009), (12, 414, 12, 43, 7003), (12, 425, 12, 42, 7002), (12, 428, 12, 40, 7000), (12, 431, 12, 36, 6236), (12, 435, 12, 38, 6238), (12, 441, 12, 50, 7010), (12, 444, 12, 39, 6239), (12, 447, 12, 37, 6237), (12, 456, 12, 55, 7015), (12, 462, 12, 56, 7016), (12, 468, 12, 57, 7017), (12, 475, 12, 58, 7018), (12, 526, 12, 70, 7030), (12, 532, 12, 71, 7031), (12, 535, 12, 73, 7033), (12, 538, 12, 72, 7032)]
def am_fldL : List (Nat × Nat × Nat × Nat × Nat) := am_fldL_0 ++ am_fldL_1 ++ am_fldL_2 ++ am_fldL_3
def am_mthL_0 : List (Nat × Nat × Nat × am_I × Nat × Nat × Nat × Nat × Nat) := [(0, 27, 2, mX4_init, 1144, 1037, 1003, 1038, 0), (0, 54, 0, mX4_clear, 3169, 3042, 1003, 3044, 3043), (0, 57, 0, mX4_keptLength, 4009, 3226, 1003, 3228, 3227), (0, 61, 0, mX0_put, 3188, 3190, 1006, 3191, 16), (0, 65, 0, mX4_keep, 3181, 3182, 1003, 3184, 3183), (0, 69, 1, mX4_sign, 4170, 3134, 1003, 3135, 0), (0, 73, 0, mX4_keepSign, 4171, 4119, 1003, 4121, 4120), (0, 76, 0, mX0_placeOf, 4004, 4006, 1006, 4007, 22), (0, 79, 1, mX4_kindOf, 3238, 3239, 1003, 4000, 0), (0, 82, 1, mX4_numberOf, 4001, 4002, 1003, 4003, 0), (0, 91, 0, mX0_standsAhead, 4235, 4237, 1006, 4238, 51), (0, 95, 0, mX0_openPlace, 4198, 4191, 1006, 4193, 4192), (0, 98, 0, mX4_add, 4008, 3122, 1003, 3124, 3123), (0, 105, 0, mX0_solvedType, 3234, 3236, 1006, 3237, 21), (1, 11, 2, mX8_init, 2041, 2042, 1009, 2043, 0), (1, 22, 2, mX4_init, 2084, 1037, 1003, 1038, 0), (1, 58, 0, mX2_start, 3161, 3162, 1005, 3164, 3163), (1, 62, 0, mX8_clear, 3171, 3172, 1009, 3174, 3173), (1, 65, 0, mX4_clear, 3176, 3042, 1003, 3044, 3043), (1, 66, 0, mX1_start, 3157, 3159, 1008, 3160, 15), (1, 85, 0, mX0_addName, 3177, 3178, 1006, 3180, 3179), (1, 91, 0, mX7_root, 3192, 3193, 1002, 3195, 3194), (1, 97, 0, mX8_push, 3200, 3201, 1009, 3203, 3202), (1, 104, 0, mX4_put, 4139, 4140, 1003, 4142, 4141), (1, 108, 0, mX1_pushBelow, 4203, 4205, 1008, 4206, 47), (1, 116, 0, mX8_pop, 3209, 3210, 1009, 3212, 3211), (1, 125, 0, mX1_begin, 3213, 3215, 1008, 3216, 18), (1, 128, 0, mX1_goOn, 5027, 5029, 1008, 5030, 56), (1, 145, 0, mX1_finish, 5079, 5081, 1008, 5082, 67), (1, 154, 0, mX0_take, 3229, 3230, 1006, 3232, 3231), (1, 165, 0, mX1_takeTypes, 3217, 3219, 1008, 3220, 19), (1, 172, 0, mX7_at, 4014, 4015, 1002, 4017, 4016), (1, 176, 0, mX2_note, 4022, 4023, 1005, 4025, 4024), (1, 180, 0, mX1_check, 4029, 4031, 1008, 4032, 24), (1, 183, 0, mX1_infer, 4127, 4129, 1008, 4130, 37), (1, 186, 0, mX1_apply, 4180, 4182, 1008, 4183, 44), (1, 189, 0, mX1_compareHeads, 4199, 4201, 1008, 4202, 46), (1, 195, 0, mX1_solve, 4223, 4225, 1008, 4226, 50), (1, 199, 0, mX2_noteRule, 5019, 5020, 1005, 5022, 5021), (1, 202, 0, mX1_fail, 5023, 5025, 1008, 5026, 55), (1, 208, 0, mX1_takeHeld, 3221, 3223, 1008, 3224, 20), (1, 212, 0, mX8_letGo, 4010, 4011, 1009, 4013, 4012), (1, 215, 0, mX4_keptLength, 3225, 3226, 1003, 3228, 3227), (1, 218, 0, mX4_keep, 4070, 3182, 1003, 3184, 3183), (1, 222, 0, mX1_hold, 4066, 4068, 1008, 4069, 28), (1, 226, 0, mX4_kindAt, 4033, 4034, 1003, 4036, 4035), (1, 229, 0, mX1_checkAll, 4042, 4044, 1008, 4045, 25), (1, 232, 0, mX7_op, 4075, 4076, 1002, 4078, 4077), (1, 235, 0, mX1_checkFunction, 4079, 4081, 1008, 4082, 30), (1, 238, 0, mX1_checkInferred, 4098, 4100, 1008, 4101, 31), (1, 241, 0, mX1_checkPair, 4110, 4112, 1008, 4113, 34), (1, 244, 0, mX1_checkIf, 4114, 4116, 1008, 4117, 35), (1, 247, 0, mX1_checkLet, 4123, 4125, 1008, 4126, 36), (1, 250, 0, mX1_openConstant, 4046, 4048, 1008, 4049, 26), (1, 254, 0, mX1_pushCheck, 4071, 4073, 1008, 4074, 29), (1, 258, 0, mX4_past, 4083, 4084, 1003, 4086, 4085), (1, 261, 0, mX7_number, 4090, 4091, 1002, 4093, 4092), (1, 264, 0, mX1_pushCut, 4062, 4064, 1008, 4065, 27), (1, 267, 0, mX7_part, 4094, 4095, 1002, 4097, 4096), (1, 270, 0, mX4_keepSign, 4118, 4119, 1003, 4121, 4120)]
def am_mthL_1 : List (Nat × Nat × Nat × am_I × Nat × Nat × Nat × Nat × Nat) := [(1, 273, 0, mX1_pushGoOn, 4102, 4104, 1008, 4105, 32), (1, 277, 0, mX1_pushInfer, 4106, 4108, 1008, 4109, 33), (1, 280, 0, mX1_inferName, 4131, 4133, 1008, 4134, 38), (1, 283, 0, mX1_inferSign, 4143, 4145, 1008, 4146, 39), (1, 286, 0, mX1_inferNoted, 4148, 4150, 1008, 4151, 40), (1, 289, 0, mX1_inferFunction, 4158, 4160, 1008, 4161, 41), (1, 292, 0, mX1_inferLet, 4172, 4174, 1008, 4175, 42), (1, 295, 0, mX1_inferOfNumbers, 4176, 4178, 1008, 4179, 43), (1, 298, 0, mX0_nameType, 4135, 4136, 1006, 4138, 4137), (1, 301, 0, mX4_add, 4147, 3122, 1003, 3124, 3123), (1, 304, 0, mX7_putType, 4152, 4153, 1002, 4155, 4154), (1, 307, 0, mX0_addGuess, 4162, 4163, 1006, 4165, 4164), (1, 310, 0, mX0_addGuessedName, 4166, 4167, 1006, 4169, 4168), (1, 313, 1, mX4_sign, 4054, 3134, 1003, 3135, 0), (1, 316, 0, mX4_open, 4055, 4056, 1003, 4058, 4057), (1, 319, 0, mX1_openGuess, 4184, 4186, 1008, 4187, 45), (1, 322, 0, mX0_split, 4194, 4195, 1006, 4197, 4196), (1, 325, 0, mX4_at, 4188, 4038, 1003, 4040, 4039), (1, 326, 1, mX4_numberOf, 4189, 4002, 1003, 4003, 0), (1, 329, 0, mX0_openPlace, 4190, 4191, 1006, 4193, 4192), (1, 332, 0, mX1_openMarked, 4207, 4209, 1008, 4210, 48), (1, 335, 0, mX4_has, 4215, 4216, 1003, 4218, 4217), (1, 339, 0, mX1_compareParts, 4219, 4221, 1008, 4222, 49), (1, 342, 0, mX4_alls, 4227, 4228, 1003, 4230, 4229), (1, 345, 0, mX0_allAhead, 4231, 4232, 1006, 4234, 4233), (1, 349, 0, mX0_solve, 4239, 5000, 1006, 5002, 5001), (1, 351, 0, mX0_solveAs, 5003, 5004, 1006, 5006, 5005), (1, 354, 0, mX1_solveParts, 5007, 5009, 1008, 5010, 52), (1, 357, 0, mX1_solveAll, 5015, 5017, 1008, 5018, 54), (1, 360, 0, mX1_pushSolve, 5011, 5013, 1008, 5014, 53), (1, 363, 0, mX0_addConstant, 4050, 4051, 1006, 4053, 4052), (1, 366, 0, mX0_addMark, 4211, 4212, 1006, 4214, 4213), (1, 369, 0, mX0_cutAt, 5031, 5032, 1006, 5034, 5033), (1, 372, 0, mX0_removeName, 5035, 5036, 1006, 5038, 5037), (1, 375, 0, mX1_bind, 5039, 5041, 1008, 5042, 57), (1, 378, 0, mX1_give, 5047, 5049, 1008, 5050, 59), (1, 381, 0, mX1_giveArrow, 5055, 5057, 1008, 5058, 61), (1, 384, 0, mX1_outBelow, 5059, 5061, 1008, 5062, 62), (1, 387, 0, mX1_outElse, 5063, 5065, 1008, 5066, 63), (1, 390, 0, mX1_outSecond, 5067, 5069, 1008, 5070, 64), (1, 393, 0, mX1_outPair, 5071, 5073, 1008, 5074, 65), (1, 396, 0, mX1_outPart, 5075, 5077, 1008, 5078, 66), (1, 399, 0, mX1_takeOut, 5043, 5045, 1008, 5046, 58), (1, 402, 0, mX1_putHeld, 5051, 5053, 1008, 5054, 60), (2, 11, 2, mX0_init, 1139, 1140, 1006, 1141, 0), (2, 24, 2, mX4_init, 1188, 1037, 1003, 1038, 0), (2, 51, 0, mX0_clear, 3165, 3166, 1006, 3168, 3167), (2, 54, 0, mX4_clear, 3170, 3042, 1003, 3044, 3043), (3, 20, 2, mX4_init, 1238, 1037, 1003, 1038, 0), (3, 50, 0, mX7_clear, 3037, 3038, 1002, 3040, 3039), (3, 58, 0, mX3_readPart, 3049, 3051, 1007, 3052, 0), (3, 61, 0, mX3_readEnd, 3140, 3142, 1007, 3143, 14), (3, 64, 0, mX4_clear, 3148, 3042, 1003, 3044, 3043), (3, 65, 0, mX3_readType, 3109, 3111, 1007, 3112, 8), (3, 68, 0, mX3_nextSign, 3053, 3055, 1007, 3056, 1), (3, 72, 0, mX3_refuse, 3066, 3068, 1007, 3069, 2), (3, 75, 1, mX3_isDigit, 3060, 3061, 1007, 3062, 0), (3, 79, 1, mX3_isLetter, 3063, 3064, 1007, 3065, 0), (3, 82, 1, mX3_opOf, 3057, 3058, 1007, 3059, 0), (3, 86, 0, mX7_add, 3070, 3071, 1002, 3073, 3072)]
def am_mthL_2 : List (Nat × Nat × Nat × am_I × Nat × Nat × Nat × Nat × Nat) := [(3, 90, 0, mX3_readHead, 3074, 3076, 1007, 3077, 3), (3, 94, 1, mX7_partsOf, 3098, 3099, 1002, 3100, 0), (3, 97, 0, mX7_close, 3101, 3102, 1002, 3104, 3103), (3, 100, 0, mX7_beginType, 3105, 3106, 1002, 3108, 3107), (3, 103, 0, mX3_readNumber, 3078, 3080, 1007, 3081, 4), (3, 106, 0, mX7_setNumber, 3086, 3087, 1002, 3089, 3088), (3, 110, 0, mX3_readLetter, 3094, 3096, 1007, 3097, 7), (3, 113, 0, mX3_here, 3082, 3084, 1007, 3085, 5), (3, 116, 0, mX3_readTypePart, 3113, 3115, 1007, 3116, 9), (3, 119, 0, mX3_readLeaf, 3117, 3119, 1007, 3120, 10), (3, 122, 0, mX3_readTwo, 3125, 3127, 1007, 3128, 11), (3, 125, 0, mX3_readAll, 3129, 3131, 1007, 3132, 12), (3, 128, 0, mX3_readVariable, 3136, 3138, 1007, 3139, 13), (3, 131, 0, mX4_add, 3121, 3122, 1003, 3124, 3123), (3, 133, 1, mX4_sign, 3133, 3134, 1003, 3135, 0), (4, 23, 0, mX4_add, 4122, 3122, 1003, 3124, 3123), (4, 33, 0, mX4_at, 4037, 4038, 1003, 4040, 4039), (4, 37, 1, mX4_kindOf, 4041, 3239, 1003, 4000, 0), (4, 40, 1, mX4_partsOf, 4087, 4088, 1003, 4089, 0), (4, 43, 1, mX4_numberOf, 4059, 4002, 1003, 4003, 0), (4, 46, 1, mX4_sign, 4060, 3134, 1003, 3135, 0), (5, 32, 2, mX4_init, 1104, 1037, 1003, 1038, 0), (5, 35, 2, mX7_init, 1105, 1031, 1002, 1032, 0), (5, 40, 0, mX5_placeOf, 5167, 5168, 1004, 5170, 5169), (5, 50, 0, mX7_copy, 5178, 5179, 1002, 5181, 5180), (5, 54, 0, mX4_clear, 5184, 3042, 1003, 3044, 3043), (6, 30, 1, mX4_kindOf, 5104, 3239, 1003, 4000, 0), (6, 36, 0, mX6_name, 5123, 5125, 1012, 5126, 70), (6, 40, 0, mX6_write, 5128, 5130, 1012, 5131, 71), (6, 44, 0, mX6_nameOf, 5132, 5134, 1012, 5135, 72), (6, 47, 0, mX6_see, 5105, 5107, 1012, 5108, 69), (6, 51, 0, mX6_orderOf, 5136, 5138, 1012, 5139, 73), (6, 54, 1, mX6_plain, 5140, 5141, 1012, 5142, 0), (6, 57, 1, mX4_numberOf, 5127, 4002, 1003, 4003, 0), (6, 64, 0, mX6_guessesIn, 5189, 5101, 1012, 5103, 5102), (6, 68, 0, mX4_clear, 5190, 3042, 1003, 3044, 3043), (6, 71, 1, mX4_sign, 5191, 3134, 1003, 3135, 0), (6, 74, 0, mX4_add, 5192, 3122, 1003, 3124, 3123), (6, 77, 1, mX4_partsOf, 5113, 4088, 1003, 4089, 0), (7, 31, 2, mX4_init, 1036, 1037, 1003, 1038, 0), (7, 48, 0, mX4_clear, 3041, 3042, 1003, 3044, 3043), (7, 51, 0, mX7_unwrap, 3045, 3046, 1002, 3048, 3047), (7, 54, 0, mX7_has, 3090, 3092, 1002, 3093, 6), (7, 61, 0, mX7_standsFor, 3196, 3198, 1002, 3199, 17), (7, 65, 0, mX7_isWrapping, 4018, 4020, 1002, 4021, 23), (7, 71, 0, mX4_put, 4156, 4140, 1003, 4142, 4141), (7, 75, 0, mX4_past, 4157, 4084, 1003, 4086, 4085), (7, 78, 0, mX7_clear, 5182, 3038, 1002, 3040, 3039), (8, 19, 2, mX4_init, 2046, 1037, 1003, 1038, 0), (8, 49, 0, mX4_clear, 3175, 3042, 1003, 3044, 3043), (9, 51, 0, mX9_make, 6015, 6017, 1011, 6018, 79), (9, 55, 0, mX9_countOf, 6077, 6078, 1011, 6080, 6079), (9, 60, 0, mX9_has, 6049, 6051, 1011, 6052, 84), (10, 11, 2, mX9_init, 2124, 2125, 1011, 2126, 0), (10, 52, 0, mX9_clear, 5217, 5218, 1011, 5220, 5219), (10, 55, 0, mX7_root, 5221, 3193, 1002, 3195, 3194), (10, 61, 0, mX10_goTo, 5222, 5224, 1010, 5225, 74), (10, 66, 0, mX10_pace, 5227, 5229, 1010, 5230, 75), (10, 69, 0, mX10_resume, 6029, 6031, 1010, 6032, 81), (10, 72, 0, mX9_kindOf, 6045, 6046, 1011, 6048, 6047)]
def am_mthL_3 : List (Nat × Nat × Nat × am_I × Nat × Nat × Nat × Nat × Nat) := [(10, 76, 0, mX9_firstOf, 6053, 6054, 1011, 6056, 6055), (10, 79, 0, mX9_countOf, 6090, 6078, 1011, 6080, 6079), (10, 82, 0, mX5_has, 5235, 5202, 1004, 5204, 5203), (10, 92, 0, mX10_termAt, 5231, 5233, 1010, 5234, 76), (10, 96, 0, mX7_op, 5236, 4076, 1002, 4078, 4077), (10, 99, 0, mX7_number, 5237, 4091, 1002, 4093, 4092), (10, 102, 0, mX10_workName, 5238, 6000, 1010, 6001, 77), (10, 106, 0, mX9_makePlain, 6011, 6012, 1011, 6014, 6013), (10, 110, 0, mX10_give, 6007, 6009, 1010, 6010, 78), (10, 113, 0, mX9_makeFunction, 6020, 6021, 1011, 6023, 6022), (10, 117, 0, mX7_part, 6024, 4095, 1002, 4097, 4096), (10, 120, 0, mX10_await, 6025, 6027, 1010, 6028, 80), (10, 124, 0, mX9_find, 6002, 6003, 1011, 6005, 6004), (10, 127, 0, mX5_placeOf, 6006, 5168, 1004, 5170, 5169), (10, 130, 0, mX10_goOnWithFirst, 6033, 6035, 1010, 6036, 82), (10, 134, 0, mX10_goOnWithBoth, 6061, 6063, 1010, 6064, 85), (10, 137, 0, mX9_bind, 6037, 6038, 1011, 6040, 6039), (10, 140, 0, mX10_must, 6041, 6043, 1010, 6044, 83), (10, 143, 0, mX9_secondOf, 6057, 6058, 1011, 6060, 6059), (10, 146, 0, mX10_workFunction, 6065, 6067, 1010, 6068, 86), (10, 149, 0, mX9_makePair, 6073, 6074, 1011, 6076, 6075), (10, 152, 0, mX9_homeOf, 6069, 6070, 1011, 6072, 6071), (11, 9, 2, mX7_init, 1030, 1031, 1002, 1032, 0), (11, 21, 2, mX5_init, 1096, 1097, 1004, 1098, 0), (11, 28, 2, mX2_init, 1133, 1134, 1005, 1135, 0), (11, 38, 2, mX3_init, 1233, 1234, 1007, 1235, 0), (11, 47, 2, mX1_init, 2035, 2036, 1008, 2037, 0), (11, 56, 2, mX10_init, 2118, 2119, 1010, 2120, 0), (11, 65, 2, mX6_init, 2197, 2198, 1012, 2199, 0), (11, 82, 1, mX3_bytesIn, 3018, 3019, 1007, 3020, 0), (11, 89, 0, mX3_put, 3021, 3022, 1007, 3024, 3023), (11, 93, 0, mX3_readTerm, 3033, 3034, 1007, 3036, 3035), (11, 97, 0, mX3_readTypes, 3144, 3145, 1007, 3147, 3146), (11, 100, 0, mX1_startTerm, 3153, 3154, 1008, 3156, 3155), (11, 104, 0, mX1_run, 3204, 3205, 1008, 3207, 3206), (11, 107, 0, mX11_counted, 5083, 5085, 1001, 5086, 68), (11, 118, 0, mX1_startTypes, 5092, 5093, 1008, 5095, 5094), (11, 158, 0, mX6_guessesIn, 5100, 5101, 1012, 5103, 5102), (11, 168, 0, mX6_rank, 5109, 5110, 1012, 5112, 5111), (11, 172, 0, mX6_told, 5119, 5120, 1012, 5122, 5121), (11, 188, 0, mX0_lengthOf, 5147, 5148, 1006, 5150, 5149), (11, 197, 0, mX2_mayBeKept, 5159, 5160, 1005, 5162, 5161), (11, 201, 0, mX5_takes, 5163, 5164, 1004, 5166, 5165), (11, 205, 0, mX5_put, 5171, 5172, 1004, 5174, 5173), (11, 208, 0, mX6_close, 5185, 5186, 1012, 5188, 5187), (11, 215, 0, mX5_has, 5201, 5202, 1004, 5204, 5203), (11, 232, 0, mX10_workOut, 5213, 5214, 1010, 5216, 5215), (11, 241, 0, mX10_answerKind, 6082, 6083, 1010, 6085, 6084), (11, 244, 0, mX10_answerNumber, 6086, 6087, 1010, 6089, 6088), (11, 247, 0, mX7_wrap, 6095, 6096, 1002, 6098, 6097), (11, 254, 0, mX7_at, 6100, 4015, 1002, 4017, 4016), (11, 257, 0, mX7_unwrap, 6101, 3046, 1002, 3048, 3047), (11, 260, 0, mX4_same, 6106, 6107, 1003, 6109, 6108), (11, 264, 0, mX4_alls, 6110, 4228, 1003, 4230, 4229), (12, 119, 1, mX12_bytesOf, 7192, 7193, 1013, 7194, 0), (12, 123, 0, mX12_brings, 7195, 7197, 1013, 7198, 88), (12, 130, 0, mX12_here, 7223, 7225, 1013, 7226, 93), (12, 140, 0, mX12_look, 7219, 7221, 1013, 7222, 92), (12, 143, 1, mX12_isLetter, 7230, 7231, 1013, 7232, 0), (12, 147, 0, mX12_fails, 7236, 7238, 1013, 7239, 94)]
def am_mthL_4 : List (Nat × Nat × Nat × am_I × Nat × Nat × Nat × Nat × Nat) := [(12, 150, 0, mX12_puts, 8023, 8025, 1013, 8026, 100), (12, 153, 0, mX12_readsType, 8019, 8021, 1013, 8022, 99), (12, 157, 0, mX12_letter, 8012, 8014, 1013, 8015, 98), (12, 163, 1, mX12_isDigit, 7233, 7234, 1013, 7235, 0), (12, 166, 1, mX12_kindOf, 7227, 7228, 1013, 7229, 0), (12, 169, 0, mX12_opens, 8000, 8002, 1013, 8003, 95), (12, 173, 0, mX12_number, 8004, 8006, 1013, 8007, 96), (12, 176, 0, mX12_puts_, 8008, 8010, 1013, 8011, 97), (12, 179, 1, mX12_parts, 8016, 8017, 1013, 8018, 0), (12, 182, 0, mX12_readsExpression, 7215, 7217, 1013, 7218, 91), (12, 185, 0, mX12_begins, 7211, 7213, 1013, 7214, 90), (12, 191, 0, mX12_endsText, 8027, 8029, 1013, 8030, 101), (12, 194, 0, mX12_readsWhole, 7207, 7209, 1013, 7210, 89), (12, 199, 1, mX12_isIn, 8032, 8033, 1013, 8034, 0), (12, 203, 0, mX12_readsTypes, 8035, 8037, 1013, 8038, 102), (12, 206, 0, mX12_of, 8103, 8105, 1013, 8106, 117), (12, 215, 0, mX12_makes, 8067, 8069, 1013, 8070, 108), (12, 222, 0, mX12_builds, 8063, 8065, 1013, 8066, 107), (12, 225, 0, mX12_with, 8148, 8150, 1013, 8151, 128), (12, 228, 0, mX12_isBoth, 8091, 8093, 1013, 8094, 114), (12, 231, 0, mX12_signs, 8107, 8109, 1013, 8110, 118), (12, 234, 0, mX12_rank, 9051, 9053, 1013, 9054, 160), (12, 242, 0, mX12_hasAll, 8208, 8210, 1013, 8211, 143), (12, 245, 0, mX12_hasGuess, 8192, 8194, 1013, 8195, 139), (12, 255, 0, mX12_comes, 8071, 8073, 1013, 8074, 109), (12, 261, 0, mX12_placeOf, 8095, 8097, 1013, 8098, 115), (12, 267, 0, mX12_signsBy, 8087, 8089, 1013, 8090, 113), (12, 270, 0, mX12_replaced, 8099, 8101, 1013, 8102, 116), (12, 276, 0, mX12_by, 8083, 8085, 1013, 8086, 112), (12, 300, 0, mX12_begins_, 8079, 8081, 1013, 8082, 111), (12, 303, 0, mX12_checks, 8136, 8138, 1013, 8139, 125), (12, 306, 0, mX12_rule, 8120, 8122, 1013, 8123, 121), (12, 309, 0, mX12_freshConstant, 8140, 8142, 1013, 8143, 126), (12, 312, 0, mX12_inside, 8144, 8146, 1013, 8147, 127), (12, 315, 0, mX12_check, 8132, 8134, 1013, 8135, 124), (12, 318, 0, mX12_cuts, 8152, 8154, 1013, 8155, 129), (12, 321, 0, mX12_marked, 8156, 8158, 1013, 8159, 130), (12, 324, 0, mX12_cutsAt, 8164, 8166, 1013, 8167, 132), (12, 327, 0, mX12_plain, 8124, 8126, 1013, 8127, 122), (12, 330, 0, mX12_infer, 8075, 8077, 1013, 8078, 110), (12, 333, 0, mX12_below, 8172, 8174, 1013, 8175, 134), (12, 339, 0, mX12_entryOwn, 8160, 8162, 1013, 8163, 131), (12, 342, 0, mX12_placeOfMark, 8168, 8170, 1013, 8171, 133), (12, 345, 0, mX12_infers, 8112, 8114, 1013, 8115, 119), (12, 348, 0, mX12_failsNow, 8116, 8118, 1013, 8119, 120), (12, 351, 0, mX12_noted, 8128, 8130, 1013, 8131, 123), (12, 354, 0, mX12_typeFrom, 8059, 8061, 1013, 8062, 106), (12, 357, 0, mX12_freshGuess, 8180, 8182, 1013, 8183, 136), (12, 360, 0, mX12_apply, 8232, 8234, 1013, 8235, 149), (12, 363, 0, mX12_takesOut, 9000, 9002, 1013, 9003, 151), (12, 366, 0, mX12_partOf, 9004, 9006, 1013, 9007, 152), (12, 370, 0, mX12_isOpen, 8188, 8190, 1013, 8191, 138), (12, 373, 0, mX12_splitsPair, 9008, 9010, 1013, 9011, 153), (12, 376, 0, mX12_splits, 8220, 8222, 1013, 8223, 146), (12, 379, 0, mX12_applies, 8236, 8238, 1013, 8239, 150), (12, 382, 0, mX12_isBelow, 8176, 8178, 1013, 8179, 135), (12, 385, 0, mX12_areSame, 8184, 8186, 1013, 8187, 137), (12, 388, 0, mX12_left, 8196, 8198, 1013, 8199, 140), (12, 390, 0, mX12_right, 8224, 8226, 1013, 8227, 147), (12, 392, 0, mX12_isAhead, 8212, 8214, 1013, 8215, 144)]
def am_mthL_5 : List (Nat × Nat × Nat × am_I × Nat × Nat × Nat × Nat × Nat) := [(12, 395, 0, mX12_solves, 8216, 8218, 1013, 8219, 145), (12, 398, 0, mX12_becomesLeft, 8200, 8202, 1013, 8203, 141), (12, 401, 0, mX12_meets, 8204, 8206, 1013, 8207, 142), (12, 405, 0, mX12_becomesRight, 8228, 8230, 1013, 8231, 148), (12, 417, 1, mX12_typeRowOf, 8056, 8057, 1013, 8058, 0), (12, 421, 0, mX12_clears, 8052, 8054, 1013, 8055, 105), (12, 438, 0, mX12_copies, 8043, 8045, 1013, 8046, 103), (12, 450, 0, mX12_judges, 8047, 8049, 1013, 8050, 104), (12, 453, 0, mX12_counted, 9012, 9014, 1013, 9015, 154), (12, 459, 0, mX12_writes, 9036, 9038, 1013, 9039, 158), (12, 465, 0, mX12_writesType, 9032, 9034, 1013, 9035, 157), (12, 471, 1, mX12_among, 9040, 9041, 1013, 9042, 0), (12, 478, 0, mX12_hasType, 9024, 9026, 1013, 9027, 155), (12, 482, 0, mX12_tellsType, 9028, 9030, 1013, 9031, 156), (12, 485, 0, mX12_openOf, 9047, 9049, 1013, 9050, 159), (12, 490, 0, mX12_isEntry, 9064, 9066, 1013, 9067, 161), (12, 495, 0, mX12_encodes, 9086, 9088, 1013, 9089, 163), (12, 500, 0, mX12_isOnShelf, 9082, 9084, 1013, 9085, 162), (12, 503, 1, mX12_rowOf, 9090, 9091, 1013, 9092, 0), (12, 506, 0, mX12_allsIn, 9105, 9107, 1013, 9108, 165), (12, 509, 0, mX12_tellsOf, 9101, 9103, 1013, 9104, 164), (12, 512, 0, mX12_laysAside, 9117, 9119, 1013, 9120, 166), (12, 515, 0, mX12_takesBack, 9121, 9123, 1013, 9124, 167), (12, 518, 0, mX12_judgesNoted, 9129, 9131, 1013, 9132, 168), (12, 523, 0, mX12_areAlike, 9138, 9140, 1013, 9141, 169), (12, 541, 0, mX12_worksName, 9150, 9152, 1013, 9153, 171), (12, 544, 0, mX12_value, 9158, 9160, 1013, 9161, 173), (12, 547, 0, mX12_works, 9146, 9148, 1013, 9149, 170), (12, 550, 0, mX12_is, 9163, 9165, 1013, 9166, 174), (12, 553, 0, mX12_linked, 9167, 9169, 1013, 9170, 175), (12, 556, 0, mX12_worksBoth, 9171, 9173, 1013, 9174, 176), (12, 559, 0, mX12_sticks, 9154, 9156, 1013, 9157, 172), (13, 7, 0, mX11_step, 6127, 6128, 1001, 6130, 6129), (13, 15, 2, mX11_init, 1022, 1023, 1001, 1024, 0), (13, 18, 2, mX12_init, 6194, 6195, 1013, 6196, 0), (13, 19, 0, mX11_feed, 3014, 3015, 1001, 3017, 3016), (13, 23, 0, mX12_feed, 7188, 7189, 1013, 7191, 7190), (13, 24, 0, mX11_end, 3025, 3026, 1001, 3028, 3027), (13, 28, 0, mX12_end, 7199, 7200, 1013, 7202, 7201), (13, 29, 0, mX11_fault, 3029, 3030, 1001, 3032, 3031), (13, 33, 0, mX12_fault, 7203, 7204, 1013, 7206, 7205), (13, 34, 0, mX11_infers, 3149, 3150, 1001, 3152, 3151), (13, 38, 0, mX12_infers_, 8039, 8040, 1013, 8042, 8041), (13, 39, 0, mX11_below, 5088, 5089, 1001, 5091, 5090), (13, 42, 0, mX12_below_, 9016, 9017, 1013, 9019, 9018), (13, 43, 0, mX11_judged, 5096, 5097, 1001, 5099, 5098), (13, 46, 0, mX12_judged, 9043, 9044, 1013, 9046, 9045), (13, 47, 0, mX11_type, 5115, 5116, 1001, 5118, 5117), (13, 50, 0, mX12_type, 9020, 9021, 1013, 9023, 9022), (13, 56, 0, mX12_step, 9055, 9056, 1013, 9058, 9057), (13, 57, 0, mX12_thrown, 7184, 7185, 1013, 7187, 7186), (13, 60, 0, mX11_entry, 5143, 5144, 1001, 5146, 5145), (13, 63, 0, mX12_entry, 9060, 9061, 1013, 9063, 9062), (13, 64, 0, mX11_entryType, 5151, 5152, 1001, 5154, 5153), (13, 67, 0, mX12_entryType, 9068, 9069, 1013, 9071, 9070), (13, 68, 0, mX11_keeps, 5155, 5156, 1001, 5158, 5157), (13, 71, 0, mX12_keeps, 9077, 9078, 1013, 9080, 9079), (13, 72, 0, mX11_drops, 5193, 5194, 1001, 5196, 5195), (13, 75, 0, mX12_drops, 9093, 9094, 1013, 9096, 9095), (13, 76, 0, mX11_shelf, 5197, 5198, 1001, 5200, 5199)]
def am_mthL_6 : List (Nat × Nat × Nat × am_I × Nat × Nat × Nat × Nat × Nat) := [(13, 79, 0, mX12_shelf, 9097, 9098, 1013, 9100, 9099), (13, 80, 0, mX11_shelfType, 5205, 5206, 1001, 5208, 5207), (13, 83, 0, mX12_shelfType, 9109, 9110, 1013, 9112, 9111), (13, 84, 0, mX11_worked, 5209, 5210, 1001, 5212, 5211), (13, 87, 0, mX12_worked, 9142, 9143, 1013, 9145, 9144), (13, 88, 0, mX11_asks, 6091, 6092, 1001, 6094, 6093), (13, 91, 0, mX12_asks, 9125, 9126, 1013, 9128, 9127), (13, 92, 0, mX11_tells, 6102, 6103, 1001, 6105, 6104), (13, 95, 0, mX12_tells, 9133, 9134, 1013, 9136, 9135), (13, 96, 0, mX11_shelfBelow, 6111, 6112, 1001, 6114, 6113), (13, 99, 0, mX12_shelfBelow, 9113, 9114, 1013, 9116, 9115), (13, 100, 0, mX11_count, 6115, 6116, 1001, 6118, 6117), (13, 103, 0, mX12_count, 9175, 9176, 1013, 9178, 9177), (13, 104, 0, mX11_byRule, 6119, 6120, 1001, 6122, 6121), (13, 107, 0, mX12_byRule, 9072, 9073, 1013, 9075, 9074)]
def am_mthL : List (Nat × Nat × Nat × am_I × Nat × Nat × Nat × Nat × Nat) := am_mthL_0 ++ am_mthL_1 ++ am_mthL_2 ++ am_mthL_3 ++ am_mthL_4 ++ am_mthL_5 ++ am_mthL_6
def am_clsL_0 : List (Nat × Nat × Nat × Nat × Nat × Nat) := [(0, 25, 4, 1143, 1035, 1003), (1, 9, 8, 2039, 2040, 1009), (1, 18, 4, 2083, 1035, 1003), (2, 9, 0, 1137, 1138, 1006), (2, 22, 4, 1187, 1035, 1003), (3, 18, 4, 1237, 1035, 1003), (5, 20, 4, 1100, 1035, 1003), (5, 26, 7, 1102, 1029, 1002), (7, 29, 4, 1034, 1035, 1003), (8, 17, 4, 2045, 1035, 1003), (10, 9, 9, 2122, 2123, 1011), (11, 7, 7, 1028, 1029, 1002), (11, 19, 5, 1094, 1095, 1004), (11, 26, 2, 1131, 1132, 1005), (11, 36, 3, 1231, 1232, 1007), (11, 45, 1, 2033, 2034, 1008), (11, 54, 10, 2116, 2117, 1010), (11, 63, 6, 2195, 2196, 1012), (13, 8, 11, 1020, 1021, 1001), (13, 16, 12, 6192, 6193, 1013)]
def am_clsL : List (Nat × Nat × Nat × Nat × Nat × Nat) := am_clsL_0
def am_objL_0 : List (Nat × Nat × Nat) := [(0, 7, 1142), (1, 3, 2038), (2, 3, 1136), (3, 3, 1236), (4, 3, 1039), (5, 5, 1099), (6, 5, 2200), (7, 3, 1033), (8, 5, 2044), (9, 5, 2127), (10, 3, 2121), (11, 1, 1025), (12, 3, 6197)]
def am_objL : List (Nat × Nat × Nat) := am_objL_0
def am_cpyL_0 : List (Nat × Nat × Nat) := [(4, 27, 3185), (7, 79, 5183)]
def am_cpyL : List (Nat × Nat × Nat) := am_cpyL_0
def am_maxL_0 : List (Nat × Nat × Nat) := [(2, 58, 4026), (4, 50, 4061), (6, 80, 5114), (11, 125, 5087), (12, 237, 8111)]
def am_maxL : List (Nat × Nat × Nat) := am_maxL_0
def am_minL_0 : List (Nat × Nat × Nat) := [(5, 44, 5175), (9, 45, 6019), (11, 251, 6099), (12, 529, 9162)]
def am_minL : List (Nat × Nat × Nat) := am_minL_0
def am_conL_0 : List (Nat × Nat × Int32 × Nat) := [(1, 111, 100000, 3208), (0, 101, 1000000, 3233), (10, 65, 100000, 5226), (9, 59, 1000000, 6081), (12, 23, 300000, 6198), (12, 70, 60000, 6199), (12, 420, 1000000, 8051)]
def am_conL : List (Nat × Nat × Int32 × Nat) := am_conL_0
def am_conJ_0 : List (Nat × Nat × Int64 × Nat) := [(12, 197, 2, 8031), (12, 488, 5, 9059), (12, 493, 36, 9076), (12, 498, 25, 9081), (12, 521, 3, 9137)]
def am_conJ : List (Nat × Nat × Int64 × Nat) := am_conJ_0
def am_layL_0 : List Nat := [1166, 1168, 1170, 1172, 1174, 1176, 1178, 1180, 1182, 1184]
def am_layL_1 : List Nat := [2095, 2097, 2099, 2101, 2103, 2105, 2107, 2109, 2111, 2113]
def am_layL_2 : List Nat := [1212, 1214, 1216, 1218, 1220, 1222, 1224, 1226, 1228]
def am_layL_3 : List Nat := [2012, 2014, 2016, 2018, 2020, 2022, 2024, 2026, 2028, 2030]
def am_layL_4 : List Nat := [1056, 1058, 1060]
def am_layL_5 : List Nat := [1120, 1122, 1124, 1126, 1128]
def am_layL_6 : List Nat := [2206, 2208, 2210, 2212, 2214]
def am_layL_7 : List Nat := [1075, 1077, 1079, 1081, 1083, 1085, 1087, 1089, 1091]
def am_layL_8 : List Nat := [2064, 2066, 2068, 2070, 2072, 2074, 2076, 2078, 2080]
def am_layL_9 : List Nat := [2138, 2140, 2142, 2144, 2146, 2148, 2150, 2152, 2154, 2156]
def am_layL_10 : List Nat := [2172, 2174, 2176, 2178, 2180, 2182, 2184, 2186, 2188, 2190, 2192]
def am_layL_11 : List Nat := [2229, 2231, 2233, 2235, 2237, 2239, 3001, 3003, 3005, 3007, 3009, 3011]
def am_layL_12 : List Nat := [7034, 7036, 7038, 7040, 7042, 7044, 7046, 7048, 7050, 7052, 7054, 7056, 7058, 7060, 7062, 7064, 7066, 7068, 7070, 7072, 7074, 7076, 7078, 7080, 7082, 7084, 7086, 7088, 7090, 7092, 7094, 7096, 7098, 7100, 7102, 7104, 7106, 7108, 7110, 7112, 7114, 7116, 7118, 7120, 7122, 7124, 7126, 7128, 7130, 7132, 7134, 7136, 7138, 7140, 7142, 7144, 7146, 7148, 7150, 7152, 7154, 7156, 7158, 7160, 7162, 7164, 7166, 7168, 7170, 7172, 7174, 7176, 7178, 7180]
def am_pObj : Nat × Nat := (1026, 1027)
def am_pCpy : Nat × Nat × Nat := (3187, 3186, 1014)
def am_pArr : Nat × Nat × Nat := (1063, 7183, 9179)
def am_pmax : Nat × Nat × Nat := (4027, 1015, 4028)
def am_pmin : Nat × Nat × Nat := (5176, 1015, 5177)
end
section
/-! ===== the abstract machine: cells by numbers, ints and references apart; one step, many steps, the limit ===== -/
abbrev am_in (i : Int32) (n : Nat) : Prop := ¬ (i < 0 ∨ n ≤ i.toNatClampNeg)
def am_isR : FieldType → Bool
  | .object _ => true
  | .array _ => true
  | _ => false
def am_sI (σ : am_St) (k j : Nat) (v : Int32) : am_St := (σ.1, σ.2.1, σ.2.2.1, fun a b => if a = k ∧ b = j then v else σ.2.2.2.1 a b, σ.2.2.2.2)
def am_sR (σ : am_St) (k j : Nat) (v : Option Nat) : am_St := (σ.1, σ.2.1, σ.2.2.1, σ.2.2.2.1, fun a b => if a = k ∧ b = j then v else σ.2.2.2.2 a b)
/-- a new cell of kind t, length n, z slots -/
def am_al (σ : am_St) (t n z : Nat) : am_St := (σ.1 + 1, σ.2.1 + z, fun a => if a = σ.1 then (t, n) else σ.2.2.1 a, fun a b => if a = σ.1 then 0 else σ.2.2.2.1 a b, fun a b => if a = σ.1 then none else σ.2.2.2.2 a b)
def am_cp (σ : am_St) (src sp dst dp n : Nat) : am_St := (σ.1, σ.2.1, σ.2.2.1, fun a b => if a = dst ∧ dp ≤ b ∧ b < dp + n then σ.2.2.2.1 src (sp + (b - dp)) else σ.2.2.2.1 a b, σ.2.2.2.2)
def am_fld (own idx : Nat) : Option (Nat × Nat) := (am_fldL.find? (fun e => e.1 == own && e.2.1 == idx)).map (fun e => (e.2.2.1, e.2.2.2.1))
def am_mth (own idx kd : Nat) : Option am_I := (am_mthL.find? (fun e => e.1 == own && e.2.1 == idx && e.2.2.1 == kd)).map (fun e => e.2.2.2.1)
def am_cls (own idx : Nat) : Option Nat := (am_clsL.find? (fun e => e.1 == own && e.2.1 == idx)).map (fun e => e.2.2.1)
def am_isO (own idx : Nat) : Bool := am_objL.any (fun e => e.1 == own && e.2.1 == idx)
def am_isC (own idx : Nat) : Bool := am_cpyL.any (fun e => e.1 == own && e.2.1 == idx)
def am_isX (own idx : Nat) : Bool := am_maxL.any (fun e => e.1 == own && e.2.1 == idx)
def am_isM (own idx : Nat) : Bool := am_minL.any (fun e => e.1 == own && e.2.1 == idx)
def am_co (own idx : Nat) : Option Int32 := (am_conL.find? (fun e => e.1 == own && e.2.1 == idx)).map (fun e => e.2.2.1)
def am_cj (own idx : Nat) : Option Int64 := (am_conJ.find? (fun e => e.1 == own && e.2.1 == idx)).map (fun e => e.2.2.1)
abbrev am_L : Type := List (Option Value)
abbrev am_N : Type := (Nat × am_L × List Value × am_St) ⊕ (Option Value × am_St)
def am_nx (pc : Nat) (L : am_L) (S : List Value) (σ : am_St) : Option am_N := some (.inl (pc, L, S, σ))
def am_jp (pc : Nat) (off : Int) (L : am_L) (S : List Value) (σ : am_St) : Option am_N := if 0 ≤ (pc : Int) + off then some (.inl (((pc : Int) + off).toNat, L, S, σ)) else none
def am_ld (L : am_L) (i : Nat) : Value := match L[i]? with
  | some (some v) => v
  | _ => .double 0
def am_stp (mi : am_I) (pc : Nat) (i : Nat) (L : am_L) (v : Value) (S : List Value) (σ : am_St) : Option am_N :=
  if mi.2.2.2.2.2.2 = false ∧ i < mi.2.2.2.1 ∧ i < L.length then am_nx pc (L.set i (some v)) S σ else none
def am_cmp (c : ClassFile.Cond) (x y : Int32) : Bool := match c with
  | .eq => decide (x = y)
  | .ne => decide (x ≠ y)
  | .lt => decide (x < y)
  | .ge => decide (y ≤ x)
  | .gt => decide (y < x)
  | .le => decide (x ≤ y)
def am_calls (call : am_I → List Value → am_St → Option (Option Value × am_St)) (m2 : am_I) (args : List Value) (pc : Nat) (L : am_L) (rest : List Value) (σ : am_St) : Option am_N :=
  if (rest.map fun v => v.category).sum ≤ 8 then
    match call m2 args σ with
    | some (v, σ1) => am_nx (pc + 3) L (v.toList ++ rest) σ1
    | none => none
  else none
def am_copy (pc : Nat) (L : am_L) (rest : List Value) (σ : am_St) (s0 : Nat) (sp : Int32) (d0 : Nat) (dp n : Int32) : Option am_N :=
  if s0 < σ.1 ∧ d0 < σ.1 ∧ (σ.2.2.1 s0).1 = 0 ∧ (σ.2.2.1 d0).1 = 0 ∧ ¬ sp < 0 ∧ ¬ dp < 0 ∧ ¬ n < 0 ∧ sp.toNatClampNeg + n.toNatClampNeg ≤ (σ.2.2.1 s0).2 ∧ dp.toNatClampNeg + n.toNatClampNeg ≤ (σ.2.2.1 d0).2 ∧ (rest.map fun v => v.category).sum ≤ 8
  then am_nx (pc + 3) L rest (am_cp σ s0 sp.toNatClampNeg d0 dp.toNatClampNeg n.toNatClampNeg) else none
def am_aty : ArrayType → Option Nat
  | .int => some 0
  | .byte => some 1
  | _ => none
def am_inv (call : am_I → List Value → am_St → Option (Option Value × am_St)) (mi : am_I) (kd idx : Nat) (pc : Nat) (L : am_L) (S : List Value) (σ : am_St) : Option am_N :=
  match kd with
  | 0 => match am_mth mi.1 idx 0 with
    | some m2 => match S.drop m2.2.2.2.2.2.1 with
      | .ref b :: rest => if b < σ.1 ∧ (σ.2.2.1 b).1 = m2.1 + 4 then am_calls call m2 (.ref b :: (S.take m2.2.2.2.2.2.1).reverse) pc L rest σ else none
      | _ => none
    | none => none
  | 1 => if am_isC mi.1 idx then
      match S with
      | .int n :: .int dp :: .ref d0 :: .int sp :: .ref s0 :: rest => am_copy pc L rest σ s0 sp d0 dp n
      | _ => none
    else if am_isX mi.1 idx then
      match S with
      | .int y :: .int x :: rest => if (rest.map fun v => v.category).sum ≤ 8 then am_nx (pc + 3) L (.int (if x < y then y else x) :: rest) σ else none
      | _ => none
    else if am_isM mi.1 idx then
      match S with
      | .int y :: .int x :: rest => if (rest.map fun v => v.category).sum ≤ 8 then am_nx (pc + 3) L (.int (if y < x then y else x) :: rest) σ else none
      | _ => none
    else match am_mth mi.1 idx 1 with
    | some m2 => if m2.2.2.2.2.2.1 ≤ S.length then am_calls call m2 ((S.take m2.2.2.2.2.2.1).reverse) pc L (S.drop m2.2.2.2.2.2.1) σ else none
    | none => none
  | _ => if am_isO mi.1 idx then
      match S with
      | .ref _ :: rest => if (rest.map fun v => v.category).sum ≤ 8 then am_nx (pc + 3) L rest σ else none
      | _ => none
    else match am_mth mi.1 idx 2 with
    | some m2 => match S.drop m2.2.2.2.2.2.1 with
      | .ref b :: rest => am_calls call m2 (.ref b :: (S.take m2.2.2.2.2.2.1).reverse) pc L rest σ
      | _ => none
    | none => none
def am_get (mi : am_I) (idx : Nat) (pc : Nat) (L : am_L) (S : List Value) (σ : am_St) : Option am_N :=
  match S with
  | .ref k :: rest => match am_fld mi.1 idx with
    | some (ci, j) => if k < σ.1 ∧ (σ.2.2.1 k).1 = ci + 4 then am_nx (pc + 3) L ((if am_isR (am_ty ci j) then va_rf (σ.2.2.2.2 k j) else .int (σ.2.2.2.1 k j)) :: rest) σ else none
    | none => none
  | _ => none
/-- a field may be written here: it isn't final, or this is its class's constructor -/
def am_fin (mi : am_I) (ci j : Nat) : Bool := !(am_T ci j).2.2.2 || (mi.2.1.name == "<init>" && mi.1 == ci)
def am_put (mi : am_I) (idx : Nat) (pc : Nat) (L : am_L) (S : List Value) (σ : am_St) : Option am_N :=
  match S with
  | .int x :: .ref k :: rest => match am_fld mi.1 idx with
    | some (ci, j) => if k < σ.1 ∧ (σ.2.2.1 k).1 = ci + 4 ∧ am_fin mi ci j = true ∧ am_isR (am_ty ci j) = false ∧ narrow (am_ty ci j) (.int x) = .int x ∧ fits (am_ty ci j) (.int x) = true then am_nx (pc + 3) L rest (am_sI σ k j x) else none
    | none => none
  | .ref x :: .ref k :: rest => match am_fld mi.1 idx with
    | some (ci, j) => if k < σ.1 ∧ (σ.2.2.1 k).1 = ci + 4 ∧ am_fin mi ci j = true ∧ am_isR (am_ty ci j) = true then am_nx (pc + 3) L rest (am_sR σ k j (some x)) else none
    | none => none
  | .null :: .ref k :: rest => match am_fld mi.1 idx with
    | some (ci, j) => if k < σ.1 ∧ (σ.2.2.1 k).1 = ci + 4 ∧ am_fin mi ci j = true ∧ am_isR (am_ty ci j) = true then am_nx (pc + 3) L rest (am_sR σ k j none) else none
    | none => none
  | _ => none
def am_arr (ins : Instr) (pc : Nat) (L : am_L) (S : List Value) (σ : am_St) : Option am_N :=
  match ins with
  | .iaload => match S with
    | .int i :: .ref k :: rest => if k < σ.1 ∧ (σ.2.2.1 k).1 = 0 ∧ am_in i (σ.2.2.1 k).2 then am_nx (pc + 1) L (.int (σ.2.2.2.1 k i.toNatClampNeg) :: rest) σ else none
    | _ => none
  | .baload => match S with
    | .int i :: .ref k :: rest => if k < σ.1 ∧ (σ.2.2.1 k).1 = 1 ∧ am_in i (σ.2.2.1 k).2 then am_nx (pc + 1) L (.int (σ.2.2.2.1 k i.toNatClampNeg) :: rest) σ else none
    | _ => none
  | .aaload => match S with
    | .int i :: .ref k :: rest => if k < σ.1 ∧ ((σ.2.2.1 k).1 = 2 ∨ (σ.2.2.1 k).1 = 3) ∧ am_in i (σ.2.2.1 k).2 then am_nx (pc + 1) L (va_rf (σ.2.2.2.2 k i.toNatClampNeg) :: rest) σ else none
    | _ => none
  | .iastore => match S with
    | .int x :: .int i :: .ref k :: rest => if k < σ.1 ∧ (σ.2.2.1 k).1 = 0 ∧ am_in i (σ.2.2.1 k).2 then am_nx (pc + 1) L rest (am_sI σ k i.toNatClampNeg x) else none
    | _ => none
  | .bastore => match S with
    | .int x :: .int i :: .ref k :: rest => if k < σ.1 ∧ (σ.2.2.1 k).1 = 1 ∧ am_in i (σ.2.2.1 k).2 then am_nx (pc + 1) L rest (am_sI σ k i.toNatClampNeg (vp_nar .byte x)) else none
    | _ => none
  | .aastore => match S with
    | .ref x :: .int i :: .ref k :: rest => if k < σ.1 ∧ x < σ.1 ∧ (((σ.2.2.1 k).1 = 2 ∧ (σ.2.2.1 x).1 = 8) ∨ ((σ.2.2.1 k).1 = 3 ∧ (σ.2.2.1 x).1 = 11)) ∧ am_in i (σ.2.2.1 k).2 then am_nx (pc + 1) L rest (am_sR σ k i.toNatClampNeg (some x)) else none
    | _ => none
  | .arraylength => match S with
    | .ref k :: rest => if k < σ.1 ∧ (σ.2.2.1 k).1 < 4 then am_nx (pc + 1) L (.int (Int32.ofNat (σ.2.2.1 k).2) :: rest) σ else none
    | _ => none
  | _ => none
def am_mk (mi : am_I) (ins : Instr) (pc : Nat) (L : am_L) (S : List Value) (σ : am_St) : Option am_N :=
  match ins with
  | .new idx => match am_cls mi.1 idx with
    | some ci => am_nx (pc + 3) L (.ref σ.1 :: S) (am_al σ (ci + 4) 0 (am_nf ci))
    | none => none
  | .newarray t => match S with
    | .int n :: rest => match am_aty t with
      | some a => if ¬ n < 0 ∧ n.toNatClampNeg * 4 ≤ 536870912 then am_nx (pc + 2) L (.ref σ.1 :: rest) (am_al σ a n.toNatClampNeg n.toNatClampNeg) else none
      | none => none
    | _ => none
  | .anewarray idx => match S with
    | .int n :: rest => match am_cls mi.1 idx with
      | some ci => if ¬ n < 0 ∧ n.toNatClampNeg * 4 ≤ 536870912 ∧ (ci = 4 ∨ ci = 7) then am_nx (pc + 3) L (.ref σ.1 :: rest) (am_al σ (if ci = 4 then 2 else 3) n.toNatClampNeg n.toNatClampNeg) else none
      | none => none
    | _ => none
  | _ => none
def am_ar (ins : Instr) (pc : Nat) (L : am_L) (S : List Value) (σ : am_St) : Option am_N :=
  match ins, S with
  | .iadd, .int y :: .int x :: S => am_nx (pc + 1) L (.int (x + y) :: S) σ
  | .isub, .int y :: .int x :: S => am_nx (pc + 1) L (.int (x - y) :: S) σ
  | .imul, .int y :: .int x :: S => am_nx (pc + 1) L (.int (x * y) :: S) σ
  | .idiv, .int y :: .int x :: S => if y = 0 then none else am_nx (pc + 1) L (.int (x / y) :: S) σ
  | .irem, .int y :: .int x :: S => if y = 0 then none else am_nx (pc + 1) L (.int (x - x / y * y) :: S) σ
  | .iand, .int y :: .int x :: S => am_nx (pc + 1) L (.int (x &&& y) :: S) σ
  | .ishr, .int y :: .int x :: S => am_nx (pc + 1) L (.int (x >>> (y &&& 31)) :: S) σ
  | .i2l, .int x :: S => am_nx (pc + 1) L (.long x.toInt64 :: S) σ
  | .i2b, .int x :: S => am_nx (pc + 1) L (.int x.toInt8.toInt32 :: S) σ
  | .lcmp, .long y :: .long x :: S => am_nx (pc + 1) L (.int (lg_cmp x y) :: S) σ
  | .dup, a :: S => if a.category = 1 then am_nx (pc + 1) L (a :: a :: S) σ else none
  | .pop, a :: S => if a.category = 1 then am_nx (pc + 1) L S σ else none
  | .dup2, a :: b :: S => if a.category = 1 ∧ b.category = 1 then am_nx (pc + 1) L (a :: b :: a :: b :: S) σ else none
  | .aconst_null, S => am_nx (pc + 1) L (.null :: S) σ
  | _, _ => none
def am_lds (n len : Nat) (pc i : Nat) (L : am_L) (S : List Value) (σ : am_St) : Option am_N :=
  match n, am_ld L i with
  | 0, .int x => am_nx (pc + len) L (.int x :: S) σ
  | 1, .long x => am_nx (pc + len) L (.long x :: S) σ
  | 2, .ref x => am_nx (pc + len) L (.ref x :: S) σ
  | 2, .null => am_nx (pc + len) L (.null :: S) σ
  | 2, .retAddr x => am_nx (pc + len) L (.retAddr x :: S) σ
  | _, _ => none
def am_sts (n len : Nat) (mi : am_I) (pc i : Nat) (L : am_L) (S : List Value) (σ : am_St) : Option am_N :=
  match n, S with
  | 0, .int x :: S => am_stp mi (pc + len) i L (.int x) S σ
  | 2, .ref x :: S => am_stp mi (pc + len) i L (.ref x) S σ
  | 2, .null :: S => am_stp mi (pc + len) i L .null S σ
  | 2, .retAddr x :: S => am_stp mi (pc + len) i L (.retAddr x) S σ
  | _, _ => none
def am_bra (ins : Instr) (pc : Nat) (L : am_L) (S : List Value) (σ : am_St) : Option am_N :=
  match ins, S with
  | .ifCond c off, .int x :: S => if am_cmp c x 0 then am_jp pc off L S σ else if 0 ≤ (pc : Int) + off then am_nx (pc + 3) L S σ else none
  | .if_icmp c off, .int y :: .int x :: S => if am_cmp c x y then am_jp pc off L S σ else if 0 ≤ (pc : Int) + off then am_nx (pc + 3) L S σ else none
  | .ifnull _, .ref _ :: S => am_nx (pc + 3) L S σ
  | .ifnull off, .null :: S => am_jp pc off L S σ
  | .goto off, S => am_jp pc off L S σ
  | .tableswitch dflt lo hi offs, .int x :: S => if x.toInt < lo ∨ hi < x.toInt then am_jp pc dflt L S σ else match offs[(x.toInt - lo).toNat]? with
    | some off => am_jp pc off L S σ
    | none => none
  | .lookupswitch dflt ps, .int x :: S => if (ps.toList.zip (ps.toList.drop 1)).all (fun (a, next) => a.1 < next.1) = true then am_jp pc (Op.lookupswitch.offset ps.toList dflt x.toInt) L S σ else none
  | _, _ => none
def am_ret (mi : am_I) (ins : Instr) (S : List Value) (σ : am_St) : Option am_N :=
  match ins, S, mi.2.2.2.2.1 with
  | .ireturn, [.int v], some ty => if narrow ty (.int v) = .int v then some (.inr (some (.int v), σ)) else none
  | .return_, [], none => some (.inr (none, σ))
  | .areturn, [.ref v], some (.object _) => some (.inr (some (.ref v), σ))
  | _, _, _ => none
def am_ins (call : am_I → List Value → am_St → Option (Option Value × am_St)) (mi : am_I) (ins : Instr) (len pc : Nat) (L : am_L) (S : List Value) (σ : am_St) : Option am_N :=
  match ins with
  | .iconst n => if len = 1 then am_nx (pc + 1) L (.int (Int32.ofInt n) :: S) σ else none
  | .bipush n => if len = 2 then am_nx (pc + 2) L (.int (Int8.ofInt n).toInt32 :: S) σ else none
  | .sipush n => if len = 3 then am_nx (pc + 3) L (.int (Int16.ofInt n).toInt32 :: S) σ else none
  | .lconst n => if len = 1 then am_nx (pc + 1) L (.long (Int64.ofNat (n : Nat)) :: S) σ else none
  | .ldc idx => if len = 2 then match am_co mi.1 idx with
    | some v => am_nx (pc + 2) L (.int v :: S) σ
    | none => none else none
  | .ldc_w idx => if len = 3 then match am_co mi.1 idx with
    | some v => am_nx (pc + 3) L (.int v :: S) σ
    | none => none else none
  | .ldc2_w idx => if len = 3 then match am_cj mi.1 idx with
    | some v => am_nx (pc + 3) L (.long v :: S) σ
    | none => none else none
  | .iload_n k => if len = 1 then am_lds 0 1 pc k L S σ else none
  | .iload i => if len = 2 then am_lds 0 2 pc i L S σ else none
  | .lload_n k => if len = 1 then am_lds 1 1 pc k L S σ else none
  | .lload i => if len = 2 then am_lds 1 2 pc i L S σ else none
  | .aload_n k => if len = 1 then am_lds 2 1 pc k L S σ else none
  | .aload i => if len = 2 then am_lds 2 2 pc i L S σ else none
  | .istore_n k => if len = 1 then am_sts 0 1 mi pc k L S σ else none
  | .istore i => if len = 2 then am_sts 0 2 mi pc i L S σ else none
  | .astore_n k => if len = 1 then am_sts 2 1 mi pc k L S σ else none
  | .astore i => if len = 2 then am_sts 2 2 mi pc i L S σ else none
  | .iinc i n => if len = 3 then match am_ld L i with
    | .int x => am_stp mi (pc + 3) i L (.int (x + Int32.ofInt n)) S σ
    | _ => none else none
  | .getfield idx => if len = 3 then am_get mi idx pc L S σ else none
  | .putfield idx => if len = 3 then am_put mi idx pc L S σ else none
  | .invokevirtual idx => if len = 3 then am_inv call mi 0 idx pc L S σ else none
  | .invokestatic idx => if len = 3 then am_inv call mi 1 idx pc L S σ else none
  | .invokespecial idx => if len = 3 then am_inv call mi 2 idx pc L S σ else none
  | .new idx => if len = 3 then am_mk mi (.new idx) pc L S σ else none
  | .newarray t => if len = 2 then am_mk mi (.newarray t) pc L S σ else none
  | .anewarray idx => if len = 3 then am_mk mi (.anewarray idx) pc L S σ else none
  | .ireturn => if len = 1 then am_ret mi .ireturn S σ else none
  | .return_ => if len = 1 then am_ret mi .return_ S σ else none
  | .areturn => if len = 1 then am_ret mi .areturn S σ else none
  | .ifCond c off => if len = 3 then am_bra (.ifCond c off) pc L S σ else none
  | .if_icmp c off => if len = 3 then am_bra (.if_icmp c off) pc L S σ else none
  | .ifnull off => if len = 3 then am_bra (.ifnull off) pc L S σ else none
  | .goto off => if len = 3 then am_bra (.goto off) pc L S σ else none
  | .tableswitch d lo hi offs => am_bra (.tableswitch d lo hi offs) pc L S σ
  | .lookupswitch d ps => am_bra (.lookupswitch d ps) pc L S σ
  | .iaload => if len = 1 then am_arr .iaload pc L S σ else none
  | .baload => if len = 1 then am_arr .baload pc L S σ else none
  | .aaload => if len = 1 then am_arr .aaload pc L S σ else none
  | .iastore => if len = 1 then am_arr .iastore pc L S σ else none
  | .bastore => if len = 1 then am_arr .bastore pc L S σ else none
  | .aastore => if len = 1 then am_arr .aastore pc L S σ else none
  | .arraylength => if len = 1 then am_arr .arraylength pc L S σ else none
  | i => if len = 1 then am_ar i pc L S σ else none
def am_step (call : am_I → List Value → am_St → Option (Option Value × am_St)) (mi : am_I) (pc : Nat) (L : am_L) (S : List Value) (σ : am_St) : Option am_N :=
  match decode mi.2.2.1 pc with
  | .ok (ins, len) => am_ins call mi ins len pc L S σ
  | .error _ => none
def am_go (call : am_I → List Value → am_St → Option (Option Value × am_St)) (mi : am_I) : Nat → Nat → am_L → List Value → am_St → Option (Option Value × am_St)
  | 0, _, _, _, _ => none
  | f + 1, pc, L, S, σ => match am_step call mi pc L S σ with
    | none => none
    | some (.inr x) => some x
    | some (.inl (pc', L', S', σ')) => am_go call mi f pc' L' S' σ'
theorem am_go_mono {call : am_I → List Value → am_St → Option (Option Value × am_St)} {mi : am_I} {r : Option Value × am_St} : ∀ (f : Nat) (pc : Nat) (L : am_L) (S : List Value) (σ : am_St), am_go call mi f pc L S σ = some r → ∀ k, am_go call mi (f + k) pc L S σ = some r := by
  intro f
  induction f with
  | zero => intro pc L S σ h; exact absurd h (by simp [am_go])
  | succ f ih =>
    intro pc L S σ h k
    rw [show f + 1 + k = (f + k) + 1 by omega]
    unfold am_go at h ⊢
    generalize am_step call mi pc L S σ = q at h ⊢
    match q, h with
    | some (.inr x), h => exact h
    | some (.inl (pc', L', S', σ')), h => exact ih _ _ _ _ h k
noncomputable def am_lim (call : am_I → List Value → am_St → Option (Option Value × am_St)) (mi : am_I) (pc : Nat) (L : am_L) (S : List Value) (σ : am_St) : Option (Option Value × am_St) :=
  @dite _ (∃ r f, am_go call mi f pc L S σ = some r) (Classical.propDecidable _) (fun h => some (Classical.choose h)) (fun _ => none)
theorem am_lim_iff {call : am_I → List Value → am_St → Option (Option Value × am_St)} {mi : am_I} {pc : Nat} {L : am_L} {S : List Value} {σ : am_St} {r : Option Value × am_St} : am_lim call mi pc L S σ = some r ↔ ∃ f, am_go call mi f pc L S σ = some r := by
  unfold am_lim
  constructor
  · intro h
    split at h
    · rename_i h0
      have h1 := Classical.choose_spec h0
      rw [Option.some.inj h] at h1
      exact h1
    · cases h
  · intro ⟨f, h⟩
    have h0 : ∃ r f, am_go call mi f pc L S σ = some r := ⟨r, f, h⟩
    rw [dif_pos h0]
    obtain ⟨g, hg⟩ := Classical.choose_spec h0
    have e1 := am_go_mono f pc L S σ h g
    have e2 := am_go_mono g pc L S σ hg f
    rw [Nat.add_comm] at e2
    rw [e1] at e2
    exact e2.symm
theorem am_lim_step {call : am_I → List Value → am_St → Option (Option Value × am_St)} {mi : am_I} {pc : Nat} {L : am_L} {S : List Value} {σ : am_St} : am_lim call mi pc L S σ = (match am_step call mi pc L S σ with
    | none => none
    | some (.inr x) => some x
    | some (.inl (pc', L', S', σ')) => am_lim call mi pc' L' S' σ') := by
  have key : ∀ r, am_lim call mi pc L S σ = some r ↔ (match am_step call mi pc L S σ with
    | none => none
    | some (.inr x) => some x
    | some (.inl (pc', L', S', σ')) => am_lim call mi pc' L' S' σ') = some r := by
    intro r
    rw [am_lim_iff]
    constructor
    · intro ⟨f, h⟩
      cases f with
      | zero => exact absurd h (by simp [am_go])
      | succ f =>
        unfold am_go at h
        generalize am_step call mi pc L S σ = q at h ⊢
        match q, h with
        | some (.inr x), h => exact h
        | some (.inl (pc', L', S', σ')), h => exact am_lim_iff.mpr ⟨f, h⟩
    · intro h
      match hq : am_step call mi pc L S σ with
      | none => rw [hq] at h; cases h
      | some (.inr x) =>
        rw [hq] at h
        exact ⟨1, by unfold am_go; rw [hq]; exact h⟩
      | some (.inl (pc', L', S', σ')) =>
        rw [hq] at h
        obtain ⟨f, hf⟩ := am_lim_iff.mp h
        exact ⟨f + 1, by unfold am_go; rw [hq]; exact hf⟩
  cases h1 : am_lim call mi pc L S σ with
  | some r => exact ((key r).mp h1).symm
  | none =>
    symm
    generalize hq : (match am_step call mi pc L S σ with
    | none => none
    | some (.inr x) => some x
    | some (.inl (pc', L', S', σ')) => am_lim call mi pc' L' S' σ') = q at key ⊢
    cases q with
    | none => rfl
    | some r => exact absurd ((key r).mpr rfl) (by rw [h1]; exact fun h => by cases h)
def am_ex (args : List Value) : am_L := args.flatMap fun v => if v.category = 2 then [some v, none] else [some v]
def am_en (mi : am_I) (args : List Value) : am_L := am_ex args ++ List.replicate (mi.2.2.2.1 - (am_ex args).length) none
noncomputable def am_run : Nat → am_I → List Value → am_St → Option (Option Value × am_St)
  | 0, _, _, _ => none
  | d + 1, mi, args, σ => if (am_ex args).length ≤ mi.2.2.2.1 ∧ mi.2.2.2.1 ≤ 20 ∧ (mi.2.2.2.2.2.2 = true ∨ args.all (fun v => v.category == 1) = true) then am_lim (am_run d) mi 0 (am_en mi args) [] σ else none
end
section
/-! ===== the tables' words, checked by their places ===== -/
def lw_good : List Cond := lw_tbl.filter goodWord
def am_ch (c : Nat) : List Cond := match c with
  | 0 => k2_sels lw_privs
  | 1 => tables_1_1
  | 2 => tables_1_2
  | 3 => tables_1_3
  | 4 => tables_1_4
  | 5 => tables_1_5
  | 6 => tables_1_6
  | 7 => tables_1_7
  | 8 => tables_1_8
  | _ => tables_1_9
theorem am_ch_in {w : Cond} : ∀ c, w ∈ am_ch c → w ∈ lw_tbl := by
  intro c h
  unfold lw_tbl tables_1
  simp only [List.mem_append]
  unfold am_ch at h
  split at h
  · exact Or.inl h
  · exact Or.inr (Or.inl h)
  · exact Or.inr (Or.inr (Or.inl h))
  · exact Or.inr (Or.inr (Or.inr (Or.inl h)))
  · exact Or.inr (Or.inr (Or.inr (Or.inr (Or.inl h))))
  · exact Or.inr (Or.inr (Or.inr (Or.inr (Or.inr (Or.inl h)))))
  · exact Or.inr (Or.inr (Or.inr (Or.inr (Or.inr (Or.inr (Or.inl h))))))
  · exact Or.inr (Or.inr (Or.inr (Or.inr (Or.inr (Or.inr (Or.inr (Or.inl h)))))))
  · exact Or.inr (Or.inr (Or.inr (Or.inr (Or.inr (Or.inr (Or.inr (Or.inr (Or.inl h))))))))
  · exact Or.inr (Or.inr (Or.inr (Or.inr (Or.inr (Or.inr (Or.inr (Or.inr (Or.inr h))))))))
theorem am_ch_mem {w : Cond} (c : Nat) (h : w ∈ am_ch c) (hg : goodWord w = true) : w ∈ lw_good := List.mem_filter.mpr ⟨am_ch_in c h, hg⟩
def am_at (p : Nat) (w : Cond) : Bool := decide ((am_ch (p / 1000))[p % 1000]? = some w) && goodWord w
theorem am_at_mem {p : Nat} {w : Cond} (h : am_at p w = true) : w ∈ lw_good := by
  simp only [am_at, Bool.and_eq_true, decide_eq_true_eq] at h
  exact am_ch_mem _ (List.mem_of_getElem? h.1) h.2
theorem am_good_in {w : Cond} (h : w ∈ lw_good) : (w.onTables && w.keeps) = true ∨ ∃ ty, w = .arrayClass ty := good_of_word (List.mem_filter.mp h).2
def am_okf (e : Nat × Nat × Nat × Nat × Nat) : Bool := am_at e.2.2.2.2 (.fieldLink (am_Rn e.1) e.2.1 (am_Rn e.2.2.1) (am_T e.2.2.1 e.2.2.2.1).2.1 (am_T e.2.2.1 e.2.2.2.1).2.2.1) && decide (e.2.2.2.1 < am_nf e.2.2.1) && ((am_T e.2.2.1 e.2.2.2.1).1 == am_Rn e.2.2.1) && decide (e.2.2.1 < 13)
set_option maxRecDepth 100000 in
theorem am_okf_0 : am_fldL_0.all am_okf = true := by decide +kernel
set_option maxRecDepth 100000 in
theorem am_okf_1 : am_fldL_1.all am_okf = true := by decide +kernel
set_option maxRecDepth 100000 in
theorem am_okf_2 : am_fldL_2.all am_okf = true := by decide +kernel
set_option maxRecDepth 100000 in
theorem am_okf_3 : am_fldL_3.all am_okf = true := by decide +kernel
theorem am_okf_all : am_fldL.all am_okf = true := by
  simp only [am_fldL, List.all_append, am_okf_0, am_okf_1, am_okf_2, am_okf_3, Bool.and_self]
/-- what a method must be -/
def am_okI (mi : am_I) : Bool := (mi.2.1.cls == am_Rn mi.1) && plainName mi.2.1.cls && decide (mi.2.1.cls ≠ "java/lang/invoke/MethodHandle") && decide (mi.2.1.cls ≠ "java/lang/invoke/VarHandle") && decide ((parseMethodDescriptor mi.2.1.desc).map (fun d => d.parameters.length) = some mi.2.2.2.2.2.1)
def am_okm (e : Nat × Nat × Nat × am_I × Nat × Nat × Nat × Nat × Nat) : Bool :=
  am_okI e.2.2.2.1 && am_at e.2.2.2.2.1 (.methodLink (am_Rn e.1) e.2.1 e.2.2.2.1.2.1) && am_at e.2.2.2.2.2.2.1 (.initialized e.2.2.2.1.2.1.cls) &&
  (match e.2.2.1 with
  | 0 => am_at e.2.2.2.2.2.1 (.instanceMethod e.2.2.2.1.2.1) && am_at e.2.2.2.2.2.2.2.2 (.selects e.2.2.2.1.2.1.cls e.2.2.2.1.2.1 e.2.2.2.1.2.1) && decide (e.2.2.2.1.1 < 13)
  | 1 => am_at e.2.2.2.2.2.1 (.static e.2.2.2.1.2.1)
  | _ => am_at e.2.2.2.2.2.1 (.instanceMethod e.2.2.2.1.2.1) && (e.2.2.2.1.2.1.name == "<init>") && decide (e.2.2.2.1.2.2.2.2.1 = none))
set_option maxRecDepth 100000 in
theorem am_okm_0 : am_mthL_0.all am_okm = true := by decide +kernel
set_option maxRecDepth 100000 in
theorem am_okm_1 : am_mthL_1.all am_okm = true := by decide +kernel
set_option maxRecDepth 100000 in
theorem am_okm_2 : am_mthL_2.all am_okm = true := by decide +kernel
set_option maxRecDepth 100000 in
theorem am_okm_3 : am_mthL_3.all am_okm = true := by decide +kernel
set_option maxRecDepth 100000 in
theorem am_okm_4 : am_mthL_4.all am_okm = true := by decide +kernel
set_option maxRecDepth 100000 in
theorem am_okm_5 : am_mthL_5.all am_okm = true := by decide +kernel
set_option maxRecDepth 100000 in
theorem am_okm_6 : am_mthL_6.all am_okm = true := by decide +kernel
theorem am_okm_all : am_mthL.all am_okm = true := by
  simp only [am_mthL, List.all_append, am_okm_0, am_okm_1, am_okm_2, am_okm_3, am_okm_4, am_okm_5, am_okm_6, Bool.and_self]
def am_okc (e : Nat × Nat × Nat × Nat × Nat × Nat) : Bool := am_at e.2.2.2.1 (.classLink (am_Rn e.1) e.2.1 (am_Rn e.2.2.1)) && am_at e.2.2.2.2.1 (.instantiable (am_Rn e.2.2.1) (am_nf e.2.2.1)) && am_at e.2.2.2.2.2 (.initialized (am_Rn e.2.2.1)) && decide (e.2.2.1 < 13)
set_option maxRecDepth 100000 in
theorem am_okc_all : am_clsL.all am_okc = true := by decide +kernel
set_option maxRecDepth 100000 in
theorem am_oko_all : am_objL.all (fun e => am_at e.2.2 (.methodLink (am_Rn e.1) e.2.1 objectInit)) = true := by decide +kernel
set_option maxRecDepth 100000 in
theorem am_oky_all : am_cpyL.all (fun e => am_at e.2.2 (.methodLink (am_Rn e.1) e.2.1 arraycopyName)) = true := by decide +kernel
set_option maxRecDepth 100000 in
theorem am_okx_all : am_maxL.all (fun e => am_at e.2.2 (.methodLink (am_Rn e.1) e.2.1 Lib.Math.max.name)) = true := by decide +kernel
set_option maxRecDepth 100000 in
theorem am_okn_all : am_minL.all (fun e => am_at e.2.2 (.methodLink (am_Rn e.1) e.2.1 Lib.Math.min.name)) = true := by decide +kernel
set_option maxRecDepth 100000 in
theorem am_okX : am_at am_pmax.1 (.static Lib.Math.max.name) = true ∧ am_at am_pmax.2.1 (.initialized "java/lang/Math") = true ∧ am_at am_pmax.2.2 (.code Lib.Math.max.name Lib.Math.max.code 2 (some .int)) = true := by decide +kernel
set_option maxRecDepth 100000 in
theorem am_okN : am_at am_pmin.1 (.static Lib.Math.min.name) = true ∧ am_at am_pmin.2.1 (.initialized "java/lang/Math") = true ∧ am_at am_pmin.2.2 (.code Lib.Math.min.name Lib.Math.min.code 2 (some .int)) = true := by decide +kernel
set_option maxRecDepth 100000 in
theorem am_okk_all : am_conL.all (fun e => am_at e.2.2.2 (.constant (am_Rn e.1) e.2.1 e.2.2.1)) = true := by decide +kernel
set_option maxRecDepth 100000 in
theorem am_okj_all : am_conJ.all (fun e => am_at e.2.2.2 (.constantLong (am_Rn e.1) e.2.1 e.2.2.1)) = true := by decide +kernel
set_option maxRecDepth 100000 in
theorem am_okO : am_at am_pObj.1 (.instanceMethod objectInit) = true ∧ am_at am_pObj.2 (.code objectInit ⟨#[0xb1]⟩ 1 none) = true := by decide +kernel
set_option maxRecDepth 100000 in
theorem am_okY : am_at am_pCpy.1 (.native arraycopyName) = true ∧ am_at am_pCpy.2.1 (.static arraycopyName) = true ∧ am_at am_pCpy.2.2 (.initialized "java/lang/System") = true := by decide +kernel
set_option maxRecDepth 100000 in
theorem am_okA : am_at am_pArr.1 (.arrayClass .int) = true ∧ am_at am_pArr.2.1 (.arrayClass .byte) = true ∧ am_at am_pArr.2.2 (.arrayClass .long) = true := by decide +kernel
def am_layOk (c : Nat) (L : List Nat) : Bool := (List.range (am_nf c)).all (fun k => am_at (L.getD k 0) (u_lay (am_Rn c) (am_T c) k))
theorem am_lay_in {c : Nat} {L : List Nat} (h : am_layOk c L = true) : ∀ w ∈ u_ws (am_Rn c) (am_T c) (am_nf c), w ∈ lw_good := by
  intro w hw
  obtain ⟨k, hk, rfl⟩ := List.mem_map.mp hw
  exact am_at_mem (List.all_eq_true.mp h k hk)
set_option maxRecDepth 100000 in
theorem am_lay_ok : (am_layOk 0 am_layL_0 && am_layOk 1 am_layL_1 && am_layOk 2 am_layL_2 && am_layOk 3 am_layL_3 && am_layOk 4 am_layL_4 && am_layOk 5 am_layL_5 && am_layOk 6 am_layL_6 && am_layOk 7 am_layL_7 && am_layOk 8 am_layL_8 && am_layOk 9 am_layL_9 && am_layOk 10 am_layL_10 && am_layOk 11 am_layL_11 && am_layOk 12 am_layL_12) = true := by decide +kernel
theorem am_ws_ok (c : Nat) (h : c < 13) : ∀ w ∈ u_ws (am_Rn c) (am_T c) (am_nf c), w ∈ lw_good := by
  have h0 := am_lay_ok
  simp only [Bool.and_eq_true] at h0
  obtain ⟨⟨⟨⟨⟨⟨⟨⟨⟨⟨⟨⟨h0, h1⟩, h2⟩, h3⟩, h4⟩, h5⟩, h6⟩, h7⟩, h8⟩, h9⟩, h10⟩, h11⟩, h12⟩ := h0
  match c, h with
  | 0, _ => exact am_lay_in h0
  | 1, _ => exact am_lay_in h1
  | 2, _ => exact am_lay_in h2
  | 3, _ => exact am_lay_in h3
  | 4, _ => exact am_lay_in h4
  | 5, _ => exact am_lay_in h5
  | 6, _ => exact am_lay_in h6
  | 7, _ => exact am_lay_in h7
  | 8, _ => exact am_lay_in h8
  | 9, _ => exact am_lay_in h9
  | 10, _ => exact am_lay_in h10
  | 11, _ => exact am_lay_in h11
  | 12, _ => exact am_lay_in h12
theorem am_cl_ok (c : Nat) (h : c < 13) : vwCl[c]? = some (am_Rn c, am_T c, am_nf c) := by
  match c, h with
  | 0, _ => rfl
  | 1, _ => rfl
  | 2, _ => rfl
  | 3, _ => rfl
  | 4, _ => rfl
  | 5, _ => rfl
  | 6, _ => rfl
  | 7, _ => rfl
  | 8, _ => rfl
  | 9, _ => rfl
  | 10, _ => rfl
  | 11, _ => rfl
  | 12, _ => rfl
theorem am_ty_ok (c : Nat) (h : c < 13) : ∀ k, k < am_nf c → parseFieldDescriptor (am_T c k).2.2.1 = some (am_ty c k) := by
  match c, h with
  | 0, _ => exact tyX0_ok
  | 1, _ => exact tyX1_ok
  | 2, _ => exact tyX2_ok
  | 3, _ => exact tyX3_ok
  | 4, _ => exact tyX4_ok
  | 5, _ => exact tyX5_ok
  | 6, _ => exact tyX6_ok
  | 7, _ => exact tyX7_ok
  | 8, _ => exact tyX8_ok
  | 9, _ => exact tyX9_ok
  | 10, _ => exact tyX10_ok
  | 11, _ => exact tyX11_ok
  | 12, _ => exact tyX12_ok
theorem am_nm_ok (c : Nat) (h : c < 13) : ∀ a, a < am_nf c → ∀ b, b < am_nf c → a ≠ b → (am_T c a).2.1 ≠ (am_T c b).2.1 := by
  match c, h with
  | 0, _ => exact nmX0
  | 1, _ => exact nmX1
  | 2, _ => exact nmX2
  | 3, _ => exact nmX3
  | 4, _ => exact nmX4
  | 5, _ => exact nmX5
  | 6, _ => exact nmX6
  | 7, _ => exact nmX7
  | 8, _ => exact nmX8
  | 9, _ => exact nmX9
  | 10, _ => exact nmX10
  | 11, _ => exact nmX11
  | 12, _ => exact nmX12
/-- every field is an int, a boolean or a reference -/
def am_tyB (c : Nat) : Bool := (List.range (am_nf c)).all (fun k => am_isR (am_ty c k) || decide (am_ty c k = .int) || decide (am_ty c k = .boolean))
set_option maxRecDepth 100000 in
theorem am_tyB_ok : (List.range 13).all am_tyB = true := by decide +kernel
end
section
theorem cdX11_init : Cond.code mX11_init.2.1 mX11_init.2.2.1 mX11_init.2.2.2.1 mX11_init.2.2.2.2.1 ∈ lw_good := am_ch_mem 1 (List.mem_of_getElem? (i := 24) rfl) rfl
theorem cdX7_init : Cond.code mX7_init.2.1 mX7_init.2.2.1 mX7_init.2.2.2.1 mX7_init.2.2.2.2.1 ∈ lw_good := am_ch_mem 1 (List.mem_of_getElem? (i := 32) rfl) rfl
theorem cdX4_init : Cond.code mX4_init.2.1 mX4_init.2.2.1 mX4_init.2.2.2.1 mX4_init.2.2.2.2.1 ∈ lw_good := am_ch_mem 1 (List.mem_of_getElem? (i := 38) rfl) rfl
theorem cdX5_init : Cond.code mX5_init.2.1 mX5_init.2.2.1 mX5_init.2.2.2.1 mX5_init.2.2.2.2.1 ∈ lw_good := am_ch_mem 1 (List.mem_of_getElem? (i := 98) rfl) rfl
theorem cdX2_init : Cond.code mX2_init.2.1 mX2_init.2.2.1 mX2_init.2.2.2.1 mX2_init.2.2.2.2.1 ∈ lw_good := am_ch_mem 1 (List.mem_of_getElem? (i := 135) rfl) rfl
theorem cdX0_init : Cond.code mX0_init.2.1 mX0_init.2.2.1 mX0_init.2.2.2.1 mX0_init.2.2.2.2.1 ∈ lw_good := am_ch_mem 1 (List.mem_of_getElem? (i := 141) rfl) rfl
theorem cdX3_init : Cond.code mX3_init.2.1 mX3_init.2.2.1 mX3_init.2.2.2.1 mX3_init.2.2.2.2.1 ∈ lw_good := am_ch_mem 1 (List.mem_of_getElem? (i := 235) rfl) rfl
theorem cdX1_init : Cond.code mX1_init.2.1 mX1_init.2.2.1 mX1_init.2.2.2.1 mX1_init.2.2.2.2.1 ∈ lw_good := am_ch_mem 2 (List.mem_of_getElem? (i := 37) rfl) rfl
theorem cdX8_init : Cond.code mX8_init.2.1 mX8_init.2.2.1 mX8_init.2.2.2.1 mX8_init.2.2.2.2.1 ∈ lw_good := am_ch_mem 2 (List.mem_of_getElem? (i := 43) rfl) rfl
theorem cdX10_init : Cond.code mX10_init.2.1 mX10_init.2.2.1 mX10_init.2.2.2.1 mX10_init.2.2.2.2.1 ∈ lw_good := am_ch_mem 2 (List.mem_of_getElem? (i := 120) rfl) rfl
theorem cdX9_init : Cond.code mX9_init.2.1 mX9_init.2.2.1 mX9_init.2.2.2.1 mX9_init.2.2.2.2.1 ∈ lw_good := am_ch_mem 2 (List.mem_of_getElem? (i := 126) rfl) rfl
theorem cdX6_init : Cond.code mX6_init.2.1 mX6_init.2.2.1 mX6_init.2.2.2.1 mX6_init.2.2.2.2.1 ∈ lw_good := am_ch_mem 2 (List.mem_of_getElem? (i := 199) rfl) rfl
theorem cdX11_feed : Cond.code mX11_feed.2.1 mX11_feed.2.2.1 mX11_feed.2.2.2.1 mX11_feed.2.2.2.2.1 ∈ lw_good := am_ch_mem 3 (List.mem_of_getElem? (i := 17) rfl) rfl
theorem cdX3_bytesIn : Cond.code mX3_bytesIn.2.1 mX3_bytesIn.2.2.1 mX3_bytesIn.2.2.2.1 mX3_bytesIn.2.2.2.2.1 ∈ lw_good := am_ch_mem 3 (List.mem_of_getElem? (i := 20) rfl) rfl
theorem cdX3_put : Cond.code mX3_put.2.1 mX3_put.2.2.1 mX3_put.2.2.2.1 mX3_put.2.2.2.2.1 ∈ lw_good := am_ch_mem 3 (List.mem_of_getElem? (i := 24) rfl) rfl
theorem cdX11_end : Cond.code mX11_end.2.1 mX11_end.2.2.1 mX11_end.2.2.2.1 mX11_end.2.2.2.2.1 ∈ lw_good := am_ch_mem 3 (List.mem_of_getElem? (i := 28) rfl) rfl
theorem cdX11_fault : Cond.code mX11_fault.2.1 mX11_fault.2.2.1 mX11_fault.2.2.2.1 mX11_fault.2.2.2.2.1 ∈ lw_good := am_ch_mem 3 (List.mem_of_getElem? (i := 32) rfl) rfl
theorem cdX3_readTerm : Cond.code mX3_readTerm.2.1 mX3_readTerm.2.2.1 mX3_readTerm.2.2.2.1 mX3_readTerm.2.2.2.2.1 ∈ lw_good := am_ch_mem 3 (List.mem_of_getElem? (i := 36) rfl) rfl
theorem cdX7_clear : Cond.code mX7_clear.2.1 mX7_clear.2.2.1 mX7_clear.2.2.2.1 mX7_clear.2.2.2.2.1 ∈ lw_good := am_ch_mem 3 (List.mem_of_getElem? (i := 40) rfl) rfl
theorem cdX4_clear : Cond.code mX4_clear.2.1 mX4_clear.2.2.1 mX4_clear.2.2.2.1 mX4_clear.2.2.2.2.1 ∈ lw_good := am_ch_mem 3 (List.mem_of_getElem? (i := 44) rfl) rfl
theorem cdX7_unwrap : Cond.code mX7_unwrap.2.1 mX7_unwrap.2.2.1 mX7_unwrap.2.2.2.1 mX7_unwrap.2.2.2.2.1 ∈ lw_good := am_ch_mem 3 (List.mem_of_getElem? (i := 48) rfl) rfl
theorem cdX3_readPart : Cond.code mX3_readPart.2.1 mX3_readPart.2.2.1 mX3_readPart.2.2.2.1 mX3_readPart.2.2.2.2.1 ∈ lw_good := am_ch_mem 3 (List.mem_of_getElem? (i := 52) rfl) rfl
theorem cdX3_nextSign : Cond.code mX3_nextSign.2.1 mX3_nextSign.2.2.1 mX3_nextSign.2.2.2.1 mX3_nextSign.2.2.2.2.1 ∈ lw_good := am_ch_mem 3 (List.mem_of_getElem? (i := 56) rfl) rfl
theorem cdX3_opOf : Cond.code mX3_opOf.2.1 mX3_opOf.2.2.1 mX3_opOf.2.2.2.1 mX3_opOf.2.2.2.2.1 ∈ lw_good := am_ch_mem 3 (List.mem_of_getElem? (i := 59) rfl) rfl
theorem cdX3_isDigit : Cond.code mX3_isDigit.2.1 mX3_isDigit.2.2.1 mX3_isDigit.2.2.2.1 mX3_isDigit.2.2.2.2.1 ∈ lw_good := am_ch_mem 3 (List.mem_of_getElem? (i := 62) rfl) rfl
theorem cdX3_isLetter : Cond.code mX3_isLetter.2.1 mX3_isLetter.2.2.1 mX3_isLetter.2.2.2.1 mX3_isLetter.2.2.2.2.1 ∈ lw_good := am_ch_mem 3 (List.mem_of_getElem? (i := 65) rfl) rfl
theorem cdX3_refuse : Cond.code mX3_refuse.2.1 mX3_refuse.2.2.1 mX3_refuse.2.2.2.1 mX3_refuse.2.2.2.2.1 ∈ lw_good := am_ch_mem 3 (List.mem_of_getElem? (i := 69) rfl) rfl
theorem cdX7_add : Cond.code mX7_add.2.1 mX7_add.2.2.1 mX7_add.2.2.2.1 mX7_add.2.2.2.2.1 ∈ lw_good := am_ch_mem 3 (List.mem_of_getElem? (i := 73) rfl) rfl
theorem cdX3_readHead : Cond.code mX3_readHead.2.1 mX3_readHead.2.2.1 mX3_readHead.2.2.2.1 mX3_readHead.2.2.2.2.1 ∈ lw_good := am_ch_mem 3 (List.mem_of_getElem? (i := 77) rfl) rfl
theorem cdX3_readNumber : Cond.code mX3_readNumber.2.1 mX3_readNumber.2.2.1 mX3_readNumber.2.2.2.1 mX3_readNumber.2.2.2.2.1 ∈ lw_good := am_ch_mem 3 (List.mem_of_getElem? (i := 81) rfl) rfl
theorem cdX3_here : Cond.code mX3_here.2.1 mX3_here.2.2.1 mX3_here.2.2.2.1 mX3_here.2.2.2.2.1 ∈ lw_good := am_ch_mem 3 (List.mem_of_getElem? (i := 85) rfl) rfl
theorem cdX7_setNumber : Cond.code mX7_setNumber.2.1 mX7_setNumber.2.2.1 mX7_setNumber.2.2.2.1 mX7_setNumber.2.2.2.2.1 ∈ lw_good := am_ch_mem 3 (List.mem_of_getElem? (i := 89) rfl) rfl
theorem cdX7_has : Cond.code mX7_has.2.1 mX7_has.2.2.1 mX7_has.2.2.2.1 mX7_has.2.2.2.2.1 ∈ lw_good := am_ch_mem 3 (List.mem_of_getElem? (i := 93) rfl) rfl
theorem cdX3_readLetter : Cond.code mX3_readLetter.2.1 mX3_readLetter.2.2.1 mX3_readLetter.2.2.2.1 mX3_readLetter.2.2.2.2.1 ∈ lw_good := am_ch_mem 3 (List.mem_of_getElem? (i := 97) rfl) rfl
theorem cdX7_partsOf : Cond.code mX7_partsOf.2.1 mX7_partsOf.2.2.1 mX7_partsOf.2.2.2.1 mX7_partsOf.2.2.2.2.1 ∈ lw_good := am_ch_mem 3 (List.mem_of_getElem? (i := 100) rfl) rfl
theorem cdX7_close : Cond.code mX7_close.2.1 mX7_close.2.2.1 mX7_close.2.2.2.1 mX7_close.2.2.2.2.1 ∈ lw_good := am_ch_mem 3 (List.mem_of_getElem? (i := 104) rfl) rfl
theorem cdX7_beginType : Cond.code mX7_beginType.2.1 mX7_beginType.2.2.1 mX7_beginType.2.2.2.1 mX7_beginType.2.2.2.2.1 ∈ lw_good := am_ch_mem 3 (List.mem_of_getElem? (i := 108) rfl) rfl
theorem cdX3_readType : Cond.code mX3_readType.2.1 mX3_readType.2.2.1 mX3_readType.2.2.2.1 mX3_readType.2.2.2.2.1 ∈ lw_good := am_ch_mem 3 (List.mem_of_getElem? (i := 112) rfl) rfl
theorem cdX3_readTypePart : Cond.code mX3_readTypePart.2.1 mX3_readTypePart.2.2.1 mX3_readTypePart.2.2.2.1 mX3_readTypePart.2.2.2.2.1 ∈ lw_good := am_ch_mem 3 (List.mem_of_getElem? (i := 116) rfl) rfl
theorem cdX3_readLeaf : Cond.code mX3_readLeaf.2.1 mX3_readLeaf.2.2.1 mX3_readLeaf.2.2.2.1 mX3_readLeaf.2.2.2.2.1 ∈ lw_good := am_ch_mem 3 (List.mem_of_getElem? (i := 120) rfl) rfl
theorem cdX4_add : Cond.code mX4_add.2.1 mX4_add.2.2.1 mX4_add.2.2.2.1 mX4_add.2.2.2.2.1 ∈ lw_good := am_ch_mem 3 (List.mem_of_getElem? (i := 124) rfl) rfl
theorem cdX3_readTwo : Cond.code mX3_readTwo.2.1 mX3_readTwo.2.2.1 mX3_readTwo.2.2.2.1 mX3_readTwo.2.2.2.2.1 ∈ lw_good := am_ch_mem 3 (List.mem_of_getElem? (i := 128) rfl) rfl
theorem cdX3_readAll : Cond.code mX3_readAll.2.1 mX3_readAll.2.2.1 mX3_readAll.2.2.2.1 mX3_readAll.2.2.2.2.1 ∈ lw_good := am_ch_mem 3 (List.mem_of_getElem? (i := 132) rfl) rfl
theorem cdX4_sign : Cond.code mX4_sign.2.1 mX4_sign.2.2.1 mX4_sign.2.2.2.1 mX4_sign.2.2.2.2.1 ∈ lw_good := am_ch_mem 3 (List.mem_of_getElem? (i := 135) rfl) rfl
theorem cdX3_readVariable : Cond.code mX3_readVariable.2.1 mX3_readVariable.2.2.1 mX3_readVariable.2.2.2.1 mX3_readVariable.2.2.2.2.1 ∈ lw_good := am_ch_mem 3 (List.mem_of_getElem? (i := 139) rfl) rfl
theorem cdX3_readEnd : Cond.code mX3_readEnd.2.1 mX3_readEnd.2.2.1 mX3_readEnd.2.2.2.1 mX3_readEnd.2.2.2.2.1 ∈ lw_good := am_ch_mem 3 (List.mem_of_getElem? (i := 143) rfl) rfl
theorem cdX3_readTypes : Cond.code mX3_readTypes.2.1 mX3_readTypes.2.2.1 mX3_readTypes.2.2.2.1 mX3_readTypes.2.2.2.2.1 ∈ lw_good := am_ch_mem 3 (List.mem_of_getElem? (i := 147) rfl) rfl
theorem cdX11_infers : Cond.code mX11_infers.2.1 mX11_infers.2.2.1 mX11_infers.2.2.2.1 mX11_infers.2.2.2.2.1 ∈ lw_good := am_ch_mem 3 (List.mem_of_getElem? (i := 152) rfl) rfl
theorem cdX1_startTerm : Cond.code mX1_startTerm.2.1 mX1_startTerm.2.2.1 mX1_startTerm.2.2.2.1 mX1_startTerm.2.2.2.2.1 ∈ lw_good := am_ch_mem 3 (List.mem_of_getElem? (i := 156) rfl) rfl
theorem cdX1_start : Cond.code mX1_start.2.1 mX1_start.2.2.1 mX1_start.2.2.2.1 mX1_start.2.2.2.2.1 ∈ lw_good := am_ch_mem 3 (List.mem_of_getElem? (i := 160) rfl) rfl
theorem cdX2_start : Cond.code mX2_start.2.1 mX2_start.2.2.1 mX2_start.2.2.2.1 mX2_start.2.2.2.2.1 ∈ lw_good := am_ch_mem 3 (List.mem_of_getElem? (i := 164) rfl) rfl
theorem cdX0_clear : Cond.code mX0_clear.2.1 mX0_clear.2.2.1 mX0_clear.2.2.2.1 mX0_clear.2.2.2.2.1 ∈ lw_good := am_ch_mem 3 (List.mem_of_getElem? (i := 168) rfl) rfl
theorem cdX8_clear : Cond.code mX8_clear.2.1 mX8_clear.2.2.1 mX8_clear.2.2.2.1 mX8_clear.2.2.2.2.1 ∈ lw_good := am_ch_mem 3 (List.mem_of_getElem? (i := 174) rfl) rfl
theorem cdX0_addName : Cond.code mX0_addName.2.1 mX0_addName.2.2.1 mX0_addName.2.2.2.1 mX0_addName.2.2.2.2.1 ∈ lw_good := am_ch_mem 3 (List.mem_of_getElem? (i := 180) rfl) rfl
theorem cdX4_keep : Cond.code mX4_keep.2.1 mX4_keep.2.2.1 mX4_keep.2.2.2.1 mX4_keep.2.2.2.2.1 ∈ lw_good := am_ch_mem 3 (List.mem_of_getElem? (i := 184) rfl) rfl
theorem cdX0_put : Cond.code mX0_put.2.1 mX0_put.2.2.1 mX0_put.2.2.2.1 mX0_put.2.2.2.2.1 ∈ lw_good := am_ch_mem 3 (List.mem_of_getElem? (i := 191) rfl) rfl
theorem cdX7_root : Cond.code mX7_root.2.1 mX7_root.2.2.1 mX7_root.2.2.2.1 mX7_root.2.2.2.2.1 ∈ lw_good := am_ch_mem 3 (List.mem_of_getElem? (i := 195) rfl) rfl
theorem cdX7_standsFor : Cond.code mX7_standsFor.2.1 mX7_standsFor.2.2.1 mX7_standsFor.2.2.2.1 mX7_standsFor.2.2.2.2.1 ∈ lw_good := am_ch_mem 3 (List.mem_of_getElem? (i := 199) rfl) rfl
theorem cdX8_push : Cond.code mX8_push.2.1 mX8_push.2.2.1 mX8_push.2.2.2.1 mX8_push.2.2.2.2.1 ∈ lw_good := am_ch_mem 3 (List.mem_of_getElem? (i := 203) rfl) rfl
theorem cdX1_run : Cond.code mX1_run.2.1 mX1_run.2.2.1 mX1_run.2.2.2.1 mX1_run.2.2.2.2.1 ∈ lw_good := am_ch_mem 3 (List.mem_of_getElem? (i := 207) rfl) rfl
theorem cdX8_pop : Cond.code mX8_pop.2.1 mX8_pop.2.2.1 mX8_pop.2.2.2.1 mX8_pop.2.2.2.2.1 ∈ lw_good := am_ch_mem 3 (List.mem_of_getElem? (i := 212) rfl) rfl
theorem cdX1_begin : Cond.code mX1_begin.2.1 mX1_begin.2.2.1 mX1_begin.2.2.2.1 mX1_begin.2.2.2.2.1 ∈ lw_good := am_ch_mem 3 (List.mem_of_getElem? (i := 216) rfl) rfl
theorem cdX1_takeTypes : Cond.code mX1_takeTypes.2.1 mX1_takeTypes.2.2.1 mX1_takeTypes.2.2.2.1 mX1_takeTypes.2.2.2.2.1 ∈ lw_good := am_ch_mem 3 (List.mem_of_getElem? (i := 220) rfl) rfl
theorem cdX1_takeHeld : Cond.code mX1_takeHeld.2.1 mX1_takeHeld.2.2.1 mX1_takeHeld.2.2.2.1 mX1_takeHeld.2.2.2.2.1 ∈ lw_good := am_ch_mem 3 (List.mem_of_getElem? (i := 224) rfl) rfl
theorem cdX4_keptLength : Cond.code mX4_keptLength.2.1 mX4_keptLength.2.2.1 mX4_keptLength.2.2.2.1 mX4_keptLength.2.2.2.2.1 ∈ lw_good := am_ch_mem 3 (List.mem_of_getElem? (i := 228) rfl) rfl
theorem cdX0_take : Cond.code mX0_take.2.1 mX0_take.2.2.1 mX0_take.2.2.2.1 mX0_take.2.2.2.2.1 ∈ lw_good := am_ch_mem 3 (List.mem_of_getElem? (i := 232) rfl) rfl
theorem cdX0_solvedType : Cond.code mX0_solvedType.2.1 mX0_solvedType.2.2.1 mX0_solvedType.2.2.2.1 mX0_solvedType.2.2.2.2.1 ∈ lw_good := am_ch_mem 3 (List.mem_of_getElem? (i := 237) rfl) rfl
theorem cdX4_kindOf : Cond.code mX4_kindOf.2.1 mX4_kindOf.2.2.1 mX4_kindOf.2.2.2.1 mX4_kindOf.2.2.2.2.1 ∈ lw_good := am_ch_mem 4 (List.mem_of_getElem? (i := 0) rfl) rfl
theorem cdX4_numberOf : Cond.code mX4_numberOf.2.1 mX4_numberOf.2.2.1 mX4_numberOf.2.2.2.1 mX4_numberOf.2.2.2.2.1 ∈ lw_good := am_ch_mem 4 (List.mem_of_getElem? (i := 3) rfl) rfl
theorem cdX0_placeOf : Cond.code mX0_placeOf.2.1 mX0_placeOf.2.2.1 mX0_placeOf.2.2.2.1 mX0_placeOf.2.2.2.2.1 ∈ lw_good := am_ch_mem 4 (List.mem_of_getElem? (i := 7) rfl) rfl
theorem cdX8_letGo : Cond.code mX8_letGo.2.1 mX8_letGo.2.2.1 mX8_letGo.2.2.2.1 mX8_letGo.2.2.2.2.1 ∈ lw_good := am_ch_mem 4 (List.mem_of_getElem? (i := 13) rfl) rfl
theorem cdX7_at : Cond.code mX7_at.2.1 mX7_at.2.2.1 mX7_at.2.2.2.1 mX7_at.2.2.2.2.1 ∈ lw_good := am_ch_mem 4 (List.mem_of_getElem? (i := 17) rfl) rfl
theorem cdX7_isWrapping : Cond.code mX7_isWrapping.2.1 mX7_isWrapping.2.2.1 mX7_isWrapping.2.2.2.1 mX7_isWrapping.2.2.2.2.1 ∈ lw_good := am_ch_mem 4 (List.mem_of_getElem? (i := 21) rfl) rfl
theorem cdX2_note : Cond.code mX2_note.2.1 mX2_note.2.2.1 mX2_note.2.2.2.1 mX2_note.2.2.2.2.1 ∈ lw_good := am_ch_mem 4 (List.mem_of_getElem? (i := 25) rfl) rfl
theorem cdX1_check : Cond.code mX1_check.2.1 mX1_check.2.2.1 mX1_check.2.2.2.1 mX1_check.2.2.2.2.1 ∈ lw_good := am_ch_mem 4 (List.mem_of_getElem? (i := 32) rfl) rfl
theorem cdX4_kindAt : Cond.code mX4_kindAt.2.1 mX4_kindAt.2.2.1 mX4_kindAt.2.2.2.1 mX4_kindAt.2.2.2.2.1 ∈ lw_good := am_ch_mem 4 (List.mem_of_getElem? (i := 36) rfl) rfl
theorem cdX4_at : Cond.code mX4_at.2.1 mX4_at.2.2.1 mX4_at.2.2.2.1 mX4_at.2.2.2.2.1 ∈ lw_good := am_ch_mem 4 (List.mem_of_getElem? (i := 40) rfl) rfl
theorem cdX1_checkAll : Cond.code mX1_checkAll.2.1 mX1_checkAll.2.2.1 mX1_checkAll.2.2.2.1 mX1_checkAll.2.2.2.2.1 ∈ lw_good := am_ch_mem 4 (List.mem_of_getElem? (i := 45) rfl) rfl
theorem cdX1_openConstant : Cond.code mX1_openConstant.2.1 mX1_openConstant.2.2.1 mX1_openConstant.2.2.2.1 mX1_openConstant.2.2.2.2.1 ∈ lw_good := am_ch_mem 4 (List.mem_of_getElem? (i := 49) rfl) rfl
theorem cdX0_addConstant : Cond.code mX0_addConstant.2.1 mX0_addConstant.2.2.1 mX0_addConstant.2.2.2.1 mX0_addConstant.2.2.2.2.1 ∈ lw_good := am_ch_mem 4 (List.mem_of_getElem? (i := 53) rfl) rfl
theorem cdX4_open : Cond.code mX4_open.2.1 mX4_open.2.2.1 mX4_open.2.2.2.1 mX4_open.2.2.2.2.1 ∈ lw_good := am_ch_mem 4 (List.mem_of_getElem? (i := 58) rfl) rfl
theorem cdX1_pushCut : Cond.code mX1_pushCut.2.1 mX1_pushCut.2.2.1 mX1_pushCut.2.2.2.1 mX1_pushCut.2.2.2.2.1 ∈ lw_good := am_ch_mem 4 (List.mem_of_getElem? (i := 65) rfl) rfl
theorem cdX1_hold : Cond.code mX1_hold.2.1 mX1_hold.2.2.1 mX1_hold.2.2.2.1 mX1_hold.2.2.2.2.1 ∈ lw_good := am_ch_mem 4 (List.mem_of_getElem? (i := 69) rfl) rfl
theorem cdX1_pushCheck : Cond.code mX1_pushCheck.2.1 mX1_pushCheck.2.2.1 mX1_pushCheck.2.2.2.1 mX1_pushCheck.2.2.2.2.1 ∈ lw_good := am_ch_mem 4 (List.mem_of_getElem? (i := 74) rfl) rfl
theorem cdX7_op : Cond.code mX7_op.2.1 mX7_op.2.2.1 mX7_op.2.2.2.1 mX7_op.2.2.2.2.1 ∈ lw_good := am_ch_mem 4 (List.mem_of_getElem? (i := 78) rfl) rfl
theorem cdX1_checkFunction : Cond.code mX1_checkFunction.2.1 mX1_checkFunction.2.2.1 mX1_checkFunction.2.2.2.1 mX1_checkFunction.2.2.2.2.1 ∈ lw_good := am_ch_mem 4 (List.mem_of_getElem? (i := 82) rfl) rfl
theorem cdX4_past : Cond.code mX4_past.2.1 mX4_past.2.2.1 mX4_past.2.2.2.1 mX4_past.2.2.2.2.1 ∈ lw_good := am_ch_mem 4 (List.mem_of_getElem? (i := 86) rfl) rfl
theorem cdX4_partsOf : Cond.code mX4_partsOf.2.1 mX4_partsOf.2.2.1 mX4_partsOf.2.2.2.1 mX4_partsOf.2.2.2.2.1 ∈ lw_good := am_ch_mem 4 (List.mem_of_getElem? (i := 89) rfl) rfl
theorem cdX7_number : Cond.code mX7_number.2.1 mX7_number.2.2.1 mX7_number.2.2.2.1 mX7_number.2.2.2.2.1 ∈ lw_good := am_ch_mem 4 (List.mem_of_getElem? (i := 93) rfl) rfl
theorem cdX7_part : Cond.code mX7_part.2.1 mX7_part.2.2.1 mX7_part.2.2.2.1 mX7_part.2.2.2.2.1 ∈ lw_good := am_ch_mem 4 (List.mem_of_getElem? (i := 97) rfl) rfl
theorem cdX1_checkInferred : Cond.code mX1_checkInferred.2.1 mX1_checkInferred.2.2.1 mX1_checkInferred.2.2.2.1 mX1_checkInferred.2.2.2.2.1 ∈ lw_good := am_ch_mem 4 (List.mem_of_getElem? (i := 101) rfl) rfl
theorem cdX1_pushGoOn : Cond.code mX1_pushGoOn.2.1 mX1_pushGoOn.2.2.1 mX1_pushGoOn.2.2.2.1 mX1_pushGoOn.2.2.2.2.1 ∈ lw_good := am_ch_mem 4 (List.mem_of_getElem? (i := 105) rfl) rfl
theorem cdX1_pushInfer : Cond.code mX1_pushInfer.2.1 mX1_pushInfer.2.2.1 mX1_pushInfer.2.2.2.1 mX1_pushInfer.2.2.2.2.1 ∈ lw_good := am_ch_mem 4 (List.mem_of_getElem? (i := 109) rfl) rfl
theorem cdX1_checkPair : Cond.code mX1_checkPair.2.1 mX1_checkPair.2.2.1 mX1_checkPair.2.2.2.1 mX1_checkPair.2.2.2.2.1 ∈ lw_good := am_ch_mem 4 (List.mem_of_getElem? (i := 113) rfl) rfl
theorem cdX1_checkIf : Cond.code mX1_checkIf.2.1 mX1_checkIf.2.2.1 mX1_checkIf.2.2.2.1 mX1_checkIf.2.2.2.2.1 ∈ lw_good := am_ch_mem 4 (List.mem_of_getElem? (i := 117) rfl) rfl
theorem cdX4_keepSign : Cond.code mX4_keepSign.2.1 mX4_keepSign.2.2.1 mX4_keepSign.2.2.2.1 mX4_keepSign.2.2.2.2.1 ∈ lw_good := am_ch_mem 4 (List.mem_of_getElem? (i := 121) rfl) rfl
theorem cdX1_checkLet : Cond.code mX1_checkLet.2.1 mX1_checkLet.2.2.1 mX1_checkLet.2.2.2.1 mX1_checkLet.2.2.2.2.1 ∈ lw_good := am_ch_mem 4 (List.mem_of_getElem? (i := 126) rfl) rfl
theorem cdX1_infer : Cond.code mX1_infer.2.1 mX1_infer.2.2.1 mX1_infer.2.2.2.1 mX1_infer.2.2.2.2.1 ∈ lw_good := am_ch_mem 4 (List.mem_of_getElem? (i := 130) rfl) rfl
theorem cdX1_inferName : Cond.code mX1_inferName.2.1 mX1_inferName.2.2.1 mX1_inferName.2.2.2.1 mX1_inferName.2.2.2.2.1 ∈ lw_good := am_ch_mem 4 (List.mem_of_getElem? (i := 134) rfl) rfl
theorem cdX0_nameType : Cond.code mX0_nameType.2.1 mX0_nameType.2.2.1 mX0_nameType.2.2.2.1 mX0_nameType.2.2.2.2.1 ∈ lw_good := am_ch_mem 4 (List.mem_of_getElem? (i := 138) rfl) rfl
theorem cdX4_put : Cond.code mX4_put.2.1 mX4_put.2.2.1 mX4_put.2.2.2.1 mX4_put.2.2.2.2.1 ∈ lw_good := am_ch_mem 4 (List.mem_of_getElem? (i := 142) rfl) rfl
theorem cdX1_inferSign : Cond.code mX1_inferSign.2.1 mX1_inferSign.2.2.1 mX1_inferSign.2.2.2.1 mX1_inferSign.2.2.2.2.1 ∈ lw_good := am_ch_mem 4 (List.mem_of_getElem? (i := 146) rfl) rfl
theorem cdX1_inferNoted : Cond.code mX1_inferNoted.2.1 mX1_inferNoted.2.2.1 mX1_inferNoted.2.2.2.1 mX1_inferNoted.2.2.2.2.1 ∈ lw_good := am_ch_mem 4 (List.mem_of_getElem? (i := 151) rfl) rfl
theorem cdX7_putType : Cond.code mX7_putType.2.1 mX7_putType.2.2.1 mX7_putType.2.2.2.1 mX7_putType.2.2.2.2.1 ∈ lw_good := am_ch_mem 4 (List.mem_of_getElem? (i := 155) rfl) rfl
theorem cdX1_inferFunction : Cond.code mX1_inferFunction.2.1 mX1_inferFunction.2.2.1 mX1_inferFunction.2.2.2.1 mX1_inferFunction.2.2.2.2.1 ∈ lw_good := am_ch_mem 4 (List.mem_of_getElem? (i := 161) rfl) rfl
theorem cdX0_addGuess : Cond.code mX0_addGuess.2.1 mX0_addGuess.2.2.1 mX0_addGuess.2.2.2.1 mX0_addGuess.2.2.2.2.1 ∈ lw_good := am_ch_mem 4 (List.mem_of_getElem? (i := 165) rfl) rfl
theorem cdX0_addGuessedName : Cond.code mX0_addGuessedName.2.1 mX0_addGuessedName.2.2.1 mX0_addGuessedName.2.2.2.1 mX0_addGuessedName.2.2.2.2.1 ∈ lw_good := am_ch_mem 4 (List.mem_of_getElem? (i := 169) rfl) rfl
theorem cdX1_inferLet : Cond.code mX1_inferLet.2.1 mX1_inferLet.2.2.1 mX1_inferLet.2.2.2.1 mX1_inferLet.2.2.2.2.1 ∈ lw_good := am_ch_mem 4 (List.mem_of_getElem? (i := 175) rfl) rfl
theorem cdX1_inferOfNumbers : Cond.code mX1_inferOfNumbers.2.1 mX1_inferOfNumbers.2.2.1 mX1_inferOfNumbers.2.2.2.1 mX1_inferOfNumbers.2.2.2.2.1 ∈ lw_good := am_ch_mem 4 (List.mem_of_getElem? (i := 179) rfl) rfl
theorem cdX1_apply : Cond.code mX1_apply.2.1 mX1_apply.2.2.1 mX1_apply.2.2.2.1 mX1_apply.2.2.2.2.1 ∈ lw_good := am_ch_mem 4 (List.mem_of_getElem? (i := 183) rfl) rfl
theorem cdX1_openGuess : Cond.code mX1_openGuess.2.1 mX1_openGuess.2.2.1 mX1_openGuess.2.2.2.1 mX1_openGuess.2.2.2.2.1 ∈ lw_good := am_ch_mem 4 (List.mem_of_getElem? (i := 187) rfl) rfl
theorem cdX0_openPlace : Cond.code mX0_openPlace.2.1 mX0_openPlace.2.2.1 mX0_openPlace.2.2.2.1 mX0_openPlace.2.2.2.2.1 ∈ lw_good := am_ch_mem 4 (List.mem_of_getElem? (i := 193) rfl) rfl
theorem cdX0_split : Cond.code mX0_split.2.1 mX0_split.2.2.1 mX0_split.2.2.2.1 mX0_split.2.2.2.2.1 ∈ lw_good := am_ch_mem 4 (List.mem_of_getElem? (i := 197) rfl) rfl
theorem cdX1_compareHeads : Cond.code mX1_compareHeads.2.1 mX1_compareHeads.2.2.1 mX1_compareHeads.2.2.2.1 mX1_compareHeads.2.2.2.2.1 ∈ lw_good := am_ch_mem 4 (List.mem_of_getElem? (i := 202) rfl) rfl
theorem cdX1_pushBelow : Cond.code mX1_pushBelow.2.1 mX1_pushBelow.2.2.1 mX1_pushBelow.2.2.2.1 mX1_pushBelow.2.2.2.2.1 ∈ lw_good := am_ch_mem 4 (List.mem_of_getElem? (i := 206) rfl) rfl
theorem cdX1_openMarked : Cond.code mX1_openMarked.2.1 mX1_openMarked.2.2.1 mX1_openMarked.2.2.2.1 mX1_openMarked.2.2.2.2.1 ∈ lw_good := am_ch_mem 4 (List.mem_of_getElem? (i := 210) rfl) rfl
theorem cdX0_addMark : Cond.code mX0_addMark.2.1 mX0_addMark.2.2.1 mX0_addMark.2.2.2.1 mX0_addMark.2.2.2.2.1 ∈ lw_good := am_ch_mem 4 (List.mem_of_getElem? (i := 214) rfl) rfl
theorem cdX4_has : Cond.code mX4_has.2.1 mX4_has.2.2.1 mX4_has.2.2.2.1 mX4_has.2.2.2.2.1 ∈ lw_good := am_ch_mem 4 (List.mem_of_getElem? (i := 218) rfl) rfl
theorem cdX1_compareParts : Cond.code mX1_compareParts.2.1 mX1_compareParts.2.2.1 mX1_compareParts.2.2.2.1 mX1_compareParts.2.2.2.2.1 ∈ lw_good := am_ch_mem 4 (List.mem_of_getElem? (i := 222) rfl) rfl
theorem cdX1_solve : Cond.code mX1_solve.2.1 mX1_solve.2.2.1 mX1_solve.2.2.2.1 mX1_solve.2.2.2.2.1 ∈ lw_good := am_ch_mem 4 (List.mem_of_getElem? (i := 226) rfl) rfl
theorem cdX4_alls : Cond.code mX4_alls.2.1 mX4_alls.2.2.1 mX4_alls.2.2.2.1 mX4_alls.2.2.2.2.1 ∈ lw_good := am_ch_mem 4 (List.mem_of_getElem? (i := 230) rfl) rfl
theorem cdX0_allAhead : Cond.code mX0_allAhead.2.1 mX0_allAhead.2.2.1 mX0_allAhead.2.2.2.1 mX0_allAhead.2.2.2.2.1 ∈ lw_good := am_ch_mem 4 (List.mem_of_getElem? (i := 234) rfl) rfl
theorem cdX0_standsAhead : Cond.code mX0_standsAhead.2.1 mX0_standsAhead.2.2.1 mX0_standsAhead.2.2.2.1 mX0_standsAhead.2.2.2.2.1 ∈ lw_good := am_ch_mem 4 (List.mem_of_getElem? (i := 238) rfl) rfl
theorem cdX0_solve : Cond.code mX0_solve.2.1 mX0_solve.2.2.1 mX0_solve.2.2.2.1 mX0_solve.2.2.2.2.1 ∈ lw_good := am_ch_mem 5 (List.mem_of_getElem? (i := 2) rfl) rfl
theorem cdX0_solveAs : Cond.code mX0_solveAs.2.1 mX0_solveAs.2.2.1 mX0_solveAs.2.2.2.1 mX0_solveAs.2.2.2.2.1 ∈ lw_good := am_ch_mem 5 (List.mem_of_getElem? (i := 6) rfl) rfl
theorem cdX1_solveParts : Cond.code mX1_solveParts.2.1 mX1_solveParts.2.2.1 mX1_solveParts.2.2.2.1 mX1_solveParts.2.2.2.2.1 ∈ lw_good := am_ch_mem 5 (List.mem_of_getElem? (i := 10) rfl) rfl
theorem cdX1_pushSolve : Cond.code mX1_pushSolve.2.1 mX1_pushSolve.2.2.1 mX1_pushSolve.2.2.2.1 mX1_pushSolve.2.2.2.2.1 ∈ lw_good := am_ch_mem 5 (List.mem_of_getElem? (i := 14) rfl) rfl
theorem cdX1_solveAll : Cond.code mX1_solveAll.2.1 mX1_solveAll.2.2.1 mX1_solveAll.2.2.2.1 mX1_solveAll.2.2.2.2.1 ∈ lw_good := am_ch_mem 5 (List.mem_of_getElem? (i := 18) rfl) rfl
theorem cdX2_noteRule : Cond.code mX2_noteRule.2.1 mX2_noteRule.2.2.1 mX2_noteRule.2.2.2.1 mX2_noteRule.2.2.2.2.1 ∈ lw_good := am_ch_mem 5 (List.mem_of_getElem? (i := 22) rfl) rfl
theorem cdX1_fail : Cond.code mX1_fail.2.1 mX1_fail.2.2.1 mX1_fail.2.2.2.1 mX1_fail.2.2.2.2.1 ∈ lw_good := am_ch_mem 5 (List.mem_of_getElem? (i := 26) rfl) rfl
theorem cdX1_goOn : Cond.code mX1_goOn.2.1 mX1_goOn.2.2.1 mX1_goOn.2.2.2.1 mX1_goOn.2.2.2.2.1 ∈ lw_good := am_ch_mem 5 (List.mem_of_getElem? (i := 30) rfl) rfl
theorem cdX0_cutAt : Cond.code mX0_cutAt.2.1 mX0_cutAt.2.2.1 mX0_cutAt.2.2.2.1 mX0_cutAt.2.2.2.2.1 ∈ lw_good := am_ch_mem 5 (List.mem_of_getElem? (i := 34) rfl) rfl
theorem cdX0_removeName : Cond.code mX0_removeName.2.1 mX0_removeName.2.2.1 mX0_removeName.2.2.2.1 mX0_removeName.2.2.2.2.1 ∈ lw_good := am_ch_mem 5 (List.mem_of_getElem? (i := 38) rfl) rfl
theorem cdX1_bind : Cond.code mX1_bind.2.1 mX1_bind.2.2.1 mX1_bind.2.2.2.1 mX1_bind.2.2.2.2.1 ∈ lw_good := am_ch_mem 5 (List.mem_of_getElem? (i := 42) rfl) rfl
theorem cdX1_takeOut : Cond.code mX1_takeOut.2.1 mX1_takeOut.2.2.1 mX1_takeOut.2.2.2.1 mX1_takeOut.2.2.2.2.1 ∈ lw_good := am_ch_mem 5 (List.mem_of_getElem? (i := 46) rfl) rfl
theorem cdX1_give : Cond.code mX1_give.2.1 mX1_give.2.2.1 mX1_give.2.2.2.1 mX1_give.2.2.2.2.1 ∈ lw_good := am_ch_mem 5 (List.mem_of_getElem? (i := 50) rfl) rfl
theorem cdX1_putHeld : Cond.code mX1_putHeld.2.1 mX1_putHeld.2.2.1 mX1_putHeld.2.2.2.1 mX1_putHeld.2.2.2.2.1 ∈ lw_good := am_ch_mem 5 (List.mem_of_getElem? (i := 54) rfl) rfl
theorem cdX1_giveArrow : Cond.code mX1_giveArrow.2.1 mX1_giveArrow.2.2.1 mX1_giveArrow.2.2.2.1 mX1_giveArrow.2.2.2.2.1 ∈ lw_good := am_ch_mem 5 (List.mem_of_getElem? (i := 58) rfl) rfl
theorem cdX1_outBelow : Cond.code mX1_outBelow.2.1 mX1_outBelow.2.2.1 mX1_outBelow.2.2.2.1 mX1_outBelow.2.2.2.2.1 ∈ lw_good := am_ch_mem 5 (List.mem_of_getElem? (i := 62) rfl) rfl
theorem cdX1_outElse : Cond.code mX1_outElse.2.1 mX1_outElse.2.2.1 mX1_outElse.2.2.2.1 mX1_outElse.2.2.2.2.1 ∈ lw_good := am_ch_mem 5 (List.mem_of_getElem? (i := 66) rfl) rfl
theorem cdX1_outSecond : Cond.code mX1_outSecond.2.1 mX1_outSecond.2.2.1 mX1_outSecond.2.2.2.1 mX1_outSecond.2.2.2.2.1 ∈ lw_good := am_ch_mem 5 (List.mem_of_getElem? (i := 70) rfl) rfl
theorem cdX1_outPair : Cond.code mX1_outPair.2.1 mX1_outPair.2.2.1 mX1_outPair.2.2.2.1 mX1_outPair.2.2.2.2.1 ∈ lw_good := am_ch_mem 5 (List.mem_of_getElem? (i := 74) rfl) rfl
theorem cdX1_outPart : Cond.code mX1_outPart.2.1 mX1_outPart.2.2.1 mX1_outPart.2.2.2.1 mX1_outPart.2.2.2.2.1 ∈ lw_good := am_ch_mem 5 (List.mem_of_getElem? (i := 78) rfl) rfl
theorem cdX1_finish : Cond.code mX1_finish.2.1 mX1_finish.2.2.1 mX1_finish.2.2.2.1 mX1_finish.2.2.2.2.1 ∈ lw_good := am_ch_mem 5 (List.mem_of_getElem? (i := 82) rfl) rfl
theorem cdX11_counted : Cond.code mX11_counted.2.1 mX11_counted.2.2.1 mX11_counted.2.2.2.1 mX11_counted.2.2.2.2.1 ∈ lw_good := am_ch_mem 5 (List.mem_of_getElem? (i := 86) rfl) rfl
theorem cdX11_below : Cond.code mX11_below.2.1 mX11_below.2.2.1 mX11_below.2.2.2.1 mX11_below.2.2.2.2.1 ∈ lw_good := am_ch_mem 5 (List.mem_of_getElem? (i := 91) rfl) rfl
theorem cdX1_startTypes : Cond.code mX1_startTypes.2.1 mX1_startTypes.2.2.1 mX1_startTypes.2.2.2.1 mX1_startTypes.2.2.2.2.1 ∈ lw_good := am_ch_mem 5 (List.mem_of_getElem? (i := 95) rfl) rfl
theorem cdX11_judged : Cond.code mX11_judged.2.1 mX11_judged.2.2.1 mX11_judged.2.2.2.1 mX11_judged.2.2.2.2.1 ∈ lw_good := am_ch_mem 5 (List.mem_of_getElem? (i := 99) rfl) rfl
theorem cdX6_guessesIn : Cond.code mX6_guessesIn.2.1 mX6_guessesIn.2.2.1 mX6_guessesIn.2.2.2.1 mX6_guessesIn.2.2.2.2.1 ∈ lw_good := am_ch_mem 5 (List.mem_of_getElem? (i := 103) rfl) rfl
theorem cdX6_see : Cond.code mX6_see.2.1 mX6_see.2.2.1 mX6_see.2.2.2.1 mX6_see.2.2.2.2.1 ∈ lw_good := am_ch_mem 5 (List.mem_of_getElem? (i := 108) rfl) rfl
theorem cdX6_rank : Cond.code mX6_rank.2.1 mX6_rank.2.2.1 mX6_rank.2.2.2.1 mX6_rank.2.2.2.2.1 ∈ lw_good := am_ch_mem 5 (List.mem_of_getElem? (i := 112) rfl) rfl
theorem cdX11_type : Cond.code mX11_type.2.1 mX11_type.2.2.1 mX11_type.2.2.2.1 mX11_type.2.2.2.2.1 ∈ lw_good := am_ch_mem 5 (List.mem_of_getElem? (i := 118) rfl) rfl
theorem cdX6_told : Cond.code mX6_told.2.1 mX6_told.2.2.1 mX6_told.2.2.2.1 mX6_told.2.2.2.2.1 ∈ lw_good := am_ch_mem 5 (List.mem_of_getElem? (i := 122) rfl) rfl
theorem cdX6_name : Cond.code mX6_name.2.1 mX6_name.2.2.1 mX6_name.2.2.2.1 mX6_name.2.2.2.2.1 ∈ lw_good := am_ch_mem 5 (List.mem_of_getElem? (i := 126) rfl) rfl
theorem cdX6_write : Cond.code mX6_write.2.1 mX6_write.2.2.1 mX6_write.2.2.2.1 mX6_write.2.2.2.2.1 ∈ lw_good := am_ch_mem 5 (List.mem_of_getElem? (i := 131) rfl) rfl
theorem cdX6_nameOf : Cond.code mX6_nameOf.2.1 mX6_nameOf.2.2.1 mX6_nameOf.2.2.2.1 mX6_nameOf.2.2.2.2.1 ∈ lw_good := am_ch_mem 5 (List.mem_of_getElem? (i := 135) rfl) rfl
theorem cdX6_orderOf : Cond.code mX6_orderOf.2.1 mX6_orderOf.2.2.1 mX6_orderOf.2.2.2.1 mX6_orderOf.2.2.2.2.1 ∈ lw_good := am_ch_mem 5 (List.mem_of_getElem? (i := 139) rfl) rfl
theorem cdX6_plain : Cond.code mX6_plain.2.1 mX6_plain.2.2.1 mX6_plain.2.2.2.1 mX6_plain.2.2.2.2.1 ∈ lw_good := am_ch_mem 5 (List.mem_of_getElem? (i := 142) rfl) rfl
theorem cdX11_entry : Cond.code mX11_entry.2.1 mX11_entry.2.2.1 mX11_entry.2.2.2.1 mX11_entry.2.2.2.2.1 ∈ lw_good := am_ch_mem 5 (List.mem_of_getElem? (i := 146) rfl) rfl
theorem cdX0_lengthOf : Cond.code mX0_lengthOf.2.1 mX0_lengthOf.2.2.1 mX0_lengthOf.2.2.2.1 mX0_lengthOf.2.2.2.2.1 ∈ lw_good := am_ch_mem 5 (List.mem_of_getElem? (i := 150) rfl) rfl
theorem cdX11_entryType : Cond.code mX11_entryType.2.1 mX11_entryType.2.2.1 mX11_entryType.2.2.2.1 mX11_entryType.2.2.2.2.1 ∈ lw_good := am_ch_mem 5 (List.mem_of_getElem? (i := 154) rfl) rfl
theorem cdX11_keeps : Cond.code mX11_keeps.2.1 mX11_keeps.2.2.1 mX11_keeps.2.2.2.1 mX11_keeps.2.2.2.2.1 ∈ lw_good := am_ch_mem 5 (List.mem_of_getElem? (i := 158) rfl) rfl
theorem cdX2_mayBeKept : Cond.code mX2_mayBeKept.2.1 mX2_mayBeKept.2.2.1 mX2_mayBeKept.2.2.2.1 mX2_mayBeKept.2.2.2.2.1 ∈ lw_good := am_ch_mem 5 (List.mem_of_getElem? (i := 162) rfl) rfl
theorem cdX5_takes : Cond.code mX5_takes.2.1 mX5_takes.2.2.1 mX5_takes.2.2.2.1 mX5_takes.2.2.2.2.1 ∈ lw_good := am_ch_mem 5 (List.mem_of_getElem? (i := 166) rfl) rfl
theorem cdX5_placeOf : Cond.code mX5_placeOf.2.1 mX5_placeOf.2.2.1 mX5_placeOf.2.2.2.1 mX5_placeOf.2.2.2.2.1 ∈ lw_good := am_ch_mem 5 (List.mem_of_getElem? (i := 170) rfl) rfl
theorem cdX5_put : Cond.code mX5_put.2.1 mX5_put.2.2.1 mX5_put.2.2.2.1 mX5_put.2.2.2.2.1 ∈ lw_good := am_ch_mem 5 (List.mem_of_getElem? (i := 174) rfl) rfl
theorem cdX7_copy : Cond.code mX7_copy.2.1 mX7_copy.2.2.1 mX7_copy.2.2.2.1 mX7_copy.2.2.2.2.1 ∈ lw_good := am_ch_mem 5 (List.mem_of_getElem? (i := 181) rfl) rfl
theorem cdX6_close : Cond.code mX6_close.2.1 mX6_close.2.2.1 mX6_close.2.2.2.1 mX6_close.2.2.2.2.1 ∈ lw_good := am_ch_mem 5 (List.mem_of_getElem? (i := 188) rfl) rfl
theorem cdX11_drops : Cond.code mX11_drops.2.1 mX11_drops.2.2.1 mX11_drops.2.2.2.1 mX11_drops.2.2.2.2.1 ∈ lw_good := am_ch_mem 5 (List.mem_of_getElem? (i := 196) rfl) rfl
theorem cdX11_shelf : Cond.code mX11_shelf.2.1 mX11_shelf.2.2.1 mX11_shelf.2.2.2.1 mX11_shelf.2.2.2.2.1 ∈ lw_good := am_ch_mem 5 (List.mem_of_getElem? (i := 200) rfl) rfl
theorem cdX5_has : Cond.code mX5_has.2.1 mX5_has.2.2.1 mX5_has.2.2.2.1 mX5_has.2.2.2.2.1 ∈ lw_good := am_ch_mem 5 (List.mem_of_getElem? (i := 204) rfl) rfl
theorem cdX11_shelfType : Cond.code mX11_shelfType.2.1 mX11_shelfType.2.2.1 mX11_shelfType.2.2.2.1 mX11_shelfType.2.2.2.2.1 ∈ lw_good := am_ch_mem 5 (List.mem_of_getElem? (i := 208) rfl) rfl
theorem cdX11_worked : Cond.code mX11_worked.2.1 mX11_worked.2.2.1 mX11_worked.2.2.2.1 mX11_worked.2.2.2.2.1 ∈ lw_good := am_ch_mem 5 (List.mem_of_getElem? (i := 212) rfl) rfl
theorem cdX10_workOut : Cond.code mX10_workOut.2.1 mX10_workOut.2.2.1 mX10_workOut.2.2.2.1 mX10_workOut.2.2.2.2.1 ∈ lw_good := am_ch_mem 5 (List.mem_of_getElem? (i := 216) rfl) rfl
theorem cdX9_clear : Cond.code mX9_clear.2.1 mX9_clear.2.2.1 mX9_clear.2.2.2.1 mX9_clear.2.2.2.2.1 ∈ lw_good := am_ch_mem 5 (List.mem_of_getElem? (i := 220) rfl) rfl
theorem cdX10_goTo : Cond.code mX10_goTo.2.1 mX10_goTo.2.2.1 mX10_goTo.2.2.2.1 mX10_goTo.2.2.2.2.1 ∈ lw_good := am_ch_mem 5 (List.mem_of_getElem? (i := 225) rfl) rfl
theorem cdX10_pace : Cond.code mX10_pace.2.1 mX10_pace.2.2.1 mX10_pace.2.2.2.1 mX10_pace.2.2.2.2.1 ∈ lw_good := am_ch_mem 5 (List.mem_of_getElem? (i := 230) rfl) rfl
theorem cdX10_termAt : Cond.code mX10_termAt.2.1 mX10_termAt.2.2.1 mX10_termAt.2.2.2.1 mX10_termAt.2.2.2.2.1 ∈ lw_good := am_ch_mem 5 (List.mem_of_getElem? (i := 234) rfl) rfl
theorem cdX10_workName : Cond.code mX10_workName.2.1 mX10_workName.2.2.1 mX10_workName.2.2.2.1 mX10_workName.2.2.2.2.1 ∈ lw_good := am_ch_mem 6 (List.mem_of_getElem? (i := 1) rfl) rfl
theorem cdX9_find : Cond.code mX9_find.2.1 mX9_find.2.2.1 mX9_find.2.2.2.1 mX9_find.2.2.2.2.1 ∈ lw_good := am_ch_mem 6 (List.mem_of_getElem? (i := 5) rfl) rfl
theorem cdX10_give : Cond.code mX10_give.2.1 mX10_give.2.2.1 mX10_give.2.2.2.1 mX10_give.2.2.2.2.1 ∈ lw_good := am_ch_mem 6 (List.mem_of_getElem? (i := 10) rfl) rfl
theorem cdX9_makePlain : Cond.code mX9_makePlain.2.1 mX9_makePlain.2.2.1 mX9_makePlain.2.2.2.1 mX9_makePlain.2.2.2.2.1 ∈ lw_good := am_ch_mem 6 (List.mem_of_getElem? (i := 14) rfl) rfl
theorem cdX9_make : Cond.code mX9_make.2.1 mX9_make.2.2.1 mX9_make.2.2.2.1 mX9_make.2.2.2.2.1 ∈ lw_good := am_ch_mem 6 (List.mem_of_getElem? (i := 18) rfl) rfl
theorem cdX9_makeFunction : Cond.code mX9_makeFunction.2.1 mX9_makeFunction.2.2.1 mX9_makeFunction.2.2.2.1 mX9_makeFunction.2.2.2.2.1 ∈ lw_good := am_ch_mem 6 (List.mem_of_getElem? (i := 23) rfl) rfl
theorem cdX10_await : Cond.code mX10_await.2.1 mX10_await.2.2.1 mX10_await.2.2.2.1 mX10_await.2.2.2.2.1 ∈ lw_good := am_ch_mem 6 (List.mem_of_getElem? (i := 28) rfl) rfl
theorem cdX10_resume : Cond.code mX10_resume.2.1 mX10_resume.2.2.1 mX10_resume.2.2.2.1 mX10_resume.2.2.2.2.1 ∈ lw_good := am_ch_mem 6 (List.mem_of_getElem? (i := 32) rfl) rfl
theorem cdX10_goOnWithFirst : Cond.code mX10_goOnWithFirst.2.1 mX10_goOnWithFirst.2.2.1 mX10_goOnWithFirst.2.2.2.1 mX10_goOnWithFirst.2.2.2.2.1 ∈ lw_good := am_ch_mem 6 (List.mem_of_getElem? (i := 36) rfl) rfl
theorem cdX9_bind : Cond.code mX9_bind.2.1 mX9_bind.2.2.1 mX9_bind.2.2.2.1 mX9_bind.2.2.2.2.1 ∈ lw_good := am_ch_mem 6 (List.mem_of_getElem? (i := 40) rfl) rfl
theorem cdX10_must : Cond.code mX10_must.2.1 mX10_must.2.2.1 mX10_must.2.2.2.1 mX10_must.2.2.2.2.1 ∈ lw_good := am_ch_mem 6 (List.mem_of_getElem? (i := 44) rfl) rfl
theorem cdX9_kindOf : Cond.code mX9_kindOf.2.1 mX9_kindOf.2.2.1 mX9_kindOf.2.2.2.1 mX9_kindOf.2.2.2.2.1 ∈ lw_good := am_ch_mem 6 (List.mem_of_getElem? (i := 48) rfl) rfl
theorem cdX9_has : Cond.code mX9_has.2.1 mX9_has.2.2.1 mX9_has.2.2.2.1 mX9_has.2.2.2.2.1 ∈ lw_good := am_ch_mem 6 (List.mem_of_getElem? (i := 52) rfl) rfl
theorem cdX9_firstOf : Cond.code mX9_firstOf.2.1 mX9_firstOf.2.2.1 mX9_firstOf.2.2.2.1 mX9_firstOf.2.2.2.2.1 ∈ lw_good := am_ch_mem 6 (List.mem_of_getElem? (i := 56) rfl) rfl
theorem cdX9_secondOf : Cond.code mX9_secondOf.2.1 mX9_secondOf.2.2.1 mX9_secondOf.2.2.2.1 mX9_secondOf.2.2.2.2.1 ∈ lw_good := am_ch_mem 6 (List.mem_of_getElem? (i := 60) rfl) rfl
theorem cdX10_goOnWithBoth : Cond.code mX10_goOnWithBoth.2.1 mX10_goOnWithBoth.2.2.1 mX10_goOnWithBoth.2.2.2.1 mX10_goOnWithBoth.2.2.2.2.1 ∈ lw_good := am_ch_mem 6 (List.mem_of_getElem? (i := 64) rfl) rfl
theorem cdX10_workFunction : Cond.code mX10_workFunction.2.1 mX10_workFunction.2.2.1 mX10_workFunction.2.2.2.1 mX10_workFunction.2.2.2.2.1 ∈ lw_good := am_ch_mem 6 (List.mem_of_getElem? (i := 68) rfl) rfl
theorem cdX9_homeOf : Cond.code mX9_homeOf.2.1 mX9_homeOf.2.2.1 mX9_homeOf.2.2.2.1 mX9_homeOf.2.2.2.2.1 ∈ lw_good := am_ch_mem 6 (List.mem_of_getElem? (i := 72) rfl) rfl
theorem cdX9_makePair : Cond.code mX9_makePair.2.1 mX9_makePair.2.2.1 mX9_makePair.2.2.2.1 mX9_makePair.2.2.2.2.1 ∈ lw_good := am_ch_mem 6 (List.mem_of_getElem? (i := 76) rfl) rfl
theorem cdX9_countOf : Cond.code mX9_countOf.2.1 mX9_countOf.2.2.1 mX9_countOf.2.2.2.1 mX9_countOf.2.2.2.2.1 ∈ lw_good := am_ch_mem 6 (List.mem_of_getElem? (i := 80) rfl) rfl
theorem cdX10_answerKind : Cond.code mX10_answerKind.2.1 mX10_answerKind.2.2.1 mX10_answerKind.2.2.2.1 mX10_answerKind.2.2.2.2.1 ∈ lw_good := am_ch_mem 6 (List.mem_of_getElem? (i := 85) rfl) rfl
theorem cdX10_answerNumber : Cond.code mX10_answerNumber.2.1 mX10_answerNumber.2.2.1 mX10_answerNumber.2.2.2.1 mX10_answerNumber.2.2.2.2.1 ∈ lw_good := am_ch_mem 6 (List.mem_of_getElem? (i := 89) rfl) rfl
theorem cdX11_asks : Cond.code mX11_asks.2.1 mX11_asks.2.2.1 mX11_asks.2.2.2.1 mX11_asks.2.2.2.2.1 ∈ lw_good := am_ch_mem 6 (List.mem_of_getElem? (i := 94) rfl) rfl
theorem cdX7_wrap : Cond.code mX7_wrap.2.1 mX7_wrap.2.2.1 mX7_wrap.2.2.2.1 mX7_wrap.2.2.2.2.1 ∈ lw_good := am_ch_mem 6 (List.mem_of_getElem? (i := 98) rfl) rfl
theorem cdX11_tells : Cond.code mX11_tells.2.1 mX11_tells.2.2.1 mX11_tells.2.2.2.1 mX11_tells.2.2.2.2.1 ∈ lw_good := am_ch_mem 6 (List.mem_of_getElem? (i := 105) rfl) rfl
theorem cdX4_same : Cond.code mX4_same.2.1 mX4_same.2.2.1 mX4_same.2.2.2.1 mX4_same.2.2.2.2.1 ∈ lw_good := am_ch_mem 6 (List.mem_of_getElem? (i := 109) rfl) rfl
theorem cdX11_shelfBelow : Cond.code mX11_shelfBelow.2.1 mX11_shelfBelow.2.2.1 mX11_shelfBelow.2.2.2.1 mX11_shelfBelow.2.2.2.2.1 ∈ lw_good := am_ch_mem 6 (List.mem_of_getElem? (i := 114) rfl) rfl
theorem cdX11_count : Cond.code mX11_count.2.1 mX11_count.2.2.1 mX11_count.2.2.2.1 mX11_count.2.2.2.2.1 ∈ lw_good := am_ch_mem 6 (List.mem_of_getElem? (i := 118) rfl) rfl
theorem cdX11_byRule : Cond.code mX11_byRule.2.1 mX11_byRule.2.2.1 mX11_byRule.2.2.2.1 mX11_byRule.2.2.2.2.1 ∈ lw_good := am_ch_mem 6 (List.mem_of_getElem? (i := 122) rfl) rfl
theorem cdX11_step : Cond.code mX11_step.2.1 mX11_step.2.2.1 mX11_step.2.2.2.1 mX11_step.2.2.2.2.1 ∈ lw_good := am_ch_mem 6 (List.mem_of_getElem? (i := 130) rfl) rfl
theorem cdX12_init : Cond.code mX12_init.2.1 mX12_init.2.2.1 mX12_init.2.2.2.1 mX12_init.2.2.2.2.1 ∈ lw_good := am_ch_mem 6 (List.mem_of_getElem? (i := 196) rfl) rfl
theorem cdX12_thrown : Cond.code mX12_thrown.2.1 mX12_thrown.2.2.1 mX12_thrown.2.2.2.1 mX12_thrown.2.2.2.2.1 ∈ lw_good := am_ch_mem 7 (List.mem_of_getElem? (i := 187) rfl) rfl
theorem cdX12_feed : Cond.code mX12_feed.2.1 mX12_feed.2.2.1 mX12_feed.2.2.2.1 mX12_feed.2.2.2.2.1 ∈ lw_good := am_ch_mem 7 (List.mem_of_getElem? (i := 191) rfl) rfl
theorem cdX12_bytesOf : Cond.code mX12_bytesOf.2.1 mX12_bytesOf.2.2.1 mX12_bytesOf.2.2.2.1 mX12_bytesOf.2.2.2.2.1 ∈ lw_good := am_ch_mem 7 (List.mem_of_getElem? (i := 194) rfl) rfl
theorem cdX12_brings : Cond.code mX12_brings.2.1 mX12_brings.2.2.1 mX12_brings.2.2.2.1 mX12_brings.2.2.2.2.1 ∈ lw_good := am_ch_mem 7 (List.mem_of_getElem? (i := 198) rfl) rfl
theorem cdX12_end : Cond.code mX12_end.2.1 mX12_end.2.2.1 mX12_end.2.2.2.1 mX12_end.2.2.2.2.1 ∈ lw_good := am_ch_mem 7 (List.mem_of_getElem? (i := 202) rfl) rfl
theorem cdX12_fault : Cond.code mX12_fault.2.1 mX12_fault.2.2.1 mX12_fault.2.2.2.1 mX12_fault.2.2.2.2.1 ∈ lw_good := am_ch_mem 7 (List.mem_of_getElem? (i := 206) rfl) rfl
theorem cdX12_readsWhole : Cond.code mX12_readsWhole.2.1 mX12_readsWhole.2.2.1 mX12_readsWhole.2.2.2.1 mX12_readsWhole.2.2.2.2.1 ∈ lw_good := am_ch_mem 7 (List.mem_of_getElem? (i := 210) rfl) rfl
theorem cdX12_begins : Cond.code mX12_begins.2.1 mX12_begins.2.2.1 mX12_begins.2.2.2.1 mX12_begins.2.2.2.2.1 ∈ lw_good := am_ch_mem 7 (List.mem_of_getElem? (i := 214) rfl) rfl
theorem cdX12_readsExpression : Cond.code mX12_readsExpression.2.1 mX12_readsExpression.2.2.1 mX12_readsExpression.2.2.2.1 mX12_readsExpression.2.2.2.2.1 ∈ lw_good := am_ch_mem 7 (List.mem_of_getElem? (i := 218) rfl) rfl
theorem cdX12_look : Cond.code mX12_look.2.1 mX12_look.2.2.1 mX12_look.2.2.2.1 mX12_look.2.2.2.2.1 ∈ lw_good := am_ch_mem 7 (List.mem_of_getElem? (i := 222) rfl) rfl
theorem cdX12_here : Cond.code mX12_here.2.1 mX12_here.2.2.1 mX12_here.2.2.2.1 mX12_here.2.2.2.2.1 ∈ lw_good := am_ch_mem 7 (List.mem_of_getElem? (i := 226) rfl) rfl
theorem cdX12_kindOf : Cond.code mX12_kindOf.2.1 mX12_kindOf.2.2.1 mX12_kindOf.2.2.2.1 mX12_kindOf.2.2.2.2.1 ∈ lw_good := am_ch_mem 7 (List.mem_of_getElem? (i := 229) rfl) rfl
theorem cdX12_isLetter : Cond.code mX12_isLetter.2.1 mX12_isLetter.2.2.1 mX12_isLetter.2.2.2.1 mX12_isLetter.2.2.2.2.1 ∈ lw_good := am_ch_mem 7 (List.mem_of_getElem? (i := 232) rfl) rfl
theorem cdX12_isDigit : Cond.code mX12_isDigit.2.1 mX12_isDigit.2.2.1 mX12_isDigit.2.2.2.1 mX12_isDigit.2.2.2.2.1 ∈ lw_good := am_ch_mem 7 (List.mem_of_getElem? (i := 235) rfl) rfl
theorem cdX12_fails : Cond.code mX12_fails.2.1 mX12_fails.2.2.1 mX12_fails.2.2.2.1 mX12_fails.2.2.2.2.1 ∈ lw_good := am_ch_mem 7 (List.mem_of_getElem? (i := 239) rfl) rfl
theorem cdX12_opens : Cond.code mX12_opens.2.1 mX12_opens.2.2.1 mX12_opens.2.2.2.1 mX12_opens.2.2.2.2.1 ∈ lw_good := am_ch_mem 8 (List.mem_of_getElem? (i := 3) rfl) rfl
theorem cdX12_number : Cond.code mX12_number.2.1 mX12_number.2.2.1 mX12_number.2.2.2.1 mX12_number.2.2.2.2.1 ∈ lw_good := am_ch_mem 8 (List.mem_of_getElem? (i := 7) rfl) rfl
theorem cdX12_puts_ : Cond.code mX12_puts_.2.1 mX12_puts_.2.2.1 mX12_puts_.2.2.2.1 mX12_puts_.2.2.2.2.1 ∈ lw_good := am_ch_mem 8 (List.mem_of_getElem? (i := 11) rfl) rfl
theorem cdX12_letter : Cond.code mX12_letter.2.1 mX12_letter.2.2.1 mX12_letter.2.2.2.1 mX12_letter.2.2.2.2.1 ∈ lw_good := am_ch_mem 8 (List.mem_of_getElem? (i := 15) rfl) rfl
theorem cdX12_parts : Cond.code mX12_parts.2.1 mX12_parts.2.2.1 mX12_parts.2.2.2.1 mX12_parts.2.2.2.2.1 ∈ lw_good := am_ch_mem 8 (List.mem_of_getElem? (i := 18) rfl) rfl
theorem cdX12_readsType : Cond.code mX12_readsType.2.1 mX12_readsType.2.2.1 mX12_readsType.2.2.2.1 mX12_readsType.2.2.2.2.1 ∈ lw_good := am_ch_mem 8 (List.mem_of_getElem? (i := 22) rfl) rfl
theorem cdX12_puts : Cond.code mX12_puts.2.1 mX12_puts.2.2.1 mX12_puts.2.2.2.1 mX12_puts.2.2.2.2.1 ∈ lw_good := am_ch_mem 8 (List.mem_of_getElem? (i := 26) rfl) rfl
theorem cdX12_endsText : Cond.code mX12_endsText.2.1 mX12_endsText.2.2.1 mX12_endsText.2.2.2.1 mX12_endsText.2.2.2.2.1 ∈ lw_good := am_ch_mem 8 (List.mem_of_getElem? (i := 30) rfl) rfl
theorem cdX12_isIn : Cond.code mX12_isIn.2.1 mX12_isIn.2.2.1 mX12_isIn.2.2.2.1 mX12_isIn.2.2.2.2.1 ∈ lw_good := am_ch_mem 8 (List.mem_of_getElem? (i := 34) rfl) rfl
theorem cdX12_readsTypes : Cond.code mX12_readsTypes.2.1 mX12_readsTypes.2.2.1 mX12_readsTypes.2.2.2.1 mX12_readsTypes.2.2.2.2.1 ∈ lw_good := am_ch_mem 8 (List.mem_of_getElem? (i := 38) rfl) rfl
theorem cdX12_infers_ : Cond.code mX12_infers_.2.1 mX12_infers_.2.2.1 mX12_infers_.2.2.2.1 mX12_infers_.2.2.2.2.1 ∈ lw_good := am_ch_mem 8 (List.mem_of_getElem? (i := 42) rfl) rfl
theorem cdX12_copies : Cond.code mX12_copies.2.1 mX12_copies.2.2.1 mX12_copies.2.2.2.1 mX12_copies.2.2.2.2.1 ∈ lw_good := am_ch_mem 8 (List.mem_of_getElem? (i := 46) rfl) rfl
theorem cdX12_judges : Cond.code mX12_judges.2.1 mX12_judges.2.2.1 mX12_judges.2.2.2.1 mX12_judges.2.2.2.2.1 ∈ lw_good := am_ch_mem 8 (List.mem_of_getElem? (i := 50) rfl) rfl
theorem cdX12_clears : Cond.code mX12_clears.2.1 mX12_clears.2.2.1 mX12_clears.2.2.2.1 mX12_clears.2.2.2.2.1 ∈ lw_good := am_ch_mem 8 (List.mem_of_getElem? (i := 55) rfl) rfl
theorem cdX12_typeRowOf : Cond.code mX12_typeRowOf.2.1 mX12_typeRowOf.2.2.1 mX12_typeRowOf.2.2.2.1 mX12_typeRowOf.2.2.2.2.1 ∈ lw_good := am_ch_mem 8 (List.mem_of_getElem? (i := 58) rfl) rfl
theorem cdX12_typeFrom : Cond.code mX12_typeFrom.2.1 mX12_typeFrom.2.2.1 mX12_typeFrom.2.2.2.1 mX12_typeFrom.2.2.2.2.1 ∈ lw_good := am_ch_mem 8 (List.mem_of_getElem? (i := 62) rfl) rfl
theorem cdX12_builds : Cond.code mX12_builds.2.1 mX12_builds.2.2.1 mX12_builds.2.2.2.1 mX12_builds.2.2.2.2.1 ∈ lw_good := am_ch_mem 8 (List.mem_of_getElem? (i := 66) rfl) rfl
theorem cdX12_makes : Cond.code mX12_makes.2.1 mX12_makes.2.2.1 mX12_makes.2.2.2.1 mX12_makes.2.2.2.2.1 ∈ lw_good := am_ch_mem 8 (List.mem_of_getElem? (i := 70) rfl) rfl
theorem cdX12_comes : Cond.code mX12_comes.2.1 mX12_comes.2.2.1 mX12_comes.2.2.2.1 mX12_comes.2.2.2.2.1 ∈ lw_good := am_ch_mem 8 (List.mem_of_getElem? (i := 74) rfl) rfl
theorem cdX12_infer : Cond.code mX12_infer.2.1 mX12_infer.2.2.1 mX12_infer.2.2.2.1 mX12_infer.2.2.2.2.1 ∈ lw_good := am_ch_mem 8 (List.mem_of_getElem? (i := 78) rfl) rfl
theorem cdX12_begins_ : Cond.code mX12_begins_.2.1 mX12_begins_.2.2.1 mX12_begins_.2.2.2.1 mX12_begins_.2.2.2.2.1 ∈ lw_good := am_ch_mem 8 (List.mem_of_getElem? (i := 82) rfl) rfl
theorem cdX12_by : Cond.code mX12_by.2.1 mX12_by.2.2.1 mX12_by.2.2.2.1 mX12_by.2.2.2.2.1 ∈ lw_good := am_ch_mem 8 (List.mem_of_getElem? (i := 86) rfl) rfl
theorem cdX12_signsBy : Cond.code mX12_signsBy.2.1 mX12_signsBy.2.2.1 mX12_signsBy.2.2.2.1 mX12_signsBy.2.2.2.2.1 ∈ lw_good := am_ch_mem 8 (List.mem_of_getElem? (i := 90) rfl) rfl
theorem cdX12_isBoth : Cond.code mX12_isBoth.2.1 mX12_isBoth.2.2.1 mX12_isBoth.2.2.2.1 mX12_isBoth.2.2.2.2.1 ∈ lw_good := am_ch_mem 8 (List.mem_of_getElem? (i := 94) rfl) rfl
theorem cdX12_placeOf : Cond.code mX12_placeOf.2.1 mX12_placeOf.2.2.1 mX12_placeOf.2.2.2.1 mX12_placeOf.2.2.2.2.1 ∈ lw_good := am_ch_mem 8 (List.mem_of_getElem? (i := 98) rfl) rfl
theorem cdX12_replaced : Cond.code mX12_replaced.2.1 mX12_replaced.2.2.1 mX12_replaced.2.2.2.1 mX12_replaced.2.2.2.2.1 ∈ lw_good := am_ch_mem 8 (List.mem_of_getElem? (i := 102) rfl) rfl
theorem cdX12_of : Cond.code mX12_of.2.1 mX12_of.2.2.1 mX12_of.2.2.2.1 mX12_of.2.2.2.2.1 ∈ lw_good := am_ch_mem 8 (List.mem_of_getElem? (i := 106) rfl) rfl
theorem cdX12_signs : Cond.code mX12_signs.2.1 mX12_signs.2.2.1 mX12_signs.2.2.2.1 mX12_signs.2.2.2.2.1 ∈ lw_good := am_ch_mem 8 (List.mem_of_getElem? (i := 110) rfl) rfl
theorem cdX12_infers : Cond.code mX12_infers.2.1 mX12_infers.2.2.1 mX12_infers.2.2.2.1 mX12_infers.2.2.2.2.1 ∈ lw_good := am_ch_mem 8 (List.mem_of_getElem? (i := 115) rfl) rfl
theorem cdX12_failsNow : Cond.code mX12_failsNow.2.1 mX12_failsNow.2.2.1 mX12_failsNow.2.2.2.1 mX12_failsNow.2.2.2.2.1 ∈ lw_good := am_ch_mem 8 (List.mem_of_getElem? (i := 119) rfl) rfl
theorem cdX12_rule : Cond.code mX12_rule.2.1 mX12_rule.2.2.1 mX12_rule.2.2.2.1 mX12_rule.2.2.2.2.1 ∈ lw_good := am_ch_mem 8 (List.mem_of_getElem? (i := 123) rfl) rfl
theorem cdX12_plain : Cond.code mX12_plain.2.1 mX12_plain.2.2.1 mX12_plain.2.2.2.1 mX12_plain.2.2.2.2.1 ∈ lw_good := am_ch_mem 8 (List.mem_of_getElem? (i := 127) rfl) rfl
theorem cdX12_noted : Cond.code mX12_noted.2.1 mX12_noted.2.2.1 mX12_noted.2.2.2.1 mX12_noted.2.2.2.2.1 ∈ lw_good := am_ch_mem 8 (List.mem_of_getElem? (i := 131) rfl) rfl
theorem cdX12_check : Cond.code mX12_check.2.1 mX12_check.2.2.1 mX12_check.2.2.2.1 mX12_check.2.2.2.2.1 ∈ lw_good := am_ch_mem 8 (List.mem_of_getElem? (i := 135) rfl) rfl
theorem cdX12_checks : Cond.code mX12_checks.2.1 mX12_checks.2.2.1 mX12_checks.2.2.2.1 mX12_checks.2.2.2.2.1 ∈ lw_good := am_ch_mem 8 (List.mem_of_getElem? (i := 139) rfl) rfl
theorem cdX12_freshConstant : Cond.code mX12_freshConstant.2.1 mX12_freshConstant.2.2.1 mX12_freshConstant.2.2.2.1 mX12_freshConstant.2.2.2.2.1 ∈ lw_good := am_ch_mem 8 (List.mem_of_getElem? (i := 143) rfl) rfl
theorem cdX12_inside : Cond.code mX12_inside.2.1 mX12_inside.2.2.1 mX12_inside.2.2.2.1 mX12_inside.2.2.2.2.1 ∈ lw_good := am_ch_mem 8 (List.mem_of_getElem? (i := 147) rfl) rfl
theorem cdX12_with : Cond.code mX12_with.2.1 mX12_with.2.2.1 mX12_with.2.2.2.1 mX12_with.2.2.2.2.1 ∈ lw_good := am_ch_mem 8 (List.mem_of_getElem? (i := 151) rfl) rfl
theorem cdX12_cuts : Cond.code mX12_cuts.2.1 mX12_cuts.2.2.1 mX12_cuts.2.2.2.1 mX12_cuts.2.2.2.2.1 ∈ lw_good := am_ch_mem 8 (List.mem_of_getElem? (i := 155) rfl) rfl
theorem cdX12_marked : Cond.code mX12_marked.2.1 mX12_marked.2.2.1 mX12_marked.2.2.2.1 mX12_marked.2.2.2.2.1 ∈ lw_good := am_ch_mem 8 (List.mem_of_getElem? (i := 159) rfl) rfl
theorem cdX12_entryOwn : Cond.code mX12_entryOwn.2.1 mX12_entryOwn.2.2.1 mX12_entryOwn.2.2.2.1 mX12_entryOwn.2.2.2.2.1 ∈ lw_good := am_ch_mem 8 (List.mem_of_getElem? (i := 163) rfl) rfl
theorem cdX12_cutsAt : Cond.code mX12_cutsAt.2.1 mX12_cutsAt.2.2.1 mX12_cutsAt.2.2.2.1 mX12_cutsAt.2.2.2.2.1 ∈ lw_good := am_ch_mem 8 (List.mem_of_getElem? (i := 167) rfl) rfl
theorem cdX12_placeOfMark : Cond.code mX12_placeOfMark.2.1 mX12_placeOfMark.2.2.1 mX12_placeOfMark.2.2.2.1 mX12_placeOfMark.2.2.2.2.1 ∈ lw_good := am_ch_mem 8 (List.mem_of_getElem? (i := 171) rfl) rfl
theorem cdX12_below : Cond.code mX12_below.2.1 mX12_below.2.2.1 mX12_below.2.2.2.1 mX12_below.2.2.2.2.1 ∈ lw_good := am_ch_mem 8 (List.mem_of_getElem? (i := 175) rfl) rfl
theorem cdX12_isBelow : Cond.code mX12_isBelow.2.1 mX12_isBelow.2.2.1 mX12_isBelow.2.2.2.1 mX12_isBelow.2.2.2.2.1 ∈ lw_good := am_ch_mem 8 (List.mem_of_getElem? (i := 179) rfl) rfl
theorem cdX12_freshGuess : Cond.code mX12_freshGuess.2.1 mX12_freshGuess.2.2.1 mX12_freshGuess.2.2.2.1 mX12_freshGuess.2.2.2.2.1 ∈ lw_good := am_ch_mem 8 (List.mem_of_getElem? (i := 183) rfl) rfl
theorem cdX12_areSame : Cond.code mX12_areSame.2.1 mX12_areSame.2.2.1 mX12_areSame.2.2.2.1 mX12_areSame.2.2.2.2.1 ∈ lw_good := am_ch_mem 8 (List.mem_of_getElem? (i := 187) rfl) rfl
theorem cdX12_isOpen : Cond.code mX12_isOpen.2.1 mX12_isOpen.2.2.1 mX12_isOpen.2.2.2.1 mX12_isOpen.2.2.2.2.1 ∈ lw_good := am_ch_mem 8 (List.mem_of_getElem? (i := 191) rfl) rfl
theorem cdX12_hasGuess : Cond.code mX12_hasGuess.2.1 mX12_hasGuess.2.2.1 mX12_hasGuess.2.2.2.1 mX12_hasGuess.2.2.2.2.1 ∈ lw_good := am_ch_mem 8 (List.mem_of_getElem? (i := 195) rfl) rfl
theorem cdX12_left : Cond.code mX12_left.2.1 mX12_left.2.2.1 mX12_left.2.2.2.1 mX12_left.2.2.2.2.1 ∈ lw_good := am_ch_mem 8 (List.mem_of_getElem? (i := 199) rfl) rfl
theorem cdX12_becomesLeft : Cond.code mX12_becomesLeft.2.1 mX12_becomesLeft.2.2.1 mX12_becomesLeft.2.2.2.1 mX12_becomesLeft.2.2.2.2.1 ∈ lw_good := am_ch_mem 8 (List.mem_of_getElem? (i := 203) rfl) rfl
theorem cdX12_meets : Cond.code mX12_meets.2.1 mX12_meets.2.2.1 mX12_meets.2.2.2.1 mX12_meets.2.2.2.2.1 ∈ lw_good := am_ch_mem 8 (List.mem_of_getElem? (i := 207) rfl) rfl
theorem cdX12_hasAll : Cond.code mX12_hasAll.2.1 mX12_hasAll.2.2.1 mX12_hasAll.2.2.2.1 mX12_hasAll.2.2.2.2.1 ∈ lw_good := am_ch_mem 8 (List.mem_of_getElem? (i := 211) rfl) rfl
theorem cdX12_isAhead : Cond.code mX12_isAhead.2.1 mX12_isAhead.2.2.1 mX12_isAhead.2.2.2.1 mX12_isAhead.2.2.2.2.1 ∈ lw_good := am_ch_mem 8 (List.mem_of_getElem? (i := 215) rfl) rfl
theorem cdX12_solves : Cond.code mX12_solves.2.1 mX12_solves.2.2.1 mX12_solves.2.2.2.1 mX12_solves.2.2.2.2.1 ∈ lw_good := am_ch_mem 8 (List.mem_of_getElem? (i := 219) rfl) rfl
theorem cdX12_splits : Cond.code mX12_splits.2.1 mX12_splits.2.2.1 mX12_splits.2.2.2.1 mX12_splits.2.2.2.2.1 ∈ lw_good := am_ch_mem 8 (List.mem_of_getElem? (i := 223) rfl) rfl
theorem cdX12_right : Cond.code mX12_right.2.1 mX12_right.2.2.1 mX12_right.2.2.2.1 mX12_right.2.2.2.2.1 ∈ lw_good := am_ch_mem 8 (List.mem_of_getElem? (i := 227) rfl) rfl
theorem cdX12_becomesRight : Cond.code mX12_becomesRight.2.1 mX12_becomesRight.2.2.1 mX12_becomesRight.2.2.2.1 mX12_becomesRight.2.2.2.2.1 ∈ lw_good := am_ch_mem 8 (List.mem_of_getElem? (i := 231) rfl) rfl
theorem cdX12_apply : Cond.code mX12_apply.2.1 mX12_apply.2.2.1 mX12_apply.2.2.2.1 mX12_apply.2.2.2.2.1 ∈ lw_good := am_ch_mem 8 (List.mem_of_getElem? (i := 235) rfl) rfl
theorem cdX12_applies : Cond.code mX12_applies.2.1 mX12_applies.2.2.1 mX12_applies.2.2.2.1 mX12_applies.2.2.2.2.1 ∈ lw_good := am_ch_mem 8 (List.mem_of_getElem? (i := 239) rfl) rfl
theorem cdX12_takesOut : Cond.code mX12_takesOut.2.1 mX12_takesOut.2.2.1 mX12_takesOut.2.2.2.1 mX12_takesOut.2.2.2.2.1 ∈ lw_good := am_ch_mem 9 (List.mem_of_getElem? (i := 3) rfl) rfl
theorem cdX12_partOf : Cond.code mX12_partOf.2.1 mX12_partOf.2.2.1 mX12_partOf.2.2.2.1 mX12_partOf.2.2.2.2.1 ∈ lw_good := am_ch_mem 9 (List.mem_of_getElem? (i := 7) rfl) rfl
theorem cdX12_splitsPair : Cond.code mX12_splitsPair.2.1 mX12_splitsPair.2.2.1 mX12_splitsPair.2.2.2.1 mX12_splitsPair.2.2.2.2.1 ∈ lw_good := am_ch_mem 9 (List.mem_of_getElem? (i := 11) rfl) rfl
theorem cdX12_counted : Cond.code mX12_counted.2.1 mX12_counted.2.2.1 mX12_counted.2.2.2.1 mX12_counted.2.2.2.2.1 ∈ lw_good := am_ch_mem 9 (List.mem_of_getElem? (i := 15) rfl) rfl
theorem cdX12_below_ : Cond.code mX12_below_.2.1 mX12_below_.2.2.1 mX12_below_.2.2.2.1 mX12_below_.2.2.2.2.1 ∈ lw_good := am_ch_mem 9 (List.mem_of_getElem? (i := 19) rfl) rfl
theorem cdX12_type : Cond.code mX12_type.2.1 mX12_type.2.2.1 mX12_type.2.2.2.1 mX12_type.2.2.2.2.1 ∈ lw_good := am_ch_mem 9 (List.mem_of_getElem? (i := 23) rfl) rfl
theorem cdX12_hasType : Cond.code mX12_hasType.2.1 mX12_hasType.2.2.1 mX12_hasType.2.2.2.1 mX12_hasType.2.2.2.2.1 ∈ lw_good := am_ch_mem 9 (List.mem_of_getElem? (i := 27) rfl) rfl
theorem cdX12_tellsType : Cond.code mX12_tellsType.2.1 mX12_tellsType.2.2.1 mX12_tellsType.2.2.2.1 mX12_tellsType.2.2.2.2.1 ∈ lw_good := am_ch_mem 9 (List.mem_of_getElem? (i := 31) rfl) rfl
theorem cdX12_writesType : Cond.code mX12_writesType.2.1 mX12_writesType.2.2.1 mX12_writesType.2.2.2.1 mX12_writesType.2.2.2.2.1 ∈ lw_good := am_ch_mem 9 (List.mem_of_getElem? (i := 35) rfl) rfl
theorem cdX12_writes : Cond.code mX12_writes.2.1 mX12_writes.2.2.1 mX12_writes.2.2.2.1 mX12_writes.2.2.2.2.1 ∈ lw_good := am_ch_mem 9 (List.mem_of_getElem? (i := 39) rfl) rfl
theorem cdX12_among : Cond.code mX12_among.2.1 mX12_among.2.2.1 mX12_among.2.2.2.1 mX12_among.2.2.2.2.1 ∈ lw_good := am_ch_mem 9 (List.mem_of_getElem? (i := 42) rfl) rfl
theorem cdX12_judged : Cond.code mX12_judged.2.1 mX12_judged.2.2.1 mX12_judged.2.2.2.1 mX12_judged.2.2.2.2.1 ∈ lw_good := am_ch_mem 9 (List.mem_of_getElem? (i := 46) rfl) rfl
theorem cdX12_openOf : Cond.code mX12_openOf.2.1 mX12_openOf.2.2.1 mX12_openOf.2.2.2.1 mX12_openOf.2.2.2.2.1 ∈ lw_good := am_ch_mem 9 (List.mem_of_getElem? (i := 50) rfl) rfl
theorem cdX12_rank : Cond.code mX12_rank.2.1 mX12_rank.2.2.1 mX12_rank.2.2.2.1 mX12_rank.2.2.2.2.1 ∈ lw_good := am_ch_mem 9 (List.mem_of_getElem? (i := 54) rfl) rfl
theorem cdX12_step : Cond.code mX12_step.2.1 mX12_step.2.2.1 mX12_step.2.2.2.1 mX12_step.2.2.2.2.1 ∈ lw_good := am_ch_mem 9 (List.mem_of_getElem? (i := 58) rfl) rfl
theorem cdX12_entry : Cond.code mX12_entry.2.1 mX12_entry.2.2.1 mX12_entry.2.2.2.1 mX12_entry.2.2.2.2.1 ∈ lw_good := am_ch_mem 9 (List.mem_of_getElem? (i := 63) rfl) rfl
theorem cdX12_isEntry : Cond.code mX12_isEntry.2.1 mX12_isEntry.2.2.1 mX12_isEntry.2.2.2.1 mX12_isEntry.2.2.2.2.1 ∈ lw_good := am_ch_mem 9 (List.mem_of_getElem? (i := 67) rfl) rfl
theorem cdX12_entryType : Cond.code mX12_entryType.2.1 mX12_entryType.2.2.1 mX12_entryType.2.2.2.1 mX12_entryType.2.2.2.2.1 ∈ lw_good := am_ch_mem 9 (List.mem_of_getElem? (i := 71) rfl) rfl
theorem cdX12_byRule : Cond.code mX12_byRule.2.1 mX12_byRule.2.2.1 mX12_byRule.2.2.2.1 mX12_byRule.2.2.2.2.1 ∈ lw_good := am_ch_mem 9 (List.mem_of_getElem? (i := 75) rfl) rfl
theorem cdX12_keeps : Cond.code mX12_keeps.2.1 mX12_keeps.2.2.1 mX12_keeps.2.2.2.1 mX12_keeps.2.2.2.2.1 ∈ lw_good := am_ch_mem 9 (List.mem_of_getElem? (i := 80) rfl) rfl
theorem cdX12_isOnShelf : Cond.code mX12_isOnShelf.2.1 mX12_isOnShelf.2.2.1 mX12_isOnShelf.2.2.2.1 mX12_isOnShelf.2.2.2.2.1 ∈ lw_good := am_ch_mem 9 (List.mem_of_getElem? (i := 85) rfl) rfl
theorem cdX12_encodes : Cond.code mX12_encodes.2.1 mX12_encodes.2.2.1 mX12_encodes.2.2.2.1 mX12_encodes.2.2.2.2.1 ∈ lw_good := am_ch_mem 9 (List.mem_of_getElem? (i := 89) rfl) rfl
theorem cdX12_rowOf : Cond.code mX12_rowOf.2.1 mX12_rowOf.2.2.1 mX12_rowOf.2.2.2.1 mX12_rowOf.2.2.2.2.1 ∈ lw_good := am_ch_mem 9 (List.mem_of_getElem? (i := 92) rfl) rfl
theorem cdX12_drops : Cond.code mX12_drops.2.1 mX12_drops.2.2.1 mX12_drops.2.2.2.1 mX12_drops.2.2.2.2.1 ∈ lw_good := am_ch_mem 9 (List.mem_of_getElem? (i := 96) rfl) rfl
theorem cdX12_shelf : Cond.code mX12_shelf.2.1 mX12_shelf.2.2.1 mX12_shelf.2.2.2.1 mX12_shelf.2.2.2.2.1 ∈ lw_good := am_ch_mem 9 (List.mem_of_getElem? (i := 100) rfl) rfl
theorem cdX12_tellsOf : Cond.code mX12_tellsOf.2.1 mX12_tellsOf.2.2.1 mX12_tellsOf.2.2.2.1 mX12_tellsOf.2.2.2.2.1 ∈ lw_good := am_ch_mem 9 (List.mem_of_getElem? (i := 104) rfl) rfl
theorem cdX12_allsIn : Cond.code mX12_allsIn.2.1 mX12_allsIn.2.2.1 mX12_allsIn.2.2.2.1 mX12_allsIn.2.2.2.2.1 ∈ lw_good := am_ch_mem 9 (List.mem_of_getElem? (i := 108) rfl) rfl
theorem cdX12_shelfType : Cond.code mX12_shelfType.2.1 mX12_shelfType.2.2.1 mX12_shelfType.2.2.2.1 mX12_shelfType.2.2.2.2.1 ∈ lw_good := am_ch_mem 9 (List.mem_of_getElem? (i := 112) rfl) rfl
theorem cdX12_shelfBelow : Cond.code mX12_shelfBelow.2.1 mX12_shelfBelow.2.2.1 mX12_shelfBelow.2.2.2.1 mX12_shelfBelow.2.2.2.2.1 ∈ lw_good := am_ch_mem 9 (List.mem_of_getElem? (i := 116) rfl) rfl
theorem cdX12_laysAside : Cond.code mX12_laysAside.2.1 mX12_laysAside.2.2.1 mX12_laysAside.2.2.2.1 mX12_laysAside.2.2.2.2.1 ∈ lw_good := am_ch_mem 9 (List.mem_of_getElem? (i := 120) rfl) rfl
theorem cdX12_takesBack : Cond.code mX12_takesBack.2.1 mX12_takesBack.2.2.1 mX12_takesBack.2.2.2.1 mX12_takesBack.2.2.2.2.1 ∈ lw_good := am_ch_mem 9 (List.mem_of_getElem? (i := 124) rfl) rfl
theorem cdX12_asks : Cond.code mX12_asks.2.1 mX12_asks.2.2.1 mX12_asks.2.2.2.1 mX12_asks.2.2.2.2.1 ∈ lw_good := am_ch_mem 9 (List.mem_of_getElem? (i := 128) rfl) rfl
theorem cdX12_judgesNoted : Cond.code mX12_judgesNoted.2.1 mX12_judgesNoted.2.2.1 mX12_judgesNoted.2.2.2.1 mX12_judgesNoted.2.2.2.2.1 ∈ lw_good := am_ch_mem 9 (List.mem_of_getElem? (i := 132) rfl) rfl
theorem cdX12_tells : Cond.code mX12_tells.2.1 mX12_tells.2.2.1 mX12_tells.2.2.2.1 mX12_tells.2.2.2.2.1 ∈ lw_good := am_ch_mem 9 (List.mem_of_getElem? (i := 136) rfl) rfl
theorem cdX12_areAlike : Cond.code mX12_areAlike.2.1 mX12_areAlike.2.2.1 mX12_areAlike.2.2.2.1 mX12_areAlike.2.2.2.2.1 ∈ lw_good := am_ch_mem 9 (List.mem_of_getElem? (i := 141) rfl) rfl
theorem cdX12_worked : Cond.code mX12_worked.2.1 mX12_worked.2.2.1 mX12_worked.2.2.2.1 mX12_worked.2.2.2.2.1 ∈ lw_good := am_ch_mem 9 (List.mem_of_getElem? (i := 145) rfl) rfl
theorem cdX12_works : Cond.code mX12_works.2.1 mX12_works.2.2.1 mX12_works.2.2.2.1 mX12_works.2.2.2.2.1 ∈ lw_good := am_ch_mem 9 (List.mem_of_getElem? (i := 149) rfl) rfl
theorem cdX12_worksName : Cond.code mX12_worksName.2.1 mX12_worksName.2.2.1 mX12_worksName.2.2.2.1 mX12_worksName.2.2.2.2.1 ∈ lw_good := am_ch_mem 9 (List.mem_of_getElem? (i := 153) rfl) rfl
theorem cdX12_sticks : Cond.code mX12_sticks.2.1 mX12_sticks.2.2.1 mX12_sticks.2.2.2.1 mX12_sticks.2.2.2.2.1 ∈ lw_good := am_ch_mem 9 (List.mem_of_getElem? (i := 157) rfl) rfl
theorem cdX12_value : Cond.code mX12_value.2.1 mX12_value.2.2.1 mX12_value.2.2.2.1 mX12_value.2.2.2.2.1 ∈ lw_good := am_ch_mem 9 (List.mem_of_getElem? (i := 161) rfl) rfl
theorem cdX12_is : Cond.code mX12_is.2.1 mX12_is.2.2.1 mX12_is.2.2.2.1 mX12_is.2.2.2.2.1 ∈ lw_good := am_ch_mem 9 (List.mem_of_getElem? (i := 166) rfl) rfl
theorem cdX12_linked : Cond.code mX12_linked.2.1 mX12_linked.2.2.1 mX12_linked.2.2.2.1 mX12_linked.2.2.2.2.1 ∈ lw_good := am_ch_mem 9 (List.mem_of_getElem? (i := 170) rfl) rfl
theorem cdX12_worksBoth : Cond.code mX12_worksBoth.2.1 mX12_worksBoth.2.2.1 mX12_worksBoth.2.2.2.1 mX12_worksBoth.2.2.2.2.1 ∈ lw_good := am_ch_mem 9 (List.mem_of_getElem? (i := 174) rfl) rfl
theorem cdX12_count : Cond.code mX12_count.2.1 mX12_count.2.2.1 mX12_count.2.2.2.1 mX12_count.2.2.2.2.1 ∈ lw_good := am_ch_mem 9 (List.mem_of_getElem? (i := 178) rfl) rfl
set_option maxRecDepth 100000 in
theorem am_okd_0 : ∀ e ∈ am_mthL_0, Cond.code e.2.2.2.1.2.1 e.2.2.2.1.2.2.1 e.2.2.2.1.2.2.2.1 e.2.2.2.1.2.2.2.2.1 ∈ lw_good := List.forall_mem_cons.mpr ⟨cdX4_init, List.forall_mem_cons.mpr ⟨cdX4_clear, List.forall_mem_cons.mpr ⟨cdX4_keptLength, List.forall_mem_cons.mpr ⟨cdX0_put, List.forall_mem_cons.mpr ⟨cdX4_keep, List.forall_mem_cons.mpr ⟨cdX4_sign, List.forall_mem_cons.mpr ⟨cdX4_keepSign, List.forall_mem_cons.mpr ⟨cdX0_placeOf, List.forall_mem_cons.mpr ⟨cdX4_kindOf, List.forall_mem_cons.mpr ⟨cdX4_numberOf, List.forall_mem_cons.mpr ⟨cdX0_standsAhead, List.forall_mem_cons.mpr ⟨cdX0_openPlace, List.forall_mem_cons.mpr ⟨cdX4_add, List.forall_mem_cons.mpr ⟨cdX0_solvedType, List.forall_mem_cons.mpr ⟨cdX8_init, List.forall_mem_cons.mpr ⟨cdX4_init, List.forall_mem_cons.mpr ⟨cdX2_start, List.forall_mem_cons.mpr ⟨cdX8_clear, List.forall_mem_cons.mpr ⟨cdX4_clear, List.forall_mem_cons.mpr ⟨cdX1_start, List.forall_mem_cons.mpr ⟨cdX0_addName, List.forall_mem_cons.mpr ⟨cdX7_root, List.forall_mem_cons.mpr ⟨cdX8_push, List.forall_mem_cons.mpr ⟨cdX4_put, List.forall_mem_cons.mpr ⟨cdX1_pushBelow, List.forall_mem_cons.mpr ⟨cdX8_pop, List.forall_mem_cons.mpr ⟨cdX1_begin, List.forall_mem_cons.mpr ⟨cdX1_goOn, List.forall_mem_cons.mpr ⟨cdX1_finish, List.forall_mem_cons.mpr ⟨cdX0_take, List.forall_mem_cons.mpr ⟨cdX1_takeTypes, List.forall_mem_cons.mpr ⟨cdX7_at, List.forall_mem_cons.mpr ⟨cdX2_note, List.forall_mem_cons.mpr ⟨cdX1_check, List.forall_mem_cons.mpr ⟨cdX1_infer, List.forall_mem_cons.mpr ⟨cdX1_apply, List.forall_mem_cons.mpr ⟨cdX1_compareHeads, List.forall_mem_cons.mpr ⟨cdX1_solve, List.forall_mem_cons.mpr ⟨cdX2_noteRule, List.forall_mem_cons.mpr ⟨cdX1_fail, List.forall_mem_cons.mpr ⟨cdX1_takeHeld, List.forall_mem_cons.mpr ⟨cdX8_letGo, List.forall_mem_cons.mpr ⟨cdX4_keptLength, List.forall_mem_cons.mpr ⟨cdX4_keep, List.forall_mem_cons.mpr ⟨cdX1_hold, List.forall_mem_cons.mpr ⟨cdX4_kindAt, List.forall_mem_cons.mpr ⟨cdX1_checkAll, List.forall_mem_cons.mpr ⟨cdX7_op, List.forall_mem_cons.mpr ⟨cdX1_checkFunction, List.forall_mem_cons.mpr ⟨cdX1_checkInferred, List.forall_mem_cons.mpr ⟨cdX1_checkPair, List.forall_mem_cons.mpr ⟨cdX1_checkIf, List.forall_mem_cons.mpr ⟨cdX1_checkLet, List.forall_mem_cons.mpr ⟨cdX1_openConstant, List.forall_mem_cons.mpr ⟨cdX1_pushCheck, List.forall_mem_cons.mpr ⟨cdX4_past, List.forall_mem_cons.mpr ⟨cdX7_number, List.forall_mem_cons.mpr ⟨cdX1_pushCut, List.forall_mem_cons.mpr ⟨cdX7_part, List.forall_mem_cons.mpr ⟨cdX4_keepSign, fun _ h => nomatch h⟩⟩⟩⟩⟩⟩⟩⟩⟩⟩⟩⟩⟩⟩⟩⟩⟩⟩⟩⟩⟩⟩⟩⟩⟩⟩⟩⟩⟩⟩⟩⟩⟩⟩⟩⟩⟩⟩⟩⟩⟩⟩⟩⟩⟩⟩⟩⟩⟩⟩⟩⟩⟩⟩⟩⟩⟩⟩⟩⟩
set_option maxRecDepth 100000 in
theorem am_okd_1 : ∀ e ∈ am_mthL_1, Cond.code e.2.2.2.1.2.1 e.2.2.2.1.2.2.1 e.2.2.2.1.2.2.2.1 e.2.2.2.1.2.2.2.2.1 ∈ lw_good := List.forall_mem_cons.mpr ⟨cdX1_pushGoOn, List.forall_mem_cons.mpr ⟨cdX1_pushInfer, List.forall_mem_cons.mpr ⟨cdX1_inferName, List.forall_mem_cons.mpr ⟨cdX1_inferSign, List.forall_mem_cons.mpr ⟨cdX1_inferNoted, List.forall_mem_cons.mpr ⟨cdX1_inferFunction, List.forall_mem_cons.mpr ⟨cdX1_inferLet, List.forall_mem_cons.mpr ⟨cdX1_inferOfNumbers, List.forall_mem_cons.mpr ⟨cdX0_nameType, List.forall_mem_cons.mpr ⟨cdX4_add, List.forall_mem_cons.mpr ⟨cdX7_putType, List.forall_mem_cons.mpr ⟨cdX0_addGuess, List.forall_mem_cons.mpr ⟨cdX0_addGuessedName, List.forall_mem_cons.mpr ⟨cdX4_sign, List.forall_mem_cons.mpr ⟨cdX4_open, List.forall_mem_cons.mpr ⟨cdX1_openGuess, List.forall_mem_cons.mpr ⟨cdX0_split, List.forall_mem_cons.mpr ⟨cdX4_at, List.forall_mem_cons.mpr ⟨cdX4_numberOf, List.forall_mem_cons.mpr ⟨cdX0_openPlace, List.forall_mem_cons.mpr ⟨cdX1_openMarked, List.forall_mem_cons.mpr ⟨cdX4_has, List.forall_mem_cons.mpr ⟨cdX1_compareParts, List.forall_mem_cons.mpr ⟨cdX4_alls, List.forall_mem_cons.mpr ⟨cdX0_allAhead, List.forall_mem_cons.mpr ⟨cdX0_solve, List.forall_mem_cons.mpr ⟨cdX0_solveAs, List.forall_mem_cons.mpr ⟨cdX1_solveParts, List.forall_mem_cons.mpr ⟨cdX1_solveAll, List.forall_mem_cons.mpr ⟨cdX1_pushSolve, List.forall_mem_cons.mpr ⟨cdX0_addConstant, List.forall_mem_cons.mpr ⟨cdX0_addMark, List.forall_mem_cons.mpr ⟨cdX0_cutAt, List.forall_mem_cons.mpr ⟨cdX0_removeName, List.forall_mem_cons.mpr ⟨cdX1_bind, List.forall_mem_cons.mpr ⟨cdX1_give, List.forall_mem_cons.mpr ⟨cdX1_giveArrow, List.forall_mem_cons.mpr ⟨cdX1_outBelow, List.forall_mem_cons.mpr ⟨cdX1_outElse, List.forall_mem_cons.mpr ⟨cdX1_outSecond, List.forall_mem_cons.mpr ⟨cdX1_outPair, List.forall_mem_cons.mpr ⟨cdX1_outPart, List.forall_mem_cons.mpr ⟨cdX1_takeOut, List.forall_mem_cons.mpr ⟨cdX1_putHeld, List.forall_mem_cons.mpr ⟨cdX0_init, List.forall_mem_cons.mpr ⟨cdX4_init, List.forall_mem_cons.mpr ⟨cdX0_clear, List.forall_mem_cons.mpr ⟨cdX4_clear, List.forall_mem_cons.mpr ⟨cdX4_init, List.forall_mem_cons.mpr ⟨cdX7_clear, List.forall_mem_cons.mpr ⟨cdX3_readPart, List.forall_mem_cons.mpr ⟨cdX3_readEnd, List.forall_mem_cons.mpr ⟨cdX4_clear, List.forall_mem_cons.mpr ⟨cdX3_readType, List.forall_mem_cons.mpr ⟨cdX3_nextSign, List.forall_mem_cons.mpr ⟨cdX3_refuse, List.forall_mem_cons.mpr ⟨cdX3_isDigit, List.forall_mem_cons.mpr ⟨cdX3_isLetter, List.forall_mem_cons.mpr ⟨cdX3_opOf, List.forall_mem_cons.mpr ⟨cdX7_add, fun _ h => nomatch h⟩⟩⟩⟩⟩⟩⟩⟩⟩⟩⟩⟩⟩⟩⟩⟩⟩⟩⟩⟩⟩⟩⟩⟩⟩⟩⟩⟩⟩⟩⟩⟩⟩⟩⟩⟩⟩⟩⟩⟩⟩⟩⟩⟩⟩⟩⟩⟩⟩⟩⟩⟩⟩⟩⟩⟩⟩⟩⟩⟩
set_option maxRecDepth 100000 in
theorem am_okd_2 : ∀ e ∈ am_mthL_2, Cond.code e.2.2.2.1.2.1 e.2.2.2.1.2.2.1 e.2.2.2.1.2.2.2.1 e.2.2.2.1.2.2.2.2.1 ∈ lw_good := List.forall_mem_cons.mpr ⟨cdX3_readHead, List.forall_mem_cons.mpr ⟨cdX7_partsOf, List.forall_mem_cons.mpr ⟨cdX7_close, List.forall_mem_cons.mpr ⟨cdX7_beginType, List.forall_mem_cons.mpr ⟨cdX3_readNumber, List.forall_mem_cons.mpr ⟨cdX7_setNumber, List.forall_mem_cons.mpr ⟨cdX3_readLetter, List.forall_mem_cons.mpr ⟨cdX3_here, List.forall_mem_cons.mpr ⟨cdX3_readTypePart, List.forall_mem_cons.mpr ⟨cdX3_readLeaf, List.forall_mem_cons.mpr ⟨cdX3_readTwo, List.forall_mem_cons.mpr ⟨cdX3_readAll, List.forall_mem_cons.mpr ⟨cdX3_readVariable, List.forall_mem_cons.mpr ⟨cdX4_add, List.forall_mem_cons.mpr ⟨cdX4_sign, List.forall_mem_cons.mpr ⟨cdX4_add, List.forall_mem_cons.mpr ⟨cdX4_at, List.forall_mem_cons.mpr ⟨cdX4_kindOf, List.forall_mem_cons.mpr ⟨cdX4_partsOf, List.forall_mem_cons.mpr ⟨cdX4_numberOf, List.forall_mem_cons.mpr ⟨cdX4_sign, List.forall_mem_cons.mpr ⟨cdX4_init, List.forall_mem_cons.mpr ⟨cdX7_init, List.forall_mem_cons.mpr ⟨cdX5_placeOf, List.forall_mem_cons.mpr ⟨cdX7_copy, List.forall_mem_cons.mpr ⟨cdX4_clear, List.forall_mem_cons.mpr ⟨cdX4_kindOf, List.forall_mem_cons.mpr ⟨cdX6_name, List.forall_mem_cons.mpr ⟨cdX6_write, List.forall_mem_cons.mpr ⟨cdX6_nameOf, List.forall_mem_cons.mpr ⟨cdX6_see, List.forall_mem_cons.mpr ⟨cdX6_orderOf, List.forall_mem_cons.mpr ⟨cdX6_plain, List.forall_mem_cons.mpr ⟨cdX4_numberOf, List.forall_mem_cons.mpr ⟨cdX6_guessesIn, List.forall_mem_cons.mpr ⟨cdX4_clear, List.forall_mem_cons.mpr ⟨cdX4_sign, List.forall_mem_cons.mpr ⟨cdX4_add, List.forall_mem_cons.mpr ⟨cdX4_partsOf, List.forall_mem_cons.mpr ⟨cdX4_init, List.forall_mem_cons.mpr ⟨cdX4_clear, List.forall_mem_cons.mpr ⟨cdX7_unwrap, List.forall_mem_cons.mpr ⟨cdX7_has, List.forall_mem_cons.mpr ⟨cdX7_standsFor, List.forall_mem_cons.mpr ⟨cdX7_isWrapping, List.forall_mem_cons.mpr ⟨cdX4_put, List.forall_mem_cons.mpr ⟨cdX4_past, List.forall_mem_cons.mpr ⟨cdX7_clear, List.forall_mem_cons.mpr ⟨cdX4_init, List.forall_mem_cons.mpr ⟨cdX4_clear, List.forall_mem_cons.mpr ⟨cdX9_make, List.forall_mem_cons.mpr ⟨cdX9_countOf, List.forall_mem_cons.mpr ⟨cdX9_has, List.forall_mem_cons.mpr ⟨cdX9_init, List.forall_mem_cons.mpr ⟨cdX9_clear, List.forall_mem_cons.mpr ⟨cdX7_root, List.forall_mem_cons.mpr ⟨cdX10_goTo, List.forall_mem_cons.mpr ⟨cdX10_pace, List.forall_mem_cons.mpr ⟨cdX10_resume, List.forall_mem_cons.mpr ⟨cdX9_kindOf, fun _ h => nomatch h⟩⟩⟩⟩⟩⟩⟩⟩⟩⟩⟩⟩⟩⟩⟩⟩⟩⟩⟩⟩⟩⟩⟩⟩⟩⟩⟩⟩⟩⟩⟩⟩⟩⟩⟩⟩⟩⟩⟩⟩⟩⟩⟩⟩⟩⟩⟩⟩⟩⟩⟩⟩⟩⟩⟩⟩⟩⟩⟩⟩
set_option maxRecDepth 100000 in
theorem am_okd_3 : ∀ e ∈ am_mthL_3, Cond.code e.2.2.2.1.2.1 e.2.2.2.1.2.2.1 e.2.2.2.1.2.2.2.1 e.2.2.2.1.2.2.2.2.1 ∈ lw_good := List.forall_mem_cons.mpr ⟨cdX9_firstOf, List.forall_mem_cons.mpr ⟨cdX9_countOf, List.forall_mem_cons.mpr ⟨cdX5_has, List.forall_mem_cons.mpr ⟨cdX10_termAt, List.forall_mem_cons.mpr ⟨cdX7_op, List.forall_mem_cons.mpr ⟨cdX7_number, List.forall_mem_cons.mpr ⟨cdX10_workName, List.forall_mem_cons.mpr ⟨cdX9_makePlain, List.forall_mem_cons.mpr ⟨cdX10_give, List.forall_mem_cons.mpr ⟨cdX9_makeFunction, List.forall_mem_cons.mpr ⟨cdX7_part, List.forall_mem_cons.mpr ⟨cdX10_await, List.forall_mem_cons.mpr ⟨cdX9_find, List.forall_mem_cons.mpr ⟨cdX5_placeOf, List.forall_mem_cons.mpr ⟨cdX10_goOnWithFirst, List.forall_mem_cons.mpr ⟨cdX10_goOnWithBoth, List.forall_mem_cons.mpr ⟨cdX9_bind, List.forall_mem_cons.mpr ⟨cdX10_must, List.forall_mem_cons.mpr ⟨cdX9_secondOf, List.forall_mem_cons.mpr ⟨cdX10_workFunction, List.forall_mem_cons.mpr ⟨cdX9_makePair, List.forall_mem_cons.mpr ⟨cdX9_homeOf, List.forall_mem_cons.mpr ⟨cdX7_init, List.forall_mem_cons.mpr ⟨cdX5_init, List.forall_mem_cons.mpr ⟨cdX2_init, List.forall_mem_cons.mpr ⟨cdX3_init, List.forall_mem_cons.mpr ⟨cdX1_init, List.forall_mem_cons.mpr ⟨cdX10_init, List.forall_mem_cons.mpr ⟨cdX6_init, List.forall_mem_cons.mpr ⟨cdX3_bytesIn, List.forall_mem_cons.mpr ⟨cdX3_put, List.forall_mem_cons.mpr ⟨cdX3_readTerm, List.forall_mem_cons.mpr ⟨cdX3_readTypes, List.forall_mem_cons.mpr ⟨cdX1_startTerm, List.forall_mem_cons.mpr ⟨cdX1_run, List.forall_mem_cons.mpr ⟨cdX11_counted, List.forall_mem_cons.mpr ⟨cdX1_startTypes, List.forall_mem_cons.mpr ⟨cdX6_guessesIn, List.forall_mem_cons.mpr ⟨cdX6_rank, List.forall_mem_cons.mpr ⟨cdX6_told, List.forall_mem_cons.mpr ⟨cdX0_lengthOf, List.forall_mem_cons.mpr ⟨cdX2_mayBeKept, List.forall_mem_cons.mpr ⟨cdX5_takes, List.forall_mem_cons.mpr ⟨cdX5_put, List.forall_mem_cons.mpr ⟨cdX6_close, List.forall_mem_cons.mpr ⟨cdX5_has, List.forall_mem_cons.mpr ⟨cdX10_workOut, List.forall_mem_cons.mpr ⟨cdX10_answerKind, List.forall_mem_cons.mpr ⟨cdX10_answerNumber, List.forall_mem_cons.mpr ⟨cdX7_wrap, List.forall_mem_cons.mpr ⟨cdX7_at, List.forall_mem_cons.mpr ⟨cdX7_unwrap, List.forall_mem_cons.mpr ⟨cdX4_same, List.forall_mem_cons.mpr ⟨cdX4_alls, List.forall_mem_cons.mpr ⟨cdX12_bytesOf, List.forall_mem_cons.mpr ⟨cdX12_brings, List.forall_mem_cons.mpr ⟨cdX12_here, List.forall_mem_cons.mpr ⟨cdX12_look, List.forall_mem_cons.mpr ⟨cdX12_isLetter, List.forall_mem_cons.mpr ⟨cdX12_fails, fun _ h => nomatch h⟩⟩⟩⟩⟩⟩⟩⟩⟩⟩⟩⟩⟩⟩⟩⟩⟩⟩⟩⟩⟩⟩⟩⟩⟩⟩⟩⟩⟩⟩⟩⟩⟩⟩⟩⟩⟩⟩⟩⟩⟩⟩⟩⟩⟩⟩⟩⟩⟩⟩⟩⟩⟩⟩⟩⟩⟩⟩⟩⟩
set_option maxRecDepth 100000 in
theorem am_okd_4 : ∀ e ∈ am_mthL_4, Cond.code e.2.2.2.1.2.1 e.2.2.2.1.2.2.1 e.2.2.2.1.2.2.2.1 e.2.2.2.1.2.2.2.2.1 ∈ lw_good := List.forall_mem_cons.mpr ⟨cdX12_puts, List.forall_mem_cons.mpr ⟨cdX12_readsType, List.forall_mem_cons.mpr ⟨cdX12_letter, List.forall_mem_cons.mpr ⟨cdX12_isDigit, List.forall_mem_cons.mpr ⟨cdX12_kindOf, List.forall_mem_cons.mpr ⟨cdX12_opens, List.forall_mem_cons.mpr ⟨cdX12_number, List.forall_mem_cons.mpr ⟨cdX12_puts_, List.forall_mem_cons.mpr ⟨cdX12_parts, List.forall_mem_cons.mpr ⟨cdX12_readsExpression, List.forall_mem_cons.mpr ⟨cdX12_begins, List.forall_mem_cons.mpr ⟨cdX12_endsText, List.forall_mem_cons.mpr ⟨cdX12_readsWhole, List.forall_mem_cons.mpr ⟨cdX12_isIn, List.forall_mem_cons.mpr ⟨cdX12_readsTypes, List.forall_mem_cons.mpr ⟨cdX12_of, List.forall_mem_cons.mpr ⟨cdX12_makes, List.forall_mem_cons.mpr ⟨cdX12_builds, List.forall_mem_cons.mpr ⟨cdX12_with, List.forall_mem_cons.mpr ⟨cdX12_isBoth, List.forall_mem_cons.mpr ⟨cdX12_signs, List.forall_mem_cons.mpr ⟨cdX12_rank, List.forall_mem_cons.mpr ⟨cdX12_hasAll, List.forall_mem_cons.mpr ⟨cdX12_hasGuess, List.forall_mem_cons.mpr ⟨cdX12_comes, List.forall_mem_cons.mpr ⟨cdX12_placeOf, List.forall_mem_cons.mpr ⟨cdX12_signsBy, List.forall_mem_cons.mpr ⟨cdX12_replaced, List.forall_mem_cons.mpr ⟨cdX12_by, List.forall_mem_cons.mpr ⟨cdX12_begins_, List.forall_mem_cons.mpr ⟨cdX12_checks, List.forall_mem_cons.mpr ⟨cdX12_rule, List.forall_mem_cons.mpr ⟨cdX12_freshConstant, List.forall_mem_cons.mpr ⟨cdX12_inside, List.forall_mem_cons.mpr ⟨cdX12_check, List.forall_mem_cons.mpr ⟨cdX12_cuts, List.forall_mem_cons.mpr ⟨cdX12_marked, List.forall_mem_cons.mpr ⟨cdX12_cutsAt, List.forall_mem_cons.mpr ⟨cdX12_plain, List.forall_mem_cons.mpr ⟨cdX12_infer, List.forall_mem_cons.mpr ⟨cdX12_below, List.forall_mem_cons.mpr ⟨cdX12_entryOwn, List.forall_mem_cons.mpr ⟨cdX12_placeOfMark, List.forall_mem_cons.mpr ⟨cdX12_infers, List.forall_mem_cons.mpr ⟨cdX12_failsNow, List.forall_mem_cons.mpr ⟨cdX12_noted, List.forall_mem_cons.mpr ⟨cdX12_typeFrom, List.forall_mem_cons.mpr ⟨cdX12_freshGuess, List.forall_mem_cons.mpr ⟨cdX12_apply, List.forall_mem_cons.mpr ⟨cdX12_takesOut, List.forall_mem_cons.mpr ⟨cdX12_partOf, List.forall_mem_cons.mpr ⟨cdX12_isOpen, List.forall_mem_cons.mpr ⟨cdX12_splitsPair, List.forall_mem_cons.mpr ⟨cdX12_splits, List.forall_mem_cons.mpr ⟨cdX12_applies, List.forall_mem_cons.mpr ⟨cdX12_isBelow, List.forall_mem_cons.mpr ⟨cdX12_areSame, List.forall_mem_cons.mpr ⟨cdX12_left, List.forall_mem_cons.mpr ⟨cdX12_right, List.forall_mem_cons.mpr ⟨cdX12_isAhead, fun _ h => nomatch h⟩⟩⟩⟩⟩⟩⟩⟩⟩⟩⟩⟩⟩⟩⟩⟩⟩⟩⟩⟩⟩⟩⟩⟩⟩⟩⟩⟩⟩⟩⟩⟩⟩⟩⟩⟩⟩⟩⟩⟩⟩⟩⟩⟩⟩⟩⟩⟩⟩⟩⟩⟩⟩⟩⟩⟩⟩⟩⟩⟩
set_option maxRecDepth 100000 in
theorem am_okd_5 : ∀ e ∈ am_mthL_5, Cond.code e.2.2.2.1.2.1 e.2.2.2.1.2.2.1 e.2.2.2.1.2.2.2.1 e.2.2.2.1.2.2.2.2.1 ∈ lw_good := List.forall_mem_cons.mpr ⟨cdX12_solves, List.forall_mem_cons.mpr ⟨cdX12_becomesLeft, List.forall_mem_cons.mpr ⟨cdX12_meets, List.forall_mem_cons.mpr ⟨cdX12_becomesRight, List.forall_mem_cons.mpr ⟨cdX12_typeRowOf, List.forall_mem_cons.mpr ⟨cdX12_clears, List.forall_mem_cons.mpr ⟨cdX12_copies, List.forall_mem_cons.mpr ⟨cdX12_judges, List.forall_mem_cons.mpr ⟨cdX12_counted, List.forall_mem_cons.mpr ⟨cdX12_writes, List.forall_mem_cons.mpr ⟨cdX12_writesType, List.forall_mem_cons.mpr ⟨cdX12_among, List.forall_mem_cons.mpr ⟨cdX12_hasType, List.forall_mem_cons.mpr ⟨cdX12_tellsType, List.forall_mem_cons.mpr ⟨cdX12_openOf, List.forall_mem_cons.mpr ⟨cdX12_isEntry, List.forall_mem_cons.mpr ⟨cdX12_encodes, List.forall_mem_cons.mpr ⟨cdX12_isOnShelf, List.forall_mem_cons.mpr ⟨cdX12_rowOf, List.forall_mem_cons.mpr ⟨cdX12_allsIn, List.forall_mem_cons.mpr ⟨cdX12_tellsOf, List.forall_mem_cons.mpr ⟨cdX12_laysAside, List.forall_mem_cons.mpr ⟨cdX12_takesBack, List.forall_mem_cons.mpr ⟨cdX12_judgesNoted, List.forall_mem_cons.mpr ⟨cdX12_areAlike, List.forall_mem_cons.mpr ⟨cdX12_worksName, List.forall_mem_cons.mpr ⟨cdX12_value, List.forall_mem_cons.mpr ⟨cdX12_works, List.forall_mem_cons.mpr ⟨cdX12_is, List.forall_mem_cons.mpr ⟨cdX12_linked, List.forall_mem_cons.mpr ⟨cdX12_worksBoth, List.forall_mem_cons.mpr ⟨cdX12_sticks, List.forall_mem_cons.mpr ⟨cdX11_step, List.forall_mem_cons.mpr ⟨cdX11_init, List.forall_mem_cons.mpr ⟨cdX12_init, List.forall_mem_cons.mpr ⟨cdX11_feed, List.forall_mem_cons.mpr ⟨cdX12_feed, List.forall_mem_cons.mpr ⟨cdX11_end, List.forall_mem_cons.mpr ⟨cdX12_end, List.forall_mem_cons.mpr ⟨cdX11_fault, List.forall_mem_cons.mpr ⟨cdX12_fault, List.forall_mem_cons.mpr ⟨cdX11_infers, List.forall_mem_cons.mpr ⟨cdX12_infers_, List.forall_mem_cons.mpr ⟨cdX11_below, List.forall_mem_cons.mpr ⟨cdX12_below_, List.forall_mem_cons.mpr ⟨cdX11_judged, List.forall_mem_cons.mpr ⟨cdX12_judged, List.forall_mem_cons.mpr ⟨cdX11_type, List.forall_mem_cons.mpr ⟨cdX12_type, List.forall_mem_cons.mpr ⟨cdX12_step, List.forall_mem_cons.mpr ⟨cdX12_thrown, List.forall_mem_cons.mpr ⟨cdX11_entry, List.forall_mem_cons.mpr ⟨cdX12_entry, List.forall_mem_cons.mpr ⟨cdX11_entryType, List.forall_mem_cons.mpr ⟨cdX12_entryType, List.forall_mem_cons.mpr ⟨cdX11_keeps, List.forall_mem_cons.mpr ⟨cdX12_keeps, List.forall_mem_cons.mpr ⟨cdX11_drops, List.forall_mem_cons.mpr ⟨cdX12_drops, List.forall_mem_cons.mpr ⟨cdX11_shelf, fun _ h => nomatch h⟩⟩⟩⟩⟩⟩⟩⟩⟩⟩⟩⟩⟩⟩⟩⟩⟩⟩⟩⟩⟩⟩⟩⟩⟩⟩⟩⟩⟩⟩⟩⟩⟩⟩⟩⟩⟩⟩⟩⟩⟩⟩⟩⟩⟩⟩⟩⟩⟩⟩⟩⟩⟩⟩⟩⟩⟩⟩⟩⟩
set_option maxRecDepth 100000 in
theorem am_okd_6 : ∀ e ∈ am_mthL_6, Cond.code e.2.2.2.1.2.1 e.2.2.2.1.2.2.1 e.2.2.2.1.2.2.2.1 e.2.2.2.1.2.2.2.2.1 ∈ lw_good := List.forall_mem_cons.mpr ⟨cdX12_shelf, List.forall_mem_cons.mpr ⟨cdX11_shelfType, List.forall_mem_cons.mpr ⟨cdX12_shelfType, List.forall_mem_cons.mpr ⟨cdX11_worked, List.forall_mem_cons.mpr ⟨cdX12_worked, List.forall_mem_cons.mpr ⟨cdX11_asks, List.forall_mem_cons.mpr ⟨cdX12_asks, List.forall_mem_cons.mpr ⟨cdX11_tells, List.forall_mem_cons.mpr ⟨cdX12_tells, List.forall_mem_cons.mpr ⟨cdX11_shelfBelow, List.forall_mem_cons.mpr ⟨cdX12_shelfBelow, List.forall_mem_cons.mpr ⟨cdX11_count, List.forall_mem_cons.mpr ⟨cdX12_count, List.forall_mem_cons.mpr ⟨cdX11_byRule, List.forall_mem_cons.mpr ⟨cdX12_byRule, fun _ h => nomatch h⟩⟩⟩⟩⟩⟩⟩⟩⟩⟩⟩⟩⟩⟩⟩
theorem am_okd_all : ∀ e ∈ am_mthL, Cond.code e.2.2.2.1.2.1 e.2.2.2.1.2.2.1 e.2.2.2.1.2.2.2.1 e.2.2.2.1.2.2.2.2.1 ∈ lw_good := by
  intro e h
  simp only [am_mthL, List.mem_append] at h
  rcases h with ((((((h | h) | h) | h) | h) | h) | h)
  · exact am_okd_0 e h
  · exact am_okd_1 e h
  · exact am_okd_2 e h
  · exact am_okd_3 e h
  · exact am_okd_4 e h
  · exact am_okd_5 e h
  · exact am_okd_6 e h
end
section
/-! ===== what a state of the abstract machine is in the heap ===== -/
/-- a reference of the machine is a cell's number; .retAddr a stands for a reference to a cell that isn't the machine's -/
def am_v (base : Nat) : Value → Value
  | .ref k => .ref (base + k)
  | .retAddr a => .ref a
  | v => v
theorem am_v_cat (base : Nat) (v : Value) : (am_v base v).category = v.category := by cases v <;> rfl
theorem am_v_rf (base : Nat) (o : Option Nat) : am_v base (va_rf o) = va_rf (o.map (base + ·)) := by cases o <;> rfl
def am_fv (base : Nat) (σ : am_St) (k ci j : Nat) : Value := if am_isR (am_ty ci j) then va_rf ((σ.2.2.2.2 k j).map (base + ·)) else .int (σ.2.2.2.1 k j)
def am_fs (base : Nat) (σ : am_St) (k ci : Nat) : List Value := (List.range (am_nf ci)).map (am_fv base σ k ci)
def am_cell (cA : Nat → ClassId) (base : Nat) (σ : am_St) (k : Nat) : va_E := match (σ.2.2.1 k).1 with
  | 0 => .inl (cA 0, (σ.2.2.1 k).2, .inl (σ.2.2.2.1 k))
  | 1 => .inl (cA 1, (σ.2.2.1 k).2, .inl (σ.2.2.2.1 k))
  | 2 => .inl (cA 2, (σ.2.2.1 k).2, .inr (.inr (.inr (.inr (fun j => (σ.2.2.2.2 k j).map (base + ·))))))
  | 3 => .inl (cA 3, (σ.2.2.1 k).2, .inr (.inr (.inr (.inr (fun j => (σ.2.2.2.2 k j).map (base + ·))))))
  | c + 4 => .inr (c, am_fs base σ k c)
def am_wl (cA : Nat → ClassId) (base : Nat) (σ : am_St) : va_W := (List.range σ.1).map (fun k => (base + k, am_cell cA base σ k))
theorem am_wl_at {cA : Nat → ClassId} {base : Nat} {σ : am_St} {k : Nat} (h : k < σ.1) : (am_wl cA base σ)[k]? = some (base + k, am_cell cA base σ k) := by
  simp [am_wl, h]
theorem am_wl_of {cA : Nat → ClassId} {base : Nat} {σ : am_St} {k : Nat} {q : Nat × va_E} (h : (am_wl cA base σ)[k]? = some q) : k < σ.1 ∧ q = (base + k, am_cell cA base σ k) := by
  have h1 : k < (am_wl cA base σ).length := (List.getElem?_eq_some_iff.mp h).1
  have h2 : k < σ.1 := by simpa [am_wl] using h1
  rw [am_wl_at h2] at h
  exact ⟨h2, (Option.some.inj h).symm⟩
/-- what may change: the machine's own cells, and what is made -/
def am_A (base sz n0 : Nat) : Nat → Prop := fun q => base ≤ q ∧ (q < base + n0 ∨ sz ≤ q)
theorem am_D (cA : Nat → ClassId) (base sz n0 : Nat) (σ : am_St) (h : σ.1 ≤ n0 ∨ sz = base + n0) : va_D (am_A base sz n0) (am_wl cA base σ) := by
  refine ⟨fun i j p q hi hj e => ?_, fun k q hk => ?_⟩
  · obtain ⟨-, rfl⟩ := am_wl_of hi
    obtain ⟨-, rfl⟩ := am_wl_of hj
    exact Nat.add_left_cancel e
  · obtain ⟨hk1, rfl⟩ := am_wl_of hk
    refine ⟨Nat.le_add_right _ _, ?_⟩
    show base + k < base + n0 ∨ sz ≤ base + k
    omega
/-- one cell is another one -/
theorem am_wl_set {cA : Nat → ClassId} {base : Nat} {σ σ' : am_St} {k : Nat} {E : va_E} (hn : σ'.1 = σ.1) (ho : ∀ a, a ≠ k → am_cell cA base σ' a = am_cell cA base σ a) (he : am_cell cA base σ' k = E) : (am_wl cA base σ).set k (base + k, E) = am_wl cA base σ' := by
  apply List.ext_getElem?
  intro i
  by_cases hi : i < σ.1
  · rw [am_wl_at (σ := σ') (by rw [hn]; exact hi)]
    by_cases hk : k = i
    · subst hk
      rw [List.getElem?_set_self (by simpa [am_wl] using hi), he]
    · rw [List.getElem?_set_ne hk, am_wl_at hi, ho i (fun q => hk q.symm)]
  · rw [List.getElem?_eq_none (by simp [am_wl]; omega), List.getElem?_eq_none (by simp [am_wl]; omega)]
theorem am_cell_o {cA : Nat → ClassId} {base : Nat} {σ σ' : am_St} {a : Nat} (h1 : σ'.2.2.1 a = σ.2.2.1 a) (h2 : σ'.2.2.2.1 a = σ.2.2.2.1 a) (h3 : σ'.2.2.2.2 a = σ.2.2.2.2 a) : am_cell cA base σ' a = am_cell cA base σ a := by
  unfold am_cell
  have e : ∀ c, am_fs base σ' a c = am_fs base σ a c := by
    intro c
    unfold am_fs
    congr 1
    funext j
    unfold am_fv
    rw [h2, h3]
  rw [h1, h2, h3]
  split <;> simp [e]
theorem am_fs_at {base : Nat} {σ : am_St} {k c j : Nat} (h : j < am_nf c) : (am_fs base σ k c)[j]? = some (am_fv base σ k c j) := by
  simp [am_fs, h]
theorem am_fs_len {base : Nat} {σ : am_St} {k c : Nat} : (am_fs base σ k c).length = am_nf c := by simp [am_fs]
theorem am_cell_obj {cA : Nat → ClassId} {base : Nat} {σ : am_St} {k c : Nat} (h : (σ.2.2.1 k).1 = c + 4) : am_cell cA base σ k = .inr (c, am_fs base σ k c) := by
  unfold am_cell
  rw [h]
theorem am_cell_int {cA : Nat → ClassId} {base : Nat} {σ : am_St} {k : Nat} (h : (σ.2.2.1 k).1 = 0) : am_cell cA base σ k = .inl (cA 0, (σ.2.2.1 k).2, .inl (σ.2.2.2.1 k)) := by
  unfold am_cell
  rw [h]
theorem am_cell_byte {cA : Nat → ClassId} {base : Nat} {σ : am_St} {k : Nat} (h : (σ.2.2.1 k).1 = 1) : am_cell cA base σ k = .inl (cA 1, (σ.2.2.1 k).2, .inl (σ.2.2.2.1 k)) := by
  unfold am_cell
  rw [h]
theorem am_cell_r2 {cA : Nat → ClassId} {base : Nat} {σ : am_St} {k : Nat} (h : (σ.2.2.1 k).1 = 2) : am_cell cA base σ k = .inl (cA 2, (σ.2.2.1 k).2, .inr (.inr (.inr (.inr (fun j => (σ.2.2.2.2 k j).map (base + ·)))))) := by
  unfold am_cell
  rw [h]
theorem am_cell_r3 {cA : Nat → ClassId} {base : Nat} {σ : am_St} {k : Nat} (h : (σ.2.2.1 k).1 = 3) : am_cell cA base σ k = .inl (cA 3, (σ.2.2.1 k).2, .inr (.inr (.inr (.inr (fun j => (σ.2.2.2.2 k j).map (base + ·)))))) := by
  unfold am_cell
  rw [h]
/-- a field of ints is written -/
theorem am_wl_sI {cA : Nat → ClassId} {base : Nat} {σ : am_St} {k c j : Nat} {x : Int32} (h : (σ.2.2.1 k).1 = c + 4) (hj : j < am_nf c) (hr : am_isR (am_ty c j) = false) : (am_wl cA base σ).set k (base + k, .inr (c, (am_fs base σ k c).set j (.int x))) = am_wl cA base (am_sI σ k j x) := by
  refine am_wl_set rfl (fun a ha => am_cell_o rfl ?_ rfl) ?_
  · funext b
    simp [am_sI, ha]
  · rw [am_cell_obj (σ := am_sI σ k j x) (c := c) h]
    congr 2
    apply List.ext_getElem?
    intro i
    by_cases hi : i < am_nf c
    · rw [am_fs_at hi]
      by_cases e : j = i
      · subst e
        rw [List.getElem?_set_self (by rw [am_fs_len]; exact hi)]
        simp [am_fv, hr, am_sI]
      · rw [List.getElem?_set_ne e, am_fs_at hi]
        simp [am_fv, am_sI, Ne.symm e]
    · rw [List.getElem?_eq_none (by rw [am_fs_len]; omega), List.getElem?_eq_none (by rw [List.length_set, am_fs_len]; omega)]
theorem am_wl_sR {cA : Nat → ClassId} {base : Nat} {σ : am_St} {k c j : Nat} {x : Option Nat} (h : (σ.2.2.1 k).1 = c + 4) (hj : j < am_nf c) (hr : am_isR (am_ty c j) = true) : (am_wl cA base σ).set k (base + k, .inr (c, (am_fs base σ k c).set j (va_rf (x.map (base + ·))))) = am_wl cA base (am_sR σ k j x) := by
  refine am_wl_set rfl (fun a ha => am_cell_o rfl rfl ?_) ?_
  · funext b
    simp [am_sR, ha]
  · rw [am_cell_obj (σ := am_sR σ k j x) (c := c) h]
    congr 2
    apply List.ext_getElem?
    intro i
    by_cases hi : i < am_nf c
    · rw [am_fs_at hi]
      by_cases e : j = i
      · subst e
        rw [List.getElem?_set_self (by rw [am_fs_len]; exact hi)]
        simp [am_fv, hr, am_sR]
      · rw [List.getElem?_set_ne e, am_fs_at hi]
        simp [am_fv, am_sR, Ne.symm e]
    · rw [List.getElem?_eq_none (by rw [am_fs_len]; omega), List.getElem?_eq_none (by rw [List.length_set, am_fs_len]; omega)]
theorem am_wl_aI {cA : Nat → ClassId} {base : Nat} {σ : am_St} {k j : Nat} {x : Int32} (h : (σ.2.2.1 k).1 = 0) : (am_wl cA base σ).set k (base + k, .inl (cA 0, (σ.2.2.1 k).2, .inl (upd (σ.2.2.2.1 k) j x))) = am_wl cA base (am_sI σ k j x) := by
  refine am_wl_set rfl (fun a ha => am_cell_o rfl ?_ rfl) ?_
  · funext b
    simp [am_sI, ha]
  · rw [am_cell_int (σ := am_sI σ k j x) h]
    congr 4
    funext b
    simp [am_sI, upd]
theorem am_wl_aB {cA : Nat → ClassId} {base : Nat} {σ : am_St} {k j : Nat} {x : Int32} (h : (σ.2.2.1 k).1 = 1) : (am_wl cA base σ).set k (base + k, .inl (cA 1, (σ.2.2.1 k).2, .inl (upd (σ.2.2.2.1 k) j x))) = am_wl cA base (am_sI σ k j x) := by
  refine am_wl_set rfl (fun a ha => am_cell_o rfl ?_ rfl) ?_
  · funext b
    simp [am_sI, ha]
  · rw [am_cell_byte (σ := am_sI σ k j x) h]
    congr 4
    funext b
    simp [am_sI, upd]
theorem am_wl_a2 {cA : Nat → ClassId} {base : Nat} {σ : am_St} {k j x : Nat} (h : (σ.2.2.1 k).1 = 2) : (am_wl cA base σ).set k (base + k, .inl (cA 2, (σ.2.2.1 k).2, .inr (.inr (.inr (.inr (va_up (fun j => (σ.2.2.2.2 k j).map (base + ·)) j (some (base + x)))))))) = am_wl cA base (am_sR σ k j (some x)) := by
  refine am_wl_set rfl (fun a ha => am_cell_o rfl rfl ?_) ?_
  · funext b
    simp [am_sR, ha]
  · rw [am_cell_r2 (σ := am_sR σ k j (some x)) h]
    congr 7
    funext b
    by_cases hb : b = j <;> simp [am_sR, va_up, hb]
theorem am_wl_a3 {cA : Nat → ClassId} {base : Nat} {σ : am_St} {k j x : Nat} (h : (σ.2.2.1 k).1 = 3) : (am_wl cA base σ).set k (base + k, .inl (cA 3, (σ.2.2.1 k).2, .inr (.inr (.inr (.inr (va_up (fun j => (σ.2.2.2.2 k j).map (base + ·)) j (some (base + x)))))))) = am_wl cA base (am_sR σ k j (some x)) := by
  refine am_wl_set rfl (fun a ha => am_cell_o rfl rfl ?_) ?_
  · funext b
    simp [am_sR, ha]
  · rw [am_cell_r3 (σ := am_sR σ k j (some x)) h]
    congr 7
    funext b
    by_cases hb : b = j <;> simp [am_sR, va_up, hb]
theorem am_wl_cp {cA : Nat → ClassId} {base : Nat} {σ : am_St} {s0 sp d0 dp n : Nat} (h : (σ.2.2.1 d0).1 = 0) : (am_wl cA base σ).set d0 (base + d0, .inl (cA 0, (σ.2.2.1 d0).2, .inl (va_cpy (σ.2.2.2.1 s0) (σ.2.2.2.1 d0) sp dp n))) = am_wl cA base (am_cp σ s0 sp d0 dp n) := by
  refine am_wl_set rfl (fun a ha => am_cell_o rfl ?_ rfl) ?_
  · funext b
    simp [am_cp, ha]
  · rw [am_cell_int (σ := am_cp σ s0 sp d0 dp n) h]
    congr 4
    funext b
    simp [am_cp, va_cpy]
/-- a new cell -/
theorem am_wl_al {cA : Nat → ClassId} {base : Nat} {σ : am_St} {t n z : Nat} : am_wl cA base (am_al σ t n z) = am_wl cA base σ ++ [(base + σ.1, am_cell cA base (am_al σ t n z) σ.1)] := by
  unfold am_wl
  rw [show (am_al σ t n z).1 = σ.1 + 1 from rfl, List.range_succ, List.map_append]
  congr 1
  apply List.map_congr_left
  intro k hk
  have hk' : k < σ.1 := List.mem_range.mp hk
  congr 1
  refine am_cell_o ?_ ?_ ?_
  · simp [am_al, Nat.ne_of_lt hk']
  · funext b
    simp [am_al, Nat.ne_of_lt hk']
  · funext b
    simp [am_al, Nat.ne_of_lt hk']
def am_tys (cA : Nat → ClassId) : List (ClassId × FieldType) := [(cA 0, .int), (cA 1, .byte), (cA 2, .object RX4), (cA 3, .object RX7)]
def am_K (D : va_G) (cA : Nat → ClassId) (U : State) : Prop := va_K D vwCl (am_tys cA) U ∧ va_AO RX4 U ∧ va_AO RX7 U
theorem am_K.moved {D : va_G} {cA : Nat → ClassId} {u U : State} (hvm : u.vm.Alike U.vm) (h : am_K D cA u) : am_K D cA U := ⟨va_K.moved hvm h.1, va_AO.moved hvm h.2.1, va_AO.moved hvm h.2.2⟩
def am_P (D : va_G) (cA : Nat → ClassId) (base sz : Nat) (σ : am_St) (U : State) : Prop := U.heap.size = sz ∧ va_P D vwCl (am_wl cA base σ) U.heap ∧ am_K D cA U
def am_Q (D : va_G) (cA : Nat → ClassId) (base sz : Nat) (σ : am_St) (r : Option Value) (σ' : am_St) : Array Value → State → Outcome → State → Prop := fun _ st oc t => oc = .returned (r.map (am_v base)) ∧ am_P D cA base (sz + (σ'.1 - σ.1)) σ' t ∧ va_F (am_A base sz σ.1) st t
def am_rm (d : Nat) (σ σ' : am_St) : Room := { frames := d, cells := σ'.1 - σ.1, slots := σ'.2.1 - σ.2.1, locals := 40 * d }
def am_wd (mi : am_I) : List Cond := .code mi.2.1 mi.2.2.1 mi.2.2.2.1 mi.2.2.2.2.1 :: lw_good
/-- the contract of a run: cells come only where the machine's cells are the last of the heap -/
def am_Met (l : Launch) (D : va_G) (cA : Nat → ClassId) (base sz d : Nat) (mi : am_I) (args : List Value) (σ : am_St) (r : Option Value) (σ' : am_St) : Prop :=
  (σ'.1 ≤ σ.1 ∨ sz = base + σ.1) → Met l mi.2.1 (am_wd mi) (am_rm d σ σ') (va_Pc (args.map (am_v base)) (am_P D cA base sz σ)) (am_Q D cA base sz σ r σ') (σ'.1 - σ.1) (σ'.2.1 - σ.2.1) (am_A base sz σ.1)
/-- the locals -/
def am_lr (base nL : Nat) (lng : Bool) (L : am_L) (ls : Array Slot) : Prop := ls.size = nL ∧ lv_wf ls ∧ (∀ (i : Nat) (v : Value), L[i]? = some (some v) → ls[i]? = some (Slot.val (am_v base v))) ∧ (lng = false → ∀ (i : Nat) (v : Value), L[i]? = some (some v) → v.category = 1)
def am_pr (base : Nat) (L : am_L) : List (Nat × Value) := (List.range L.length).filterMap (fun i => match L[i]? with
  | some (some v) => some (i, am_v base v)
  | _ => none)
theorem am_pr_mem {base : Nat} {L : am_L} {i : Nat} {v : Value} (h : L[i]? = some (some v)) : (i, am_v base v) ∈ am_pr base L := by
  refine List.mem_filterMap.mpr ⟨i, List.mem_range.mpr (List.getElem?_eq_some_iff.mp h).1, ?_⟩
  simp [h]
theorem am_pr_of {base : Nat} {L : am_L} {q : Nat × Value} (h : q ∈ am_pr base L) : ∃ v, L[q.1]? = some (some v) ∧ q.2 = am_v base v := by
  obtain ⟨i, -, hi⟩ := List.mem_filterMap.mp h
  split at hi
  · rename_i v hv
    obtain rfl := Option.some.inj hi
    exact ⟨v, hv, rfl⟩
  · cases hi
theorem am_lr.has {base nL : Nat} {lng : Bool} {L : am_L} {ls : Array Slot} (h : am_lr base nL lng L ls) : lv_has ls nL (am_pr base L) := ⟨h.1, h.2.1, fun q hq => by
  obtain ⟨v, hv, e⟩ := am_pr_of hq
  rw [e]
  exact h.2.2.1 _ _ hv⟩
theorem am_lr.set {base nL : Nat} {L : am_L} {ls ls' : Array Slot} {i : Nat} {v : Value} (h : am_lr base nL false L ls) (hv : v.category = 1) {l' : List (Nat × Value)} (hl' : ∀ q ∈ am_pr base L, q ∈ l') (h' : lv_has ls' nL ((i, am_v base v) :: l'.filter (fun q => !(q.1 == i) && !(q.1 + 1 == i && q.2.category == 2)))) : am_lr base nL false (L.set i (some v)) ls' := by
  refine ⟨h'.1, h'.2.1, fun j w hj => ?_, fun _ j w hj => ?_⟩
  · by_cases e : i = j
    · subst e
      by_cases hlen : i < L.length
      · rw [List.getElem?_set_self hlen] at hj
        cases hj
        exact h'.2.2 (i, am_v base v) List.mem_cons_self
      · rw [List.getElem?_eq_none (by rw [List.length_set]; omega)] at hj
        cases hj
    · rw [List.getElem?_set_ne e] at hj
      refine h'.2.2 (j, am_v base w) (List.mem_cons_of_mem _ (List.mem_filter.mpr ⟨hl' _ (am_pr_mem hj), ?_⟩))
      have h1 := h.2.2.2 rfl j w hj
      simp [am_v_cat, h1, Ne.symm e]
  · by_cases e : i = j
    · subst e
      by_cases hlen : i < L.length
      · rw [List.getElem?_set_self hlen] at hj
        cases hj
        exact hv
      · rw [List.getElem?_eq_none (by rw [List.length_set]; omega)] at hj
        cases hj
    · rw [List.getElem?_set_ne e] at hj
      exact h.2.2.2 rfl j w hj
end
section
section AMS
variable {p : Program} {l : Launch} {e : Env} {R : Room} {s : State} {m : MethodId} {args : Array Value} {below : List Frame} {meth : Method} {c : Code} {H : Heap} {locs : List Loc} {cells slots : Nat} {Q : State → Prop}
variable {D : va_G} {cA : Nat → ClassId} {base sz n0 z0 nE zE d : Nat} {mi : am_I} {pc : Nat} {L : am_L} {S : List Value} {σ : am_St} {ls : Array Slot} {X : am_N}
theorem am_size {g : JFrame} (k : H.size ≤ s.heap.size + cells → W p l e R s m args below meth c H locs cells slots Q g) : W p l e R s m args below meth c H locs cells slots Q g := fun T hT Y => k (by rw [← hT]; exact Y.heapSize) T hT Y
/-- what stands over the whole walk of a method -/
def am_Cx (p : Program) (R : Room) (s : State) (m : MethodId) (args : Array Value) (meth : Method) (c : Code) (D : va_G) (cA : Nat → ClassId) (base sz n0 z0 nE zE d : Nat) (mi : am_I) : Prop :=
  p.tables.exec = Jvm.exec ∧ c.code = mi.2.2.1 ∧ meth.sig.returnType = mi.2.2.2.2.1 ∧ c.maxLocals = mi.2.2.2.1 ∧ s.vm.findClass (am_Rn mi.1) = some m.cls ∧ (∀ w ∈ lw_good, w.before args s = true) ∧ meth.locks = false ∧ meth.name = mi.2.1.name ∧ am_K D cA s ∧ (s.heap.size = sz ∧ (nE ≤ n0 ∨ sz = base + n0)) ∧ d + 1 ≤ R.frames ∧ 40 * (d + 1) ≤ R.locals ∧ nE - n0 ≤ R.cells ∧ zE - z0 ≤ R.slots
def am_Pt (s : State) (D : va_G) (cA : Nat → ClassId) (base sz n0 : Nat) (mi : am_I) (σ : am_St) (L : am_L) (H : Heap) (locs : List Loc) (ls : Array Slot) : Prop :=
  va_P D vwCl (am_wl cA base σ) H ∧ va_S (am_A base sz n0) s.heap H locs ∧ am_lr base mi.2.2.2.1 mi.2.2.2.2.2.2 L ls
/-- from the next point on it goes well -/
def am_Wt (p : Program) (l : Launch) (e : Env) (R : Room) (s : State) (m : MethodId) (args : Array Value) (below : List Frame) (meth : Method) (c : Code) (D : va_G) (cA : Nat → ClassId) (base sz n0 z0 : Nat) (mi : am_I) (Q : State → Prop) (pc : Nat) (L : am_L) (S : List Value) (σ : am_St) : Prop :=
  ∀ (H : Heap) (locs : List Loc) (ls : Array Slot), am_Pt s D cA base sz n0 mi σ L H locs ls → W p l e R s m args below meth c H locs (σ.1 - n0) (σ.2.1 - z0) Q (F0 m pc ls (S.map (am_v base)))
def am_Wn (p : Program) (l : Launch) (e : Env) (R : Room) (s : State) (m : MethodId) (args : Array Value) (below : List Frame) (meth : Method) (c : Code) (D : va_G) (cA : Nat → ClassId) (base sz n0 z0 : Nat) (mi : am_I) (Q : State → Prop) (X : am_N) : Prop :=
  match X with
  | .inl (pc, L, S, σ) => am_Wt p l e R s m args below meth c D cA base sz n0 z0 mi Q pc L S σ
  | .inr _ => True
theorem am_nx_k (h : am_nx pc L S σ = some X) (hk : am_Wn p l e R s m args below meth c D cA base sz n0 z0 mi Q X) : am_Wt p l e R s m args below meth c D cA base sz n0 z0 mi Q pc L S σ := by
  obtain rfl := Option.some.inj h
  exact hk
theorem am_jp_k {off : Int} (h : am_jp pc off L S σ = some X) (hk : am_Wn p l e R s m args below meth c D cA base sz n0 z0 mi Q X) : ∃ t : Nat, (pc : Int) + off = (t : Int) ∧ am_Wt p l e R s m args below meth c D cA base sz n0 z0 mi Q t L S σ := by
  unfold am_jp at h
  split at h
  · rename_i h0
    obtain rfl := Option.some.inj h
    exact ⟨_, (Int.toNat_of_nonneg h0).symm, hk⟩
  · cases h
theorem am_ld_at {v : Value} {i : Nat} (h : am_ld L i = v) (hv : v ≠ .double 0) : L[i]? = some (some v) := by
  unfold am_ld at h
  split at h
  · rename_i w hw
    rw [hw, h]
  · exact absurd h.symm hv
/-- arithmetic and the stack -/
theorem am_s_ar {ins : Instr} (hC : am_Cx p R s m args meth c D cA base sz n0 z0 nE zE d mi) (hd : decode mi.2.2.1 pc = .ok (ins, 1)) (h : am_ar ins pc L S σ = some X) (hk : am_Wn p l e R s m args below meth c D cA base sz n0 z0 mi Q X) (hp : am_Pt s D cA base sz n0 mi σ L H locs ls) : W p l e R s m args below meth c H locs (σ.1 - n0) (σ.2.1 - z0) Q (F0 m pc ls (S.map (am_v base))) := by
  obtain ⟨hx, hb, -⟩ := hC
  unfold am_ar at h
  split at h
  · exact lv_iadd hx hb hd (am_nx_k h hk _ _ _ hp)
  · exact lv_isub hx hb hd (am_nx_k h hk _ _ _ hp)
  · exact lv_imul hx hb hd (am_nx_k h hk _ _ _ hp)
  · split at h
    · cases h
    · rename_i hz
      exact lv_idiv hx hb hd hz (am_nx_k h hk _ _ _ hp)
  · split at h
    · cases h
    · rename_i hz
      exact lv_irem hx hb hd hz (am_nx_k h hk _ _ _ hp)
  · exact lv_iand hx hb hd (am_nx_k h hk _ _ _ hp)
  · exact lv_ishr hx hb hd (am_nx_k h hk _ _ _ hp)
  · exact lv_i2l hx hb hd rfl (am_nx_k h hk _ _ _ hp)
  · exact lv_i2b hx hb hd rfl (am_nx_k h hk _ _ _ hp)
  · exact W.lcmp hx hb hd (am_nx_k h hk _ _ _ hp)
  · split at h
    · rename_i hv
      exact lv_dup hx hb hd (by rw [am_v_cat]; exact hv) (am_nx_k h hk _ _ _ hp)
    · cases h
  · split at h
    · rename_i hv
      exact lv_pop hx hb hd (by rw [am_v_cat]; exact hv) (am_nx_k h hk _ _ _ hp)
    · cases h
  · split at h
    · rename_i hv
      exact lv_dup2_11 hx hb hd (by rw [am_v_cat]; exact hv.1) (by rw [am_v_cat]; exact hv.2) (am_nx_k h hk _ _ _ hp)
    · cases h
  · exact lv_null hx hb hd (am_nx_k h hk _ _ _ hp)
  · cases h
theorem am_s_lds {n len i : Nat} (hC : am_Cx p R s m args meth c D cA base sz n0 z0 nE zE d mi) (hd : (n = 0 ∧ ((∃ k : Fin 4, (k : Nat) = i ∧ len = 1 ∧ decode mi.2.2.1 pc = .ok (.iload_n k, 1)) ∨ (len = 2 ∧ decode mi.2.2.1 pc = .ok (.iload i, 2)))) ∨ (n = 1 ∧ ((∃ k : Fin 4, (k : Nat) = i ∧ len = 1 ∧ decode mi.2.2.1 pc = .ok (.lload_n k, 1)) ∨ (len = 2 ∧ decode mi.2.2.1 pc = .ok (.lload i, 2)))) ∨ (n = 2 ∧ ((∃ k : Fin 4, (k : Nat) = i ∧ len = 1 ∧ decode mi.2.2.1 pc = .ok (.aload_n k, 1)) ∨ (len = 2 ∧ decode mi.2.2.1 pc = .ok (.aload i, 2))))) (h : am_lds n len pc i L S σ = some X) (hk : am_Wn p l e R s m args below meth c D cA base sz n0 z0 mi Q X) (hp : am_Pt s D cA base sz n0 mi σ L H locs ls) : W p l e R s m args below meth c H locs (σ.1 - n0) (σ.2.1 - z0) Q (F0 m pc ls (S.map (am_v base))) := by
  obtain ⟨hx, hb, -⟩ := hC
  unfold am_lds at h
  split at h
  · rename_i x hv
    have hl := hp.2.2.2.2.1 _ _ (am_ld_at hv (fun q => by cases q))
    rcases hd with ⟨-, ⟨k, hi, rfl, hd⟩ | ⟨rfl, hd⟩⟩ | ⟨q, -⟩ | ⟨q, -⟩
    · exact lv_iload_n hx hb hd hi hl (am_nx_k h hk _ _ _ hp)
    · exact lv_iload hx hb hd hl (am_nx_k h hk _ _ _ hp)
    · cases q
    · cases q
  · rename_i x hv
    have hl := hp.2.2.2.2.1 _ _ (am_ld_at hv (fun q => by cases q))
    rcases hd with ⟨q, -⟩ | ⟨-, ⟨k, hi, rfl, hd⟩ | ⟨rfl, hd⟩⟩ | ⟨q, -⟩
    · cases q
    · exact lv_lload_n hx hb hd hi hl (am_nx_k h hk _ _ _ hp)
    · exact lv_lload hx hb hd hl (am_nx_k h hk _ _ _ hp)
    · cases q
  · rename_i x hv
    have hl := hp.2.2.2.2.1 _ _ (am_ld_at hv (fun q => by cases q))
    rcases hd with ⟨q, -⟩ | ⟨q, -⟩ | ⟨-, ⟨k, hi, rfl, hd⟩ | ⟨rfl, hd⟩⟩
    · cases q
    · cases q
    · exact lv_aload_n hx hb hd hi hl (am_nx_k h hk _ _ _ hp)
    · exact lv_aload hx hb hd hl (am_nx_k h hk _ _ _ hp)
  · rename_i hv
    have hl := hp.2.2.2.2.1 _ _ (am_ld_at hv (fun q => by cases q))
    rcases hd with ⟨q, -⟩ | ⟨q, -⟩ | ⟨-, ⟨k, hi, rfl, hd⟩ | ⟨rfl, hd⟩⟩
    · cases q
    · cases q
    · exact lv_aload_nN hx hb hd hi hl (am_nx_k h hk _ _ _ hp)
    · exact lv_aloadN hx hb hd hl (am_nx_k h hk _ _ _ hp)
  · rename_i x hv
    have hl := hp.2.2.2.2.1 _ _ (am_ld_at hv (fun q => by cases q))
    rcases hd with ⟨q, -⟩ | ⟨q, -⟩ | ⟨-, ⟨k, hi, rfl, hd⟩ | ⟨rfl, hd⟩⟩
    · cases q
    · cases q
    · exact lv_aload_n hx hb hd hi hl (am_nx_k h hk _ _ _ hp)
    · exact lv_aload hx hb hd hl (am_nx_k h hk _ _ _ hp)
  · cases h
theorem am_stp_k {i : Nat} {v : Value} (h : am_stp mi pc i L v S σ = some X) (hc : v.category = 1) (hk : am_Wn p l e R s m args below meth c D cA base sz n0 z0 mi Q X) (hp : am_Pt s D cA base sz n0 mi σ L H locs ls) :
    i < mi.2.2.2.1 ∧ ∀ (l' : List (Nat × Value)) (ls' : Array Slot), (∀ q ∈ am_pr base L, q ∈ l') → lv_has ls' mi.2.2.2.1 ((i, am_v base v) :: l'.filter (fun q => !(q.1 == i) && !(q.1 + 1 == i && q.2.category == 2))) → W p l e R s m args below meth c H locs (σ.1 - n0) (σ.2.1 - z0) Q (F0 m pc ls' (S.map (am_v base))) := by
  unfold am_stp at h
  split at h
  · rename_i h0
    refine ⟨h0.2.1, fun l' ls' hl' h' => am_nx_k h hk _ _ _ ⟨hp.1, hp.2.1, ?_⟩⟩
    have hl := hp.2.2
    rw [h0.1] at hl ⊢
    exact hl.set hc hl' h'
  · cases h
theorem am_s_sts {n len i : Nat} (hC : am_Cx p R s m args meth c D cA base sz n0 z0 nE zE d mi) (hd : (n = 0 ∧ ((∃ k : Fin 4, (k : Nat) = i ∧ len = 1 ∧ decode mi.2.2.1 pc = .ok (.istore_n k, 1)) ∨ (len = 2 ∧ decode mi.2.2.1 pc = .ok (.istore i, 2)))) ∨ (n = 2 ∧ ((∃ k : Fin 4, (k : Nat) = i ∧ len = 1 ∧ decode mi.2.2.1 pc = .ok (.astore_n k, 1)) ∨ (len = 2 ∧ decode mi.2.2.1 pc = .ok (.astore i, 2))))) (h : am_sts n len mi pc i L S σ = some X) (hk : am_Wn p l e R s m args below meth c D cA base sz n0 z0 mi Q X) (hp : am_Pt s D cA base sz n0 mi σ L H locs ls) : W p l e R s m args below meth c H locs (σ.1 - n0) (σ.2.1 - z0) Q (F0 m pc ls (S.map (am_v base))) := by
  obtain ⟨hx, hb, -⟩ := hC
  unfold am_sts at h
  split at h
  · obtain ⟨hi', kk⟩ := am_stp_k h rfl hk hp
    rcases hd with ⟨-, ⟨k, hi, rfl, hd⟩ | ⟨rfl, hd⟩⟩ | ⟨q, -⟩
    · exact lv_istore_n hx hb hd hi hp.2.2.has hi' rfl (fun ls' h' => kk _ ls' (fun _ q => q) h')
    · exact lv_istore hx hb hd hp.2.2.has hi' rfl (fun ls' h' => kk _ ls' (fun _ q => q) h')
    · cases q
  · obtain ⟨hi', kk⟩ := am_stp_k h rfl hk hp
    rcases hd with ⟨q, -⟩ | ⟨-, ⟨k, hi, rfl, hd⟩ | ⟨rfl, hd⟩⟩
    · cases q
    · exact lv_astore_n hx hb hd hi hp.2.2.has hi' rfl (fun ls' h' => kk _ ls' (fun _ q => q) h')
    · exact lv_astore hx hb hd hp.2.2.has hi' rfl (fun ls' h' => kk _ ls' (fun _ q => q) h')
  · obtain ⟨hi', kk⟩ := am_stp_k h rfl hk hp
    rcases hd with ⟨q, -⟩ | ⟨-, ⟨k, hi, rfl, hd⟩ | ⟨rfl, hd⟩⟩
    · cases q
    · exact lv_astore_nN hx hb hd hi hp.2.2.has hi' rfl (fun ls' h' => kk _ ls' (fun _ q => q) h')
    · exact lv_astoreN hx hb hd hp.2.2.has hi' rfl (fun ls' h' => kk _ ls' (fun _ q => q) h')
  · obtain ⟨hi', kk⟩ := am_stp_k h rfl hk hp
    rcases hd with ⟨q, -⟩ | ⟨-, ⟨k, hi, rfl, hd⟩ | ⟨rfl, hd⟩⟩
    · cases q
    · exact lv_astore_n hx hb hd hi hp.2.2.has hi' rfl (fun ls' h' => kk _ ls' (fun _ q => q) h')
    · exact lv_astore hx hb hd hp.2.2.has hi' rfl (fun ls' h' => kk _ ls' (fun _ q => q) h')
  · cases h
theorem am_s_iinc {i : Nat} {n : Int} {x : Int32} (hC : am_Cx p R s m args meth c D cA base sz n0 z0 nE zE d mi) (hd : decode mi.2.2.1 pc = .ok (.iinc i n, 3)) (hv : am_ld L i = .int x) (h : am_stp mi (pc + 3) i L (.int (x + Int32.ofInt n)) S σ = some X) (hk : am_Wn p l e R s m args below meth c D cA base sz n0 z0 mi Q X) (hp : am_Pt s D cA base sz n0 mi σ L H locs ls) : W p l e R s m args below meth c H locs (σ.1 - n0) (σ.2.1 - z0) Q (F0 m pc ls (S.map (am_v base))) := by
  obtain ⟨hx, hb, -⟩ := hC
  have hl := hp.2.2.2.2.1 _ _ (am_ld_at hv (fun q => by cases q))
  have hh : lv_has ls mi.2.2.2.1 ((i, .int x) :: am_pr base L) := ⟨hp.2.2.1, hp.2.2.2.1, fun q hq => by
    rcases List.mem_cons.mp hq with rfl | hq
    · exact hl
    · exact hp.2.2.has.2.2 q hq⟩
  obtain ⟨hi', kk⟩ := am_stp_k h rfl hk hp
  exact lv_iinc hx hb hd hh (k := 0) rfl rfl hi' rfl (fun ls' h' => kk _ ls' (fun _ q => List.mem_cons_of_mem _ q) h')
theorem am_s_bra {ins : Instr} {len : Nat} (hC : am_Cx p R s m args meth c D cA base sz n0 z0 nE zE d mi) (hd : decode mi.2.2.1 pc = .ok (ins, len)) (hlen : (∃ a b, ins = .ifCond a b) ∨ (∃ a b, ins = .if_icmp a b) ∨ (∃ b, ins = .ifnull b) ∨ (∃ b, ins = .goto b) → len = 3) (h : am_bra ins pc L S σ = some X) (hk : am_Wn p l e R s m args below meth c D cA base sz n0 z0 mi Q X) (hp : am_Pt s D cA base sz n0 mi σ L H locs ls) : W p l e R s m args below meth c H locs (σ.1 - n0) (σ.2.1 - z0) Q (F0 m pc ls (S.map (am_v base))) := by
  obtain ⟨hx, hb, -⟩ := hC
  unfold am_bra at h
  split at h
  · rename_i cc off x S'
    obtain rfl := hlen (Or.inl ⟨_, _, rfl⟩)
    by_cases hq : am_cmp cc x 0 = true
    · rw [if_pos hq] at h
      obtain ⟨t, ht, kk⟩ := am_jp_k h hk
      have kk := kk _ _ _ hp
      cases cc <;> simp only [am_cmp, decide_eq_true_eq] at hq
      · exact lv_if_eq hx hb hd ht (fun _ => kk) (fun z => absurd hq z)
      · exact lv_if_ne hx hb hd ht (fun _ => kk) (fun z => absurd z hq)
      · exact lv_if_lt hx hb hd ht (fun _ => kk) (fun z => absurd hq z)
      · exact lv_if_ge hx hb hd ht (fun _ => kk) (fun z => absurd hq z)
      · exact lv_if_gt hx hb hd ht (fun _ => kk) (fun z => absurd hq z)
      · exact lv_if_le hx hb hd ht (fun _ => kk) (fun z => absurd hq z)
    · rw [if_neg hq] at h
      split at h
      · rename_i h0
        have kk := am_nx_k h hk _ _ _ hp
        have ht : (pc : Int) + off = ((((pc : Int) + off).toNat : Nat) : Int) := (Int.toNat_of_nonneg h0).symm
        cases cc <;> simp only [am_cmp, decide_eq_true_eq] at hq
        · exact lv_if_eq hx hb hd ht (fun z => absurd z hq) (fun _ => kk)
        · exact lv_if_ne hx hb hd ht (fun z => absurd z hq) (fun _ => kk)
        · exact lv_if_lt hx hb hd ht (fun z => absurd z hq) (fun _ => kk)
        · exact lv_if_ge hx hb hd ht (fun z => absurd z hq) (fun _ => kk)
        · exact lv_if_gt hx hb hd ht (fun z => absurd z hq) (fun _ => kk)
        · exact lv_if_le hx hb hd ht (fun z => absurd z hq) (fun _ => kk)
      · cases h
  · rename_i cc off y x S'
    obtain rfl := hlen (Or.inr (Or.inl ⟨_, _, rfl⟩))
    by_cases hq : am_cmp cc x y = true
    · rw [if_pos hq] at h
      obtain ⟨t, ht, kk⟩ := am_jp_k h hk
      have kk := kk _ _ _ hp
      cases cc <;> simp only [am_cmp, decide_eq_true_eq] at hq
      · exact lv_icmp_eq hx hb hd ht (fun _ => kk) (fun z => absurd hq z)
      · exact lv_icmp_ne hx hb hd ht (fun _ => kk) (fun z => absurd z hq)
      · exact lv_icmp_lt hx hb hd ht (fun _ => kk) (fun z => absurd hq z)
      · exact lv_icmp_ge hx hb hd ht (fun _ => kk) (fun z => absurd hq z)
      · exact lv_icmp_gt hx hb hd ht (fun _ => kk) (fun z => absurd hq z)
      · exact lv_icmp_le hx hb hd ht (fun _ => kk) (fun z => absurd hq z)
    · rw [if_neg hq] at h
      split at h
      · rename_i h0
        have kk := am_nx_k h hk _ _ _ hp
        have ht : (pc : Int) + off = ((((pc : Int) + off).toNat : Nat) : Int) := (Int.toNat_of_nonneg h0).symm
        cases cc <;> simp only [am_cmp, decide_eq_true_eq] at hq
        · exact lv_icmp_eq hx hb hd ht (fun z => absurd z hq) (fun _ => kk)
        · exact lv_icmp_ne hx hb hd ht (fun z => absurd z hq) (fun _ => kk)
        · exact lv_icmp_lt hx hb hd ht (fun z => absurd z hq) (fun _ => kk)
        · exact lv_icmp_ge hx hb hd ht (fun z => absurd z hq) (fun _ => kk)
        · exact lv_icmp_gt hx hb hd ht (fun z => absurd z hq) (fun _ => kk)
        · exact lv_icmp_le hx hb hd ht (fun z => absurd z hq) (fun _ => kk)
      · cases h
  · obtain rfl := hlen (Or.inr (Or.inr (Or.inl ⟨_, rfl⟩)))
    exact lv_ifnull hx hb hd (am_nx_k h hk _ _ _ hp)
  · obtain rfl := hlen (Or.inr (Or.inr (Or.inl ⟨_, rfl⟩)))
    obtain ⟨t, ht, kk⟩ := am_jp_k h hk
    exact lv_ifnullN hx hb hd ht (kk _ _ _ hp)
  · obtain rfl := hlen (Or.inr (Or.inr (Or.inr ⟨_, rfl⟩)))
    obtain ⟨t, ht, kk⟩ := am_jp_k h hk
    exact lv_goto hx hb hd ht (kk _ _ _ hp)
  · split at h
    · rename_i hq
      obtain ⟨t, ht, kk⟩ := am_jp_k h hk
      exact lv_tableOut hx hb hd hq ht (kk _ _ _ hp)
    · rename_i hq
      split at h
      · rename_i off ho
        obtain ⟨t, ht, kk⟩ := am_jp_k h hk
        exact lv_tableIn hx hb hd (fun z => hq (Or.inl z)) (fun z => hq (Or.inr z)) ho ht (kk _ _ _ hp)
      · cases h
  · split at h
    · rename_i hq
      obtain ⟨t, ht, kk⟩ := am_jp_k h hk
      exact lv_lookup hx hb hd hq rfl ht (kk _ _ _ hp)
    · cases h
  · cases h
/-- getfield, putfield -/
theorem am_fld_ok {own idx ci j : Nat} (h : am_fld own idx = some (ci, j)) : Cond.fieldLink (am_Rn own) idx (am_Rn ci) (am_T ci j).2.1 (am_T ci j).2.2.1 ∈ lw_good ∧ j < am_nf ci ∧ (am_T ci j).1 = am_Rn ci ∧ ci < 13 := by
  unfold am_fld at h
  obtain ⟨e, he, h1⟩ := Option.map_eq_some_iff.mp h
  have hm := List.mem_of_find?_eq_some he
  have hf := List.find?_some he
  simp only [Bool.and_eq_true, beq_iff_eq] at hf
  have hk := List.all_eq_true.mp am_okf_all e hm
  simp only [am_okf, Bool.and_eq_true, decide_eq_true_eq, beq_iff_eq] at hk
  simp only [Prod.mk.injEq] at h1
  rw [hf.1, hf.2, h1.1, h1.2] at hk
  exact ⟨am_at_mem hk.1.1.1, hk.1.1.2, hk.1.2, hk.2⟩
theorem am_s_get {idx : Nat} (hC : am_Cx p R s m args meth c D cA base sz n0 z0 nE zE d mi) (hd : decode mi.2.2.1 pc = .ok (.getfield idx, 3)) (h : am_get mi idx pc L S σ = some X) (hk : am_Wn p l e R s m args below meth c D cA base sz n0 z0 mi Q X) (hp : am_Pt s D cA base sz n0 mi σ L H locs ls) : W p l e R s m args below meth c H locs (σ.1 - n0) (σ.2.1 - z0) Q (F0 m pc ls (S.map (am_v base))) := by
  obtain ⟨hx, hb, -, -, hown, hts, -, -, hK, -⟩ := hC
  unfold am_get at h
  split at h
  · rename_i k rest
    split at h
    · rename_i ci j hf
      split at h
      · rename_i hc
        obtain ⟨hw, hj, hdc, h13⟩ := am_fld_ok hf
        have kk := am_nx_k h hk _ _ _ hp
        refine va_get (D := D) (ci := ci) (C := am_Rn ci) (T := am_T ci) (N := am_nf ci) hx hb hts (am_ws_ok ci h13) hown hK.1 hp.1 k (by rw [am_wl_at hc.1, am_cell_obj hc.2]) (am_cl_ok ci h13) j hj (hts _ hw) (fun x h9 => by rw [← hdc]; exact h9) (am_fs_at hj) hd ?_
        have e : am_v base (if am_isR (am_ty ci j) then va_rf (σ.2.2.2.2 k j) else .int (σ.2.2.2.1 k j)) = am_fv base σ k ci j := by
          unfold am_fv
          split
          · exact am_v_rf _ _
          · rfl
        rw [← e]
        exact kk
      · cases h
    · cases h
  · cases h
theorem am_s_put {idx : Nat} (hC : am_Cx p R s m args meth c D cA base sz n0 z0 nE zE d mi) (hd : decode mi.2.2.1 pc = .ok (.putfield idx, 3)) (h : am_put mi idx pc L S σ = some X) (hk : am_Wn p l e R s m args below meth c D cA base sz n0 z0 mi Q X) (hσ : σ.1 ≤ nE) (hp : am_Pt s D cA base sz n0 mi σ L H locs ls) : W p l e R s m args below meth c H locs (σ.1 - n0) (σ.2.1 - z0) Q (F0 m pc ls (S.map (am_v base))) := by
  obtain ⟨hx, hb, -, -, hown, hts, -, hnm, hK, ⟨-, hal⟩, -⟩ := hC
  have hD := am_D cA base sz n0 σ (by omega)
  have key : ∀ (v : Value) (k ci j : Nat) (rest : List Value) (σ1 : am_St), am_fld mi.1 idx = some (ci, j) → k < σ.1 → (σ.2.2.1 k).1 = ci + 4 → am_fin mi ci j = true → narrow (am_ty ci j) v = v → fits (am_ty ci j) v = true → (am_wl cA base σ).set k (base + k, .inr (ci, (am_fs base σ k ci).set j v)) = am_wl cA base σ1 → σ1.1 = σ.1 → σ1.2.1 = σ.2.1 → am_Wt p l e R s m args below meth c D cA base sz n0 z0 mi Q (pc + 3) L rest σ1 → W p l e R s m args below meth c H locs (σ.1 - n0) (σ.2.1 - z0) Q (F0 m pc ls (v :: .ref (base + k) :: rest.map (am_v base))) := by
    intro v k ci j rest σ1 hf hk1 hk2 hfin hn hfit hset e1 e2 kk
    obtain ⟨hw, hj, hdc, h13⟩ := am_fld_ok hf
    have kk' : ∀ (H1 : Heap) (locs1 : List Loc), va_P D vwCl ((am_wl cA base σ).set k (base + k, .inr (ci, (am_fs base σ k ci).set j v))) H1 → va_D (am_A base sz n0) ((am_wl cA base σ).set k (base + k, .inr (ci, (am_fs base σ k ci).set j v))) → va_S (am_A base sz n0) s.heap H1 locs1 → W p l e R s m args below meth c H1 locs1 (σ.1 - n0) (σ.2.1 - z0) Q (F0 m (pc + 3) ls (rest.map (am_v base))) := by
      intro H1 locs1 hP1 _ hS1
      rw [hset] at hP1
      have := kk H1 locs1 ls ⟨hP1, hS1, hp.2.2⟩
      rw [e1, e2] at this
      exact this
    by_cases hfi : (am_T ci j).2.2.2 = true
    · have hfin2 : mi.2.1.name = "<init>" ∧ mi.1 = ci := by
        simp only [am_fin, hfi, Bool.not_true, Bool.false_or, Bool.and_eq_true, beq_iff_eq] at hfin
        exact hfin
      exact va_putF (D := D) (ci := ci) (C := am_Rn ci) (T := am_T ci) (N := am_nf ci) hx hb hts (am_ws_ok ci h13) (am_ty ci) (am_ty_ok ci h13) (am_nm_ok ci h13) hown hK.1 hp.1 hD hp.2.1 k (by rw [am_wl_at hk1, am_cell_obj hk2]) (am_cl_ok ci h13) j hj (hts _ hw) (fun x h9 => by rw [← hdc]; exact h9) hfi (by rw [hnm]; exact hfin2.1) (by rw [hdc, hfin2.2]) (am_ty_ok ci h13 j hj) hn hfit (by rw [am_fs_len]; exact hj) hd kk'
    · exact va_put (D := D) (ci := ci) (C := am_Rn ci) (T := am_T ci) (N := am_nf ci) hx hb hts (am_ws_ok ci h13) (am_ty ci) (am_ty_ok ci h13) (am_nm_ok ci h13) hown hK.1 hp.1 hD hp.2.1 k (by rw [am_wl_at hk1, am_cell_obj hk2]) (am_cl_ok ci h13) j hj (hts _ hw) (fun x h9 => by rw [← hdc]; exact h9) (by simpa using hfi) (am_ty_ok ci h13 j hj) hn hfit (by rw [am_fs_len]; exact hj) hd kk'
  have hR : ∀ {ty : FieldType} (o : Option Nat), am_isR ty = true → narrow ty (va_rf o) = va_rf o ∧ fits ty (va_rf o) = true := by
    intro ty o ht
    match ty, ht with
    | .object _, _ => cases o <;> exact ⟨rfl, rfl⟩
    | .array _, _ => cases o <;> exact ⟨rfl, rfl⟩
  unfold am_put at h
  split at h
  · rename_i x k rest
    split at h
    · rename_i ci j hf
      split at h
      · rename_i hc
        exact key (.int x) k ci j rest (am_sI σ k j x) hf hc.1 hc.2.1 hc.2.2.1 hc.2.2.2.2.1 hc.2.2.2.2.2 (am_wl_sI hc.2.1 (am_fld_ok hf).2.1 hc.2.2.2.1) rfl rfl (am_nx_k h hk)
      · cases h
    · cases h
  · rename_i x k rest
    split at h
    · rename_i ci j hf
      split at h
      · rename_i hc
        have hq := hR (some (base + x)) hc.2.2.2
        exact key (.ref (base + x)) k ci j rest (am_sR σ k j (some x)) hf hc.1 hc.2.1 hc.2.2.1 hq.1 hq.2 (am_wl_sR (x := some x) hc.2.1 (am_fld_ok hf).2.1 hc.2.2.2) rfl rfl (am_nx_k h hk)
      · cases h
    · cases h
  · rename_i k rest
    split at h
    · rename_i ci j hf
      split at h
      · rename_i hc
        have hq := hR none hc.2.2.2
        exact key .null k ci j rest (am_sR σ k j none) hf hc.1 hc.2.1 hc.2.2.1 hq.1 hq.2 (am_wl_sR (x := none) hc.2.1 (am_fld_ok hf).2.1 hc.2.2.2) rfl rfl (am_nx_k h hk)
      · cases h
    · cases h
  · cases h
theorem am_s_arr {ins : Instr} (hC : am_Cx p R s m args meth c D cA base sz n0 z0 nE zE d mi) (hd : decode mi.2.2.1 pc = .ok (ins, 1)) (h : am_arr ins pc L S σ = some X) (hk : am_Wn p l e R s m args below meth c D cA base sz n0 z0 mi Q X) (hσ : σ.1 ≤ nE) (hp : am_Pt s D cA base sz n0 mi σ L H locs ls) : W p l e R s m args below meth c H locs (σ.1 - n0) (σ.2.1 - z0) Q (F0 m pc ls (S.map (am_v base))) := by
  obtain ⟨hx, hb, -, -, -, -, -, -, hK, ⟨-, hal⟩, -⟩ := hC
  have hD := am_D cA base sz n0 σ (by omega)
  unfold am_arr at h
  split at h
  · split at h
    · rename_i i k rest
      split at h
      · rename_i hc
        exact va_iald hx hb hK.1 hp.1 k 0 (by rw [am_wl_at hc.1, am_cell_int hc.2.1]) rfl hc.2.2 hd (am_nx_k h hk _ _ _ hp)
      · cases h
    · cases h
  · split at h
    · rename_i i k rest
      split at h
      · rename_i hc
        exact va_bald hx hb hK.1 hp.1 k 1 (by rw [am_wl_at hc.1, am_cell_byte hc.2.1]) rfl hc.2.2 hd (am_nx_k h hk _ _ _ hp)
      · cases h
    · cases h
  · split at h
    · rename_i i k rest
      split at h
      · rename_i hc
        have kk := am_nx_k h hk _ _ _ hp
        rw [List.map_cons, am_v_rf] at kk
        rcases hc.2.1 with hq | hq
        · exact va_aldq hx hb hK.1 hp.1 k 2 (by rw [am_wl_at hc.1, am_cell_r2 hq]) rfl hc.2.2 hd kk
        · exact va_aldq hx hb hK.1 hp.1 k 3 (by rw [am_wl_at hc.1, am_cell_r3 hq]) rfl hc.2.2 hd kk
      · cases h
    · cases h
  · split at h
    · rename_i x i k rest
      split at h
      · rename_i hc
        refine va_iast hx hb hK.1 hp.1 hD hp.2.1 k 0 (by rw [am_wl_at hc.1, am_cell_int hc.2.1]) rfl hc.2.2 hd (fun H1 locs1 hP1 _ hS1 => ?_)
        rw [am_wl_aI hc.2.1] at hP1
        exact am_nx_k h hk _ _ _ ⟨hP1, hS1, hp.2.2⟩
      · cases h
    · cases h
  · split at h
    · rename_i x i k rest
      split at h
      · rename_i hc
        refine va_bast hx hb hK.1 hp.1 hD hp.2.1 k 1 (by rw [am_wl_at hc.1, am_cell_byte hc.2.1]) rfl hc.2.2 hd (fun H1 locs1 hP1 _ hS1 => ?_)
        rw [am_wl_aB hc.2.1] at hP1
        exact am_nx_k h hk _ _ _ ⟨hP1, hS1, hp.2.2⟩
      · cases h
    · cases h
  · split at h
    · rename_i x i k rest
      split at h
      · rename_i hc
        rcases hc.2.2.1 with hq | hq
        · refine va_astq hx hb hK.1 hp.1 hD hp.2.1 k 2 x 4 (by rw [am_wl_at hc.1, am_cell_r2 hq.1]) rfl (by rw [am_wl_at hc.2.1, am_cell_obj hq.2]) (am_cl_ok 4 (by decide)) hc.2.2.2 hd (fun H1 locs1 hP1 _ hS1 => ?_)
          rw [am_wl_a2 hq.1] at hP1
          exact am_nx_k h hk _ _ _ ⟨hP1, hS1, hp.2.2⟩
        · refine va_astq hx hb hK.1 hp.1 hD hp.2.1 k 3 x 7 (by rw [am_wl_at hc.1, am_cell_r3 hq.1]) rfl (by rw [am_wl_at hc.2.1, am_cell_obj hq.2]) (am_cl_ok 7 (by decide)) hc.2.2.2 hd (fun H1 locs1 hP1 _ hS1 => ?_)
          rw [am_wl_a3 hq.1] at hP1
          exact am_nx_k h hk _ _ _ ⟨hP1, hS1, hp.2.2⟩
      · cases h
    · cases h
  · split at h
    · rename_i k rest
      split at h
      · rename_i hc
        have kk := am_nx_k h hk _ _ _ hp
        have hq : (σ.2.2.1 k).1 = 0 ∨ (σ.2.2.1 k).1 = 1 ∨ (σ.2.2.1 k).1 = 2 ∨ (σ.2.2.1 k).1 = 3 := by omega
        rcases hq with hq | hq | hq | hq
        · have ha : (am_wl cA base σ)[k]? = some (base + k, .inl (cA 0, (σ.2.2.1 k).2, .inl (σ.2.2.2.1 k))) := by rw [am_wl_at hc.1, am_cell_int hq]
          exact va_alen hx hb hK.1 hp.1 k 0 ha rfl rfl hd kk
        · have ha : (am_wl cA base σ)[k]? = some (base + k, .inl (cA 1, (σ.2.2.1 k).2, .inl (σ.2.2.2.1 k))) := by rw [am_wl_at hc.1, am_cell_byte hq]
          exact va_alen hx hb hK.1 hp.1 k 1 ha rfl rfl hd kk
        · have ha : (am_wl cA base σ)[k]? = some (base + k, .inl (cA 2, (σ.2.2.1 k).2, .inr (.inr (.inr (.inr (fun j => (σ.2.2.2.2 k j).map (base + ·))))))) := by rw [am_wl_at hc.1, am_cell_r2 hq]
          exact va_alen hx hb hK.1 hp.1 k 2 ha rfl rfl hd kk
        · have ha : (am_wl cA base σ)[k]? = some (base + k, .inl (cA 3, (σ.2.2.1 k).2, .inr (.inr (.inr (.inr (fun j => (σ.2.2.2.2 k j).map (base + ·))))))) := by rw [am_wl_at hc.1, am_cell_r3 hq]
          exact va_alen hx hb hK.1 hp.1 k 3 ha rfl rfl hd kk
      · cases h
    · cases h
  · cases h
end AMS
end
section
section AMS2
variable {p : Program} {l : Launch} {e : Env} {R : Room} {s : State} {m : MethodId} {args : Array Value} {below : List Frame} {meth : Method} {c : Code} {H : Heap} {locs : List Loc} {Q : State → Prop}
variable {D : va_G} {cA : Nat → ClassId} {base sz n0 z0 nE zE d : Nat} {mi : am_I} {pc : Nat} {L : am_L} {S : List Value} {σ : am_St} {ls : Array Slot} {X : am_N}
theorem am_sz (hP : va_P D vwCl (am_wl cA base σ) H) (hS : va_S (am_A base sz n0) s.heap H locs) (hs : s.heap.size = sz) (hal : nE ≤ n0 ∨ sz = base + n0) (hσ : σ.1 ≤ nE) (hn : n0 ≤ σ.1) (hz : H.size ≤ s.heap.size + (σ.1 - n0)) : H.size = sz + (σ.1 - n0) := by
  have h0 := hS.1
  by_cases h1 : σ.1 = n0
  · omega
  · have h2 := (hP (σ.1 - 1) _ (am_wl_at (by omega))).lt
    have h3 : base + (σ.1 - 1) < H.size := h2
    omega
/-- where a new cell must lie -/
theorem am_new_at {E : va_E} {q : Nat} {H1 : Heap} (hP : va_P D vwCl (am_wl cA base σ ++ [(q, E)]) H1) (hD : va_D (am_A base sz n0) (am_wl cA base σ ++ [(q, E)])) (hs : s.heap.size = base + n0) (hn : n0 ≤ σ.1) (hz : H1.size ≤ s.heap.size + (σ.1 - n0 + 1)) : q = base + σ.1 := by
  have hlen : (am_wl cA base σ).length = σ.1 := by simp [am_wl]
  have hq : (am_wl cA base σ ++ [(q, E)])[σ.1]? = some (q, E) := by rw [List.getElem?_append_right (by omega)]; simp [hlen]
  have h1 : q < H1.size := (hP σ.1 _ hq).lt
  have h2 : base ≤ q := (hD.2 σ.1 _ hq).1
  by_cases hlt : q - base < σ.1
  · have hk : (am_wl cA base σ ++ [(q, E)])[q - base]? = some (base + (q - base), am_cell cA base σ (q - base)) := by
      rw [List.getElem?_append_left (by omega), am_wl_at hlt]
    have := hD.1 (q - base) σ.1 _ _ hk hq (by show base + (q - base) = q; omega)
    omega
  · omega
theorem am_cls_ok {own idx ci : Nat} (h : am_cls own idx = some ci) : Cond.classLink (am_Rn own) idx (am_Rn ci) ∈ lw_good ∧ Cond.instantiable (am_Rn ci) (am_nf ci) ∈ lw_good ∧ Cond.initialized (am_Rn ci) ∈ lw_good ∧ ci < 13 := by
  unfold am_cls at h
  obtain ⟨e, he, h1⟩ := Option.map_eq_some_iff.mp h
  have hm := List.mem_of_find?_eq_some he
  have hf := List.find?_some he
  simp only [Bool.and_eq_true, beq_iff_eq] at hf
  have hk := List.all_eq_true.mp am_okc_all e hm
  simp only [am_okc, Bool.and_eq_true, decide_eq_true_eq] at hk
  rw [hf.1, hf.2, h1] at hk
  exact ⟨am_at_mem hk.1.1.1, am_at_mem hk.1.1.2, am_at_mem hk.1.2, hk.2⟩
theorem am_fs_new {base : Nat} {σ : am_St} {t n z ci : Nat} (h13 : ci < 13) : ∀ j, j < am_nf ci → defaultValue (am_ty ci j) = vp_V (am_fs base (am_al σ t n z) σ.1 ci) j := by
  intro j hj
  have hb := List.all_eq_true.mp am_tyB_ok ci (List.mem_range.mpr h13)
  have hb2 := List.all_eq_true.mp hb j (List.mem_range.mpr hj)
  unfold vp_V
  rw [List.getD_eq_getElem?_getD, am_fs_at hj]
  show _ = am_fv base (am_al σ t n z) σ.1 ci j
  unfold am_fv
  simp only [am_al, if_true]
  generalize am_ty ci j = ty at hb2 ⊢
  match ty, hb2 with
  | .object _, _ => rfl
  | .array _, _ => rfl
  | .int, _ => rfl
  | .boolean, _ => rfl
theorem am_mk_n {ins : Instr} (h : am_mk mi ins pc L S σ = some X) : ∃ a b c d, X = .inl (a, b, c, d) ∧ d.1 = σ.1 + 1 := by
  unfold am_mk at h
  repeat' split at h
  all_goals first | (cases h; done) | exact ⟨_, _, _, _, (Option.some.inj h).symm, rfl⟩
theorem am_s_mk {ins : Instr} {len : Nat} (hC : am_Cx p R s m args meth c D cA base sz n0 z0 nE zE d mi) (hd : decode mi.2.2.1 pc = .ok (ins, len)) (hlen : ((∃ a, ins = .new a) → len = 3) ∧ ((∃ a, ins = .newarray a) → len = 2) ∧ ((∃ a, ins = .anewarray a) → len = 3)) (h : am_mk mi ins pc L S σ = some X) (hk : am_Wn p l e R s m args below meth c D cA base sz n0 z0 mi Q X) (hp : am_Pt s D cA base sz n0 mi σ L H locs ls) (hn : n0 ≤ σ.1) (hz : z0 ≤ σ.2.1)
    (hE : ∀ pc' L' S' σ', X = .inl (pc', L', S', σ') → σ'.1 ≤ nE ∧ σ'.2.1 ≤ zE) : W p l e R s m args below meth c H locs (σ.1 - n0) (σ.2.1 - z0) Q (F0 m pc ls (S.map (am_v base))) := by
  obtain ⟨hx, hb, -, -, hown, hts, -, -, hK, ⟨hs0, hal⟩, -, -, hRc, hRs⟩ := hC
  obtain ⟨a9, b9, c9, σ9, hX9, hn9⟩ := am_mk_n h
  have hE9 := (hE _ _ _ _ hX9).1
  have hs : s.heap.size = base + n0 := by omega
  have hD := am_D cA base sz n0 σ (by omega)
  have hA : ∀ q : Nat, s.heap.size ≤ q → am_A base sz n0 q := fun q h => ⟨by omega, Or.inr (by omega)⟩
  unfold am_mk at h
  split at h
  · rename_i idx
    obtain rfl := hlen.1 ⟨_, rfl⟩
    split at h
    · rename_i ci hc
      obtain ⟨w1, w2, w3, h13⟩ := am_cls_ok hc
      have hE' := hE _ _ _ _ (Option.some.inj h).symm
      have e1 : σ.1 + 1 ≤ nE := hE'.1
      have e2 : σ.2.1 + am_nf ci ≤ zE := hE'.2
      refine va_new (D := D) (ci := ci) (C := am_Rn ci) (T := am_T ci) (N := am_nf ci) (fs := am_fs base (am_al σ (ci + 4) 0 (am_nf ci)) σ.1 ci) hx hb hts (am_ws_ok ci h13) (am_ty ci) (am_ty_ok ci h13) hown (hts _ w1) (hts _ w2) (hts _ w3) hK.1 hp.1 hD hp.2.1 hA (am_cl_ok ci h13) (am_fs_new h13) (by omega) (by omega) hd (fun q H1 hP1 hD1 hS1 => am_size (fun hz1 => ?_))
      obtain rfl := am_new_at hP1 hD1 hs hn hz1
      have hP2 : va_P D vwCl (am_wl cA base (am_al σ (ci + 4) 0 (am_nf ci))) H1 := by
        rw [am_wl_al, am_cell_obj (c := ci) (by simp [am_al])]
        exact hP1
      have kk := am_nx_k h hk H1 locs ls ⟨hP2, hS1, hp.2.2⟩
      rw [show (am_al σ (ci + 4) 0 (am_nf ci)).1 - n0 = σ.1 - n0 + 1 by show σ.1 + 1 - n0 = _; omega, show (am_al σ (ci + 4) 0 (am_nf ci)).2.1 - z0 = σ.2.1 - z0 + am_nf ci by show σ.2.1 + am_nf ci - z0 = _; omega] at kk
      exact kk
    · cases h
  · rename_i t
    obtain rfl := hlen.2.1 ⟨_, rfl⟩
    split at h
    · rename_i n rest
      split at h
      · rename_i a ha
        split at h
        · rename_i hc
          have hE' := hE _ _ _ _ (Option.some.inj h).symm
          have e1 : σ.1 + 1 ≤ nE := hE'.1
          have e2 : σ.2.1 + n.toNatClampNeg ≤ zE := hE'.2
          have key : ∀ (ty : FieldType) (k : Nat), newarray.typeOf t = ty → a = k → (cA k, ty) = (cA k, ty) → ((Cond.arrayClass (newarray.typeOf t)).before args s = true) → (am_tys cA)[k]? = some (cA k, ty) → (∀ cB : ClassId, va_RA s (cA k) ty → va_RA s cB ty → cB = cA k) → n.toNatClampNeg * componentBytes ty ≤ 536870912 → (∀ cB : ClassId, vp_cell cB (n.toNatClampNeg, .inl (fun _ => (0 : Int32))) = arrV cB n.toNatClampNeg (fun _ => defaultValue ty)) → am_cell cA base (am_al σ k n.toNatClampNeg n.toNatClampNeg) σ.1 = .inl (cA k, n.toNatClampNeg, .inl (fun _ => (0 : Int32))) → W p l e R s m args below meth c H locs (σ.1 - n0) (σ.2.1 - z0) Q (F0 m pc ls (.int n :: rest.map (am_v base))) := by
            intro ty k hty hak _ harr htk hun hby hcell hce
            subst hak
            refine va_newa (D := D) hx hb harr hty hK.1 hp.1 hD hp.2.1 hA (a0 := (n.toNatClampNeg, .inl (fun _ => (0 : Int32)))) hcell hc.1 rfl hby (by omega) (by omega) hd (fun q cB H1 hK1 hP1 hD1 hS1 => am_size (fun hz1 => ?_))
            obtain rfl := am_new_at hP1 hD1 hs hn hz1
            have hcB : cB = cA a := by
              refine hun cB (hK.1.2 a _ htk).2 ?_
              have h9 := (hK1.2 (am_tys cA).length (cB, ty) (by rw [List.getElem?_append_right (Nat.le_refl _)]; simp)).2
              exact h9
            subst hcB
            have hP2 : va_P D vwCl (am_wl cA base (am_al σ a n.toNatClampNeg n.toNatClampNeg)) H1 := by
              rw [am_wl_al, hce]
              exact hP1
            have kk := am_nx_k h hk H1 locs ls ⟨hP2, hS1, hp.2.2⟩
            rw [show (am_al σ a n.toNatClampNeg n.toNatClampNeg).1 - n0 = σ.1 - n0 + 1 by show σ.1 + 1 - n0 = _; omega, show (am_al σ a n.toNatClampNeg n.toNatClampNeg).2.1 - z0 = σ.2.1 - z0 + n.toNatClampNeg by show σ.2.1 + n.toNatClampNeg - z0 = _; omega] at kk
            exact kk
          have hun : ∀ (ty : FieldType) (x y : ClassId), (ty = .int ∨ ty = .byte) → va_RA s x ty → va_RA s y ty → y = x := by
            intro ty x y ht h1 h2
            rcases ht with rfl | rfl
            · exact Option.some.inj ((show s.vm.findClass _ = some y from h2).symm.trans h1)
            · exact Option.some.inj ((show s.vm.findClass _ = some y from h2).symm.trans h1)
          match t, ha with
          | .int, ha =>
            exact key .int 0 rfl (Option.some.inj ha).symm rfl (hts _ (am_at_mem am_okA.1)) rfl (fun cB h1 h2 => hun .int _ _ (Or.inl rfl) h1 h2) hc.2 (fun cB => rfl) (by rw [am_cell_int (by simp [am_al])]; simp [am_al])
          | .byte, ha =>
            exact key .byte 1 rfl (Option.some.inj ha).symm rfl (hts _ (am_at_mem am_okA.2.1)) rfl (fun cB h1 h2 => hun .byte _ _ (Or.inr rfl) h1 h2) (by have := hc.2; show n.toNatClampNeg * 1 ≤ _; omega) (fun cB => rfl) (by rw [am_cell_byte (by simp [am_al])]; simp [am_al])
        · cases h
      · cases h
    · cases h
  · rename_i idx
    obtain rfl := hlen.2.2 ⟨_, rfl⟩
    split at h
    · rename_i n rest
      split at h
      · rename_i ci hcl
        split at h
        · rename_i hc
          have hE' := hE _ _ _ _ (Option.some.inj h).symm
          have e1 : σ.1 + 1 ≤ nE := hE'.1
          have e2 : σ.2.1 + n.toNatClampNeg ≤ zE := hE'.2
          obtain ⟨w1, -, -, -⟩ := am_cls_ok hcl
          have key : ∀ (C : String) (k : Nat), am_Rn ci = C → (if ci = 4 then 2 else 3) = k → va_AO C s → (am_tys cA)[k]? = some (cA k, .object C) → am_cell cA base (am_al σ k n.toNatClampNeg n.toNatClampNeg) σ.1 = .inl (cA k, n.toNatClampNeg, .inr (.inr (.inr (.inr (fun _ => none))))) → W p l e R s m args below meth c H locs (σ.1 - n0) (σ.2.1 - z0) Q (F0 m pc ls (.int n :: rest.map (am_v base))) := by
            intro C k hC0 hk0 hAO htk hce
            subst hC0
            subst hk0
            refine va_newq (D := D) hx hb hown (hts _ w1) hAO hK.1 hp.1 hD hp.2.1 hA hc.1 rfl hc.2.1 (by omega) (by omega) hd (fun q cB H1 hK1 hP1 hD1 hS1 => am_size (fun hz1 => ?_))
            obtain rfl := am_new_at hP1 hD1 hs hn hz1
            have hcB : cB = cA (if ci = 4 then 2 else 3) := by
              obtain ⟨_, _, _, _, _, h4⟩ := (hK.1.2 _ _ htk).2
              obtain ⟨_, _, _, _, _, h9⟩ := (hK1.2 (am_tys cA).length (cB, .object (am_Rn ci)) (by rw [List.getElem?_append_right (Nat.le_refl _)]; simp)).2
              exact Option.some.inj (h9.symm.trans h4)
            subst hcB
            have hP2 : va_P D vwCl (am_wl cA base (am_al σ (if ci = 4 then 2 else 3) n.toNatClampNeg n.toNatClampNeg)) H1 := by
              rw [am_wl_al, hce]
              exact hP1
            have kk := am_nx_k h hk H1 locs ls ⟨hP2, hS1, hp.2.2⟩
            rw [show (am_al σ (if ci = 4 then 2 else 3) n.toNatClampNeg n.toNatClampNeg).1 - n0 = σ.1 - n0 + 1 by show σ.1 + 1 - n0 = _; omega, show (am_al σ (if ci = 4 then 2 else 3) n.toNatClampNeg n.toNatClampNeg).2.1 - z0 = σ.2.1 - z0 + n.toNatClampNeg by show σ.2.1 + n.toNatClampNeg - z0 = _; omega] at kk
            exact kk
          rcases hc.2.2 with rfl | rfl
          · exact key RX4 2 rfl rfl hK.2.1 rfl (by rw [am_cell_r2 (by simp [am_al])]; simp [am_al])
          · exact key RX7 3 rfl rfl hK.2.2 rfl (by rw [am_cell_r3 (by simp [am_al])]; simp [am_al])
        · cases h
      · cases h
    · cases h
  · cases h
end AMS2
end
section
section AMS3
variable {p : Program} {l : Launch} {e : Env} {R : Room} {s : State} {m : MethodId} {args : Array Value} {below : List Frame} {meth : Method} {c : Code} {H : Heap} {locs : List Loc} {Q : State → Prop}
variable {D : va_G} {cA : Nat → ClassId} {base sz n0 z0 nE zE d : Nat} {mi : am_I} {pc : Nat} {L : am_L} {S : List Value} {σ : am_St} {ls : Array Slot} {X : am_N}
variable {call : am_I → List Value → am_St → Option (Option Value × am_St)}
def am_gd (m2 : am_I) : Prop := Cond.code m2.2.1 m2.2.2.1 m2.2.2.2.1 m2.2.2.2.2.1 ∈ lw_good ∧ am_okI m2 = true
theorem am_mth_ok {own idx kd : Nat} {m2 : am_I} (h : am_mth own idx kd = some m2) : am_gd m2 ∧ Cond.methodLink (am_Rn own) idx m2.2.1 ∈ lw_good ∧ Cond.initialized m2.2.1.cls ∈ lw_good ∧ (kd = 0 → Cond.instanceMethod m2.2.1 ∈ lw_good ∧ Cond.selects m2.2.1.cls m2.2.1 m2.2.1 ∈ lw_good ∧ m2.1 < 13) ∧ (kd = 1 → Cond.static m2.2.1 ∈ lw_good) ∧ (kd = 2 → Cond.instanceMethod m2.2.1 ∈ lw_good ∧ m2.2.1.name = "<init>" ∧ m2.2.2.2.2.1 = none) := by
  unfold am_mth at h
  obtain ⟨e, he, h1⟩ := Option.map_eq_some_iff.mp h
  have hm := List.mem_of_find?_eq_some he
  have hf := List.find?_some he
  simp only [Bool.and_eq_true, beq_iff_eq] at hf
  have hk := List.all_eq_true.mp am_okm_all e hm
  have hd := am_okd_all e hm
  obtain ⟨e1, e2, e3, e4, e5⟩ := e
  simp only at h1 hf hd
  obtain rfl := h1
  obtain ⟨⟨rfl, rfl⟩, rfl⟩ := hf
  simp only [am_okm, Bool.and_eq_true] at hk
  obtain ⟨⟨⟨k1, k2⟩, k3⟩, k4⟩ := hk
  refine ⟨⟨hd, k1⟩, am_at_mem k2, am_at_mem k3, fun q => ?_, fun q => ?_, fun q => ?_⟩
  · subst q
    simp only [Bool.and_eq_true, decide_eq_true_eq] at k4
    exact ⟨am_at_mem k4.1.1, am_at_mem k4.1.2, k4.2⟩
  · subst q
    exact am_at_mem k4
  · subst q
    simp only [Bool.and_eq_true, decide_eq_true_eq, beq_iff_eq] at k4
    exact ⟨am_at_mem k4.1.1, k4.1.2, k4.2⟩
/-- what is known of the callees -/
def am_CO (l : Launch) (D : va_G) (cA : Nat → ClassId) (base d : Nat) (call : am_I → List Value → am_St → Option (Option Value × am_St)) : Prop :=
  ∀ (m2 : am_I) (as : List Value) (σ : am_St) (r : Option Value) (σ1 : am_St), am_gd m2 → call m2 as σ = some (r, σ1) → (∀ sz, am_Met l D cA base sz d m2 as σ r σ1) ∧ m2.2.2.2.1 ≤ 20
def am_up (call : am_I → List Value → am_St → Option (Option Value × am_St)) : Prop := ∀ (m2 : am_I) (as : List Value) (σ : am_St) (r : Option Value) (σ1 : am_St), call m2 as σ = some (r, σ1) → σ.1 ≤ σ1.1 ∧ σ.2.1 ≤ σ1.2.1
theorem am_Pblind {av : List Value} : FrameBlind (va_Pc av (am_P D cA base sz σ)) := fun _ U g mk q => ⟨q.1, q.2.1, q.2.2.1, am_K.moved (u := U) (U := U.calling g mk _) (Vm.Alike.refl U.vm) q.2.2.2⟩
theorem am_callB {m2 : am_I} {σ1 : am_St} {idx : Nat} {own : String} (hts : ∀ w ∈ lw_good, w.before args s = true) (hRf : d + 1 ≤ R.frames) (hRl : 40 * (d + 1) ≤ R.locals) (hg : am_gd m2) (hml : m2.2.2.2.1 ≤ 20) (hl : Cond.methodLink own idx m2.2.1 ∈ lw_good) (hi : Cond.initialized m2.2.1.cls ∈ lw_good) :
    CallB R s args own idx m2.2.1 m2.2.2.1 m2.2.2.2.1 m2.2.2.2.2.1 (am_wd m2) (am_rm d σ σ1) (σ1.1 - σ.1) (σ1.2.1 - σ.2.1) m2.2.2.2.2.2.1 := by
  obtain ⟨hc, ho⟩ := hg
  simp only [am_okI, Bool.and_eq_true, decide_eq_true_eq, beq_iff_eq] at ho
  refine ⟨rfl, rfl, hRf, by show 8 + (m2.2.2.2.1 + 11) + 40 * d ≤ _; omega, pay_in hts (fun w hw => ?_), List.mem_cons_self, hts _ hc, hts _ hi, ⟨ho.1.1.2, ho.1.2⟩, fun sig h => ?_, hts _ hl⟩
  · rcases List.mem_cons.mp hw with rfl | hw
    · exact ⟨hc, am_good_in hc⟩
    · exact ⟨hw, am_good_in hw⟩
  · have h2 := ho.2
    rw [h] at h2
    exact (Option.some.inj h2).symm
theorem am_back {m2 : am_I} {r : Option Value} {σ1 : am_St} {a : Array Value} {rest : List Value} {st0 : List Value} {sz1 : Nat} (hrun : va_Run p l e R s m args below meth c H locs (σ.1 - n0) (σ.2.1 - z0) (σ1.1 - σ.1) (σ1.2.1 - σ.2.1) (F0 m pc ls st0) (rest.map (am_v base)) (am_Q D cA base sz1 σ r σ1 a) (am_A base sz1 σ.1))
    (hk : am_Wt p l e R s m args below meth c D cA base sz n0 z0 mi Q (pc + 3) L (r.toList ++ rest) σ1) (hp : am_Pt s D cA base sz n0 mi σ L H locs ls) (hn : n0 ≤ σ.1) (hz : z0 ≤ σ.2.1) (hu : σ.1 ≤ σ1.1 ∧ σ.2.1 ≤ σ1.2.1) (hA : ∀ q, am_A base sz1 σ.1 q → am_A base sz n0 q) : W p l e R s m args below meth c H locs (σ.1 - n0) (σ.2.1 - z0) Q (F0 m pc ls st0) := by
  intro T hT Y
  obtain ⟨v, st₀, t, T', Lo, h0, Y', hLo, e1, e2, ⟨hv, ⟨hsz, hP1, -⟩, hF1, hF2⟩, st⟩ := hrun T hT Y
  have hv' : v = r.map (am_v base) := by cases hv; rfl
  subst hv'
  rw [h0] at hF1 hF2
  have hS1 : va_S (am_A base sz n0) s.heap T'.heap (locs ++ Lo) := ⟨Nat.le_trans hp.2.1.1 (by rw [e1]; exact hF1), fun q h1 h2 => by rw [e1, hF2 q (Nat.lt_of_lt_of_le h1 hp.2.1.1) (fun z => h2 (hA q z))]; exact hp.2.1.2.1 q h1 h2, fun q hq => by
      rcases List.mem_append.mp hq with h | h
      · exact hp.2.1.2.2 q h
      · exact hA _ (hLo q h)⟩
  have kk := hk T'.heap (locs ++ Lo) ls ⟨by rw [e1]; exact hP1, hS1, hp.2.2⟩
  rw [show σ1.1 - n0 = σ.1 - n0 + (σ1.1 - σ.1) by omega, show σ1.2.1 - z0 = σ.2.1 - z0 + (σ1.2.1 - σ.2.1) by omega] at kk
  obtain ⟨t2, a1, b1⟩ := kk T' rfl Y'
  refine ⟨t2, st t2 ?_, b1⟩
  have he : (r.map (am_v base)).toList ++ rest.map (am_v base) = (r.toList ++ rest).map (am_v base) := by cases r <;> rfl
  rw [he]
  exact a1
theorem am_calls_k {m2 : am_I} {as rest : List Value} (h : am_calls call m2 as pc L rest σ = some X) (hk : am_Wn p l e R s m args below meth c D cA base sz n0 z0 mi Q X) (hE : ∀ pc' L' S' σ', X = .inl (pc', L', S', σ') → σ'.1 ≤ nE ∧ σ'.2.1 ≤ zE) : (rest.map fun v => v.category).sum ≤ 8 ∧ ∃ r σ1, call m2 as σ = some (r, σ1) ∧ am_Wt p l e R s m args below meth c D cA base sz n0 z0 mi Q (pc + 3) L (r.toList ++ rest) σ1 ∧ σ1.1 ≤ nE ∧ σ1.2.1 ≤ zE := by
  unfold am_calls at h
  split at h
  · rename_i hc
    refine ⟨hc, ?_⟩
    split at h
    · rename_i v σ1 hv
      exact ⟨v, σ1, hv, am_nx_k h hk, hE _ _ _ _ (Option.some.inj h).symm⟩
    · cases h
  · cases h
theorem am_cats {rest : List Value} (h : (rest.map fun v => v.category).sum ≤ 8) : ((rest.map (am_v base)).map fun v => v.category).sum ≤ 8 := by
  rw [List.map_map]
  have : ((fun v : Value => v.category) ∘ am_v base) = (fun v : Value => v.category) := funext (fun v => am_v_cat base v)
  rw [this]
  exact h
theorem am_s_inv {kd idx : Nat} (hC : am_Cx p R s m args meth c D cA base sz n0 z0 nE zE d mi) (hd : (kd = 0 ∧ decode mi.2.2.1 pc = .ok (.invokevirtual idx, 3)) ∨ (kd = 1 ∧ decode mi.2.2.1 pc = .ok (.invokestatic idx, 3)) ∨ (kd = 2 ∧ decode mi.2.2.1 pc = .ok (.invokespecial idx, 3))) (h : am_inv call mi kd idx pc L S σ = some X) (hk : am_Wn p l e R s m args below meth c D cA base sz n0 z0 mi Q X) (hp : am_Pt s D cA base sz n0 mi σ L H locs ls) (hn : n0 ≤ σ.1) (hz : z0 ≤ σ.2.1)
    (hE : ∀ pc' L' S' σ', X = .inl (pc', L', S', σ') → σ'.1 ≤ nE ∧ σ'.2.1 ≤ zE) (hCO : am_CO l D cA base d call) (hup : am_up call) (hσ : σ.1 ≤ nE ∧ σ.2.1 ≤ zE) : W p l e R s m args below meth c H locs (σ.1 - n0) (σ.2.1 - z0) Q (F0 m pc ls (S.map (am_v base))) := by
  obtain ⟨hx, hb, hr, hml, hown, hts, hlk, hnm, hK, ⟨hs, hal⟩, hRf, hRl, hRc, hRs⟩ := hC
  have hlsz : ls.size = mi.2.2.2.1 := hp.2.2.1
  have hD := am_D cA base sz n0 σ (by omega)
  have mcat : ∀ {rest : List Value}, (rest.map fun v => v.category).sum ≤ 8 → ((rest.map (am_v base)).map fun v => v.category).sum + 30 ≤ R.locals := by
    intro rest hq
    have := am_cats (base := base) hq
    omega
  refine am_size (fun hz1 => ?_)
  have hsz := am_sz hp.1 hp.2.1 hs hal hσ.1 hn hz1
  have hA9 : ∀ q, am_A base (sz + (σ.1 - n0)) σ.1 q → am_A base sz n0 q := by
    intro q hq
    refine ⟨hq.1, ?_⟩
    have h9 := hq.2
    omega
  have hPc : ∀ {as : List Value} (U : State), U.heap = H → s.WarmedH U.vm → va_Pc (as.map (am_v base)) (am_P D cA base (sz + (σ.1 - n0)) σ) (as.map (am_v base)).toArray U := fun U hU hW => ⟨rfl, by rw [hU]; exact hsz, by rw [hU]; exact hp.1, am_K.moved hW.alike hK⟩
  unfold am_inv at h
  split at h
  · rcases hd with ⟨-, hd⟩ | ⟨q, -⟩ | ⟨q, -⟩
    · split at h
      · rename_i m2 hm
        obtain ⟨hg, hl, hi, hv, -, -⟩ := am_mth_ok hm
        obtain ⟨w1, w2, h13⟩ := hv rfl
        split at h
        · rename_i b rest hdr
          split at h
          · rename_i hc
            obtain ⟨hcat, r, σ1, hcall, kk, hE1⟩ := am_calls_k h hk hE
            obtain ⟨hM0, hm20⟩ := hCO _ _ _ _ _ hg hcall
            have hu := hup _ _ _ _ _ hcall
            have hM := hM0 (sz + (σ.1 - n0)) (by omega)
            have hcn : m2.2.1.cls = am_Rn m2.1 := by
              have ho := hg.2
              simp only [am_okI, Bool.and_eq_true, decide_eq_true_eq, beq_iff_eq] at ho
              exact ho.1.1.1.1
            have hlen : m2.2.2.2.2.2.1 < S.length := by
              rcases Nat.lt_or_ge m2.2.2.2.2.2.1 S.length with q | q
              · exact q
              · rw [List.drop_eq_nil_of_le q] at hdr; cases hdr
            have hst : S.map (am_v base) = (((S.take m2.2.2.2.2.2.1).reverse).map (am_v base)).reverse ++ .ref (base + b) :: rest.map (am_v base) := by
              rw [List.map_reverse, List.reverse_reverse]
              have e9 : S = S.take m2.2.2.2.2.2.1 ++ (.ref b :: rest) := by rw [← hdr, List.take_append_drop]
              conv => lhs; rw [e9, List.map_append]
              rfl
            refine am_back (m2 := m2) (va_runV (C := am_Rn m2.1) (b := base + b) (As := ((S.take m2.2.2.2.2.2.1).reverse).map (am_v base)) ⟨hx, hb, hml, hown, hts⟩ hM ⟨am_callB hts hRf hRl hg hm20 hl hi, hts _ w1, by rw [← hcn]; exact hts _ w2⟩ ⟨am_Pblind, va_recv hK.1 hp.1 (am_cl_ok m2.1 h13) (by rw [am_wl_at hc.1, am_cell_obj hc.2]), fun U hU hW => hPc U hU hW⟩ rfl (by rw [List.length_map, List.length_reverse, List.length_take]; omega) hlsz hst (lv_room (am_cats hcat)) hd ⟨by omega, by omega⟩) kk hp hn hz hu hA9
          · cases h
        · cases h
      · cases h
    · cases q
    · cases q
  · rcases hd with ⟨q, -⟩ | ⟨-, hd⟩ | ⟨q, -⟩
    · cases q
    · split at h
      · rename_i hisC
        obtain ⟨ec, hec1, hec2⟩ := List.any_eq_true.mp hisC
        simp only [Bool.and_eq_true, beq_iff_eq] at hec2
        have hlk := am_at_mem (List.all_eq_true.mp am_oky_all ec hec1)
        rw [hec2.1, hec2.2] at hlk
        split at h
        · rename_i n dp d0 sp s0 rest
          unfold am_copy at h
          split at h
          · rename_i hc
            obtain ⟨c1, c2, c3, c4, c5, c6, c7, c8, c9, c10⟩ := hc
            have hcp : ((rest.map (am_v base)).map fun v => v.category).sum + (nativeFrameWords "java/lang/System" "arraycopy" 5 + 11) ≤ R.locals := by
              have h8 := am_cats (base := base) c10
              have e9 : nativeFrameWords "java/lang/System" "arraycopy" 5 ≤ 20 := by decide
              omega
            have hf1 : 1 ≤ R.frames := by omega
            refine va_copyi hx hb (by rw [hml, hlsz]) hown (hts _ hlk) (hts _ (am_at_mem am_okY.1)) (hts _ (am_at_mem am_okY.2.1)) (hts _ (am_at_mem am_okY.2.2)) hK.1 hp.1 hD hp.2.1 s0 d0 0 0 (by rw [am_wl_at c1, am_cell_int c3]) (by rw [am_wl_at c2, am_cell_int c4]) rfl rfl rfl c5 c6 c7 c8 c9 (fun _ _ => rfl) hf1 hcp hd (fun H1 locs1 hP1 _ hS1 => ?_)
            rw [am_wl_cp c4] at hP1
            exact am_nx_k h hk _ _ _ ⟨hP1, hS1, hp.2.2⟩
          · cases h
        · cases h
      · split at h
        · rename_i hisX
          obtain ⟨ec, hec1, hec2⟩ := List.any_eq_true.mp hisX
          simp only [Bool.and_eq_true, beq_iff_eq] at hec2
          have hlk := am_at_mem (List.all_eq_true.mp am_okx_all ec hec1)
          rw [hec2.1, hec2.2] at hlk
          split at h
          · split at h
            · rename_i hc
              exact va_mmax hx hb (by rw [hml, hlsz]) hown (hts _ hlk) (hts _ (am_at_mem am_okX.1)) (hts _ (am_at_mem am_okX.2.1)) (hts _ (am_at_mem am_okX.2.2)) (by omega) (by have := mcat hc; omega) (by omega) (by omega) hd (am_nx_k h hk _ _ _ hp)
            · cases h
          · cases h
        · split at h
          · rename_i hisM
            obtain ⟨ec, hec1, hec2⟩ := List.any_eq_true.mp hisM
            simp only [Bool.and_eq_true, beq_iff_eq] at hec2
            have hlk := am_at_mem (List.all_eq_true.mp am_okn_all ec hec1)
            rw [hec2.1, hec2.2] at hlk
            split at h
            · split at h
              · rename_i hc
                exact va_mmin hx hb (by rw [hml, hlsz]) hown (hts _ hlk) (hts _ (am_at_mem am_okN.1)) (hts _ (am_at_mem am_okN.2.1)) (hts _ (am_at_mem am_okN.2.2)) (by omega) (by have := mcat hc; omega) (by omega) (by omega) hd (am_nx_k h hk _ _ _ hp)
              · cases h
            · cases h
          · split at h
            · rename_i m2 hm
              obtain ⟨hg, hl, hi, -, hv, -⟩ := am_mth_ok hm
              have w1 := hv rfl
              split at h
              · rename_i hlen
                obtain ⟨hcat, r, σ1, hcall, kk, hE1⟩ := am_calls_k h hk hE
                obtain ⟨hM0, hm20⟩ := hCO _ _ _ _ _ hg hcall
                have hu := hup _ _ _ _ _ hcall
                have hM := hM0 (sz + (σ.1 - n0)) (by omega)
                have hst : S.map (am_v base) = (((S.take m2.2.2.2.2.2.1).reverse).map (am_v base)).reverse ++ (S.drop m2.2.2.2.2.2.1).map (am_v base) := by
                  rw [List.map_reverse, List.reverse_reverse, ← List.map_append, List.take_append_drop]
                refine am_back (m2 := m2) (va_runS (As := ((S.take m2.2.2.2.2.2.1).reverse).map (am_v base)) ⟨hx, hb, hml, hown, hts⟩ hM ⟨am_callB hts hRf hRl hg hm20 hl hi, hts _ w1⟩ ⟨am_Pblind, fun U hU hW => hPc U hU hW⟩ rfl (by rw [List.length_map, List.length_reverse, List.length_take]; omega) hlsz hst (lv_room (am_cats hcat)) hd ⟨by omega, by omega⟩) kk hp hn hz hu hA9
              · cases h
            · cases h
    · cases q
  · rename_i hn0 hn1
    rcases hd with ⟨q, -⟩ | ⟨q, -⟩ | ⟨-, hd⟩
    · exact absurd q hn0
    · exact absurd q hn1
    · split at h
      · rename_i hisO
        obtain ⟨ec, hec1, hec2⟩ := List.any_eq_true.mp hisO
        simp only [Bool.and_eq_true, beq_iff_eq] at hec2
        have hlk := am_at_mem (List.all_eq_true.mp am_oko_all ec hec1)
        rw [hec2.1, hec2.2] at hlk
        split at h
        · split at h
          · rename_i hc
            exact W.objInit hx hb hown (hts _ hlk) (hts _ (am_at_mem am_okO.1)) (hts _ (am_at_mem am_okO.2)) rfl (by rw [hml]; exact hlsz) rfl hd (by omega) (by have := mcat hc; show 2 * 0 + _ + 12 ≤ _; omega) (am_nx_k h hk _ _ _ hp)
          · cases h
        · cases h
      · split at h
        · rename_i m2 hm
          obtain ⟨hg, hl, hi, -, -, hv⟩ := am_mth_ok hm
          obtain ⟨w1, w2, w3⟩ := hv rfl
          split at h
          · rename_i b rest hdr
            obtain ⟨hcat, r, σ1, hcall, kk, hE1⟩ := am_calls_k h hk hE
            obtain ⟨hM0, hm20⟩ := hCO _ _ _ _ _ hg hcall
            have hu := hup _ _ _ _ _ hcall
            have hM := hM0 (sz + (σ.1 - n0)) (by omega)
            have hlen : m2.2.2.2.2.2.1 < S.length := by
              rcases Nat.lt_or_ge m2.2.2.2.2.2.1 S.length with q | q
              · exact q
              · rw [List.drop_eq_nil_of_le q] at hdr; cases hdr
            have hst : S.map (am_v base) = (((S.take m2.2.2.2.2.2.1).reverse).map (am_v base)).reverse ++ .ref (base + b) :: rest.map (am_v base) := by
              rw [List.map_reverse, List.reverse_reverse]
              have e9 : S = S.take m2.2.2.2.2.2.1 ++ (.ref b :: rest) := by rw [← hdr, List.take_append_drop]
              conv => lhs; rw [e9, List.map_append]
              rfl
            have hB := am_callB (σ := σ) (σ1 := σ1) hts hRf hRl hg hm20 hl hi
            rw [w3] at hB
            refine am_back (m2 := m2) (va_runI (b := base + b) (As := ((S.take m2.2.2.2.2.2.1).reverse).map (am_v base)) ⟨hx, hb, hml, hown, hts⟩ hM ⟨hB, w2, hts _ w1⟩ ⟨am_Pblind, fun U hU hW => hPc U hU hW⟩ rfl (by rw [List.length_map, List.length_reverse, List.length_take]; omega) hlsz hst (lv_room (am_cats hcat)) hd ⟨by omega, by omega⟩) kk hp hn hz hu hA9
          · cases h
        · cases h
end AMS3
end
section
section AMS4
variable {p : Program} {l : Launch} {e : Env} {R : Room} {s : State} {m : MethodId} {args : Array Value} {below : List Frame} {meth : Method} {c : Code} {H : Heap} {locs : List Loc} {Q : State → Prop}
variable {D : va_G} {cA : Nat → ClassId} {base sz n0 z0 nE zE d : Nat} {mi : am_I} {pc : Nat} {L : am_L} {S : List Value} {σ : am_St} {ls : Array Slot} {X : am_N}
variable {call : am_I → List Value → am_St → Option (Option Value × am_St)}
def am_ge (σ : am_St) (X : am_N) : Prop := match X with
  | .inl (_, _, _, σ') => σ.1 ≤ σ'.1 ∧ σ.2.1 ≤ σ'.2.1
  | .inr (_, σ') => σ.1 ≤ σ'.1 ∧ σ.2.1 ≤ σ'.2.1
theorem am_ge_nx {σ1 : am_St} (h : am_nx pc L S σ1 = some X) (h1 : σ.1 ≤ σ1.1 ∧ σ.2.1 ≤ σ1.2.1) : am_ge σ X := by
  obtain rfl := Option.some.inj h
  exact h1
theorem am_ge_jp {off : Int} (h : am_jp pc off L S σ = some X) : am_ge σ X := by
  unfold am_jp at h
  split at h
  · obtain rfl := Option.some.inj h
    exact ⟨Nat.le_refl _, Nat.le_refl _⟩
  · cases h
theorem am_ge_stp {i : Nat} {v : Value} (h : am_stp mi pc i L v S σ = some X) : am_ge σ X := by
  unfold am_stp at h
  split at h
  · exact am_ge_nx h ⟨Nat.le_refl _, Nat.le_refl _⟩
  · cases h
theorem am_rf2 : σ.1 ≤ σ.1 ∧ σ.2.1 ≤ σ.2.1 := ⟨Nat.le_refl _, Nat.le_refl _⟩
theorem am_ge_calls {m2 : am_I} {as rest : List Value} (hup : am_up call) (h : am_calls call m2 as pc L rest σ = some X) : am_ge σ X := by
  unfold am_calls at h
  split at h
  · split at h
    · rename_i hv
      exact am_ge_nx h (hup _ _ _ _ _ hv)
    · cases h
  · cases h
theorem am_ge_inv {kd idx : Nat} (hup : am_up call) (h : am_inv call mi kd idx pc L S σ = some X) : am_ge σ X := by
  unfold am_inv at h
  split at h
  · split at h
    · split at h
      · split at h
        · exact am_ge_calls hup h
        · cases h
      · cases h
    · cases h
  · split at h
    · split at h
      · unfold am_copy at h
        split at h
        · exact am_ge_nx h am_rf2
        · cases h
      · cases h
    · split at h
      · split at h
        · split at h
          · exact am_ge_nx h am_rf2
          · cases h
        · cases h
      · split at h
        · split at h
          · split at h
            · exact am_ge_nx h am_rf2
            · cases h
          · cases h
        · split at h
          · split at h
            · exact am_ge_calls hup h
            · cases h
          · cases h
  · split at h
    · split at h
      · split at h
        · exact am_ge_nx h am_rf2
        · cases h
      · cases h
    · split at h
      · split at h
        · exact am_ge_calls hup h
        · cases h
      · cases h
theorem am_ge_get {idx : Nat} (h : am_get mi idx pc L S σ = some X) : am_ge σ X := by
  unfold am_get at h
  repeat' split at h
  all_goals first | (cases h; done) | exact am_ge_nx h am_rf2
theorem am_ge_put {idx : Nat} (h : am_put mi idx pc L S σ = some X) : am_ge σ X := by
  unfold am_put at h
  repeat' split at h
  all_goals first | (cases h; done) | exact am_ge_nx h am_rf2
theorem am_ge_arr {ins : Instr} (h : am_arr ins pc L S σ = some X) : am_ge σ X := by
  unfold am_arr at h
  repeat' split at h
  all_goals first | (cases h; done) | exact am_ge_nx h am_rf2
theorem am_ge_mk {ins : Instr} (h : am_mk mi ins pc L S σ = some X) : am_ge σ X := by
  unfold am_mk at h
  repeat' split at h
  all_goals first | (cases h; done) | exact am_ge_nx h ⟨Nat.le_add_right _ _, Nat.le_add_right _ _⟩
theorem am_ge_ar {ins : Instr} (h : am_ar ins pc L S σ = some X) : am_ge σ X := by
  unfold am_ar at h
  repeat' split at h
  all_goals first | (cases h; done) | exact am_ge_nx h am_rf2
theorem am_ge_lds {n len i : Nat} (h : am_lds n len pc i L S σ = some X) : am_ge σ X := by
  unfold am_lds at h
  repeat' split at h
  all_goals first | (cases h; done) | exact am_ge_nx h am_rf2
theorem am_ge_sts {n len i : Nat} (h : am_sts n len mi pc i L S σ = some X) : am_ge σ X := by
  unfold am_sts at h
  repeat' split at h
  all_goals first | (cases h; done) | exact am_ge_stp h
theorem am_ge_bra {ins : Instr} (h : am_bra ins pc L S σ = some X) : am_ge σ X := by
  unfold am_bra at h
  repeat' split at h
  all_goals first | (cases h; done) | exact am_ge_jp h | exact am_ge_nx h am_rf2
theorem am_ge_ret {ins : Instr} (h : am_ret mi ins S σ = some X) : am_ge σ X := by
  unfold am_ret at h
  repeat' split at h
  all_goals first | (cases h; done) | (obtain rfl := Option.some.inj h; exact am_rf2)
theorem am_ge_ins {ins : Instr} {len : Nat} (hup : am_up call) (h : am_ins call mi ins len pc L S σ = some X) : am_ge σ X := by
  unfold am_ins at h
  repeat' split at h
  all_goals first | (cases h; done) | exact am_ge_nx h am_rf2 | exact am_ge_lds h | exact am_ge_sts h | exact am_ge_stp h | exact am_ge_get h | exact am_ge_put h | exact am_ge_inv hup h | exact am_ge_mk h | exact am_ge_ret h | exact am_ge_bra h | exact am_ge_arr h | exact am_ge_ar h
theorem am_ge_step (hup : am_up call) (h : am_step call mi pc L S σ = some X) : am_ge σ X := by
  unfold am_step at h
  split at h
  · exact am_ge_ins hup h
  · cases h
theorem am_ge_go (hup : am_up call) {r : Option Value} {σ' : am_St} : ∀ (f pc : Nat) (L : am_L) (S : List Value) (σ : am_St), am_go call mi f pc L S σ = some (r, σ') → σ.1 ≤ σ'.1 ∧ σ.2.1 ≤ σ'.2.1 := by
  intro f
  induction f with
  | zero => intro pc L S σ h; exact absurd h (by simp [am_go])
  | succ f ih =>
    intro pc L S σ h
    unfold am_go at h
    match hq : am_step call mi pc L S σ with
    | none => rw [hq] at h; cases h
    | some (.inr x) =>
      rw [hq] at h
      have := am_ge_step hup hq
      cases h
      exact this
    | some (.inl (pc', L', S', σ1)) =>
      rw [hq] at h
      have h1 := am_ge_step hup hq
      have h2 := ih _ _ _ _ h
      exact ⟨Nat.le_trans h1.1 h2.1, Nat.le_trans h1.2 h2.2⟩
theorem am_up_run : ∀ d, am_up (am_run d) := by
  intro d
  induction d with
  | zero => intro m2 as σ r σ1 h; cases h
  | succ d ih =>
    intro m2 as σ r σ1 h
    unfold am_run at h
    split at h
    · obtain ⟨f, hf⟩ := am_lim_iff.mp h
      exact am_ge_go ih f _ _ _ _ hf
    · cases h
/-- returns -/
theorem am_s_ret {ins : Instr} {r : Option Value} {σE : am_St} (hC : am_Cx p R s m args meth c D cA base sz n0 z0 nE zE d mi) (hd : decode mi.2.2.1 pc = .ok (ins, 1)) (h : am_ret mi ins S σ = some (.inr (r, σE))) (hp : am_Pt s D cA base sz n0 mi σ L H locs ls) (hn : n0 ≤ σ.1) (hσ : σ.1 ≤ nE) {σ0 : am_St} (h0 : σ0.1 = n0) : W p l e R s m args below meth c H locs (σ.1 - n0) (σ.2.1 - z0) (MQ below (am_Q D cA base sz σ0 r σE) args s (σE.1 - n0) (σE.2.1 - z0) (am_A base sz n0)) (F0 m pc ls (S.map (am_v base))) := by
  obtain ⟨hx, hb, hr, -, -, -, hlk, -, hK, ⟨hs, hal⟩, -⟩ := hC
  subst h0
  refine am_size (fun hz1 => ?_)
  have hsz := am_sz hp.1 hp.2.1 hs hal hσ hn hz1
  have hPt : ∀ t : State, t.heap = H → s.WarmedH t.vm → am_P D cA base (sz + (σ.1 - σ0.1)) σ t := fun t ht hW => ⟨by rw [ht]; exact hsz, by rw [ht]; exact hp.1, am_K.moved hW.alike hK⟩
  unfold am_ret at h
  split at h
  · rename_i v ty he
    split at h
    · rename_i hc
      cases h
      exact W.zret hx hb (hr.trans he) hc (fun t ht hW => ⟨rfl, hPt t ht hW, hp.2.1.F ht⟩) hp.2.1.2.2 hd hlk
    · cases h
  · rename_i he
    cases h
    exact W.vret hx hb (hr.trans he) (fun t ht hW => ⟨rfl, hPt t ht hW, hp.2.1.F ht⟩) hp.2.1.2.2 hd hlk
  · rename_i v n he
    cases h
    exact W.aret (v := .ref (base + v)) hx hb (hr.trans he) (Or.inl ⟨n, rfl⟩) (Or.inr ⟨_, rfl⟩) (fun t ht hW => ⟨rfl, hPt t ht hW, hp.2.1.F ht⟩) hp.2.1.2.2 hd hlk
  · cases h
theorem am_con_ok {own idx : Nat} {v : Int32} (h : am_co own idx = some v) : Cond.constant (am_Rn own) idx v ∈ lw_good := by
  unfold am_co at h
  obtain ⟨e, he, h1⟩ := Option.map_eq_some_iff.mp h
  have hm := List.mem_of_find?_eq_some he
  have hf := List.find?_some he
  simp only [Bool.and_eq_true, beq_iff_eq] at hf
  have hk := am_at_mem (List.all_eq_true.mp am_okk_all e hm)
  rw [hf.1, hf.2, h1] at hk
  exact hk
theorem am_conj_ok {own idx : Nat} {v : Int64} (h : am_cj own idx = some v) : Cond.constantLong (am_Rn own) idx v ∈ lw_good := by
  unfold am_cj at h
  obtain ⟨e, he, h1⟩ := Option.map_eq_some_iff.mp h
  have hm := List.mem_of_find?_eq_some he
  have hf := List.find?_some he
  simp only [Bool.and_eq_true, beq_iff_eq] at hf
  have hk := am_at_mem (List.all_eq_true.mp am_okj_all e hm)
  rw [hf.1, hf.2, h1] at hk
  exact hk
/-- every instruction that isn't a return -/
theorem am_s_ins {ins : Instr} {len : Nat} (hC : am_Cx p R s m args meth c D cA base sz n0 z0 nE zE d mi) (hd : decode mi.2.2.1 pc = .ok (ins, len)) (h : am_ins call mi ins len pc L S σ = some X) (hX : ∃ q, X = .inl q) (hk : am_Wn p l e R s m args below meth c D cA base sz n0 z0 mi Q X) (hp : am_Pt s D cA base sz n0 mi σ L H locs ls) (hn : n0 ≤ σ.1) (hz : z0 ≤ σ.2.1)
    (hE : ∀ pc' L' S' σ', X = .inl (pc', L', S', σ') → σ'.1 ≤ nE ∧ σ'.2.1 ≤ zE) (hCO : am_CO l D cA base d call) (hup : am_up call) (hσ : σ.1 ≤ nE ∧ σ.2.1 ≤ zE) : W p l e R s m args below meth c H locs (σ.1 - n0) (σ.2.1 - z0) Q (F0 m pc ls (S.map (am_v base))) := by
  have hC' := hC
  obtain ⟨hx, hb, -, -, hown, hts, -⟩ := hC'
  have nret : ∀ {i : Instr}, am_ret mi i S σ = some X → False := by
    intro i hi
    obtain ⟨q, rfl⟩ := hX
    unfold am_ret at hi
    repeat' split at hi
    all_goals cases hi
  unfold am_ins at h
  split at h
  · split at h
    · rename_i hl; subst hl; exact lv_iconst hx hb hd rfl (am_nx_k h hk _ _ _ hp)
    · cases h
  · split at h
    · rename_i hl; subst hl; exact lv_bipush hx hb hd rfl (am_nx_k h hk _ _ _ hp)
    · cases h
  · split at h
    · rename_i hl; subst hl; exact lv_sipush hx hb hd rfl (am_nx_k h hk _ _ _ hp)
    · cases h
  · split at h
    · rename_i hl; subst hl; exact lv_lconst hx hb hd rfl (am_nx_k h hk _ _ _ hp)
    · cases h
  · split at h
    · rename_i hl; subst hl
      split at h
      · rename_i hv; exact lv_ldc hx hb hown (hts _ (am_con_ok hv)) hd (am_nx_k h hk _ _ _ hp)
      · cases h
    · cases h
  · split at h
    · rename_i hl; subst hl
      split at h
      · rename_i hv; exact lv_ldcw hx hb hown (hts _ (am_con_ok hv)) hd (am_nx_k h hk _ _ _ hp)
      · cases h
    · cases h
  · split at h
    · rename_i hl; subst hl
      split at h
      · rename_i hv; exact lv_ldc2 hx hb hown (hts _ (am_conj_ok hv)) hd (am_nx_k h hk _ _ _ hp)
      · cases h
    · cases h
  · split at h
    · rename_i k hl; subst hl; exact am_s_lds hC (Or.inl ⟨rfl, Or.inl ⟨k, rfl, rfl, hd⟩⟩) h hk hp
    · cases h
  · split at h
    · rename_i hl; subst hl; exact am_s_lds hC (Or.inl ⟨rfl, Or.inr ⟨rfl, hd⟩⟩) h hk hp
    · cases h
  · split at h
    · rename_i k hl; subst hl; exact am_s_lds hC (Or.inr (Or.inl ⟨rfl, Or.inl ⟨k, rfl, rfl, hd⟩⟩)) h hk hp
    · cases h
  · split at h
    · rename_i hl; subst hl; exact am_s_lds hC (Or.inr (Or.inl ⟨rfl, Or.inr ⟨rfl, hd⟩⟩)) h hk hp
    · cases h
  · split at h
    · rename_i k hl; subst hl; exact am_s_lds hC (Or.inr (Or.inr ⟨rfl, Or.inl ⟨k, rfl, rfl, hd⟩⟩)) h hk hp
    · cases h
  · split at h
    · rename_i hl; subst hl; exact am_s_lds hC (Or.inr (Or.inr ⟨rfl, Or.inr ⟨rfl, hd⟩⟩)) h hk hp
    · cases h
  · split at h
    · rename_i k hl; subst hl; exact am_s_sts hC (Or.inl ⟨rfl, Or.inl ⟨k, rfl, rfl, hd⟩⟩) h hk hp
    · cases h
  · split at h
    · rename_i hl; subst hl; exact am_s_sts hC (Or.inl ⟨rfl, Or.inr ⟨rfl, hd⟩⟩) h hk hp
    · cases h
  · split at h
    · rename_i k hl; subst hl; exact am_s_sts hC (Or.inr ⟨rfl, Or.inl ⟨k, rfl, rfl, hd⟩⟩) h hk hp
    · cases h
  · split at h
    · rename_i hl; subst hl; exact am_s_sts hC (Or.inr ⟨rfl, Or.inr ⟨rfl, hd⟩⟩) h hk hp
    · cases h
  · split at h
    · rename_i hl; subst hl
      split at h
      · rename_i hv; exact am_s_iinc hC hd hv h hk hp
      · cases h
    · cases h
  · split at h
    · rename_i hl; subst hl; exact am_s_get hC hd h hk hp
    · cases h
  · split at h
    · rename_i hl; subst hl; exact am_s_put hC hd h hk hσ.1 hp
    · cases h
  · split at h
    · rename_i hl; subst hl; exact am_s_inv hC (Or.inl ⟨rfl, hd⟩) h hk hp hn hz hE hCO hup hσ
    · cases h
  · split at h
    · rename_i hl; subst hl; exact am_s_inv hC (Or.inr (Or.inl ⟨rfl, hd⟩)) h hk hp hn hz hE hCO hup hσ
    · cases h
  · split at h
    · rename_i hl; subst hl; exact am_s_inv hC (Or.inr (Or.inr ⟨rfl, hd⟩)) h hk hp hn hz hE hCO hup hσ
    · cases h
  · split at h
    · rename_i hl; subst hl; exact am_s_mk hC hd ⟨fun _ => rfl, (fun ⟨_, q⟩ => by cases q), (fun ⟨_, q⟩ => by cases q)⟩ h hk hp hn hz hE
    · cases h
  · split at h
    · rename_i hl; subst hl; exact am_s_mk hC hd ⟨(fun ⟨_, q⟩ => by cases q), fun _ => rfl, (fun ⟨_, q⟩ => by cases q)⟩ h hk hp hn hz hE
    · cases h
  · split at h
    · rename_i hl; subst hl; exact am_s_mk hC hd ⟨(fun ⟨_, q⟩ => by cases q), (fun ⟨_, q⟩ => by cases q), fun _ => rfl⟩ h hk hp hn hz hE
    · cases h
  · split at h
    · exact (nret h).elim
    · cases h
  · split at h
    · exact (nret h).elim
    · cases h
  · split at h
    · exact (nret h).elim
    · cases h
  · split at h
    · rename_i hl; subst hl; exact am_s_bra hC hd (fun _ => rfl) h hk hp
    · cases h
  · split at h
    · rename_i hl; subst hl; exact am_s_bra hC hd (fun _ => rfl) h hk hp
    · cases h
  · split at h
    · rename_i hl; subst hl; exact am_s_bra hC hd (fun _ => rfl) h hk hp
    · cases h
  · split at h
    · rename_i hl; subst hl; exact am_s_bra hC hd (fun _ => rfl) h hk hp
    · cases h
  · exact am_s_bra hC hd (fun q => by rcases q with ⟨_, _, q⟩ | ⟨_, _, q⟩ | ⟨_, q⟩ | ⟨_, q⟩ <;> cases q) h hk hp
  · exact am_s_bra hC hd (fun q => by rcases q with ⟨_, _, q⟩ | ⟨_, _, q⟩ | ⟨_, q⟩ | ⟨_, q⟩ <;> cases q) h hk hp
  · split at h
    · rename_i hl; subst hl; exact am_s_arr hC hd h hk hσ.1 hp
    · cases h
  · split at h
    · rename_i hl; subst hl; exact am_s_arr hC hd h hk hσ.1 hp
    · cases h
  · split at h
    · rename_i hl; subst hl; exact am_s_arr hC hd h hk hσ.1 hp
    · cases h
  · split at h
    · rename_i hl; subst hl; exact am_s_arr hC hd h hk hσ.1 hp
    · cases h
  · split at h
    · rename_i hl; subst hl; exact am_s_arr hC hd h hk hσ.1 hp
    · cases h
  · split at h
    · rename_i hl; subst hl; exact am_s_arr hC hd h hk hσ.1 hp
    · cases h
  · split at h
    · rename_i hl; subst hl; exact am_s_arr hC hd h hk hσ.1 hp
    · cases h
  · split at h
    · rename_i hl; subst hl; exact am_s_ar hC hd h hk hp
    · cases h
/-- a return is one -/
theorem am_ins_ret {ins : Instr} {len : Nat} {r : Option Value} {σE : am_St} (h : am_ins call mi ins len pc L S σ = some (.inr (r, σE))) : len = 1 ∧ am_ret mi ins S σ = some (.inr (r, σE)) := by
  have nx : ∀ {pc L S σ1}, am_nx pc L S σ1 = some (.inr (r, σE)) → False := fun h => by cases h
  have jp : ∀ {pc off L S σ1}, am_jp pc off L S σ1 = some (.inr (r, σE)) → False := fun h => by
    unfold am_jp at h
    split at h <;> cases h
  have sp : ∀ {pc i L v S σ1}, am_stp mi pc i L v S σ1 = some (.inr (r, σE)) → False := fun h => by
    unfold am_stp at h
    split at h <;> cases h
  have cs : ∀ {m2 as pc L rest σ1}, am_calls call m2 as pc L rest σ1 = some (.inr (r, σE)) → False := fun h => by
    unfold am_calls at h
    repeat' split at h
    all_goals cases h
  unfold am_ins at h
  repeat' split at h
  all_goals first
    | (cases h; done)
    | exact (nx h).elim
    | exact (sp h).elim
    | (rename_i hl; exact ⟨hl, h⟩)
    | (exfalso; unfold am_lds at h; repeat' split at h
       all_goals first | (cases h; done) | exact nx h)
    | (exfalso; unfold am_sts at h; repeat' split at h
       all_goals first | (cases h; done) | exact sp h)
    | (exfalso; unfold am_get at h; repeat' split at h
       all_goals first | (cases h; done) | exact nx h)
    | (exfalso; unfold am_put at h; repeat' split at h
       all_goals first | (cases h; done) | exact nx h)
    | (exfalso; unfold am_mk at h; repeat' split at h
       all_goals first | (cases h; done) | exact nx h)
    | (exfalso; unfold am_bra at h; repeat' split at h
       all_goals first | (cases h; done) | exact nx h | exact jp h)
    | (exfalso; unfold am_arr at h; repeat' split at h
       all_goals first | (cases h; done) | exact nx h)
    | (exfalso; unfold am_ar at h; repeat' split at h
       all_goals first | (cases h; done) | exact nx h)
    | (exfalso; unfold am_inv am_copy at h; repeat' split at h
       all_goals first | (cases h; done) | exact nx h | exact cs h)
theorem am_s_go {r : Option Value} {σE : am_St} (hC : am_Cx p R s m args meth c D cA base sz n0 z0 σE.1 σE.2.1 d mi) (hCO : am_CO l D cA base d call) (hup : am_up call) {σ0 : am_St} (h0 : σ0.1 = n0) : ∀ (f pc : Nat) (L : am_L) (S : List Value) (σ : am_St), am_go call mi f pc L S σ = some (r, σE) → n0 ≤ σ.1 → z0 ≤ σ.2.1 → am_Wt p l e R s m args below meth c D cA base sz n0 z0 mi (MQ below (am_Q D cA base sz σ0 r σE) args s (σE.1 - n0) (σE.2.1 - z0) (am_A base sz n0)) pc L S σ := by
  intro f
  induction f with
  | zero => intro pc L S σ h; exact absurd h (by simp [am_go])
  | succ f ih =>
    intro pc L S σ h hn hz H locs ls hp
    have hσ := am_ge_go hup _ _ _ _ _ h
    unfold am_go at h
    match hq : am_step call mi pc L S σ with
    | none => rw [hq] at h; cases h
    | some (.inr x) =>
      rw [hq] at h
      obtain rfl := Option.some.inj h
      unfold am_step at hq
      split at hq
      · rename_i ins len hd
        obtain ⟨rfl, hr⟩ := am_ins_ret hq
        exact am_s_ret hC hd hr hp hn hσ.1 h0
      · cases hq
    | some (.inl (pc', L', S', σ1)) =>
      rw [hq] at h
      have h1 := am_ge_step hup hq
      have h2 := am_ge_go hup _ _ _ _ _ h
      unfold am_step at hq
      split at hq
      · rename_i ins len hd
        refine am_s_ins hC hd hq ⟨_, rfl⟩ (ih _ _ _ _ h (Nat.le_trans hn h1.1) (Nat.le_trans hz h1.2)) hp hn hz (fun _ _ _ σ' q => ?_) hCO hup hσ
        cases q
        exact h2
      · cases hq
end AMS4
end
section
theorem am_ex_args (base : Nat) : ∀ (as : List Value) (i k : Nat) (v : Value), (am_ex as)[i]? = some (some v) → (k + i, am_v base v) ∈ lv_args k (as.map (am_v base)) ∧ v ∈ as := by
  intro as
  induction as with
  | nil => intro i k v h; simp [am_ex] at h
  | cons a as ih =>
    intro i k v h
    have e : am_ex (a :: as) = (if a.category = 2 then [some a, none] else [some a]) ++ am_ex as := by simp [am_ex]
    rw [e] at h
    rw [List.map_cons]
    unfold lv_args
    rw [am_v_cat]
    by_cases hc : a.category = 2
    · rw [if_pos hc] at h
      rw [if_pos hc]
      match i, h with
      | 0, h =>
        simp at h
        subst h
        exact ⟨List.mem_cons_self, List.mem_cons_self⟩
      | 1, h => simp at h
      | i + 2, h =>
        have h' : (am_ex as)[i]? = some (some v) := by simpa using h
        obtain ⟨h1, h2⟩ := ih i (k + 2) v h'
        refine ⟨List.mem_cons_of_mem _ ?_, List.mem_cons_of_mem _ h2⟩
        rw [show k + (i + 2) = k + 2 + i by omega]
        exact h1
    · rw [if_neg hc] at h
      rw [if_neg hc]
      match i, h with
      | 0, h =>
        simp at h
        subst h
        exact ⟨List.mem_cons_self, List.mem_cons_self⟩
      | i + 1, h =>
        have h' : (am_ex as)[i]? = some (some v) := by simpa using h
        obtain ⟨h1, h2⟩ := ih i (k + 1) v h'
        refine ⟨List.mem_cons_of_mem _ ?_, List.mem_cons_of_mem _ h2⟩
        rw [show k + (i + 1) = k + 1 + i by omega]
        exact h1
theorem am_ex_len (base : Nat) (as : List Value) : (lg_sl (as.map (am_v base))).length = (am_ex as).length := by
  induction as with
  | nil => rfl
  | cons a as ih =>
    have e1 : am_ex (a :: as) = (if a.category = 2 then [some a, none] else [some a]) ++ am_ex as := by simp [am_ex]
    have e2 : lg_sl ((a :: as).map (am_v base)) = (if (am_v base a).category = 2 then [Slot.val (am_v base a), .second] else [Slot.val (am_v base a)]) ++ lg_sl (as.map (am_v base)) := by simp [lg_sl]
    rw [e1, e2, am_v_cat, List.length_append, List.length_append, ih]
    split <;> rfl
theorem am_en_at {mi : am_I} {as : List Value} {i : Nat} {v : Value} (h : (am_en mi as)[i]? = some (some v)) : (am_ex as)[i]? = some (some v) := by
  unfold am_en at h
  by_cases hi : i < (am_ex as).length
  · rw [List.getElem?_append_left hi] at h
    exact h
  · rw [List.getElem?_append_right (by omega), List.getElem?_replicate] at h
    split at h <;> cases h
/-- THE SOUNDNESS of the abstract machine: what it answers, the Java machine answers -/
theorem am_sound (l : Launch) (D : va_G) (cA : Nat → ClassId) (base : Nat) : ∀ d, am_CO l D cA base d (am_run d) := by
  intro d
  induction d with
  | zero => intro m2 as σ r σ1 _ h; cases h
  | succ d ih =>
    intro m2 as σ r σ1 hg h
    unfold am_run at h
    split at h
    · rename_i hc
      refine ⟨fun sz hal => ?_, hc.2.1⟩
      obtain ⟨f, hf⟩ := am_lim_iff.mp h
      have ho := hg.2
      simp only [am_okI, Bool.and_eq_true, decide_eq_true_eq, beq_iff_eq] at ho
      refine Met.ofW (cc := m2.2.2.1) (maxL := m2.2.2.2.1) (ret := m2.2.2.2.2.1) ho.1.1.1.2 rfl ?_
      intro p e s m args below meth c s₁ B hml hv
      obtain ⟨rfl, hsz, hP, hK⟩ := hv
      have hts := atoms_spec (ws := am_wd m2) B.pre
      have hown : s.vm.findClass m2.2.1.cls = some m.cls := findClass_of_methodNamed B.named
      rw [ho.1.1.1.1] at hown
      have hC : am_Cx p (headSpec (am_wd m2) (am_rm (d + 1) σ σ1)).room s m (as.map (am_v base)).toArray meth c D cA base sz σ.1 σ.2.1 σ1.1 σ1.2.1 d m2 := ⟨B.exec, B.bytes, B.returns, hml, hown, fun w hw => hts w (List.mem_cons_of_mem _ hw), B.notSynchronized, (name_of_methodNamed B.named B.method).1, hK, ⟨hsz, hal⟩, Nat.le_refl _, Nat.le_refl _, Nat.le_refl _, Nat.le_refl _⟩
      have key := am_s_go (below := below) (e := e) hC ih (am_up_run d) (σ0 := σ) rfl f 0 (am_en m2 as) [] σ hf (Nat.le_refl _) (Nat.le_refl _)
      have hl := lv_entry (as.map (am_v base)) (n := m2.2.2.2.1) (by rw [am_ex_len]; exact hc.1)
      rw [lg_entry_eq]
      generalize (lg_sl (as.map (am_v base)) ++ List.replicate (m2.2.2.2.1 - (lg_sl (as.map (am_v base))).length) Slot.unset).toArray = ls at hl ⊢
      have hlr : am_lr base m2.2.2.2.1 m2.2.2.2.2.2.2 (am_en m2 as) ls := by
        refine ⟨hl.1, hl.2.1, fun i v hi => ?_, fun hlg i v hi => ?_⟩
        · have h1 := (am_ex_args base as i 0 v (am_en_at hi)).1
          rw [Nat.zero_add] at h1
          exact hl.2.2 _ h1
        · have h1 := (am_ex_args base as i 0 v (am_en_at hi)).2
          rcases hc.2.2 with q | q
          · rw [hlg] at q; cases q
          · simpa using List.all_eq_true.mp q v h1
      have k2 := key s.heap [] ls ⟨hP, va_S.rf, hlr⟩
      rw [Nat.sub_self, Nat.sub_self] at k2
      exact k2
    · cases h
end
section
/-! ===== runs that can be worked out ===== -/
def am_rn : Nat → Nat → am_I → List Value → am_St → Option (Option Value × am_St)
  | 0, _, _, _, _ => none
  | d + 1, f, mi, args, σ => if (am_ex args).length ≤ mi.2.2.2.1 ∧ mi.2.2.2.1 ≤ 20 ∧ (mi.2.2.2.2.2.2 = true ∨ args.all (fun v => v.category == 1) = true) then am_go (am_rn d f) mi f 0 (am_en mi args) [] σ else none
def am_sub (call call' : am_I → List Value → am_St → Option (Option Value × am_St)) : Prop := ∀ m as σ r, call m as σ = some r → call' m as σ = some r
theorem am_calls_sub {call call' : am_I → List Value → am_St → Option (Option Value × am_St)} (hs : am_sub call call') {m2 : am_I} {as rest : List Value} {pc : Nat} {L : am_L} {σ : am_St} {X : am_N} (h : am_calls call m2 as pc L rest σ = some X) : am_calls call' m2 as pc L rest σ = some X := by
  unfold am_calls at h ⊢
  split at h
  · rename_i hc
    rw [if_pos hc]
    split at h
    · rename_i hv
      rw [hs _ _ _ _ hv]
      exact h
    · cases h
  · cases h
theorem am_inv_sub {call call' : am_I → List Value → am_St → Option (Option Value × am_St)} (hs : am_sub call call') {mi : am_I} {kd idx pc : Nat} {L : am_L} {S : List Value} {σ : am_St} {X : am_N} (h : am_inv call mi kd idx pc L S σ = some X) : am_inv call' mi kd idx pc L S σ = some X := by
  rcases kd with _ | _ | kd
  · simp only [am_inv] at h ⊢
    split at h
    · rename_i m2 hm
      try dsimp only
      split at h
      · rename_i hd
        try rw [hd]
        try dsimp only
        split at h
        · rename_i hc
          rw [if_pos hc]
          exact am_calls_sub hs h
        · cases h
      · cases h
    · cases h
  · simp only [am_inv] at h ⊢
    split at h
    · rename_i hc
      rw [if_pos hc]
      exact h
    · rename_i hc
      rw [if_neg hc]
      split at h
      · rename_i hc
        rw [if_pos hc]
        exact h
      · rename_i hc
        rw [if_neg hc]
        split at h
        · rename_i hc
          rw [if_pos hc]
          exact h
        · rename_i hc
          rw [if_neg hc]
          split at h
          · rename_i m2 hm
            split at h
            · rename_i hc
              simp only [if_pos hc]
              exact am_calls_sub hs h
            · cases h
          · cases h
  · simp only [am_inv] at h ⊢
    split at h
    · rename_i hc
      rw [if_pos hc]
      exact h
    · rename_i hc
      rw [if_neg hc]
      split at h
      · rename_i m2 hm
        try dsimp only
        split at h
        · rename_i hd
          try rw [hd]
          exact am_calls_sub hs h
        · cases h
      · cases h
theorem am_step_sub {call call' : am_I → List Value → am_St → Option (Option Value × am_St)} (hs : am_sub call call') {mi : am_I} {pc : Nat} {L : am_L} {S : List Value} {σ : am_St} {X : am_N} (h : am_step call mi pc L S σ = some X) : am_step call' mi pc L S σ = some X := by
  unfold am_step at h ⊢
  split at h
  · rename_i ins len hd
    unfold am_ins at h ⊢
    cases ins <;> first
      | exact h
      | (simp only at h ⊢
         split at h
         · rename_i hl
           rw [if_pos hl]
           exact am_inv_sub hs h
         · cases h)
  · cases h
theorem am_go_sub {call call' : am_I → List Value → am_St → Option (Option Value × am_St)} (hs : am_sub call call') {mi : am_I} {r : Option Value × am_St} : ∀ (f pc : Nat) (L : am_L) (S : List Value) (σ : am_St), am_go call mi f pc L S σ = some r → am_go call' mi f pc L S σ = some r := by
  intro f
  induction f with
  | zero => intro pc L S σ h; exact absurd h (by simp [am_go])
  | succ f ih =>
    intro pc L S σ h
    unfold am_go at h ⊢
    match hq : am_step call mi pc L S σ with
    | none => rw [hq] at h; cases h
    | some (.inr x) => rw [hq] at h; rw [am_step_sub hs hq]; exact h
    | some (.inl (pc', L', S', σ1)) => rw [hq] at h; rw [am_step_sub hs hq]; exact ih _ _ _ _ h
theorem am_rn_run : ∀ (d f : Nat), am_sub (am_rn d f) (am_run d) := by
  intro d
  induction d with
  | zero => intro f m as σ r h; cases h
  | succ d ih =>
    intro f m as σ r h
    unfold am_rn at h
    unfold am_run
    split at h
    · rename_i hc
      rw [if_pos hc]
      exact am_lim_iff.mpr ⟨f, am_go_sub (ih f) f _ _ _ _ h⟩
    · cases h
/-- more depth does no harm -/
theorem am_run_up : ∀ (d : Nat), am_sub (am_run d) (am_run (d + 1)) := by
  intro d
  induction d with
  | zero => intro m as σ r h; cases h
  | succ d ih =>
    intro m as σ r h
    unfold am_run at h
    rw [am_run]
    split at h
    · rename_i hc
      rw [if_pos hc]
      obtain ⟨f, hf⟩ := am_lim_iff.mp h
      exact am_lim_iff.mpr ⟨f, am_go_sub ih f _ _ _ _ hf⟩
    · cases h
theorem am_run_le {d d' : Nat} (h : d ≤ d') : am_sub (am_run d) (am_run d') := by
  induction h with
  | refl => exact fun _ _ _ _ h => h
  | step _ ih => exact fun m as σ r h => am_run_up _ m as σ r (ih m as σ r h)
/-- many steps, none of them a return -/
def am_wk (call : am_I → List Value → am_St → Option (Option Value × am_St)) (mi : am_I) : Nat → Nat → am_L → List Value → am_St → Option (Nat × am_L × List Value × am_St)
  | 0, pc, L, S, σ => some (pc, L, S, σ)
  | f + 1, pc, L, S, σ => match am_step call mi pc L S σ with
    | some (.inl (pc', L', S', σ')) => am_wk call mi f pc' L' S' σ'
    | _ => none
end
section
/-! ===== one instruction, as an equation of the limit ===== -/
def g_I (σ : am_St) (k j : Nat) : Int32 := σ.2.2.2.1 k j
def g_R (σ : am_St) (k j : Nat) : Option Nat := σ.2.2.2.2 k j
/-- a cell is an object of a class; a row of ints of a length .. -/
def g_o (σ : am_St) (k c : Nat) : Prop := k < σ.1 ∧ (σ.2.2.1 k).1 = c + 4
def g_a (σ : am_St) (k n : Nat) : Prop := k < σ.1 ∧ σ.2.2.1 k = (0, n)
def g_b (σ : am_St) (k n : Nat) : Prop := k < σ.1 ∧ σ.2.2.1 k = (1, n)
def g_q (σ : am_St) (k n : Nat) : Prop := k < σ.1 ∧ (σ.2.2.1 k = (2, n) ∨ σ.2.2.1 k = (3, n))
theorem g_I_sI (σ : am_St) (k j : Nat) (v : Int32) (a b : Nat) : g_I (am_sI σ k j v) a b = if a = k ∧ b = j then v else g_I σ a b := rfl
theorem g_I_sR (σ : am_St) (k j : Nat) (v : Option Nat) (a b : Nat) : g_I (am_sR σ k j v) a b = g_I σ a b := rfl
theorem g_R_sI (σ : am_St) (k j : Nat) (v : Int32) (a b : Nat) : g_R (am_sI σ k j v) a b = g_R σ a b := rfl
theorem g_R_sR (σ : am_St) (k j : Nat) (v : Option Nat) (a b : Nat) : g_R (am_sR σ k j v) a b = if a = k ∧ b = j then v else g_R σ a b := rfl
theorem g_I_cp (σ : am_St) (s0 sp d0 dp n : Nat) (a b : Nat) : g_I (am_cp σ s0 sp d0 dp n) a b = if a = d0 ∧ dp ≤ b ∧ b < dp + n then g_I σ s0 (sp + (b - dp)) else g_I σ a b := rfl
theorem g_R_cp (σ : am_St) (s0 sp d0 dp n : Nat) (a b : Nat) : g_R (am_cp σ s0 sp d0 dp n) a b = g_R σ a b := rfl
theorem g_o_sI (σ : am_St) (k j : Nat) (v : Int32) (a c : Nat) : g_o (am_sI σ k j v) a c = g_o σ a c := rfl
theorem g_o_sR (σ : am_St) (k j : Nat) (v : Option Nat) (a c : Nat) : g_o (am_sR σ k j v) a c = g_o σ a c := rfl
theorem g_o_cp (σ : am_St) (s0 sp d0 dp n : Nat) (a c : Nat) : g_o (am_cp σ s0 sp d0 dp n) a c = g_o σ a c := rfl
theorem g_a_sI (σ : am_St) (k j : Nat) (v : Int32) (a c : Nat) : g_a (am_sI σ k j v) a c = g_a σ a c := rfl
theorem g_a_sR (σ : am_St) (k j : Nat) (v : Option Nat) (a c : Nat) : g_a (am_sR σ k j v) a c = g_a σ a c := rfl
theorem g_a_cp (σ : am_St) (s0 sp d0 dp n : Nat) (a c : Nat) : g_a (am_cp σ s0 sp d0 dp n) a c = g_a σ a c := rfl
theorem g_b_sI (σ : am_St) (k j : Nat) (v : Int32) (a c : Nat) : g_b (am_sI σ k j v) a c = g_b σ a c := rfl
theorem g_b_sR (σ : am_St) (k j : Nat) (v : Option Nat) (a c : Nat) : g_b (am_sR σ k j v) a c = g_b σ a c := rfl
theorem g_q_sI (σ : am_St) (k j : Nat) (v : Int32) (a c : Nat) : g_q (am_sI σ k j v) a c = g_q σ a c := rfl
theorem g_q_sR (σ : am_St) (k j : Nat) (v : Option Nat) (a c : Nat) : g_q (am_sR σ k j v) a c = g_q σ a c := rfl
theorem va_rf_s (q : Nat) : va_rf (some q) = .ref q := rfl
theorem va_rf_n : va_rf none = .null := rfl
/-- on with what a call gave -/
def am_k (x : Option (Option Value × am_St)) (f : Option Value → am_St → Option (Option Value × am_St)) : Option (Option Value × am_St) := match x with
  | some (r, σ1) => f r σ1
  | none => none
theorem am_k_s (r : Option Value) (σ1 : am_St) (f : Option Value → am_St → Option (Option Value × am_St)) : am_k (some (r, σ1)) f = f r σ1 := rfl
section RUL
variable {call : am_I → List Value → am_St → Option (Option Value × am_St)} {mi : am_I} {pc : Nat} {L : am_L} {S : List Value} {σ : am_St}
theorem r_nx {pc' : Nat} {L' : am_L} {S' : List Value} {σ' : am_St} {ins : Instr} {len : Nat} (hd : decode mi.2.2.1 pc = .ok (ins, len)) (h : am_ins call mi ins len pc L S σ = am_nx pc' L' S' σ') : am_lim call mi pc L S σ = am_lim call mi pc' L' S' σ' := by
  rw [am_lim_step, am_step, hd]
  dsimp only
  rw [h]
  rfl
theorem r_ret {x : Option Value × am_St} {ins : Instr} {len : Nat} (hd : decode mi.2.2.1 pc = .ok (ins, len)) (h : am_ins call mi ins len pc L S σ = some (.inr x)) : am_lim call mi pc L S σ = some x := by
  rw [am_lim_step, am_step, hd]
  dsimp only
  rw [h]
theorem r_if {c : ClassFile.Cond} {off : Int} {x : Int32} (t : Nat) (hd : decode mi.2.2.1 pc = .ok (.ifCond c off, 3)) (ht : (pc : Int) + off = (t : Int)) : am_lim call mi pc L (.int x :: S) σ = if am_cmp c x 0 = true then am_lim call mi t L S σ else am_lim call mi (pc + 3) L S σ := by
  rw [am_lim_step, am_step, hd]
  show (match (if 3 = 3 then (if am_cmp c x 0 then am_jp pc off L S σ else if 0 ≤ (pc : Int) + off then am_nx (pc + 3) L S σ else none) else none) with
    | none => none
    | some (.inr x) => some x
    | some (.inl (pc', L', S', σ')) => am_lim call mi pc' L' S' σ') = _
  have h0 : 0 ≤ (pc : Int) + off := by omega
  have h1 : ((pc : Int) + off).toNat = t := by omega
  rw [if_pos rfl, if_pos h0]
  unfold am_jp
  rw [if_pos h0, h1]
  split
  · rename_i h; split at h <;> cases h
  · rename_i h; split at h <;> cases h
  · rename_i h; split at h <;> (cases h; simp_all)
theorem r_icmp {c : ClassFile.Cond} {off : Int} {x y : Int32} (t : Nat) (hd : decode mi.2.2.1 pc = .ok (.if_icmp c off, 3)) (ht : (pc : Int) + off = (t : Int)) : am_lim call mi pc L (.int y :: .int x :: S) σ = if am_cmp c x y = true then am_lim call mi t L S σ else am_lim call mi (pc + 3) L S σ := by
  rw [am_lim_step, am_step, hd]
  show (match (if 3 = 3 then (if am_cmp c x y then am_jp pc off L S σ else if 0 ≤ (pc : Int) + off then am_nx (pc + 3) L S σ else none) else none) with
    | none => none
    | some (.inr x) => some x
    | some (.inl (pc', L', S', σ')) => am_lim call mi pc' L' S' σ') = _
  have h0 : 0 ≤ (pc : Int) + off := by omega
  have h1 : ((pc : Int) + off).toNat = t := by omega
  rw [if_pos rfl, if_pos h0]
  unfold am_jp
  rw [if_pos h0, h1]
  split
  · rename_i h; split at h <;> cases h
  · rename_i h; split at h <;> cases h
  · rename_i h; split at h <;> (cases h; simp_all)
theorem r_goto {off : Int} (t : Nat) (hd : decode mi.2.2.1 pc = .ok (.goto off, 3)) (ht : (pc : Int) + off = (t : Int)) : am_lim call mi pc L S σ = am_lim call mi t L S σ := by
  have h0 : 0 ≤ (pc : Int) + off := by omega
  have h1 : ((pc : Int) + off).toNat = t := by omega
  refine r_nx hd ?_
  show am_jp pc off L S σ = _
  unfold am_jp
  rw [if_pos h0, h1]
  rfl
theorem r_ifnullN {off : Int} (t : Nat) (hd : decode mi.2.2.1 pc = .ok (.ifnull off, 3)) (ht : (pc : Int) + off = (t : Int)) : am_lim call mi pc L (.null :: S) σ = am_lim call mi t L S σ := by
  have h0 : 0 ≤ (pc : Int) + off := by omega
  have h1 : ((pc : Int) + off).toNat = t := by omega
  refine r_nx hd ?_
  show am_jp pc off L S σ = _
  unfold am_jp
  rw [if_pos h0, h1]
  rfl
theorem r_getI {idx ci j k : Nat} (hd : decode mi.2.2.1 pc = .ok (.getfield idx, 3)) (hf : am_fld mi.1 idx = some (ci, j)) (ht : am_isR (am_ty ci j) = false) (hk : g_o σ k ci) : am_lim call mi pc L (.ref k :: S) σ = am_lim call mi (pc + 3) L (.int (g_I σ k j) :: S) σ := by
  refine r_nx hd ?_
  show am_get mi idx pc L (.ref k :: S) σ = _
  unfold am_get
  have hk' : k < σ.1 ∧ (σ.2.2.1 k).1 = ci + 4 := hk
  simp only [hf, ht]
  rw [if_pos hk']
  rfl
theorem r_getR {idx ci j k : Nat} (hd : decode mi.2.2.1 pc = .ok (.getfield idx, 3)) (hf : am_fld mi.1 idx = some (ci, j)) (ht : am_isR (am_ty ci j) = true) (hk : g_o σ k ci) : am_lim call mi pc L (.ref k :: S) σ = am_lim call mi (pc + 3) L (va_rf (g_R σ k j) :: S) σ := by
  refine r_nx hd ?_
  show am_get mi idx pc L (.ref k :: S) σ = _
  unfold am_get
  have hk' : k < σ.1 ∧ (σ.2.2.1 k).1 = ci + 4 := hk
  simp only [hf, ht]
  rw [if_pos hk']
  rfl
theorem r_putI {idx ci j k : Nat} {x : Int32} (hd : decode mi.2.2.1 pc = .ok (.putfield idx, 3)) (hf : am_fld mi.1 idx = some (ci, j)) (ht : am_ty ci j = .int) (hfin : am_fin mi ci j = true) (hk : g_o σ k ci) : am_lim call mi pc L (.int x :: .ref k :: S) σ = am_lim call mi (pc + 3) L S (am_sI σ k j x) := by
  refine r_nx hd ?_
  show am_put mi idx pc L (.int x :: .ref k :: S) σ = _
  unfold am_put
  simp only [hf]
  rw [if_pos ⟨hk.1, hk.2, hfin, by rw [ht]; rfl, by rw [ht]; rfl, by rw [ht]; rfl⟩]
theorem r_putZ {idx ci j k : Nat} {x : Int32} (hd : decode mi.2.2.1 pc = .ok (.putfield idx, 3)) (hf : am_fld mi.1 idx = some (ci, j)) (ht : am_ty ci j = .boolean) (hfin : am_fin mi ci j = true) (hk : g_o σ k ci) (hx : x = 0 ∨ x = 1) : am_lim call mi pc L (.int x :: .ref k :: S) σ = am_lim call mi (pc + 3) L S (am_sI σ k j x) := by
  refine r_nx hd ?_
  show am_put mi idx pc L (.int x :: .ref k :: S) σ = _
  unfold am_put
  simp only [hf]
  rw [if_pos ⟨hk.1, hk.2, hfin, by rw [ht]; rfl, by rw [ht]; rcases hx with rfl | rfl <;> rfl, by rw [ht]; rcases hx with rfl | rfl <;> rfl⟩]
theorem r_putR {idx ci j k q : Nat} (hd : decode mi.2.2.1 pc = .ok (.putfield idx, 3)) (hf : am_fld mi.1 idx = some (ci, j)) (ht : am_isR (am_ty ci j) = true) (hfin : am_fin mi ci j = true) (hk : g_o σ k ci) : am_lim call mi pc L (.ref q :: .ref k :: S) σ = am_lim call mi (pc + 3) L S (am_sR σ k j (some q)) := by
  refine r_nx hd ?_
  show am_put mi idx pc L (.ref q :: .ref k :: S) σ = _
  unfold am_put
  simp only [hf]
  rw [if_pos ⟨hk.1, hk.2, hfin, ht⟩]
theorem r_putN {idx ci j k : Nat} (hd : decode mi.2.2.1 pc = .ok (.putfield idx, 3)) (hf : am_fld mi.1 idx = some (ci, j)) (ht : am_isR (am_ty ci j) = true) (hfin : am_fin mi ci j = true) (hk : g_o σ k ci) : am_lim call mi pc L (.null :: .ref k :: S) σ = am_lim call mi (pc + 3) L S (am_sR σ k j none) := by
  refine r_nx hd ?_
  show am_put mi idx pc L (.null :: .ref k :: S) σ = _
  unfold am_put
  simp only [hf]
  rw [if_pos ⟨hk.1, hk.2, hfin, ht⟩]
theorem r_iald {k n : Nat} {i : Int32} (hd : decode mi.2.2.1 pc = .ok (.iaload, 1)) (hk : g_a σ k n) (hi : am_in i n) : am_lim call mi pc L (.int i :: .ref k :: S) σ = am_lim call mi (pc + 1) L (.int (g_I σ k i.toNatClampNeg) :: S) σ := by
  refine r_nx hd ?_
  show am_arr .iaload pc L (.int i :: .ref k :: S) σ = _
  unfold am_arr
  dsimp only
  rw [if_pos ⟨hk.1, by rw [hk.2], by rw [hk.2]; exact hi⟩]
  rfl
theorem r_bald {k n : Nat} {i : Int32} (hd : decode mi.2.2.1 pc = .ok (.baload, 1)) (hk : g_b σ k n) (hi : am_in i n) : am_lim call mi pc L (.int i :: .ref k :: S) σ = am_lim call mi (pc + 1) L (.int (g_I σ k i.toNatClampNeg) :: S) σ := by
  refine r_nx hd ?_
  show am_arr .baload pc L (.int i :: .ref k :: S) σ = _
  unfold am_arr
  dsimp only
  rw [if_pos ⟨hk.1, by rw [hk.2], by rw [hk.2]; exact hi⟩]
  rfl
theorem r_aald {k n : Nat} {i : Int32} (hd : decode mi.2.2.1 pc = .ok (.aaload, 1)) (hk : g_q σ k n) (hi : am_in i n) : am_lim call mi pc L (.int i :: .ref k :: S) σ = am_lim call mi (pc + 1) L (va_rf (g_R σ k i.toNatClampNeg) :: S) σ := by
  refine r_nx hd ?_
  show am_arr .aaload pc L (.int i :: .ref k :: S) σ = _
  unfold am_arr
  dsimp only
  have h2 : (σ.2.2.1 k).2 = n := by rcases hk.2 with q | q <;> rw [q]
  rw [if_pos ⟨hk.1, hk.2.elim (fun q => Or.inl (by rw [q])) (fun q => Or.inr (by rw [q])), by rw [h2]; exact hi⟩]
  rfl
theorem r_iast {k n : Nat} {i x : Int32} (hd : decode mi.2.2.1 pc = .ok (.iastore, 1)) (hk : g_a σ k n) (hi : am_in i n) : am_lim call mi pc L (.int x :: .int i :: .ref k :: S) σ = am_lim call mi (pc + 1) L S (am_sI σ k i.toNatClampNeg x) := by
  refine r_nx hd ?_
  show am_arr .iastore pc L (.int x :: .int i :: .ref k :: S) σ = _
  unfold am_arr
  dsimp only
  rw [if_pos ⟨hk.1, by rw [hk.2], by rw [hk.2]; exact hi⟩]
theorem r_bast {k n : Nat} {i x : Int32} (hd : decode mi.2.2.1 pc = .ok (.bastore, 1)) (hk : g_b σ k n) (hi : am_in i n) : am_lim call mi pc L (.int x :: .int i :: .ref k :: S) σ = am_lim call mi (pc + 1) L S (am_sI σ k i.toNatClampNeg (vp_nar .byte x)) := by
  refine r_nx hd ?_
  show am_arr .bastore pc L (.int x :: .int i :: .ref k :: S) σ = _
  unfold am_arr
  dsimp only
  rw [if_pos ⟨hk.1, by rw [hk.2], by rw [hk.2]; exact hi⟩]
theorem r_alen {k n : Nat} (hd : decode mi.2.2.1 pc = .ok (.arraylength, 1)) (hk : g_a σ k n) : am_lim call mi pc L (.ref k :: S) σ = am_lim call mi (pc + 1) L (.int (Int32.ofNat n) :: S) σ := by
  refine r_nx hd ?_
  show am_arr .arraylength pc L (.ref k :: S) σ = _
  unfold am_arr
  dsimp only
  rw [if_pos ⟨hk.1, by rw [hk.2]; exact (by decide : 0 < 4)⟩, hk.2]
theorem r_callV {idx b n : Nat} {m2 : am_I} {S1 rest : List Value} {r : Option Value} {σ1 : am_St} (hd : decode mi.2.2.1 pc = .ok (.invokevirtual idx, 3)) (hm : am_mth mi.1 idx 0 = some m2) (hn : S1.length = m2.2.2.2.2.2.1) (hk : g_o σ b m2.1) (hc : (rest.map fun v => v.category).sum ≤ 8) (hr : call m2 (.ref b :: S1.reverse) σ = some (r, σ1)) : am_lim call mi pc L (S1 ++ .ref b :: rest) σ = am_lim call mi (pc + 3) L (r.toList ++ rest) σ1 := by
  refine r_nx hd ?_
  show am_inv call mi 0 idx pc L (S1 ++ .ref b :: rest) σ = _
  unfold am_inv
  simp only [hm]
  rw [← hn, List.drop_left, List.take_left]
  dsimp only
  have hk' : b < σ.1 ∧ (σ.2.2.1 b).1 = m2.1 + 4 := hk
  rw [if_pos hk']
  unfold am_calls
  rw [if_pos hc, hr]
theorem r_callS {idx n : Nat} {m2 : am_I} {S1 rest : List Value} {r : Option Value} {σ1 : am_St} (hd : decode mi.2.2.1 pc = .ok (.invokestatic idx, 3)) (h1 : am_isC mi.1 idx = false ∧ am_isX mi.1 idx = false ∧ am_isM mi.1 idx = false) (hm : am_mth mi.1 idx 1 = some m2) (hn : S1.length = m2.2.2.2.2.2.1) (hc : (rest.map fun v => v.category).sum ≤ 8) (hr : call m2 S1.reverse σ = some (r, σ1)) : am_lim call mi pc L (S1 ++ rest) σ = am_lim call mi (pc + 3) L (r.toList ++ rest) σ1 := by
  refine r_nx hd ?_
  show am_inv call mi 1 idx pc L (S1 ++ rest) σ = _
  unfold am_inv
  simp only [hm, h1.1, h1.2.1, h1.2.2]
  rw [← hn, List.drop_left, List.take_left]
  simp only [Bool.false_eq_true, if_false]
  rw [if_pos (by rw [List.length_append]; omega)]
  unfold am_calls
  rw [if_pos hc, hr]
theorem r_kV {idx b : Nat} {m2 : am_I} {S1 rest : List Value} (hd : decode mi.2.2.1 pc = .ok (.invokevirtual idx, 3)) (hm : am_mth mi.1 idx 0 = some m2) (hn : S1.length = m2.2.2.2.2.2.1) (hk : g_o σ b m2.1) (hc : (rest.map fun v => v.category).sum ≤ 8) : am_lim call mi pc L (S1 ++ .ref b :: rest) σ = am_k (call m2 (.ref b :: S1.reverse) σ) (fun r σ1 => am_lim call mi (pc + 3) L (r.toList ++ rest) σ1) := by
  cases hr : call m2 (.ref b :: S1.reverse) σ with
  | some q => exact r_callV (r := q.1) (σ1 := q.2) (n := 0) hd hm hn hk hc hr
  | none =>
    rw [am_lim_step, am_step, hd]
    show (match am_inv call mi 0 idx pc L (S1 ++ .ref b :: rest) σ with
      | none => none
      | some (.inr x) => some x
      | some (.inl (pc', L', S', σ')) => am_lim call mi pc' L' S' σ') = none
    unfold am_inv
    simp only [hm]
    rw [← hn, List.drop_left, List.take_left]
    dsimp only
    have hk' : b < σ.1 ∧ (σ.2.2.1 b).1 = m2.1 + 4 := hk
    rw [if_pos hk']
    unfold am_calls
    rw [if_pos hc, hr]
theorem r_kS {idx : Nat} {m2 : am_I} {S1 rest : List Value} (hd : decode mi.2.2.1 pc = .ok (.invokestatic idx, 3)) (h1 : am_isC mi.1 idx = false ∧ am_isX mi.1 idx = false ∧ am_isM mi.1 idx = false) (hm : am_mth mi.1 idx 1 = some m2) (hn : S1.length = m2.2.2.2.2.2.1) (hc : (rest.map fun v => v.category).sum ≤ 8) : am_lim call mi pc L (S1 ++ rest) σ = am_k (call m2 S1.reverse σ) (fun r σ1 => am_lim call mi (pc + 3) L (r.toList ++ rest) σ1) := by
  cases hr : call m2 S1.reverse σ with
  | some q => exact r_callS (r := q.1) (σ1 := q.2) (n := 0) hd h1 hm hn hc hr
  | none =>
    rw [am_lim_step, am_step, hd]
    show (match am_inv call mi 1 idx pc L (S1 ++ rest) σ with
      | none => none
      | some (.inr x) => some x
      | some (.inl (pc', L', S', σ')) => am_lim call mi pc' L' S' σ') = none
    unfold am_inv
    simp only [hm, h1.1, h1.2.1, h1.2.2]
    rw [← hn, List.drop_left, List.take_left]
    simp only [Bool.false_eq_true, if_false]
    rw [if_pos (by rw [List.length_append]; omega)]
    unfold am_calls
    rw [if_pos hc, hr]
theorem r_retI {x : Int32} (hd : decode mi.2.2.1 pc = .ok (.ireturn, 1)) (hr : mi.2.2.2.2.1 = some .int) : am_lim call mi pc L [.int x] σ = some (some (.int x), σ) := by
  refine r_ret hd ?_
  show am_ret mi .ireturn [.int x] σ = _
  unfold am_ret
  rw [hr]
  exact if_pos rfl
theorem r_retZ {x : Int32} (hd : decode mi.2.2.1 pc = .ok (.ireturn, 1)) (hr : mi.2.2.2.2.1 = some .boolean) (hx : x = 0 ∨ x = 1) : am_lim call mi pc L [.int x] σ = some (some (.int x), σ) := by
  refine r_ret hd ?_
  show am_ret mi .ireturn [.int x] σ = _
  unfold am_ret
  rw [hr]
  rcases hx with rfl | rfl <;> rfl
theorem r_copy {idx a b n m : Nat} {x y w : Int32} {rest : List Value} (hd : decode mi.2.2.1 pc = .ok (.invokestatic idx, 3)) (hC : am_isC mi.1 idx = true) (h1 : g_a σ a n) (h2 : g_a σ b m) (h3 : ¬ x < 0) (h4 : ¬ y < 0) (h5 : ¬ w < 0) (h6 : x.toNatClampNeg + w.toNatClampNeg ≤ n) (h7 : y.toNatClampNeg + w.toNatClampNeg ≤ m) (hc : (rest.map fun v => v.category).sum ≤ 8) : am_lim call mi pc L (.int w :: .int y :: .ref b :: .int x :: .ref a :: rest) σ = am_lim call mi (pc + 3) L rest (am_cp σ a x.toNatClampNeg b y.toNatClampNeg w.toNatClampNeg) := by
  refine r_nx hd ?_
  show am_inv call mi 1 idx pc L _ σ = _
  unfold am_inv
  simp only [hC, if_true]
  unfold am_copy
  rw [if_pos ⟨h1.1, h2.1, by rw [h1.2], by rw [h2.2], h3, h4, h5, by rw [h1.2]; exact h6, by rw [h2.2]; exact h7, hc⟩]
theorem r_tsD {df lo hi : Int} {offs : Array Int} {len : Nat} {x : Int32} (t : Nat) (hd : decode mi.2.2.1 pc = .ok (.tableswitch df lo hi offs, len)) (h : x.toInt < lo ∨ hi < x.toInt) (ht : (pc : Int) + df = (t : Int)) : am_lim call mi pc L (.int x :: S) σ = am_lim call mi t L S σ := by
  have h0 : 0 ≤ (pc : Int) + df := by omega
  have h1 : ((pc : Int) + df).toNat = t := by omega
  refine r_nx hd ?_
  show am_bra (.tableswitch df lo hi offs) pc L (.int x :: S) σ = _
  unfold am_bra
  dsimp only
  rw [if_pos h]
  unfold am_jp
  rw [if_pos h0, h1]
  rfl
theorem r_lkD {df : Int} {ps : Array (Int × Int)} {len : Nat} {x : Int32} (t : Nat) (hd : decode mi.2.2.1 pc = .ok (.lookupswitch df ps, len)) (hs : (ps.toList.zip (ps.toList.drop 1)).all (fun (a, next) => a.1 < next.1) = true) (h : Op.lookupswitch.offset ps.toList df x.toInt = df) (ht : (pc : Int) + df = (t : Int)) : am_lim call mi pc L (.int x :: S) σ = am_lim call mi t L S σ := by
  have h0 : 0 ≤ (pc : Int) + df := by omega
  have h1 : ((pc : Int) + df).toNat = t := by omega
  refine r_nx hd ?_
  show am_bra (.lookupswitch df ps) pc L (.int x :: S) σ = _
  unfold am_bra
  dsimp only
  rw [if_pos hs, h]
  unfold am_jp
  rw [if_pos h0, h1]
  rfl
end RUL
section RUL2
variable {call : am_I → List Value → am_St → Option (Option Value × am_St)} {mi : am_I} {pc : Nat} {L L' : am_L} {S : List Value} {σ : am_St} {x y v : Int32} {a b i : Nat} {z z2 : Int64}
theorem r_iconst {n : Int} (hd : decode mi.2.2.1 pc = .ok (.iconst n, 1)) (hv : Int32.ofInt n = v) : am_lim call mi pc L S σ = am_lim call mi (pc + 1) L (.int v :: S) σ := by subst hv; exact r_nx hd rfl
theorem r_bipush {n : Int} (hd : decode mi.2.2.1 pc = .ok (.bipush n, 2)) (hv : (Int8.ofInt n).toInt32 = v) : am_lim call mi pc L S σ = am_lim call mi (pc + 2) L (.int v :: S) σ := by subst hv; exact r_nx hd rfl
theorem r_sipush {n : Int} (hd : decode mi.2.2.1 pc = .ok (.sipush n, 3)) (hv : (Int16.ofInt n).toInt32 = v) : am_lim call mi pc L S σ = am_lim call mi (pc + 3) L (.int v :: S) σ := by subst hv; exact r_nx hd rfl
theorem r_lconst {n : Fin 2} (hd : decode mi.2.2.1 pc = .ok (.lconst n, 1)) (hv : Int64.ofNat (n : Nat) = z) : am_lim call mi pc L S σ = am_lim call mi (pc + 1) L (.long z :: S) σ := by subst hv; exact r_nx hd rfl
theorem r_ldc (hd : decode mi.2.2.1 pc = .ok (.ldc i, 2)) (hv : am_co mi.1 i = some v) : am_lim call mi pc L S σ = am_lim call mi (pc + 2) L (.int v :: S) σ := r_nx hd (by show (match am_co mi.1 i with | some v => am_nx (pc + 2) L (.int v :: S) σ | none => none) = _; rw [hv])
theorem r_ldcw (hd : decode mi.2.2.1 pc = .ok (.ldc_w i, 3)) (hv : am_co mi.1 i = some v) : am_lim call mi pc L S σ = am_lim call mi (pc + 3) L (.int v :: S) σ := r_nx hd (by show (match am_co mi.1 i with | some v => am_nx (pc + 3) L (.int v :: S) σ | none => none) = _; rw [hv])
theorem r_ldc2 (hd : decode mi.2.2.1 pc = .ok (.ldc2_w i, 3)) (hv : am_cj mi.1 i = some z) : am_lim call mi pc L S σ = am_lim call mi (pc + 3) L (.long z :: S) σ := r_nx hd (by show (match am_cj mi.1 i with | some v => am_nx (pc + 3) L (.long v :: S) σ | none => none) = _; rw [hv])
theorem r_iload_n {k : Fin 4} (hd : decode mi.2.2.1 pc = .ok (.iload_n k, 1)) (hl : am_ld L k = .int x) : am_lim call mi pc L S σ = am_lim call mi (pc + 1) L (.int x :: S) σ := r_nx hd (by show am_lds 0 1 pc k L S σ = _; unfold am_lds; rw [hl]; rfl)
theorem r_iload (hd : decode mi.2.2.1 pc = .ok (.iload i, 2)) (hl : am_ld L i = .int x) : am_lim call mi pc L S σ = am_lim call mi (pc + 2) L (.int x :: S) σ := r_nx hd (by show am_lds 0 2 pc i L S σ = _; unfold am_lds; rw [hl]; rfl)
theorem r_lload_n {k : Fin 4} (hd : decode mi.2.2.1 pc = .ok (.lload_n k, 1)) (hl : am_ld L k = .long z) : am_lim call mi pc L S σ = am_lim call mi (pc + 1) L (.long z :: S) σ := r_nx hd (by show am_lds 1 1 pc k L S σ = _; unfold am_lds; rw [hl]; rfl)
theorem r_lload (hd : decode mi.2.2.1 pc = .ok (.lload i, 2)) (hl : am_ld L i = .long z) : am_lim call mi pc L S σ = am_lim call mi (pc + 2) L (.long z :: S) σ := r_nx hd (by show am_lds 1 2 pc i L S σ = _; unfold am_lds; rw [hl]; rfl)
theorem r_aload_n {k : Fin 4} (hd : decode mi.2.2.1 pc = .ok (.aload_n k, 1)) (hl : am_ld L k = .ref a) : am_lim call mi pc L S σ = am_lim call mi (pc + 1) L (.ref a :: S) σ := r_nx hd (by show am_lds 2 1 pc k L S σ = _; unfold am_lds; rw [hl]; rfl)
theorem r_aload (hd : decode mi.2.2.1 pc = .ok (.aload i, 2)) (hl : am_ld L i = .ref a) : am_lim call mi pc L S σ = am_lim call mi (pc + 2) L (.ref a :: S) σ := r_nx hd (by show am_lds 2 2 pc i L S σ = _; unfold am_lds; rw [hl]; rfl)
theorem r_stp {pc' : Nat} {v : Value} (h1 : mi.2.2.2.2.2.2 = false) (h2 : Nat.ble (i + 1) mi.2.2.2.1 = true) (h3 : Nat.ble (i + 1) L.length = true) (hL : L.set i (some v) = L') : am_stp mi pc' i L v S σ = am_nx pc' L' S σ := by
  unfold am_stp
  rw [if_pos ⟨h1, Nat.le_of_ble_eq_true h2, Nat.le_of_ble_eq_true h3⟩, hL]
theorem r_istore_n {k : Fin 4} (hd : decode mi.2.2.1 pc = .ok (.istore_n k, 1)) (h1 : mi.2.2.2.2.2.2 = false) (h2 : Nat.ble ((k : Nat) + 1) mi.2.2.2.1 = true) (h3 : Nat.ble ((k : Nat) + 1) L.length = true) (hL : L.set k (some (.int x)) = L') : am_lim call mi pc L (.int x :: S) σ = am_lim call mi (pc + 1) L' S σ := r_nx hd (r_stp h1 h2 h3 hL)
theorem r_istore (hd : decode mi.2.2.1 pc = .ok (.istore i, 2)) (h1 : mi.2.2.2.2.2.2 = false) (h2 : Nat.ble (i + 1) mi.2.2.2.1 = true) (h3 : Nat.ble (i + 1) L.length = true) (hL : L.set i (some (.int x)) = L') : am_lim call mi pc L (.int x :: S) σ = am_lim call mi (pc + 2) L' S σ := r_nx hd (r_stp h1 h2 h3 hL)
theorem r_astore_n {k : Fin 4} (hd : decode mi.2.2.1 pc = .ok (.astore_n k, 1)) (h1 : mi.2.2.2.2.2.2 = false) (h2 : Nat.ble ((k : Nat) + 1) mi.2.2.2.1 = true) (h3 : Nat.ble ((k : Nat) + 1) L.length = true) (hL : L.set k (some (.ref a)) = L') : am_lim call mi pc L (.ref a :: S) σ = am_lim call mi (pc + 1) L' S σ := r_nx hd (r_stp h1 h2 h3 hL)
theorem r_astore (hd : decode mi.2.2.1 pc = .ok (.astore i, 2)) (h1 : mi.2.2.2.2.2.2 = false) (h2 : Nat.ble (i + 1) mi.2.2.2.1 = true) (h3 : Nat.ble (i + 1) L.length = true) (hL : L.set i (some (.ref a)) = L') : am_lim call mi pc L (.ref a :: S) σ = am_lim call mi (pc + 2) L' S σ := r_nx hd (r_stp h1 h2 h3 hL)
theorem r_iinc {n : Int} (hd : decode mi.2.2.1 pc = .ok (.iinc i n, 3)) (hl : am_ld L i = .int x) (hv : Int32.ofInt n = v) (h1 : mi.2.2.2.2.2.2 = false) (h2 : Nat.ble (i + 1) mi.2.2.2.1 = true) (h3 : Nat.ble (i + 1) L.length = true) (hL : L.set i (some (.int (x + v))) = L') : am_lim call mi pc L S σ = am_lim call mi (pc + 3) L' S σ := by
  subst hv
  exact r_nx hd (by show (match am_ld L i with | .int x => am_stp mi (pc + 3) i L (.int (x + Int32.ofInt n)) S σ | _ => none) = _; rw [hl]; exact r_stp h1 h2 h3 hL)
theorem r_iadd (hd : decode mi.2.2.1 pc = .ok (.iadd, 1)) : am_lim call mi pc L (.int y :: .int x :: S) σ = am_lim call mi (pc + 1) L (.int (x + y) :: S) σ := r_nx hd rfl
theorem r_isub (hd : decode mi.2.2.1 pc = .ok (.isub, 1)) : am_lim call mi pc L (.int y :: .int x :: S) σ = am_lim call mi (pc + 1) L (.int (x - y) :: S) σ := r_nx hd rfl
theorem r_imul (hd : decode mi.2.2.1 pc = .ok (.imul, 1)) : am_lim call mi pc L (.int y :: .int x :: S) σ = am_lim call mi (pc + 1) L (.int (x * y) :: S) σ := r_nx hd rfl
theorem r_iand (hd : decode mi.2.2.1 pc = .ok (.iand, 1)) : am_lim call mi pc L (.int y :: .int x :: S) σ = am_lim call mi (pc + 1) L (.int (x &&& y) :: S) σ := r_nx hd rfl
theorem r_ishr (hd : decode mi.2.2.1 pc = .ok (.ishr, 1)) : am_lim call mi pc L (.int y :: .int x :: S) σ = am_lim call mi (pc + 1) L (.int (x >>> (y &&& 31)) :: S) σ := r_nx hd rfl
theorem r_idiv (hd : decode mi.2.2.1 pc = .ok (.idiv, 1)) (h : ¬ y = 0) : am_lim call mi pc L (.int y :: .int x :: S) σ = am_lim call mi (pc + 1) L (.int (x / y) :: S) σ := r_nx hd (if_neg h)
theorem r_irem (hd : decode mi.2.2.1 pc = .ok (.irem, 1)) (h : ¬ y = 0) : am_lim call mi pc L (.int y :: .int x :: S) σ = am_lim call mi (pc + 1) L (.int (x - x / y * y) :: S) σ := r_nx hd (if_neg h)
theorem r_i2l (hd : decode mi.2.2.1 pc = .ok (.i2l, 1)) : am_lim call mi pc L (.int x :: S) σ = am_lim call mi (pc + 1) L (.long x.toInt64 :: S) σ := r_nx hd rfl
theorem r_i2b (hd : decode mi.2.2.1 pc = .ok (.i2b, 1)) : am_lim call mi pc L (.int x :: S) σ = am_lim call mi (pc + 1) L (.int x.toInt8.toInt32 :: S) σ := r_nx hd rfl
theorem r_lcmp (hd : decode mi.2.2.1 pc = .ok (.lcmp, 1)) : am_lim call mi pc L (.long z2 :: .long z :: S) σ = am_lim call mi (pc + 1) L (.int (lg_cmp z z2) :: S) σ := r_nx hd rfl
theorem r_dupI (hd : decode mi.2.2.1 pc = .ok (.dup, 1)) : am_lim call mi pc L (.int x :: S) σ = am_lim call mi (pc + 1) L (.int x :: .int x :: S) σ := r_nx hd rfl
theorem r_dupA (hd : decode mi.2.2.1 pc = .ok (.dup, 1)) : am_lim call mi pc L (.ref a :: S) σ = am_lim call mi (pc + 1) L (.ref a :: .ref a :: S) σ := r_nx hd rfl
theorem r_popI (hd : decode mi.2.2.1 pc = .ok (.pop, 1)) : am_lim call mi pc L (.int x :: S) σ = am_lim call mi (pc + 1) L S σ := r_nx hd rfl
theorem r_popA (hd : decode mi.2.2.1 pc = .ok (.pop, 1)) : am_lim call mi pc L (.ref a :: S) σ = am_lim call mi (pc + 1) L S σ := r_nx hd rfl
theorem r_dup2IA (hd : decode mi.2.2.1 pc = .ok (.dup2, 1)) : am_lim call mi pc L (.int x :: .ref b :: S) σ = am_lim call mi (pc + 1) L (.int x :: .ref b :: .int x :: .ref b :: S) σ := r_nx hd rfl
theorem r_null (hd : decode mi.2.2.1 pc = .ok (.aconst_null, 1)) : am_lim call mi pc L S σ = am_lim call mi (pc + 1) L (.null :: S) σ := r_nx hd rfl
theorem r_ifnullR {off : Int} (hd : decode mi.2.2.1 pc = .ok (.ifnull off, 3)) : am_lim call mi pc L (.ref a :: S) σ = am_lim call mi (pc + 3) L S σ := r_nx hd rfl
theorem r_retV (hd : decode mi.2.2.1 pc = .ok (.return_, 1)) (hr : mi.2.2.2.2.1 = none) : am_lim call mi pc L [] σ = some (none, σ) := by
  refine r_ret hd ?_
  show am_ret mi .return_ [] σ = _
  unfold am_ret
  rw [hr]
theorem r_retA {n : String} (hd : decode mi.2.2.1 pc = .ok (.areturn, 1)) (hr : mi.2.2.2.2.1 = some (.object n)) : am_lim call mi pc L [.ref a] σ = some (some (.ref a), σ) := by
  refine r_ret hd ?_
  show am_ret mi .areturn [.ref a] σ = _
  unfold am_ret
  rw [hr]
theorem r_tsK {df lo hi off : Int} {offs : Array Int} {len : Nat} (t : Nat) (hd : decode mi.2.2.1 pc = .ok (.tableswitch df lo hi offs, len)) (h1 : decide (x.toInt < lo ∨ hi < x.toInt) = false) (ho : offs[(x.toInt - lo).toNat]? = some off) (ht : (pc : Int) + off = (t : Int)) : am_lim call mi pc L (.int x :: S) σ = am_lim call mi t L S σ := by
  have h0 : 0 ≤ (pc : Int) + off := by omega
  have h2 : ((pc : Int) + off).toNat = t := by omega
  refine r_nx hd ?_
  show am_bra (.tableswitch df lo hi offs) pc L (.int x :: S) σ = _
  unfold am_bra
  dsimp only
  rw [if_neg (of_decide_eq_false h1), ho]
  dsimp only
  unfold am_jp
  rw [if_pos h0, h2]
  rfl
theorem r_lkK {df off : Int} {ps : Array (Int × Int)} {len : Nat} (t : Nat) (hd : decode mi.2.2.1 pc = .ok (.lookupswitch df ps, len)) (hs : (ps.toList.zip (ps.toList.drop 1)).all (fun (a, next) => a.1 < next.1) = true) (h : Op.lookupswitch.offset ps.toList df x.toInt = off) (ht : (pc : Int) + off = (t : Int)) : am_lim call mi pc L (.int x :: S) σ = am_lim call mi t L S σ := by
  have h0 : 0 ≤ (pc : Int) + off := by omega
  have h1 : ((pc : Int) + off).toNat = t := by omega
  refine r_nx hd ?_
  show am_bra (.lookupswitch df ps) pc L (.int x :: S) σ = _
  unfold am_bra
  dsimp only
  rw [if_pos hs, h]
  unfold am_jp
  rw [if_pos h0, h1]
  rfl
theorem r_max {idx : Nat} {rest : List Value} (hd : decode mi.2.2.1 pc = .ok (.invokestatic idx, 3)) (h1 : am_isC mi.1 idx = false) (h2 : am_isX mi.1 idx = true) (hc : (rest.map fun v => v.category).sum ≤ 8) : am_lim call mi pc L (.int y :: .int x :: rest) σ = am_lim call mi (pc + 3) L (.int (if x < y then y else x) :: rest) σ := by
  refine r_nx hd ?_
  show am_inv call mi 1 idx pc L _ σ = _
  unfold am_inv
  simp only [h1, h2, if_true, Bool.false_eq_true, if_false]
  rw [if_pos hc]
theorem r_min {idx : Nat} {rest : List Value} (hd : decode mi.2.2.1 pc = .ok (.invokestatic idx, 3)) (h1 : am_isC mi.1 idx = false) (h2 : am_isX mi.1 idx = false) (h3 : am_isM mi.1 idx = true) (hc : (rest.map fun v => v.category).sum ≤ 8) : am_lim call mi pc L (.int y :: .int x :: rest) σ = am_lim call mi (pc + 3) L (.int (if y < x then y else x) :: rest) σ := by
  refine r_nx hd ?_
  show am_inv call mi 1 idx pc L _ σ = _
  unfold am_inv
  simp only [h1, h2, h3, if_true, Bool.false_eq_true, if_false]
  rw [if_pos hc]
theorem r_ifB {c : ClassFile.Cond} {off : Int} {P : Prop} {_ : Decidable P} (t : Nat) (hd : decode mi.2.2.1 pc = .ok (.ifCond c off, 3)) (ht : (pc : Int) + off = (t : Int)) (hP : am_cmp c x 0 = decide P) : am_lim call mi pc L (.int x :: S) σ = if P then am_lim call mi t L S σ else am_lim call mi (pc + 3) L S σ := by
  rw [r_if t hd ht, hP]
  simp only [decide_eq_true_eq]
theorem r_icmpB {c : ClassFile.Cond} {off : Int} {P : Prop} {_ : Decidable P} (t : Nat) (hd : decode mi.2.2.1 pc = .ok (.if_icmp c off, 3)) (ht : (pc : Int) + off = (t : Int)) (hP : am_cmp c x y = decide P) : am_lim call mi pc L (.int y :: .int x :: S) σ = if P then am_lim call mi t L S σ else am_lim call mi (pc + 3) L S σ := by
  rw [r_icmp t hd ht, hP]
  simp only [decide_eq_true_eq]
end RUL2
theorem am_run_S {d : Nat} {mi : am_I} {args : List Value} {σ : am_St} {L : am_L} (h1 : Nat.ble (am_ex args).length mi.2.2.2.1 = true) (h2 : Nat.ble mi.2.2.2.1 20 = true) (h3 : (mi.2.2.2.2.2.2 || args.all (fun v => v.category == 1)) = true) (hL : am_en mi args = L) : am_run (d + 1) mi args σ = am_lim (am_run d) mi 0 L [] σ := by
  rw [am_run, if_pos ⟨Nat.le_of_ble_eq_true h1, Nat.le_of_ble_eq_true h2, by simpa using h3⟩, hL]
end
section
set_option maxRecDepth 100000 in
theorem f_0_15 : am_fld 0 15 = some (0, 0) := by decide +kernel
set_option maxRecDepth 100000 in
theorem f_0_19 : am_fld 0 19 = some (0, 1) := by decide +kernel
set_option maxRecDepth 100000 in
theorem f_0_22 : am_fld 0 22 = some (0, 2) := by decide +kernel
set_option maxRecDepth 100000 in
theorem f_0_30 : am_fld 0 30 = some (0, 3) := by decide +kernel
set_option maxRecDepth 100000 in
theorem f_0_34 : am_fld 0 34 = some (0, 8) := by decide +kernel
set_option maxRecDepth 100000 in
theorem f_0_37 : am_fld 0 37 = some (0, 9) := by decide +kernel
set_option maxRecDepth 100000 in
theorem f_0_40 : am_fld 0 40 = some (0, 4) := by decide +kernel
set_option maxRecDepth 100000 in
theorem f_0_44 : am_fld 0 44 = some (0, 5) := by decide +kernel
set_option maxRecDepth 100000 in
theorem f_0_47 : am_fld 0 47 = some (0, 6) := by decide +kernel
set_option maxRecDepth 100000 in
theorem f_0_50 : am_fld 0 50 = some (0, 7) := by decide +kernel
set_option maxRecDepth 100000 in
theorem f_0_85 : am_fld 0 85 = some (4, 1) := by decide +kernel
set_option maxRecDepth 100000 in
theorem f_0_88 : am_fld 0 88 = some (4, 0) := by decide +kernel
set_option maxRecDepth 100000 in
theorem f_0_102 : am_fld 0 102 = some (4, 2) := by decide +kernel
set_option maxRecDepth 100000 in
theorem f_1_12 : am_fld 1 12 = some (1, 0) := by decide +kernel
set_option maxRecDepth 100000 in
theorem f_1_25 : am_fld 1 25 = some (1, 1) := by decide +kernel
set_option maxRecDepth 100000 in
theorem f_1_29 : am_fld 1 29 = some (1, 2) := by decide +kernel
set_option maxRecDepth 100000 in
theorem f_1_32 : am_fld 1 32 = some (1, 3) := by decide +kernel
set_option maxRecDepth 100000 in
theorem f_1_35 : am_fld 1 35 = some (1, 4) := by decide +kernel
set_option maxRecDepth 100000 in
theorem f_1_39 : am_fld 1 39 = some (2, 0) := by decide +kernel
set_option maxRecDepth 100000 in
theorem f_1_43 : am_fld 1 43 = some (1, 5) := by decide +kernel
set_option maxRecDepth 100000 in
theorem f_1_44 : am_fld 1 44 = some (1, 6) := by decide +kernel
set_option maxRecDepth 100000 in
theorem f_1_48 : am_fld 1 48 = some (1, 7) := by decide +kernel
set_option maxRecDepth 100000 in
theorem f_1_52 : am_fld 1 52 = some (1, 8) := by decide +kernel
set_option maxRecDepth 100000 in
theorem f_1_55 : am_fld 1 55 = some (1, 9) := by decide +kernel
set_option maxRecDepth 100000 in
theorem f_1_69 : am_fld 1 69 = some (5, 0) := by decide +kernel
set_option maxRecDepth 100000 in
theorem f_1_74 : am_fld 1 74 = some (5, 3) := by decide +kernel
set_option maxRecDepth 100000 in
theorem f_1_78 : am_fld 1 78 = some (5, 1) := by decide +kernel
set_option maxRecDepth 100000 in
theorem f_1_82 : am_fld 1 82 = some (4, 1) := by decide +kernel
set_option maxRecDepth 100000 in
theorem f_1_101 : am_fld 1 101 = some (4, 0) := by decide +kernel
set_option maxRecDepth 100000 in
theorem f_1_112 : am_fld 1 112 = some (2, 3) := by decide +kernel
set_option maxRecDepth 100000 in
theorem f_1_115 : am_fld 1 115 = some (8, 6) := by decide +kernel
set_option maxRecDepth 100000 in
theorem f_1_119 : am_fld 1 119 = some (8, 1) := by decide +kernel
set_option maxRecDepth 100000 in
theorem f_1_122 : am_fld 1 122 = some (8, 0) := by decide +kernel
set_option maxRecDepth 100000 in
theorem f_1_131 : am_fld 1 131 = some (8, 5) := by decide +kernel
set_option maxRecDepth 100000 in
theorem f_1_135 : am_fld 1 135 = some (8, 7) := by decide +kernel
set_option maxRecDepth 100000 in
theorem f_1_138 : am_fld 1 138 = some (4, 2) := by decide +kernel
set_option maxRecDepth 100000 in
theorem f_1_141 : am_fld 1 141 = some (0, 7) := by decide +kernel
set_option maxRecDepth 100000 in
theorem f_1_142 : am_fld 1 142 = some (0, 3) := by decide +kernel
set_option maxRecDepth 100000 in
theorem f_1_148 : am_fld 1 148 = some (2, 7) := by decide +kernel
set_option maxRecDepth 100000 in
theorem f_1_151 : am_fld 1 151 = some (2, 2) := by decide +kernel
set_option maxRecDepth 100000 in
theorem f_1_158 : am_fld 1 158 = some (2, 6) := by decide +kernel
set_option maxRecDepth 100000 in
theorem f_1_161 : am_fld 1 161 = some (2, 4) := by decide +kernel
set_option maxRecDepth 100000 in
theorem f_1_164 : am_fld 1 164 = some (0, 4) := by decide +kernel
set_option maxRecDepth 100000 in
theorem f_1_169 : am_fld 1 169 = some (8, 2) := by decide +kernel
set_option maxRecDepth 100000 in
theorem f_1_192 : am_fld 1 192 = some (8, 4) := by decide +kernel
set_option maxRecDepth 100000 in
theorem f_1_205 : am_fld 1 205 = some (8, 3) := by decide +kernel
set_option maxRecDepth 100000 in
theorem f_2_12 : am_fld 2 12 = some (2, 0) := by decide +kernel
set_option maxRecDepth 100000 in
theorem f_2_18 : am_fld 2 18 = some (2, 1) := by decide +kernel
set_option maxRecDepth 100000 in
theorem f_2_27 : am_fld 2 27 = some (2, 2) := by decide +kernel
set_option maxRecDepth 100000 in
theorem f_2_31 : am_fld 2 31 = some (2, 3) := by decide +kernel
set_option maxRecDepth 100000 in
theorem f_2_35 : am_fld 2 35 = some (2, 4) := by decide +kernel
set_option maxRecDepth 100000 in
theorem f_2_38 : am_fld 2 38 = some (2, 5) := by decide +kernel
set_option maxRecDepth 100000 in
theorem f_2_41 : am_fld 2 41 = some (2, 6) := by decide +kernel
set_option maxRecDepth 100000 in
theorem f_2_44 : am_fld 2 44 = some (2, 7) := by decide +kernel
set_option maxRecDepth 100000 in
theorem f_2_48 : am_fld 2 48 = some (2, 8) := by decide +kernel
set_option maxRecDepth 100000 in
theorem f_2_55 : am_fld 2 55 = some (0, 4) := by decide +kernel
set_option maxRecDepth 100000 in
theorem f_3_11 : am_fld 3 11 = some (3, 3) := by decide +kernel
set_option maxRecDepth 100000 in
theorem f_3_15 : am_fld 3 15 = some (3, 4) := by decide +kernel
set_option maxRecDepth 100000 in
theorem f_3_23 : am_fld 3 23 = some (3, 1) := by decide +kernel
set_option maxRecDepth 100000 in
theorem f_3_27 : am_fld 3 27 = some (3, 2) := by decide +kernel
set_option maxRecDepth 100000 in
theorem f_3_30 : am_fld 3 30 = some (3, 0) := by decide +kernel
set_option maxRecDepth 100000 in
theorem f_3_34 : am_fld 3 34 = some (3, 5) := by decide +kernel
set_option maxRecDepth 100000 in
theorem f_3_37 : am_fld 3 37 = some (3, 6) := by decide +kernel
set_option maxRecDepth 100000 in
theorem f_3_40 : am_fld 3 40 = some (3, 7) := by decide +kernel
set_option maxRecDepth 100000 in
theorem f_3_43 : am_fld 3 43 = some (3, 8) := by decide +kernel
set_option maxRecDepth 100000 in
theorem f_3_47 : am_fld 3 47 = some (3, 9) := by decide +kernel
set_option maxRecDepth 100000 in
theorem f_3_55 : am_fld 3 55 = some (7, 1) := by decide +kernel
set_option maxRecDepth 100000 in
theorem f_4_9 : am_fld 4 9 = some (4, 0) := by decide +kernel
set_option maxRecDepth 100000 in
theorem f_4_15 : am_fld 4 15 = some (4, 1) := by decide +kernel
set_option maxRecDepth 100000 in
theorem f_4_19 : am_fld 4 19 = some (4, 2) := by decide +kernel
set_option maxRecDepth 100000 in
theorem f_5_13 : am_fld 5 13 = some (5, 1) := by decide +kernel
set_option maxRecDepth 100000 in
theorem f_5_17 : am_fld 5 17 = some (5, 2) := by decide +kernel
set_option maxRecDepth 100000 in
theorem f_5_22 : am_fld 5 22 = some (5, 3) := by decide +kernel
set_option maxRecDepth 100000 in
theorem f_5_28 : am_fld 5 28 = some (5, 4) := by decide +kernel
set_option maxRecDepth 100000 in
theorem f_5_36 : am_fld 5 36 = some (5, 0) := by decide +kernel
set_option maxRecDepth 100000 in
theorem f_6_13 : am_fld 6 13 = some (6, 0) := by decide +kernel
set_option maxRecDepth 100000 in
theorem f_6_17 : am_fld 6 17 = some (6, 2) := by decide +kernel
set_option maxRecDepth 100000 in
theorem f_6_20 : am_fld 6 20 = some (6, 3) := by decide +kernel
set_option maxRecDepth 100000 in
theorem f_6_23 : am_fld 6 23 = some (6, 4) := by decide +kernel
set_option maxRecDepth 100000 in
theorem f_6_26 : am_fld 6 26 = some (6, 1) := by decide +kernel
set_option maxRecDepth 100000 in
theorem f_6_60 : am_fld 6 60 = some (4, 1) := by decide +kernel
set_option maxRecDepth 100000 in
theorem f_6_61 : am_fld 6 61 = some (4, 0) := by decide +kernel
set_option maxRecDepth 100000 in
theorem f_7_11 : am_fld 7 11 = some (7, 2) := by decide +kernel
set_option maxRecDepth 100000 in
theorem f_7_17 : am_fld 7 17 = some (7, 3) := by decide +kernel
set_option maxRecDepth 100000 in
theorem f_7_20 : am_fld 7 20 = some (7, 4) := by decide +kernel
set_option maxRecDepth 100000 in
theorem f_7_23 : am_fld 7 23 = some (7, 5) := by decide +kernel
set_option maxRecDepth 100000 in
theorem f_7_26 : am_fld 7 26 = some (7, 6) := by decide +kernel
set_option maxRecDepth 100000 in
theorem f_7_34 : am_fld 7 34 = some (7, 1) := by decide +kernel
set_option maxRecDepth 100000 in
theorem f_7_38 : am_fld 7 38 = some (7, 0) := by decide +kernel
set_option maxRecDepth 100000 in
theorem f_7_42 : am_fld 7 42 = some (7, 7) := by decide +kernel
set_option maxRecDepth 100000 in
theorem f_7_45 : am_fld 7 45 = some (7, 8) := by decide +kernel
set_option maxRecDepth 100000 in
theorem f_7_58 : am_fld 7 58 = some (4, 1) := by decide +kernel
set_option maxRecDepth 100000 in
theorem f_7_68 : am_fld 7 68 = some (4, 0) := by decide +kernel
set_option maxRecDepth 100000 in
theorem f_8_13 : am_fld 8 13 = some (8, 8) := by decide +kernel
set_option maxRecDepth 100000 in
theorem f_8_22 : am_fld 8 22 = some (8, 7) := by decide +kernel
set_option maxRecDepth 100000 in
theorem f_8_26 : am_fld 8 26 = some (8, 0) := by decide +kernel
set_option maxRecDepth 100000 in
theorem f_8_30 : am_fld 8 30 = some (8, 1) := by decide +kernel
set_option maxRecDepth 100000 in
theorem f_8_33 : am_fld 8 33 = some (8, 2) := by decide +kernel
set_option maxRecDepth 100000 in
theorem f_8_36 : am_fld 8 36 = some (8, 3) := by decide +kernel
set_option maxRecDepth 100000 in
theorem f_8_39 : am_fld 8 39 = some (8, 4) := by decide +kernel
set_option maxRecDepth 100000 in
theorem f_8_42 : am_fld 8 42 = some (8, 6) := by decide +kernel
set_option maxRecDepth 100000 in
theorem f_8_45 : am_fld 8 45 = some (8, 5) := by decide +kernel
set_option maxRecDepth 100000 in
theorem f_8_52 : am_fld 8 52 = some (4, 1) := by decide +kernel
set_option maxRecDepth 100000 in
theorem f_9_13 : am_fld 9 13 = some (9, 0) := by decide +kernel
set_option maxRecDepth 100000 in
theorem f_9_17 : am_fld 9 17 = some (9, 1) := by decide +kernel
set_option maxRecDepth 100000 in
theorem f_9_20 : am_fld 9 20 = some (9, 2) := by decide +kernel
set_option maxRecDepth 100000 in
theorem f_9_23 : am_fld 9 23 = some (9, 3) := by decide +kernel
set_option maxRecDepth 100000 in
theorem f_9_26 : am_fld 9 26 = some (9, 4) := by decide +kernel
set_option maxRecDepth 100000 in
theorem f_9_29 : am_fld 9 29 = some (9, 6) := by decide +kernel
set_option maxRecDepth 100000 in
theorem f_9_32 : am_fld 9 32 = some (9, 7) := by decide +kernel
set_option maxRecDepth 100000 in
theorem f_9_35 : am_fld 9 35 = some (9, 8) := by decide +kernel
set_option maxRecDepth 100000 in
theorem f_9_38 : am_fld 9 38 = some (9, 5) := by decide +kernel
set_option maxRecDepth 100000 in
theorem f_9_42 : am_fld 9 42 = some (9, 9) := by decide +kernel
set_option maxRecDepth 100000 in
theorem f_10_12 : am_fld 10 12 = some (10, 2) := by decide +kernel
set_option maxRecDepth 100000 in
theorem f_10_18 : am_fld 10 18 = some (10, 3) := by decide +kernel
set_option maxRecDepth 100000 in
theorem f_10_22 : am_fld 10 22 = some (10, 0) := by decide +kernel
set_option maxRecDepth 100000 in
theorem f_10_26 : am_fld 10 26 = some (10, 1) := by decide +kernel
set_option maxRecDepth 100000 in
theorem f_10_29 : am_fld 10 29 = some (10, 4) := by decide +kernel
set_option maxRecDepth 100000 in
theorem f_10_32 : am_fld 10 32 = some (10, 5) := by decide +kernel
set_option maxRecDepth 100000 in
theorem f_10_36 : am_fld 10 36 = some (10, 6) := by decide +kernel
set_option maxRecDepth 100000 in
theorem f_10_40 : am_fld 10 40 = some (10, 7) := by decide +kernel
set_option maxRecDepth 100000 in
theorem f_10_43 : am_fld 10 43 = some (10, 8) := by decide +kernel
set_option maxRecDepth 100000 in
theorem f_10_46 : am_fld 10 46 = some (10, 9) := by decide +kernel
set_option maxRecDepth 100000 in
theorem f_10_49 : am_fld 10 49 = some (10, 10) := by decide +kernel
set_option maxRecDepth 100000 in
theorem f_10_88 : am_fld 10 88 = some (5, 4) := by decide +kernel
set_option maxRecDepth 100000 in
theorem f_11_10 : am_fld 11 10 = some (11, 7) := by decide +kernel
set_option maxRecDepth 100000 in
theorem f_11_16 : am_fld 11 16 = some (11, 8) := by decide +kernel
set_option maxRecDepth 100000 in
theorem f_11_22 : am_fld 11 22 = some (11, 1) := by decide +kernel
set_option maxRecDepth 100000 in
theorem f_11_29 : am_fld 11 29 = some (11, 5) := by decide +kernel
set_option maxRecDepth 100000 in
theorem f_11_33 : am_fld 11 33 = some (11, 6) := by decide +kernel
set_option maxRecDepth 100000 in
theorem f_11_41 : am_fld 11 41 = some (11, 0) := by decide +kernel
set_option maxRecDepth 100000 in
theorem f_11_50 : am_fld 11 50 = some (11, 2) := by decide +kernel
set_option maxRecDepth 100000 in
theorem f_11_59 : am_fld 11 59 = some (11, 3) := by decide +kernel
set_option maxRecDepth 100000 in
theorem f_11_66 : am_fld 11 66 = some (11, 4) := by decide +kernel
set_option maxRecDepth 100000 in
theorem f_11_70 : am_fld 11 70 = some (11, 9) := by decide +kernel
set_option maxRecDepth 100000 in
theorem f_11_74 : am_fld 11 74 = some (11, 10) := by decide +kernel
set_option maxRecDepth 100000 in
theorem f_11_78 : am_fld 11 78 = some (11, 11) := by decide +kernel
set_option maxRecDepth 100000 in
theorem f_11_86 : am_fld 11 86 = some (3, 0) := by decide +kernel
set_option maxRecDepth 100000 in
theorem f_11_111 : am_fld 11 111 = some (3, 1) := by decide +kernel
set_option maxRecDepth 100000 in
theorem f_11_115 : am_fld 11 115 = some (3, 2) := by decide +kernel
set_option maxRecDepth 100000 in
theorem f_11_122 : am_fld 11 122 = some (2, 4) := by decide +kernel
set_option maxRecDepth 100000 in
theorem f_11_131 : am_fld 11 131 = some (2, 3) := by decide +kernel
set_option maxRecDepth 100000 in
theorem f_11_134 : am_fld 11 134 = some (2, 2) := by decide +kernel
set_option maxRecDepth 100000 in
theorem f_11_137 : am_fld 11 137 = some (2, 0) := by decide +kernel
set_option maxRecDepth 100000 in
theorem f_11_141 : am_fld 11 141 = some (0, 5) := by decide +kernel
set_option maxRecDepth 100000 in
theorem f_11_146 : am_fld 11 146 = some (0, 6) := by decide +kernel
set_option maxRecDepth 100000 in
theorem f_11_149 : am_fld 11 149 = some (0, 4) := by decide +kernel
set_option maxRecDepth 100000 in
theorem f_11_152 : am_fld 11 152 = some (2, 5) := by decide +kernel
set_option maxRecDepth 100000 in
theorem f_11_155 : am_fld 11 155 = some (2, 6) := by decide +kernel
set_option maxRecDepth 100000 in
theorem f_11_162 : am_fld 11 162 = some (4, 1) := by decide +kernel
set_option maxRecDepth 100000 in
theorem f_11_165 : am_fld 11 165 = some (4, 0) := by decide +kernel
set_option maxRecDepth 100000 in
theorem f_11_179 : am_fld 11 179 = some (2, 1) := by decide +kernel
set_option maxRecDepth 100000 in
theorem f_11_182 : am_fld 11 182 = some (0, 0) := by decide +kernel
set_option maxRecDepth 100000 in
theorem f_11_185 : am_fld 11 185 = some (0, 1) := by decide +kernel
set_option maxRecDepth 100000 in
theorem f_11_191 : am_fld 11 191 = some (0, 2) := by decide +kernel
set_option maxRecDepth 100000 in
theorem f_11_194 : am_fld 11 194 = some (0, 3) := by decide +kernel
set_option maxRecDepth 100000 in
theorem f_11_212 : am_fld 11 212 = some (2, 8) := by decide +kernel
set_option maxRecDepth 100000 in
theorem f_11_214 : am_fld 11 214 = some (5, 0) := by decide +kernel
set_option maxRecDepth 100000 in
theorem f_11_218 : am_fld 11 218 = some (5, 3) := by decide +kernel
set_option maxRecDepth 100000 in
theorem f_11_221 : am_fld 11 221 = some (5, 1) := by decide +kernel
set_option maxRecDepth 100000 in
theorem f_11_224 : am_fld 11 224 = some (5, 2) := by decide +kernel
set_option maxRecDepth 100000 in
theorem f_11_227 : am_fld 11 227 = some (5, 4) := by decide +kernel
set_option maxRecDepth 100000 in
theorem f_11_231 : am_fld 11 231 = some (7, 0) := by decide +kernel
set_option maxRecDepth 100000 in
theorem f_11_235 : am_fld 11 235 = some (10, 0) := by decide +kernel
set_option maxRecDepth 100000 in
theorem f_11_238 : am_fld 11 238 = some (10, 1) := by decide +kernel
set_option maxRecDepth 100000 in
theorem f_12_9 : am_fld 12 9 = some (12, 1) := by decide +kernel
set_option maxRecDepth 100000 in
theorem f_12_13 : am_fld 12 13 = some (12, 5) := by decide +kernel
set_option maxRecDepth 100000 in
theorem f_12_17 : am_fld 12 17 = some (12, 7) := by decide +kernel
set_option maxRecDepth 100000 in
theorem f_12_20 : am_fld 12 20 = some (12, 8) := by decide +kernel
set_option maxRecDepth 100000 in
theorem f_12_24 : am_fld 12 24 = some (12, 11) := by decide +kernel
set_option maxRecDepth 100000 in
theorem f_12_27 : am_fld 12 27 = some (12, 12) := by decide +kernel
set_option maxRecDepth 100000 in
theorem f_12_30 : am_fld 12 30 = some (12, 13) := by decide +kernel
set_option maxRecDepth 100000 in
theorem f_12_33 : am_fld 12 33 = some (12, 17) := by decide +kernel
set_option maxRecDepth 100000 in
theorem f_12_36 : am_fld 12 36 = some (12, 18) := by decide +kernel
set_option maxRecDepth 100000 in
theorem f_12_39 : am_fld 12 39 = some (12, 19) := by decide +kernel
set_option maxRecDepth 100000 in
theorem f_12_42 : am_fld 12 42 = some (12, 20) := by decide +kernel
set_option maxRecDepth 100000 in
theorem f_12_45 : am_fld 12 45 = some (12, 24) := by decide +kernel
set_option maxRecDepth 100000 in
theorem f_12_48 : am_fld 12 48 = some (12, 34) := by decide +kernel
set_option maxRecDepth 100000 in
theorem f_12_51 : am_fld 12 51 = some (12, 41) := by decide +kernel
set_option maxRecDepth 100000 in
theorem f_12_55 : am_fld 12 55 = some (12, 44) := by decide +kernel
set_option maxRecDepth 100000 in
theorem f_12_58 : am_fld 12 58 = some (12, 45) := by decide +kernel
set_option maxRecDepth 100000 in
theorem f_12_61 : am_fld 12 61 = some (12, 46) := by decide +kernel
set_option maxRecDepth 100000 in
theorem f_12_64 : am_fld 12 64 = some (12, 47) := by decide +kernel
set_option maxRecDepth 100000 in
theorem f_12_67 : am_fld 12 67 = some (12, 51) := by decide +kernel
set_option maxRecDepth 100000 in
theorem f_12_71 : am_fld 12 71 = some (12, 52) := by decide +kernel
set_option maxRecDepth 100000 in
theorem f_12_74 : am_fld 12 74 = some (12, 53) := by decide +kernel
set_option maxRecDepth 100000 in
theorem f_12_77 : am_fld 12 77 = some (12, 54) := by decide +kernel
set_option maxRecDepth 100000 in
theorem f_12_80 : am_fld 12 80 = some (12, 59) := by decide +kernel
set_option maxRecDepth 100000 in
theorem f_12_83 : am_fld 12 83 = some (12, 60) := by decide +kernel
set_option maxRecDepth 100000 in
theorem f_12_86 : am_fld 12 86 = some (12, 61) := by decide +kernel
set_option maxRecDepth 100000 in
theorem f_12_89 : am_fld 12 89 = some (12, 62) := by decide +kernel
set_option maxRecDepth 100000 in
theorem f_12_92 : am_fld 12 92 = some (12, 63) := by decide +kernel
set_option maxRecDepth 100000 in
theorem f_12_95 : am_fld 12 95 = some (12, 64) := by decide +kernel
set_option maxRecDepth 100000 in
theorem f_12_98 : am_fld 12 98 = some (12, 65) := by decide +kernel
set_option maxRecDepth 100000 in
theorem f_12_101 : am_fld 12 101 = some (12, 66) := by decide +kernel
set_option maxRecDepth 100000 in
theorem f_12_104 : am_fld 12 104 = some (12, 67) := by decide +kernel
set_option maxRecDepth 100000 in
theorem f_12_107 : am_fld 12 107 = some (12, 68) := by decide +kernel
set_option maxRecDepth 100000 in
theorem f_12_110 : am_fld 12 110 = some (12, 69) := by decide +kernel
set_option maxRecDepth 100000 in
theorem f_12_113 : am_fld 12 113 = some (12, 0) := by decide +kernel
set_option maxRecDepth 100000 in
theorem f_12_116 : am_fld 12 116 = some (12, 2) := by decide +kernel
set_option maxRecDepth 100000 in
theorem f_12_127 : am_fld 12 127 = some (12, 3) := by decide +kernel
set_option maxRecDepth 100000 in
theorem f_12_134 : am_fld 12 134 = some (12, 4) := by decide +kernel
set_option maxRecDepth 100000 in
theorem f_12_137 : am_fld 12 137 = some (12, 6) := by decide +kernel
set_option maxRecDepth 100000 in
theorem f_12_160 : am_fld 12 160 = some (12, 9) := by decide +kernel
set_option maxRecDepth 100000 in
theorem f_12_188 : am_fld 12 188 = some (12, 10) := by decide +kernel
set_option maxRecDepth 100000 in
theorem f_12_209 : am_fld 12 209 = some (12, 14) := by decide +kernel
set_option maxRecDepth 100000 in
theorem f_12_212 : am_fld 12 212 = some (12, 16) := by decide +kernel
set_option maxRecDepth 100000 in
theorem f_12_219 : am_fld 12 219 = some (12, 15) := by decide +kernel
set_option maxRecDepth 100000 in
theorem f_12_249 : am_fld 12 249 = some (12, 21) := by decide +kernel
set_option maxRecDepth 100000 in
theorem f_12_252 : am_fld 12 252 = some (12, 22) := by decide +kernel
set_option maxRecDepth 100000 in
theorem f_12_258 : am_fld 12 258 = some (12, 23) := by decide +kernel
set_option maxRecDepth 100000 in
theorem f_12_264 : am_fld 12 264 = some (12, 29) := by decide +kernel
set_option maxRecDepth 100000 in
theorem f_12_273 : am_fld 12 273 = some (12, 25) := by decide +kernel
set_option maxRecDepth 100000 in
theorem f_12_279 : am_fld 12 279 = some (12, 30) := by decide +kernel
set_option maxRecDepth 100000 in
theorem f_12_282 : am_fld 12 282 = some (12, 31) := by decide +kernel
set_option maxRecDepth 100000 in
theorem f_12_285 : am_fld 12 285 = some (12, 26) := by decide +kernel
set_option maxRecDepth 100000 in
theorem f_12_288 : am_fld 12 288 = some (12, 27) := by decide +kernel
set_option maxRecDepth 100000 in
theorem f_12_291 : am_fld 12 291 = some (12, 28) := by decide +kernel
set_option maxRecDepth 100000 in
theorem f_12_294 : am_fld 12 294 = some (12, 32) := by decide +kernel
set_option maxRecDepth 100000 in
theorem f_12_297 : am_fld 12 297 = some (12, 33) := by decide +kernel
set_option maxRecDepth 100000 in
theorem f_12_336 : am_fld 12 336 = some (12, 35) := by decide +kernel
set_option maxRecDepth 100000 in
theorem f_12_408 : am_fld 12 408 = some (12, 48) := by decide +kernel
set_option maxRecDepth 100000 in
theorem f_12_411 : am_fld 12 411 = some (12, 49) := by decide +kernel
set_option maxRecDepth 100000 in
theorem f_12_414 : am_fld 12 414 = some (12, 43) := by decide +kernel
set_option maxRecDepth 100000 in
theorem f_12_425 : am_fld 12 425 = some (12, 42) := by decide +kernel
set_option maxRecDepth 100000 in
theorem f_12_428 : am_fld 12 428 = some (12, 40) := by decide +kernel
set_option maxRecDepth 100000 in
theorem f_12_431 : am_fld 12 431 = some (12, 36) := by decide +kernel
set_option maxRecDepth 100000 in
theorem f_12_435 : am_fld 12 435 = some (12, 38) := by decide +kernel
set_option maxRecDepth 100000 in
theorem f_12_441 : am_fld 12 441 = some (12, 50) := by decide +kernel
set_option maxRecDepth 100000 in
theorem f_12_444 : am_fld 12 444 = some (12, 39) := by decide +kernel
set_option maxRecDepth 100000 in
theorem f_12_447 : am_fld 12 447 = some (12, 37) := by decide +kernel
set_option maxRecDepth 100000 in
theorem f_12_456 : am_fld 12 456 = some (12, 55) := by decide +kernel
set_option maxRecDepth 100000 in
theorem f_12_462 : am_fld 12 462 = some (12, 56) := by decide +kernel
set_option maxRecDepth 100000 in
theorem f_12_468 : am_fld 12 468 = some (12, 57) := by decide +kernel
set_option maxRecDepth 100000 in
theorem f_12_475 : am_fld 12 475 = some (12, 58) := by decide +kernel
set_option maxRecDepth 100000 in
theorem f_12_526 : am_fld 12 526 = some (12, 70) := by decide +kernel
set_option maxRecDepth 100000 in
theorem f_12_532 : am_fld 12 532 = some (12, 71) := by decide +kernel
set_option maxRecDepth 100000 in
theorem f_12_535 : am_fld 12 535 = some (12, 73) := by decide +kernel
set_option maxRecDepth 100000 in
theorem f_12_538 : am_fld 12 538 = some (12, 72) := by decide +kernel
set_option maxRecDepth 100000 in
theorem mt_0_54 : am_mth 0 54 0 = some mX4_clear := rfl
set_option maxRecDepth 100000 in
theorem mt_0_57 : am_mth 0 57 0 = some mX4_keptLength := rfl
set_option maxRecDepth 100000 in
theorem mt_0_61 : am_mth 0 61 0 = some mX0_put := rfl
set_option maxRecDepth 100000 in
theorem mt_0_65 : am_mth 0 65 0 = some mX4_keep := rfl
set_option maxRecDepth 100000 in
theorem mt_0_69 : am_mth 0 69 1 = some mX4_sign := rfl
set_option maxRecDepth 100000 in
theorem mt_0_73 : am_mth 0 73 0 = some mX4_keepSign := rfl
set_option maxRecDepth 100000 in
theorem mt_0_76 : am_mth 0 76 0 = some mX0_placeOf := rfl
set_option maxRecDepth 100000 in
theorem mt_0_79 : am_mth 0 79 1 = some mX4_kindOf := rfl
set_option maxRecDepth 100000 in
theorem mt_0_82 : am_mth 0 82 1 = some mX4_numberOf := rfl
set_option maxRecDepth 100000 in
theorem mt_0_91 : am_mth 0 91 0 = some mX0_standsAhead := rfl
set_option maxRecDepth 100000 in
theorem mt_0_95 : am_mth 0 95 0 = some mX0_openPlace := rfl
set_option maxRecDepth 100000 in
theorem mt_0_98 : am_mth 0 98 0 = some mX4_add := rfl
set_option maxRecDepth 100000 in
theorem mt_0_105 : am_mth 0 105 0 = some mX0_solvedType := rfl
set_option maxRecDepth 100000 in
theorem mt_1_58 : am_mth 1 58 0 = some mX2_start := rfl
set_option maxRecDepth 100000 in
theorem mt_1_62 : am_mth 1 62 0 = some mX8_clear := rfl
set_option maxRecDepth 100000 in
theorem mt_1_65 : am_mth 1 65 0 = some mX4_clear := rfl
set_option maxRecDepth 100000 in
theorem mt_1_66 : am_mth 1 66 0 = some mX1_start := rfl
set_option maxRecDepth 100000 in
theorem mt_1_85 : am_mth 1 85 0 = some mX0_addName := rfl
set_option maxRecDepth 100000 in
theorem mt_1_91 : am_mth 1 91 0 = some mX7_root := rfl
set_option maxRecDepth 100000 in
theorem mt_1_97 : am_mth 1 97 0 = some mX8_push := rfl
set_option maxRecDepth 100000 in
theorem mt_1_104 : am_mth 1 104 0 = some mX4_put := rfl
set_option maxRecDepth 100000 in
theorem mt_1_108 : am_mth 1 108 0 = some mX1_pushBelow := rfl
set_option maxRecDepth 100000 in
theorem mt_1_116 : am_mth 1 116 0 = some mX8_pop := rfl
set_option maxRecDepth 100000 in
theorem mt_1_125 : am_mth 1 125 0 = some mX1_begin := rfl
set_option maxRecDepth 100000 in
theorem mt_1_128 : am_mth 1 128 0 = some mX1_goOn := rfl
set_option maxRecDepth 100000 in
theorem mt_1_145 : am_mth 1 145 0 = some mX1_finish := rfl
set_option maxRecDepth 100000 in
theorem mt_1_154 : am_mth 1 154 0 = some mX0_take := rfl
set_option maxRecDepth 100000 in
theorem mt_1_165 : am_mth 1 165 0 = some mX1_takeTypes := rfl
set_option maxRecDepth 100000 in
theorem mt_1_172 : am_mth 1 172 0 = some mX7_at := rfl
set_option maxRecDepth 100000 in
theorem mt_1_176 : am_mth 1 176 0 = some mX2_note := rfl
set_option maxRecDepth 100000 in
theorem mt_1_180 : am_mth 1 180 0 = some mX1_check := rfl
set_option maxRecDepth 100000 in
theorem mt_1_183 : am_mth 1 183 0 = some mX1_infer := rfl
set_option maxRecDepth 100000 in
theorem mt_1_186 : am_mth 1 186 0 = some mX1_apply := rfl
set_option maxRecDepth 100000 in
theorem mt_1_189 : am_mth 1 189 0 = some mX1_compareHeads := rfl
set_option maxRecDepth 100000 in
theorem mt_1_195 : am_mth 1 195 0 = some mX1_solve := rfl
set_option maxRecDepth 100000 in
theorem mt_1_199 : am_mth 1 199 0 = some mX2_noteRule := rfl
set_option maxRecDepth 100000 in
theorem mt_1_202 : am_mth 1 202 0 = some mX1_fail := rfl
set_option maxRecDepth 100000 in
theorem mt_1_208 : am_mth 1 208 0 = some mX1_takeHeld := rfl
set_option maxRecDepth 100000 in
theorem mt_1_212 : am_mth 1 212 0 = some mX8_letGo := rfl
set_option maxRecDepth 100000 in
theorem mt_1_215 : am_mth 1 215 0 = some mX4_keptLength := rfl
set_option maxRecDepth 100000 in
theorem mt_1_218 : am_mth 1 218 0 = some mX4_keep := rfl
set_option maxRecDepth 100000 in
theorem mt_1_222 : am_mth 1 222 0 = some mX1_hold := rfl
set_option maxRecDepth 100000 in
theorem mt_1_226 : am_mth 1 226 0 = some mX4_kindAt := rfl
set_option maxRecDepth 100000 in
theorem mt_1_229 : am_mth 1 229 0 = some mX1_checkAll := rfl
set_option maxRecDepth 100000 in
theorem mt_1_232 : am_mth 1 232 0 = some mX7_op := rfl
set_option maxRecDepth 100000 in
theorem mt_1_235 : am_mth 1 235 0 = some mX1_checkFunction := rfl
set_option maxRecDepth 100000 in
theorem mt_1_238 : am_mth 1 238 0 = some mX1_checkInferred := rfl
set_option maxRecDepth 100000 in
theorem mt_1_241 : am_mth 1 241 0 = some mX1_checkPair := rfl
set_option maxRecDepth 100000 in
theorem mt_1_244 : am_mth 1 244 0 = some mX1_checkIf := rfl
set_option maxRecDepth 100000 in
theorem mt_1_247 : am_mth 1 247 0 = some mX1_checkLet := rfl
set_option maxRecDepth 100000 in
theorem mt_1_250 : am_mth 1 250 0 = some mX1_openConstant := rfl
set_option maxRecDepth 100000 in
theorem mt_1_254 : am_mth 1 254 0 = some mX1_pushCheck := rfl
set_option maxRecDepth 100000 in
theorem mt_1_258 : am_mth 1 258 0 = some mX4_past := rfl
set_option maxRecDepth 100000 in
theorem mt_1_261 : am_mth 1 261 0 = some mX7_number := rfl
set_option maxRecDepth 100000 in
theorem mt_1_264 : am_mth 1 264 0 = some mX1_pushCut := rfl
set_option maxRecDepth 100000 in
theorem mt_1_267 : am_mth 1 267 0 = some mX7_part := rfl
set_option maxRecDepth 100000 in
theorem mt_1_270 : am_mth 1 270 0 = some mX4_keepSign := rfl
set_option maxRecDepth 100000 in
theorem mt_1_273 : am_mth 1 273 0 = some mX1_pushGoOn := rfl
set_option maxRecDepth 100000 in
theorem mt_1_277 : am_mth 1 277 0 = some mX1_pushInfer := rfl
set_option maxRecDepth 100000 in
theorem mt_1_280 : am_mth 1 280 0 = some mX1_inferName := rfl
set_option maxRecDepth 100000 in
theorem mt_1_283 : am_mth 1 283 0 = some mX1_inferSign := rfl
set_option maxRecDepth 100000 in
theorem mt_1_286 : am_mth 1 286 0 = some mX1_inferNoted := rfl
set_option maxRecDepth 100000 in
theorem mt_1_289 : am_mth 1 289 0 = some mX1_inferFunction := rfl
set_option maxRecDepth 100000 in
theorem mt_1_292 : am_mth 1 292 0 = some mX1_inferLet := rfl
set_option maxRecDepth 100000 in
theorem mt_1_295 : am_mth 1 295 0 = some mX1_inferOfNumbers := rfl
set_option maxRecDepth 100000 in
theorem mt_1_298 : am_mth 1 298 0 = some mX0_nameType := rfl
set_option maxRecDepth 100000 in
theorem mt_1_301 : am_mth 1 301 0 = some mX4_add := rfl
set_option maxRecDepth 100000 in
theorem mt_1_304 : am_mth 1 304 0 = some mX7_putType := rfl
set_option maxRecDepth 100000 in
theorem mt_1_307 : am_mth 1 307 0 = some mX0_addGuess := rfl
set_option maxRecDepth 100000 in
theorem mt_1_310 : am_mth 1 310 0 = some mX0_addGuessedName := rfl
set_option maxRecDepth 100000 in
theorem mt_1_313 : am_mth 1 313 1 = some mX4_sign := rfl
set_option maxRecDepth 100000 in
theorem mt_1_316 : am_mth 1 316 0 = some mX4_open := rfl
set_option maxRecDepth 100000 in
theorem mt_1_319 : am_mth 1 319 0 = some mX1_openGuess := rfl
set_option maxRecDepth 100000 in
theorem mt_1_322 : am_mth 1 322 0 = some mX0_split := rfl
set_option maxRecDepth 100000 in
theorem mt_1_325 : am_mth 1 325 0 = some mX4_at := rfl
set_option maxRecDepth 100000 in
theorem mt_1_326 : am_mth 1 326 1 = some mX4_numberOf := rfl
set_option maxRecDepth 100000 in
theorem mt_1_329 : am_mth 1 329 0 = some mX0_openPlace := rfl
set_option maxRecDepth 100000 in
theorem mt_1_332 : am_mth 1 332 0 = some mX1_openMarked := rfl
set_option maxRecDepth 100000 in
theorem mt_1_335 : am_mth 1 335 0 = some mX4_has := rfl
set_option maxRecDepth 100000 in
theorem mt_1_339 : am_mth 1 339 0 = some mX1_compareParts := rfl
set_option maxRecDepth 100000 in
theorem mt_1_342 : am_mth 1 342 0 = some mX4_alls := rfl
set_option maxRecDepth 100000 in
theorem mt_1_345 : am_mth 1 345 0 = some mX0_allAhead := rfl
set_option maxRecDepth 100000 in
theorem mt_1_349 : am_mth 1 349 0 = some mX0_solve := rfl
set_option maxRecDepth 100000 in
theorem mt_1_351 : am_mth 1 351 0 = some mX0_solveAs := rfl
set_option maxRecDepth 100000 in
theorem mt_1_354 : am_mth 1 354 0 = some mX1_solveParts := rfl
set_option maxRecDepth 100000 in
theorem mt_1_357 : am_mth 1 357 0 = some mX1_solveAll := rfl
set_option maxRecDepth 100000 in
theorem mt_1_360 : am_mth 1 360 0 = some mX1_pushSolve := rfl
set_option maxRecDepth 100000 in
theorem mt_1_363 : am_mth 1 363 0 = some mX0_addConstant := rfl
set_option maxRecDepth 100000 in
theorem mt_1_366 : am_mth 1 366 0 = some mX0_addMark := rfl
set_option maxRecDepth 100000 in
theorem mt_1_369 : am_mth 1 369 0 = some mX0_cutAt := rfl
set_option maxRecDepth 100000 in
theorem mt_1_372 : am_mth 1 372 0 = some mX0_removeName := rfl
set_option maxRecDepth 100000 in
theorem mt_1_375 : am_mth 1 375 0 = some mX1_bind := rfl
set_option maxRecDepth 100000 in
theorem mt_1_378 : am_mth 1 378 0 = some mX1_give := rfl
set_option maxRecDepth 100000 in
theorem mt_1_381 : am_mth 1 381 0 = some mX1_giveArrow := rfl
set_option maxRecDepth 100000 in
theorem mt_1_384 : am_mth 1 384 0 = some mX1_outBelow := rfl
set_option maxRecDepth 100000 in
theorem mt_1_387 : am_mth 1 387 0 = some mX1_outElse := rfl
set_option maxRecDepth 100000 in
theorem mt_1_390 : am_mth 1 390 0 = some mX1_outSecond := rfl
set_option maxRecDepth 100000 in
theorem mt_1_393 : am_mth 1 393 0 = some mX1_outPair := rfl
set_option maxRecDepth 100000 in
theorem mt_1_396 : am_mth 1 396 0 = some mX1_outPart := rfl
set_option maxRecDepth 100000 in
theorem mt_1_399 : am_mth 1 399 0 = some mX1_takeOut := rfl
set_option maxRecDepth 100000 in
theorem mt_1_402 : am_mth 1 402 0 = some mX1_putHeld := rfl
set_option maxRecDepth 100000 in
theorem mt_2_51 : am_mth 2 51 0 = some mX0_clear := rfl
set_option maxRecDepth 100000 in
theorem mt_2_54 : am_mth 2 54 0 = some mX4_clear := rfl
set_option maxRecDepth 100000 in
theorem mt_3_50 : am_mth 3 50 0 = some mX7_clear := rfl
set_option maxRecDepth 100000 in
theorem mt_3_58 : am_mth 3 58 0 = some mX3_readPart := rfl
set_option maxRecDepth 100000 in
theorem mt_3_61 : am_mth 3 61 0 = some mX3_readEnd := rfl
set_option maxRecDepth 100000 in
theorem mt_3_64 : am_mth 3 64 0 = some mX4_clear := rfl
set_option maxRecDepth 100000 in
theorem mt_3_65 : am_mth 3 65 0 = some mX3_readType := rfl
set_option maxRecDepth 100000 in
theorem mt_3_68 : am_mth 3 68 0 = some mX3_nextSign := rfl
set_option maxRecDepth 100000 in
theorem mt_3_72 : am_mth 3 72 0 = some mX3_refuse := rfl
set_option maxRecDepth 100000 in
theorem mt_3_75 : am_mth 3 75 1 = some mX3_isDigit := rfl
set_option maxRecDepth 100000 in
theorem mt_3_79 : am_mth 3 79 1 = some mX3_isLetter := rfl
set_option maxRecDepth 100000 in
theorem mt_3_82 : am_mth 3 82 1 = some mX3_opOf := rfl
set_option maxRecDepth 100000 in
theorem mt_3_86 : am_mth 3 86 0 = some mX7_add := rfl
set_option maxRecDepth 100000 in
theorem mt_3_90 : am_mth 3 90 0 = some mX3_readHead := rfl
set_option maxRecDepth 100000 in
theorem mt_3_94 : am_mth 3 94 1 = some mX7_partsOf := rfl
set_option maxRecDepth 100000 in
theorem mt_3_97 : am_mth 3 97 0 = some mX7_close := rfl
set_option maxRecDepth 100000 in
theorem mt_3_100 : am_mth 3 100 0 = some mX7_beginType := rfl
set_option maxRecDepth 100000 in
theorem mt_3_103 : am_mth 3 103 0 = some mX3_readNumber := rfl
set_option maxRecDepth 100000 in
theorem mt_3_106 : am_mth 3 106 0 = some mX7_setNumber := rfl
set_option maxRecDepth 100000 in
theorem mt_3_110 : am_mth 3 110 0 = some mX3_readLetter := rfl
set_option maxRecDepth 100000 in
theorem mt_3_113 : am_mth 3 113 0 = some mX3_here := rfl
set_option maxRecDepth 100000 in
theorem mt_3_116 : am_mth 3 116 0 = some mX3_readTypePart := rfl
set_option maxRecDepth 100000 in
theorem mt_3_119 : am_mth 3 119 0 = some mX3_readLeaf := rfl
set_option maxRecDepth 100000 in
theorem mt_3_122 : am_mth 3 122 0 = some mX3_readTwo := rfl
set_option maxRecDepth 100000 in
theorem mt_3_125 : am_mth 3 125 0 = some mX3_readAll := rfl
set_option maxRecDepth 100000 in
theorem mt_3_128 : am_mth 3 128 0 = some mX3_readVariable := rfl
set_option maxRecDepth 100000 in
theorem mt_3_131 : am_mth 3 131 0 = some mX4_add := rfl
set_option maxRecDepth 100000 in
theorem mt_3_133 : am_mth 3 133 1 = some mX4_sign := rfl
set_option maxRecDepth 100000 in
theorem mt_4_23 : am_mth 4 23 0 = some mX4_add := rfl
set_option maxRecDepth 100000 in
theorem mt_4_33 : am_mth 4 33 0 = some mX4_at := rfl
set_option maxRecDepth 100000 in
theorem mt_4_37 : am_mth 4 37 1 = some mX4_kindOf := rfl
set_option maxRecDepth 100000 in
theorem mt_4_40 : am_mth 4 40 1 = some mX4_partsOf := rfl
set_option maxRecDepth 100000 in
theorem mt_4_43 : am_mth 4 43 1 = some mX4_numberOf := rfl
set_option maxRecDepth 100000 in
theorem mt_4_46 : am_mth 4 46 1 = some mX4_sign := rfl
set_option maxRecDepth 100000 in
theorem mt_5_40 : am_mth 5 40 0 = some mX5_placeOf := rfl
set_option maxRecDepth 100000 in
theorem mt_5_50 : am_mth 5 50 0 = some mX7_copy := rfl
set_option maxRecDepth 100000 in
theorem mt_5_54 : am_mth 5 54 0 = some mX4_clear := rfl
set_option maxRecDepth 100000 in
theorem mt_6_30 : am_mth 6 30 1 = some mX4_kindOf := rfl
set_option maxRecDepth 100000 in
theorem mt_6_36 : am_mth 6 36 0 = some mX6_name := rfl
set_option maxRecDepth 100000 in
theorem mt_6_40 : am_mth 6 40 0 = some mX6_write := rfl
set_option maxRecDepth 100000 in
theorem mt_6_44 : am_mth 6 44 0 = some mX6_nameOf := rfl
set_option maxRecDepth 100000 in
theorem mt_6_47 : am_mth 6 47 0 = some mX6_see := rfl
set_option maxRecDepth 100000 in
theorem mt_6_51 : am_mth 6 51 0 = some mX6_orderOf := rfl
set_option maxRecDepth 100000 in
theorem mt_6_54 : am_mth 6 54 1 = some mX6_plain := rfl
set_option maxRecDepth 100000 in
theorem mt_6_57 : am_mth 6 57 1 = some mX4_numberOf := rfl
set_option maxRecDepth 100000 in
theorem mt_6_64 : am_mth 6 64 0 = some mX6_guessesIn := rfl
set_option maxRecDepth 100000 in
theorem mt_6_68 : am_mth 6 68 0 = some mX4_clear := rfl
set_option maxRecDepth 100000 in
theorem mt_6_71 : am_mth 6 71 1 = some mX4_sign := rfl
set_option maxRecDepth 100000 in
theorem mt_6_74 : am_mth 6 74 0 = some mX4_add := rfl
set_option maxRecDepth 100000 in
theorem mt_6_77 : am_mth 6 77 1 = some mX4_partsOf := rfl
set_option maxRecDepth 100000 in
theorem mt_7_48 : am_mth 7 48 0 = some mX4_clear := rfl
set_option maxRecDepth 100000 in
theorem mt_7_51 : am_mth 7 51 0 = some mX7_unwrap := rfl
set_option maxRecDepth 100000 in
theorem mt_7_54 : am_mth 7 54 0 = some mX7_has := rfl
set_option maxRecDepth 100000 in
theorem mt_7_61 : am_mth 7 61 0 = some mX7_standsFor := rfl
set_option maxRecDepth 100000 in
theorem mt_7_65 : am_mth 7 65 0 = some mX7_isWrapping := rfl
set_option maxRecDepth 100000 in
theorem mt_7_71 : am_mth 7 71 0 = some mX4_put := rfl
set_option maxRecDepth 100000 in
theorem mt_7_75 : am_mth 7 75 0 = some mX4_past := rfl
set_option maxRecDepth 100000 in
theorem mt_7_78 : am_mth 7 78 0 = some mX7_clear := rfl
set_option maxRecDepth 100000 in
theorem mt_8_49 : am_mth 8 49 0 = some mX4_clear := rfl
set_option maxRecDepth 100000 in
theorem mt_9_51 : am_mth 9 51 0 = some mX9_make := rfl
set_option maxRecDepth 100000 in
theorem mt_9_55 : am_mth 9 55 0 = some mX9_countOf := rfl
set_option maxRecDepth 100000 in
theorem mt_9_60 : am_mth 9 60 0 = some mX9_has := rfl
set_option maxRecDepth 100000 in
theorem mt_10_52 : am_mth 10 52 0 = some mX9_clear := rfl
set_option maxRecDepth 100000 in
theorem mt_10_55 : am_mth 10 55 0 = some mX7_root := rfl
set_option maxRecDepth 100000 in
theorem mt_10_61 : am_mth 10 61 0 = some mX10_goTo := rfl
set_option maxRecDepth 100000 in
theorem mt_10_66 : am_mth 10 66 0 = some mX10_pace := rfl
set_option maxRecDepth 100000 in
theorem mt_10_69 : am_mth 10 69 0 = some mX10_resume := rfl
set_option maxRecDepth 100000 in
theorem mt_10_72 : am_mth 10 72 0 = some mX9_kindOf := rfl
set_option maxRecDepth 100000 in
theorem mt_10_76 : am_mth 10 76 0 = some mX9_firstOf := rfl
set_option maxRecDepth 100000 in
theorem mt_10_79 : am_mth 10 79 0 = some mX9_countOf := rfl
set_option maxRecDepth 100000 in
theorem mt_10_82 : am_mth 10 82 0 = some mX5_has := rfl
set_option maxRecDepth 100000 in
theorem mt_10_92 : am_mth 10 92 0 = some mX10_termAt := rfl
set_option maxRecDepth 100000 in
theorem mt_10_96 : am_mth 10 96 0 = some mX7_op := rfl
set_option maxRecDepth 100000 in
theorem mt_10_99 : am_mth 10 99 0 = some mX7_number := rfl
set_option maxRecDepth 100000 in
theorem mt_10_102 : am_mth 10 102 0 = some mX10_workName := rfl
set_option maxRecDepth 100000 in
theorem mt_10_106 : am_mth 10 106 0 = some mX9_makePlain := rfl
set_option maxRecDepth 100000 in
theorem mt_10_110 : am_mth 10 110 0 = some mX10_give := rfl
set_option maxRecDepth 100000 in
theorem mt_10_113 : am_mth 10 113 0 = some mX9_makeFunction := rfl
set_option maxRecDepth 100000 in
theorem mt_10_117 : am_mth 10 117 0 = some mX7_part := rfl
set_option maxRecDepth 100000 in
theorem mt_10_120 : am_mth 10 120 0 = some mX10_await := rfl
set_option maxRecDepth 100000 in
theorem mt_10_124 : am_mth 10 124 0 = some mX9_find := rfl
set_option maxRecDepth 100000 in
theorem mt_10_127 : am_mth 10 127 0 = some mX5_placeOf := rfl
set_option maxRecDepth 100000 in
theorem mt_10_130 : am_mth 10 130 0 = some mX10_goOnWithFirst := rfl
set_option maxRecDepth 100000 in
theorem mt_10_134 : am_mth 10 134 0 = some mX10_goOnWithBoth := rfl
set_option maxRecDepth 100000 in
theorem mt_10_137 : am_mth 10 137 0 = some mX9_bind := rfl
set_option maxRecDepth 100000 in
theorem mt_10_140 : am_mth 10 140 0 = some mX10_must := rfl
set_option maxRecDepth 100000 in
theorem mt_10_143 : am_mth 10 143 0 = some mX9_secondOf := rfl
set_option maxRecDepth 100000 in
theorem mt_10_146 : am_mth 10 146 0 = some mX10_workFunction := rfl
set_option maxRecDepth 100000 in
theorem mt_10_149 : am_mth 10 149 0 = some mX9_makePair := rfl
set_option maxRecDepth 100000 in
theorem mt_10_152 : am_mth 10 152 0 = some mX9_homeOf := rfl
set_option maxRecDepth 100000 in
theorem mt_11_82 : am_mth 11 82 1 = some mX3_bytesIn := rfl
set_option maxRecDepth 100000 in
theorem mt_11_89 : am_mth 11 89 0 = some mX3_put := rfl
set_option maxRecDepth 100000 in
theorem mt_11_93 : am_mth 11 93 0 = some mX3_readTerm := rfl
set_option maxRecDepth 100000 in
theorem mt_11_97 : am_mth 11 97 0 = some mX3_readTypes := rfl
set_option maxRecDepth 100000 in
theorem mt_11_100 : am_mth 11 100 0 = some mX1_startTerm := rfl
set_option maxRecDepth 100000 in
theorem mt_11_104 : am_mth 11 104 0 = some mX1_run := rfl
set_option maxRecDepth 100000 in
theorem mt_11_107 : am_mth 11 107 0 = some mX11_counted := rfl
set_option maxRecDepth 100000 in
theorem mt_11_118 : am_mth 11 118 0 = some mX1_startTypes := rfl
set_option maxRecDepth 100000 in
theorem mt_11_158 : am_mth 11 158 0 = some mX6_guessesIn := rfl
set_option maxRecDepth 100000 in
theorem mt_11_168 : am_mth 11 168 0 = some mX6_rank := rfl
set_option maxRecDepth 100000 in
theorem mt_11_172 : am_mth 11 172 0 = some mX6_told := rfl
set_option maxRecDepth 100000 in
theorem mt_11_188 : am_mth 11 188 0 = some mX0_lengthOf := rfl
set_option maxRecDepth 100000 in
theorem mt_11_197 : am_mth 11 197 0 = some mX2_mayBeKept := rfl
set_option maxRecDepth 100000 in
theorem mt_11_201 : am_mth 11 201 0 = some mX5_takes := rfl
set_option maxRecDepth 100000 in
theorem mt_11_205 : am_mth 11 205 0 = some mX5_put := rfl
set_option maxRecDepth 100000 in
theorem mt_11_208 : am_mth 11 208 0 = some mX6_close := rfl
set_option maxRecDepth 100000 in
theorem mt_11_215 : am_mth 11 215 0 = some mX5_has := rfl
set_option maxRecDepth 100000 in
theorem mt_11_232 : am_mth 11 232 0 = some mX10_workOut := rfl
set_option maxRecDepth 100000 in
theorem mt_11_241 : am_mth 11 241 0 = some mX10_answerKind := rfl
set_option maxRecDepth 100000 in
theorem mt_11_244 : am_mth 11 244 0 = some mX10_answerNumber := rfl
set_option maxRecDepth 100000 in
theorem mt_11_247 : am_mth 11 247 0 = some mX7_wrap := rfl
set_option maxRecDepth 100000 in
theorem mt_11_254 : am_mth 11 254 0 = some mX7_at := rfl
set_option maxRecDepth 100000 in
theorem mt_11_257 : am_mth 11 257 0 = some mX7_unwrap := rfl
set_option maxRecDepth 100000 in
theorem mt_11_260 : am_mth 11 260 0 = some mX4_same := rfl
set_option maxRecDepth 100000 in
theorem mt_11_264 : am_mth 11 264 0 = some mX4_alls := rfl
set_option maxRecDepth 100000 in
theorem mt_12_119 : am_mth 12 119 1 = some mX12_bytesOf := rfl
set_option maxRecDepth 100000 in
theorem mt_12_123 : am_mth 12 123 0 = some mX12_brings := rfl
set_option maxRecDepth 100000 in
theorem mt_12_130 : am_mth 12 130 0 = some mX12_here := rfl
set_option maxRecDepth 100000 in
theorem mt_12_140 : am_mth 12 140 0 = some mX12_look := rfl
set_option maxRecDepth 100000 in
theorem mt_12_143 : am_mth 12 143 1 = some mX12_isLetter := rfl
set_option maxRecDepth 100000 in
theorem mt_12_147 : am_mth 12 147 0 = some mX12_fails := rfl
set_option maxRecDepth 100000 in
theorem mt_12_150 : am_mth 12 150 0 = some mX12_puts := rfl
set_option maxRecDepth 100000 in
theorem mt_12_153 : am_mth 12 153 0 = some mX12_readsType := rfl
set_option maxRecDepth 100000 in
theorem mt_12_157 : am_mth 12 157 0 = some mX12_letter := rfl
set_option maxRecDepth 100000 in
theorem mt_12_163 : am_mth 12 163 1 = some mX12_isDigit := rfl
set_option maxRecDepth 100000 in
theorem mt_12_166 : am_mth 12 166 1 = some mX12_kindOf := rfl
set_option maxRecDepth 100000 in
theorem mt_12_169 : am_mth 12 169 0 = some mX12_opens := rfl
set_option maxRecDepth 100000 in
theorem mt_12_173 : am_mth 12 173 0 = some mX12_number := rfl
set_option maxRecDepth 100000 in
theorem mt_12_176 : am_mth 12 176 0 = some mX12_puts_ := rfl
set_option maxRecDepth 100000 in
theorem mt_12_179 : am_mth 12 179 1 = some mX12_parts := rfl
set_option maxRecDepth 100000 in
theorem mt_12_182 : am_mth 12 182 0 = some mX12_readsExpression := rfl
set_option maxRecDepth 100000 in
theorem mt_12_185 : am_mth 12 185 0 = some mX12_begins := rfl
set_option maxRecDepth 100000 in
theorem mt_12_191 : am_mth 12 191 0 = some mX12_endsText := rfl
set_option maxRecDepth 100000 in
theorem mt_12_194 : am_mth 12 194 0 = some mX12_readsWhole := rfl
set_option maxRecDepth 100000 in
theorem mt_12_199 : am_mth 12 199 1 = some mX12_isIn := rfl
set_option maxRecDepth 100000 in
theorem mt_12_203 : am_mth 12 203 0 = some mX12_readsTypes := rfl
set_option maxRecDepth 100000 in
theorem mt_12_206 : am_mth 12 206 0 = some mX12_of := rfl
set_option maxRecDepth 100000 in
theorem mt_12_215 : am_mth 12 215 0 = some mX12_makes := rfl
set_option maxRecDepth 100000 in
theorem mt_12_222 : am_mth 12 222 0 = some mX12_builds := rfl
set_option maxRecDepth 100000 in
theorem mt_12_225 : am_mth 12 225 0 = some mX12_with := rfl
set_option maxRecDepth 100000 in
theorem mt_12_228 : am_mth 12 228 0 = some mX12_isBoth := rfl
set_option maxRecDepth 100000 in
theorem mt_12_231 : am_mth 12 231 0 = some mX12_signs := rfl
set_option maxRecDepth 100000 in
theorem mt_12_234 : am_mth 12 234 0 = some mX12_rank := rfl
set_option maxRecDepth 100000 in
theorem mt_12_242 : am_mth 12 242 0 = some mX12_hasAll := rfl
set_option maxRecDepth 100000 in
theorem mt_12_245 : am_mth 12 245 0 = some mX12_hasGuess := rfl
set_option maxRecDepth 100000 in
theorem mt_12_255 : am_mth 12 255 0 = some mX12_comes := rfl
set_option maxRecDepth 100000 in
theorem mt_12_261 : am_mth 12 261 0 = some mX12_placeOf := rfl
set_option maxRecDepth 100000 in
theorem mt_12_267 : am_mth 12 267 0 = some mX12_signsBy := rfl
set_option maxRecDepth 100000 in
theorem mt_12_270 : am_mth 12 270 0 = some mX12_replaced := rfl
set_option maxRecDepth 100000 in
theorem mt_12_276 : am_mth 12 276 0 = some mX12_by := rfl
set_option maxRecDepth 100000 in
theorem mt_12_300 : am_mth 12 300 0 = some mX12_begins_ := rfl
set_option maxRecDepth 100000 in
theorem mt_12_303 : am_mth 12 303 0 = some mX12_checks := rfl
set_option maxRecDepth 100000 in
theorem mt_12_306 : am_mth 12 306 0 = some mX12_rule := rfl
set_option maxRecDepth 100000 in
theorem mt_12_309 : am_mth 12 309 0 = some mX12_freshConstant := rfl
set_option maxRecDepth 100000 in
theorem mt_12_312 : am_mth 12 312 0 = some mX12_inside := rfl
set_option maxRecDepth 100000 in
theorem mt_12_315 : am_mth 12 315 0 = some mX12_check := rfl
set_option maxRecDepth 100000 in
theorem mt_12_318 : am_mth 12 318 0 = some mX12_cuts := rfl
set_option maxRecDepth 100000 in
theorem mt_12_321 : am_mth 12 321 0 = some mX12_marked := rfl
set_option maxRecDepth 100000 in
theorem mt_12_324 : am_mth 12 324 0 = some mX12_cutsAt := rfl
set_option maxRecDepth 100000 in
theorem mt_12_327 : am_mth 12 327 0 = some mX12_plain := rfl
set_option maxRecDepth 100000 in
theorem mt_12_330 : am_mth 12 330 0 = some mX12_infer := rfl
set_option maxRecDepth 100000 in
theorem mt_12_333 : am_mth 12 333 0 = some mX12_below := rfl
set_option maxRecDepth 100000 in
theorem mt_12_339 : am_mth 12 339 0 = some mX12_entryOwn := rfl
set_option maxRecDepth 100000 in
theorem mt_12_342 : am_mth 12 342 0 = some mX12_placeOfMark := rfl
set_option maxRecDepth 100000 in
theorem mt_12_345 : am_mth 12 345 0 = some mX12_infers := rfl
set_option maxRecDepth 100000 in
theorem mt_12_348 : am_mth 12 348 0 = some mX12_failsNow := rfl
set_option maxRecDepth 100000 in
theorem mt_12_351 : am_mth 12 351 0 = some mX12_noted := rfl
set_option maxRecDepth 100000 in
theorem mt_12_354 : am_mth 12 354 0 = some mX12_typeFrom := rfl
set_option maxRecDepth 100000 in
theorem mt_12_357 : am_mth 12 357 0 = some mX12_freshGuess := rfl
set_option maxRecDepth 100000 in
theorem mt_12_360 : am_mth 12 360 0 = some mX12_apply := rfl
set_option maxRecDepth 100000 in
theorem mt_12_363 : am_mth 12 363 0 = some mX12_takesOut := rfl
set_option maxRecDepth 100000 in
theorem mt_12_366 : am_mth 12 366 0 = some mX12_partOf := rfl
set_option maxRecDepth 100000 in
theorem mt_12_370 : am_mth 12 370 0 = some mX12_isOpen := rfl
set_option maxRecDepth 100000 in
theorem mt_12_373 : am_mth 12 373 0 = some mX12_splitsPair := rfl
set_option maxRecDepth 100000 in
theorem mt_12_376 : am_mth 12 376 0 = some mX12_splits := rfl
set_option maxRecDepth 100000 in
theorem mt_12_379 : am_mth 12 379 0 = some mX12_applies := rfl
set_option maxRecDepth 100000 in
theorem mt_12_382 : am_mth 12 382 0 = some mX12_isBelow := rfl
set_option maxRecDepth 100000 in
theorem mt_12_385 : am_mth 12 385 0 = some mX12_areSame := rfl
set_option maxRecDepth 100000 in
theorem mt_12_388 : am_mth 12 388 0 = some mX12_left := rfl
set_option maxRecDepth 100000 in
theorem mt_12_390 : am_mth 12 390 0 = some mX12_right := rfl
set_option maxRecDepth 100000 in
theorem mt_12_392 : am_mth 12 392 0 = some mX12_isAhead := rfl
set_option maxRecDepth 100000 in
theorem mt_12_395 : am_mth 12 395 0 = some mX12_solves := rfl
set_option maxRecDepth 100000 in
theorem mt_12_398 : am_mth 12 398 0 = some mX12_becomesLeft := rfl
set_option maxRecDepth 100000 in
theorem mt_12_401 : am_mth 12 401 0 = some mX12_meets := rfl
set_option maxRecDepth 100000 in
theorem mt_12_405 : am_mth 12 405 0 = some mX12_becomesRight := rfl
set_option maxRecDepth 100000 in
theorem mt_12_417 : am_mth 12 417 1 = some mX12_typeRowOf := rfl
set_option maxRecDepth 100000 in
theorem mt_12_421 : am_mth 12 421 0 = some mX12_clears := rfl
set_option maxRecDepth 100000 in
theorem mt_12_438 : am_mth 12 438 0 = some mX12_copies := rfl
set_option maxRecDepth 100000 in
theorem mt_12_450 : am_mth 12 450 0 = some mX12_judges := rfl
set_option maxRecDepth 100000 in
theorem mt_12_453 : am_mth 12 453 0 = some mX12_counted := rfl
set_option maxRecDepth 100000 in
theorem mt_12_459 : am_mth 12 459 0 = some mX12_writes := rfl
set_option maxRecDepth 100000 in
theorem mt_12_465 : am_mth 12 465 0 = some mX12_writesType := rfl
set_option maxRecDepth 100000 in
theorem mt_12_471 : am_mth 12 471 1 = some mX12_among := rfl
set_option maxRecDepth 100000 in
theorem mt_12_478 : am_mth 12 478 0 = some mX12_hasType := rfl
set_option maxRecDepth 100000 in
theorem mt_12_482 : am_mth 12 482 0 = some mX12_tellsType := rfl
set_option maxRecDepth 100000 in
theorem mt_12_485 : am_mth 12 485 0 = some mX12_openOf := rfl
set_option maxRecDepth 100000 in
theorem mt_12_490 : am_mth 12 490 0 = some mX12_isEntry := rfl
set_option maxRecDepth 100000 in
theorem mt_12_495 : am_mth 12 495 0 = some mX12_encodes := rfl
set_option maxRecDepth 100000 in
theorem mt_12_500 : am_mth 12 500 0 = some mX12_isOnShelf := rfl
set_option maxRecDepth 100000 in
theorem mt_12_503 : am_mth 12 503 1 = some mX12_rowOf := rfl
set_option maxRecDepth 100000 in
theorem mt_12_506 : am_mth 12 506 0 = some mX12_allsIn := rfl
set_option maxRecDepth 100000 in
theorem mt_12_509 : am_mth 12 509 0 = some mX12_tellsOf := rfl
set_option maxRecDepth 100000 in
theorem mt_12_512 : am_mth 12 512 0 = some mX12_laysAside := rfl
set_option maxRecDepth 100000 in
theorem mt_12_515 : am_mth 12 515 0 = some mX12_takesBack := rfl
set_option maxRecDepth 100000 in
theorem mt_12_518 : am_mth 12 518 0 = some mX12_judgesNoted := rfl
set_option maxRecDepth 100000 in
theorem mt_12_523 : am_mth 12 523 0 = some mX12_areAlike := rfl
set_option maxRecDepth 100000 in
theorem mt_12_541 : am_mth 12 541 0 = some mX12_worksName := rfl
set_option maxRecDepth 100000 in
theorem mt_12_544 : am_mth 12 544 0 = some mX12_value := rfl
set_option maxRecDepth 100000 in
theorem mt_12_547 : am_mth 12 547 0 = some mX12_works := rfl
set_option maxRecDepth 100000 in
theorem mt_12_550 : am_mth 12 550 0 = some mX12_is := rfl
set_option maxRecDepth 100000 in
theorem mt_12_553 : am_mth 12 553 0 = some mX12_linked := rfl
set_option maxRecDepth 100000 in
theorem mt_12_556 : am_mth 12 556 0 = some mX12_worksBoth := rfl
set_option maxRecDepth 100000 in
theorem mt_12_559 : am_mth 12 559 0 = some mX12_sticks := rfl
end
section
/-! THE CLAIM OUT OF ONE WALK OF THE LAW'S BODY. Your part is whole_start (and what it stands on); all else here is the same for every law, but numbers. -/
def R_law : String := "RankCheckerLaw"
def lw_P (b : Addr) (xs : List Int32) (args : Array Value) (s : State) : Prop := args = #[.ref b] ∧ s.IntsAt b xs ∧ xs.length ≤ 3072 ∧ (Jvm.Cond.and given_1 narrow_1).before args s = true
def lw_Q (_ : Array Value) (s : State) (o : Outcome) (t : State) : Prop := o = .returned (some (.int 1)) ∧ Framed s o t [] 601024 7293034
def lw_Z (below : List Frame) (a : Array Value) (s : State) : State → Prop := fun t => ∃ o, t.status = .running ∧ Ended t below o ∧ lw_Q a s o t
/-- the law's own end, with 1 on the stack, nothing written that was there before, its room as the claim has it -/
theorem lw_ret {p : Program} {l : Launch} {e : Env} {s : State} {m : MethodId} {below : List Frame} {meth : Method} {c : Code} {b : Nat} (hx : p.tables.exec = Jvm.exec) (hb : c.code = code) (hr : meth.sig.returnType = ret) (hlocks : meth.locks = false) {pc : Nat} {H : Heap} {ls : Array Slot} (hdg : decode code pc = .ok (.ireturn, 1)) : W p l e room_1 s m #[Value.ref b] below meth c H [] 601024 7293034 (lw_Z below #[Value.ref b] s) (F0 m pc ls [.int 1]) := by
  intro T hT X
  obtain ⟨fs, hret, hrun, hended, hW, hframe⟩ := X.leave (v := some (.int 1)) (hlocks := hlocks) (fun h => by rw [hr] at h; cases h)
  have hmeth' : T.vm.method? m = some meth := X.method'
  refine ⟨T.setFrames fs, ?_, .returned (some (.int 1)), hrun, hended, rfl, ⟨_, rfl⟩, hW, hframe⟩
  jvm_step X.here [X.here.top, hx, hb, hdg, hmeth', hr, ret, narrow_b1]
  (try refine ⟨rfl, ?_⟩); (try refine ⟨rfl, ?_⟩)
  first | (intro acts; rw [hret _ acts rfl rfl rfl]) | rw [hret _ _ rfl rfl rfl]
  exact Steps.refl _
/-- what holds at the law's entry: the machine, the code, the tables' words (any of lw_tbl by 'hts w (by decide +kernel)'), the script of L ints xs at the cell b, what the Statement gives of the start (any of its parts by flat_of_before) -/
def lw_At (p : Program) (s : State) (m : MethodId) (meth : Method) (c : Code) (b L : Nat) (xs : Nat → Int32) : Prop :=
  p.tables.exec = Jvm.exec ∧ c.code = code ∧ meth.sig.returnType = ret ∧ c.maxLocals = 7 ∧ s.vm.findClass R_law = some m.cls ∧ (∀ w ∈ lw_tbl, w.before #[Value.ref b] s = true) ∧ va_X b L xs s s.heap ∧ b < s.heap.size ∧ meth.locks = false ∧ (Jvm.Cond.and given_1 narrow_1).before #[Value.ref b] s = true
end
section
theorem dL_step_0 : decode cL_step 0 = .ok (.aload_n 3, 1) := by decide +kernel
theorem dL_step_1 : decode cL_step 1 = .ok (.iconst 0, 1) := by decide +kernel
theorem dL_step_2 : decode cL_step 2 = .ok (.aload_n 0, 1) := by decide +kernel
theorem dL_step_3 : decode cL_step 3 = .ok (.iload_n 1, 1) := by decide +kernel
theorem dL_step_4 : decode cL_step 4 = .ok (.iload_n 2, 1) := by decide +kernel
theorem dL_step_5 : decode cL_step 5 = .ok (.invokevirtual 7, 3) := by decide +kernel
theorem dL_step_8 : decode cL_step 8 = .ok (.i2l, 1) := by decide +kernel
theorem dL_step_9 : decode cL_step 9 = .ok (.lastore, 1) := by decide +kernel
theorem dL_step_10 : decode cL_step 10 = .ok (.goto 7, 3) := by decide +kernel
theorem dL_step_13 : decode cL_step 13 = .ok (.astore 4, 2) := by decide +kernel
theorem dL_step_15 : decode cL_step 15 = .ok (.iconst 1, 1) := by decide +kernel
theorem dL_step_16 : decode cL_step 16 = .ok (.ireturn, 1) := by decide +kernel
theorem dL_step_17 : decode cL_step 17 = .ok (.iconst 0, 1) := by decide +kernel
theorem dL_step_18 : decode cL_step 18 = .ok (.ireturn, 1) := by decide +kernel
theorem dL_law_0 : decode cL_law 0 = .ok (.new 8, 3) := by decide +kernel
theorem dL_law_3 : decode cL_law 3 = .ok (.dup, 1) := by decide +kernel
theorem dL_law_4 : decode cL_law 4 = .ok (.invokespecial 15, 3) := by decide +kernel
theorem dL_law_7 : decode cL_law 7 = .ok (.astore_n 1, 1) := by decide +kernel
theorem dL_law_8 : decode cL_law 8 = .ok (.new 16, 3) := by decide +kernel
theorem dL_law_11 : decode cL_law 11 = .ok (.dup, 1) := by decide +kernel
theorem dL_law_12 : decode cL_law 12 = .ok (.invokespecial 18, 3) := by decide +kernel
theorem dL_law_15 : decode cL_law 15 = .ok (.astore_n 2, 1) := by decide +kernel
theorem dL_law_16 : decode cL_law 16 = .ok (.iconst 1, 1) := by decide +kernel
theorem dL_law_17 : decode cL_law 17 = .ok (.newarray .long, 2) := by decide +kernel
theorem dL_law_19 : decode cL_law 19 = .ok (.astore_n 3, 1) := by decide +kernel
theorem dL_law_20 : decode cL_law 20 = .ok (.iconst 0, 1) := by decide +kernel
theorem dL_law_21 : decode cL_law 21 = .ok (.istore 4, 2) := by decide +kernel
theorem dL_law_23 : decode cL_law 23 = .ok (.iload 4, 2) := by decide +kernel
theorem dL_law_25 : decode cL_law 25 = .ok (.aload_n 0, 1) := by decide +kernel
theorem dL_law_26 : decode cL_law 26 = .ok (.arraylength, 1) := by decide +kernel
theorem dL_law_27 : decode cL_law 27 = .ok (.bipush 6, 2) := by decide +kernel
theorem dL_law_29 : decode cL_law 29 = .ok (.isub, 1) := by decide +kernel
theorem dL_law_30 : decode cL_law 30 = .ok (.if_icmp .gt 715, 3) := by decide +kernel
theorem dL_law_33 : decode cL_law 33 = .ok (.aload_n 0, 1) := by decide +kernel
theorem dL_law_34 : decode cL_law 34 = .ok (.iload 4, 2) := by decide +kernel
theorem dL_law_36 : decode cL_law 36 = .ok (.iaload, 1) := by decide +kernel
theorem dL_law_37 : decode cL_law 37 = .ok (.bipush 31, 2) := by decide +kernel
theorem dL_law_39 : decode cL_law 39 = .ok (.iand, 1) := by decide +kernel
theorem dL_law_40 : decode cL_law 40 = .ok (.tableswitch 699 0 19 #[96, 169, 194, 219, 232, 245, 270, 295, 363, 400, 437, 462, 475, 512, 549, 574, 587, 612, 649, 674], 96) := by decide +kernel
theorem dL_law_136 : decode cL_law 136 = .ok (.aload_n 1, 1) := by decide +kernel
theorem dL_law_137 : decode cL_law 137 = .ok (.aload_n 0, 1) := by decide +kernel
theorem dL_law_138 : decode cL_law 138 = .ok (.iload 4, 2) := by decide +kernel
theorem dL_law_140 : decode cL_law 140 = .ok (.iconst 1, 1) := by decide +kernel
theorem dL_law_141 : decode cL_law 141 = .ok (.iadd, 1) := by decide +kernel
theorem dL_law_142 : decode cL_law 142 = .ok (.iaload, 1) := by decide +kernel
theorem dL_law_143 : decode cL_law 143 = .ok (.aload_n 0, 1) := by decide +kernel
theorem dL_law_144 : decode cL_law 144 = .ok (.iload 4, 2) := by decide +kernel
theorem dL_law_146 : decode cL_law 146 = .ok (.iconst 2, 1) := by decide +kernel
theorem dL_law_147 : decode cL_law 147 = .ok (.iadd, 1) := by decide +kernel
theorem dL_law_148 : decode cL_law 148 = .ok (.iaload, 1) := by decide +kernel
theorem dL_law_149 : decode cL_law 149 = .ok (.aload_n 0, 1) := by decide +kernel
theorem dL_law_150 : decode cL_law 150 = .ok (.iload 4, 2) := by decide +kernel
theorem dL_law_152 : decode cL_law 152 = .ok (.iconst 3, 1) := by decide +kernel
theorem dL_law_153 : decode cL_law 153 = .ok (.iadd, 1) := by decide +kernel
theorem dL_law_154 : decode cL_law 154 = .ok (.iaload, 1) := by decide +kernel
theorem dL_law_155 : decode cL_law 155 = .ok (.aload_n 0, 1) := by decide +kernel
theorem dL_law_156 : decode cL_law 156 = .ok (.iload 4, 2) := by decide +kernel
theorem dL_law_158 : decode cL_law 158 = .ok (.iconst 4, 1) := by decide +kernel
theorem dL_law_159 : decode cL_law 159 = .ok (.iadd, 1) := by decide +kernel
theorem dL_law_160 : decode cL_law 160 = .ok (.iaload, 1) := by decide +kernel
theorem dL_law_161 : decode cL_law 161 = .ok (.aload_n 0, 1) := by decide +kernel
theorem dL_law_162 : decode cL_law 162 = .ok (.iload 4, 2) := by decide +kernel
theorem dL_law_164 : decode cL_law 164 = .ok (.iconst 5, 1) := by decide +kernel
theorem dL_law_165 : decode cL_law 165 = .ok (.iadd, 1) := by decide +kernel
theorem dL_law_166 : decode cL_law 166 = .ok (.iaload, 1) := by decide +kernel
theorem dL_law_167 : decode cL_law 167 = .ok (.invokevirtual 19, 3) := by decide +kernel
theorem dL_law_170 : decode cL_law 170 = .ok (.aload_n 2, 1) := by decide +kernel
theorem dL_law_171 : decode cL_law 171 = .ok (.aload_n 0, 1) := by decide +kernel
theorem dL_law_172 : decode cL_law 172 = .ok (.iload 4, 2) := by decide +kernel
theorem dL_law_174 : decode cL_law 174 = .ok (.iconst 1, 1) := by decide +kernel
theorem dL_law_175 : decode cL_law 175 = .ok (.iadd, 1) := by decide +kernel
theorem dL_law_176 : decode cL_law 176 = .ok (.iaload, 1) := by decide +kernel
theorem dL_law_177 : decode cL_law 177 = .ok (.aload_n 0, 1) := by decide +kernel
theorem dL_law_178 : decode cL_law 178 = .ok (.iload 4, 2) := by decide +kernel
theorem dL_law_180 : decode cL_law 180 = .ok (.iconst 2, 1) := by decide +kernel
theorem dL_law_181 : decode cL_law 181 = .ok (.iadd, 1) := by decide +kernel
theorem dL_law_182 : decode cL_law 182 = .ok (.iaload, 1) := by decide +kernel
theorem dL_law_183 : decode cL_law 183 = .ok (.aload_n 0, 1) := by decide +kernel
theorem dL_law_184 : decode cL_law 184 = .ok (.iload 4, 2) := by decide +kernel
theorem dL_law_186 : decode cL_law 186 = .ok (.iconst 3, 1) := by decide +kernel
theorem dL_law_187 : decode cL_law 187 = .ok (.iadd, 1) := by decide +kernel
theorem dL_law_188 : decode cL_law 188 = .ok (.iaload, 1) := by decide +kernel
theorem dL_law_189 : decode cL_law 189 = .ok (.aload_n 0, 1) := by decide +kernel
theorem dL_law_190 : decode cL_law 190 = .ok (.iload 4, 2) := by decide +kernel
theorem dL_law_192 : decode cL_law 192 = .ok (.iconst 4, 1) := by decide +kernel
theorem dL_law_193 : decode cL_law 193 = .ok (.iadd, 1) := by decide +kernel
theorem dL_law_194 : decode cL_law 194 = .ok (.iaload, 1) := by decide +kernel
theorem dL_law_195 : decode cL_law 195 = .ok (.aload_n 0, 1) := by decide +kernel
theorem dL_law_196 : decode cL_law 196 = .ok (.iload 4, 2) := by decide +kernel
theorem dL_law_198 : decode cL_law 198 = .ok (.iconst 5, 1) := by decide +kernel
theorem dL_law_199 : decode cL_law 199 = .ok (.iadd, 1) := by decide +kernel
theorem dL_law_200 : decode cL_law 200 = .ok (.iaload, 1) := by decide +kernel
theorem dL_law_201 : decode cL_law 201 = .ok (.invokevirtual 23, 3) := by decide +kernel
theorem dL_law_204 : decode cL_law 204 = .ok (.if_icmp .eq 535, 3) := by decide +kernel
theorem dL_law_207 : decode cL_law 207 = .ok (.iconst 0, 1) := by decide +kernel
theorem dL_law_208 : decode cL_law 208 = .ok (.ireturn, 1) := by decide +kernel
theorem dL_law_209 : decode cL_law 209 = .ok (.aload_n 1, 1) := by decide +kernel
theorem dL_law_210 : decode cL_law 210 = .ok (.aload_n 0, 1) := by decide +kernel
theorem dL_law_211 : decode cL_law 211 = .ok (.iload 4, 2) := by decide +kernel
theorem dL_law_213 : decode cL_law 213 = .ok (.iconst 1, 1) := by decide +kernel
theorem dL_law_214 : decode cL_law 214 = .ok (.iadd, 1) := by decide +kernel
theorem dL_law_215 : decode cL_law 215 = .ok (.iaload, 1) := by decide +kernel
theorem dL_law_216 : decode cL_law 216 = .ok (.invokevirtual 24, 3) := by decide +kernel
theorem dL_law_219 : decode cL_law 219 = .ok (.aload_n 2, 1) := by decide +kernel
theorem dL_law_220 : decode cL_law 220 = .ok (.aload_n 0, 1) := by decide +kernel
theorem dL_law_221 : decode cL_law 221 = .ok (.iload 4, 2) := by decide +kernel
theorem dL_law_223 : decode cL_law 223 = .ok (.iconst 1, 1) := by decide +kernel
theorem dL_law_224 : decode cL_law 224 = .ok (.iadd, 1) := by decide +kernel
theorem dL_law_225 : decode cL_law 225 = .ok (.iaload, 1) := by decide +kernel
theorem dL_law_226 : decode cL_law 226 = .ok (.invokevirtual 28, 3) := by decide +kernel
theorem dL_law_229 : decode cL_law 229 = .ok (.if_icmp .eq 510, 3) := by decide +kernel
theorem dL_law_232 : decode cL_law 232 = .ok (.iconst 0, 1) := by decide +kernel
theorem dL_law_233 : decode cL_law 233 = .ok (.ireturn, 1) := by decide +kernel
theorem dL_law_234 : decode cL_law 234 = .ok (.aload_n 1, 1) := by decide +kernel
theorem dL_law_235 : decode cL_law 235 = .ok (.aload_n 0, 1) := by decide +kernel
theorem dL_law_236 : decode cL_law 236 = .ok (.iload 4, 2) := by decide +kernel
theorem dL_law_238 : decode cL_law 238 = .ok (.iconst 1, 1) := by decide +kernel
theorem dL_law_239 : decode cL_law 239 = .ok (.iadd, 1) := by decide +kernel
theorem dL_law_240 : decode cL_law 240 = .ok (.iaload, 1) := by decide +kernel
theorem dL_law_241 : decode cL_law 241 = .ok (.invokevirtual 29, 3) := by decide +kernel
theorem dL_law_244 : decode cL_law 244 = .ok (.aload_n 2, 1) := by decide +kernel
theorem dL_law_245 : decode cL_law 245 = .ok (.aload_n 0, 1) := by decide +kernel
theorem dL_law_246 : decode cL_law 246 = .ok (.iload 4, 2) := by decide +kernel
theorem dL_law_248 : decode cL_law 248 = .ok (.iconst 1, 1) := by decide +kernel
theorem dL_law_249 : decode cL_law 249 = .ok (.iadd, 1) := by decide +kernel
theorem dL_law_250 : decode cL_law 250 = .ok (.iaload, 1) := by decide +kernel
theorem dL_law_251 : decode cL_law 251 = .ok (.invokevirtual 33, 3) := by decide +kernel
theorem dL_law_254 : decode cL_law 254 = .ok (.if_icmp .eq 485, 3) := by decide +kernel
theorem dL_law_257 : decode cL_law 257 = .ok (.iconst 0, 1) := by decide +kernel
theorem dL_law_258 : decode cL_law 258 = .ok (.ireturn, 1) := by decide +kernel
theorem dL_law_259 : decode cL_law 259 = .ok (.aload_n 1, 1) := by decide +kernel
theorem dL_law_260 : decode cL_law 260 = .ok (.invokevirtual 34, 3) := by decide +kernel
theorem dL_law_263 : decode cL_law 263 = .ok (.aload_n 2, 1) := by decide +kernel
theorem dL_law_264 : decode cL_law 264 = .ok (.invokevirtual 38, 3) := by decide +kernel
theorem dL_law_267 : decode cL_law 267 = .ok (.if_icmp .eq 472, 3) := by decide +kernel
theorem dL_law_270 : decode cL_law 270 = .ok (.iconst 0, 1) := by decide +kernel
theorem dL_law_271 : decode cL_law 271 = .ok (.ireturn, 1) := by decide +kernel
theorem dL_law_272 : decode cL_law 272 = .ok (.aload_n 1, 1) := by decide +kernel
theorem dL_law_273 : decode cL_law 273 = .ok (.invokevirtual 39, 3) := by decide +kernel
theorem dL_law_276 : decode cL_law 276 = .ok (.aload_n 2, 1) := by decide +kernel
theorem dL_law_277 : decode cL_law 277 = .ok (.invokevirtual 42, 3) := by decide +kernel
theorem dL_law_280 : decode cL_law 280 = .ok (.if_icmp .eq 459, 3) := by decide +kernel
theorem dL_law_283 : decode cL_law 283 = .ok (.iconst 0, 1) := by decide +kernel
theorem dL_law_284 : decode cL_law 284 = .ok (.ireturn, 1) := by decide +kernel
theorem dL_law_285 : decode cL_law 285 = .ok (.aload_n 1, 1) := by decide +kernel
theorem dL_law_286 : decode cL_law 286 = .ok (.aload_n 0, 1) := by decide +kernel
theorem dL_law_287 : decode cL_law 287 = .ok (.iload 4, 2) := by decide +kernel
theorem dL_law_289 : decode cL_law 289 = .ok (.iconst 1, 1) := by decide +kernel
theorem dL_law_290 : decode cL_law 290 = .ok (.iadd, 1) := by decide +kernel
theorem dL_law_291 : decode cL_law 291 = .ok (.iaload, 1) := by decide +kernel
theorem dL_law_292 : decode cL_law 292 = .ok (.invokevirtual 43, 3) := by decide +kernel
theorem dL_law_295 : decode cL_law 295 = .ok (.aload_n 2, 1) := by decide +kernel
theorem dL_law_296 : decode cL_law 296 = .ok (.aload_n 0, 1) := by decide +kernel
theorem dL_law_297 : decode cL_law 297 = .ok (.iload 4, 2) := by decide +kernel
theorem dL_law_299 : decode cL_law 299 = .ok (.iconst 1, 1) := by decide +kernel
theorem dL_law_300 : decode cL_law 300 = .ok (.iadd, 1) := by decide +kernel
theorem dL_law_301 : decode cL_law 301 = .ok (.iaload, 1) := by decide +kernel
theorem dL_law_302 : decode cL_law 302 = .ok (.invokevirtual 46, 3) := by decide +kernel
theorem dL_law_305 : decode cL_law 305 = .ok (.if_icmp .eq 434, 3) := by decide +kernel
theorem dL_law_308 : decode cL_law 308 = .ok (.iconst 0, 1) := by decide +kernel
theorem dL_law_309 : decode cL_law 309 = .ok (.ireturn, 1) := by decide +kernel
theorem dL_law_310 : decode cL_law 310 = .ok (.aload_n 1, 1) := by decide +kernel
theorem dL_law_311 : decode cL_law 311 = .ok (.aload_n 0, 1) := by decide +kernel
theorem dL_law_312 : decode cL_law 312 = .ok (.iload 4, 2) := by decide +kernel
theorem dL_law_314 : decode cL_law 314 = .ok (.iconst 1, 1) := by decide +kernel
theorem dL_law_315 : decode cL_law 315 = .ok (.iadd, 1) := by decide +kernel
theorem dL_law_316 : decode cL_law 316 = .ok (.iaload, 1) := by decide +kernel
theorem dL_law_317 : decode cL_law 317 = .ok (.invokevirtual 47, 3) := by decide +kernel
theorem dL_law_320 : decode cL_law 320 = .ok (.aload_n 2, 1) := by decide +kernel
theorem dL_law_321 : decode cL_law 321 = .ok (.aload_n 0, 1) := by decide +kernel
theorem dL_law_322 : decode cL_law 322 = .ok (.iload 4, 2) := by decide +kernel
theorem dL_law_324 : decode cL_law 324 = .ok (.iconst 1, 1) := by decide +kernel
theorem dL_law_325 : decode cL_law 325 = .ok (.iadd, 1) := by decide +kernel
theorem dL_law_326 : decode cL_law 326 = .ok (.iaload, 1) := by decide +kernel
theorem dL_law_327 : decode cL_law 327 = .ok (.invokevirtual 50, 3) := by decide +kernel
theorem dL_law_330 : decode cL_law 330 = .ok (.if_icmp .eq 409, 3) := by decide +kernel
theorem dL_law_333 : decode cL_law 333 = .ok (.iconst 0, 1) := by decide +kernel
theorem dL_law_334 : decode cL_law 334 = .ok (.ireturn, 1) := by decide +kernel
theorem dL_law_335 : decode cL_law 335 = .ok (.aload_n 1, 1) := by decide +kernel
theorem dL_law_336 : decode cL_law 336 = .ok (.aload_n 0, 1) := by decide +kernel
theorem dL_law_337 : decode cL_law 337 = .ok (.iload 4, 2) := by decide +kernel
theorem dL_law_339 : decode cL_law 339 = .ok (.iconst 1, 1) := by decide +kernel
theorem dL_law_340 : decode cL_law 340 = .ok (.iadd, 1) := by decide +kernel
theorem dL_law_341 : decode cL_law 341 = .ok (.iaload, 1) := by decide +kernel
theorem dL_law_342 : decode cL_law 342 = .ok (.aload_n 0, 1) := by decide +kernel
theorem dL_law_343 : decode cL_law 343 = .ok (.iload 4, 2) := by decide +kernel
theorem dL_law_345 : decode cL_law 345 = .ok (.iconst 2, 1) := by decide +kernel
theorem dL_law_346 : decode cL_law 346 = .ok (.iadd, 1) := by decide +kernel
theorem dL_law_347 : decode cL_law 347 = .ok (.iaload, 1) := by decide +kernel
theorem dL_law_348 : decode cL_law 348 = .ok (.aload_n 3, 1) := by decide +kernel
theorem dL_law_349 : decode cL_law 349 = .ok (.invokestatic 51, 3) := by decide +kernel
theorem dL_law_352 : decode cL_law 352 = .ok (.istore 5, 2) := by decide +kernel
theorem dL_law_354 : decode cL_law 354 = .ok (.aload_n 2, 1) := by decide +kernel
theorem dL_law_355 : decode cL_law 355 = .ok (.aload_n 0, 1) := by decide +kernel
theorem dL_law_356 : decode cL_law 356 = .ok (.iload 4, 2) := by decide +kernel
theorem dL_law_358 : decode cL_law 358 = .ok (.iconst 1, 1) := by decide +kernel
theorem dL_law_359 : decode cL_law 359 = .ok (.iadd, 1) := by decide +kernel
theorem dL_law_360 : decode cL_law 360 = .ok (.iaload, 1) := by decide +kernel
theorem dL_law_361 : decode cL_law 361 = .ok (.aload_n 0, 1) := by decide +kernel
theorem dL_law_362 : decode cL_law 362 = .ok (.iload 4, 2) := by decide +kernel
theorem dL_law_364 : decode cL_law 364 = .ok (.iconst 2, 1) := by decide +kernel
theorem dL_law_365 : decode cL_law 365 = .ok (.iadd, 1) := by decide +kernel
theorem dL_law_366 : decode cL_law 366 = .ok (.iaload, 1) := by decide +kernel
theorem dL_law_367 : decode cL_law 367 = .ok (.invokevirtual 56, 3) := by decide +kernel
theorem dL_law_370 : decode cL_law 370 = .ok (.istore 6, 2) := by decide +kernel
theorem dL_law_372 : decode cL_law 372 = .ok (.aload_n 2, 1) := by decide +kernel
theorem dL_law_373 : decode cL_law 373 = .ok (.invokevirtual 57, 3) := by decide +kernel
theorem dL_law_376 : decode cL_law 376 = .ok (.iload 5, 2) := by decide +kernel
theorem dL_law_378 : decode cL_law 378 = .ok (.if_icmp .eq 5, 3) := by decide +kernel
theorem dL_law_381 : decode cL_law 381 = .ok (.iconst 0, 1) := by decide +kernel
theorem dL_law_382 : decode cL_law 382 = .ok (.ireturn, 1) := by decide +kernel
theorem dL_law_383 : decode cL_law 383 = .ok (.iload 5, 2) := by decide +kernel
theorem dL_law_385 : decode cL_law 385 = .ok (.ifCond .ne 15, 3) := by decide +kernel
theorem dL_law_388 : decode cL_law 388 = .ok (.aload_n 3, 1) := by decide +kernel
theorem dL_law_389 : decode cL_law 389 = .ok (.iconst 0, 1) := by decide +kernel
theorem dL_law_390 : decode cL_law 390 = .ok (.laload, 1) := by decide +kernel
theorem dL_law_391 : decode cL_law 391 = .ok (.iload 6, 2) := by decide +kernel
theorem dL_law_393 : decode cL_law 393 = .ok (.i2l, 1) := by decide +kernel
theorem dL_law_394 : decode cL_law 394 = .ok (.lcmp, 1) := by decide +kernel
theorem dL_law_395 : decode cL_law 395 = .ok (.ifCond .eq 5, 3) := by decide +kernel
theorem dL_law_398 : decode cL_law 398 = .ok (.iconst 0, 1) := by decide +kernel
theorem dL_law_399 : decode cL_law 399 = .ok (.ireturn, 1) := by decide +kernel
theorem dL_law_400 : decode cL_law 400 = .ok (.goto 339, 3) := by decide +kernel
theorem dL_law_403 : decode cL_law 403 = .ok (.aload_n 1, 1) := by decide +kernel
theorem dL_law_404 : decode cL_law 404 = .ok (.aload_n 0, 1) := by decide +kernel
theorem dL_law_405 : decode cL_law 405 = .ok (.iload 4, 2) := by decide +kernel
theorem dL_law_407 : decode cL_law 407 = .ok (.iconst 1, 1) := by decide +kernel
theorem dL_law_408 : decode cL_law 408 = .ok (.iadd, 1) := by decide +kernel
theorem dL_law_409 : decode cL_law 409 = .ok (.iaload, 1) := by decide +kernel
theorem dL_law_410 : decode cL_law 410 = .ok (.aload_n 0, 1) := by decide +kernel
theorem dL_law_411 : decode cL_law 411 = .ok (.iload 4, 2) := by decide +kernel
theorem dL_law_413 : decode cL_law 413 = .ok (.iconst 2, 1) := by decide +kernel
theorem dL_law_414 : decode cL_law 414 = .ok (.iadd, 1) := by decide +kernel
theorem dL_law_415 : decode cL_law 415 = .ok (.iaload, 1) := by decide +kernel
theorem dL_law_416 : decode cL_law 416 = .ok (.invokevirtual 60, 3) := by decide +kernel
theorem dL_law_419 : decode cL_law 419 = .ok (.aload_n 2, 1) := by decide +kernel
theorem dL_law_420 : decode cL_law 420 = .ok (.aload_n 0, 1) := by decide +kernel
theorem dL_law_421 : decode cL_law 421 = .ok (.iload 4, 2) := by decide +kernel
theorem dL_law_423 : decode cL_law 423 = .ok (.iconst 1, 1) := by decide +kernel
theorem dL_law_424 : decode cL_law 424 = .ok (.iadd, 1) := by decide +kernel
theorem dL_law_425 : decode cL_law 425 = .ok (.iaload, 1) := by decide +kernel
theorem dL_law_426 : decode cL_law 426 = .ok (.aload_n 0, 1) := by decide +kernel
theorem dL_law_427 : decode cL_law 427 = .ok (.iload 4, 2) := by decide +kernel
theorem dL_law_429 : decode cL_law 429 = .ok (.iconst 2, 1) := by decide +kernel
theorem dL_law_430 : decode cL_law 430 = .ok (.iadd, 1) := by decide +kernel
theorem dL_law_431 : decode cL_law 431 = .ok (.iaload, 1) := by decide +kernel
theorem dL_law_432 : decode cL_law 432 = .ok (.invokevirtual 63, 3) := by decide +kernel
theorem dL_law_435 : decode cL_law 435 = .ok (.if_icmp .eq 304, 3) := by decide +kernel
theorem dL_law_438 : decode cL_law 438 = .ok (.iconst 0, 1) := by decide +kernel
theorem dL_law_439 : decode cL_law 439 = .ok (.ireturn, 1) := by decide +kernel
theorem dL_law_440 : decode cL_law 440 = .ok (.aload_n 1, 1) := by decide +kernel
theorem dL_law_441 : decode cL_law 441 = .ok (.aload_n 0, 1) := by decide +kernel
theorem dL_law_442 : decode cL_law 442 = .ok (.iload 4, 2) := by decide +kernel
theorem dL_law_444 : decode cL_law 444 = .ok (.iconst 1, 1) := by decide +kernel
theorem dL_law_445 : decode cL_law 445 = .ok (.iadd, 1) := by decide +kernel
theorem dL_law_446 : decode cL_law 446 = .ok (.iaload, 1) := by decide +kernel
theorem dL_law_447 : decode cL_law 447 = .ok (.aload_n 0, 1) := by decide +kernel
theorem dL_law_448 : decode cL_law 448 = .ok (.iload 4, 2) := by decide +kernel
theorem dL_law_450 : decode cL_law 450 = .ok (.iconst 2, 1) := by decide +kernel
theorem dL_law_451 : decode cL_law 451 = .ok (.iadd, 1) := by decide +kernel
theorem dL_law_452 : decode cL_law 452 = .ok (.iaload, 1) := by decide +kernel
theorem dL_law_453 : decode cL_law 453 = .ok (.invokevirtual 64, 3) := by decide +kernel
theorem dL_law_456 : decode cL_law 456 = .ok (.aload_n 2, 1) := by decide +kernel
theorem dL_law_457 : decode cL_law 457 = .ok (.aload_n 0, 1) := by decide +kernel
theorem dL_law_458 : decode cL_law 458 = .ok (.iload 4, 2) := by decide +kernel
theorem dL_law_460 : decode cL_law 460 = .ok (.iconst 1, 1) := by decide +kernel
theorem dL_law_461 : decode cL_law 461 = .ok (.iadd, 1) := by decide +kernel
theorem dL_law_462 : decode cL_law 462 = .ok (.iaload, 1) := by decide +kernel
theorem dL_law_463 : decode cL_law 463 = .ok (.aload_n 0, 1) := by decide +kernel
theorem dL_law_464 : decode cL_law 464 = .ok (.iload 4, 2) := by decide +kernel
theorem dL_law_466 : decode cL_law 466 = .ok (.iconst 2, 1) := by decide +kernel
theorem dL_law_467 : decode cL_law 467 = .ok (.iadd, 1) := by decide +kernel
theorem dL_law_468 : decode cL_law 468 = .ok (.iaload, 1) := by decide +kernel
theorem dL_law_469 : decode cL_law 469 = .ok (.invokevirtual 67, 3) := by decide +kernel
theorem dL_law_472 : decode cL_law 472 = .ok (.if_icmp .eq 267, 3) := by decide +kernel
theorem dL_law_475 : decode cL_law 475 = .ok (.iconst 0, 1) := by decide +kernel
theorem dL_law_476 : decode cL_law 476 = .ok (.ireturn, 1) := by decide +kernel
theorem dL_law_477 : decode cL_law 477 = .ok (.aload_n 1, 1) := by decide +kernel
theorem dL_law_478 : decode cL_law 478 = .ok (.aload_n 0, 1) := by decide +kernel
theorem dL_law_479 : decode cL_law 479 = .ok (.iload 4, 2) := by decide +kernel
theorem dL_law_481 : decode cL_law 481 = .ok (.iconst 1, 1) := by decide +kernel
theorem dL_law_482 : decode cL_law 482 = .ok (.iadd, 1) := by decide +kernel
theorem dL_law_483 : decode cL_law 483 = .ok (.iaload, 1) := by decide +kernel
theorem dL_law_484 : decode cL_law 484 = .ok (.invokevirtual 68, 3) := by decide +kernel
theorem dL_law_487 : decode cL_law 487 = .ok (.aload_n 2, 1) := by decide +kernel
theorem dL_law_488 : decode cL_law 488 = .ok (.aload_n 0, 1) := by decide +kernel
theorem dL_law_489 : decode cL_law 489 = .ok (.iload 4, 2) := by decide +kernel
theorem dL_law_491 : decode cL_law 491 = .ok (.iconst 1, 1) := by decide +kernel
theorem dL_law_492 : decode cL_law 492 = .ok (.iadd, 1) := by decide +kernel
theorem dL_law_493 : decode cL_law 493 = .ok (.iaload, 1) := by decide +kernel
theorem dL_law_494 : decode cL_law 494 = .ok (.invokevirtual 71, 3) := by decide +kernel
theorem dL_law_497 : decode cL_law 497 = .ok (.if_icmp .eq 242, 3) := by decide +kernel
theorem dL_law_500 : decode cL_law 500 = .ok (.iconst 0, 1) := by decide +kernel
theorem dL_law_501 : decode cL_law 501 = .ok (.ireturn, 1) := by decide +kernel
theorem dL_law_502 : decode cL_law 502 = .ok (.aload_n 1, 1) := by decide +kernel
theorem dL_law_503 : decode cL_law 503 = .ok (.invokevirtual 72, 3) := by decide +kernel
theorem dL_law_506 : decode cL_law 506 = .ok (.aload_n 2, 1) := by decide +kernel
theorem dL_law_507 : decode cL_law 507 = .ok (.invokevirtual 75, 3) := by decide +kernel
theorem dL_law_510 : decode cL_law 510 = .ok (.if_icmp .eq 229, 3) := by decide +kernel
theorem dL_law_513 : decode cL_law 513 = .ok (.iconst 0, 1) := by decide +kernel
theorem dL_law_514 : decode cL_law 514 = .ok (.ireturn, 1) := by decide +kernel
theorem dL_law_515 : decode cL_law 515 = .ok (.aload_n 1, 1) := by decide +kernel
theorem dL_law_516 : decode cL_law 516 = .ok (.aload_n 0, 1) := by decide +kernel
theorem dL_law_517 : decode cL_law 517 = .ok (.iload 4, 2) := by decide +kernel
theorem dL_law_519 : decode cL_law 519 = .ok (.iconst 1, 1) := by decide +kernel
theorem dL_law_520 : decode cL_law 520 = .ok (.iadd, 1) := by decide +kernel
theorem dL_law_521 : decode cL_law 521 = .ok (.iaload, 1) := by decide +kernel
theorem dL_law_522 : decode cL_law 522 = .ok (.aload_n 0, 1) := by decide +kernel
theorem dL_law_523 : decode cL_law 523 = .ok (.iload 4, 2) := by decide +kernel
theorem dL_law_525 : decode cL_law 525 = .ok (.iconst 2, 1) := by decide +kernel
theorem dL_law_526 : decode cL_law 526 = .ok (.iadd, 1) := by decide +kernel
theorem dL_law_527 : decode cL_law 527 = .ok (.iaload, 1) := by decide +kernel
theorem dL_law_528 : decode cL_law 528 = .ok (.invokevirtual 76, 3) := by decide +kernel
theorem dL_law_531 : decode cL_law 531 = .ok (.aload_n 2, 1) := by decide +kernel
theorem dL_law_532 : decode cL_law 532 = .ok (.aload_n 0, 1) := by decide +kernel
theorem dL_law_533 : decode cL_law 533 = .ok (.iload 4, 2) := by decide +kernel
theorem dL_law_535 : decode cL_law 535 = .ok (.iconst 1, 1) := by decide +kernel
theorem dL_law_536 : decode cL_law 536 = .ok (.iadd, 1) := by decide +kernel
theorem dL_law_537 : decode cL_law 537 = .ok (.iaload, 1) := by decide +kernel
theorem dL_law_538 : decode cL_law 538 = .ok (.aload_n 0, 1) := by decide +kernel
theorem dL_law_539 : decode cL_law 539 = .ok (.iload 4, 2) := by decide +kernel
theorem dL_law_541 : decode cL_law 541 = .ok (.iconst 2, 1) := by decide +kernel
theorem dL_law_542 : decode cL_law 542 = .ok (.iadd, 1) := by decide +kernel
theorem dL_law_543 : decode cL_law 543 = .ok (.iaload, 1) := by decide +kernel
theorem dL_law_544 : decode cL_law 544 = .ok (.invokevirtual 79, 3) := by decide +kernel
theorem dL_law_547 : decode cL_law 547 = .ok (.if_icmp .eq 192, 3) := by decide +kernel
theorem dL_law_550 : decode cL_law 550 = .ok (.iconst 0, 1) := by decide +kernel
theorem dL_law_551 : decode cL_law 551 = .ok (.ireturn, 1) := by decide +kernel
theorem dL_law_552 : decode cL_law 552 = .ok (.aload_n 1, 1) := by decide +kernel
theorem dL_law_553 : decode cL_law 553 = .ok (.aload_n 0, 1) := by decide +kernel
theorem dL_law_554 : decode cL_law 554 = .ok (.iload 4, 2) := by decide +kernel
theorem dL_law_556 : decode cL_law 556 = .ok (.iconst 1, 1) := by decide +kernel
theorem dL_law_557 : decode cL_law 557 = .ok (.iadd, 1) := by decide +kernel
theorem dL_law_558 : decode cL_law 558 = .ok (.iaload, 1) := by decide +kernel
theorem dL_law_559 : decode cL_law 559 = .ok (.aload_n 0, 1) := by decide +kernel
theorem dL_law_560 : decode cL_law 560 = .ok (.iload 4, 2) := by decide +kernel
theorem dL_law_562 : decode cL_law 562 = .ok (.iconst 2, 1) := by decide +kernel
theorem dL_law_563 : decode cL_law 563 = .ok (.iadd, 1) := by decide +kernel
theorem dL_law_564 : decode cL_law 564 = .ok (.iaload, 1) := by decide +kernel
theorem dL_law_565 : decode cL_law 565 = .ok (.invokevirtual 80, 3) := by decide +kernel
theorem dL_law_568 : decode cL_law 568 = .ok (.aload_n 2, 1) := by decide +kernel
theorem dL_law_569 : decode cL_law 569 = .ok (.aload_n 0, 1) := by decide +kernel
theorem dL_law_570 : decode cL_law 570 = .ok (.iload 4, 2) := by decide +kernel
theorem dL_law_572 : decode cL_law 572 = .ok (.iconst 1, 1) := by decide +kernel
theorem dL_law_573 : decode cL_law 573 = .ok (.iadd, 1) := by decide +kernel
theorem dL_law_574 : decode cL_law 574 = .ok (.iaload, 1) := by decide +kernel
theorem dL_law_575 : decode cL_law 575 = .ok (.aload_n 0, 1) := by decide +kernel
theorem dL_law_576 : decode cL_law 576 = .ok (.iload 4, 2) := by decide +kernel
theorem dL_law_578 : decode cL_law 578 = .ok (.iconst 2, 1) := by decide +kernel
theorem dL_law_579 : decode cL_law 579 = .ok (.iadd, 1) := by decide +kernel
theorem dL_law_580 : decode cL_law 580 = .ok (.iaload, 1) := by decide +kernel
theorem dL_law_581 : decode cL_law 581 = .ok (.invokevirtual 83, 3) := by decide +kernel
theorem dL_law_584 : decode cL_law 584 = .ok (.if_icmp .eq 155, 3) := by decide +kernel
theorem dL_law_587 : decode cL_law 587 = .ok (.iconst 0, 1) := by decide +kernel
theorem dL_law_588 : decode cL_law 588 = .ok (.ireturn, 1) := by decide +kernel
theorem dL_law_589 : decode cL_law 589 = .ok (.aload_n 1, 1) := by decide +kernel
theorem dL_law_590 : decode cL_law 590 = .ok (.aload_n 0, 1) := by decide +kernel
theorem dL_law_591 : decode cL_law 591 = .ok (.iload 4, 2) := by decide +kernel
theorem dL_law_593 : decode cL_law 593 = .ok (.iconst 1, 1) := by decide +kernel
theorem dL_law_594 : decode cL_law 594 = .ok (.iadd, 1) := by decide +kernel
theorem dL_law_595 : decode cL_law 595 = .ok (.iaload, 1) := by decide +kernel
theorem dL_law_596 : decode cL_law 596 = .ok (.invokevirtual 84, 3) := by decide +kernel
theorem dL_law_599 : decode cL_law 599 = .ok (.aload_n 2, 1) := by decide +kernel
theorem dL_law_600 : decode cL_law 600 = .ok (.aload_n 0, 1) := by decide +kernel
theorem dL_law_601 : decode cL_law 601 = .ok (.iload 4, 2) := by decide +kernel
theorem dL_law_603 : decode cL_law 603 = .ok (.iconst 1, 1) := by decide +kernel
theorem dL_law_604 : decode cL_law 604 = .ok (.iadd, 1) := by decide +kernel
theorem dL_law_605 : decode cL_law 605 = .ok (.iaload, 1) := by decide +kernel
theorem dL_law_606 : decode cL_law 606 = .ok (.invokevirtual 87, 3) := by decide +kernel
theorem dL_law_609 : decode cL_law 609 = .ok (.if_icmp .eq 130, 3) := by decide +kernel
theorem dL_law_612 : decode cL_law 612 = .ok (.iconst 0, 1) := by decide +kernel
theorem dL_law_613 : decode cL_law 613 = .ok (.ireturn, 1) := by decide +kernel
theorem dL_law_614 : decode cL_law 614 = .ok (.aload_n 1, 1) := by decide +kernel
theorem dL_law_615 : decode cL_law 615 = .ok (.invokevirtual 88, 3) := by decide +kernel
theorem dL_law_618 : decode cL_law 618 = .ok (.aload_n 2, 1) := by decide +kernel
theorem dL_law_619 : decode cL_law 619 = .ok (.invokevirtual 91, 3) := by decide +kernel
theorem dL_law_622 : decode cL_law 622 = .ok (.if_icmp .eq 117, 3) := by decide +kernel
theorem dL_law_625 : decode cL_law 625 = .ok (.iconst 0, 1) := by decide +kernel
theorem dL_law_626 : decode cL_law 626 = .ok (.ireturn, 1) := by decide +kernel
theorem dL_law_627 : decode cL_law 627 = .ok (.aload_n 1, 1) := by decide +kernel
theorem dL_law_628 : decode cL_law 628 = .ok (.aload_n 0, 1) := by decide +kernel
theorem dL_law_629 : decode cL_law 629 = .ok (.iload 4, 2) := by decide +kernel
theorem dL_law_631 : decode cL_law 631 = .ok (.iconst 1, 1) := by decide +kernel
theorem dL_law_632 : decode cL_law 632 = .ok (.iadd, 1) := by decide +kernel
theorem dL_law_633 : decode cL_law 633 = .ok (.iaload, 1) := by decide +kernel
theorem dL_law_634 : decode cL_law 634 = .ok (.invokevirtual 92, 3) := by decide +kernel
theorem dL_law_637 : decode cL_law 637 = .ok (.aload_n 2, 1) := by decide +kernel
theorem dL_law_638 : decode cL_law 638 = .ok (.aload_n 0, 1) := by decide +kernel
theorem dL_law_639 : decode cL_law 639 = .ok (.iload 4, 2) := by decide +kernel
theorem dL_law_641 : decode cL_law 641 = .ok (.iconst 1, 1) := by decide +kernel
theorem dL_law_642 : decode cL_law 642 = .ok (.iadd, 1) := by decide +kernel
theorem dL_law_643 : decode cL_law 643 = .ok (.iaload, 1) := by decide +kernel
theorem dL_law_644 : decode cL_law 644 = .ok (.invokevirtual 95, 3) := by decide +kernel
theorem dL_law_647 : decode cL_law 647 = .ok (.if_icmp .eq 92, 3) := by decide +kernel
theorem dL_law_650 : decode cL_law 650 = .ok (.iconst 0, 1) := by decide +kernel
theorem dL_law_651 : decode cL_law 651 = .ok (.ireturn, 1) := by decide +kernel
theorem dL_law_652 : decode cL_law 652 = .ok (.aload_n 1, 1) := by decide +kernel
theorem dL_law_653 : decode cL_law 653 = .ok (.aload_n 0, 1) := by decide +kernel
theorem dL_law_654 : decode cL_law 654 = .ok (.iload 4, 2) := by decide +kernel
theorem dL_law_656 : decode cL_law 656 = .ok (.iconst 1, 1) := by decide +kernel
theorem dL_law_657 : decode cL_law 657 = .ok (.iadd, 1) := by decide +kernel
theorem dL_law_658 : decode cL_law 658 = .ok (.iaload, 1) := by decide +kernel
theorem dL_law_659 : decode cL_law 659 = .ok (.aload_n 0, 1) := by decide +kernel
theorem dL_law_660 : decode cL_law 660 = .ok (.iload 4, 2) := by decide +kernel
theorem dL_law_662 : decode cL_law 662 = .ok (.iconst 2, 1) := by decide +kernel
theorem dL_law_663 : decode cL_law 663 = .ok (.iadd, 1) := by decide +kernel
theorem dL_law_664 : decode cL_law 664 = .ok (.iaload, 1) := by decide +kernel
theorem dL_law_665 : decode cL_law 665 = .ok (.invokevirtual 96, 3) := by decide +kernel
theorem dL_law_668 : decode cL_law 668 = .ok (.aload_n 2, 1) := by decide +kernel
theorem dL_law_669 : decode cL_law 669 = .ok (.aload_n 0, 1) := by decide +kernel
theorem dL_law_670 : decode cL_law 670 = .ok (.iload 4, 2) := by decide +kernel
theorem dL_law_672 : decode cL_law 672 = .ok (.iconst 1, 1) := by decide +kernel
theorem dL_law_673 : decode cL_law 673 = .ok (.iadd, 1) := by decide +kernel
theorem dL_law_674 : decode cL_law 674 = .ok (.iaload, 1) := by decide +kernel
theorem dL_law_675 : decode cL_law 675 = .ok (.aload_n 0, 1) := by decide +kernel
theorem dL_law_676 : decode cL_law 676 = .ok (.iload 4, 2) := by decide +kernel
theorem dL_law_678 : decode cL_law 678 = .ok (.iconst 2, 1) := by decide +kernel
theorem dL_law_679 : decode cL_law 679 = .ok (.iadd, 1) := by decide +kernel
theorem dL_law_680 : decode cL_law 680 = .ok (.iaload, 1) := by decide +kernel
theorem dL_law_681 : decode cL_law 681 = .ok (.invokevirtual 99, 3) := by decide +kernel
theorem dL_law_684 : decode cL_law 684 = .ok (.if_icmp .eq 55, 3) := by decide +kernel
theorem dL_law_687 : decode cL_law 687 = .ok (.iconst 0, 1) := by decide +kernel
theorem dL_law_688 : decode cL_law 688 = .ok (.ireturn, 1) := by decide +kernel
theorem dL_law_689 : decode cL_law 689 = .ok (.aload_n 1, 1) := by decide +kernel
theorem dL_law_690 : decode cL_law 690 = .ok (.aload_n 0, 1) := by decide +kernel
theorem dL_law_691 : decode cL_law 691 = .ok (.iload 4, 2) := by decide +kernel
theorem dL_law_693 : decode cL_law 693 = .ok (.iconst 1, 1) := by decide +kernel
theorem dL_law_694 : decode cL_law 694 = .ok (.iadd, 1) := by decide +kernel
theorem dL_law_695 : decode cL_law 695 = .ok (.iaload, 1) := by decide +kernel
theorem dL_law_696 : decode cL_law 696 = .ok (.invokevirtual 100, 3) := by decide +kernel
theorem dL_law_699 : decode cL_law 699 = .ok (.aload_n 2, 1) := by decide +kernel
theorem dL_law_700 : decode cL_law 700 = .ok (.aload_n 0, 1) := by decide +kernel
theorem dL_law_701 : decode cL_law 701 = .ok (.iload 4, 2) := by decide +kernel
theorem dL_law_703 : decode cL_law 703 = .ok (.iconst 1, 1) := by decide +kernel
theorem dL_law_704 : decode cL_law 704 = .ok (.iadd, 1) := by decide +kernel
theorem dL_law_705 : decode cL_law 705 = .ok (.iaload, 1) := by decide +kernel
theorem dL_law_706 : decode cL_law 706 = .ok (.invokevirtual 103, 3) := by decide +kernel
theorem dL_law_709 : decode cL_law 709 = .ok (.if_icmp .eq 30, 3) := by decide +kernel
theorem dL_law_712 : decode cL_law 712 = .ok (.iconst 0, 1) := by decide +kernel
theorem dL_law_713 : decode cL_law 713 = .ok (.ireturn, 1) := by decide +kernel
theorem dL_law_714 : decode cL_law 714 = .ok (.aload_n 1, 1) := by decide +kernel
theorem dL_law_715 : decode cL_law 715 = .ok (.aload_n 0, 1) := by decide +kernel
theorem dL_law_716 : decode cL_law 716 = .ok (.iload 4, 2) := by decide +kernel
theorem dL_law_718 : decode cL_law 718 = .ok (.iconst 1, 1) := by decide +kernel
theorem dL_law_719 : decode cL_law 719 = .ok (.iadd, 1) := by decide +kernel
theorem dL_law_720 : decode cL_law 720 = .ok (.iaload, 1) := by decide +kernel
theorem dL_law_721 : decode cL_law 721 = .ok (.invokevirtual 104, 3) := by decide +kernel
theorem dL_law_724 : decode cL_law 724 = .ok (.aload_n 2, 1) := by decide +kernel
theorem dL_law_725 : decode cL_law 725 = .ok (.aload_n 0, 1) := by decide +kernel
theorem dL_law_726 : decode cL_law 726 = .ok (.iload 4, 2) := by decide +kernel
theorem dL_law_728 : decode cL_law 728 = .ok (.iconst 1, 1) := by decide +kernel
theorem dL_law_729 : decode cL_law 729 = .ok (.iadd, 1) := by decide +kernel
theorem dL_law_730 : decode cL_law 730 = .ok (.iaload, 1) := by decide +kernel
theorem dL_law_731 : decode cL_law 731 = .ok (.invokevirtual 107, 3) := by decide +kernel
theorem dL_law_734 : decode cL_law 734 = .ok (.if_icmp .eq 5, 3) := by decide +kernel
theorem dL_law_737 : decode cL_law 737 = .ok (.iconst 0, 1) := by decide +kernel
theorem dL_law_738 : decode cL_law 738 = .ok (.ireturn, 1) := by decide +kernel
theorem dL_law_739 : decode cL_law 739 = .ok (.iinc 4 6, 3) := by decide +kernel
theorem dL_law_742 : decode cL_law 742 = .ok (.goto (-719), 3) := by decide +kernel
theorem dL_law_745 : decode cL_law 745 = .ok (.iconst 1, 1) := by decide +kernel
theorem dL_law_746 : decode cL_law 746 = .ok (.ireturn, 1) := by decide +kernel
end
section
/-! ===== BEGIN words of one list among another's, by their places ===== -/
theorem goodIn_r {big : List Cond} (ws : List Cond) (ps : List Nat) (hp : ws = ps.filterMap (fun i => big[i]?)) (h : ws.all goodWord = true) : GoodIn big ws := by
  intro w hw
  have h1 := List.all_eq_true.mp h w hw
  rw [hp] at hw
  obtain ⟨i, -, hi⟩ := List.mem_filterMap.mp hw
  have hm : w ∈ big := by first | exact List.mem_of_getElem? hi | exact List.getElem?_mem hi
  exact ⟨hm, good_of_word h1⟩
theorem goodIn_app {big a b : List Cond} (ha : GoodIn big a) (hb : GoodIn big b) : GoodIn big (a ++ b) := fun w h => (List.mem_append.mp h).elim (ha w) (hb w)
theorem goodIn_ca {big a b : List Cond} {c : Cond} (ha : GoodIn big (c :: a)) (hb : GoodIn big b) : GoodIn big (c :: (a ++ b)) := fun w h => (List.mem_cons.mp h).elim (fun e => ha w (List.mem_cons.mpr (Or.inl e))) (fun h => (List.mem_append.mp h).elim (fun h => ha w (List.mem_cons.mpr (Or.inr h))) (hb w))
theorem goodIn_sub {big ws : List Cond} (hm : ∀ w ∈ ws, w ∈ big) (h : ws.all goodWord = true) : GoodIn big ws := fun w hw => ⟨hm w hw, good_of_word (List.all_eq_true.mp h w hw)⟩
/-! ===== END ===== -/

/-! ===== BEGIN exceptions that leave a method, and their catching by the caller (launches without stack traces) ===== -/
section VXA
/-! The laws vx_back, vx_callV, vx_callS, vx_callSW, vx_throw0, vx_throwS follow proofs of the library, with one case more: JvmDerived/Free/Laws.lean (Back.of_free), Shelf42/LK1.lean (callV, callS), Shelf/KitTraced.lean (throwNew0V, throwNewS). -/
/-- where a method has thrown q: the class by its name, the cell, what was written, the world -/
def vx_T (XC : String → State → State → Prop) (st : State) (q : Addr) (t : State) (mc ms : Nat) (free : Addr → Prop) : Prop :=
  ∃ (E : String) (ce : Cell) (L : List Loc), XC E st t ∧ t.heap[q]? = some ce ∧ ce.vm = .none ∧ st.vm.findClass E = some ce.cls ∧ st.WarmedH t.vm ∧ st.sameButNew ({ t with vm := st.vm } : State) L mc ms ∧ ∀ z ∈ L, free z.base
def vx_Q (Qc : Array Value → State → Outcome → State → Prop) (XC : String → State → State → Prop) (mc ms : Nat) (free : Addr → Prop) : Array Value → State → Outcome → State → Prop := fun a st o t =>
  (Qc a st o t ∧ ∃ L, FrameEnd st o t L mc ms ∧ ∀ q ∈ L, free q.base) ∨ ∃ q, o = .threw q ∧ vx_T XC st q t mc ms free
/-- a callee that returns or throws -/
def vx_Met (l : Launch) (y : MethodName) (ws : List Cond) (rm : Room) (Pc : Array Value → State → Prop) (Qc : Array Value → State → Outcome → State → Prop) (XC : String → State → State → Prop) (mc ms : Nat) (free : Addr → Prop) : Prop :=
  MetFree l y (headSpec ws rm) Pc (fun _ _ _ _ _ => True) (vx_Q Qc XC mc ms free)
def vx_Post (XC : String → State → State → Prop) (mc ms : Nat) (free : Addr → Prop) : Pt → Array Value → Addr → Pt → Prop := fun A a q B =>
  ∃ (g : JFrame) (mk : MethodId) (t : State) (L : List Loc) (E : String) (ce : Cell), B.U.heap = t.heap ∧ B.U.vm = t.vm ∧ XC E (A.U.calling g mk a) t ∧ t.heap[q]? = some ce ∧ ce.vm = .none ∧ A.U.vm.findClass E = some ce.cls ∧ B.locs = A.locs ++ L ∧ (∀ z ∈ L, free z.base) ∧ B.cells = A.cells + mc ∧ B.slots = A.slots + ms
def vx_Back (l : Launch) (R : Room) (p : Program) (e : Env) (below : List Frame) (s : State) (sargs : Array Value) (y : MethodName) (len W9 : Nat)
    (Pre : Pt → Array Value → Prop) (Post : Pt → Array Value → Option Value → Pt → Prop) (PostX : Pt → Array Value → Addr → Pt → Prop) : Prop :=
  ∀ (m : MethodId) (meth : Method) (c : Code) (A : Pt) (g : JFrame) (ig : Instr) (mk : MethodId) (a : Array Value),
    Stand p l e R s m sargs below meth c A.U A.locs A.cells A.slots → g.method = m → g.locals.size = c.maxLocals → decode c.code g.pc = .ok (ig, len) →
    2 * g.monitorRoom + (g.stack.map fun v => v.category).sum ≤ W9 → A.U.methodNamed? y = some mk → Pre A a →
    (∃ (v : Option Value) (B : Pt), Stand p l e R s m sargs below meth c B.U B.locs B.cells B.slots ∧ Post A a v B ∧
      Steps p.tables e below (doInvoke e (A.U.setTop g) [] mk a).1 (B.U.setTop { g with pc := g.pc + len, stack := v.toList ++ g.stack })) ∨
    (∃ (q : Addr) (B : Pt), Stand p l e R s m sargs below meth c B.U B.locs B.cells B.slots ∧ PostX A a q B ∧
      Steps p.tables e below (doInvoke e (A.U.setTop g) [] mk a).1 ((B.U.setTop g).pushFrame (.throwing q)))
section Payer
variable {l : Launch} {R : Room} {p : Program} {e : Env} {below : List Frame} {s : State} {sargs : Array Value} {y : MethodName} {len W9 : Nat}
theorem vx_back {ws : List Cond} {rm : Room} {Pc : Array Value → State → Prop} {Qc : Array Value → State → Outcome → State → Prop} {XC : String → State → State → Prop} {mc ms : Nat} {free : Addr → Prop} {bytes : ByteArray} {maxL : Nat} {ret : Option FieldType}
    (hM : vx_Met l y ws rm Pc Qc XC mc ms free) (hblind : FrameBlind Pc) (hrc : rm.cells = mc) (hrs : rm.slots = ms)
    (hframes : rm.frames + 1 ≤ R.frames) (hlocals : W9 + (maxL + 11) + rm.locals ≤ R.locals)
    (hws : ∀ w ∈ ws, ∀ a' U, s.WarmedH U.vm → w.before a' U = true) (hcode : Cond.code y bytes maxL ret ∈ ws) (hinit : ∀ a' U, s.WarmedH U.vm → (Cond.initialized y.cls).before a' U = true) :
    vx_Back l R p e below s sargs y len W9 (PreOf R mc ms Pc) (PostOf Qc mc ms free) (vx_Post XC mc ms free) := by
  intro m meth c A g ig mk a X hg hsize hdg hW hn hp
  have h1 : (headSpec ws rm).pre.before a A.U = true := atoms_intro fun w hw => hws w hw _ _ X.warmed
  have h2 : (Cond.code y bytes maxL ret).before a A.U = true := hws _ hcode _ _ X.warmed
  have h3 : (Cond.initialized y.cls).before a A.U = true := hinit _ _ X.warmed
  have h4 : A.cells + (headSpec ws rm).room.cells ≤ R.cells := by rw [show (headSpec ws rm).room.cells = mc from hrc]; exact hp.1
  have h5 : A.slots + (headSpec ws rm).room.slots ≤ R.slots := by rw [show (headSpec ws rm).room.slots = ms from hrs]; exact hp.2.1
  have hPc : Pc a (A.U.calling g mk a) := hblind _ _ _ _ hp.2.2
  obtain ⟨U, Ls, c0, s0⟩ := A
  dsimp only [Pt.U, Pt.locs, Pt.cells, Pt.slots] at h1 h2 h3 h4 h5 X hn hPc ⊢
  obtain ⟨methY, cY, hmY, hcY, -, hlY, -, -, -, -⟩ := Cond.code_spec hn h2
  obtain ⟨kY, hkY, -⟩ := className_of_methodNamed hn
  have hinitY : kY.init = .initialized := Cond.initialized_spec (findClass_of_methodNamed hn) hkY h3
  have h : At U g.method c below := by rw [hg]; exact X.here
  have hlocals9 : W9 + (maxL + 11) + (headSpec ws rm).room.locals ≤ R.locals := hlocals
  have happ : (headSpec ws rm).appliesLoose y e.platform (U.calling g mk a) = true :=
    Spec.appliesLoose_calling (g := g) h hdg hn hkY hinitY
      (X.room_calling (g := g) (R' := (headSpec ws rm).room) hsize hmY hcY hframes (by rw [hlY]; omega) h4 h5) h1
  obtain ⟨mid, hmid⟩ := h.above
  have hfr : (U.setTop g).frames = (.java g :: mid) ++ below := by rw [State.frames_setTop' g h.top, hmid]; rfl
  obtain ⟨o, s₂, hsteps, -, hend, hq⟩ := Steps.callFree hM p X.admits X.cas X.clock (acts := []) hfr happ hPc trivial
  have hq' : vx_Q Qc XC mc ms free a (U.calling g mk a) o s₂ := hq
  rw [State.frames_setTop' g h.top] at hend
  obtain ⟨g₀, hg0⟩ := Option.isSome_iff_exists.mp h.top
  obtain ⟨r, hr⟩ := State.topJava?_eq_some.mp hg0
  have hr' : (({ U with heap := s₂.heap, slotsUsed := s₂.slotsUsed } : State).setVm s₂.vm).frames = .java g₀ :: r := hr
  rcases hq' with ⟨hqc, L, hfe, hL⟩ | ⟨q, rfl, E, ce, L, hx, hce, hcv, hcl, hW₂, hsm, hL⟩
  · obtain ⟨⟨v, rfl⟩, hW₂, e2, q2, q3, q4, q5, q6⟩ := id hfe
    have e3 : s₂ = ({ (U.calling g mk a).setFrames s₂.frames with heap := s₂.heap, slotsUsed := s₂.slotsUsed } : State).setVm s₂.vm := by
      have : s₂ = ({ s₂ with vm := (U.calling g mk a).vm } : State).setVm s₂.vm := rfl
      rw [e2] at this
      exact this
    obtain ⟨c₂, i₂, len₂, hc₂, hd₂, hf₂⟩ := hend
    have hW' : U.WarmedH s₂.vm := hW₂
    have hcc : c₂ = c := by
      have h1 : s₂.code? g.method = U.code? g.method := by
        rw [State.code?_eq, State.code?_eq, hW'.alike.method?]
      exact Option.some.inj (hc₂.symm.trans (h1.trans h.code))
    subst hcc
    have hlen : len₂ = len := by rw [hdg] at hd₂; cases hd₂; rfl
    subst hlen
    have hs₂ : s₂ = (({ U with heap := s₂.heap, slotsUsed := s₂.slotsUsed } : State).setVm s₂.vm).setTop { g with pc := g.pc + len₂, stack := v.toList ++ g.stack } := by
      refine e3.trans ?_
      rw [hf₂, State.calling_eq h.top, State.setFrames_setFrames, State.setTop_of_frames _ hr', hr]
      rfl
    have hsame : U.sameButNew ({ U with heap := s₂.heap, slotsUsed := s₂.slotsUsed } : State) L mc ms := by
      refine ⟨?_, q2, q3, q4, q5, q6⟩
      obtain ⟨t, ht, -⟩ := State.frames_cons hr
      show ({ U with heap := s₂.heap, slotsUsed := s₂.slotsUsed } : State) = { U.setFrames U.frames with heap := s₂.heap, slotsUsed := s₂.slotsUsed }
      rw [State.setFrames_self ht]
    subst hg
    refine Or.inl ⟨v, ⟨(({ U with heap := s₂.heap, slotsUsed := s₂.slotsUsed } : State).setVm s₂.vm), Ls ++ L, c0 + mc, s0 + ms⟩,
      ⟨X.admits, X.cas, X.clock, X.frames, X.room, X.hears, X.method, X.code, (X.here.setHeapUsed s₂.heap s₂.slotsUsed).setVm hW'.alike, X.tail, State.WarmedH.trans X.warmed hW', X.limits, X.bytes, X.same.trans (hsame.setVm s.vm)⟩,
      ⟨g, mk, s₂, L, rfl, rfl, hqc, rfl, hL, rfl, rfl⟩, ?_⟩
    show Steps p.tables e below _ ((({ U with heap := s₂.heap, slotsUsed := s₂.slotsUsed } : State).setVm s₂.vm).setTop { g with pc := g.pc + len₂, stack := v.toList ++ g.stack })
    rw [← hs₂]
    exact hsteps
  · obtain ⟨e2, q2, q3, q4, q5, q6⟩ := id hsm
    have e3 : s₂ = ({ (U.calling g mk a).setFrames s₂.frames with heap := s₂.heap, slotsUsed := s₂.slotsUsed } : State).setVm s₂.vm := by
      have : s₂ = ({ s₂ with vm := (U.calling g mk a).vm } : State).setVm s₂.vm := rfl
      rw [e2] at this
      exact this
    have hf₂ : s₂.frames = .throwing q :: .java g :: U.frames.tail := hend
    have hW' : U.WarmedH s₂.vm := hW₂
    have hs₂ : s₂ = ((({ U with heap := s₂.heap, slotsUsed := s₂.slotsUsed } : State).setVm s₂.vm).setTop g).pushFrame (.throwing q) := by
      refine e3.trans ?_
      rw [hf₂, State.calling_eq h.top, State.setFrames_setFrames, State.pushFrame, State.frames_setTop _ hr', State.setTop_of_frames _ hr', State.setFrames_setFrames, hr]
      rfl
    have hsame : U.sameButNew ({ U with heap := s₂.heap, slotsUsed := s₂.slotsUsed } : State) L mc ms := by
      refine ⟨?_, q2, q3, q4, q5, q6⟩
      obtain ⟨t, ht, -⟩ := State.frames_cons hr
      show ({ U with heap := s₂.heap, slotsUsed := s₂.slotsUsed } : State) = { U.setFrames U.frames with heap := s₂.heap, slotsUsed := s₂.slotsUsed }
      rw [State.setFrames_self ht]
    subst hg
    refine Or.inr ⟨q, ⟨(({ U with heap := s₂.heap, slotsUsed := s₂.slotsUsed } : State).setVm s₂.vm), Ls ++ L, c0 + mc, s0 + ms⟩,
      ⟨X.admits, X.cas, X.clock, X.frames, X.room, X.hears, X.method, X.code, (X.here.setHeapUsed s₂.heap s₂.slotsUsed).setVm hW'.alike, X.tail, State.WarmedH.trans X.warmed hW', X.limits, X.bytes, X.same.trans (hsame.setVm s.vm)⟩,
      ⟨g, mk, s₂, L, E, ce, rfl, rfl, hx, hce, hcv, hcl, rfl, hL, rfl, rfl⟩, ?_⟩
    show Steps p.tables e below _ (((({ U with heap := s₂.heap, slotsUsed := s₂.slotsUsed } : State).setVm s₂.vm).setTop g).pushFrame (.throwing q))
    rw [← hs₂]
    exact hsteps
end Payer
section Calls
variable {p : Program} {l : Launch} {e : Env} {R : Room} {s : State} {m : MethodId} {args : Array Value} {below : List Frame} {meth : Method} {c : Code} {T : State} {locs : List Loc} {cells slots : Nat}
theorem vx_callV (X : Stand p l e R s m args below meth c T locs cells slots) (hexec : p.tables.exec = Jvm.exec) {own C : String} {index : Nat} {y : MethodName} {bytes : ByteArray} {maxL : Nat} {ret : Option FieldType}
    (hown : s.vm.findClass own = some m.cls) (hlink : (Cond.methodLink own index y).before args s = true) (hinst : (Cond.instanceMethod y).before args s = true) (hsel : (Cond.selects C y y).before args s = true)
    (hcode : (Cond.code y bytes maxL ret).before args s = true) (hy : y.cls ≠ "java/lang/invoke/MethodHandle" ∧ y.cls ≠ "java/lang/invoke/VarHandle")
    {W9 : Nat} {Pre : Pt → Array Value → Prop} {Post : Pt → Array Value → Option Value → Pt → Prop} {PostX : Pt → Array Value → Addr → Pt → Prop} (hK : vx_Back l R p e below s args y 3 W9 Pre Post PostX)
    {b : Addr} {cellB : Cell} (hcell : T.heap[b]? = some cellB) (hobj : cellB.vm.isStatics = false) (hcls : s.vm.findClass C = some cellB.cls)
    {g : JFrame} (hg : g.method = m) (hsize : g.locals.size = c.maxLocals) {argsL rest : List Value} (hlen : ∀ sig, parseMethodDescriptor y.desc = some sig → argsL.length = sig.parameters.length)
    (hstack : g.stack = argsL.reverse ++ .ref b :: rest) (hW : 2 * g.monitorRoom + (rest.map fun v => v.category).sum ≤ W9) (hdg : decode c.code g.pc = .ok (.invokevirtual index, 3))
    (hpre : ∀ vm₁, s.WarmedH vm₁ → Pre ⟨T.setVm vm₁, locs, cells, slots⟩ (Value.ref b :: argsL).toArray) :
    (∃ (v : Option Value) (vm₁ : Vm) (B : Pt), s.WarmedH vm₁ ∧ Stand p l e R s m args below meth c B.U B.locs B.cells B.slots ∧ Post ⟨T.setVm vm₁, locs, cells, slots⟩ (Value.ref b :: argsL).toArray v B ∧
      ∀ target, Steps p.tables e below (B.U.setTop { g with pc := g.pc + 3, stack := v.toList ++ rest }) target → Steps p.tables e below (T.setTop g) target) ∨
    (∃ (q : Addr) (vm₁ : Vm) (B : Pt), s.WarmedH vm₁ ∧ Stand p l e R s m args below meth c B.U B.locs B.cells B.slots ∧ PostX ⟨T.setVm vm₁, locs, cells, slots⟩ (Value.ref b :: argsL).toArray q B ∧
      Steps p.tables e below (T.setTop g) ((B.U.setTop { g with stack := rest }).pushFrame (.throwing q))) := by
  obtain ⟨mk, methM, hnamed, hmethM, hstM, habM⟩ := Cond.instanceMethod_spec hinst
  obtain ⟨methM', cM, hmethM', -, -, -, -, -, -, hsigM⟩ := Cond.code_spec hnamed hcode
  cases hmethM.symm.trans hmethM'
  obtain ⟨c2, r2, m2, q1, q2, q3, q4, kP, hkP, hkPi⟩ := Cond.selects_spec hsel
  cases hcls.symm.trans q1
  cases (State.methodFound?_of_named hnamed hy).symm.trans q2
  cases hnamed.symm.trans q3
  have hselP : selectMethod e.platform s.vm cellB.cls mk = .method mk := by rw [Launch.admits_selectMethod X.admits]; exact q4
  obtain ⟨vm₁, X₁, hstep₁⟩ := X.invokevirtual hexec hown hlink hnamed hmethM hstM hkP hkPi hy (a := b) (cell := cellB) hcell
    (fun z h => by rw [h] at hobj; cases hobj) hselP hmethM habM hkP hkPi (g := g) hg (argsL := argsL) (rest := rest) (hlen _ hsigM) hstack hdg
  rcases hK m meth c ⟨T.setVm vm₁, locs, cells, slots⟩ { g with stack := rest } (.invokevirtual index) mk (Value.ref b :: argsL).toArray X₁ hg hsize hdg hW (X₁.named hnamed) (hpre vm₁ X₁.warmed) with ⟨v, B, X', hpost, hsteps⟩ | ⟨q, B, X', hpost, hsteps⟩
  · exact Or.inl ⟨v, vm₁, B, X₁.warmed, X', hpost, fun target h => hstep₁ _ fun acts => by rw [doInvoke_state]; exact hsteps.trans h⟩
  · exact Or.inr ⟨q, vm₁, B, X₁.warmed, X', hpost, hstep₁ _ fun acts => by rw [doInvoke_state]; exact hsteps⟩
theorem vx_callS (X : Stand p l e R s m args below meth c T locs cells slots) (hexec : p.tables.exec = Jvm.exec) {own : String} {index : Nat} {y : MethodName} {bytes : ByteArray} {maxL : Nat} {ret : Option FieldType}
    (hown : s.vm.findClass own = some m.cls) (hlink : (Cond.methodLink own index y).before args s = true) (hstat : (Cond.static y).before args s = true) (hinit : (Cond.initialized y.cls).before args s = true)
    (hcode : (Cond.code y bytes maxL ret).before args s = true) (hy : y.cls ≠ "java/lang/invoke/MethodHandle" ∧ y.cls ≠ "java/lang/invoke/VarHandle")
    {W9 : Nat} {Pre : Pt → Array Value → Prop} {Post : Pt → Array Value → Option Value → Pt → Prop} {PostX : Pt → Array Value → Addr → Pt → Prop} (hK : vx_Back l R p e below s args y 3 W9 Pre Post PostX)
    {g : JFrame} (hg : g.method = m) (hsize : g.locals.size = c.maxLocals) {argsL rest : List Value} (hlen : ∀ sig, parseMethodDescriptor y.desc = some sig → argsL.length = sig.parameters.length)
    (hstack : g.stack = argsL.reverse ++ rest) (hW : 2 * g.monitorRoom + (rest.map fun v => v.category).sum ≤ W9) (hdg : decode c.code g.pc = .ok (.invokestatic index, 3))
    (hpre : ∀ vm₁, s.WarmedH vm₁ → Pre ⟨T.setVm vm₁, locs, cells, slots⟩ argsL.toArray) :
    (∃ (v : Option Value) (vm₁ : Vm) (B : Pt), s.WarmedH vm₁ ∧ Stand p l e R s m args below meth c B.U B.locs B.cells B.slots ∧ Post ⟨T.setVm vm₁, locs, cells, slots⟩ argsL.toArray v B ∧
      ∀ target, Steps p.tables e below (B.U.setTop { g with pc := g.pc + 3, stack := v.toList ++ rest }) target → Steps p.tables e below (T.setTop g) target) ∨
    (∃ (q : Addr) (vm₁ : Vm) (B : Pt), s.WarmedH vm₁ ∧ Stand p l e R s m args below meth c B.U B.locs B.cells B.slots ∧ PostX ⟨T.setVm vm₁, locs, cells, slots⟩ argsL.toArray q B ∧
      Steps p.tables e below (T.setTop g) ((B.U.setTop { g with stack := rest }).pushFrame (.throwing q))) := by
  obtain ⟨mk, hnamed⟩ := Cond.code_named hcode
  obtain ⟨methM, cM, hmethM, -, -, -, -, -, -, hsigM⟩ := Cond.code_spec hnamed hcode
  have hstatic : methM.isStatic = true := Cond.static_spec hnamed hmethM hstat
  obtain ⟨kP, hkP, -⟩ := className_of_methodNamed hnamed
  have hinitP : kP.init = .initialized := Cond.initialized_spec (findClass_of_methodNamed hnamed) hkP hinit
  obtain ⟨vm₁, X₁, hstep₁⟩ := X.invokestatic hexec hown hlink hnamed hmethM hstatic hkP hinitP hy (g := g) hg (argsL := argsL) (rest := rest) (hlen _ hsigM) hstack hdg
  rcases hK m meth c ⟨T.setVm vm₁, locs, cells, slots⟩ { g with stack := rest } (.invokestatic index) mk argsL.toArray X₁ hg hsize hdg hW (X₁.named hnamed) (hpre vm₁ X₁.warmed) with ⟨v, B, X', hpost, hsteps⟩ | ⟨q, B, X', hpost, hsteps⟩
  · exact Or.inl ⟨v, vm₁, B, X₁.warmed, X', hpost, fun target h => hstep₁ _ fun acts => by rw [doInvoke_state]; exact hsteps.trans h⟩
  · exact Or.inr ⟨q, vm₁, B, X₁.warmed, X', hpost, hstep₁ _ fun acts => by rw [doInvoke_state]; exact hsteps⟩
end Calls
theorem vx_cls {s : State} {T : State} {vm₁ : Vm} {E : String} {k : ClassId} (hW : s.WarmedH vm₁) (h : (T.setVm vm₁).vm.findClass E = some k) : s.vm.findClass E = some k := by
  have h1 : vm₁.findClass E = some k := h
  rw [hW.alike.findClass] at h1
  exact h1
/-- the method's frame g, with q thrown over it -/
def vx_W (p : Program) (l : Launch) (e : Env) (R : Room) (s : State) (m : MethodId) (args : Array Value) (below : List Frame) (meth : Method) (c : Code) (H : Heap) (locs : List Loc) (cells slots : Nat) (Q : State → Prop) (g : JFrame) (q : Addr) : Prop :=
  ∀ T : State, T.heap = H → Stand p l e R s m args below meth c T locs cells slots → ∃ t, Steps p.tables e below ((T.setTop g).pushFrame (.throwing q)) t ∧ Q t
def vx_Run (p : Program) (l : Launch) (e : Env) (R : Room) (s : State) (m : MethodId) (args : Array Value) (below : List Frame) (meth : Method) (c : Code) (H : Heap) (locs : List Loc) (cells slots mc ms : Nat) (g : JFrame) (rest : List Value) (Qa : State → Outcome → State → Prop) (XC : String → State → State → Prop) (free : Addr → Prop) : Prop :=
  ∀ T : State, T.heap = H → Stand p l e R s m args below meth c T locs cells slots →
    (∃ (v : Option Value) (st₀ t T' : State) (L : List Loc), st₀.heap = H ∧ Stand p l e R s m args below meth c T' (locs ++ L) (cells + mc) (slots + ms) ∧ (∀ q ∈ L, free q.base) ∧ T'.heap = t.heap ∧ T'.vm = t.vm ∧ Qa st₀ (.returned v) t ∧
      Goes p e below T g T' { g with pc := g.pc + 3, stack := v.toList ++ rest }) ∨
    (∃ (q : Addr) (st₀ t T' : State) (L : List Loc) (E : String) (ce : Cell), st₀.heap = H ∧ Stand p l e R s m args below meth c T' (locs ++ L) (cells + mc) (slots + ms) ∧ (∀ z ∈ L, free z.base) ∧ T'.heap = t.heap ∧ T'.vm = t.vm ∧ XC E st₀ t ∧ t.heap[q]? = some ce ∧ ce.vm = .none ∧ s.vm.findClass E = some ce.cls ∧
      Steps p.tables e below (T.setTop g) ((T'.setTop { g with stack := rest }).pushFrame (.throwing q)))
def vx_X {S : Type} (px : S → Prop) (B : String → S → State → Prop) (A : Nat → Prop) : String → State → State → Prop := fun E st t => ∃ u : S, px u ∧ B E u t ∧ va_F A st t
section Runs
variable {p : Program} {l : Launch} {e : Env} {R : Room} {s : State} {m : MethodId} {args : Array Value} {below : List Frame} {meth : Method} {c : Code} {H : Heap} {locs : List Loc} {cells slots : Nat}
variable {y : MethodName} {bytes cc : ByteArray} {maxL nL mc ms n index : Nat} {ret : Option FieldType} {ws : List Cond} {rm : Room} {Pc : Array Value → State → Prop} {Qc : Array Value → State → Outcome → State → Prop} {XC : String → State → State → Prop} {free : Addr → Prop} {Ts : List Cond} {own C : String} {b : Addr} {As rest : List Value} {g : JFrame}
theorem vx_callBack (cb : CallB R s args own index y bytes maxL ret ws rm mc ms n) (hM : vx_Met l y ws rm Pc Qc XC mc ms free) (hbl : FrameBlind Pc) : vx_Back l R p e below s args y 3 8 (PreOf R mc ms Pc) (PostOf Qc mc ms free) (vx_Post XC mc ms free) := by
  obtain ⟨hrc, hrs, hfr, hlo, hws, hcw, -, hini, -⟩ := cb
  exact vx_back (bytes := bytes) (maxL := maxL) (ret := ret) hM hbl hrc hrs hfr hlo hws hcw (fun a' U hW => word_at hW (Or.inl (by first | rfl | simp [Cond.onTables, Cond.keeps, Cond.steady])) hini)
theorem vx_runV (S : CallFix p m c cc nL s args Ts own) (hM : vx_Met l y ws rm Pc Qc XC mc ms free) (cw : CallW R s args own C index y bytes maxL ret ws rm mc ms n) (hp : PreV s H C b Pc As)
    (hg : g.method = m) (hn : As.length = n) (hsize : g.locals.size = nL) (hstack : g.stack = As.reverse ++ .ref b :: rest) (hW : 2 * g.monitorRoom + (rest.map fun v => v.category).sum ≤ 8) (hdg : decode cc g.pc = .ok (.invokevirtual index, 3)) (hf : cells + mc ≤ R.cells ∧ slots + ms ≤ R.slots) :
    vx_Run p l e R s m args below meth c H locs cells slots mc ms g rest (Qc (Value.ref b :: As).toArray) XC free := by
  have hK : vx_Back l R p e below s args y 3 8 (PreOf R mc ms Pc) (PostOf Qc mc ms free) (vx_Post XC mc ms free) := vx_callBack cw.1 hM hp.1
  obtain ⟨⟨-, -, -, -, -, -, hcode, -, hy, hlen, hl⟩, hin, hse⟩ := cw
  obtain ⟨hx, hb, hml, ho, -⟩ := S
  obtain ⟨-, ⟨cellB, hcB, hoB, hclB⟩, hPc⟩ := hp
  intro T hT X
  rcases vx_callV X hx (C := C) (bytes := bytes) (maxL := maxL) (ret := ret) ho hl hin hse hcode hy hK (by rw [hT]; exact hcB) hoB hclB hg (hsize.trans hml.symm) (argsL := As) (rest := rest) (fun sig h => hn.trans (hlen sig h)) hstack hW (by rw [hb]; exact hdg)
    (fun vm₁ hW₁ => ⟨hf.1, hf.2, hPc (T.setVm vm₁) hT hW₁⟩) with ⟨v, vm₁, ⟨U', l2, c2, s2⟩, hW₁, X', ⟨g', mk, t, L, e1, e2, hq, h1, hL, h2, h3⟩, st⟩ | ⟨q, vm₁, ⟨U', l2, c2, s2⟩, hW₁, X', ⟨g', mk, t, L, E, ce, e1, e2, hq, hce, hcv, hcl, h1, hL, h2, h3⟩, st⟩
  · dsimp only [Pt.U, Pt.locs, Pt.cells, Pt.slots] at X' e1 e2 h1 h2 h3 st
    subst h1; subst h2; subst h3
    exact Or.inl ⟨v, (T.setVm vm₁).calling g' mk (Value.ref b :: As).toArray, t, U', L, hT, X', hL, e1, e2, hq, st⟩
  · dsimp only [Pt.U, Pt.locs, Pt.cells, Pt.slots] at X' e1 e2 h1 h2 h3 st hcl
    subst h1; subst h2; subst h3
    exact Or.inr ⟨q, (T.setVm vm₁).calling g' mk (Value.ref b :: As).toArray, t, U', L, E, ce, hT, X', hL, e1, e2, hq, hce, hcv, vx_cls hW₁ hcl, st⟩
theorem vx_runS (S : CallFix p m c cc nL s args Ts own) (hM : vx_Met l y ws rm Pc Qc XC mc ms free) (cw : CallB R s args own index y bytes maxL ret ws rm mc ms n ∧ (Cond.static y).before args s = true) (hp : PreS s H Pc As)
    (hg : g.method = m) (hn : As.length = n) (hsize : g.locals.size = nL) (hstack : g.stack = As.reverse ++ rest) (hW : 2 * g.monitorRoom + (rest.map fun v => v.category).sum ≤ 8) (hdg : decode cc g.pc = .ok (.invokestatic index, 3)) (hf : cells + mc ≤ R.cells ∧ slots + ms ≤ R.slots) :
    vx_Run p l e R s m args below meth c H locs cells slots mc ms g rest (Qc As.toArray) XC free := by
  have hK : vx_Back l R p e below s args y 3 8 (PreOf R mc ms Pc) (PostOf Qc mc ms free) (vx_Post XC mc ms free) := vx_callBack cw.1 hM hp.1
  obtain ⟨⟨-, -, -, -, -, -, hcode, hini, hy, hlen, hl⟩, hstt⟩ := cw
  obtain ⟨hx, hb, hml, ho, -⟩ := S
  intro T hT X
  rcases vx_callS X hx (bytes := bytes) (maxL := maxL) (ret := ret) ho hl hstt hini hcode hy hK hg (hsize.trans hml.symm) (argsL := As) (rest := rest) (fun sig h => hn.trans (hlen sig h)) hstack hW (by rw [hb]; exact hdg)
    (fun vm₁ hW₁ => ⟨hf.1, hf.2, hp.2 (T.setVm vm₁) hT hW₁⟩) with ⟨v, vm₁, ⟨U', l2, c2, s2⟩, hW₁, X', ⟨g', mk, t, L, e1, e2, hq, h1, hL, h2, h3⟩, st⟩ | ⟨q, vm₁, ⟨U', l2, c2, s2⟩, hW₁, X', ⟨g', mk, t, L, E, ce, e1, e2, hq, hce, hcv, hcl, h1, hL, h2, h3⟩, st⟩
  · dsimp only [Pt.U, Pt.locs, Pt.cells, Pt.slots] at X' e1 e2 h1 h2 h3 st
    subst h1; subst h2; subst h3
    exact Or.inl ⟨v, (T.setVm vm₁).calling g' mk As.toArray, t, U', L, hT, X', hL, e1, e2, hq, st⟩
  · dsimp only [Pt.U, Pt.locs, Pt.cells, Pt.slots] at X' e1 e2 h1 h2 h3 st hcl
    subst h1; subst h2; subst h3
    exact Or.inr ⟨q, (T.setVm vm₁).calling g' mk As.toArray, t, U', L, E, ce, hT, X', hL, e1, e2, hq, hce, hcv, vx_cls hW₁ hcl, st⟩
end Runs
section Rows
variable {p : Program} {l : Launch} {e : Env} {R : Room} {s : State} {m : MethodId} {args : Array Value} {below : List Frame} {meth : Method} {c : Code} {H : Heap} {locs : List Loc} {cells slots : Nat} {Q : State → Prop}
variable {mc ms : Nat} {free : Addr → Prop} {A0 A1 : Nat → Prop} {H0 : Heap} {a : Array Value} {pc : Nat} {ls : Array Slot} {st0 rest : List Value}
theorem vx_keep {st₀ t T' : State} {L : List Loc} (h0 : st₀.heap = H) (e1 : T'.heap = t.heap) (hS : va_S A0 H0 H locs) (hA : ∀ q, q < H.size → A1 q → A0 q) (hf : ∀ q, free q → A0 q) (hL : ∀ q ∈ L, free q.base) (hF : va_F A1 st₀ t) :
    H.size ≤ T'.heap.size ∧ (∀ q : Nat, q < H.size → ¬ A1 q → T'.heap[q]? = H[q]?) ∧ va_S A0 H0 T'.heap (locs ++ L) := by
  obtain ⟨hz, hk⟩ := hF
  rw [h0] at hz hk
  exact ⟨by rw [e1]; exact hz, fun q h1 h2 => by rw [e1]; exact hk q h1 h2,
    ⟨Nat.le_trans hS.1 (by rw [e1]; exact hz), fun q h1 h2 => by rw [e1, hk q (Nat.lt_of_lt_of_le h1 hS.1) (fun z => h2 (hA q (Nat.lt_of_lt_of_le h1 hS.1) z))]; exact hS.2.1 q h1 h2, fun q hq => by
      rcases List.mem_append.mp hq with h | h
      · exact hS.2.2 q h
      · exact hf _ (hL q h)⟩⟩
theorem vx_calli {S SX : Type} {post : Int32 → S → Prop} {px : SX → Prop} {B : S → State → Prop} {BX : String → SX → State → Prop} {AX : Nat → Prop} (hr : vx_Run p l e R s m args below meth c H locs cells slots mc ms (F0 m pc ls st0) rest (va_Qi post B A1 a) (vx_X px BX AX) free) (hS : va_S A0 H0 H locs) (hA : ∀ q, q < H.size → A1 q → A0 q) (hf : ∀ q, free q → A0 q) (hAX : ∀ q, q < H.size → AX q → A0 q)
    (kx : ∀ (E : String) (ce : Cell) (q9 : Addr) (u : SX) (t : State) (H1 : Heap) (locs1 : List Loc), t.heap = H1 → s.vm.Alike t.vm → px u → BX E u t → H.size ≤ H1.size → (∀ q : Nat, q < H.size → ¬ AX q → H1[q]? = H[q]?) → va_S A0 H0 H1 locs1 → H1[q9]? = some ce → ce.vm = .none → s.vm.findClass E = some ce.cls → vx_W p l e R s m args below meth c H1 locs1 (cells + mc) (slots + ms) Q (F0 m pc ls rest) q9)
    (kk : ∀ (r : Int32) (u : S) (t : State) (H1 : Heap) (locs1 : List Loc), t.heap = H1 → s.vm.Alike t.vm → post r u → B u t → H.size ≤ H1.size → (∀ q : Nat, q < H.size → ¬ A1 q → H1[q]? = H[q]?) → va_S A0 H0 H1 locs1 → W p l e R s m args below meth c H1 locs1 (cells + mc) (slots + ms) Q (F0 m (pc + 3) ls (.int r :: rest))) : W p l e R s m args below meth c H locs cells slots Q (F0 m pc ls st0) := by
  intro T hT X
  rcases hr T hT X with ⟨v, st₀, t, T', L, h0, X', hL, e1, e2, ⟨⟨r, u, hv, hp, hb⟩, hF⟩, st⟩ | ⟨q, st₀, t, T', L, E, ce, h0, X', hL, e1, e2, ⟨u, hp, hb, hF⟩, hce, hcv, hcl, st⟩
  · cases hv
    obtain ⟨k1, k2, k3⟩ := vx_keep h0 e1 hS hA hf hL hF
    obtain ⟨t2, a1, b1⟩ := kk r u t T'.heap (locs ++ L) e1.symm (by rw [← e2]; exact X'.warmed.alike) hp hb k1 k2 k3 T' rfl X'
    exact ⟨t2, st t2 a1, b1⟩
  · obtain ⟨k1, k2, k3⟩ := vx_keep h0 e1 hS hAX hf hL hF
    obtain ⟨t2, a1, b1⟩ := kx E ce q u t T'.heap (locs ++ L) e1.symm (by rw [← e2]; exact X'.warmed.alike) hp hb k1 k2 k3 (by rw [e1]; exact hce) hcv hcl T' rfl X'
    exact ⟨t2, st.trans a1, b1⟩
theorem vx_calll {S SX : Type} {post : Int64 → S → Prop} {px : SX → Prop} {B : S → State → Prop} {BX : String → SX → State → Prop} {AX : Nat → Prop} (hr : vx_Run p l e R s m args below meth c H locs cells slots mc ms (F0 m pc ls st0) rest (va_Ql post B A1 a) (vx_X px BX AX) free) (hS : va_S A0 H0 H locs) (hA : ∀ q, q < H.size → A1 q → A0 q) (hf : ∀ q, free q → A0 q) (hAX : ∀ q, q < H.size → AX q → A0 q)
    (kx : ∀ (E : String) (ce : Cell) (q9 : Addr) (u : SX) (t : State) (H1 : Heap) (locs1 : List Loc), t.heap = H1 → s.vm.Alike t.vm → px u → BX E u t → H.size ≤ H1.size → (∀ q : Nat, q < H.size → ¬ AX q → H1[q]? = H[q]?) → va_S A0 H0 H1 locs1 → H1[q9]? = some ce → ce.vm = .none → s.vm.findClass E = some ce.cls → vx_W p l e R s m args below meth c H1 locs1 (cells + mc) (slots + ms) Q (F0 m pc ls rest) q9)
    (kk : ∀ (r : Int64) (u : S) (t : State) (H1 : Heap) (locs1 : List Loc), t.heap = H1 → s.vm.Alike t.vm → post r u → B u t → H.size ≤ H1.size → (∀ q : Nat, q < H.size → ¬ A1 q → H1[q]? = H[q]?) → va_S A0 H0 H1 locs1 → W p l e R s m args below meth c H1 locs1 (cells + mc) (slots + ms) Q (F0 m (pc + 3) ls (.long r :: rest))) : W p l e R s m args below meth c H locs cells slots Q (F0 m pc ls st0) := by
  intro T hT X
  rcases hr T hT X with ⟨v, st₀, t, T', L, h0, X', hL, e1, e2, ⟨⟨r, u, hv, hp, hb⟩, hF⟩, st⟩ | ⟨q, st₀, t, T', L, E, ce, h0, X', hL, e1, e2, ⟨u, hp, hb, hF⟩, hce, hcv, hcl, st⟩
  · cases hv
    obtain ⟨k1, k2, k3⟩ := vx_keep h0 e1 hS hA hf hL hF
    obtain ⟨t2, a1, b1⟩ := kk r u t T'.heap (locs ++ L) e1.symm (by rw [← e2]; exact X'.warmed.alike) hp hb k1 k2 k3 T' rfl X'
    exact ⟨t2, st t2 a1, b1⟩
  · obtain ⟨k1, k2, k3⟩ := vx_keep h0 e1 hS hAX hf hL hF
    obtain ⟨t2, a1, b1⟩ := kx E ce q u t T'.heap (locs ++ L) e1.symm (by rw [← e2]; exact X'.warmed.alike) hp hb k1 k2 k3 (by rw [e1]; exact hce) hcv hcl T' rfl X'
    exact ⟨t2, st.trans a1, b1⟩
theorem vx_callf {S SX : Type} {post : UInt32 → S → Prop} {px : SX → Prop} {B : S → State → Prop} {BX : String → SX → State → Prop} {AX : Nat → Prop} (hr : vx_Run p l e R s m args below meth c H locs cells slots mc ms (F0 m pc ls st0) rest (va_Qf post B A1 a) (vx_X px BX AX) free) (hS : va_S A0 H0 H locs) (hA : ∀ q, q < H.size → A1 q → A0 q) (hf : ∀ q, free q → A0 q) (hAX : ∀ q, q < H.size → AX q → A0 q)
    (kx : ∀ (E : String) (ce : Cell) (q9 : Addr) (u : SX) (t : State) (H1 : Heap) (locs1 : List Loc), t.heap = H1 → s.vm.Alike t.vm → px u → BX E u t → H.size ≤ H1.size → (∀ q : Nat, q < H.size → ¬ AX q → H1[q]? = H[q]?) → va_S A0 H0 H1 locs1 → H1[q9]? = some ce → ce.vm = .none → s.vm.findClass E = some ce.cls → vx_W p l e R s m args below meth c H1 locs1 (cells + mc) (slots + ms) Q (F0 m pc ls rest) q9)
    (kk : ∀ (r : UInt32) (u : S) (t : State) (H1 : Heap) (locs1 : List Loc), t.heap = H1 → s.vm.Alike t.vm → post r u → B u t → H.size ≤ H1.size → (∀ q : Nat, q < H.size → ¬ A1 q → H1[q]? = H[q]?) → va_S A0 H0 H1 locs1 → W p l e R s m args below meth c H1 locs1 (cells + mc) (slots + ms) Q (F0 m (pc + 3) ls (.float r :: rest))) : W p l e R s m args below meth c H locs cells slots Q (F0 m pc ls st0) := by
  intro T hT X
  rcases hr T hT X with ⟨v, st₀, t, T', L, h0, X', hL, e1, e2, ⟨⟨r, u, hv, hp, hb⟩, hF⟩, st⟩ | ⟨q, st₀, t, T', L, E, ce, h0, X', hL, e1, e2, ⟨u, hp, hb, hF⟩, hce, hcv, hcl, st⟩
  · cases hv
    obtain ⟨k1, k2, k3⟩ := vx_keep h0 e1 hS hA hf hL hF
    obtain ⟨t2, a1, b1⟩ := kk r u t T'.heap (locs ++ L) e1.symm (by rw [← e2]; exact X'.warmed.alike) hp hb k1 k2 k3 T' rfl X'
    exact ⟨t2, st t2 a1, b1⟩
  · obtain ⟨k1, k2, k3⟩ := vx_keep h0 e1 hS hAX hf hL hF
    obtain ⟨t2, a1, b1⟩ := kx E ce q u t T'.heap (locs ++ L) e1.symm (by rw [← e2]; exact X'.warmed.alike) hp hb k1 k2 k3 (by rw [e1]; exact hce) hcv hcl T' rfl X'
    exact ⟨t2, st.trans a1, b1⟩
theorem vx_calld {S SX : Type} {post : UInt64 → S → Prop} {px : SX → Prop} {B : S → State → Prop} {BX : String → SX → State → Prop} {AX : Nat → Prop} (hr : vx_Run p l e R s m args below meth c H locs cells slots mc ms (F0 m pc ls st0) rest (va_Qd post B A1 a) (vx_X px BX AX) free) (hS : va_S A0 H0 H locs) (hA : ∀ q, q < H.size → A1 q → A0 q) (hf : ∀ q, free q → A0 q) (hAX : ∀ q, q < H.size → AX q → A0 q)
    (kx : ∀ (E : String) (ce : Cell) (q9 : Addr) (u : SX) (t : State) (H1 : Heap) (locs1 : List Loc), t.heap = H1 → s.vm.Alike t.vm → px u → BX E u t → H.size ≤ H1.size → (∀ q : Nat, q < H.size → ¬ AX q → H1[q]? = H[q]?) → va_S A0 H0 H1 locs1 → H1[q9]? = some ce → ce.vm = .none → s.vm.findClass E = some ce.cls → vx_W p l e R s m args below meth c H1 locs1 (cells + mc) (slots + ms) Q (F0 m pc ls rest) q9)
    (kk : ∀ (r : UInt64) (u : S) (t : State) (H1 : Heap) (locs1 : List Loc), t.heap = H1 → s.vm.Alike t.vm → post r u → B u t → H.size ≤ H1.size → (∀ q : Nat, q < H.size → ¬ A1 q → H1[q]? = H[q]?) → va_S A0 H0 H1 locs1 → W p l e R s m args below meth c H1 locs1 (cells + mc) (slots + ms) Q (F0 m (pc + 3) ls (.double r :: rest))) : W p l e R s m args below meth c H locs cells slots Q (F0 m pc ls st0) := by
  intro T hT X
  rcases hr T hT X with ⟨v, st₀, t, T', L, h0, X', hL, e1, e2, ⟨⟨r, u, hv, hp, hb⟩, hF⟩, st⟩ | ⟨q, st₀, t, T', L, E, ce, h0, X', hL, e1, e2, ⟨u, hp, hb, hF⟩, hce, hcv, hcl, st⟩
  · cases hv
    obtain ⟨k1, k2, k3⟩ := vx_keep h0 e1 hS hA hf hL hF
    obtain ⟨t2, a1, b1⟩ := kk r u t T'.heap (locs ++ L) e1.symm (by rw [← e2]; exact X'.warmed.alike) hp hb k1 k2 k3 T' rfl X'
    exact ⟨t2, st t2 a1, b1⟩
  · obtain ⟨k1, k2, k3⟩ := vx_keep h0 e1 hS hAX hf hL hF
    obtain ⟨t2, a1, b1⟩ := kx E ce q u t T'.heap (locs ++ L) e1.symm (by rw [← e2]; exact X'.warmed.alike) hp hb k1 k2 k3 (by rw [e1]; exact hce) hcv hcl T' rfl X'
    exact ⟨t2, st.trans a1, b1⟩
theorem vx_callv {S SX : Type} {post : S → Prop} {px : SX → Prop} {B : S → State → Prop} {BX : String → SX → State → Prop} {AX : Nat → Prop} (hr : vx_Run p l e R s m args below meth c H locs cells slots mc ms (F0 m pc ls st0) rest (va_Qv post B A1 a) (vx_X px BX AX) free) (hS : va_S A0 H0 H locs) (hA : ∀ q, q < H.size → A1 q → A0 q) (hf : ∀ q, free q → A0 q) (hAX : ∀ q, q < H.size → AX q → A0 q)
    (kx : ∀ (E : String) (ce : Cell) (q9 : Addr) (u : SX) (t : State) (H1 : Heap) (locs1 : List Loc), t.heap = H1 → s.vm.Alike t.vm → px u → BX E u t → H.size ≤ H1.size → (∀ q : Nat, q < H.size → ¬ AX q → H1[q]? = H[q]?) → va_S A0 H0 H1 locs1 → H1[q9]? = some ce → ce.vm = .none → s.vm.findClass E = some ce.cls → vx_W p l e R s m args below meth c H1 locs1 (cells + mc) (slots + ms) Q (F0 m pc ls rest) q9)
    (kk : ∀ (u : S) (t : State) (H1 : Heap) (locs1 : List Loc), t.heap = H1 → s.vm.Alike t.vm → post u → B u t → H.size ≤ H1.size → (∀ q : Nat, q < H.size → ¬ A1 q → H1[q]? = H[q]?) → va_S A0 H0 H1 locs1 → W p l e R s m args below meth c H1 locs1 (cells + mc) (slots + ms) Q (F0 m (pc + 3) ls (rest))) : W p l e R s m args below meth c H locs cells slots Q (F0 m pc ls st0) := by
  intro T hT X
  rcases hr T hT X with ⟨v, st₀, t, T', L, h0, X', hL, e1, e2, ⟨⟨u, hv, hp, hb⟩, hF⟩, st⟩ | ⟨q, st₀, t, T', L, E, ce, h0, X', hL, e1, e2, ⟨u, hp, hb, hF⟩, hce, hcv, hcl, st⟩
  · cases hv
    obtain ⟨k1, k2, k3⟩ := vx_keep h0 e1 hS hA hf hL hF
    obtain ⟨t2, a1, b1⟩ := kk u t T'.heap (locs ++ L) e1.symm (by rw [← e2]; exact X'.warmed.alike) hp hb k1 k2 k3 T' rfl X'
    exact ⟨t2, st t2 a1, b1⟩
  · obtain ⟨k1, k2, k3⟩ := vx_keep h0 e1 hS hAX hf hL hF
    obtain ⟨t2, a1, b1⟩ := kx E ce q u t T'.heap (locs ++ L) e1.symm (by rw [← e2]; exact X'.warmed.alike) hp hb k1 k2 k3 (by rw [e1]; exact hce) hcv hcl T' rfl X'
    exact ⟨t2, st.trans a1, b1⟩
/-- caught by the row x of this method's table; the rows ahead don't take it -/
theorem vx_catch {own name : String} {E : String} {ce : Cell} {q : Addr} (hown : s.vm.findClass own = some m.cls) (pre : List ExceptionTableEntry) (x : ExceptionTableEntry) (suf : List ExceptionTableEntry) (hsplit : c.exceptionTable.toList = pre ++ x :: suf)
    (hpass : ∀ z ∈ pre, covers z pc = false ∨ (z.catchType ≠ 0 ∧ ∃ nm : String, (Cond.classLink own z.catchType nm).before args s = true ∧ va_Nc E nm s)) (hx : covers x pc = true) (h0 : x.catchType ≠ 0)
    (hlink : (Cond.classLink own x.catchType name).before args s = true) (hcast : (Cond.castable E name).before args s = true) (hcell : H[q]? = some ce) (hv : ce.vm = .none) (hcl : s.vm.findClass E = some ce.cls)
    (kk : W p l e R s m args below meth c H locs cells slots Q (F0 m x.handlerPc ls [.ref q])) : vx_W p l e R s m args below meth c H locs cells slots Q (F0 m pc ls rest) q := by
  intro T hT X
  have hpl : e.platform.magicAccessors = ({} : Platform).magicAccessors := by rw [X.admits.platform]
  obtain ⟨c3, c4, hc3, hc4, hasg⟩ := Cond.castable_spec hcast
  cases Option.some.inj (hc3.symm.trans hcl)
  obtain ⟨c5, hc5, hcl5⟩ := Cond.classLink_spec hown hlink e.platform hpl
  cases Option.some.inj (hc4.symm.trans hc5)
  obtain ⟨vm', X', st⟩ := X.thenCaughtThrough q (g := F0 m pc ls rest) rfl (Steps.refl _) (by rw [hT]; exact hcell) (by rw [hv]; rfl) (by obtain ⟨k9, h9, -⟩ := Vm.findClass_spec hcl; exact ⟨k9, h9⟩) pre x suf hsplit
    (fun z hz => by
      rcases hpass z hz with h | ⟨hz0, nm, hl1, hn1⟩
      · exact Or.inl h
      · obtain ⟨c6, hc6, hcl6⟩ := Cond.classLink_spec hown hl1 e.platform hpl
        obtain ⟨a8, b8, h1, h2, h3⟩ := hn1
        cases Option.some.inj (h1.symm.trans hcl)
        cases Option.some.inj (h2.symm.trans hc6)
        exact Or.inr ⟨hz0, _, hcl6, h3⟩) hx (Or.inr ⟨h0, c4, hcl5, hasg⟩)
  obtain ⟨t, a1, b1⟩ := kk (T.setVm vm') hT X'
  exact ⟨t, st.trans a1, b1⟩
end Rows
section Ends
variable {p : Program} {l : Launch} {e : Env} {R : Room} {s : State} {m : MethodId} {args : Array Value} {below : List Frame} {meth : Method} {c : Code} {H : Heap} {locs : List Loc} {cells slots : Nat} {Q : State → Prop}
variable {mc ms : Nat} {free : Addr → Prop} {A0 A1 : Nat → Prop} {H0 : Heap} {a : Array Value} {ls : Array Slot} {st0 rest : List Value}
variable {Qc : Array Value → State → Outcome → State → Prop} {XC : String → State → State → Prop}
/-- what a body that may throw owes at its end -/
def vx_MQ (below : List Frame) (Qc : Array Value → State → Outcome → State → Prop) (XC : String → State → State → Prop) (a : Array Value) (s : State) (mc ms : Nat) (free : Addr → Prop) : State → Prop := fun t =>
  ∃ o, t.status = .running ∧ Ended t below o ∧ vx_Q Qc XC mc ms free a s o t
theorem vx_ret {g : JFrame} {mc ms : Nat} (k : W p l e R s m args below meth c H locs cells slots (MQ below Qc args s mc ms free) g) : W p l e R s m args below meth c H locs cells slots (vx_MQ below Qc XC args s mc ms free) g := by
  intro T hT X
  obtain ⟨t, a1, o, b1, b2, b3, b4⟩ := k T hT X
  exact ⟨t, a1, o, b1, b2, Or.inl ⟨b3, b4⟩⟩
/-- not caught here: it goes on to the caller -/
theorem vx_widen {g : JFrame} {q : Addr} {k n : Nat} (h1 : cells ≤ k) (h2 : slots ≤ n) (kk : vx_W p l e R s m args below meth c H locs k n Q g q) : vx_W p l e R s m args below meth c H locs cells slots Q g q := fun T hT X => kk T hT (stand_widen X h1 h2)
theorem vx_out {pc : Nat} {E : String} {ce : Cell} {q : Addr} {mc ms : Nat} (hout : ∀ x ∈ c.exceptionTable.toList, covers x pc = false) (hlocks : meth.locks = false) (hcell : H[q]? = some ce) (hv : ce.vm = .none) (hcl : s.vm.findClass E = some ce.cls)
    (hx : ∀ t : State, t.heap = H → s.vm.Alike t.vm → XC E s t) (hf : ∀ z ∈ locs, free z.base) (hc : cells ≤ mc) (hs : slots ≤ ms) :
    vx_W p l e R s m args below meth c H locs cells slots (vx_MQ below Qc XC args s mc ms free) (F0 m pc ls rest) q := by
  intro T hT X
  obtain ⟨st1, hrun, hend, hW, hsm⟩ := X.leaveThrown q (g := F0 m pc ls rest) rfl rfl rfl hout hlocks
  have hcell9 : (T.setFrames (.throwing q :: below)).heap[q]? = some ce := by
    show T.heap[q]? = some ce
    rw [hT]; exact hcell
  exact ⟨_, st1, .threw q, hrun, hend, Or.inr ⟨q, rfl, E, ce, locs, hx _ hT hW.alike, hcell9, hv, hcl, hW, hsm.mono hc hs, hf⟩⟩
theorem vx_frame {U : State} {k n : Nat} (h : s.sameButNew ({ U with vm := s.vm } : State) locs k n) : s.heap.size ≤ U.heap.size ∧ ∀ q : Nat, q < s.heap.size → (∀ z ∈ locs, z.base ≠ q) → U.heap[q]? = s.heap[q]? := by
  obtain ⟨-, h2, -, -, -, h6⟩ := h
  refine ⟨h2, fun q hq hz => ?_⟩
  obtain ⟨c9, e1, e2, e3, e4⟩ := h6 q _ (Array.getElem?_eq_getElem hq)
  have hs : c9.slots = (s.heap[q]).slots := Array.ext_getElem? fun i => e4 i fun hm => hz _ hm rfl
  have h9 : c9 = s.heap[q] := by
    rw [hs] at e2
    exact e2
  have e5 : U.heap[q]? = some c9 := e1
  rw [e5, h9, Array.getElem?_eq_getElem hq]
/-- the words of a throw but the four that speak of the heap -/
def vx_no (w : Cond) : Bool := decide (w ≠ .isRef (.static Bundle.tN "UNASSIGNED_STACK" Bundle.steD)) && decide (w ≠ .isRef (.static Bundle.tN "SUPPRESSED_SENTINEL" Bundle.listD)) && decide (w ≠ .laysStatic Bundle.tN "UNASSIGNED_STACK" Bundle.steD) && decide (w ≠ .laysStatic Bundle.tN "SUPPRESSED_SENTINEL" Bundle.listD)
def vx_at0 (own : String) (ic : Nat) (X : String) (names : List String) : List Cond := (Bundle.ownAtoms0 own ic X names).filter vx_no
def vx_atS (own : String) (ic : Nat) (X : String) (names : List String) : List Cond := (Bundle.ownAtoms own ic X names).filter vx_no
/-- a word that the tables alone decide, or a good one -/
def vx_ot (w : Cond) : Bool := w.onTables || goodWord w
theorem vx_ot_at {args a' : Array Value} {s U : State} {w : Cond} (hW : s.WarmedH U.vm) (hvm : s.vm = U.vm) (hg : vx_ot w = true) (h : w.before args s = true) : w.before a' U = true := by
  simp only [vx_ot, Bool.or_eq_true] at hg
  rcases hg with hg | hg
  · exact va_tabs hg hvm h
  · exact word_at hW (good_of_word hg) h
/-- a list's words: the good ones out of the method's own list, the others by premises of their own -/
theorem vx_hat {args : Array Value} {s : State} {L B : List Cond} (h1 : ∀ w ∈ L.filter goodWord, w.before args s = true) (h2 : ∀ w ∈ L.filter (fun w => !goodWord w), w ∈ B) (h3 : ∀ w ∈ B, w.before args s = true) : ∀ w ∈ L, w.before args s = true := by
  intro w hw
  by_cases g : goodWord w = true
  · exact h1 w (List.mem_filter.mpr ⟨hw, g⟩)
  · refine h3 w (h2 w (List.mem_filter.mpr ⟨hw, ?_⟩))
    show (!goodWord w) = true
    cases hgw : goodWord w
    · rfl
    · exact absurd hgw g
theorem vx_c {args : Array Value} {s : State} {w : Cond} {B : List Cond} (h : w.before args s = true) (t : ∀ w ∈ B, w.before args s = true) : ∀ w' ∈ w :: B, w'.before args s = true := fun w' h' => (List.mem_cons.mp h').elim (fun e => by rw [e]; exact h) (t w')
theorem vx_n {args : Array Value} {s : State} : ∀ w ∈ ([] : List Cond), w.before args s = true := fun _ h => nomatch h
theorem vx_own {args : Array Value} {s : State} {L : List Cond} (h1 : ∀ w ∈ L.filter vx_no, w.before args s = true)
    (hU : (Cond.isRef (.static Bundle.tN "UNASSIGNED_STACK" Bundle.steD)).before args s = true) (hN : (Cond.isRef (.static Bundle.tN "SUPPRESSED_SENTINEL" Bundle.listD)).before args s = true)
    (lU : (Cond.laysStatic Bundle.tN "UNASSIGNED_STACK" Bundle.steD).before args s = true) (lN : (Cond.laysStatic Bundle.tN "SUPPRESSED_SENTINEL" Bundle.listD).before args s = true) : ∀ w ∈ L, w.before args s = true := by
  intro w hw
  by_cases e1 : w = .isRef (.static Bundle.tN "UNASSIGNED_STACK" Bundle.steD)
  · rw [e1]; exact hU
  · by_cases e2 : w = .isRef (.static Bundle.tN "SUPPRESSED_SENTINEL" Bundle.listD)
    · rw [e2]; exact hN
    · by_cases e3 : w = .laysStatic Bundle.tN "UNASSIGNED_STACK" Bundle.steD
      · rw [e3]; exact lU
      · by_cases e4 : w = .laysStatic Bundle.tN "SUPPRESSED_SENTINEL" Bundle.listD
        · rw [e4]; exact lN
        · exact h1 w (List.mem_filter.mpr ⟨hw, by unfold vx_no; rw [decide_eq_true e1, decide_eq_true e2, decide_eq_true e3, decide_eq_true e4]; rfl⟩)
/-- where a static field lies, its class's statics cell in H -/
def vx_L (C n d : String) (A : Nat → Prop) (U : State) (H : Heap) : Prop := ∃ (c : ClassId) (k : Class) (i : Nat) (f : Field) (a : Nat) (cell : Cell), U.vm.findClass C = some c ∧ U.fieldFound? C n d = some (c, k, i, f) ∧ f.isStatic = true ∧ k.statics = some a ∧ H[a]? = some cell ∧ cell.vm.isStatics = true ∧ cell.cls = c ∧ f.slot < cell.slots.size ∧ k.staticTypes[f.slot]? = some f.type ∧ ¬ A a
theorem vx_L.moved {C n d : String} {A : Nat → Prop} {u U : State} {H : Heap} (hvm : u.vm.Alike U.vm) (h : vx_L C n d A u H) : vx_L C n d A U H := by
  obtain ⟨c, k, i, f, a, cell, h1, h2, h3, h4, h5, h6, h7, h8, h9, h10⟩ := h
  obtain ⟨k', hi', he⟩ := State.fieldFound?_setVm hvm h2
  exact ⟨c, k', i, f, a, cell, by rw [hvm.findClass]; exact h1, hi', h3, by rw [he]; exact h4, h5, h6, h7, h8, by rw [he]; exact h9, h10⟩
theorem vx_L.kept {C n d : String} {A : Nat → Prop} {U : State} {H H1 : Heap} (h : vx_L C n d A U H) (hq : ∀ a : Nat, a < H.size → ¬ A a → H1[a]? = H[a]?) : vx_L C n d A U H1 := by
  obtain ⟨c, k, i, f, a, cell, h1, h2, h3, h4, h5, h6, h7, h8, h9, h10⟩ := h
  exact ⟨c, k, i, f, a, cell, h1, h2, h3, h4, by rw [hq a (Array.getElem?_eq_some_iff.mp h5).1 h10]; exact h5, h6, h7, h8, h9, h10⟩
theorem vx_L.narrow {C n d : String} {A B : Nat → Prop} {U : State} {H : Heap} (h : vx_L C n d A U H) (hAB : ∀ q, B q → A q) : vx_L C n d B U H := by
  obtain ⟨c, k, i, f, a, cell, h1, h2, h3, h4, h5, h6, h7, h8, h9, h10⟩ := h
  exact ⟨c, k, i, f, a, cell, h1, h2, h3, h4, h5, h6, h7, h8, h9, fun z => h10 (hAB _ z)⟩
theorem vx_L.word {C n d : String} {A : Nat → Prop} {s : State} {args : Array Value} (h : vx_L C n d A s s.heap) : (Cond.laysStatic C n d).before args s = true := by
  obtain ⟨c, k, i, f, a, cell, h1, h2, h3, h4, h5, h6, h7, h8, h9, -⟩ := h
  show (Cond.laysStatic C n d).holds args s none s [] = true
  exact Cond.laysStatic_of h1 h2 h3 h4 h5 h6 h7 h8 h9
/-- .. and what it holds: null or some reference -/
def vx_Zq (C n d : String) (A : Nat → Prop) (U : State) (H : Heap) : Prop := va_Zq C n d A U H ∧ vx_L C n d A U H
theorem vx_Zq.moved {C n d : String} {A : Nat → Prop} {u U : State} {H : Heap} (hvm : u.vm.Alike U.vm) (h : vx_Zq C n d A u H) : vx_Zq C n d A U H := ⟨va_Zq.moved hvm h.1, vx_L.moved hvm h.2⟩
theorem vx_Zq.kept {C n d : String} {A : Nat → Prop} {U : State} {H H1 : Heap} (h : vx_Zq C n d A U H) (hq : ∀ a : Nat, a < H.size → ¬ A a → H1[a]? = H[a]?) : vx_Zq C n d A U H1 := ⟨va_Zq.kept h.1 hq, vx_L.kept h.2 hq⟩
theorem vx_Zq.narrow {C n d : String} {A B : Nat → Prop} {U : State} {H : Heap} (h : vx_Zq C n d A U H) (hAB : ∀ q, B q → A q) : vx_Zq C n d B U H := ⟨va_Zq.narrow h.1 hAB, vx_L.narrow h.2 hAB⟩
theorem vx_Zqof {args : Array Value} {s : State} {C n d : String} {A : Nat → Prop} (hl : (Cond.laysStatic C n d).before args s = true) (hini : (Cond.initialized C).before args s = true) (h : (Cond.isRef (.static C n d)).before args s = true) (hA : ∀ a : Nat, a < s.heap.size → ¬ A a) : vx_Zq C n d A s s.heap := by
  refine ⟨va_Zqof hl hini h hA, ?_⟩
  obtain ⟨c, k, i, f, a, cell, h1, h2, h3, h4, h5, h6, h7, h8, h9⟩ := Cond.laysStatic_spec hl
  exact ⟨c, k, i, f, a, cell, h1, h2, h3, h4, h5, h6, h7, h8, h9, hA a (Array.getElem?_eq_some_iff.mp h5).1⟩
theorem vx_isRef {C n d : String} {v : Value} {A : Nat → Prop} {s : State} {args : Array Value} (h : va_Z C n d v A s s.heap) (hv : v.isRef = true) : (Cond.isRef (.static C n d)).before args s = true := by
  obtain ⟨cf, kf, fi, f, a, cell, h1, h2, h3, h4, h5, h6, h7, -⟩ := h
  have he : (Term.static C n d).eval args s none [] s = some v := by
    simp [Term.eval, State.fieldNamed?, h1, h2, h4, h5, h6, h7]
  simp only [Cond.before, Cond.holds, Cond.value, he]
  cases v <;> simp_all [Value.isRef]
theorem vx_isRefq {C n d : String} {A : Nat → Prop} {s : State} {args : Array Value} (h : va_Zq C n d A s s.heap) : (Cond.isRef (.static C n d)).before args s = true := by
  rcases h with h | ⟨t, h⟩
  · exact vx_isRef h rfl
  · exact vx_isRef h rfl
/-- the same frame, seen from here: as if the method were called anew in this heap -/
theorem vx_rebase {T : State} (X : Stand p l e R s m args below meth c T locs cells slots) {R' : Room} (hf : R'.frames ≤ R.frames) (hl : R'.locals ≤ R.locals) (hc : cells + R'.cells ≤ R.cells) (hs : slots + R'.slots ≤ R.slots) :
    Stand p l e R' ((T.setVm s.vm).setFrames (.invoking m args :: below)) m args below meth c T [] 0 0 := by
  have htop : (T.setVm s.vm).topJava?.isSome := X.here.top
  have hF : ((T.setVm s.vm).setFrames (.invoking m args :: below)).frames = .invoking m args :: below := State.frames_setFrames _ (State.cur_lt_of_top htop)
  obtain ⟨g₀, hg0⟩ := Option.isSome_iff_exists.mp htop
  obtain ⟨r, hr⟩ := State.topJava?_eq_some.mp hg0
  have hl9 : e.platform.stackLimits (T.setVm s.vm).me = e.platform.stackLimits s.me := X.limits
  have hb9 : (T.setVm s.vm).me.stackBytes = s.me.stackBytes := X.bytes
  refine ⟨X.admits, X.cas, X.clock, hF, ?_, X.hears, X.method, X.code, X.here, X.tail, X.warmed, ?_, ?_, ?_⟩
  · have h := X.room
    have hU : ((T.setVm s.vm).setFrames (.invoking m args :: below)).localsInUse = s.localsInUse := by
      rw [State.localsInUse_invoking hF (meth := meth) (c := c) X.method X.code, State.localsInUse_invoking X.frames X.method X.code]
    simp only [State.hasRoom, Bool.and_eq_true, decide_eq_true_eq] at h ⊢
    obtain ⟨⟨⟨⟨h1, h2, h3, h4, h5, h6⟩, h7⟩, h8⟩, h9⟩ := h
    rw [X.frames, List.length_cons] at h2 h3
    have q1 := X.heapSize
    have q2 := X.used
    simp only [hF, hU, List.length_cons, State.stackLimits_setFrames, State.stackBytes_setFrames, hl9, hb9]
    refine ⟨⟨⟨⟨by omega, by omega, by omega, by omega, by omega, h6⟩, ?_⟩, ?_⟩, X.book⟩
    · show T.heap.size + R'.cells ≤ e.platform.maxCells
      omega
    · show T.slotsUsed + R'.slots ≤ e.platform.maxSlots
      omega
  · rw [State.stackLimits_setFrames]; rfl
  · rw [State.stackBytes_setFrames]; rfl
  · refine ⟨?_, Nat.le_refl _, Nat.le_refl _, ?_, ?_, fun a c9 h9 => ⟨c9, h9, rfl, rfl, fun _ _ => rfl⟩⟩
    · obtain ⟨t, ht, -⟩ := State.frames_cons hr
      show T.setVm s.vm = { ((T.setVm s.vm).setFrames (.invoking m args :: below)).setFrames (T.setVm s.vm).frames with heap := T.heap, slotsUsed := T.slotsUsed }
      rw [State.setFrames_setFrames, State.setFrames_self ht]
      rfl
    · show T.slotsUsed = T.slotsUsed + ((T.heap.toList.drop T.heap.size).map (·.slots.size)).sum
      rw [List.drop_eq_nil_of_le (Nat.le_of_eq Array.length_toList)]
      rfl
    · show ((T.heap.toList.drop T.heap.size).map (·.slots.size)).sum ≤ 0
      rw [List.drop_eq_nil_of_le (Nat.le_of_eq Array.length_toList)]
      exact Nat.le_refl _
/-- 'throw new E()': new; dup; invokespecial; athrow -/
theorem vx_throw0 {cc : ByteArray} {pc : Nat} (hexec : p.tables.exec = Jvm.exec) (hb : c.code = cc) (hl : l.stackTraces = false) {own cls : String} {names : List String} {ik ic mc ms : Nat} {A : Nat → Prop}
    (hown : s.vm.findClass own = some m.cls) (hcls : Bundle.fit cls = true) (hnames : ∀ n ∈ names, Bundle.fit n = true)
    (hk : (Cond.classLink own ik cls).before args s = true) (hini : (Cond.initialized cls).before args s = true) (hat : ∀ w ∈ vx_at0 own ic cls names, w.before args s = true)
    (hgood : ∀ w ∈ Cond.classLink own ik cls :: Cond.initialized cls :: vx_at0 own ic cls names, vx_ot w = true)
    (hU : vx_Zq Bundle.tN "UNASSIGNED_STACK" Bundle.steD A s s.heap) (hN : vx_Zq Bundle.tN "SUPPRESSED_SENTINEL" Bundle.listD A s s.heap) (hS : va_S A s.heap H locs) (hsize : ls.size = c.maxLocals)
    (d0 : decode cc pc = .ok (.new ik, 3)) (d3 : decode cc (pc + 3) = .ok (.dup, 1)) (d4 : decode cc (pc + 4) = .ok (.invokespecial ic, 3)) (d7 : decode cc (pc + 7) = .ok (.athrow, 1))
    (hout : ∀ x ∈ c.exceptionTable.toList, covers x (pc + 7) = false)
    (hRframes : names.length + 3 < R.frames) (hRlocals : (rest.map fun v => v.category).sum + (13 * (names.length + 1) + 42) ≤ R.locals) (hRcells : cells + 1 ≤ R.cells) (hRslots : slots + 6 ≤ R.slots) (hlocks : meth.locks = false)
    (hx : ∀ t : State, s.vm.Alike t.vm → H.size ≤ t.heap.size → (∀ q : Nat, q < H.size → t.heap[q]? = H[q]?) → XC cls s t)
    (hf : ∀ z ∈ locs, free z.base) (hc : cells + 1 ≤ mc) (hs : slots + 6 ≤ ms) :
    W p l e R s m args below meth c H locs cells slots (vx_MQ below Qc XC args s mc ms free) (F0 m pc ls rest) := by
  intro T hT X
  have htr : e.platform.stackTraces = false := (show e.platform.stackTraces = l.stackTraces by rw [X.admits.platform]).trans hl
  have Y := vx_rebase X (R' := { frames := R.frames, locals := R.locals, cells := 1, slots := 6 }) (Nat.le_refl _) (Nat.le_refl _) hRcells hRslots
  obtain ⟨s', hA⟩ : ∃ z, z = (T.setVm s.vm).setFrames (.invoking m args :: below) := ⟨_, rfl⟩
  rw [← hA] at Y
  have hvm : s'.vm = s.vm := by rw [hA]; rfl
  have hhp : s'.heap = H := by rw [hA]; exact hT
  have hW0 : s.WarmedH s'.vm := by rw [hvm]; exact State.WarmedH.refl s
  have hat' : ∀ w ∈ vx_at0 own ic cls names, w.before args s' = true := fun w hw => vx_ot_at hW0 hvm.symm (hgood w (List.mem_cons_of_mem _ (List.mem_cons_of_mem _ hw))) (hat w hw)
  have hk' : (Cond.classLink own ik cls).before args s' = true := vx_ot_at hW0 hvm.symm (hgood _ List.mem_cons_self) hk
  have hini' : (Cond.initialized cls).before args s' = true := vx_ot_at hW0 hvm.symm (hgood _ (List.mem_cons_of_mem _ List.mem_cons_self)) hini
  have hU' : vx_Zq Bundle.tN "UNASSIGNED_STACK" Bundle.steD A s' s'.heap := by rw [hhp]; exact vx_Zq.moved hW0.alike (hU.kept hS.2.1)
  have hN' : vx_Zq Bundle.tN "SUPPRESSED_SENTINEL" Bundle.listD A s' s'.heap := by rw [hhp]; exact vx_Zq.moved hW0.alike (hN.kept hS.2.1)
  have h : ∀ w ∈ Bundle.ownAtoms0 own ic cls names, w.before args s' = true := vx_own hat' (vx_isRefq hU'.1) (vx_isRefq hN'.1) hU'.2.word hN'.2.word
  have hown' : s'.vm.findClass own = some m.cls := by rw [hvm]; exact hown
  have hins : (Cond.instantiable cls 6).before args s' = true := h _ (by simp [Bundle.ownAtoms0])
  obtain ⟨vm₁, cX, kX, hfX, hkX, -, -, X₁, st1⟩ := Y.newCold hexec (own := own) (C := cls) (index := ik) (n := 6) hown' hk' hins hini'
    (g := F0 m pc ls rest) rfl (by rw [hb]; exact d0) (Nat.le_refl _) (Nat.le_refl _)
  generalize hT1 : (T.setVm vm₁).pushCell { cls := cX, slots := kX.instanceTypes.map defaultValue, vm := .none } = T1 at X₁ st1
  have hcat : (Value.ref T.heap.size).category = 1 := rfl
  have hcellA : T1.heap[T.heap.size]? = some (freshCell cX kX) := by rw [← hT1]; exact State.heap_pushCell_size _ _
  have d3' : decode c.code (pc + 3) = .ok (.dup, 1) := by rw [hb]; exact d3
  obtain ⟨U, hsteps, hrun, hend, hW, hsame, ce, hce, hO⟩ := X₁.ctorThrow0 hexec htr (own := own) (cls := cls) (names := names) (ic := ic) hown' hcls hnames h (fun x hx => nomatch hx) hfX hkX hcellA (by rw [hhp, hT]; exact Nat.le_refl _)
    (g := { method := m, pc := pc + 4, locals := ls, stack := .ref T.heap.size :: .ref T.heap.size :: rest, locked := none }) rfl hsize rfl rfl (rest := rest) rfl
    (by rw [hb]; exact d4) (by rw [hb]; exact d7) hout hRframes (by simp only [List.map_cons, List.sum_cons, hcat]; omega) hlocks
  obtain ⟨f1, f2⟩ := vx_frame hsame
  rw [hhp] at f1 f2
  have hWs : s.WarmedH U.vm := State.WarmedH.trans hW0 hW
  have hcl : s.vm.findClass cls = some ce.cls := by
    have h9 := hO.cls
    rw [hvm] at h9
    exact h9
  have hall : s.sameButNew ({ U with vm := s.vm } : State) locs mc ms := by
    subst hA
    obtain ⟨e1, e2⟩ := hsame
    rw [State.setFrames_setFrames] at e1
    have h2 : (T.setVm s.vm).sameButNew ({ U with vm := s.vm } : State) [] (0 + 1) (0 + 6) := ⟨e1, e2⟩
    have h3 := X.same.trans h2
    rw [List.append_nil] at h3
    exact h3.mono hc hs
  refine ⟨U, ?_, .threw T.heap.size, hrun, hend, Or.inr ⟨T.heap.size, rfl, cls, ce, locs, hx U hWs.alike f1 (fun q hq => f2 q hq (fun z hz => nomatch hz)), hce, hO.vm, hcl, hWs, hall, hf⟩⟩
  refine st1 _ ?_
  show Steps p.tables e below (T1.setTop { method := m, pc := pc + 3, locals := ls, stack := .ref T.heap.size :: rest, locked := none }) _
  jvm_step X₁.here [X₁.here.top, hexec, d3', Value.category]
  exact hsteps
/-- 'throw new E("text")': new; dup; ldc; invokespecial; athrow -/
theorem vx_throwS {cc : ByteArray} {pc : Nat} (hexec : p.tables.exec = Jvm.exec) (hb : c.code = cc) (hl : l.stackTraces = false) {own cls text : String} {names : List String} {ik is ic mc ms sa : Nat} {A : Nat → Prop}
    (hown : s.vm.findClass own = some m.cls) (hcls : Bundle.fit cls = true) (hnames : ∀ n ∈ names, Bundle.fit n = true)
    (hk : (Cond.classLink own ik cls).before args s = true) (hini : (Cond.initialized cls).before args s = true) (hstr : vk_R own is text sa s) (hat : ∀ w ∈ vx_atS own ic cls names, w.before args s = true)
    (hgood : ∀ w ∈ Cond.classLink own ik cls :: Cond.initialized cls :: vx_atS own ic cls names, vx_ot w = true)
    (hU : vx_Zq Bundle.tN "UNASSIGNED_STACK" Bundle.steD A s s.heap) (hN : vx_Zq Bundle.tN "SUPPRESSED_SENTINEL" Bundle.listD A s s.heap) (hS : va_S A s.heap H locs) (hsize : ls.size = c.maxLocals)
    (d0 : decode cc pc = .ok (.new ik, 3)) (d3 : decode cc (pc + 3) = .ok (.dup, 1)) (d4 : decode cc (pc + 4) = .ok (.ldc is, 2)) (d6 : decode cc (pc + 6) = .ok (.invokespecial ic, 3)) (d9 : decode cc (pc + 9) = .ok (.athrow, 1))
    (hout : ∀ x ∈ c.exceptionTable.toList, covers x (pc + 9) = false)
    (hRframes : names.length + 3 < R.frames) (hRlocals : (rest.map fun v => v.category).sum + (13 * (names.length + 1) + 43) ≤ R.locals) (hRcells : cells + 1 ≤ R.cells) (hRslots : slots + 6 ≤ R.slots) (hlocks : meth.locks = false)
    (hx : ∀ t : State, s.vm.Alike t.vm → H.size ≤ t.heap.size → (∀ q : Nat, q < H.size → t.heap[q]? = H[q]?) → XC cls s t)
    (hf : ∀ z ∈ locs, free z.base) (hc : cells + 1 ≤ mc) (hs : slots + 6 ≤ ms) :
    W p l e R s m args below meth c H locs cells slots (vx_MQ below Qc XC args s mc ms free) (F0 m pc ls rest) := by
  intro T hT X
  have htr : e.platform.stackTraces = false := (show e.platform.stackTraces = l.stackTraces by rw [X.admits.platform]).trans hl
  have Y := vx_rebase X (R' := { frames := R.frames, locals := R.locals, cells := 1, slots := 6 }) (Nat.le_refl _) (Nat.le_refl _) hRcells hRslots
  obtain ⟨s', hA⟩ : ∃ z, z = (T.setVm s.vm).setFrames (.invoking m args :: below) := ⟨_, rfl⟩
  rw [← hA] at Y
  have hvm : s'.vm = s.vm := by rw [hA]; rfl
  have hhp : s'.heap = H := by rw [hA]; exact hT
  have hW0 : s.WarmedH s'.vm := by rw [hvm]; exact State.WarmedH.refl s
  have hat' : ∀ w ∈ vx_atS own ic cls names, w.before args s' = true := fun w hw => vx_ot_at hW0 hvm.symm (hgood w (List.mem_cons_of_mem _ (List.mem_cons_of_mem _ hw))) (hat w hw)
  have hk' : (Cond.classLink own ik cls).before args s' = true := vx_ot_at hW0 hvm.symm (hgood _ List.mem_cons_self) hk
  have hini' : (Cond.initialized cls).before args s' = true := vx_ot_at hW0 hvm.symm (hgood _ (List.mem_cons_of_mem _ List.mem_cons_self)) hini
  have hU' : vx_Zq Bundle.tN "UNASSIGNED_STACK" Bundle.steD A s' s'.heap := by rw [hhp]; exact vx_Zq.moved hW0.alike (hU.kept hS.2.1)
  have hN' : vx_Zq Bundle.tN "SUPPRESSED_SENTINEL" Bundle.listD A s' s'.heap := by rw [hhp]; exact vx_Zq.moved hW0.alike (hN.kept hS.2.1)
  have h : ∀ w ∈ Bundle.ownAtoms own ic cls names, w.before args s' = true := vx_own hat' (vx_isRefq hU'.1) (vx_isRefq hN'.1) hU'.2.word hN'.2.word
  have hown' : s'.vm.findClass own = some m.cls := by rw [hvm]; exact hown
  have hins : (Cond.instantiable cls 6).before args s' = true := h _ (by simp [Bundle.ownAtoms])
  obtain ⟨vm₁, cX, kX, hfX, hkX, -, -, X₁, st1⟩ := Y.newCold hexec (own := own) (C := cls) (index := ik) (n := 6) hown' hk' hins hini'
    (g := F0 m pc ls rest) rfl (by rw [hb]; exact d0) (Nat.le_refl _) (Nat.le_refl _)
  generalize hT1 : (T.setVm vm₁).pushCell { cls := cX, slots := kX.instanceTypes.map defaultValue, vm := .none } = T1 at X₁ st1
  have hcat : (Value.ref T.heap.size).category = 1 := rfl
  have hcellA : T1.heap[T.heap.size]? = some (freshCell cX kX) := by rw [← hT1]; exact State.heap_pushCell_size _ _
  have d3' : decode c.code (pc + 3) = .ok (.dup, 1) := by rw [hb]; exact d3
  have d4' : decode c.code (pc + 4) = .ok (.ldc is, 2) := by rw [hb]; exact d4
  have hstr' : vk_R own is text sa s' := vk_R.warm hW0 hstr
  obtain ⟨U, hsteps, hrun, hend, hW, hsame, ce, hce, hO⟩ := X₁.ctorThrowS hexec htr (own := own) (cls := cls) (names := names) (ic := ic) hown' hcls hnames h (fun x hx => nomatch hx) hfX hkX hcellA (by rw [hhp, hT]; exact Nat.le_refl _) (msg := .ref sa) rfl
    (g := { method := m, pc := pc + 6, locals := ls, stack := .ref sa :: .ref T.heap.size :: .ref T.heap.size :: rest, locked := none }) rfl hsize rfl rfl (rest := rest) rfl
    (by rw [hb]; exact d6) (by rw [hb]; exact d9) hout hRframes (by simp only [List.map_cons, List.sum_cons, hcat]; omega) hlocks
  obtain ⟨f1, f2⟩ := vx_frame hsame
  rw [hhp] at f1 f2
  have hWs : s.WarmedH U.vm := State.WarmedH.trans hW0 hW
  have hcl : s.vm.findClass cls = some ce.cls := by
    have h9 := hO.cls
    rw [hvm] at h9
    exact h9
  have hall : s.sameButNew ({ U with vm := s.vm } : State) locs mc ms := by
    subst hA
    obtain ⟨e1, e2⟩ := hsame
    rw [State.setFrames_setFrames] at e1
    have h2 : (T.setVm s.vm).sameButNew ({ U with vm := s.vm } : State) [] (0 + 1) (0 + 6) := ⟨e1, e2⟩
    have h3 := X.same.trans h2
    rw [List.append_nil] at h3
    exact h3.mono hc hs
  refine ⟨U, ?_, .threw T.heap.size, hrun, hend, Or.inr ⟨T.heap.size, rfl, cls, ce, locs, hx U hWs.alike f1 (fun q hq => f2 q hq (fun z hz => nomatch hz)), hce, hO.vm, hcl, hWs, hall, hf⟩⟩
  refine st1 _ ?_
  show Steps p.tables e below (T1.setTop { method := m, pc := pc + 3, locals := ls, stack := .ref T.heap.size :: rest, locked := none }) _
  jvm_step X₁.here [X₁.here.top, hexec, d3', Value.category]
  exact X₁.ldcString hexec (own := own) (text := text) (index := is) (a := sa) hown' hstr'.1 hstr'.2
    (g := { method := m, pc := pc + 4, locals := ls, stack := .ref T.heap.size :: .ref T.heap.size :: rest, locked := none }) rfl d4' _ hsteps
/-- 'throw new E("text")', the text by a wide index -/
theorem vx_throwSW {cc : ByteArray} {pc : Nat} (hexec : p.tables.exec = Jvm.exec) (hb : c.code = cc) (hl : l.stackTraces = false) {own cls text : String} {names : List String} {ik is ic mc ms sa : Nat} {A : Nat → Prop}
    (hown : s.vm.findClass own = some m.cls) (hcls : Bundle.fit cls = true) (hnames : ∀ n ∈ names, Bundle.fit n = true)
    (hk : (Cond.classLink own ik cls).before args s = true) (hini : (Cond.initialized cls).before args s = true) (hstr : vk_R own is text sa s) (hat : ∀ w ∈ vx_atS own ic cls names, w.before args s = true)
    (hgood : ∀ w ∈ Cond.classLink own ik cls :: Cond.initialized cls :: vx_atS own ic cls names, vx_ot w = true)
    (hU : vx_Zq Bundle.tN "UNASSIGNED_STACK" Bundle.steD A s s.heap) (hN : vx_Zq Bundle.tN "SUPPRESSED_SENTINEL" Bundle.listD A s s.heap) (hS : va_S A s.heap H locs) (hsize : ls.size = c.maxLocals)
    (d0 : decode cc pc = .ok (.new ik, 3)) (d3 : decode cc (pc + 3) = .ok (.dup, 1)) (d4 : decode cc (pc + 4) = .ok (.ldc_w is, 3)) (d7 : decode cc (pc + 7) = .ok (.invokespecial ic, 3)) (d10 : decode cc (pc + 10) = .ok (.athrow, 1))
    (hout : ∀ x ∈ c.exceptionTable.toList, covers x (pc + 10) = false)
    (hRframes : names.length + 3 < R.frames) (hRlocals : (rest.map fun v => v.category).sum + (13 * (names.length + 1) + 43) ≤ R.locals) (hRcells : cells + 1 ≤ R.cells) (hRslots : slots + 6 ≤ R.slots) (hlocks : meth.locks = false)
    (hx : ∀ t : State, s.vm.Alike t.vm → H.size ≤ t.heap.size → (∀ q : Nat, q < H.size → t.heap[q]? = H[q]?) → XC cls s t)
    (hf : ∀ z ∈ locs, free z.base) (hc : cells + 1 ≤ mc) (hs : slots + 6 ≤ ms) :
    W p l e R s m args below meth c H locs cells slots (vx_MQ below Qc XC args s mc ms free) (F0 m pc ls rest) := by
  intro T hT X
  have htr : e.platform.stackTraces = false := (show e.platform.stackTraces = l.stackTraces by rw [X.admits.platform]).trans hl
  have Y := vx_rebase X (R' := { frames := R.frames, locals := R.locals, cells := 1, slots := 6 }) (Nat.le_refl _) (Nat.le_refl _) hRcells hRslots
  obtain ⟨s', hA⟩ : ∃ z, z = (T.setVm s.vm).setFrames (.invoking m args :: below) := ⟨_, rfl⟩
  rw [← hA] at Y
  have hvm : s'.vm = s.vm := by rw [hA]; rfl
  have hhp : s'.heap = H := by rw [hA]; exact hT
  have hW0 : s.WarmedH s'.vm := by rw [hvm]; exact State.WarmedH.refl s
  have hat' : ∀ w ∈ vx_atS own ic cls names, w.before args s' = true := fun w hw => vx_ot_at hW0 hvm.symm (hgood w (List.mem_cons_of_mem _ (List.mem_cons_of_mem _ hw))) (hat w hw)
  have hk' : (Cond.classLink own ik cls).before args s' = true := vx_ot_at hW0 hvm.symm (hgood _ List.mem_cons_self) hk
  have hini' : (Cond.initialized cls).before args s' = true := vx_ot_at hW0 hvm.symm (hgood _ (List.mem_cons_of_mem _ List.mem_cons_self)) hini
  have hU' : vx_Zq Bundle.tN "UNASSIGNED_STACK" Bundle.steD A s' s'.heap := by rw [hhp]; exact vx_Zq.moved hW0.alike (hU.kept hS.2.1)
  have hN' : vx_Zq Bundle.tN "SUPPRESSED_SENTINEL" Bundle.listD A s' s'.heap := by rw [hhp]; exact vx_Zq.moved hW0.alike (hN.kept hS.2.1)
  have h : ∀ w ∈ Bundle.ownAtoms own ic cls names, w.before args s' = true := vx_own hat' (vx_isRefq hU'.1) (vx_isRefq hN'.1) hU'.2.word hN'.2.word
  have hown' : s'.vm.findClass own = some m.cls := by rw [hvm]; exact hown
  have hins : (Cond.instantiable cls 6).before args s' = true := h _ (by simp [Bundle.ownAtoms])
  obtain ⟨vm₁, cX, kX, hfX, hkX, -, -, X₁, st1⟩ := Y.newCold hexec (own := own) (C := cls) (index := ik) (n := 6) hown' hk' hins hini'
    (g := F0 m pc ls rest) rfl (by rw [hb]; exact d0) (Nat.le_refl _) (Nat.le_refl _)
  generalize hT1 : (T.setVm vm₁).pushCell { cls := cX, slots := kX.instanceTypes.map defaultValue, vm := .none } = T1 at X₁ st1
  have hcat : (Value.ref T.heap.size).category = 1 := rfl
  have hcellA : T1.heap[T.heap.size]? = some (freshCell cX kX) := by rw [← hT1]; exact State.heap_pushCell_size _ _
  have d3' : decode c.code (pc + 3) = .ok (.dup, 1) := by rw [hb]; exact d3
  have d4' : decode c.code (pc + 4) = .ok (.ldc_w is, 3) := by rw [hb]; exact d4
  have hstr' : vk_R own is text sa s' := vk_R.warm hW0 hstr
  obtain ⟨U, hsteps, hrun, hend, hW, hsame, ce, hce, hO⟩ := X₁.ctorThrowS hexec htr (own := own) (cls := cls) (names := names) (ic := ic) hown' hcls hnames h (fun x hx => nomatch hx) hfX hkX hcellA (by rw [hhp, hT]; exact Nat.le_refl _) (msg := .ref sa) rfl
    (g := { method := m, pc := pc + 7, locals := ls, stack := .ref sa :: .ref T.heap.size :: .ref T.heap.size :: rest, locked := none }) rfl hsize rfl rfl (rest := rest) rfl
    (by rw [hb]; exact d7) (by rw [hb]; exact d10) hout hRframes (by simp only [List.map_cons, List.sum_cons, hcat]; omega) hlocks
  obtain ⟨f1, f2⟩ := vx_frame hsame
  rw [hhp] at f1 f2
  have hWs : s.WarmedH U.vm := State.WarmedH.trans hW0 hW
  have hcl : s.vm.findClass cls = some ce.cls := by
    have h9 := hO.cls
    rw [hvm] at h9
    exact h9
  have hall : s.sameButNew ({ U with vm := s.vm } : State) locs mc ms := by
    subst hA
    obtain ⟨e1, e2⟩ := hsame
    rw [State.setFrames_setFrames] at e1
    have h2 : (T.setVm s.vm).sameButNew ({ U with vm := s.vm } : State) [] (0 + 1) (0 + 6) := ⟨e1, e2⟩
    have h3 := X.same.trans h2
    rw [List.append_nil] at h3
    exact h3.mono hc hs
  refine ⟨U, ?_, .threw T.heap.size, hrun, hend, Or.inr ⟨T.heap.size, rfl, cls, ce, locs, hx U hWs.alike f1 (fun q hq => f2 q hq (fun z hz => nomatch hz)), hce, hO.vm, hcl, hWs, hall, hf⟩⟩
  refine st1 _ ?_
  show Steps p.tables e below (T1.setTop { method := m, pc := pc + 3, locals := ls, stack := .ref T.heap.size :: rest, locked := none }) _
  jvm_step X₁.here [X₁.here.top, hexec, d3', Value.category]
  exact X₁.ldcStringW hexec (own := own) (text := text) (index := is) (a := sa) hown' hstr'.1 hstr'.2
    (g := { method := m, pc := pc + 4, locals := ls, stack := .ref T.heap.size :: .ref T.heap.size :: rest, locked := none }) rfl d4' _ hsteps
end Ends
section Bodies
variable {l : Launch}
theorem vx_ofW {y : MethodName} {ws ws' : List Cond} {rm : Room} {Pc : Array Value → State → Prop} {Qc : Array Value → State → Outcome → State → Prop} {XC : String → State → State → Prop} {mc ms : Nat} {free : Addr → Prop} {cc : ByteArray} {maxL : Nat} {ret : Option FieldType}
    (hy : plainName y.cls = true) (hw : ws = Cond.code y cc maxL ret :: ws')
    (body : ∀ p e s m args below meth c s₁, BodyLoose p l y (headSpec ws rm) cc maxL ret e s m args below meth c s₁ → c.maxLocals = maxL → (∀ x ∈ c.exceptionTable.toList, False) → Pc args s →
      W p l e (headSpec ws rm).room s m args below meth c s.heap [] 0 0 (vx_MQ below Qc XC args s mc ms free) (entryFrame m args maxL)) : vx_Met l y ws rm Pc Qc XC mc ms free := by
  refine MetFree.of_bodyS (code := cc) (maxLocals := maxL) (ret := ret) hy ?_ ?_
  · intro args s m h hn
    obtain ⟨meth, c, h1, h2, h3, h4, h5, h6, -, -⟩ := Cond.code_spec hn (atoms_spec (ws := ws) h _ (by rw [hw]; exact List.mem_cons_self))
    exact ⟨meth, c, h1, h2, h3, h4, h5, h6⟩
  · intro p e s m args below meth c s₁ B hml hP _
    have hh0 : s₁.heap = s.heap := by rw [B.state]; rfl
    have ht : ∀ x ∈ c.exceptionTable.toList, False := by
      obtain ⟨meth9, c9, h1, h2, -, -, -, -, h7, -⟩ := Cond.code_spec B.named (atoms_spec (ws := ws) B.pre _ (by rw [hw]; exact List.mem_cons_self))
      cases Option.some.inj (h1.symm.trans B.method)
      cases Option.some.inj (h2.symm.trans (Stand.of_body B).code)
      intro x hx
      rw [Array.isEmpty_iff.mp h7] at hx
      cases hx
    obtain ⟨t, a1, o, b1, b2, b3⟩ := body p e s m args below meth c s₁ B hml ht hP s₁ hh0 (Stand.of_body B)
    exact ⟨t, o, a1, b1, b2, b3⟩
/-- the table of a body with handlers -/
theorem vx_table {p : Program} {x y : MethodName} {S : Spec} {cc bytes : ByteArray} {maxL maxL' : Nat} {ret ret' : Option FieldType} {e : Env} {s s₁ : State} {m : MethodId} {args : Array Value} {below : List Frame} {meth : Method} {c : Code} {hh : List (Nat × Nat × Nat × Nat)}
    (B : BodyLoose p l y S cc maxL ret e s m args below meth c s₁) (h : (Cond.codeWith y bytes maxL' ret' hh).before args s = true) : c.exceptionTable.toList = tableOf hh := by
  obtain ⟨m9, meth9, c9, hn9, h1, h2, -, -, h6, -⟩ := Cond.codeWith_spec h
  cases Option.some.inj (hn9.symm.trans B.named)
  cases Option.some.inj (h1.symm.trans B.method)
  cases Option.some.inj (h2.symm.trans (Stand.of_body B).code)
  rw [← h6, table_eq]
end Bodies
end VXA
/-! ===== END ===== -/
/-! ===== BEGIN a static call of a method with an exception table ===== -/
section VXS
variable {p : Program} {l : Launch} {e : Env} {R : Room} {s : State} {m : MethodId} {args : Array Value} {below : List Frame} {meth : Method} {c : Code} {T : State} {H : Heap} {locs : List Loc} {cells slots : Nat}
abbrev vx_CSW (R : Room) (s : State) (args : Array Value) (own : String) (index : Nat) (y : MethodName) (bytes : ByteArray) (maxL : Nat) (ret : Option FieldType) (hh : List (Nat × Nat × Nat × Nat)) (ws : List Cond) (rm : Room) (mc ms n : Nat) : Prop :=
  (rm.cells = mc ∧ rm.slots = ms ∧ rm.frames + 1 ≤ R.frames ∧ 8 + (maxL + 11) + rm.locals ≤ R.locals ∧ (∀ w ∈ ws, ∀ (a' : Array Value) (U : State), s.WarmedH U.vm → w.before a' U = true) ∧ Cond.codeWith y bytes maxL ret hh ∈ ws) ∧
  (Cond.codeWith y bytes maxL ret hh).before args s = true ∧ (Cond.initialized y.cls).before args s = true ∧ (y.cls ≠ "java/lang/invoke/MethodHandle" ∧ y.cls ≠ "java/lang/invoke/VarHandle") ∧
  (∀ sig, parseMethodDescriptor y.desc = some sig → n = sig.parameters.length) ∧ (Cond.methodLink own index y).before args s = true ∧ (Cond.static y).before args s = true
theorem vx_cwSW {own : String} {index maxL mc ms : Nat} {y : MethodName} {bytes : ByteArray} {ret : Option FieldType} {hh : List (Nat × Nat × Nat × Nat)} {Ts ws ws' : List Cond} {rm : Room} (n : Nat) (ht : ∀ w ∈ Ts, w.before args s = true) (hT : GoodIn Ts (va_wsS own index y ws)) (hw : ws = Cond.codeWith y bytes maxL ret hh :: ws') (hrc : rm.cells = mc) (hrs : rm.slots = ms)
    (hd : y.cls ≠ "java/lang/invoke/MethodHandle" ∧ y.cls ≠ "java/lang/invoke/VarHandle" ∧ (parseMethodDescriptor y.desc).map (fun d => d.parameters.length) = some n) (hR : rm.frames + 1 ≤ R.frames ∧ 8 + (maxL + 11) + rm.locals ≤ R.locals) :
    vx_CSW R s args own index y bytes maxL ret hh ws rm mc ms n := by
  have ok : ∀ w ∈ va_wsS own index y ws, w.before args s = true := fun w h => ht w (hT w h).1
  have hG : GoodIn Ts ws := fun w h => hT w (by unfold va_wsS; exact List.mem_append_right _ h)
  have hc : Cond.codeWith y bytes maxL ret hh ∈ ws := by rw [hw]; exact List.mem_cons_self
  refine ⟨⟨hrc, hrs, hR.1, hR.2, pay_in ht hG, hc⟩, ht _ (hG _ hc).1, ok _ (by simp [va_wsS]), ⟨hd.1, hd.2.1⟩, fun sig h => ?_, ok _ (by simp [va_wsS]), ok _ (by simp [va_wsS])⟩
  have h2 := hd.2.2
  rw [h] at h2
  exact (Option.some.inj h2).symm
theorem vx_callSW (X : Stand p l e R s m args below meth c T locs cells slots) (hexec : p.tables.exec = Jvm.exec) {own : String} {index : Nat} {y : MethodName} {bytes : ByteArray} {maxL : Nat} {ret : Option FieldType} {hh : List (Nat × Nat × Nat × Nat)}
    (hown : s.vm.findClass own = some m.cls) (hlink : (Cond.methodLink own index y).before args s = true) (hstat : (Cond.static y).before args s = true) (hinit : (Cond.initialized y.cls).before args s = true)
    (hcode : (Cond.codeWith y bytes maxL ret hh).before args s = true) (hy : y.cls ≠ "java/lang/invoke/MethodHandle" ∧ y.cls ≠ "java/lang/invoke/VarHandle")
    {W9 : Nat} {Pre : Pt → Array Value → Prop} {Post : Pt → Array Value → Option Value → Pt → Prop} (hK : Back l R p e below s args y 3 W9 Pre Post)
    {g : JFrame} (hg : g.method = m) (hsize : g.locals.size = c.maxLocals) {argsL rest : List Value} (hlen : ∀ sig, parseMethodDescriptor y.desc = some sig → argsL.length = sig.parameters.length)
    (hstack : g.stack = argsL.reverse ++ rest) (hW : 2 * g.monitorRoom + (rest.map fun v => v.category).sum ≤ W9) (hdg : decode c.code g.pc = .ok (.invokestatic index, 3))
    (hpre : ∀ vm₁, s.WarmedH vm₁ → Pre ⟨T.setVm vm₁, locs, cells, slots⟩ argsL.toArray) :
    ∃ (v : Option Value) (vm₁ : Vm) (B : Pt), s.WarmedH vm₁ ∧ Stand p l e R s m args below meth c B.U B.locs B.cells B.slots ∧ Post ⟨T.setVm vm₁, locs, cells, slots⟩ argsL.toArray v B ∧
      ∀ target, Steps p.tables e below (B.U.setTop { g with pc := g.pc + 3, stack := v.toList ++ rest }) target → Steps p.tables e below (T.setTop g) target := by
  obtain ⟨mk, methM, cM, hnamed, hmethM, -, -, -, -, -, -, hsigM⟩ := Cond.codeWith_spec hcode
  have hstatic : methM.isStatic = true := Cond.static_spec hnamed hmethM hstat
  obtain ⟨kP, hkP, -⟩ := className_of_methodNamed hnamed
  have hinitP : kP.init = .initialized := Cond.initialized_spec (findClass_of_methodNamed hnamed) hkP hinit
  obtain ⟨vm₁, X₁, hstep₁⟩ := X.invokestatic hexec hown hlink hnamed hmethM hstatic hkP hinitP hy (g := g) hg (argsL := argsL) (rest := rest) (hlen _ hsigM) hstack hdg
  obtain ⟨v, B, X', hpost, hsteps⟩ := hK m meth c ⟨T.setVm vm₁, locs, cells, slots⟩ { g with stack := rest } (.invokestatic index) mk argsL.toArray X₁ hg hsize hdg hW (X₁.named hnamed) (hpre vm₁ X₁.warmed)
  exact ⟨v, vm₁, B, X₁.warmed, X', hpost, fun target h => hstep₁ _ fun acts => by rw [doInvoke_state]; exact hsteps.trans h⟩
theorem vx_runSW {y : MethodName} {bytes cc : ByteArray} {maxL nL mc ms n index : Nat} {ret : Option FieldType} {hh : List (Nat × Nat × Nat × Nat)} {ws : List Cond} {rm : Room} {Pc : Array Value → State → Prop} {Qc : Array Value → State → Outcome → State → Prop} {free : Addr → Prop} {Ts : List Cond} {own : String} {As rest : List Value} {g : JFrame}
    (S : CallFix p m c cc nL s args Ts own) (hM : Met l y ws rm Pc Qc mc ms free) (cw : vx_CSW R s args own index y bytes maxL ret hh ws rm mc ms n) (hp : PreS s H Pc As)
    (hg : g.method = m) (hn : As.length = n) (hsize : g.locals.size = nL) (hstack : g.stack = As.reverse ++ rest) (hW : 2 * g.monitorRoom + (rest.map fun v => v.category).sum ≤ 8) (hdg : decode cc g.pc = .ok (.invokestatic index, 3)) (hf : cells + mc ≤ R.cells ∧ slots + ms ≤ R.slots) :
    va_Run p l e R s m args below meth c H locs cells slots mc ms g rest (Qc As.toArray) (free) := by
  obtain ⟨⟨hrc, hrs, hfr, hlo, hws, hcw⟩, hcode, hini, hy, hlen, hl, hstt⟩ := cw
  have hK : Back l R p e below s args y 3 8 (PreOf R mc ms Pc) (PostOf Qc mc ms free) := va_backW (hh := hh) (bytes := bytes) (maxL := maxL) (ret := ret) hM hp.1 hrc hrs hfr hlo hws hcw (fun a' U hW => word_at hW (Or.inl (by first | rfl | simp [Cond.onTables, Cond.keeps, Cond.steady])) hini)
  obtain ⟨hx, hb, hml, ho, -⟩ := S
  intro T hT X
  obtain ⟨v, vm₁, ⟨U', l2, c2, s2⟩, hW₁, X', ⟨g', mk, t, L, e1, e2, hq, h1, hL, h2, h3⟩, st⟩ := vx_callSW X hx (hh := hh) (bytes := bytes) (maxL := maxL) (ret := ret) ho hl hstt hini hcode hy hK hg (hsize.trans hml.symm) (argsL := As) (rest := rest) (fun sig h => hn.trans (hlen sig h)) hstack hW (by rw [hb]; exact hdg)
    (fun vm₁ hW₁ => ⟨hf.1, hf.2, hp.2 (T.setVm vm₁) hT hW₁⟩)
  dsimp only [Pt.U, Pt.locs, Pt.cells, Pt.slots] at X' e1 e2 h1 h2 h3 st
  subst h1; subst h2; subst h3
  exact ⟨v, (T.setVm vm₁).calling g' mk As.toArray, t, U', L, hT, X', hL, e1, e2, hq, st⟩
/-- not caught here, past rows that name other classes: it goes on to the caller -/
theorem vx_outP {p : Program} {l : Launch} {e : Env} {R : Room} {s : State} {m : MethodId} {args : Array Value} {below : List Frame} {meth : Method} {c : Code} {H : Heap} {locs : List Loc} {cells slots : Nat} {free : Addr → Prop} {ls : Array Slot} {rest : List Value} {Qc : Array Value → State → Outcome → State → Prop} {XC : String → State → State → Prop}
    {pc : Nat} {own E : String} {ce : Cell} {q : Addr} {mc ms : Nat} (hown : s.vm.findClass own = some m.cls) (hlocks : meth.locks = false)
    (hpass : ∀ z ∈ c.exceptionTable.toList, covers z pc = false ∨ (z.catchType ≠ 0 ∧ ∃ nm : String, (Cond.classLink own z.catchType nm).before args s = true ∧ va_Nc E nm s)) (hcell : H[q]? = some ce) (hv : ce.vm = .none) (hcl : s.vm.findClass E = some ce.cls)
    (hx : ∀ t : State, t.heap = H → s.vm.Alike t.vm → XC E s t) (hf : ∀ z ∈ locs, free z.base) (hc : cells ≤ mc) (hs : slots ≤ ms) :
    vx_W p l e R s m args below meth c H locs cells slots (vx_MQ below Qc XC args s mc ms free) (F0 m pc ls rest) q := by
  intro T hT X
  have hpl : e.platform.magicAccessors = ({} : Platform).magicAccessors := by rw [X.admits.platform]
  obtain ⟨vm', hW', X', st⟩ := X.outThrough hlocks q (g := F0 m pc ls rest) rfl rfl rfl (cell := ce) (by rw [hT]; exact hcell) (by rw [hv]; rfl)
    (by obtain ⟨k9, h9, -⟩ := Vm.findClass_spec hcl; exact ⟨k9, h9⟩) (fun z hz => by
      rcases hpass z hz with h | ⟨hz0, nm, hl1, hn1⟩
      · exact Or.inl h
      · obtain ⟨c6, hc6, hcl6⟩ := Cond.classLink_spec hown hl1 e.platform hpl
        obtain ⟨a8, b8, h1, h2, h3⟩ := hn1
        cases Option.some.inj (h1.symm.trans hcl)
        cases Option.some.inj (h2.symm.trans hc6)
        exact Or.inr ⟨hz0, _, hcl6, h3⟩)
  obtain ⟨g₀, hfr⟩ := X'.frames_eq
  have hcell9 : ((T.setVm vm').setFrames (.throwing q :: below)).heap[q]? = some ce := by
    show T.heap[q]? = some ce
    rw [hT]; exact hcell
  have hend : Ended ((T.setVm vm').setFrames (.throwing q :: below)) below (.threw q) := State.frames_setFrames _ (State.cur_lt_of_frames hfr)
  refine ⟨(T.setVm vm').setFrames (.throwing q :: below), ?_, .threw q, X'.here.running, hend, Or.inr ⟨q, rfl, E, ce, locs, hx _ hT (X'.ends _).1.alike, hcell9, hv, hcl, (X'.ends _).1, (X'.ends _).2.mono hc hs, hf⟩⟩
  rw [X.pushThrowing_eq]
  exact st
/-- a thing of a world lies in the heap -/
theorem vx_lt {D : va_G} {cl : List vw_C} {ws : va_W} {H1 : Heap} (h : va_P D cl ws H1) {k : Nat} {q : Nat × va_E} (hk : ws[k]? = some q) : q.1 < H1.size := (h k q hk).lt
end VXS
/-! ===== END ===== -/
/-! ===== BEGIN methods with a table of their own: called by a name, returning or throwing ===== -/
section VXH
/-! vx_backW, vx_callVX, vx_callSX, vx_callVW, vx_runVW, vx_runVX, vx_runSX, vx_ofWH follow the same proofs as their sisters above (Free/Laws.lean, Shelf42/LK1.lean); vx_outP calls Shelf42/NT130.lean (outThrough). -/
section
variable {l : Launch} {R : Room} {p : Program} {e : Env} {below : List Frame} {s : State} {sargs : Array Value} {y : MethodName} {len W9 : Nat}
theorem vx_backW {ws : List Cond} {rm : Room} {Pc : Array Value → State → Prop} {Qc : Array Value → State → Outcome → State → Prop} {XC : String → State → State → Prop} {mc ms : Nat} {free : Addr → Prop} {bytes : ByteArray} {maxL : Nat} {ret : Option FieldType} {hh : List (Nat × Nat × Nat × Nat)}
    (hM : vx_Met l y ws rm Pc Qc XC mc ms free) (hblind : FrameBlind Pc) (hrc : rm.cells = mc) (hrs : rm.slots = ms)
    (hframes : rm.frames + 1 ≤ R.frames) (hlocals : W9 + (maxL + 11) + rm.locals ≤ R.locals)
    (hws : ∀ w ∈ ws, ∀ a' U, s.WarmedH U.vm → w.before a' U = true) (hcode : Cond.codeWith y bytes maxL ret hh ∈ ws) (hinit : ∀ a' U, s.WarmedH U.vm → (Cond.initialized y.cls).before a' U = true) :
    vx_Back l R p e below s sargs y len W9 (PreOf R mc ms Pc) (PostOf Qc mc ms free) (vx_Post XC mc ms free) := by
  intro m meth c A g ig mk a X hg hsize hdg hW hn hp
  have h1 : (headSpec ws rm).pre.before a A.U = true := atoms_intro fun w hw => hws w hw _ _ X.warmed
  have h2 : (Cond.codeWith y bytes maxL ret hh).before a A.U = true := hws _ hcode _ _ X.warmed
  have h3 : (Cond.initialized y.cls).before a A.U = true := hinit _ _ X.warmed
  have h4 : A.cells + (headSpec ws rm).room.cells ≤ R.cells := by rw [show (headSpec ws rm).room.cells = mc from hrc]; exact hp.1
  have h5 : A.slots + (headSpec ws rm).room.slots ≤ R.slots := by rw [show (headSpec ws rm).room.slots = ms from hrs]; exact hp.2.1
  have hPc : Pc a (A.U.calling g mk a) := hblind _ _ _ _ hp.2.2
  obtain ⟨U, Ls, c0, s0⟩ := A
  dsimp only [Pt.U, Pt.locs, Pt.cells, Pt.slots] at h1 h2 h3 h4 h5 X hn hPc ⊢
  obtain ⟨m9, methY, cY, hn9, hmY, hcY, -, hlY, -⟩ := Cond.codeWith_spec h2
  cases Option.some.inj (hn9.symm.trans hn)
  obtain ⟨kY, hkY, -⟩ := className_of_methodNamed hn
  have hinitY : kY.init = .initialized := Cond.initialized_spec (findClass_of_methodNamed hn) hkY h3
  have h : At U g.method c below := by rw [hg]; exact X.here
  have hlocals9 : W9 + (maxL + 11) + (headSpec ws rm).room.locals ≤ R.locals := hlocals
  have happ : (headSpec ws rm).appliesLoose y e.platform (U.calling g mk a) = true :=
    Spec.appliesLoose_calling (g := g) h hdg hn hkY hinitY
      (X.room_calling (g := g) (R' := (headSpec ws rm).room) hsize hmY hcY hframes (by rw [hlY]; omega) h4 h5) h1
  obtain ⟨mid, hmid⟩ := h.above
  have hfr : (U.setTop g).frames = (.java g :: mid) ++ below := by rw [State.frames_setTop' g h.top, hmid]; rfl
  obtain ⟨o, s₂, hsteps, -, hend, hq⟩ := Steps.callFree hM p X.admits X.cas X.clock (acts := []) hfr happ hPc trivial
  have hq' : vx_Q Qc XC mc ms free a (U.calling g mk a) o s₂ := hq
  rw [State.frames_setTop' g h.top] at hend
  obtain ⟨g₀, hg0⟩ := Option.isSome_iff_exists.mp h.top
  obtain ⟨r, hr⟩ := State.topJava?_eq_some.mp hg0
  have hr' : (({ U with heap := s₂.heap, slotsUsed := s₂.slotsUsed } : State).setVm s₂.vm).frames = .java g₀ :: r := hr
  rcases hq' with ⟨hqc, L, hfe, hL⟩ | ⟨q, rfl, E, ce, L, hx, hce, hcv, hcl, hW₂, hsm, hL⟩
  · obtain ⟨⟨v, rfl⟩, hW₂, e2, q2, q3, q4, q5, q6⟩ := id hfe
    have e3 : s₂ = ({ (U.calling g mk a).setFrames s₂.frames with heap := s₂.heap, slotsUsed := s₂.slotsUsed } : State).setVm s₂.vm := by
      have : s₂ = ({ s₂ with vm := (U.calling g mk a).vm } : State).setVm s₂.vm := rfl
      rw [e2] at this
      exact this
    obtain ⟨c₂, i₂, len₂, hc₂, hd₂, hf₂⟩ := hend
    have hW' : U.WarmedH s₂.vm := hW₂
    have hcc : c₂ = c := by
      have h1 : s₂.code? g.method = U.code? g.method := by
        rw [State.code?_eq, State.code?_eq, hW'.alike.method?]
      exact Option.some.inj (hc₂.symm.trans (h1.trans h.code))
    subst hcc
    have hlen : len₂ = len := by rw [hdg] at hd₂; cases hd₂; rfl
    subst hlen
    have hs₂ : s₂ = (({ U with heap := s₂.heap, slotsUsed := s₂.slotsUsed } : State).setVm s₂.vm).setTop { g with pc := g.pc + len₂, stack := v.toList ++ g.stack } := by
      refine e3.trans ?_
      rw [hf₂, State.calling_eq h.top, State.setFrames_setFrames, State.setTop_of_frames _ hr', hr]
      rfl
    have hsame : U.sameButNew ({ U with heap := s₂.heap, slotsUsed := s₂.slotsUsed } : State) L mc ms := by
      refine ⟨?_, q2, q3, q4, q5, q6⟩
      obtain ⟨t, ht, -⟩ := State.frames_cons hr
      show ({ U with heap := s₂.heap, slotsUsed := s₂.slotsUsed } : State) = { U.setFrames U.frames with heap := s₂.heap, slotsUsed := s₂.slotsUsed }
      rw [State.setFrames_self ht]
    subst hg
    refine Or.inl ⟨v, ⟨(({ U with heap := s₂.heap, slotsUsed := s₂.slotsUsed } : State).setVm s₂.vm), Ls ++ L, c0 + mc, s0 + ms⟩,
      ⟨X.admits, X.cas, X.clock, X.frames, X.room, X.hears, X.method, X.code, (X.here.setHeapUsed s₂.heap s₂.slotsUsed).setVm hW'.alike, X.tail, State.WarmedH.trans X.warmed hW', X.limits, X.bytes, X.same.trans (hsame.setVm s.vm)⟩,
      ⟨g, mk, s₂, L, rfl, rfl, hqc, rfl, hL, rfl, rfl⟩, ?_⟩
    show Steps p.tables e below _ ((({ U with heap := s₂.heap, slotsUsed := s₂.slotsUsed } : State).setVm s₂.vm).setTop { g with pc := g.pc + len₂, stack := v.toList ++ g.stack })
    rw [← hs₂]
    exact hsteps
  · obtain ⟨e2, q2, q3, q4, q5, q6⟩ := id hsm
    have e3 : s₂ = ({ (U.calling g mk a).setFrames s₂.frames with heap := s₂.heap, slotsUsed := s₂.slotsUsed } : State).setVm s₂.vm := by
      have : s₂ = ({ s₂ with vm := (U.calling g mk a).vm } : State).setVm s₂.vm := rfl
      rw [e2] at this
      exact this
    have hf₂ : s₂.frames = .throwing q :: .java g :: U.frames.tail := hend
    have hW' : U.WarmedH s₂.vm := hW₂
    have hs₂ : s₂ = ((({ U with heap := s₂.heap, slotsUsed := s₂.slotsUsed } : State).setVm s₂.vm).setTop g).pushFrame (.throwing q) := by
      refine e3.trans ?_
      rw [hf₂, State.calling_eq h.top, State.setFrames_setFrames, State.pushFrame, State.frames_setTop _ hr', State.setTop_of_frames _ hr', State.setFrames_setFrames, hr]
      rfl
    have hsame : U.sameButNew ({ U with heap := s₂.heap, slotsUsed := s₂.slotsUsed } : State) L mc ms := by
      refine ⟨?_, q2, q3, q4, q5, q6⟩
      obtain ⟨t, ht, -⟩ := State.frames_cons hr
      show ({ U with heap := s₂.heap, slotsUsed := s₂.slotsUsed } : State) = { U.setFrames U.frames with heap := s₂.heap, slotsUsed := s₂.slotsUsed }
      rw [State.setFrames_self ht]
    subst hg
    refine Or.inr ⟨q, ⟨(({ U with heap := s₂.heap, slotsUsed := s₂.slotsUsed } : State).setVm s₂.vm), Ls ++ L, c0 + mc, s0 + ms⟩,
      ⟨X.admits, X.cas, X.clock, X.frames, X.room, X.hears, X.method, X.code, (X.here.setHeapUsed s₂.heap s₂.slotsUsed).setVm hW'.alike, X.tail, State.WarmedH.trans X.warmed hW', X.limits, X.bytes, X.same.trans (hsame.setVm s.vm)⟩,
      ⟨g, mk, s₂, L, E, ce, rfl, rfl, hx, hce, hcv, hcl, rfl, hL, rfl, rfl⟩, ?_⟩
    show Steps p.tables e below _ (((({ U with heap := s₂.heap, slotsUsed := s₂.slotsUsed } : State).setVm s₂.vm).setTop g).pushFrame (.throwing q))
    rw [← hs₂]
    exact hsteps
end
variable {p : Program} {l : Launch} {e : Env} {R : Room} {s : State} {m : MethodId} {args : Array Value} {below : List Frame} {meth : Method} {c : Code} {T : State} {H : Heap} {locs : List Loc} {cells slots : Nat}
theorem vx_callVX (X : Stand p l e R s m args below meth c T locs cells slots) (hexec : p.tables.exec = Jvm.exec) {own C : String} {index : Nat} {y : MethodName} {bytes : ByteArray} {maxL : Nat} {ret : Option FieldType} {hh : List (Nat × Nat × Nat × Nat)}
    (hown : s.vm.findClass own = some m.cls) (hlink : (Cond.methodLink own index y).before args s = true) (hinst : (Cond.instanceMethod y).before args s = true) (hsel : (Cond.selects C y y).before args s = true)
    (hcode : (Cond.codeWith y bytes maxL ret hh).before args s = true) (hy : y.cls ≠ "java/lang/invoke/MethodHandle" ∧ y.cls ≠ "java/lang/invoke/VarHandle")
    {W9 : Nat} {Pre : Pt → Array Value → Prop} {Post : Pt → Array Value → Option Value → Pt → Prop} {PostX : Pt → Array Value → Addr → Pt → Prop} (hK : vx_Back l R p e below s args y 3 W9 Pre Post PostX)
    {b : Addr} {cellB : Cell} (hcell : T.heap[b]? = some cellB) (hobj : cellB.vm.isStatics = false) (hcls : s.vm.findClass C = some cellB.cls)
    {g : JFrame} (hg : g.method = m) (hsize : g.locals.size = c.maxLocals) {argsL rest : List Value} (hlen : ∀ sig, parseMethodDescriptor y.desc = some sig → argsL.length = sig.parameters.length)
    (hstack : g.stack = argsL.reverse ++ .ref b :: rest) (hW : 2 * g.monitorRoom + (rest.map fun v => v.category).sum ≤ W9) (hdg : decode c.code g.pc = .ok (.invokevirtual index, 3))
    (hpre : ∀ vm₁, s.WarmedH vm₁ → Pre ⟨T.setVm vm₁, locs, cells, slots⟩ (Value.ref b :: argsL).toArray) :
    (∃ (v : Option Value) (vm₁ : Vm) (B : Pt), s.WarmedH vm₁ ∧ Stand p l e R s m args below meth c B.U B.locs B.cells B.slots ∧ Post ⟨T.setVm vm₁, locs, cells, slots⟩ (Value.ref b :: argsL).toArray v B ∧
      ∀ target, Steps p.tables e below (B.U.setTop { g with pc := g.pc + 3, stack := v.toList ++ rest }) target → Steps p.tables e below (T.setTop g) target) ∨
    (∃ (q : Addr) (vm₁ : Vm) (B : Pt), s.WarmedH vm₁ ∧ Stand p l e R s m args below meth c B.U B.locs B.cells B.slots ∧ PostX ⟨T.setVm vm₁, locs, cells, slots⟩ (Value.ref b :: argsL).toArray q B ∧
      Steps p.tables e below (T.setTop g) ((B.U.setTop { g with stack := rest }).pushFrame (.throwing q))) := by
  obtain ⟨mk, methM, hnamed, hmethM, hstM, habM⟩ := Cond.instanceMethod_spec hinst
  obtain ⟨m8, methM', cM, hn8, hmethM', -, -, -, -, -, -, hsigM⟩ := Cond.codeWith_spec hcode
  cases Option.some.inj (hn8.symm.trans hnamed)
  cases hmethM.symm.trans hmethM'
  obtain ⟨c2, r2, m2, q1, q2, q3, q4, kP, hkP, hkPi⟩ := Cond.selects_spec hsel
  cases hcls.symm.trans q1
  cases (State.methodFound?_of_named hnamed hy).symm.trans q2
  cases hnamed.symm.trans q3
  have hselP : selectMethod e.platform s.vm cellB.cls mk = .method mk := by rw [Launch.admits_selectMethod X.admits]; exact q4
  obtain ⟨vm₁, X₁, hstep₁⟩ := X.invokevirtual hexec hown hlink hnamed hmethM hstM hkP hkPi hy (a := b) (cell := cellB) hcell
    (fun z h => by rw [h] at hobj; cases hobj) hselP hmethM habM hkP hkPi (g := g) hg (argsL := argsL) (rest := rest) (hlen _ hsigM) hstack hdg
  rcases hK m meth c ⟨T.setVm vm₁, locs, cells, slots⟩ { g with stack := rest } (.invokevirtual index) mk (Value.ref b :: argsL).toArray X₁ hg hsize hdg hW (X₁.named hnamed) (hpre vm₁ X₁.warmed) with ⟨v, B, X', hpost, hsteps⟩ | ⟨q, B, X', hpost, hsteps⟩
  · exact Or.inl ⟨v, vm₁, B, X₁.warmed, X', hpost, fun target h => hstep₁ _ fun acts => by rw [doInvoke_state]; exact hsteps.trans h⟩
  · exact Or.inr ⟨q, vm₁, B, X₁.warmed, X', hpost, hstep₁ _ fun acts => by rw [doInvoke_state]; exact hsteps⟩
theorem vx_callSX (X : Stand p l e R s m args below meth c T locs cells slots) (hexec : p.tables.exec = Jvm.exec) {own : String} {index : Nat} {y : MethodName} {bytes : ByteArray} {maxL : Nat} {ret : Option FieldType} {hh : List (Nat × Nat × Nat × Nat)}
    (hown : s.vm.findClass own = some m.cls) (hlink : (Cond.methodLink own index y).before args s = true) (hstat : (Cond.static y).before args s = true) (hinit : (Cond.initialized y.cls).before args s = true)
    (hcode : (Cond.codeWith y bytes maxL ret hh).before args s = true) (hy : y.cls ≠ "java/lang/invoke/MethodHandle" ∧ y.cls ≠ "java/lang/invoke/VarHandle")
    {W9 : Nat} {Pre : Pt → Array Value → Prop} {Post : Pt → Array Value → Option Value → Pt → Prop} {PostX : Pt → Array Value → Addr → Pt → Prop} (hK : vx_Back l R p e below s args y 3 W9 Pre Post PostX)
    {g : JFrame} (hg : g.method = m) (hsize : g.locals.size = c.maxLocals) {argsL rest : List Value} (hlen : ∀ sig, parseMethodDescriptor y.desc = some sig → argsL.length = sig.parameters.length)
    (hstack : g.stack = argsL.reverse ++ rest) (hW : 2 * g.monitorRoom + (rest.map fun v => v.category).sum ≤ W9) (hdg : decode c.code g.pc = .ok (.invokestatic index, 3))
    (hpre : ∀ vm₁, s.WarmedH vm₁ → Pre ⟨T.setVm vm₁, locs, cells, slots⟩ argsL.toArray) :
    (∃ (v : Option Value) (vm₁ : Vm) (B : Pt), s.WarmedH vm₁ ∧ Stand p l e R s m args below meth c B.U B.locs B.cells B.slots ∧ Post ⟨T.setVm vm₁, locs, cells, slots⟩ argsL.toArray v B ∧
      ∀ target, Steps p.tables e below (B.U.setTop { g with pc := g.pc + 3, stack := v.toList ++ rest }) target → Steps p.tables e below (T.setTop g) target) ∨
    (∃ (q : Addr) (vm₁ : Vm) (B : Pt), s.WarmedH vm₁ ∧ Stand p l e R s m args below meth c B.U B.locs B.cells B.slots ∧ PostX ⟨T.setVm vm₁, locs, cells, slots⟩ argsL.toArray q B ∧
      Steps p.tables e below (T.setTop g) ((B.U.setTop { g with stack := rest }).pushFrame (.throwing q))) := by
  obtain ⟨mk, methM, cM, hnamed, hmethM, -, -, -, -, -, -, hsigM⟩ := Cond.codeWith_spec hcode
  have hstatic : methM.isStatic = true := Cond.static_spec hnamed hmethM hstat
  obtain ⟨kP, hkP, -⟩ := className_of_methodNamed hnamed
  have hinitP : kP.init = .initialized := Cond.initialized_spec (findClass_of_methodNamed hnamed) hkP hinit
  obtain ⟨vm₁, X₁, hstep₁⟩ := X.invokestatic hexec hown hlink hnamed hmethM hstatic hkP hinitP hy (g := g) hg (argsL := argsL) (rest := rest) (hlen _ hsigM) hstack hdg
  rcases hK m meth c ⟨T.setVm vm₁, locs, cells, slots⟩ { g with stack := rest } (.invokestatic index) mk argsL.toArray X₁ hg hsize hdg hW (X₁.named hnamed) (hpre vm₁ X₁.warmed) with ⟨v, B, X', hpost, hsteps⟩ | ⟨q, B, X', hpost, hsteps⟩
  · exact Or.inl ⟨v, vm₁, B, X₁.warmed, X', hpost, fun target h => hstep₁ _ fun acts => by rw [doInvoke_state]; exact hsteps.trans h⟩
  · exact Or.inr ⟨q, vm₁, B, X₁.warmed, X', hpost, hstep₁ _ fun acts => by rw [doInvoke_state]; exact hsteps⟩
theorem vx_callVW (X : Stand p l e R s m args below meth c T locs cells slots) (hexec : p.tables.exec = Jvm.exec) {own C : String} {index : Nat} {y : MethodName} {bytes : ByteArray} {maxL : Nat} {ret : Option FieldType} {hh : List (Nat × Nat × Nat × Nat)}
    (hown : s.vm.findClass own = some m.cls) (hlink : (Cond.methodLink own index y).before args s = true) (hinst : (Cond.instanceMethod y).before args s = true) (hsel : (Cond.selects C y y).before args s = true)
    (hcode : (Cond.codeWith y bytes maxL ret hh).before args s = true) (hy : y.cls ≠ "java/lang/invoke/MethodHandle" ∧ y.cls ≠ "java/lang/invoke/VarHandle")
    {W9 : Nat} {Pre : Pt → Array Value → Prop} {Post : Pt → Array Value → Option Value → Pt → Prop} (hK : Back l R p e below s args y 3 W9 Pre Post)
    {b : Addr} {cellB : Cell} (hcell : T.heap[b]? = some cellB) (hobj : cellB.vm.isStatics = false) (hcls : s.vm.findClass C = some cellB.cls)
    {g : JFrame} (hg : g.method = m) (hsize : g.locals.size = c.maxLocals) {argsL rest : List Value} (hlen : ∀ sig, parseMethodDescriptor y.desc = some sig → argsL.length = sig.parameters.length)
    (hstack : g.stack = argsL.reverse ++ .ref b :: rest) (hW : 2 * g.monitorRoom + (rest.map fun v => v.category).sum ≤ W9) (hdg : decode c.code g.pc = .ok (.invokevirtual index, 3))
    (hpre : ∀ vm₁, s.WarmedH vm₁ → Pre ⟨T.setVm vm₁, locs, cells, slots⟩ (Value.ref b :: argsL).toArray) :
    ∃ (v : Option Value) (vm₁ : Vm) (B : Pt), s.WarmedH vm₁ ∧ Stand p l e R s m args below meth c B.U B.locs B.cells B.slots ∧ Post ⟨T.setVm vm₁, locs, cells, slots⟩ (Value.ref b :: argsL).toArray v B ∧
      ∀ target, Steps p.tables e below (B.U.setTop { g with pc := g.pc + 3, stack := v.toList ++ rest }) target → Steps p.tables e below (T.setTop g) target := by
  obtain ⟨mk, methM, hnamed, hmethM, hstM, habM⟩ := Cond.instanceMethod_spec hinst
  obtain ⟨m8, methM', cM, hn8, hmethM', -, -, -, -, -, -, hsigM⟩ := Cond.codeWith_spec hcode
  cases Option.some.inj (hn8.symm.trans hnamed)
  cases hmethM.symm.trans hmethM'
  obtain ⟨c2, r2, m2, q1, q2, q3, q4, kP, hkP, hkPi⟩ := Cond.selects_spec hsel
  cases hcls.symm.trans q1
  cases (State.methodFound?_of_named hnamed hy).symm.trans q2
  cases hnamed.symm.trans q3
  have hselP : selectMethod e.platform s.vm cellB.cls mk = .method mk := by rw [Launch.admits_selectMethod X.admits]; exact q4
  obtain ⟨vm₁, X₁, hstep₁⟩ := X.invokevirtual hexec hown hlink hnamed hmethM hstM hkP hkPi hy (a := b) (cell := cellB) hcell
    (fun z h => by rw [h] at hobj; cases hobj) hselP hmethM habM hkP hkPi (g := g) hg (argsL := argsL) (rest := rest) (hlen _ hsigM) hstack hdg
  obtain ⟨v, B, X', hpost, hsteps⟩ := hK m meth c ⟨T.setVm vm₁, locs, cells, slots⟩ { g with stack := rest } (.invokevirtual index) mk (Value.ref b :: argsL).toArray X₁ hg hsize hdg hW (X₁.named hnamed) (hpre vm₁ X₁.warmed)
  exact ⟨v, vm₁, B, X₁.warmed, X', hpost, fun target h => hstep₁ _ fun acts => by rw [doInvoke_state]; exact hsteps.trans h⟩
abbrev vx_CVW (R : Room) (s : State) (args : Array Value) (own C : String) (index : Nat) (y : MethodName) (bytes : ByteArray) (maxL : Nat) (ret : Option FieldType) (hh : List (Nat × Nat × Nat × Nat)) (ws : List Cond) (rm : Room) (mc ms n : Nat) : Prop :=
  (rm.cells = mc ∧ rm.slots = ms ∧ rm.frames + 1 ≤ R.frames ∧ 8 + (maxL + 11) + rm.locals ≤ R.locals ∧ (∀ w ∈ ws, ∀ (a' : Array Value) (U : State), s.WarmedH U.vm → w.before a' U = true) ∧ Cond.codeWith y bytes maxL ret hh ∈ ws) ∧
  (Cond.codeWith y bytes maxL ret hh).before args s = true ∧ (Cond.initialized y.cls).before args s = true ∧ (y.cls ≠ "java/lang/invoke/MethodHandle" ∧ y.cls ≠ "java/lang/invoke/VarHandle") ∧
  (∀ sig, parseMethodDescriptor y.desc = some sig → n = sig.parameters.length) ∧ (Cond.methodLink own index y).before args s = true ∧ (Cond.instanceMethod y).before args s = true ∧ (Cond.selects C y y).before args s = true
theorem vx_cwVW {own C : String} {index maxL mc ms : Nat} {y : MethodName} {bytes : ByteArray} {ret : Option FieldType} {hh : List (Nat × Nat × Nat × Nat)} {Ts ws ws' : List Cond} {rm : Room} (n : Nat) (ht : ∀ w ∈ Ts, w.before args s = true) (hT : GoodIn Ts (wsV own index C y ws)) (hw : ws = Cond.codeWith y bytes maxL ret hh :: ws') (hrc : rm.cells = mc) (hrs : rm.slots = ms)
    (hd : y.cls = C ∧ y.cls ≠ "java/lang/invoke/MethodHandle" ∧ y.cls ≠ "java/lang/invoke/VarHandle" ∧ (parseMethodDescriptor y.desc).map (fun d => d.parameters.length) = some n) (hR : rm.frames + 1 ≤ R.frames ∧ 8 + (maxL + 11) + rm.locals ≤ R.locals) :
    vx_CVW R s args own C index y bytes maxL ret hh ws rm mc ms n := by
  obtain ⟨hC, hd⟩ := hd
  subst hC
  have ok : ∀ w ∈ wsV own index y.cls y ws, w.before args s = true := fun w h => ht w (hT w h).1
  have hG : GoodIn Ts ws := fun w h => hT w (by unfold wsV; exact List.mem_append_right _ h)
  have hc : Cond.codeWith y bytes maxL ret hh ∈ ws := by rw [hw]; exact List.mem_cons_self
  refine ⟨⟨hrc, hrs, hR.1, hR.2, pay_in ht hG, hc⟩, ht _ (hG _ hc).1, ok _ (by simp [wsV]), ⟨hd.1, hd.2.1⟩, fun sig h => ?_, ok _ (by simp [wsV]), ok _ (by simp [wsV]), ok _ (by simp [wsV])⟩
  have h2 := hd.2.2
  rw [h] at h2
  exact (Option.some.inj h2).symm
theorem vx_runVW {y : MethodName} {bytes cc : ByteArray} {maxL nL mc ms n index : Nat} {ret : Option FieldType} {hh : List (Nat × Nat × Nat × Nat)} {ws : List Cond} {rm : Room} {Pc : Array Value → State → Prop} {Qc : Array Value → State → Outcome → State → Prop} {free : Addr → Prop} {Ts : List Cond} {own C : String} {b : Addr} {As rest : List Value} {g : JFrame}
    (S : CallFix p m c cc nL s args Ts own) (hM : Met l y ws rm Pc Qc mc ms free) (cw : vx_CVW R s args own C index y bytes maxL ret hh ws rm mc ms n) (hp : PreV s H C b Pc As)
    (hg : g.method = m) (hn : As.length = n) (hsize : g.locals.size = nL) (hstack : g.stack = As.reverse ++ .ref b :: rest) (hW : 2 * g.monitorRoom + (rest.map fun v => v.category).sum ≤ 8) (hdg : decode cc g.pc = .ok (.invokevirtual index, 3)) (hf : cells + mc ≤ R.cells ∧ slots + ms ≤ R.slots) :
    va_Run p l e R s m args below meth c H locs cells slots mc ms g rest (Qc (Value.ref b :: As).toArray) free := by
  obtain ⟨⟨hrc, hrs, hfr, hlo, hws, hcw⟩, hcode, hini, hy, hlen, hl, hin, hse⟩ := cw
  have hK : Back l R p e below s args y 3 8 (PreOf R mc ms Pc) (PostOf Qc mc ms free) := va_backW (hh := hh) (bytes := bytes) (maxL := maxL) (ret := ret) hM hp.1 hrc hrs hfr hlo hws hcw (fun a' U hW => word_at hW (Or.inl (by first | rfl | simp [Cond.onTables, Cond.keeps, Cond.steady])) hini)
  obtain ⟨hx, hb, hml, ho, -⟩ := S
  obtain ⟨-, ⟨cellB, hcB, hoB, hclB⟩, hPc⟩ := hp
  intro T hT X
  obtain ⟨v, vm₁, ⟨U', l2, c2, s2⟩, hW₁, X', ⟨g', mk, t, L, e1, e2, hq, h1, hL, h2, h3⟩, st⟩ := vx_callVW X hx (C := C) (hh := hh) (bytes := bytes) (maxL := maxL) (ret := ret) ho hl hin hse hcode hy hK (by rw [hT]; exact hcB) hoB hclB hg (hsize.trans hml.symm) (argsL := As) (rest := rest) (fun sig h => hn.trans (hlen sig h)) hstack hW (by rw [hb]; exact hdg)
    (fun vm₁ hW₁ => ⟨hf.1, hf.2, hPc (T.setVm vm₁) hT hW₁⟩)
  dsimp only [Pt.U, Pt.locs, Pt.cells, Pt.slots] at X' e1 e2 h1 h2 h3 st
  subst h1; subst h2; subst h3
  exact ⟨v, (T.setVm vm₁).calling g' mk (Value.ref b :: As).toArray, t, U', L, hT, X', hL, e1, e2, hq, st⟩
section
variable {y : MethodName} {bytes cc : ByteArray} {maxL nL mc ms n index : Nat} {ret : Option FieldType} {ws : List Cond} {rm : Room} {Pc : Array Value → State → Prop} {Qc : Array Value → State → Outcome → State → Prop} {XC : String → State → State → Prop} {free : Addr → Prop} {Ts : List Cond} {own C : String} {b : Addr} {As rest : List Value} {g : JFrame}
theorem vx_runVX {hh : List (Nat × Nat × Nat × Nat)} (S : CallFix p m c cc nL s args Ts own) (hM : vx_Met l y ws rm Pc Qc XC mc ms free) (cw : vx_CVW R s args own C index y bytes maxL ret hh ws rm mc ms n) (hp : PreV s H C b Pc As)
    (hg : g.method = m) (hn : As.length = n) (hsize : g.locals.size = nL) (hstack : g.stack = As.reverse ++ .ref b :: rest) (hW : 2 * g.monitorRoom + (rest.map fun v => v.category).sum ≤ 8) (hdg : decode cc g.pc = .ok (.invokevirtual index, 3)) (hf : cells + mc ≤ R.cells ∧ slots + ms ≤ R.slots) :
    vx_Run p l e R s m args below meth c H locs cells slots mc ms g rest (Qc (Value.ref b :: As).toArray) XC free := by
  obtain ⟨⟨hrc, hrs, hfr, hlo, hws, hcw⟩, hcode, hini, hy, hlen, hl, hin, hse⟩ := cw
  have hK : vx_Back l R p e below s args y 3 8 (PreOf R mc ms Pc) (PostOf Qc mc ms free) (vx_Post XC mc ms free) := vx_backW (hh := hh) (bytes := bytes) (maxL := maxL) (ret := ret) hM hp.1 hrc hrs hfr hlo hws hcw (fun a' U hW => word_at hW (Or.inl (by first | rfl | simp [Cond.onTables, Cond.keeps, Cond.steady])) hini)
  obtain ⟨hx, hb, hml, ho, -⟩ := S
  obtain ⟨-, ⟨cellB, hcB, hoB, hclB⟩, hPc⟩ := hp
  intro T hT X
  rcases vx_callVX X hx (C := C) (hh := hh) (bytes := bytes) (maxL := maxL) (ret := ret) ho hl hin hse hcode hy hK (by rw [hT]; exact hcB) hoB hclB hg (hsize.trans hml.symm) (argsL := As) (rest := rest) (fun sig h => hn.trans (hlen sig h)) hstack hW (by rw [hb]; exact hdg)
    (fun vm₁ hW₁ => ⟨hf.1, hf.2, hPc (T.setVm vm₁) hT hW₁⟩) with ⟨v, vm₁, ⟨U', l2, c2, s2⟩, hW₁, X', ⟨g', mk, t, L, e1, e2, hq, h1, hL, h2, h3⟩, st⟩ | ⟨q, vm₁, ⟨U', l2, c2, s2⟩, hW₁, X', ⟨g', mk, t, L, E, ce, e1, e2, hq, hce, hcv, hcl, h1, hL, h2, h3⟩, st⟩
  · dsimp only [Pt.U, Pt.locs, Pt.cells, Pt.slots] at X' e1 e2 h1 h2 h3 st
    subst h1; subst h2; subst h3
    exact Or.inl ⟨v, (T.setVm vm₁).calling g' mk (Value.ref b :: As).toArray, t, U', L, hT, X', hL, e1, e2, hq, st⟩
  · dsimp only [Pt.U, Pt.locs, Pt.cells, Pt.slots] at X' e1 e2 h1 h2 h3 st hcl
    subst h1; subst h2; subst h3
    exact Or.inr ⟨q, (T.setVm vm₁).calling g' mk (Value.ref b :: As).toArray, t, U', L, E, ce, hT, X', hL, e1, e2, hq, hce, hcv, vx_cls hW₁ hcl, st⟩
theorem vx_runSX {hh : List (Nat × Nat × Nat × Nat)} (S : CallFix p m c cc nL s args Ts own) (hM : vx_Met l y ws rm Pc Qc XC mc ms free) (cw : vx_CSW R s args own index y bytes maxL ret hh ws rm mc ms n) (hp : PreS s H Pc As)
    (hg : g.method = m) (hn : As.length = n) (hsize : g.locals.size = nL) (hstack : g.stack = As.reverse ++ rest) (hW : 2 * g.monitorRoom + (rest.map fun v => v.category).sum ≤ 8) (hdg : decode cc g.pc = .ok (.invokestatic index, 3)) (hf : cells + mc ≤ R.cells ∧ slots + ms ≤ R.slots) :
    vx_Run p l e R s m args below meth c H locs cells slots mc ms g rest (Qc As.toArray) XC free := by
  obtain ⟨⟨hrc, hrs, hfr, hlo, hws, hcw⟩, hcode, hini, hy, hlen, hl, hstt⟩ := cw
  have hK : vx_Back l R p e below s args y 3 8 (PreOf R mc ms Pc) (PostOf Qc mc ms free) (vx_Post XC mc ms free) := vx_backW (hh := hh) (bytes := bytes) (maxL := maxL) (ret := ret) hM hp.1 hrc hrs hfr hlo hws hcw (fun a' U hW => word_at hW (Or.inl (by first | rfl | simp [Cond.onTables, Cond.keeps, Cond.steady])) hini)
  obtain ⟨hx, hb, hml, ho, -⟩ := S
  intro T hT X
  rcases vx_callSX X hx (hh := hh) (bytes := bytes) (maxL := maxL) (ret := ret) ho hl hstt hini hcode hy hK hg (hsize.trans hml.symm) (argsL := As) (rest := rest) (fun sig h => hn.trans (hlen sig h)) hstack hW (by rw [hb]; exact hdg)
    (fun vm₁ hW₁ => ⟨hf.1, hf.2, hp.2 (T.setVm vm₁) hT hW₁⟩) with ⟨v, vm₁, ⟨U', l2, c2, s2⟩, hW₁, X', ⟨g', mk, t, L, e1, e2, hq, h1, hL, h2, h3⟩, st⟩ | ⟨q, vm₁, ⟨U', l2, c2, s2⟩, hW₁, X', ⟨g', mk, t, L, E, ce, e1, e2, hq, hce, hcv, hcl, h1, hL, h2, h3⟩, st⟩
  · dsimp only [Pt.U, Pt.locs, Pt.cells, Pt.slots] at X' e1 e2 h1 h2 h3 st
    subst h1; subst h2; subst h3
    exact Or.inl ⟨v, (T.setVm vm₁).calling g' mk As.toArray, t, U', L, hT, X', hL, e1, e2, hq, st⟩
  · dsimp only [Pt.U, Pt.locs, Pt.cells, Pt.slots] at X' e1 e2 h1 h2 h3 st hcl
    subst h1; subst h2; subst h3
    exact Or.inr ⟨q, (T.setVm vm₁).calling g' mk As.toArray, t, U', L, E, ce, hT, X', hL, e1, e2, hq, hce, hcv, vx_cls hW₁ hcl, st⟩
end
end VXH
theorem vx_ofWH {l : Launch} {y : MethodName} {ws ws' : List Cond} {rm : Room} {Pc : Array Value → State → Prop} {Qc : Array Value → State → Outcome → State → Prop} {XC : String → State → State → Prop} {mc ms : Nat} {free : Addr → Prop} {cc : ByteArray} {maxL : Nat} {ret : Option FieldType} {hh : List (Nat × Nat × Nat × Nat)}
    (hy : plainName y.cls = true) (hw : ws = Cond.codeWith y cc maxL ret hh :: ws')
    (body : ∀ p e s m args below meth c s₁, BodyLoose p l y (headSpec ws rm) cc maxL ret e s m args below meth c s₁ → c.maxLocals = maxL → Pc args s →
      W p l e (headSpec ws rm).room s m args below meth c s.heap [] 0 0 (vx_MQ below Qc XC args s mc ms free) (entryFrame m args maxL)) : vx_Met l y ws rm Pc Qc XC mc ms free := by
  refine MetFree.of_bodyS (code := cc) (maxLocals := maxL) (ret := ret) hy ?_ ?_
  · intro args s m h hn
    obtain ⟨m9, meth, c, hn9, h1, h2, h3, h4, -, h5, h6, -⟩ := Cond.codeWith_spec (atoms_spec (ws := ws) h _ (by rw [hw]; exact List.mem_cons_self))
    cases hn.symm.trans hn9
    exact ⟨meth, c, h1, h2, h3, h4, h5, h6⟩
  · intro p e s m args below meth c s₁ B hml hP _
    have hh0 : s₁.heap = s.heap := by rw [B.state]; rfl
    obtain ⟨t, a1, o, b1, b2, b3⟩ := body p e s m args below meth c s₁ B hml hP s₁ hh0 (Stand.of_body B)
    exact ⟨t, o, a1, b1, b2, b3⟩
/-! ===== END ===== -/
end
section
section LW1
variable {p : Program} {l : Launch} {e : Env} {R : Room} {s : State} {m : MethodId} {args : Array Value} {below : List Frame} {meth : Method} {c : Code} {H : Heap} {locs : List Loc} {Q : State → Prop}
variable {D : va_G} {cA : Nat → ClassId} {base sz n0 z0 d : Nat} {mi : am_I}
variable {call : am_I → List Value → am_St → Option (Option Value × am_St)}
theorem am_ge_wk (hup : am_up call) {pc' : Nat} {L' : am_L} {S' : List Value} {σ' : am_St} : ∀ (f pc : Nat) (L : am_L) (S : List Value) (σ : am_St), am_wk call mi f pc L S σ = some (pc', L', S', σ') → σ.1 ≤ σ'.1 ∧ σ.2.1 ≤ σ'.2.1 := by
  intro f
  induction f with
  | zero => intro pc L S σ h; cases h; exact ⟨Nat.le_refl _, Nat.le_refl _⟩
  | succ f ih =>
    intro pc L S σ h
    unfold am_wk at h
    match hq : am_step call mi pc L S σ with
    | none => rw [hq] at h; cases h
    | some (.inr x) => rw [hq] at h; cases h
    | some (.inl (pc1, L1, S1, σ1)) =>
      rw [hq] at h
      have h1 := am_ge_step hup hq
      have h2 := ih _ _ _ _ h
      exact ⟨Nat.le_trans h1.1 h2.1, Nat.le_trans h1.2 h2.2⟩
/-- many steps of the machine: from where they come to, it goes well; so from where they begin -/
theorem am_s_wk {pc' : Nat} {L' : am_L} {S' : List Value} {σE : am_St} (hC : am_Cx p R s m args meth c D cA base sz n0 z0 σE.1 σE.2.1 d mi) (hCO : am_CO l D cA base d call) (hup : am_up call) : ∀ (f pc : Nat) (L : am_L) (S : List Value) (σ : am_St), am_wk call mi f pc L S σ = some (pc', L', S', σE) → n0 ≤ σ.1 → z0 ≤ σ.2.1 → am_Wt p l e R s m args below meth c D cA base sz n0 z0 mi Q pc' L' S' σE → am_Wt p l e R s m args below meth c D cA base sz n0 z0 mi Q pc L S σ := by
  intro f
  induction f with
  | zero => intro pc L S σ h _ _ kk; cases h; exact kk
  | succ f ih =>
    intro pc L S σ h hn hz kk H locs ls hp
    have hσ := am_ge_wk hup _ _ _ _ _ h
    unfold am_wk at h
    match hq : am_step call mi pc L S σ with
    | none => rw [hq] at h; cases h
    | some (.inr x) => rw [hq] at h; cases h
    | some (.inl (pc1, L1, S1, σ1)) =>
      rw [hq] at h
      have h1 := am_ge_step hup hq
      have h2 := am_ge_wk hup _ _ _ _ _ h
      unfold am_step at hq
      split at hq
      · rename_i ins len hd
        refine am_s_ins hC hd hq ⟨_, rfl⟩ (ih _ _ _ _ h (Nat.le_trans hn h1.1) (Nat.le_trans hz h1.2) kk) hp hn hz (fun _ _ _ σ' q => ?_) hCO hup hσ
        cases q
        exact h2
      · cases hq
end LW1
theorem am_wk_sub {call call' : am_I → List Value → am_St → Option (Option Value × am_St)} (hs : am_sub call call') {mi : am_I} {r : Nat × am_L × List Value × am_St} : ∀ (f pc : Nat) (L : am_L) (S : List Value) (σ : am_St), am_wk call mi f pc L S σ = some r → am_wk call' mi f pc L S σ = some r := by
  intro f
  induction f with
  | zero => intro pc L S σ h; exact h
  | succ f ih =>
    intro pc L S σ h
    unfold am_wk at h ⊢
    match hq : am_step call mi pc L S σ with
    | none => rw [hq] at h; cases h
    | some (.inr x) => rw [hq] at h; cases h
    | some (.inl (pc', L', S', σ1)) => rw [hq] at h; rw [am_step_sub hs hq]; exact ih _ _ _ _ h
/-- the tables' classes at the start -/
theorem am_K0 {s : State} {args : Array Value} (hts : ∀ w ∈ lw_tbl, w.before args s = true) : ∃ (D : va_G) (cA : Nat → ClassId), am_K D cA s := by
  have hg : ∀ w ∈ lw_good, w.before args s = true := fun w hw => hts w (List.mem_filter.mp hw).1
  have key : ∀ ci, ci < 13 → Cond.instantiable (am_Rn ci) (am_nf ci) ∈ lw_good → ∃ (cC : ClassId) (iS : Nat → Nat), u_Kn s (am_Rn ci) (am_T ci) (am_nf ci) cC iS := fun ci h hw => u_known hg (am_ws_ok ci h) (hg _ hw)
  have hin : ∀ ci, ci < 13 → Cond.instantiable (am_Rn ci) (am_nf ci) ∈ lw_good := by
    intro ci h
    have h1 : (List.range 13).all (fun ci => am_clsL.any (fun e => e.2.2.1 == ci && am_okc e)) = true := by
      have : (List.range 13).all (fun ci => am_clsL.any (fun e => e.2.2.1 == ci)) = true := by decide +kernel
      refine List.all_eq_true.mpr (fun c hc => ?_)
      obtain ⟨e, h1, h2⟩ := List.any_eq_true.mp (List.all_eq_true.mp this c hc)
      exact List.any_eq_true.mpr ⟨e, h1, by rw [Bool.and_eq_true]; exact ⟨h2, List.all_eq_true.mp am_okc_all e h1⟩⟩
    obtain ⟨e, -, h2⟩ := List.any_eq_true.mp (List.all_eq_true.mp h1 ci (List.mem_range.mpr h))
    simp only [am_okc, Bool.and_eq_true, beq_iff_eq] at h2
    have := am_at_mem h2.2.1.1.2
    rw [h2.1] at this
    exact this
  have hall : ∃ (dC : Nat → ClassId) (dI : Nat → Nat → Nat), ∀ ci, ci < 13 → u_Kn s (am_Rn ci) (am_T ci) (am_nf ci) (dC ci) (dI ci) := by
    have : ∀ ci, ∃ (q : ClassId × (Nat → Nat)), ci < 13 → u_Kn s (am_Rn ci) (am_T ci) (am_nf ci) q.1 q.2 := by
      intro ci
      by_cases h : ci < 13
      · obtain ⟨a, b, hab⟩ := key ci h (hin ci h)
        exact ⟨(a, b), fun _ => hab⟩
      · exact ⟨(0, fun _ => 0), fun q => absurd q h⟩
    refine ⟨fun ci => (Classical.choose (this ci)).1, fun ci => (Classical.choose (this ci)).2, fun ci h => Classical.choose_spec (this ci) h⟩
  obtain ⟨dC, dI, hK⟩ := hall
  have harr : ∀ ty : FieldType, Cond.arrayClass ty ∈ lw_good → (∀ C, ty ≠ .object C) → ∃ c, ArrOfT s c ty ∧ va_RA s c ty := by
    intro ty hw hno
    obtain ⟨c, k, comp, h1, h2, h3⟩ := Cond.arrayClass_spec (hg _ hw)
    refine ⟨c, fun n z => ⟨(fun q h => by cases h), k, h2, comp, h3⟩, ?_⟩
    cases ty <;> first | exact h1 | exact absurd rfl (hno _)
  have hov : ∀ C : String, va_AO C s → ∃ c, ArrOfT s c (.object C) ∧ va_RA s c (.object C) := by
    intro C h
    obtain ⟨comp, c, k, h1, h2, h3, h4, h5⟩ := Cond.arrayOver_spec h
    exact ⟨c, fun n z => ⟨(fun q h => by cases h), k, h3, comp, h4⟩, k, comp, h3, h4, h1, h5⟩
  have o4 : va_AO RX4 s := va_AO.of (hts (.arrayOver (.object RX4)) (am_ch_in 1 (by decide +kernel)))
  have o7 : va_AO RX7 s := va_AO.of (hts (.arrayOver (.object RX7)) (am_ch_in 1 (by decide +kernel)))
  obtain ⟨c0, a0⟩ := harr .int (am_at_mem am_okA.1) (fun _ h => by cases h)
  obtain ⟨c1, a1⟩ := harr .byte (am_at_mem am_okA.2.1) (fun _ h => by cases h)
  obtain ⟨c2, a2⟩ := hov RX4 o4
  obtain ⟨c3, a3⟩ := hov RX7 o7
  refine ⟨(dC, dI), fun k => match k with
    | 0 => c0
    | 1 => c1
    | 2 => c2
    | _ => c3, ⟨fun ci q hq => ?_, fun k q hq => ?_⟩, o4, o7⟩
  · have h : ci < 13 := by
      have := (List.getElem?_eq_some_iff.mp hq).1
      exact this
    rw [am_cl_ok ci h] at hq
    cases hq
    exact hK ci h
  · match k, hq with
    | 0, hq => cases hq; exact a0
    | 1, hq => cases hq; exact a1
    | 2, hq => cases hq; exact a2
    | 3, hq => cases hq; exact a3
    | k + 4, hq => simp [am_tys] at hq
end
section
/-! ===== what the two constructors make ===== -/
def kk_s : am_St := (0, 0, fun _ => (0, 0), fun _ _ => 0, fun _ _ => none)
def kk_a : am_St := am_al kk_s 15 0 12
def kk_get (x : Option (Option Value × am_St)) : am_St := match x with
  | some (_, σ) => σ
  | none => kk_s
theorem kk_get_ok {x : Option (Option Value × am_St)} (h : x.map (fun q => q.1) = some none) : x = some (none, kk_get x) := by
  match x, h with
  | some (r, σ), h =>
    have h1 : r = none := Option.some.inj h
    rw [h1]
    rfl
def kk_b : am_St := kk_get (am_rn 8 3000 mX11_init [.ref 0] kk_a)
def kk_c : am_St := am_al kk_b 16 0 74
def kk_d : am_St := kk_get (am_rn 8 3000 mX12_init [.ref 161] kk_c)
set_option maxRecDepth 1000000 in
theorem kk_b_ok : (am_rn 8 3000 mX11_init [.ref 0] kk_a).map (fun q => q.1) = some none := by decide +kernel
set_option maxRecDepth 1000000 in
theorem kk_d_ok : (am_rn 8 3000 mX12_init [.ref 161] kk_c).map (fun q => q.1) = some none := by decide +kernel
def kk_SH : List (Nat × Nat) := [(15, 0), (11, 0), (0, 300), (0, 300), (0, 300), (0, 300), (0, 300), (8, 0), (0, 300), (11, 0), (0, 300), (0, 300), (0, 300), (0, 300), (0, 300), (8, 0), (0, 300), (9, 0), (0, 8), (0, 8), (2, 8), (3, 8), (8, 0), (0, 300), (11, 0), (0, 300), (0, 300), (0, 300), (0, 300), (0, 300), (8, 0), (0, 300), (8, 0), (0, 300), (11, 0), (0, 300), (0, 300), (0, 300), (0, 300), (0, 300), (8, 0), (0, 300), (8, 0), (0, 300), (11, 0), (0, 300), (0, 300), (0, 300), (0, 300), (0, 300), (8, 0), (0, 300), (8, 0), (0, 300), (11, 0), (0, 300), (0, 300), (0, 300), (0, 300), (0, 300), (8, 0), (0, 300), (8, 0), (0, 300), (11, 0), (0, 300), (0, 300), (0, 300), (0, 300), (0, 300), (8, 0), (0, 300), (8, 0), (0, 300), (11, 0), (0, 300), (0, 300), (0, 300), (0, 300), (0, 300), (8, 0), (0, 300), (8, 0), (0, 300), (11, 0), (0, 300), (0, 300), (0, 300), (0, 300), (0, 300), (8, 0), (0, 300), (8, 0), (0, 300), (11, 0), (0, 300), (0, 300), (0, 300), (0, 300), (0, 300), (8, 0), (0, 300), (6, 0), (4, 0), (0, 480), (0, 480), (0, 480), (8, 0), (0, 27348), (0, 480), (0, 480), (0, 1800), (8, 0), (0, 150), (6, 0), (4, 0), (0, 480), (0, 480), (0, 480), (8, 0), (0, 27348), (0, 480), (0, 480), (0, 1800), (8, 0), (0, 150), (7, 0), (0, 300), (0, 26), (8, 0), (0, 300), (8, 0), (0, 300), (5, 0), (12, 0), (0, 9000), (8, 0), (0, 16000), (8, 0), (0, 150), (8, 0), (0, 150), (8, 0), (0, 150), (14, 0), (13, 0), (0, 402), (0, 402), (0, 402), (0, 402), (0, 402), (0, 402), (0, 402), (0, 402), (0, 2010), (10, 0), (0, 600), (0, 600), (0, 600), (0, 600), (0, 3), (16, 0), (1, 300), (0, 8000), (0, 22), (0, 19800), (0, 300000), (0, 300000), (0, 300000), (0, 400), (0, 400), (0, 400), (0, 400), (0, 1800), (0, 400), (0, 3), (0, 8), (0, 8), (0, 8), (0, 4000), (0, 60000), (0, 2000), (0, 2000), (0, 60000), (0, 1800), (0, 1600), (0, 12), (0, 800), (0, 800), (0, 800), (0, 800), (0, 800), (0, 800), (0, 800)]
def kk_R (k j : Nat) : Option Nat := match k with
  | 0 => match j with
    | 0 => some 126
    | 1 => some 17
    | 2 => some 133
    | 3 => some 144
    | 4 => some 155
    | 5 => some 102
    | 6 => some 114
    | 7 => some 1
    | 8 => some 9
    | 11 => some 160
    | _ => none
  | 1 => match j with
    | 1 => some 7
    | 2 => some 2
    | 3 => some 3
    | 4 => some 4
    | 5 => some 5
    | 6 => some 6
    | _ => none
  | 7 => match j with
    | 0 => some 8
    | _ => none
  | 9 => match j with
    | 1 => some 15
    | 2 => some 10
    | 3 => some 11
    | 4 => some 12
    | 5 => some 13
    | 6 => some 14
    | _ => none
  | 15 => match j with
    | 0 => some 16
    | _ => none
  | 17 => match j with
    | 1 => some 18
    | 2 => some 19
    | 3 => some 20
    | 4 => some 21
    | _ => none
  | 20 => match j with
    | 0 => some 22
    | 1 => some 32
    | 2 => some 42
    | 3 => some 52
    | 4 => some 62
    | 5 => some 72
    | 6 => some 82
    | 7 => some 92
    | _ => none
  | 21 => match j with
    | 0 => some 24
    | 1 => some 34
    | 2 => some 44
    | 3 => some 54
    | 4 => some 64
    | 5 => some 74
    | 6 => some 84
    | 7 => some 94
    | _ => none
  | 22 => match j with
    | 0 => some 23
    | _ => none
  | 24 => match j with
    | 1 => some 30
    | 2 => some 25
    | 3 => some 26
    | 4 => some 27
    | 5 => some 28
    | 6 => some 29
    | _ => none
  | 30 => match j with
    | 0 => some 31
    | _ => none
  | 32 => match j with
    | 0 => some 33
    | _ => none
  | 34 => match j with
    | 1 => some 40
    | 2 => some 35
    | 3 => some 36
    | 4 => some 37
    | 5 => some 38
    | 6 => some 39
    | _ => none
  | 40 => match j with
    | 0 => some 41
    | _ => none
  | 42 => match j with
    | 0 => some 43
    | _ => none
  | 44 => match j with
    | 1 => some 50
    | 2 => some 45
    | 3 => some 46
    | 4 => some 47
    | 5 => some 48
    | 6 => some 49
    | _ => none
  | 50 => match j with
    | 0 => some 51
    | _ => none
  | 52 => match j with
    | 0 => some 53
    | _ => none
  | 54 => match j with
    | 1 => some 60
    | 2 => some 55
    | 3 => some 56
    | 4 => some 57
    | 5 => some 58
    | 6 => some 59
    | _ => none
  | 60 => match j with
    | 0 => some 61
    | _ => none
  | 62 => match j with
    | 0 => some 63
    | _ => none
  | 64 => match j with
    | 1 => some 70
    | 2 => some 65
    | 3 => some 66
    | 4 => some 67
    | 5 => some 68
    | 6 => some 69
    | _ => none
  | 70 => match j with
    | 0 => some 71
    | _ => none
  | 72 => match j with
    | 0 => some 73
    | _ => none
  | 74 => match j with
    | 1 => some 80
    | 2 => some 75
    | 3 => some 76
    | 4 => some 77
    | 5 => some 78
    | 6 => some 79
    | _ => none
  | 80 => match j with
    | 0 => some 81
    | _ => none
  | 82 => match j with
    | 0 => some 83
    | _ => none
  | 84 => match j with
    | 1 => some 90
    | 2 => some 85
    | 3 => some 86
    | 4 => some 87
    | 5 => some 88
    | 6 => some 89
    | _ => none
  | 90 => match j with
    | 0 => some 91
    | _ => none
  | 92 => match j with
    | 0 => some 93
    | _ => none
  | 94 => match j with
    | 1 => some 100
    | 2 => some 95
    | 3 => some 96
    | 4 => some 97
    | 5 => some 98
    | 6 => some 99
    | _ => none
  | 100 => match j with
    | 0 => some 101
    | _ => none
  | 102 => match j with
    | 0 => some 103
    | 1 => some 111
    | 2 => some 112
    | _ => none
  | 103 => match j with
    | 0 => some 104
    | 1 => some 105
    | 2 => some 106
    | 3 => some 107
    | 8 => some 109
    | 9 => some 110
    | _ => none
  | 107 => match j with
    | 0 => some 108
    | _ => none
  | 112 => match j with
    | 0 => some 113
    | _ => none
  | 114 => match j with
    | 0 => some 115
    | 1 => some 123
    | 2 => some 124
    | _ => none
  | 115 => match j with
    | 0 => some 116
    | 1 => some 117
    | 2 => some 118
    | 3 => some 119
    | 8 => some 121
    | 9 => some 122
    | _ => none
  | 119 => match j with
    | 0 => some 120
    | _ => none
  | 124 => match j with
    | 0 => some 125
    | _ => none
  | 126 => match j with
    | 1 => some 129
    | 2 => some 131
    | 3 => some 127
    | 4 => some 128
    | 8 => some 9
    | 9 => some 129
    | _ => none
  | 129 => match j with
    | 0 => some 130
    | _ => none
  | 131 => match j with
    | 0 => some 132
    | _ => none
  | 133 => match j with
    | 0 => some 134
    | 1 => some 138
    | 2 => some 140
    | 3 => some 142
    | 4 => some 102
    | 5 => some 103
    | 6 => some 1
    | _ => none
  | 134 => match j with
    | 7 => some 136
    | 8 => some 135
    | _ => none
  | 136 => match j with
    | 0 => some 137
    | _ => none
  | 138 => match j with
    | 0 => some 139
    | _ => none
  | 140 => match j with
    | 0 => some 141
    | _ => none
  | 142 => match j with
    | 0 => some 143
    | _ => none
  | 144 => match j with
    | 2 => some 145
    | 3 => some 154
    | 5 => some 1
    | 6 => some 17
    | _ => none
  | 145 => match j with
    | 0 => some 146
    | 1 => some 147
    | 2 => some 148
    | 3 => some 149
    | 4 => some 150
    | 6 => some 151
    | 7 => some 152
    | 8 => some 153
    | _ => none
  | 155 => match j with
    | 0 => some 156
    | 2 => some 157
    | 3 => some 158
    | 4 => some 159
    | _ => none
  | 161 => match j with
    | 1 => some 162
    | 5 => some 163
    | 7 => some 164
    | 8 => some 165
    | 11 => some 166
    | 12 => some 167
    | 13 => some 168
    | 17 => some 169
    | 18 => some 170
    | 19 => some 171
    | 20 => some 172
    | 24 => some 173
    | 34 => some 174
    | 44 => some 175
    | 45 => some 176
    | 46 => some 177
    | 47 => some 178
    | 51 => some 179
    | 52 => some 180
    | 53 => some 181
    | 54 => some 182
    | 59 => some 183
    | 60 => some 184
    | 61 => some 185
    | 62 => some 186
    | 63 => some 187
    | 64 => some 188
    | 65 => some 189
    | 66 => some 190
    | 67 => some 191
    | 68 => some 192
    | 69 => some 193
    | _ => none
  | _ => none
def kk_I (k j : Nat) : Int32 := match k with
  | 1 => match j with
    | 7 => -1
    | _ => 0
  | 9 => match j with
    | 7 => -1
    | _ => 0
  | 24 => match j with
    | 7 => -1
    | _ => 0
  | 34 => match j with
    | 7 => -1
    | _ => 0
  | 44 => match j with
    | 7 => -1
    | _ => 0
  | 54 => match j with
    | 7 => -1
    | _ => 0
  | 64 => match j with
    | 7 => -1
    | _ => 0
  | 74 => match j with
    | 7 => -1
    | _ => 0
  | 84 => match j with
    | 7 => -1
    | _ => 0
  | 94 => match j with
    | 7 => -1
    | _ => 0
  | 102 => match j with
    | 3 => -1
    | 6 => -1
    | _ => 0
  | 114 => match j with
    | 3 => -1
    | 6 => -1
    | _ => 0
  | 126 => match j with
    | 6 => -1
    | _ => 0
  | 133 => match j with
    | 9 => -1
    | _ => 0
  | 134 => match j with
    | 2 => -1
    | 3 => -1
    | 4 => -1
    | _ => 0
  | 144 => match j with
    | 0 => 3
    | 7 => -1
    | 8 => -1
    | 9 => -1
    | 10 => -1
    | _ => 0
  | 161 => match j with
    | 41 => -1
    | _ => 0
  | _ => 0
def kk_ok1 (σ : am_St) (k : Nat) : Bool := decide (σ.2.2.1 k = kk_SH.getD k (0, 0)) && (match (kk_SH.getD k (0, 0)).1 with
  | 0 => true
  | 1 => true
  | 2 => (List.range 8).all (fun j => decide (σ.2.2.2.2 k j = kk_R k j))
  | 3 => (List.range 8).all (fun j => decide (σ.2.2.2.2 k j = kk_R k j))
  | c + 4 => (List.range (am_nf c)).all (fun j => if am_isR (am_ty c j) then decide (σ.2.2.2.2 k j = kk_R k j) else decide (σ.2.2.2.1 k j = kk_I k j)))
set_option maxRecDepth 1000000 in
theorem kk_n : (kk_d.1, kk_d.2.1) = (194, 1187152) := by decide +kernel
set_option maxRecDepth 1000000 in
theorem kk_all : (List.range 194).all (kk_ok1 kk_d) = true := by decide +kernel
end
section
/-- the law's own world: the machine's cells, and behind them the row of one long -/
def lw_V (s : State) (D : va_G) (cA : Nat → ClassId) (cJ : ClassId) (base q : Nat) (σ : am_St) (f : Nat → Int64) (H : Heap) (locs : List Loc) : Prop :=
  va_P D vwCl (am_wl cA base σ) H ∧ H[q]? = some (vp_cell cJ (1, .inr (.inl f))) ∧ base + σ.1 ≤ q ∧ va_S (fun a => base ≤ a) s.heap H locs
/-- where the class's step throws -/
def lw_thr (σ : am_St) (a b : Int32) : Prop := g_I σ 102 3 = -1 ∨ a < 0 ∨ g_I σ 102 4 ≤ a ∨ b < 0 ∨ 6 ≤ b
def lw_sm (σ σ1 : am_St) : Prop := σ1.1 = σ.1 ∧ σ1.2.1 = σ.2.1 ∧ σ1.2.2.1 = σ.2.2.1
/-- what the law knows of its frame -/
def lw_Cx (p : Program) (l : Launch) (s : State) (m : MethodId) (meth : Method) (c : Code) (D : va_G) (cA : Nat → ClassId) (cJ : ClassId) (base b : Nat) : Prop :=
  p.tables.exec = Jvm.exec ∧ c.code = code ∧ meth.sig.returnType = ret ∧ c.maxLocals = 7 ∧ s.vm.findClass R_law = some m.cls ∧ (∀ w ∈ lw_tbl, w.before #[Value.ref b] s = true) ∧ meth.locks = false ∧ am_K D cA s ∧ (ArrOfT s cJ .long ∧ va_RA s cJ .long) ∧ s.heap.size = base ∧ l.flags = flags0 ∧ (Jvm.Cond.and given_1 narrow_1).before #[Value.ref b] s = true
/-! the class's step, up to its throw -/
section STP
variable {call : am_I → List Value → am_St → Option (Option Value × am_St)} {mi : am_I} {pc : Nat} {L : am_L} {S : List Value} {σ : am_St}
theorem wk_s {f pc' : Nat} {L' : am_L} {S' : List Value} {σ' : am_St} {r : Nat × am_L × List Value × am_St} {ins : Instr} {len : Nat} (hd : decode mi.2.2.1 pc = .ok (ins, len)) (h : am_ins call mi ins len pc L S σ = am_nx pc' L' S' σ') (k : am_wk call mi f pc' L' S' σ' = some r) : am_wk call mi (f + 1) pc L S σ = some r := by
  unfold am_wk
  rw [am_step, hd]
  dsimp only
  rw [h]
  exact k
theorem i_getI {idx ci j k : Nat} (hf : am_fld mi.1 idx = some (ci, j)) (ht : am_isR (am_ty ci j) = false) (hk : g_o σ k ci) : am_ins call mi (.getfield idx) 3 pc L (.ref k :: S) σ = am_nx (pc + 3) L (.int (g_I σ k j) :: S) σ := by
  show am_get mi idx pc L (.ref k :: S) σ = _
  unfold am_get
  have hk' : k < σ.1 ∧ (σ.2.2.1 k).1 = ci + 4 := hk
  simp only [hf, ht]
  rw [if_pos hk']
  rfl
theorem i_getR {idx ci j k q : Nat} (hf : am_fld mi.1 idx = some (ci, j)) (ht : am_isR (am_ty ci j) = true) (hk : g_o σ k ci) (hq : g_R σ k j = some q) : am_ins call mi (.getfield idx) 3 pc L (.ref k :: S) σ = am_nx (pc + 3) L (.ref q :: S) σ := by
  show am_get mi idx pc L (.ref k :: S) σ = _
  unfold am_get
  have hk' : k < σ.1 ∧ (σ.2.2.1 k).1 = ci + 4 := hk
  have hq' : σ.2.2.2.2 k j = some q := hq
  simp only [hf, ht]
  rw [if_pos hk', hq']
  rfl
theorem i_ifT {c : ClassFile.Cond} {off : Int} {x : Int32} (t : Nat) (ht : (pc : Int) + off = (t : Int)) (hc : am_cmp c x 0 = true) : am_ins call mi (.ifCond c off) 3 pc L (.int x :: S) σ = am_nx t L S σ := by
  show am_bra (.ifCond c off) pc L (.int x :: S) σ = _
  have h0 : 0 ≤ (pc : Int) + off := by omega
  have h1 : ((pc : Int) + off).toNat = t := by omega
  unfold am_bra am_jp
  simp only [hc, if_true, if_pos h0, h1]
  rfl
theorem i_ifF {c : ClassFile.Cond} {off : Int} {x : Int32} (ht : 0 ≤ (pc : Int) + off) (hc : am_cmp c x 0 = false) : am_ins call mi (.ifCond c off) 3 pc L (.int x :: S) σ = am_nx (pc + 3) L S σ := by
  show am_bra (.ifCond c off) pc L (.int x :: S) σ = _
  unfold am_bra
  simp only [hc, Bool.false_eq_true, if_false, if_pos ht]
theorem i_icT {c : ClassFile.Cond} {off : Int} {x y : Int32} (t : Nat) (ht : (pc : Int) + off = (t : Int)) (hc : am_cmp c x y = true) : am_ins call mi (.if_icmp c off) 3 pc L (.int y :: .int x :: S) σ = am_nx t L S σ := by
  show am_bra (.if_icmp c off) pc L (.int y :: .int x :: S) σ = _
  have h0 : 0 ≤ (pc : Int) + off := by omega
  have h1 : ((pc : Int) + off).toNat = t := by omega
  unfold am_bra am_jp
  simp only [hc, if_true, if_pos h0, h1]
  rfl
theorem i_icF {c : ClassFile.Cond} {off : Int} {x y : Int32} (ht : 0 ≤ (pc : Int) + off) (hc : am_cmp c x y = false) : am_ins call mi (.if_icmp c off) 3 pc L (.int y :: .int x :: S) σ = am_nx (pc + 3) L S σ := by
  show am_bra (.if_icmp c off) pc L (.int y :: .int x :: S) σ = _
  unfold am_bra
  simp only [hc, Bool.false_eq_true, if_false, if_pos ht]
end STP
theorem dX11_step_0 : decode cX11_step 0 = .ok (.aload_n 0, 1) := by decide +kernel
theorem dX11_step_1 : decode cX11_step 1 = .ok (.getfield 29, 3) := by decide +kernel
theorem dX11_step_4 : decode cX11_step 4 = .ok (.getfield 131, 3) := by decide +kernel
theorem dX11_step_7 : decode cX11_step 7 = .ok (.iconst (-1), 1) := by decide +kernel
theorem dX11_step_8 : decode cX11_step 8 = .ok (.if_icmp .eq 28, 3) := by decide +kernel
theorem dX11_step_11 : decode cX11_step 11 = .ok (.iload_n 1, 1) := by decide +kernel
theorem dX11_step_12 : decode cX11_step 12 = .ok (.ifCond .lt 24, 3) := by decide +kernel
theorem dX11_step_15 : decode cX11_step 15 = .ok (.iload_n 1, 1) := by decide +kernel
theorem dX11_step_16 : decode cX11_step 16 = .ok (.aload_n 0, 1) := by decide +kernel
theorem dX11_step_17 : decode cX11_step 17 = .ok (.getfield 29, 3) := by decide +kernel
theorem dX11_step_20 : decode cX11_step 20 = .ok (.getfield 122, 3) := by decide +kernel
theorem dX11_step_23 : decode cX11_step 23 = .ok (.if_icmp .ge 13, 3) := by decide +kernel
theorem dX11_step_26 : decode cX11_step 26 = .ok (.iload_n 2, 1) := by decide +kernel
theorem dX11_step_27 : decode cX11_step 27 = .ok (.ifCond .lt 9, 3) := by decide +kernel
theorem dX11_step_30 : decode cX11_step 30 = .ok (.iload_n 2, 1) := by decide +kernel
theorem dX11_step_31 : decode cX11_step 31 = .ok (.bipush 6, 2) := by decide +kernel
theorem dX11_step_33 : decode cX11_step 33 = .ok (.if_icmp .lt 11, 3) := by decide +kernel
theorem dX11_step_36 : decode cX11_step 36 = .ok (.new 176, 3) := by decide +kernel
theorem dX11_step_39 : decode cX11_step 39 = .ok (.dup, 1) := by decide +kernel
theorem dX11_step_40 : decode cX11_step 40 = .ok (.invokespecial 178, 3) := by decide +kernel
theorem dX11_step_43 : decode cX11_step 43 = .ok (.athrow, 1) := by decide +kernel
theorem dX11_step_44 : decode cX11_step 44 = .ok (.aload_n 0, 1) := by decide +kernel
theorem dX11_step_45 : decode cX11_step 45 = .ok (.getfield 29, 3) := by decide +kernel
theorem dX11_step_48 : decode cX11_step 48 = .ok (.getfield 179, 3) := by decide +kernel
theorem dX11_step_51 : decode cX11_step 51 = .ok (.iload_n 1, 1) := by decide +kernel
theorem dX11_step_52 : decode cX11_step 52 = .ok (.bipush 6, 2) := by decide +kernel
theorem dX11_step_54 : decode cX11_step 54 = .ok (.imul, 1) := by decide +kernel
theorem dX11_step_55 : decode cX11_step 55 = .ok (.iload_n 2, 1) := by decide +kernel
theorem dX11_step_56 : decode cX11_step 56 = .ok (.iadd, 1) := by decide +kernel
theorem dX11_step_57 : decode cX11_step 57 = .ok (.iaload, 1) := by decide +kernel
theorem dX11_step_58 : decode cX11_step 58 = .ok (.ireturn, 1) := by decide +kernel
theorem st_walk {call : am_I → List Value → am_St → Option (Option Value × am_St)} {σ : am_St} {x y : Int32} (hk : g_o σ 0 11) (hR : g_R σ 0 5 = some 102) (hj : g_o σ 102 2) (ht : lw_thr σ x y) : ∃ f, am_wk call mX11_step f 0 [some (.ref 0), some (.int x), some (.int y)] [] σ = some (36, [some (.ref 0), some (.int x), some (.int y)], [], σ) := by
  by_cases c1 : g_I σ 102 3 = -1
  · exact ⟨5, wk_s dX11_step_0 rfl (wk_s dX11_step_1 (i_getR f_11_29 rfl hk hR) (wk_s dX11_step_4 (i_getI f_11_131 rfl hj) (wk_s dX11_step_7 rfl (wk_s dX11_step_8 (i_icT 36 (by decide) (decide_eq_true c1)) rfl))))⟩
  by_cases c2 : x < 0
  · exact ⟨7, wk_s dX11_step_0 rfl (wk_s dX11_step_1 (i_getR f_11_29 rfl hk hR) (wk_s dX11_step_4 (i_getI f_11_131 rfl hj) (wk_s dX11_step_7 rfl (wk_s dX11_step_8 (i_icF (by decide) (decide_eq_false c1)) (wk_s dX11_step_11 rfl (wk_s dX11_step_12 (i_ifT 36 (by decide) (decide_eq_true c2)) rfl))))))⟩
  by_cases c3 : g_I σ 102 4 ≤ x
  · exact ⟨12, wk_s dX11_step_0 rfl (wk_s dX11_step_1 (i_getR f_11_29 rfl hk hR) (wk_s dX11_step_4 (i_getI f_11_131 rfl hj) (wk_s dX11_step_7 rfl (wk_s dX11_step_8 (i_icF (by decide) (decide_eq_false c1)) (wk_s dX11_step_11 rfl (wk_s dX11_step_12 (i_ifF (by decide) (decide_eq_false c2)) (wk_s dX11_step_15 rfl (wk_s dX11_step_16 rfl (wk_s dX11_step_17 (i_getR f_11_29 rfl hk hR) (wk_s dX11_step_20 (i_getI f_11_122 rfl hj) (wk_s dX11_step_23 (i_icT 36 (by decide) (decide_eq_true c3)) rfl)))))))))))⟩
  by_cases c4 : y < 0
  · exact ⟨14, wk_s dX11_step_0 rfl (wk_s dX11_step_1 (i_getR f_11_29 rfl hk hR) (wk_s dX11_step_4 (i_getI f_11_131 rfl hj) (wk_s dX11_step_7 rfl (wk_s dX11_step_8 (i_icF (by decide) (decide_eq_false c1)) (wk_s dX11_step_11 rfl (wk_s dX11_step_12 (i_ifF (by decide) (decide_eq_false c2)) (wk_s dX11_step_15 rfl (wk_s dX11_step_16 rfl (wk_s dX11_step_17 (i_getR f_11_29 rfl hk hR) (wk_s dX11_step_20 (i_getI f_11_122 rfl hj) (wk_s dX11_step_23 (i_icF (by decide) (decide_eq_false c3)) (wk_s dX11_step_26 rfl (wk_s dX11_step_27 (i_ifT 36 (by decide) (decide_eq_true c4)) rfl)))))))))))))⟩
  have c5 : ¬ y < 6 := by
    rcases ht with q | q | q | q | q
    · exact absurd q c1
    · exact absurd q c2
    · exact absurd q c3
    · exact absurd q c4
    · exact Int32.not_lt.mpr q
  exact ⟨17, wk_s dX11_step_0 rfl (wk_s dX11_step_1 (i_getR f_11_29 rfl hk hR) (wk_s dX11_step_4 (i_getI f_11_131 rfl hj) (wk_s dX11_step_7 rfl (wk_s dX11_step_8 (i_icF (by decide) (decide_eq_false c1)) (wk_s dX11_step_11 rfl (wk_s dX11_step_12 (i_ifF (by decide) (decide_eq_false c2)) (wk_s dX11_step_15 rfl (wk_s dX11_step_16 rfl (wk_s dX11_step_17 (i_getR f_11_29 rfl hk hR) (wk_s dX11_step_20 (i_getI f_11_122 rfl hj) (wk_s dX11_step_23 (i_icF (by decide) (decide_eq_false c3)) (wk_s dX11_step_26 rfl (wk_s dX11_step_27 (i_ifF (by decide) (decide_eq_false c4)) (wk_s dX11_step_30 rfl (wk_s dX11_step_31 rfl (wk_s dX11_step_33 (i_icF (by decide) (decide_eq_false c5)) rfl))))))))))))))))⟩
def lw_xN : String := "java/util/NoSuchElementException"
def lw_xs : List String := ["java/lang/RuntimeException", "java/lang/Exception"]
def lw_bad : List Cond := (Cond.classLink RX11 176 lw_xN :: Cond.initialized lw_xN :: vx_at0 RX11 178 lw_xN lw_xs).filter (fun w => !goodWord w)
theorem lw_bad_ok : lw_bad.all (fun w => match w with | .castable _ _ => true | .declares _ => true | _ => false) = true := by decide +kernel
theorem lw_bad_warm {s U : State} (hW : s.WarmedH U.vm) {w : Cond} (hw : w ∈ lw_bad) (h : va_Nw w s) : va_Nw w U := by
  have h1 := List.all_eq_true.mp lw_bad_ok w hw
  match w, h1, h with
  | .castable _ _, _, h => exact va_Nw.warmC hW h
  | .declares _, _, h => exact va_Nw.warmD hW h
/-- what a throw needs of the start -/
def lw_X (base : Nat) (U : State) : Prop := vx_Zq Bundle.tN "UNASSIGNED_STACK" Bundle.steD (fun a => base ≤ a) U U.heap ∧ vx_Zq Bundle.tN "SUPPRESSED_SENTINEL" Bundle.listD (fun a => base ≤ a) U U.heap ∧ ∀ w ∈ lw_bad, va_Nw w U
theorem lw_X.to {base : Nat} {s U : State} {locs : List Loc} (h : lw_X base s) (hW : s.WarmedH U.vm) (hS : va_S (fun a => base ≤ a) s.heap U.heap locs) : lw_X base U :=
  ⟨vx_Zq.moved hW.alike (h.1.kept hS.2.1), vx_Zq.moved hW.alike (h.2.1.kept hS.2.1), fun w hw => lw_bad_warm hW hw (h.2.2 w hw)⟩
set_option maxRecDepth 100000 in
theorem lw_xgood : (Cond.classLink RX11 176 lw_xN :: Cond.initialized lw_xN :: vx_at0 RX11 178 lw_xN lw_xs).all vx_ot = true := by decide +kernel
theorem lw_xin : ∀ w ∈ (Cond.classLink RX11 176 lw_xN :: Cond.initialized lw_xN :: vx_at0 RX11 178 lw_xN lw_xs).filter goodWord, w ∈ lw_good := by
  intro w hw
  have h1 : ((Cond.classLink RX11 176 lw_xN :: Cond.initialized lw_xN :: vx_at0 RX11 178 lw_xN lw_xs).filter goodWord).all (fun w => [1, 2, 3, 4, 5, 6, 7, 8, 9].any (fun c => decide (w ∈ am_ch c))) = true := by decide +kernel
  obtain ⟨c, -, hc⟩ := List.any_eq_true.mp (List.all_eq_true.mp h1 w hw)
  exact am_ch_mem c (of_decide_eq_true hc) (List.mem_filter.mp hw).2
theorem lw_xwords {s : State} {args : Array Value} (hg : ∀ w ∈ lw_good, w.before args s = true) (hb : ∀ w ∈ lw_bad, va_Nw w s) : ∀ w ∈ (Cond.classLink RX11 176 lw_xN :: Cond.initialized lw_xN :: vx_at0 RX11 178 lw_xN lw_xs), w.before args s = true := by
  intro w hw
  by_cases g : goodWord w = true
  · exact hg w (lw_xin w (List.mem_filter.mpr ⟨hw, g⟩))
  · have hwb : w ∈ lw_bad := List.mem_filter.mpr ⟨hw, by simpa using g⟩
    have h1 := List.all_eq_true.mp lw_bad_ok w hwb
    match w, h1, hb w hwb with
    | .castable _ _, _, h => exact va_Nw.use rfl h
    | .declares _, _, h => exact va_Nw.use rfl h
def st_rm : Room := { frames := 20, cells := 1, slots := 6, locals := 800 }
set_option maxRecDepth 100000 in
/-- the class's step where it throws -/
theorem st_met (l : Launch) (hfl : l.flags = flags0) (D : va_G) (cA : Nat → ClassId) (base sz : Nat) (σ : am_St) (x y : Int32) (hk : g_o σ 0 11) (hR : g_R σ 0 5 = some 102) (hj : g_o σ 102 2) (ht : lw_thr σ x y) :
    vx_Met l mX11_step.2.1 (am_wd mX11_step) st_rm (va_Pc [.ref (base + 0), .int x, .int y] (fun U => am_P D cA base sz σ U ∧ lw_X base U)) (va_Qi (fun (_ : Int32) (_ : Unit) => False) (fun _ _ => True) (am_A base sz σ.1)) (vx_X (fun _ : Unit => True) (fun E _ t => E = lw_xN ∧ va_P D vwCl (am_wl cA base σ) t.heap) (am_A base sz σ.1)) 1 6 (am_A base sz σ.1) := by
  refine vx_ofW (cc := cX11_step) (maxL := 3) (ret := some .int) (by decide) rfl ?_
  intro p e s m args below meth c s₁ B hml hempty hv
  obtain ⟨rfl, ⟨hsz, hP, hK⟩, hX⟩ := hv
  have hts := atoms_spec (ws := am_wd mX11_step) B.pre
  have hg : ∀ w ∈ lw_good, w.before _ s = true := fun w hw => hts w (List.mem_cons_of_mem _ hw)
  have hown : s.vm.findClass RX11 = some m.cls := findClass_of_methodNamed B.named
  have hC : am_Cx p st_rm s m [.ref (base + 0), .int x, .int y].toArray meth c D cA base sz σ.1 σ.2.1 σ.1 σ.2.1 5 mX11_step := ⟨B.exec, B.bytes, B.returns, hml, hown, hg, B.notSynchronized, (name_of_methodNamed B.named B.method).1, hK, ⟨hsz, Or.inl (Nat.le_refl _)⟩, by decide, by decide, by rw [Nat.sub_self]; decide, by rw [Nat.sub_self]; decide⟩
  obtain ⟨f, hf⟩ := st_walk (call := am_run 5) hk hR hj ht
  have hl := lv_entry ([.ref (base + 0), .int x, .int y]) (n := 3) (Nat.le_of_ble_eq_true rfl)
  rw [lg_entry_eq]
  generalize (lg_sl ([.ref (base + 0), .int x, .int y]) ++ List.replicate (3 - (lg_sl ([.ref (base + 0), .int x, .int y])).length) Slot.unset).toArray = ls at hl ⊢
  have hl : lv_has ls 3 [(0, .ref (base + 0)), (1, .int x), (2, .int y)] := hl
  have hlr : am_lr base mX11_step.2.2.2.1 mX11_step.2.2.2.2.2.2 [some (.ref 0), some (.int x), some (.int y)] ls := by
    refine ⟨hl.1, hl.2.1, fun i v hi => ?_, fun _ i v hi => ?_⟩
    · match i, hi with
      | 0, hi => cases hi; exact lv_at hl 0 rfl
      | 1, hi => cases hi; exact lv_at hl 1 rfl
      | 2, hi => cases hi; exact lv_at hl 2 rfl
      | i + 3, hi => simp at hi
    · match i, hi with
      | 0, hi => cases hi; rfl
      | 1, hi => cases hi; rfl
      | 2, hi => cases hi; rfl
      | i + 3, hi => simp at hi
  have key := am_s_wk (below := below) (e := e) (l := l) (Q := vx_MQ below (va_Qi (fun (_ : Int32) (_ : Unit) => False) (fun _ _ => True) (am_A base sz σ.1)) (vx_X (fun _ : Unit => True) (fun E _ t => E = lw_xN ∧ va_P D vwCl (am_wl cA base σ) t.heap) (am_A base sz σ.1)) [.ref (base + 0), .int x, .int y].toArray s 1 6 (am_A base sz σ.1)) hC (am_sound l D cA base 5) (am_up_run 5) f 0 _ _ σ hf (Nat.le_refl _) (Nat.le_refl _) ?_ s.heap [] ls ⟨hP, va_S.rf, hlr⟩
  · rw [Nat.sub_self, Nat.sub_self] at key
    exact key
  · intro H locs ls hp
    rw [Nat.sub_self, Nat.sub_self]
    have hw := lw_xwords hg hX.2.2
    have hgood := List.all_eq_true.mp lw_xgood
    refine vx_throw0 (A := am_A base sz σ.1) (own := RX11) (cls := lw_xN) (names := lw_xs) (ik := 176) (ic := 178) B.exec B.bytes (by unfold Launch.stackTraces; rw [hfl]; decide +kernel) hown (by decide +kernel) (by decide +kernel) (hw _ List.mem_cons_self) (hw _ (List.mem_cons_of_mem _ List.mem_cons_self)) (fun w h => hw w (List.mem_cons_of_mem _ (List.mem_cons_of_mem _ h))) hgood (hX.1.narrow (fun q h => h.1)) (hX.2.1.narrow (fun q h => h.1)) hp.2.1 (hp.2.2.1.trans hml.symm) dX11_step_36 dX11_step_39 dX11_step_40 dX11_step_43 (fun z hz => (hempty z hz).elim) (by decide) (show 0 + (13 * (2 + 1) + 42) ≤ 800 by decide) (by decide) (by decide) B.notSynchronized (fun t ha h1 h2 => ?_) hp.2.1.2.2 (by decide) (by decide)
    refine ⟨(), trivial, ⟨rfl, hp.1.kept (fun k z hz => h2 z.1 (hp.1 k z hz).lt)⟩, Nat.le_trans hp.2.1.1 h1, fun a h3 h4 => ?_⟩
    rw [h2 a (Nat.lt_of_lt_of_le h3 hp.2.1.1)]
    exact hp.2.1.2.1 a h3 h4
/-! the law's own step(x, a, b, out) -/
def lw_hh : List (Nat × Nat × Nat × Nat) := [(0, 10, 13, 13)]
def lw_hw : List Cond := .codeWith yL_step cL_step 5 (some .int) lw_hh :: lw_good
def lw_HP (D : va_G) (cA : Nat → ClassId) (cJ : ClassId) (base q sz : Nat) (σ : am_St) (f : Nat → Int64) (x y : Int32) : Array Value → State → Prop := va_Pc [.ref (base + 0), .int x, .int y, .ref q] (fun U => U.heap.size = sz ∧ va_P D vwCl (am_wl cA base σ) U.heap ∧ U.heap[q]? = some (vp_cell cJ (1, .inr (.inl f))) ∧ am_K D cA U ∧ (ArrOfT U cJ .long ∧ va_RA U cJ .long) ∧ lw_X base U)
def lw_HQ (D : va_G) (cA : Nat → ClassId) (cJ : ClassId) (base q : Nat) (σ : am_St) (kv : Int32) (F : (Nat → Int64) → Prop) : Array Value → State → Outcome → State → Prop := fun _ st oc t => oc = .returned (some (.int kv)) ∧ ∃ f1, F f1 ∧ va_P D vwCl (am_wl cA base σ) t.heap ∧ t.heap[q]? = some (vp_cell cJ (1, .inr (.inl f1))) ∧ st.heap.size ≤ t.heap.size ∧ (∀ a, a < st.heap.size → ¬ base ≤ a → t.heap[a]? = st.heap[a]?)
def lw_hrm : Room := { frames := 2010, cells := 1, slots := 6, locals := 82000 }
theorem mt_13_7 : am_mth 13 7 0 = some mX11_step := rfl
set_option maxRecDepth 100000 in
/-- it doesn't throw -/
theorem hp_metA (l : Launch) (D : va_G) (cA : Nat → ClassId) (cJ : ClassId) (base q sz : Nat) (σ : am_St) (f : Nat → Int64) (x y r : Int32) (hk : g_o σ 0 11) (hq1 : base + σ.1 ≤ q) (hrun : am_run 1900 mX11_step [.ref 0, .int x, .int y] σ = some (some (.int r), σ)) :
    Met l yL_step lw_hw lw_hrm (lw_HP D cA cJ base q sz σ f x y) (lw_HQ D cA cJ base q σ 0 (fun f1 => f1 0 = r.toInt64)) 1 6 (fun a => base ≤ a) := by
  refine va_MetW (cc := cL_step) (maxL := 5) (ret := some .int) (hh := lw_hh) (by decide) rfl ?_
  intro p e s m args below meth c s₁ B hml hv
  obtain ⟨rfl, hsz, hP, hq, hK, hJ, hX⟩ := hv
  have hx := B.exec
  have hb := B.bytes
  have hr := B.returns
  have hts := atoms_spec (ws := lw_hw) B.pre
  have hg : ∀ w ∈ lw_good, w.before _ s = true := fun w hw => hts w (List.mem_cons_of_mem _ hw)
  have hown : s.vm.findClass RL = some m.cls := findClass_of_methodNamed B.named
  have hlocks := B.notSynchronized
  have hl := lv_entry ([.ref (base + 0), .int x, .int y, .ref q]) (n := 5) (Nat.le_of_ble_eq_true rfl)
  rw [lg_entry_eq]
  generalize (lg_sl ([.ref (base + 0), .int x, .int y, .ref q]) ++ List.replicate (5 - (lg_sl ([.ref (base + 0), .int x, .int y, .ref q])).length) Slot.unset).toArray = ls at hl ⊢
  have hl : lv_has ls 5 [(0, .ref (base + 0)), (1, .int x), (2, .int y), (3, .ref q)] := hl
  refine lv_aload_n hx hb dL_step_0 rfl (lv_at hl 3 rfl) ?_
  refine lv_iconst (v := 0) hx hb dL_step_1 (by decide) ?_
  refine lv_aload_n hx hb dL_step_2 rfl (lv_at hl 0 rfl) ?_
  refine lv_iload_n hx hb dL_step_3 rfl (lv_at hl 1 rfl) ?_
  refine lv_iload_n hx hb dL_step_4 rfl (lv_at hl 2 rfl) ?_
  obtain ⟨hgd, hln, hi, hvv, -, -⟩ := am_mth_ok mt_13_7
  obtain ⟨w1, w2, h13⟩ := hvv rfl
  obtain ⟨hM0, hm20⟩ := am_sound l D cA base 1900 mX11_step _ _ _ _ hgd hrun
  have hM := hM0 s.heap.size (Or.inl (Nat.le_refl _))
  have hqlt : q < s.heap.size := (Array.getElem?_eq_some_iff.mp hq).1
  have hPc : ∀ U : State, U.heap = s.heap → s.WarmedH U.vm → va_Pc ([Value.ref 0, .int x, .int y].map (am_v base)) (am_P D cA base s.heap.size σ) (Value.ref (base + 0) :: [.int x, .int y]).toArray U := fun U hU hW => ⟨rfl, by rw [hU], by rw [hU]; exact hP, am_K.moved hW.alike hK⟩
  have hrun2 := va_runV (p := p) (e := e) (below := below) (meth := meth) (locs := []) (cells := 0) (slots := 0) (C := RX11) (b := base + 0) (As := [.int x, .int y]) (rest := [.int 0, .ref q]) (g := F0 m 5 ls (.int y :: .int x :: .ref (base + 0) :: [.int 0, .ref q])) (R := (headSpec lw_hw lw_hrm).room) (n := 2) (index := 7) (own := RL) (Ts := lw_good) (cc := cL_step) (nL := 5) ⟨hx, hb, hml, hown, hg⟩ hM ⟨am_callB hg (d := 1900) (by decide) (by decide) hgd hm20 hln hi, hg _ w1, hg _ w2⟩ ⟨am_Pblind, va_recv hK.1 hP (am_cl_ok 11 h13) (by rw [am_wl_at hk.1, am_cell_obj hk.2]), hPc⟩ rfl rfl hl.1 rfl (lv_room (Nat.le_of_ble_eq_true rfl)) dL_step_5 ⟨by rw [Nat.sub_self]; decide, by rw [Nat.sub_self]; decide⟩
  intro T hT Y
  obtain ⟨v, st₀, t, T', Lo, h0, Y', hLo, e1, e2, ⟨hv', ⟨hsz1, hP1, -⟩, hF1, hF2⟩, st⟩ := hrun2 T hT Y
  have hv2 : v = some (.int r) := by cases hv'; rfl
  subst hv2
  rw [h0] at hF1 hF2
  have hnA : ¬ am_A base s.heap.size σ.1 q := fun z => by
    rcases z.2 with z | z
    · omega
    · omega
  have hS1 : va_S (fun a => base ≤ a) s.heap T'.heap ([] ++ Lo) := ⟨by rw [e1]; exact hF1, fun a h1 h2 => by rw [e1, hF2 a h1 (fun z => h2 z.1)], fun a ha => (hLo a ha).1⟩
  have hq' : T'.heap[q]? = some (vp_cell cJ (1, .inr (.inl f))) := by rw [e1, hF2 q hqlt hnA]; exact hq
  have hP' : va_P D vwCl (am_wl cA base σ) T'.heap := by rw [e1]; exact hP1
  have k1 : W p l e (headSpec lw_hw lw_hrm).room s m [Value.ref (base + 0), .int x, .int y, .ref q].toArray below meth c T'.heap ([] ++ Lo) (0 + (σ.1 - σ.1)) (0 + (σ.2.1 - σ.2.1)) (MQ below (lw_HQ D cA cJ base q σ 0 (fun f1 => f1 0 = r.toInt64)) [Value.ref (base + 0), .int x, .int y, .ref q].toArray s 1 6 (fun a => base ≤ a)) (F0 m 8 ls [.int r, .int 0, .ref q]) := by
    have hPo : va_P D vwCl (am_wl cA base σ ++ [(q, .inl (cJ, 1, .inr (.inl f)))]) T'.heap := hP'.app (fun k z hz => by
      match k, hz with
      | 0, hz => cases hz; exact hq'
      | k + 1, hz => simp at hz)
    have hlen : (am_wl cA base σ).length = σ.1 := by simp [am_wl]
    have hat : (am_wl cA base σ ++ [(q, .inl (cJ, 1, .inr (.inl f)))])[σ.1]? = some (q, .inl (cJ, 1, .inr (.inl f))) := by rw [List.getElem?_append_right (by omega)]; simp [hlen]
    have hDo : va_D (fun a => base ≤ a) (am_wl cA base σ ++ [(q, .inl (cJ, 1, .inr (.inl f)))]) := by
      have e9 : ∀ k z, (am_wl cA base σ ++ [(q, .inl (cJ, 1, .inr (.inl f)))])[k]? = some z → (k < σ.1 ∧ z.1 = base + k) ∨ (k = σ.1 ∧ z.1 = q) := by
        intro k z hz
        by_cases hk9 : k < σ.1
        · rw [List.getElem?_append_left (by omega)] at hz
          obtain ⟨-, rfl⟩ := am_wl_of hz
          exact Or.inl ⟨hk9, rfl⟩
        · rw [List.getElem?_append_right (by omega)] at hz
          have hz9 : k - (am_wl cA base σ).length < 1 := (List.getElem?_eq_some_iff.mp hz).1
          rw [show k - (am_wl cA base σ).length = 0 by omega] at hz
          cases hz
          exact Or.inr ⟨by omega, rfl⟩
      refine ⟨fun i j a b hi hj hab => ?_, fun k z hz => ?_⟩
      · rcases e9 i a hi with ⟨h1, h2⟩ | ⟨h1, h2⟩ <;> rcases e9 j b hj with ⟨h3, h4⟩ | ⟨h3, h4⟩ <;> omega
      · rcases e9 k z hz with ⟨h1, h2⟩ | ⟨h1, h2⟩
        · show base ≤ z.1
          omega
        · show base ≤ z.1
          omega
    have hKo : va_K D vwCl [(cJ, .long)] s := ⟨hK.1.1, fun k z hz => by
      match k, hz with
      | 0, hz => cases hz; exact hJ
      | k + 1, hz => simp at hz⟩
    refine lv_i2l hx hb dL_step_8 rfl ?_
    refine va_last (A := fun a => base ≤ a) hx hb hKo hPo hDo hS1 σ.1 0 hat rfl (by unfold vp_in; decide) dL_step_9 (fun H2 locs2 hP2 _ hS2 => ?_)
    refine lv_goto (tgt := 17) hx hb dL_step_10 (by decide) ?_
    refine lv_iconst (v := 0) hx hb dL_step_17 (by decide) ?_
    refine W.widen (k := 1) (n := 6) (by omega) (by omega) ?_
    have hP3 : va_P D vwCl (am_wl cA base σ) H2 := fun k z hz => by
      obtain ⟨hk9, rfl⟩ := am_wl_of hz
      refine hP2 k _ ?_
      rw [List.getElem?_set_ne (by omega), List.getElem?_append_left (by omega)]
      exact hz
    have hq3 : H2[q]? = some (vp_cell cJ (1, .inr (.inl (vp_updL f (0 : Int32).toNatClampNeg r.toInt64)))) := hP2 σ.1 _ (List.getElem?_set_self (by rw [List.length_append, hlen]; simp))
    exact W.iret (v := 0) hx hb hr (fun t ht hW => ⟨rfl, vp_updL f (0 : Int32).toNatClampNeg r.toInt64, rfl, by rw [ht]; exact hP3, by rw [ht]; exact hq3, by rw [ht]; exact hS2.1, fun a h1 h2 => by rw [ht]; exact hS2.2.1 a h1 h2⟩) hS2.2.2 dL_step_18
  obtain ⟨t2, a1, b1⟩ := k1 T' rfl Y'
  exact ⟨t2, st t2 a1, b1⟩
set_option maxRecDepth 100000 in
theorem lw_cl13 : Cond.classLink RL 13 lw_xN ∈ lw_good := by
  have h1 : [1, 2, 3, 4, 5, 6, 7, 8, 9].any (fun c => decide (Cond.classLink RL 13 lw_xN ∈ am_ch c)) = true := by decide +kernel
  obtain ⟨c, -, hc⟩ := List.any_eq_true.mp h1
  exact am_ch_mem c (of_decide_eq_true hc) rfl
theorem lw_castIn : Cond.castable lw_xN lw_xN ∈ lw_bad := by decide +kernel
set_option maxRecDepth 100000 in
/-- it throws -/
theorem hp_metB (l : Launch) (hfl : l.flags = flags0) (D : va_G) (cA : Nat → ClassId) (cJ : ClassId) (base q sz : Nat) (σ : am_St) (f : Nat → Int64) (x y : Int32) (hk : g_o σ 0 11) (hR : g_R σ 0 5 = some 102) (hj : g_o σ 102 2) (hq1 : base + σ.1 ≤ q) (ht : lw_thr σ x y) :
    Met l yL_step lw_hw lw_hrm (lw_HP D cA cJ base q sz σ f x y) (lw_HQ D cA cJ base q σ 1 (fun f1 => f1 = f)) 1 6 (fun a => base ≤ a) := by
  refine va_MetW (cc := cL_step) (maxL := 5) (ret := some .int) (hh := lw_hh) (by decide) rfl ?_
  intro p e s m args below meth c s₁ B hml hv
  obtain ⟨rfl, hsz, hP, hq, hK, hJ, hX⟩ := hv
  have hx := B.exec
  have hb := B.bytes
  have hr := B.returns
  have hts := atoms_spec (ws := lw_hw) B.pre
  have hg : ∀ w ∈ lw_good, w.before _ s = true := fun w hw => hts w (List.mem_cons_of_mem _ hw)
  have hown : s.vm.findClass RL = some m.cls := findClass_of_methodNamed B.named
  have hlocks := B.notSynchronized
  have htab : c.exceptionTable.toList = tableOf lw_hh := vx_table (x := yL_step) B (hts _ List.mem_cons_self)
  have hl := lv_entry ([.ref (base + 0), .int x, .int y, .ref q]) (n := 5) (Nat.le_of_ble_eq_true rfl)
  rw [lg_entry_eq]
  generalize (lg_sl ([.ref (base + 0), .int x, .int y, .ref q]) ++ List.replicate (5 - (lg_sl ([.ref (base + 0), .int x, .int y, .ref q])).length) Slot.unset).toArray = ls at hl ⊢
  have hl : lv_has ls 5 [(0, .ref (base + 0)), (1, .int x), (2, .int y), (3, .ref q)] := hl
  refine lv_aload_n hx hb dL_step_0 rfl (lv_at hl 3 rfl) ?_
  refine lv_iconst (v := 0) hx hb dL_step_1 (by decide) ?_
  refine lv_aload_n hx hb dL_step_2 rfl (lv_at hl 0 rfl) ?_
  refine lv_iload_n hx hb dL_step_3 rfl (lv_at hl 1 rfl) ?_
  refine lv_iload_n hx hb dL_step_4 rfl (lv_at hl 2 rfl) ?_
  obtain ⟨hgd, hln, hi, hvv, -, -⟩ := am_mth_ok mt_13_7
  obtain ⟨w1, w2, h13⟩ := hvv rfl
  have hM := st_met l hfl D cA base s.heap.size σ x y hk hR hj ht
  have hqlt : q < s.heap.size := (Array.getElem?_eq_some_iff.mp hq).1
  have hnA : ¬ am_A base s.heap.size σ.1 q := fun z => by
    rcases z.2 with z | z
    · omega
    · omega
  have hbs : base ≤ s.heap.size := by omega
  have hCB : CallB (headSpec lw_hw lw_hrm).room s [Value.ref (base + 0), .int x, .int y, .ref q].toArray RL 7 mX11_step.2.1 mX11_step.2.2.1 mX11_step.2.2.2.1 mX11_step.2.2.2.2.1 (am_wd mX11_step) st_rm 1 6 2 := by
    obtain ⟨hc9, ho⟩ := hgd
    simp only [am_okI, Bool.and_eq_true, decide_eq_true_eq, beq_iff_eq] at ho
    refine ⟨rfl, rfl, by decide, by decide, pay_in hg (fun w hw => ?_), List.mem_cons_self, hg _ hc9, hg _ hi, ⟨ho.1.1.2, ho.1.2⟩, fun sig h => ?_, hg _ hln⟩
    · rcases List.mem_cons.mp hw with rfl | hw
      · exact ⟨hc9, am_good_in hc9⟩
      · exact ⟨hw, am_good_in hw⟩
    · have h2 := ho.2
      rw [h] at h2
      exact (Option.some.inj h2).symm
  have hblind : FrameBlind (va_Pc [Value.ref (base + 0), .int x, .int y] (fun U => am_P D cA base s.heap.size σ U ∧ lw_X base U)) := fun _ U g mk z => ⟨z.1, ⟨z.2.1.1, z.2.1.2.1, am_K.moved (u := U) (U := U.calling g mk _) (Vm.Alike.refl U.vm) z.2.1.2.2⟩, ⟨vx_Zq.moved (u := U) (U := U.calling g mk _) (Vm.Alike.refl U.vm) z.2.2.1, vx_Zq.moved (u := U) (U := U.calling g mk _) (Vm.Alike.refl U.vm) z.2.2.2.1, fun w hw => (by
    have h1 := List.all_eq_true.mp lw_bad_ok w hw
    match w, h1, z.2.2.2.2 w hw with
    | .castable _ _, _, h => exact va_Nw.same rfl (show U.vm = (U.calling g mk _).vm from rfl) h
    | .declares _, _, h => exact va_Nw.same rfl (show U.vm = (U.calling g mk _).vm from rfl) h)⟩⟩
  refine vx_calli (A0 := fun a => base ≤ a) (H0 := s.heap) (a := (Value.ref (base + 0) :: [.int x, .int y]).toArray) (vx_runV (C := RX11) (b := base + 0) (As := [.int x, .int y]) (rest := [.int 0, .ref q]) (n := 2) (index := 7) (own := RL) (Ts := lw_good) (cc := cL_step) (nL := 5) ⟨hx, hb, hml, hown, hg⟩ hM ⟨hCB, hg _ w1, hg _ w2⟩ ⟨hblind, va_recv hK.1 hP (am_cl_ok 11 h13) (by rw [am_wl_at hk.1, am_cell_obj hk.2]), fun U hU hW => ⟨rfl, ⟨by rw [hU], by rw [hU]; exact hP, am_K.moved hW.alike hK⟩, hX.to (locs := []) hW (by rw [hU]; exact va_S.rf)⟩⟩ rfl rfl hl.1 rfl (lv_room (Nat.le_of_ble_eq_true rfl)) dL_step_5 ⟨by decide, by decide⟩) va_S.rf (fun a _ h => h.1) (fun a h => h.1) (fun a _ h => h.1) (fun E ce q9 u t H1 locs1 ht1 hal _ hBX hz1 hk1 hS1 hce hcv hcl => ?_) (fun r u t H1 locs1 _ _ hpost _ _ _ _ => hpost.elim)
  obtain ⟨rfl, hP1⟩ := hBX
  rw [ht1] at hP1
  have hq1' : H1[q]? = some (vp_cell cJ (1, .inr (.inl f))) := by rw [hk1 q hqlt hnA]; exact hq
  refine vx_catch (own := RL) (name := lw_xN) (E := lw_xN) (ce := ce) hown [] ⟨0, 10, 13, 13⟩ [] (by rw [htab]; rfl) (fun z hz => nomatch hz) (by decide) (by decide) (hg _ lw_cl13) (va_Nw.use rfl (hX.2.2 _ lw_castIn)) hce hcv hcl ?_
  refine lv_astore (lv' := [(4, .ref q9), (0, .ref (base + 0)), (1, .int x), (2, .int y), (3, .ref q)]) hx hb dL_step_13 hl (by decide) rfl (fun ls hl => ?_)
  refine lv_iconst (v := 1) hx hb dL_step_15 (by decide) ?_
  refine W.widen (k := 1) (n := 6) (by omega) (by omega) ?_
  exact W.iret (v := 1) hx hb hr (fun t ht hW => ⟨rfl, f, rfl, by rw [ht]; exact hP1, by rw [ht]; exact hq1', by rw [ht]; exact hS1.1, fun a h1 h2 => by rw [ht]; exact hS1.2.1 a h1 h2⟩) hS1.2.2 dL_step_16
theorem lw_sw : Cond.codeWith yL_step cL_step 5 (some .int) lw_hh ∈ lw_good ∧ Cond.methodLink RL 51 yL_step ∈ lw_good ∧ Cond.static yL_step ∈ lw_good ∧ Cond.initialized RL ∈ lw_good := by
  exact ⟨am_ch_mem 6 (List.mem_of_getElem? (i := 125) rfl) rfl, am_ch_mem 6 (List.mem_of_getElem? (i := 123) rfl) rfl, am_ch_mem 6 (List.mem_of_getElem? (i := 124) rfl) rfl, am_ch_mem 1 (List.mem_of_getElem? (i := 0) rfl) rfl⟩
section LWS
variable {p : Program} {l : Launch} {e : Env} {s : State} {m : MethodId} {below : List Frame} {meth : Method} {c : Code} {H : Heap} {locs : List Loc} {Q : State → Prop} {cells slots : Nat} {ls : Array Slot} {rest : List Value}
variable {D : va_G} {cA : Nat → ClassId} {cJ : ClassId} {base q b : Nat} {σ σ1 : am_St} {f : Nat → Int64}
theorem lw_Xof (hC : lw_Cx p l s m meth c D cA cJ base b) : lw_X base s := by
  obtain ⟨hx, hb, hr, hml, hown, hts, hlk, hK, hJ, hsz, hfl, hgv⟩ := hC
  have hs := flat_of_before _ hgv
  have hA : ∀ a : Nat, a < s.heap.size → ¬ base ≤ a := fun a h => by omega
  have i0 := hts (.initialized Bundle.tN) (am_ch_in 1 (List.mem_of_getElem? (i := 16) rfl))
  refine ⟨vx_Zqof (hts (.laysStatic Bundle.tN "UNASSIGNED_STACK" Bundle.steD) (am_ch_in 6 (List.mem_of_getElem? (i := 158) rfl))) i0 (hs _ (by decide +kernel)) hA, vx_Zqof (hts (.laysStatic Bundle.tN "SUPPRESSED_SENTINEL" Bundle.listD) (am_ch_in 6 (List.mem_of_getElem? (i := 160) rfl))) i0 (hs _ (by decide +kernel)) hA, fun w hw => ?_⟩
  have h1 : lw_bad.all (fun w => [1, 2, 3, 4, 5, 6, 7, 8, 9].any (fun c => decide (w ∈ am_ch c))) = true := by decide +kernel
  obtain ⟨c9, -, hc9⟩ := List.any_eq_true.mp (List.all_eq_true.mp h1 w hw)
  have h2 := hts w (am_ch_in c9 (of_decide_eq_true hc9))
  have h3 := List.all_eq_true.mp lw_bad_ok w hw
  match w, h3, h2 with
  | .castable _ _, _, h => exact va_Nw.of rfl h
  | .declares _, _, h => exact va_Nw.of rfl h
theorem lw_step_call {x y : Int32} (hC : lw_Cx p l s m meth c D cA cJ base b) (hV : lw_V s D cA cJ base q σ f H locs) (hls : ls.size = 7) (hcat : (rest.map fun v => v.category).sum ≤ 8) (hc : cells + 1 ≤ 601024) (hs : slots + 6 ≤ 7293034) (hk : g_o σ 0 11) (hR : g_R σ 0 5 = some 102) (hj : g_o σ 102 2)
    (kA : ∀ r, am_run 1900 mX11_step [.ref 0, .int x, .int y] σ = some (some (.int r), σ) → ∀ (H1 : Heap) (locs1 : List Loc) (f1 : Nat → Int64), lw_V s D cA cJ base q σ f1 H1 locs1 → f1 0 = r.toInt64 → W p l e room_1 s m #[Value.ref b] below meth c H1 locs1 (cells + 1) (slots + 6) Q (F0 m 352 ls (.int 0 :: rest)))
    (kB : lw_thr σ x y → ∀ (H1 : Heap) (locs1 : List Loc), lw_V s D cA cJ base q σ f H1 locs1 → W p l e room_1 s m #[Value.ref b] below meth c H1 locs1 (cells + 1) (slots + 6) Q (F0 m 352 ls (.int 1 :: rest)))
    (hor : (∃ r, am_run 1900 mX11_step [.ref 0, .int x, .int y] σ = some (some (.int r), σ)) ∨ lw_thr σ x y) :
    W p l e room_1 s m #[Value.ref b] below meth c H locs cells slots Q (F0 m 349 ls (.ref q :: .int y :: .int x :: .ref (base + 0) :: rest)) := by
  have hXs := lw_Xof hC
  obtain ⟨hx, hb, hr, hml, hown, hts, hlk, hK, hJ, hsz, hfl, hgv⟩ := hC
  obtain ⟨hP, hq, hqb, hS⟩ := hV
  have hg : ∀ w ∈ lw_good, w.before #[Value.ref b] s = true := fun w hw => hts w (List.mem_filter.mp hw).1
  have key : ∀ (kv : Int32) (F : (Nat → Int64) → Prop), Met l yL_step lw_hw lw_hrm (lw_HP D cA cJ base q H.size σ f x y) (lw_HQ D cA cJ base q σ kv F) 1 6 (fun a => base ≤ a) → (∀ (H1 : Heap) (locs1 : List Loc) (f1 : Nat → Int64), lw_V s D cA cJ base q σ f1 H1 locs1 → F f1 → W p l e room_1 s m #[Value.ref b] below meth c H1 locs1 (cells + 1) (slots + 6) Q (F0 m 352 ls (.int kv :: rest))) → W p l e room_1 s m #[Value.ref b] below meth c H locs cells slots Q (F0 m 349 ls (.ref q :: .int y :: .int x :: .ref (base + 0) :: rest)) := by
    intro kv F hM kk
    have hcw : vx_CSW room_1 s #[Value.ref b] RL 51 yL_step cL_step 5 (some .int) lw_hh lw_hw lw_hrm 1 6 4 := by
      refine ⟨⟨rfl, rfl, by decide, by decide, pay_in hg (fun w hw => ?_), List.mem_cons_self⟩, hg _ lw_sw.1, hg _ lw_sw.2.2.2, ⟨by decide, by decide⟩, fun sig h => ?_, hg _ lw_sw.2.1, hg _ lw_sw.2.2.1⟩
      · rcases List.mem_cons.mp hw with rfl | hw
        · exact ⟨lw_sw.1, am_good_in lw_sw.1⟩
        · exact ⟨hw, am_good_in hw⟩
      · have h2 : (parseMethodDescriptor yL_step.desc).map (fun d => d.parameters.length) = some 4 := by decide +kernel
        rw [h] at h2
        exact (Option.some.inj h2).symm
    have hblind : FrameBlind (lw_HP D cA cJ base q H.size σ f x y) := fun _ U g mk z => ⟨z.1, z.2.1, z.2.2.1, z.2.2.2.1, am_K.moved (u := U) (U := U.calling g mk _) (Vm.Alike.refl U.vm) z.2.2.2.2.1, ⟨arrOfT_moved (Vm.Alike.refl U.vm) z.2.2.2.2.2.1.1, z.2.2.2.2.2.1.2.moved (Vm.Alike.refl U.vm)⟩, ⟨vx_Zq.moved (u := U) (U := U.calling g mk _) (Vm.Alike.refl U.vm) z.2.2.2.2.2.2.1, vx_Zq.moved (u := U) (U := U.calling g mk _) (Vm.Alike.refl U.vm) z.2.2.2.2.2.2.2.1, fun w hw => (by
      have h1 := List.all_eq_true.mp lw_bad_ok w hw
      match w, h1, z.2.2.2.2.2.2.2.2 w hw with
      | .castable _ _, _, h => exact va_Nw.same rfl (show U.vm = (U.calling g mk _).vm from rfl) h
      | .declares _, _, h => exact va_Nw.same rfl (show U.vm = (U.calling g mk _).vm from rfl) h)⟩⟩
    have hrun2 := vx_runSW (p := p) (e := e) (below := below) (meth := meth) (locs := locs) (cells := cells) (slots := slots) (As := [.ref (base + 0), .int x, .int y, .ref q]) (rest := rest) (g := F0 m 349 ls (.ref q :: .int y :: .int x :: .ref (base + 0) :: rest)) (R := room_1) (n := 4) (index := 51) (own := RL) (Ts := lw_good) (cc := code) (nL := 7) ⟨hx, hb, hml, hown, hg⟩ hM hcw ⟨hblind, fun U hU hW => ⟨rfl, by rw [hU], by rw [hU]; exact hP, by rw [hU]; exact hq, am_K.moved hW.alike hK, ⟨arrOfT_moved hW.alike hJ.1, hJ.2.moved hW.alike⟩, hXs.to hW (by rw [hU]; exact hS)⟩⟩ rfl rfl hls rfl (lv_room hcat) dL_law_349 ⟨hc, hs⟩
    intro T hT Y
    obtain ⟨v, st₀, t, T', Lo, h0, Y', hLo, e1, e2, ⟨hv', f1, hF, hP1, hq1, hF1, hF2⟩, st⟩ := hrun2 T hT Y
    have hv2 : v = some (.int kv) := by cases hv'; rfl
    subst hv2
    rw [h0] at hF1 hF2
    have hS1 : va_S (fun a => base ≤ a) s.heap T'.heap (locs ++ Lo) := ⟨Nat.le_trans hS.1 (by rw [e1]; exact hF1), fun a h1 h2 => by rw [e1, hF2 a (Nat.lt_of_lt_of_le h1 hS.1) h2]; exact hS.2.1 a h1 h2, fun a ha => by
      rcases List.mem_append.mp ha with h | h
      · exact hS.2.2 a h
      · exact hLo a h⟩
    obtain ⟨t2, a1, b1⟩ := kk T'.heap (locs ++ Lo) f1 ⟨by rw [e1]; exact hP1, by rw [e1]; exact hq1, hqb, hS1⟩ hF T' rfl Y'
    exact ⟨t2, st t2 a1, b1⟩
  rcases hor with ⟨r, hr0⟩ | ht
  · exact key 0 _ (hp_metA l D cA cJ base q H.size σ f x y r hk hqb hr0) (fun H1 locs1 f1 hV1 hf1 => kA r hr0 H1 locs1 f1 hV1 hf1)
  · exact key 1 _ (hp_metB l hfl D cA cJ base q H.size σ f x y hk hR hj hqb ht) (fun H1 locs1 f1 hV1 hf1 => kB ht H1 locs1 (by rw [← hf1]; exact hV1))
end LWS
end
section
section LW2
variable {p : Program} {l : Launch} {e : Env} {s : State} {m : MethodId} {below : List Frame} {meth : Method} {c : Code} {H : Heap} {locs : List Loc} {Q : State → Prop} {cells slots : Nat} {ls : Array Slot} {rest : List Value}
variable {D : va_G} {cA : Nat → ClassId} {cJ : ClassId} {base q b : Nat} {σ σ1 : am_St} {f : Nat → Int64} {pc : Nat}
/-- a call that the law makes -/
theorem lw_call {idx k : Nat} {mi : am_I} {is : List Int32} {r : Int32} (hC : lw_Cx p l s m meth c D cA cJ base b) (hd : decode code pc = .ok (.invokevirtual idx, 3)) (hm : am_mth 13 idx 0 = some mi) (hn : is.length = mi.2.2.2.2.2.1) (hk : g_o σ k mi.1) (hrun : am_run 2000 mi (.ref k :: is.map Value.int) σ = some (some (.int r), σ1)) (hsm : lw_sm σ σ1) (hls : ls.size = 7) (hcat : (rest.map fun v => v.category).sum ≤ 8) (hc : cells ≤ 601024) (hs : slots ≤ 7293034)
    (hV : lw_V s D cA cJ base q σ f H locs) (kk : ∀ (H1 : Heap) (locs1 : List Loc), lw_V s D cA cJ base q σ1 f H1 locs1 → W p l e room_1 s m #[Value.ref b] below meth c H1 locs1 cells slots Q (F0 m (pc + 3) ls (.int r :: rest))) :
    W p l e room_1 s m #[Value.ref b] below meth c H locs cells slots Q (F0 m pc ls ((is.map Value.int).reverse ++ .ref (base + k) :: rest)) := by
  obtain ⟨hx, hb, hr, hml, hown, hts, hlk, hK, hJ, hsz, hfl, hgv⟩ := hC
  obtain ⟨hP, hq, hqb, hS⟩ := hV
  have hg : ∀ w ∈ lw_good, w.before #[Value.ref b] s = true := fun w hw => hts w (List.mem_filter.mp hw).1
  obtain ⟨hgd, hl, hi, hv, -, -⟩ := am_mth_ok hm
  obtain ⟨w1, w2, h13⟩ := hv rfl
  obtain ⟨hM0, hm20⟩ := am_sound l D cA base 2000 mi _ _ _ _ hgd hrun
  have hM := hM0 H.size (Or.inl (by rw [hsm.1]; exact Nat.le_refl _))
  have hcn : mi.2.1.cls = am_Rn mi.1 := by
    have ho := hgd.2
    simp only [am_okI, Bool.and_eq_true, decide_eq_true_eq, beq_iff_eq] at ho
    exact ho.1.1.1.1
  have hmap : (is.map Value.int).map (am_v base) = is.map Value.int := by
    rw [List.map_map]
    rfl
  have hqlt : q < H.size := (Array.getElem?_eq_some_iff.mp hq).1
  have hPc : ∀ U : State, U.heap = H → s.WarmedH U.vm → va_Pc ((Value.ref k :: is.map Value.int).map (am_v base)) (am_P D cA base H.size σ) (Value.ref (base + k) :: is.map Value.int).toArray U := fun U hU hW => ⟨by rw [List.map_cons, hmap]; rfl, by rw [hU], by rw [hU]; exact hP, am_K.moved hW.alike hK⟩
  have hrun2 := va_runV (p := p) (e := e) (below := below) (meth := meth) (locs := locs) (cells := cells) (slots := slots) (C := am_Rn mi.1) (b := base + k) (As := is.map Value.int) (rest := rest) (g := F0 m pc ls ((is.map Value.int).reverse ++ .ref (base + k) :: rest)) (R := room_1) (n := mi.2.2.2.2.2.1) (index := idx) (own := RL) (Ts := lw_good) (cc := code) (nL := 7) ⟨hx, hb, hml, hown, hg⟩ hM ⟨am_callB hg (d := 2000) (by decide) (by decide) hgd hm20 hl hi, hg _ w1, by rw [← hcn]; exact hg _ w2⟩ ⟨am_Pblind, va_recv hK.1 hP (am_cl_ok mi.1 h13) (by rw [am_wl_at hk.1, am_cell_obj hk.2]), hPc⟩ rfl (by rw [List.length_map]; exact hn) hls rfl (lv_room hcat) hd ⟨by show cells + (σ1.1 - σ.1) ≤ 601024; rw [hsm.1]; omega, by show slots + (σ1.2.1 - σ.2.1) ≤ 7293034; rw [hsm.2.1]; omega⟩
  intro T hT Y
  obtain ⟨v, st₀, t, T', Lo, h0, Y', hLo, e1, e2, ⟨hv', ⟨hsz1, hP1, -⟩, hF1, hF2⟩, st⟩ := hrun2 T hT Y
  have hv2 : v = some (.int r) := by cases hv'; rfl
  subst hv2
  rw [h0] at hF1 hF2
  have hnA : ¬ am_A base H.size σ.1 q := fun z => by
    rcases z.2 with z | z
    · omega
    · omega
  have hS1 : va_S (fun a => base ≤ a) s.heap T'.heap (locs ++ Lo) := ⟨Nat.le_trans hS.1 (by rw [e1]; exact hF1), fun a h1 h2 => by rw [e1, hF2 a (Nat.lt_of_lt_of_le h1 hS.1) (fun z => h2 z.1)]; exact hS.2.1 a h1 h2, fun a ha => by
      rcases List.mem_append.mp ha with h | h
      · exact hS.2.2 a h
      · exact (hLo a h).1⟩
  have k1 := kk T'.heap (locs ++ Lo) ⟨by rw [e1]; exact hP1, by rw [e1, hF2 q hqlt hnA]; exact hq, by rw [hsm.1]; exact hqb, hS1⟩
  rw [show σ1.1 - σ.1 = 0 by rw [hsm.1]; omega, show σ1.2.1 - σ.2.1 = 0 by rw [hsm.2.1]; omega] at Y'
  obtain ⟨t2, a1, b1⟩ := k1 T' rfl Y'
  exact ⟨t2, st t2 a1, b1⟩
end LW2
/-- what an operation must be: both answer alike, and it goes on well -/
def lw_op (I' : am_St → Prop) (σ : am_St) (mc mm : am_I) (is : List Int32) : Prop := ∃ r σ1 σ2, am_run 2000 mc (.ref 0 :: is.map Value.int) σ = some (some (.int r), σ1) ∧ am_run 2000 mm (.ref 161 :: is.map Value.int) σ1 = some (some (.int r), σ2) ∧ lw_sm σ σ1 ∧ lw_sm σ1 σ2 ∧ I' σ2
def lw_st (I' : am_St → Prop) (σ : am_St) (x y : Int32) : Prop := ((∃ r, am_run 1900 mX11_step [.ref 0, .int x, .int y] σ = some (some (.int r), σ)) ∨ lw_thr σ x y) ∧
  (∀ r, am_run 1900 mX11_step [.ref 0, .int x, .int y] σ = some (some (.int r), σ) → ∃ σ2 σ3, am_run 2000 mX12_step (.ref 161 :: [x, y].map Value.int) σ = some (some (.int r), σ2) ∧ am_run 2000 mX12_thrown (.ref 161 :: ([] : List Int32).map Value.int) σ2 = some (some (.int 0), σ3) ∧ lw_sm σ σ2 ∧ lw_sm σ2 σ3 ∧ I' σ3) ∧
  (lw_thr σ x y → ∃ r σ2 σ3, am_run 2000 mX12_step (.ref 161 :: [x, y].map Value.int) σ = some (some (.int r), σ2) ∧ am_run 2000 mX12_thrown (.ref 161 :: ([] : List Int32).map Value.int) σ2 = some (some (.int 1), σ3) ∧ lw_sm σ σ2 ∧ lw_sm σ2 σ3 ∧ I' σ3)
/-- the shapes that every state has -/
def lw_sh (σ : am_St) : Prop := σ.1 = 194 ∧ (∀ k, k < 194 → σ.2.2.1 k = kk_SH.getD k (0, 0)) ∧ g_R σ 0 5 = some 102
theorem lw_sh_o {σ : am_St} (h : lw_sh σ) {k c : Nat} (hk : k < 194) (hc : (kk_SH.getD k (0, 0)).1 = c + 4) : g_o σ k c := ⟨by rw [h.1]; exact hk, by rw [h.2.1 k hk]; exact hc⟩
theorem lw_sm_o {σ σ1 : am_St} (h : lw_sm σ σ1) {k c : Nat} (hk : g_o σ k c) : g_o σ1 k c := ⟨by rw [h.1]; exact hk.1, by rw [h.2.2]; exact hk.2⟩
end
section
set_option maxRecDepth 100000 in
theorem mt_13_19 : am_mth 13 19 0 = some mX11_feed := rfl
set_option maxRecDepth 100000 in
theorem mt_13_23 : am_mth 13 23 0 = some mX12_feed := rfl
set_option maxRecDepth 100000 in
theorem mt_13_24 : am_mth 13 24 0 = some mX11_end := rfl
set_option maxRecDepth 100000 in
theorem mt_13_28 : am_mth 13 28 0 = some mX12_end := rfl
set_option maxRecDepth 100000 in
theorem mt_13_29 : am_mth 13 29 0 = some mX11_fault := rfl
set_option maxRecDepth 100000 in
theorem mt_13_33 : am_mth 13 33 0 = some mX12_fault := rfl
set_option maxRecDepth 100000 in
theorem mt_13_34 : am_mth 13 34 0 = some mX11_infers := rfl
set_option maxRecDepth 100000 in
theorem mt_13_38 : am_mth 13 38 0 = some mX12_infers_ := rfl
set_option maxRecDepth 100000 in
theorem mt_13_39 : am_mth 13 39 0 = some mX11_below := rfl
set_option maxRecDepth 100000 in
theorem mt_13_42 : am_mth 13 42 0 = some mX12_below_ := rfl
set_option maxRecDepth 100000 in
theorem mt_13_43 : am_mth 13 43 0 = some mX11_judged := rfl
set_option maxRecDepth 100000 in
theorem mt_13_46 : am_mth 13 46 0 = some mX12_judged := rfl
set_option maxRecDepth 100000 in
theorem mt_13_47 : am_mth 13 47 0 = some mX11_type := rfl
set_option maxRecDepth 100000 in
theorem mt_13_50 : am_mth 13 50 0 = some mX12_type := rfl
set_option maxRecDepth 100000 in
theorem mt_13_56 : am_mth 13 56 0 = some mX12_step := rfl
set_option maxRecDepth 100000 in
theorem mt_13_57 : am_mth 13 57 0 = some mX12_thrown := rfl
set_option maxRecDepth 100000 in
theorem mt_13_60 : am_mth 13 60 0 = some mX11_entry := rfl
set_option maxRecDepth 100000 in
theorem mt_13_63 : am_mth 13 63 0 = some mX12_entry := rfl
set_option maxRecDepth 100000 in
theorem mt_13_64 : am_mth 13 64 0 = some mX11_entryType := rfl
set_option maxRecDepth 100000 in
theorem mt_13_67 : am_mth 13 67 0 = some mX12_entryType := rfl
set_option maxRecDepth 100000 in
theorem mt_13_68 : am_mth 13 68 0 = some mX11_keeps := rfl
set_option maxRecDepth 100000 in
theorem mt_13_71 : am_mth 13 71 0 = some mX12_keeps := rfl
set_option maxRecDepth 100000 in
theorem mt_13_72 : am_mth 13 72 0 = some mX11_drops := rfl
set_option maxRecDepth 100000 in
theorem mt_13_75 : am_mth 13 75 0 = some mX12_drops := rfl
set_option maxRecDepth 100000 in
theorem mt_13_76 : am_mth 13 76 0 = some mX11_shelf := rfl
set_option maxRecDepth 100000 in
theorem mt_13_79 : am_mth 13 79 0 = some mX12_shelf := rfl
set_option maxRecDepth 100000 in
theorem mt_13_80 : am_mth 13 80 0 = some mX11_shelfType := rfl
set_option maxRecDepth 100000 in
theorem mt_13_83 : am_mth 13 83 0 = some mX12_shelfType := rfl
set_option maxRecDepth 100000 in
theorem mt_13_84 : am_mth 13 84 0 = some mX11_worked := rfl
set_option maxRecDepth 100000 in
theorem mt_13_87 : am_mth 13 87 0 = some mX12_worked := rfl
set_option maxRecDepth 100000 in
theorem mt_13_88 : am_mth 13 88 0 = some mX11_asks := rfl
set_option maxRecDepth 100000 in
theorem mt_13_91 : am_mth 13 91 0 = some mX12_asks := rfl
set_option maxRecDepth 100000 in
theorem mt_13_92 : am_mth 13 92 0 = some mX11_tells := rfl
set_option maxRecDepth 100000 in
theorem mt_13_95 : am_mth 13 95 0 = some mX12_tells := rfl
set_option maxRecDepth 100000 in
theorem mt_13_96 : am_mth 13 96 0 = some mX11_shelfBelow := rfl
set_option maxRecDepth 100000 in
theorem mt_13_99 : am_mth 13 99 0 = some mX12_shelfBelow := rfl
set_option maxRecDepth 100000 in
theorem mt_13_100 : am_mth 13 100 0 = some mX11_count := rfl
set_option maxRecDepth 100000 in
theorem mt_13_103 : am_mth 13 103 0 = some mX12_count := rfl
set_option maxRecDepth 100000 in
theorem mt_13_104 : am_mth 13 104 0 = some mX11_byRule := rfl
set_option maxRecDepth 100000 in
theorem mt_13_107 : am_mth 13 107 0 = some mX12_byRule := rfl
/-- all operations are well -/
def lw_ops (I' : am_St → Prop) (σ : am_St) : Prop := I' σ ∧ (∀ a b c d e : Int32, lw_op I' σ mX11_feed mX12_feed [a, b, c, d, e]) ∧ (∀ a : Int32, lw_op I' σ mX11_end mX12_end [a]) ∧ (∀ a : Int32, lw_op I' σ mX11_fault mX12_fault [a]) ∧ lw_op I' σ mX11_infers mX12_infers_ [] ∧ lw_op I' σ mX11_below mX12_below_ [] ∧ (∀ a : Int32, lw_op I' σ mX11_judged mX12_judged [a]) ∧ (∀ a : Int32, lw_op I' σ mX11_type mX12_type [a]) ∧ (∀ x y, lw_st I' σ x y) ∧ (∀ a b : Int32, lw_op I' σ mX11_entry mX12_entry [a, b]) ∧ (∀ a b : Int32, lw_op I' σ mX11_entryType mX12_entryType [a, b]) ∧ (∀ a : Int32, lw_op I' σ mX11_keeps mX12_keeps [a]) ∧ lw_op I' σ mX11_drops mX12_drops [] ∧ (∀ a b : Int32, lw_op I' σ mX11_shelf mX12_shelf [a, b]) ∧ (∀ a b : Int32, lw_op I' σ mX11_shelfType mX12_shelfType [a, b]) ∧ (∀ a : Int32, lw_op I' σ mX11_worked mX12_worked [a]) ∧ lw_op I' σ mX11_asks mX12_asks [] ∧ (∀ a : Int32, lw_op I' σ mX11_tells mX12_tells [a]) ∧ (∀ a b : Int32, lw_op I' σ mX11_shelfBelow mX12_shelfBelow [a, b]) ∧ (∀ a : Int32, lw_op I' σ mX11_count mX12_count [a]) ∧ (∀ a : Int32, lw_op I' σ mX11_byRule mX12_byRule [a])
theorem lw_lt {L : Nat} (h : L < 6) : Int32.ofNat L - 6 < 0 := by
  rcases (show L = 0 ∨ L = 1 ∨ L = 2 ∨ L = 3 ∨ L = 4 ∨ L = 5 by omega) with rfl | rfl | rfl | rfl | rfl | rfl <;> decide
theorem lw_sub {L : Nat} (h : 6 ≤ L) : Int32.ofNat L - 6 = nI (L - 6) := by
  obtain ⟨k, rfl⟩ := Nat.exists_eq_add_of_le h
  rw [show 6 + k - 6 = k by omega, show Int32.ofNat (6 + k) = nI (k + 6) by rw [Nat.add_comm]; rfl, ← nI_add]
  exact (by simp [show nI 6 = 6 from rfl] : nI k + nI 6 - 6 = nI k)
set_option maxRecDepth 100000 in
set_option maxHeartbeats 8000000 in
theorem law_loop {p : Program} {l : Launch} {e : Env} {s : State} {m : MethodId} {below : List Frame} {meth : Method} {c : Code} {D : va_G} {cA : Nat → ClassId} {cJ : ClassId} {base q b L K : Nat} {xs : Nat → Int32} (hLK : L ≤ 6 * K + 5) (hK5 : K ≤ 512) (Inv : Nat → am_St → Prop) (hsh : ∀ i σ, Inv i σ → lw_sh σ) (hops : ∀ i σ, i < K → Inv i σ → lw_ops (Inv (i + 1)) σ) (hC : lw_Cx p l s m meth c D cA cJ base b) (hX : va_X b L xs s s.heap) (hbl : b < s.heap.size) :
    ∀ (n i : Nat) (x4 : Int32) (σ : am_St) (f : Nat → Int64) (H : Heap) (locs : List Loc) (ls : Array Slot), 6 * i ≤ L → L + 1 ≤ 6 * i + n → x4 = nI (6 * i) → Inv i σ → lw_V s D cA cJ base q σ f H locs → lv_has ls 7 [(0, .ref b), (1, .ref (base + 0)), (2, .ref (base + 161)), (3, .ref q), (4, .int x4)] → W p l e room_1 s m #[Value.ref b] below meth c H locs (195 + i) (1187153 + 6 * i) (lw_Z below #[Value.ref b] s) (F0 m 23 ls []) := by
  have hC' := hC
  obtain ⟨hx, hb, hr, hml, hown, hts, hlk, hKK, hJ, hsz, hfl, hgv⟩ := hC'
  have hbA : ¬ (fun a : Nat => base ≤ a) b := fun z => by
    have : base ≤ b := z
    omega
  intro n
  induction n with
  | zero => intro i x4 σ f H locs ls h1 h2; exact absurd h2 (by omega)
  | succ n ih =>
    intro i x4 σ f H locs ls hi hin ex4 hI hV hl
    have hsh0 := hsh i σ hI
    refine lv_iload hx hb dL_law_23 (lv_at hl 4 rfl) ?_
    refine lv_aload_n hx hb dL_law_25 rfl (lv_at hl 0 rfl) ?_
    refine va_slen hx hb hX hbl hbA hV.2.2.2 dL_law_26 ?_
    refine lv_bipush (v := 6) hx hb dL_law_27 (by decide) ?_
    refine lv_isub hx hb dL_law_29 ?_
    refine lv_icmp_gt (tgt := 745) hx hb dL_law_30 (by decide) (fun c_0 => ?_) (fun c_0 => ?_)
    · refine lv_iconst (v := 1) hx hb dL_law_745 (by decide) ?_
      refine va_forget (fun a ha => by have := hV.2.2.2.2.2 a ha; omega) ?_
      refine W.widen (k := 601024) (n := 7293034) (by omega) (by omega) ?_
      exact lw_ret hx hb hr hlk dL_law_746
    · have h6 : 6 ≤ L := by
        rcases Nat.lt_or_ge L 6 with q6 | q6
        · have hi0 : i = 0 := by omega
          subst hi0
          exact absurd (by rw [ex4]; exact lw_lt q6) c_0
        · exact q6
      have h66 : 6 * i + 6 ≤ L := by
        rcases Nat.lt_or_ge (L - 6) (6 * i) with q6 | q6
        · exact absurd (by rw [ex4, lw_sub h6]; exact nI_lt q6 (by omega)) c_0
        · omega
      have hiK : i < K := by omega
      have hO := hops i σ hiK hI
      obtain ⟨hO0, hO1, hO2, hO3, hO4, hO5, hO6, hO7, hO8, hO9, hO10, hO11, hO12, hO13, hO14, hO15, hO16, hO17, hO18, hO19, hO20⟩ := hO
      have hin0 : vp_in x4 L := by rw [ex4]; exact vp_in_nI (by omega) (by omega)
      have hin1 : vp_in (x4 + 1) L := by rw [ex4, show nI (6 * i) + 1 = nI (6 * i + 1) from nI_add (6 * i) 1]; exact vp_in_nI (by omega) (by omega)
      have hin2 : vp_in (x4 + 2) L := by rw [ex4, show nI (6 * i) + 2 = nI (6 * i + 2) from nI_add (6 * i) 2]; exact vp_in_nI (by omega) (by omega)
      have hin3 : vp_in (x4 + 3) L := by rw [ex4, show nI (6 * i) + 3 = nI (6 * i + 3) from nI_add (6 * i) 3]; exact vp_in_nI (by omega) (by omega)
      have hin4 : vp_in (x4 + 4) L := by rw [ex4, show nI (6 * i) + 4 = nI (6 * i + 4) from nI_add (6 * i) 4]; exact vp_in_nI (by omega) (by omega)
      have hin5 : vp_in (x4 + 5) L := by rw [ex4, show nI (6 * i) + 5 = nI (6 * i + 5) from nI_add (6 * i) 5]; exact vp_in_nI (by omega) (by omega)
      have tail : ∀ (σ2 : am_St) (f2 : Nat → Int64) (H2 : Heap) (locs2 : List Loc) (ls2 : Array Slot) (l5 : List (Nat × Value)) (cl sl : Nat), cl ≤ 195 + i + 1 → sl ≤ 1187153 + 6 * i + 6 → Inv (i + 1) σ2 → lw_V s D cA cJ base q σ2 f2 H2 locs2 → lv_has ls2 7 ((0, .ref b) :: (1, .ref (base + 0)) :: (2, .ref (base + 161)) :: (3, .ref q) :: (4, .int x4) :: l5) → W p l e room_1 s m #[Value.ref b] below meth c H2 locs2 cl sl (lw_Z below #[Value.ref b] s) (F0 m 739 ls2 []) := by
        intro σ2 f2 H2 locs2 ls2 l5 cl sl hcl hsl hI2 hV2 hl2
        obtain ⟨x4', ex4'⟩ : ∃ y : Int32, y = x4 + 6 := ⟨_, rfl⟩
        have hl3 : lv_has ls2 7 [(4, .int x4), (0, .ref b), (1, .ref (base + 0)), (2, .ref (base + 161)), (3, .ref q)] := lv_sub hl2 [4, 0, 1, 2, 3] rfl
        refine lv_iinc (v := x4') (lv' := [(4, .int x4'), (0, .ref b), (1, .ref (base + 0)), (2, .ref (base + 161)), (3, .ref q)]) hx hb dL_law_739 hl3 (k := 0) rfl (by rw [ex4']; rfl) (by decide) rfl (fun ls hl => ?_)
        refine lv_goto (tgt := 23) hx hb dL_law_742 (by decide) ?_
        refine W.widen (k := 195 + (i + 1)) (n := 1187153 + 6 * (i + 1)) (by omega) (by omega) ?_
        exact ih (i + 1) x4' σ2 f2 H2 locs2 ls (by omega) (by omega) (by rw [ex4', ex4, show nI (6 * i) + 6 = nI (6 * i + 6) from nI_add (6 * i) 6]; rfl) hI2 hV2 (lv_sub hl [1, 2, 3, 4, 0] rfl)
      refine lv_aload_n hx hb dL_law_33 rfl (lv_at hl 0 rfl) ?_
      refine lv_iload hx hb dL_law_34 (lv_at hl 4 rfl) ?_
      refine va_sld hx hb hX hbl hbA hV.2.2.2 hin0 dL_law_36 ?_
      refine lv_bipush (v := 31) hx hb dL_law_37 (by decide) ?_
      refine lv_iand hx hb dL_law_39 ?_
      refine lv_topi (fun y ey => ?_)
      have hcl : 195 + i ≤ 601024 := by omega
      have hsl : 1187153 + 6 * i ≤ 7293034 := by omega
      have o0 : g_o σ 0 11 := lw_sh_o hsh0 (by decide) (by decide)
      have o1 : g_o σ 161 12 := lw_sh_o hsh0 (by decide) (by decide)
      have o2 : g_o σ 102 2 := lw_sh_o hsh0 (by decide) (by decide)
      rcases (by omega : (y.toInt < 0 ∨ 19 < y.toInt) ∨ y.toInt = 0 ∨ y.toInt = 1 ∨ y.toInt = 2 ∨ y.toInt = 3 ∨ y.toInt = 4 ∨ y.toInt = 5 ∨ y.toInt = 6 ∨ y.toInt = 7 ∨ y.toInt = 8 ∨ y.toInt = 9 ∨ y.toInt = 10 ∨ y.toInt = 11 ∨ y.toInt = 12 ∨ y.toInt = 13 ∨ y.toInt = 14 ∨ y.toInt = 15 ∨ y.toInt = 16 ∨ y.toInt = 17 ∨ y.toInt = 18 ∨ y.toInt = 19) with hy | hy | hy | hy | hy | hy | hy | hy | hy | hy | hy | hy | hy | hy | hy | hy | hy | hy | hy | hy | hy
      · refine lv_tableOut (tgt := 739) hx hb dL_law_40 hy (by decide) ?_
        exact tail σ f H locs ls [] _ _ (by omega) (by omega) hO0 hV hl
      · refine lv_tableIn (tgt := 136) (off := 96) hx hb dL_law_40 (by omega) (by omega) (by rw [hy]; rfl) (by decide) ?_
        obtain ⟨r, σ1, σ2, r1, r2, m1, m2, i2⟩ := hO1 (xs (x4 + 1).toNatClampNeg) (xs (x4 + 2).toNatClampNeg) (xs (x4 + 3).toNatClampNeg) (xs (x4 + 4).toNatClampNeg) (xs (x4 + 5).toNatClampNeg)
        refine lv_aload_n hx hb dL_law_136 rfl (lv_at hl 1 rfl) ?_
        refine lv_aload_n hx hb dL_law_137 rfl (lv_at hl 0 rfl) ?_
        refine lv_iload hx hb dL_law_138 (lv_at hl 4 rfl) ?_
        refine lv_iconst (v := 1) hx hb dL_law_140 (by decide) ?_
        refine lv_iadd hx hb dL_law_141 ?_
        refine va_sld hx hb hX hbl hbA hV.2.2.2 hin1 dL_law_142 ?_
        refine lv_aload_n hx hb dL_law_143 rfl (lv_at hl 0 rfl) ?_
        refine lv_iload hx hb dL_law_144 (lv_at hl 4 rfl) ?_
        refine lv_iconst (v := 2) hx hb dL_law_146 (by decide) ?_
        refine lv_iadd hx hb dL_law_147 ?_
        refine va_sld hx hb hX hbl hbA hV.2.2.2 hin2 dL_law_148 ?_
        refine lv_aload_n hx hb dL_law_149 rfl (lv_at hl 0 rfl) ?_
        refine lv_iload hx hb dL_law_150 (lv_at hl 4 rfl) ?_
        refine lv_iconst (v := 3) hx hb dL_law_152 (by decide) ?_
        refine lv_iadd hx hb dL_law_153 ?_
        refine va_sld hx hb hX hbl hbA hV.2.2.2 hin3 dL_law_154 ?_
        refine lv_aload_n hx hb dL_law_155 rfl (lv_at hl 0 rfl) ?_
        refine lv_iload hx hb dL_law_156 (lv_at hl 4 rfl) ?_
        refine lv_iconst (v := 4) hx hb dL_law_158 (by decide) ?_
        refine lv_iadd hx hb dL_law_159 ?_
        refine va_sld hx hb hX hbl hbA hV.2.2.2 hin4 dL_law_160 ?_
        refine lv_aload_n hx hb dL_law_161 rfl (lv_at hl 0 rfl) ?_
        refine lv_iload hx hb dL_law_162 (lv_at hl 4 rfl) ?_
        refine lv_iconst (v := 5) hx hb dL_law_164 (by decide) ?_
        refine lv_iadd hx hb dL_law_165 ?_
        refine va_sld hx hb hX hbl hbA hV.2.2.2 hin5 dL_law_166 ?_
        refine lw_call (is := [xs (x4 + 1).toNatClampNeg, xs (x4 + 2).toNatClampNeg, xs (x4 + 3).toNatClampNeg, xs (x4 + 4).toNatClampNeg, xs (x4 + 5).toNatClampNeg]) (k := 0) hC dL_law_167 mt_13_19 rfl o0 r1 m1 hl.1 (Nat.le_of_ble_eq_true rfl) hcl hsl hV (fun H locs hV => ?_)
        refine lv_aload_n hx hb dL_law_170 rfl (lv_at hl 2 rfl) ?_
        refine lv_aload_n hx hb dL_law_171 rfl (lv_at hl 0 rfl) ?_
        refine lv_iload hx hb dL_law_172 (lv_at hl 4 rfl) ?_
        refine lv_iconst (v := 1) hx hb dL_law_174 (by decide) ?_
        refine lv_iadd hx hb dL_law_175 ?_
        refine va_sld hx hb hX hbl hbA hV.2.2.2 hin1 dL_law_176 ?_
        refine lv_aload_n hx hb dL_law_177 rfl (lv_at hl 0 rfl) ?_
        refine lv_iload hx hb dL_law_178 (lv_at hl 4 rfl) ?_
        refine lv_iconst (v := 2) hx hb dL_law_180 (by decide) ?_
        refine lv_iadd hx hb dL_law_181 ?_
        refine va_sld hx hb hX hbl hbA hV.2.2.2 hin2 dL_law_182 ?_
        refine lv_aload_n hx hb dL_law_183 rfl (lv_at hl 0 rfl) ?_
        refine lv_iload hx hb dL_law_184 (lv_at hl 4 rfl) ?_
        refine lv_iconst (v := 3) hx hb dL_law_186 (by decide) ?_
        refine lv_iadd hx hb dL_law_187 ?_
        refine va_sld hx hb hX hbl hbA hV.2.2.2 hin3 dL_law_188 ?_
        refine lv_aload_n hx hb dL_law_189 rfl (lv_at hl 0 rfl) ?_
        refine lv_iload hx hb dL_law_190 (lv_at hl 4 rfl) ?_
        refine lv_iconst (v := 4) hx hb dL_law_192 (by decide) ?_
        refine lv_iadd hx hb dL_law_193 ?_
        refine va_sld hx hb hX hbl hbA hV.2.2.2 hin4 dL_law_194 ?_
        refine lv_aload_n hx hb dL_law_195 rfl (lv_at hl 0 rfl) ?_
        refine lv_iload hx hb dL_law_196 (lv_at hl 4 rfl) ?_
        refine lv_iconst (v := 5) hx hb dL_law_198 (by decide) ?_
        refine lv_iadd hx hb dL_law_199 ?_
        refine va_sld hx hb hX hbl hbA hV.2.2.2 hin5 dL_law_200 ?_
        refine lw_call (is := [xs (x4 + 1).toNatClampNeg, xs (x4 + 2).toNatClampNeg, xs (x4 + 3).toNatClampNeg, xs (x4 + 4).toNatClampNeg, xs (x4 + 5).toNatClampNeg]) (k := 161) hC dL_law_201 mt_13_23 rfl (lw_sm_o m1 o1) r2 m2 hl.1 (Nat.le_of_ble_eq_true rfl) hcl hsl hV (fun H locs hV => ?_)
        refine lv_icmp_eq (tgt := 739) hx hb dL_law_204 (by decide) (fun _ => ?_) (fun z => absurd rfl z)
        exact tail σ2 f H locs ls [] _ _ (by omega) (by omega) i2 hV hl
      · refine lv_tableIn (tgt := 209) (off := 169) hx hb dL_law_40 (by omega) (by omega) (by rw [hy]; rfl) (by decide) ?_
        obtain ⟨r, σ1, σ2, r1, r2, m1, m2, i2⟩ := hO2 (xs (x4 + 1).toNatClampNeg)
        refine lv_aload_n hx hb dL_law_209 rfl (lv_at hl 1 rfl) ?_
        refine lv_aload_n hx hb dL_law_210 rfl (lv_at hl 0 rfl) ?_
        refine lv_iload hx hb dL_law_211 (lv_at hl 4 rfl) ?_
        refine lv_iconst (v := 1) hx hb dL_law_213 (by decide) ?_
        refine lv_iadd hx hb dL_law_214 ?_
        refine va_sld hx hb hX hbl hbA hV.2.2.2 hin1 dL_law_215 ?_
        refine lw_call (is := [xs (x4 + 1).toNatClampNeg]) (k := 0) hC dL_law_216 mt_13_24 rfl o0 r1 m1 hl.1 (Nat.le_of_ble_eq_true rfl) hcl hsl hV (fun H locs hV => ?_)
        refine lv_aload_n hx hb dL_law_219 rfl (lv_at hl 2 rfl) ?_
        refine lv_aload_n hx hb dL_law_220 rfl (lv_at hl 0 rfl) ?_
        refine lv_iload hx hb dL_law_221 (lv_at hl 4 rfl) ?_
        refine lv_iconst (v := 1) hx hb dL_law_223 (by decide) ?_
        refine lv_iadd hx hb dL_law_224 ?_
        refine va_sld hx hb hX hbl hbA hV.2.2.2 hin1 dL_law_225 ?_
        refine lw_call (is := [xs (x4 + 1).toNatClampNeg]) (k := 161) hC dL_law_226 mt_13_28 rfl (lw_sm_o m1 o1) r2 m2 hl.1 (Nat.le_of_ble_eq_true rfl) hcl hsl hV (fun H locs hV => ?_)
        refine lv_icmp_eq (tgt := 739) hx hb dL_law_229 (by decide) (fun _ => ?_) (fun z => absurd rfl z)
        exact tail σ2 f H locs ls [] _ _ (by omega) (by omega) i2 hV hl
      · refine lv_tableIn (tgt := 234) (off := 194) hx hb dL_law_40 (by omega) (by omega) (by rw [hy]; rfl) (by decide) ?_
        obtain ⟨r, σ1, σ2, r1, r2, m1, m2, i2⟩ := hO3 (xs (x4 + 1).toNatClampNeg)
        refine lv_aload_n hx hb dL_law_234 rfl (lv_at hl 1 rfl) ?_
        refine lv_aload_n hx hb dL_law_235 rfl (lv_at hl 0 rfl) ?_
        refine lv_iload hx hb dL_law_236 (lv_at hl 4 rfl) ?_
        refine lv_iconst (v := 1) hx hb dL_law_238 (by decide) ?_
        refine lv_iadd hx hb dL_law_239 ?_
        refine va_sld hx hb hX hbl hbA hV.2.2.2 hin1 dL_law_240 ?_
        refine lw_call (is := [xs (x4 + 1).toNatClampNeg]) (k := 0) hC dL_law_241 mt_13_29 rfl o0 r1 m1 hl.1 (Nat.le_of_ble_eq_true rfl) hcl hsl hV (fun H locs hV => ?_)
        refine lv_aload_n hx hb dL_law_244 rfl (lv_at hl 2 rfl) ?_
        refine lv_aload_n hx hb dL_law_245 rfl (lv_at hl 0 rfl) ?_
        refine lv_iload hx hb dL_law_246 (lv_at hl 4 rfl) ?_
        refine lv_iconst (v := 1) hx hb dL_law_248 (by decide) ?_
        refine lv_iadd hx hb dL_law_249 ?_
        refine va_sld hx hb hX hbl hbA hV.2.2.2 hin1 dL_law_250 ?_
        refine lw_call (is := [xs (x4 + 1).toNatClampNeg]) (k := 161) hC dL_law_251 mt_13_33 rfl (lw_sm_o m1 o1) r2 m2 hl.1 (Nat.le_of_ble_eq_true rfl) hcl hsl hV (fun H locs hV => ?_)
        refine lv_icmp_eq (tgt := 739) hx hb dL_law_254 (by decide) (fun _ => ?_) (fun z => absurd rfl z)
        exact tail σ2 f H locs ls [] _ _ (by omega) (by omega) i2 hV hl
      · refine lv_tableIn (tgt := 259) (off := 219) hx hb dL_law_40 (by omega) (by omega) (by rw [hy]; rfl) (by decide) ?_
        obtain ⟨r, σ1, σ2, r1, r2, m1, m2, i2⟩ := hO4
        refine lv_aload_n hx hb dL_law_259 rfl (lv_at hl 1 rfl) ?_
        refine lw_call (is := []) (k := 0) hC dL_law_260 mt_13_34 rfl o0 r1 m1 hl.1 (Nat.le_of_ble_eq_true rfl) hcl hsl hV (fun H locs hV => ?_)
        refine lv_aload_n hx hb dL_law_263 rfl (lv_at hl 2 rfl) ?_
        refine lw_call (is := []) (k := 161) hC dL_law_264 mt_13_38 rfl (lw_sm_o m1 o1) r2 m2 hl.1 (Nat.le_of_ble_eq_true rfl) hcl hsl hV (fun H locs hV => ?_)
        refine lv_icmp_eq (tgt := 739) hx hb dL_law_267 (by decide) (fun _ => ?_) (fun z => absurd rfl z)
        exact tail σ2 f H locs ls [] _ _ (by omega) (by omega) i2 hV hl
      · refine lv_tableIn (tgt := 272) (off := 232) hx hb dL_law_40 (by omega) (by omega) (by rw [hy]; rfl) (by decide) ?_
        obtain ⟨r, σ1, σ2, r1, r2, m1, m2, i2⟩ := hO5
        refine lv_aload_n hx hb dL_law_272 rfl (lv_at hl 1 rfl) ?_
        refine lw_call (is := []) (k := 0) hC dL_law_273 mt_13_39 rfl o0 r1 m1 hl.1 (Nat.le_of_ble_eq_true rfl) hcl hsl hV (fun H locs hV => ?_)
        refine lv_aload_n hx hb dL_law_276 rfl (lv_at hl 2 rfl) ?_
        refine lw_call (is := []) (k := 161) hC dL_law_277 mt_13_42 rfl (lw_sm_o m1 o1) r2 m2 hl.1 (Nat.le_of_ble_eq_true rfl) hcl hsl hV (fun H locs hV => ?_)
        refine lv_icmp_eq (tgt := 739) hx hb dL_law_280 (by decide) (fun _ => ?_) (fun z => absurd rfl z)
        exact tail σ2 f H locs ls [] _ _ (by omega) (by omega) i2 hV hl
      · refine lv_tableIn (tgt := 285) (off := 245) hx hb dL_law_40 (by omega) (by omega) (by rw [hy]; rfl) (by decide) ?_
        obtain ⟨r, σ1, σ2, r1, r2, m1, m2, i2⟩ := hO6 (xs (x4 + 1).toNatClampNeg)
        refine lv_aload_n hx hb dL_law_285 rfl (lv_at hl 1 rfl) ?_
        refine lv_aload_n hx hb dL_law_286 rfl (lv_at hl 0 rfl) ?_
        refine lv_iload hx hb dL_law_287 (lv_at hl 4 rfl) ?_
        refine lv_iconst (v := 1) hx hb dL_law_289 (by decide) ?_
        refine lv_iadd hx hb dL_law_290 ?_
        refine va_sld hx hb hX hbl hbA hV.2.2.2 hin1 dL_law_291 ?_
        refine lw_call (is := [xs (x4 + 1).toNatClampNeg]) (k := 0) hC dL_law_292 mt_13_43 rfl o0 r1 m1 hl.1 (Nat.le_of_ble_eq_true rfl) hcl hsl hV (fun H locs hV => ?_)
        refine lv_aload_n hx hb dL_law_295 rfl (lv_at hl 2 rfl) ?_
        refine lv_aload_n hx hb dL_law_296 rfl (lv_at hl 0 rfl) ?_
        refine lv_iload hx hb dL_law_297 (lv_at hl 4 rfl) ?_
        refine lv_iconst (v := 1) hx hb dL_law_299 (by decide) ?_
        refine lv_iadd hx hb dL_law_300 ?_
        refine va_sld hx hb hX hbl hbA hV.2.2.2 hin1 dL_law_301 ?_
        refine lw_call (is := [xs (x4 + 1).toNatClampNeg]) (k := 161) hC dL_law_302 mt_13_46 rfl (lw_sm_o m1 o1) r2 m2 hl.1 (Nat.le_of_ble_eq_true rfl) hcl hsl hV (fun H locs hV => ?_)
        refine lv_icmp_eq (tgt := 739) hx hb dL_law_305 (by decide) (fun _ => ?_) (fun z => absurd rfl z)
        exact tail σ2 f H locs ls [] _ _ (by omega) (by omega) i2 hV hl
      · refine lv_tableIn (tgt := 310) (off := 270) hx hb dL_law_40 (by omega) (by omega) (by rw [hy]; rfl) (by decide) ?_
        obtain ⟨r, σ1, σ2, r1, r2, m1, m2, i2⟩ := hO7 (xs (x4 + 1).toNatClampNeg)
        refine lv_aload_n hx hb dL_law_310 rfl (lv_at hl 1 rfl) ?_
        refine lv_aload_n hx hb dL_law_311 rfl (lv_at hl 0 rfl) ?_
        refine lv_iload hx hb dL_law_312 (lv_at hl 4 rfl) ?_
        refine lv_iconst (v := 1) hx hb dL_law_314 (by decide) ?_
        refine lv_iadd hx hb dL_law_315 ?_
        refine va_sld hx hb hX hbl hbA hV.2.2.2 hin1 dL_law_316 ?_
        refine lw_call (is := [xs (x4 + 1).toNatClampNeg]) (k := 0) hC dL_law_317 mt_13_47 rfl o0 r1 m1 hl.1 (Nat.le_of_ble_eq_true rfl) hcl hsl hV (fun H locs hV => ?_)
        refine lv_aload_n hx hb dL_law_320 rfl (lv_at hl 2 rfl) ?_
        refine lv_aload_n hx hb dL_law_321 rfl (lv_at hl 0 rfl) ?_
        refine lv_iload hx hb dL_law_322 (lv_at hl 4 rfl) ?_
        refine lv_iconst (v := 1) hx hb dL_law_324 (by decide) ?_
        refine lv_iadd hx hb dL_law_325 ?_
        refine va_sld hx hb hX hbl hbA hV.2.2.2 hin1 dL_law_326 ?_
        refine lw_call (is := [xs (x4 + 1).toNatClampNeg]) (k := 161) hC dL_law_327 mt_13_50 rfl (lw_sm_o m1 o1) r2 m2 hl.1 (Nat.le_of_ble_eq_true rfl) hcl hsl hV (fun H locs hV => ?_)
        refine lv_icmp_eq (tgt := 739) hx hb dL_law_330 (by decide) (fun _ => ?_) (fun z => absurd rfl z)
        exact tail σ2 f H locs ls [] _ _ (by omega) (by omega) i2 hV hl
      · refine lv_tableIn (tgt := 335) (off := 295) hx hb dL_law_40 (by omega) (by omega) (by rw [hy]; rfl) (by decide) ?_
        obtain ⟨s1, s2, s3⟩ := hO8 (xs (x4 + 1).toNatClampNeg) (xs (x4 + 2).toNatClampNeg)
        refine lv_aload_n hx hb dL_law_335 rfl (lv_at hl 1 rfl) ?_
        refine lv_aload_n hx hb dL_law_336 rfl (lv_at hl 0 rfl) ?_
        refine lv_iload hx hb dL_law_337 (lv_at hl 4 rfl) ?_
        refine lv_iconst (v := 1) hx hb dL_law_339 (by decide) ?_
        refine lv_iadd hx hb dL_law_340 ?_
        refine va_sld hx hb hX hbl hbA hV.2.2.2 hin1 dL_law_341 ?_
        refine lv_aload_n hx hb dL_law_342 rfl (lv_at hl 0 rfl) ?_
        refine lv_iload hx hb dL_law_343 (lv_at hl 4 rfl) ?_
        refine lv_iconst (v := 2) hx hb dL_law_345 (by decide) ?_
        refine lv_iadd hx hb dL_law_346 ?_
        refine va_sld hx hb hX hbl hbA hV.2.2.2 hin2 dL_law_347 ?_
        refine lv_aload_n hx hb dL_law_348 rfl (lv_at hl 3 rfl) ?_
        have mid : ∀ (kv : Int32) (f1 : Nat → Int64) (H1 : Heap) (locs1 : List Loc) (r : Int32) (σ2 σ3 : am_St), am_run 2000 mX12_step (.ref 161 :: [xs (x4 + 1).toNatClampNeg, xs (x4 + 2).toNatClampNeg].map Value.int) σ = some (some (.int r), σ2) → am_run 2000 mX12_thrown (.ref 161 :: ([] : List Int32).map Value.int) σ2 = some (some (.int kv), σ3) → lw_sm σ σ2 → lw_sm σ2 σ3 → Inv (i + 1) σ3 → lw_V s D cA cJ base q σ f1 H1 locs1 → (kv = 0 → f1 0 = r.toInt64) → W p l e room_1 s m #[Value.ref b] below meth c H1 locs1 (195 + i + 1) (1187153 + 6 * i + 6) (lw_Z below #[Value.ref b] s) (F0 m 352 ls [.int kv]) := by
          intro kv f1 H1 locs1 r σ2 σ3 r1 r2 m1 m2 hI3 hV1 hf
          have hcl : 195 + i + 1 ≤ 601024 := by omega
          have hsl : 1187153 + 6 * i + 6 ≤ 7293034 := by omega
          refine lv_istore (lv' := [(5, .int kv), (0, .ref b), (1, .ref (base + 0)), (2, .ref (base + 161)), (3, .ref q), (4, .int x4)]) hx hb dL_law_352 hl (by decide) rfl (fun ls hl => ?_)
          refine lv_aload_n hx hb dL_law_354 rfl (lv_at hl 3 rfl) ?_
          refine lv_aload_n hx hb dL_law_355 rfl (lv_at hl 1 rfl) ?_
          refine lv_iload hx hb dL_law_356 (lv_at hl 5 rfl) ?_
          refine lv_iconst (v := 1) hx hb dL_law_358 (by decide) ?_
          refine lv_iadd hx hb dL_law_359 ?_
          refine va_sld hx hb hX hbl hbA hV1.2.2.2 hin1 dL_law_360 ?_
          refine lv_aload_n hx hb dL_law_361 rfl (lv_at hl 1 rfl) ?_
          refine lv_iload hx hb dL_law_362 (lv_at hl 5 rfl) ?_
          refine lv_iconst (v := 2) hx hb dL_law_364 (by decide) ?_
          refine lv_iadd hx hb dL_law_365 ?_
          refine va_sld hx hb hX hbl hbA hV1.2.2.2 hin2 dL_law_366 ?_
          refine lw_call (is := [xs (x4 + 1).toNatClampNeg, xs (x4 + 2).toNatClampNeg]) (k := 161) hC dL_law_367 mt_13_56 rfl o1 r1 m1 hl.1 (Nat.le_of_ble_eq_true rfl) hcl hsl hV1 (fun H2 locs2 hV2 => ?_)
          refine lv_istore (lv' := [(6, .int r), (5, .int kv), (0, .ref b), (1, .ref (base + 0)), (2, .ref (base + 161)), (3, .ref q), (4, .int x4)]) hx hb dL_law_370 hl (by decide) rfl (fun ls hl => ?_)
          refine lv_aload_n hx hb dL_law_372 rfl (lv_at hl 4 rfl) ?_
          refine lw_call (is := []) (k := 161) hC dL_law_373 mt_13_57 rfl (lw_sm_o m1 o1) r2 m2 hl.1 (Nat.le_of_ble_eq_true rfl) hcl hsl hV2 (fun H3 locs3 hV3 => ?_)
          refine lv_iload hx hb dL_law_376 (lv_at hl 1 rfl) ?_
          refine lv_icmp_eq (tgt := 383) hx hb dL_law_378 (by decide) (fun _ => ?_) (fun z => absurd rfl z)
          refine lv_iload hx hb dL_law_383 (lv_at hl 1 rfl) ?_
          refine lv_if_ne (tgt := 400) hx hb dL_law_385 (by decide) (fun _ => ?_) (fun z => ?_)
          · refine lv_goto (tgt := 739) hx hb dL_law_400 (by decide) ?_
            exact tail σ3 f1 H3 locs3 ls [(6, .int r), (5, .int kv)] _ _ (by omega) (by omega) hI3 hV3 (lv_sub hl [2, 3, 4, 5, 6, 0, 1] rfl)
          · have hkv : kv = 0 := z
            refine lv_aload_n hx hb dL_law_388 rfl (lv_at hl 5 rfl) ?_
            refine lv_iconst (v := 0) hx hb dL_law_389 (by decide) ?_
            have hPo : va_P D vwCl [(q, .inl (cJ, 1, .inr (.inl f1)))] H3 := fun k x hx => by
              match k, hx with
              | 0, hx => cases hx; exact hV3.2.1
              | k + 1, hx => simp at hx
            have hKo : va_K D vwCl [(cJ, .long)] s := ⟨hKK.1.1, fun k x hx => by
              match k, hx with
              | 0, hx => cases hx; exact hJ
              | k + 1, hx => simp at hx⟩
            refine va_lald hx hb hKo hPo 0 0 rfl rfl (by unfold vp_in; decide) dL_law_390 ?_
            refine lv_iload hx hb dL_law_391 (lv_at hl 0 rfl) ?_
            refine lv_i2l hx hb dL_law_393 rfl ?_
            refine W.lcmp hx hb dL_law_394 ?_
            have e0 : lg_cmp (f1 (0 : Int32).toNatClampNeg) r.toInt64 = 0 := by
              rw [show (0 : Int32).toNatClampNeg = 0 from rfl, hf hkv]
              unfold lg_cmp
              rw [if_neg (by intro hq; exact absurd hq (by simp)), if_pos rfl]
            rw [e0]
            refine lv_if_eq (tgt := 400) hx hb dL_law_395 (by decide) (fun _ => ?_) (fun z => absurd rfl z)
            refine lv_goto (tgt := 739) hx hb dL_law_400 (by decide) ?_
            exact tail σ3 f1 H3 locs3 ls [(6, .int r), (5, .int kv)] _ _ (by omega) (by omega) hI3 hV3 (lv_sub hl [2, 3, 4, 5, 6, 0, 1] rfl)
        refine lw_step_call (rest := []) hC hV hl.1 (Nat.le_of_ble_eq_true rfl) (by omega) (by omega) o0 hsh0.2.2 o2 (fun r hr0 H1 locs1 f1 hV1 hf1 => ?_) (fun ht H1 locs1 hV1 => ?_) s1
        · obtain ⟨σ2, σ3, r1, r2, m1, m2, i3⟩ := s2 r hr0
          exact mid 0 f1 H1 locs1 r σ2 σ3 r1 r2 m1 m2 i3 hV1 (fun _ => hf1)
        · obtain ⟨r, σ2, σ3, r1, r2, m1, m2, i3⟩ := s3 ht
          exact mid 1 f H1 locs1 r σ2 σ3 r1 r2 m1 m2 i3 hV1 (fun z => absurd z (by decide))
      · refine lv_tableIn (tgt := 403) (off := 363) hx hb dL_law_40 (by omega) (by omega) (by rw [hy]; rfl) (by decide) ?_
        obtain ⟨r, σ1, σ2, r1, r2, m1, m2, i2⟩ := hO9 (xs (x4 + 1).toNatClampNeg) (xs (x4 + 2).toNatClampNeg)
        refine lv_aload_n hx hb dL_law_403 rfl (lv_at hl 1 rfl) ?_
        refine lv_aload_n hx hb dL_law_404 rfl (lv_at hl 0 rfl) ?_
        refine lv_iload hx hb dL_law_405 (lv_at hl 4 rfl) ?_
        refine lv_iconst (v := 1) hx hb dL_law_407 (by decide) ?_
        refine lv_iadd hx hb dL_law_408 ?_
        refine va_sld hx hb hX hbl hbA hV.2.2.2 hin1 dL_law_409 ?_
        refine lv_aload_n hx hb dL_law_410 rfl (lv_at hl 0 rfl) ?_
        refine lv_iload hx hb dL_law_411 (lv_at hl 4 rfl) ?_
        refine lv_iconst (v := 2) hx hb dL_law_413 (by decide) ?_
        refine lv_iadd hx hb dL_law_414 ?_
        refine va_sld hx hb hX hbl hbA hV.2.2.2 hin2 dL_law_415 ?_
        refine lw_call (is := [xs (x4 + 1).toNatClampNeg, xs (x4 + 2).toNatClampNeg]) (k := 0) hC dL_law_416 mt_13_60 rfl o0 r1 m1 hl.1 (Nat.le_of_ble_eq_true rfl) hcl hsl hV (fun H locs hV => ?_)
        refine lv_aload_n hx hb dL_law_419 rfl (lv_at hl 2 rfl) ?_
        refine lv_aload_n hx hb dL_law_420 rfl (lv_at hl 0 rfl) ?_
        refine lv_iload hx hb dL_law_421 (lv_at hl 4 rfl) ?_
        refine lv_iconst (v := 1) hx hb dL_law_423 (by decide) ?_
        refine lv_iadd hx hb dL_law_424 ?_
        refine va_sld hx hb hX hbl hbA hV.2.2.2 hin1 dL_law_425 ?_
        refine lv_aload_n hx hb dL_law_426 rfl (lv_at hl 0 rfl) ?_
        refine lv_iload hx hb dL_law_427 (lv_at hl 4 rfl) ?_
        refine lv_iconst (v := 2) hx hb dL_law_429 (by decide) ?_
        refine lv_iadd hx hb dL_law_430 ?_
        refine va_sld hx hb hX hbl hbA hV.2.2.2 hin2 dL_law_431 ?_
        refine lw_call (is := [xs (x4 + 1).toNatClampNeg, xs (x4 + 2).toNatClampNeg]) (k := 161) hC dL_law_432 mt_13_63 rfl (lw_sm_o m1 o1) r2 m2 hl.1 (Nat.le_of_ble_eq_true rfl) hcl hsl hV (fun H locs hV => ?_)
        refine lv_icmp_eq (tgt := 739) hx hb dL_law_435 (by decide) (fun _ => ?_) (fun z => absurd rfl z)
        exact tail σ2 f H locs ls [] _ _ (by omega) (by omega) i2 hV hl
      · refine lv_tableIn (tgt := 440) (off := 400) hx hb dL_law_40 (by omega) (by omega) (by rw [hy]; rfl) (by decide) ?_
        obtain ⟨r, σ1, σ2, r1, r2, m1, m2, i2⟩ := hO10 (xs (x4 + 1).toNatClampNeg) (xs (x4 + 2).toNatClampNeg)
        refine lv_aload_n hx hb dL_law_440 rfl (lv_at hl 1 rfl) ?_
        refine lv_aload_n hx hb dL_law_441 rfl (lv_at hl 0 rfl) ?_
        refine lv_iload hx hb dL_law_442 (lv_at hl 4 rfl) ?_
        refine lv_iconst (v := 1) hx hb dL_law_444 (by decide) ?_
        refine lv_iadd hx hb dL_law_445 ?_
        refine va_sld hx hb hX hbl hbA hV.2.2.2 hin1 dL_law_446 ?_
        refine lv_aload_n hx hb dL_law_447 rfl (lv_at hl 0 rfl) ?_
        refine lv_iload hx hb dL_law_448 (lv_at hl 4 rfl) ?_
        refine lv_iconst (v := 2) hx hb dL_law_450 (by decide) ?_
        refine lv_iadd hx hb dL_law_451 ?_
        refine va_sld hx hb hX hbl hbA hV.2.2.2 hin2 dL_law_452 ?_
        refine lw_call (is := [xs (x4 + 1).toNatClampNeg, xs (x4 + 2).toNatClampNeg]) (k := 0) hC dL_law_453 mt_13_64 rfl o0 r1 m1 hl.1 (Nat.le_of_ble_eq_true rfl) hcl hsl hV (fun H locs hV => ?_)
        refine lv_aload_n hx hb dL_law_456 rfl (lv_at hl 2 rfl) ?_
        refine lv_aload_n hx hb dL_law_457 rfl (lv_at hl 0 rfl) ?_
        refine lv_iload hx hb dL_law_458 (lv_at hl 4 rfl) ?_
        refine lv_iconst (v := 1) hx hb dL_law_460 (by decide) ?_
        refine lv_iadd hx hb dL_law_461 ?_
        refine va_sld hx hb hX hbl hbA hV.2.2.2 hin1 dL_law_462 ?_
        refine lv_aload_n hx hb dL_law_463 rfl (lv_at hl 0 rfl) ?_
        refine lv_iload hx hb dL_law_464 (lv_at hl 4 rfl) ?_
        refine lv_iconst (v := 2) hx hb dL_law_466 (by decide) ?_
        refine lv_iadd hx hb dL_law_467 ?_
        refine va_sld hx hb hX hbl hbA hV.2.2.2 hin2 dL_law_468 ?_
        refine lw_call (is := [xs (x4 + 1).toNatClampNeg, xs (x4 + 2).toNatClampNeg]) (k := 161) hC dL_law_469 mt_13_67 rfl (lw_sm_o m1 o1) r2 m2 hl.1 (Nat.le_of_ble_eq_true rfl) hcl hsl hV (fun H locs hV => ?_)
        refine lv_icmp_eq (tgt := 739) hx hb dL_law_472 (by decide) (fun _ => ?_) (fun z => absurd rfl z)
        exact tail σ2 f H locs ls [] _ _ (by omega) (by omega) i2 hV hl
      · refine lv_tableIn (tgt := 477) (off := 437) hx hb dL_law_40 (by omega) (by omega) (by rw [hy]; rfl) (by decide) ?_
        obtain ⟨r, σ1, σ2, r1, r2, m1, m2, i2⟩ := hO11 (xs (x4 + 1).toNatClampNeg)
        refine lv_aload_n hx hb dL_law_477 rfl (lv_at hl 1 rfl) ?_
        refine lv_aload_n hx hb dL_law_478 rfl (lv_at hl 0 rfl) ?_
        refine lv_iload hx hb dL_law_479 (lv_at hl 4 rfl) ?_
        refine lv_iconst (v := 1) hx hb dL_law_481 (by decide) ?_
        refine lv_iadd hx hb dL_law_482 ?_
        refine va_sld hx hb hX hbl hbA hV.2.2.2 hin1 dL_law_483 ?_
        refine lw_call (is := [xs (x4 + 1).toNatClampNeg]) (k := 0) hC dL_law_484 mt_13_68 rfl o0 r1 m1 hl.1 (Nat.le_of_ble_eq_true rfl) hcl hsl hV (fun H locs hV => ?_)
        refine lv_aload_n hx hb dL_law_487 rfl (lv_at hl 2 rfl) ?_
        refine lv_aload_n hx hb dL_law_488 rfl (lv_at hl 0 rfl) ?_
        refine lv_iload hx hb dL_law_489 (lv_at hl 4 rfl) ?_
        refine lv_iconst (v := 1) hx hb dL_law_491 (by decide) ?_
        refine lv_iadd hx hb dL_law_492 ?_
        refine va_sld hx hb hX hbl hbA hV.2.2.2 hin1 dL_law_493 ?_
        refine lw_call (is := [xs (x4 + 1).toNatClampNeg]) (k := 161) hC dL_law_494 mt_13_71 rfl (lw_sm_o m1 o1) r2 m2 hl.1 (Nat.le_of_ble_eq_true rfl) hcl hsl hV (fun H locs hV => ?_)
        refine lv_icmp_eq (tgt := 739) hx hb dL_law_497 (by decide) (fun _ => ?_) (fun z => absurd rfl z)
        exact tail σ2 f H locs ls [] _ _ (by omega) (by omega) i2 hV hl
      · refine lv_tableIn (tgt := 502) (off := 462) hx hb dL_law_40 (by omega) (by omega) (by rw [hy]; rfl) (by decide) ?_
        obtain ⟨r, σ1, σ2, r1, r2, m1, m2, i2⟩ := hO12
        refine lv_aload_n hx hb dL_law_502 rfl (lv_at hl 1 rfl) ?_
        refine lw_call (is := []) (k := 0) hC dL_law_503 mt_13_72 rfl o0 r1 m1 hl.1 (Nat.le_of_ble_eq_true rfl) hcl hsl hV (fun H locs hV => ?_)
        refine lv_aload_n hx hb dL_law_506 rfl (lv_at hl 2 rfl) ?_
        refine lw_call (is := []) (k := 161) hC dL_law_507 mt_13_75 rfl (lw_sm_o m1 o1) r2 m2 hl.1 (Nat.le_of_ble_eq_true rfl) hcl hsl hV (fun H locs hV => ?_)
        refine lv_icmp_eq (tgt := 739) hx hb dL_law_510 (by decide) (fun _ => ?_) (fun z => absurd rfl z)
        exact tail σ2 f H locs ls [] _ _ (by omega) (by omega) i2 hV hl
      · refine lv_tableIn (tgt := 515) (off := 475) hx hb dL_law_40 (by omega) (by omega) (by rw [hy]; rfl) (by decide) ?_
        obtain ⟨r, σ1, σ2, r1, r2, m1, m2, i2⟩ := hO13 (xs (x4 + 1).toNatClampNeg) (xs (x4 + 2).toNatClampNeg)
        refine lv_aload_n hx hb dL_law_515 rfl (lv_at hl 1 rfl) ?_
        refine lv_aload_n hx hb dL_law_516 rfl (lv_at hl 0 rfl) ?_
        refine lv_iload hx hb dL_law_517 (lv_at hl 4 rfl) ?_
        refine lv_iconst (v := 1) hx hb dL_law_519 (by decide) ?_
        refine lv_iadd hx hb dL_law_520 ?_
        refine va_sld hx hb hX hbl hbA hV.2.2.2 hin1 dL_law_521 ?_
        refine lv_aload_n hx hb dL_law_522 rfl (lv_at hl 0 rfl) ?_
        refine lv_iload hx hb dL_law_523 (lv_at hl 4 rfl) ?_
        refine lv_iconst (v := 2) hx hb dL_law_525 (by decide) ?_
        refine lv_iadd hx hb dL_law_526 ?_
        refine va_sld hx hb hX hbl hbA hV.2.2.2 hin2 dL_law_527 ?_
        refine lw_call (is := [xs (x4 + 1).toNatClampNeg, xs (x4 + 2).toNatClampNeg]) (k := 0) hC dL_law_528 mt_13_76 rfl o0 r1 m1 hl.1 (Nat.le_of_ble_eq_true rfl) hcl hsl hV (fun H locs hV => ?_)
        refine lv_aload_n hx hb dL_law_531 rfl (lv_at hl 2 rfl) ?_
        refine lv_aload_n hx hb dL_law_532 rfl (lv_at hl 0 rfl) ?_
        refine lv_iload hx hb dL_law_533 (lv_at hl 4 rfl) ?_
        refine lv_iconst (v := 1) hx hb dL_law_535 (by decide) ?_
        refine lv_iadd hx hb dL_law_536 ?_
        refine va_sld hx hb hX hbl hbA hV.2.2.2 hin1 dL_law_537 ?_
        refine lv_aload_n hx hb dL_law_538 rfl (lv_at hl 0 rfl) ?_
        refine lv_iload hx hb dL_law_539 (lv_at hl 4 rfl) ?_
        refine lv_iconst (v := 2) hx hb dL_law_541 (by decide) ?_
        refine lv_iadd hx hb dL_law_542 ?_
        refine va_sld hx hb hX hbl hbA hV.2.2.2 hin2 dL_law_543 ?_
        refine lw_call (is := [xs (x4 + 1).toNatClampNeg, xs (x4 + 2).toNatClampNeg]) (k := 161) hC dL_law_544 mt_13_79 rfl (lw_sm_o m1 o1) r2 m2 hl.1 (Nat.le_of_ble_eq_true rfl) hcl hsl hV (fun H locs hV => ?_)
        refine lv_icmp_eq (tgt := 739) hx hb dL_law_547 (by decide) (fun _ => ?_) (fun z => absurd rfl z)
        exact tail σ2 f H locs ls [] _ _ (by omega) (by omega) i2 hV hl
      · refine lv_tableIn (tgt := 552) (off := 512) hx hb dL_law_40 (by omega) (by omega) (by rw [hy]; rfl) (by decide) ?_
        obtain ⟨r, σ1, σ2, r1, r2, m1, m2, i2⟩ := hO14 (xs (x4 + 1).toNatClampNeg) (xs (x4 + 2).toNatClampNeg)
        refine lv_aload_n hx hb dL_law_552 rfl (lv_at hl 1 rfl) ?_
        refine lv_aload_n hx hb dL_law_553 rfl (lv_at hl 0 rfl) ?_
        refine lv_iload hx hb dL_law_554 (lv_at hl 4 rfl) ?_
        refine lv_iconst (v := 1) hx hb dL_law_556 (by decide) ?_
        refine lv_iadd hx hb dL_law_557 ?_
        refine va_sld hx hb hX hbl hbA hV.2.2.2 hin1 dL_law_558 ?_
        refine lv_aload_n hx hb dL_law_559 rfl (lv_at hl 0 rfl) ?_
        refine lv_iload hx hb dL_law_560 (lv_at hl 4 rfl) ?_
        refine lv_iconst (v := 2) hx hb dL_law_562 (by decide) ?_
        refine lv_iadd hx hb dL_law_563 ?_
        refine va_sld hx hb hX hbl hbA hV.2.2.2 hin2 dL_law_564 ?_
        refine lw_call (is := [xs (x4 + 1).toNatClampNeg, xs (x4 + 2).toNatClampNeg]) (k := 0) hC dL_law_565 mt_13_80 rfl o0 r1 m1 hl.1 (Nat.le_of_ble_eq_true rfl) hcl hsl hV (fun H locs hV => ?_)
        refine lv_aload_n hx hb dL_law_568 rfl (lv_at hl 2 rfl) ?_
        refine lv_aload_n hx hb dL_law_569 rfl (lv_at hl 0 rfl) ?_
        refine lv_iload hx hb dL_law_570 (lv_at hl 4 rfl) ?_
        refine lv_iconst (v := 1) hx hb dL_law_572 (by decide) ?_
        refine lv_iadd hx hb dL_law_573 ?_
        refine va_sld hx hb hX hbl hbA hV.2.2.2 hin1 dL_law_574 ?_
        refine lv_aload_n hx hb dL_law_575 rfl (lv_at hl 0 rfl) ?_
        refine lv_iload hx hb dL_law_576 (lv_at hl 4 rfl) ?_
        refine lv_iconst (v := 2) hx hb dL_law_578 (by decide) ?_
        refine lv_iadd hx hb dL_law_579 ?_
        refine va_sld hx hb hX hbl hbA hV.2.2.2 hin2 dL_law_580 ?_
        refine lw_call (is := [xs (x4 + 1).toNatClampNeg, xs (x4 + 2).toNatClampNeg]) (k := 161) hC dL_law_581 mt_13_83 rfl (lw_sm_o m1 o1) r2 m2 hl.1 (Nat.le_of_ble_eq_true rfl) hcl hsl hV (fun H locs hV => ?_)
        refine lv_icmp_eq (tgt := 739) hx hb dL_law_584 (by decide) (fun _ => ?_) (fun z => absurd rfl z)
        exact tail σ2 f H locs ls [] _ _ (by omega) (by omega) i2 hV hl
      · refine lv_tableIn (tgt := 589) (off := 549) hx hb dL_law_40 (by omega) (by omega) (by rw [hy]; rfl) (by decide) ?_
        obtain ⟨r, σ1, σ2, r1, r2, m1, m2, i2⟩ := hO15 (xs (x4 + 1).toNatClampNeg)
        refine lv_aload_n hx hb dL_law_589 rfl (lv_at hl 1 rfl) ?_
        refine lv_aload_n hx hb dL_law_590 rfl (lv_at hl 0 rfl) ?_
        refine lv_iload hx hb dL_law_591 (lv_at hl 4 rfl) ?_
        refine lv_iconst (v := 1) hx hb dL_law_593 (by decide) ?_
        refine lv_iadd hx hb dL_law_594 ?_
        refine va_sld hx hb hX hbl hbA hV.2.2.2 hin1 dL_law_595 ?_
        refine lw_call (is := [xs (x4 + 1).toNatClampNeg]) (k := 0) hC dL_law_596 mt_13_84 rfl o0 r1 m1 hl.1 (Nat.le_of_ble_eq_true rfl) hcl hsl hV (fun H locs hV => ?_)
        refine lv_aload_n hx hb dL_law_599 rfl (lv_at hl 2 rfl) ?_
        refine lv_aload_n hx hb dL_law_600 rfl (lv_at hl 0 rfl) ?_
        refine lv_iload hx hb dL_law_601 (lv_at hl 4 rfl) ?_
        refine lv_iconst (v := 1) hx hb dL_law_603 (by decide) ?_
        refine lv_iadd hx hb dL_law_604 ?_
        refine va_sld hx hb hX hbl hbA hV.2.2.2 hin1 dL_law_605 ?_
        refine lw_call (is := [xs (x4 + 1).toNatClampNeg]) (k := 161) hC dL_law_606 mt_13_87 rfl (lw_sm_o m1 o1) r2 m2 hl.1 (Nat.le_of_ble_eq_true rfl) hcl hsl hV (fun H locs hV => ?_)
        refine lv_icmp_eq (tgt := 739) hx hb dL_law_609 (by decide) (fun _ => ?_) (fun z => absurd rfl z)
        exact tail σ2 f H locs ls [] _ _ (by omega) (by omega) i2 hV hl
      · refine lv_tableIn (tgt := 614) (off := 574) hx hb dL_law_40 (by omega) (by omega) (by rw [hy]; rfl) (by decide) ?_
        obtain ⟨r, σ1, σ2, r1, r2, m1, m2, i2⟩ := hO16
        refine lv_aload_n hx hb dL_law_614 rfl (lv_at hl 1 rfl) ?_
        refine lw_call (is := []) (k := 0) hC dL_law_615 mt_13_88 rfl o0 r1 m1 hl.1 (Nat.le_of_ble_eq_true rfl) hcl hsl hV (fun H locs hV => ?_)
        refine lv_aload_n hx hb dL_law_618 rfl (lv_at hl 2 rfl) ?_
        refine lw_call (is := []) (k := 161) hC dL_law_619 mt_13_91 rfl (lw_sm_o m1 o1) r2 m2 hl.1 (Nat.le_of_ble_eq_true rfl) hcl hsl hV (fun H locs hV => ?_)
        refine lv_icmp_eq (tgt := 739) hx hb dL_law_622 (by decide) (fun _ => ?_) (fun z => absurd rfl z)
        exact tail σ2 f H locs ls [] _ _ (by omega) (by omega) i2 hV hl
      · refine lv_tableIn (tgt := 627) (off := 587) hx hb dL_law_40 (by omega) (by omega) (by rw [hy]; rfl) (by decide) ?_
        obtain ⟨r, σ1, σ2, r1, r2, m1, m2, i2⟩ := hO17 (xs (x4 + 1).toNatClampNeg)
        refine lv_aload_n hx hb dL_law_627 rfl (lv_at hl 1 rfl) ?_
        refine lv_aload_n hx hb dL_law_628 rfl (lv_at hl 0 rfl) ?_
        refine lv_iload hx hb dL_law_629 (lv_at hl 4 rfl) ?_
        refine lv_iconst (v := 1) hx hb dL_law_631 (by decide) ?_
        refine lv_iadd hx hb dL_law_632 ?_
        refine va_sld hx hb hX hbl hbA hV.2.2.2 hin1 dL_law_633 ?_
        refine lw_call (is := [xs (x4 + 1).toNatClampNeg]) (k := 0) hC dL_law_634 mt_13_92 rfl o0 r1 m1 hl.1 (Nat.le_of_ble_eq_true rfl) hcl hsl hV (fun H locs hV => ?_)
        refine lv_aload_n hx hb dL_law_637 rfl (lv_at hl 2 rfl) ?_
        refine lv_aload_n hx hb dL_law_638 rfl (lv_at hl 0 rfl) ?_
        refine lv_iload hx hb dL_law_639 (lv_at hl 4 rfl) ?_
        refine lv_iconst (v := 1) hx hb dL_law_641 (by decide) ?_
        refine lv_iadd hx hb dL_law_642 ?_
        refine va_sld hx hb hX hbl hbA hV.2.2.2 hin1 dL_law_643 ?_
        refine lw_call (is := [xs (x4 + 1).toNatClampNeg]) (k := 161) hC dL_law_644 mt_13_95 rfl (lw_sm_o m1 o1) r2 m2 hl.1 (Nat.le_of_ble_eq_true rfl) hcl hsl hV (fun H locs hV => ?_)
        refine lv_icmp_eq (tgt := 739) hx hb dL_law_647 (by decide) (fun _ => ?_) (fun z => absurd rfl z)
        exact tail σ2 f H locs ls [] _ _ (by omega) (by omega) i2 hV hl
      · refine lv_tableIn (tgt := 652) (off := 612) hx hb dL_law_40 (by omega) (by omega) (by rw [hy]; rfl) (by decide) ?_
        obtain ⟨r, σ1, σ2, r1, r2, m1, m2, i2⟩ := hO18 (xs (x4 + 1).toNatClampNeg) (xs (x4 + 2).toNatClampNeg)
        refine lv_aload_n hx hb dL_law_652 rfl (lv_at hl 1 rfl) ?_
        refine lv_aload_n hx hb dL_law_653 rfl (lv_at hl 0 rfl) ?_
        refine lv_iload hx hb dL_law_654 (lv_at hl 4 rfl) ?_
        refine lv_iconst (v := 1) hx hb dL_law_656 (by decide) ?_
        refine lv_iadd hx hb dL_law_657 ?_
        refine va_sld hx hb hX hbl hbA hV.2.2.2 hin1 dL_law_658 ?_
        refine lv_aload_n hx hb dL_law_659 rfl (lv_at hl 0 rfl) ?_
        refine lv_iload hx hb dL_law_660 (lv_at hl 4 rfl) ?_
        refine lv_iconst (v := 2) hx hb dL_law_662 (by decide) ?_
        refine lv_iadd hx hb dL_law_663 ?_
        refine va_sld hx hb hX hbl hbA hV.2.2.2 hin2 dL_law_664 ?_
        refine lw_call (is := [xs (x4 + 1).toNatClampNeg, xs (x4 + 2).toNatClampNeg]) (k := 0) hC dL_law_665 mt_13_96 rfl o0 r1 m1 hl.1 (Nat.le_of_ble_eq_true rfl) hcl hsl hV (fun H locs hV => ?_)
        refine lv_aload_n hx hb dL_law_668 rfl (lv_at hl 2 rfl) ?_
        refine lv_aload_n hx hb dL_law_669 rfl (lv_at hl 0 rfl) ?_
        refine lv_iload hx hb dL_law_670 (lv_at hl 4 rfl) ?_
        refine lv_iconst (v := 1) hx hb dL_law_672 (by decide) ?_
        refine lv_iadd hx hb dL_law_673 ?_
        refine va_sld hx hb hX hbl hbA hV.2.2.2 hin1 dL_law_674 ?_
        refine lv_aload_n hx hb dL_law_675 rfl (lv_at hl 0 rfl) ?_
        refine lv_iload hx hb dL_law_676 (lv_at hl 4 rfl) ?_
        refine lv_iconst (v := 2) hx hb dL_law_678 (by decide) ?_
        refine lv_iadd hx hb dL_law_679 ?_
        refine va_sld hx hb hX hbl hbA hV.2.2.2 hin2 dL_law_680 ?_
        refine lw_call (is := [xs (x4 + 1).toNatClampNeg, xs (x4 + 2).toNatClampNeg]) (k := 161) hC dL_law_681 mt_13_99 rfl (lw_sm_o m1 o1) r2 m2 hl.1 (Nat.le_of_ble_eq_true rfl) hcl hsl hV (fun H locs hV => ?_)
        refine lv_icmp_eq (tgt := 739) hx hb dL_law_684 (by decide) (fun _ => ?_) (fun z => absurd rfl z)
        exact tail σ2 f H locs ls [] _ _ (by omega) (by omega) i2 hV hl
      · refine lv_tableIn (tgt := 689) (off := 649) hx hb dL_law_40 (by omega) (by omega) (by rw [hy]; rfl) (by decide) ?_
        obtain ⟨r, σ1, σ2, r1, r2, m1, m2, i2⟩ := hO19 (xs (x4 + 1).toNatClampNeg)
        refine lv_aload_n hx hb dL_law_689 rfl (lv_at hl 1 rfl) ?_
        refine lv_aload_n hx hb dL_law_690 rfl (lv_at hl 0 rfl) ?_
        refine lv_iload hx hb dL_law_691 (lv_at hl 4 rfl) ?_
        refine lv_iconst (v := 1) hx hb dL_law_693 (by decide) ?_
        refine lv_iadd hx hb dL_law_694 ?_
        refine va_sld hx hb hX hbl hbA hV.2.2.2 hin1 dL_law_695 ?_
        refine lw_call (is := [xs (x4 + 1).toNatClampNeg]) (k := 0) hC dL_law_696 mt_13_100 rfl o0 r1 m1 hl.1 (Nat.le_of_ble_eq_true rfl) hcl hsl hV (fun H locs hV => ?_)
        refine lv_aload_n hx hb dL_law_699 rfl (lv_at hl 2 rfl) ?_
        refine lv_aload_n hx hb dL_law_700 rfl (lv_at hl 0 rfl) ?_
        refine lv_iload hx hb dL_law_701 (lv_at hl 4 rfl) ?_
        refine lv_iconst (v := 1) hx hb dL_law_703 (by decide) ?_
        refine lv_iadd hx hb dL_law_704 ?_
        refine va_sld hx hb hX hbl hbA hV.2.2.2 hin1 dL_law_705 ?_
        refine lw_call (is := [xs (x4 + 1).toNatClampNeg]) (k := 161) hC dL_law_706 mt_13_103 rfl (lw_sm_o m1 o1) r2 m2 hl.1 (Nat.le_of_ble_eq_true rfl) hcl hsl hV (fun H locs hV => ?_)
        refine lv_icmp_eq (tgt := 739) hx hb dL_law_709 (by decide) (fun _ => ?_) (fun z => absurd rfl z)
        exact tail σ2 f H locs ls [] _ _ (by omega) (by omega) i2 hV hl
      · refine lv_tableIn (tgt := 714) (off := 674) hx hb dL_law_40 (by omega) (by omega) (by rw [hy]; rfl) (by decide) ?_
        obtain ⟨r, σ1, σ2, r1, r2, m1, m2, i2⟩ := hO20 (xs (x4 + 1).toNatClampNeg)
        refine lv_aload_n hx hb dL_law_714 rfl (lv_at hl 1 rfl) ?_
        refine lv_aload_n hx hb dL_law_715 rfl (lv_at hl 0 rfl) ?_
        refine lv_iload hx hb dL_law_716 (lv_at hl 4 rfl) ?_
        refine lv_iconst (v := 1) hx hb dL_law_718 (by decide) ?_
        refine lv_iadd hx hb dL_law_719 ?_
        refine va_sld hx hb hX hbl hbA hV.2.2.2 hin1 dL_law_720 ?_
        refine lw_call (is := [xs (x4 + 1).toNatClampNeg]) (k := 0) hC dL_law_721 mt_13_104 rfl o0 r1 m1 hl.1 (Nat.le_of_ble_eq_true rfl) hcl hsl hV (fun H locs hV => ?_)
        refine lv_aload_n hx hb dL_law_724 rfl (lv_at hl 2 rfl) ?_
        refine lv_aload_n hx hb dL_law_725 rfl (lv_at hl 0 rfl) ?_
        refine lv_iload hx hb dL_law_726 (lv_at hl 4 rfl) ?_
        refine lv_iconst (v := 1) hx hb dL_law_728 (by decide) ?_
        refine lv_iadd hx hb dL_law_729 ?_
        refine va_sld hx hb hX hbl hbA hV.2.2.2 hin1 dL_law_730 ?_
        refine lw_call (is := [xs (x4 + 1).toNatClampNeg]) (k := 161) hC dL_law_731 mt_13_107 rfl (lw_sm_o m1 o1) r2 m2 hl.1 (Nat.le_of_ble_eq_true rfl) hcl hsl hV (fun H locs hV => ?_)
        refine lv_icmp_eq (tgt := 739) hx hb dL_law_734 (by decide) (fun _ => ?_) (fun z => absurd rfl z)
        exact tail σ2 f H locs ls [] _ _ (by omega) (by omega) i2 hV hl
end
section
theorem i_new {call : am_I → List Value → am_St → Option (Option Value × am_St)} {mi : am_I} {pc idx ci : Nat} {L : am_L} {S : List Value} {σ : am_St} (h : am_cls mi.1 idx = some ci) : am_ins call mi (.new idx) 3 pc L S σ = am_nx (pc + 3) L (.ref σ.1 :: S) (am_al σ (ci + 4) 0 (am_nf ci)) := by
  show am_mk mi (.new idx) pc L S σ = _
  unfold am_mk
  dsimp only
  rw [h]
theorem i_spec {call : am_I → List Value → am_St → Option (Option Value × am_St)} {mi m2 : am_I} {pc idx b : Nat} {L : am_L} {rest : List Value} {σ σ1 : am_St} (h0 : am_isO mi.1 idx = false) (h : am_mth mi.1 idx 2 = some m2) (hn : m2.2.2.2.2.2.1 = 0) (hc : (rest.map fun v => v.category).sum ≤ 8) (hr : call m2 [.ref b] σ = some (none, σ1)) : am_ins call mi (.invokespecial idx) 3 pc L (.ref b :: rest) σ = am_nx (pc + 3) L rest σ1 := by
  show am_inv call mi 2 idx pc L (.ref b :: rest) σ = _
  simp only [am_inv]
  rw [h0, h]
  simp only [hn, List.drop_zero, List.take_zero, List.reverse_nil, Bool.false_eq_true, if_false]
  unfold am_calls
  rw [if_pos hc, hr]
  rfl
def mL (nm : String) : am_I := (13, ⟨RL, nm, "([I)Z"⟩, code, 7, ret, 1, false)
set_option maxRecDepth 1000000 in
theorem kk_bn : kk_b.1 = 161 := by decide +kernel
set_option maxRecDepth 100000 in
theorem kk_l1 : am_cls 13 8 = some 11 ∧ am_cls 13 16 = some 12 := by decide +kernel
set_option maxRecDepth 100000 in
theorem kk_m1 : am_mth 13 15 2 = some mX11_init := rfl
set_option maxRecDepth 100000 in
theorem kk_m2 : am_mth 13 18 2 = some mX12_init := rfl
theorem kk_o1 : am_isO 13 15 = false ∧ am_isO 13 18 = false := by decide +kernel
theorem kk_r1 : am_run 2000 mX11_init [.ref 0] kk_a = some (none, kk_b) := am_run_le (by decide : 8 ≤ 2000) _ _ _ _ (am_rn_run 8 3000 _ _ _ _ (kk_get_ok kk_b_ok))
theorem kk_r2 : am_run 2000 mX12_init [.ref 161] kk_c = some (none, kk_d) := am_run_le (by decide : 8 ≤ 2000) _ _ _ _ (am_rn_run 8 3000 _ _ _ _ (kk_get_ok kk_d_ok))
theorem kk_walk (nm : String) (b : Nat) : am_wk (am_run 2000) (mL nm) 8 0 [some (.retAddr b), none, none, none, none, none, none] [] kk_s = some (16, [some (.retAddr b), some (.ref 0), some (.ref 161), none, none, none, none], [], kk_d) := by
  refine wk_s dL_law_0 (i_new kk_l1.1) ?_
  refine wk_s dL_law_3 (L' := [some (.retAddr b), none, none, none, none, none, none]) (S' := [.ref 0, .ref 0]) (σ' := kk_a) rfl ?_
  refine wk_s dL_law_4 (i_spec (m2 := mX11_init) (σ1 := kk_b) kk_o1.1 kk_m1 rfl (Nat.le_of_ble_eq_true rfl) kk_r1) ?_
  refine wk_s dL_law_7 (L' := [some (.retAddr b), some (.ref 0), none, none, none, none, none]) (S' := []) (σ' := kk_b) rfl ?_
  refine wk_s dL_law_8 (i_new kk_l1.2) ?_
  rw [kk_bn]
  refine wk_s dL_law_11 (L' := [some (.retAddr b), some (.ref 0), none, none, none, none, none]) (S' := [.ref 161, .ref 161]) (σ' := kk_c) rfl ?_
  refine wk_s dL_law_12 (i_spec (m2 := mX12_init) (σ1 := kk_d) kk_o1.2 kk_m2 rfl (Nat.le_of_ble_eq_true rfl) kk_r2) ?_
  refine wk_s dL_law_15 (L' := [some (.retAddr b), some (.ref 0), some (.ref 161), none, none, none, none]) (S' := []) (σ' := kk_d) rfl ?_
  rfl
theorem kk_n1 : kk_d.1 = 194 := (Prod.mk.inj kk_n).1
theorem kk_n2 : kk_d.2.1 = 1187152 := (Prod.mk.inj kk_n).2
set_option maxRecDepth 100000 in
set_option maxHeartbeats 4000000 in
/-- THE LAW, from its entry, over an invariant of the machine's states -/
theorem lw_start {p : Program} {e : Env} {s : State} {m : MethodId} {below : List Frame} {meth : Method} {c : Code} (l : Launch) (hflags : l.flags = flags0) {b L K : Nat} {xs : Nat → Int32} (hLK : L ≤ 6 * K + 5) (hK5 : K ≤ 512) (Inv : Nat → am_St → Prop) (hsh : ∀ i σ, Inv i σ → lw_sh σ) (hops : ∀ i σ, i < K → Inv i σ → lw_ops (Inv (i + 1)) σ) (hI0 : Inv 0 kk_d) (C0 : lw_At p s m meth c b L xs) : W p l e room_1 s m #[Value.ref b] below meth c s.heap [] 0 0 (lw_Z below #[Value.ref b] s) (entryFrame m ([Value.ref b] : List Value).toArray 7) := by
  obtain ⟨hx, hb, hr, hml, hown, hts, hX, hbl, hlocks, hgv⟩ := C0
  obtain ⟨D, cA, hK⟩ := am_K0 hts
  have hg : ∀ w ∈ lw_good, w.before #[Value.ref b] s = true := fun w hw => hts w (List.mem_filter.mp hw).1
  have hC : am_Cx p room_1 s m #[Value.ref b] meth c D cA s.heap.size s.heap.size 0 0 kk_d.1 kk_d.2.1 2000 (mL meth.name) := ⟨hx, hb, hr, hml, hown, hg, hlocks, rfl, hK, ⟨rfl, Or.inr rfl⟩, by decide, by decide, by rw [kk_n1]; decide, by rw [kk_n2]; decide⟩
  have hl := lv_entry ([.ref b]) (n := 7) (Nat.le_of_ble_eq_true rfl)
  rw [lg_entry_eq]
  generalize (lg_sl ([.ref b]) ++ List.replicate (7 - (lg_sl ([.ref b])).length) Slot.unset).toArray = ls at hl ⊢
  have hl : lv_has ls 7 [(0, .ref b)] := hl
  have hlr : am_lr s.heap.size (mL meth.name).2.2.2.1 (mL meth.name).2.2.2.2.2.2 [some (.retAddr b), none, none, none, none, none, none] ls := by
    refine ⟨hl.1, hl.2.1, fun i v hi => ?_, fun _ i v hi => ?_⟩
    · match i, hi with
      | 0, hi => cases hi; exact lv_at hl 0 rfl
      | 1, hi => simp at hi
      | 2, hi => simp at hi
      | 3, hi => simp at hi
      | 4, hi => simp at hi
      | 5, hi => simp at hi
      | 6, hi => simp at hi
      | i + 7, hi => simp at hi
    · match i, hi with
      | 0, hi => cases hi; rfl
      | 1, hi => simp at hi
      | 2, hi => simp at hi
      | 3, hi => simp at hi
      | 4, hi => simp at hi
      | 5, hi => simp at hi
      | 6, hi => simp at hi
      | i + 7, hi => simp at hi
  have hP0 : va_P D vwCl (am_wl cA s.heap.size kk_s) s.heap := fun k q hq => by
    obtain ⟨h, -⟩ := am_wl_of hq
    exact absurd h (Nat.not_lt_zero _)
  have key := am_s_wk (below := below) (e := e) (l := l) (Q := lw_Z below #[Value.ref b] s) hC (am_sound l D cA s.heap.size 2000) (am_up_run 2000) 8 0 _ _ kk_s (kk_walk meth.name b) (Nat.le_refl _) (Nat.le_refl _) ?_ s.heap [] ls ⟨hP0, va_S.rf, hlr⟩
  · exact key
  · intro H locs ls hp
    obtain ⟨hP, hS, hlr⟩ := hp
    have hS : va_S (fun a => s.heap.size ≤ a) s.heap H locs := ⟨hS.1, fun a h1 h2 => hS.2.1 a h1 (fun z => h2 z.1), fun a ha => (hS.2.2 a ha).1⟩
    have hl : lv_has ls 7 [(0, .ref b), (1, .ref (s.heap.size + 0)), (2, .ref (s.heap.size + 161))] := ⟨hlr.1, hlr.2.1, fun q hq => by
      rcases List.mem_cons.mp hq with rfl | hq
      · exact hlr.2.2.1 0 _ rfl
      · rcases List.mem_cons.mp hq with rfl | hq
        · exact hlr.2.2.1 1 _ rfl
        · rcases List.mem_cons.mp hq with rfl | hq
          · exact hlr.2.2.1 2 _ rfl
          · exact absurd hq List.not_mem_nil⟩
    have hDD : va_D (fun a => s.heap.size ≤ a) (am_wl cA s.heap.size kk_d) := ⟨(am_D cA s.heap.size s.heap.size 0 kk_d (Or.inr rfl)).1, fun k q hq => ((am_D cA s.heap.size s.heap.size 0 kk_d (Or.inr rfl)).2 k q hq).1⟩
    rw [kk_n1, kk_n2]
    refine lv_iconst (v := 1) hx hb dL_law_16 (by decide) ?_
    refine va_newa (atype := .long) (A := fun a => s.heap.size ≤ a) (N' := 1) (a0 := (1, .inr (.inl (fun _ => 0)))) hx hb (hg _ (am_at_mem am_okA.2.2)) rfl hK.1 hP hDD hS (fun _ h => h) (fun cB => rfl) (by decide) (by decide) (by decide) (by decide) (by decide) dL_law_17 (fun q cJ H1 hK1 hP1 hD1 hS1 => ?_)
    have hlen : (am_wl cA s.heap.size kk_d).length = 194 := by simp [am_wl, kk_n1]
    have hat : (am_wl cA s.heap.size kk_d ++ [(q, .inl (cJ, 1, .inr (.inl (fun _ => 0))))])[194]? = some (q, .inl (cJ, 1, .inr (.inl (fun _ => (0 : Int64))))) := by rw [List.getElem?_append_right (by omega)]; simp [hlen]
    have hJ : ArrOfT s cJ .long ∧ va_RA s cJ .long := hK1.2 4 (cJ, .long) rfl
    have hPd : va_P D vwCl (am_wl cA s.heap.size kk_d) H1 := fun k z hz => hP1 k z (by rw [List.getElem?_append_left (List.getElem?_eq_some_iff.mp hz).1]; exact hz)
    have hqs : s.heap.size ≤ q := hD1.2 194 _ hat
    have hqb : s.heap.size + kk_d.1 ≤ q := by
      rw [kk_n1]
      rcases Nat.lt_or_ge q (s.heap.size + 194) with z | z
      · have hk9 : (am_wl cA s.heap.size kk_d ++ [(q, .inl (cJ, 1, .inr (.inl (fun _ => 0))))])[q - s.heap.size]? = some (s.heap.size + (q - s.heap.size), am_cell cA s.heap.size kk_d (q - s.heap.size)) := by
          rw [List.getElem?_append_left (by omega), am_wl_at (by rw [kk_n1]; omega)]
        have := hD1.1 (q - s.heap.size) 194 _ _ hk9 hat (by show s.heap.size + (q - s.heap.size) = q; omega)
        omega
      · exact z
    refine lv_astore_n (lv' := [(3, .ref q), (0, .ref b), (1, .ref (s.heap.size + 0)), (2, .ref (s.heap.size + 161))]) hx hb dL_law_19 rfl hl (by decide) rfl (fun ls hl => ?_)
    refine lv_iconst (v := 0) hx hb dL_law_20 (by decide) ?_
    refine lv_istore (lv' := [(4, .int 0), (3, .ref q), (0, .ref b), (1, .ref (s.heap.size + 0)), (2, .ref (s.heap.size + 161))]) hx hb dL_law_21 hl (by decide) rfl (fun ls hl => ?_)
    refine W.widen (k := 195 + 0) (n := 1187153 + 6 * 0) (by decide) (by decide) ?_
    exact law_loop hLK hK5 Inv hsh hops ⟨hx, hb, hr, hml, hown, hts, hlocks, hK, hJ, rfl, hflags, hgv⟩ hX hbl (L + 1) 0 0 kk_d (fun _ => 0) H1 locs ls (Nat.zero_le _) (by omega) rfl hI0 ⟨hPd, hP1 194 _ hat, hqb, hS1⟩ (lv_sub hl [2, 3, 4, 1, 0] rfl)
end
