section
-- ===== PART A: goes FIRST, ahead of the names: the tables' words, and 'selects' of the private methods out of them =====
/-- a private method of a class that the tables say can be made, by its rows of tables_1 -/
def lw_okq (q : MethodName × Nat) : Prop := (q.1.cls ≠ "java/lang/invoke/MethodHandle" ∧ q.1.cls ≠ "java/lang/invoke/VarHandle") ∧ Cond.instantiable q.1.cls q.2 ∈ tables_1 ∧ Cond.privateMethod q.1 ∈ tables_1 ∧ Cond.instanceMethod q.1 ∈ tables_1
theorem lw_p0 : lw_okq (⟨"LoopRounds", "refused", "(I)I"⟩, 9) := ⟨⟨by decide +kernel, by decide +kernel⟩, List.mem_of_getElem? (i := 13) (by decide +kernel), List.mem_of_getElem? (i := 251) (by decide +kernel), List.mem_of_getElem? (i := 252) (by decide +kernel)⟩
theorem lw_p1 : lw_okq (⟨"LoopRounds", "faulted", "(I)I"⟩, 9) := ⟨⟨by decide +kernel, by decide +kernel⟩, List.mem_of_getElem? (i := 13) (by decide +kernel), List.mem_of_getElem? (i := 266) (by decide +kernel), List.mem_of_getElem? (i := 267) (by decide +kernel)⟩
theorem lw_p2 : lw_okq (⟨"LoopRounds$Text", "takes", "(I)Z"⟩, 2) := ⟨⟨by decide +kernel, by decide +kernel⟩, List.mem_of_getElem? (i := 90) (by decide +kernel), List.mem_of_getElem? (i := 278) (by decide +kernel), List.mem_of_getElem? (i := 279) (by decide +kernel)⟩
theorem lw_p3 : lw_okq (⟨"LoopRounds$Text", "goesOn", "(ZI)Z"⟩, 2) := ⟨⟨by decide +kernel, by decide +kernel⟩, List.mem_of_getElem? (i := 90) (by decide +kernel), List.mem_of_getElem? (i := 282) (by decide +kernel), List.mem_of_getElem? (i := 283) (by decide +kernel)⟩
theorem lw_p4 : lw_okq (⟨"LoopRounds$Text", "takesRing", "(I)Z"⟩, 2) := ⟨⟨by decide +kernel, by decide +kernel⟩, List.mem_of_getElem? (i := 90) (by decide +kernel), List.mem_of_getElem? (i := 286) (by decide +kernel), List.mem_of_getElem? (i := 287) (by decide +kernel)⟩
theorem lw_p5 : lw_okq (⟨"LoopRounds$Text", "takesRound", "(I)Z"⟩, 2) := ⟨⟨by decide +kernel, by decide +kernel⟩, List.mem_of_getElem? (i := 90) (by decide +kernel), List.mem_of_getElem? (i := 290) (by decide +kernel), List.mem_of_getElem? (i := 291) (by decide +kernel)⟩
theorem lw_p6 : lw_okq (⟨"LoopRounds$Text", "takesKind", "(I)Z"⟩, 2) := ⟨⟨by decide +kernel, by decide +kernel⟩, List.mem_of_getElem? (i := 90) (by decide +kernel), List.mem_of_getElem? (i := 305) (by decide +kernel), List.mem_of_getElem? (i := 306) (by decide +kernel)⟩
theorem lw_p7 : lw_okq (⟨"LoopRounds$Text", "takesSpun", "(I)Z"⟩, 2) := ⟨⟨by decide +kernel, by decide +kernel⟩, List.mem_of_getElem? (i := 90) (by decide +kernel), List.mem_of_getElem? (i := 317) (by decide +kernel), List.mem_of_getElem? (i := 318) (by decide +kernel)⟩
theorem lw_p8 : lw_okq (⟨"LoopRounds$Text", "takesSign", "(I)Z"⟩, 2) := ⟨⟨by decide +kernel, by decide +kernel⟩, List.mem_of_getElem? (i := 90) (by decide +kernel), List.mem_of_getElem? (i := 324) (by decide +kernel), List.mem_of_getElem? (i := 325) (by decide +kernel)⟩
theorem lw_p9 : lw_okq (⟨"LoopRounds$Text", "mayEnd", "()Z"⟩, 2) := ⟨⟨by decide +kernel, by decide +kernel⟩, List.mem_of_getElem? (i := 90) (by decide +kernel), List.mem_of_getElem? (i := 335) (by decide +kernel), List.mem_of_getElem? (i := 336) (by decide +kernel)⟩
theorem lw_p10 : lw_okq (⟨"LoopRounds$Layout", "layLoop", "(IIII)V"⟩, 5) := ⟨⟨by decide +kernel, by decide +kernel⟩, List.mem_of_getElem? (i := 106) (by decide +kernel), List.mem_of_getElem? (i := 380) (by decide +kernel), List.mem_of_getElem? (i := 381) (by decide +kernel)⟩
theorem lw_p11 : lw_okq (⟨"LoopRounds", "firstWrong", "(LLoopRounds$Sheet;II)I"⟩, 9) := ⟨⟨by decide +kernel, by decide +kernel⟩, List.mem_of_getElem? (i := 13) (by decide +kernel), List.mem_of_getElem? (i := 468) (by decide +kernel), List.mem_of_getElem? (i := 469) (by decide +kernel)⟩
theorem lw_p12 : lw_okq (⟨"LoopRounds$Piece", "ravelsLast", "()Z"⟩, 4) := ⟨⟨by decide +kernel, by decide +kernel⟩, List.mem_of_getElem? (i := 23) (by decide +kernel), List.mem_of_getElem? (i := 476) (by decide +kernel), List.mem_of_getElem? (i := 477) (by decide +kernel)⟩
theorem lw_p13 : lw_okq (⟨"LoopRounds$Piece", "spinsMore", "(I)Z"⟩, 4) := ⟨⟨by decide +kernel, by decide +kernel⟩, List.mem_of_getElem? (i := 23) (by decide +kernel), List.mem_of_getElem? (i := 480) (by decide +kernel), List.mem_of_getElem? (i := 481) (by decide +kernel)⟩
theorem lw_p14 : lw_okq (⟨"LoopRounds$Piece", "putsOnAlone", "(I)Z"⟩, 4) := ⟨⟨by decide +kernel, by decide +kernel⟩, List.mem_of_getElem? (i := 23) (by decide +kernel), List.mem_of_getElem? (i := 484) (by decide +kernel), List.mem_of_getElem? (i := 485) (by decide +kernel)⟩
theorem lw_p15 : lw_okq (⟨"LoopRounds", "ofTrialDay", "(I)I"⟩, 9) := ⟨⟨by decide +kernel, by decide +kernel⟩, List.mem_of_getElem? (i := 13) (by decide +kernel), List.mem_of_getElem? (i := 491) (by decide +kernel), List.mem_of_getElem? (i := 492) (by decide +kernel)⟩
def lw_privs_1 : List (MethodName × Nat) := [(⟨"LoopRounds", "refused", "(I)I"⟩, 9), (⟨"LoopRounds", "faulted", "(I)I"⟩, 9), (⟨"LoopRounds$Text", "takes", "(I)Z"⟩, 2), (⟨"LoopRounds$Text", "goesOn", "(ZI)Z"⟩, 2), (⟨"LoopRounds$Text", "takesRing", "(I)Z"⟩, 2), (⟨"LoopRounds$Text", "takesRound", "(I)Z"⟩, 2), (⟨"LoopRounds$Text", "takesKind", "(I)Z"⟩, 2), (⟨"LoopRounds$Text", "takesSpun", "(I)Z"⟩, 2), (⟨"LoopRounds$Text", "takesSign", "(I)Z"⟩, 2), (⟨"LoopRounds$Text", "mayEnd", "()Z"⟩, 2), (⟨"LoopRounds$Layout", "layLoop", "(IIII)V"⟩, 5), (⟨"LoopRounds", "firstWrong", "(LLoopRounds$Sheet;II)I"⟩, 9), (⟨"LoopRounds$Piece", "ravelsLast", "()Z"⟩, 4), (⟨"LoopRounds$Piece", "spinsMore", "(I)Z"⟩, 4), (⟨"LoopRounds$Piece", "putsOnAlone", "(I)Z"⟩, 4), (⟨"LoopRounds", "ofTrialDay", "(I)I"⟩, 9)]
theorem lw_r1 : ∀ q ∈ lw_privs_1, lw_okq q := List.forall_mem_cons.mpr ⟨lw_p0, List.forall_mem_cons.mpr ⟨lw_p1, List.forall_mem_cons.mpr ⟨lw_p2, List.forall_mem_cons.mpr ⟨lw_p3, List.forall_mem_cons.mpr ⟨lw_p4, List.forall_mem_cons.mpr ⟨lw_p5, List.forall_mem_cons.mpr ⟨lw_p6, List.forall_mem_cons.mpr ⟨lw_p7, List.forall_mem_cons.mpr ⟨lw_p8, List.forall_mem_cons.mpr ⟨lw_p9, List.forall_mem_cons.mpr ⟨lw_p10, List.forall_mem_cons.mpr ⟨lw_p11, List.forall_mem_cons.mpr ⟨lw_p12, List.forall_mem_cons.mpr ⟨lw_p13, List.forall_mem_cons.mpr ⟨lw_p14, List.forall_mem_cons.mpr ⟨lw_p15, fun _ h => absurd h List.not_mem_nil⟩⟩⟩⟩⟩⟩⟩⟩⟩⟩⟩⟩⟩⟩⟩⟩
theorem lw_p16 : lw_okq (⟨"LoopRounds$Plans", "goOnFrom", "(II)I"⟩, 9) := ⟨⟨by decide +kernel, by decide +kernel⟩, List.mem_of_getElem? (i := 152) (by decide +kernel), List.mem_of_getElem? (i := 508) (by decide +kernel), List.mem_of_getElem? (i := 509) (by decide +kernel)⟩
theorem lw_p17 : lw_okq (⟨"LoopRounds$Plans", "addWays", "(JI[J)V"⟩, 9) := ⟨⟨by decide +kernel, by decide +kernel⟩, List.mem_of_getElem? (i := 152) (by decide +kernel), List.mem_of_getElem? (i := 529) (by decide +kernel), List.mem_of_getElem? (i := 530) (by decide +kernel)⟩
theorem lw_p18 : lw_okq (⟨"LoopRounds", "bitIfTrialCanBe", "(I)I"⟩, 9) := ⟨⟨by decide +kernel, by decide +kernel⟩, List.mem_of_getElem? (i := 13) (by decide +kernel), List.mem_of_getElem? (i := 553) (by decide +kernel), List.mem_of_getElem? (i := 554) (by decide +kernel)⟩
theorem lw_p19 : lw_okq (⟨"LoopRounds", "tellTwined", "(I)I"⟩, 9) := ⟨⟨by decide +kernel, by decide +kernel⟩, List.mem_of_getElem? (i := 13) (by decide +kernel), List.mem_of_getElem? (i := 613) (by decide +kernel), List.mem_of_getElem? (i := 614) (by decide +kernel)⟩
theorem lw_p20 : lw_okq (⟨"LoopRounds", "leaveInTrace", "(I)V"⟩, 9) := ⟨⟨by decide +kernel, by decide +kernel⟩, List.mem_of_getElem? (i := 13) (by decide +kernel), List.mem_of_getElem? (i := 617) (by decide +kernel), List.mem_of_getElem? (i := 618) (by decide +kernel)⟩
theorem lw_p21 : lw_okq (⟨"LoopRounds", "tellBrushed", "(I)I"⟩, 9) := ⟨⟨by decide +kernel, by decide +kernel⟩, List.mem_of_getElem? (i := 13) (by decide +kernel), List.mem_of_getElem? (i := 621) (by decide +kernel), List.mem_of_getElem? (i := 622) (by decide +kernel)⟩
theorem lw_p22 : lw_okq (⟨"LoopRounds", "tellPlain", "(I)I"⟩, 9) := ⟨⟨by decide +kernel, by decide +kernel⟩, List.mem_of_getElem? (i := 13) (by decide +kernel), List.mem_of_getElem? (i := 625) (by decide +kernel), List.mem_of_getElem? (i := 626) (by decide +kernel)⟩
theorem lw_p23 : lw_okq (⟨"LoopRounds", "tugTwined", "()I"⟩, 9) := ⟨⟨by decide +kernel, by decide +kernel⟩, List.mem_of_getElem? (i := 13) (by decide +kernel), List.mem_of_getElem? (i := 633) (by decide +kernel), List.mem_of_getElem? (i := 634) (by decide +kernel)⟩
theorem lw_p24 : lw_okq (⟨"LoopRounds", "tugLent", "(I)I"⟩, 9) := ⟨⟨by decide +kernel, by decide +kernel⟩, List.mem_of_getElem? (i := 13) (by decide +kernel), List.mem_of_getElem? (i := 637) (by decide +kernel), List.mem_of_getElem? (i := 638) (by decide +kernel)⟩
theorem lw_p25 : lw_okq (⟨"LoopRoundsModel", "against", "(IIII)I"⟩, 33) := ⟨⟨by decide +kernel, by decide +kernel⟩, List.mem_of_getElem? (i := 661) (by decide +kernel), List.mem_of_getElem? (i := 780) (by decide +kernel), List.mem_of_getElem? (i := 781) (by decide +kernel)⟩
theorem lw_p26 : lw_okq (⟨"LoopRoundsModel", "fails", "(I)I"⟩, 33) := ⟨⟨by decide +kernel, by decide +kernel⟩, List.mem_of_getElem? (i := 661) (by decide +kernel), List.mem_of_getElem? (i := 784) (by decide +kernel), List.mem_of_getElem? (i := 785) (by decide +kernel)⟩
theorem lw_p27 : lw_okq (⟨"LoopRoundsModel", "readPiece", "(I)Z"⟩, 33) := ⟨⟨by decide +kernel, by decide +kernel⟩, List.mem_of_getElem? (i := 661) (by decide +kernel), List.mem_of_getElem? (i := 788) (by decide +kernel), List.mem_of_getElem? (i := 789) (by decide +kernel)⟩
theorem lw_p28 : lw_okq (⟨"LoopRoundsModel", "isSign", "(II)Z"⟩, 33) := ⟨⟨by decide +kernel, by decide +kernel⟩, List.mem_of_getElem? (i := 661) (by decide +kernel), List.mem_of_getElem? (i := 792) (by decide +kernel), List.mem_of_getElem? (i := 793) (by decide +kernel)⟩
theorem lw_p29 : lw_okq (⟨"LoopRoundsModel", "digit", "(III)I"⟩, 33) := ⟨⟨by decide +kernel, by decide +kernel⟩, List.mem_of_getElem? (i := 661) (by decide +kernel), List.mem_of_getElem? (i := 796) (by decide +kernel), List.mem_of_getElem? (i := 797) (by decide +kernel)⟩
theorem lw_p30 : lw_okq (⟨"LoopRoundsModel", "readRound", "(II)Z"⟩, 33) := ⟨⟨by decide +kernel, by decide +kernel⟩, List.mem_of_getElem? (i := 661) (by decide +kernel), List.mem_of_getElem? (i := 800) (by decide +kernel), List.mem_of_getElem? (i := 801) (by decide +kernel)⟩
theorem lw_p31 : lw_okq (⟨"LoopRoundsModel", "takePiece", "()V"⟩, 33) := ⟨⟨by decide +kernel, by decide +kernel⟩, List.mem_of_getElem? (i := 661) (by decide +kernel), List.mem_of_getElem? (i := 816) (by decide +kernel), List.mem_of_getElem? (i := 817) (by decide +kernel)⟩
def lw_privs_2 : List (MethodName × Nat) := [(⟨"LoopRounds$Plans", "goOnFrom", "(II)I"⟩, 9), (⟨"LoopRounds$Plans", "addWays", "(JI[J)V"⟩, 9), (⟨"LoopRounds", "bitIfTrialCanBe", "(I)I"⟩, 9), (⟨"LoopRounds", "tellTwined", "(I)I"⟩, 9), (⟨"LoopRounds", "leaveInTrace", "(I)V"⟩, 9), (⟨"LoopRounds", "tellBrushed", "(I)I"⟩, 9), (⟨"LoopRounds", "tellPlain", "(I)I"⟩, 9), (⟨"LoopRounds", "tugTwined", "()I"⟩, 9), (⟨"LoopRounds", "tugLent", "(I)I"⟩, 9), (⟨"LoopRoundsModel", "against", "(IIII)I"⟩, 33), (⟨"LoopRoundsModel", "fails", "(I)I"⟩, 33), (⟨"LoopRoundsModel", "readPiece", "(I)Z"⟩, 33), (⟨"LoopRoundsModel", "isSign", "(II)Z"⟩, 33), (⟨"LoopRoundsModel", "digit", "(III)I"⟩, 33), (⟨"LoopRoundsModel", "readRound", "(II)Z"⟩, 33), (⟨"LoopRoundsModel", "takePiece", "()V"⟩, 33)]
theorem lw_r2 : ∀ q ∈ lw_privs_2, lw_okq q := List.forall_mem_cons.mpr ⟨lw_p16, List.forall_mem_cons.mpr ⟨lw_p17, List.forall_mem_cons.mpr ⟨lw_p18, List.forall_mem_cons.mpr ⟨lw_p19, List.forall_mem_cons.mpr ⟨lw_p20, List.forall_mem_cons.mpr ⟨lw_p21, List.forall_mem_cons.mpr ⟨lw_p22, List.forall_mem_cons.mpr ⟨lw_p23, List.forall_mem_cons.mpr ⟨lw_p24, List.forall_mem_cons.mpr ⟨lw_p25, List.forall_mem_cons.mpr ⟨lw_p26, List.forall_mem_cons.mpr ⟨lw_p27, List.forall_mem_cons.mpr ⟨lw_p28, List.forall_mem_cons.mpr ⟨lw_p29, List.forall_mem_cons.mpr ⟨lw_p30, List.forall_mem_cons.mpr ⟨lw_p31, fun _ h => absurd h List.not_mem_nil⟩⟩⟩⟩⟩⟩⟩⟩⟩⟩⟩⟩⟩⟩⟩⟩
theorem lw_p32 : lw_okq (⟨"LoopRoundsModel", "isRound", "(I)Z"⟩, 33) := ⟨⟨by decide +kernel, by decide +kernel⟩, List.mem_of_getElem? (i := 661) (by decide +kernel), List.mem_of_getElem? (i := 824) (by decide +kernel), List.mem_of_getElem? (i := 825) (by decide +kernel)⟩
theorem lw_p33 : lw_okq (⟨"LoopRoundsModel", "wideOf", "(I)I"⟩, 33) := ⟨⟨by decide +kernel, by decide +kernel⟩, List.mem_of_getElem? (i := 661) (by decide +kernel), List.mem_of_getElem? (i := 828) (by decide +kernel), List.mem_of_getElem? (i := 829) (by decide +kernel)⟩
theorem lw_p34 : lw_okq (⟨"LoopRoundsModel", "timesOf", "(I)I"⟩, 33) := ⟨⟨by decide +kernel, by decide +kernel⟩, List.mem_of_getElem? (i := 661) (by decide +kernel), List.mem_of_getElem? (i := 832) (by decide +kernel), List.mem_of_getElem? (i := 833) (by decide +kernel)⟩
theorem lw_p35 : lw_okq (⟨"LoopRoundsModel", "girthOf", "(I)I"⟩, 33) := ⟨⟨by decide +kernel, by decide +kernel⟩, List.mem_of_getElem? (i := 661) (by decide +kernel), List.mem_of_getElem? (i := 836) (by decide +kernel), List.mem_of_getElem? (i := 837) (by decide +kernel)⟩
theorem lw_p36 : lw_okq (⟨"LoopRoundsModel", "outOf", "(I)I"⟩, 33) := ⟨⟨by decide +kernel, by decide +kernel⟩, List.mem_of_getElem? (i := 661) (by decide +kernel), List.mem_of_getElem? (i := 840) (by decide +kernel), List.mem_of_getElem? (i := 841) (by decide +kernel)⟩
theorem lw_p37 : lw_okq (⟨"LoopRoundsModel", "curlOf", "(I)I"⟩, 33) := ⟨⟨by decide +kernel, by decide +kernel⟩, List.mem_of_getElem? (i := 661) (by decide +kernel), List.mem_of_getElem? (i := 844) (by decide +kernel), List.mem_of_getElem? (i := 845) (by decide +kernel)⟩
theorem lw_p38 : lw_okq (⟨"LoopRoundsModel", "isPiece", "()Z"⟩, 33) := ⟨⟨by decide +kernel, by decide +kernel⟩, List.mem_of_getElem? (i := 661) (by decide +kernel), List.mem_of_getElem? (i := 852) (by decide +kernel), List.mem_of_getElem? (i := 853) (by decide +kernel)⟩
theorem lw_p39 : lw_okq (⟨"LoopRoundsModel", "findLoops", "()V"⟩, 33) := ⟨⟨by decide +kernel, by decide +kernel⟩, List.mem_of_getElem? (i := 661) (by decide +kernel), List.mem_of_getElem? (i := 864) (by decide +kernel), List.mem_of_getElem? (i := 865) (by decide +kernel)⟩
theorem lw_p40 : lw_okq (⟨"LoopRoundsModel", "writeLoop", "(IIII)V"⟩, 33) := ⟨⟨by decide +kernel, by decide +kernel⟩, List.mem_of_getElem? (i := 661) (by decide +kernel), List.mem_of_getElem? (i := 868) (by decide +kernel), List.mem_of_getElem? (i := 869) (by decide +kernel)⟩
theorem lw_p41 : lw_okq (⟨"LoopRoundsModel", "putRound", "(IIII)V"⟩, 33) := ⟨⟨by decide +kernel, by decide +kernel⟩, List.mem_of_getElem? (i := 661) (by decide +kernel), List.mem_of_getElem? (i := 880) (by decide +kernel), List.mem_of_getElem? (i := 881) (by decide +kernel)⟩
theorem lw_p42 : lw_okq (⟨"LoopRoundsModel", "keep", "()V"⟩, 33) := ⟨⟨by decide +kernel, by decide +kernel⟩, List.mem_of_getElem? (i := 661) (by decide +kernel), List.mem_of_getElem? (i := 892) (by decide +kernel), List.mem_of_getElem? (i := 893) (by decide +kernel)⟩
theorem lw_p43 : lw_okq (⟨"LoopRoundsModel", "goDay", "(II)I"⟩, 33) := ⟨⟨by decide +kernel, by decide +kernel⟩, List.mem_of_getElem? (i := 661) (by decide +kernel), List.mem_of_getElem? (i := 896) (by decide +kernel), List.mem_of_getElem? (i := 897) (by decide +kernel)⟩
theorem lw_p44 : lw_okq (⟨"LoopRoundsModel", "does", "(I)Z"⟩, 33) := ⟨⟨by decide +kernel, by decide +kernel⟩, List.mem_of_getElem? (i := 661) (by decide +kernel), List.mem_of_getElem? (i := 900) (by decide +kernel), List.mem_of_getElem? (i := 901) (by decide +kernel)⟩
theorem lw_p45 : lw_okq (⟨"LoopRoundsModel", "tellDay", "(I)I"⟩, 33) := ⟨⟨by decide +kernel, by decide +kernel⟩, List.mem_of_getElem? (i := 661) (by decide +kernel), List.mem_of_getElem? (i := 904) (by decide +kernel), List.mem_of_getElem? (i := 905) (by decide +kernel)⟩
theorem lw_p46 : lw_okq (⟨"LoopRoundsModel", "putBack", "()V"⟩, 33) := ⟨⟨by decide +kernel, by decide +kernel⟩, List.mem_of_getElem? (i := 661) (by decide +kernel), List.mem_of_getElem? (i := 908) (by decide +kernel), List.mem_of_getElem? (i := 909) (by decide +kernel)⟩
theorem lw_p47 : lw_okq (⟨"LoopRoundsModel", "findFar", "(I)V"⟩, 33) := ⟨⟨by decide +kernel, by decide +kernel⟩, List.mem_of_getElem? (i := 661) (by decide +kernel), List.mem_of_getElem? (i := 916) (by decide +kernel), List.mem_of_getElem? (i := 917) (by decide +kernel)⟩
def lw_privs_3 : List (MethodName × Nat) := [(⟨"LoopRoundsModel", "isRound", "(I)Z"⟩, 33), (⟨"LoopRoundsModel", "wideOf", "(I)I"⟩, 33), (⟨"LoopRoundsModel", "timesOf", "(I)I"⟩, 33), (⟨"LoopRoundsModel", "girthOf", "(I)I"⟩, 33), (⟨"LoopRoundsModel", "outOf", "(I)I"⟩, 33), (⟨"LoopRoundsModel", "curlOf", "(I)I"⟩, 33), (⟨"LoopRoundsModel", "isPiece", "()Z"⟩, 33), (⟨"LoopRoundsModel", "findLoops", "()V"⟩, 33), (⟨"LoopRoundsModel", "writeLoop", "(IIII)V"⟩, 33), (⟨"LoopRoundsModel", "putRound", "(IIII)V"⟩, 33), (⟨"LoopRoundsModel", "keep", "()V"⟩, 33), (⟨"LoopRoundsModel", "goDay", "(II)I"⟩, 33), (⟨"LoopRoundsModel", "does", "(I)Z"⟩, 33), (⟨"LoopRoundsModel", "tellDay", "(I)I"⟩, 33), (⟨"LoopRoundsModel", "putBack", "()V"⟩, 33), (⟨"LoopRoundsModel", "findFar", "(I)V"⟩, 33)]
theorem lw_r3 : ∀ q ∈ lw_privs_3, lw_okq q := List.forall_mem_cons.mpr ⟨lw_p32, List.forall_mem_cons.mpr ⟨lw_p33, List.forall_mem_cons.mpr ⟨lw_p34, List.forall_mem_cons.mpr ⟨lw_p35, List.forall_mem_cons.mpr ⟨lw_p36, List.forall_mem_cons.mpr ⟨lw_p37, List.forall_mem_cons.mpr ⟨lw_p38, List.forall_mem_cons.mpr ⟨lw_p39, List.forall_mem_cons.mpr ⟨lw_p40, List.forall_mem_cons.mpr ⟨lw_p41, List.forall_mem_cons.mpr ⟨lw_p42, List.forall_mem_cons.mpr ⟨lw_p43, List.forall_mem_cons.mpr ⟨lw_p44, List.forall_mem_cons.mpr ⟨lw_p45, List.forall_mem_cons.mpr ⟨lw_p46, List.forall_mem_cons.mpr ⟨lw_p47, fun _ h => absurd h List.not_mem_nil⟩⟩⟩⟩⟩⟩⟩⟩⟩⟩⟩⟩⟩⟩⟩⟩
theorem lw_p48 : lw_okq (⟨"LoopRoundsModel", "comesByPlan", "(II)I"⟩, 33) := ⟨⟨by decide +kernel, by decide +kernel⟩, List.mem_of_getElem? (i := 661) (by decide +kernel), List.mem_of_getElem? (i := 920) (by decide +kernel), List.mem_of_getElem? (i := 921) (by decide +kernel)⟩
theorem lw_p49 : lw_okq (⟨"LoopRoundsModel", "areSo", "()Z"⟩, 33) := ⟨⟨by decide +kernel, by decide +kernel⟩, List.mem_of_getElem? (i := 661) (by decide +kernel), List.mem_of_getElem? (i := 945) (by decide +kernel), List.mem_of_getElem? (i := 946) (by decide +kernel)⟩
theorem lw_p50 : lw_okq (⟨"LoopRoundsModel", "lost", "(I)J"⟩, 33) := ⟨⟨by decide +kernel, by decide +kernel⟩, List.mem_of_getElem? (i := 661) (by decide +kernel), List.mem_of_getElem? (i := 983) (by decide +kernel), List.mem_of_getElem? (i := 984) (by decide +kernel)⟩
theorem lw_p51 : lw_okq (⟨"LoopRoundsModel", "begins", "(I)V"⟩, 33) := ⟨⟨by decide +kernel, by decide +kernel⟩, List.mem_of_getElem? (i := 661) (by decide +kernel), List.mem_of_getElem? (i := 995) (by decide +kernel), List.mem_of_getElem? (i := 996) (by decide +kernel)⟩
def lw_privs_4 : List (MethodName × Nat) := [(⟨"LoopRoundsModel", "comesByPlan", "(II)I"⟩, 33), (⟨"LoopRoundsModel", "areSo", "()Z"⟩, 33), (⟨"LoopRoundsModel", "lost", "(I)J"⟩, 33), (⟨"LoopRoundsModel", "begins", "(I)V"⟩, 33)]
theorem lw_r4 : ∀ q ∈ lw_privs_4, lw_okq q := List.forall_mem_cons.mpr ⟨lw_p48, List.forall_mem_cons.mpr ⟨lw_p49, List.forall_mem_cons.mpr ⟨lw_p50, List.forall_mem_cons.mpr ⟨lw_p51, fun _ h => absurd h List.not_mem_nil⟩⟩⟩⟩
def lw_privs : List (MethodName × Nat) := lw_privs_1 ++ (lw_privs_2 ++ (lw_privs_3 ++ (lw_privs_4)))
def lw_tbl : List Cond := k2_sels lw_privs ++ tables_1
theorem lw_privs_ok : ∀ q ∈ lw_privs, lw_okq q := by
  show ∀ q ∈ lw_privs_1 ++ (lw_privs_2 ++ (lw_privs_3 ++ (lw_privs_4))), lw_okq q
  exact List.forall_mem_append.mpr ⟨lw_r1, List.forall_mem_append.mpr ⟨lw_r2, List.forall_mem_append.mpr ⟨lw_r3, lw_r4⟩⟩⟩
/-! ===== BEGIN words of one list among another's, by their places ===== -/
theorem goodIn_r {big : List Cond} (ws : List Cond) (ps : List Nat) (hp : ws = ps.filterMap (fun i => big[i]?)) (h : ws.all goodWord = true) : GoodIn big ws := by
  intro w hw
  have h1 := List.all_eq_true.mp h w hw
  rw [hp] at hw
  obtain ⟨i, -, hi⟩ := List.mem_filterMap.mp hw
  have hm : w ∈ big := by first | exact List.mem_of_getElem? hi | exact List.getElem?_mem hi
  exact ⟨hm, good_of_word h1⟩
theorem goodIn_app {big a b : List Cond} (ha : GoodIn big a) (hb : GoodIn big b) : GoodIn big (a ++ b) := fun w h => (List.mem_append.mp h).elim (ha w) (hb w)
theorem goodIn_ca {big a b : List Cond} {c : Cond} (ha : GoodIn big (c :: a)) (hb : GoodIn big b) : GoodIn big (c :: (a ++ b)) := fun w h => (List.mem_cons.mp h).elim (fun e => ha w (List.mem_cons.mpr (Or.inl e))) (fun h => (List.mem_append.mp h).elim (fun h => ha w (List.mem_cons.mpr (Or.inr h))) (hb w))
theorem goodIn_sub {big ws : List Cond} (hm : ∀ w ∈ ws, w ∈ big) (h : ws.all goodWord = true) : GoodIn big ws := fun w hw => ⟨hm w hw, good_of_word (List.all_eq_true.mp h w hw)⟩
/-! ===== END ===== -/

/-! ===== BEGIN new T[n][m]: the outer array a place, the inner ones among the pooled ===== -/
/-- f, but v at every address of l -/
def vr_up {α : Type} (f : Nat → α) (l : List Nat) (v : α) : Nat → α := fun a => if a ∈ l then v else f a
theorem vr_up_in {α : Type} {f : Nat → α} {l : List Nat} {v : α} {a : Nat} (h : a ∈ l) : vr_up f l v a = v := if_pos h
theorem vr_up_ne {α : Type} {f : Nat → α} {l : List Nat} {v : α} {a : Nat} (h : a ∉ l) : vr_up f l v a = f a := if_neg h
theorem vr_rows {L l : List Nat} {f : Nat → va_E} {e : va_E} (h : ∀ a, a ∈ l → a ∉ L) : va_pl L f ++ l.map (fun a => (a, e)) = va_pl (L ++ l) (vr_up f l e) := by
  unfold va_pl
  rw [List.map_append]
  congr 1
  · apply List.map_congr_left
    intro a ha
    rw [vr_up_ne (fun q => h a q ha)]
  · apply List.map_congr_left
    intro a ha
    rw [vr_up_in ha]
theorem vr_lay {X rows : va_W} {x : Nat × va_E} {pl : va_W} {D : va_G} {cl : List vw_C} {H : Heap} (hP : va_P D cl (((X ++ pl) ++ [x]) ++ rows) H) : va_P D cl ((X ++ [x]) ++ (pl ++ rows)) H := by
  rw [List.append_assoc (X ++ pl)] at hP
  have h := va_P.swap hP
  rw [← List.append_assoc X] at h
  have h2 := va_P.swap h
  rw [List.append_assoc (X ++ [x])] at h2
  exact h2
theorem vr_layD {X rows : va_W} {x : Nat × va_E} {pl : va_W} {A : Nat → Prop} (hD : va_D A (((X ++ pl) ++ [x]) ++ rows)) : va_D A ((X ++ [x]) ++ (pl ++ rows)) := by
  rw [List.append_assoc (X ++ pl)] at hD
  have h := va_D.swap hD
  rw [← List.append_assoc X] at h
  have h2 := va_D.swap h
  rw [List.append_assoc (X ++ [x])] at h2
  exact h2
theorem vr_outer (c : ClassId) (N h0 : Nat) : ∀ i : Nat, Jvm.Free.Multi.outerC c N h0 i = arrV c N (fun j => va_rf (if j < i then some (h0 + 1 + j) else none))
  | 0 => by
    show ({ cls := c, slots := Array.replicate N .null, vm := .none } : Cell) = _
    rw [arrV_new]
    refine congrArg (arrV c N) (funext fun j => ?_)
    simp [va_rf]
  | i + 1 => by
    show (Jvm.Free.Multi.outerC c N h0 i).setSlot i (.ref (h0 + 1 + i)) = _
    rw [vr_outer c N h0 i, arrV_store]
    refine congrArg (arrV c N) (funext fun j => ?_)
    by_cases e : j = i
    · subst e
      simp [updV, va_rf]
    · by_cases h : j < i
      · simp [updV, e, h, Nat.lt_succ_of_lt h]
      · simp [updV, e, h, show ¬ j < i + 1 by omega]
def RX0 : String := "LoopRounds$Layout"
def TX0 : u_T := fun k => match k with
  | 0 => ("LoopRounds$Layout", "bySign", "[[I", true)
  | 1 => ("LoopRounds$Layout", "first", "[[I", true)
  | 2 => ("LoopRounds$Layout", "last", "[[I", true)
  | 3 => ("LoopRounds$Layout", "roots", "[[I", true)
  | _ => ("LoopRounds$Layout", "above", "[[I", true)
def tyX0 : Nat → FieldType := fun k => match k with
  | 0 => .array (.array .int)
  | 1 => .array (.array .int)
  | 2 => .array (.array .int)
  | 3 => .array (.array .int)
  | _ => .array (.array .int)
abbrev wsX00 : List Cond := u_ws RX0 TX0 5
theorem nmX0 : ∀ a, a < 5 → ∀ b, b < 5 → a ≠ b → (TX0 a).2.1 ≠ (TX0 b).2.1 := by decide +kernel
theorem tyX0_ok : ∀ k, k < 5 → parseFieldDescriptor (TX0 k).2.2.1 = some (tyX0 k) := by decide +kernel
abbrev cX0_init : ByteArray := prog_2_method_1_code
def yX0_init : MethodName := ⟨RX0, "<init>", "()V"⟩
abbrev cX0_layAll : ByteArray := prog_2_method_2_code
def yX0_layAll : MethodName := ⟨RX0, "layAll", "(LLoopRounds$Piece;)V"⟩
abbrev cX0_layRound : ByteArray := prog_2_method_3_code
def yX0_layRound : MethodName := ⟨RX0, "layRound", "(ILLoopRounds$Round;)V"⟩
abbrev cX0_layLoop : ByteArray := prog_2_method_4_code
def yX0_layLoop : MethodName := ⟨RX0, "layLoop", "(IIII)V"⟩
def RX1 : String := "LoopRounds$Piece"
def TX1 : u_T := fun k => match k with
  | 0 => ("LoopRounds$Piece", "begun", "Z", false)
  | 1 => ("LoopRounds$Piece", "ring", "I", false)
  | 2 => ("LoopRounds$Piece", "count", "I", false)
  | _ => ("LoopRounds$Piece", "rounds", "[LLoopRounds$Round;", true)
def tyX1 : Nat → FieldType := fun k => match k with
  | 0 => .boolean
  | 1 => .int
  | 2 => .int
  | _ => .array (.object "LoopRounds$Round")
abbrev wsX10 : List Cond := u_ws RX1 TX1 4
theorem nmX1 : ∀ a, a < 4 → ∀ b, b < 4 → a ≠ b → (TX1 a).2.1 ≠ (TX1 b).2.1 := by decide +kernel
theorem tyX1_ok : ∀ k, k < 4 → parseFieldDescriptor (TX1 k).2.2.1 = some (tyX1 k) := by decide +kernel
abbrev cX1_init : ByteArray := prog_3_method_1_code
def yX1_init : MethodName := ⟨RX1, "<init>", "()V"⟩
abbrev cX1_has : ByteArray := prog_3_method_2_code
def yX1_has : MethodName := ⟨RX1, "has", "(I)Z"⟩
abbrev cX1_at : ByteArray := prog_3_method_3_code
def yX1_at : MethodName := ⟨RX1, "at", "(I)LLoopRounds$Round;"⟩
abbrev cX1_spare : ByteArray := prog_3_method_4_code
def yX1_spare : MethodName := ⟨RX1, "spare", "()LLoopRounds$Round;"⟩
abbrev cX1_takesSpare : ByteArray := prog_3_method_5_code
def yX1_takesSpare : MethodName := ⟨RX1, "takesSpare", "()Z"⟩
abbrev cX1_become : ByteArray := prog_3_method_6_code
def yX1_become : MethodName := ⟨RX1, "become", "(LLoopRounds$Piece;)V"⟩
abbrev cX1_loopsIn : ByteArray := prog_3_method_7_code
def yX1_loopsIn : MethodName := ⟨RX1, "loopsIn", "(I)I"⟩
abbrev cX1_loopsInAll : ByteArray := prog_3_method_8_code
def yX1_loopsInAll : MethodName := ⟨RX1, "loopsInAll", "()I"⟩
abbrev cX1_firstNotOut : ByteArray := prog_3_method_9_code
def yX1_firstNotOut : MethodName := ⟨RX1, "firstNotOut", "()I"⟩
abbrev cX1_outOf : ByteArray := prog_3_method_10_code
def yX1_outOf : MethodName := ⟨RX1, "outOf", "(I)I"⟩
abbrev cX1_curlOf : ByteArray := prog_3_method_11_code
def yX1_curlOf : MethodName := ⟨RX1, "curlOf", "(I)I"⟩
abbrev cX1_doesAct : ByteArray := prog_3_method_12_code
def yX1_doesAct : MethodName := ⟨RX1, "doesAct", "(I)Z"⟩
abbrev cX1_ravelsLast : ByteArray := prog_3_method_13_code
def yX1_ravelsLast : MethodName := ⟨RX1, "ravelsLast", "()Z"⟩
abbrev cX1_spinsMore : ByteArray := prog_3_method_14_code
def yX1_spinsMore : MethodName := ⟨RX1, "spinsMore", "(I)Z"⟩
abbrev cX1_putsOnAlone : ByteArray := prog_3_method_15_code
def yX1_putsOnAlone : MethodName := ⟨RX1, "putsOnAlone", "(I)Z"⟩
def RX2 : String := "LoopRounds$Plans"
def TX2 : u_T := fun k => match k with
  | 0 => ("LoopRounds$Plans", "uses", "[I", true)
  | 1 => ("LoopRounds$Plans", "makes", "[I", true)
  | 2 => ("LoopRounds$Plans", "searchedFrom", "I", false)
  | 3 => ("LoopRounds$Plans", "countedFrom", "I", false)
  | 4 => ("LoopRounds$Plans", "rounds", "[I", true)
  | 5 => ("LoopRounds$Plans", "cameFrom", "[I", true)
  | 6 => ("LoopRounds$Plans", "cameBy", "[I", true)
  | 7 => ("LoopRounds$Plans", "queue", "[I", true)
  | _ => ("LoopRounds$Plans", "waysTo", "[[J", true)
def tyX2 : Nat → FieldType := fun k => match k with
  | 0 => .array .int
  | 1 => .array .int
  | 2 => .int
  | 3 => .int
  | 4 => .array .int
  | 5 => .array .int
  | 6 => .array .int
  | 7 => .array .int
  | _ => .array (.array .long)
abbrev wsX20 : List Cond := u_ws RX2 TX2 9
theorem nmX2 : ∀ a, a < 9 → ∀ b, b < 9 → a ≠ b → (TX2 a).2.1 ≠ (TX2 b).2.1 := by decide +kernel
theorem tyX2_ok : ∀ k, k < 9 → parseFieldDescriptor (TX2 k).2.2.1 = some (tyX2 k) := by decide +kernel
abbrev cX2_init : ByteArray := prog_4_method_1_code
def yX2_init : MethodName := ⟨RX2, "<init>", "()V"⟩
abbrev cX2_searchFrom : ByteArray := prog_4_method_2_code
def yX2_searchFrom : MethodName := ⟨RX2, "searchFrom", "(I)V"⟩
abbrev cX2_goOnFrom : ByteArray := prog_4_method_3_code
def yX2_goOnFrom : MethodName := ⟨RX2, "goOnFrom", "(II)I"⟩
abbrev cX2_planTo : ByteArray := prog_4_method_4_code
def yX2_planTo : MethodName := ⟨RX2, "planTo", "(II)I"⟩
abbrev cX2_countFrom : ByteArray := prog_4_method_5_code
def yX2_countFrom : MethodName := ⟨RX2, "countFrom", "(I)V"⟩
abbrev cX2_addWays : ByteArray := prog_4_method_6_code
def yX2_addWays : MethodName := ⟨RX2, "addWays", "(JI[J)V"⟩
def RX3 : String := "LoopRounds$Readings"
def TX3 : u_T := fun k => match k with
  | 0 => ("LoopRounds$Readings", "count", "I", false)
  | 1 => ("LoopRounds$Readings", "rounds", "[I", true)
  | _ => ("LoopRounds$Readings", "girths", "[I", true)
def tyX3 : Nat → FieldType := fun k => match k with
  | 0 => .int
  | 1 => .array .int
  | _ => .array .int
abbrev wsX30 : List Cond := u_ws RX3 TX3 3
theorem nmX3 : ∀ a, a < 3 → ∀ b, b < 3 → a ≠ b → (TX3 a).2.1 ≠ (TX3 b).2.1 := by decide +kernel
theorem tyX3_ok : ∀ k, k < 3 → parseFieldDescriptor (TX3 k).2.2.1 = some (tyX3 k) := by decide +kernel
abbrev cX3_init : ByteArray := prog_5_method_1_code
def yX3_init : MethodName := ⟨RX3, "<init>", "()V"⟩
abbrev cX3_add : ByteArray := prog_5_method_2_code
def yX3_add : MethodName := ⟨RX3, "add", "(II)Z"⟩
abbrev cX3_areSo : ByteArray := prog_5_method_3_code
def yX3_areSo : MethodName := ⟨RX3, "areSo", "(LLoopRounds$Piece;)Z"⟩
def RX4 : String := "LoopRounds$Round"
def TX4 : u_T := fun k => match k with
  | 0 => ("LoopRounds$Round", "kind", "I", false)
  | 1 => ("LoopRounds$Round", "spun", "I", false)
  | 2 => ("LoopRounds$Round", "signCount", "I", false)
  | 3 => ("LoopRounds$Round", "signs", "[I", true)
  | 4 => ("LoopRounds$Round", "times", "I", false)
  | _ => ("LoopRounds$Round", "loopCount", "I", false)
def tyX4 : Nat → FieldType := fun k => match k with
  | 0 => .int
  | 1 => .int
  | 2 => .int
  | 3 => .array .int
  | 4 => .int
  | _ => .int
abbrev wsX40 : List Cond := u_ws RX4 TX4 6
theorem nmX4 : ∀ a, a < 6 → ∀ b, b < 6 → a ≠ b → (TX4 a).2.1 ≠ (TX4 b).2.1 := by decide +kernel
theorem tyX4_ok : ∀ k, k < 6 → parseFieldDescriptor (TX4 k).2.2.1 = some (tyX4 k) := by decide +kernel
abbrev cX4_init : ByteArray := prog_6_method_1_code
def yX4_init : MethodName := ⟨RX4, "<init>", "()V"⟩
abbrev cX4_begin : ByteArray := prog_6_method_2_code
def yX4_begin : MethodName := ⟨RX4, "begin", "(II)V"⟩
abbrev cX4_addSign : ByteArray := prog_6_method_3_code
def yX4_addSign : MethodName := ⟨RX4, "addSign", "(I)Z"⟩
abbrev cX4_hasPlace : ByteArray := prog_6_method_4_code
def yX4_hasPlace : MethodName := ⟨RX4, "hasPlace", "(I)Z"⟩
abbrev cX4_become : ByteArray := prog_6_method_5_code
def yX4_become : MethodName := ⟨RX4, "become", "(LLoopRounds$Round;)V"⟩
abbrev cX4_comesOutUpon : ByteArray := prog_6_method_6_code
def yX4_comesOutUpon : MethodName := ⟨RX4, "comesOutUpon", "(I)Z"⟩
abbrev cX4_wide : ByteArray := prog_6_method_7_code
def yX4_wide : MethodName := ⟨RX4, "wide", "()I"⟩
abbrev cX4_girth : ByteArray := prog_6_method_8_code
def yX4_girth : MethodName := ⟨RX4, "girth", "()I"⟩
def RX5 : String := "LoopRounds$Sheet"
def TX5 : u_T := fun k => match k with
  | 0 => ("LoopRounds$Sheet", "filled", "Z", false)
  | 1 => ("LoopRounds$Sheet", "lane", "I", false)
  | 2 => ("LoopRounds$Sheet", "size", "I", false)
  | _ => ("LoopRounds$Sheet", "cells", "[I", true)
def tyX5 : Nat → FieldType := fun k => match k with
  | 0 => .boolean
  | 1 => .int
  | 2 => .int
  | _ => .array .int
abbrev wsX50 : List Cond := u_ws RX5 TX5 4
theorem nmX5 : ∀ a, a < 4 → ∀ b, b < 4 → a ≠ b → (TX5 a).2.1 ≠ (TX5 b).2.1 := by decide +kernel
theorem tyX5_ok : ∀ k, k < 4 → parseFieldDescriptor (TX5 k).2.2.1 = some (tyX5 k) := by decide +kernel
abbrev cX5_init : ByteArray := prog_7_method_1_code
def yX5_init : MethodName := ⟨RX5, "<init>", "()V"⟩
abbrev cX5_lay : ByteArray := prog_7_method_2_code
def yX5_lay : MethodName := ⟨RX5, "lay", "(II)V"⟩
abbrev cX5_at : ByteArray := prog_7_method_3_code
def yX5_at : MethodName := ⟨RX5, "at", "(I)I"⟩
abbrev cX5_lacks : ByteArray := prog_7_method_4_code
def yX5_lacks : MethodName := ⟨RX5, "lacks", "(II)Z"⟩
abbrev cX5_cut : ByteArray := prog_7_method_5_code
def yX5_cut : MethodName := ⟨RX5, "cut", "(I)I"⟩
abbrev cX5_faultOfTaking : ByteArray := prog_7_method_6_code
def yX5_faultOfTaking : MethodName := ⟨RX5, "faultOfTaking", "(III)I"⟩
def RX6 : String := "LoopRounds$Text"
def TX6 : u_T := fun k => match k with
  | 0 => ("LoopRounds$Text", "told", "LLoopRounds$Piece;", true)
  | _ => ("LoopRounds$Text", "step", "I", false)
def tyX6 : Nat → FieldType := fun k => match k with
  | 0 => .object "LoopRounds$Piece"
  | _ => .int
abbrev wsX60 : List Cond := u_ws RX6 TX6 2
theorem nmX6 : ∀ a, a < 2 → ∀ b, b < 2 → a ≠ b → (TX6 a).2.1 ≠ (TX6 b).2.1 := by decide +kernel
theorem tyX6_ok : ∀ k, k < 2 → parseFieldDescriptor (TX6 k).2.2.1 = some (tyX6 k) := by decide +kernel
abbrev cX6_init : ByteArray := prog_8_method_1_code
def yX6_init : MethodName := ⟨RX6, "<init>", "()V"⟩
abbrev cX6_firstFault : ByteArray := prog_8_method_2_code
def yX6_firstFault : MethodName := ⟨RX6, "firstFault", "(LLoopRounds$Sheet;II)I"⟩
abbrev cX6_takes : ByteArray := prog_8_method_3_code
def yX6_takes : MethodName := ⟨RX6, "takes", "(I)Z"⟩
abbrev cX6_mayEnd : ByteArray := prog_8_method_4_code
def yX6_mayEnd : MethodName := ⟨RX6, "mayEnd", "()Z"⟩
abbrev cX6_goesOn : ByteArray := prog_8_method_5_code
def yX6_goesOn : MethodName := ⟨RX6, "goesOn", "(ZI)Z"⟩
abbrev cX6_takesRing : ByteArray := prog_8_method_6_code
def yX6_takesRing : MethodName := ⟨RX6, "takesRing", "(I)Z"⟩
abbrev cX6_takesRound : ByteArray := prog_8_method_7_code
def yX6_takesRound : MethodName := ⟨RX6, "takesRound", "(I)Z"⟩
abbrev cX6_takesKind : ByteArray := prog_8_method_8_code
def yX6_takesKind : MethodName := ⟨RX6, "takesKind", "(I)Z"⟩
abbrev cX6_takesSpun : ByteArray := prog_8_method_9_code
def yX6_takesSpun : MethodName := ⟨RX6, "takesSpun", "(I)Z"⟩
abbrev cX6_takesSign : ByteArray := prog_8_method_10_code
def yX6_takesSign : MethodName := ⟨RX6, "takesSign", "(I)Z"⟩
abbrev cX6_kindOf : ByteArray := prog_8_method_11_code
def yX6_kindOf : MethodName := ⟨RX6, "kindOf", "(I)I"⟩
abbrev cX6_signOf : ByteArray := prog_8_method_12_code
def yX6_signOf : MethodName := ⟨RX6, "signOf", "(I)I"⟩
def RX7 : String := "LoopRounds"
def TX7 : u_T := fun k => match k with
  | 0 => ("LoopRounds", "sheets", "[LLoopRounds$Sheet;", true)
  | 1 => ("LoopRounds", "work", "LLoopRounds$Piece;", true)
  | 2 => ("LoopRounds", "trial", "LLoopRounds$Piece;", true)
  | 3 => ("LoopRounds", "text", "LLoopRounds$Text;", true)
  | 4 => ("LoopRounds", "layout", "LLoopRounds$Layout;", true)
  | 5 => ("LoopRounds", "readings", "LLoopRounds$Readings;", true)
  | 6 => ("LoopRounds", "plans", "LLoopRounds$Plans;", true)
  | 7 => ("LoopRounds", "traced", "I", false)
  | _ => ("LoopRounds", "latestFault", "I", false)
def tyX7 : Nat → FieldType := fun k => match k with
  | 0 => .array (.object "LoopRounds$Sheet")
  | 1 => .object "LoopRounds$Piece"
  | 2 => .object "LoopRounds$Piece"
  | 3 => .object "LoopRounds$Text"
  | 4 => .object "LoopRounds$Layout"
  | 5 => .object "LoopRounds$Readings"
  | 6 => .object "LoopRounds$Plans"
  | 7 => .int
  | _ => .int
abbrev wsX70 : List Cond := u_ws RX7 TX7 9
theorem nmX7 : ∀ a, a < 9 → ∀ b, b < 9 → a ≠ b → (TX7 a).2.1 ≠ (TX7 b).2.1 := by decide +kernel
theorem tyX7_ok : ∀ k, k < 9 → parseFieldDescriptor (TX7 k).2.2.1 = some (tyX7 k) := by decide +kernel
abbrev cX7_init : ByteArray := prog_1_method_1_code
def yX7_init : MethodName := ⟨RX7, "<init>", "()V"⟩
abbrev cX7_piece : ByteArray := prog_1_method_2_code
def yX7_piece : MethodName := ⟨RX7, "piece", "(IIII)I"⟩
abbrev cX7_ofRound : ByteArray := prog_1_method_3_code
def yX7_ofRound : MethodName := ⟨RX7, "ofRound", "(II)I"⟩
abbrev cX7_loops : ByteArray := prog_1_method_4_code
def yX7_loops : MethodName := ⟨RX7, "loops", "(I)I"⟩
abbrev cX7_sign : ByteArray := prog_1_method_5_code
def yX7_sign : MethodName := ⟨RX7, "sign", "(II)I"⟩
abbrev cX7_loop : ByteArray := prog_1_method_6_code
def yX7_loop : MethodName := ⟨RX7, "loop", "(III)I"⟩
abbrev cX7_spun : ByteArray := prog_1_method_7_code
def yX7_spun : MethodName := ⟨RX7, "spun", "(II)I"⟩
abbrev cX7_puton : ByteArray := prog_1_method_8_code
def yX7_puton : MethodName := ⟨RX7, "puton", "(IIIIII)I"⟩
abbrev cX7_ravel : ByteArray := prog_1_method_9_code
def yX7_ravel : MethodName := ⟨RX7, "ravel", "(I)I"⟩
abbrev cX7_day : ByteArray := prog_1_method_10_code
def yX7_day : MethodName := ⟨RX7, "day", "(IIIII)I"⟩
abbrev cX7_fewest : ByteArray := prog_1_method_11_code
def yX7_fewest : MethodName := ⟨RX7, "fewest", "(II)I"⟩
abbrev cX7_ways : ByteArray := prog_1_method_12_code
def yX7_ways : MethodName := ⟨RX7, "ways", "(II)J"⟩
abbrev cX7_bare : ByteArray := prog_1_method_13_code
def yX7_bare : MethodName := ⟨RX7, "bare", "(I)I"⟩
abbrev cX7_reading : ByteArray := prog_1_method_14_code
def yX7_reading : MethodName := ⟨RX7, "reading", "(II)I"⟩
abbrev cX7_back : ByteArray := prog_1_method_15_code
def yX7_back : MethodName := ⟨RX7, "back", "(I)I"⟩
abbrev cX7_rings : ByteArray := prog_1_method_16_code
def yX7_rings : MethodName := ⟨RX7, "rings", "()I"⟩
abbrev cX7_kinds : ByteArray := prog_1_method_17_code
def yX7_kinds : MethodName := ⟨RX7, "kinds", "(I)I"⟩
abbrev cX7_signings : ByteArray := prog_1_method_18_code
def yX7_signings : MethodName := ⟨RX7, "signings", "(II)I"⟩
abbrev cX7_odds : ByteArray := prog_1_method_19_code
def yX7_odds : MethodName := ⟨RX7, "odds", "(II)J"⟩
abbrev cX7_sheet : ByteArray := prog_1_method_20_code
def yX7_sheet : MethodName := ⟨RX7, "sheet", "(III)I"⟩
abbrev cX7_lose : ByteArray := prog_1_method_21_code
def yX7_lose : MethodName := ⟨RX7, "lose", "(I)I"⟩
abbrev cX7_put : ByteArray := prog_1_method_22_code
def yX7_put : MethodName := ⟨RX7, "put", "(III)I"⟩
abbrev cX7_cell : ByteArray := prog_1_method_23_code
def yX7_cell : MethodName := ⟨RX7, "cell", "(III)J"⟩
abbrev cX7_copy : ByteArray := prog_1_method_24_code
def yX7_copy : MethodName := ⟨RX7, "copy", "(IIIII)I"⟩
abbrev cX7_tell : ByteArray := prog_1_method_25_code
def yX7_tell : MethodName := ⟨RX7, "tell", "(I)I"⟩
abbrev cX7_tug : ByteArray := prog_1_method_26_code
def yX7_tug : MethodName := ⟨RX7, "tug", "(I)I"⟩
abbrev cX7_as : ByteArray := prog_1_method_27_code
def yX7_as : MethodName := ⟨RX7, "as", "(II)I"⟩
abbrev cX7_trace : ByteArray := prog_1_method_28_code
def yX7_trace : MethodName := ⟨RX7, "trace", "()I"⟩
abbrev cX7_fault : ByteArray := prog_1_method_29_code
def yX7_fault : MethodName := ⟨RX7, "fault", "()I"⟩
abbrev cX7_many : ByteArray := prog_1_method_30_code
def yX7_many : MethodName := ⟨RX7, "many", "(I)I"⟩
abbrev cX7_refused : ByteArray := prog_1_method_31_code
def yX7_refused : MethodName := ⟨RX7, "refused", "(I)I"⟩
abbrev cX7_faulted : ByteArray := prog_1_method_32_code
def yX7_faulted : MethodName := ⟨RX7, "faulted", "(I)I"⟩
abbrev cX7_isNoSheet : ByteArray := prog_1_method_33_code
def yX7_isNoSheet : MethodName := ⟨RX7, "isNoSheet", "(I)Z"⟩
abbrev cX7_isNoLane : ByteArray := prog_1_method_34_code
def yX7_isNoLane : MethodName := ⟨RX7, "isNoLane", "(I)Z"⟩
abbrev cX7_isNoKind : ByteArray := prog_1_method_35_code
def yX7_isNoKind : MethodName := ⟨RX7, "isNoKind", "(I)Z"⟩
abbrev cX7_isNoSpun : ByteArray := prog_1_method_36_code
def yX7_isNoSpun : MethodName := ⟨RX7, "isNoSpun", "(I)Z"⟩
abbrev cX7_isNoLoopCount : ByteArray := prog_1_method_37_code
def yX7_isNoLoopCount : MethodName := ⟨RX7, "isNoLoopCount", "(I)Z"⟩
abbrev cX7_isNothingOfDay : ByteArray := prog_1_method_38_code
def yX7_isNothingOfDay : MethodName := ⟨RX7, "isNothingOfDay", "(I)Z"⟩
abbrev cX7_areSigns : ByteArray := prog_1_method_39_code
def yX7_areSigns : MethodName := ⟨RX7, "areSigns", "(LLoopRounds$Sheet;II)Z"⟩
abbrev cX7_areActs : ByteArray := prog_1_method_40_code
def yX7_areActs : MethodName := ⟨RX7, "areActs", "(LLoopRounds$Sheet;II)Z"⟩
abbrev cX7_firstWrong : ByteArray := prog_1_method_41_code
def yX7_firstWrong : MethodName := ⟨RX7, "firstWrong", "(LLoopRounds$Sheet;II)I"⟩
abbrev cX7_ofTrialDay : ByteArray := prog_1_method_42_code
def yX7_ofTrialDay : MethodName := ⟨RX7, "ofTrialDay", "(I)I"⟩
abbrev cX7_bitIfTrialCanBe : ByteArray := prog_1_method_43_code
def yX7_bitIfTrialCanBe : MethodName := ⟨RX7, "bitIfTrialCanBe", "(I)I"⟩
abbrev cX7_inLeastTerms : ByteArray := prog_1_method_44_code
def yX7_inLeastTerms : MethodName := ⟨RX7, "inLeastTerms", "(II)I"⟩
abbrev cX7_leaveInTrace : ByteArray := prog_1_method_45_code
def yX7_leaveInTrace : MethodName := ⟨RX7, "leaveInTrace", "(I)V"⟩
abbrev cX7_tellPlain : ByteArray := prog_1_method_46_code
def yX7_tellPlain : MethodName := ⟨RX7, "tellPlain", "(I)I"⟩
abbrev cX7_tellBrushed : ByteArray := prog_1_method_47_code
def yX7_tellBrushed : MethodName := ⟨RX7, "tellBrushed", "(I)I"⟩
abbrev cX7_tellTwined : ByteArray := prog_1_method_48_code
def yX7_tellTwined : MethodName := ⟨RX7, "tellTwined", "(I)I"⟩
abbrev cX7_tugLent : ByteArray := prog_1_method_49_code
def yX7_tugLent : MethodName := ⟨RX7, "tugLent", "(I)I"⟩
abbrev cX7_tugTwined : ByteArray := prog_1_method_50_code
def yX7_tugTwined : MethodName := ⟨RX7, "tugTwined", "()I"⟩
abbrev cX7_loopsUpon : ByteArray := prog_1_method_51_code
def yX7_loopsUpon : MethodName := ⟨RX7, "loopsUpon", "(III)I"⟩
def RX8 : String := "LoopRoundsModel"
def TX8 : u_T := fun k => match k with
  | 0 => ("LoopRoundsModel", "fault", "I", false)
  | 1 => ("LoopRoundsModel", "trace", "I", false)
  | 2 => ("LoopRoundsModel", "sorts", "[I", true)
  | 3 => ("LoopRoundsModel", "sheetLong", "[I", true)
  | 4 => ("LoopRoundsModel", "cells", "[I", true)
  | 5 => ("LoopRoundsModel", "rounds", "I", false)
  | 6 => ("LoopRoundsModel", "loops", "[I", true)
  | 7 => ("LoopRoundsModel", "kind", "[I", true)
  | 8 => ("LoopRoundsModel", "spun", "[I", true)
  | 9 => ("LoopRoundsModel", "many", "[I", true)
  | 10 => ("LoopRoundsModel", "signs", "[I", true)
  | 11 => ("LoopRoundsModel", "at", "I", false)
  | 12 => ("LoopRoundsModel", "readRounds", "I", false)
  | 13 => ("LoopRoundsModel", "readRing", "I", false)
  | 14 => ("LoopRoundsModel", "readKind", "[I", true)
  | 15 => ("LoopRoundsModel", "readSpun", "[I", true)
  | 16 => ("LoopRoundsModel", "readMany", "[I", true)
  | 17 => ("LoopRoundsModel", "readSigns", "[I", true)
  | 18 => ("LoopRoundsModel", "loopSign", "[I", true)
  | 19 => ("LoopRoundsModel", "firstIn", "[I", true)
  | 20 => ("LoopRoundsModel", "lastIn", "[I", true)
  | 21 => ("LoopRoundsModel", "standIn", "[I", true)
  | 22 => ("LoopRoundsModel", "roots", "[I", true)
  | 23 => ("LoopRoundsModel", "keptRounds", "I", false)
  | 24 => ("LoopRoundsModel", "kept", "[I", true)
  | 25 => ("LoopRoundsModel", "one", "[I", true)
  | 26 => ("LoopRoundsModel", "plan", "[I", true)
  | 27 => ("LoopRoundsModel", "far", "[I", true)
  | 28 => ("LoopRoundsModel", "counts", "[J", true)
  | 29 => ("LoopRoundsModel", "countsThen", "[J", true)
  | 30 => ("LoopRoundsModel", "readings", "I", false)
  | 31 => ("LoopRoundsModel", "readRoundOf", "[I", true)
  | _ => ("LoopRoundsModel", "readGirth", "[I", true)
def tyX8 : Nat → FieldType := fun k => match k with
  | 0 => .int
  | 1 => .int
  | 2 => .array .int
  | 3 => .array .int
  | 4 => .array .int
  | 5 => .int
  | 6 => .array .int
  | 7 => .array .int
  | 8 => .array .int
  | 9 => .array .int
  | 10 => .array .int
  | 11 => .int
  | 12 => .int
  | 13 => .int
  | 14 => .array .int
  | 15 => .array .int
  | 16 => .array .int
  | 17 => .array .int
  | 18 => .array .int
  | 19 => .array .int
  | 20 => .array .int
  | 21 => .array .int
  | 22 => .array .int
  | 23 => .int
  | 24 => .array .int
  | 25 => .array .int
  | 26 => .array .int
  | 27 => .array .int
  | 28 => .array .long
  | 29 => .array .long
  | 30 => .int
  | 31 => .array .int
  | _ => .array .int
abbrev wsX80 : List Cond := u_ws RX8 TX8 33
theorem nmX8 : ∀ a, a < 33 → ∀ b, b < 33 → a ≠ b → (TX8 a).2.1 ≠ (TX8 b).2.1 := by decide +kernel
theorem tyX8_ok : ∀ k, k < 33 → parseFieldDescriptor (TX8 k).2.2.1 = some (tyX8 k) := by decide +kernel
abbrev cX8_init : ByteArray := prog_10_method_1_code
def yX8_init : MethodName := ⟨RX8, "<init>", "()V"⟩
abbrev cX8_fails : ByteArray := prog_10_method_3_code
def yX8_fails : MethodName := ⟨RX8, "fails", "(I)I"⟩
abbrev cX8_lost : ByteArray := prog_10_method_4_code
def yX8_lost : MethodName := ⟨RX8, "lost", "(I)J"⟩
abbrev cX8_within : ByteArray := prog_10_method_5_code
def yX8_within : MethodName := ⟨RX8, "within", "(III)Z"⟩
abbrev cX8_isSheet : ByteArray := prog_10_method_6_code
def yX8_isSheet : MethodName := ⟨RX8, "isSheet", "(I)Z"⟩
abbrev cX8_isSort : ByteArray := prog_10_method_7_code
def yX8_isSort : MethodName := ⟨RX8, "isSort", "(I)Z"⟩
abbrev cX8_against : ByteArray := prog_10_method_8_code
def yX8_against : MethodName := ⟨RX8, "against", "(IIII)I"⟩
abbrev cX8_isPiece : ByteArray := prog_10_method_9_code
def yX8_isPiece : MethodName := ⟨RX8, "isPiece", "()Z"⟩
abbrev cX8_isRound : ByteArray := prog_10_method_10_code
def yX8_isRound : MethodName := ⟨RX8, "isRound", "(I)Z"⟩
abbrev cX8_isOf : ByteArray := prog_10_method_11_code
def yX8_isOf : MethodName := ⟨RX8, "isOf", "(II)Z"⟩
abbrev cX8_usedBy : ByteArray := prog_10_method_12_code
def yX8_usedBy : MethodName := ⟨RX8, "usedBy", "(I)I"⟩
abbrev cX8_madeBy : ByteArray := prog_10_method_13_code
def yX8_madeBy : MethodName := ⟨RX8, "madeBy", "(I)I"⟩
abbrev cX8_digit : ByteArray := prog_10_method_14_code
def yX8_digit : MethodName := ⟨RX8, "digit", "(III)I"⟩
abbrev cX8_isSign : ByteArray := prog_10_method_15_code
def yX8_isSign : MethodName := ⟨RX8, "isSign", "(II)Z"⟩
abbrev cX8_piece : ByteArray := prog_10_method_16_code
def yX8_piece : MethodName := ⟨RX8, "piece", "(IIII)I"⟩
abbrev cX8_takePiece : ByteArray := prog_10_method_17_code
def yX8_takePiece : MethodName := ⟨RX8, "takePiece", "()V"⟩
abbrev cX8_readPiece : ByteArray := prog_10_method_18_code
def yX8_readPiece : MethodName := ⟨RX8, "readPiece", "(I)Z"⟩
abbrev cX8_readRound : ByteArray := prog_10_method_19_code
def yX8_readRound : MethodName := ⟨RX8, "readRound", "(II)Z"⟩
abbrev cX8_signBy : ByteArray := prog_10_method_20_code
def yX8_signBy : MethodName := ⟨RX8, "signBy", "(I)I"⟩
abbrev cX8_comesOut : ByteArray := prog_10_method_21_code
def yX8_comesOut : MethodName := ⟨RX8, "comesOut", "(I[III)I"⟩
abbrev cX8_timesOf : ByteArray := prog_10_method_22_code
def yX8_timesOf : MethodName := ⟨RX8, "timesOf", "(I)I"⟩
abbrev cX8_wideOf : ByteArray := prog_10_method_23_code
def yX8_wideOf : MethodName := ⟨RX8, "wideOf", "(I)I"⟩
abbrev cX8_girthOf : ByteArray := prog_10_method_24_code
def yX8_girthOf : MethodName := ⟨RX8, "girthOf", "(I)I"⟩
abbrev cX8_outOf : ByteArray := prog_10_method_25_code
def yX8_outOf : MethodName := ⟨RX8, "outOf", "(I)I"⟩
abbrev cX8_curlOf : ByteArray := prog_10_method_26_code
def yX8_curlOf : MethodName := ⟨RX8, "curlOf", "(I)I"⟩
abbrev cX8_ofRound : ByteArray := prog_10_method_27_code
def yX8_ofRound : MethodName := ⟨RX8, "ofRound", "(II)I"⟩
abbrev cX8_loops : ByteArray := prog_10_method_28_code
def yX8_loops : MethodName := ⟨RX8, "loops", "(I)I"⟩
abbrev cX8_sign : ByteArray := prog_10_method_29_code
def yX8_sign : MethodName := ⟨RX8, "sign", "(II)I"⟩
abbrev cX8_findLoops : ByteArray := prog_10_method_30_code
def yX8_findLoops : MethodName := ⟨RX8, "findLoops", "()V"⟩
abbrev cX8_writeLoop : ByteArray := prog_10_method_31_code
def yX8_writeLoop : MethodName := ⟨RX8, "writeLoop", "(IIII)V"⟩
abbrev cX8_loop : ByteArray := prog_10_method_32_code
def yX8_loop : MethodName := ⟨RX8, "loop", "(III)I"⟩
abbrev cX8_spun : ByteArray := prog_10_method_33_code
def yX8_spun : MethodName := ⟨RX8, "spun", "(II)I"⟩
abbrev cX8_putRound : ByteArray := prog_10_method_34_code
def yX8_putRound : MethodName := ⟨RX8, "putRound", "(IIII)V"⟩
abbrev cX8_puton : ByteArray := prog_10_method_35_code
def yX8_puton : MethodName := ⟨RX8, "puton", "(IIIIII)I"⟩
abbrev cX8_ravel : ByteArray := prog_10_method_36_code
def yX8_ravel : MethodName := ⟨RX8, "ravel", "(I)I"⟩
abbrev cX8_keep : ByteArray := prog_10_method_37_code
def yX8_keep : MethodName := ⟨RX8, "keep", "()V"⟩
abbrev cX8_putBack : ByteArray := prog_10_method_38_code
def yX8_putBack : MethodName := ⟨RX8, "putBack", "()V"⟩
abbrev cX8_does : ByteArray := prog_10_method_39_code
def yX8_does : MethodName := ⟨RX8, "does", "(I)Z"⟩
abbrev cX8_goDay : ByteArray := prog_10_method_40_code
def yX8_goDay : MethodName := ⟨RX8, "goDay", "(II)I"⟩
abbrev cX8_day : ByteArray := prog_10_method_41_code
def yX8_day : MethodName := ⟨RX8, "day", "(IIIII)I"⟩
abbrev cX8_tellDay : ByteArray := prog_10_method_42_code
def yX8_tellDay : MethodName := ⟨RX8, "tellDay", "(I)I"⟩
abbrev cX8_comesByPlan : ByteArray := prog_10_method_43_code
def yX8_comesByPlan : MethodName := ⟨RX8, "comesByPlan", "(II)I"⟩
abbrev cX8_findFar : ByteArray := prog_10_method_44_code
def yX8_findFar : MethodName := ⟨RX8, "findFar", "(I)V"⟩
abbrev cX8_fewest : ByteArray := prog_10_method_45_code
def yX8_fewest : MethodName := ⟨RX8, "fewest", "(II)I"⟩
abbrev cX8_ways : ByteArray := prog_10_method_46_code
def yX8_ways : MethodName := ⟨RX8, "ways", "(II)J"⟩
abbrev cX8_bare : ByteArray := prog_10_method_47_code
def yX8_bare : MethodName := ⟨RX8, "bare", "(I)I"⟩
abbrev cX8_reading : ByteArray := prog_10_method_48_code
def yX8_reading : MethodName := ⟨RX8, "reading", "(II)I"⟩
abbrev cX8_back : ByteArray := prog_10_method_49_code
def yX8_back : MethodName := ⟨RX8, "back", "(I)I"⟩
abbrev cX8_areSo : ByteArray := prog_10_method_50_code
def yX8_areSo : MethodName := ⟨RX8, "areSo", "()Z"⟩
abbrev cX8_rings : ByteArray := prog_10_method_51_code
def yX8_rings : MethodName := ⟨RX8, "rings", "()I"⟩
abbrev cX8_kinds : ByteArray := prog_10_method_52_code
def yX8_kinds : MethodName := ⟨RX8, "kinds", "(I)I"⟩
abbrev cX8_signings : ByteArray := prog_10_method_53_code
def yX8_signings : MethodName := ⟨RX8, "signings", "(II)I"⟩
abbrev cX8_inLeastTerms : ByteArray := prog_10_method_54_code
def yX8_inLeastTerms : MethodName := ⟨RX8, "inLeastTerms", "(JJI)J"⟩
abbrev cX8_odds : ByteArray := prog_10_method_55_code
def yX8_odds : MethodName := ⟨RX8, "odds", "(II)J"⟩
abbrev cX8_sheet : ByteArray := prog_10_method_56_code
def yX8_sheet : MethodName := ⟨RX8, "sheet", "(III)I"⟩
abbrev cX8_lose : ByteArray := prog_10_method_57_code
def yX8_lose : MethodName := ⟨RX8, "lose", "(I)I"⟩
abbrev cX8_put : ByteArray := prog_10_method_58_code
def yX8_put : MethodName := ⟨RX8, "put", "(III)I"⟩
abbrev cX8_cell : ByteArray := prog_10_method_59_code
def yX8_cell : MethodName := ⟨RX8, "cell", "(III)J"⟩
abbrev cX8_copy : ByteArray := prog_10_method_60_code
def yX8_copy : MethodName := ⟨RX8, "copy", "(IIIII)I"⟩
abbrev cX8_begins : ByteArray := prog_10_method_61_code
def yX8_begins : MethodName := ⟨RX8, "begins", "(I)V"⟩
abbrev cX8_tell : ByteArray := prog_10_method_62_code
def yX8_tell : MethodName := ⟨RX8, "tell", "(I)I"⟩
abbrev cX8_tug : ByteArray := prog_10_method_63_code
def yX8_tug : MethodName := ⟨RX8, "tug", "(I)I"⟩
abbrev cX8_as : ByteArray := prog_10_method_64_code
def yX8_as : MethodName := ⟨RX8, "as", "(II)I"⟩
abbrev cX8_trace : ByteArray := prog_10_method_65_code
def yX8_trace : MethodName := ⟨RX8, "trace", "()I"⟩
abbrev cX8_fault : ByteArray := prog_10_method_66_code
def yX8_fault : MethodName := ⟨RX8, "fault", "()I"⟩
abbrev cX8_many : ByteArray := prog_10_method_67_code
def yX8_many : MethodName := ⟨RX8, "many", "(I)I"⟩
def RJ10 : String := "java/lang/System"
def TJ10 : u_T := fun k => match k with
  | _ => ("", "", "", false)
def tyJ10 : Nat → FieldType := fun k => match k with
  | _ => .int
abbrev wsJ100 : List Cond := u_ws RJ10 TJ10 0
theorem nmJ10 : ∀ a, a < 0 → ∀ b, b < 0 → a ≠ b → (TJ10 a).2.1 ≠ (TJ10 b).2.1 := by decide +kernel
theorem tyJ10_ok : ∀ k, k < 0 → parseFieldDescriptor (TJ10 k).2.2.1 = some (tyJ10 k) := by decide +kernel
def RJ7 : String := "java/util/Arrays"
def TJ7 : u_T := fun k => match k with
  | _ => ("", "", "", false)
def tyJ7 : Nat → FieldType := fun k => match k with
  | _ => .int
abbrev wsJ70 : List Cond := u_ws RJ7 TJ7 0
theorem nmJ7 : ∀ a, a < 0 → ∀ b, b < 0 → a ≠ b → (TJ7 a).2.1 ≠ (TJ7 b).2.1 := by decide +kernel
theorem tyJ7_ok : ∀ k, k < 0 → parseFieldDescriptor (TJ7 k).2.2.1 = some (tyJ7 k) := by decide +kernel
abbrev cJ7_fill_d0a16 : ByteArray := prog_12_method_101_code
def yJ7_fill_d0a16 : MethodName := ⟨RJ7, "fill", "([JJ)V"⟩
abbrev cJ7_fill_53178 : ByteArray := prog_12_method_103_code
def yJ7_fill_53178 : MethodName := ⟨RJ7, "fill", "([II)V"⟩
def RL : String := "LoopRoundsLaw"
abbrev cL_law : ByteArray := code
def yL_law : MethodName := ⟨RL, "law", "([I)Z"⟩
abbrev vwCl : List vw_C := [(RX0, TX0, 5), (RX1, TX1, 4), (RX2, TX2, 9), (RX3, TX3, 3), (RX4, TX4, 6), (RX5, TX5, 4), (RX6, TX6, 2), (RX7, TX7, 9), (RX8, TX8, 33)]
end
section
/-! AN INTERPRETER of the bytecode that is used here, over a memory of numbered cells (zi_). Part 04 shows it sound for the machine. -/
/-- an instruction with what it links: number of a block, slot, class, callee ..; a number; a list of numbers -/
abbrev zi_I : Type := Instr × Nat × Nat × Int32 × List Nat
/-- memory: how many cells; each one's kind (0 object, 1 ints, 2 longs, 3 references), class, length; ints; longs; references (cells by number) -/
abbrev zi_M : Type := Nat × (Nat → Nat × Nat × Nat) × (Nat → Nat → Int32) × (Nat → Nat → Int64) × (Nat → Nat → Option Nat)
abbrev zi_L : Type := List (Option Value)
/-- what comes next: the next instruction; a block; the end; a call -/
abbrev zi_N : Type := (zi_L × List Value × zi_M) ⊕ (Nat × List Value) ⊕ (Option Value) ⊕ (Nat × List Value × List Value)
def zi_get : zi_L → Nat → Option Value
  | [], _ => none
  | x :: _, 0 => x
  | _ :: t, n + 1 => zi_get t n
def zi_put : zi_L → Nat → Option Value → zi_L
  | [], 0, v => [v]
  | [], n + 1, v => none :: zi_put [] n v
  | _ :: t, 0, v => v :: t
  | x :: t, n + 1, v => x :: zi_put t n v
def zi_isL : Option Value → Bool
  | some (.long _) => true
  | some (.double _) => true
  | _ => false
def zi_kl (lv : zi_L) : Nat → zi_L
  | 0 => lv
  | i + 1 => if zi_isL (zi_get lv i) = true then zi_put lv i none else lv
def zi_st1 (lv : zi_L) (i : Nat) (v : Value) : zi_L := zi_put (zi_kl lv i) i (some v)
def zi_st2 (lv : zi_L) (i : Nat) (v : Value) : zi_L := zi_put (zi_put (zi_kl lv i) i (some v)) (i + 1) none
def zi_row {α : Type} (h : Nat → Nat → α) (i : Nat) (r : Nat → α) : Nat → Nat → α := fun a => if a = i then r else h a
def zi_up {α : Type} (h : Nat → Nat → α) (i k : Nat) (v : α) : Nat → Nat → α := zi_row h i (va_up (h i) k v)
def zi_vin (i : Int32) (n : Nat) : Bool := decide (¬ i < 0) && decide (i.toNatClampNeg < n)
def zi_U (j : Nat) : Int32 := match j with
  | 2 => 2
  | 3 => 0
  | _ => 1
def zi_K (j : Nat) : Int32 := match j with
  | 1 => 2
  | 4 => 0
  | _ => 1
/-- arrays that nobody writes: the class's two tables, the script -/
def zi_ro (sc : Nat × (Nat → Int32)) : Nat → Nat × (Nat → Int32)
  | 0 => (5, zi_U)
  | 1 => (5, zi_K)
  | _ => sc
def zi_nI (lv : zi_L) (st : List Value) (M : zi_M) : Option zi_N := some (.inl (lv, st, M))
def zi_ldi (lv : zi_L) (n : Nat) (st : List Value) (M : zi_M) : Option zi_N := match zi_get lv n with
  | some (.int x) => some (.inl (lv, .int x :: st, M))
  | _ => none
def zi_ldl (lv : zi_L) (n : Nat) (st : List Value) (M : zi_M) : Option zi_N := match zi_get lv n with
  | some (.long x) => some (.inl (lv, .long x :: st, M))
  | _ => none
def zi_lda (lv : zi_L) (n : Nat) (st : List Value) (M : zi_M) : Option zi_N := match zi_get lv n with
  | some (.ref x) => some (.inl (lv, .ref x :: st, M))
  | some (.float x) => some (.inl (lv, .float x :: st, M))
  | some .null => some (.inl (lv, .null :: st, M))
  | _ => none
def zi_sti (lv : zi_L) (n : Nat) (st : List Value) (M : zi_M) : Option zi_N := match st with
  | .int x :: st => some (.inl (zi_st1 lv n (.int x), st, M))
  | _ => none
def zi_stl (lv : zi_L) (n : Nat) (st : List Value) (M : zi_M) : Option zi_N := match st with
  | .long x :: st => some (.inl (zi_st2 lv n (.long x), st, M))
  | _ => none
def zi_sta (lv : zi_L) (n : Nat) (st : List Value) (M : zi_M) : Option zi_N := match st with
  | .ref x :: st => some (.inl (zi_st1 lv n (.ref x), st, M))
  | .float x :: st => some (.inl (zi_st1 lv n (.float x), st, M))
  | .null :: st => some (.inl (zi_st1 lv n .null, st, M))
  | _ => none
def zi_inc (lv : zi_L) (n : Nat) (v : Int32) (st : List Value) (M : zi_M) : Option zi_N := match zi_get lv n with
  | some (.int x) => some (.inl (zi_st1 lv n (.int (x + v)), st, M))
  | _ => none
def zi_b2 (f : Int32 → Int32 → Int32) (lv : zi_L) (st : List Value) (M : zi_M) : Option zi_N := match st with
  | .int y :: .int x :: st => some (.inl (lv, .int (f x y) :: st, M))
  | _ => none
def zi_d2 (f : Int32 → Int32 → Int32) (lv : zi_L) (st : List Value) (M : zi_M) : Option zi_N := match st with
  | .int y :: .int x :: st => if ¬ y = 0 then some (.inl (lv, .int (f x y) :: st, M)) else none
  | _ => none
def zi_l2 (f : Int64 → Int64 → Int64) (lv : zi_L) (st : List Value) (M : zi_M) : Option zi_N := match st with
  | .long y :: .long x :: st => some (.inl (lv, .long (f x y) :: st, M))
  | _ => none
def zi_dl2 (f : Int64 → Int64 → Int64) (lv : zi_L) (st : List Value) (M : zi_M) : Option zi_N := match st with
  | .long y :: .long x :: st => if ¬ y = 0 then some (.inl (lv, .long (f x y) :: st, M)) else none
  | _ => none
def zi_lc (lv : zi_L) (st : List Value) (M : zi_M) : Option zi_N := match st with
  | .long y :: .long x :: st => some (.inl (lv, .int (lg_cmp x y) :: st, M))
  | _ => none
def zi_u1 (f : Int32 → Value) (lv : zi_L) (st : List Value) (M : zi_M) : Option zi_N := match st with
  | .int x :: st => some (.inl (lv, f x :: st, M))
  | _ => none
def zi_pp (lv : zi_L) (st : List Value) (M : zi_M) : Option zi_N := match st with
  | .int _ :: st => some (.inl (lv, st, M))
  | _ => none
def zi_dup (lv : zi_L) (st : List Value) (M : zi_M) : Option zi_N := match st with
  | .int x :: st => some (.inl (lv, .int x :: .int x :: st, M))
  | .ref x :: st => some (.inl (lv, .ref x :: .ref x :: st, M))
  | _ => none
def zi_dup2 (lv : zi_L) (st : List Value) (M : zi_M) : Option zi_N := match st with
  | .int x :: .ref y :: st => some (.inl (lv, .int x :: .ref y :: .int x :: .ref y :: st, M))
  | _ => none
/-- a field's value by its tag: 2 a reference, else an int -/
def zi_fv (tag : Nat) (x : Int32) (r : Option Nat) : Value := match tag with
  | 2 => va_rf r
  | _ => .int x
/-- getfield: slot, tag, [class, its number of fields, ..] -/
def zi_gf (slot tag : Nat) (l : List Nat) (lv : zi_L) (st : List Value) (M : zi_M) : Option zi_N := match st with
  | .ref id :: st => if M.2.1 id = (0, l.getD 0 0, l.getD 1 0) then some (.inl (lv, zi_fv tag (M.2.2.1 id slot) (M.2.2.2.2 id slot) :: st, M)) else none
  | _ => none
/-- putfield: tag 0 an int, 1 a boolean, 2 a reference -/
def zi_pf (slot tag : Nat) (l : List Nat) (lv : zi_L) (st : List Value) (M : zi_M) : Option zi_N := match tag, st with
  | 0, .int x :: .ref id :: st => if M.2.1 id = (0, l.getD 0 0, l.getD 1 0) then some (.inl (lv, st, M.1, M.2.1, zi_up M.2.2.1 id slot x, M.2.2.2.1, M.2.2.2.2)) else none
  | 1, .int x :: .ref id :: st => if M.2.1 id = (0, l.getD 0 0, l.getD 1 0) ∧ (x = 0 ∨ x = 1) then some (.inl (lv, st, M.1, M.2.1, zi_up M.2.2.1 id slot x, M.2.2.2.1, M.2.2.2.2)) else none
  | 2, .ref x :: .ref id :: st => if M.2.1 id = (0, l.getD 0 0, l.getD 1 0) then some (.inl (lv, st, M.1, M.2.1, M.2.2.1, M.2.2.2.1, zi_up M.2.2.2.2 id slot (some x))) else none
  | _, _ => none
def zi_ial (sc : Nat × (Nat → Int32)) (lv : zi_L) (st : List Value) (M : zi_M) : Option zi_N := match st with
  | .int j :: .ref id :: st => if (M.2.1 id).1 = 1 ∧ (M.2.1 id).2.1 = 0 ∧ zi_vin j (M.2.1 id).2.2 = true then some (.inl (lv, .int (M.2.2.1 id j.toNatClampNeg) :: st, M)) else none
  | .int j :: .float q :: st => if zi_vin j (zi_ro sc q.toNat).1 = true then some (.inl (lv, .int ((zi_ro sc q.toNat).2 j.toNatClampNeg) :: st, M)) else none
  | _ => none
def zi_ias (lv : zi_L) (st : List Value) (M : zi_M) : Option zi_N := match st with
  | .int x :: .int j :: .ref id :: st => if (M.2.1 id).1 = 1 ∧ (M.2.1 id).2.1 = 0 ∧ zi_vin j (M.2.1 id).2.2 = true then some (.inl (lv, st, M.1, M.2.1, zi_up M.2.2.1 id j.toNatClampNeg x, M.2.2.2.1, M.2.2.2.2)) else none
  | _ => none
def zi_lal (lv : zi_L) (st : List Value) (M : zi_M) : Option zi_N := match st with
  | .int j :: .ref id :: st => if (M.2.1 id).1 = 2 ∧ (M.2.1 id).2.1 = 1 ∧ zi_vin j (M.2.1 id).2.2 = true then some (.inl (lv, .long (M.2.2.2.1 id j.toNatClampNeg) :: st, M)) else none
  | _ => none
def zi_las (lv : zi_L) (st : List Value) (M : zi_M) : Option zi_N := match st with
  | .long x :: .int j :: .ref id :: st => if (M.2.1 id).1 = 2 ∧ (M.2.1 id).2.1 = 1 ∧ zi_vin j (M.2.1 id).2.2 = true then some (.inl (lv, st, M.1, M.2.1, M.2.2.1, zi_up M.2.2.2.1 id j.toNatClampNeg x, M.2.2.2.2)) else none
  | _ => none
def zi_aal (lv : zi_L) (st : List Value) (M : zi_M) : Option zi_N := match st with
  | .int j :: .ref id :: st => if (M.2.1 id).1 = 3 ∧ (2 ≤ (M.2.1 id).2.1 ∧ (M.2.1 id).2.1 < 6) ∧ zi_vin j (M.2.1 id).2.2 = true then some (.inl (lv, va_rf (M.2.2.2.2 id j.toNatClampNeg) :: st, M)) else none
  | _ => none
/-- aastore of an object into an array of its class: array types 2 (sheets, class 5), 3 (rounds, class 4) -/
def zi_aas (lv : zi_L) (st : List Value) (M : zi_M) : Option zi_N := match st with
  | .ref x :: .int j :: .ref id :: st => if (M.2.1 id).1 = 3 ∧ (((M.2.1 id).2.1 = 2 ∧ M.2.1 x = (0, 5, 4)) ∨ ((M.2.1 id).2.1 = 3 ∧ M.2.1 x = (0, 4, 6))) ∧ zi_vin j (M.2.1 id).2.2 = true then some (.inl (lv, st, M.1, M.2.1, M.2.2.1, M.2.2.2.1, zi_up M.2.2.2.2 id j.toNatClampNeg (some x))) else none
  | _ => none
def zi_aln (sc : Nat × (Nat → Int32)) (lv : zi_L) (st : List Value) (M : zi_M) : Option zi_N := match st with
  | .ref id :: st => if (1 ≤ (M.2.1 id).1 ∧ (M.2.1 id).1 ≤ 3) ∧ (M.2.1 id).2.1 < 6 then some (.inl (lv, .int (nI (M.2.1 id).2.2) :: st, M)) else none
  | .float q :: st => some (.inl (lv, .int (nI (zi_ro sc q.toNat).1) :: st, M))
  | _ => none
/-- a new cell behind all others -/
def zi_born (t : Nat × Nat × Nat) (M : zi_M) : zi_M := (M.1 + 1, va_up M.2.1 M.1 t, zi_row M.2.2.1 M.1 (fun _ => 0), zi_row M.2.2.2.1 M.1 (fun _ => 0), zi_row M.2.2.2.2 M.1 (fun _ => none))
/-- k new arrays behind all others -/
def zi_rows (t : Nat × Nat × Nat) : Nat → zi_M → zi_M
  | 0, M => M
  | k + 1, M => zi_born t (zi_rows t k M)
def zi_new (ci nf : Nat) (lv : zi_L) (st : List Value) (M : zi_M) : Option zi_N := some (.inl (lv, .ref M.1 :: st, zi_born (0, ci, nf) M))
def zi_na (kd ty : Nat) (lv : zi_L) (st : List Value) (M : zi_M) : Option zi_N := match st with
  | .int n :: st => if ¬ n < 0 ∧ n.toNatClampNeg ≤ 1000 then some (.inl (lv, .ref M.1 :: st, zi_born (kd, ty, n.toNatClampNeg) M)) else none
  | _ => none
/-- new T[n][k]: type of the outer array, kind and type of the inner ones -/
def zi_mna (ty kd ty2 : Nat) (lv : zi_L) (st : List Value) (M : zi_M) : Option zi_N := match st with
  | .int k :: .int n :: st => if (¬ n < 0 ∧ n.toNatClampNeg ≤ 1000) ∧ (¬ k < 0 ∧ k.toNatClampNeg ≤ 1000) then
      some (.inl (lv, .ref M.1 :: st, (zi_rows (kd, ty2, k.toNatClampNeg) n.toNatClampNeg (zi_born (3, ty, n.toNatClampNeg) M)).1, (zi_rows (kd, ty2, k.toNatClampNeg) n.toNatClampNeg (zi_born (3, ty, n.toNatClampNeg) M)).2.1,
        (zi_rows (kd, ty2, k.toNatClampNeg) n.toNatClampNeg (zi_born (3, ty, n.toNatClampNeg) M)).2.2.1, (zi_rows (kd, ty2, k.toNatClampNeg) n.toNatClampNeg (zi_born (3, ty, n.toNatClampNeg) M)).2.2.2.1,
        zi_row (zi_rows (kd, ty2, k.toNatClampNeg) n.toNatClampNeg (zi_born (3, ty, n.toNatClampNeg) M)).2.2.2.2 M.1 (fun j => if j < n.toNatClampNeg then some (M.1 + 1 + j) else none))) else none
  | _ => none
def zi_obj (lv : zi_L) (st : List Value) (M : zi_M) : Option zi_N := match st with
  | .ref _ :: st => if st.length ≤ 4 then some (.inl (lv, st, M)) else none
  | _ => none
def zi_cp (lv : zi_L) (st : List Value) (M : zi_M) : Option zi_N := match st with
  | .int n :: .int dp :: .ref y :: .int sp :: .ref x :: st => if ((M.2.1 x).1 = 1 ∧ (M.2.1 x).2.1 = 0 ∧ (M.2.1 y).1 = 1 ∧ (M.2.1 y).2.1 = 0) ∧ (¬ sp < 0 ∧ ¬ dp < 0 ∧ ¬ n < 0) ∧ (sp.toNatClampNeg + n.toNatClampNeg ≤ (M.2.1 x).2.2 ∧ dp.toNatClampNeg + n.toNatClampNeg ≤ (M.2.1 y).2.2) ∧ st.length ≤ 4 then
      some (.inl (lv, st, M.1, M.2.1, zi_row M.2.2.1 y (va_cpy (M.2.2.1 x) (M.2.2.1 y) sp.toNatClampNeg dp.toNatClampNeg n.toNatClampNeg), M.2.2.2.1, M.2.2.2.2)) else none
  | _ => none
def zi_cmp (c : ClassFile.Cond) (x y : Int32) : Bool := match c with
  | .eq => decide (x = y)
  | .ne => decide (¬ x = y)
  | .lt => decide (x < y)
  | .ge => decide (y ≤ x)
  | .gt => decide (y < x)
  | .le => decide (x ≤ y)
def zi_if (c : ClassFile.Cond) (b : Nat) (lv : zi_L) (st : List Value) (M : zi_M) : Option zi_N := match st with
  | .int x :: st => if zi_cmp c x 0 = true then some (.inr (.inl (b, st))) else some (.inl (lv, st, M))
  | _ => none
def zi_ic (c : ClassFile.Cond) (b : Nat) (lv : zi_L) (st : List Value) (M : zi_M) : Option zi_N := match st with
  | .int y :: .int x :: st => if zi_cmp c x y = true then some (.inr (.inl (b, st))) else some (.inl (lv, st, M))
  | _ => none
def zi_nul (b : Nat) (lv : zi_L) (st : List Value) (M : zi_M) : Option zi_N := match st with
  | .null :: st => some (.inr (.inl (b, st)))
  | .ref _ :: st => some (.inl (lv, st, M))
  | _ => none
def zi_nnl (b : Nat) (lv : zi_L) (st : List Value) (M : zi_M) : Option zi_N := match st with
  | .null :: st => some (.inl (lv, st, M))
  | .ref _ :: st => some (.inr (.inl (b, st)))
  | _ => none
def zi_tb (key : Int32) (d : Nat) (x : Int32) : List Nat → Nat
  | [] => d
  | t :: ts => if x = key then t else zi_tb (key + 1) d x ts
def zi_lk (d : Nat) (x : Int32) : List (Int × Int) → List Nat → Nat
  | q :: ps, t :: ts => if x = Int32.ofInt q.1 then t else zi_lk d x ps ts
  | _, _ => d
def zi_sw (f : Int32 → Nat) (st : List Value) : Option zi_N := match st with
  | .int x :: st => some (.inr (.inl (f x, st)))
  | _ => none
def zi_ri (z : Nat) (st : List Value) : Option zi_N := match st with
  | [.int x] => if z = 1 then (if x = 0 ∨ x = 1 then some (.inr (.inr (.inl (some (.int x))))) else none) else some (.inr (.inr (.inl (some (.int x)))))
  | _ => none
def zi_rl (st : List Value) : Option zi_N := match st with
  | [.long x] => some (.inr (.inr (.inl (some (.long x)))))
  | _ => none
def zi_ra (st : List Value) : Option zi_N := match st with
  | [.ref x] => some (.inr (.inr (.inl (some (.ref x)))))
  | [.null] => some (.inr (.inr (.inl (some .null))))
  | _ => none
def zi_rv (st : List Value) : Option zi_N := match st with
  | [] => some (.inr (.inr (.inl none)))
  | _ => none
/-- n values off the stack, in the order in which they were pushed -/
def zi_pop : Nat → List Value → List Value → Option (List Value × List Value)
  | 0, acc, st => some (acc, st)
  | n + 1, acc, v :: st => zi_pop n (v :: acc) st
  | _ + 1, _, [] => none
def zi_sh (st : List Value) : Bool := match st with
  | _ :: _ :: _ :: _ :: _ :: _ => false
  | _ => true
/-- values that n locals hold -/
def zi_fit : List Value → Nat → Bool
  | [], _ => true
  | .long _ :: t, n + 2 => zi_fit t n
  | .double _ :: t, n + 2 => zi_fit t n
  | .long _ :: _, _ => false
  | .double _ :: _, _ => false
  | _ :: t, n + 1 => zi_fit t n
  | _, _ => false
/-- a call without an object: l0 is how many locals the callee has -/
def zi_iv (j n : Nat) (l : List Nat) (st : List Value) : Option zi_N := match zi_pop n [] st with
  | some (as, st) => if zi_sh st = true ∧ zi_fit as (l.getD 0 0) = true then some (.inr (.inr (.inr (j, as, st)))) else none
  | none => none
/-- a call on an object of class l0 with l1 fields; l2 is how many locals the callee has -/
def zi_ivr (j n : Nat) (l : List Nat) (st : List Value) (M : zi_M) : Option zi_N := match zi_pop n [] st with
  | some (.ref id :: as, st) => if M.2.1 id = (0, l.getD 0 0, l.getD 1 0) ∧ zi_sh st = true ∧ zi_fit (.ref id :: as) (l.getD 2 0) = true then some (.inr (.inr (.inr (j, .ref id :: as, st)))) else none
  | _ => none
def zi_nx (sc : Nat × (Nat → Int32)) (i : zi_I) (lv : zi_L) (st : List Value) (M : zi_M) : Option zi_N :=
  match i.1 with
  | .nop => some (.inr (.inl (i.2.1, st)))
  | .iconst _ => some (.inl (lv, .int i.2.2.2.1 :: st, M))
  | .bipush _ => some (.inl (lv, .int i.2.2.2.1 :: st, M))
  | .sipush _ => some (.inl (lv, .int i.2.2.2.1 :: st, M))
  | .lconst n => some (.inl (lv, .long (Int64.ofNat n) :: st, M))
  | .ldc2_w _ => some (.inl (lv, .long (-9223372036854775808) :: st, M))
  | .aconst_null => some (.inl (lv, .null :: st, M))
  | .iload n => zi_ldi lv n st M
  | .iload_n n => zi_ldi lv n.val st M
  | .lload n => zi_ldl lv n st M
  | .lload_n n => zi_ldl lv n.val st M
  | .aload n => zi_lda lv n st M
  | .aload_n n => zi_lda lv n.val st M
  | .istore n => zi_sti lv n st M
  | .istore_n n => zi_sti lv n.val st M
  | .lstore n => zi_stl lv n st M
  | .lstore_n n => zi_stl lv n.val st M
  | .astore n => zi_sta lv n st M
  | .astore_n n => zi_sta lv n.val st M
  | .iinc n _ => zi_inc lv n i.2.2.2.1 st M
  | .iadd => zi_b2 (fun x y => x + y) lv st M
  | .isub => zi_b2 (fun x y => x - y) lv st M
  | .imul => zi_b2 (fun x y => x * y) lv st M
  | .iand => zi_b2 (fun x y => x &&& y) lv st M
  | .ior => zi_b2 (fun x y => x ||| y) lv st M
  | .ishl => zi_b2 (fun x y => x <<< (y &&& 31)) lv st M
  | .ishr => zi_b2 (fun x y => x >>> (y &&& 31)) lv st M
  | .idiv => zi_d2 (fun x y => x / y) lv st M
  | .irem => zi_d2 (fun x y => x - x / y * y) lv st M
  | .ladd => zi_l2 (fun x y => x + y) lv st M
  | .ldiv => zi_dl2 (fun x y => x / y) lv st M
  | .lrem => zi_dl2 (fun x y => x - x / y * y) lv st M
  | .lcmp => zi_lc lv st M
  | .i2l => zi_u1 (fun x => .long x.toInt64) lv st M
  | .i2b => zi_u1 (fun x => .int x.toInt8.toInt32) lv st M
  | .i2s => zi_u1 (fun x => .int x.toInt16.toInt32) lv st M
  | .pop => zi_pp lv st M
  | .dup => zi_dup lv st M
  | .dup2 => zi_dup2 lv st M
  | .getfield _ => zi_gf i.2.1 i.2.2.1 i.2.2.2.2 lv st M
  | .putfield _ => zi_pf i.2.1 i.2.2.1 i.2.2.2.2 lv st M
  | .getstatic _ => some (.inl (lv, .float (UInt32.ofNat i.2.1) :: st, M))
  | .iaload => zi_ial sc lv st M
  | .iastore => zi_ias lv st M
  | .laload => zi_lal lv st M
  | .lastore => zi_las lv st M
  | .aaload => zi_aal lv st M
  | .aastore => zi_aas lv st M
  | .arraylength => zi_aln sc lv st M
  | .new _ => zi_new i.2.1 i.2.2.1 lv st M
  | .newarray _ => zi_na i.2.1 i.2.2.1 lv st M
  | .anewarray _ => zi_na 3 i.2.1 lv st M
  | .multianewarray _ _ => zi_mna i.2.1 (i.2.2.2.2.getD 0 0) i.2.2.1 lv st M
  | .goto _ => some (.inr (.inl (i.2.1, st)))
  | .ifCond c _ => zi_if c i.2.1 lv st M
  | .if_icmp c _ => zi_ic c i.2.1 lv st M
  | .ifnull _ => zi_nul i.2.1 lv st M
  | .ifnonnull _ => zi_nnl i.2.1 lv st M
  | .tableswitch _ _ _ _ => zi_sw (fun x => zi_tb i.2.2.2.1 i.2.1 x i.2.2.2.2) st
  | .lookupswitch _ ps => zi_sw (fun x => zi_lk i.2.1 x ps.toList i.2.2.2.2) st
  | .ireturn => zi_ri i.2.1 st
  | .lreturn => zi_rl st
  | .areturn => zi_ra st
  | .return_ => zi_rv st
  | .invokestatic _ => if i.2.1 = 9998 then zi_cp lv st M else zi_iv i.2.1 i.2.2.1 i.2.2.2.2 st
  | .invokevirtual _ => zi_ivr i.2.1 i.2.2.1 i.2.2.2.2 st M
  | .invokespecial _ => if i.2.1 = 9999 then zi_obj lv st M else zi_ivr i.2.1 i.2.2.1 i.2.2.2.2 st M
  | _ => none
/-- how many cells and slots an instruction makes -/
def zi_al (i : zi_I) (st : List Value) : Nat × Nat := match i.1 with
  | .new _ => (1, i.2.2.1)
  | .newarray _ => match st with
    | .int n :: _ => (1, n.toNatClampNeg)
    | _ => (0, 0)
  | .anewarray _ => match st with
    | .int n :: _ => (1, n.toNatClampNeg)
    | _ => (0, 0)
  | .multianewarray _ _ => match st with
    | .int k :: .int n :: _ => (1 + n.toNatClampNeg, n.toNatClampNeg + n.toNatClampNeg * k.toNatClampNeg)
    | _ => (0, 0)
  | _ => (0, 0)
/-- a callee's locals -/
def zi_la : List Value → zi_L
  | [] => []
  | .long x :: t => some (.long x) :: none :: zi_la t
  | .double x :: t => some (.double x) :: none :: zi_la t
  | v :: t => some v :: zi_la t
/-- a method: name, code, locals, what it returns, its frames, locals' words, cells, slots; its blocks, where each begins -/
abbrev zi_D : Type := (MethodName × ByteArray × Nat × Option FieldType) × (Nat × Nat × Nat × Nat) × List (List zi_I) × List Nat
abbrev zi_mc (T : Nat → zi_D) (k : Nat) : Nat := (T k).2.1.2.2.1
abbrev zi_ms (T : Nat → zi_D) (k : Nat) : Nat := (T k).2.1.2.2.2
abbrev zi_bk (T : Nat → zi_D) (k b : Nat) : List zi_I := (T k).2.2.1.getD b []
def zi_ex (T : Nat → zi_D) (sc : Nat × (Nat → Int32)) : Nat → Nat → List zi_I → zi_L → List Value → zi_M → Nat → Nat → Option (Option Value × zi_M)
  | 0, _, _, _, _, _, _, _ => none
  | _ + 1, _, [], _, _, _, _, _ => none
  | n + 1, k, i :: is, lv, st, M, cu, su => match zi_nx sc i lv st M with
    | none => none
    | some (.inl (lv', st', M')) => if cu + (zi_al i st).1 ≤ zi_mc T k ∧ su + (zi_al i st).2 ≤ zi_ms T k then zi_ex T sc n k is lv' st' M' (cu + (zi_al i st).1) (su + (zi_al i st).2) else none
    | some (.inr (.inl (b, st'))) => zi_ex T sc n k (zi_bk T k b) lv st' M cu su
    | some (.inr (.inr (.inl r))) => some (r, M)
    | some (.inr (.inr (.inr (j, as, st')))) => if cu + zi_mc T j ≤ zi_mc T k ∧ su + zi_ms T j ≤ zi_ms T k then
        match zi_ex T sc n j (zi_bk T j 0) (zi_la as) [] M 0 0 with
        | none => none
        | some (r, M') => zi_ex T sc n k is lv (r.toList ++ st') M' (cu + zi_mc T j) (su + zi_ms T j)
      else none
end
section
/-! THE WORLD of the interpreter's memory: cell number k lies at a0 + k -/
def zi_ty : Nat → Nat → FieldType
  | 0 => tyX0
  | 1 => tyX1
  | 2 => tyX2
  | 3 => tyX3
  | 4 => tyX4
  | 5 => tyX5
  | 6 => tyX6
  | 7 => tyX7
  | _ => tyX8
def zi_tgt (ty : FieldType) : Nat := match ty with
  | .int => 0
  | .boolean => 1
  | _ => 2
def zi_tg (ci k : Nat) : Nat := if zi_tgt (zi_ty ci k) = 2 then 2 else 0
def zi_con (a0 : Nat) (σ : Nat → Nat) : Value → Value
  | .ref k => .ref (a0 + k)
  | .float q => .ref (σ q.toNat)
  | v => v
def zi_ad (a0 : Nat) (r : Option Nat) : Option Nat := r.map (fun k => a0 + k)
def zi_fs (a0 ci n : Nat) (I : Nat → Int32) (R : Nat → Option Nat) : List Value := (List.range n).map (fun k => zi_fv (zi_tg ci k) (I k) (zi_ad a0 (R k)))
def zi_cel (a0 : Nat) (τ : Nat → ClassId) (t : Nat × Nat × Nat) (I : Nat → Int32) (J : Nat → Int64) (R : Nat → Option Nat) : va_E := match t.1 with
  | 0 => .inr (t.2.1, zi_fs a0 t.2.1 t.2.2 I R)
  | 1 => .inl (τ t.2.1, t.2.2, .inl I)
  | 2 => .inl (τ t.2.1, t.2.2, .inr (.inl J))
  | _ => .inl (τ t.2.1, t.2.2, .inr (.inr (.inr (.inr (fun j => zi_ad a0 (R j))))))
def zi_c (a0 : Nat) (τ : Nat → ClassId) (M : zi_M) (j : Nat) : va_E := zi_cel a0 τ (M.2.1 j) (M.2.2.1 j) (M.2.2.2.1 j) (M.2.2.2.2 j)
def zi_ws (a0 : Nat) (τ : Nat → ClassId) (M : zi_M) : va_W := (List.range M.1).map (fun j => (a0 + j, zi_c a0 τ M j))
theorem zi_ws_at {a0 : Nat} {τ : Nat → ClassId} {M : zi_M} {j : Nat} (h : j < M.1) : (zi_ws a0 τ M)[j]? = some (a0 + j, zi_c a0 τ M j) := by
  unfold zi_ws
  rw [List.getElem?_map, List.getElem?_range h]
  rfl
theorem zi_ws_some {a0 : Nat} {τ : Nat → ClassId} {M : zi_M} {j : Nat} {q : Nat × va_E} (h : (zi_ws a0 τ M)[j]? = some q) : j < M.1 ∧ q = (a0 + j, zi_c a0 τ M j) := by
  have hl : j < (zi_ws a0 τ M).length := (List.getElem?_eq_some_iff.mp h).1
  have hj : j < M.1 := by simpa [zi_ws] using hl
  rw [zi_ws_at hj] at h
  exact ⟨hj, (Option.some.inj h).symm⟩
theorem zi_ws_len (a0 : Nat) (τ : Nat → ClassId) (M : zi_M) : (zi_ws a0 τ M).length = M.1 := by simp [zi_ws]
theorem zi_Dd (a0 : Nat) (τ : Nat → ClassId) (M : zi_M) : va_D (fun q => a0 ≤ q) (zi_ws a0 τ M) := by
  refine ⟨fun i j p q hi hj hpq => ?_, fun k q hk => ?_⟩
  · obtain ⟨-, rfl⟩ := zi_ws_some hi
    obtain ⟨-, rfl⟩ := zi_ws_some hj
    have h : a0 + i = a0 + j := hpq
    omega
  · obtain ⟨-, rfl⟩ := zi_ws_some hk
    exact Nat.le_add_right _ _
theorem zi_ws_set {a0 : Nat} {τ : Nat → ClassId} {M M' : zi_M} (j : Nat) (hN : M'.1 = M.1) (h : ∀ i, i ≠ j → zi_c a0 τ M' i = zi_c a0 τ M i) : zi_ws a0 τ M' = (zi_ws a0 τ M).set j (a0 + j, zi_c a0 τ M' j) := by
  apply List.ext_getElem?
  intro i
  by_cases hl : i < M.1
  · rw [zi_ws_at (by rw [hN]; exact hl)]
    by_cases hij : i = j
    · subst hij
      rw [List.getElem?_set_self (by rw [zi_ws_len]; exact hl)]
    · rw [List.getElem?_set_ne (fun e => hij e.symm), zi_ws_at hl, h i hij]
  · rw [List.getElem?_eq_none (by rw [zi_ws_len, hN]; omega), List.getElem?_eq_none (by rw [List.length_set, zi_ws_len]; omega)]
theorem zi_ws_push {a0 : Nat} {τ : Nat → ClassId} {M M' : zi_M} (hN : M'.1 = M.1 + 1) (h : ∀ i, i < M.1 → zi_c a0 τ M' i = zi_c a0 τ M i) : zi_ws a0 τ M' = zi_ws a0 τ M ++ [(a0 + M.1, zi_c a0 τ M' M.1)] := by
  unfold zi_ws
  rw [hN, List.range_succ, List.map_append]
  congr 1
  apply List.map_congr_left
  intro i hi
  rw [h i (List.mem_range.mp hi)]
theorem zi_row_eq {α : Type} (h : Nat → Nat → α) (i : Nat) (r : Nat → α) : zi_row h i r i = r := if_pos rfl
theorem zi_row_ne {α : Type} (h : Nat → Nat → α) {i j : Nat} (r : Nat → α) (e : j ≠ i) : zi_row h i r j = h j := if_neg e
theorem zi_up_eq {α : Type} (h : Nat → Nat → α) (i k : Nat) (v : α) : zi_up h i k v i = va_up (h i) k v := if_pos rfl
theorem zi_up_ne {α : Type} (h : Nat → Nat → α) {i j : Nat} (k : Nat) (v : α) (e : j ≠ i) : zi_up h i k v j = h j := if_neg e
/-- the world of a memory -/
def zi_W (a0 : Nat) (τ : Nat → ClassId) (dC : Nat → ClassId) (dI : Nat → Nat → Nat) (M : zi_M) (H : Heap) : Prop := (H.size = a0 + M.1 ∧ ∀ j, M.1 ≤ j → (M.2.1 j).1 = 9) ∧ va_P (dC, dI) vwCl (zi_ws a0 τ M) H
theorem zi_W.lt {a0 : Nat} {τ : Nat → ClassId} {dC : Nat → ClassId} {dI : Nat → Nat → Nat} {M : zi_M} {H : Heap} (h : zi_W a0 τ dC dI M H) {j : Nat} (hj : (M.2.1 j).1 ≠ 9) : j < M.1 := by
  rcases Nat.lt_or_ge j M.1 with q | q
  · exact q
  · exact absurd (h.1.2 j q) hj
/-! locals -/
def zi_lp (a0 : Nat) (σ : Nat → Nat) : Nat → zi_L → List (Nat × Value)
  | _, [] => []
  | i, none :: t => zi_lp a0 σ (i + 1) t
  | i, some v :: t => (i, zi_con a0 σ v) :: zi_lp a0 σ (i + 1) t
theorem zi_lp_mem {a0 : Nat} {σ : Nat → Nat} : ∀ (lv : zi_L) (i : Nat) (q : Nat × Value), q ∈ zi_lp a0 σ i lv ↔ ∃ n v, zi_get lv n = some v ∧ q = (i + n, zi_con a0 σ v)
  | [], i, q => by simp [zi_lp, zi_get]
  | none :: t, i, q => by
    simp only [zi_lp]
    rw [zi_lp_mem t (i + 1) q]
    constructor
    · rintro ⟨n, v, h1, h2⟩
      exact ⟨n + 1, v, h1, by rw [h2]; congr 1; omega⟩
    · rintro ⟨n, v, h1, h2⟩
      cases n with
      | zero => cases h1
      | succ n => exact ⟨n, v, h1, by rw [h2]; congr 1; omega⟩
  | some w :: t, i, q => by
    simp only [zi_lp, List.mem_cons]
    rw [zi_lp_mem t (i + 1) q]
    constructor
    · rintro (h | ⟨n, v, h1, h2⟩)
      · exact ⟨0, w, rfl, h⟩
      · exact ⟨n + 1, v, h1, by rw [h2]; congr 1; omega⟩
    · rintro ⟨n, v, h1, h2⟩
      cases n with
      | zero => cases h1; exact Or.inl h2
      | succ n => exact Or.inr ⟨n, v, h1, by rw [h2]; congr 1; omega⟩
theorem zi_get_put : ∀ (lv : zi_L) (i : Nat) (x : Option Value) (n : Nat), zi_get (zi_put lv i x) n = if n = i then x else zi_get lv n
  | [], 0, x, 0 => by simp [zi_put, zi_get]
  | [], 0, x, n + 1 => by simp [zi_put, zi_get]
  | [], i + 1, x, 0 => by simp [zi_put, zi_get]
  | [], i + 1, x, n + 1 => by
    simp only [zi_put, zi_get]
    rw [zi_get_put [] i x n]
    simp [zi_get]
  | y :: t, 0, x, 0 => by simp [zi_put, zi_get]
  | y :: t, 0, x, n + 1 => by simp [zi_put, zi_get]
  | y :: t, i + 1, x, 0 => by simp [zi_put, zi_get]
  | y :: t, i + 1, x, n + 1 => by
    simp only [zi_put, zi_get]
    rw [zi_get_put t i x n]
    simp
theorem zi_has_get {a0 : Nat} {σ : Nat → Nat} {ls : Array Slot} {nL : Nat} {lv : zi_L} (h : lv_has ls nL (zi_lp a0 σ 0 lv)) {n : Nat} {v : Value} (hg : zi_get lv n = some v) : ls[n]? = some (.val (zi_con a0 σ v)) := by
  have := h.2.2 (n, zi_con a0 σ v) ((zi_lp_mem lv 0 _).mpr ⟨n, v, hg, by simp⟩)
  exact this
theorem zi_has_mono {ls : Array Slot} {nL : Nat} {l l' : List (Nat × Value)} (h : lv_has ls nL l) (hm : ∀ q ∈ l', q ∈ l) : lv_has ls nL l' := ⟨h.1, h.2.1, fun q hq => h.2.2 q (hm q hq)⟩
theorem zi_con_cat (a0 : Nat) (σ : Nat → Nat) (v : Value) : (zi_con a0 σ v).category = v.category := by cases v <;> rfl
theorem zi_isL_cat (v : Value) : zi_isL (some v) = true ↔ v.category = 2 := by cases v <;> simp [zi_isL, Value.category]
theorem zi_get_kl (lv : zi_L) (i n : Nat) (v : Value) (h : zi_get (zi_kl lv i) n = some v) : zi_get lv n = some v ∧ ¬ (n + 1 = i ∧ v.category = 2) := by
  cases i with
  | zero => exact ⟨h, fun q => by omega⟩
  | succ i =>
    simp only [zi_kl] at h
    by_cases hl : zi_isL (zi_get lv i) = true
    · rw [if_pos hl, zi_get_put] at h
      by_cases hn : n = i
      · rw [if_pos hn] at h; cases h
      · rw [if_neg hn] at h
        exact ⟨h, fun q => hn (by omega)⟩
    · rw [if_neg hl] at h
      refine ⟨h, fun q => hl ?_⟩
      have e : n = i := by omega
      subst e
      rw [h]
      exact (zi_isL_cat v).mpr q.2
theorem zi_has_st1 {a0 : Nat} {σ : Nat → Nat} {ls : Array Slot} {nL : Nat} {lv : zi_L} {i : Nat} {v : Value} (h : lv_has ls nL ((i, zi_con a0 σ v) :: (zi_lp a0 σ 0 lv).filter (fun q => !(q.1 == i) && !(q.1 + 1 == i && q.2.category == 2)))) : lv_has ls nL (zi_lp a0 σ 0 (zi_st1 lv i v)) := by
  refine zi_has_mono h (fun q hq => ?_)
  obtain ⟨n, w, h1, rfl⟩ := (zi_lp_mem _ _ _).mp hq
  simp only [zi_st1, zi_get_put] at h1
  by_cases hn : n = i
  · rw [if_pos hn] at h1
    cases h1
    subst hn
    simp
  · rw [if_neg hn] at h1
    obtain ⟨h2, h3⟩ := zi_get_kl lv i n w h1
    refine List.mem_cons_of_mem _ (List.mem_filter.mpr ⟨(zi_lp_mem _ _ _).mpr ⟨n, w, h2, rfl⟩, ?_⟩)
    simp only [Nat.zero_add, zi_con_cat]
    have h4 : ¬ (n + 1 = i) ∨ ¬ w.category = 2 := by
      by_cases e : n + 1 = i
      · exact Or.inr (fun q => h3 ⟨e, q⟩)
      · exact Or.inl e
    rcases h4 with h4 | h4 <;> simp [hn, h4]
theorem zi_has_st2 {a0 : Nat} {σ : Nat → Nat} {ls : Array Slot} {nL : Nat} {lv : zi_L} {i : Nat} {v : Value} (h : lv_has ls nL ((i, zi_con a0 σ v) :: (zi_lp a0 σ 0 lv).filter (fun q => !(q.1 == i) && (!(q.1 == i + 1) && !(q.1 + 1 == i && q.2.category == 2))))) : lv_has ls nL (zi_lp a0 σ 0 (zi_st2 lv i v)) := by
  refine zi_has_mono h (fun q hq => ?_)
  obtain ⟨n, w, h1, rfl⟩ := (zi_lp_mem _ _ _).mp hq
  simp only [zi_st2, zi_get_put] at h1
  by_cases hn2 : n = i + 1
  · rw [if_pos hn2] at h1
    cases h1
  · rw [if_neg hn2] at h1
    by_cases hn : n = i
    · rw [if_pos hn] at h1
      cases h1
      subst hn
      simp
    · rw [if_neg hn] at h1
      obtain ⟨h2, h3⟩ := zi_get_kl lv i n w h1
      refine List.mem_cons_of_mem _ (List.mem_filter.mpr ⟨(zi_lp_mem _ _ _).mpr ⟨n, w, h2, rfl⟩, ?_⟩)
      simp only [Nat.zero_add, zi_con_cat]
      have h4 : ¬ (n + 1 = i) ∨ ¬ w.category = 2 := by
        by_cases e : n + 1 = i
        · exact Or.inr (fun q => h3 ⟨e, q⟩)
        · exact Or.inl e
      rcases h4 with h4 | h4 <;> simp [hn, hn2, h4]
/-- a method's first locals -/
theorem zi_la_mem {a0 : Nat} {σ : Nat → Nat} : ∀ (as : List Value) (i : Nat) (q : Nat × Value), q ∈ zi_lp a0 σ i (zi_la as) → q ∈ lv_args i (as.map (zi_con a0 σ))
  | [], i, q, h => by simp [zi_la, zi_lp] at h
  | v :: t, i, q, h => by
    cases v <;>
      · simp only [zi_la, zi_lp, List.mem_cons] at h
        simp only [List.map_cons, lv_args, zi_con, Value.category, List.mem_cons]
        rcases h with h | h
        · exact Or.inl h
        · exact Or.inr (zi_la_mem t _ q h)
theorem zi_fit_len {a0 : Nat} {σ : Nat → Nat} : ∀ (as : List Value) (n : Nat), zi_fit as n = true → (lg_sl (as.map (zi_con a0 σ))).length ≤ n
  | [], n, _ => by simp [lg_sl]
  | v :: t, n, h => by
    have key : (lg_sl ((v :: t).map (zi_con a0 σ))).length = v.category + (lg_sl (t.map (zi_con a0 σ))).length := by
      cases v <;> simp [lg_sl, zi_con, Value.category] <;> omega
    rw [key]
    cases v with
    | long x =>
      match n, h with
      | n + 2, h => simp only [zi_fit] at h; have := zi_fit_len (a0 := a0) (σ := σ) t n h; simp only [Value.category]; omega
      | 1, h => simp [zi_fit] at h
      | 0, h => simp [zi_fit] at h
    | double x =>
      match n, h with
      | n + 2, h => simp only [zi_fit] at h; have := zi_fit_len (a0 := a0) (σ := σ) t n h; simp only [Value.category]; omega
      | 1, h => simp [zi_fit] at h
      | 0, h => simp [zi_fit] at h
    | int x =>
      cases n with
      | zero => simp [zi_fit] at h
      | succ n => simp only [zi_fit] at h; have := zi_fit_len (a0 := a0) (σ := σ) t n h; simp only [Value.category]; omega
    | float x =>
      cases n with
      | zero => simp [zi_fit] at h
      | succ n => simp only [zi_fit] at h; have := zi_fit_len (a0 := a0) (σ := σ) t n h; simp only [Value.category]; omega
    | null =>
      cases n with
      | zero => simp [zi_fit] at h
      | succ n => simp only [zi_fit] at h; have := zi_fit_len (a0 := a0) (σ := σ) t n h; simp only [Value.category]; omega
    | ref x =>
      cases n with
      | zero => simp [zi_fit] at h
      | succ n => simp only [zi_fit] at h; have := zi_fit_len (a0 := a0) (σ := σ) t n h; simp only [Value.category]; omega
    | retAddr x =>
      cases n with
      | zero => simp [zi_fit] at h
      | succ n => simp only [zi_fit] at h; have := zi_fit_len (a0 := a0) (σ := σ) t n h; simp only [Value.category]; omega
theorem zi_sh_sum (a0 : Nat) (σ : Nat → Nat) (st : List Value) (h : zi_sh st = true) : ((st.map (zi_con a0 σ)).map fun v => v.category).sum ≤ 8 := by
  have hc : ∀ v : Value, v.category ≤ 2 := fun v => by cases v <;> simp [Value.category]
  have h0 : st.length ≤ 4 := by
    match st, h with
    | [], _ => simp
    | [_], _ => simp
    | [_, _], _ => simp
    | [_, _, _], _ => simp
    | [_, _, _, _], _ => simp
  have key : ∀ l : List Value, ((l.map (zi_con a0 σ)).map fun v => v.category).sum ≤ 2 * l.length := by
    intro l
    induction l with
    | nil => simp
    | cons a t ih => simp only [List.map_cons, List.sum_cons, List.length_cons]; have := hc (zi_con a0 σ a); omega
  have := key st
  omega
theorem zi_len_sum (a0 : Nat) (σ : Nat → Nat) (st : List Value) (h0 : st.length ≤ 4) : ((st.map (zi_con a0 σ)).map fun v => v.category).sum ≤ 8 := by
  have hc : ∀ v : Value, v.category ≤ 2 := fun v => by cases v <;> simp [Value.category]
  have key : ∀ l : List Value, ((l.map (zi_con a0 σ)).map fun v => v.category).sum ≤ 2 * l.length := by
    intro l
    induction l with
    | nil => simp
    | cons a t ih => simp only [List.map_cons, List.sum_cons, List.length_cons]; have := hc (zi_con a0 σ a); omega
  have := key st
  omega
theorem zi_pop_eq : ∀ (n : Nat) (acc st as rest : List Value), zi_pop n acc st = some (as, rest) → acc.reverse ++ st = as.reverse ++ rest
  | 0, acc, st, as, rest, h => by
    simp only [zi_pop, Option.some.injEq, Prod.mk.injEq] at h
    rw [h.1, h.2]
  | n + 1, acc, [], as, rest, h => by simp [zi_pop] at h
  | n + 1, acc, v :: st, as, rest, h => by
    simp only [zi_pop] at h
    have := zi_pop_eq n (v :: acc) st as rest h
    rw [← this]
    simp
theorem zi_pop_len : ∀ (n : Nat) (acc st as rest : List Value), zi_pop n acc st = some (as, rest) → as.length = n + acc.length
  | 0, acc, st, as, rest, h => by
    simp only [zi_pop, Option.some.injEq, Prod.mk.injEq] at h
    rw [h.1]; omega
  | n + 1, acc, [], as, rest, h => by simp [zi_pop] at h
  | n + 1, acc, v :: st, as, rest, h => by
    simp only [zi_pop] at h
    have := zi_pop_len n (v :: acc) st as rest h
    simp only [List.length_cons] at this
    omega
end
section
/-! the tables' words that instructions link, in small lists (by program) -/
theorem zi_pool_in {ws : List Cond} (ps : List Nat) (h : ws = ps.filterMap (fun i => lw_tbl[i]?)) : ∀ w ∈ ws, w ∈ lw_tbl := by
  intro w hw
  rw [h] at hw
  obtain ⟨i, -, hi⟩ := List.mem_filterMap.mp hw
  exact List.mem_of_getElem? hi
def zw_0 : List Cond := [.methodLink "LoopRounds$Layout" 3 objectInit, .instanceMethod objectInit, .code objectInit ⟨#[0xb1]⟩ 1 none, .classLink "LoopRounds$Layout" 9 "[[I", .arrayOver (.array .int), .arrayClass .int, .fieldLink "LoopRounds$Layout" 11 "LoopRounds$Layout" "bySign" "[[I", .fieldLink "LoopRounds$Layout" 16 "LoopRounds$Layout" "first" "[[I", .fieldLink "LoopRounds$Layout" 19 "LoopRounds$Layout" "last" "[[I", .fieldLink "LoopRounds$Layout" 22 "LoopRounds$Layout" "roots" "[[I", .fieldLink "LoopRounds$Layout" 25 "LoopRounds$Layout" "above" "[[I", .methodLink "LoopRounds$Piece" 3 objectInit, .fieldLink "LoopRounds$Piece" 9 "LoopRounds$Piece" "begun" "Z", .fieldLink "LoopRounds$Piece" 15 "LoopRounds$Piece" "ring" "I", .fieldLink "LoopRounds$Piece" 19 "LoopRounds$Piece" "count" "I", .classLink "LoopRounds$Piece" 22 "LoopRounds$Round"]
set_option maxRecDepth 100000 in
theorem zw_0_in : ∀ w ∈ zw_0, w ∈ lw_tbl := zi_pool_in [162, 70, 71, 163, 164, 120, 165, 167, 169, 171, 173, 79, 121, 124, 127, 80] (by decide +kernel)
def zw_1 : List Cond := [.arrayOver (.object "LoopRounds$Round"), .fieldLink "LoopRounds$Piece" 24 "LoopRounds$Piece" "rounds" "[LLoopRounds$Round;", .instantiable "LoopRounds$Round" 6, .initialized "LoopRounds$Round", .methodLinkNest "LoopRounds$Piece" 28 yX4_init "LoopRounds", .code yX4_init cX4_init 1 none, .instanceMethod yX4_init, .methodLink "LoopRounds$Plans" 3 objectInit, .fieldLink "LoopRounds$Plans" 9 "LoopRounds$Plans" "uses" "[I", .fieldLink "LoopRounds$Plans" 15 "LoopRounds$Plans" "makes" "[I", .fieldLink "LoopRounds$Plans" 18 "LoopRounds$Plans" "searchedFrom" "I", .fieldLink "LoopRounds$Plans" 22 "LoopRounds$Plans" "countedFrom" "I", .fieldLink "LoopRounds$Plans" 25 "LoopRounds$Plans" "rounds" "[I", .fieldLink "LoopRounds$Plans" 28 "LoopRounds$Plans" "cameFrom" "[I", .fieldLink "LoopRounds$Plans" 31 "LoopRounds$Plans" "cameBy" "[I", .fieldLink "LoopRounds$Plans" 34 "LoopRounds$Plans" "queue" "[I"]
set_option maxRecDepth 100000 in
theorem zw_1_in : ∀ w ∈ zw_1, w ∈ lw_tbl := zi_pool_in [81, 131, 82, 55, 83, 85, 84, 208, 215, 216, 217, 218, 219, 221, 222, 223] (by decide +kernel)
def zw_2 : List Cond := [.classLink "LoopRounds$Plans" 37 "[[J", .arrayOver (.array .long), .arrayClass .long, .fieldLink "LoopRounds$Plans" 39 "LoopRounds$Plans" "waysTo" "[[J", .fieldLinkNest "LoopRounds$Plans" 42 "LoopRounds" "USES" "[I" "LoopRounds", .fieldLinkNest "LoopRounds$Plans" 45 "LoopRounds" "MAKES" "[I" "LoopRounds", .methodLink "LoopRounds$Readings" 3 objectInit, .fieldLink "LoopRounds$Readings" 9 "LoopRounds$Readings" "count" "I", .fieldLink "LoopRounds$Readings" 15 "LoopRounds$Readings" "rounds" "[I", .fieldLink "LoopRounds$Readings" 19 "LoopRounds$Readings" "girths" "[I", .methodLink "LoopRounds$Round" 3 objectInit, .fieldLink "LoopRounds$Round" 9 "LoopRounds$Round" "signs" "[I", .methodLink "LoopRounds$Sheet" 3 objectInit, .fieldLink "LoopRounds$Sheet" 9 "LoopRounds$Sheet" "filled" "Z", .fieldLink "LoopRounds$Sheet" 15 "LoopRounds$Sheet" "lane" "I", .fieldLink "LoopRounds$Sheet" 19 "LoopRounds$Sheet" "size" "I"]
set_option maxRecDepth 100000 in
theorem zw_2_in : ∀ w ∈ zw_2, w ∈ lw_tbl := zi_pool_in [209, 210, 245, 224, 211, 213, 191, 192, 194, 195, 86, 98, 250, 251, 253, 255] (by decide +kernel)
def zw_3 : List Cond := [.fieldLink "LoopRounds$Sheet" 22 "LoopRounds$Sheet" "cells" "[I", .methodLink "LoopRounds$Text" 3 objectInit, .classLink "LoopRounds$Text" 9 "LoopRounds$Piece", .instantiable "LoopRounds$Piece" 4, .initialized "LoopRounds$Piece", .methodLink "LoopRounds$Text" 11 yX1_init, .code yX1_init cX1_init 2 none, .instanceMethod yX1_init, .fieldLink "LoopRounds$Text" 12 "LoopRounds$Text" "told" "LLoopRounds$Piece;", .fieldLink "LoopRounds$Text" 18 "LoopRounds$Text" "step" "I", .methodLink "LoopRounds" 5 objectInit, .classLink "LoopRounds" 11 "LoopRounds$Sheet", .arrayOver (.object "LoopRounds$Sheet"), .fieldLink "LoopRounds" 13 "LoopRounds" "sheets" "[LLoopRounds$Sheet;", .classLink "LoopRounds" 17 "LoopRounds$Piece", .methodLink "LoopRounds" 19 yX1_init]
set_option maxRecDepth 100000 in
theorem zw_3_in : ∀ w ∈ zw_3, w ∈ lw_tbl := zi_pool_in [256, 146, 147, 75, 54, 148, 78, 77, 149, 151, 69, 72, 73, 267, 74, 76] (by decide +kernel)
def zw_4 : List Cond := [.fieldLink "LoopRounds" 20 "LoopRounds" "work" "LLoopRounds$Piece;", .fieldLink "LoopRounds" 24 "LoopRounds" "trial" "LLoopRounds$Piece;", .classLink "LoopRounds" 27 "LoopRounds$Text", .instantiable "LoopRounds$Text" 2, .initialized "LoopRounds$Text", .methodLinkNest "LoopRounds" 29 yX6_init "LoopRounds", .code yX6_init cX6_init 1 none, .instanceMethod yX6_init, .fieldLink "LoopRounds" 30 "LoopRounds" "text" "LLoopRounds$Text;", .classLink "LoopRounds" 34 "LoopRounds$Layout", .instantiable "LoopRounds$Layout" 5, .initialized "LoopRounds$Layout", .methodLinkNest "LoopRounds" 36 yX0_init "LoopRounds", .code yX0_init cX0_init 1 none, .instanceMethod yX0_init, .fieldLink "LoopRounds" 37 "LoopRounds" "layout" "LLoopRounds$Layout;"]
set_option maxRecDepth 100000 in
theorem zw_4_in : ∀ w ∈ zw_4, w ∈ lw_tbl := zi_pool_in [268, 269, 141, 142, 56, 143, 145, 144, 270, 157, 158, 57, 159, 161, 160, 271] (by decide +kernel)
def zw_5 : List Cond := [.classLink "LoopRounds" 41 "LoopRounds$Readings", .instantiable "LoopRounds$Readings" 3, .initialized "LoopRounds$Readings", .methodLinkNest "LoopRounds" 43 yX3_init "LoopRounds", .code yX3_init cX3_init 1 none, .instanceMethod yX3_init, .fieldLink "LoopRounds" 44 "LoopRounds" "readings" "LLoopRounds$Readings;", .classLink "LoopRounds" 48 "LoopRounds$Plans", .instantiable "LoopRounds$Plans" 9, .initialized "LoopRounds$Plans", .methodLink "LoopRounds" 50 yX2_init, .code yX2_init cX2_init 3 none, .instanceMethod yX2_init, .fieldLink "LoopRounds" 51 "LoopRounds" "plans" "LLoopRounds$Plans;", .fieldLink "LoopRounds" 55 "LoopRounds" "traced" "I", .fieldLink "LoopRounds" 59 "LoopRounds" "latestFault" "I"]
set_option maxRecDepth 100000 in
theorem zw_5_in : ∀ w ∈ zw_5, w ∈ lw_tbl := zi_pool_in [186, 187, 58, 188, 190, 189, 272, 203, 204, 59, 205, 207, 206, 273, 274, 275] (by decide +kernel)
def zw_6 : List Cond := [.instantiable "LoopRounds$Sheet" 4, .initialized "LoopRounds$Sheet", .methodLinkNest "LoopRounds" 62 yX5_init "LoopRounds", .code yX5_init cX5_init 1 none, .instanceMethod yX5_init, .methodLink "LoopRoundsModel" 1 objectInit, .fieldLink "LoopRoundsModel" 9 "LoopRoundsModel" "sorts" "[I", .fieldLink "LoopRoundsModel" 13 "LoopRoundsModel" "sheetLong" "[I", .fieldLink "LoopRoundsModel" 16 "LoopRoundsModel" "cells" "[I", .fieldLink "LoopRoundsModel" 19 "LoopRoundsModel" "loops" "[I", .fieldLink "LoopRoundsModel" 22 "LoopRoundsModel" "kind" "[I", .fieldLink "LoopRoundsModel" 25 "LoopRoundsModel" "spun" "[I", .fieldLink "LoopRoundsModel" 28 "LoopRoundsModel" "many" "[I", .fieldLink "LoopRoundsModel" 31 "LoopRoundsModel" "signs" "[I", .fieldLink "LoopRoundsModel" 34 "LoopRoundsModel" "readKind" "[I", .fieldLink "LoopRoundsModel" 37 "LoopRoundsModel" "readSpun" "[I"]
set_option maxRecDepth 100000 in
theorem zw_6_in : ∀ w ∈ zw_6, w ∈ lw_tbl := zi_pool_in [246, 60, 247, 249, 248, 717, 720, 721, 722, 724, 725, 726, 727, 728, 732, 733] (by decide +kernel)
def zw_7 : List Cond := [.fieldLink "LoopRoundsModel" 40 "LoopRoundsModel" "readMany" "[I", .fieldLink "LoopRoundsModel" 43 "LoopRoundsModel" "readSigns" "[I", .fieldLink "LoopRoundsModel" 46 "LoopRoundsModel" "loopSign" "[I", .fieldLink "LoopRoundsModel" 49 "LoopRoundsModel" "firstIn" "[I", .fieldLink "LoopRoundsModel" 52 "LoopRoundsModel" "lastIn" "[I", .fieldLink "LoopRoundsModel" 55 "LoopRoundsModel" "standIn" "[I", .fieldLink "LoopRoundsModel" 58 "LoopRoundsModel" "roots" "[I", .fieldLink "LoopRoundsModel" 61 "LoopRoundsModel" "kept" "[I", .fieldLink "LoopRoundsModel" 64 "LoopRoundsModel" "one" "[I", .fieldLink "LoopRoundsModel" 67 "LoopRoundsModel" "plan" "[I", .fieldLink "LoopRoundsModel" 70 "LoopRoundsModel" "far" "[I", .fieldLink "LoopRoundsModel" 73 "LoopRoundsModel" "counts" "[J", .fieldLink "LoopRoundsModel" 77 "LoopRoundsModel" "countsThen" "[J", .fieldLink "LoopRoundsModel" 80 "LoopRoundsModel" "readRoundOf" "[I", .fieldLink "LoopRoundsModel" 83 "LoopRoundsModel" "readGirth" "[I", .classLink "LoopRoundsLaw" 7 "LoopRounds"]
set_option maxRecDepth 100000 in
theorem zw_7_in : ∀ w ∈ zw_7, w ∈ lw_tbl := zi_pool_in [734, 735, 736, 737, 738, 739, 740, 742, 743, 744, 745, 746, 747, 749, 750, 64] (by decide +kernel)
def zw_8 : List Cond := [.instantiable "LoopRounds" 9, .initialized "LoopRounds", .methodLink "LoopRoundsLaw" 9 yX7_init, .code yX7_init cX7_init 2 none, .instanceMethod yX7_init, .classLink "LoopRoundsLaw" 10 "LoopRoundsModel", .instantiable "LoopRoundsModel" 33, .initialized "LoopRoundsModel", .methodLink "LoopRoundsLaw" 12 yX8_init, .code yX8_init cX8_init 1 none, .instanceMethod yX8_init, .methodLink "LoopRoundsLaw" 13 yX7_piece, .code yX7_piece cX7_piece 9 (some .int), .instanceMethod yX7_piece, .selects "LoopRounds" yX7_piece yX7_piece, .methodLink "LoopRoundsLaw" 17 yX8_piece]
set_option maxRecDepth 100000 in
theorem zw_8_in : ∀ w ∈ zw_8, w ∈ lw_tbl := zi_pool_in [65, 53, 66, 68, 67, 712, 713, 61, 714, 716, 715, 295, 298, 296, 297, 818] (by decide +kernel)
def zw_9 : List Cond := [.code yX8_piece cX8_piece 9 (some .int), .instanceMethod yX8_piece, .selects "LoopRoundsModel" yX8_piece yX8_piece, .methodLink "LoopRoundsLaw" 18 yX7_ofRound, .code yX7_ofRound cX7_ofRound 4 (some .int), .instanceMethod yX7_ofRound, .selects "LoopRounds" yX7_ofRound yX7_ofRound, .methodLink "LoopRoundsLaw" 22 yX8_ofRound, .code yX8_ofRound cX8_ofRound 3 (some .int), .instanceMethod yX8_ofRound, .selects "LoopRoundsModel" yX8_ofRound yX8_ofRound, .methodLink "LoopRoundsLaw" 23 yX7_loops, .code yX7_loops cX7_loops 2 (some .int), .instanceMethod yX7_loops, .selects "LoopRounds" yX7_loops yX7_loops, .methodLink "LoopRoundsLaw" 27 yX8_loops]
set_option maxRecDepth 100000 in
theorem zw_9_in : ∀ w ∈ zw_9, w ∈ lw_tbl := zi_pool_in [821, 819, 820, 436, 439, 437, 438, 871, 874, 872, 873, 462, 465, 463, 464, 899] (by decide +kernel)
def zw_10 : List Cond := [.code yX8_loops cX8_loops 2 (some .int), .instanceMethod yX8_loops, .selects "LoopRoundsModel" yX8_loops yX8_loops, .methodLink "LoopRoundsLaw" 28 yX7_sign, .code yX7_sign cX7_sign 4 (some .int), .instanceMethod yX7_sign, .selects "LoopRounds" yX7_sign yX7_sign, .methodLink "LoopRoundsLaw" 31 yX8_sign, .code yX8_sign cX8_sign 3 (some .int), .instanceMethod yX8_sign, .selects "LoopRoundsModel" yX8_sign yX8_sign, .methodLink "LoopRoundsLaw" 32 yX7_loop, .code yX7_loop cX7_loop 5 (some .int), .instanceMethod yX7_loop, .selects "LoopRounds" yX7_loop yX7_loop, .methodLink "LoopRoundsLaw" 36 yX8_loop]
set_option maxRecDepth 100000 in
theorem zw_10_in : ∀ w ∈ zw_10, w ∈ lw_tbl := zi_pool_in [902, 900, 901, 468, 471, 469, 470, 907, 910, 908, 909, 476, 479, 477, 478, 911] (by decide +kernel)
def zw_11 : List Cond := [.code yX8_loop cX8_loop 5 (some .int), .instanceMethod yX8_loop, .selects "LoopRoundsModel" yX8_loop yX8_loop, .methodLink "LoopRoundsLaw" 37 yX7_spun, .code yX7_spun cX7_spun 5 (some .int), .instanceMethod yX7_spun, .selects "LoopRounds" yX7_spun yX7_spun, .methodLink "LoopRoundsLaw" 40 yX8_spun, .code yX8_spun cX8_spun 4 (some .int), .instanceMethod yX8_spun, .selects "LoopRoundsModel" yX8_spun yX8_spun, .methodLink "LoopRoundsLaw" 41 yX7_puton, .code yX7_puton cX7_puton 11 (some .int), .instanceMethod yX7_puton, .selects "LoopRounds" yX7_puton yX7_puton, .methodLink "LoopRoundsLaw" 45 yX8_puton]
set_option maxRecDepth 100000 in
theorem zw_11_in : ∀ w ∈ zw_11, w ∈ lw_tbl := zi_pool_in [914, 912, 913, 480, 483, 481, 482, 923, 926, 924, 925, 485, 488, 486, 487, 927] (by decide +kernel)
def zw_12 : List Cond := [.code yX8_puton cX8_puton 11 (some .int), .instanceMethod yX8_puton, .selects "LoopRoundsModel" yX8_puton yX8_puton, .methodLink "LoopRoundsLaw" 46 yX7_ravel, .code yX7_ravel cX7_ravel 2 (some .int), .instanceMethod yX7_ravel, .selects "LoopRounds" yX7_ravel yX7_ravel, .methodLink "LoopRoundsLaw" 49 yX8_ravel, .code yX8_ravel cX8_ravel 2 (some .int), .instanceMethod yX8_ravel, .selects "LoopRoundsModel" yX8_ravel yX8_ravel, .methodLink "LoopRoundsLaw" 50 yX7_day, .code yX7_day cX7_day 9 (some .int), .instanceMethod yX7_day, .selects "LoopRounds" yX7_day yX7_day, .methodLink "LoopRoundsLaw" 54 yX8_day]
set_option maxRecDepth 100000 in
theorem zw_12_in : ∀ w ∈ zw_12, w ∈ lw_tbl := zi_pool_in [930, 928, 929, 505, 508, 506, 507, 935, 938, 936, 937, 509, 512, 510, 511, 939] (by decide +kernel)
def zw_13 : List Cond := [.code yX8_day cX8_day 10 (some .int), .instanceMethod yX8_day, .selects "LoopRoundsModel" yX8_day yX8_day, .methodLink "LoopRoundsLaw" 55 yX7_fewest, .code yX7_fewest cX7_fewest 3 (some .int), .instanceMethod yX7_fewest, .selects "LoopRounds" yX7_fewest yX7_fewest, .methodLink "LoopRoundsLaw" 58 yX8_fewest, .code yX8_fewest cX8_fewest 7 (some .int), .instanceMethod yX8_fewest, .selects "LoopRoundsModel" yX8_fewest yX8_fewest, .methodLink "LoopRoundsLaw" 59 yX7_ways, .code yX7_ways cX7_ways 3 (some .long), .instanceMethod yX7_ways, .selects "LoopRounds" yX7_ways yX7_ways, .methodLink "LoopRoundsLaw" 63 yX8_ways]
set_option maxRecDepth 100000 in
theorem zw_13_in : ∀ w ∈ zw_13, w ∈ lw_tbl := zi_pool_in [942, 940, 941, 546, 549, 547, 548, 963, 966, 964, 965, 568, 571, 569, 570, 975] (by decide +kernel)
def zw_14 : List Cond := [.code yX8_ways cX8_ways 7 (some .long), .instanceMethod yX8_ways, .selects "LoopRoundsModel" yX8_ways yX8_ways, .methodLink "LoopRoundsLaw" 64 yX7_bare, .code yX7_bare cX7_bare 5 (some .int), .instanceMethod yX7_bare, .selects "LoopRounds" yX7_bare yX7_bare, .methodLink "LoopRoundsLaw" 67 yX8_bare, .code yX8_bare cX8_bare 4 (some .int), .instanceMethod yX8_bare, .selects "LoopRoundsModel" yX8_bare yX8_bare, .methodLink "LoopRoundsLaw" 68 yX7_reading, .code yX7_reading cX7_reading 4 (some .int), .instanceMethod yX7_reading, .selects "LoopRounds" yX7_reading yX7_reading, .methodLink "LoopRoundsLaw" 71 yX8_reading]
set_option maxRecDepth 100000 in
theorem zw_14_in : ∀ w ∈ zw_14, w ∈ lw_tbl := zi_pool_in [978, 976, 977, 584, 587, 585, 586, 980, 983, 981, 982, 588, 591, 589, 590, 984] (by decide +kernel)
def zw_15 : List Cond := [.code yX8_reading cX8_reading 3 (some .int), .instanceMethod yX8_reading, .selects "LoopRoundsModel" yX8_reading yX8_reading, .methodLink "LoopRoundsLaw" 72 yX7_back, .code yX7_back cX7_back 2 (some .int), .instanceMethod yX7_back, .selects "LoopRounds" yX7_back yX7_back, .methodLink "LoopRoundsLaw" 75 yX8_back, .code yX8_back cX8_back 2 (some .int), .instanceMethod yX8_back, .selects "LoopRoundsModel" yX8_back yX8_back, .methodLink "LoopRoundsLaw" 76 yX7_rings, .code yX7_rings cX7_rings 3 (some .int), .instanceMethod yX7_rings, .selects "LoopRounds" yX7_rings yX7_rings, .methodLink "LoopRoundsLaw" 80 yX8_rings]
set_option maxRecDepth 100000 in
theorem zw_15_in : ∀ w ∈ zw_15, w ∈ lw_tbl := zi_pool_in [987, 985, 986, 596, 599, 597, 598, 988, 991, 989, 990, 600, 603, 601, 602, 992] (by decide +kernel)
def zw_16 : List Cond := [.code yX8_rings cX8_rings 3 (some .int), .instanceMethod yX8_rings, .selects "LoopRoundsModel" yX8_rings yX8_rings, .methodLink "LoopRoundsLaw" 81 yX7_kinds, .code yX7_kinds cX7_kinds 5 (some .int), .instanceMethod yX7_kinds, .selects "LoopRounds" yX7_kinds yX7_kinds, .methodLink "LoopRoundsLaw" 84 yX8_kinds, .code yX8_kinds cX8_kinds 5 (some .int), .instanceMethod yX8_kinds, .selects "LoopRoundsModel" yX8_kinds yX8_kinds, .methodLink "LoopRoundsLaw" 85 yX7_signings, .code yX7_signings cX7_signings 6 (some .int), .instanceMethod yX7_signings, .selects "LoopRounds" yX7_signings yX7_signings, .methodLink "LoopRoundsLaw" 88 yX8_signings]
set_option maxRecDepth 100000 in
theorem zw_16_in : ∀ w ∈ zw_16, w ∈ lw_tbl := zi_pool_in [995, 993, 994, 614, 617, 615, 616, 1000, 1003, 1001, 1002, 618, 621, 619, 620, 1004] (by decide +kernel)
def zw_17 : List Cond := [.code yX8_signings cX8_signings 5 (some .int), .instanceMethod yX8_signings, .selects "LoopRoundsModel" yX8_signings yX8_signings, .methodLink "LoopRoundsLaw" 89 yX7_odds, .code yX7_odds cX7_odds 6 (some .long), .instanceMethod yX7_odds, .selects "LoopRounds" yX7_odds yX7_odds, .methodLink "LoopRoundsLaw" 92 yX8_odds, .code yX8_odds cX8_odds 5 (some .long), .instanceMethod yX8_odds, .selects "LoopRoundsModel" yX8_odds yX8_odds, .methodLink "LoopRoundsLaw" 93 yX7_sheet, .code yX7_sheet cX7_sheet 4 (some .int), .instanceMethod yX7_sheet, .selects "LoopRounds" yX7_sheet yX7_sheet, .methodLink "LoopRoundsLaw" 96 yX8_sheet]
set_option maxRecDepth 100000 in
theorem zw_17_in : ∀ w ∈ zw_17, w ∈ lw_tbl := zi_pool_in [1007, 1005, 1006, 622, 625, 623, 624, 1008, 1011, 1009, 1010, 629, 632, 630, 631, 1018] (by decide +kernel)
def zw_18 : List Cond := [.code yX8_sheet cX8_sheet 5 (some .int), .instanceMethod yX8_sheet, .selects "LoopRoundsModel" yX8_sheet yX8_sheet, .methodLink "LoopRoundsLaw" 97 yX7_lose, .code yX7_lose cX7_lose 3 (some .int), .instanceMethod yX7_lose, .selects "LoopRounds" yX7_lose yX7_lose, .methodLink "LoopRoundsLaw" 100 yX8_lose, .code yX8_lose cX8_lose 3 (some .int), .instanceMethod yX8_lose, .selects "LoopRoundsModel" yX8_lose yX8_lose, .methodLink "LoopRoundsLaw" 101 yX7_put, .code yX7_put cX7_put 5 (some .int), .instanceMethod yX7_put, .selects "LoopRounds" yX7_put yX7_put, .methodLink "LoopRoundsLaw" 104 yX8_put]
set_option maxRecDepth 100000 in
theorem zw_18_in : ∀ w ∈ zw_18, w ∈ lw_tbl := zi_pool_in [1021, 1019, 1020, 638, 641, 639, 640, 1022, 1025, 1023, 1024, 642, 645, 643, 644, 1026] (by decide +kernel)
def zw_19 : List Cond := [.code yX8_put cX8_put 4 (some .int), .instanceMethod yX8_put, .selects "LoopRoundsModel" yX8_put yX8_put, .methodLink "LoopRoundsLaw" 105 yX7_cell, .code yX7_cell cX7_cell 4 (some .long), .instanceMethod yX7_cell, .selects "LoopRounds" yX7_cell yX7_cell, .methodLink "LoopRoundsLaw" 109 yX8_cell, .code yX8_cell cX8_cell 4 (some .long), .instanceMethod yX8_cell, .selects "LoopRoundsModel" yX8_cell yX8_cell, .methodLink "LoopRoundsLaw" 110 yX7_copy, .code yX7_copy cX7_copy 8 (some .int), .instanceMethod yX7_copy, .selects "LoopRounds" yX7_copy yX7_copy, .methodLink "LoopRoundsLaw" 113 yX8_copy]
set_option maxRecDepth 100000 in
theorem zw_19_in : ∀ w ∈ zw_19, w ∈ lw_tbl := zi_pool_in [1029, 1027, 1028, 651, 654, 652, 653, 1030, 1033, 1031, 1032, 655, 658, 656, 657, 1038] (by decide +kernel)
def zw_20 : List Cond := [.code yX8_copy cX8_copy 10 (some .int), .instanceMethod yX8_copy, .selects "LoopRoundsModel" yX8_copy yX8_copy, .methodLink "LoopRoundsLaw" 114 yX7_tell, .code yX7_tell cX7_tell 3 (some .int), .instanceMethod yX7_tell, .selects "LoopRounds" yX7_tell yX7_tell, .methodLink "LoopRoundsLaw" 117 yX8_tell, .code yX8_tell cX8_tell 3 (some .int), .instanceMethod yX8_tell, .selects "LoopRoundsModel" yX8_tell yX8_tell, .methodLink "LoopRoundsLaw" 118 yX7_tug, .code yX7_tug cX7_tug 3 (some .int), .instanceMethod yX7_tug, .selects "LoopRounds" yX7_tug yX7_tug, .methodLink "LoopRoundsLaw" 121 yX8_tug]
set_option maxRecDepth 100000 in
theorem zw_20_in : ∀ w ∈ zw_20, w ∈ lw_tbl := zi_pool_in [1041, 1039, 1040, 660, 663, 661, 662, 1042, 1045, 1043, 1044, 680, 683, 681, 682, 1050] (by decide +kernel)
def zw_21 : List Cond := [.code yX8_tug cX8_tug 2 (some .int), .instanceMethod yX8_tug, .selects "LoopRoundsModel" yX8_tug yX8_tug, .methodLink "LoopRoundsLaw" 122 yX7_as, .code yX7_as cX7_as 4 (some .int), .instanceMethod yX7_as, .selects "LoopRounds" yX7_as yX7_as, .methodLink "LoopRoundsLaw" 125 yX8_as, .code yX8_as cX8_as 3 (some .int), .instanceMethod yX8_as, .selects "LoopRoundsModel" yX8_as yX8_as, .methodLink "LoopRoundsLaw" 126 yX7_trace, .code yX7_trace cX7_trace 1 (some .int), .instanceMethod yX7_trace, .selects "LoopRounds" yX7_trace yX7_trace, .methodLink "LoopRoundsLaw" 129 yX8_trace]
set_option maxRecDepth 100000 in
theorem zw_21_in : ∀ w ∈ zw_21, w ∈ lw_tbl := zi_pool_in [1053, 1051, 1052, 692, 695, 693, 694, 1054, 1057, 1055, 1056, 696, 699, 697, 698, 1058] (by decide +kernel)
def zw_22 : List Cond := [.code yX8_trace cX8_trace 1 (some .int), .instanceMethod yX8_trace, .selects "LoopRoundsModel" yX8_trace yX8_trace, .methodLink "LoopRoundsLaw" 130 yX7_fault, .code yX7_fault cX7_fault 1 (some .int), .instanceMethod yX7_fault, .selects "LoopRounds" yX7_fault yX7_fault, .methodLink "LoopRoundsLaw" 133 yX8_fault, .code yX8_fault cX8_fault 1 (some .int), .instanceMethod yX8_fault, .selects "LoopRoundsModel" yX8_fault yX8_fault, .methodLink "LoopRoundsLaw" 134 yX7_many, .code yX7_many cX7_many 2 (some .int), .instanceMethod yX7_many, .selects "LoopRounds" yX7_many yX7_many, .methodLink "LoopRoundsLaw" 137 yX8_many]
set_option maxRecDepth 100000 in
theorem zw_22_in : ∀ w ∈ zw_22, w ∈ lw_tbl := zi_pool_in [1061, 1059, 1060, 700, 703, 701, 702, 1062, 1065, 1063, 1064, 704, 707, 705, 706, 1066] (by decide +kernel)
def zw_23 : List Cond := [.code yX8_many cX8_many 4 (some .int), .instanceMethod yX8_many, .selects "LoopRoundsModel" yX8_many yX8_many, .fieldLink "LoopRounds$Layout" 28 "LoopRounds$Piece" "count" "I", .methodLink "LoopRounds$Layout" 34 yX1_at, .code yX1_at cX1_at 2 (some (.object "LoopRounds$Round")), .instanceMethod yX1_at, .selects "LoopRounds$Piece" yX1_at yX1_at, .methodLink "LoopRounds$Layout" 38 yX0_layRound, .code yX0_layRound cX0_layRound 9 none, .instanceMethod yX0_layRound, .selects "LoopRounds$Layout" yX0_layRound yX0_layRound, .methodLink "LoopRounds$Layout" 42 yJ7_fill_53178, .code yJ7_fill_53178 cJ7_fill_53178 4 none, .initialized "java/util/Arrays", .static yJ7_fill_53178]
set_option maxRecDepth 100000 in
theorem zw_23_in : ∀ w ∈ zw_23, w ∈ lw_tbl := zi_pool_in [1069, 1067, 1068, 129, 422, 363, 361, 362, 423, 426, 424, 425, 427, 429, 63, 428] (by decide +kernel)
def zw_24 : List Cond := [.fieldLink "LoopRounds$Layout" 48 "LoopRounds$Round" "times" "I", .fieldLink "LoopRounds$Layout" 53 "LoopRounds$Round" "signCount" "I", .fieldLink "LoopRounds$Layout" 56 "LoopRounds$Round" "signs" "[I", .fieldLinkNest "LoopRounds$Layout" 60 "LoopRounds" "MAKES" "[I" "LoopRounds", .methodLink "LoopRounds$Layout" 63 yX0_layLoop, .code yX0_layLoop cX0_layLoop 7 none, .instanceMethod yX0_layLoop, .selects "LoopRounds$Layout" yX0_layLoop yX0_layLoop, .fieldLinkNest "LoopRounds$Layout" 67 "LoopRounds" "USES" "[I" "LoopRounds", .methodLink "LoopRounds$Piece" 29 yX1_has, .code yX1_has cX1_has 2 (some .boolean), .instanceMethod yX1_has, .selects "LoopRounds$Piece" yX1_has yX1_has, .methodLink "LoopRounds$Piece" 33 yX1_spare, .code yX1_spare cX1_spare 1 (some (.object "LoopRounds$Round")), .instanceMethod yX1_spare]
set_option maxRecDepth 100000 in
theorem zw_24_in : ∀ w ∈ zw_24, w ∈ lw_tbl := zi_pool_in [101, 95, 99, 430, 431, 434, 433, 10, 435, 364, 367, 365, 366, 503, 348, 346] (by decide +kernel)
def zw_25 : List Cond := [.selects "LoopRounds$Piece" yX1_spare yX1_spare, .methodLink "LoopRounds$Piece" 37 yX1_loopsIn, .code yX1_loopsIn cX1_loopsIn 2 (some .int), .instanceMethod yX1_loopsIn, .selects "LoopRounds$Piece" yX1_loopsIn yX1_loopsIn, .methodLink "LoopRounds$Piece" 41 yX4_comesOutUpon, .code yX4_comesOutUpon cX4_comesOutUpon 5 (some .boolean), .instanceMethod yX4_comesOutUpon, .selects "LoopRounds$Round" yX4_comesOutUpon yX4_comesOutUpon, .methodLink "LoopRounds$Piece" 44 yX4_become, .code yX4_become cX4_become 2 none, .instanceMethod yX4_become, .selects "LoopRounds$Round" yX4_become yX4_become, .fieldLink "LoopRounds$Piece" 48 "LoopRounds$Round" "loopCount" "I", .methodLink "LoopRounds$Piece" 51 yX4_wide, .code yX4_wide cX4_wide 1 (some .int)]
set_option maxRecDepth 100000 in
theorem zw_25_in : ∀ w ∈ zw_25, w ∈ lw_tbl := zi_pool_in [347, 394, 397, 395, 396, 398, 401, 399, 400, 411, 414, 412, 413, 106, 454, 444] (by decide +kernel)
def zw_26 : List Cond := [.instanceMethod yX4_wide, .selects "LoopRounds$Round" yX4_wide yX4_wide, .methodLink "LoopRounds$Piece" 55 yX1_at, .methodLink "LoopRounds$Piece" 59 yX4_girth, .code yX4_girth cX4_girth 1 (some .int), .instanceMethod yX4_girth, .selects "LoopRounds$Round" yX4_girth yX4_girth, .methodLink "LoopRounds$Piece" 62 yX1_outOf, .code yX1_outOf cX1_outOf 4 (some .int), .instanceMethod yX1_outOf, .selects "LoopRounds$Piece" yX1_outOf yX1_outOf, .methodLink "LoopRounds$Piece" 65 yX1_ravelsLast, .code yX1_ravelsLast cX1_ravelsLast 1 (some .boolean), .instanceMethod yX1_ravelsLast, .selects "LoopRounds$Piece" yX1_ravelsLast yX1_ravelsLast, .methodLink "LoopRounds$Piece" 69 yX1_spinsMore]
set_option maxRecDepth 100000 in
theorem zw_26_in : ∀ w ∈ zw_26, w ∈ lw_tbl := zi_pool_in [442, 443, 459, 460, 448, 446, 447, 461, 453, 451, 452, 527, 530, 529, 12, 531] (by decide +kernel)
def zw_27 : List Cond := [.code yX1_spinsMore cX1_spinsMore 3 (some .boolean), .instanceMethod yX1_spinsMore, .selects "LoopRounds$Piece" yX1_spinsMore yX1_spinsMore, .methodLink "LoopRounds$Piece" 72 yX1_putsOnAlone, .code yX1_putsOnAlone cX1_putsOnAlone 3 (some .boolean), .instanceMethod yX1_putsOnAlone, .selects "LoopRounds$Piece" yX1_putsOnAlone yX1_putsOnAlone, .fieldLink "LoopRounds$Piece" 75 "LoopRounds$Round" "spun" "I", .methodLink "LoopRounds$Piece" 78 yX4_begin, .code yX4_begin cX4_begin 3 none, .instanceMethod yX4_begin, .selects "LoopRounds$Round" yX4_begin yX4_begin, .methodLink "LoopRounds$Piece" 82 yX4_addSign, .code yX4_addSign cX4_addSign 2 (some .boolean), .instanceMethod yX4_addSign, .selects "LoopRounds$Round" yX4_addSign yX4_addSign]
set_option maxRecDepth 100000 in
theorem zw_27_in : ∀ w ∈ zw_27, w ∈ lw_tbl := zi_pool_in [534, 533, 13, 535, 538, 537, 14, 93, 539, 352, 350, 351, 540, 385, 383, 384] (by decide +kernel)
def zw_28 : List Cond := [.methodLink "LoopRounds$Piece" 85 yX1_takesSpare, .code yX1_takesSpare cX1_takesSpare 2 (some .boolean), .instanceMethod yX1_takesSpare, .selects "LoopRounds$Piece" yX1_takesSpare yX1_takesSpare, .methodLinkNest "LoopRounds$Plans" 48 yX7_isNoLoopCount "LoopRounds", .code yX7_isNoLoopCount cX7_isNoLoopCount 1 (some .boolean), .static yX7_isNoLoopCount, .methodLink "LoopRounds$Plans" 52 yJ7_fill_53178, .methodLink "LoopRounds$Plans" 58 yX2_goOnFrom, .code yX2_goOnFrom cX2_goOnFrom 6 (some .int), .instanceMethod yX2_goOnFrom, .selects "LoopRounds$Plans" yX2_goOnFrom yX2_goOnFrom, .methodLinkNest "LoopRounds$Plans" 62 yX7_loopsUpon "LoopRounds", .code yX7_loopsUpon cX7_loopsUpon 4 (some .int), .static yX7_loopsUpon, .methodLink "LoopRounds$Plans" 66 yJ7_fill_d0a16]
set_option maxRecDepth 100000 in
theorem zw_28_in : ∀ w ∈ zw_28, w ∈ lw_tbl := zi_pool_in [541, 502, 500, 501, 557, 552, 551, 558, 559, 562, 561, 16, 563, 406, 405, 577] (by decide +kernel)
def zw_29 : List Cond := [.code yJ7_fill_d0a16 cJ7_fill_d0a16 5 none, .static yJ7_fill_d0a16, .methodLink "LoopRounds$Plans" 69 yX2_addWays, .code yX2_addWays cX2_addWays 7 none, .instanceMethod yX2_addWays, .selects "LoopRounds$Plans" yX2_addWays yX2_addWays, .methodLink "LoopRounds$Readings" 22 yX1_at, .methodLink "LoopRounds$Readings" 28 yX4_girth, .fieldLink "LoopRounds$Round" 15 "LoopRounds$Round" "kind" "I", .fieldLink "LoopRounds$Round" 19 "LoopRounds$Round" "spun" "I", .fieldLink "LoopRounds$Round" 22 "LoopRounds$Round" "signCount" "I", .methodLink "LoopRounds$Round" 25 arraycopyName, .native arraycopyName, .static arraycopyName, .initialized "java/lang/System", .fieldLink "LoopRounds$Round" 31 "LoopRounds$Round" "times" "I"]
set_option maxRecDepth 100000 in
theorem zw_29_in : ∀ w ∈ zw_29, w ∈ lw_tbl := zi_pool_in [579, 578, 580, 583, 582, 17, 612, 613, 87, 90, 94, 415, 417, 416, 62, 103] (by decide +kernel)
def zw_30 : List Cond := [.fieldLink "LoopRounds$Round" 34 "LoopRounds$Round" "loopCount" "I", .fieldLinkNest "LoopRounds$Round" 37 "LoopRounds" "USES" "[I" "LoopRounds", .fieldLinkNest "LoopRounds$Round" 40 "LoopRounds" "MAKES" "[I" "LoopRounds", .methodLinkNest "LoopRounds$Round" 43 yX7_loopsUpon "LoopRounds", .methodLink "LoopRounds$Round" 47 yX4_wide, .methodLink "LoopRounds$Sheet" 26 yJ7_fill_53178, .methodLink "LoopRounds$Sheet" 32 yX5_lacks, .code yX5_lacks cX5_lacks 3 (some .boolean), .instanceMethod yX5_lacks, .selects "LoopRounds$Sheet" yX5_lacks yX5_lacks, .fieldLink "LoopRounds$Text" 22 "LoopRounds$Piece" "begun" "Z", .fieldLink "LoopRounds$Text" 26 "LoopRounds$Piece" "count" "I", .methodLink "LoopRounds$Text" 29 yX5_at, .code yX5_at cX5_at 2 (some .int), .instanceMethod yX5_at, .selects "LoopRounds$Sheet" yX5_at yX5_at]
set_option maxRecDepth 100000 in
theorem zw_30_in : ∀ w ∈ zw_30, w ∈ lw_tbl := zi_pool_in [105, 402, 403, 404, 449, 637, 313, 316, 314, 315, 122, 128, 325, 328, 326, 327] (by decide +kernel)
def zw_31 : List Cond := [.methodLink "LoopRounds$Text" 35 yX6_takes, .code yX6_takes cX6_takes 2 (some .boolean), .instanceMethod yX6_takes, .selects "LoopRounds$Text" yX6_takes yX6_takes, .methodLink "LoopRounds$Text" 39 yX6_mayEnd, .code yX6_mayEnd cX6_mayEnd 2 (some .boolean), .instanceMethod yX6_mayEnd, .selects "LoopRounds$Text" yX6_mayEnd yX6_mayEnd, .methodLink "LoopRounds$Text" 43 yX6_goesOn, .code yX6_goesOn cX6_goesOn 3 (some .boolean), .instanceMethod yX6_goesOn, .selects "LoopRounds$Text" yX6_goesOn yX6_goesOn, .methodLink "LoopRounds$Text" 47 yX6_takesRing, .code yX6_takesRing cX6_takesRing 2 (some .boolean), .instanceMethod yX6_takesRing, .selects "LoopRounds$Text" yX6_takesRing yX6_takesRing]
set_option maxRecDepth 100000 in
theorem zw_31_in : ∀ w ∈ zw_31, w ∈ lw_tbl := zi_pool_in [329, 332, 331, 2, 386, 389, 388, 9, 333, 336, 335, 3, 337, 340, 339, 4] (by decide +kernel)
def zw_32 : List Cond := [.methodLink "LoopRounds$Text" 50 yX6_takesRound, .code yX6_takesRound cX6_takesRound 3 (some .boolean), .instanceMethod yX6_takesRound, .selects "LoopRounds$Text" yX6_takesRound yX6_takesRound, .methodLink "LoopRounds$Text" 53 yX6_kindOf, .code yX6_kindOf cX6_kindOf 1 (some .int), .static yX6_kindOf, .methodLink "LoopRounds$Text" 56 yX6_takesKind, .code yX6_takesKind cX6_takesKind 3 (some .boolean), .instanceMethod yX6_takesKind, .selects "LoopRounds$Text" yX6_takesKind yX6_takesKind, .methodLink "LoopRounds$Text" 59 yX6_takesSpun, .code yX6_takesSpun cX6_takesSpun 3 (some .boolean), .instanceMethod yX6_takesSpun, .selects "LoopRounds$Text" yX6_takesSpun yX6_takesSpun, .methodLink "LoopRounds$Text" 62 yX6_takesSign]
set_option maxRecDepth 100000 in
theorem zw_32_in : ∀ w ∈ zw_32, w ∈ lw_tbl := zi_pool_in [341, 344, 343, 5, 353, 355, 354, 356, 359, 358, 6, 368, 371, 370, 7, 375] (by decide +kernel)
def zw_33 : List Cond := [.code yX6_takesSign cX6_takesSign 4 (some .boolean), .instanceMethod yX6_takesSign, .selects "LoopRounds$Text" yX6_takesSign yX6_takesSign, .methodLink "LoopRounds$Text" 65 yX1_at, .fieldLink "LoopRounds$Text" 68 "LoopRounds$Round" "signCount" "I", .fieldLink "LoopRounds$Text" 73 "LoopRounds$Piece" "ring" "I", .methodLink "LoopRounds$Text" 76 yX1_spare, .methodLink "LoopRounds$Text" 80 yX4_begin, .fieldLink "LoopRounds$Text" 84 "LoopRounds$Round" "kind" "I", .methodLinkNest "LoopRounds$Text" 87 yX7_isNoSpun "LoopRounds", .code yX7_isNoSpun cX7_isNoSpun 1 (some .boolean), .static yX7_isNoSpun, .fieldLink "LoopRounds$Text" 90 "LoopRounds$Round" "spun" "I", .methodLink "LoopRounds$Text" 93 yX6_signOf, .code yX6_signOf cX6_signOf 1 (some .int), .static yX6_signOf]
set_option maxRecDepth 100000 in
theorem zw_33_in : ∀ w ∈ zw_33, w ∈ lw_tbl := zi_pool_in [378, 377, 8, 360, 97, 125, 345, 349, 89, 372, 374, 373, 92, 379, 381, 380] (by decide +kernel)
def zw_34 : List Cond := [.methodLink "LoopRounds$Text" 96 yX4_addSign, .methodLink "LoopRounds" 63 yX7_isNoSheet, .code yX7_isNoSheet cX7_isNoSheet 1 (some .boolean), .static yX7_isNoSheet, .methodLink "LoopRounds" 67 yX7_refused, .code yX7_refused cX7_refused 2 (some .int), .instanceMethod yX7_refused, .selects "LoopRounds" yX7_refused yX7_refused, .methodLink "LoopRounds" 71 yX7_isNoLane, .code yX7_isNoLane cX7_isNoLane 1 (some .boolean), .static yX7_isNoLane, .methodLink "LoopRounds" 74 yX5_faultOfTaking, .code yX5_faultOfTaking cX5_faultOfTaking 4 (some .int), .instanceMethod yX5_faultOfTaking, .selects "LoopRounds$Sheet" yX5_faultOfTaking yX5_faultOfTaking, .methodLink "LoopRounds" 78 yX7_faulted]
set_option maxRecDepth 100000 in
theorem zw_34_in : ∀ w ∈ zw_34, w ∈ lw_tbl := zi_pool_in [382, 299, 301, 300, 302, 305, 304, 0, 306, 308, 307, 309, 312, 310, 311, 317] (by decide +kernel)
def zw_35 : List Cond := [.code yX7_faulted cX7_faulted 2 (some .int), .instanceMethod yX7_faulted, .selects "LoopRounds" yX7_faulted yX7_faulted, .methodLink "LoopRounds" 81 yX6_firstFault, .code yX6_firstFault cX6_firstFault 5 (some .int), .instanceMethod yX6_firstFault, .selects "LoopRounds$Text" yX6_firstFault yX6_firstFault, .fieldLink "LoopRounds" 85 "LoopRounds$Text" "told" "LLoopRounds$Piece;", .methodLink "LoopRounds" 88 yX1_firstNotOut, .code yX1_firstNotOut cX1_firstNotOut 2 (some .int), .instanceMethod yX1_firstNotOut, .selects "LoopRounds$Piece" yX1_firstNotOut yX1_firstNotOut, .methodLink "LoopRounds" 92 yX1_become, .code yX1_become cX1_become 3 none, .instanceMethod yX1_become, .selects "LoopRounds$Piece" yX1_become yX1_become]
set_option maxRecDepth 100000 in
theorem zw_35_in : ∀ w ∈ zw_35, w ∈ lw_tbl := zi_pool_in [320, 319, 1, 321, 324, 322, 323, 150, 390, 393, 391, 392, 407, 410, 408, 409] (by decide +kernel)
def zw_36 : List Cond := [.fieldLink "LoopRounds" 96 "LoopRounds$Readings" "count" "I", .methodLink "LoopRounds" 99 yX0_layAll, .code yX0_layAll cX0_layAll 3 none, .instanceMethod yX0_layAll, .selects "LoopRounds$Layout" yX0_layAll yX0_layAll, .fieldLink "LoopRounds" 102 "LoopRounds$Piece" "count" "I", .methodLink "LoopRounds" 103 yX1_at, .fieldLink "LoopRounds" 107 "LoopRounds$Round" "kind" "I", .fieldLink "LoopRounds" 112 "LoopRounds$Round" "spun" "I", .methodLink "LoopRounds" 115 yX4_wide, .fieldLink "LoopRounds" 118 "LoopRounds$Round" "signCount" "I", .fieldLink "LoopRounds" 121 "LoopRounds$Round" "loopCount" "I", .fieldLink "LoopRounds" 124 "LoopRounds$Round" "times" "I", .methodLink "LoopRounds" 127 yX4_girth, .methodLink "LoopRounds" 130 yX1_outOf, .methodLink "LoopRounds" 133 yX1_curlOf]
set_option maxRecDepth 100000 in
theorem zw_36_in : ∀ w ∈ zw_36, w ∈ lw_tbl := zi_pool_in [193, 418, 421, 419, 420, 130, 440, 88, 91, 441, 96, 104, 102, 445, 450, 455] (by decide +kernel)
def zw_37 : List Cond := [.code yX1_curlOf cX1_curlOf 4 (some .int), .instanceMethod yX1_curlOf, .selects "LoopRounds$Piece" yX1_curlOf yX1_curlOf, .methodLink "LoopRounds" 136 yX1_has, .methodLink "LoopRounds" 139 yX1_loopsIn, .methodLink "LoopRounds" 142 yX4_hasPlace, .code yX4_hasPlace cX4_hasPlace 2 (some .boolean), .instanceMethod yX4_hasPlace, .selects "LoopRounds$Round" yX4_hasPlace yX4_hasPlace, .fieldLink "LoopRounds" 145 "LoopRounds$Round" "signs" "[I", .fieldLink "LoopRounds" 149 "LoopRounds$Layout" "bySign" "[[I", .fieldLink "LoopRounds" 153 "LoopRounds$Layout" "first" "[[I", .fieldLink "LoopRounds" 156 "LoopRounds$Layout" "last" "[[I", .fieldLink "LoopRounds" 159 "LoopRounds$Layout" "above" "[[I", .fieldLink "LoopRounds" 162 "LoopRounds$Layout" "roots" "[[I", .methodLink "LoopRounds" 165 yX7_isNoSpun]
set_option maxRecDepth 100000 in
theorem zw_37_in : ∀ w ∈ zw_37, w ∈ lw_tbl := zi_pool_in [458, 456, 457, 466, 467, 472, 475, 473, 474, 100, 166, 168, 170, 174, 172, 484] (by decide +kernel)
def zw_38 : List Cond := [.methodLink "LoopRounds" 168 yX7_isNoKind, .code yX7_isNoKind cX7_isNoKind 1 (some .boolean), .static yX7_isNoKind, .fieldLink "LoopRounds" 171 "LoopRounds$Piece" "begun" "Z", .methodLink "LoopRounds" 175 yX7_areSigns, .code yX7_areSigns cX7_areSigns 5 (some .boolean), .static yX7_areSigns, .methodLink "LoopRounds" 179 yX1_spare, .methodLink "LoopRounds" 183 yX4_begin, .methodLink "LoopRounds" 187 yX5_at, .methodLink "LoopRounds" 189 yX4_addSign, .methodLink "LoopRounds" 192 yX1_takesSpare, .methodLink "LoopRounds" 196 yX0_layRound, .methodLink "LoopRounds" 200 yX7_isNothingOfDay, .code yX7_isNothingOfDay cX7_isNothingOfDay 1 (some .boolean), .static yX7_isNothingOfDay]
set_option maxRecDepth 100000 in
theorem zw_38_in : ∀ w ∈ zw_38, w ∈ lw_tbl := zi_pool_in [489, 491, 490, 123, 492, 494, 493, 496, 497, 495, 498, 499, 504, 513, 515, 514] (by decide +kernel)
def zw_39 : List Cond := [.methodLink "LoopRounds" 203 yX7_areActs, .code yX7_areActs cX7_areActs 5 (some .boolean), .static yX7_areActs, .methodLink "LoopRounds" 206 yX7_firstWrong, .code yX7_firstWrong cX7_firstWrong 5 (some .int), .instanceMethod yX7_firstWrong, .selects "LoopRounds" yX7_firstWrong yX7_firstWrong, .methodLink "LoopRounds" 209 yX7_ofTrialDay, .code yX7_ofTrialDay cX7_ofTrialDay 3 (some .int), .instanceMethod yX7_ofTrialDay, .selects "LoopRounds" yX7_ofTrialDay yX7_ofTrialDay, .methodLink "LoopRounds" 212 yX7_isNoLoopCount, .methodLink "LoopRounds" 215 yX2_searchFrom, .code yX2_searchFrom cX2_searchFrom 4 none, .instanceMethod yX2_searchFrom, .selects "LoopRounds$Plans" yX2_searchFrom yX2_searchFrom]
set_option maxRecDepth 100000 in
theorem zw_39_in : ∀ w ∈ zw_39, w ∈ lw_tbl := zi_pool_in [516, 518, 517, 519, 522, 521, 11, 542, 545, 544, 15, 550, 553, 556, 554, 555] (by decide +kernel)
def zw_40 : List Cond := [.fieldLink "LoopRounds" 219 "LoopRounds$Plans" "rounds" "[I", .methodLink "LoopRounds" 222 yX2_planTo, .code yX2_planTo cX2_planTo 5 (some .int), .instanceMethod yX2_planTo, .selects "LoopRounds$Plans" yX2_planTo yX2_planTo, .constantLong "LoopRounds" 226 (-9223372036854775808), .methodLink "LoopRounds" 228 yX2_countFrom, .code yX2_countFrom cX2_countFrom 4 none, .instanceMethod yX2_countFrom, .selects "LoopRounds$Plans" yX2_countFrom yX2_countFrom, .fieldLink "LoopRounds" 231 "LoopRounds$Plans" "waysTo" "[[J", .methodLink "LoopRounds" 235 yX3_add, .code yX3_add cX3_add 3 (some .boolean), .instanceMethod yX3_add, .selects "LoopRounds$Readings" yX3_add yX3_add, .fieldLink "LoopRounds" 239 "LoopRounds$Piece" "ring" "I"]
set_option maxRecDepth 100000 in
theorem zw_40_in : ∀ w ∈ zw_40, w ∈ lw_tbl := zi_pool_in [220, 564, 567, 565, 566, 572, 573, 576, 574, 575, 225, 592, 595, 593, 594, 126] (by decide +kernel)
def zw_41 : List Cond := [.methodLink "LoopRounds" 242 yX7_bitIfTrialCanBe, .code yX7_bitIfTrialCanBe cX7_bitIfTrialCanBe 2 (some .int), .instanceMethod yX7_bitIfTrialCanBe, .selects "LoopRounds" yX7_bitIfTrialCanBe yX7_bitIfTrialCanBe, .methodLink "LoopRounds" 245 yX7_inLeastTerms, .code yX7_inLeastTerms cX7_inLeastTerms 3 (some .int), .static yX7_inLeastTerms, .methodLink "LoopRounds" 248 yX5_lay, .code yX5_lay cX5_lay 3 none, .instanceMethod yX5_lay, .selects "LoopRounds$Sheet" yX5_lay yX5_lay, .fieldLink "LoopRounds" 251 "LoopRounds$Sheet" "filled" "Z", .methodLink "LoopRounds" 254 yX5_lacks, .fieldLink "LoopRounds" 257 "LoopRounds$Sheet" "cells" "[I", .methodLink "LoopRounds" 260 yX5_cut, .code yX5_cut cX5_cut 2 (some .int)]
set_option maxRecDepth 100000 in
theorem zw_41_in : ∀ w ∈ zw_41, w ∈ lw_tbl := zi_pool_in [604, 607, 606, 18, 626, 628, 627, 633, 636, 634, 635, 252, 646, 257, 647, 650] (by decide +kernel)
def zw_42 : List Cond := [.instanceMethod yX5_cut, .selects "LoopRounds$Sheet" yX5_cut yX5_cut, .fieldLink "LoopRounds" 263 "LoopRounds$Sheet" "lane" "I", .methodLink "LoopRounds" 266 arraycopyName, .methodLink "LoopRounds" 272 yX7_tellTwined, .code yX7_tellTwined cX7_tellTwined 3 (some .int), .instanceMethod yX7_tellTwined, .selects "LoopRounds" yX7_tellTwined yX7_tellTwined, .methodLink "LoopRounds" 275 yX7_tellBrushed, .code yX7_tellBrushed cX7_tellBrushed 2 (some .int), .instanceMethod yX7_tellBrushed, .selects "LoopRounds" yX7_tellBrushed yX7_tellBrushed, .methodLink "LoopRounds" 278 yX7_tellPlain, .code yX7_tellPlain cX7_tellPlain 2 (some .int), .instanceMethod yX7_tellPlain, .selects "LoopRounds" yX7_tellPlain yX7_tellPlain]
set_option maxRecDepth 100000 in
theorem zw_42_in : ∀ w ∈ zw_42, w ∈ lw_tbl := zi_pool_in [648, 649, 254, 659, 664, 667, 666, 19, 672, 675, 674, 21, 676, 679, 678, 22] (by decide +kernel)
def zw_43 : List Cond := [.methodLink "LoopRounds" 281 yX7_tugTwined, .code yX7_tugTwined cX7_tugTwined 1 (some .int), .instanceMethod yX7_tugTwined, .selects "LoopRounds" yX7_tugTwined yX7_tugTwined, .methodLink "LoopRounds" 284 yX7_tugLent, .code yX7_tugLent cX7_tugLent 2 (some .int), .instanceMethod yX7_tugLent, .selects "LoopRounds" yX7_tugLent yX7_tugLent, .methodLink "LoopRounds" 287 yX1_loopsInAll, .code yX1_loopsInAll cX1_loopsInAll 3 (some .int), .instanceMethod yX1_loopsInAll, .selects "LoopRounds$Piece" yX1_loopsInAll yX1_loopsInAll, .methodLink "LoopRounds" 290 yX1_doesAct, .code yX1_doesAct cX1_doesAct 2 (some .boolean), .instanceMethod yX1_doesAct, .selects "LoopRounds$Piece" yX1_doesAct yX1_doesAct]
set_option maxRecDepth 100000 in
theorem zw_43_in : ∀ w ∈ zw_43, w ∈ lw_tbl := zi_pool_in [684, 687, 686, 23, 688, 691, 690, 24, 708, 711, 709, 710, 523, 526, 524, 525] (by decide +kernel)
def zw_44 : List Cond := [.methodLink "LoopRounds" 293 yX3_areSo, .code yX3_areSo cX3_areSo 4 (some .boolean), .instanceMethod yX3_areSo, .selects "LoopRounds$Readings" yX3_areSo yX3_areSo, .methodLink "LoopRounds" 297 yX7_leaveInTrace, .code yX7_leaveInTrace cX7_leaveInTrace 2 none, .instanceMethod yX7_leaveInTrace, .selects "LoopRounds" yX7_leaveInTrace yX7_leaveInTrace, .fieldLink "LoopRoundsModel" 86 "LoopRoundsModel" "fault" "I", .constantLong "LoopRoundsModel" 90 (-9223372036854775808), .methodLink "LoopRoundsModel" 92 yX8_within, .code yX8_within cX8_within 3 (some .boolean), .static yX8_within, .fieldLink "LoopRoundsModel" 96 "LoopRoundsModel" "rounds" "I", .fieldLink "LoopRoundsModel" 99 "LoopRoundsModel" "at" "I", .methodLink "LoopRoundsModel" 102 yX8_isSheet]
set_option maxRecDepth 100000 in
theorem zw_44_in : ∀ w ∈ zw_44, w ∈ lw_tbl := zi_pool_in [608, 611, 609, 610, 668, 671, 670, 20, 718, 979, 825, 827, 826, 723, 729, 822] (by decide +kernel)
def zw_45 : List Cond := [.code yX8_isSheet cX8_isSheet 1 (some .boolean), .static yX8_isSheet, .methodLink "LoopRoundsModel" 106 yX8_isSort, .code yX8_isSort cX8_isSort 1 (some .boolean), .static yX8_isSort, .methodLink "LoopRoundsModel" 109 yX8_against, .code yX8_against cX8_against 5 (some .int), .instanceMethod yX8_against, .selects "LoopRoundsModel" yX8_against yX8_against, .methodLink "LoopRoundsModel" 113 yX8_fails, .code yX8_fails cX8_fails 2 (some .int), .instanceMethod yX8_fails, .selects "LoopRoundsModel" yX8_fails yX8_fails, .methodLink "LoopRoundsModel" 117 yX8_readPiece, .code yX8_readPiece cX8_readPiece 2 (some .boolean), .instanceMethod yX8_readPiece]
set_option maxRecDepth 100000 in
theorem zw_45_in : ∀ w ∈ zw_45, w ∈ lw_tbl := zi_pool_in [824, 823, 828, 830, 829, 831, 834, 833, 25, 835, 838, 837, 26, 839, 842, 841] (by decide +kernel)
def zw_46 : List Cond := [.selects "LoopRoundsModel" yX8_readPiece yX8_readPiece, .fieldLink "LoopRoundsModel" 120 "LoopRoundsModel" "readRing" "I", .fieldLink "LoopRoundsModel" 123 "LoopRoundsModel" "readRounds" "I", .methodLink "LoopRoundsModel" 126 yX8_comesOut, .code yX8_comesOut cX8_comesOut 7 (some .int), .static yX8_comesOut, .methodLink "LoopRoundsModel" 130 yX8_takePiece, .code yX8_takePiece cX8_takePiece 3 none, .instanceMethod yX8_takePiece, .selects "LoopRoundsModel" yX8_takePiece yX8_takePiece, .fieldLink "LoopRoundsModel" 133 "LoopRoundsModel" "readings" "I", .methodLink "LoopRoundsModel" 136 yX8_isSign, .code yX8_isSign cX8_isSign 3 (some .boolean), .instanceMethod yX8_isSign, .selects "LoopRoundsModel" yX8_isSign yX8_isSign, .methodLink "LoopRoundsModel" 140 yX8_digit]
set_option maxRecDepth 100000 in
theorem zw_46_in : ∀ w ∈ zw_46, w ∈ lw_tbl := zi_pool_in [27, 731, 730, 858, 860, 859, 867, 870, 869, 31, 748, 843, 846, 845, 28, 847] (by decide +kernel)
def zw_47 : List Cond := [.code yX8_digit cX8_digit 4 (some .int), .instanceMethod yX8_digit, .selects "LoopRoundsModel" yX8_digit yX8_digit, .methodLink "LoopRoundsModel" 144 yX8_readRound, .code yX8_readRound cX8_readRound 4 (some .boolean), .instanceMethod yX8_readRound, .selects "LoopRoundsModel" yX8_readRound yX8_readRound, .methodLink "LoopRoundsModel" 147 yX8_signBy, .code yX8_signBy cX8_signBy 1 (some .int), .static yX8_signBy, .methodLink "LoopRoundsModel" 150 yX8_usedBy, .code yX8_usedBy cX8_usedBy 1 (some .int), .static yX8_usedBy, .methodLink "LoopRoundsModel" 153 yX8_madeBy, .code yX8_madeBy cX8_madeBy 1 (some .int), .static yX8_madeBy]
set_option maxRecDepth 100000 in
theorem zw_47_in : ∀ w ∈ zw_47, w ∈ lw_tbl := zi_pool_in [850, 849, 29, 851, 854, 853, 30, 855, 857, 856, 861, 863, 862, 864, 866, 865] (by decide +kernel)
def zw_48 : List Cond := [.methodLink "LoopRoundsModel" 156 yX8_wideOf, .code yX8_wideOf cX8_wideOf 2 (some .int), .instanceMethod yX8_wideOf, .selects "LoopRoundsModel" yX8_wideOf yX8_wideOf, .methodLink "LoopRoundsModel" 159 yX8_girthOf, .code yX8_girthOf cX8_girthOf 2 (some .int), .instanceMethod yX8_girthOf, .selects "LoopRoundsModel" yX8_girthOf yX8_girthOf, .methodLink "LoopRoundsModel" 162 yX8_outOf, .code yX8_outOf cX8_outOf 4 (some .int), .instanceMethod yX8_outOf, .selects "LoopRoundsModel" yX8_outOf yX8_outOf, .methodLink "LoopRoundsModel" 165 yX8_isRound, .code yX8_isRound cX8_isRound 2 (some .boolean), .instanceMethod yX8_isRound, .selects "LoopRoundsModel" yX8_isRound yX8_isRound]
set_option maxRecDepth 100000 in
theorem zw_48_in : ∀ w ∈ zw_48, w ∈ lw_tbl := zi_pool_in [879, 882, 881, 33, 887, 890, 889, 35, 891, 894, 893, 36, 875, 878, 877, 32] (by decide +kernel)
def zw_49 : List Cond := [.methodLink "LoopRoundsModel" 168 yX8_timesOf, .code yX8_timesOf cX8_timesOf 4 (some .int), .instanceMethod yX8_timesOf, .selects "LoopRoundsModel" yX8_timesOf yX8_timesOf, .methodLink "LoopRoundsModel" 171 yX8_curlOf, .code yX8_curlOf cX8_curlOf 3 (some .int), .instanceMethod yX8_curlOf, .selects "LoopRoundsModel" yX8_curlOf yX8_curlOf, .methodLink "LoopRoundsModel" 174 yX8_isPiece, .code yX8_isPiece cX8_isPiece 1 (some .boolean), .instanceMethod yX8_isPiece, .selects "LoopRoundsModel" yX8_isPiece yX8_isPiece, .methodLink "LoopRoundsModel" 178 yX8_writeLoop, .code yX8_writeLoop cX8_writeLoop 8 none, .instanceMethod yX8_writeLoop, .selects "LoopRoundsModel" yX8_writeLoop yX8_writeLoop]
set_option maxRecDepth 100000 in
theorem zw_49_in : ∀ w ∈ zw_49, w ∈ lw_tbl := zi_pool_in [883, 886, 885, 34, 895, 898, 897, 37, 903, 906, 905, 38, 919, 922, 921, 40] (by decide +kernel)
def zw_50 : List Cond := [.methodLink "LoopRoundsModel" 182 yX8_findLoops, .code yX8_findLoops cX8_findLoops 9 none, .instanceMethod yX8_findLoops, .selects "LoopRoundsModel" yX8_findLoops yX8_findLoops, .methodLink "LoopRoundsModel" 185 yX8_putRound, .code yX8_putRound cX8_putRound 5 none, .instanceMethod yX8_putRound, .selects "LoopRoundsModel" yX8_putRound yX8_putRound, .fieldLink "LoopRoundsModel" 188 "LoopRoundsModel" "keptRounds" "I", .methodLink "LoopRoundsModel" 191 yX8_does, .code yX8_does cX8_does 3 (some .boolean), .instanceMethod yX8_does, .selects "LoopRoundsModel" yX8_does yX8_does, .methodLink "LoopRoundsModel" 194 yX8_keep, .code yX8_keep cX8_keep 3 none, .instanceMethod yX8_keep]
set_option maxRecDepth 100000 in
theorem zw_50_in : ∀ w ∈ zw_50, w ∈ lw_tbl := zi_pool_in [915, 918, 917, 39, 931, 934, 933, 41, 741, 951, 954, 953, 44, 943, 946, 945] (by decide +kernel)
def zw_51 : List Cond := [.selects "LoopRoundsModel" yX8_keep yX8_keep, .methodLink "LoopRoundsModel" 197 yX8_goDay, .code yX8_goDay cX8_goDay 4 (some .int), .instanceMethod yX8_goDay, .selects "LoopRoundsModel" yX8_goDay yX8_goDay, .methodLink "LoopRoundsModel" 201 yX8_tellDay, .code yX8_tellDay cX8_tellDay 2 (some .int), .instanceMethod yX8_tellDay, .selects "LoopRoundsModel" yX8_tellDay yX8_tellDay, .methodLink "LoopRoundsModel" 204 yX8_putBack, .code yX8_putBack cX8_putBack 3 none, .instanceMethod yX8_putBack, .selects "LoopRoundsModel" yX8_putBack yX8_putBack, .methodLink "LoopRoundsModel" 207 yX8_comesByPlan, .code yX8_comesByPlan cX8_comesByPlan 3 (some .int), .instanceMethod yX8_comesByPlan]
set_option maxRecDepth 100000 in
theorem zw_51_in : ∀ w ∈ zw_51, w ∈ lw_tbl := zi_pool_in [42, 947, 950, 949, 43, 955, 958, 957, 45, 959, 962, 961, 46, 971, 974, 973] (by decide +kernel)
def zw_52 : List Cond := [.selects "LoopRoundsModel" yX8_comesByPlan yX8_comesByPlan, .methodLink "LoopRoundsModel" 210 yX8_findFar, .code yX8_findFar cX8_findFar 7 none, .instanceMethod yX8_findFar, .selects "LoopRoundsModel" yX8_findFar yX8_findFar, .methodLink "LoopRoundsModel" 214 yX8_areSo, .code yX8_areSo cX8_areSo 2 (some .boolean), .instanceMethod yX8_areSo, .selects "LoopRoundsModel" yX8_areSo yX8_areSo, .methodLink "LoopRoundsModel" 217 yX8_isOf, .code yX8_isOf cX8_isOf 2 (some .boolean), .static yX8_isOf, .methodLink "LoopRoundsModel" 220 yX8_inLeastTerms, .code yX8_inLeastTerms cX8_inLeastTerms 11 (some .long), .static yX8_inLeastTerms, .methodLink "LoopRoundsModel" 224 yX8_lost]
set_option maxRecDepth 100000 in
theorem zw_52_in : ∀ w ∈ zw_52, w ∈ lw_tbl := zi_pool_in [48, 967, 970, 969, 47, 996, 999, 998, 49, 1012, 1014, 1013, 1015, 1017, 1016, 1034] (by decide +kernel)
def zw_53 : List Cond := [.code yX8_lost cX8_lost 2 (some .long), .instanceMethod yX8_lost, .selects "LoopRoundsModel" yX8_lost yX8_lost, .fieldLink "LoopRoundsModel" 228 "LoopRoundsModel" "trace" "I", .methodLink "LoopRoundsModel" 231 yX8_begins, .code yX8_begins cX8_begins 2 none, .instanceMethod yX8_begins, .selects "LoopRoundsModel" yX8_begins yX8_begins]
set_option maxRecDepth 100000 in
theorem zw_53_in : ∀ w ∈ zw_53, w ∈ lw_tbl := zi_pool_in [1037, 1036, 50, 719, 1046, 1049, 1048, 51] (by decide +kernel)
def zi_pw (c : Nat) : List Cond := match c with
  | 0 => zw_0
  | 1 => zw_1
  | 2 => zw_2
  | 3 => zw_3
  | 4 => zw_4
  | 5 => zw_5
  | 6 => zw_6
  | 7 => zw_7
  | 8 => zw_8
  | 9 => zw_9
  | 10 => zw_10
  | 11 => zw_11
  | 12 => zw_12
  | 13 => zw_13
  | 14 => zw_14
  | 15 => zw_15
  | 16 => zw_16
  | 17 => zw_17
  | 18 => zw_18
  | 19 => zw_19
  | 20 => zw_20
  | 21 => zw_21
  | 22 => zw_22
  | 23 => zw_23
  | 24 => zw_24
  | 25 => zw_25
  | 26 => zw_26
  | 27 => zw_27
  | 28 => zw_28
  | 29 => zw_29
  | 30 => zw_30
  | 31 => zw_31
  | 32 => zw_32
  | 33 => zw_33
  | 34 => zw_34
  | 35 => zw_35
  | 36 => zw_36
  | 37 => zw_37
  | 38 => zw_38
  | 39 => zw_39
  | 40 => zw_40
  | 41 => zw_41
  | 42 => zw_42
  | 43 => zw_43
  | 44 => zw_44
  | 45 => zw_45
  | 46 => zw_46
  | 47 => zw_47
  | 48 => zw_48
  | 49 => zw_49
  | 50 => zw_50
  | 51 => zw_51
  | 52 => zw_52
  | 53 => zw_53
  | _ => []
theorem zi_pw_in (c : Nat) : ∀ w ∈ zi_pw c, w ∈ lw_tbl := by
  intro w hw
  unfold zi_pw at hw
  split at hw
  · exact zw_0_in w hw
  · exact zw_1_in w hw
  · exact zw_2_in w hw
  · exact zw_3_in w hw
  · exact zw_4_in w hw
  · exact zw_5_in w hw
  · exact zw_6_in w hw
  · exact zw_7_in w hw
  · exact zw_8_in w hw
  · exact zw_9_in w hw
  · exact zw_10_in w hw
  · exact zw_11_in w hw
  · exact zw_12_in w hw
  · exact zw_13_in w hw
  · exact zw_14_in w hw
  · exact zw_15_in w hw
  · exact zw_16_in w hw
  · exact zw_17_in w hw
  · exact zw_18_in w hw
  · exact zw_19_in w hw
  · exact zw_20_in w hw
  · exact zw_21_in w hw
  · exact zw_22_in w hw
  · exact zw_23_in w hw
  · exact zw_24_in w hw
  · exact zw_25_in w hw
  · exact zw_26_in w hw
  · exact zw_27_in w hw
  · exact zw_28_in w hw
  · exact zw_29_in w hw
  · exact zw_30_in w hw
  · exact zw_31_in w hw
  · exact zw_32_in w hw
  · exact zw_33_in w hw
  · exact zw_34_in w hw
  · exact zw_35_in w hw
  · exact zw_36_in w hw
  · exact zw_37_in w hw
  · exact zw_38_in w hw
  · exact zw_39_in w hw
  · exact zw_40_in w hw
  · exact zw_41_in w hw
  · exact zw_42_in w hw
  · exact zw_43_in w hw
  · exact zw_44_in w hw
  · exact zw_45_in w hw
  · exact zw_46_in w hw
  · exact zw_47_in w hw
  · exact zw_48_in w hw
  · exact zw_49_in w hw
  · exact zw_50_in w hw
  · exact zw_51_in w hw
  · exact zw_52_in w hw
  · exact zw_53_in w hw
  · cases hw
end
section
/-! what an instruction's links must be: a check by the kernel (zi_ck), and what holds in every method (zi_S) -/
def zi_gw : List Cond := lw_tbl.filter goodWord
def zi_isN (w : Cond) : Bool := match w with
  | .fieldLinkNest _ _ _ _ _ _ => true
  | .methodLinkNest _ _ _ _ => true
  | .arrayOver (.object _) => true
  | .arrayOver (.array _) => true
  | _ => false
def zi_nw : List Cond := lw_tbl.filter zi_isN
def zi_w (pos : Nat) (w : Cond) : Bool := decide ((zi_pw (pos / 16))[pos % 16]? = some w) && goodWord w
def zi_wn (pos : Nat) (w : Cond) : Bool := decide ((zi_pw (pos / 16))[pos % 16]? = some w) && zi_isN w
theorem zi_w_in {pos : Nat} {w : Cond} (h : zi_w pos w = true) : w ∈ zi_gw := by
  simp only [zi_w, Bool.and_eq_true, decide_eq_true_eq] at h
  exact List.mem_filter.mpr ⟨zi_pw_in _ w (List.mem_of_getElem? h.1), h.2⟩
theorem zi_wn_in {pos : Nat} {w : Cond} (h : zi_wn pos w = true) : w ∈ zi_nw := by
  simp only [zi_wn, Bool.and_eq_true, decide_eq_true_eq] at h
  exact List.mem_filter.mpr ⟨zi_pw_in _ w (List.mem_of_getElem? h.1), h.2⟩
theorem zi_gw_good {w : Cond} (h : w ∈ zi_gw) : (w.onTables && w.keeps) = true ∨ ∃ ty, w = .arrayClass ty := good_of_word (List.mem_filter.mp h).2
/-- a class by its number -/
abbrev zi_q (ci : Nat) : vw_C := vwCl.getD ci (RX8, TX8, 33)
theorem zi_q_at {ci : Nat} (h : ci < 9) : vwCl[ci]? = some ((zi_q ci).1, (zi_q ci).2.1, (zi_q ci).2.2) := by
  match ci, h with
  | 0, _ => rfl
  | 1, _ => rfl
  | 2, _ => rfl
  | 3, _ => rfl
  | 4, _ => rfl
  | 5, _ => rfl
  | 6, _ => rfl
  | 7, _ => rfl
  | 8, _ => rfl
theorem zi_sub_of {ws : List Cond} (h : ws.all (fun w => decide (w ∈ lw_tbl) && goodWord w) = true) : ∀ w ∈ ws, w ∈ zi_gw := by
  intro w hw
  have h1 := List.all_eq_true.mp h w hw
  simp only [Bool.and_eq_true, decide_eq_true_eq] at h1
  exact List.mem_filter.mpr h1
set_option maxRecDepth 100000 in
theorem zi_q_in {ci : Nat} (h : ci < 9) : ∀ w ∈ u_ws (zi_q ci).1 (zi_q ci).2.1 (zi_q ci).2.2, w ∈ zi_gw := by
  match ci, h with
  | 0, _ => exact zi_sub_of (ws := wsX00) (by decide +kernel)
  | 1, _ => exact zi_sub_of (ws := wsX10) (by decide +kernel)
  | 2, _ => exact zi_sub_of (ws := wsX20) (by decide +kernel)
  | 3, _ => exact zi_sub_of (ws := wsX30) (by decide +kernel)
  | 4, _ => exact zi_sub_of (ws := wsX40) (by decide +kernel)
  | 5, _ => exact zi_sub_of (ws := wsX50) (by decide +kernel)
  | 6, _ => exact zi_sub_of (ws := wsX60) (by decide +kernel)
  | 7, _ => exact zi_sub_of (ws := wsX70) (by decide +kernel)
  | 8, _ => exact zi_sub_of (ws := wsX80) (by decide +kernel)
theorem zi_q_ty {ci : Nat} (h : ci < 9) : ∀ k, k < (zi_q ci).2.2 → parseFieldDescriptor ((zi_q ci).2.1 k).2.2.1 = some (zi_ty ci k) := by
  match ci, h with
  | 0, _ => exact tyX0_ok
  | 1, _ => exact tyX1_ok
  | 2, _ => exact tyX2_ok
  | 3, _ => exact tyX3_ok
  | 4, _ => exact tyX4_ok
  | 5, _ => exact tyX5_ok
  | 6, _ => exact tyX6_ok
  | 7, _ => exact tyX7_ok
  | 8, _ => exact tyX8_ok
theorem zi_q_nm {ci : Nat} (h : ci < 9) : ∀ a, a < (zi_q ci).2.2 → ∀ b, b < (zi_q ci).2.2 → a ≠ b → ((zi_q ci).2.1 a).2.1 ≠ ((zi_q ci).2.1 b).2.1 := by
  match ci, h with
  | 0, _ => exact nmX0
  | 1, _ => exact nmX1
  | 2, _ => exact nmX2
  | 3, _ => exact nmX3
  | 4, _ => exact nmX4
  | 5, _ => exact nmX5
  | 6, _ => exact nmX6
  | 7, _ => exact nmX7
  | 8, _ => exact nmX8
abbrev zi_yy (T : Nat → zi_D) (k : Nat) : MethodName := (T k).1.1
abbrev zi_cd (T : Nat → zi_D) (k : Nat) : ByteArray := (T k).1.2.1
abbrev zi_mx (T : Nat → zi_D) (k : Nat) : Nat := (T k).1.2.2.1
abbrev zi_rt (T : Nat → zi_D) (k : Nat) : Option FieldType := (T k).1.2.2.2
abbrev zi_fr (T : Nat → zi_D) (k : Nat) : Nat := (T k).2.1.1
abbrev zi_lc' (T : Nat → zi_D) (k : Nat) : Nat := (T k).2.1.2.1
abbrev zi_sp (T : Nat → zi_D) (k b : Nat) : Nat := (T k).2.2.2.getD b 0
def zi_rm (T : Nat → zi_D) (k : Nat) : Room := { frames := zi_fr T k, cells := zi_mc T k, slots := zi_ms T k, locals := zi_lc' T k }
/-- a field: own class, pool number, slot, [class, fields, place of the word] -/
def zi_fk (own : String) (idx slot : Nat) (l : List Nat) : Bool :=
  decide (l.getD 0 0 < 9) && (decide (l.getD 1 0 = (zi_q (l.getD 0 0)).2.2) && (decide (slot < (zi_q (l.getD 0 0)).2.2) && (decide (((zi_q (l.getD 0 0)).2.1 slot).1 = (zi_q (l.getD 0 0)).1) && zi_w (l.getD 2 0) (.fieldLink own idx (zi_q (l.getD 0 0)).1 ((zi_q (l.getD 0 0)).2.1 slot).2.1 ((zi_q (l.getD 0 0)).2.1 slot).2.2.1))))
/-- a callee: its words by their places ps; room -/
def zi_kc (T : Nat → zi_D) (k j np : Nat) (p1 p2 : Nat) : Bool :=
  zi_w p1 (.code (zi_yy T j) (zi_cd T j) (zi_mx T j) (zi_rt T j)) && (zi_w p2 (.initialized (zi_yy T j).cls) && (decide ((zi_yy T j).cls ≠ "java/lang/invoke/MethodHandle" ∧ (zi_yy T j).cls ≠ "java/lang/invoke/VarHandle") && (decide ((parseMethodDescriptor (zi_yy T j).desc).map (fun d => d.parameters.length) = some np) && decide (zi_fr T j + 1 ≤ zi_fr T k ∧ 8 + (zi_mx T j + 11) + zi_lc' T j ≤ zi_lc' T k))))
def zi_ck (T : Nat → zi_D) (k pc : Nat) (i : zi_I) (len : Nat) : Bool := match i.1 with
  | .iconst n => decide (len = 1) && decide (Int32.ofInt n = i.2.2.2.1)
  | .bipush n => decide (len = 2) && decide ((Int8.ofInt n).toInt32 = i.2.2.2.1)
  | .sipush n => decide (len = 3) && decide ((Int16.ofInt n).toInt32 = i.2.2.2.1)
  | .lconst _ => decide (len = 1)
  | .ldc2_w idx => decide (len = 3) && zi_w (i.2.2.2.2.getD 0 0) (.constantLong (zi_yy T k).cls idx (-9223372036854775808))
  | .aconst_null => decide (len = 1)
  | .iload _ => decide (len = 2)
  | .lload _ => decide (len = 2)
  | .aload _ => decide (len = 2)
  | .iload_n _ => decide (len = 1)
  | .lload_n _ => decide (len = 1)
  | .aload_n _ => decide (len = 1)
  | .istore n => decide (len = 2) && decide (n < zi_mx T k)
  | .lstore n => decide (len = 2) && decide (n + 1 < zi_mx T k)
  | .astore n => decide (len = 2) && decide (n < zi_mx T k)
  | .istore_n n => decide (len = 1) && decide (n.val < zi_mx T k)
  | .lstore_n n => decide (len = 1) && decide (n.val + 1 < zi_mx T k)
  | .astore_n n => decide (len = 1) && decide (n.val < zi_mx T k)
  | .iinc n d => decide (len = 3) && (decide (n < zi_mx T k) && decide (Int32.ofInt d = i.2.2.2.1))
  | .iadd => decide (len = 1)
  | .isub => decide (len = 1)
  | .imul => decide (len = 1)
  | .iand => decide (len = 1)
  | .ior => decide (len = 1)
  | .ishl => decide (len = 1)
  | .ishr => decide (len = 1)
  | .idiv => decide (len = 1)
  | .irem => decide (len = 1)
  | .ladd => decide (len = 1)
  | .ldiv => decide (len = 1)
  | .lrem => decide (len = 1)
  | .lcmp => decide (len = 1)
  | .i2l => decide (len = 1)
  | .i2b => decide (len = 1)
  | .i2s => decide (len = 1)
  | .pop => decide (len = 1)
  | .dup => decide (len = 1)
  | .dup2 => decide (len = 1)
  | .getfield idx => decide (len = 3) && (zi_fk (zi_yy T k).cls idx i.2.1 i.2.2.2.2 && decide (i.2.2.1 = 2 ↔ zi_tg (i.2.2.2.2.getD 0 0) i.2.1 = 2))
  | .putfield idx => decide (len = 3) && (zi_fk (zi_yy T k).cls idx i.2.1 i.2.2.2.2 && (decide (zi_tgt (zi_ty (i.2.2.2.2.getD 0 0) i.2.1) = i.2.2.1 ∧ i.2.2.1 < 3) && (decide (i.2.2.1 = 2 → (zi_ty (i.2.2.2.2.getD 0 0) i.2.1).isReference = true) &&
      decide (((zi_q (i.2.2.2.2.getD 0 0)).2.1 i.2.1).2.2.2 = true → (zi_yy T k).name = "<init>" ∧ ((zi_q (i.2.2.2.2.getD 0 0)).2.1 i.2.1).1 = (zi_yy T k).cls))))
  | .getstatic idx => decide (len = 3) && (decide (i.2.1 < 2) && (zi_w (i.2.2.2.2.getD 0 0) (.fieldLink (zi_yy T k).cls idx "LoopRounds" (if i.2.1 = 0 then "USES" else "MAKES") "[I") || zi_wn (i.2.2.2.2.getD 0 0) (.fieldLinkNest (zi_yy T k).cls idx "LoopRounds" (if i.2.1 = 0 then "USES" else "MAKES") "[I" "LoopRounds")))
  | .iaload => decide (len = 1)
  | .iastore => decide (len = 1)
  | .laload => decide (len = 1)
  | .lastore => decide (len = 1)
  | .aaload => decide (len = 1)
  | .aastore => decide (len = 1)
  | .arraylength => decide (len = 1)
  | .new idx => decide (len = 3) && (decide (i.2.1 < 9 ∧ i.2.2.1 = (zi_q i.2.1).2.2) && (zi_w (i.2.2.2.2.getD 0 0) (.classLink (zi_yy T k).cls idx (zi_q i.2.1).1) && (zi_w (i.2.2.2.2.getD 1 0) (.instantiable (zi_q i.2.1).1 i.2.2.1) && (zi_w (i.2.2.2.2.getD 2 0) (.initialized (zi_q i.2.1).1) && decide ((List.range (zi_q i.2.1).2.2).all (fun j => decide (defaultValue (zi_ty i.2.1 j) = zi_fv (zi_tg i.2.1 j) 0 none)) = true)))))
  | .newarray t => decide (len = 2) && (decide ((t = .int ∧ i.2.1 = 1 ∧ i.2.2.1 = 0) ∨ (t = .long ∧ i.2.1 = 2 ∧ i.2.2.1 = 1)) && zi_w (i.2.2.2.2.getD 0 0) (.arrayClass (newarray.typeOf t)))
  | .anewarray idx => decide (len = 3) && (decide (i.2.1 = 2 ∨ i.2.1 = 3) && (zi_w (i.2.2.2.2.getD 0 0) (.classLink (zi_yy T k).cls idx (if i.2.1 = 2 then "LoopRounds$Sheet" else "LoopRounds$Round")) && zi_wn (i.2.2.2.2.getD 1 0) (.arrayOver (.object (if i.2.1 = 2 then "LoopRounds$Sheet" else "LoopRounds$Round")))))
  | .multianewarray idx d => decide (len = 4 ∧ d = 2) && (decide ((i.2.1 = 4 ∧ i.2.2.1 = 0 ∧ i.2.2.2.2.getD 0 0 = 1) ∨ (i.2.1 = 5 ∧ i.2.2.1 = 1 ∧ i.2.2.2.2.getD 0 0 = 2)) && (zi_w (i.2.2.2.2.getD 1 0) (.classLink (zi_yy T k).cls idx (if i.2.1 = 4 then "[[I" else "[[J")) && (zi_wn (i.2.2.2.2.getD 2 0) (.arrayOver (.array (if i.2.1 = 4 then .int else .long))) && zi_w (i.2.2.2.2.getD 3 0) (.arrayClass (if i.2.1 = 4 then .int else .long)))))
  | .goto off => decide (len = 3) && decide ((pc : Int) + off = (zi_sp T k i.2.1 : Int))
  | .ifCond _ off => decide (len = 3) && decide ((pc : Int) + off = (zi_sp T k i.2.1 : Int))
  | .if_icmp _ off => decide (len = 3) && decide ((pc : Int) + off = (zi_sp T k i.2.1 : Int))
  | .ifnull off => decide (len = 3) && decide ((pc : Int) + off = (zi_sp T k i.2.1 : Int))
  | .ifnonnull off => decide (len = 3) && decide ((pc : Int) + off = (zi_sp T k i.2.1 : Int))
  | .tableswitch d lo hi offs => decide ((pc : Int) + d = (zi_sp T k i.2.1 : Int)) && (decide (lo = i.2.2.2.1.toInt ∧ 0 ≤ lo ∧ hi < 1000 ∧ hi + 1 = lo + i.2.2.2.2.length) && decide (offs.toList.map (fun o => (pc : Int) + o) = i.2.2.2.2.map (fun b => (zi_sp T k b : Int))))
  | .lookupswitch d ps => decide ((pc : Int) + d = (zi_sp T k i.2.1 : Int)) && (decide ((ps.toList.zip (ps.toList.drop 1)).all (fun (a, next) => a.1 < next.1) = true) && (decide (ps.toList.all (fun q => decide ((Int32.ofInt q.1).toInt = q.1)) = true) && decide (ps.toList.map (fun q => (pc : Int) + q.2) = i.2.2.2.2.map (fun b => (zi_sp T k b : Int)))))
  | .ireturn => decide (len = 1) && decide (if i.2.1 = 1 then zi_rt T k = some .boolean else zi_rt T k = some .int)
  | .lreturn => decide (len = 1) && decide (zi_rt T k = some .long)
  | .areturn => decide (len = 1) && decide (zi_rt T k = some (.object "LoopRounds$Round"))
  | .return_ => decide (len = 1) && decide (zi_rt T k = none)
  | .invokestatic idx => decide (len = 3) && (if i.2.1 = 9998 then
        zi_w (i.2.2.2.2.getD 0 0) (.methodLink (zi_yy T k).cls idx arraycopyName) && (zi_w (i.2.2.2.2.getD 1 0) (.native arraycopyName) && (zi_w (i.2.2.2.2.getD 2 0) (.static arraycopyName) && (zi_w (i.2.2.2.2.getD 3 0) (.initialized "java/lang/System") && decide (1 ≤ zi_fr T k ∧ 8 + (nativeFrameWords "java/lang/System" "arraycopy" 5 + 11) ≤ zi_lc' T k))))
      else zi_kc T k i.2.1 i.2.2.1 (i.2.2.2.2.getD 2 0) (i.2.2.2.2.getD 3 0) && (decide (i.2.2.2.2.getD 0 0 = zi_mx T i.2.1) && (zi_w (i.2.2.2.2.getD 4 0) (.static (zi_yy T i.2.1)) && (zi_w (i.2.2.2.2.getD 1 0) (.methodLink (zi_yy T k).cls idx (zi_yy T i.2.1)) || zi_wn (i.2.2.2.2.getD 1 0) (.methodLinkNest (zi_yy T k).cls idx (zi_yy T i.2.1) "LoopRounds")))))
  | .invokevirtual idx => decide (len = 3) && (zi_kc T k i.2.1 (i.2.2.1 - 1) (i.2.2.2.2.getD 4 0) (i.2.2.2.2.getD 5 0) && (decide (i.2.2.2.2.getD 2 0 = zi_mx T i.2.1 ∧ i.2.2.2.2.getD 0 0 < 9 ∧ (zi_q (i.2.2.2.2.getD 0 0)).1 = (zi_yy T i.2.1).cls ∧ i.2.2.1 ≠ 0) && (zi_w (i.2.2.2.2.getD 6 0) (.instanceMethod (zi_yy T i.2.1)) && (zi_w (i.2.2.2.2.getD 7 0) (.selects (zi_yy T i.2.1).cls (zi_yy T i.2.1) (zi_yy T i.2.1)) && zi_w (i.2.2.2.2.getD 3 0) (.methodLink (zi_yy T k).cls idx (zi_yy T i.2.1))))))
  | .invokespecial idx => decide (len = 3) && (if i.2.1 = 9999 then
        zi_w (i.2.2.2.2.getD 0 0) (.methodLink (zi_yy T k).cls idx objectInit) && (zi_w (i.2.2.2.2.getD 1 0) (.instanceMethod objectInit) && (zi_w (i.2.2.2.2.getD 2 0) (.code objectInit ⟨#[0xb1]⟩ 1 none) && decide (1 ≤ zi_fr T k ∧ 20 ≤ zi_lc' T k)))
      else zi_kc T k i.2.1 (i.2.2.1 - 1) (i.2.2.2.2.getD 4 0) (i.2.2.2.2.getD 5 0) && (decide (i.2.2.2.2.getD 2 0 = zi_mx T i.2.1 ∧ (zi_yy T i.2.1).name = "<init>" ∧ zi_rt T i.2.1 = none ∧ i.2.2.1 ≠ 0) && (zi_w (i.2.2.2.2.getD 6 0) (.instanceMethod (zi_yy T i.2.1)) && (zi_w (i.2.2.2.2.getD 3 0) (.methodLink (zi_yy T k).cls idx (zi_yy T i.2.1)) || zi_wn (i.2.2.2.2.getD 3 0) (.methodLinkNest (zi_yy T k).cls idx (zi_yy T i.2.1) "LoopRounds")))))
  | _ => false
/-- a stretch of instructions from a place of the code on -/
def zi_chk (T : Nat → zi_D) (k : Nat) : Nat → List zi_I → Bool
  | _, [] => true
  | pc, i :: is => if i.1 = .nop then decide (pc = zi_sp T k i.2.1) && decide (i.2.1 < (T k).2.2.1.length) else match decode (zi_cd T k) pc with
    | .ok (op, len) => decide (op = i.1) && (zi_ck T k pc i len && zi_chk T k (pc + len) is)
    | _ => false
end
section
/-! what holds in every method (zi_S), and how it comes to a callee -/
abbrev zi_A (a0 : Nat) : Nat → Prop := fun q => a0 ≤ q
def zi_tys (τ : Nat → ClassId) : List (ClassId × FieldType) := [(τ 0, .int), (τ 1, .long), (τ 2, .object "LoopRounds$Sheet"), (τ 3, .object "LoopRounds$Round"), (τ 4, .array .int), (τ 5, .array .long)]
def zi_S (sc : Nat × (Nat → Int32)) (a0 : Nat) (τ : Nat → ClassId) (σ : Nat → Nat) (dC : Nat → ClassId) (dI : Nat → Nat → Nat) (U : State) : Prop :=
  va_K (dC, dI) vwCl (zi_tys τ) U ∧ va_Z "LoopRounds" "USES" "[I" (.ref (σ 0)) (zi_A a0) U U.heap ∧ va_Z "LoopRounds" "MAKES" "[I" (.ref (σ 1)) (zi_A a0) U U.heap ∧ (∀ q, va_T .int (σ q) (zi_ro sc q).1 (fun j => .int ((zi_ro sc q).2 j)) (zi_A a0) U U.heap) ∧ ∀ w ∈ zi_nw, va_Nw w U
theorem zi_AOA_moved {t : FieldType} {u U : State} (hvm : u.vm.Alike U.vm) (h : va_Nw (.arrayOver (.array t)) u) : va_Nw (.arrayOver (.array t)) U := by
  obtain ⟨comp, c, k, h1, h2, h3, h4, h5⟩ := arrayOverA_spec h
  obtain ⟨k', hk', he⟩ := hvm.2.2 _ _ h3
  have hi : (U.vm.classes.findIdx? fun (x : Class) => match x.kind with | .array component _ => component == comp | _ => false) = some c := by
    rw [hvm.findIdx?_eq _ (fun _ => rfl)]
    exact h2
  have hkind : k'.kind = .array comp (.array t) := by rw [he]; exact h4
  have f1 : U.vm.findClass (FieldType.array t).toString = some comp := by rw [hvm.findClass]; exact h1
  have f2 : U.vm.findClass ("[" ++ (FieldType.array t).toString) = some c := by rw [hvm.findClass]; exact h5
  unfold va_Nw Cond.before Cond.holds
  simp only [Cond.value]
  rw [f1, Option.bind_some]
  refine (congrArg (fun o : Option Nat => (o.bind (fun c => (U.vm.classes[c]?).map fun (k : Class) => match k.kind with | .array _ ty => decide (ty = FieldType.array t) && decide (U.vm.findClass ("[" ++ (FieldType.array t).toString) = some c) | _ => false) == some true)) hi).trans ?_
  simp [hk', hkind, f2]
theorem zi_nw_moved {w : Cond} (hw : w ∈ zi_nw) {s U : State} (hW : s.WarmedH U.vm) (h : va_Nw w s) : va_Nw w U := by
  have hn := (List.mem_filter.mp hw).2
  cases w with
  | fieldLinkNest a b c d e f => exact va_Nw.warmF hW h
  | methodLinkNest a b c d => exact va_Nw.warmM hW h
  | arrayOver ty =>
    cases ty with
    | object C => exact va_AO.moved hW.alike h
    | array t => exact zi_AOA_moved hW.alike h
    | _ => simp [zi_isN] at hn
  | _ => simp [zi_isN] at hn
theorem zi_nw_same {w : Cond} (hw : w ∈ zi_nw) {s U : State} (he : s.vm = U.vm) (h : va_Nw w s) : va_Nw w U := by
  have hn := (List.mem_filter.mp hw).2
  cases w with
  | fieldLinkNest a b c d e f => exact va_Nw.same rfl he h
  | methodLinkNest a b c d => exact va_Nw.same rfl he h
  | arrayOver ty =>
    cases ty with
    | object C => exact va_AO.moved (by rw [he]; exact Vm.Alike.refl _) h
    | array t => exact zi_AOA_moved (by rw [he]; exact Vm.Alike.refl _) h
    | _ => simp [zi_isN] at hn
  | _ => simp [zi_isN] at hn
section ZSM
variable {sc : Nat × (Nat → Int32)} {a0 : Nat} {τ : Nat → ClassId} {σ : Nat → Nat} {dC : Nat → ClassId} {dI : Nat → Nat → Nat}
theorem zi_S.moved {s U : State} {locs : List Loc} (h : zi_S sc a0 τ σ dC dI s) (hW : s.WarmedH U.vm) (hS : va_S (zi_A a0) s.heap U.heap locs) : zi_S sc a0 τ σ dC dI U := by
  obtain ⟨h1, h2, h3, h4, h5⟩ := h
  exact ⟨va_K.moved hW.alike h1, (va_Z.moved hW.alike h2).kept hS.2.1, (va_Z.moved hW.alike h3).kept hS.2.1, fun q => (va_T.moved hW.alike (h4 q)).kept hS.2.1, fun w hw => zi_nw_moved hw hW (h5 w hw)⟩
theorem zi_S.blind {U : State} {g : JFrame} {mk : MethodId} {a : Array Value} (h : zi_S sc a0 τ σ dC dI U) : zi_S sc a0 τ σ dC dI (U.calling g mk a) := by
  obtain ⟨h1, h2, h3, h4, h5⟩ := h
  exact ⟨va_K.moved (u := U) (U := U.calling g mk a) (Vm.Alike.refl U.vm) h1, va_Z.moved (u := U) (U := U.calling g mk a) (Vm.Alike.refl U.vm) h2, va_Z.moved (u := U) (U := U.calling g mk a) (Vm.Alike.refl U.vm) h3, fun q => va_T.moved (u := U) (U := U.calling g mk a) (Vm.Alike.refl U.vm) (h4 q), fun w hw => zi_nw_same hw (s := U) rfl (h5 w hw)⟩
/-- one cell has changed -/
theorem zi_W.set {M M' : zi_M} {H H1 : Heap} (h : zi_W a0 τ dC dI M H) {j : Nat} (hj : j < M.1) (z : H1.size = H.size) (he : va_at (dC, dI) vwCl (a0 + j, zi_c a0 τ M' j) H1) (oq : ∀ q : Nat, q ≠ a0 + j → H1[q]? = H[q]?) (hN : M'.1 = M.1) (hT : M'.2.1 = M.2.1) (ho : ∀ i, i ≠ j → zi_c a0 τ M' i = zi_c a0 τ M i) : zi_W a0 τ dC dI M' H1 := by
  refine ⟨⟨by rw [z, hN]; exact h.1.1, by rw [hN, hT]; exact h.1.2⟩, ?_⟩
  rw [zi_ws_set j hN ho]
  exact h.2.set (zi_Dd a0 τ M) (zi_ws_at hj) he oq
/-- a cell is born -/
theorem zi_W.born {M : zi_M} {H H1 : Heap} {t : Nat × Nat × Nat} (h : zi_W a0 τ dC dI M H) (z : H1.size = H.size + 1) (oq : ∀ q : Nat, q < H.size → H1[q]? = H[q]?) (he : va_at (dC, dI) vwCl (a0 + M.1, zi_cel a0 τ t (fun _ => 0) (fun _ => 0) (fun _ => none)) H1) : zi_W a0 τ dC dI (zi_born t M) H1 := by
  have hc : ∀ i, i < M.1 → zi_c a0 τ (zi_born t M) i = zi_c a0 τ M i := fun i hi => by
    have hne : i ≠ M.1 := Nat.ne_of_lt hi
    simp only [zi_c, zi_born, zi_row_ne _ _ hne, va_up, if_neg hne]
  have hc2 : zi_c a0 τ (zi_born t M) M.1 = zi_cel a0 τ t (fun _ => 0) (fun _ => 0) (fun _ => none) := by
    simp only [zi_c, zi_born, zi_row_eq, va_up, if_pos]
  refine ⟨⟨by rw [z, h.1.1]; simp only [zi_born]; omega, fun j hj => ?_⟩, ?_⟩
  · simp only [zi_born] at hj ⊢
    rw [va_up, if_neg (by omega)]
    exact h.1.2 j (by omega)
  · rw [zi_ws_push rfl hc, hc2]
    refine (h.2.kept (fun k q hq => oq q.1 ?_)).app (fun k q hq => ?_)
    · exact (h.2 k q hq).lt
    · have hz : k < 1 := (List.getElem?_eq_some_iff.mp hq).1
      rw [show k = 0 by omega] at hq
      cases hq
      exact he
theorem zi_S.born {H0 H H1 : Heap} {locs : List Loc} (hS : va_S (zi_A a0) H0 H locs) (z : H1.size = H.size + 1) (oq : ∀ q : Nat, q < H.size → H1[q]? = H[q]?) : va_S (zi_A a0) H0 H1 locs :=
  ⟨by rw [z]; exact Nat.le_succ_of_le hS.1, fun q h1 h2 => (oq q (Nat.lt_of_lt_of_le h1 hS.1)).trans (hS.2.1 q h1 h2), hS.2.2⟩
end ZSM
theorem zi_vin_in {i : Int32} {n : Nat} (h : zi_vin i n = true) : vp_in i n := by
  simp only [zi_vin, Bool.and_eq_true, decide_eq_true_eq] at h
  intro q
  rcases q with q | q
  · exact h.1 q
  · omega
theorem zi_fv_con {a0 : Nat} {σ : Nat → Nat} {tag tg : Nat} {x : Int32} {r : Option Nat} (h : tag = 2 ↔ tg = 2) : zi_con a0 σ (zi_fv tag x r) = zi_fv tg x (zi_ad a0 r) := by
  by_cases ht : tag = 2
  · have h2 := h.mp ht
    subst ht; subst h2
    cases r <;> rfl
  · have h2 : ¬ tg = 2 := fun q => ht (h.mpr q)
    have e1 : zi_fv tag x r = .int x := by unfold zi_fv; split <;> simp_all
    have e2 : zi_fv tg x (zi_ad a0 r) = .int x := by unfold zi_fv; split <;> simp_all
    rw [e1, e2]
    rfl
theorem zi_con_rf {a0 : Nat} {σ : Nat → Nat} (r : Option Nat) : zi_con a0 σ (va_rf r) = va_rf (zi_ad a0 r) := by cases r <;> rfl
theorem zi_fs_at {a0 ci n : Nat} {I : Nat → Int32} {R : Nat → Option Nat} {k : Nat} (h : k < n) : (zi_fs a0 ci n I R)[k]? = some (zi_fv (zi_tg ci k) (I k) (zi_ad a0 (R k))) := by
  unfold zi_fs
  rw [List.getElem?_map, List.getElem?_range h]
  rfl
theorem zi_fs_len (a0 ci n : Nat) (I : Nat → Int32) (R : Nat → Option Nat) : (zi_fs a0 ci n I R).length = n := by simp [zi_fs]
end
section
/-! what each helper of the interpreter says when it goes on -/
theorem zi_b2_inv {f : Int32 → Int32 → Int32} {lv lv' : zi_L} {st st' : List Value} {M M' : zi_M} (h : zi_b2 f lv st M = some (.inl (lv', st', M'))) : ∃ x y r, st = .int y :: .int x :: r ∧ lv' = lv ∧ st' = .int (f x y) :: r ∧ M' = M := by
  unfold zi_b2 at h
  split at h
  all_goals first | (simp only [Option.some.injEq, Sum.inl.injEq, Prod.mk.injEq] at h; obtain ⟨rfl, rfl, rfl⟩ := h; exact ⟨_, _, _, rfl, rfl, rfl, rfl⟩) | (simp only [Option.some.injEq, Sum.inl.injEq, Prod.mk.injEq] at h; obtain ⟨rfl, rfl, rfl⟩ := h; exact ⟨_, _, rfl, rfl, rfl, rfl⟩) | cases h
theorem zi_l2_inv {f : Int64 → Int64 → Int64} {lv lv' : zi_L} {st st' : List Value} {M M' : zi_M} (h : zi_l2 f lv st M = some (.inl (lv', st', M'))) : ∃ x y r, st = .long y :: .long x :: r ∧ lv' = lv ∧ st' = .long (f x y) :: r ∧ M' = M := by
  unfold zi_l2 at h
  split at h
  all_goals first | (simp only [Option.some.injEq, Sum.inl.injEq, Prod.mk.injEq] at h; obtain ⟨rfl, rfl, rfl⟩ := h; exact ⟨_, _, _, rfl, rfl, rfl, rfl⟩) | (simp only [Option.some.injEq, Sum.inl.injEq, Prod.mk.injEq] at h; obtain ⟨rfl, rfl, rfl⟩ := h; exact ⟨_, _, rfl, rfl, rfl, rfl⟩) | cases h
theorem zi_lc_inv  {lv lv' : zi_L} {st st' : List Value} {M M' : zi_M} (h : zi_lc lv st M = some (.inl (lv', st', M'))) : ∃ x y r, st = .long y :: .long x :: r ∧ lv' = lv ∧ st' = .int (lg_cmp x y) :: r ∧ M' = M := by
  unfold zi_lc at h
  split at h
  all_goals first | (simp only [Option.some.injEq, Sum.inl.injEq, Prod.mk.injEq] at h; obtain ⟨rfl, rfl, rfl⟩ := h; exact ⟨_, _, _, rfl, rfl, rfl, rfl⟩) | (simp only [Option.some.injEq, Sum.inl.injEq, Prod.mk.injEq] at h; obtain ⟨rfl, rfl, rfl⟩ := h; exact ⟨_, _, rfl, rfl, rfl, rfl⟩) | cases h
theorem zi_u1_inv {f : Int32 → Value} {lv lv' : zi_L} {st st' : List Value} {M M' : zi_M} (h : zi_u1 f lv st M = some (.inl (lv', st', M'))) : ∃ x r, st = .int x :: r ∧ lv' = lv ∧ st' = f x :: r ∧ M' = M := by
  unfold zi_u1 at h
  split at h
  all_goals first | (simp only [Option.some.injEq, Sum.inl.injEq, Prod.mk.injEq] at h; obtain ⟨rfl, rfl, rfl⟩ := h; exact ⟨_, _, _, rfl, rfl, rfl, rfl⟩) | (simp only [Option.some.injEq, Sum.inl.injEq, Prod.mk.injEq] at h; obtain ⟨rfl, rfl, rfl⟩ := h; exact ⟨_, _, rfl, rfl, rfl, rfl⟩) | cases h
theorem zi_pp_inv  {lv lv' : zi_L} {st st' : List Value} {M M' : zi_M} (h : zi_pp lv st M = some (.inl (lv', st', M'))) : ∃ x r, st = .int x :: r ∧ lv' = lv ∧ st' = r ∧ M' = M := by
  unfold zi_pp at h
  split at h
  all_goals first | (simp only [Option.some.injEq, Sum.inl.injEq, Prod.mk.injEq] at h; obtain ⟨rfl, rfl, rfl⟩ := h; exact ⟨_, _, _, rfl, rfl, rfl, rfl⟩) | (simp only [Option.some.injEq, Sum.inl.injEq, Prod.mk.injEq] at h; obtain ⟨rfl, rfl, rfl⟩ := h; exact ⟨_, _, rfl, rfl, rfl, rfl⟩) | cases h
theorem zi_dup2_inv  {lv lv' : zi_L} {st st' : List Value} {M M' : zi_M} (h : zi_dup2 lv st M = some (.inl (lv', st', M'))) : ∃ x y r, st = .int x :: .ref y :: r ∧ lv' = lv ∧ st' = .int x :: .ref y :: .int x :: .ref y :: r ∧ M' = M := by
  unfold zi_dup2 at h
  split at h
  all_goals first | (simp only [Option.some.injEq, Sum.inl.injEq, Prod.mk.injEq] at h; obtain ⟨rfl, rfl, rfl⟩ := h; exact ⟨_, _, _, rfl, rfl, rfl, rfl⟩) | (simp only [Option.some.injEq, Sum.inl.injEq, Prod.mk.injEq] at h; obtain ⟨rfl, rfl, rfl⟩ := h; exact ⟨_, _, rfl, rfl, rfl, rfl⟩) | cases h
theorem zi_sti_inv {n : Nat} {lv lv' : zi_L} {st st' : List Value} {M M' : zi_M} (h : zi_sti lv n st M = some (.inl (lv', st', M'))) : ∃ x r, st = .int x :: r ∧ lv' = zi_st1 lv n (.int x) ∧ st' = r ∧ M' = M := by
  unfold zi_sti at h
  split at h
  all_goals first | (simp only [Option.some.injEq, Sum.inl.injEq, Prod.mk.injEq] at h; obtain ⟨rfl, rfl, rfl⟩ := h; exact ⟨_, _, _, rfl, rfl, rfl, rfl⟩) | (simp only [Option.some.injEq, Sum.inl.injEq, Prod.mk.injEq] at h; obtain ⟨rfl, rfl, rfl⟩ := h; exact ⟨_, _, rfl, rfl, rfl, rfl⟩) | cases h
theorem zi_stl_inv {n : Nat} {lv lv' : zi_L} {st st' : List Value} {M M' : zi_M} (h : zi_stl lv n st M = some (.inl (lv', st', M'))) : ∃ x r, st = .long x :: r ∧ lv' = zi_st2 lv n (.long x) ∧ st' = r ∧ M' = M := by
  unfold zi_stl at h
  split at h
  all_goals first | (simp only [Option.some.injEq, Sum.inl.injEq, Prod.mk.injEq] at h; obtain ⟨rfl, rfl, rfl⟩ := h; exact ⟨_, _, _, rfl, rfl, rfl, rfl⟩) | (simp only [Option.some.injEq, Sum.inl.injEq, Prod.mk.injEq] at h; obtain ⟨rfl, rfl, rfl⟩ := h; exact ⟨_, _, rfl, rfl, rfl, rfl⟩) | cases h
theorem zi_d2_inv {f : Int32 → Int32 → Int32} {lv lv' : zi_L} {st st' : List Value} {M M' : zi_M} (h : zi_d2 f lv st M = some (.inl (lv', st', M'))) : ∃ x y r, st = .int y :: .int x :: r ∧ lv' = lv ∧ st' = .int (f x y) :: r ∧ M' = M ∧ ¬ y = 0 := by
  unfold zi_d2 at h
  split at h
  · split at h
    · rename_i hy
      simp only [Option.some.injEq, Sum.inl.injEq, Prod.mk.injEq] at h; obtain ⟨rfl, rfl, rfl⟩ := h; exact ⟨_, _, _, rfl, rfl, rfl, rfl, hy⟩
    · cases h
  · cases h
theorem zi_dl2_inv {f : Int64 → Int64 → Int64} {lv lv' : zi_L} {st st' : List Value} {M M' : zi_M} (h : zi_dl2 f lv st M = some (.inl (lv', st', M'))) : ∃ x y r, st = .long y :: .long x :: r ∧ lv' = lv ∧ st' = .long (f x y) :: r ∧ M' = M ∧ ¬ y = 0 := by
  unfold zi_dl2 at h
  split at h
  · split at h
    · rename_i hy
      simp only [Option.some.injEq, Sum.inl.injEq, Prod.mk.injEq] at h; obtain ⟨rfl, rfl, rfl⟩ := h; exact ⟨_, _, _, rfl, rfl, rfl, rfl, hy⟩
    · cases h
  · cases h
theorem zi_ldi_inv {n : Nat} {lv lv' : zi_L} {st st' : List Value} {M M' : zi_M} (h : zi_ldi lv n st M = some (.inl (lv', st', M'))) : ∃ x, zi_get lv n = some (.int x) ∧ lv' = lv ∧ st' = .int x :: st ∧ M' = M := by
  unfold zi_ldi at h
  split at h
  · rename_i hg
    simp only [Option.some.injEq, Sum.inl.injEq, Prod.mk.injEq] at h; obtain ⟨rfl, rfl, rfl⟩ := h; exact ⟨_, hg, rfl, rfl, rfl⟩
  · cases h
theorem zi_ldl_inv {n : Nat} {lv lv' : zi_L} {st st' : List Value} {M M' : zi_M} (h : zi_ldl lv n st M = some (.inl (lv', st', M'))) : ∃ x, zi_get lv n = some (.long x) ∧ lv' = lv ∧ st' = .long x :: st ∧ M' = M := by
  unfold zi_ldl at h
  split at h
  · rename_i hg
    simp only [Option.some.injEq, Sum.inl.injEq, Prod.mk.injEq] at h; obtain ⟨rfl, rfl, rfl⟩ := h; exact ⟨_, hg, rfl, rfl, rfl⟩
  · cases h
theorem zi_lda_inv {n : Nat} {lv lv' : zi_L} {st st' : List Value} {M M' : zi_M} (h : zi_lda lv n st M = some (.inl (lv', st', M'))) : ∃ v, zi_get lv n = some v ∧ ((∃ x, v = .ref x) ∨ (∃ x, v = .float x) ∨ v = .null) ∧ lv' = lv ∧ st' = v :: st ∧ M' = M := by
  unfold zi_lda at h
  split at h
  · rename_i x hg
    simp only [Option.some.injEq, Sum.inl.injEq, Prod.mk.injEq] at h; obtain ⟨rfl, rfl, rfl⟩ := h; exact ⟨_, hg, Or.inl ⟨_, rfl⟩, rfl, rfl, rfl⟩
  · rename_i x hg
    simp only [Option.some.injEq, Sum.inl.injEq, Prod.mk.injEq] at h; obtain ⟨rfl, rfl, rfl⟩ := h; exact ⟨_, hg, Or.inr (Or.inl ⟨_, rfl⟩), rfl, rfl, rfl⟩
  · rename_i hg
    simp only [Option.some.injEq, Sum.inl.injEq, Prod.mk.injEq] at h; obtain ⟨rfl, rfl, rfl⟩ := h; exact ⟨_, hg, Or.inr (Or.inr rfl), rfl, rfl, rfl⟩
  · cases h
theorem zi_sta_inv {n : Nat} {lv lv' : zi_L} {st st' : List Value} {M M' : zi_M} (h : zi_sta lv n st M = some (.inl (lv', st', M'))) : ∃ v r, st = v :: r ∧ ((∃ x, v = .ref x) ∨ (∃ x, v = .float x) ∨ v = .null) ∧ lv' = zi_st1 lv n v ∧ st' = r ∧ M' = M := by
  unfold zi_sta at h
  split at h
  · simp only [Option.some.injEq, Sum.inl.injEq, Prod.mk.injEq] at h; obtain ⟨rfl, rfl, rfl⟩ := h; exact ⟨_, _, rfl, Or.inl ⟨_, rfl⟩, rfl, rfl, rfl⟩
  · simp only [Option.some.injEq, Sum.inl.injEq, Prod.mk.injEq] at h; obtain ⟨rfl, rfl, rfl⟩ := h; exact ⟨_, _, rfl, Or.inr (Or.inl ⟨_, rfl⟩), rfl, rfl, rfl⟩
  · simp only [Option.some.injEq, Sum.inl.injEq, Prod.mk.injEq] at h; obtain ⟨rfl, rfl, rfl⟩ := h; exact ⟨_, _, rfl, Or.inr (Or.inr rfl), rfl, rfl, rfl⟩
  · cases h
theorem zi_inc_inv {n : Nat} {v : Int32} {lv lv' : zi_L} {st st' : List Value} {M M' : zi_M} (h : zi_inc lv n v st M = some (.inl (lv', st', M'))) : ∃ x, zi_get lv n = some (.int x) ∧ lv' = zi_st1 lv n (.int (x + v)) ∧ st' = st ∧ M' = M := by
  unfold zi_inc at h
  split at h
  · rename_i hg
    simp only [Option.some.injEq, Sum.inl.injEq, Prod.mk.injEq] at h; obtain ⟨rfl, rfl, rfl⟩ := h; exact ⟨_, hg, rfl, rfl, rfl⟩
  · cases h
theorem zi_dup_inv {lv lv' : zi_L} {st st' : List Value} {M M' : zi_M} (h : zi_dup lv st M = some (.inl (lv', st', M'))) : ∃ v r, st = v :: r ∧ v.category = 1 ∧ lv' = lv ∧ st' = v :: v :: r ∧ M' = M := by
  unfold zi_dup at h
  split at h
  · simp only [Option.some.injEq, Sum.inl.injEq, Prod.mk.injEq] at h; obtain ⟨rfl, rfl, rfl⟩ := h; exact ⟨_, _, rfl, rfl, rfl, rfl, rfl⟩
  · simp only [Option.some.injEq, Sum.inl.injEq, Prod.mk.injEq] at h; obtain ⟨rfl, rfl, rfl⟩ := h; exact ⟨_, _, rfl, rfl, rfl, rfl, rfl⟩
  · cases h
theorem zi_gf_inv {slot tag : Nat} {l : List Nat} {lv lv' : zi_L} {st st' : List Value} {M M' : zi_M} (h : zi_gf slot tag l lv st M = some (.inl (lv', st', M'))) : ∃ id r, st = .ref id :: r ∧ M.2.1 id = (0, l.getD 0 0, l.getD 1 0) ∧ lv' = lv ∧ st' = zi_fv tag (M.2.2.1 id slot) (M.2.2.2.2 id slot) :: r ∧ M' = M := by
  unfold zi_gf at h
  split at h
  · split at h
    · rename_i hc
      simp only [Option.some.injEq, Sum.inl.injEq, Prod.mk.injEq] at h; obtain ⟨rfl, rfl, rfl⟩ := h; exact ⟨_, _, rfl, hc, rfl, rfl, rfl⟩
    · cases h
  · cases h
theorem zi_pf_inv {slot tag : Nat} {l : List Nat} {lv lv' : zi_L} {st st' : List Value} {M M' : zi_M} (h : zi_pf slot tag l lv st M = some (.inl (lv', st', M'))) :
    (∃ id x r, st = .int x :: .ref id :: r ∧ M.2.1 id = (0, l.getD 0 0, l.getD 1 0) ∧ (tag = 0 ∨ (tag = 1 ∧ (x = 0 ∨ x = 1))) ∧ lv' = lv ∧ st' = r ∧ M' = (M.1, M.2.1, zi_up M.2.2.1 id slot x, M.2.2.2.1, M.2.2.2.2)) ∨
    (∃ id x r, st = .ref x :: .ref id :: r ∧ M.2.1 id = (0, l.getD 0 0, l.getD 1 0) ∧ tag = 2 ∧ lv' = lv ∧ st' = r ∧ M' = (M.1, M.2.1, M.2.2.1, M.2.2.2.1, zi_up M.2.2.2.2 id slot (some x))) := by
  unfold zi_pf at h
  split at h
  · split at h
    · rename_i hc
      simp only [Option.some.injEq, Sum.inl.injEq, Prod.mk.injEq] at h; obtain ⟨rfl, rfl, rfl⟩ := h; exact Or.inl ⟨_, _, _, rfl, hc, Or.inl rfl, rfl, rfl, rfl⟩
    · cases h
  · split at h
    · rename_i hc
      simp only [Option.some.injEq, Sum.inl.injEq, Prod.mk.injEq] at h; obtain ⟨rfl, rfl, rfl⟩ := h; exact Or.inl ⟨_, _, _, rfl, hc.1, Or.inr ⟨rfl, hc.2⟩, rfl, rfl, rfl⟩
    · cases h
  · split at h
    · rename_i hc
      simp only [Option.some.injEq, Sum.inl.injEq, Prod.mk.injEq] at h; obtain ⟨rfl, rfl, rfl⟩ := h; exact Or.inr ⟨_, _, _, rfl, hc, rfl, rfl, rfl, rfl⟩
    · cases h
  · cases h
theorem zi_ial_inv {sc : Nat × (Nat → Int32)} {lv lv' : zi_L} {st st' : List Value} {M M' : zi_M} (h : zi_ial sc lv st M = some (.inl (lv', st', M'))) :
    (∃ id j r, st = .int j :: .ref id :: r ∧ ((M.2.1 id).1 = 1 ∧ (M.2.1 id).2.1 = 0 ∧ zi_vin j (M.2.1 id).2.2 = true) ∧ lv' = lv ∧ st' = .int (M.2.2.1 id j.toNatClampNeg) :: r ∧ M' = M) ∨
    (∃ q j r, st = .int j :: .float q :: r ∧ zi_vin j (zi_ro sc q.toNat).1 = true ∧ lv' = lv ∧ st' = .int ((zi_ro sc q.toNat).2 j.toNatClampNeg) :: r ∧ M' = M) := by
  unfold zi_ial at h
  split at h
  · split at h
    · rename_i hc
      simp only [Option.some.injEq, Sum.inl.injEq, Prod.mk.injEq] at h; obtain ⟨rfl, rfl, rfl⟩ := h; exact Or.inl ⟨_, _, _, rfl, hc, rfl, rfl, rfl⟩
    · cases h
  · split at h
    · rename_i hc
      simp only [Option.some.injEq, Sum.inl.injEq, Prod.mk.injEq] at h; obtain ⟨rfl, rfl, rfl⟩ := h; exact Or.inr ⟨_, _, _, rfl, hc, rfl, rfl, rfl⟩
    · cases h
  · cases h

theorem zi_ias_inv {lv lv' : zi_L} {st st' : List Value} {M M' : zi_M} (h : zi_ias lv st M = some (.inl (lv', st', M'))) : ∃ id j x r, st = .int x :: .int j :: .ref id :: r ∧ ((M.2.1 id).1 = 1 ∧ (M.2.1 id).2.1 = 0 ∧ zi_vin j (M.2.1 id).2.2 = true) ∧ lv' = lv ∧ st' = r ∧ M' = (M.1, M.2.1, zi_up M.2.2.1 id j.toNatClampNeg x, M.2.2.2.1, M.2.2.2.2) := by
  unfold zi_ias at h
  split at h
  · split at h
    · rename_i hc
      simp only [Option.some.injEq, Sum.inl.injEq, Prod.mk.injEq] at h; obtain ⟨rfl, rfl, rfl⟩ := h; exact ⟨_, _, _, _, rfl, hc, rfl, rfl, rfl⟩
    · cases h
  · cases h
theorem zi_lal_inv {lv lv' : zi_L} {st st' : List Value} {M M' : zi_M} (h : zi_lal lv st M = some (.inl (lv', st', M'))) : ∃ id j r, st = .int j :: .ref id :: r ∧ ((M.2.1 id).1 = 2 ∧ (M.2.1 id).2.1 = 1 ∧ zi_vin j (M.2.1 id).2.2 = true) ∧ lv' = lv ∧ st' = .long (M.2.2.2.1 id j.toNatClampNeg) :: r ∧ M' = M := by
  unfold zi_lal at h
  split at h
  · split at h
    · rename_i hc
      simp only [Option.some.injEq, Sum.inl.injEq, Prod.mk.injEq] at h; obtain ⟨rfl, rfl, rfl⟩ := h; exact ⟨_, _, _, rfl, hc, rfl, rfl, rfl⟩
    · cases h
  · cases h
theorem zi_las_inv {lv lv' : zi_L} {st st' : List Value} {M M' : zi_M} (h : zi_las lv st M = some (.inl (lv', st', M'))) : ∃ id j x r, st = .long x :: .int j :: .ref id :: r ∧ ((M.2.1 id).1 = 2 ∧ (M.2.1 id).2.1 = 1 ∧ zi_vin j (M.2.1 id).2.2 = true) ∧ lv' = lv ∧ st' = r ∧ M' = (M.1, M.2.1, M.2.2.1, zi_up M.2.2.2.1 id j.toNatClampNeg x, M.2.2.2.2) := by
  unfold zi_las at h
  split at h
  · split at h
    · rename_i hc
      simp only [Option.some.injEq, Sum.inl.injEq, Prod.mk.injEq] at h; obtain ⟨rfl, rfl, rfl⟩ := h; exact ⟨_, _, _, _, rfl, hc, rfl, rfl, rfl⟩
    · cases h
  · cases h
theorem zi_aal_inv {lv lv' : zi_L} {st st' : List Value} {M M' : zi_M} (h : zi_aal lv st M = some (.inl (lv', st', M'))) : ∃ id j r, st = .int j :: .ref id :: r ∧ ((M.2.1 id).1 = 3 ∧ (2 ≤ (M.2.1 id).2.1 ∧ (M.2.1 id).2.1 < 6) ∧ zi_vin j (M.2.1 id).2.2 = true) ∧ lv' = lv ∧ st' = va_rf (M.2.2.2.2 id j.toNatClampNeg) :: r ∧ M' = M := by
  unfold zi_aal at h
  split at h
  · split at h
    · rename_i hc
      simp only [Option.some.injEq, Sum.inl.injEq, Prod.mk.injEq] at h; obtain ⟨rfl, rfl, rfl⟩ := h; exact ⟨_, _, _, rfl, hc, rfl, rfl, rfl⟩
    · cases h
  · cases h
theorem zi_aas_inv {lv lv' : zi_L} {st st' : List Value} {M M' : zi_M} (h : zi_aas lv st M = some (.inl (lv', st', M'))) : ∃ id j x r, st = .ref x :: .int j :: .ref id :: r ∧ ((M.2.1 id).1 = 3 ∧ (((M.2.1 id).2.1 = 2 ∧ M.2.1 x = (0, 5, 4)) ∨ ((M.2.1 id).2.1 = 3 ∧ M.2.1 x = (0, 4, 6))) ∧ zi_vin j (M.2.1 id).2.2 = true) ∧ lv' = lv ∧ st' = r ∧ M' = (M.1, M.2.1, M.2.2.1, M.2.2.2.1, zi_up M.2.2.2.2 id j.toNatClampNeg (some x)) := by
  unfold zi_aas at h
  split at h
  · split at h
    · rename_i hc
      simp only [Option.some.injEq, Sum.inl.injEq, Prod.mk.injEq] at h; obtain ⟨rfl, rfl, rfl⟩ := h; exact ⟨_, _, _, _, rfl, hc, rfl, rfl, rfl⟩
    · cases h
  · cases h
theorem zi_obj_inv {lv lv' : zi_L} {st st' : List Value} {M M' : zi_M} (h : zi_obj lv st M = some (.inl (lv', st', M'))) : ∃ id r, st = .ref id :: r ∧ (r.length ≤ 4) ∧ lv' = lv ∧ st' = r ∧ M' = M := by
  unfold zi_obj at h
  split at h
  · split at h
    · rename_i hc
      simp only [Option.some.injEq, Sum.inl.injEq, Prod.mk.injEq] at h; obtain ⟨rfl, rfl, rfl⟩ := h; exact ⟨_, _, rfl, hc, rfl, rfl, rfl⟩
    · cases h
  · cases h
theorem zi_aln_inv {sc : Nat × (Nat → Int32)} {lv lv' : zi_L} {st st' : List Value} {M M' : zi_M} (h : zi_aln sc lv st M = some (.inl (lv', st', M'))) :
    (∃ id r, st = .ref id :: r ∧ ((1 ≤ (M.2.1 id).1 ∧ (M.2.1 id).1 ≤ 3) ∧ (M.2.1 id).2.1 < 6) ∧ lv' = lv ∧ st' = .int (nI (M.2.1 id).2.2) :: r ∧ M' = M) ∨ (∃ q r, st = .float q :: r ∧ lv' = lv ∧ st' = .int (nI (zi_ro sc q.toNat).1) :: r ∧ M' = M) := by
  unfold zi_aln at h
  split at h
  · split at h
    · rename_i hc
      simp only [Option.some.injEq, Sum.inl.injEq, Prod.mk.injEq] at h; obtain ⟨rfl, rfl, rfl⟩ := h; exact Or.inl ⟨_, _, rfl, hc, rfl, rfl, rfl⟩
    · cases h
  · simp only [Option.some.injEq, Sum.inl.injEq, Prod.mk.injEq] at h; obtain ⟨rfl, rfl, rfl⟩ := h; exact Or.inr ⟨_, _, rfl, rfl, rfl, rfl⟩
  · cases h
theorem zi_na_inv {kd ty : Nat} {lv lv' : zi_L} {st st' : List Value} {M M' : zi_M} (h : zi_na kd ty lv st M = some (.inl (lv', st', M'))) : ∃ n r, st = .int n :: r ∧ (¬ n < 0 ∧ n.toNatClampNeg ≤ 1000) ∧ lv' = lv ∧ st' = .ref M.1 :: r ∧ M' = zi_born (kd, ty, n.toNatClampNeg) M := by
  unfold zi_na at h
  split at h
  · split at h
    · rename_i hc
      simp only [Option.some.injEq, Sum.inl.injEq, Prod.mk.injEq] at h; obtain ⟨rfl, rfl, rfl⟩ := h; exact ⟨_, _, rfl, hc, rfl, rfl, rfl⟩
    · cases h
  · cases h
/-- memory behind new T[n][k] -/
def zi_grid (ty kd ty2 n k : Nat) (M : zi_M) : zi_M := ((zi_rows (kd, ty2, k) n (zi_born (3, ty, n) M)).1, (zi_rows (kd, ty2, k) n (zi_born (3, ty, n) M)).2.1, (zi_rows (kd, ty2, k) n (zi_born (3, ty, n) M)).2.2.1, (zi_rows (kd, ty2, k) n (zi_born (3, ty, n) M)).2.2.2.1, zi_row (zi_rows (kd, ty2, k) n (zi_born (3, ty, n) M)).2.2.2.2 M.1 (fun j => if j < n then some (M.1 + 1 + j) else none))
theorem zi_mna_inv {ty kd ty2 : Nat} {lv lv' : zi_L} {st st' : List Value} {M M' : zi_M} (h : zi_mna ty kd ty2 lv st M = some (.inl (lv', st', M'))) : ∃ k n r, st = .int k :: .int n :: r ∧ ((¬ n < 0 ∧ n.toNatClampNeg ≤ 1000) ∧ (¬ k < 0 ∧ k.toNatClampNeg ≤ 1000)) ∧ lv' = lv ∧ st' = .ref M.1 :: r ∧ M' = zi_grid ty kd ty2 n.toNatClampNeg k.toNatClampNeg M := by
  unfold zi_mna at h
  split at h
  · split at h
    · rename_i hc
      simp only [Option.some.injEq, Sum.inl.injEq, Prod.mk.injEq] at h; obtain ⟨rfl, rfl, rfl⟩ := h; exact ⟨_, _, _, rfl, hc, rfl, rfl, rfl⟩
    · cases h
  · cases h
theorem zi_cp_inv {lv lv' : zi_L} {st st' : List Value} {M M' : zi_M} (h : zi_cp lv st M = some (.inl (lv', st', M'))) : ∃ n dp y sp x r, st = .int n :: .int dp :: .ref y :: .int sp :: .ref x :: r ∧ (((M.2.1 x).1 = 1 ∧ (M.2.1 x).2.1 = 0 ∧ (M.2.1 y).1 = 1 ∧ (M.2.1 y).2.1 = 0) ∧ (¬ sp < 0 ∧ ¬ dp < 0 ∧ ¬ n < 0) ∧ (sp.toNatClampNeg + n.toNatClampNeg ≤ (M.2.1 x).2.2 ∧ dp.toNatClampNeg + n.toNatClampNeg ≤ (M.2.1 y).2.2) ∧ r.length ≤ 4) ∧ lv' = lv ∧ st' = r ∧ M' = (M.1, M.2.1, zi_row M.2.2.1 y (va_cpy (M.2.2.1 x) (M.2.2.1 y) sp.toNatClampNeg dp.toNatClampNeg n.toNatClampNeg), M.2.2.2.1, M.2.2.2.2) := by
  unfold zi_cp at h
  split at h
  · split at h
    · rename_i hc
      simp only [Option.some.injEq, Sum.inl.injEq, Prod.mk.injEq] at h; obtain ⟨rfl, rfl, rfl⟩ := h; exact ⟨_, _, _, _, _, _, rfl, hc, rfl, rfl, rfl⟩
    · cases h
  · cases h
/-! branches: the two ways -/
theorem zi_if_inv {c : ClassFile.Cond} {b : Nat} {lv : zi_L} {st : List Value} {M : zi_M} {z : zi_N} (h : zi_if c b lv st M = some z) : ∃ x r, st = .int x :: r ∧ z = if zi_cmp c x 0 = true then .inr (.inl (b, r)) else .inl (lv, r, M) := by
  unfold zi_if at h
  split at h
  · rename_i x r
    refine ⟨x, r, rfl, ?_⟩
    split at h
    · rename_i hc
      rw [if_pos hc]; exact (Option.some.inj h).symm
    · rename_i hc
      rw [if_neg hc]; exact (Option.some.inj h).symm
  · cases h
theorem zi_ic_inv {c : ClassFile.Cond} {b : Nat} {lv : zi_L} {st : List Value} {M : zi_M} {z : zi_N} (h : zi_ic c b lv st M = some z) : ∃ x y r, st = .int y :: .int x :: r ∧ z = if zi_cmp c x y = true then .inr (.inl (b, r)) else .inl (lv, r, M) := by
  unfold zi_ic at h
  split at h
  · rename_i y x r
    refine ⟨x, y, r, rfl, ?_⟩
    split at h
    · rename_i hc
      rw [if_pos hc]; exact (Option.some.inj h).symm
    · rename_i hc
      rw [if_neg hc]; exact (Option.some.inj h).symm
  · cases h
theorem zi_nul_inv {b : Nat} {lv : zi_L} {st : List Value} {M : zi_M} {z : zi_N} (h : zi_nul b lv st M = some z) : (∃ r, st = .null :: r ∧ z = .inr (.inl (b, r))) ∨ ∃ x r, st = .ref x :: r ∧ z = .inl (lv, r, M) := by
  unfold zi_nul at h
  split at h
  · exact Or.inl ⟨_, rfl, (Option.some.inj h).symm⟩
  · exact Or.inr ⟨_, _, rfl, (Option.some.inj h).symm⟩
  · cases h
theorem zi_nnl_inv {b : Nat} {lv : zi_L} {st : List Value} {M : zi_M} {z : zi_N} (h : zi_nnl b lv st M = some z) : (∃ r, st = .null :: r ∧ z = .inl (lv, r, M)) ∨ ∃ x r, st = .ref x :: r ∧ z = .inr (.inl (b, r)) := by
  unfold zi_nnl at h
  split at h
  · exact Or.inl ⟨_, rfl, (Option.some.inj h).symm⟩
  · exact Or.inr ⟨_, _, rfl, (Option.some.inj h).symm⟩
  · cases h
theorem zi_sw_inv {f : Int32 → Nat} {st : List Value} {z : zi_N} (h : zi_sw f st = some z) : ∃ x r, st = .int x :: r ∧ z = .inr (.inl (f x, r)) := by
  unfold zi_sw at h
  split at h
  · exact ⟨_, _, rfl, (Option.some.inj h).symm⟩
  · cases h
theorem zi_iv_inv {j n : Nat} {l : List Nat} {st : List Value} {z : zi_N} (h : zi_iv j n l st = some z) : ∃ as r, zi_pop n [] st = some (as, r) ∧ zi_sh r = true ∧ zi_fit as (l.getD 0 0) = true ∧ z = .inr (.inr (.inr (j, as, r))) := by
  unfold zi_iv at h
  split at h
  · rename_i as r hp
    split at h
    · rename_i hc
      exact ⟨as, r, hp, hc.1, hc.2, (Option.some.inj h).symm⟩
    · cases h
  · cases h
theorem zi_ivr_inv {j n : Nat} {l : List Nat} {st : List Value} {M : zi_M} {z : zi_N} (h : zi_ivr j n l st M = some z) : ∃ id as r, zi_pop n [] st = some (.ref id :: as, r) ∧ M.2.1 id = (0, l.getD 0 0, l.getD 1 0) ∧ zi_sh r = true ∧ zi_fit (.ref id :: as) (l.getD 2 0) = true ∧ z = .inr (.inr (.inr (j, .ref id :: as, r))) := by
  unfold zi_ivr at h
  split at h
  · rename_i id as r hp
    split at h
    · rename_i hc
      exact ⟨id, as, r, hp, hc.1, hc.2.1, hc.2.2, (Option.some.inj h).symm⟩
    · cases h
  · cases h
theorem zi_ri_inv {q : Nat} {st : List Value} {z : zi_N} (h : zi_ri q st = some z) : ∃ x, st = [.int x] ∧ (q = 1 → x = 0 ∨ x = 1) ∧ z = .inr (.inr (.inl (some (.int x)))) := by
  unfold zi_ri at h
  split at h
  · rename_i x
    split at h
    · split at h
      · rename_i hx
        exact ⟨x, rfl, fun _ => hx, (Option.some.inj h).symm⟩
      · cases h
    · rename_i hq
      exact ⟨x, rfl, fun q => absurd q hq, (Option.some.inj h).symm⟩
  · cases h
theorem zi_rl_inv {st : List Value} {z : zi_N} (h : zi_rl st = some z) : ∃ x, st = [.long x] ∧ z = .inr (.inr (.inl (some (.long x)))) := by
  unfold zi_rl at h
  split at h
  · exact ⟨_, rfl, (Option.some.inj h).symm⟩
  · cases h
theorem zi_ra_inv {st : List Value} {z : zi_N} (h : zi_ra st = some z) : ∃ v, st = [v] ∧ (v = .null ∨ ∃ x, v = .ref x) ∧ z = .inr (.inr (.inl (some v))) := by
  unfold zi_ra at h
  split at h
  · exact ⟨_, rfl, Or.inr ⟨_, rfl⟩, (Option.some.inj h).symm⟩
  · exact ⟨_, rfl, Or.inl rfl, (Option.some.inj h).symm⟩
  · cases h
theorem zi_rv_inv {st : List Value} {z : zi_N} (h : zi_rv st = some z) : st = [] ∧ z = .inr (.inr (.inl none)) := by
  unfold zi_rv at h
  split at h
  · exact ⟨rfl, (Option.some.inj h).symm⟩
  · cases h
end
section
/-! instructions that read or write memory, in the world of the interpreter -/
section ZM
variable {p : Program} {l : Launch} {e : Env} {R : Room} {s : State} {m : MethodId} {args : Array Value} {below : List Frame} {meth : Method} {c : Code} {H : Heap} {locs : List Loc} {cells slots : Nat} {Q : State → Prop}
variable {cc : ByteArray} {pc : Nat} {ls : Array Slot} {rest : List Value} {a0 : Nat} {τ : Nat → ClassId} {dC : Nat → ClassId} {dI : Nat → Nat → Nat} {M : zi_M}
theorem zi_c1 {id : Nat} (h1 : (M.2.1 id).1 = 1) (h2 : (M.2.1 id).2.1 = 0) : zi_c a0 τ M id = .inl (τ 0, (M.2.1 id).2.2, .inl (M.2.2.1 id)) := by
  have e : M.2.1 id = (1, 0, (M.2.1 id).2.2) := Prod.ext h1 (Prod.ext h2 rfl)
  unfold zi_c
  rw [e]
  rfl
theorem zi_c2 {id : Nat} (h1 : (M.2.1 id).1 = 2) (h2 : (M.2.1 id).2.1 = 1) : zi_c a0 τ M id = .inl (τ 1, (M.2.1 id).2.2, .inr (.inl (M.2.2.2.1 id))) := by
  have e : M.2.1 id = (2, 1, (M.2.1 id).2.2) := Prod.ext h1 (Prod.ext h2 rfl)
  unfold zi_c
  rw [e]
  rfl
theorem zi_c3 {id : Nat} (h1 : (M.2.1 id).1 = 3) : zi_c a0 τ M id = .inl (τ (M.2.1 id).2.1, (M.2.1 id).2.2, .inr (.inr (.inr (.inr (fun j => zi_ad a0 (M.2.2.2.2 id j)))))) := by
  have e : M.2.1 id = (3, (M.2.1 id).2.1, (M.2.1 id).2.2) := Prod.ext h1 rfl
  unfold zi_c
  rw [e]
  rfl
theorem zi_c0 {id ci n : Nat} (h1 : M.2.1 id = (0, ci, n)) : zi_c a0 τ M id = .inr (ci, zi_fs a0 ci n (M.2.2.1 id) (M.2.2.2.2 id)) := by
  unfold zi_c
  rw [h1]
  rfl
theorem zi_at {id : Nat} (hW : zi_W a0 τ dC dI M H) (hj : (M.2.1 id).1 ≠ 9) : (zi_ws a0 τ M)[id]? = some (a0 + id, zi_c a0 τ M id) := zi_ws_at (hW.lt hj)
theorem zi_t_iald (hx : p.tables.exec = Jvm.exec) (hb : c.code = cc) (hK : va_K (dC, dI) vwCl (zi_tys τ) s) (hW : zi_W a0 τ dC dI M H) {id : Nat} {j : Int32} (h1 : (M.2.1 id).1 = 1) (h2 : (M.2.1 id).2.1 = 0) (hin : vp_in j (M.2.1 id).2.2) (hdg : decode cc pc = .ok (.iaload, 1))
    (kk : W p l e R s m args below meth c H locs cells slots Q (F0 m (pc + 1) ls (.int (M.2.2.1 id j.toNatClampNeg) :: rest))) : W p l e R s m args below meth c H locs cells slots Q (F0 m pc ls (.int j :: .ref (a0 + id) :: rest)) := by
  have ha := zi_at hW (id := id) (by rw [h1]; decide)
  rw [zi_c1 h1 h2] at ha
  exact va_iald hx hb hK hW.2 id 0 ha rfl hin hdg kk
theorem zi_t_lald (hx : p.tables.exec = Jvm.exec) (hb : c.code = cc) (hK : va_K (dC, dI) vwCl (zi_tys τ) s) (hW : zi_W a0 τ dC dI M H) {id : Nat} {j : Int32} (h1 : (M.2.1 id).1 = 2) (h2 : (M.2.1 id).2.1 = 1) (hin : vp_in j (M.2.1 id).2.2) (hdg : decode cc pc = .ok (.laload, 1))
    (kk : W p l e R s m args below meth c H locs cells slots Q (F0 m (pc + 1) ls (.long (M.2.2.2.1 id j.toNatClampNeg) :: rest))) : W p l e R s m args below meth c H locs cells slots Q (F0 m pc ls (.int j :: .ref (a0 + id) :: rest)) := by
  have ha := zi_at hW (id := id) (by rw [h1]; decide)
  rw [zi_c2 h1 h2] at ha
  exact va_lald hx hb hK hW.2 id 1 ha rfl hin hdg kk
theorem zi_tys_ref {t : Nat} (h : 2 ≤ t ∧ t < 6) : ∃ ty, (zi_tys τ)[t]? = some (τ t, ty) ∧ ty.isReference = true := by
  match t, h with
  | 2, _ => exact ⟨_, rfl, rfl⟩
  | 3, _ => exact ⟨_, rfl, rfl⟩
  | 4, _ => exact ⟨_, rfl, rfl⟩
  | 5, _ => exact ⟨_, rfl, rfl⟩
  | 0, h => exact absurd h.1 (by decide)
  | 1, h => exact absurd h.1 (by decide)
  | t + 6, h => exact absurd h.2 (by omega)
theorem zi_t_aald (hx : p.tables.exec = Jvm.exec) (hb : c.code = cc) (hK : va_K (dC, dI) vwCl (zi_tys τ) s) (hW : zi_W a0 τ dC dI M H) {id : Nat} {j : Int32} (h1 : (M.2.1 id).1 = 3) (h2 : 2 ≤ (M.2.1 id).2.1 ∧ (M.2.1 id).2.1 < 6) (hin : vp_in j (M.2.1 id).2.2) (hdg : decode cc pc = .ok (.aaload, 1))
    (kk : W p l e R s m args below meth c H locs cells slots Q (F0 m (pc + 1) ls (va_rf (zi_ad a0 (M.2.2.2.2 id j.toNatClampNeg)) :: rest))) : W p l e R s m args below meth c H locs cells slots Q (F0 m pc ls (.int j :: .ref (a0 + id) :: rest)) := by
  have ha := zi_at hW (id := id) (by rw [h1]; decide)
  rw [zi_c3 h1] at ha
  obtain ⟨ty, ht, hr⟩ := zi_tys_ref (τ := τ) h2
  have hlt : j.toNatClampNeg < (M.2.1 id).2.2 := Nat.not_le.mp fun q => hin (Or.inr q)
  exact W.aald (v := va_rf (zi_ad a0 (M.2.2.2.2 id j.toNatClampNeg))) (ty := ty) hx hb (hW.2 id _ ha) ((hK.2 _ _ ht).1 _ (fun j => va_rf (zi_ad a0 (M.2.2.2.2 id j)))) hr (fun q => by cases q) (by show ¬ (j < 0 ∨ (arrV _ _ _).slots.size ≤ _); rw [arrV_size]; exact hin) (by show (arrV _ _ _).slots[_]? = _; rw [arrV_read _ _ hlt]) rfl rfl hdg kk
theorem zi_tys_all {t : Nat} (h : t < 6) : ∃ ty, (zi_tys τ)[t]? = some (τ t, ty) := by
  match t, h with
  | 0, _ => exact ⟨_, rfl⟩
  | 1, _ => exact ⟨_, rfl⟩
  | 2, _ => exact ⟨_, rfl⟩
  | 3, _ => exact ⟨_, rfl⟩
  | 4, _ => exact ⟨_, rfl⟩
  | 5, _ => exact ⟨_, rfl⟩
  | t + 6, h => exact absurd h (by omega)
theorem zi_t_alen (hx : p.tables.exec = Jvm.exec) (hb : c.code = cc) (hK : va_K (dC, dI) vwCl (zi_tys τ) s) (hW : zi_W a0 τ dC dI M H) {id : Nat} (h0 : (M.2.1 id).1 ≠ 9) (h1 : 1 ≤ (M.2.1 id).1) (h2 : (M.2.1 id).2.1 < 6) (hdg : decode cc pc = .ok (.arraylength, 1))
    (kk : W p l e R s m args below meth c H locs cells slots Q (F0 m (pc + 1) ls (.int (nI (M.2.1 id).2.2) :: rest))) : W p l e R s m args below meth c H locs cells slots Q (F0 m pc ls (.ref (a0 + id) :: rest)) := by
  have ha := zi_at hW h0
  obtain ⟨ty, ht⟩ := zi_tys_all (τ := τ) h2
  have hc : ∃ x : vp_A, zi_c a0 τ M id = .inl (τ (M.2.1 id).2.1, x) ∧ x.1 = (M.2.1 id).2.2 := by
    unfold zi_c zi_cel
    split
    · rename_i h; omega
    · exact ⟨_, rfl, rfl⟩
    · exact ⟨_, rfl, rfl⟩
    · exact ⟨_, rfl, rfl⟩
  obtain ⟨x, hx1, hx2⟩ := hc
  rw [hx1] at ha
  exact va_alen hx hb hK hW.2 id _ ha ht (v := nI (M.2.1 id).2.2) (by rw [hx2]; rfl) hdg kk
theorem zi_t_iast (hx : p.tables.exec = Jvm.exec) (hb : c.code = cc) (hK : va_K (dC, dI) vwCl (zi_tys τ) s) (hW : zi_W a0 τ dC dI M H) (hS : va_S (zi_A a0) s.heap H locs) {id : Nat} {j x : Int32} (h1 : (M.2.1 id).1 = 1) (h2 : (M.2.1 id).2.1 = 0) (hin : vp_in j (M.2.1 id).2.2) (hdg : decode cc pc = .ok (.iastore, 1))
    (kk : ∀ (H1 : Heap) (locs1 : List Loc), zi_W a0 τ dC dI (M.1, M.2.1, zi_up M.2.2.1 id j.toNatClampNeg x, M.2.2.2.1, M.2.2.2.2) H1 → va_S (zi_A a0) s.heap H1 locs1 → W p l e R s m args below meth c H1 locs1 cells slots Q (F0 m (pc + 1) ls rest)) : W p l e R s m args below meth c H locs cells slots Q (F0 m pc ls (.int x :: .int j :: .ref (a0 + id) :: rest)) := by
  have hne : (M.2.1 id).1 ≠ 9 := by rw [h1]; decide
  have ha := zi_at hW hne
  rw [zi_c1 h1 h2] at ha
  refine W.iast hx hb (hW.2 id _ ha) ((hK.2 0 _ rfl).1 _ (fun j => .int (M.2.2.1 id j))) (fun q => by cases q) (by show ¬ (j < 0 ∨ (arrV _ _ _).slots.size ≤ _); rw [arrV_size]; exact hin) rfl rfl hdg fun H1 e1 z oq => ?_
  refine kk H1 _ (hW.set (hW.lt hne) z ?_ oq rfl rfl (fun i hi => ?_)) (hS.put z oq (Nat.le_add_right _ _))
  · rw [zi_c1 (M := (M.1, M.2.1, zi_up M.2.2.1 id j.toNatClampNeg x, M.2.2.2.1, M.2.2.2.2)) h1 h2]
    show H1[a0 + id]? = some (vp_cell _ _)
    rw [e1, vp_cell_i, vp_cell_i, arrV_store]
    congr 2
    funext q
    show _ = Value.int (zi_up M.2.2.1 id j.toNatClampNeg x id q)
    rw [zi_up_eq]
    by_cases hq : q = j.toNatClampNeg
    · subst hq
      simp [updV, va_up]
    · simp [updV, va_up, hq]
  · simp only [zi_c, zi_up_ne _ _ _ hi]
theorem zi_t_last (hx : p.tables.exec = Jvm.exec) (hb : c.code = cc) (hK : va_K (dC, dI) vwCl (zi_tys τ) s) (hW : zi_W a0 τ dC dI M H) (hS : va_S (zi_A a0) s.heap H locs) {id : Nat} {j : Int32} {x : Int64} (h1 : (M.2.1 id).1 = 2) (h2 : (M.2.1 id).2.1 = 1) (hin : vp_in j (M.2.1 id).2.2) (hdg : decode cc pc = .ok (.lastore, 1))
    (kk : ∀ (H1 : Heap) (locs1 : List Loc), zi_W a0 τ dC dI (M.1, M.2.1, M.2.2.1, zi_up M.2.2.2.1 id j.toNatClampNeg x, M.2.2.2.2) H1 → va_S (zi_A a0) s.heap H1 locs1 → W p l e R s m args below meth c H1 locs1 cells slots Q (F0 m (pc + 1) ls rest)) : W p l e R s m args below meth c H locs cells slots Q (F0 m pc ls (.long x :: .int j :: .ref (a0 + id) :: rest)) := by
  have hne : (M.2.1 id).1 ≠ 9 := by rw [h1]; decide
  have ha := zi_at hW hne
  rw [zi_c2 h1 h2] at ha
  refine W.last hx hb (hW.2 id _ ha) ((hK.2 1 _ rfl).1 _ (fun j => .long (M.2.2.2.1 id j))) (fun q => by cases q) (by show ¬ (j < 0 ∨ (arrV _ _ _).slots.size ≤ _); rw [arrV_size]; exact hin) rfl rfl hdg fun H1 e1 z oq => ?_
  refine kk H1 _ (hW.set (hW.lt hne) z ?_ oq rfl rfl (fun i hi => ?_)) (hS.put z oq (Nat.le_add_right _ _))
  · rw [zi_c2 (M := (M.1, M.2.1, M.2.2.1, zi_up M.2.2.2.1 id j.toNatClampNeg x, M.2.2.2.2)) h1 h2]
    show H1[a0 + id]? = some (vp_cell _ _)
    rw [e1, vp_cell_l, vp_cell_l, arrV_store]
    congr 2
    funext q
    show _ = Value.long (zi_up M.2.2.2.1 id j.toNatClampNeg x id q)
    rw [zi_up_eq]
    by_cases hq : q = j.toNatClampNeg
    · subst hq
      simp [updV, va_up]
    · simp [updV, va_up, hq]
  · simp only [zi_c, zi_up_ne _ _ _ hi]
theorem zi_t_aast (hx : p.tables.exec = Jvm.exec) (hb : c.code = cc) (hK : va_K (dC, dI) vwCl (zi_tys τ) s) (hW : zi_W a0 τ dC dI M H) (hS : va_S (zi_A a0) s.heap H locs) {id x ci : Nat} {j : Int32} {C : String} {T : u_T} {N t0 : Nat} (h1 : (M.2.1 id).1 = 3) (ht : (M.2.1 id).2.1 = t0) (htt : (zi_tys τ)[t0]? = some (τ t0, .object C)) (hv : M.2.1 x = (0, ci, N)) (hc : vwCl[ci]? = some (C, T, N)) (hin : vp_in j (M.2.1 id).2.2) (hdg : decode cc pc = .ok (.aastore, 1))
    (kk : ∀ (H1 : Heap) (locs1 : List Loc), zi_W a0 τ dC dI (M.1, M.2.1, M.2.2.1, M.2.2.2.1, zi_up M.2.2.2.2 id j.toNatClampNeg (some x)) H1 → va_S (zi_A a0) s.heap H1 locs1 → W p l e R s m args below meth c H1 locs1 cells slots Q (F0 m (pc + 1) ls rest)) : W p l e R s m args below meth c H locs cells slots Q (F0 m pc ls (.ref (a0 + x) :: .int j :: .ref (a0 + id) :: rest)) := by
  have hne : (M.2.1 id).1 ≠ 9 := by rw [h1]; decide
  have ha := zi_at hW hne
  rw [zi_c3 h1, ht] at ha
  have hlt : j.toNatClampNeg < (M.2.1 id).2.2 := Nat.not_le.mp fun q => hin (Or.inr q)
  have h0 : ¬ j < 0 := fun q => hin (Or.inl q)
  have hvx := zi_at hW (id := x) (by rw [hv]; show (0 : Nat) ≠ 9; decide)
  rw [zi_c0 hv] at hvx
  obtain ⟨r', hr', cellV, g1, g2, g3, -⟩ := hW.2 x _ hvx
  have hcls := (hK.1 ci _ hc).2
  obtain ⟨kA, comp, k1, k2, k3, -⟩ := (hK.2 t0 _ htt).2
  have hcomp : comp = dC ci := Option.some.inj (k3.symm.trans hcls.1)
  subst hcomp
  obtain ⟨kC, hkC, -⟩ := hcls.2
  refine W.aast hx hb (hW.2 id _ ha) (fun q h => by cases h) (fun h => by cases h) k1 k2 rfl hkC ⟨h0, by show _ < (arrV _ _ _).slots.size; rw [arrV_size]; exact hlt⟩ g1 (fun q h => by rw [g3] at h; cases h) (by rw [g2]; exact hkC) (by rw [g2]; exact va_assign hcls) rfl rfl hdg fun H1 e1 z oq => ?_
  refine kk H1 _ (hW.set (hW.lt hne) z ?_ oq rfl rfl (fun i hi => ?_)) (hS.put z oq (Nat.le_add_right _ _))
  · rw [zi_c3 (M := (M.1, M.2.1, M.2.2.1, M.2.2.2.1, zi_up M.2.2.2.2 id j.toNatClampNeg (some x))) h1]
    show H1[a0 + id]? = some (vp_cell (τ (M.2.1 id).2.1) _)
    rw [ht, e1, vp_cell_q, vp_cell_q, arrV_store]
    congr 2
    funext q
    show _ = va_rf (zi_ad a0 (zi_up M.2.2.2.2 id j.toNatClampNeg (some x) id q))
    rw [zi_up_eq]
    by_cases hq : q = j.toNatClampNeg
    · subst hq
      simp [updV, va_up, va_rf, zi_ad]
    · simp [updV, va_up, hq]
  · simp only [zi_c, zi_up_ne _ _ _ hi]
end ZM
end
section
/-! fields, and what makes cells, in the world of the interpreter -/
theorem zi_fs_setI {a0 ci n : Nat} {I : Nat → Int32} {R : Nat → Option Nat} {k : Nat} {x : Int32} (h : zi_tg ci k ≠ 2) : zi_fs a0 ci n (va_up I k x) R = (zi_fs a0 ci n I R).set k (.int x) := by
  apply List.ext_getElem?
  intro i
  by_cases hi : i < n
  · rw [zi_fs_at hi]
    by_cases hk : i = k
    · subst hk
      rw [List.getElem?_set_self (by rw [zi_fs_len]; exact hi)]
      simp only [va_up, if_pos]
      congr 1
      unfold zi_fv
      split <;> simp_all
    · rw [List.getElem?_set_ne (fun e => hk e.symm), zi_fs_at hi]
      simp only [va_up, if_neg hk]
  · rw [List.getElem?_eq_none (by rw [zi_fs_len]; omega), List.getElem?_eq_none (by rw [List.length_set, zi_fs_len]; omega)]
theorem zi_fs_setR {a0 ci n : Nat} {I : Nat → Int32} {R : Nat → Option Nat} {k : Nat} {r : Option Nat} (h : zi_tg ci k = 2) : zi_fs a0 ci n I (va_up R k r) = (zi_fs a0 ci n I R).set k (va_rf (zi_ad a0 r)) := by
  apply List.ext_getElem?
  intro i
  by_cases hi : i < n
  · rw [zi_fs_at hi]
    by_cases hk : i = k
    · subst hk
      rw [List.getElem?_set_self (by rw [zi_fs_len]; exact hi), h]
      simp only [va_up, if_pos]
      rfl
    · rw [List.getElem?_set_ne (fun e => hk e.symm), zi_fs_at hi]
      simp only [va_up, if_neg hk]
  · rw [List.getElem?_eq_none (by rw [zi_fs_len]; omega), List.getElem?_eq_none (by rw [List.length_set, zi_fs_len]; omega)]
section ZO
variable {p : Program} {l : Launch} {e : Env} {R : Room} {s : State} {m : MethodId} {args : Array Value} {below : List Frame} {meth : Method} {c : Code} {H : Heap} {locs : List Loc} {cells slots : Nat} {Q : State → Prop}
variable {cc : ByteArray} {pc : Nat} {ls : Array Slot} {rest : List Value} {D : va_G} {cl : List vw_C} {a : Nat} {tys : List (ClassId × FieldType)} {ws : va_W}
/-- putfield, with the heap's size -/
theorem zi_vput (hexec : p.tables.exec = Jvm.exec) (hb : c.code = cc) {own ref C : String} {T : u_T} {N ci index : Nat} {Ts : List Cond} (hts : ∀ w ∈ Ts, w.before args s = true) (hin : ∀ w ∈ u_ws C T N, w ∈ Ts) (ty0 : Nat → FieldType) (hty : ∀ k, k < N → parseFieldDescriptor (T k).2.2.1 = some (ty0 k)) (hnm : ∀ a, a < N → ∀ b, b < N → a ≠ b → (T a).2.1 ≠ (T b).2.1) (hown : s.vm.findClass own = some m.cls) (hK : va_K D cl tys s) (hP : va_P D cl ws H) (q0 : Nat) {fs : List Value} (he : ws[q0]? = some (a, .inr (ci, fs))) (hc : cl[ci]? = some (C, T, N)) (k : Nat) (hk : k < N) (hlink : (Cond.fieldLink own index ref (T k).2.1 (T k).2.2.1).before args s = true) (hsame : ∀ x, s.fieldFound? (T k).1 (T k).2.1 (T k).2.2.1 = some x → s.fieldFound? ref (T k).2.1 (T k).2.2.1 = some x)
    (hfin : (T k).2.2.2 = true → meth.name = "<init>" ∧ (T k).1 = own) {ty : FieldType} {v : Value} (hd : parseFieldDescriptor (T k).2.2.1 = some ty) (hn : narrow ty v = v) (hfit : fits ty v = true) (hl : k < fs.length)
    (hdg : decode cc pc = .ok (.putfield index, 3)) (kk : ∀ (H1 : Heap) (i : Nat), va_at D cl (a, .inr (ci, fs.set k v)) H1 → H1.size = H.size → (∀ q : Nat, q ≠ a → H1[q]? = H[q]?) → W p l e R s m args below meth c H1 (locs ++ [⟨a, i⟩]) cells slots Q (F0 m (pc + 3) ls rest)) : W p l e R s m args below meth c H locs cells slots Q (F0 m pc ls (v :: .ref a :: rest)) := by
  have hap := va_apart (own := own) hts hin ty0 hty hnm hK hc
  obtain ⟨r, h1, cell, q1, q2, q3, q4⟩ := hP q0 _ he
  have hr : r = (C, T, N) := Option.some.inj (h1.symm.trans hc)
  subst hr
  obtain ⟨hS, hfc, kC, hkC, hkind⟩ := hK.1 ci _ hc
  obtain ⟨cf, kf, fi, f, hi, hsl⟩ := hS k hk
  have hlay := hts _ (hin _ (u_in_lay hk))
  unfold u_lay at hlay
  have hst := (u_facts hfc hkC (u_lays hts hin hk) hi).1
  by_cases hf : (T k).2.2.2 = true
  · obtain ⟨hin2, hdecl⟩ := hfin hf
    rw [if_pos hf] at hlay
    have hcf : m.cls = cf := by
      obtain ⟨_, _, c', _, _, _, -, -, hf', -, -, -, hown2, -⟩ := Cond.laysFinal_spec hlay
      have e1 : c' = cf := by have := hi.symm.trans hf'; simp at this; exact this.1.symm
      rw [hdecl] at hown2
      rw [← e1]; exact Option.some.inj (hown.symm.trans hown2)
    have h6 := u_fits hfc hkC hkind (Or.inr hlay) hi hd hn hfit
    refine W.putFinK hexec hb hown hlink (hsame _ hi) hst hcf hin2 (by rw [q2]; exact h6) q1 q3 (by rw [hsl]; exact k2_hasslot (q4 k hk)) rfl rfl hdg fun H' e1 e2 e3 => ?_
    rw [hsl] at e1 ⊢
    exact kk H' _ ⟨_, hc, t_OB.to (V := updV (vp_V fs) k v) ⟨_, e1, q2, q3, t_set q4 hap hk v⟩ (fun j _ => vp_updV_set hl v j)⟩ e2 e3
  · rw [if_neg hf] at hlay
    have h6 := u_store hfc hkC hkind hlay hi hd hn hfit
    refine W.putK hexec hb (f := f) ⟨hown, hlink, ⟨_, _, _, hsame _ hi⟩, hst⟩ (by rw [q2]; exact h6) q1 q3 (by rw [hsl]; exact k2_hasslot (q4 k hk)) rfl rfl hdg fun H' e1 e2 e3 => ?_
    rw [hsl] at e1 ⊢
    exact kk H' _ ⟨_, hc, t_OB.to (V := updV (vp_V fs) k v) ⟨_, e1, q2, q3, t_set q4 hap hk v⟩ (fun j _ => vp_updV_set hl v j)⟩ e2 e3
variable {a0 : Nat} {τ : Nat → ClassId} {dC : Nat → ClassId} {dI : Nat → Nat → Nat} {M : zi_M} {σ : Nat → Nat}
theorem zi_fk_spec {own : String} {idx slot : Nat} {l : List Nat} (h : zi_fk own idx slot l = true) : l.getD 0 0 < 9 ∧ l.getD 1 0 = (zi_q (l.getD 0 0)).2.2 ∧ slot < (zi_q (l.getD 0 0)).2.2 ∧ ((zi_q (l.getD 0 0)).2.1 slot).1 = (zi_q (l.getD 0 0)).1 ∧ Cond.fieldLink own idx (zi_q (l.getD 0 0)).1 ((zi_q (l.getD 0 0)).2.1 slot).2.1 ((zi_q (l.getD 0 0)).2.1 slot).2.2.1 ∈ zi_gw := by
  unfold zi_fk at h
  simp only [Bool.and_eq_true, decide_eq_true_eq] at h
  exact ⟨h.1, h.2.1, h.2.2.1, h.2.2.2.1, zi_w_in h.2.2.2.2⟩
theorem zi_t_get (hx : p.tables.exec = Jvm.exec) (hb : c.code = cc) (hts : ∀ w ∈ zi_gw, w.before args s = true) {own : String} (hown : s.vm.findClass own = some m.cls) (hK : va_K (dC, dI) vwCl (zi_tys τ) s) (hW : zi_W a0 τ dC dI M H) {id idx slot tag : Nat} {l' : List Nat} (hid : M.2.1 id = (0, l'.getD 0 0, l'.getD 1 0)) (hfk : zi_fk own idx slot l' = true) (htag : tag = 2 ↔ zi_tg (l'.getD 0 0) slot = 2) (hdg : decode cc pc = .ok (.getfield idx, 3))
    (kk : W p l e R s m args below meth c H locs cells slots Q (F0 m (pc + 3) ls (zi_con a0 σ (zi_fv tag (M.2.2.1 id slot) (M.2.2.2.2 id slot)) :: rest))) : W p l e R s m args below meth c H locs cells slots Q (F0 m pc ls (.ref (a0 + id) :: rest)) := by
  obtain ⟨h1, h2, h3, h4, h5⟩ := zi_fk_spec hfk
  have ha := zi_at hW (id := id) (by rw [hid]; show (0 : Nat) ≠ 9; decide)
  rw [zi_c0 hid] at ha
  refine va_get hx hb hts (zi_q_in h1) hown hK hW.2 id ha (zi_q_at h1) slot h3 (hts _ h5) (fun x hx => by rw [← h4]; exact hx) (zi_fs_at (by rw [h2]; exact h3)) hdg ?_
  rw [← zi_fv_con (σ := σ) htag]
  exact kk
theorem zi_nar_bool {x : Int32} (h : x = 0 ∨ x = 1) : narrow .boolean (.int x) = .int x ∧ fits .boolean (.int x) = true := by
  rcases h with rfl | rfl <;> exact ⟨by decide, by decide⟩
theorem zi_nar_ref {ty : FieldType} (h : ty.isReference = true) (a : Nat) : narrow ty (.ref a) = .ref a ∧ fits ty (.ref a) = true := by
  cases ty <;> simp_all [FieldType.isReference, narrow, fits]
theorem zi_t_putI (hx : p.tables.exec = Jvm.exec) (hb : c.code = cc) (hts : ∀ w ∈ zi_gw, w.before args s = true) {own : String} (hown : s.vm.findClass own = some m.cls) (hK : va_K (dC, dI) vwCl (zi_tys τ) s) (hW : zi_W a0 τ dC dI M H) (hS : va_S (zi_A a0) s.heap H locs) {id idx slot tag : Nat} {l' : List Nat} {x : Int32} (hid : M.2.1 id = (0, l'.getD 0 0, l'.getD 1 0)) (hfk : zi_fk own idx slot l' = true) (htag : zi_tgt (zi_ty (l'.getD 0 0) slot) = tag) (hx2 : tag = 0 ∨ (tag = 1 ∧ (x = 0 ∨ x = 1)))
    (hfin : ((zi_q (l'.getD 0 0)).2.1 slot).2.2.2 = true → meth.name = "<init>" ∧ ((zi_q (l'.getD 0 0)).2.1 slot).1 = own) (hdg : decode cc pc = .ok (.putfield idx, 3))
    (kk : ∀ (H1 : Heap) (locs1 : List Loc), zi_W a0 τ dC dI (M.1, M.2.1, zi_up M.2.2.1 id slot x, M.2.2.2.1, M.2.2.2.2) H1 → va_S (zi_A a0) s.heap H1 locs1 → W p l e R s m args below meth c H1 locs1 cells slots Q (F0 m (pc + 3) ls rest)) : W p l e R s m args below meth c H locs cells slots Q (F0 m pc ls (.int x :: .ref (a0 + id) :: rest)) := by
  obtain ⟨h1, h2, h3, h4, h5⟩ := zi_fk_spec hfk
  have hne : (M.2.1 id).1 ≠ 9 := by rw [hid]; show (0 : Nat) ≠ 9; decide
  have ha := zi_at hW hne
  rw [zi_c0 hid] at ha
  have hnf : narrow (zi_ty (l'.getD 0 0) slot) (.int x) = .int x ∧ fits (zi_ty (l'.getD 0 0) slot) (.int x) = true := by
    generalize zi_ty (l'.getD 0 0) slot = ty at htag
    rcases hx2 with h | ⟨h, hx3⟩
    · have : ty = .int := by cases ty <;> simp_all [zi_tgt]
      subst this
      exact ⟨rfl, rfl⟩
    · have : ty = .boolean := by cases ty <;> simp_all [zi_tgt]
      subst this
      exact zi_nar_bool hx3
  have htg : zi_tg (l'.getD 0 0) slot ≠ 2 := by
    unfold zi_tg
    rw [htag]
    rcases hx2 with h | ⟨h, -⟩ <;> rw [h] <;> decide
  refine zi_vput hx hb hts (zi_q_in h1) (zi_ty (l'.getD 0 0)) (zi_q_ty h1) (zi_q_nm h1) hown hK hW.2 id ha (zi_q_at h1) slot h3 (hts _ h5) (fun x hx => by rw [← h4]; exact hx) hfin (zi_q_ty h1 slot h3) hnf.1 hnf.2 (by rw [zi_fs_len, h2]; exact h3) hdg fun H1 i he z oq => ?_
  refine kk H1 _ (hW.set (hW.lt hne) z ?_ oq rfl rfl (fun i hi => ?_)) (hS.put z oq (Nat.le_add_right _ _))
  · rw [zi_c0 (M := (M.1, M.2.1, zi_up M.2.2.1 id slot x, M.2.2.2.1, M.2.2.2.2)) hid]
    show va_at _ _ (a0 + id, .inr (_, zi_fs _ _ _ (zi_up M.2.2.1 id slot x id) _)) H1
    rw [zi_up_eq, zi_fs_setI htg]
    exact he
  · simp only [zi_c, zi_up_ne _ _ _ hi]
theorem zi_t_putR (hx : p.tables.exec = Jvm.exec) (hb : c.code = cc) (hts : ∀ w ∈ zi_gw, w.before args s = true) {own : String} (hown : s.vm.findClass own = some m.cls) (hK : va_K (dC, dI) vwCl (zi_tys τ) s) (hW : zi_W a0 τ dC dI M H) (hS : va_S (zi_A a0) s.heap H locs) {id idx slot x : Nat} {l' : List Nat} (hid : M.2.1 id = (0, l'.getD 0 0, l'.getD 1 0)) (hfk : zi_fk own idx slot l' = true) (htag : zi_tgt (zi_ty (l'.getD 0 0) slot) = 2) (href : (zi_ty (l'.getD 0 0) slot).isReference = true)
    (hfin : ((zi_q (l'.getD 0 0)).2.1 slot).2.2.2 = true → meth.name = "<init>" ∧ ((zi_q (l'.getD 0 0)).2.1 slot).1 = own) (hdg : decode cc pc = .ok (.putfield idx, 3))
    (kk : ∀ (H1 : Heap) (locs1 : List Loc), zi_W a0 τ dC dI (M.1, M.2.1, M.2.2.1, M.2.2.2.1, zi_up M.2.2.2.2 id slot (some x)) H1 → va_S (zi_A a0) s.heap H1 locs1 → W p l e R s m args below meth c H1 locs1 cells slots Q (F0 m (pc + 3) ls rest)) : W p l e R s m args below meth c H locs cells slots Q (F0 m pc ls (.ref (a0 + x) :: .ref (a0 + id) :: rest)) := by
  obtain ⟨h1, h2, h3, h4, h5⟩ := zi_fk_spec hfk
  have hne : (M.2.1 id).1 ≠ 9 := by rw [hid]; show (0 : Nat) ≠ 9; decide
  have ha := zi_at hW hne
  rw [zi_c0 hid] at ha
  have hnf := zi_nar_ref href (a0 + x)
  have htg : zi_tg (l'.getD 0 0) slot = 2 := by unfold zi_tg; rw [htag]; rfl
  refine zi_vput hx hb hts (zi_q_in h1) (zi_ty (l'.getD 0 0)) (zi_q_ty h1) (zi_q_nm h1) hown hK hW.2 id ha (zi_q_at h1) slot h3 (hts _ h5) (fun x hx => by rw [← h4]; exact hx) hfin (zi_q_ty h1 slot h3) hnf.1 hnf.2 (by rw [zi_fs_len, h2]; exact h3) hdg fun H1 i he z oq => ?_
  refine kk H1 _ (hW.set (hW.lt hne) z ?_ oq rfl rfl (fun i hi => ?_)) (hS.put z oq (Nat.le_add_right _ _))
  · rw [zi_c0 (M := (M.1, M.2.1, M.2.2.1, M.2.2.2.1, zi_up M.2.2.2.2 id slot (some x))) hid]
    show va_at _ _ (a0 + id, .inr (_, zi_fs _ _ _ _ (zi_up M.2.2.2.2 id slot (some x) id))) H1
    rw [zi_up_eq, zi_fs_setR htg]
    exact he
  · simp only [zi_c, zi_up_ne _ _ _ hi]
theorem zi_t_new (hx : p.tables.exec = Jvm.exec) (hb : c.code = cc) (hts : ∀ w ∈ zi_gw, w.before args s = true) {own : String} (hown : s.vm.findClass own = some m.cls) (hK : va_K (dC, dI) vwCl (zi_tys τ) s) (hW : zi_W a0 τ dC dI M H) (hS : va_S (zi_A a0) s.heap H locs) {idx ci : Nat} (hci : ci < 9) (w1 : Cond.classLink own idx (zi_q ci).1 ∈ zi_gw) (w2 : Cond.instantiable (zi_q ci).1 (zi_q ci).2.2 ∈ zi_gw) (w3 : Cond.initialized (zi_q ci).1 ∈ zi_gw) (hdf : ∀ j, j < (zi_q ci).2.2 → defaultValue (zi_ty ci j) = zi_fv (zi_tg ci j) 0 none)
    (hcells : cells + 1 ≤ R.cells) (hslots : slots + (zi_q ci).2.2 ≤ R.slots) (hdg : decode cc pc = .ok (.new idx, 3))
    (kk : ∀ (H1 : Heap), zi_W a0 τ dC dI (zi_born (0, ci, (zi_q ci).2.2) M) H1 → va_S (zi_A a0) s.heap H1 locs → W p l e R s m args below meth c H1 locs (cells + 1) (slots + (zi_q ci).2.2) Q (F0 m (pc + 3) ls (.ref (a0 + M.1) :: rest))) : W p l e R s m args below meth c H locs cells slots Q (F0 m pc ls rest) := by
  have hKn := hK.1 ci _ (zi_q_at hci)
  refine W.newcK hx hb hown (hts _ w1) (hts _ w2) (hts _ w3) rfl hdg hcells hslots hKn.2.1 hW.1.1 fun H1 kC hkC e1 z1 o1 => ?_
  have o2 : ∀ q : Nat, q < H.size → H1[q]? = H[q]? := fun q hq => o1 q (by rw [← hW.1.1]; exact hq)
  have z2 : H1.size = H.size + 1 := by rw [z1, hW.1.1]
  refine kk H1 (hW.born z2 o2 ⟨_, zi_q_at hci, (u_born (zi_ty ci) hts (zi_q_in hci) hKn hkC e1 (zi_q_ty hci)).to (fun j hj => ?_)⟩) (zi_S.born hS z2 o2)
  show _ = vp_V (zi_fs a0 ci (zi_q ci).2.2 (fun _ => 0) (fun _ => none)) j
  have hj2 : j < (zi_q ci).2.2 := hj
  have e2 := zi_fs_at (a0 := a0) (ci := ci) (I := fun _ => 0) (R := fun _ => none) hj2
  rw [hdf j hj2]
  unfold vp_V
  rw [List.getD_eq_getElem?_getD, e2]
  rfl
end ZO
end
section
/-! new arrays, and System.arraycopy, in the world of the interpreter -/
section ZA
variable {p : Program} {l : Launch} {e : Env} {R : Room} {s : State} {m : MethodId} {args : Array Value} {below : List Frame} {meth : Method} {c : Code} {H : Heap} {locs : List Loc} {cells slots : Nat} {Q : State → Prop}
variable {cc : ByteArray} {pc : Nat} {ls : Array Slot} {rest : List Value} {a0 : Nat} {τ : Nat → ClassId} {dC : Nat → ClassId} {dI : Nat → Nat → Nat} {M : zi_M}
theorem zi_t_newI (hx : p.tables.exec = Jvm.exec) (hb : c.code = cc) (harr : (Cond.arrayClass .int).before args s = true) (hK : va_K (dC, dI) vwCl (zi_tys τ) s) (hW : zi_W a0 τ dC dI M H) (hS : va_S (zi_A a0) s.heap H locs) {n : Int32} (hn : ¬ n < 0) (hN : n.toNatClampNeg ≤ 1000) (hcells : cells + 1 ≤ R.cells) (hslots : slots + n.toNatClampNeg ≤ R.slots) (hdg : decode cc pc = .ok (.newarray .int, 2))
    (kk : ∀ (H1 : Heap), zi_W a0 τ dC dI (zi_born (1, 0, n.toNatClampNeg) M) H1 → va_S (zi_A a0) s.heap H1 locs → W p l e R s m args below meth c H1 locs (cells + 1) (slots + n.toNatClampNeg) Q (F0 m (pc + 2) ls (.ref (a0 + M.1) :: rest))) : W p l e R s m args below meth c H locs cells slots Q (F0 m pc ls (.int n :: rest)) := by
  refine va_newaK (atype := .int) hx hb harr rfl hdg rfl hn rfl (by show n.toNatClampNeg * 4 ≤ _; omega) hcells hslots hW.1.1 fun H1 cA e1 z1 o1 hAr hNm => ?_
  have o2 : ∀ q : Nat, q < H.size → H1[q]? = H[q]? := fun q hq => o1 q (by rw [← hW.1.1]; exact hq)
  have z2 : H1.size = H.size + 1 := by rw [z1, hW.1.1]
  have hcA : cA = τ 0 := Option.some.inj (hNm.symm.trans (hK.2 0 _ rfl).2)
  subst hcA
  exact kk H1 (hW.born z2 o2 (by show H1[a0 + M.1]? = some (vp_cell _ _); rw [vp_cell_i]; exact e1)) (zi_S.born hS z2 o2)
theorem zi_t_newL (hx : p.tables.exec = Jvm.exec) (hb : c.code = cc) (harr : (Cond.arrayClass .long).before args s = true) (hK : va_K (dC, dI) vwCl (zi_tys τ) s) (hW : zi_W a0 τ dC dI M H) (hS : va_S (zi_A a0) s.heap H locs) {n : Int32} (hn : ¬ n < 0) (hN : n.toNatClampNeg ≤ 1000) (hcells : cells + 1 ≤ R.cells) (hslots : slots + n.toNatClampNeg ≤ R.slots) (hdg : decode cc pc = .ok (.newarray .long, 2))
    (kk : ∀ (H1 : Heap), zi_W a0 τ dC dI (zi_born (2, 1, n.toNatClampNeg) M) H1 → va_S (zi_A a0) s.heap H1 locs → W p l e R s m args below meth c H1 locs (cells + 1) (slots + n.toNatClampNeg) Q (F0 m (pc + 2) ls (.ref (a0 + M.1) :: rest))) : W p l e R s m args below meth c H locs cells slots Q (F0 m pc ls (.int n :: rest)) := by
  refine va_newaK (atype := .long) hx hb harr rfl hdg rfl hn rfl (by show n.toNatClampNeg * 8 ≤ _; omega) hcells hslots hW.1.1 fun H1 cA e1 z1 o1 hAr hNm => ?_
  have o2 : ∀ q : Nat, q < H.size → H1[q]? = H[q]? := fun q hq => o1 q (by rw [← hW.1.1]; exact hq)
  have z2 : H1.size = H.size + 1 := by rw [z1, hW.1.1]
  have hcA : cA = τ 1 := Option.some.inj (hNm.symm.trans (hK.2 1 _ rfl).2)
  subst hcA
  exact kk H1 (hW.born z2 o2 (by show H1[a0 + M.1]? = some (vp_cell _ _); rw [vp_cell_l]; exact e1)) (zi_S.born hS z2 o2)
theorem zi_t_anew (hx : p.tables.exec = Jvm.exec) (hb : c.code = cc) {own C : String} {idx t0 : Nat} (hown : s.vm.findClass own = some m.cls) (hclink : (Cond.classLink own idx C).before args s = true) (hover : (Cond.arrayOver (.object C)).before args s = true) (hK : va_K (dC, dI) vwCl (zi_tys τ) s) (htt : (zi_tys τ)[t0]? = some (τ t0, .object C)) (hW : zi_W a0 τ dC dI M H) (hS : va_S (zi_A a0) s.heap H locs) {n : Int32} (hn : ¬ n < 0) (hN : n.toNatClampNeg ≤ 1000) (hcells : cells + 1 ≤ R.cells) (hslots : slots + n.toNatClampNeg ≤ R.slots) (hdg : decode cc pc = .ok (.anewarray idx, 3))
    (kk : ∀ (H1 : Heap), zi_W a0 τ dC dI (zi_born (3, t0, n.toNatClampNeg) M) H1 → va_S (zi_A a0) s.heap H1 locs → W p l e R s m args below meth c H1 locs (cells + 1) (slots + n.toNatClampNeg) Q (F0 m (pc + 3) ls (.ref (a0 + M.1) :: rest))) : W p l e R s m args below meth c H locs cells slots Q (F0 m pc ls (.int n :: rest)) := by
  refine W.anew hx hb hown hclink hover rfl hdg rfl hn (by omega) hcells hslots fun cA kA comp f1 f2 f3 f4 => ?_
  generalize hH1 : H.push ({ cls := cA, slots := Array.replicate n.toNatClampNeg .null, vm := .none } : Cell) = H1
  have z2 : H1.size = H.size + 1 := by rw [← hH1, Array.size_push]
  have e1 : H1[H.size]? = some (arrV cA n.toNatClampNeg (fun _ => .null)) := by rw [← hH1, Array.getElem?_push_size, ← arrV_new]
  have o2 : ∀ q : Nat, q < H.size → H1[q]? = H[q]? := fun q hq => by rw [← hH1, Array.getElem?_push, if_neg (Nat.ne_of_lt hq)]
  obtain ⟨kA2, comp2, -, -, -, k4⟩ := (hK.2 t0 _ htt).2
  have hcA : cA = τ t0 := Option.some.inj (f1.symm.trans k4)
  subst hcA
  have h := kk H1 (hW.born z2 o2 (by show H1[a0 + M.1]? = some (vp_cell _ _); rw [vp_cell_q, ← hW.1.1]; exact e1)) (zi_S.born hS z2 o2)
  rw [← hW.1.1] at h
  exact h
/-- new T[n][k] -/
theorem zi_rows_fst (t : Nat × Nat × Nat) : ∀ (k : Nat) (M : zi_M), (zi_rows t k M).1 = M.1 + k
  | 0, M => rfl
  | k + 1, M => by simp only [zi_rows, zi_born, zi_rows_fst t k M]; omega
theorem zi_rows_old (t : Nat × Nat × Nat) : ∀ (k : Nat) (M : zi_M) (i : Nat), i < M.1 → (zi_rows t k M).2.1 i = M.2.1 i ∧ (zi_rows t k M).2.2.1 i = M.2.2.1 i ∧ (zi_rows t k M).2.2.2.1 i = M.2.2.2.1 i ∧ (zi_rows t k M).2.2.2.2 i = M.2.2.2.2 i
  | 0, M, i, _ => ⟨rfl, rfl, rfl, rfl⟩
  | k + 1, M, i, h => by
    obtain ⟨h1, h2, h3, h4⟩ := zi_rows_old t k M i h
    have hne : i ≠ (zi_rows t k M).1 := by rw [zi_rows_fst]; omega
    refine ⟨?_, ?_, ?_, ?_⟩
    · simp only [zi_rows, zi_born, va_up, if_neg hne, h1]
    · simp only [zi_rows, zi_born, zi_row_ne _ _ hne, h2]
    · simp only [zi_rows, zi_born, zi_row_ne _ _ hne, h3]
    · simp only [zi_rows, zi_born, zi_row_ne _ _ hne, h4]
theorem zi_rows_new (t : Nat × Nat × Nat) : ∀ (k : Nat) (M : zi_M) (j : Nat), j < k → (zi_rows t k M).2.1 (M.1 + j) = t ∧ (zi_rows t k M).2.2.1 (M.1 + j) = (fun _ => 0) ∧ (zi_rows t k M).2.2.2.1 (M.1 + j) = (fun _ => 0) ∧ (zi_rows t k M).2.2.2.2 (M.1 + j) = (fun _ => none)
  | 0, M, j, h => absurd h (Nat.not_lt_zero _)
  | k + 1, M, j, h => by
    by_cases hj : j < k
    · obtain ⟨h1, h2, h3, h4⟩ := zi_rows_new t k M j hj
      have hne : M.1 + j ≠ (zi_rows t k M).1 := by rw [zi_rows_fst]; omega
      refine ⟨?_, ?_, ?_, ?_⟩
      · simp only [zi_rows, zi_born, va_up, if_neg hne, h1]
      · simp only [zi_rows, zi_born, zi_row_ne _ _ hne, h2]
      · simp only [zi_rows, zi_born, zi_row_ne _ _ hne, h3]
      · simp only [zi_rows, zi_born, zi_row_ne _ _ hne, h4]
    · have hjk : M.1 + j = (zi_rows t k M).1 := by rw [zi_rows_fst]; omega
      refine ⟨?_, ?_, ?_, ?_⟩
      · simp only [zi_rows, zi_born, va_up, if_pos hjk]
      · simp only [zi_rows, zi_born]; rw [hjk, zi_row_eq]
      · simp only [zi_rows, zi_born]; rw [hjk, zi_row_eq]
      · simp only [zi_rows, zi_born]; rw [hjk, zi_row_eq]
theorem zi_rows_beyond (t : Nat × Nat × Nat) : ∀ (k : Nat) (M : zi_M) (i : Nat), M.1 + k ≤ i → (zi_rows t k M).2.1 i = M.2.1 i
  | 0, M, i, _ => rfl
  | k + 1, M, i, h => by
    have hne : i ≠ (zi_rows t k M).1 := by rw [zi_rows_fst]; omega
    simp only [zi_rows, zi_born, va_up, if_neg hne]
    exact zi_rows_beyond t k M i (by omega)
theorem zi_W.grid {H1 : Heap} {ty kd ty2 n k : Nat} (h : zi_W a0 τ dC dI M H) (z : H1.size = H.size + 1 + n) (oq : ∀ q : Nat, q < H.size → H1[q]? = H[q]?) (he : H1[H.size]? = some (vp_cell (τ ty) (n, .inr (.inr (.inr (.inr (fun i => if i < n then some (H.size + 1 + i) else none)))))))
    (hr : ∀ j : Nat, j < n → H1[H.size + 1 + j]? = some (match kd with | 1 => vp_cell (τ ty2) (k, .inl (fun _ => 0)) | _ => vp_cell (τ ty2) (k, .inr (.inl (fun _ => 0))))) (hkd : kd = 1 ∨ kd = 2) : zi_W a0 τ dC dI (zi_grid ty kd ty2 n k M) H1 := by
  have hN : (zi_grid ty kd ty2 n k M).1 = M.1 + 1 + n := by
    show (zi_rows _ _ _).1 = _
    rw [zi_rows_fst]
    rfl
  have hb1 : (zi_born (3, ty, n) M).1 = M.1 + 1 := rfl
  refine ⟨⟨by rw [z, h.1.1, hN]; omega, fun j hj => ?_⟩, ?_⟩
  · rw [hN] at hj
    show ((zi_rows _ _ _).2.1 j).1 = 9
    rw [zi_rows_beyond _ _ _ _ (by rw [hb1]; exact hj)]
    show (va_up M.2.1 M.1 _ j).1 = 9
    rw [va_up, if_neg (by omega)]
    exact h.1.2 j (by omega)
  · intro j q hq
    obtain ⟨hj, rfl⟩ := zi_ws_some hq
    rw [hN] at hj
    by_cases c1 : j < M.1
    · have hc : zi_c a0 τ (zi_grid ty kd ty2 n k M) j = zi_c a0 τ M j := by
        obtain ⟨g1, g2, g3, g4⟩ := zi_rows_old (kd, ty2, k) n (zi_born (3, ty, n) M) j (by rw [hb1]; omega)
        have hne : j ≠ M.1 := Nat.ne_of_lt c1
        unfold zi_c
        simp only [zi_grid, g1, g2, g3, zi_row_ne _ _ hne, g4]
        simp only [zi_born, zi_row_ne _ _ hne, va_up, if_neg hne]
      rw [hc]
      exact (h.2 j _ (zi_ws_at c1)).kept (oq _ (by rw [h.1.1]; show a0 + j < _; omega))
    · by_cases c2 : j = M.1
      · subst c2
        have hc : zi_c a0 τ (zi_grid ty kd ty2 n k M) M.1 = .inl (τ ty, n, .inr (.inr (.inr (.inr (fun i => if i < n then some (H.size + 1 + i) else none))))) := by
          obtain ⟨g1, g2, g3, g4⟩ := zi_rows_old (kd, ty2, k) n (zi_born (3, ty, n) M) M.1 (by rw [hb1]; omega)
          unfold zi_c
          simp only [zi_grid, g1, zi_row_eq]
          simp only [zi_born, va_up, if_pos]
          show Sum.inl (τ ty, n, _) = _
          congr 2
          congr 1
          congr 1
          congr 1
          congr 1
          congr 1
          funext i
          by_cases hi : i < n
          · simp only [if_pos hi, zi_ad, Option.map_some, h.1.1]
            congr 1
            omega
          · simp only [if_neg hi, zi_ad, Option.map_none]
        rw [hc]
        show H1[a0 + M.1]? = _
        rw [← h.1.1]
        exact he
      · obtain ⟨i, rfl⟩ : ∃ i, j = M.1 + 1 + i := ⟨j - M.1 - 1, by omega⟩
        have hi : i < n := by omega
        obtain ⟨g1, g2, g3, g4⟩ := zi_rows_new (kd, ty2, k) n (zi_born (3, ty, n) M) i hi
        rw [hb1] at g1 g2 g3 g4
        have hne : M.1 + 1 + i ≠ M.1 := by omega
        have hrow := hr i hi
        have hc : zi_c a0 τ (zi_grid ty kd ty2 n k M) (M.1 + 1 + i) = zi_cel a0 τ (kd, ty2, k) (fun _ => 0) (fun _ => 0) (fun _ => none) := by
          unfold zi_c
          simp only [zi_grid, g1, g2, g3, zi_row_ne _ _ hne, g4]
        rw [hc]
        rcases hkd with rfl | rfl
        · show H1[a0 + (M.1 + 1 + i)]? = some (vp_cell _ _)
          rw [show a0 + (M.1 + 1 + i) = H.size + 1 + i by rw [h.1.1]; omega]
          exact hrow
        · show H1[a0 + (M.1 + 1 + i)]? = some (vp_cell _ _)
          rw [show a0 + (M.1 + 1 + i) = H.size + 1 + i by rw [h.1.1]; omega]
          exact hrow
theorem zi_t_mna (hx : p.tables.exec = Jvm.exec) (hb : c.code = cc) {own : String} {idx ty kd ty2 : Nat} {fty : FieldType} (hown : s.vm.findClass own = some m.cls) (hclink : (Cond.classLink own idx ("[" ++ (FieldType.array fty).toString)).before args s = true) (hover : (Cond.arrayOver (.array fty)).before args s = true) (harr : (Cond.arrayClass fty).before args s = true)
    (hty : (ty = 4 ∧ kd = 1 ∧ ty2 = 0 ∧ fty = .int) ∨ (ty = 5 ∧ kd = 2 ∧ ty2 = 1 ∧ fty = .long)) (hK : va_K (dC, dI) vwCl (zi_tys τ) s) (hW : zi_W a0 τ dC dI M H) (hS : va_S (zi_A a0) s.heap H locs) {n k : Int32} (hn : ¬ n < 0) (hN : n.toNatClampNeg ≤ 1000) (hk : ¬ k < 0) (hk2 : k.toNatClampNeg ≤ 1000)
    (hcells : cells + (1 + n.toNatClampNeg) ≤ R.cells) (hslots : slots + (n.toNatClampNeg + n.toNatClampNeg * k.toNatClampNeg) ≤ R.slots) (hdg : decode cc pc = .ok (.multianewarray idx 2, 4))
    (kk : ∀ (H1 : Heap), zi_W a0 τ dC dI (zi_grid ty kd ty2 n.toNatClampNeg k.toNatClampNeg M) H1 → va_S (zi_A a0) s.heap H1 locs → W p l e R s m args below meth c H1 locs (cells + (1 + n.toNatClampNeg)) (slots + (n.toNatClampNeg + n.toNatClampNeg * k.toNatClampNeg)) Q (F0 m (pc + 4) ls (.ref (a0 + M.1) :: rest))) : W p l e R s m args below meth c H locs cells slots Q (F0 m pc ls (.int k :: .int n :: rest)) := by
  intro T hT Xs
  have hcb : k.toNatClampNeg * componentBytes fty ≤ 536870912 := by
    rcases hty with ⟨-, -, -, rfl⟩ | ⟨-, -, -, rfl⟩
    · show k.toNatClampNeg * 4 ≤ _; omega
    · show k.toNatClampNeg * 8 ≤ _; omega
  have hdf : fits fty (defaultValue fty) = true := by rcases hty with ⟨-, -, -, rfl⟩ | ⟨-, -, -, rfl⟩ <;> rfl
  have hdd : (defaultValue fty).isDefault = true := by rcases hty with ⟨-, -, -, rfl⟩ | ⟨-, -, -, rfl⟩ <;> rfl
  obtain ⟨vm₁, cA, comp, -, fA, fC, hO, -, X', step⟩ := Xs.multianewarray2F hx hown hclink hover harr (g := F0 m pc ls (.int k :: .int n :: rest)) rfl (by rw [hb]; exact hdg) rfl hn hk (by omega) hcb (by omega) hdf hdd hcells hslots
  generalize hF : Jvm.Free.Multi.fill (T.setVm vm₁) cA comp n.toNatClampNeg k.toNatClampNeg (defaultValue fty) n.toNatClampNeg = F at X' step
  have hTh : (T.setVm vm₁).heap = H := hT
  obtain ⟨f1, f2, -, -⟩ := Jvm.Free.Multi.fill_facts (T.setVm vm₁) cA comp n.toNatClampNeg k.toNatClampNeg (defaultValue fty) n.toNatClampNeg
  rw [hF, hTh] at f1 f2
  have hold : ∀ x : Nat, x < H.size → F.heap[x]? = H[x]? := fun x hx => by
    have := Jvm.Free.Multi.fill_old (T.setVm vm₁) cA comp n.toNatClampNeg k.toNatClampNeg (defaultValue fty) (a := x) (by rw [hTh]; exact hx) n.toNatClampNeg
    rw [hF, hTh] at this
    exact this
  have hrow : ∀ j : Nat, j < n.toNatClampNeg → F.heap[H.size + 1 + j]? = some (Jvm.Free.Multi.innerC comp k.toNatClampNeg (defaultValue fty)) := fun j hj => by
    have := Jvm.Free.Multi.fill_inner (T.setVm vm₁) cA comp n.toNatClampNeg k.toNatClampNeg (defaultValue fty) n.toNatClampNeg j hj
    rw [hF, hTh] at this
    exact this
  have hout : Jvm.Free.Multi.outerC cA n.toNatClampNeg H.size n.toNatClampNeg = vp_cell cA (n.toNatClampNeg, .inr (.inr (.inr (.inr (fun i => if i < n.toNatClampNeg then some (H.size + 1 + i) else none))))) := by
    rw [vp_cell_q]
    exact vr_outer cA n.toNatClampNeg H.size n.toNatClampNeg
  rw [hout] at f2
  have hA : cA = τ ty := by
    rcases hty with ⟨rfl, rfl, rfl, rfl⟩ | ⟨rfl, rfl, rfl, rfl⟩
    · exact Option.some.inj (fA.symm.trans (hK.2 4 _ rfl).2)
    · exact Option.some.inj (fA.symm.trans (hK.2 5 _ rfl).2)
  have hC : comp = τ ty2 := by
    rcases hty with ⟨rfl, rfl, rfl, rfl⟩ | ⟨rfl, rfl, rfl, rfl⟩
    · exact Option.some.inj (fC.symm.trans (hK.2 0 _ rfl).2)
    · exact Option.some.inj (fC.symm.trans (hK.2 1 _ rfl).2)
  subst hA
  subst hC
  have hWg : zi_W a0 τ dC dI (zi_grid ty kd ty2 n.toNatClampNeg k.toNatClampNeg M) F.heap := by
    refine hW.grid f1 hold f2 (fun j hj => ?_) ?_
    · rw [hrow j hj]
      rcases hty with ⟨rfl, rfl, rfl, rfl⟩ | ⟨rfl, rfl, rfl, rfl⟩
      · show some ({ cls := _, slots := Array.replicate _ (.int 0), vm := .none } : Cell) = some (vp_cell _ _)
        rw [vp_cell_i, arrV_new]
      · show some ({ cls := _, slots := Array.replicate _ (.long 0), vm := .none } : Cell) = some (vp_cell _ _)
        rw [vp_cell_l, arrV_new]
    · rcases hty with ⟨-, h, -, -⟩ | ⟨-, h, -, -⟩
      · exact Or.inl h
      · exact Or.inr h
  have hS1 : va_S (zi_A a0) s.heap F.heap locs := ⟨by rw [f1]; have := hS.1; omega, fun x h1 h2 => (hold x (Nat.lt_of_lt_of_le h1 hS.1)).trans (hS.2.1 x h1 h2), hS.2.2⟩
  have e1 : cells + 1 + n.toNatClampNeg = cells + (1 + n.toNatClampNeg) := by omega
  have e2 : slots + n.toNatClampNeg + n.toNatClampNeg * k.toNatClampNeg = slots + (n.toNatClampNeg + n.toNatClampNeg * k.toNatClampNeg) := by omega
  rw [e1, e2] at X'
  obtain ⟨t, a1, b1⟩ := kk F.heap hWg hS1 F rfl X'
  refine ⟨t, step t ?_, b1⟩
  have e : T.heap.size = a0 + M.1 := by rw [hT]; exact hW.1.1
  rw [e]
  exact a1
end ZA
end
section
/-! one instruction of the interpreter is one of the machine -/
section ZT
variable {p : Program} {l : Launch} {e : Env} {R : Room} {s : State} {m : MethodId} {args : Array Value} {below : List Frame} {meth : Method} {c : Code} {H : Heap} {locs : List Loc} {cells slots : Nat} {Q : State → Prop}
variable {cc : ByteArray} {pc : Nat} {ls : Array Slot} {rest : List Value} {a0 : Nat} {τ : Nat → ClassId} {dC : Nat → ClassId} {dI : Nat → Nat → Nat} {M : zi_M} {σ : Nat → Nat}
theorem zi_t_cp (hexec : p.tables.exec = Jvm.exec) (hb : c.code = cc) (hml : c.maxLocals = ls.size) {own : String} {index : Nat} (hown : s.vm.findClass own = some m.cls) (hlink : (Cond.methodLink own index arraycopyName).before args s = true) (hnat : (Cond.native arraycopyName).before args s = true) (hstat : (Cond.static arraycopyName).before args s = true) (hini : (Cond.initialized "java/lang/System").before args s = true)
    (hK : va_K (dC, dI) vwCl (zi_tys τ) s) (hW : zi_W a0 τ dC dI M H) (hS : va_S (zi_A a0) s.heap H locs) {x y : Nat} (hx1 : (M.2.1 x).1 = 1) (hx2 : (M.2.1 x).2.1 = 0) (hy1 : (M.2.1 y).1 = 1) (hy2 : (M.2.1 y).2.1 = 0)
    {sp dp n : Int32} (h1 : ¬ sp < 0) (h2 : ¬ dp < 0) (h3 : ¬ n < 0) (h4 : sp.toNatClampNeg + n.toNatClampNeg ≤ (M.2.1 x).2.2) (h5 : dp.toNatClampNeg + n.toNatClampNeg ≤ (M.2.1 y).2.2)
    (hframes : 1 ≤ R.frames) (hlocals : (rest.map fun v => v.category).sum + (nativeFrameWords "java/lang/System" "arraycopy" 5 + 11) ≤ R.locals) (hdg : decode cc pc = .ok (.invokestatic index, 3))
    (kk : ∀ (H1 : Heap) (locs1 : List Loc), zi_W a0 τ dC dI (M.1, M.2.1, zi_row M.2.2.1 y (va_cpy (M.2.2.1 x) (M.2.2.1 y) sp.toNatClampNeg dp.toNatClampNeg n.toNatClampNeg), M.2.2.2.1, M.2.2.2.2) H1 → va_S (zi_A a0) s.heap H1 locs1 → W p l e R s m args below meth c H1 locs1 cells slots Q (F0 m (pc + 3) ls rest)) : W p l e R s m args below meth c H locs cells slots Q (F0 m pc ls (.int n :: .int dp :: .ref (a0 + y) :: .int sp :: .ref (a0 + x) :: rest)) := by
  have nn : ∀ z : Int32, ¬ z < 0 → z.toInt = (z.toNatClampNeg : Int) := by
    intro z hz
    have hz0 : (0 : Int) ≤ z.toInt := by
      have := Int32.not_lt.mp hz
      simpa using Int32.le_iff_toInt_le.mp this
    show z.toInt = ((z.toInt.toNat : Nat) : Int)
    omega
  intro T hT X
  have hney : (M.2.1 y).1 ≠ 9 := by rw [hy1]; decide
  have hax := zi_at hW (id := x) (by rw [hx1]; decide)
  have hay := zi_at hW hney
  rw [zi_c1 hx1 hx2] at hax
  rw [zi_c1 hy1 hy2] at hay
  have hc0 : H[a0 + x]? = some (vp_cell (τ 0) ((M.2.1 x).2.2, .inl (M.2.2.1 x))) := hW.2 x _ hax
  have hc1 : H[a0 + y]? = some (vp_cell (τ 0) ((M.2.1 y).2.2, .inl (M.2.2.1 y))) := hW.2 y _ hay
  obtain ⟨-, k0, hk0, cm0, hkk0⟩ := (hK.2 0 _ rfl).1 (M.2.1 x).2.2 (fun j => .int (M.2.2.1 x j))
  obtain ⟨-, k1, hk1, cm1, hkk1⟩ := (hK.2 0 _ rfl).1 (M.2.1 y).2.2 (fun j => .int (M.2.2.1 y j))
  obtain ⟨vm', X', step⟩ := X.arraycopy hexec hown hlink hnat hstat hini (src := a0 + x) (dst := a0 + y) (cs := vp_cell (τ 0) ((M.2.1 x).2.2, .inl (M.2.2.1 x))) (cd := vp_cell (τ 0) ((M.2.1 y).2.2, .inl (M.2.2.1 y))) (srcPos := sp) (destPos := dp) (n := n) (by rw [hT]; exact hc0) (by rw [hT]; exact hc1)
    (fun _ h => by cases h) (fun _ h => by cases h) (fun h => by cases h) (fun h => by cases h) hk0 hk1 hkk0 hkk1 (by simp [refKind]) h1 h2 h3
    (by rw [nn sp h1, nn n h3]; show ¬ _ > ((arrV (τ 0) (M.2.1 x).2.2 (fun j => .int (M.2.2.1 x j))).slots.size : Int); rw [arrV_size]; omega)
    (by rw [nn dp h2, nn n h3]; show ¬ _ > ((arrV (τ 0) (M.2.1 y).2.2 (fun j => .int (M.2.2.1 y j))).slots.size : Int); rw [arrV_size]; omega)
    (fun vm₁ _ i hi => by
      have e : (vp_cell (τ 0) ((M.2.1 x).2.2, .inl (M.2.2.1 x))).slots.getD (sp.toNatClampNeg + i) .null = .int (M.2.2.1 x (sp.toNatClampNeg + i)) := by
        show (arrV (τ 0) (M.2.1 x).2.2 (fun j => .int (M.2.2.1 x j))).slots.getD _ _ = _
        rw [Array.getD_eq_getD_getElem?, arrV_read _ _ (by omega)]
        rfl
      refine ⟨?_, ?_⟩
      · rw [e]
        rfl
      · rw [e]
        exact trivial)
    (g := F0 m pc ls (.int n :: .int dp :: .ref (a0 + y) :: .int sp :: .ref (a0 + x) :: rest)) rfl (by rw [hml]) (rest := rest) rfl (by rw [hb]; exact hdg) hframes (by show 2 * 0 + _ + _ ≤ _; omega)
  have e1 : copied (vp_cell (τ 0) ((M.2.1 x).2.2, .inl (M.2.2.1 x))) (vp_cell (τ 0) ((M.2.1 y).2.2, .inl (M.2.2.1 y))) sp dp n = vp_cell (τ 0) ((M.2.1 y).2.2, .inl (va_cpy (M.2.2.1 x) (M.2.2.1 y) sp.toNatClampNeg dp.toNatClampNeg n.toNatClampNeg)) := va_copied (fun z => .int z) (τ 0) (τ 0) (M.2.2.1 x) (M.2.2.1 y) h4
  rw [e1] at X' step
  have hl : a0 + y < H.size := (Array.getElem?_eq_some_iff.mp hc1).1
  generalize hcN : vp_cell (τ 0) ((M.2.1 y).2.2, .inl (va_cpy (M.2.2.1 x) (M.2.2.1 y) sp.toNatClampNeg dp.toNatClampNeg n.toNatClampNeg)) = cN at X' step
  have hheap : ((T.setVm vm').setCell (a0 + y) cN).heap = H.setIfInBounds (a0 + y) cN := by rw [← hT]; rfl
  have oq : ∀ q : Nat, q ≠ a0 + y → (H.setIfInBounds (a0 + y) cN)[q]? = H[q]? := fun q hq => by simp [Array.getElem?_setIfInBounds, Ne.symm hq]
  have hself : (H.setIfInBounds (a0 + y) cN)[a0 + y]? = some cN := by simp [Array.getElem?_setIfInBounds, hl]
  obtain ⟨t, a1, b1⟩ := kk _ _ (hW.set (hW.lt hney) (by simp) (by
      rw [zi_c1 (M := (M.1, M.2.1, zi_row M.2.2.1 y (va_cpy (M.2.2.1 x) (M.2.2.1 y) sp.toNatClampNeg dp.toNatClampNeg n.toNatClampNeg), M.2.2.2.1, M.2.2.2.2)) hy1 hy2]
      show (H.setIfInBounds (a0 + y) cN)[a0 + y]? = some (vp_cell _ (_, .inl (zi_row M.2.2.1 y _ y)))
      rw [zi_row_eq, hself, ← hcN]) oq rfl rfl (fun i hi => by simp only [zi_c, zi_row_ne _ _ hi])) ⟨by simp; exact hS.1, fun q g1 g2 => by
      rw [oq q (fun e => g2 (by rw [e]; exact Nat.le_add_right _ _))]
      exact hS.2.1 q g1 g2, fun q hq => by
      rcases List.mem_append.mp hq with h | h
      · exact hS.2.2 q h
      · obtain ⟨z, -, hz⟩ := List.mem_map.mp h
        rw [← hz]
        exact Nat.le_add_right _ _⟩ _ hheap X'
  exact ⟨t, step t a1, b1⟩
/-- loads and stores of references, by the interpreter's value -/
theorem zi_t_aload (hx : p.tables.exec = Jvm.exec) (hb : c.code = cc) {i : Nat} {v : Value} (hv : (∃ x, v = .ref x) ∨ (∃ x, v = .float x) ∨ v = .null) (hdg : decode cc pc = .ok (.aload i, 2)) (hl : ls[i]? = some (.val (zi_con a0 σ v)))
    (k : W p l e R s m args below meth c H locs cells slots Q (F0 m (pc + 2) ls (zi_con a0 σ v :: rest))) : W p l e R s m args below meth c H locs cells slots Q (F0 m pc ls rest) := by
  rcases hv with ⟨x, rfl⟩ | ⟨x, rfl⟩ | rfl
  · exact lv_aload hx hb hdg hl k
  · exact lv_aload hx hb hdg hl k
  · exact lv_aloadN hx hb hdg hl k
theorem zi_t_aload_n (hx : p.tables.exec = Jvm.exec) (hb : c.code = cc) {i : Fin 4} {v : Value} (hv : (∃ x, v = .ref x) ∨ (∃ x, v = .float x) ∨ v = .null) (hdg : decode cc pc = .ok (.aload_n i, 1)) (hl : ls[i.val]? = some (.val (zi_con a0 σ v)))
    (k : W p l e R s m args below meth c H locs cells slots Q (F0 m (pc + 1) ls (zi_con a0 σ v :: rest))) : W p l e R s m args below meth c H locs cells slots Q (F0 m pc ls rest) := by
  rcases hv with ⟨x, rfl⟩ | ⟨x, rfl⟩ | rfl
  · exact lv_aload_n hx hb hdg rfl hl k
  · exact lv_aload_n hx hb hdg rfl hl k
  · exact lv_aload_nN hx hb hdg rfl hl k
theorem zi_t_astore (hx : p.tables.exec = Jvm.exec) (hb : c.code = cc) {i nL : Nat} {v : Value} {lv : zi_L} (hv : (∃ x, v = .ref x) ∨ (∃ x, v = .float x) ∨ v = .null) (hdg : decode cc pc = .ok (.astore i, 2)) (h : lv_has ls nL (zi_lp a0 σ 0 lv)) (hn : i < nL)
    (kk : ∀ ls' : Array Slot, lv_has ls' nL (zi_lp a0 σ 0 (zi_st1 lv i v)) → W p l e R s m args below meth c H locs cells slots Q (F0 m (pc + 2) ls' rest)) : W p l e R s m args below meth c H locs cells slots Q (F0 m pc ls (zi_con a0 σ v :: rest)) := by
  rcases hv with ⟨x, rfl⟩ | ⟨x, rfl⟩ | rfl
  · exact lv_astore hx hb hdg h hn rfl (fun ls' h' => kk ls' (zi_has_st1 h'))
  · exact lv_astore hx hb hdg h hn rfl (fun ls' h' => kk ls' (zi_has_st1 h'))
  · exact lv_astoreN hx hb hdg h hn rfl (fun ls' h' => kk ls' (zi_has_st1 h'))
theorem zi_t_astore_n (hx : p.tables.exec = Jvm.exec) (hb : c.code = cc) {i : Fin 4} {nL : Nat} {v : Value} {lv : zi_L} (hv : (∃ x, v = .ref x) ∨ (∃ x, v = .float x) ∨ v = .null) (hdg : decode cc pc = .ok (.astore_n i, 1)) (h : lv_has ls nL (zi_lp a0 σ 0 lv)) (hn : i.val < nL)
    (kk : ∀ ls' : Array Slot, lv_has ls' nL (zi_lp a0 σ 0 (zi_st1 lv i.val v)) → W p l e R s m args below meth c H locs cells slots Q (F0 m (pc + 1) ls' rest)) : W p l e R s m args below meth c H locs cells slots Q (F0 m pc ls (zi_con a0 σ v :: rest)) := by
  rcases hv with ⟨x, rfl⟩ | ⟨x, rfl⟩ | rfl
  · exact lv_astore_n hx hb hdg rfl h hn rfl (fun ls' h' => kk ls' (zi_has_st1 h'))
  · exact lv_astore_n hx hb hdg rfl h hn rfl (fun ls' h' => kk ls' (zi_has_st1 h'))
  · exact lv_astore_nN hx hb hdg rfl h hn rfl (fun ls' h' => kk ls' (zi_has_st1 h'))
theorem zi_t_iinc (hx : p.tables.exec = Jvm.exec) (hb : c.code = cc) {i nL : Nat} {n : Int} {x v : Int32} {lv : zi_L} (hdg : decode cc pc = .ok (.iinc i n, 3)) (h : lv_has ls nL (zi_lp a0 σ 0 lv)) (hg : zi_get lv i = some (.int x)) (hv : Int32.ofInt n = v) (hn : i < nL)
    (kk : ∀ ls' : Array Slot, lv_has ls' nL (zi_lp a0 σ 0 (zi_st1 lv i (.int (x + v)))) → W p l e R s m args below meth c H locs cells slots Q (F0 m (pc + 3) ls' rest)) : W p l e R s m args below meth c H locs cells slots Q (F0 m pc ls rest) := by
  obtain ⟨k, hk⟩ := List.getElem?_of_mem ((zi_lp_mem (a0 := a0) (σ := σ) lv 0 (i, .int x)).mpr ⟨i, .int x, hg, by simp [zi_con]⟩)
  exact lv_iinc (v := x + v) hx hb hdg h hk (by rw [hv]) hn rfl (fun ls' h' => kk ls' (zi_has_st1 h'))
end ZT
/-- what a method's walk knows -/
def zi_cx (T : Nat → zi_D) (sc : Nat × (Nat → Int32)) (a0 : Nat) (τ : Nat → ClassId) (σ : Nat → Nat) (dC : Nat → ClassId) (dI : Nat → Nat → Nat) (k : Nat) (p : Program) (s : State) (m : MethodId) (args : Array Value) (meth : Method) (c : Code) : Prop :=
  p.tables.exec = Jvm.exec ∧ c.code = zi_cd T k ∧ c.maxLocals = zi_mx T k ∧ s.vm.findClass (zi_yy T k).cls = some m.cls ∧ (∀ w ∈ zi_gw, w.before args s = true) ∧ meth.name = (zi_yy T k).name ∧ zi_S sc a0 τ σ dC dI s ∧ a0 ≤ s.heap.size
end
section
/-! one instruction of the interpreter is one of the machine: all kinds -/
section ZU
variable {p : Program} {l : Launch} {e : Env} {R : Room} {s : State} {m : MethodId} {args : Array Value} {below : List Frame} {meth : Method} {c : Code} {H : Heap} {locs : List Loc} {cells slots : Nat} {Q : State → Prop}
variable {cc : ByteArray} {pc : Nat} {ls : Array Slot} {rest : List Value}
theorem zi_t_if (hx : p.tables.exec = Jvm.exec) (hb : c.code = cc) {d : ClassFile.Cond} {off : Int} {tgt : Nat} {x : Int32} (hdg : decode cc pc = .ok (.ifCond d off, 3)) (ht : (pc : Int) + off = (tgt : Int)) (kt : zi_cmp d x 0 = true → W p l e R s m args below meth c H locs cells slots Q (F0 m tgt ls rest)) (kf : ¬ zi_cmp d x 0 = true → W p l e R s m args below meth c H locs cells slots Q (F0 m (pc + 3) ls rest)) : W p l e R s m args below meth c H locs cells slots Q (F0 m pc ls (.int x :: rest)) := by
  cases d with
  | eq => exact lv_if_eq hx hb hdg ht (fun h => kt (by simpa [zi_cmp] using h)) (fun h => kf (by simpa [zi_cmp] using h))
  | lt => exact lv_if_lt hx hb hdg ht (fun h => kt (by simpa [zi_cmp] using h)) (fun h => kf (by simpa [zi_cmp] using h))
  | ge => exact lv_if_ge hx hb hdg ht (fun h => kt (by simpa [zi_cmp] using h)) (fun h => kf (by simpa [zi_cmp] using h))
  | gt => exact lv_if_gt hx hb hdg ht (fun h => kt (by simpa [zi_cmp] using h)) (fun h => kf (by simpa [zi_cmp] using h))
  | le => exact lv_if_le hx hb hdg ht (fun h => kt (by simpa [zi_cmp] using h)) (fun h => kf (by simpa [zi_cmp] using h))
  | ne => exact lv_if_ne hx hb hdg ht (fun h => kt (by simpa [zi_cmp] using h)) (fun h => kf (by simp [zi_cmp, h]))
theorem zi_t_ic (hx : p.tables.exec = Jvm.exec) (hb : c.code = cc) {d : ClassFile.Cond} {off : Int} {tgt : Nat} {x y : Int32} (hdg : decode cc pc = .ok (.if_icmp d off, 3)) (ht : (pc : Int) + off = (tgt : Int)) (kt : zi_cmp d x y = true → W p l e R s m args below meth c H locs cells slots Q (F0 m tgt ls rest)) (kf : ¬ zi_cmp d x y = true → W p l e R s m args below meth c H locs cells slots Q (F0 m (pc + 3) ls rest)) : W p l e R s m args below meth c H locs cells slots Q (F0 m pc ls (.int y :: .int x :: rest)) := by
  cases d with
  | eq => exact lv_icmp_eq hx hb hdg ht (fun h => kt (by simpa [zi_cmp] using h)) (fun h => kf (by simpa [zi_cmp] using h))
  | lt => exact lv_icmp_lt hx hb hdg ht (fun h => kt (by simpa [zi_cmp] using h)) (fun h => kf (by simpa [zi_cmp] using h))
  | ge => exact lv_icmp_ge hx hb hdg ht (fun h => kt (by simpa [zi_cmp] using h)) (fun h => kf (by simpa [zi_cmp] using h))
  | gt => exact lv_icmp_gt hx hb hdg ht (fun h => kt (by simpa [zi_cmp] using h)) (fun h => kf (by simpa [zi_cmp] using h))
  | le => exact lv_icmp_le hx hb hdg ht (fun h => kt (by simpa [zi_cmp] using h)) (fun h => kf (by simpa [zi_cmp] using h))
  | ne => exact lv_icmp_ne hx hb hdg ht (fun h => kt (by simpa [zi_cmp] using h)) (fun h => kf (by simp [zi_cmp, h]))
variable {T : Nat → zi_D} {sc : Nat × (Nat → Int32)} {a0 : Nat} {τ : Nat → ClassId} {dC : Nat → ClassId} {dI : Nat → Nat → Nat} {M : zi_M} {σ : Nat → Nat} {k : Nat}
set_option maxHeartbeats 4000000 in
theorem zi_step (C : zi_cx T sc a0 τ σ dC dI k p s m args meth c) {i : zi_I} {len : Nat} (hd : decode (zi_cd T k) pc = .ok (i.1, len)) (hk : zi_ck T k pc i len = true) {lv lv' : zi_L} {st st' : List Value} {M' : zi_M} (hn : zi_nx sc i lv st M = some (.inl (lv', st', M'))) (hW : zi_W a0 τ dC dI M H) (hS : va_S (zi_A a0) s.heap H locs) (hl : lv_has ls (zi_mx T k) (zi_lp a0 σ 0 lv)) (hc : cells + (zi_al i st).1 ≤ zi_mc T k) (hs : slots + (zi_al i st).2 ≤ zi_ms T k)
    (kk : ∀ (H1 : Heap) (locs1 : List Loc) (ls1 : Array Slot), zi_W a0 τ dC dI M' H1 → va_S (zi_A a0) s.heap H1 locs1 → lv_has ls1 (zi_mx T k) (zi_lp a0 σ 0 lv') → W p l e (zi_rm T k) s m args below meth c H1 locs1 (cells + (zi_al i st).1) (slots + (zi_al i st).2) Q (F0 m (pc + len) ls1 (st'.map (zi_con a0 σ)))) : W p l e (zi_rm T k) s m args below meth c H locs cells slots Q (F0 m pc ls (st.map (zi_con a0 σ))) := by
  obtain ⟨hx, hb, hml, hown, hts, hmn, hSS, ha0⟩ := id C
  have hK := hSS.1
  obtain ⟨op, ia, ib, ic, il⟩ := i
  dsimp only at hd
  cases op with
  | iconst n =>
    simp only [zi_ck, Bool.and_eq_true, decide_eq_true_eq] at hk
    simp only [zi_nx, Option.some.injEq, Sum.inl.injEq, Prod.mk.injEq] at hn
    obtain ⟨rfl, rfl, rfl⟩ := hn
    obtain ⟨rfl, h2⟩ := hk
    exact lv_iconst hx hb hd h2 (kk H locs ls hW hS hl)
  | bipush n =>
    simp only [zi_ck, Bool.and_eq_true, decide_eq_true_eq] at hk
    simp only [zi_nx, Option.some.injEq, Sum.inl.injEq, Prod.mk.injEq] at hn
    obtain ⟨rfl, rfl, rfl⟩ := hn
    obtain ⟨rfl, h2⟩ := hk
    exact lv_bipush hx hb hd h2 (kk H locs ls hW hS hl)
  | sipush n =>
    simp only [zi_ck, Bool.and_eq_true, decide_eq_true_eq] at hk
    simp only [zi_nx, Option.some.injEq, Sum.inl.injEq, Prod.mk.injEq] at hn
    obtain ⟨rfl, rfl, rfl⟩ := hn
    obtain ⟨rfl, h2⟩ := hk
    exact lv_sipush hx hb hd h2 (kk H locs ls hW hS hl)
  | lconst n =>
    simp only [zi_ck, Bool.and_eq_true, decide_eq_true_eq] at hk
    simp only [zi_nx, Option.some.injEq, Sum.inl.injEq, Prod.mk.injEq] at hn
    obtain ⟨rfl, rfl, rfl⟩ := hn
    subst hk
    exact lv_lconst hx hb hd rfl (kk H locs ls hW hS hl)
  | ldc2_w idx =>
    simp only [zi_ck, Bool.and_eq_true, decide_eq_true_eq] at hk
    simp only [zi_nx, Option.some.injEq, Sum.inl.injEq, Prod.mk.injEq] at hn
    obtain ⟨rfl, rfl, rfl⟩ := hn
    obtain ⟨rfl, h2⟩ := hk
    exact lv_ldc2 hx hb hown (hts _ (zi_w_in h2)) hd (kk H locs ls hW hS hl)
  | aconst_null =>
    simp only [zi_ck, Bool.and_eq_true, decide_eq_true_eq] at hk
    simp only [zi_nx, Option.some.injEq, Sum.inl.injEq, Prod.mk.injEq] at hn
    obtain ⟨rfl, rfl, rfl⟩ := hn
    subst hk
    exact lv_null hx hb hd (kk H locs ls hW hS hl)
  | iload n =>
    simp only [zi_ck, Bool.and_eq_true, decide_eq_true_eq] at hk
    simp only [zi_nx] at hn
    obtain ⟨x, hg, rfl, rfl, rfl⟩ := zi_ldi_inv hn
    subst hk
    exact lv_iload hx hb hd (zi_has_get hl hg) (kk H locs ls hW hS hl)
  | iload_n n =>
    simp only [zi_ck, Bool.and_eq_true, decide_eq_true_eq] at hk
    simp only [zi_nx] at hn
    obtain ⟨x, hg, rfl, rfl, rfl⟩ := zi_ldi_inv hn
    subst hk
    exact lv_iload_n hx hb hd rfl (zi_has_get hl hg) (kk H locs ls hW hS hl)
  | lload n =>
    simp only [zi_ck, Bool.and_eq_true, decide_eq_true_eq] at hk
    simp only [zi_nx] at hn
    obtain ⟨x, hg, rfl, rfl, rfl⟩ := zi_ldl_inv hn
    subst hk
    exact lv_lload hx hb hd (zi_has_get hl hg) (kk H locs ls hW hS hl)
  | lload_n n =>
    simp only [zi_ck, Bool.and_eq_true, decide_eq_true_eq] at hk
    simp only [zi_nx] at hn
    obtain ⟨x, hg, rfl, rfl, rfl⟩ := zi_ldl_inv hn
    subst hk
    exact lv_lload_n hx hb hd rfl (zi_has_get hl hg) (kk H locs ls hW hS hl)
  | aload n =>
    simp only [zi_ck, Bool.and_eq_true, decide_eq_true_eq] at hk
    simp only [zi_nx] at hn
    obtain ⟨v, hg, hv, rfl, rfl, rfl⟩ := zi_lda_inv hn
    subst hk
    exact zi_t_aload hx hb hv hd (zi_has_get hl hg) (kk H locs ls hW hS hl)
  | aload_n n =>
    simp only [zi_ck, Bool.and_eq_true, decide_eq_true_eq] at hk
    simp only [zi_nx] at hn
    obtain ⟨v, hg, hv, rfl, rfl, rfl⟩ := zi_lda_inv hn
    subst hk
    exact zi_t_aload_n hx hb hv hd (zi_has_get hl hg) (kk H locs ls hW hS hl)
  | istore n =>
    simp only [zi_ck, Bool.and_eq_true, decide_eq_true_eq] at hk
    simp only [zi_nx] at hn
    obtain ⟨x, r, rfl, rfl, rfl, rfl⟩ := zi_sti_inv hn
    obtain ⟨rfl, h2⟩ := hk
    exact lv_istore hx hb hd hl h2 rfl (fun ls' h' => kk H locs ls' hW hS (zi_has_st1 h'))
  | istore_n n =>
    simp only [zi_ck, Bool.and_eq_true, decide_eq_true_eq] at hk
    simp only [zi_nx] at hn
    obtain ⟨x, r, rfl, rfl, rfl, rfl⟩ := zi_sti_inv hn
    obtain ⟨rfl, h2⟩ := hk
    exact lv_istore_n hx hb hd rfl hl h2 rfl (fun ls' h' => kk H locs ls' hW hS (zi_has_st1 h'))
  | lstore n =>
    simp only [zi_ck, Bool.and_eq_true, decide_eq_true_eq] at hk
    simp only [zi_nx] at hn
    obtain ⟨x, r, rfl, rfl, rfl, rfl⟩ := zi_stl_inv hn
    obtain ⟨rfl, h2⟩ := hk
    exact lv_lstore hx hb hd hl h2 rfl (fun ls' h' => kk H locs ls' hW hS (zi_has_st2 h'))
  | lstore_n n =>
    simp only [zi_ck, Bool.and_eq_true, decide_eq_true_eq] at hk
    simp only [zi_nx] at hn
    obtain ⟨x, r, rfl, rfl, rfl, rfl⟩ := zi_stl_inv hn
    obtain ⟨rfl, h2⟩ := hk
    exact lv_lstore_n hx hb hd rfl hl h2 rfl (fun ls' h' => kk H locs ls' hW hS (zi_has_st2 h'))
  | astore n =>
    simp only [zi_ck, Bool.and_eq_true, decide_eq_true_eq] at hk
    simp only [zi_nx] at hn
    obtain ⟨v, r, rfl, hv, rfl, rfl, rfl⟩ := zi_sta_inv hn
    obtain ⟨rfl, h2⟩ := hk
    exact zi_t_astore hx hb hv hd hl h2 (fun ls' h' => kk H locs ls' hW hS h')
  | astore_n n =>
    simp only [zi_ck, Bool.and_eq_true, decide_eq_true_eq] at hk
    simp only [zi_nx] at hn
    obtain ⟨v, r, rfl, hv, rfl, rfl, rfl⟩ := zi_sta_inv hn
    obtain ⟨rfl, h2⟩ := hk
    exact zi_t_astore_n hx hb hv hd hl h2 (fun ls' h' => kk H locs ls' hW hS h')
  | iinc n d =>
    simp only [zi_ck, Bool.and_eq_true, decide_eq_true_eq] at hk
    simp only [zi_nx] at hn
    obtain ⟨x, hg, rfl, rfl, rfl⟩ := zi_inc_inv hn
    obtain ⟨rfl, h2, h3⟩ := hk
    exact zi_t_iinc hx hb hd hl hg h3 h2 (fun ls' h' => kk H locs ls' hW hS h')
  | iadd =>
    simp only [zi_ck, Bool.and_eq_true, decide_eq_true_eq] at hk
    simp only [zi_nx] at hn
    obtain ⟨x, y, r, rfl, rfl, rfl, rfl⟩ := zi_b2_inv hn
    subst hk
    exact lv_iadd hx hb hd (kk H locs ls hW hS hl)
  | isub =>
    simp only [zi_ck, Bool.and_eq_true, decide_eq_true_eq] at hk
    simp only [zi_nx] at hn
    obtain ⟨x, y, r, rfl, rfl, rfl, rfl⟩ := zi_b2_inv hn
    subst hk
    exact lv_isub hx hb hd (kk H locs ls hW hS hl)
  | imul =>
    simp only [zi_ck, Bool.and_eq_true, decide_eq_true_eq] at hk
    simp only [zi_nx] at hn
    obtain ⟨x, y, r, rfl, rfl, rfl, rfl⟩ := zi_b2_inv hn
    subst hk
    exact lv_imul hx hb hd (kk H locs ls hW hS hl)
  | iand =>
    simp only [zi_ck, Bool.and_eq_true, decide_eq_true_eq] at hk
    simp only [zi_nx] at hn
    obtain ⟨x, y, r, rfl, rfl, rfl, rfl⟩ := zi_b2_inv hn
    subst hk
    exact lv_iand hx hb hd (kk H locs ls hW hS hl)
  | ior =>
    simp only [zi_ck, Bool.and_eq_true, decide_eq_true_eq] at hk
    simp only [zi_nx] at hn
    obtain ⟨x, y, r, rfl, rfl, rfl, rfl⟩ := zi_b2_inv hn
    subst hk
    exact lv_ior hx hb hd (kk H locs ls hW hS hl)
  | ishl =>
    simp only [zi_ck, Bool.and_eq_true, decide_eq_true_eq] at hk
    simp only [zi_nx] at hn
    obtain ⟨x, y, r, rfl, rfl, rfl, rfl⟩ := zi_b2_inv hn
    subst hk
    exact lv_ishl hx hb hd (kk H locs ls hW hS hl)
  | ishr =>
    simp only [zi_ck, Bool.and_eq_true, decide_eq_true_eq] at hk
    simp only [zi_nx] at hn
    obtain ⟨x, y, r, rfl, rfl, rfl, rfl⟩ := zi_b2_inv hn
    subst hk
    exact lv_ishr hx hb hd (kk H locs ls hW hS hl)
  | idiv =>
    simp only [zi_ck, Bool.and_eq_true, decide_eq_true_eq] at hk
    simp only [zi_nx] at hn
    obtain ⟨x, y, r, rfl, rfl, rfl, rfl, hy⟩ := zi_d2_inv hn
    subst hk
    exact lv_idiv hx hb hd hy (kk H locs ls hW hS hl)
  | irem =>
    simp only [zi_ck, Bool.and_eq_true, decide_eq_true_eq] at hk
    simp only [zi_nx] at hn
    obtain ⟨x, y, r, rfl, rfl, rfl, rfl, hy⟩ := zi_d2_inv hn
    subst hk
    exact lv_irem hx hb hd hy (kk H locs ls hW hS hl)
  | ladd =>
    simp only [zi_ck, Bool.and_eq_true, decide_eq_true_eq] at hk
    simp only [zi_nx] at hn
    obtain ⟨x, y, r, rfl, rfl, rfl, rfl⟩ := zi_l2_inv hn
    subst hk
    exact lv_ladd hx hb hd (kk H locs ls hW hS hl)
  | ldiv =>
    simp only [zi_ck, Bool.and_eq_true, decide_eq_true_eq] at hk
    simp only [zi_nx] at hn
    obtain ⟨x, y, r, rfl, rfl, rfl, rfl, hy⟩ := zi_dl2_inv hn
    subst hk
    exact lv_ldiv hx hb hd hy (kk H locs ls hW hS hl)
  | lrem =>
    simp only [zi_ck, Bool.and_eq_true, decide_eq_true_eq] at hk
    simp only [zi_nx] at hn
    obtain ⟨x, y, r, rfl, rfl, rfl, rfl, hy⟩ := zi_dl2_inv hn
    subst hk
    exact lv_lrem hx hb hd hy (kk H locs ls hW hS hl)
  | lcmp =>
    simp only [zi_ck, Bool.and_eq_true, decide_eq_true_eq] at hk
    simp only [zi_nx] at hn
    obtain ⟨x, y, r, rfl, rfl, rfl, rfl⟩ := zi_lc_inv hn
    subst hk
    exact W.lcmp hx hb hd (kk H locs ls hW hS hl)
  | i2l =>
    simp only [zi_ck, Bool.and_eq_true, decide_eq_true_eq] at hk
    simp only [zi_nx] at hn
    obtain ⟨x, r, rfl, rfl, rfl, rfl⟩ := zi_u1_inv hn
    subst hk
    exact lv_i2l hx hb hd rfl (kk H locs ls hW hS hl)
  | i2b =>
    simp only [zi_ck, Bool.and_eq_true, decide_eq_true_eq] at hk
    simp only [zi_nx] at hn
    obtain ⟨x, r, rfl, rfl, rfl, rfl⟩ := zi_u1_inv hn
    subst hk
    exact lv_i2b hx hb hd rfl (kk H locs ls hW hS hl)
  | i2s =>
    simp only [zi_ck, Bool.and_eq_true, decide_eq_true_eq] at hk
    simp only [zi_nx] at hn
    obtain ⟨x, r, rfl, rfl, rfl, rfl⟩ := zi_u1_inv hn
    subst hk
    exact lv_i2s hx hb hd rfl (kk H locs ls hW hS hl)
  | pop =>
    simp only [zi_ck, Bool.and_eq_true, decide_eq_true_eq] at hk
    simp only [zi_nx] at hn
    obtain ⟨x, r, rfl, rfl, rfl, rfl⟩ := zi_pp_inv hn
    subst hk
    exact lv_pop hx hb hd rfl (kk H locs ls hW hS hl)
  | dup =>
    simp only [zi_ck, Bool.and_eq_true, decide_eq_true_eq] at hk
    simp only [zi_nx] at hn
    obtain ⟨v, r, rfl, hv, rfl, rfl, rfl⟩ := zi_dup_inv hn
    subst hk
    exact lv_dup hx hb hd (by rw [zi_con_cat]; exact hv) (kk H locs ls hW hS hl)
  | dup2 =>
    simp only [zi_ck, Bool.and_eq_true, decide_eq_true_eq] at hk
    simp only [zi_nx] at hn
    obtain ⟨x, y, r, rfl, rfl, rfl, rfl⟩ := zi_dup2_inv hn
    subst hk
    exact lv_dup2_11 hx hb hd rfl rfl (kk H locs ls hW hS hl)
  | getfield idx =>
    simp only [zi_ck, Bool.and_eq_true, decide_eq_true_eq] at hk
    simp only [zi_nx] at hn
    obtain ⟨id, r, rfl, hid, rfl, rfl, rfl⟩ := zi_gf_inv hn
    obtain ⟨rfl, h2, h3⟩ := hk
    exact zi_t_get (σ := σ) hx hb hts hown hK hW hid h2 h3 hd (kk H locs ls hW hS hl)
  | putfield idx =>
    simp only [zi_ck, Bool.and_eq_true, decide_eq_true_eq] at hk
    simp only [zi_nx] at hn
    obtain ⟨rfl, h2, ⟨h3, h3b⟩, h4, h5⟩ := hk
    rcases zi_pf_inv hn with ⟨id, x, r, rfl, hid, hx2, rfl, rfl, rfl⟩ | ⟨id, x, r, rfl, hid, htag, rfl, rfl, rfl⟩
    · exact zi_t_putI hx hb hts hown hK hW hS hid h2 h3 hx2 (fun h => ⟨hmn.trans (h5 h).1, (h5 h).2⟩) hd (fun H1 locs1 w1 s1 => kk H1 locs1 ls w1 s1 hl)
    · exact zi_t_putR hx hb hts hown hK hW hS hid h2 (h3.trans htag) (h4 htag) (fun h => ⟨hmn.trans (h5 h).1, (h5 h).2⟩) hd (fun H1 locs1 w1 s1 => kk H1 locs1 ls w1 s1 hl)
  | getstatic idx =>
    simp only [zi_ck, Bool.and_eq_true, decide_eq_true_eq] at hk
    simp only [zi_nx, Option.some.injEq, Sum.inl.injEq, Prod.mk.injEq] at hn
    obtain ⟨rfl, rfl, rfl⟩ := hn
    obtain ⟨rfl, h2, h3⟩ := hk
    have kk2 := kk H locs ls hW hS hl
    rcases (show ia = 0 ∨ ia = 1 by omega) with rfl | rfl
    · rcases (Bool.or_eq_true _ _).mp h3 with h | h
      · exact va_gets (n := "USES") hx hb hSS.2.1 hS hown (hts _ (zi_w_in h)) (fun _ h => h) hd kk2
      · exact va_getsN (n := "USES") hx hb hSS.2.1 hS hown (va_Nw.use rfl (hSS.2.2.2.2 _ (zi_wn_in h))) (fun _ h => h) hd kk2
    · rcases (Bool.or_eq_true _ _).mp h3 with h | h
      · exact va_gets (n := "MAKES") hx hb hSS.2.2.1 hS hown (hts _ (zi_w_in h)) (fun _ h => h) hd kk2
      · exact va_getsN (n := "MAKES") hx hb hSS.2.2.1 hS hown (va_Nw.use rfl (hSS.2.2.2.2 _ (zi_wn_in h))) (fun _ h => h) hd kk2
  | iaload =>
    simp only [zi_ck, Bool.and_eq_true, decide_eq_true_eq] at hk
    simp only [zi_nx] at hn
    subst hk
    rcases zi_ial_inv hn with ⟨id, j, r, rfl, ⟨h1, h2, h3⟩, rfl, rfl, rfl⟩ | ⟨q, j, r, rfl, h3, rfl, rfl, rfl⟩
    · exact zi_t_iald hx hb hK hW h1 h2 (zi_vin_in h3) hd (kk H locs ls hW hS hl)
    · exact va_ti hx hb (hSS.2.2.2.1 q.toNat) hS (zi_vin_in h3) rfl hd (kk H locs ls hW hS hl)
  | iastore =>
    simp only [zi_ck, Bool.and_eq_true, decide_eq_true_eq] at hk
    simp only [zi_nx] at hn
    subst hk
    obtain ⟨id, j, x, r, rfl, ⟨h1, h2, h3⟩, rfl, rfl, rfl⟩ := zi_ias_inv hn
    exact zi_t_iast hx hb hK hW hS h1 h2 (zi_vin_in h3) hd (fun H1 locs1 w1 s1 => kk H1 locs1 ls w1 s1 hl)
  | laload =>
    simp only [zi_ck, Bool.and_eq_true, decide_eq_true_eq] at hk
    simp only [zi_nx] at hn
    subst hk
    obtain ⟨id, j, r, rfl, ⟨h1, h2, h3⟩, rfl, rfl, rfl⟩ := zi_lal_inv hn
    exact zi_t_lald hx hb hK hW h1 h2 (zi_vin_in h3) hd (kk H locs ls hW hS hl)
  | lastore =>
    simp only [zi_ck, Bool.and_eq_true, decide_eq_true_eq] at hk
    simp only [zi_nx] at hn
    subst hk
    obtain ⟨id, j, x, r, rfl, ⟨h1, h2, h3⟩, rfl, rfl, rfl⟩ := zi_las_inv hn
    exact zi_t_last hx hb hK hW hS h1 h2 (zi_vin_in h3) hd (fun H1 locs1 w1 s1 => kk H1 locs1 ls w1 s1 hl)
  | aaload =>
    simp only [zi_ck, Bool.and_eq_true, decide_eq_true_eq] at hk
    simp only [zi_nx] at hn
    subst hk
    obtain ⟨id, j, r, rfl, ⟨h1, h2, h3⟩, rfl, rfl, rfl⟩ := zi_aal_inv hn
    refine zi_t_aald hx hb hK hW h1 h2 (zi_vin_in h3) hd ?_
    have kk2 := kk H locs ls hW hS hl
    rw [List.map_cons, zi_con_rf] at kk2
    exact kk2
  | aastore =>
    simp only [zi_ck, Bool.and_eq_true, decide_eq_true_eq] at hk
    simp only [zi_nx] at hn
    subst hk
    obtain ⟨id, j, x, r, rfl, ⟨h1, h2, h3⟩, rfl, rfl, rfl⟩ := zi_aas_inv hn
    rcases h2 with ⟨h2, h4⟩ | ⟨h2, h4⟩
    · exact zi_t_aast hx hb hK hW hS h1 h2 rfl h4 (T := TX5) rfl (zi_vin_in h3) hd (fun H1 locs1 w1 s1 => kk H1 locs1 ls w1 s1 hl)
    · exact zi_t_aast hx hb hK hW hS h1 h2 rfl h4 (T := TX4) rfl (zi_vin_in h3) hd (fun H1 locs1 w1 s1 => kk H1 locs1 ls w1 s1 hl)
  | arraylength =>
    simp only [zi_ck, Bool.and_eq_true, decide_eq_true_eq] at hk
    simp only [zi_nx] at hn
    subst hk
    rcases zi_aln_inv hn with ⟨id, r, rfl, ⟨h1, h2⟩, rfl, rfl, rfl⟩ | ⟨q, r, rfl, rfl, rfl, rfl⟩
    · exact zi_t_alen hx hb hK hW (by omega) h1.1 h2 hd (kk H locs ls hW hS hl)
    · obtain ⟨cell, g1, g2, g3, g4, g5, g6, g7⟩ := hSS.2.2.2.1 q.toNat
      exact W.alen (n := nI (zi_ro sc q.toNat).1) hx hb (by rw [hS.2.1 _ (Array.getElem?_eq_some_iff.mp g1).1 g7]; exact g1) g2 g5 rfl rfl hd (kk H locs ls hW hS hl)
  | new idx =>
    simp only [zi_ck, Bool.and_eq_true, decide_eq_true_eq] at hk
    simp only [zi_nx, zi_new, Option.some.injEq, Sum.inl.injEq, Prod.mk.injEq] at hn
    obtain ⟨rfl, rfl, rfl⟩ := hn
    obtain ⟨rfl, ⟨h2, h3⟩, h4, h5, h6, h7⟩ := hk
    dsimp only [zi_al] at hc hs kk
    subst h3
    exact zi_t_new hx hb hts hown hK hW hS h2 (zi_w_in h4) (zi_w_in h5) (zi_w_in h6) (fun j hj => by have := List.all_eq_true.mp h7 j (List.mem_range.mpr hj); simpa using this) hc hs hd (fun H1 w1 s1 => kk H1 locs ls w1 s1 hl)
  | newarray t =>
    simp only [zi_ck, Bool.and_eq_true, decide_eq_true_eq] at hk
    simp only [zi_nx] at hn
    obtain ⟨n, r, rfl, ⟨hn0, hn1⟩, rfl, rfl, rfl⟩ := zi_na_inv hn
    obtain ⟨rfl, h2, h3⟩ := hk
    dsimp only [zi_al] at hc hs kk
    have h4 := hts _ (zi_w_in h3)
    rcases h2 with ⟨rfl, rfl, rfl⟩ | ⟨rfl, rfl, rfl⟩
    · exact zi_t_newI hx hb h4 hK hW hS hn0 hn1 hc hs hd (fun H1 w1 s1 => kk H1 locs ls w1 s1 hl)
    · exact zi_t_newL hx hb h4 hK hW hS hn0 hn1 hc hs hd (fun H1 w1 s1 => kk H1 locs ls w1 s1 hl)
  | anewarray idx =>
    simp only [zi_ck, Bool.and_eq_true, decide_eq_true_eq] at hk
    simp only [zi_nx] at hn
    obtain ⟨n, r, rfl, ⟨hn0, hn1⟩, rfl, rfl, rfl⟩ := zi_na_inv hn
    obtain ⟨rfl, h2, h3, h4⟩ := hk
    dsimp only [zi_al] at hc hs kk
    have h5 := hts _ (zi_w_in h3)
    have h6 := hSS.2.2.2.2 _ (zi_wn_in h4)
    rcases h2 with rfl | rfl
    · exact zi_t_anew hx hb hown h5 (va_AO.use h6) hK rfl hW hS hn0 hn1 hc hs hd (fun H1 w1 s1 => kk H1 locs ls w1 s1 hl)
    · exact zi_t_anew hx hb hown h5 (va_AO.use h6) hK rfl hW hS hn0 hn1 hc hs hd (fun H1 w1 s1 => kk H1 locs ls w1 s1 hl)
  | multianewarray idx dd =>
    simp only [zi_ck, Bool.and_eq_true, decide_eq_true_eq] at hk
    simp only [zi_nx] at hn
    obtain ⟨kq, n, r, rfl, ⟨⟨hn0, hn1⟩, hk0, hk1⟩, rfl, rfl, rfl⟩ := zi_mna_inv hn
    obtain ⟨⟨rfl, rfl⟩, h2, h3, h4, h5⟩ := hk
    dsimp only [zi_al] at hc hs kk
    have h6 := hts _ (zi_w_in h3)
    have h7 := hSS.2.2.2.2 _ (zi_wn_in h4)
    have h8 := hts _ (zi_w_in h5)
    rcases h2 with ⟨rfl, rfl, h9⟩ | ⟨rfl, rfl, h9⟩
    · rw [h9] at kk
      exact zi_t_mna (fty := .int) hx hb hown h6 h7 h8 (Or.inl ⟨rfl, rfl, rfl, rfl⟩) hK hW hS hn0 hn1 hk0 hk1 hc hs hd (fun H1 w1 s1 => kk H1 locs ls w1 s1 hl)
    · rw [h9] at kk
      exact zi_t_mna (fty := .long) hx hb hown h6 h7 h8 (Or.inr ⟨rfl, rfl, rfl, rfl⟩) hK hW hS hn0 hn1 hk0 hk1 hc hs hd (fun H1 w1 s1 => kk H1 locs ls w1 s1 hl)
  | ifCond d off =>
    simp only [zi_ck, Bool.and_eq_true, decide_eq_true_eq] at hk
    simp only [zi_nx] at hn
    obtain ⟨x, r, rfl, hz⟩ := zi_if_inv hn
    obtain ⟨rfl, h2⟩ := hk
    by_cases hcm : zi_cmp d x 0 = true
    · rw [if_pos hcm] at hz; cases hz
    · rw [if_neg hcm] at hz
      cases hz
      exact zi_t_if hx hb hd h2 (fun h => absurd h hcm) (fun _ => kk H locs ls hW hS hl)
  | if_icmp d off =>
    simp only [zi_ck, Bool.and_eq_true, decide_eq_true_eq] at hk
    simp only [zi_nx] at hn
    obtain ⟨x, y, r, rfl, hz⟩ := zi_ic_inv hn
    obtain ⟨rfl, h2⟩ := hk
    by_cases hcm : zi_cmp d x y = true
    · rw [if_pos hcm] at hz; cases hz
    · rw [if_neg hcm] at hz
      cases hz
      exact zi_t_ic hx hb hd h2 (fun h => absurd h hcm) (fun _ => kk H locs ls hW hS hl)
  | ifnull off =>
    simp only [zi_ck, Bool.and_eq_true, decide_eq_true_eq] at hk
    simp only [zi_nx] at hn
    obtain ⟨rfl, h2⟩ := hk
    rcases zi_nul_inv hn with ⟨r, rfl, hz⟩ | ⟨x, r, rfl, hz⟩
    · cases hz
    · cases hz
      exact lv_ifnull hx hb hd (kk H locs ls hW hS hl)
  | ifnonnull off =>
    simp only [zi_ck, Bool.and_eq_true, decide_eq_true_eq] at hk
    simp only [zi_nx] at hn
    obtain ⟨rfl, h2⟩ := hk
    rcases zi_nnl_inv hn with ⟨r, rfl, hz⟩ | ⟨x, r, rfl, hz⟩
    · cases hz
      exact lv_ifnonnullN hx hb hd (kk H locs ls hW hS hl)
    · cases hz
  | invokestatic idx =>
    simp only [zi_nx] at hn
    by_cases h9 : ia = 9998
    · rw [if_pos h9] at hn
      simp only [zi_ck, if_pos h9, Bool.and_eq_true, decide_eq_true_eq] at hk
      obtain ⟨rfl, h2, h3, h4, h5, h6, h7⟩ := hk
      obtain ⟨n, dp, y, sp, x, r, rfl, ⟨⟨g1, g2, g3, g4⟩, ⟨g5, g6, g7⟩, ⟨g8, g9⟩, g10⟩, rfl, rfl, rfl⟩ := zi_cp_inv hn
      refine zi_t_cp hx hb (hml.trans hl.1.symm) hown (hts _ (zi_w_in h2)) (hts _ (zi_w_in h3)) (hts _ (zi_w_in h4)) (hts _ (zi_w_in h5)) hK hW hS g1 g2 g3 g4 g5 g6 g7 g8 g9 h6 ?_ hd (fun H1 locs1 w1 s1 => kk H1 locs1 ls w1 s1 hl)
      have := zi_len_sum a0 σ _ g10
      show _ ≤ zi_lc' T k
      omega
    · rw [if_neg h9] at hn
      obtain ⟨as, r, -, -, -, hz⟩ := zi_iv_inv hn
      cases hz
  | invokevirtual idx =>
    simp only [zi_nx] at hn
    obtain ⟨id, as, r, -, -, -, -, hz⟩ := zi_ivr_inv hn
    cases hz
  | invokespecial idx =>
    simp only [zi_nx] at hn
    by_cases h9 : ia = 9999
    · rw [if_pos h9] at hn
      simp only [zi_ck, if_pos h9, Bool.and_eq_true, decide_eq_true_eq] at hk
      obtain ⟨rfl, h2, h3, h4, h5, h6⟩ := hk
      obtain ⟨id, r, rfl, hr, rfl, rfl, rfl⟩ := zi_obj_inv hn
      refine W.objInit hx hb hown (hts _ (zi_w_in h2)) (hts _ (zi_w_in h3)) (hts _ (zi_w_in h4)) (g := F0 m pc ls (Value.ref (a0 + id) :: List.map (zi_con a0 σ) st')) rfl (hl.1.trans hml.symm) rfl hd h5 ?_ (kk H locs ls hW hS hl)
      have := zi_len_sum a0 σ _ hr
      show 2 * 0 + _ + 12 ≤ zi_lc' T k
      omega
    · rw [if_neg h9] at hn
      obtain ⟨id, as, r, -, -, -, -, hz⟩ := zi_ivr_inv hn
      cases hz
  | ireturn =>
    simp only [zi_nx] at hn
    obtain ⟨x, -, -, hz⟩ := zi_ri_inv hn
    cases hz
  | lreturn =>
    simp only [zi_nx] at hn
    obtain ⟨x, -, hz⟩ := zi_rl_inv hn
    cases hz
  | areturn =>
    simp only [zi_nx] at hn
    obtain ⟨x, -, -, hz⟩ := zi_ra_inv hn
    cases hz
  | return_ =>
    simp only [zi_nx] at hn
    obtain ⟨-, hz⟩ := zi_rv_inv hn
    cases hz
  | tableswitch d lo hi offs =>
    simp only [zi_nx] at hn
    obtain ⟨x, r, -, hz⟩ := zi_sw_inv hn
    cases hz
  | lookupswitch d ps =>
    simp only [zi_nx] at hn
    obtain ⟨x, r, -, hz⟩ := zi_sw_inv hn
    cases hz
  | _ => simp [zi_nx] at hn
end ZU
end
section
/-! jumps, calls, ends; the interpreter is sound -/
theorem zi_i1 {key : Int32} (h0 : 0 ≤ key.toInt) (h1 : key.toInt < 100000) : (key + 1).toInt = key.toInt + 1 := by
  rw [Int32.toInt_add, show (1 : Int32).toInt = 1 from rfl]
  exact Int.bmod_eq_of_le (by omega) (by omega)
theorem zi_tb_out : ∀ (ts : List Nat) (key : Int32) (d : Nat) (x : Int32), 0 ≤ key.toInt → key.toInt + ts.length < 1001 → (x.toInt < key.toInt ∨ key.toInt + ts.length ≤ x.toInt) → zi_tb key d x ts = d
  | [], key, d, x, _, _, _ => rfl
  | t :: ts, key, d, x, h0, h1, h => by
    simp only [List.length_cons] at h1 h
    have e := zi_i1 h0 (by omega)
    unfold zi_tb
    rw [if_neg (fun q => by rw [q] at h; omega)]
    exact zi_tb_out ts (key + 1) d x (by omega) (by omega) (by omega)
theorem zi_tb_in : ∀ (ts : List Nat) (key : Int32) (d : Nat) (x : Int32) (j : Nat), 0 ≤ key.toInt → key.toInt + ts.length < 1001 → x.toInt = key.toInt + j → j < ts.length → some (zi_tb key d x ts) = ts[j]?
  | [], key, d, x, j, _, _, _, h => absurd h (Nat.not_lt_zero _)
  | t :: ts, key, d, x, j, h0, h1, h, hj => by
    simp only [List.length_cons] at h1 hj
    have e := zi_i1 h0 (by omega)
    cases j with
    | zero =>
      have : x = key := Int32.toInt_inj.mp (by omega)
      unfold zi_tb
      rw [if_pos this]
      rfl
    | succ j =>
      unfold zi_tb
      rw [if_neg (fun q => by rw [q] at h; omega)]
      rw [List.getElem?_cons_succ]
      exact zi_tb_in ts (key + 1) d x j (by omega) (by omega) (by omega) (by omega)
theorem zi_lk_off (pc : Int) (sp : Nat → Nat) (d : Nat) (dd : Int) (hd : pc + dd = (sp d : Int)) (x : Int32) : ∀ (ps : List (Int × Int)) (ts : List Nat), ps.map (fun q => pc + q.2) = ts.map (fun b => (sp b : Int)) → ps.all (fun q => decide ((Int32.ofInt q.1).toInt = q.1)) = true → pc + Op.lookupswitch.offset ps dd x.toInt = (sp (zi_lk d x ps ts) : Int)
  | [], ts, h, _ => by
    cases ts with
    | nil => exact hd
    | cons t ts => simp at h
  | q :: ps, [], h, _ => by simp at h
  | q :: ps, t :: ts, h, ha => by
    simp only [List.map_cons, List.cons.injEq] at h
    simp only [List.all_cons, Bool.and_eq_true, decide_eq_true_eq] at ha
    obtain ⟨q1, q2⟩ := q
    rw [Op.lookupswitch.offset_cons]
    unfold zi_lk
    by_cases hq : x = Int32.ofInt q1
    · rw [if_pos (by rw [hq]; exact ha.1.symm), if_pos hq]
      exact h.1
    · rw [if_neg (fun z => hq (Int32.toInt_inj.mp (by rw [← z]; exact ha.1.symm))), if_neg hq]
      exact zi_lk_off pc sp d dd hd x ps ts h.2 ha.2
def zi_rok (rt : Option FieldType) (op : Instr) (r : Option Value) : Prop :=
  (op = .ireturn ∧ ∃ x, r = some (.int x) ∧ (rt = some .int ∨ (rt = some .boolean ∧ (x = 0 ∨ x = 1)))) ∨ (op = .lreturn ∧ ∃ x, r = some (.long x) ∧ rt = some .long) ∨ (op = .areturn ∧ ∃ v, r = some v ∧ (v = .null ∨ ∃ x, v = .ref x) ∧ rt = some (.object "LoopRounds$Round")) ∨ (op = .return_ ∧ r = none ∧ rt = none)
def zi_wd (T : Nat → zi_D) (k : Nat) : List Cond := Cond.code (zi_yy T k) (zi_cd T k) (zi_mx T k) (zi_rt T k) :: zi_gw
def zi_Pre (sc : Nat × (Nat → Int32)) (a0 : Nat) (τ : Nat → ClassId) (σ : Nat → Nat) (dC : Nat → ClassId) (dI : Nat → Nat → Nat) (M : zi_M) (as : List Value) : Array Value → State → Prop := va_Pc (as.map (zi_con a0 σ)) (fun U => zi_S sc a0 τ σ dC dI U ∧ zi_W a0 τ dC dI M U.heap)
def zi_Post (a0 : Nat) (τ : Nat → ClassId) (σ : Nat → Nat) (dC : Nat → ClassId) (dI : Nat → Nat → Nat) (r : Option Value) (M' : zi_M) : Array Value → State → Outcome → State → Prop := fun _ st oc t => oc = .returned (r.map (zi_con a0 σ)) ∧ zi_W a0 τ dC dI M' t.heap ∧ va_F (zi_A a0) st t
section ZX
variable {p : Program} {l : Launch} {e : Env} {R : Room} {s : State} {m : MethodId} {args : Array Value} {below : List Frame} {meth : Method} {c : Code} {H : Heap} {locs : List Loc} {cells slots : Nat} {Q : State → Prop}
variable {cc : ByteArray} {pc : Nat} {ls : Array Slot} {rest : List Value}
variable {T : Nat → zi_D} {sc : Nat × (Nat → Int32)} {a0 : Nat} {τ : Nat → ClassId} {dC : Nat → ClassId} {dI : Nat → Nat → Nat} {M : zi_M} {σ : Nat → Nat} {k : Nat}
theorem zi_jump (C : zi_cx T sc a0 τ σ dC dI k p s m args meth c) {i : zi_I} {len : Nat} (hd : decode (zi_cd T k) pc = .ok (i.1, len)) (hne : i.1 ≠ .nop) (hk : zi_ck T k pc i len = true) {lv : zi_L} {st st' : List Value} {b : Nat} (hn : zi_nx sc i lv st M = some (.inr (.inl (b, st'))))
    (kk : W p l e R s m args below meth c H locs cells slots Q (F0 m (zi_sp T k b) ls (st'.map (zi_con a0 σ)))) : W p l e R s m args below meth c H locs cells slots Q (F0 m pc ls (st.map (zi_con a0 σ))) := by
  obtain ⟨hx, hb, hml, hown, hts, hmn, hSS, ha0⟩ := id C
  obtain ⟨op, ia, ib, ic, il⟩ := i
  dsimp only at hd hne
  cases op with
  | nop => exact absurd rfl hne
  | goto off =>
    simp only [zi_ck, Bool.and_eq_true, decide_eq_true_eq] at hk
    simp only [zi_nx, Option.some.injEq, Sum.inr.injEq, Sum.inl.injEq, Prod.mk.injEq] at hn
    obtain ⟨rfl, rfl⟩ := hn
    obtain ⟨rfl, h2⟩ := hk
    exact lv_goto hx hb hd h2 kk
  | ifCond d off =>
    simp only [zi_ck, Bool.and_eq_true, decide_eq_true_eq] at hk
    simp only [zi_nx] at hn
    obtain ⟨x, r, rfl, hz⟩ := zi_if_inv hn
    obtain ⟨rfl, h2⟩ := hk
    by_cases hcm : zi_cmp d x 0 = true
    · rw [if_pos hcm] at hz
      cases hz
      exact zi_t_if hx hb hd h2 (fun _ => kk) (fun h => absurd hcm h)
    · rw [if_neg hcm] at hz
      cases hz
  | if_icmp d off =>
    simp only [zi_ck, Bool.and_eq_true, decide_eq_true_eq] at hk
    simp only [zi_nx] at hn
    obtain ⟨x, y, r, rfl, hz⟩ := zi_ic_inv hn
    obtain ⟨rfl, h2⟩ := hk
    by_cases hcm : zi_cmp d x y = true
    · rw [if_pos hcm] at hz
      cases hz
      exact zi_t_ic hx hb hd h2 (fun _ => kk) (fun h => absurd hcm h)
    · rw [if_neg hcm] at hz
      cases hz
  | ifnull off =>
    simp only [zi_ck, Bool.and_eq_true, decide_eq_true_eq] at hk
    simp only [zi_nx] at hn
    obtain ⟨rfl, h2⟩ := hk
    rcases zi_nul_inv hn with ⟨r, rfl, hz⟩ | ⟨x, r, rfl, hz⟩
    · cases hz
      exact lv_ifnullN hx hb hd h2 kk
    · cases hz
  | ifnonnull off =>
    simp only [zi_ck, Bool.and_eq_true, decide_eq_true_eq] at hk
    simp only [zi_nx] at hn
    obtain ⟨rfl, h2⟩ := hk
    rcases zi_nnl_inv hn with ⟨r, rfl, hz⟩ | ⟨x, r, rfl, hz⟩
    · cases hz
    · cases hz
      exact lv_ifnonnull hx hb hd h2 kk
  | tableswitch d lo hi offs =>
    simp only [zi_ck, Bool.and_eq_true, decide_eq_true_eq] at hk
    simp only [zi_nx] at hn
    obtain ⟨x, r, rfl, hz⟩ := zi_sw_inv hn
    cases hz
    obtain ⟨h1, ⟨h2, h3, h4, h5⟩, h6⟩ := hk
    have hlen : offs.toList.length = il.length := by have := congrArg List.length h6; simpa using this
    by_cases ho : x.toInt < lo ∨ hi < x.toInt
    · refine lv_tableOut hx hb hd ho h1 ?_
      rw [zi_tb_out il ic ia x (by omega) (by omega) (by omega)] at kk
      exact kk
    · have hj : (x.toInt - lo).toNat < il.length := by omega
      have e1 := zi_tb_in il ic ia x (x.toInt - lo).toNat (by omega) (by omega) (by omega) hj
      have e2 := congrArg (fun z => z[(x.toInt - lo).toNat]?) h6
      simp only [List.getElem?_map, ← e1, Option.map_some] at e2
      have hjo : (x.toInt - lo).toNat < offs.toList.length := by rw [hlen]; exact hj
      obtain ⟨off, hoff⟩ : ∃ off, offs.toList[(x.toInt - lo).toNat]? = some off := ⟨_, List.getElem?_eq_getElem hjo⟩
      rw [hoff, Option.map_some] at e2
      exact lv_tableIn hx hb hd (fun q => ho (Or.inl q)) (fun q => ho (Or.inr q)) (by rw [← Array.getElem?_toList]; exact hoff) (Option.some.inj e2) kk
  | lookupswitch d ps =>
    simp only [zi_ck, Bool.and_eq_true, decide_eq_true_eq] at hk
    simp only [zi_nx] at hn
    obtain ⟨x, r, rfl, hz⟩ := zi_sw_inv hn
    cases hz
    obtain ⟨h1, h2, h3, h4⟩ := hk
    exact lv_lookup hx hb hd h2 rfl (zi_lk_off pc (zi_sp T k) ia d h1 x ps.toList il h4 h3) kk
  | ireturn => simp only [zi_nx] at hn; obtain ⟨x, -, -, hz⟩ := zi_ri_inv hn; cases hz
  | lreturn => simp only [zi_nx] at hn; obtain ⟨x, -, hz⟩ := zi_rl_inv hn; cases hz
  | areturn => simp only [zi_nx] at hn; obtain ⟨x, -, -, hz⟩ := zi_ra_inv hn; cases hz
  | return_ => simp only [zi_nx] at hn; obtain ⟨-, hz⟩ := zi_rv_inv hn; cases hz
  | invokestatic idx =>
    simp only [zi_nx] at hn
    by_cases h9 : ia = 9998
    · rw [if_pos h9] at hn
      unfold zi_cp at hn
      split at hn
      · split at hn <;> cases hn
      · cases hn
    · rw [if_neg h9] at hn
      obtain ⟨as, r, -, -, -, hz⟩ := zi_iv_inv hn
      cases hz
  | invokevirtual idx => simp only [zi_nx] at hn; obtain ⟨id, as, r, -, -, -, -, hz⟩ := zi_ivr_inv hn; cases hz
  | invokespecial idx =>
    simp only [zi_nx] at hn
    by_cases h9 : ia = 9999
    · rw [if_pos h9] at hn
      unfold zi_obj at hn
      split at hn
      · split at hn <;> cases hn
      · cases hn
    · rw [if_neg h9] at hn
      obtain ⟨id, as, r, -, -, -, -, hz⟩ := zi_ivr_inv hn
      cases hz
  | _ =>
    simp only [zi_nx] at hn
    first
      | cases hn
      | (unfold zi_ldi at hn; split at hn <;> cases hn)
      | (unfold zi_ldl at hn; split at hn <;> cases hn)
      | (unfold zi_lda at hn; split at hn <;> cases hn)
      | (unfold zi_sti at hn; split at hn <;> cases hn)
      | (unfold zi_stl at hn; split at hn <;> cases hn)
      | (unfold zi_sta at hn; split at hn <;> cases hn)
      | (unfold zi_inc at hn; split at hn <;> cases hn)
      | (unfold zi_b2 at hn; split at hn <;> cases hn)
      | (unfold zi_l2 at hn; split at hn <;> cases hn)
      | (unfold zi_lc at hn; split at hn <;> cases hn)
      | (unfold zi_u1 at hn; split at hn <;> cases hn)
      | (unfold zi_pp at hn; split at hn <;> cases hn)
      | (unfold zi_dup at hn; split at hn <;> cases hn)
      | (unfold zi_dup2 at hn; split at hn <;> cases hn)
      | (unfold zi_new at hn; cases hn)
      | (unfold zi_d2 at hn; split at hn <;> (try split at hn) <;> cases hn)
      | (unfold zi_dl2 at hn; split at hn <;> (try split at hn) <;> cases hn)
      | (unfold zi_gf at hn; split at hn <;> (try split at hn) <;> cases hn)
      | (unfold zi_pf at hn; split at hn <;> (try split at hn) <;> cases hn)
      | (unfold zi_ial at hn; split at hn <;> (try split at hn) <;> cases hn)
      | (unfold zi_ias at hn; split at hn <;> (try split at hn) <;> cases hn)
      | (unfold zi_lal at hn; split at hn <;> (try split at hn) <;> cases hn)
      | (unfold zi_las at hn; split at hn <;> (try split at hn) <;> cases hn)
      | (unfold zi_aal at hn; split at hn <;> (try split at hn) <;> cases hn)
      | (unfold zi_aas at hn; split at hn <;> (try split at hn) <;> cases hn)
      | (unfold zi_aln at hn; split at hn <;> (try split at hn) <;> cases hn)
      | (unfold zi_na at hn; split at hn <;> (try split at hn) <;> cases hn)
      | (unfold zi_mna at hn; split at hn <;> (try split at hn) <;> cases hn)
/-- behind a call -/
theorem zi_callW {mc ms : Nat} {r : Option Value} {M' : zi_M} {a : Array Value} {st0 : List Value} (hr : va_Run p l e R s m args below meth c H locs cells slots mc ms (F0 m pc ls st0) rest (zi_Post a0 τ σ dC dI r M' a) (zi_A a0)) (hS : va_S (zi_A a0) s.heap H locs)
    (kk : ∀ (H1 : Heap) (locs1 : List Loc), zi_W a0 τ dC dI M' H1 → va_S (zi_A a0) s.heap H1 locs1 → W p l e R s m args below meth c H1 locs1 (cells + mc) (slots + ms) Q (F0 m (pc + 3) ls ((r.map (zi_con a0 σ)).toList ++ rest))) : W p l e R s m args below meth c H locs cells slots Q (F0 m pc ls st0) := by
  intro T hT X
  obtain ⟨v, st₀, t, T', L, h0, X', hL, e1, e2, ⟨hv, hw, hz, hk⟩, st⟩ := hr T hT X
  cases hv
  rw [h0] at hz hk
  obtain ⟨t2, a1, b1⟩ := kk T'.heap (locs ++ L) (by rw [e1]; exact hw) ⟨Nat.le_trans hS.1 (by rw [e1]; exact hz), fun q h1 h2 => by rw [e1, hk q (Nat.lt_of_lt_of_le h1 hS.1) h2]; exact hS.2.1 q h1 h2, fun q hq => by
      rcases List.mem_append.mp hq with h | h
      · exact hS.2.2 q h
      · exact hL q h⟩ T' rfl X'
  exact ⟨t2, st t2 a1, b1⟩
theorem zi_kc_spec {j np p1 p2 : Nat} (h : zi_kc T k j np p1 p2 = true) : Cond.code (zi_yy T j) (zi_cd T j) (zi_mx T j) (zi_rt T j) ∈ zi_gw ∧ Cond.initialized (zi_yy T j).cls ∈ zi_gw ∧ ((zi_yy T j).cls ≠ "java/lang/invoke/MethodHandle" ∧ (zi_yy T j).cls ≠ "java/lang/invoke/VarHandle") ∧ (parseMethodDescriptor (zi_yy T j).desc).map (fun d => d.parameters.length) = some np ∧ (zi_fr T j + 1 ≤ zi_fr T k ∧ 8 + (zi_mx T j + 11) + zi_lc' T j ≤ zi_lc' T k) := by
  unfold zi_kc at h
  simp only [Bool.and_eq_true, decide_eq_true_eq] at h
  exact ⟨zi_w_in h.1, zi_w_in h.2.1, h.2.2.1, h.2.2.2.1, h.2.2.2.2⟩
theorem zi_wd_good {j : Nat} (h : Cond.code (zi_yy T j) (zi_cd T j) (zi_mx T j) (zi_rt T j) ∈ zi_gw) : GoodIn zi_gw (zi_wd T j) := by
  intro w hw
  rcases List.mem_cons.mp hw with rfl | hw
  · exact ⟨h, zi_gw_good h⟩
  · exact ⟨hw, zi_gw_good hw⟩
theorem zi_blind {as : List Value} : FrameBlind (zi_Pre sc a0 τ σ dC dI M as) := fun a U g mk h => ⟨h.1, h.2.1.blind, h.2.2⟩
theorem zi_call (C : zi_cx T sc a0 τ σ dC dI k p s m args meth c) {i : zi_I} {len : Nat} (hd : decode (zi_cd T k) pc = .ok (i.1, len)) (hk : zi_ck T k pc i len = true) {lv : zi_L} {st st' as : List Value} {j : Nat} (hn : zi_nx sc i lv st M = some (.inr (.inr (.inr (j, as, st'))))) (hW : zi_W a0 τ dC dI M H) (hS : va_S (zi_A a0) s.heap H locs) (hl : ls.size = zi_mx T k) {r : Option Value} {M' : zi_M}
    (hM : zi_fit as (zi_mx T j) = true → Met l (zi_yy T j) (zi_wd T j) (zi_rm T j) (zi_Pre sc a0 τ σ dC dI M as) (zi_Post a0 τ σ dC dI r M') (zi_mc T j) (zi_ms T j) (zi_A a0)) (hcs : cells + zi_mc T j ≤ zi_mc T k ∧ slots + zi_ms T j ≤ zi_ms T k)
    (kk : ∀ (H1 : Heap) (locs1 : List Loc), zi_W a0 τ dC dI M' H1 → va_S (zi_A a0) s.heap H1 locs1 → W p l e (zi_rm T k) s m args below meth c H1 locs1 (cells + zi_mc T j) (slots + zi_ms T j) Q (F0 m (pc + len) ls ((r.map (zi_con a0 σ)).toList ++ st'.map (zi_con a0 σ)))) : W p l e (zi_rm T k) s m args below meth c H locs cells slots Q (F0 m pc ls (st.map (zi_con a0 σ))) := by
  obtain ⟨hx, hb, hml, hown, hts, hmn, hSS, ha0⟩ := id C
  have hK := hSS.1
  have hPc : ∀ U : State, U.heap = H → s.WarmedH U.vm → zi_Pre sc a0 τ σ dC dI M as (as.map (zi_con a0 σ)).toArray U := fun U hU hWm => ⟨rfl, hSS.moved hWm (by rw [hU]; exact hS), by rw [hU]; exact hW⟩
  obtain ⟨op, ia, ib, ic, il⟩ := i
  dsimp only at hd
  cases op with
  | invokestatic idx =>
    simp only [zi_nx] at hn
    by_cases h9 : ia = 9998
    · rw [if_pos h9] at hn
      unfold zi_cp at hn
      split at hn
      · split at hn <;> cases hn
      · cases hn
    · rw [if_neg h9] at hn
      simp only [zi_ck, if_neg h9, Bool.and_eq_true, decide_eq_true_eq] at hk
      obtain ⟨rfl, h2, h3, h4, h5⟩ := hk
      obtain ⟨as2, r2, hp, hsh, hfit, hz⟩ := zi_iv_inv hn
      cases hz
      obtain ⟨g1, g2, g3, g4, g5⟩ := zi_kc_spec h2
      rw [h3] at hfit
      have hst : st.map (zi_con a0 σ) = (as.map (zi_con a0 σ)).reverse ++ st'.map (zi_con a0 σ) := by
        have := zi_pop_eq _ _ _ _ _ hp
        simp only [List.reverse_nil, List.nil_append] at this
        rw [this, List.map_append, List.map_reverse]
      have hlen : (as.map (zi_con a0 σ)).length = ib := by
        have := zi_pop_len _ _ _ _ _ hp
        simpa using this
      rcases (Bool.or_eq_true _ _).mp h5 with h | h
      · exact zi_callW (va_runS (As := as.map (zi_con a0 σ)) (rest := st'.map (zi_con a0 σ)) ⟨hx, hb, hml, hown, hts⟩ (hM hfit) ⟨callB_of ib hts (zi_wd_good g1) rfl rfl rfl (hts _ g2) (hts _ (zi_w_in h)) ⟨g3.1, g3.2, g4⟩ g5, hts _ (zi_w_in h4)⟩ ⟨zi_blind, hPc⟩ rfl hlen hl hst (lv_room (zi_sh_sum a0 σ _ hsh)) hd hcs) hS kk
      · exact zi_callW (va_runSN (As := as.map (zi_con a0 σ)) (rest := st'.map (zi_con a0 σ)) ⟨hx, hb, hml, hown, hts⟩ (hM hfit) ⟨va_cnB ib hts (zi_wd_good g1) rfl rfl rfl (hSS.2.2.2.2 _ (zi_wn_in h)) (hts _ g2) ⟨g3.1, g3.2, g4⟩ g5, hts _ (zi_w_in h4), trivial⟩ ⟨zi_blind, hPc⟩ rfl hlen hl hst (lv_room (zi_sh_sum a0 σ _ hsh)) hd hcs) hS kk
  | invokevirtual idx =>
    simp only [zi_nx] at hn
    simp only [zi_ck, Bool.and_eq_true, decide_eq_true_eq] at hk
    obtain ⟨rfl, h2, ⟨h3, h3b, h3c, h3d⟩, h4, h5, h6⟩ := hk
    obtain ⟨id, as2, r2, hp, hid, hsh, hfit, hz⟩ := zi_ivr_inv hn
    cases hz
    obtain ⟨g1, g2, g3, g4, g5⟩ := zi_kc_spec h2
    rw [h3] at hfit
    have hst : st.map (zi_con a0 σ) = (as2.map (zi_con a0 σ)).reverse ++ .ref (a0 + id) :: st'.map (zi_con a0 σ) := by
      have := zi_pop_eq _ _ _ _ _ hp
      simp only [List.reverse_nil, List.nil_append, List.reverse_cons, List.append_assoc, List.singleton_append] at this
      rw [this, List.map_append, List.map_reverse, List.map_cons]
      rfl
    have hlen : (as2.map (zi_con a0 σ)).length = ib - 1 := by
      have := zi_pop_len _ _ _ _ _ hp
      simp only [List.length_cons, List.length_nil] at this
      rw [List.length_map]
      omega
    have hrec : ∃ cellB : Cell, H[a0 + id]? = some cellB ∧ cellB.vm.isStatics = false ∧ s.vm.findClass (zi_yy T j).cls = some cellB.cls := by
      rw [← h3c]
      have ha := zi_at hW (id := id) (by rw [hid]; show (0 : Nat) ≠ 9; decide)
      rw [zi_c0 hid] at ha
      exact va_recv hK hW.2 (zi_q_at h3b) ha
    exact zi_callW (va_runV (As := as2.map (zi_con a0 σ)) (rest := st'.map (zi_con a0 σ)) ⟨hx, hb, hml, hown, hts⟩ (hM hfit) ⟨callB_of (ib - 1) hts (zi_wd_good g1) rfl rfl rfl (hts _ g2) (hts _ (zi_w_in h6)) ⟨g3.1, g3.2, g4⟩ g5, hts _ (zi_w_in h4), hts _ (zi_w_in h5)⟩ ⟨zi_blind, hrec, hPc⟩ rfl hlen hl hst (lv_room (zi_sh_sum a0 σ _ hsh)) hd hcs) hS kk
  | invokespecial idx =>
    simp only [zi_nx] at hn
    by_cases h9 : ia = 9999
    · rw [if_pos h9] at hn
      unfold zi_obj at hn
      split at hn
      · split at hn <;> cases hn
      · cases hn
    · rw [if_neg h9] at hn
      simp only [zi_ck, if_neg h9, Bool.and_eq_true, decide_eq_true_eq] at hk
      obtain ⟨rfl, h2, ⟨h3, h3b, h3c, h3d⟩, h4, h5⟩ := hk
      obtain ⟨id, as2, r2, hp, hid, hsh, hfit, hz⟩ := zi_ivr_inv hn
      cases hz
      obtain ⟨g1, g2, g3, g4, g5⟩ := zi_kc_spec h2
      rw [h3] at hfit
      have hst : st.map (zi_con a0 σ) = (as2.map (zi_con a0 σ)).reverse ++ .ref (a0 + id) :: st'.map (zi_con a0 σ) := by
        have := zi_pop_eq _ _ _ _ _ hp
        simp only [List.reverse_nil, List.nil_append, List.reverse_cons, List.append_assoc, List.singleton_append] at this
        rw [this, List.map_append, List.map_reverse, List.map_cons]
        rfl
      have hlen : (as2.map (zi_con a0 σ)).length = ib - 1 := by
        have := zi_pop_len _ _ _ _ _ hp
        simp only [List.length_cons, List.length_nil] at this
        rw [List.length_map]
        omega
      have hwd : zi_wd T j = Cond.code (zi_yy T j) (zi_cd T j) (zi_mx T j) none :: zi_gw := by unfold zi_wd; rw [h3c]
      rcases (Bool.or_eq_true _ _).mp h5 with h | h
      · exact zi_callW (va_runI (As := as2.map (zi_con a0 σ)) (rest := st'.map (zi_con a0 σ)) ⟨hx, hb, hml, hown, hts⟩ (hM hfit) ⟨callB_of (ib - 1) hts (zi_wd_good g1) hwd rfl rfl (hts _ g2) (hts _ (zi_w_in h)) ⟨g3.1, g3.2, g4⟩ g5, h3b, hts _ (zi_w_in h4)⟩ ⟨zi_blind, hPc⟩ rfl hlen hl hst (lv_room (zi_sh_sum a0 σ _ hsh)) hd hcs) hS kk
      · exact zi_callW (va_runIN (As := as2.map (zi_con a0 σ)) (rest := st'.map (zi_con a0 σ)) ⟨hx, hb, hml, hown, hts⟩ (hM hfit) ⟨va_cnB (ib - 1) hts (zi_wd_good g1) hwd rfl rfl (hSS.2.2.2.2 _ (zi_wn_in h)) (hts _ g2) ⟨g3.1, g3.2, g4⟩ g5, h3b, hts _ (zi_w_in h4)⟩ ⟨zi_blind, hPc⟩ rfl hlen hl hst (lv_room (zi_sh_sum a0 σ _ hsh)) hd hcs) hS kk
  | ifCond d off =>
    simp only [zi_nx] at hn
    obtain ⟨x, r, rfl, hz⟩ := zi_if_inv hn
    split at hz <;> cases hz
  | if_icmp d off =>
    simp only [zi_nx] at hn
    obtain ⟨x, y, r, rfl, hz⟩ := zi_ic_inv hn
    split at hz <;> cases hz
  | ifnull off => simp only [zi_nx] at hn; rcases zi_nul_inv hn with ⟨r, rfl, hz⟩ | ⟨x, r, rfl, hz⟩ <;> cases hz
  | ifnonnull off => simp only [zi_nx] at hn; rcases zi_nnl_inv hn with ⟨r, rfl, hz⟩ | ⟨x, r, rfl, hz⟩ <;> cases hz
  | tableswitch d lo hi offs => simp only [zi_nx] at hn; obtain ⟨x, r, rfl, hz⟩ := zi_sw_inv hn; cases hz
  | lookupswitch d ps => simp only [zi_nx] at hn; obtain ⟨x, r, rfl, hz⟩ := zi_sw_inv hn; cases hz
  | ireturn => simp only [zi_nx] at hn; obtain ⟨x, -, -, hz⟩ := zi_ri_inv hn; cases hz
  | lreturn => simp only [zi_nx] at hn; obtain ⟨x, -, hz⟩ := zi_rl_inv hn; cases hz
  | areturn => simp only [zi_nx] at hn; obtain ⟨x, -, -, hz⟩ := zi_ra_inv hn; cases hz
  | return_ => simp only [zi_nx] at hn; obtain ⟨-, hz⟩ := zi_rv_inv hn; cases hz
  | _ =>
    simp only [zi_nx] at hn
    first
      | cases hn
      | (unfold zi_ldi at hn; split at hn <;> cases hn)
      | (unfold zi_ldl at hn; split at hn <;> cases hn)
      | (unfold zi_lda at hn; split at hn <;> cases hn)
      | (unfold zi_sti at hn; split at hn <;> cases hn)
      | (unfold zi_stl at hn; split at hn <;> cases hn)
      | (unfold zi_sta at hn; split at hn <;> cases hn)
      | (unfold zi_inc at hn; split at hn <;> cases hn)
      | (unfold zi_b2 at hn; split at hn <;> cases hn)
      | (unfold zi_l2 at hn; split at hn <;> cases hn)
      | (unfold zi_lc at hn; split at hn <;> cases hn)
      | (unfold zi_u1 at hn; split at hn <;> cases hn)
      | (unfold zi_pp at hn; split at hn <;> cases hn)
      | (unfold zi_dup at hn; split at hn <;> cases hn)
      | (unfold zi_dup2 at hn; split at hn <;> cases hn)
      | (unfold zi_new at hn; cases hn)
      | (unfold zi_d2 at hn; split at hn <;> (try split at hn) <;> cases hn)
      | (unfold zi_dl2 at hn; split at hn <;> (try split at hn) <;> cases hn)
      | (unfold zi_gf at hn; split at hn <;> (try split at hn) <;> cases hn)
      | (unfold zi_pf at hn; split at hn <;> (try split at hn) <;> cases hn)
      | (unfold zi_ial at hn; split at hn <;> (try split at hn) <;> cases hn)
      | (unfold zi_ias at hn; split at hn <;> (try split at hn) <;> cases hn)
      | (unfold zi_lal at hn; split at hn <;> (try split at hn) <;> cases hn)
      | (unfold zi_las at hn; split at hn <;> (try split at hn) <;> cases hn)
      | (unfold zi_aal at hn; split at hn <;> (try split at hn) <;> cases hn)
      | (unfold zi_aas at hn; split at hn <;> (try split at hn) <;> cases hn)
      | (unfold zi_aln at hn; split at hn <;> (try split at hn) <;> cases hn)
      | (unfold zi_na at hn; split at hn <;> (try split at hn) <;> cases hn)
      | (unfold zi_mna at hn; split at hn <;> (try split at hn) <;> cases hn)
end ZX
end
section
/-! the interpreter is sound: what it comes to, the machine comes to -/
section ZY
variable {p : Program} {l : Launch} {e : Env} {R : Room} {s : State} {m : MethodId} {args : Array Value} {below : List Frame} {meth : Method} {c : Code} {H : Heap} {locs : List Loc} {cells slots : Nat} {Q : State → Prop}
variable {cc : ByteArray} {pc : Nat} {ls : Array Slot} {rest : List Value}
variable {T : Nat → zi_D} {sc : Nat × (Nat → Int32)} {a0 : Nat} {τ : Nat → ClassId} {dC : Nat → ClassId} {dI : Nat → Nat → Nat} {M : zi_M} {σ : Nat → Nat} {k : Nat}
theorem zi_retn {i : zi_I} {len : Nat} (hk : zi_ck T k pc i len = true) {lv : zi_L} {st : List Value} {r : Option Value} (hn : zi_nx sc i lv st M = some (.inr (.inr (.inl r)))) : len = 1 ∧ zi_rok (zi_rt T k) i.1 r ∧ st.map (zi_con a0 σ) = (r.map (zi_con a0 σ)).toList := by
  obtain ⟨op, ia, ib, ic, il⟩ := i
  cases op with
  | ireturn =>
    simp only [zi_nx] at hn
    simp only [zi_ck, Bool.and_eq_true, decide_eq_true_eq] at hk
    obtain ⟨x, rfl, hx, hz⟩ := zi_ri_inv hn
    cases hz
    refine ⟨hk.1, Or.inl ⟨rfl, x, rfl, ?_⟩, rfl⟩
    have h2 := hk.2
    by_cases h1 : ia = 1
    · rw [if_pos h1] at h2
      exact Or.inr ⟨h2, hx h1⟩
    · rw [if_neg h1] at h2
      exact Or.inl h2
  | lreturn =>
    simp only [zi_nx] at hn
    simp only [zi_ck, Bool.and_eq_true, decide_eq_true_eq] at hk
    obtain ⟨x, rfl, hz⟩ := zi_rl_inv hn
    cases hz
    exact ⟨hk.1, Or.inr (Or.inl ⟨rfl, x, rfl, hk.2⟩), rfl⟩
  | areturn =>
    simp only [zi_nx] at hn
    simp only [zi_ck, Bool.and_eq_true, decide_eq_true_eq] at hk
    obtain ⟨v, rfl, hv, hz⟩ := zi_ra_inv hn
    cases hz
    exact ⟨hk.1, Or.inr (Or.inr (Or.inl ⟨rfl, v, rfl, hv, hk.2⟩)), rfl⟩
  | return_ =>
    simp only [zi_nx] at hn
    simp only [zi_ck, Bool.and_eq_true, decide_eq_true_eq] at hk
    obtain ⟨rfl, hz⟩ := zi_rv_inv hn
    cases hz
    exact ⟨hk.1, Or.inr (Or.inr (Or.inr ⟨rfl, rfl, hk.2⟩)), rfl⟩
  | nop => simp only [zi_nx] at hn; cases hn
  | ifCond d off =>
    simp only [zi_nx] at hn
    obtain ⟨x, r, rfl, hz⟩ := zi_if_inv hn
    split at hz <;> cases hz
  | if_icmp d off =>
    simp only [zi_nx] at hn
    obtain ⟨x, y, r, rfl, hz⟩ := zi_ic_inv hn
    split at hz <;> cases hz
  | ifnull off => simp only [zi_nx] at hn; rcases zi_nul_inv hn with ⟨r, rfl, hz⟩ | ⟨x, r, rfl, hz⟩ <;> cases hz
  | ifnonnull off => simp only [zi_nx] at hn; rcases zi_nnl_inv hn with ⟨r, rfl, hz⟩ | ⟨x, r, rfl, hz⟩ <;> cases hz
  | tableswitch d lo hi offs => simp only [zi_nx] at hn; obtain ⟨x, r, rfl, hz⟩ := zi_sw_inv hn; cases hz
  | lookupswitch d ps => simp only [zi_nx] at hn; obtain ⟨x, r, rfl, hz⟩ := zi_sw_inv hn; cases hz
  | invokestatic idx =>
    simp only [zi_nx] at hn
    by_cases h9 : ia = 9998
    · rw [if_pos h9] at hn
      unfold zi_cp at hn
      split at hn
      · split at hn <;> cases hn
      · cases hn
    · rw [if_neg h9] at hn
      obtain ⟨as, r, -, -, -, hz⟩ := zi_iv_inv hn
      cases hz
  | invokevirtual idx => simp only [zi_nx] at hn; obtain ⟨id, as, r, -, -, -, -, hz⟩ := zi_ivr_inv hn; cases hz
  | invokespecial idx =>
    simp only [zi_nx] at hn
    by_cases h9 : ia = 9999
    · rw [if_pos h9] at hn
      unfold zi_obj at hn
      split at hn
      · split at hn <;> cases hn
      · cases hn
    · rw [if_neg h9] at hn
      obtain ⟨id, as, r, -, -, -, -, hz⟩ := zi_ivr_inv hn
      cases hz
  | _ =>
    simp only [zi_nx] at hn
    first
      | cases hn
      | (unfold zi_ldi at hn; split at hn <;> cases hn)
      | (unfold zi_ldl at hn; split at hn <;> cases hn)
      | (unfold zi_lda at hn; split at hn <;> cases hn)
      | (unfold zi_sti at hn; split at hn <;> cases hn)
      | (unfold zi_stl at hn; split at hn <;> cases hn)
      | (unfold zi_sta at hn; split at hn <;> cases hn)
      | (unfold zi_inc at hn; split at hn <;> cases hn)
      | (unfold zi_b2 at hn; split at hn <;> cases hn)
      | (unfold zi_l2 at hn; split at hn <;> cases hn)
      | (unfold zi_lc at hn; split at hn <;> cases hn)
      | (unfold zi_u1 at hn; split at hn <;> cases hn)
      | (unfold zi_pp at hn; split at hn <;> cases hn)
      | (unfold zi_dup at hn; split at hn <;> cases hn)
      | (unfold zi_dup2 at hn; split at hn <;> cases hn)
      | (unfold zi_new at hn; cases hn)
      | (unfold zi_d2 at hn; split at hn <;> (try split at hn) <;> cases hn)
      | (unfold zi_dl2 at hn; split at hn <;> (try split at hn) <;> cases hn)
      | (unfold zi_gf at hn; split at hn <;> (try split at hn) <;> cases hn)
      | (unfold zi_pf at hn; split at hn <;> (try split at hn) <;> cases hn)
      | (unfold zi_ial at hn; split at hn <;> (try split at hn) <;> cases hn)
      | (unfold zi_ias at hn; split at hn <;> (try split at hn) <;> cases hn)
      | (unfold zi_lal at hn; split at hn <;> (try split at hn) <;> cases hn)
      | (unfold zi_las at hn; split at hn <;> (try split at hn) <;> cases hn)
      | (unfold zi_aal at hn; split at hn <;> (try split at hn) <;> cases hn)
      | (unfold zi_aas at hn; split at hn <;> (try split at hn) <;> cases hn)
      | (unfold zi_aln at hn; split at hn <;> (try split at hn) <;> cases hn)
      | (unfold zi_na at hn; split at hn <;> (try split at hn) <;> cases hn)
      | (unfold zi_mna at hn; split at hn <;> (try split at hn) <;> cases hn)
end ZY
/-- the walk from any place of a method -/
def zi_Sd (T : Nat → zi_D) (sc : Nat × (Nat → Int32)) (a0 : Nat) (τ : Nat → ClassId) (σ : Nat → Nat) (dC : Nat → ClassId) (dI : Nat → Nat → Nat) (l : Launch) (n : Nat) : Prop :=
  ∀ (k : Nat) (is : List zi_I) (lv : zi_L) (st : List Value) (M : zi_M) (cu su : Nat) (r : Option Value) (M' : zi_M), zi_ex T sc n k is lv st M cu su = some (r, M') →
    ∀ (p : Program) (e : Env) (s : State) (m : MethodId) (args : Array Value) (below : List Frame) (meth : Method) (c : Code) (H : Heap) (locs : List Loc) (ls : Array Slot) (pc : Nat) (Q : State → Prop),
      zi_cx T sc a0 τ σ dC dI k p s m args meth c → zi_chk T k pc is = true → zi_W a0 τ dC dI M H → va_S (zi_A a0) s.heap H locs → lv_has ls (zi_mx T k) (zi_lp a0 σ 0 lv) → cu ≤ zi_mc T k → su ≤ zi_ms T k →
      (∀ (H' : Heap) (locs' : List Loc) (ls' : Array Slot) (pc' cu' su' : Nat) (op : Instr), zi_W a0 τ dC dI M' H' → va_S (zi_A a0) s.heap H' locs' → decode (zi_cd T k) pc' = .ok (op, 1) → zi_rok (zi_rt T k) op r → cu' ≤ zi_mc T k → su' ≤ zi_ms T k → W p l e (zi_rm T k) s m args below meth c H' locs' cu' su' Q (F0 m pc' ls' (r.map (zi_con a0 σ)).toList)) →
      W p l e (zi_rm T k) s m args below meth c H locs cu su Q (F0 m pc ls (st.map (zi_con a0 σ)))
/-- a method's contract out of the walk -/
theorem zi_met {T : Nat → zi_D} {sc : Nat × (Nat → Int32)} {a0 : Nat} {τ : Nat → ClassId} {σ : Nat → Nat} {dC : Nat → ClassId} {dI : Nat → Nat → Nat} {l : Launch} {n : Nat} (hall : ∀ k b, zi_chk T k (zi_sp T k b) (zi_bk T k b) = true) (hpl : ∀ k, plainName (zi_yy T k).cls = true) (hz : ∀ k, zi_sp T k 0 = 0) (hSd : zi_Sd T sc a0 τ σ dC dI l n)
    {k : Nat} {as : List Value} {M M' : zi_M} {r : Option Value} (hex : zi_ex T sc n k (zi_bk T k 0) (zi_la as) [] M 0 0 = some (r, M')) (hfit : zi_fit as (zi_mx T k) = true) : Met l (zi_yy T k) (zi_wd T k) (zi_rm T k) (zi_Pre sc a0 τ σ dC dI M as) (zi_Post a0 τ σ dC dI r M') (zi_mc T k) (zi_ms T k) (zi_A a0) := by
  refine Met.ofW (cc := zi_cd T k) (maxL := zi_mx T k) (ret := zi_rt T k) (hpl k) rfl ?_
  intro p e s m args below meth c s₁ B hml hv
  obtain ⟨rfl, hS0, hW0⟩ := hv
  have hts := atoms_spec (ws := zi_wd T k) B.pre
  have hown : s.vm.findClass (zi_yy T k).cls = some m.cls := findClass_of_methodNamed B.named
  have hr := B.returns
  have hlocks := B.notSynchronized
  have hcx : zi_cx T sc a0 τ σ dC dI k p s m (as.map (zi_con a0 σ)).toArray meth c := ⟨B.exec, B.bytes, hml, hown, fun w hw => hts w (List.mem_cons_of_mem _ hw), (name_of_methodNamed B.named B.method).1, hS0, by rw [hW0.1.1]; exact Nat.le_add_right _ _⟩
  have hl := lv_entry (as.map (zi_con a0 σ)) (n := zi_mx T k) (zi_fit_len as _ hfit)
  rw [lg_entry_eq]
  generalize (lg_sl (as.map (zi_con a0 σ)) ++ List.replicate (zi_mx T k - (lg_sl (as.map (zi_con a0 σ))).length) Slot.unset).toArray = ls at hl ⊢
  have hl2 : lv_has ls (zi_mx T k) (zi_lp a0 σ 0 (zi_la as)) := zi_has_mono hl (fun q hq => zi_la_mem as 0 q hq)
  have hc0 := hall k 0
  rw [hz k] at hc0
  refine hSd k _ _ _ _ _ _ _ _ hex p e s m _ below meth c s.heap [] ls 0 _ hcx hc0 hW0 va_S.rf hl2 (Nat.zero_le _) (Nat.zero_le _) ?_
  intro H' locs' ls' pc' cu' su' op hW' hS' hd hok h1 h2
  refine W.widen h1 h2 ?_
  rcases hok with ⟨rfl, x, rfl, hx⟩ | ⟨rfl, x, rfl, hx⟩ | ⟨rfl, v, rfl, hv, hx⟩ | ⟨rfl, rfl, hx⟩
  · rcases hx with hx | ⟨hx, hx2⟩
    · exact W.iret B.exec B.bytes (hr.trans hx) (fun t ht hWm => ⟨rfl, by rw [ht]; exact hW', hS'.F ht⟩) hS'.2.2 hd
    · exact W.zret (ty := .boolean) B.exec B.bytes (hr.trans hx) (zi_nar_bool hx2).1 (fun t ht hWm => ⟨rfl, by rw [ht]; exact hW', hS'.F ht⟩) hS'.2.2 hd
  · exact W.lret B.exec B.bytes (hr.trans hx) (fun t ht hWm => ⟨rfl, by rw [ht]; exact hW', hS'.F ht⟩) hS'.2.2 hd
  · refine W.aret B.exec B.bytes (hr.trans hx) (Or.inl ⟨_, rfl⟩) ?_ (fun t ht hWm => ⟨rfl, by rw [ht]; exact hW', hS'.F ht⟩) hS'.2.2 hd
    rcases hv with rfl | ⟨x, rfl⟩
    · exact Or.inl rfl
    · exact Or.inr ⟨_, rfl⟩
  · exact W.vret B.exec B.bytes (hr.trans hx) (fun t ht hWm => ⟨rfl, by rw [ht]; exact hW', hS'.F ht⟩) hS'.2.2 hd
theorem zi_sound {T : Nat → zi_D} {sc : Nat × (Nat → Int32)} {a0 : Nat} {τ : Nat → ClassId} {σ : Nat → Nat} {dC : Nat → ClassId} {dI : Nat → Nat → Nat} {l : Launch} (hall : ∀ k b, zi_chk T k (zi_sp T k b) (zi_bk T k b) = true) (hpl : ∀ k, plainName (zi_yy T k).cls = true) (hz : ∀ k, zi_sp T k 0 = 0) : ∀ n, zi_Sd T sc a0 τ σ dC dI l n := by
  intro n
  induction n with
  | zero => intro k is lv st M cu su r M' h; simp [zi_ex] at h
  | succ n ih =>
    intro k is lv st M cu su r M' hex p e s m args below meth c H locs ls pc Q C hchk hW hS hl hcu hsu hret
    cases is with
    | nil => simp [zi_ex] at hex
    | cons i is =>
      unfold zi_ex at hex
      cases hnx : zi_nx sc i lv st M with
      | none => rw [hnx] at hex; cases hex
      | some z =>
        rw [hnx] at hex
        by_cases hnop : i.1 = .nop
        · unfold zi_chk at hchk
          rw [if_pos hnop] at hchk
          simp only [Bool.and_eq_true, decide_eq_true_eq] at hchk
          have hz2 : z = .inr (.inl (i.2.1, st)) := by
            unfold zi_nx at hnx
            rw [hnop] at hnx
            exact (Option.some.inj hnx).symm
          subst hz2
          rw [hchk.1]
          exact ih k _ lv st M cu su r M' hex p e s m args below meth c H locs ls _ Q C (hall k i.2.1) hW hS hl hcu hsu hret
        · unfold zi_chk at hchk
          rw [if_neg hnop] at hchk
          cases hdc : decode (zi_cd T k) pc with
          | error er => rw [hdc] at hchk; cases hchk
          | ok q =>
            obtain ⟨op, len⟩ := q
            rw [hdc] at hchk
            simp only [Bool.and_eq_true, decide_eq_true_eq] at hchk
            obtain ⟨rfl, hck, hrest⟩ := hchk
            rcases z with ⟨lv', st', M2⟩ | ⟨b, st'⟩ | r2 | ⟨j, as, st'⟩
            · dsimp only at hex
              by_cases hg : cu + (zi_al i st).1 ≤ zi_mc T k ∧ su + (zi_al i st).2 ≤ zi_ms T k
              · rw [if_pos hg] at hex
                exact zi_step C hdc hck hnx hW hS hl hg.1 hg.2 (fun H1 locs1 ls1 w1 s1 l1 => ih k is lv' st' M2 _ _ r M' hex p e s m args below meth c H1 locs1 ls1 _ Q C hrest w1 s1 l1 hg.1 hg.2 hret)
              · rw [if_neg hg] at hex
                cases hex
            · dsimp only at hex
              exact zi_jump C hdc hnop hck hnx (ih k _ lv st' M cu su r M' hex p e s m args below meth c H locs ls _ Q C (hall k b) hW hS hl hcu hsu hret)
            · dsimp only at hex
              have hex2 := Option.some.inj hex
              cases hex2
              obtain ⟨h1, h2, h3⟩ := zi_retn (a0 := a0) (σ := σ) hck hnx
              subst h1
              rw [h3]
              exact hret H locs ls pc cu su i.1 hW hS hdc h2 hcu hsu
            · dsimp only at hex
              by_cases hg : cu + zi_mc T j ≤ zi_mc T k ∧ su + zi_ms T j ≤ zi_ms T k
              · rw [if_pos hg] at hex
                cases hcall : zi_ex T sc n j (zi_bk T j 0) (zi_la as) [] M 0 0 with
                | none => rw [hcall] at hex; cases hex
                | some q =>
                  obtain ⟨r3, M3⟩ := q
                  rw [hcall] at hex
                  dsimp only at hex
                  refine zi_call C hdc hck hnx hW hS hl.1 (fun hfit => zi_met hall hpl hz ih hcall hfit) hg (fun H1 locs1 w1 s1 => ?_)
                  have h := ih k is lv (r3.toList ++ st') M3 _ _ r M' hex p e s m args below meth c H1 locs1 ls _ Q C hrest w1 s1 hl hg.1 hg.2 hret
                  rw [List.map_append] at h
                  cases r3 with
                  | none => exact h
                  | some v => exact h
              · rw [if_neg hg] at hex
                cases hex
end
section
/-! the methods, by program (wip/whole/gencode.py): blocks of instructions with what they link -/
def zc_0_0 : List zi_I := [(.aload_n 0, 0, 0, 0, []), (.invokespecial 3, 9999, 0, 0, [0, 1, 2]), (.aload_n 0, 0, 0, 0, []), (.bipush 7, 0, 0, 7, []), (.bipush 60, 0, 0, 60, []), (.multianewarray 9 2, 4, 0, 0, [1, 3, 4, 5]), (.putfield 11, 0, 2, 0, [0, 5, 6]), (.aload_n 0, 0, 0, 0, []), (.bipush 7, 0, 0, 7, []), (.bipush 60, 0, 0, 60, []), (.multianewarray 9 2, 4, 0, 0, [1, 3, 4, 5]), (.putfield 16, 1, 2, 0, [0, 5, 7]), (.aload_n 0, 0, 0, 0, []), (.bipush 7, 0, 0, 7, []), (.bipush 60, 0, 0, 60, []), (.multianewarray 9 2, 4, 0, 0, [1, 3, 4, 5]), (.putfield 19, 2, 2, 0, [0, 5, 8]), (.aload_n 0, 0, 0, 0, []), (.bipush 7, 0, 0, 7, []), (.bipush 60, 0, 0, 60, []), (.multianewarray 9 2, 4, 0, 0, [1, 3, 4, 5]), (.putfield 22, 3, 2, 0, [0, 5, 9]), (.aload_n 0, 0, 0, 0, []), (.bipush 7, 0, 0, 7, []), (.bipush 60, 0, 0, 60, []), (.multianewarray 9 2, 4, 0, 0, [1, 3, 4, 5]), (.putfield 25, 4, 2, 0, [0, 5, 10]), (.return_, 0, 0, 0, [])]
def zc_0 : zi_D := ((yX0_init, cX0_init, 1, none), (1, 20, 40, 2135), [zc_0_0], [0])
def zc_1_0 : List zi_I := [(.aload_n 0, 0, 0, 0, []), (.invokespecial 3, 9999, 0, 0, [11, 1, 2]), (.aload_n 0, 0, 0, 0, []), (.iconst 0, 0, 0, 0, []), (.putfield 9, 0, 1, 0, [1, 4, 12]), (.aload_n 0, 0, 0, 0, []), (.iconst 0, 0, 0, 0, []), (.putfield 15, 1, 0, 0, [1, 4, 13]), (.aload_n 0, 0, 0, 0, []), (.iconst 0, 0, 0, 0, []), (.putfield 19, 2, 0, 0, [1, 4, 14]), (.aload_n 0, 0, 0, 0, []), (.bipush 6, 0, 0, 6, []), (.anewarray 22, 3, 0, 0, [15, 16]), (.putfield 24, 3, 2, 0, [1, 4, 17]), (.iconst 0, 0, 0, 0, []), (.istore_n 1, 0, 0, 0, []), (.nop, 1, 0, 0, [])]
def zc_1_1 : List zi_I := [(.iload_n 1, 0, 0, 0, []), (.bipush 6, 0, 0, 6, []), (.if_icmp .ge 22, 2, 0, 0, []), (.aload_n 0, 0, 0, 0, []), (.getfield 24, 3, 2, 0, [1, 4, 17]), (.iload_n 1, 0, 0, 0, []), (.new 22, 4, 6, 0, [15, 18, 19]), (.dup, 0, 0, 0, []), (.invokespecial 28, 4, 1, 0, [4, 6, 1, 20, 21, 19, 22]), (.aastore, 0, 0, 0, []), (.iinc 1 1, 0, 0, 1, []), (.goto (-22), 1, 0, 0, [])]
def zc_1_2 : List zi_I := [(.return_, 0, 0, 0, [])]
def zc_1 : zi_D := ((yX1_init, cX1_init, 2, none), (2, 40, 13, 72), [zc_1_0, zc_1_1, zc_1_2], [0, 30, 55])
def zc_2_0 : List zi_I := [(.aload_n 0, 0, 0, 0, []), (.invokespecial 3, 9999, 0, 0, [23, 1, 2]), (.aload_n 0, 0, 0, 0, []), (.bipush 30, 0, 0, 30, []), (.newarray .int, 1, 0, 0, [5]), (.putfield 9, 0, 2, 0, [2, 9, 24]), (.aload_n 0, 0, 0, 0, []), (.bipush 30, 0, 0, 30, []), (.newarray .int, 1, 0, 0, [5]), (.putfield 15, 1, 2, 0, [2, 9, 25]), (.aload_n 0, 0, 0, 0, []), (.iconst 0, 0, 0, 0, []), (.putfield 18, 2, 0, 0, [2, 9, 26]), (.aload_n 0, 0, 0, 0, []), (.iconst 0, 0, 0, 0, []), (.putfield 22, 3, 0, 0, [2, 9, 27]), (.aload_n 0, 0, 0, 0, []), (.bipush 61, 0, 0, 61, []), (.newarray .int, 1, 0, 0, [5]), (.putfield 25, 4, 2, 0, [2, 9, 28]), (.aload_n 0, 0, 0, 0, []), (.bipush 61, 0, 0, 61, []), (.newarray .int, 1, 0, 0, [5]), (.putfield 28, 5, 2, 0, [2, 9, 29]), (.aload_n 0, 0, 0, 0, []), (.bipush 61, 0, 0, 61, []), (.newarray .int, 1, 0, 0, [5]), (.putfield 31, 6, 2, 0, [2, 9, 30]), (.aload_n 0, 0, 0, 0, []), (.bipush 60, 0, 0, 60, []), (.newarray .int, 1, 0, 0, [5]), (.putfield 34, 7, 2, 0, [2, 9, 31]), (.aload_n 0, 0, 0, 0, []), (.bipush 6, 0, 0, 6, []), (.bipush 61, 0, 0, 61, []), (.multianewarray 37 2, 5, 1, 0, [2, 32, 33, 34]), (.putfield 39, 8, 2, 0, [2, 9, 35]), (.iconst 0, 0, 0, 0, []), (.istore_n 1, 0, 0, 0, []), (.nop, 1, 0, 0, [])]
def zc_2_1 : List zi_I := [(.iload_n 1, 0, 0, 0, []), (.iconst 5, 0, 0, 5, []), (.if_icmp .ge 90, 4, 0, 0, []), (.aload_n 0, 0, 0, 0, []), (.getfield 9, 0, 2, 0, [2, 9, 24]), (.iload_n 1, 0, 0, 0, []), (.getstatic 42, 0, 0, 0, [36]), (.iload_n 1, 0, 0, 0, []), (.iaload, 0, 0, 0, []), (.iastore, 0, 0, 0, []), (.aload_n 0, 0, 0, 0, []), (.getfield 15, 1, 2, 0, [2, 9, 25]), (.iload_n 1, 0, 0, 0, []), (.getstatic 45, 1, 0, 0, [37]), (.iload_n 1, 0, 0, 0, []), (.iaload, 0, 0, 0, []), (.iastore, 0, 0, 0, []), (.iconst 0, 0, 0, 0, []), (.istore_n 2, 0, 0, 0, []), (.nop, 2, 0, 0, [])]
def zc_2_2 : List zi_I := [(.iload_n 2, 0, 0, 0, []), (.iconst 5, 0, 0, 5, []), (.if_icmp .ge 55, 3, 0, 0, []), (.aload_n 0, 0, 0, 0, []), (.getfield 9, 0, 2, 0, [2, 9, 24]), (.iconst 5, 0, 0, 5, []), (.iconst 5, 0, 0, 5, []), (.iload_n 1, 0, 0, 0, []), (.imul, 0, 0, 0, []), (.iadd, 0, 0, 0, []), (.iload_n 2, 0, 0, 0, []), (.iadd, 0, 0, 0, []), (.getstatic 42, 0, 0, 0, [36]), (.iload_n 1, 0, 0, 0, []), (.iaload, 0, 0, 0, []), (.getstatic 42, 0, 0, 0, [36]), (.iload_n 2, 0, 0, 0, []), (.iaload, 0, 0, 0, []), (.iadd, 0, 0, 0, []), (.iastore, 0, 0, 0, []), (.aload_n 0, 0, 0, 0, []), (.getfield 15, 1, 2, 0, [2, 9, 25]), (.iconst 5, 0, 0, 5, []), (.iconst 5, 0, 0, 5, []), (.iload_n 1, 0, 0, 0, []), (.imul, 0, 0, 0, []), (.iadd, 0, 0, 0, []), (.iload_n 2, 0, 0, 0, []), (.iadd, 0, 0, 0, []), (.getstatic 45, 1, 0, 0, [37]), (.iload_n 1, 0, 0, 0, []), (.iaload, 0, 0, 0, []), (.getstatic 45, 1, 0, 0, [37]), (.iload_n 2, 0, 0, 0, []), (.iaload, 0, 0, 0, []), (.iadd, 0, 0, 0, []), (.iastore, 0, 0, 0, []), (.iinc 2 1, 0, 0, 1, []), (.goto (-54), 2, 0, 0, [])]
def zc_2_3 : List zi_I := [(.iinc 1 1, 0, 0, 1, []), (.goto (-89), 1, 0, 0, [])]
def zc_2_4 : List zi_I := [(.return_, 0, 0, 0, [])]
def zc_2 : zi_D := ((yX2_init, cX2_init, 3, none), (1, 20, 13, 675), [zc_2_0, zc_2_1, zc_2_2, zc_2_3, zc_2_4], [0, 76, 105, 162, 168])
def zc_3_0 : List zi_I := [(.aload_n 0, 0, 0, 0, []), (.invokespecial 3, 9999, 0, 0, [38, 1, 2]), (.aload_n 0, 0, 0, 0, []), (.iconst 0, 0, 0, 0, []), (.putfield 9, 0, 0, 0, [3, 3, 39]), (.aload_n 0, 0, 0, 0, []), (.bipush 8, 0, 0, 8, []), (.newarray .int, 1, 0, 0, [5]), (.putfield 15, 1, 2, 0, [3, 3, 40]), (.aload_n 0, 0, 0, 0, []), (.bipush 8, 0, 0, 8, []), (.newarray .int, 1, 0, 0, [5]), (.putfield 19, 2, 2, 0, [3, 3, 41]), (.return_, 0, 0, 0, [])]
def zc_3 : zi_D := ((yX3_init, cX3_init, 1, none), (1, 20, 2, 16), [zc_3_0], [0])
def zc_4_0 : List zi_I := [(.aload_n 0, 0, 0, 0, []), (.invokespecial 3, 9999, 0, 0, [42, 1, 2]), (.aload_n 0, 0, 0, 0, []), (.iconst 5, 0, 0, 5, []), (.newarray .int, 1, 0, 0, [5]), (.putfield 9, 3, 2, 0, [4, 6, 43]), (.return_, 0, 0, 0, [])]
def zc_4 : zi_D := ((yX4_init, cX4_init, 1, none), (1, 20, 1, 5), [zc_4_0], [0])
def zc_5_0 : List zi_I := [(.aload_n 0, 0, 0, 0, []), (.invokespecial 3, 9999, 0, 0, [44, 1, 2]), (.aload_n 0, 0, 0, 0, []), (.iconst 0, 0, 0, 0, []), (.putfield 9, 0, 1, 0, [5, 4, 45]), (.aload_n 0, 0, 0, 0, []), (.iconst 0, 0, 0, 0, []), (.putfield 15, 1, 0, 0, [5, 4, 46]), (.aload_n 0, 0, 0, 0, []), (.iconst 0, 0, 0, 0, []), (.putfield 19, 2, 0, 0, [5, 4, 47]), (.aload_n 0, 0, 0, 0, []), (.bipush 60, 0, 0, 60, []), (.newarray .int, 1, 0, 0, [5]), (.putfield 22, 3, 2, 0, [5, 4, 48]), (.return_, 0, 0, 0, [])]
def zc_5 : zi_D := ((yX5_init, cX5_init, 1, none), (1, 20, 1, 60), [zc_5_0], [0])
def zc_6_0 : List zi_I := [(.aload_n 0, 0, 0, 0, []), (.invokespecial 3, 9999, 0, 0, [49, 1, 2]), (.aload_n 0, 0, 0, 0, []), (.new 9, 1, 4, 0, [50, 51, 52]), (.dup, 0, 0, 0, []), (.invokespecial 11, 1, 1, 0, [1, 4, 2, 53, 54, 52, 55]), (.putfield 12, 0, 2, 0, [6, 2, 56]), (.aload_n 0, 0, 0, 0, []), (.iconst 0, 0, 0, 0, []), (.putfield 18, 1, 0, 0, [6, 2, 57]), (.return_, 0, 0, 0, [])]
def zc_6 : zi_D := ((yX6_init, cX6_init, 1, none), (3, 61, 14, 76), [zc_6_0], [0])
def zc_7_0 : List zi_I := [(.aload_n 0, 0, 0, 0, []), (.invokespecial 5, 9999, 0, 0, [58, 1, 2]), (.aload_n 0, 0, 0, 0, []), (.iconst 4, 0, 0, 4, []), (.anewarray 11, 2, 0, 0, [59, 60]), (.putfield 13, 0, 2, 0, [7, 9, 61]), (.aload_n 0, 0, 0, 0, []), (.new 17, 1, 4, 0, [62, 51, 52]), (.dup, 0, 0, 0, []), (.invokespecial 19, 1, 1, 0, [1, 4, 2, 63, 54, 52, 55]), (.putfield 20, 1, 2, 0, [7, 9, 64]), (.aload_n 0, 0, 0, 0, []), (.new 17, 1, 4, 0, [62, 51, 52]), (.dup, 0, 0, 0, []), (.invokespecial 19, 1, 1, 0, [1, 4, 2, 63, 54, 52, 55]), (.putfield 24, 2, 2, 0, [7, 9, 65]), (.aload_n 0, 0, 0, 0, []), (.new 27, 6, 2, 0, [66, 67, 68]), (.dup, 0, 0, 0, []), (.invokespecial 29, 6, 1, 0, [6, 2, 1, 69, 70, 68, 71]), (.putfield 30, 3, 2, 0, [7, 9, 72]), (.aload_n 0, 0, 0, 0, []), (.new 34, 0, 5, 0, [73, 74, 75]), (.dup, 0, 0, 0, []), (.invokespecial 36, 0, 1, 0, [0, 5, 1, 76, 77, 75, 78]), (.putfield 37, 4, 2, 0, [7, 9, 79]), (.aload_n 0, 0, 0, 0, []), (.new 41, 3, 3, 0, [80, 81, 82]), (.dup, 0, 0, 0, []), (.invokespecial 43, 3, 1, 0, [3, 3, 1, 83, 84, 82, 85]), (.putfield 44, 5, 2, 0, [7, 9, 86]), (.aload_n 0, 0, 0, 0, []), (.new 48, 2, 9, 0, [87, 88, 89]), (.dup, 0, 0, 0, []), (.invokespecial 50, 2, 1, 0, [2, 9, 3, 90, 91, 89, 92]), (.putfield 51, 6, 2, 0, [7, 9, 93]), (.aload_n 0, 0, 0, 0, []), (.iconst 0, 0, 0, 0, []), (.putfield 55, 7, 0, 0, [7, 9, 94]), (.aload_n 0, 0, 0, 0, []), (.iconst 0, 0, 0, 0, []), (.putfield 59, 8, 0, 0, [7, 9, 95]), (.iconst 0, 0, 0, 0, []), (.istore_n 1, 0, 0, 0, []), (.nop, 1, 0, 0, [])]
def zc_7_1 : List zi_I := [(.iload_n 1, 0, 0, 0, []), (.iconst 4, 0, 0, 4, []), (.if_icmp .ge 22, 2, 0, 0, []), (.aload_n 0, 0, 0, 0, []), (.getfield 13, 0, 2, 0, [7, 9, 61]), (.iload_n 1, 0, 0, 0, []), (.new 11, 5, 4, 0, [59, 96, 97]), (.dup, 0, 0, 0, []), (.invokespecial 62, 5, 1, 0, [5, 4, 1, 98, 99, 97, 100]), (.aastore, 0, 0, 0, []), (.iinc 1 1, 0, 0, 1, []), (.goto (-21), 1, 0, 0, [])]
def zc_7_2 : List zi_I := [(.return_, 0, 0, 0, [])]
def zc_7 : zi_D := ((yX7_init, cX7_init, 2, none), (4, 81, 110, 3333), [zc_7_0, zc_7_1, zc_7_2], [0, 90, 114])
def zc_8_0 : List zi_I := [(.aload_n 0, 0, 0, 0, []), (.invokespecial 1, 9999, 0, 0, [101, 1, 2]), (.aload_n 0, 0, 0, 0, []), (.iconst 4, 0, 0, 4, []), (.newarray .int, 1, 0, 0, [5]), (.dup, 0, 0, 0, []), (.iconst 0, 0, 0, 0, []), (.bipush (-9), 0, 0, -9, []), (.iastore, 0, 0, 0, []), (.dup, 0, 0, 0, []), (.iconst 1, 0, 0, 1, []), (.bipush (-9), 0, 0, -9, []), (.iastore, 0, 0, 0, []), (.dup, 0, 0, 0, []), (.iconst 2, 0, 0, 2, []), (.bipush (-9), 0, 0, -9, []), (.iastore, 0, 0, 0, []), (.dup, 0, 0, 0, []), (.iconst 3, 0, 0, 3, []), (.bipush (-9), 0, 0, -9, []), (.iastore, 0, 0, 0, []), (.putfield 9, 2, 2, 0, [8, 33, 102]), (.aload_n 0, 0, 0, 0, []), (.iconst 4, 0, 0, 4, []), (.newarray .int, 1, 0, 0, [5]), (.putfield 13, 3, 2, 0, [8, 33, 103]), (.aload_n 0, 0, 0, 0, []), (.sipush 240, 0, 0, 240, []), (.newarray .int, 1, 0, 0, [5]), (.putfield 16, 4, 2, 0, [8, 33, 104]), (.aload_n 0, 0, 0, 0, []), (.bipush 7, 0, 0, 7, []), (.newarray .int, 1, 0, 0, [5]), (.putfield 19, 6, 2, 0, [8, 33, 105]), (.aload_n 0, 0, 0, 0, []), (.bipush 7, 0, 0, 7, []), (.newarray .int, 1, 0, 0, [5]), (.putfield 22, 7, 2, 0, [8, 33, 106]), (.aload_n 0, 0, 0, 0, []), (.bipush 7, 0, 0, 7, []), (.newarray .int, 1, 0, 0, [5]), (.putfield 25, 8, 2, 0, [8, 33, 107]), (.aload_n 0, 0, 0, 0, []), (.bipush 7, 0, 0, 7, []), (.newarray .int, 1, 0, 0, [5]), (.putfield 28, 9, 2, 0, [8, 33, 108]), (.aload_n 0, 0, 0, 0, []), (.bipush 35, 0, 0, 35, []), (.newarray .int, 1, 0, 0, [5]), (.putfield 31, 10, 2, 0, [8, 33, 109]), (.aload_n 0, 0, 0, 0, []), (.bipush 7, 0, 0, 7, []), (.newarray .int, 1, 0, 0, [5]), (.putfield 34, 14, 2, 0, [8, 33, 110]), (.aload_n 0, 0, 0, 0, []), (.bipush 7, 0, 0, 7, []), (.newarray .int, 1, 0, 0, [5]), (.putfield 37, 15, 2, 0, [8, 33, 111]), (.aload_n 0, 0, 0, 0, []), (.bipush 7, 0, 0, 7, []), (.newarray .int, 1, 0, 0, [5]), (.putfield 40, 16, 2, 0, [8, 33, 112]), (.aload_n 0, 0, 0, 0, []), (.bipush 35, 0, 0, 35, []), (.newarray .int, 1, 0, 0, [5]), (.putfield 43, 17, 2, 0, [8, 33, 113]), (.aload_n 0, 0, 0, 0, []), (.sipush 420, 0, 0, 420, []), (.newarray .int, 1, 0, 0, [5]), (.putfield 46, 18, 2, 0, [8, 33, 114]), (.aload_n 0, 0, 0, 0, []), (.sipush 420, 0, 0, 420, []), (.newarray .int, 1, 0, 0, [5]), (.putfield 49, 19, 2, 0, [8, 33, 115]), (.aload_n 0, 0, 0, 0, []), (.sipush 420, 0, 0, 420, []), (.newarray .int, 1, 0, 0, [5]), (.putfield 52, 20, 2, 0, [8, 33, 116]), (.aload_n 0, 0, 0, 0, []), (.sipush 420, 0, 0, 420, []), (.newarray .int, 1, 0, 0, [5]), (.putfield 55, 21, 2, 0, [8, 33, 117]), (.aload_n 0, 0, 0, 0, []), (.sipush 420, 0, 0, 420, []), (.newarray .int, 1, 0, 0, [5]), (.putfield 58, 22, 2, 0, [8, 33, 118]), (.aload_n 0, 0, 0, 0, []), (.bipush 63, 0, 0, 63, []), (.newarray .int, 1, 0, 0, [5]), (.putfield 61, 24, 2, 0, [8, 33, 119]), (.aload_n 0, 0, 0, 0, []), (.iconst 2, 0, 0, 2, []), (.newarray .int, 1, 0, 0, [5]), (.putfield 64, 25, 2, 0, [8, 33, 120]), (.aload_n 0, 0, 0, 0, []), (.iconst 2, 0, 0, 2, []), (.newarray .int, 1, 0, 0, [5]), (.putfield 67, 26, 2, 0, [8, 33, 121]), (.aload_n 0, 0, 0, 0, []), (.bipush 61, 0, 0, 61, []), (.newarray .int, 1, 0, 0, [5]), (.putfield 70, 27, 2, 0, [8, 33, 122]), (.aload_n 0, 0, 0, 0, []), (.bipush 61, 0, 0, 61, []), (.newarray .long, 2, 1, 0, [34]), (.putfield 73, 28, 2, 0, [8, 33, 123]), (.aload_n 0, 0, 0, 0, []), (.bipush 61, 0, 0, 61, []), (.newarray .long, 2, 1, 0, [34]), (.putfield 77, 29, 2, 0, [8, 33, 124]), (.aload_n 0, 0, 0, 0, []), (.bipush 8, 0, 0, 8, []), (.newarray .int, 1, 0, 0, [5]), (.putfield 80, 31, 2, 0, [8, 33, 125]), (.aload_n 0, 0, 0, 0, []), (.bipush 8, 0, 0, 8, []), (.newarray .int, 1, 0, 0, [5]), (.putfield 83, 32, 2, 0, [8, 33, 126]), (.return_, 0, 0, 0, [])]
def zc_8 : zi_D := ((yX8_init, cX8_init, 1, none), (1, 20, 25, 2733), [zc_8_0], [0])
def zc_9_0 : List zi_I := [(.new 7, 7, 9, 0, [127, 128, 129]), (.dup, 0, 0, 0, []), (.invokespecial 9, 7, 1, 0, [7, 9, 2, 130, 131, 129, 132]), (.astore_n 1, 0, 0, 0, []), (.new 10, 8, 33, 0, [133, 134, 135]), (.dup, 0, 0, 0, []), (.invokespecial 12, 8, 1, 0, [8, 33, 1, 136, 137, 135, 138]), (.astore_n 2, 0, 0, 0, []), (.iconst 0, 0, 0, 0, []), (.istore_n 3, 0, 0, 0, []), (.nop, 1, 0, 0, [])]
def zc_9_1 : List zi_I := [(.iload_n 3, 0, 0, 0, []), (.aload_n 0, 0, 0, 0, []), (.arraylength, 0, 0, 0, []), (.bipush 7, 0, 0, 7, []), (.isub, 0, 0, 0, []), (.if_icmp .gt 1118, 32, 0, 0, []), (.aload_n 0, 0, 0, 0, []), (.iload_n 3, 0, 0, 0, []), (.iaload, 0, 0, 0, []), (.bipush 31, 0, 0, 31, []), (.iand, 0, 0, 0, []), (.tableswitch 1103 0 28 #[131, 184, 217, 240, 273, 316, 349, 424, 447, 510, 543, 577, 600, 633, 656, 669, 692, 725, 759, 802, 825, 868, 912, 975, 998, 1021, 1054, 1067, 1080], 31, 0, 0, [2, 3, 4, 5, 6, 7, 8, 9, 10, 11, 12, 13, 14, 15, 16, 17, 18, 19, 20, 21, 22, 23, 24, 25, 26, 27, 28, 29, 30])]
def zc_9_2 : List zi_I := [(.aload_n 1, 0, 0, 0, []), (.aload_n 0, 0, 0, 0, []), (.iload_n 3, 0, 0, 0, []), (.iconst 1, 0, 0, 1, []), (.iadd, 0, 0, 0, []), (.iaload, 0, 0, 0, []), (.aload_n 0, 0, 0, 0, []), (.iload_n 3, 0, 0, 0, []), (.iconst 2, 0, 0, 2, []), (.iadd, 0, 0, 0, []), (.iaload, 0, 0, 0, []), (.aload_n 0, 0, 0, 0, []), (.iload_n 3, 0, 0, 0, []), (.iconst 3, 0, 0, 3, []), (.iadd, 0, 0, 0, []), (.iaload, 0, 0, 0, []), (.aload_n 0, 0, 0, 0, []), (.iload_n 3, 0, 0, 0, []), (.iconst 4, 0, 0, 4, []), (.iadd, 0, 0, 0, []), (.iaload, 0, 0, 0, []), (.invokevirtual 13, 59, 5, 0, [7, 9, 9, 139, 140, 129, 141, 142]), (.aload_n 2, 0, 0, 0, []), (.aload_n 0, 0, 0, 0, []), (.iload_n 3, 0, 0, 0, []), (.iconst 1, 0, 0, 1, []), (.iadd, 0, 0, 0, []), (.iaload, 0, 0, 0, []), (.aload_n 0, 0, 0, 0, []), (.iload_n 3, 0, 0, 0, []), (.iconst 2, 0, 0, 2, []), (.iadd, 0, 0, 0, []), (.iaload, 0, 0, 0, []), (.aload_n 0, 0, 0, 0, []), (.iload_n 3, 0, 0, 0, []), (.iconst 3, 0, 0, 3, []), (.iadd, 0, 0, 0, []), (.iaload, 0, 0, 0, []), (.aload_n 0, 0, 0, 0, []), (.iload_n 3, 0, 0, 0, []), (.iconst 4, 0, 0, 4, []), (.iadd, 0, 0, 0, []), (.iaload, 0, 0, 0, []), (.invokevirtual 17, 122, 5, 0, [8, 33, 9, 143, 144, 135, 145, 146]), (.if_icmp .eq 924, 31, 0, 0, []), (.iconst 0, 0, 0, 0, []), (.ireturn, 1, 0, 0, [])]
def zc_9_3 : List zi_I := [(.aload_n 1, 0, 0, 0, []), (.aload_n 0, 0, 0, 0, []), (.iload_n 3, 0, 0, 0, []), (.iconst 1, 0, 0, 1, []), (.iadd, 0, 0, 0, []), (.iaload, 0, 0, 0, []), (.aload_n 0, 0, 0, 0, []), (.iload_n 3, 0, 0, 0, []), (.iconst 2, 0, 0, 2, []), (.iadd, 0, 0, 0, []), (.iaload, 0, 0, 0, []), (.invokevirtual 18, 60, 3, 0, [7, 9, 4, 147, 148, 129, 149, 150]), (.aload_n 2, 0, 0, 0, []), (.aload_n 0, 0, 0, 0, []), (.iload_n 3, 0, 0, 0, []), (.iconst 1, 0, 0, 1, []), (.iadd, 0, 0, 0, []), (.iaload, 0, 0, 0, []), (.aload_n 0, 0, 0, 0, []), (.iload_n 3, 0, 0, 0, []), (.iconst 2, 0, 0, 2, []), (.iadd, 0, 0, 0, []), (.iaload, 0, 0, 0, []), (.invokevirtual 22, 133, 3, 0, [8, 33, 3, 151, 152, 135, 153, 154]), (.if_icmp .eq 891, 31, 0, 0, []), (.iconst 0, 0, 0, 0, []), (.ireturn, 1, 0, 0, [])]
def zc_9_4 : List zi_I := [(.aload_n 1, 0, 0, 0, []), (.aload_n 0, 0, 0, 0, []), (.iload_n 3, 0, 0, 0, []), (.iconst 1, 0, 0, 1, []), (.iadd, 0, 0, 0, []), (.iaload, 0, 0, 0, []), (.invokevirtual 23, 61, 2, 0, [7, 9, 2, 155, 156, 129, 157, 158]), (.aload_n 2, 0, 0, 0, []), (.aload_n 0, 0, 0, 0, []), (.iload_n 3, 0, 0, 0, []), (.iconst 1, 0, 0, 1, []), (.iadd, 0, 0, 0, []), (.iaload, 0, 0, 0, []), (.invokevirtual 27, 134, 2, 0, [8, 33, 2, 159, 160, 135, 161, 162]), (.if_icmp .eq 868, 31, 0, 0, []), (.iconst 0, 0, 0, 0, []), (.ireturn, 1, 0, 0, [])]
def zc_9_5 : List zi_I := [(.aload_n 1, 0, 0, 0, []), (.aload_n 0, 0, 0, 0, []), (.iload_n 3, 0, 0, 0, []), (.iconst 1, 0, 0, 1, []), (.iadd, 0, 0, 0, []), (.iaload, 0, 0, 0, []), (.aload_n 0, 0, 0, 0, []), (.iload_n 3, 0, 0, 0, []), (.iconst 2, 0, 0, 2, []), (.iadd, 0, 0, 0, []), (.iaload, 0, 0, 0, []), (.invokevirtual 28, 62, 3, 0, [7, 9, 4, 163, 164, 129, 165, 166]), (.aload_n 2, 0, 0, 0, []), (.aload_n 0, 0, 0, 0, []), (.iload_n 3, 0, 0, 0, []), (.iconst 1, 0, 0, 1, []), (.iadd, 0, 0, 0, []), (.iaload, 0, 0, 0, []), (.aload_n 0, 0, 0, 0, []), (.iload_n 3, 0, 0, 0, []), (.iconst 2, 0, 0, 2, []), (.iadd, 0, 0, 0, []), (.iaload, 0, 0, 0, []), (.invokevirtual 31, 135, 3, 0, [8, 33, 3, 167, 168, 135, 169, 170]), (.if_icmp .eq 835, 31, 0, 0, []), (.iconst 0, 0, 0, 0, []), (.ireturn, 1, 0, 0, [])]
def zc_9_6 : List zi_I := [(.aload_n 1, 0, 0, 0, []), (.aload_n 0, 0, 0, 0, []), (.iload_n 3, 0, 0, 0, []), (.iconst 1, 0, 0, 1, []), (.iadd, 0, 0, 0, []), (.iaload, 0, 0, 0, []), (.aload_n 0, 0, 0, 0, []), (.iload_n 3, 0, 0, 0, []), (.iconst 2, 0, 0, 2, []), (.iadd, 0, 0, 0, []), (.iaload, 0, 0, 0, []), (.aload_n 0, 0, 0, 0, []), (.iload_n 3, 0, 0, 0, []), (.iconst 3, 0, 0, 3, []), (.iadd, 0, 0, 0, []), (.iaload, 0, 0, 0, []), (.invokevirtual 32, 63, 4, 0, [7, 9, 5, 171, 172, 129, 173, 174]), (.aload_n 2, 0, 0, 0, []), (.aload_n 0, 0, 0, 0, []), (.iload_n 3, 0, 0, 0, []), (.iconst 1, 0, 0, 1, []), (.iadd, 0, 0, 0, []), (.iaload, 0, 0, 0, []), (.aload_n 0, 0, 0, 0, []), (.iload_n 3, 0, 0, 0, []), (.iconst 2, 0, 0, 2, []), (.iadd, 0, 0, 0, []), (.iaload, 0, 0, 0, []), (.aload_n 0, 0, 0, 0, []), (.iload_n 3, 0, 0, 0, []), (.iconst 3, 0, 0, 3, []), (.iadd, 0, 0, 0, []), (.iaload, 0, 0, 0, []), (.invokevirtual 36, 138, 4, 0, [8, 33, 5, 175, 176, 135, 177, 178]), (.if_icmp .eq 792, 31, 0, 0, []), (.iconst 0, 0, 0, 0, []), (.ireturn, 1, 0, 0, [])]
def zc_9_7 : List zi_I := [(.aload_n 1, 0, 0, 0, []), (.aload_n 0, 0, 0, 0, []), (.iload_n 3, 0, 0, 0, []), (.iconst 1, 0, 0, 1, []), (.iadd, 0, 0, 0, []), (.iaload, 0, 0, 0, []), (.aload_n 0, 0, 0, 0, []), (.iload_n 3, 0, 0, 0, []), (.iconst 2, 0, 0, 2, []), (.iadd, 0, 0, 0, []), (.iaload, 0, 0, 0, []), (.invokevirtual 37, 64, 3, 0, [7, 9, 5, 179, 180, 129, 181, 182]), (.aload_n 2, 0, 0, 0, []), (.aload_n 0, 0, 0, 0, []), (.iload_n 3, 0, 0, 0, []), (.iconst 1, 0, 0, 1, []), (.iadd, 0, 0, 0, []), (.iaload, 0, 0, 0, []), (.aload_n 0, 0, 0, 0, []), (.iload_n 3, 0, 0, 0, []), (.iconst 2, 0, 0, 2, []), (.iadd, 0, 0, 0, []), (.iaload, 0, 0, 0, []), (.invokevirtual 40, 139, 3, 0, [8, 33, 4, 183, 184, 135, 185, 186]), (.if_icmp .eq 759, 31, 0, 0, []), (.iconst 0, 0, 0, 0, []), (.ireturn, 1, 0, 0, [])]
def zc_9_8 : List zi_I := [(.aload_n 1, 0, 0, 0, []), (.aload_n 0, 0, 0, 0, []), (.iload_n 3, 0, 0, 0, []), (.iconst 1, 0, 0, 1, []), (.iadd, 0, 0, 0, []), (.iaload, 0, 0, 0, []), (.aload_n 0, 0, 0, 0, []), (.iload_n 3, 0, 0, 0, []), (.iconst 2, 0, 0, 2, []), (.iadd, 0, 0, 0, []), (.iaload, 0, 0, 0, []), (.aload_n 0, 0, 0, 0, []), (.iload_n 3, 0, 0, 0, []), (.iconst 3, 0, 0, 3, []), (.iadd, 0, 0, 0, []), (.iaload, 0, 0, 0, []), (.aload_n 0, 0, 0, 0, []), (.iload_n 3, 0, 0, 0, []), (.iconst 4, 0, 0, 4, []), (.iadd, 0, 0, 0, []), (.iaload, 0, 0, 0, []), (.aload_n 0, 0, 0, 0, []), (.iload_n 3, 0, 0, 0, []), (.iconst 5, 0, 0, 5, []), (.iadd, 0, 0, 0, []), (.iaload, 0, 0, 0, []), (.aload_n 0, 0, 0, 0, []), (.iload_n 3, 0, 0, 0, []), (.bipush 6, 0, 0, 6, []), (.iadd, 0, 0, 0, []), (.iaload, 0, 0, 0, []), (.invokevirtual 41, 65, 7, 0, [7, 9, 11, 187, 188, 129, 189, 190]), (.aload_n 2, 0, 0, 0, []), (.aload_n 0, 0, 0, 0, []), (.iload_n 3, 0, 0, 0, []), (.iconst 1, 0, 0, 1, []), (.iadd, 0, 0, 0, []), (.iaload, 0, 0, 0, []), (.aload_n 0, 0, 0, 0, []), (.iload_n 3, 0, 0, 0, []), (.iconst 2, 0, 0, 2, []), (.iadd, 0, 0, 0, []), (.iaload, 0, 0, 0, []), (.aload_n 0, 0, 0, 0, []), (.iload_n 3, 0, 0, 0, []), (.iconst 3, 0, 0, 3, []), (.iadd, 0, 0, 0, []), (.iaload, 0, 0, 0, []), (.aload_n 0, 0, 0, 0, []), (.iload_n 3, 0, 0, 0, []), (.iconst 4, 0, 0, 4, []), (.iadd, 0, 0, 0, []), (.iaload, 0, 0, 0, []), (.aload_n 0, 0, 0, 0, []), (.iload_n 3, 0, 0, 0, []), (.iconst 5, 0, 0, 5, []), (.iadd, 0, 0, 0, []), (.iaload, 0, 0, 0, []), (.aload_n 0, 0, 0, 0, []), (.iload_n 3, 0, 0, 0, []), (.bipush 6, 0, 0, 6, []), (.iadd, 0, 0, 0, []), (.iaload, 0, 0, 0, []), (.invokevirtual 45, 141, 7, 0, [8, 33, 11, 191, 192, 135, 193, 194]), (.if_icmp .eq 684, 31, 0, 0, []), (.iconst 0, 0, 0, 0, []), (.ireturn, 1, 0, 0, [])]
def zc_9_9 : List zi_I := [(.aload_n 1, 0, 0, 0, []), (.aload_n 0, 0, 0, 0, []), (.iload_n 3, 0, 0, 0, []), (.iconst 1, 0, 0, 1, []), (.iadd, 0, 0, 0, []), (.iaload, 0, 0, 0, []), (.invokevirtual 46, 66, 2, 0, [7, 9, 2, 195, 196, 129, 197, 198]), (.aload_n 2, 0, 0, 0, []), (.aload_n 0, 0, 0, 0, []), (.iload_n 3, 0, 0, 0, []), (.iconst 1, 0, 0, 1, []), (.iadd, 0, 0, 0, []), (.iaload, 0, 0, 0, []), (.invokevirtual 49, 142, 2, 0, [8, 33, 2, 199, 200, 135, 201, 202]), (.if_icmp .eq 661, 31, 0, 0, []), (.iconst 0, 0, 0, 0, []), (.ireturn, 1, 0, 0, [])]
def zc_9_10 : List zi_I := [(.aload_n 1, 0, 0, 0, []), (.aload_n 0, 0, 0, 0, []), (.iload_n 3, 0, 0, 0, []), (.iconst 1, 0, 0, 1, []), (.iadd, 0, 0, 0, []), (.iaload, 0, 0, 0, []), (.aload_n 0, 0, 0, 0, []), (.iload_n 3, 0, 0, 0, []), (.iconst 2, 0, 0, 2, []), (.iadd, 0, 0, 0, []), (.iaload, 0, 0, 0, []), (.aload_n 0, 0, 0, 0, []), (.iload_n 3, 0, 0, 0, []), (.iconst 3, 0, 0, 3, []), (.iadd, 0, 0, 0, []), (.iaload, 0, 0, 0, []), (.aload_n 0, 0, 0, 0, []), (.iload_n 3, 0, 0, 0, []), (.iconst 4, 0, 0, 4, []), (.iadd, 0, 0, 0, []), (.iaload, 0, 0, 0, []), (.aload_n 0, 0, 0, 0, []), (.iload_n 3, 0, 0, 0, []), (.iconst 5, 0, 0, 5, []), (.iadd, 0, 0, 0, []), (.iaload, 0, 0, 0, []), (.invokevirtual 50, 67, 6, 0, [7, 9, 9, 203, 204, 129, 205, 206]), (.aload_n 2, 0, 0, 0, []), (.aload_n 0, 0, 0, 0, []), (.iload_n 3, 0, 0, 0, []), (.iconst 1, 0, 0, 1, []), (.iadd, 0, 0, 0, []), (.iaload, 0, 0, 0, []), (.aload_n 0, 0, 0, 0, []), (.iload_n 3, 0, 0, 0, []), (.iconst 2, 0, 0, 2, []), (.iadd, 0, 0, 0, []), (.iaload, 0, 0, 0, []), (.aload_n 0, 0, 0, 0, []), (.iload_n 3, 0, 0, 0, []), (.iconst 3, 0, 0, 3, []), (.iadd, 0, 0, 0, []), (.iaload, 0, 0, 0, []), (.aload_n 0, 0, 0, 0, []), (.iload_n 3, 0, 0, 0, []), (.iconst 4, 0, 0, 4, []), (.iadd, 0, 0, 0, []), (.iaload, 0, 0, 0, []), (.aload_n 0, 0, 0, 0, []), (.iload_n 3, 0, 0, 0, []), (.iconst 5, 0, 0, 5, []), (.iadd, 0, 0, 0, []), (.iaload, 0, 0, 0, []), (.invokevirtual 54, 147, 6, 0, [8, 33, 10, 207, 208, 135, 209, 210]), (.if_icmp .eq 598, 31, 0, 0, []), (.iconst 0, 0, 0, 0, []), (.ireturn, 1, 0, 0, [])]
def zc_9_11 : List zi_I := [(.aload_n 1, 0, 0, 0, []), (.aload_n 0, 0, 0, 0, []), (.iload_n 3, 0, 0, 0, []), (.iconst 1, 0, 0, 1, []), (.iadd, 0, 0, 0, []), (.iaload, 0, 0, 0, []), (.aload_n 0, 0, 0, 0, []), (.iload_n 3, 0, 0, 0, []), (.iconst 2, 0, 0, 2, []), (.iadd, 0, 0, 0, []), (.iaload, 0, 0, 0, []), (.invokevirtual 55, 68, 3, 0, [7, 9, 3, 211, 212, 129, 213, 214]), (.aload_n 2, 0, 0, 0, []), (.aload_n 0, 0, 0, 0, []), (.iload_n 3, 0, 0, 0, []), (.iconst 1, 0, 0, 1, []), (.iadd, 0, 0, 0, []), (.iaload, 0, 0, 0, []), (.aload_n 0, 0, 0, 0, []), (.iload_n 3, 0, 0, 0, []), (.iconst 2, 0, 0, 2, []), (.iadd, 0, 0, 0, []), (.iaload, 0, 0, 0, []), (.invokevirtual 58, 151, 3, 0, [8, 33, 7, 215, 216, 135, 217, 218]), (.if_icmp .eq 565, 31, 0, 0, []), (.iconst 0, 0, 0, 0, []), (.ireturn, 1, 0, 0, [])]
def zc_9_12 : List zi_I := [(.aload_n 1, 0, 0, 0, []), (.aload_n 0, 0, 0, 0, []), (.iload_n 3, 0, 0, 0, []), (.iconst 1, 0, 0, 1, []), (.iadd, 0, 0, 0, []), (.iaload, 0, 0, 0, []), (.aload_n 0, 0, 0, 0, []), (.iload_n 3, 0, 0, 0, []), (.iconst 2, 0, 0, 2, []), (.iadd, 0, 0, 0, []), (.iaload, 0, 0, 0, []), (.invokevirtual 59, 69, 3, 0, [7, 9, 3, 219, 220, 129, 221, 222]), (.aload_n 2, 0, 0, 0, []), (.aload_n 0, 0, 0, 0, []), (.iload_n 3, 0, 0, 0, []), (.iconst 1, 0, 0, 1, []), (.iadd, 0, 0, 0, []), (.iaload, 0, 0, 0, []), (.aload_n 0, 0, 0, 0, []), (.iload_n 3, 0, 0, 0, []), (.iconst 2, 0, 0, 2, []), (.iadd, 0, 0, 0, []), (.iaload, 0, 0, 0, []), (.invokevirtual 63, 152, 3, 0, [8, 33, 7, 223, 224, 135, 225, 226]), (.lcmp, 0, 0, 0, []), (.ifCond .eq 531, 31, 0, 0, []), (.iconst 0, 0, 0, 0, []), (.ireturn, 1, 0, 0, [])]
def zc_9_13 : List zi_I := [(.aload_n 1, 0, 0, 0, []), (.aload_n 0, 0, 0, 0, []), (.iload_n 3, 0, 0, 0, []), (.iconst 1, 0, 0, 1, []), (.iadd, 0, 0, 0, []), (.iaload, 0, 0, 0, []), (.invokevirtual 64, 70, 2, 0, [7, 9, 5, 227, 228, 129, 229, 230]), (.aload_n 2, 0, 0, 0, []), (.aload_n 0, 0, 0, 0, []), (.iload_n 3, 0, 0, 0, []), (.iconst 1, 0, 0, 1, []), (.iadd, 0, 0, 0, []), (.iaload, 0, 0, 0, []), (.invokevirtual 67, 153, 2, 0, [8, 33, 4, 231, 232, 135, 233, 234]), (.if_icmp .eq 508, 31, 0, 0, []), (.iconst 0, 0, 0, 0, []), (.ireturn, 1, 0, 0, [])]
def zc_9_14 : List zi_I := [(.aload_n 1, 0, 0, 0, []), (.aload_n 0, 0, 0, 0, []), (.iload_n 3, 0, 0, 0, []), (.iconst 1, 0, 0, 1, []), (.iadd, 0, 0, 0, []), (.iaload, 0, 0, 0, []), (.aload_n 0, 0, 0, 0, []), (.iload_n 3, 0, 0, 0, []), (.iconst 2, 0, 0, 2, []), (.iadd, 0, 0, 0, []), (.iaload, 0, 0, 0, []), (.invokevirtual 68, 71, 3, 0, [7, 9, 4, 235, 236, 129, 237, 238]), (.aload_n 2, 0, 0, 0, []), (.aload_n 0, 0, 0, 0, []), (.iload_n 3, 0, 0, 0, []), (.iconst 1, 0, 0, 1, []), (.iadd, 0, 0, 0, []), (.iaload, 0, 0, 0, []), (.aload_n 0, 0, 0, 0, []), (.iload_n 3, 0, 0, 0, []), (.iconst 2, 0, 0, 2, []), (.iadd, 0, 0, 0, []), (.iaload, 0, 0, 0, []), (.invokevirtual 71, 154, 3, 0, [8, 33, 3, 239, 240, 135, 241, 242]), (.if_icmp .eq 475, 31, 0, 0, []), (.iconst 0, 0, 0, 0, []), (.ireturn, 1, 0, 0, [])]
def zc_9_15 : List zi_I := [(.aload_n 1, 0, 0, 0, []), (.aload_n 0, 0, 0, 0, []), (.iload_n 3, 0, 0, 0, []), (.iconst 1, 0, 0, 1, []), (.iadd, 0, 0, 0, []), (.iaload, 0, 0, 0, []), (.invokevirtual 72, 72, 2, 0, [7, 9, 2, 243, 244, 129, 245, 246]), (.aload_n 2, 0, 0, 0, []), (.aload_n 0, 0, 0, 0, []), (.iload_n 3, 0, 0, 0, []), (.iconst 1, 0, 0, 1, []), (.iadd, 0, 0, 0, []), (.iaload, 0, 0, 0, []), (.invokevirtual 75, 155, 2, 0, [8, 33, 2, 247, 248, 135, 249, 250]), (.if_icmp .eq 452, 31, 0, 0, []), (.iconst 0, 0, 0, 0, []), (.ireturn, 1, 0, 0, [])]
def zc_9_16 : List zi_I := [(.aload_n 1, 0, 0, 0, []), (.invokevirtual 76, 73, 1, 0, [7, 9, 3, 251, 252, 129, 253, 254]), (.aload_n 2, 0, 0, 0, []), (.invokevirtual 80, 157, 1, 0, [8, 33, 3, 255, 256, 135, 257, 258]), (.if_icmp .eq 439, 31, 0, 0, []), (.iconst 0, 0, 0, 0, []), (.ireturn, 1, 0, 0, [])]
def zc_9_17 : List zi_I := [(.aload_n 1, 0, 0, 0, []), (.aload_n 0, 0, 0, 0, []), (.iload_n 3, 0, 0, 0, []), (.iconst 1, 0, 0, 1, []), (.iadd, 0, 0, 0, []), (.iaload, 0, 0, 0, []), (.invokevirtual 81, 74, 2, 0, [7, 9, 5, 259, 260, 129, 261, 262]), (.aload_n 2, 0, 0, 0, []), (.aload_n 0, 0, 0, 0, []), (.iload_n 3, 0, 0, 0, []), (.iconst 1, 0, 0, 1, []), (.iadd, 0, 0, 0, []), (.iaload, 0, 0, 0, []), (.invokevirtual 84, 158, 2, 0, [8, 33, 5, 263, 264, 135, 265, 266]), (.if_icmp .eq 416, 31, 0, 0, []), (.iconst 0, 0, 0, 0, []), (.ireturn, 1, 0, 0, [])]
def zc_9_18 : List zi_I := [(.aload_n 1, 0, 0, 0, []), (.aload_n 0, 0, 0, 0, []), (.iload_n 3, 0, 0, 0, []), (.iconst 1, 0, 0, 1, []), (.iadd, 0, 0, 0, []), (.iaload, 0, 0, 0, []), (.aload_n 0, 0, 0, 0, []), (.iload_n 3, 0, 0, 0, []), (.iconst 2, 0, 0, 2, []), (.iadd, 0, 0, 0, []), (.iaload, 0, 0, 0, []), (.invokevirtual 85, 75, 3, 0, [7, 9, 6, 267, 268, 129, 269, 270]), (.aload_n 2, 0, 0, 0, []), (.aload_n 0, 0, 0, 0, []), (.iload_n 3, 0, 0, 0, []), (.iconst 1, 0, 0, 1, []), (.iadd, 0, 0, 0, []), (.iaload, 0, 0, 0, []), (.aload_n 0, 0, 0, 0, []), (.iload_n 3, 0, 0, 0, []), (.iconst 2, 0, 0, 2, []), (.iadd, 0, 0, 0, []), (.iaload, 0, 0, 0, []), (.invokevirtual 88, 159, 3, 0, [8, 33, 5, 271, 272, 135, 273, 274]), (.if_icmp .eq 383, 31, 0, 0, []), (.iconst 0, 0, 0, 0, []), (.ireturn, 1, 0, 0, [])]
def zc_9_19 : List zi_I := [(.aload_n 1, 0, 0, 0, []), (.aload_n 0, 0, 0, 0, []), (.iload_n 3, 0, 0, 0, []), (.iconst 1, 0, 0, 1, []), (.iadd, 0, 0, 0, []), (.iaload, 0, 0, 0, []), (.aload_n 0, 0, 0, 0, []), (.iload_n 3, 0, 0, 0, []), (.iconst 2, 0, 0, 2, []), (.iadd, 0, 0, 0, []), (.iaload, 0, 0, 0, []), (.invokevirtual 89, 76, 3, 0, [7, 9, 6, 275, 276, 129, 277, 278]), (.aload_n 2, 0, 0, 0, []), (.aload_n 0, 0, 0, 0, []), (.iload_n 3, 0, 0, 0, []), (.iconst 1, 0, 0, 1, []), (.iadd, 0, 0, 0, []), (.iaload, 0, 0, 0, []), (.aload_n 0, 0, 0, 0, []), (.iload_n 3, 0, 0, 0, []), (.iconst 2, 0, 0, 2, []), (.iadd, 0, 0, 0, []), (.iaload, 0, 0, 0, []), (.invokevirtual 92, 161, 3, 0, [8, 33, 5, 279, 280, 135, 281, 282]), (.lcmp, 0, 0, 0, []), (.ifCond .eq 349, 31, 0, 0, []), (.iconst 0, 0, 0, 0, []), (.ireturn, 1, 0, 0, [])]
def zc_9_20 : List zi_I := [(.aload_n 1, 0, 0, 0, []), (.aload_n 0, 0, 0, 0, []), (.iload_n 3, 0, 0, 0, []), (.iconst 1, 0, 0, 1, []), (.iadd, 0, 0, 0, []), (.iaload, 0, 0, 0, []), (.aload_n 0, 0, 0, 0, []), (.iload_n 3, 0, 0, 0, []), (.iconst 2, 0, 0, 2, []), (.iadd, 0, 0, 0, []), (.iaload, 0, 0, 0, []), (.aload_n 0, 0, 0, 0, []), (.iload_n 3, 0, 0, 0, []), (.iconst 3, 0, 0, 3, []), (.iadd, 0, 0, 0, []), (.iaload, 0, 0, 0, []), (.invokevirtual 93, 77, 4, 0, [7, 9, 4, 283, 284, 129, 285, 286]), (.aload_n 2, 0, 0, 0, []), (.aload_n 0, 0, 0, 0, []), (.iload_n 3, 0, 0, 0, []), (.iconst 1, 0, 0, 1, []), (.iadd, 0, 0, 0, []), (.iaload, 0, 0, 0, []), (.aload_n 0, 0, 0, 0, []), (.iload_n 3, 0, 0, 0, []), (.iconst 2, 0, 0, 2, []), (.iadd, 0, 0, 0, []), (.iaload, 0, 0, 0, []), (.aload_n 0, 0, 0, 0, []), (.iload_n 3, 0, 0, 0, []), (.iconst 3, 0, 0, 3, []), (.iadd, 0, 0, 0, []), (.iaload, 0, 0, 0, []), (.invokevirtual 96, 162, 4, 0, [8, 33, 5, 287, 288, 135, 289, 290]), (.if_icmp .eq 306, 31, 0, 0, []), (.iconst 0, 0, 0, 0, []), (.ireturn, 1, 0, 0, [])]
def zc_9_21 : List zi_I := [(.aload_n 1, 0, 0, 0, []), (.aload_n 0, 0, 0, 0, []), (.iload_n 3, 0, 0, 0, []), (.iconst 1, 0, 0, 1, []), (.iadd, 0, 0, 0, []), (.iaload, 0, 0, 0, []), (.invokevirtual 97, 78, 2, 0, [7, 9, 3, 291, 292, 129, 293, 294]), (.aload_n 2, 0, 0, 0, []), (.aload_n 0, 0, 0, 0, []), (.iload_n 3, 0, 0, 0, []), (.iconst 1, 0, 0, 1, []), (.iadd, 0, 0, 0, []), (.iaload, 0, 0, 0, []), (.invokevirtual 100, 163, 2, 0, [8, 33, 3, 295, 296, 135, 297, 298]), (.if_icmp .eq 283, 31, 0, 0, []), (.iconst 0, 0, 0, 0, []), (.ireturn, 1, 0, 0, [])]
def zc_9_22 : List zi_I := [(.aload_n 1, 0, 0, 0, []), (.aload_n 0, 0, 0, 0, []), (.iload_n 3, 0, 0, 0, []), (.iconst 1, 0, 0, 1, []), (.iadd, 0, 0, 0, []), (.iaload, 0, 0, 0, []), (.aload_n 0, 0, 0, 0, []), (.iload_n 3, 0, 0, 0, []), (.iconst 2, 0, 0, 2, []), (.iadd, 0, 0, 0, []), (.iaload, 0, 0, 0, []), (.aload_n 0, 0, 0, 0, []), (.iload_n 3, 0, 0, 0, []), (.iconst 3, 0, 0, 3, []), (.iadd, 0, 0, 0, []), (.iaload, 0, 0, 0, []), (.invokevirtual 101, 79, 4, 0, [7, 9, 5, 299, 300, 129, 301, 302]), (.aload_n 2, 0, 0, 0, []), (.aload_n 0, 0, 0, 0, []), (.iload_n 3, 0, 0, 0, []), (.iconst 1, 0, 0, 1, []), (.iadd, 0, 0, 0, []), (.iaload, 0, 0, 0, []), (.aload_n 0, 0, 0, 0, []), (.iload_n 3, 0, 0, 0, []), (.iconst 2, 0, 0, 2, []), (.iadd, 0, 0, 0, []), (.iaload, 0, 0, 0, []), (.aload_n 0, 0, 0, 0, []), (.iload_n 3, 0, 0, 0, []), (.iconst 3, 0, 0, 3, []), (.iadd, 0, 0, 0, []), (.iaload, 0, 0, 0, []), (.invokevirtual 104, 164, 4, 0, [8, 33, 4, 303, 304, 135, 305, 306]), (.if_icmp .eq 240, 31, 0, 0, []), (.iconst 0, 0, 0, 0, []), (.ireturn, 1, 0, 0, [])]
def zc_9_23 : List zi_I := [(.aload_n 1, 0, 0, 0, []), (.aload_n 0, 0, 0, 0, []), (.iload_n 3, 0, 0, 0, []), (.iconst 1, 0, 0, 1, []), (.iadd, 0, 0, 0, []), (.iaload, 0, 0, 0, []), (.aload_n 0, 0, 0, 0, []), (.iload_n 3, 0, 0, 0, []), (.iconst 2, 0, 0, 2, []), (.iadd, 0, 0, 0, []), (.iaload, 0, 0, 0, []), (.aload_n 0, 0, 0, 0, []), (.iload_n 3, 0, 0, 0, []), (.iconst 3, 0, 0, 3, []), (.iadd, 0, 0, 0, []), (.iaload, 0, 0, 0, []), (.invokevirtual 105, 80, 4, 0, [7, 9, 4, 307, 308, 129, 309, 310]), (.aload_n 2, 0, 0, 0, []), (.aload_n 0, 0, 0, 0, []), (.iload_n 3, 0, 0, 0, []), (.iconst 1, 0, 0, 1, []), (.iadd, 0, 0, 0, []), (.iaload, 0, 0, 0, []), (.aload_n 0, 0, 0, 0, []), (.iload_n 3, 0, 0, 0, []), (.iconst 2, 0, 0, 2, []), (.iadd, 0, 0, 0, []), (.iaload, 0, 0, 0, []), (.aload_n 0, 0, 0, 0, []), (.iload_n 3, 0, 0, 0, []), (.iconst 3, 0, 0, 3, []), (.iadd, 0, 0, 0, []), (.iaload, 0, 0, 0, []), (.invokevirtual 109, 165, 4, 0, [8, 33, 4, 311, 312, 135, 313, 314]), (.lcmp, 0, 0, 0, []), (.ifCond .eq 196, 31, 0, 0, []), (.iconst 0, 0, 0, 0, []), (.ireturn, 1, 0, 0, [])]
def zc_9_24 : List zi_I := [(.aload_n 1, 0, 0, 0, []), (.aload_n 0, 0, 0, 0, []), (.iload_n 3, 0, 0, 0, []), (.iconst 1, 0, 0, 1, []), (.iadd, 0, 0, 0, []), (.iaload, 0, 0, 0, []), (.aload_n 0, 0, 0, 0, []), (.iload_n 3, 0, 0, 0, []), (.iconst 2, 0, 0, 2, []), (.iadd, 0, 0, 0, []), (.iaload, 0, 0, 0, []), (.aload_n 0, 0, 0, 0, []), (.iload_n 3, 0, 0, 0, []), (.iconst 3, 0, 0, 3, []), (.iadd, 0, 0, 0, []), (.iaload, 0, 0, 0, []), (.aload_n 0, 0, 0, 0, []), (.iload_n 3, 0, 0, 0, []), (.iconst 4, 0, 0, 4, []), (.iadd, 0, 0, 0, []), (.iaload, 0, 0, 0, []), (.aload_n 0, 0, 0, 0, []), (.iload_n 3, 0, 0, 0, []), (.iconst 5, 0, 0, 5, []), (.iadd, 0, 0, 0, []), (.iaload, 0, 0, 0, []), (.invokevirtual 110, 81, 6, 0, [7, 9, 8, 315, 316, 129, 317, 318]), (.aload_n 2, 0, 0, 0, []), (.aload_n 0, 0, 0, 0, []), (.iload_n 3, 0, 0, 0, []), (.iconst 1, 0, 0, 1, []), (.iadd, 0, 0, 0, []), (.iaload, 0, 0, 0, []), (.aload_n 0, 0, 0, 0, []), (.iload_n 3, 0, 0, 0, []), (.iconst 2, 0, 0, 2, []), (.iadd, 0, 0, 0, []), (.iaload, 0, 0, 0, []), (.aload_n 0, 0, 0, 0, []), (.iload_n 3, 0, 0, 0, []), (.iconst 3, 0, 0, 3, []), (.iadd, 0, 0, 0, []), (.iaload, 0, 0, 0, []), (.aload_n 0, 0, 0, 0, []), (.iload_n 3, 0, 0, 0, []), (.iconst 4, 0, 0, 4, []), (.iadd, 0, 0, 0, []), (.iaload, 0, 0, 0, []), (.aload_n 0, 0, 0, 0, []), (.iload_n 3, 0, 0, 0, []), (.iconst 5, 0, 0, 5, []), (.iadd, 0, 0, 0, []), (.iaload, 0, 0, 0, []), (.invokevirtual 113, 166, 6, 0, [8, 33, 10, 319, 320, 135, 321, 322]), (.if_icmp .eq 133, 31, 0, 0, []), (.iconst 0, 0, 0, 0, []), (.ireturn, 1, 0, 0, [])]
def zc_9_25 : List zi_I := [(.aload_n 1, 0, 0, 0, []), (.aload_n 0, 0, 0, 0, []), (.iload_n 3, 0, 0, 0, []), (.iconst 1, 0, 0, 1, []), (.iadd, 0, 0, 0, []), (.iaload, 0, 0, 0, []), (.invokevirtual 114, 82, 2, 0, [7, 9, 3, 323, 324, 129, 325, 326]), (.aload_n 2, 0, 0, 0, []), (.aload_n 0, 0, 0, 0, []), (.iload_n 3, 0, 0, 0, []), (.iconst 1, 0, 0, 1, []), (.iadd, 0, 0, 0, []), (.iaload, 0, 0, 0, []), (.invokevirtual 117, 168, 2, 0, [8, 33, 3, 327, 328, 135, 329, 330]), (.if_icmp .eq 110, 31, 0, 0, []), (.iconst 0, 0, 0, 0, []), (.ireturn, 1, 0, 0, [])]
def zc_9_26 : List zi_I := [(.aload_n 1, 0, 0, 0, []), (.aload_n 0, 0, 0, 0, []), (.iload_n 3, 0, 0, 0, []), (.iconst 1, 0, 0, 1, []), (.iadd, 0, 0, 0, []), (.iaload, 0, 0, 0, []), (.invokevirtual 118, 83, 2, 0, [7, 9, 3, 331, 332, 129, 333, 334]), (.aload_n 2, 0, 0, 0, []), (.aload_n 0, 0, 0, 0, []), (.iload_n 3, 0, 0, 0, []), (.iconst 1, 0, 0, 1, []), (.iadd, 0, 0, 0, []), (.iaload, 0, 0, 0, []), (.invokevirtual 121, 169, 2, 0, [8, 33, 2, 335, 336, 135, 337, 338]), (.if_icmp .eq 87, 31, 0, 0, []), (.iconst 0, 0, 0, 0, []), (.ireturn, 1, 0, 0, [])]
def zc_9_27 : List zi_I := [(.aload_n 1, 0, 0, 0, []), (.aload_n 0, 0, 0, 0, []), (.iload_n 3, 0, 0, 0, []), (.iconst 1, 0, 0, 1, []), (.iadd, 0, 0, 0, []), (.iaload, 0, 0, 0, []), (.aload_n 0, 0, 0, 0, []), (.iload_n 3, 0, 0, 0, []), (.iconst 2, 0, 0, 2, []), (.iadd, 0, 0, 0, []), (.iaload, 0, 0, 0, []), (.invokevirtual 122, 84, 3, 0, [7, 9, 4, 339, 340, 129, 341, 342]), (.aload_n 2, 0, 0, 0, []), (.aload_n 0, 0, 0, 0, []), (.iload_n 3, 0, 0, 0, []), (.iconst 1, 0, 0, 1, []), (.iadd, 0, 0, 0, []), (.iaload, 0, 0, 0, []), (.aload_n 0, 0, 0, 0, []), (.iload_n 3, 0, 0, 0, []), (.iconst 2, 0, 0, 2, []), (.iadd, 0, 0, 0, []), (.iaload, 0, 0, 0, []), (.invokevirtual 125, 170, 3, 0, [8, 33, 3, 343, 344, 135, 345, 346]), (.if_icmp .eq 54, 31, 0, 0, []), (.iconst 0, 0, 0, 0, []), (.ireturn, 1, 0, 0, [])]
def zc_9_28 : List zi_I := [(.aload_n 1, 0, 0, 0, []), (.invokevirtual 126, 85, 1, 0, [7, 9, 1, 347, 348, 129, 349, 350]), (.aload_n 2, 0, 0, 0, []), (.invokevirtual 129, 171, 1, 0, [8, 33, 1, 351, 352, 135, 353, 354]), (.if_icmp .eq 41, 31, 0, 0, []), (.iconst 0, 0, 0, 0, []), (.ireturn, 1, 0, 0, [])]
def zc_9_29 : List zi_I := [(.aload_n 1, 0, 0, 0, []), (.invokevirtual 130, 86, 1, 0, [7, 9, 1, 355, 356, 129, 357, 358]), (.aload_n 2, 0, 0, 0, []), (.invokevirtual 133, 172, 1, 0, [8, 33, 1, 359, 360, 135, 361, 362]), (.if_icmp .eq 28, 31, 0, 0, []), (.iconst 0, 0, 0, 0, []), (.ireturn, 1, 0, 0, [])]
def zc_9_30 : List zi_I := [(.aload_n 1, 0, 0, 0, []), (.aload_n 0, 0, 0, 0, []), (.iload_n 3, 0, 0, 0, []), (.iconst 1, 0, 0, 1, []), (.iadd, 0, 0, 0, []), (.iaload, 0, 0, 0, []), (.invokevirtual 134, 87, 2, 0, [7, 9, 2, 363, 364, 129, 365, 366]), (.aload_n 2, 0, 0, 0, []), (.aload_n 0, 0, 0, 0, []), (.iload_n 3, 0, 0, 0, []), (.iconst 1, 0, 0, 1, []), (.iadd, 0, 0, 0, []), (.iaload, 0, 0, 0, []), (.invokevirtual 137, 173, 2, 0, [8, 33, 4, 367, 368, 135, 369, 370]), (.if_icmp .eq 5, 31, 0, 0, []), (.iconst 0, 0, 0, 0, []), (.ireturn, 1, 0, 0, [])]
def zc_9_31 : List zi_I := [(.iinc 3 7, 0, 0, 7, []), (.goto (-1121), 1, 0, 0, [])]
def zc_9_32 : List zi_I := [(.iconst 1, 0, 0, 1, []), (.ireturn, 1, 0, 0, [])]
def zc_9 : zi_D := ((yL_law, code, 4, (some .boolean)), (9, 330, 600000, 7302250), [zc_9_0, zc_9_1, zc_9_2, zc_9_3, zc_9_4, zc_9_5, zc_9_6, zc_9_7, zc_9_8, zc_9_9, zc_9_10, zc_9_11, zc_9_12, zc_9_13, zc_9_14, zc_9_15, zc_9_16, zc_9_17, zc_9_18, zc_9_19, zc_9_20, zc_9_21, zc_9_22, zc_9_23, zc_9_24, zc_9_25, zc_9_26, zc_9_27, zc_9_28, zc_9_29, zc_9_30, zc_9_31, zc_9_32], [0, 18, 164, 217, 250, 273, 306, 349, 382, 457, 480, 543, 576, 610, 633, 666, 689, 702, 725, 758, 792, 835, 858, 901, 945, 1008, 1031, 1054, 1087, 1100, 1113, 1136, 1142])
def zc_10_0 : List zi_I := [(.iconst 0, 0, 0, 0, []), (.istore_n 3, 0, 0, 0, []), (.aload_n 0, 0, 0, 0, []), (.arraylength, 0, 0, 0, []), (.istore 4, 0, 0, 0, []), (.nop, 1, 0, 0, [])]
def zc_10_1 : List zi_I := [(.iload_n 3, 0, 0, 0, []), (.iload 4, 0, 0, 0, []), (.if_icmp .ge 13, 2, 0, 0, []), (.aload_n 0, 0, 0, 0, []), (.iload_n 3, 0, 0, 0, []), (.lload_n 1, 0, 0, 0, []), (.lastore, 0, 0, 0, []), (.iinc 3 1, 0, 0, 1, []), (.goto (-13), 1, 0, 0, [])]
def zc_10_2 : List zi_I := [(.return_, 0, 0, 0, [])]
def zc_10 : zi_D := ((yJ7_fill_d0a16, cJ7_fill_d0a16, 5, none), (0, 0, 0, 0), [zc_10_0, zc_10_1, zc_10_2], [0, 6, 22])
def zc_11_0 : List zi_I := [(.iconst 0, 0, 0, 0, []), (.istore_n 2, 0, 0, 0, []), (.aload_n 0, 0, 0, 0, []), (.arraylength, 0, 0, 0, []), (.istore_n 3, 0, 0, 0, []), (.nop, 1, 0, 0, [])]
def zc_11_1 : List zi_I := [(.iload_n 2, 0, 0, 0, []), (.iload_n 3, 0, 0, 0, []), (.if_icmp .ge 13, 2, 0, 0, []), (.aload_n 0, 0, 0, 0, []), (.iload_n 2, 0, 0, 0, []), (.iload_n 1, 0, 0, 0, []), (.iastore, 0, 0, 0, []), (.iinc 2 1, 0, 0, 1, []), (.goto (-12), 1, 0, 0, [])]
def zc_11_2 : List zi_I := [(.return_, 0, 0, 0, [])]
def zc_11 : zi_D := ((yJ7_fill_53178, cJ7_fill_53178, 4, none), (0, 0, 0, 0), [zc_11_0, zc_11_1, zc_11_2], [0, 5, 20])
def zc_12_0 : List zi_I := [(.iconst 0, 0, 0, 0, []), (.istore_n 2, 0, 0, 0, []), (.nop, 1, 0, 0, [])]
def zc_12_1 : List zi_I := [(.iload_n 2, 0, 0, 0, []), (.bipush 8, 0, 0, 8, []), (.if_icmp .ge 20, 2, 0, 0, []), (.aload_n 0, 0, 0, 0, []), (.getfield 22, 3, 2, 0, [0, 5, 9]), (.iconst 0, 0, 0, 0, []), (.aaload, 0, 0, 0, []), (.iload_n 2, 0, 0, 0, []), (.iconst 1, 0, 0, 1, []), (.iload_n 2, 0, 0, 0, []), (.ishl, 0, 0, 0, []), (.iastore, 0, 0, 0, []), (.iinc 2 1, 0, 0, 1, []), (.goto (-20), 1, 0, 0, [])]
def zc_12_2 : List zi_I := [(.iconst 1, 0, 0, 1, []), (.istore_n 2, 0, 0, 0, []), (.nop, 3, 0, 0, [])]
def zc_12_3 : List zi_I := [(.iload_n 2, 0, 0, 0, []), (.aload_n 1, 0, 0, 0, []), (.getfield 28, 2, 0, 0, [1, 4, 371]), (.if_icmp .gt 19, 4, 0, 0, []), (.aload_n 0, 0, 0, 0, []), (.iload_n 2, 0, 0, 0, []), (.aload_n 1, 0, 0, 0, []), (.iload_n 2, 0, 0, 0, []), (.invokevirtual 34, 16, 2, 0, [1, 4, 2, 372, 373, 52, 374, 375]), (.invokevirtual 38, 13, 3, 0, [0, 5, 9, 376, 377, 75, 378, 379]), (.iinc 2 1, 0, 0, 1, []), (.goto (-21), 3, 0, 0, [])]
def zc_12_4 : List zi_I := [(.return_, 0, 0, 0, [])]
def zc_12 : zi_D := ((yX0_layAll, cX0_layAll, 3, none), (2, 54, 0, 0), [zc_12_0, zc_12_1, zc_12_2, zc_12_3, zc_12_4], [0, 2, 25, 27, 51])
def zc_13_0 : List zi_I := [(.iload_n 1, 0, 0, 0, []), (.iconst 1, 0, 0, 1, []), (.if_icmp .lt 13, 1, 0, 0, []), (.iload_n 1, 0, 0, 0, []), (.bipush 6, 0, 0, 6, []), (.if_icmp .gt 7, 1, 0, 0, []), (.aload_n 2, 0, 0, 0, []), (.ifnonnull 4, 2, 0, 0, []), (.nop, 1, 0, 0, [])]
def zc_13_1 : List zi_I := [(.return_, 0, 0, 0, [])]
def zc_13_2 : List zi_I := [(.aload_n 0, 0, 0, 0, []), (.getfield 25, 4, 2, 0, [0, 5, 10]), (.iload_n 1, 0, 0, 0, []), (.iconst 1, 0, 0, 1, []), (.isub, 0, 0, 0, []), (.aaload, 0, 0, 0, []), (.iconst 0, 0, 0, 0, []), (.invokestatic 42, 11, 2, 0, [4, 380, 381, 382, 383]), (.iconst 0, 0, 0, 0, []), (.istore_n 3, 0, 0, 0, []), (.iconst 0, 0, 0, 0, []), (.istore 4, 0, 0, 0, []), (.iconst 0, 0, 0, 0, []), (.istore 5, 0, 0, 0, []), (.nop, 3, 0, 0, [])]
def zc_13_3 : List zi_I := [(.iload 5, 0, 0, 0, []), (.aload_n 2, 0, 0, 0, []), (.getfield 48, 4, 0, 0, [4, 6, 384]), (.if_icmp .ge 78, 8, 0, 0, []), (.iconst 0, 0, 0, 0, []), (.istore 6, 0, 0, 0, []), (.nop, 4, 0, 0, [])]
def zc_13_4 : List zi_I := [(.iload 6, 0, 0, 0, []), (.aload_n 2, 0, 0, 0, []), (.getfield 53, 2, 0, 0, [4, 6, 385]), (.if_icmp .ge 60, 7, 0, 0, []), (.aload_n 2, 0, 0, 0, []), (.getfield 56, 3, 2, 0, [4, 6, 386]), (.iload 6, 0, 0, 0, []), (.iaload, 0, 0, 0, []), (.istore 7, 0, 0, 0, []), (.iconst 0, 0, 0, 0, []), (.istore 8, 0, 0, 0, []), (.nop, 5, 0, 0, [])]
def zc_13_5 : List zi_I := [(.iload 8, 0, 0, 0, []), (.getstatic 60, 1, 0, 0, [387]), (.iload 7, 0, 0, 0, []), (.iaload, 0, 0, 0, []), (.if_icmp .ge 22, 6, 0, 0, []), (.aload_n 0, 0, 0, 0, []), (.iload_n 1, 0, 0, 0, []), (.iload 4, 0, 0, 0, []), (.iload 7, 0, 0, 0, []), (.iload_n 3, 0, 0, 0, []), (.invokevirtual 63, 14, 5, 0, [0, 5, 7, 388, 389, 75, 390, 391]), (.iinc 4 1, 0, 0, 1, []), (.iinc 8 1, 0, 0, 1, []), (.goto (-27), 5, 0, 0, [])]
def zc_13_6 : List zi_I := [(.iload_n 3, 0, 0, 0, []), (.getstatic 67, 0, 0, 0, [392]), (.iload 7, 0, 0, 0, []), (.iaload, 0, 0, 0, []), (.iadd, 0, 0, 0, []), (.istore_n 3, 0, 0, 0, []), (.iinc 6 1, 0, 0, 1, []), (.goto (-63), 4, 0, 0, [])]
def zc_13_7 : List zi_I := [(.iinc 5 1, 0, 0, 1, []), (.goto (-81), 3, 0, 0, [])]
def zc_13_8 : List zi_I := [(.return_, 0, 0, 0, [])]
def zc_13 : zi_D := ((yX0_layRound, cX0_layRound, 9, none), (1, 26, 0, 0), [zc_13_0, zc_13_1, zc_13_2, zc_13_3, zc_13_4, zc_13_5, zc_13_6, zc_13_7, zc_13_8], [0, 15, 16, 36, 48, 69, 99, 114, 120])
def zc_14_0 : List zi_I := [(.iload 4, 0, 0, 0, []), (.getstatic 67, 0, 0, 0, [392]), (.iload_n 3, 0, 0, 0, []), (.iaload, 0, 0, 0, []), (.iadd, 0, 0, 0, []), (.istore 5, 0, 0, 0, []), (.iload_n 2, 0, 0, 0, []), (.bipush 60, 0, 0, 60, []), (.if_icmp .ge 10, 1, 0, 0, []), (.iload 5, 0, 0, 0, []), (.bipush 60, 0, 0, 60, []), (.if_icmp .le 4, 2, 0, 0, []), (.nop, 1, 0, 0, [])]
def zc_14_1 : List zi_I := [(.return_, 0, 0, 0, [])]
def zc_14_2 : List zi_I := [(.aload_n 0, 0, 0, 0, []), (.getfield 11, 0, 2, 0, [0, 5, 6]), (.iload_n 1, 0, 0, 0, []), (.aaload, 0, 0, 0, []), (.iload_n 2, 0, 0, 0, []), (.iload_n 3, 0, 0, 0, []), (.iastore, 0, 0, 0, []), (.aload_n 0, 0, 0, 0, []), (.getfield 16, 1, 2, 0, [0, 5, 7]), (.iload_n 1, 0, 0, 0, []), (.aaload, 0, 0, 0, []), (.iload_n 2, 0, 0, 0, []), (.iload 5, 0, 0, 0, []), (.iload 4, 0, 0, 0, []), (.if_icmp .le 8, 3, 0, 0, []), (.iload 4, 0, 0, 0, []), (.goto 5, 4, 0, 0, [])]
def zc_14_3 : List zi_I := [(.bipush (-9), 0, 0, -9, []), (.nop, 4, 0, 0, [])]
def zc_14_4 : List zi_I := [(.iastore, 0, 0, 0, []), (.aload_n 0, 0, 0, 0, []), (.getfield 19, 2, 2, 0, [0, 5, 8]), (.iload_n 1, 0, 0, 0, []), (.aaload, 0, 0, 0, []), (.iload_n 2, 0, 0, 0, []), (.iload 5, 0, 0, 0, []), (.iload 4, 0, 0, 0, []), (.if_icmp .le 10, 5, 0, 0, []), (.iload 5, 0, 0, 0, []), (.iconst 1, 0, 0, 1, []), (.isub, 0, 0, 0, []), (.goto 5, 6, 0, 0, [])]
def zc_14_5 : List zi_I := [(.bipush (-9), 0, 0, -9, []), (.nop, 6, 0, 0, [])]
def zc_14_6 : List zi_I := [(.iastore, 0, 0, 0, []), (.aload_n 0, 0, 0, 0, []), (.getfield 22, 3, 2, 0, [0, 5, 9]), (.iload_n 1, 0, 0, 0, []), (.aaload, 0, 0, 0, []), (.iload_n 2, 0, 0, 0, []), (.iconst 0, 0, 0, 0, []), (.iastore, 0, 0, 0, []), (.iload 4, 0, 0, 0, []), (.istore 6, 0, 0, 0, []), (.nop, 7, 0, 0, [])]
def zc_14_7 : List zi_I := [(.iload 6, 0, 0, 0, []), (.iload 5, 0, 0, 0, []), (.if_icmp .ge 46, 8, 0, 0, []), (.aload_n 0, 0, 0, 0, []), (.getfield 25, 4, 2, 0, [0, 5, 10]), (.iload_n 1, 0, 0, 0, []), (.iconst 1, 0, 0, 1, []), (.isub, 0, 0, 0, []), (.aaload, 0, 0, 0, []), (.iload 6, 0, 0, 0, []), (.dup2, 0, 0, 0, []), (.iaload, 0, 0, 0, []), (.iconst 1, 0, 0, 1, []), (.iadd, 0, 0, 0, []), (.iastore, 0, 0, 0, []), (.aload_n 0, 0, 0, 0, []), (.getfield 22, 3, 2, 0, [0, 5, 9]), (.iload_n 1, 0, 0, 0, []), (.aaload, 0, 0, 0, []), (.iload_n 2, 0, 0, 0, []), (.dup2, 0, 0, 0, []), (.iaload, 0, 0, 0, []), (.aload_n 0, 0, 0, 0, []), (.getfield 22, 3, 2, 0, [0, 5, 9]), (.iload_n 1, 0, 0, 0, []), (.iconst 1, 0, 0, 1, []), (.isub, 0, 0, 0, []), (.aaload, 0, 0, 0, []), (.iload 6, 0, 0, 0, []), (.iaload, 0, 0, 0, []), (.ior, 0, 0, 0, []), (.iastore, 0, 0, 0, []), (.iinc 6 1, 0, 0, 1, []), (.goto (-47), 7, 0, 0, [])]
def zc_14_8 : List zi_I := [(.return_, 0, 0, 0, [])]
def zc_14 : zi_D := ((yX0_layLoop, cX0_layLoop, 7, none), (0, 0, 0, 0), [zc_14_0, zc_14_1, zc_14_2, zc_14_3, zc_14_4, zc_14_5, zc_14_6, zc_14_7, zc_14_8], [0, 23, 24, 52, 54, 76, 78, 92, 142])
def zc_15_0 : List zi_I := [(.aload_n 0, 0, 0, 0, []), (.getfield 9, 0, 0, 0, [1, 4, 12]), (.ifCond .eq 19, 1, 0, 0, []), (.iload_n 1, 0, 0, 0, []), (.ifCond .lt 15, 1, 0, 0, []), (.iload_n 1, 0, 0, 0, []), (.aload_n 0, 0, 0, 0, []), (.getfield 19, 2, 0, 0, [1, 4, 14]), (.if_icmp .gt 7, 1, 0, 0, []), (.iconst 1, 0, 0, 1, []), (.goto 4, 2, 0, 0, [])]
def zc_15_1 : List zi_I := [(.iconst 0, 0, 0, 0, []), (.nop, 2, 0, 0, [])]
def zc_15_2 : List zi_I := [(.ireturn, 1, 0, 0, [])]
def zc_15 : zi_D := ((yX1_has, cX1_has, 2, (some .boolean)), (0, 0, 0, 0), [zc_15_0, zc_15_1, zc_15_2], [0, 23, 24])
def zc_16_0 : List zi_I := [(.aload_n 0, 0, 0, 0, []), (.iload_n 1, 0, 0, 0, []), (.invokevirtual 29, 15, 2, 0, [1, 4, 2, 393, 394, 52, 395, 396]), (.ifCond .eq 18, 1, 0, 0, []), (.iload_n 1, 0, 0, 0, []), (.ifCond .le 14, 1, 0, 0, []), (.aload_n 0, 0, 0, 0, []), (.getfield 24, 3, 2, 0, [1, 4, 17]), (.iload_n 1, 0, 0, 0, []), (.iconst 1, 0, 0, 1, []), (.isub, 0, 0, 0, []), (.aaload, 0, 0, 0, []), (.goto 4, 2, 0, 0, [])]
def zc_16_1 : List zi_I := [(.aconst_null, 0, 0, 0, []), (.nop, 2, 0, 0, [])]
def zc_16_2 : List zi_I := [(.areturn, 0, 0, 0, [])]
def zc_16 : zi_D := ((yX1_at, cX1_at, 2, (some (.object "LoopRounds$Round"))), (1, 21, 0, 0), [zc_16_0, zc_16_1, zc_16_2], [0, 23, 24])
def zc_17_0 : List zi_I := [(.aload_n 0, 0, 0, 0, []), (.getfield 19, 2, 0, 0, [1, 4, 14]), (.bipush 6, 0, 0, 6, []), (.if_icmp .ge 15, 1, 0, 0, []), (.aload_n 0, 0, 0, 0, []), (.getfield 24, 3, 2, 0, [1, 4, 17]), (.aload_n 0, 0, 0, 0, []), (.getfield 19, 2, 0, 0, [1, 4, 14]), (.aaload, 0, 0, 0, []), (.goto 4, 2, 0, 0, [])]
def zc_17_1 : List zi_I := [(.aconst_null, 0, 0, 0, []), (.nop, 2, 0, 0, [])]
def zc_17_2 : List zi_I := [(.areturn, 0, 0, 0, [])]
def zc_17 : zi_D := ((yX1_spare, cX1_spare, 1, (some (.object "LoopRounds$Round"))), (0, 0, 0, 0), [zc_17_0, zc_17_1, zc_17_2], [0, 21, 22])
def zc_18_0 : List zi_I := [(.aload_n 0, 0, 0, 0, []), (.invokevirtual 33, 17, 1, 0, [1, 4, 1, 397, 398, 52, 399, 400]), (.astore_n 1, 0, 0, 0, []), (.aload_n 1, 0, 0, 0, []), (.ifnull 18, 1, 0, 0, []), (.aload_n 1, 0, 0, 0, []), (.aload_n 0, 0, 0, 0, []), (.aload_n 0, 0, 0, 0, []), (.getfield 19, 2, 0, 0, [1, 4, 14]), (.invokevirtual 37, 20, 2, 0, [1, 4, 2, 401, 402, 52, 403, 404]), (.invokevirtual 41, 40, 2, 0, [4, 6, 5, 405, 406, 19, 407, 408]), (.ifCond .ne 5, 2, 0, 0, []), (.nop, 1, 0, 0, [])]
def zc_18_1 : List zi_I := [(.iconst 0, 0, 0, 0, []), (.ireturn, 1, 0, 0, [])]
def zc_18_2 : List zi_I := [(.aload_n 0, 0, 0, 0, []), (.dup, 0, 0, 0, []), (.getfield 19, 2, 0, 0, [1, 4, 14]), (.iconst 1, 0, 0, 1, []), (.iadd, 0, 0, 0, []), (.putfield 19, 2, 0, 0, [1, 4, 14]), (.iconst 1, 0, 0, 1, []), (.ireturn, 1, 0, 0, [])]
def zc_18 : zi_D := ((yX1_takesSpare, cX1_takesSpare, 2, (some .boolean)), (2, 47, 0, 0), [zc_18_0, zc_18_1, zc_18_2], [0, 24, 26])
def zc_19_0 : List zi_I := [(.aload_n 0, 0, 0, 0, []), (.aload_n 1, 0, 0, 0, []), (.getfield 9, 0, 0, 0, [1, 4, 12]), (.putfield 9, 0, 1, 0, [1, 4, 12]), (.aload_n 0, 0, 0, 0, []), (.aload_n 1, 0, 0, 0, []), (.getfield 15, 1, 0, 0, [1, 4, 13]), (.putfield 15, 1, 0, 0, [1, 4, 13]), (.aload_n 0, 0, 0, 0, []), (.aload_n 1, 0, 0, 0, []), (.getfield 19, 2, 0, 0, [1, 4, 14]), (.putfield 19, 2, 0, 0, [1, 4, 14]), (.iconst 0, 0, 0, 0, []), (.istore_n 2, 0, 0, 0, []), (.nop, 1, 0, 0, [])]
def zc_19_1 : List zi_I := [(.iload_n 2, 0, 0, 0, []), (.aload_n 0, 0, 0, 0, []), (.getfield 19, 2, 0, 0, [1, 4, 14]), (.if_icmp .ge 24, 2, 0, 0, []), (.aload_n 0, 0, 0, 0, []), (.getfield 24, 3, 2, 0, [1, 4, 17]), (.iload_n 2, 0, 0, 0, []), (.aaload, 0, 0, 0, []), (.aload_n 1, 0, 0, 0, []), (.getfield 24, 3, 2, 0, [1, 4, 17]), (.iload_n 2, 0, 0, 0, []), (.aaload, 0, 0, 0, []), (.invokevirtual 44, 39, 2, 0, [4, 6, 2, 409, 410, 19, 411, 412]), (.iinc 2 1, 0, 0, 1, []), (.goto (-26), 1, 0, 0, [])]
def zc_19_2 : List zi_I := [(.return_, 0, 0, 0, [])]
def zc_19 : zi_D := ((yX1_become, cX1_become, 3, none), (2, 47, 0, 0), [zc_19_0, zc_19_1, zc_19_2], [0, 26, 55])
def zc_20_0 : List zi_I := [(.iload_n 1, 0, 0, 0, []), (.iconst 1, 0, 0, 1, []), (.if_icmp .lt 11, 1, 0, 0, []), (.iload_n 1, 0, 0, 0, []), (.aload_n 0, 0, 0, 0, []), (.getfield 19, 2, 0, 0, [1, 4, 14]), (.if_icmp .le 10, 2, 0, 0, []), (.nop, 1, 0, 0, [])]
def zc_20_1 : List zi_I := [(.aload_n 0, 0, 0, 0, []), (.getfield 15, 1, 0, 0, [1, 4, 13]), (.goto 14, 3, 0, 0, [])]
def zc_20_2 : List zi_I := [(.aload_n 0, 0, 0, 0, []), (.getfield 24, 3, 2, 0, [1, 4, 17]), (.iload_n 1, 0, 0, 0, []), (.iconst 1, 0, 0, 1, []), (.isub, 0, 0, 0, []), (.aaload, 0, 0, 0, []), (.getfield 48, 5, 0, 0, [4, 6, 413]), (.nop, 3, 0, 0, [])]
def zc_20_3 : List zi_I := [(.ireturn, 0, 0, 0, [])]
def zc_20 : zi_D := ((yX1_loopsIn, cX1_loopsIn, 2, (some .int)), (0, 0, 0, 0), [zc_20_0, zc_20_1, zc_20_2, zc_20_3], [0, 13, 20, 31])
def zc_21_0 : List zi_I := [(.iconst 0, 0, 0, 0, []), (.istore_n 1, 0, 0, 0, []), (.iconst 0, 0, 0, 0, []), (.istore_n 2, 0, 0, 0, []), (.nop, 1, 0, 0, [])]
def zc_21_1 : List zi_I := [(.iload_n 2, 0, 0, 0, []), (.aload_n 0, 0, 0, 0, []), (.getfield 19, 2, 0, 0, [1, 4, 14]), (.if_icmp .gt 17, 2, 0, 0, []), (.iload_n 1, 0, 0, 0, []), (.aload_n 0, 0, 0, 0, []), (.iload_n 2, 0, 0, 0, []), (.invokevirtual 37, 20, 2, 0, [1, 4, 2, 401, 402, 52, 403, 404]), (.iadd, 0, 0, 0, []), (.istore_n 1, 0, 0, 0, []), (.iinc 2 1, 0, 0, 1, []), (.goto (-19), 1, 0, 0, [])]
def zc_21_2 : List zi_I := [(.iload_n 1, 0, 0, 0, []), (.ireturn, 0, 0, 0, [])]
def zc_21 : zi_D := ((yX1_loopsInAll, cX1_loopsInAll, 3, (some .int)), (1, 21, 0, 0), [zc_21_0, zc_21_1, zc_21_2], [0, 4, 26])
def zc_22_0 : List zi_I := [(.iconst 1, 0, 0, 1, []), (.istore_n 1, 0, 0, 0, []), (.nop, 1, 0, 0, [])]
def zc_22_1 : List zi_I := [(.iload_n 1, 0, 0, 0, []), (.aload_n 0, 0, 0, 0, []), (.getfield 19, 2, 0, 0, [1, 4, 14]), (.if_icmp .gt 32, 3, 0, 0, []), (.aload_n 0, 0, 0, 0, []), (.getfield 24, 3, 2, 0, [1, 4, 17]), (.iload_n 1, 0, 0, 0, []), (.iconst 1, 0, 0, 1, []), (.isub, 0, 0, 0, []), (.aaload, 0, 0, 0, []), (.aload_n 0, 0, 0, 0, []), (.iload_n 1, 0, 0, 0, []), (.iconst 1, 0, 0, 1, []), (.isub, 0, 0, 0, []), (.invokevirtual 37, 20, 2, 0, [1, 4, 2, 401, 402, 52, 403, 404]), (.invokevirtual 41, 40, 2, 0, [4, 6, 5, 405, 406, 19, 407, 408]), (.ifCond .ne 5, 2, 0, 0, []), (.iload_n 1, 0, 0, 0, []), (.ireturn, 0, 0, 0, [])]
def zc_22_2 : List zi_I := [(.iinc 1 1, 0, 0, 1, []), (.goto (-34), 1, 0, 0, [])]
def zc_22_3 : List zi_I := [(.bipush (-9), 0, 0, -9, []), (.ireturn, 0, 0, 0, [])]
def zc_22 : zi_D := ((yX1_firstNotOut, cX1_firstNotOut, 2, (some .int)), (2, 47, 0, 0), [zc_22_0, zc_22_1, zc_22_2, zc_22_3], [0, 2, 33, 39])
def zc_23_0 : List zi_I := [(.iconst 0, 0, 0, 0, []), (.istore_n 2, 0, 0, 0, []), (.iconst 0, 0, 0, 0, []), (.istore_n 3, 0, 0, 0, []), (.nop, 1, 0, 0, [])]
def zc_23_1 : List zi_I := [(.iload_n 3, 0, 0, 0, []), (.iload_n 1, 0, 0, 0, []), (.if_icmp .ge 29, 2, 0, 0, []), (.iload_n 3, 0, 0, 0, []), (.aload_n 0, 0, 0, 0, []), (.getfield 19, 2, 0, 0, [1, 4, 14]), (.if_icmp .ge 21, 2, 0, 0, []), (.iload_n 2, 0, 0, 0, []), (.aload_n 0, 0, 0, 0, []), (.getfield 24, 3, 2, 0, [1, 4, 17]), (.iload_n 3, 0, 0, 0, []), (.aaload, 0, 0, 0, []), (.invokevirtual 51, 41, 1, 0, [4, 6, 1, 414, 415, 19, 416, 417]), (.iadd, 0, 0, 0, []), (.istore_n 2, 0, 0, 0, []), (.iinc 3 1, 0, 0, 1, []), (.goto (-28), 1, 0, 0, [])]
def zc_23_2 : List zi_I := [(.iload_n 2, 0, 0, 0, []), (.ireturn, 0, 0, 0, [])]
def zc_23 : zi_D := ((yX1_outOf, cX1_outOf, 4, (some .int)), (1, 20, 0, 0), [zc_23_0, zc_23_1, zc_23_2], [0, 4, 35])
def zc_24_0 : List zi_I := [(.aload_n 0, 0, 0, 0, []), (.iload_n 1, 0, 0, 0, []), (.invokevirtual 55, 16, 2, 0, [1, 4, 2, 418, 373, 52, 374, 375]), (.astore_n 2, 0, 0, 0, []), (.aload_n 2, 0, 0, 0, []), (.ifnonnull 7, 1, 0, 0, []), (.iconst 0, 0, 0, 0, []), (.goto 7, 2, 0, 0, [])]
def zc_24_1 : List zi_I := [(.aload_n 2, 0, 0, 0, []), (.invokevirtual 59, 42, 1, 0, [4, 6, 1, 419, 420, 19, 421, 422]), (.nop, 2, 0, 0, [])]
def zc_24_2 : List zi_I := [(.bipush 6, 0, 0, 6, []), (.aload_n 0, 0, 0, 0, []), (.iload_n 1, 0, 0, 0, []), (.invokevirtual 62, 23, 2, 0, [1, 4, 4, 423, 424, 52, 425, 426]), (.imul, 0, 0, 0, []), (.isub, 0, 0, 0, []), (.istore_n 3, 0, 0, 0, []), (.iload_n 3, 0, 0, 0, []), (.ifCond .ne 7, 3, 0, 0, []), (.iconst 0, 0, 0, 0, []), (.goto 12, 5, 0, 0, [])]
def zc_24_3 : List zi_I := [(.iload_n 3, 0, 0, 0, []), (.ifCond .ge 7, 4, 0, 0, []), (.iconst (-1), 0, 0, -1, []), (.goto 4, 5, 0, 0, [])]
def zc_24_4 : List zi_I := [(.iconst 1, 0, 0, 1, []), (.nop, 5, 0, 0, [])]
def zc_24_5 : List zi_I := [(.ireturn, 0, 0, 0, [])]
def zc_24 : zi_D := ((yX1_curlOf, cX1_curlOf, 4, (some .int)), (2, 43, 0, 0), [zc_24_0, zc_24_1, zc_24_2, zc_24_3, zc_24_4, zc_24_5], [0, 14, 18, 36, 44, 45])
def zc_25_0 : List zi_I := [(.iload_n 1, 0, 0, 0, []), (.ifCond .ne 8, 1, 0, 0, []), (.aload_n 0, 0, 0, 0, []), (.invokevirtual 65, 26, 1, 0, [1, 4, 1, 427, 428, 52, 429, 430]), (.ireturn, 1, 0, 0, [])]
def zc_25_1 : List zi_I := [(.iload_n 1, 0, 0, 0, []), (.bipush 10, 0, 0, 10, []), (.if_icmp .le 14, 2, 0, 0, []), (.aload_n 0, 0, 0, 0, []), (.iload_n 1, 0, 0, 0, []), (.bipush 10, 0, 0, 10, []), (.isub, 0, 0, 0, []), (.invokevirtual 69, 27, 2, 0, [1, 4, 3, 431, 432, 52, 433, 434]), (.goto 10, 3, 0, 0, [])]
def zc_25_2 : List zi_I := [(.aload_n 0, 0, 0, 0, []), (.iload_n 1, 0, 0, 0, []), (.iconst 1, 0, 0, 1, []), (.isub, 0, 0, 0, []), (.invokevirtual 72, 28, 2, 0, [1, 4, 3, 435, 436, 52, 437, 438]), (.nop, 3, 0, 0, [])]
def zc_25_3 : List zi_I := [(.ireturn, 1, 0, 0, [])]
def zc_25 : zi_D := ((yX1_doesAct, cX1_doesAct, 2, (some .boolean)), (4, 90, 0, 0), [zc_25_0, zc_25_1, zc_25_2, zc_25_3], [0, 9, 26, 33])
def zc_26_0 : List zi_I := [(.aload_n 0, 0, 0, 0, []), (.getfield 19, 2, 0, 0, [1, 4, 14]), (.iconst 1, 0, 0, 1, []), (.if_icmp .ge 5, 1, 0, 0, []), (.iconst 0, 0, 0, 0, []), (.ireturn, 1, 0, 0, [])]
def zc_26_1 : List zi_I := [(.aload_n 0, 0, 0, 0, []), (.dup, 0, 0, 0, []), (.getfield 19, 2, 0, 0, [1, 4, 14]), (.iconst 1, 0, 0, 1, []), (.isub, 0, 0, 0, []), (.putfield 19, 2, 0, 0, [1, 4, 14]), (.iconst 1, 0, 0, 1, []), (.ireturn, 1, 0, 0, [])]
def zc_26 : zi_D := ((yX1_ravelsLast, cX1_ravelsLast, 1, (some .boolean)), (0, 0, 0, 0), [zc_26_0, zc_26_1], [0, 10])
def zc_27_0 : List zi_I := [(.aload_n 0, 0, 0, 0, []), (.iload_n 1, 0, 0, 0, []), (.invokevirtual 55, 16, 2, 0, [1, 4, 2, 418, 373, 52, 374, 375]), (.astore_n 2, 0, 0, 0, []), (.aload_n 2, 0, 0, 0, []), (.ifnull 12, 1, 0, 0, []), (.aload_n 2, 0, 0, 0, []), (.getfield 75, 1, 0, 0, [4, 6, 439]), (.bipush 9, 0, 0, 9, []), (.if_icmp .lt 5, 2, 0, 0, []), (.nop, 1, 0, 0, [])]
def zc_27_1 : List zi_I := [(.iconst 0, 0, 0, 0, []), (.ireturn, 1, 0, 0, [])]
def zc_27_2 : List zi_I := [(.aload_n 2, 0, 0, 0, []), (.dup, 0, 0, 0, []), (.getfield 75, 1, 0, 0, [4, 6, 439]), (.iconst 1, 0, 0, 1, []), (.iadd, 0, 0, 0, []), (.putfield 75, 1, 0, 0, [4, 6, 439]), (.iconst 1, 0, 0, 1, []), (.ireturn, 1, 0, 0, [])]
def zc_27 : zi_D := ((yX1_spinsMore, cX1_spinsMore, 3, (some .boolean)), (2, 42, 0, 0), [zc_27_0, zc_27_1, zc_27_2], [0, 19, 21])
def zc_28_0 : List zi_I := [(.aload_n 0, 0, 0, 0, []), (.invokevirtual 33, 17, 1, 0, [1, 4, 1, 397, 398, 52, 399, 400]), (.astore_n 2, 0, 0, 0, []), (.aload_n 2, 0, 0, 0, []), (.ifnonnull 5, 1, 0, 0, []), (.iconst 0, 0, 0, 0, []), (.ireturn, 1, 0, 0, [])]
def zc_28_1 : List zi_I := [(.aload_n 2, 0, 0, 0, []), (.iconst 0, 0, 0, 0, []), (.iconst 1, 0, 0, 1, []), (.invokevirtual 78, 36, 3, 0, [4, 6, 3, 440, 441, 19, 442, 443]), (.aload_n 2, 0, 0, 0, []), (.iload_n 1, 0, 0, 0, []), (.invokevirtual 82, 37, 2, 0, [4, 6, 2, 444, 445, 19, 446, 447]), (.ifCond .eq 14, 2, 0, 0, []), (.aload_n 0, 0, 0, 0, []), (.invokevirtual 85, 18, 1, 0, [1, 4, 2, 448, 449, 52, 450, 451]), (.ifCond .eq 7, 2, 0, 0, []), (.iconst 1, 0, 0, 1, []), (.goto 4, 3, 0, 0, [])]
def zc_28_2 : List zi_I := [(.iconst 0, 0, 0, 0, []), (.nop, 3, 0, 0, [])]
def zc_28_3 : List zi_I := [(.ireturn, 1, 0, 0, [])]
def zc_28 : zi_D := ((yX1_putsOnAlone, cX1_putsOnAlone, 3, (some .boolean)), (3, 68, 0, 0), [zc_28_0, zc_28_1, zc_28_2, zc_28_3], [0, 11, 36, 37])
def zc_29_0 : List zi_I := [(.iload_n 1, 0, 0, 0, []), (.aload_n 0, 0, 0, 0, []), (.getfield 18, 2, 0, 0, [2, 9, 26]), (.if_icmp .eq 10, 1, 0, 0, []), (.iload_n 1, 0, 0, 0, []), (.invokestatic 48, 94, 1, 0, [1, 452, 453, 129, 454]), (.ifCond .eq 4, 2, 0, 0, []), (.nop, 1, 0, 0, [])]
def zc_29_1 : List zi_I := [(.return_, 0, 0, 0, [])]
def zc_29_2 : List zi_I := [(.aload_n 0, 0, 0, 0, []), (.iload_n 1, 0, 0, 0, []), (.putfield 18, 2, 0, 0, [2, 9, 26]), (.aload_n 0, 0, 0, 0, []), (.getfield 25, 4, 2, 0, [2, 9, 28]), (.bipush (-9), 0, 0, -9, []), (.invokestatic 52, 11, 2, 0, [4, 455, 381, 382, 383]), (.aload_n 0, 0, 0, 0, []), (.getfield 25, 4, 2, 0, [2, 9, 28]), (.iload_n 1, 0, 0, 0, []), (.iconst 0, 0, 0, 0, []), (.iastore, 0, 0, 0, []), (.aload_n 0, 0, 0, 0, []), (.getfield 34, 7, 2, 0, [2, 9, 31]), (.iconst 0, 0, 0, 0, []), (.iload_n 1, 0, 0, 0, []), (.iastore, 0, 0, 0, []), (.iconst 1, 0, 0, 1, []), (.istore_n 2, 0, 0, 0, []), (.iconst 0, 0, 0, 0, []), (.istore_n 3, 0, 0, 0, []), (.nop, 3, 0, 0, [])]
def zc_29_3 : List zi_I := [(.iload_n 3, 0, 0, 0, []), (.iload_n 2, 0, 0, 0, []), (.if_icmp .ge 27, 4, 0, 0, []), (.iload_n 3, 0, 0, 0, []), (.bipush 60, 0, 0, 60, []), (.if_icmp .ge 21, 4, 0, 0, []), (.aload_n 0, 0, 0, 0, []), (.aload_n 0, 0, 0, 0, []), (.getfield 34, 7, 2, 0, [2, 9, 31]), (.iload_n 3, 0, 0, 0, []), (.iaload, 0, 0, 0, []), (.iload_n 2, 0, 0, 0, []), (.invokevirtual 58, 30, 3, 0, [2, 9, 6, 456, 457, 89, 458, 459]), (.istore_n 2, 0, 0, 0, []), (.iinc 3 1, 0, 0, 1, []), (.goto (-26), 3, 0, 0, [])]
def zc_29_4 : List zi_I := [(.return_, 0, 0, 0, [])]
def zc_29 : zi_D := ((yX2_searchFrom, cX2_searchFrom, 4, none), (2, 48, 0, 0), [zc_29_0, zc_29_1, zc_29_2, zc_29_3, zc_29_4], [0, 15, 16, 48, 77])
def zc_30_0 : List zi_I := [(.iload_n 2, 0, 0, 0, []), (.istore_n 3, 0, 0, 0, []), (.iconst 0, 0, 0, 0, []), (.istore 4, 0, 0, 0, []), (.nop, 1, 0, 0, [])]
def zc_30_1 : List zi_I := [(.iload 4, 0, 0, 0, []), (.bipush 30, 0, 0, 30, []), (.if_icmp .ge 95, 3, 0, 0, []), (.iload_n 1, 0, 0, 0, []), (.aload_n 0, 0, 0, 0, []), (.getfield 9, 0, 2, 0, [2, 9, 24]), (.iload 4, 0, 0, 0, []), (.iaload, 0, 0, 0, []), (.aload_n 0, 0, 0, 0, []), (.getfield 15, 1, 2, 0, [2, 9, 25]), (.iload 4, 0, 0, 0, []), (.iaload, 0, 0, 0, []), (.invokestatic 62, 108, 3, 0, [4, 460, 461, 129, 462]), (.istore 5, 0, 0, 0, []), (.iload 5, 0, 0, 0, []), (.ifCond .le 64, 2, 0, 0, []), (.aload_n 0, 0, 0, 0, []), (.getfield 25, 4, 2, 0, [2, 9, 28]), (.iload 5, 0, 0, 0, []), (.iaload, 0, 0, 0, []), (.bipush (-9), 0, 0, -9, []), (.if_icmp .ne 52, 2, 0, 0, []), (.iload_n 3, 0, 0, 0, []), (.bipush 60, 0, 0, 60, []), (.if_icmp .ge 46, 2, 0, 0, []), (.aload_n 0, 0, 0, 0, []), (.getfield 25, 4, 2, 0, [2, 9, 28]), (.iload 5, 0, 0, 0, []), (.aload_n 0, 0, 0, 0, []), (.getfield 25, 4, 2, 0, [2, 9, 28]), (.iload_n 1, 0, 0, 0, []), (.iaload, 0, 0, 0, []), (.iconst 1, 0, 0, 1, []), (.iadd, 0, 0, 0, []), (.iastore, 0, 0, 0, []), (.aload_n 0, 0, 0, 0, []), (.getfield 28, 5, 2, 0, [2, 9, 29]), (.iload 5, 0, 0, 0, []), (.iload_n 1, 0, 0, 0, []), (.iastore, 0, 0, 0, []), (.aload_n 0, 0, 0, 0, []), (.getfield 31, 6, 2, 0, [2, 9, 30]), (.iload 5, 0, 0, 0, []), (.iload 4, 0, 0, 0, []), (.iastore, 0, 0, 0, []), (.aload_n 0, 0, 0, 0, []), (.getfield 34, 7, 2, 0, [2, 9, 31]), (.iload_n 3, 0, 0, 0, []), (.iload 5, 0, 0, 0, []), (.iastore, 0, 0, 0, []), (.iinc 3 1, 0, 0, 1, []), (.nop, 2, 0, 0, [])]
def zc_30_2 : List zi_I := [(.iinc 4 1, 0, 0, 1, []), (.goto (-96), 1, 0, 0, [])]
def zc_30_3 : List zi_I := [(.iload_n 3, 0, 0, 0, []), (.ireturn, 0, 0, 0, [])]
def zc_30 : zi_D := ((yX2_goOnFrom, cX2_goOnFrom, 6, (some .int)), (1, 23, 0, 0), [zc_30_0, zc_30_1, zc_30_2, zc_30_3], [0, 5, 98, 104])
def zc_31_0 : List zi_I := [(.iload_n 2, 0, 0, 0, []), (.aload_n 0, 0, 0, 0, []), (.getfield 25, 4, 2, 0, [2, 9, 28]), (.iload_n 1, 0, 0, 0, []), (.iaload, 0, 0, 0, []), (.if_icmp .lt 6, 1, 0, 0, []), (.bipush (-9), 0, 0, -9, []), (.ireturn, 0, 0, 0, [])]
def zc_31_1 : List zi_I := [(.iload_n 1, 0, 0, 0, []), (.istore_n 3, 0, 0, 0, []), (.aload_n 0, 0, 0, 0, []), (.getfield 25, 4, 2, 0, [2, 9, 28]), (.iload_n 1, 0, 0, 0, []), (.iaload, 0, 0, 0, []), (.iconst 1, 0, 0, 1, []), (.isub, 0, 0, 0, []), (.istore 4, 0, 0, 0, []), (.nop, 2, 0, 0, [])]
def zc_31_2 : List zi_I := [(.iload 4, 0, 0, 0, []), (.iload_n 2, 0, 0, 0, []), (.if_icmp .le 16, 3, 0, 0, []), (.aload_n 0, 0, 0, 0, []), (.getfield 28, 5, 2, 0, [2, 9, 29]), (.iload_n 3, 0, 0, 0, []), (.iaload, 0, 0, 0, []), (.istore_n 3, 0, 0, 0, []), (.iinc 4 (-1), 0, 0, -1, []), (.goto (-16), 2, 0, 0, [])]
def zc_31_3 : List zi_I := [(.aload_n 0, 0, 0, 0, []), (.getfield 31, 6, 2, 0, [2, 9, 30]), (.iload_n 3, 0, 0, 0, []), (.iaload, 0, 0, 0, []), (.ireturn, 0, 0, 0, [])]
def zc_31 : zi_D := ((yX2_planTo, cX2_planTo, 5, (some .int)), (0, 0, 0, 0), [zc_31_0, zc_31_1, zc_31_2, zc_31_3], [0, 13, 25, 44])
def zc_32_0 : List zi_I := [(.iload_n 1, 0, 0, 0, []), (.aload_n 0, 0, 0, 0, []), (.getfield 22, 3, 0, 0, [2, 9, 27]), (.if_icmp .eq 10, 1, 0, 0, []), (.iload_n 1, 0, 0, 0, []), (.invokestatic 48, 94, 1, 0, [1, 452, 453, 129, 454]), (.ifCond .eq 4, 2, 0, 0, []), (.nop, 1, 0, 0, [])]
def zc_32_1 : List zi_I := [(.return_, 0, 0, 0, [])]
def zc_32_2 : List zi_I := [(.aload_n 0, 0, 0, 0, []), (.iload_n 1, 0, 0, 0, []), (.putfield 22, 3, 0, 0, [2, 9, 27]), (.aload_n 0, 0, 0, 0, []), (.getfield 39, 8, 2, 0, [2, 9, 35]), (.iconst 0, 0, 0, 0, []), (.aaload, 0, 0, 0, []), (.lconst 0, 0, 0, 0, []), (.invokestatic 66, 10, 2, 0, [5, 463, 464, 382, 465]), (.aload_n 0, 0, 0, 0, []), (.getfield 39, 8, 2, 0, [2, 9, 35]), (.iconst 0, 0, 0, 0, []), (.aaload, 0, 0, 0, []), (.iload_n 1, 0, 0, 0, []), (.lconst 1, 0, 0, 0, []), (.lastore, 0, 0, 0, []), (.iconst 1, 0, 0, 1, []), (.istore_n 2, 0, 0, 0, []), (.nop, 3, 0, 0, [])]
def zc_32_3 : List zi_I := [(.iload_n 2, 0, 0, 0, []), (.iconst 5, 0, 0, 5, []), (.if_icmp .gt 54, 6, 0, 0, []), (.aload_n 0, 0, 0, 0, []), (.getfield 39, 8, 2, 0, [2, 9, 35]), (.iload_n 2, 0, 0, 0, []), (.aaload, 0, 0, 0, []), (.lconst 0, 0, 0, 0, []), (.invokestatic 66, 10, 2, 0, [5, 463, 464, 382, 465]), (.iconst 1, 0, 0, 1, []), (.istore_n 3, 0, 0, 0, []), (.nop, 4, 0, 0, [])]
def zc_32_4 : List zi_I := [(.iload_n 3, 0, 0, 0, []), (.bipush 60, 0, 0, 60, []), (.if_icmp .gt 30, 5, 0, 0, []), (.aload_n 0, 0, 0, 0, []), (.aload_n 0, 0, 0, 0, []), (.getfield 39, 8, 2, 0, [2, 9, 35]), (.iload_n 2, 0, 0, 0, []), (.iconst 1, 0, 0, 1, []), (.isub, 0, 0, 0, []), (.aaload, 0, 0, 0, []), (.iload_n 3, 0, 0, 0, []), (.laload, 0, 0, 0, []), (.iload_n 3, 0, 0, 0, []), (.aload_n 0, 0, 0, 0, []), (.getfield 39, 8, 2, 0, [2, 9, 35]), (.iload_n 2, 0, 0, 0, []), (.aaload, 0, 0, 0, []), (.invokevirtual 69, 33, 4, 0, [2, 9, 7, 466, 467, 89, 468, 469]), (.iinc 3 1, 0, 0, 1, []), (.goto (-30), 4, 0, 0, [])]
def zc_32_5 : List zi_I := [(.iinc 2 1, 0, 0, 1, []), (.goto (-53), 3, 0, 0, [])]
def zc_32_6 : List zi_I := [(.return_, 0, 0, 0, [])]
def zc_32 : zi_D := ((yX2_countFrom, cX2_countFrom, 4, none), (2, 49, 0, 0), [zc_32_0, zc_32_1, zc_32_2, zc_32_3, zc_32_4, zc_32_5, zc_32_6], [0, 15, 16, 42, 59, 92, 98])
def zc_33_0 : List zi_I := [(.lload_n 1, 0, 0, 0, []), (.lconst 0, 0, 0, 0, []), (.lcmp, 0, 0, 0, []), (.ifCond .ne 4, 1, 0, 0, []), (.return_, 0, 0, 0, [])]
def zc_33_1 : List zi_I := [(.iconst 5, 0, 0, 5, []), (.istore 5, 0, 0, 0, []), (.nop, 2, 0, 0, [])]
def zc_33_2 : List zi_I := [(.iload 5, 0, 0, 0, []), (.bipush 30, 0, 0, 30, []), (.if_icmp .ge 43, 4, 0, 0, []), (.iload_n 3, 0, 0, 0, []), (.aload_n 0, 0, 0, 0, []), (.getfield 9, 0, 2, 0, [2, 9, 24]), (.iload 5, 0, 0, 0, []), (.iaload, 0, 0, 0, []), (.aload_n 0, 0, 0, 0, []), (.getfield 15, 1, 2, 0, [2, 9, 25]), (.iload 5, 0, 0, 0, []), (.iaload, 0, 0, 0, []), (.invokestatic 62, 108, 3, 0, [4, 460, 461, 129, 462]), (.istore 6, 0, 0, 0, []), (.iload 6, 0, 0, 0, []), (.ifCond .le 12, 3, 0, 0, []), (.aload 4, 0, 0, 0, []), (.iload 6, 0, 0, 0, []), (.dup2, 0, 0, 0, []), (.laload, 0, 0, 0, []), (.lload_n 1, 0, 0, 0, []), (.ladd, 0, 0, 0, []), (.lastore, 0, 0, 0, []), (.nop, 3, 0, 0, [])]
def zc_33_3 : List zi_I := [(.iinc 5 1, 0, 0, 1, []), (.goto (-44), 2, 0, 0, [])]
def zc_33_4 : List zi_I := [(.return_, 0, 0, 0, [])]
def zc_33 : zi_D := ((yX2_addWays, cX2_addWays, 7, none), (1, 23, 0, 0), [zc_33_0, zc_33_1, zc_33_2, zc_33_3, zc_33_4], [0, 7, 10, 51, 57])
def zc_34_0 : List zi_I := [(.aload_n 0, 0, 0, 0, []), (.getfield 9, 0, 0, 0, [3, 3, 39]), (.bipush 8, 0, 0, 8, []), (.if_icmp .lt 5, 1, 0, 0, []), (.iconst 0, 0, 0, 0, []), (.ireturn, 1, 0, 0, [])]
def zc_34_1 : List zi_I := [(.aload_n 0, 0, 0, 0, []), (.getfield 15, 1, 2, 0, [3, 3, 40]), (.aload_n 0, 0, 0, 0, []), (.getfield 9, 0, 0, 0, [3, 3, 39]), (.iload_n 1, 0, 0, 0, []), (.iastore, 0, 0, 0, []), (.aload_n 0, 0, 0, 0, []), (.getfield 19, 2, 2, 0, [3, 3, 41]), (.aload_n 0, 0, 0, 0, []), (.getfield 9, 0, 0, 0, [3, 3, 39]), (.iload_n 2, 0, 0, 0, []), (.iastore, 0, 0, 0, []), (.aload_n 0, 0, 0, 0, []), (.dup, 0, 0, 0, []), (.getfield 9, 0, 0, 0, [3, 3, 39]), (.iconst 1, 0, 0, 1, []), (.iadd, 0, 0, 0, []), (.putfield 9, 0, 0, 0, [3, 3, 39]), (.iconst 1, 0, 0, 1, []), (.ireturn, 1, 0, 0, [])]
def zc_34 : zi_D := ((yX3_add, cX3_add, 3, (some .boolean)), (0, 0, 0, 0), [zc_34_0, zc_34_1], [0, 11])
def zc_35_0 : List zi_I := [(.iconst 0, 0, 0, 0, []), (.istore_n 2, 0, 0, 0, []), (.nop, 1, 0, 0, [])]
def zc_35_1 : List zi_I := [(.iload_n 2, 0, 0, 0, []), (.aload_n 0, 0, 0, 0, []), (.getfield 9, 0, 0, 0, [3, 3, 39]), (.if_icmp .ge 39, 4, 0, 0, []), (.aload_n 1, 0, 0, 0, []), (.aload_n 0, 0, 0, 0, []), (.getfield 15, 1, 2, 0, [3, 3, 40]), (.iload_n 2, 0, 0, 0, []), (.iaload, 0, 0, 0, []), (.invokevirtual 22, 16, 2, 0, [1, 4, 2, 470, 373, 52, 374, 375]), (.astore_n 3, 0, 0, 0, []), (.aload_n 3, 0, 0, 0, []), (.ifnull 16, 2, 0, 0, []), (.aload_n 3, 0, 0, 0, []), (.invokevirtual 28, 42, 1, 0, [4, 6, 1, 471, 420, 19, 421, 422]), (.aload_n 0, 0, 0, 0, []), (.getfield 19, 2, 2, 0, [3, 3, 41]), (.iload_n 2, 0, 0, 0, []), (.iaload, 0, 0, 0, []), (.if_icmp .eq 5, 3, 0, 0, []), (.nop, 2, 0, 0, [])]
def zc_35_2 : List zi_I := [(.iconst 0, 0, 0, 0, []), (.ireturn, 1, 0, 0, [])]
def zc_35_3 : List zi_I := [(.iinc 2 1, 0, 0, 1, []), (.goto (-41), 1, 0, 0, [])]
def zc_35_4 : List zi_I := [(.iconst 1, 0, 0, 1, []), (.ireturn, 1, 0, 0, [])]
def zc_35 : zi_D := ((yX3_areSo, cX3_areSo, 4, (some .boolean)), (2, 42, 0, 0), [zc_35_0, zc_35_1, zc_35_2, zc_35_3, zc_35_4], [0, 2, 38, 40, 46])
def zc_36_0 : List zi_I := [(.aload_n 0, 0, 0, 0, []), (.iload_n 1, 0, 0, 0, []), (.putfield 15, 0, 0, 0, [4, 6, 472]), (.aload_n 0, 0, 0, 0, []), (.iload_n 2, 0, 0, 0, []), (.putfield 19, 1, 0, 0, [4, 6, 473]), (.aload_n 0, 0, 0, 0, []), (.iconst 0, 0, 0, 0, []), (.putfield 22, 2, 0, 0, [4, 6, 474]), (.return_, 0, 0, 0, [])]
def zc_36 : zi_D := ((yX4_begin, cX4_begin, 3, none), (0, 0, 0, 0), [zc_36_0], [0])
def zc_37_0 : List zi_I := [(.aload_n 0, 0, 0, 0, []), (.getfield 22, 2, 0, 0, [4, 6, 474]), (.iconst 5, 0, 0, 5, []), (.if_icmp .ge 12, 1, 0, 0, []), (.iload_n 1, 0, 0, 0, []), (.ifCond .lt 8, 1, 0, 0, []), (.iload_n 1, 0, 0, 0, []), (.iconst 5, 0, 0, 5, []), (.if_icmp .lt 5, 2, 0, 0, []), (.nop, 1, 0, 0, [])]
def zc_37_1 : List zi_I := [(.iconst 0, 0, 0, 0, []), (.ireturn, 1, 0, 0, [])]
def zc_37_2 : List zi_I := [(.aload_n 0, 0, 0, 0, []), (.getfield 9, 3, 2, 0, [4, 6, 43]), (.aload_n 0, 0, 0, 0, []), (.getfield 22, 2, 0, 0, [4, 6, 474]), (.iload_n 1, 0, 0, 0, []), (.iastore, 0, 0, 0, []), (.aload_n 0, 0, 0, 0, []), (.dup, 0, 0, 0, []), (.getfield 22, 2, 0, 0, [4, 6, 474]), (.iconst 1, 0, 0, 1, []), (.iadd, 0, 0, 0, []), (.putfield 22, 2, 0, 0, [4, 6, 474]), (.iconst 1, 0, 0, 1, []), (.ireturn, 1, 0, 0, [])]
def zc_37 : zi_D := ((yX4_addSign, cX4_addSign, 2, (some .boolean)), (0, 0, 0, 0), [zc_37_0, zc_37_1, zc_37_2], [0, 17, 19])
def zc_38_0 : List zi_I := [(.iload_n 1, 0, 0, 0, []), (.ifCond .lt 15, 1, 0, 0, []), (.iload_n 1, 0, 0, 0, []), (.aload_n 0, 0, 0, 0, []), (.getfield 22, 2, 0, 0, [4, 6, 474]), (.if_icmp .ge 7, 1, 0, 0, []), (.iconst 1, 0, 0, 1, []), (.goto 4, 2, 0, 0, [])]
def zc_38_1 : List zi_I := [(.iconst 0, 0, 0, 0, []), (.nop, 2, 0, 0, [])]
def zc_38_2 : List zi_I := [(.ireturn, 1, 0, 0, [])]
def zc_38 : zi_D := ((yX4_hasPlace, cX4_hasPlace, 2, (some .boolean)), (0, 0, 0, 0), [zc_38_0, zc_38_1, zc_38_2], [0, 16, 17])
def zc_39_0 : List zi_I := [(.aload_n 0, 0, 0, 0, []), (.aload_n 1, 0, 0, 0, []), (.getfield 15, 0, 0, 0, [4, 6, 472]), (.putfield 15, 0, 0, 0, [4, 6, 472]), (.aload_n 0, 0, 0, 0, []), (.aload_n 1, 0, 0, 0, []), (.getfield 19, 1, 0, 0, [4, 6, 473]), (.putfield 19, 1, 0, 0, [4, 6, 473]), (.aload_n 0, 0, 0, 0, []), (.aload_n 1, 0, 0, 0, []), (.getfield 22, 2, 0, 0, [4, 6, 474]), (.putfield 22, 2, 0, 0, [4, 6, 474]), (.aload_n 1, 0, 0, 0, []), (.getfield 9, 3, 2, 0, [4, 6, 43]), (.iconst 0, 0, 0, 0, []), (.aload_n 0, 0, 0, 0, []), (.getfield 9, 3, 2, 0, [4, 6, 43]), (.iconst 0, 0, 0, 0, []), (.iconst 5, 0, 0, 5, []), (.invokestatic 25, 9998, 0, 0, [475, 476, 477, 478]), (.aload_n 0, 0, 0, 0, []), (.aload_n 1, 0, 0, 0, []), (.getfield 31, 4, 0, 0, [4, 6, 479]), (.putfield 31, 4, 0, 0, [4, 6, 479]), (.aload_n 0, 0, 0, 0, []), (.aload_n 1, 0, 0, 0, []), (.getfield 34, 5, 0, 0, [4, 6, 480]), (.putfield 34, 5, 0, 0, [4, 6, 480]), (.return_, 0, 0, 0, [])]
def zc_39 : zi_D := ((yX4_become, cX4_become, 2, none), (1, 26, 0, 0), [zc_39_0], [0])
def zc_40_0 : List zi_I := [(.iconst 0, 0, 0, 0, []), (.istore_n 2, 0, 0, 0, []), (.iconst 0, 0, 0, 0, []), (.istore_n 3, 0, 0, 0, []), (.iconst 0, 0, 0, 0, []), (.istore 4, 0, 0, 0, []), (.nop, 1, 0, 0, [])]
def zc_40_1 : List zi_I := [(.iload 4, 0, 0, 0, []), (.aload_n 0, 0, 0, 0, []), (.getfield 22, 2, 0, 0, [4, 6, 474]), (.if_icmp .ge 37, 2, 0, 0, []), (.iload_n 2, 0, 0, 0, []), (.getstatic 37, 0, 0, 0, [481]), (.aload_n 0, 0, 0, 0, []), (.getfield 9, 3, 2, 0, [4, 6, 43]), (.iload 4, 0, 0, 0, []), (.iaload, 0, 0, 0, []), (.iaload, 0, 0, 0, []), (.iadd, 0, 0, 0, []), (.istore_n 2, 0, 0, 0, []), (.iload_n 3, 0, 0, 0, []), (.getstatic 40, 1, 0, 0, [482]), (.aload_n 0, 0, 0, 0, []), (.getfield 9, 3, 2, 0, [4, 6, 43]), (.iload 4, 0, 0, 0, []), (.iaload, 0, 0, 0, []), (.iaload, 0, 0, 0, []), (.iadd, 0, 0, 0, []), (.istore_n 3, 0, 0, 0, []), (.iinc 4 1, 0, 0, 1, []), (.goto (-40), 1, 0, 0, [])]
def zc_40_2 : List zi_I := [(.aload_n 0, 0, 0, 0, []), (.iload_n 1, 0, 0, 0, []), (.iload_n 2, 0, 0, 0, []), (.iload_n 3, 0, 0, 0, []), (.invokestatic 43, 108, 3, 0, [4, 483, 461, 129, 462]), (.putfield 34, 5, 0, 0, [4, 6, 480]), (.aload_n 0, 0, 0, 0, []), (.iload_n 2, 0, 0, 0, []), (.ifCond .le 9, 3, 0, 0, []), (.iload_n 1, 0, 0, 0, []), (.iload_n 2, 0, 0, 0, []), (.idiv, 0, 0, 0, []), (.goto 4, 4, 0, 0, [])]
def zc_40_3 : List zi_I := [(.iconst 0, 0, 0, 0, []), (.nop, 4, 0, 0, [])]
def zc_40_4 : List zi_I := [(.putfield 31, 4, 0, 0, [4, 6, 479]), (.aload_n 0, 0, 0, 0, []), (.getfield 34, 5, 0, 0, [4, 6, 480]), (.ifCond .le 7, 5, 0, 0, []), (.iconst 1, 0, 0, 1, []), (.goto 4, 6, 0, 0, [])]
def zc_40_5 : List zi_I := [(.iconst 0, 0, 0, 0, []), (.nop, 6, 0, 0, [])]
def zc_40_6 : List zi_I := [(.ireturn, 1, 0, 0, [])]
def zc_40 : zi_D := ((yX4_comesOutUpon, cX4_comesOutUpon, 5, (some .boolean)), (1, 23, 0, 0), [zc_40_0, zc_40_1, zc_40_2, zc_40_3, zc_40_4, zc_40_5, zc_40_6], [0, 7, 50, 71, 72, 86, 87])
def zc_41_0 : List zi_I := [(.aload_n 0, 0, 0, 0, []), (.getfield 15, 0, 0, 0, [4, 6, 472]), (.lookupswitch 42 #[(1, 35), (2, 28)], 3, 0, 0, [2, 1])]
def zc_41_1 : List zi_I := [(.iconst 2, 0, 0, 2, []), (.aload_n 0, 0, 0, 0, []), (.getfield 19, 1, 0, 0, [4, 6, 473]), (.imul, 0, 0, 0, []), (.ireturn, 0, 0, 0, [])]
def zc_41_2 : List zi_I := [(.aload_n 0, 0, 0, 0, []), (.getfield 19, 1, 0, 0, [4, 6, 473]), (.iconst 1, 0, 0, 1, []), (.iadd, 0, 0, 0, []), (.ireturn, 0, 0, 0, [])]
def zc_41_3 : List zi_I := [(.aload_n 0, 0, 0, 0, []), (.getfield 19, 1, 0, 0, [4, 6, 473]), (.ireturn, 0, 0, 0, [])]
def zc_41 : zi_D := ((yX4_wide, cX4_wide, 1, (some .int)), (0, 0, 0, 0), [zc_41_0, zc_41_1, zc_41_2, zc_41_3], [0, 32, 39, 46])
def zc_42_0 : List zi_I := [(.aload_n 0, 0, 0, 0, []), (.getfield 34, 5, 0, 0, [4, 6, 480]), (.aload_n 0, 0, 0, 0, []), (.invokevirtual 47, 41, 1, 0, [4, 6, 1, 484, 415, 19, 416, 417]), (.imul, 0, 0, 0, []), (.ireturn, 0, 0, 0, [])]
def zc_42 : zi_D := ((yX4_girth, cX4_girth, 1, (some .int)), (1, 20, 0, 0), [zc_42_0], [0])
def zc_43_0 : List zi_I := [(.aload_n 0, 0, 0, 0, []), (.iconst 1, 0, 0, 1, []), (.putfield 9, 0, 1, 0, [5, 4, 45]), (.aload_n 0, 0, 0, 0, []), (.iload_n 1, 0, 0, 0, []), (.putfield 15, 1, 0, 0, [5, 4, 46]), (.aload_n 0, 0, 0, 0, []), (.iload_n 2, 0, 0, 0, []), (.putfield 19, 2, 0, 0, [5, 4, 47]), (.aload_n 0, 0, 0, 0, []), (.getfield 22, 3, 2, 0, [5, 4, 48]), (.iconst 0, 0, 0, 0, []), (.invokestatic 26, 11, 2, 0, [4, 485, 381, 382, 383]), (.return_, 0, 0, 0, [])]
def zc_43 : zi_D := ((yX5_lay, cX5_lay, 3, none), (1, 23, 0, 0), [zc_43_0], [0])
def zc_44_0 : List zi_I := [(.aload_n 0, 0, 0, 0, []), (.iload_n 1, 0, 0, 0, []), (.iconst 1, 0, 0, 1, []), (.invokevirtual 32, 45, 3, 0, [5, 4, 3, 486, 487, 97, 488, 489]), (.ifCond .eq 7, 1, 0, 0, []), (.iconst 0, 0, 0, 0, []), (.goto 9, 2, 0, 0, [])]
def zc_44_1 : List zi_I := [(.aload_n 0, 0, 0, 0, []), (.getfield 22, 3, 2, 0, [5, 4, 48]), (.iload_n 1, 0, 0, 0, []), (.iaload, 0, 0, 0, []), (.nop, 2, 0, 0, [])]
def zc_44_2 : List zi_I := [(.ireturn, 0, 0, 0, [])]
def zc_44 : zi_D := ((yX5_at, cX5_at, 2, (some .int)), (1, 22, 0, 0), [zc_44_0, zc_44_1, zc_44_2], [0, 13, 19])
def zc_45_0 : List zi_I := [(.iload_n 1, 0, 0, 0, []), (.ifCond .lt 17, 1, 0, 0, []), (.iload_n 2, 0, 0, 0, []), (.ifCond .lt 13, 1, 0, 0, []), (.iload_n 2, 0, 0, 0, []), (.aload_n 0, 0, 0, 0, []), (.getfield 19, 2, 0, 0, [5, 4, 47]), (.iload_n 1, 0, 0, 0, []), (.isub, 0, 0, 0, []), (.if_icmp .le 7, 2, 0, 0, []), (.nop, 1, 0, 0, [])]
def zc_45_1 : List zi_I := [(.iconst 1, 0, 0, 1, []), (.goto 4, 3, 0, 0, [])]
def zc_45_2 : List zi_I := [(.iconst 0, 0, 0, 0, []), (.nop, 3, 0, 0, [])]
def zc_45_3 : List zi_I := [(.ireturn, 1, 0, 0, [])]
def zc_45 : zi_D := ((yX5_lacks, cX5_lacks, 3, (some .boolean)), (0, 0, 0, 0), [zc_45_0, zc_45_1, zc_45_2, zc_45_3], [0, 18, 22, 23])
def zc_46_0 : List zi_I := [(.aload_n 0, 0, 0, 0, []), (.getfield 15, 1, 0, 0, [5, 4, 46]), (.lookupswitch 34 #[(0, 28), (1, 31)], 3, 0, 0, [1, 2])]
def zc_46_1 : List zi_I := [(.iload_n 1, 0, 0, 0, []), (.i2b, 0, 0, 0, []), (.ireturn, 0, 0, 0, [])]
def zc_46_2 : List zi_I := [(.iload_n 1, 0, 0, 0, []), (.i2s, 0, 0, 0, []), (.ireturn, 0, 0, 0, [])]
def zc_46_3 : List zi_I := [(.iload_n 1, 0, 0, 0, []), (.ireturn, 0, 0, 0, [])]
def zc_46 : zi_D := ((yX5_cut, cX5_cut, 2, (some .int)), (0, 0, 0, 0), [zc_46_0, zc_46_1, zc_46_2, zc_46_3], [0, 32, 35, 38])
def zc_47_0 : List zi_I := [(.aload_n 0, 0, 0, 0, []), (.getfield 9, 0, 0, 0, [5, 4, 45]), (.ifCond .ne 5, 1, 0, 0, []), (.iconst 1, 0, 0, 1, []), (.ireturn, 0, 0, 0, [])]
def zc_47_1 : List zi_I := [(.aload_n 0, 0, 0, 0, []), (.getfield 15, 1, 0, 0, [5, 4, 46]), (.iload_n 1, 0, 0, 0, []), (.if_icmp .eq 5, 2, 0, 0, []), (.iconst 2, 0, 0, 2, []), (.ireturn, 0, 0, 0, [])]
def zc_47_2 : List zi_I := [(.iload_n 3, 0, 0, 0, []), (.ifCond .ge 5, 3, 0, 0, []), (.iconst 4, 0, 0, 4, []), (.ireturn, 0, 0, 0, [])]
def zc_47_3 : List zi_I := [(.aload_n 0, 0, 0, 0, []), (.iload_n 2, 0, 0, 0, []), (.iload_n 3, 0, 0, 0, []), (.invokevirtual 32, 45, 3, 0, [5, 4, 3, 486, 487, 97, 488, 489]), (.ifCond .eq 7, 4, 0, 0, []), (.iconst 3, 0, 0, 3, []), (.goto 4, 5, 0, 0, [])]
def zc_47_4 : List zi_I := [(.iconst 0, 0, 0, 0, []), (.nop, 5, 0, 0, [])]
def zc_47_5 : List zi_I := [(.ireturn, 0, 0, 0, [])]
def zc_47 : zi_D := ((yX5_faultOfTaking, cX5_faultOfTaking, 4, (some .int)), (1, 22, 0, 0), [zc_47_0, zc_47_1, zc_47_2, zc_47_3, zc_47_4, zc_47_5], [0, 9, 19, 25, 38, 39])
def zc_48_0 : List zi_I := [(.aload_n 0, 0, 0, 0, []), (.getfield 12, 0, 2, 0, [6, 2, 56]), (.iconst 1, 0, 0, 1, []), (.putfield 22, 0, 1, 0, [1, 4, 490]), (.aload_n 0, 0, 0, 0, []), (.getfield 12, 0, 2, 0, [6, 2, 56]), (.iconst 0, 0, 0, 0, []), (.putfield 26, 2, 0, 0, [1, 4, 491]), (.aload_n 0, 0, 0, 0, []), (.iconst 0, 0, 0, 0, []), (.putfield 18, 1, 0, 0, [6, 2, 57]), (.iconst 0, 0, 0, 0, []), (.istore 4, 0, 0, 0, []), (.nop, 1, 0, 0, [])]
def zc_48_1 : List zi_I := [(.iload 4, 0, 0, 0, []), (.iload_n 3, 0, 0, 0, []), (.if_icmp .ge 27, 3, 0, 0, []), (.aload_n 0, 0, 0, 0, []), (.aload_n 1, 0, 0, 0, []), (.iload_n 2, 0, 0, 0, []), (.iload 4, 0, 0, 0, []), (.iadd, 0, 0, 0, []), (.invokevirtual 29, 44, 2, 0, [5, 4, 2, 492, 493, 97, 494, 495]), (.invokevirtual 35, 49, 2, 0, [6, 2, 2, 496, 497, 68, 498, 499]), (.ifCond .ne 6, 2, 0, 0, []), (.iload 4, 0, 0, 0, []), (.ireturn, 0, 0, 0, [])]
def zc_48_2 : List zi_I := [(.iinc 4 1, 0, 0, 1, []), (.goto (-27), 1, 0, 0, [])]
def zc_48_3 : List zi_I := [(.aload_n 0, 0, 0, 0, []), (.invokevirtual 39, 50, 1, 0, [6, 2, 2, 500, 501, 68, 502, 503]), (.ifCond .eq 8, 4, 0, 0, []), (.bipush (-9), 0, 0, -9, []), (.goto 4, 5, 0, 0, [])]
def zc_48_4 : List zi_I := [(.iload_n 3, 0, 0, 0, []), (.nop, 5, 0, 0, [])]
def zc_48_5 : List zi_I := [(.ireturn, 0, 0, 0, [])]
def zc_48 : zi_D := ((yX6_firstFault, cX6_firstFault, 5, (some .int)), (4, 88, 0, 0), [zc_48_0, zc_48_1, zc_48_2, zc_48_3, zc_48_4, zc_48_5], [0, 24, 48, 54, 66, 67])
def zc_49_0 : List zi_I := [(.aload_n 0, 0, 0, 0, []), (.getfield 18, 1, 0, 0, [6, 2, 57]), (.tableswitch 86 0 4 #[36, 53, 62, 68, 77], 8, 0, 0, [1, 4, 5, 6, 7])]
def zc_49_1 : List zi_I := [(.aload_n 0, 0, 0, 0, []), (.iload_n 1, 0, 0, 0, []), (.bipush 114, 0, 0, 114, []), (.if_icmp .ne 7, 2, 0, 0, []), (.iconst 1, 0, 0, 1, []), (.goto 4, 3, 0, 0, [])]
def zc_49_2 : List zi_I := [(.iconst 0, 0, 0, 0, []), (.nop, 3, 0, 0, [])]
def zc_49_3 : List zi_I := [(.iconst 1, 0, 0, 1, []), (.invokevirtual 43, 51, 3, 0, [6, 2, 3, 504, 505, 68, 506, 507]), (.ireturn, 1, 0, 0, [])]
def zc_49_4 : List zi_I := [(.aload_n 0, 0, 0, 0, []), (.iload_n 1, 0, 0, 0, []), (.bipush 48, 0, 0, 48, []), (.isub, 0, 0, 0, []), (.invokevirtual 47, 52, 2, 0, [6, 2, 2, 508, 509, 68, 510, 511]), (.ireturn, 1, 0, 0, [])]
def zc_49_5 : List zi_I := [(.aload_n 0, 0, 0, 0, []), (.iload_n 1, 0, 0, 0, []), (.invokevirtual 50, 53, 2, 0, [6, 2, 3, 512, 513, 68, 514, 515]), (.ireturn, 1, 0, 0, [])]
def zc_49_6 : List zi_I := [(.aload_n 0, 0, 0, 0, []), (.iload_n 1, 0, 0, 0, []), (.invokestatic 53, 57, 1, 0, [1, 516, 517, 68, 518]), (.invokevirtual 56, 54, 2, 0, [6, 2, 3, 519, 520, 68, 521, 522]), (.ireturn, 1, 0, 0, [])]
def zc_49_7 : List zi_I := [(.aload_n 0, 0, 0, 0, []), (.iload_n 1, 0, 0, 0, []), (.bipush 48, 0, 0, 48, []), (.isub, 0, 0, 0, []), (.invokevirtual 59, 55, 2, 0, [6, 2, 3, 523, 524, 68, 525, 526]), (.ireturn, 1, 0, 0, [])]
def zc_49_8 : List zi_I := [(.aload_n 0, 0, 0, 0, []), (.iload_n 1, 0, 0, 0, []), (.invokevirtual 62, 56, 2, 0, [6, 2, 4, 527, 528, 68, 529, 530]), (.ireturn, 1, 0, 0, [])]
def zc_49 : zi_D := ((yX6_takes, cX6_takes, 2, (some .boolean)), (3, 67, 0, 0), [zc_49_0, zc_49_1, zc_49_2, zc_49_3, zc_49_4, zc_49_5, zc_49_6, zc_49_7, zc_49_8], [0, 40, 51, 52, 57, 66, 72, 81, 90])
def zc_50_0 : List zi_I := [(.aload_n 0, 0, 0, 0, []), (.getfield 12, 0, 2, 0, [6, 2, 56]), (.aload_n 0, 0, 0, 0, []), (.getfield 12, 0, 2, 0, [6, 2, 56]), (.getfield 26, 2, 0, 0, [1, 4, 491]), (.invokevirtual 65, 16, 2, 0, [1, 4, 2, 531, 373, 52, 374, 375]), (.astore_n 1, 0, 0, 0, []), (.aload_n 0, 0, 0, 0, []), (.getfield 18, 1, 0, 0, [6, 2, 57]), (.iconst 5, 0, 0, 5, []), (.if_icmp .ne 18, 1, 0, 0, []), (.aload_n 1, 0, 0, 0, []), (.ifnull 14, 1, 0, 0, []), (.aload_n 1, 0, 0, 0, []), (.getfield 68, 2, 0, 0, [4, 6, 532]), (.ifCond .le 7, 1, 0, 0, []), (.iconst 1, 0, 0, 1, []), (.goto 4, 2, 0, 0, [])]
def zc_50_1 : List zi_I := [(.iconst 0, 0, 0, 0, []), (.nop, 2, 0, 0, [])]
def zc_50_2 : List zi_I := [(.ireturn, 1, 0, 0, [])]
def zc_50 : zi_D := ((yX6_mayEnd, cX6_mayEnd, 2, (some .boolean)), (2, 42, 0, 0), [zc_50_0, zc_50_1, zc_50_2], [0, 38, 39])
def zc_51_0 : List zi_I := [(.iload_n 1, 0, 0, 0, []), (.ifCond .eq 8, 1, 0, 0, []), (.aload_n 0, 0, 0, 0, []), (.iload_n 2, 0, 0, 0, []), (.putfield 18, 1, 0, 0, [6, 2, 57]), (.nop, 1, 0, 0, [])]
def zc_51_1 : List zi_I := [(.iload_n 1, 0, 0, 0, []), (.ireturn, 1, 0, 0, [])]
def zc_51 : zi_D := ((yX6_goesOn, cX6_goesOn, 3, (some .boolean)), (0, 0, 0, 0), [zc_51_0, zc_51_1], [0, 9])
def zc_52_0 : List zi_I := [(.aload_n 0, 0, 0, 0, []), (.getfield 12, 0, 2, 0, [6, 2, 56]), (.iload_n 1, 0, 0, 0, []), (.putfield 73, 1, 0, 0, [1, 4, 533]), (.aload_n 0, 0, 0, 0, []), (.iload_n 1, 0, 0, 0, []), (.iconst 3, 0, 0, 3, []), (.if_icmp .lt 13, 1, 0, 0, []), (.iload_n 1, 0, 0, 0, []), (.bipush 8, 0, 0, 8, []), (.if_icmp .gt 7, 1, 0, 0, []), (.iconst 1, 0, 0, 1, []), (.goto 4, 2, 0, 0, [])]
def zc_52_1 : List zi_I := [(.iconst 0, 0, 0, 0, []), (.nop, 2, 0, 0, [])]
def zc_52_2 : List zi_I := [(.iconst 2, 0, 0, 2, []), (.invokevirtual 43, 51, 3, 0, [6, 2, 3, 504, 505, 68, 506, 507]), (.ireturn, 1, 0, 0, [])]
def zc_52 : zi_D := ((yX6_takesRing, cX6_takesRing, 2, (some .boolean)), (1, 22, 0, 0), [zc_52_0, zc_52_1, zc_52_2], [0, 24, 25])
def zc_53_0 : List zi_I := [(.aload_n 0, 0, 0, 0, []), (.getfield 12, 0, 2, 0, [6, 2, 56]), (.invokevirtual 76, 17, 1, 0, [1, 4, 1, 534, 398, 52, 399, 400]), (.astore_n 2, 0, 0, 0, []), (.iload_n 1, 0, 0, 0, []), (.bipush 59, 0, 0, 59, []), (.if_icmp .ne 7, 1, 0, 0, []), (.aload_n 2, 0, 0, 0, []), (.ifnonnull 5, 2, 0, 0, []), (.nop, 1, 0, 0, [])]
def zc_53_1 : List zi_I := [(.iconst 0, 0, 0, 0, []), (.ireturn, 1, 0, 0, [])]
def zc_53_2 : List zi_I := [(.aload_n 2, 0, 0, 0, []), (.iconst 0, 0, 0, 0, []), (.iconst 1, 0, 0, 1, []), (.invokevirtual 80, 36, 3, 0, [4, 6, 3, 535, 441, 19, 442, 443]), (.aload_n 0, 0, 0, 0, []), (.getfield 12, 0, 2, 0, [6, 2, 56]), (.dup, 0, 0, 0, []), (.getfield 26, 2, 0, 0, [1, 4, 491]), (.iconst 1, 0, 0, 1, []), (.iadd, 0, 0, 0, []), (.putfield 26, 2, 0, 0, [1, 4, 491]), (.aload_n 0, 0, 0, 0, []), (.iconst 1, 0, 0, 1, []), (.iconst 3, 0, 0, 3, []), (.invokevirtual 43, 51, 3, 0, [6, 2, 3, 504, 505, 68, 506, 507]), (.ireturn, 1, 0, 0, [])]
def zc_53 : zi_D := ((yX6_takesRound, cX6_takesRound, 3, (some .boolean)), (1, 22, 0, 0), [zc_53_0, zc_53_1, zc_53_2], [0, 18, 20])
def zc_54_0 : List zi_I := [(.aload_n 0, 0, 0, 0, []), (.getfield 12, 0, 2, 0, [6, 2, 56]), (.aload_n 0, 0, 0, 0, []), (.getfield 12, 0, 2, 0, [6, 2, 56]), (.getfield 26, 2, 0, 0, [1, 4, 491]), (.invokevirtual 65, 16, 2, 0, [1, 4, 2, 531, 373, 52, 374, 375]), (.astore_n 2, 0, 0, 0, []), (.aload_n 2, 0, 0, 0, []), (.ifnull 9, 1, 0, 0, []), (.iload_n 1, 0, 0, 0, []), (.bipush (-9), 0, 0, -9, []), (.if_icmp .ne 5, 2, 0, 0, []), (.nop, 1, 0, 0, [])]
def zc_54_1 : List zi_I := [(.iconst 0, 0, 0, 0, []), (.ireturn, 1, 0, 0, [])]
def zc_54_2 : List zi_I := [(.aload_n 2, 0, 0, 0, []), (.iload_n 1, 0, 0, 0, []), (.putfield 84, 0, 0, 0, [4, 6, 536]), (.aload_n 0, 0, 0, 0, []), (.iconst 1, 0, 0, 1, []), (.iconst 4, 0, 0, 4, []), (.invokevirtual 43, 51, 3, 0, [6, 2, 3, 504, 505, 68, 506, 507]), (.ireturn, 1, 0, 0, [])]
def zc_54 : zi_D := ((yX6_takesKind, cX6_takesKind, 3, (some .boolean)), (2, 42, 0, 0), [zc_54_0, zc_54_1, zc_54_2], [0, 25, 27])
def zc_55_0 : List zi_I := [(.aload_n 0, 0, 0, 0, []), (.getfield 12, 0, 2, 0, [6, 2, 56]), (.aload_n 0, 0, 0, 0, []), (.getfield 12, 0, 2, 0, [6, 2, 56]), (.getfield 26, 2, 0, 0, [1, 4, 491]), (.invokevirtual 65, 16, 2, 0, [1, 4, 2, 531, 373, 52, 374, 375]), (.astore_n 2, 0, 0, 0, []), (.aload_n 2, 0, 0, 0, []), (.ifnull 10, 1, 0, 0, []), (.iload_n 1, 0, 0, 0, []), (.invokestatic 87, 93, 1, 0, [1, 537, 538, 129, 539]), (.ifCond .eq 5, 2, 0, 0, []), (.nop, 1, 0, 0, [])]
def zc_55_1 : List zi_I := [(.iconst 0, 0, 0, 0, []), (.ireturn, 1, 0, 0, [])]
def zc_55_2 : List zi_I := [(.aload_n 2, 0, 0, 0, []), (.iload_n 1, 0, 0, 0, []), (.putfield 90, 1, 0, 0, [4, 6, 540]), (.aload_n 0, 0, 0, 0, []), (.iconst 1, 0, 0, 1, []), (.iconst 5, 0, 0, 5, []), (.invokevirtual 43, 51, 3, 0, [6, 2, 3, 504, 505, 68, 506, 507]), (.ireturn, 1, 0, 0, [])]
def zc_55 : zi_D := ((yX6_takesSpun, cX6_takesSpun, 3, (some .boolean)), (2, 42, 0, 0), [zc_55_0, zc_55_1, zc_55_2], [0, 26, 28])
def zc_56_0 : List zi_I := [(.aload_n 0, 0, 0, 0, []), (.getfield 12, 0, 2, 0, [6, 2, 56]), (.aload_n 0, 0, 0, 0, []), (.getfield 12, 0, 2, 0, [6, 2, 56]), (.getfield 26, 2, 0, 0, [1, 4, 491]), (.invokevirtual 65, 16, 2, 0, [1, 4, 2, 531, 373, 52, 374, 375]), (.astore_n 2, 0, 0, 0, []), (.aload_n 2, 0, 0, 0, []), (.ifnonnull 5, 1, 0, 0, []), (.iconst 0, 0, 0, 0, []), (.ireturn, 1, 0, 0, [])]
def zc_56_1 : List zi_I := [(.iload_n 1, 0, 0, 0, []), (.invokestatic 93, 58, 1, 0, [1, 541, 542, 68, 543]), (.istore_n 3, 0, 0, 0, []), (.iload_n 3, 0, 0, 0, []), (.bipush (-9), 0, 0, -9, []), (.if_icmp .eq 9, 2, 0, 0, []), (.aload_n 2, 0, 0, 0, []), (.iload_n 3, 0, 0, 0, []), (.invokevirtual 96, 37, 2, 0, [4, 6, 2, 544, 445, 19, 446, 447]), (.ireturn, 1, 0, 0, [])]
def zc_56_2 : List zi_I := [(.aload_n 2, 0, 0, 0, []), (.getfield 68, 2, 0, 0, [4, 6, 532]), (.ifCond .le 15, 3, 0, 0, []), (.aload_n 0, 0, 0, 0, []), (.iload_n 1, 0, 0, 0, []), (.invokevirtual 50, 53, 2, 0, [6, 2, 3, 512, 513, 68, 514, 515]), (.ifCond .eq 7, 3, 0, 0, []), (.iconst 1, 0, 0, 1, []), (.goto 4, 4, 0, 0, [])]
def zc_56_3 : List zi_I := [(.iconst 0, 0, 0, 0, []), (.nop, 4, 0, 0, [])]
def zc_56_4 : List zi_I := [(.ireturn, 1, 0, 0, [])]
def zc_56 : zi_D := ((yX6_takesSign, cX6_takesSign, 4, (some .boolean)), (2, 44, 0, 0), [zc_56_0, zc_56_1, zc_56_2, zc_56_3, zc_56_4], [0, 21, 38, 57, 58])
def zc_57_0 : List zi_I := [(.iload_n 0, 0, 0, 0, []), (.lookupswitch 41 #[(98, 37), (112, 35), (116, 39)], 4, 0, 0, [2, 1, 3])]
def zc_57_1 : List zi_I := [(.iconst 0, 0, 0, 0, []), (.ireturn, 0, 0, 0, [])]
def zc_57_2 : List zi_I := [(.iconst 1, 0, 0, 1, []), (.ireturn, 0, 0, 0, [])]
def zc_57_3 : List zi_I := [(.iconst 2, 0, 0, 2, []), (.ireturn, 0, 0, 0, [])]
def zc_57_4 : List zi_I := [(.bipush (-9), 0, 0, -9, []), (.ireturn, 0, 0, 0, [])]
def zc_57 : zi_D := ((yX6_kindOf, cX6_kindOf, 1, (some .int)), (0, 0, 0, 0), [zc_57_0, zc_57_1, zc_57_2, zc_57_3, zc_57_4], [0, 36, 38, 40, 42])
def zc_58_0 : List zi_I := [(.iload_n 0, 0, 0, 0, []), (.lookupswitch 61 #[(99, 57), (100, 55), (105, 53), (107, 59), (115, 51)], 6, 0, 0, [4, 3, 2, 5, 1])]
def zc_58_1 : List zi_I := [(.iconst 0, 0, 0, 0, []), (.ireturn, 0, 0, 0, [])]
def zc_58_2 : List zi_I := [(.iconst 1, 0, 0, 1, []), (.ireturn, 0, 0, 0, [])]
def zc_58_3 : List zi_I := [(.iconst 2, 0, 0, 2, []), (.ireturn, 0, 0, 0, [])]
def zc_58_4 : List zi_I := [(.iconst 3, 0, 0, 3, []), (.ireturn, 0, 0, 0, [])]
def zc_58_5 : List zi_I := [(.iconst 4, 0, 0, 4, []), (.ireturn, 0, 0, 0, [])]
def zc_58_6 : List zi_I := [(.bipush (-9), 0, 0, -9, []), (.ireturn, 0, 0, 0, [])]
def zc_58 : zi_D := ((yX6_signOf, cX6_signOf, 1, (some .int)), (0, 0, 0, 0), [zc_58_0, zc_58_1, zc_58_2, zc_58_3, zc_58_4, zc_58_5, zc_58_6], [0, 52, 54, 56, 58, 60, 62])
def zc_59_0 : List zi_I := [(.iload_n 1, 0, 0, 0, []), (.invokestatic 63, 90, 1, 0, [1, 545, 546, 129, 547]), (.ifCond .eq 9, 1, 0, 0, []), (.aload_n 0, 0, 0, 0, []), (.iconst (-1), 0, 0, -1, []), (.invokevirtual 67, 88, 2, 0, [7, 9, 2, 548, 549, 129, 550, 551]), (.ireturn, 0, 0, 0, [])]
def zc_59_1 : List zi_I := [(.iload_n 2, 0, 0, 0, []), (.invokestatic 71, 91, 1, 0, [1, 552, 553, 129, 554]), (.ifCond .eq 10, 2, 0, 0, []), (.aload_n 0, 0, 0, 0, []), (.bipush (-2), 0, 0, -2, []), (.invokevirtual 67, 88, 2, 0, [7, 9, 2, 548, 549, 129, 550, 551]), (.ireturn, 0, 0, 0, [])]
def zc_59_2 : List zi_I := [(.aload_n 0, 0, 0, 0, []), (.getfield 13, 0, 2, 0, [7, 9, 61]), (.iload_n 1, 0, 0, 0, []), (.aaload, 0, 0, 0, []), (.astore 5, 0, 0, 0, []), (.aload 5, 0, 0, 0, []), (.iload_n 2, 0, 0, 0, []), (.iload_n 3, 0, 0, 0, []), (.iload 4, 0, 0, 0, []), (.invokevirtual 74, 47, 4, 0, [5, 4, 4, 555, 556, 97, 557, 558]), (.istore 6, 0, 0, 0, []), (.iload 6, 0, 0, 0, []), (.ifCond .eq 10, 3, 0, 0, []), (.aload_n 0, 0, 0, 0, []), (.iload 6, 0, 0, 0, []), (.invokevirtual 78, 89, 2, 0, [7, 9, 2, 559, 560, 129, 561, 562]), (.ireturn, 0, 0, 0, [])]
def zc_59_3 : List zi_I := [(.aload_n 0, 0, 0, 0, []), (.iconst 0, 0, 0, 0, []), (.putfield 59, 8, 0, 0, [7, 9, 95]), (.aload_n 0, 0, 0, 0, []), (.getfield 30, 3, 2, 0, [7, 9, 72]), (.aload 5, 0, 0, 0, []), (.iload_n 3, 0, 0, 0, []), (.iload 4, 0, 0, 0, []), (.invokevirtual 81, 48, 4, 0, [6, 2, 5, 563, 564, 68, 565, 566]), (.istore 7, 0, 0, 0, []), (.iload 7, 0, 0, 0, []), (.bipush (-9), 0, 0, -9, []), (.if_icmp .eq 9, 4, 0, 0, []), (.bipush (-100), 0, 0, -100, []), (.iload 7, 0, 0, 0, []), (.isub, 0, 0, 0, []), (.ireturn, 0, 0, 0, [])]
def zc_59_4 : List zi_I := [(.aload_n 0, 0, 0, 0, []), (.getfield 30, 3, 2, 0, [7, 9, 72]), (.getfield 85, 0, 2, 0, [6, 2, 567]), (.invokevirtual 88, 22, 1, 0, [1, 4, 2, 568, 569, 52, 570, 571]), (.istore 8, 0, 0, 0, []), (.iload 8, 0, 0, 0, []), (.bipush (-9), 0, 0, -9, []), (.if_icmp .eq 10, 5, 0, 0, []), (.sipush (-200), 0, 0, -200, []), (.iload 8, 0, 0, 0, []), (.isub, 0, 0, 0, []), (.ireturn, 0, 0, 0, [])]
def zc_59_5 : List zi_I := [(.aload_n 0, 0, 0, 0, []), (.getfield 20, 1, 2, 0, [7, 9, 64]), (.aload_n 0, 0, 0, 0, []), (.getfield 30, 3, 2, 0, [7, 9, 72]), (.getfield 85, 0, 2, 0, [6, 2, 567]), (.invokevirtual 92, 19, 2, 0, [1, 4, 3, 572, 573, 52, 574, 575]), (.aload_n 0, 0, 0, 0, []), (.getfield 44, 5, 2, 0, [7, 9, 86]), (.iconst 0, 0, 0, 0, []), (.putfield 96, 0, 0, 0, [3, 3, 576]), (.aload_n 0, 0, 0, 0, []), (.getfield 37, 4, 2, 0, [7, 9, 79]), (.aload_n 0, 0, 0, 0, []), (.getfield 20, 1, 2, 0, [7, 9, 64]), (.invokevirtual 99, 12, 2, 0, [0, 5, 3, 577, 578, 75, 579, 580]), (.aload_n 0, 0, 0, 0, []), (.getfield 20, 1, 2, 0, [7, 9, 64]), (.getfield 102, 2, 0, 0, [1, 4, 581]), (.ireturn, 0, 0, 0, [])]
def zc_59 : zi_D := ((yX7_piece, cX7_piece, 9, (some .int)), (5, 112, 0, 0), [zc_59_0, zc_59_1, zc_59_2, zc_59_3, zc_59_4, zc_59_5], [0, 13, 27, 58, 90, 116])
def zc_60_0 : List zi_I := [(.aload_n 0, 0, 0, 0, []), (.getfield 20, 1, 2, 0, [7, 9, 64]), (.iload_n 1, 0, 0, 0, []), (.invokevirtual 103, 16, 2, 0, [1, 4, 2, 582, 373, 52, 374, 375]), (.astore_n 3, 0, 0, 0, []), (.aload_n 3, 0, 0, 0, []), (.ifnonnull 5, 1, 0, 0, []), (.iconst (-1), 0, 0, -1, []), (.ireturn, 0, 0, 0, [])]
def zc_60_1 : List zi_I := [(.iload_n 2, 0, 0, 0, []), (.tableswitch 105 0 8 #[52, 57, 62, 67, 72, 77, 82, 87, 96], 11, 0, 0, [2, 3, 4, 5, 6, 7, 8, 9, 10])]
def zc_60_2 : List zi_I := [(.aload_n 3, 0, 0, 0, []), (.getfield 107, 0, 0, 0, [4, 6, 583]), (.ireturn, 0, 0, 0, [])]
def zc_60_3 : List zi_I := [(.aload_n 3, 0, 0, 0, []), (.getfield 112, 1, 0, 0, [4, 6, 584]), (.ireturn, 0, 0, 0, [])]
def zc_60_4 : List zi_I := [(.aload_n 3, 0, 0, 0, []), (.invokevirtual 115, 41, 1, 0, [4, 6, 1, 585, 415, 19, 416, 417]), (.ireturn, 0, 0, 0, [])]
def zc_60_5 : List zi_I := [(.aload_n 3, 0, 0, 0, []), (.getfield 118, 2, 0, 0, [4, 6, 586]), (.ireturn, 0, 0, 0, [])]
def zc_60_6 : List zi_I := [(.aload_n 3, 0, 0, 0, []), (.getfield 121, 5, 0, 0, [4, 6, 587]), (.ireturn, 0, 0, 0, [])]
def zc_60_7 : List zi_I := [(.aload_n 3, 0, 0, 0, []), (.getfield 124, 4, 0, 0, [4, 6, 588]), (.ireturn, 0, 0, 0, [])]
def zc_60_8 : List zi_I := [(.aload_n 3, 0, 0, 0, []), (.invokevirtual 127, 42, 1, 0, [4, 6, 1, 589, 420, 19, 421, 422]), (.ireturn, 0, 0, 0, [])]
def zc_60_9 : List zi_I := [(.aload_n 0, 0, 0, 0, []), (.getfield 20, 1, 2, 0, [7, 9, 64]), (.iload_n 1, 0, 0, 0, []), (.invokevirtual 130, 23, 2, 0, [1, 4, 4, 590, 424, 52, 425, 426]), (.ireturn, 0, 0, 0, [])]
def zc_60_10 : List zi_I := [(.aload_n 0, 0, 0, 0, []), (.getfield 20, 1, 2, 0, [7, 9, 64]), (.iload_n 1, 0, 0, 0, []), (.invokevirtual 133, 24, 2, 0, [1, 4, 4, 591, 592, 52, 593, 594]), (.ireturn, 0, 0, 0, [])]
def zc_60_11 : List zi_I := [(.bipush (-2), 0, 0, -2, []), (.ireturn, 0, 0, 0, [])]
def zc_60 : zi_D := ((yX7_ofRound, cX7_ofRound, 4, (some .int)), (3, 66, 0, 0), [zc_60_0, zc_60_1, zc_60_2, zc_60_3, zc_60_4, zc_60_5, zc_60_6, zc_60_7, zc_60_8, zc_60_9, zc_60_10, zc_60_11], [0, 15, 68, 73, 78, 83, 88, 93, 98, 103, 112, 121])
def zc_61_0 : List zi_I := [(.aload_n 0, 0, 0, 0, []), (.getfield 20, 1, 2, 0, [7, 9, 64]), (.iload_n 1, 0, 0, 0, []), (.invokevirtual 136, 15, 2, 0, [1, 4, 2, 595, 394, 52, 395, 396]), (.ifCond .eq 14, 1, 0, 0, []), (.aload_n 0, 0, 0, 0, []), (.getfield 20, 1, 2, 0, [7, 9, 64]), (.iload_n 1, 0, 0, 0, []), (.invokevirtual 139, 20, 2, 0, [1, 4, 2, 596, 402, 52, 403, 404]), (.goto 4, 2, 0, 0, [])]
def zc_61_1 : List zi_I := [(.iconst (-1), 0, 0, -1, []), (.nop, 2, 0, 0, [])]
def zc_61_2 : List zi_I := [(.ireturn, 0, 0, 0, [])]
def zc_61 : zi_D := ((yX7_loops, cX7_loops, 2, (some .int)), (1, 21, 0, 0), [zc_61_0, zc_61_1, zc_61_2], [0, 22, 23])
def zc_62_0 : List zi_I := [(.aload_n 0, 0, 0, 0, []), (.getfield 20, 1, 2, 0, [7, 9, 64]), (.iload_n 1, 0, 0, 0, []), (.invokevirtual 103, 16, 2, 0, [1, 4, 2, 582, 373, 52, 374, 375]), (.astore_n 3, 0, 0, 0, []), (.aload_n 3, 0, 0, 0, []), (.ifnull 11, 1, 0, 0, []), (.aload_n 3, 0, 0, 0, []), (.iload_n 2, 0, 0, 0, []), (.invokevirtual 142, 38, 2, 0, [4, 6, 2, 597, 598, 19, 599, 600]), (.ifCond .ne 5, 2, 0, 0, []), (.nop, 1, 0, 0, [])]
def zc_62_1 : List zi_I := [(.iconst (-1), 0, 0, -1, []), (.ireturn, 0, 0, 0, [])]
def zc_62_2 : List zi_I := [(.aload_n 3, 0, 0, 0, []), (.getfield 145, 3, 2, 0, [4, 6, 601]), (.iload_n 2, 0, 0, 0, []), (.iaload, 0, 0, 0, []), (.ireturn, 0, 0, 0, [])]
def zc_62 : zi_D := ((yX7_sign, cX7_sign, 4, (some .int)), (2, 42, 0, 0), [zc_62_0, zc_62_1, zc_62_2], [0, 21, 23])
def zc_63_0 : List zi_I := [(.aload_n 0, 0, 0, 0, []), (.getfield 20, 1, 2, 0, [7, 9, 64]), (.iload_n 1, 0, 0, 0, []), (.invokevirtual 103, 16, 2, 0, [1, 4, 2, 582, 373, 52, 374, 375]), (.astore 4, 0, 0, 0, []), (.aload 4, 0, 0, 0, []), (.ifnull 16, 1, 0, 0, []), (.iload_n 2, 0, 0, 0, []), (.ifCond .lt 12, 1, 0, 0, []), (.iload_n 2, 0, 0, 0, []), (.aload 4, 0, 0, 0, []), (.getfield 121, 5, 0, 0, [4, 6, 587]), (.if_icmp .lt 5, 2, 0, 0, []), (.nop, 1, 0, 0, [])]
def zc_63_1 : List zi_I := [(.iconst (-1), 0, 0, -1, []), (.ireturn, 0, 0, 0, [])]
def zc_63_2 : List zi_I := [(.iload_n 3, 0, 0, 0, []), (.tableswitch 108 0 4 #[33, 45, 57, 69, 96], 10, 0, 0, [3, 4, 5, 6, 9])]
def zc_63_3 : List zi_I := [(.aload_n 0, 0, 0, 0, []), (.getfield 37, 4, 2, 0, [7, 9, 79]), (.getfield 149, 0, 2, 0, [0, 5, 602]), (.iload_n 1, 0, 0, 0, []), (.aaload, 0, 0, 0, []), (.iload_n 2, 0, 0, 0, []), (.iaload, 0, 0, 0, []), (.ireturn, 0, 0, 0, [])]
def zc_63_4 : List zi_I := [(.aload_n 0, 0, 0, 0, []), (.getfield 37, 4, 2, 0, [7, 9, 79]), (.getfield 153, 1, 2, 0, [0, 5, 603]), (.iload_n 1, 0, 0, 0, []), (.aaload, 0, 0, 0, []), (.iload_n 2, 0, 0, 0, []), (.iaload, 0, 0, 0, []), (.ireturn, 0, 0, 0, [])]
def zc_63_5 : List zi_I := [(.aload_n 0, 0, 0, 0, []), (.getfield 37, 4, 2, 0, [7, 9, 79]), (.getfield 156, 2, 2, 0, [0, 5, 604]), (.iload_n 1, 0, 0, 0, []), (.aaload, 0, 0, 0, []), (.iload_n 2, 0, 0, 0, []), (.iaload, 0, 0, 0, []), (.ireturn, 0, 0, 0, [])]
def zc_63_6 : List zi_I := [(.iload_n 1, 0, 0, 0, []), (.aload_n 0, 0, 0, 0, []), (.getfield 20, 1, 2, 0, [7, 9, 64]), (.getfield 102, 2, 0, 0, [1, 4, 581]), (.if_icmp .ne 7, 7, 0, 0, []), (.iconst 0, 0, 0, 0, []), (.goto 14, 8, 0, 0, [])]
def zc_63_7 : List zi_I := [(.aload_n 0, 0, 0, 0, []), (.getfield 37, 4, 2, 0, [7, 9, 79]), (.getfield 159, 4, 2, 0, [0, 5, 605]), (.iload_n 1, 0, 0, 0, []), (.aaload, 0, 0, 0, []), (.iload_n 2, 0, 0, 0, []), (.iaload, 0, 0, 0, []), (.nop, 8, 0, 0, [])]
def zc_63_8 : List zi_I := [(.ireturn, 0, 0, 0, [])]
def zc_63_9 : List zi_I := [(.aload_n 0, 0, 0, 0, []), (.getfield 37, 4, 2, 0, [7, 9, 79]), (.getfield 162, 3, 2, 0, [0, 5, 606]), (.iload_n 1, 0, 0, 0, []), (.aaload, 0, 0, 0, []), (.iload_n 2, 0, 0, 0, []), (.iaload, 0, 0, 0, []), (.ireturn, 0, 0, 0, [])]
def zc_63_10 : List zi_I := [(.bipush (-2), 0, 0, -2, []), (.ireturn, 0, 0, 0, [])]
def zc_63 : zi_D := ((yX7_loop, cX7_loop, 5, (some .int)), (2, 42, 0, 0), [zc_63_0, zc_63_1, zc_63_2, zc_63_3, zc_63_4, zc_63_5, zc_63_6, zc_63_7, zc_63_8, zc_63_9, zc_63_10], [0, 28, 30, 64, 76, 88, 100, 115, 126, 127, 139])
def zc_64_0 : List zi_I := [(.aload_n 0, 0, 0, 0, []), (.getfield 20, 1, 2, 0, [7, 9, 64]), (.iload_n 1, 0, 0, 0, []), (.invokevirtual 103, 16, 2, 0, [1, 4, 2, 582, 373, 52, 374, 375]), (.astore_n 3, 0, 0, 0, []), (.aload_n 3, 0, 0, 0, []), (.ifnonnull 5, 1, 0, 0, []), (.iconst (-1), 0, 0, -1, []), (.ireturn, 0, 0, 0, [])]
def zc_64_1 : List zi_I := [(.iload_n 2, 0, 0, 0, []), (.invokestatic 165, 93, 1, 0, [1, 607, 538, 129, 539]), (.ifCond .eq 6, 2, 0, 0, []), (.bipush (-2), 0, 0, -2, []), (.ireturn, 0, 0, 0, [])]
def zc_64_2 : List zi_I := [(.aload_n 3, 0, 0, 0, []), (.getfield 112, 1, 0, 0, [4, 6, 584]), (.istore 4, 0, 0, 0, []), (.aload_n 3, 0, 0, 0, []), (.iload_n 2, 0, 0, 0, []), (.putfield 112, 1, 0, 0, [4, 6, 584]), (.iload 4, 0, 0, 0, []), (.ireturn, 0, 0, 0, [])]
def zc_64 : zi_D := ((yX7_spun, cX7_spun, 5, (some .int)), (2, 42, 0, 0), [zc_64_0, zc_64_1, zc_64_2], [0, 15, 25])
def zc_65_0 : List zi_I := [(.iload_n 1, 0, 0, 0, []), (.invokestatic 168, 92, 1, 0, [1, 608, 609, 129, 610]), (.ifCond .ne 10, 1, 0, 0, []), (.iload_n 2, 0, 0, 0, []), (.invokestatic 165, 93, 1, 0, [1, 607, 538, 129, 539]), (.ifCond .eq 10, 2, 0, 0, []), (.nop, 1, 0, 0, [])]
def zc_65_1 : List zi_I := [(.aload_n 0, 0, 0, 0, []), (.bipush (-2), 0, 0, -2, []), (.invokevirtual 67, 88, 2, 0, [7, 9, 2, 548, 549, 129, 550, 551]), (.ireturn, 0, 0, 0, [])]
def zc_65_2 : List zi_I := [(.aload_n 0, 0, 0, 0, []), (.getfield 20, 1, 2, 0, [7, 9, 64]), (.getfield 171, 0, 0, 0, [1, 4, 611]), (.ifCond .ne 10, 3, 0, 0, []), (.aload_n 0, 0, 0, 0, []), (.bipush (-3), 0, 0, -3, []), (.invokevirtual 67, 88, 2, 0, [7, 9, 2, 548, 549, 129, 550, 551]), (.ireturn, 0, 0, 0, [])]
def zc_65_3 : List zi_I := [(.iload_n 3, 0, 0, 0, []), (.invokestatic 63, 90, 1, 0, [1, 545, 546, 129, 547]), (.ifCond .eq 9, 4, 0, 0, []), (.aload_n 0, 0, 0, 0, []), (.iconst (-1), 0, 0, -1, []), (.invokevirtual 67, 88, 2, 0, [7, 9, 2, 548, 549, 129, 550, 551]), (.ireturn, 0, 0, 0, [])]
def zc_65_4 : List zi_I := [(.iload 4, 0, 0, 0, []), (.invokestatic 71, 91, 1, 0, [1, 552, 553, 129, 554]), (.ifCond .ne 15, 5, 0, 0, []), (.iload 6, 0, 0, 0, []), (.iconst 1, 0, 0, 1, []), (.if_icmp .lt 9, 5, 0, 0, []), (.iload 6, 0, 0, 0, []), (.iconst 5, 0, 0, 5, []), (.if_icmp .le 10, 6, 0, 0, []), (.nop, 5, 0, 0, [])]
def zc_65_5 : List zi_I := [(.aload_n 0, 0, 0, 0, []), (.bipush (-2), 0, 0, -2, []), (.invokevirtual 67, 88, 2, 0, [7, 9, 2, 548, 549, 129, 550, 551]), (.ireturn, 0, 0, 0, [])]
def zc_65_6 : List zi_I := [(.aload_n 0, 0, 0, 0, []), (.getfield 13, 0, 2, 0, [7, 9, 61]), (.iload_n 3, 0, 0, 0, []), (.aaload, 0, 0, 0, []), (.astore 7, 0, 0, 0, []), (.aload 7, 0, 0, 0, []), (.iload 4, 0, 0, 0, []), (.iload 5, 0, 0, 0, []), (.iload 6, 0, 0, 0, []), (.invokevirtual 74, 47, 4, 0, [5, 4, 4, 555, 556, 97, 557, 558]), (.istore 8, 0, 0, 0, []), (.iload 8, 0, 0, 0, []), (.ifCond .eq 10, 7, 0, 0, []), (.aload_n 0, 0, 0, 0, []), (.iload 8, 0, 0, 0, []), (.invokevirtual 78, 89, 2, 0, [7, 9, 2, 559, 560, 129, 561, 562]), (.ireturn, 0, 0, 0, [])]
def zc_65_7 : List zi_I := [(.aload 7, 0, 0, 0, []), (.iload 5, 0, 0, 0, []), (.iload 6, 0, 0, 0, []), (.invokestatic 175, 96, 3, 0, [5, 612, 613, 129, 614]), (.ifCond .ne 10, 8, 0, 0, []), (.aload_n 0, 0, 0, 0, []), (.bipush (-2), 0, 0, -2, []), (.invokevirtual 67, 88, 2, 0, [7, 9, 2, 548, 549, 129, 550, 551]), (.ireturn, 0, 0, 0, [])]
def zc_65_8 : List zi_I := [(.aload_n 0, 0, 0, 0, []), (.getfield 20, 1, 2, 0, [7, 9, 64]), (.invokevirtual 179, 17, 1, 0, [1, 4, 1, 615, 398, 52, 399, 400]), (.astore 9, 0, 0, 0, []), (.aload 9, 0, 0, 0, []), (.ifnonnull 10, 9, 0, 0, []), (.aload_n 0, 0, 0, 0, []), (.bipush (-4), 0, 0, -4, []), (.invokevirtual 67, 88, 2, 0, [7, 9, 2, 548, 549, 129, 550, 551]), (.ireturn, 0, 0, 0, [])]
def zc_65_9 : List zi_I := [(.aload 9, 0, 0, 0, []), (.iload_n 1, 0, 0, 0, []), (.iload_n 2, 0, 0, 0, []), (.invokevirtual 183, 36, 3, 0, [4, 6, 3, 616, 441, 19, 442, 443]), (.iconst 0, 0, 0, 0, []), (.istore 10, 0, 0, 0, []), (.nop, 10, 0, 0, [])]
def zc_65_10 : List zi_I := [(.iload 10, 0, 0, 0, []), (.iload 6, 0, 0, 0, []), (.if_icmp .ge 25, 11, 0, 0, []), (.aload 9, 0, 0, 0, []), (.aload 7, 0, 0, 0, []), (.iload 5, 0, 0, 0, []), (.iload 10, 0, 0, 0, []), (.iadd, 0, 0, 0, []), (.invokevirtual 187, 44, 2, 0, [5, 4, 2, 617, 493, 97, 494, 495]), (.invokevirtual 189, 37, 2, 0, [4, 6, 2, 618, 445, 19, 446, 447]), (.pop, 0, 0, 0, []), (.iinc 10 1, 0, 0, 1, []), (.goto (-26), 10, 0, 0, [])]
def zc_65_11 : List zi_I := [(.aload_n 0, 0, 0, 0, []), (.getfield 20, 1, 2, 0, [7, 9, 64]), (.invokevirtual 192, 18, 1, 0, [1, 4, 2, 619, 449, 52, 450, 451]), (.ifCond .ne 10, 12, 0, 0, []), (.aload_n 0, 0, 0, 0, []), (.bipush (-3), 0, 0, -3, []), (.invokevirtual 67, 88, 2, 0, [7, 9, 2, 548, 549, 129, 550, 551]), (.ireturn, 0, 0, 0, [])]
def zc_65_12 : List zi_I := [(.aload_n 0, 0, 0, 0, []), (.iconst 0, 0, 0, 0, []), (.putfield 59, 8, 0, 0, [7, 9, 95]), (.aload_n 0, 0, 0, 0, []), (.getfield 37, 4, 2, 0, [7, 9, 79]), (.aload_n 0, 0, 0, 0, []), (.getfield 20, 1, 2, 0, [7, 9, 64]), (.getfield 102, 2, 0, 0, [1, 4, 581]), (.aload 9, 0, 0, 0, []), (.invokevirtual 196, 13, 3, 0, [0, 5, 9, 620, 377, 75, 378, 379]), (.aload 9, 0, 0, 0, []), (.getfield 121, 5, 0, 0, [4, 6, 587]), (.ireturn, 0, 0, 0, [])]
def zc_65 : zi_D := ((yX7_puton, cX7_puton, 11, (some .int)), (3, 68, 0, 0), [zc_65_0, zc_65_1, zc_65_2, zc_65_3, zc_65_4, zc_65_5, zc_65_6, zc_65_7, zc_65_8, zc_65_9, zc_65_10, zc_65_11, zc_65_12], [0, 14, 21, 38, 51, 71, 78, 111, 130, 151, 161, 190, 207])
def zc_66_0 : List zi_I := [(.iload_n 1, 0, 0, 0, []), (.ifCond .lt 14, 1, 0, 0, []), (.iload_n 1, 0, 0, 0, []), (.aload_n 0, 0, 0, 0, []), (.getfield 20, 1, 2, 0, [7, 9, 64]), (.getfield 102, 2, 0, 0, [1, 4, 581]), (.if_icmp .le 6, 2, 0, 0, []), (.nop, 1, 0, 0, [])]
def zc_66_1 : List zi_I := [(.bipush (-2), 0, 0, -2, []), (.ireturn, 0, 0, 0, [])]
def zc_66_2 : List zi_I := [(.aload_n 0, 0, 0, 0, []), (.getfield 20, 1, 2, 0, [7, 9, 64]), (.getfield 171, 0, 0, 0, [1, 4, 611]), (.ifCond .ne 6, 3, 0, 0, []), (.bipush (-3), 0, 0, -3, []), (.ireturn, 0, 0, 0, [])]
def zc_66_3 : List zi_I := [(.aload_n 0, 0, 0, 0, []), (.getfield 20, 1, 2, 0, [7, 9, 64]), (.dup, 0, 0, 0, []), (.getfield 102, 2, 0, 0, [1, 4, 581]), (.iload_n 1, 0, 0, 0, []), (.isub, 0, 0, 0, []), (.putfield 102, 2, 0, 0, [1, 4, 581]), (.aload_n 0, 0, 0, 0, []), (.getfield 20, 1, 2, 0, [7, 9, 64]), (.getfield 102, 2, 0, 0, [1, 4, 581]), (.ireturn, 0, 0, 0, [])]
def zc_66 : zi_D := ((yX7_ravel, cX7_ravel, 2, (some .int)), (0, 0, 0, 0), [zc_66_0, zc_66_1, zc_66_2, zc_66_3], [0, 15, 18, 31])
def zc_67_0 : List zi_I := [(.iload_n 1, 0, 0, 0, []), (.invokestatic 63, 90, 1, 0, [1, 545, 546, 129, 547]), (.ifCond .eq 9, 1, 0, 0, []), (.aload_n 0, 0, 0, 0, []), (.iconst (-1), 0, 0, -1, []), (.invokevirtual 67, 88, 2, 0, [7, 9, 2, 548, 549, 129, 550, 551]), (.ireturn, 0, 0, 0, [])]
def zc_67_1 : List zi_I := [(.iload_n 2, 0, 0, 0, []), (.invokestatic 71, 91, 1, 0, [1, 552, 553, 129, 554]), (.ifCond .ne 23, 2, 0, 0, []), (.iload 4, 0, 0, 0, []), (.ifCond .lt 18, 2, 0, 0, []), (.iload 4, 0, 0, 0, []), (.bipush 20, 0, 0, 20, []), (.if_icmp .gt 11, 2, 0, 0, []), (.iload 5, 0, 0, 0, []), (.invokestatic 200, 95, 1, 0, [1, 621, 622, 129, 623]), (.ifCond .eq 10, 3, 0, 0, []), (.nop, 2, 0, 0, [])]
def zc_67_2 : List zi_I := [(.aload_n 0, 0, 0, 0, []), (.bipush (-2), 0, 0, -2, []), (.invokevirtual 67, 88, 2, 0, [7, 9, 2, 548, 549, 129, 550, 551]), (.ireturn, 0, 0, 0, [])]
def zc_67_3 : List zi_I := [(.aload_n 0, 0, 0, 0, []), (.getfield 13, 0, 2, 0, [7, 9, 61]), (.iload_n 1, 0, 0, 0, []), (.aaload, 0, 0, 0, []), (.astore 6, 0, 0, 0, []), (.aload 6, 0, 0, 0, []), (.iload_n 2, 0, 0, 0, []), (.iload_n 3, 0, 0, 0, []), (.iload 4, 0, 0, 0, []), (.invokevirtual 74, 47, 4, 0, [5, 4, 4, 555, 556, 97, 557, 558]), (.istore 7, 0, 0, 0, []), (.iload 7, 0, 0, 0, []), (.ifCond .eq 10, 4, 0, 0, []), (.aload_n 0, 0, 0, 0, []), (.iload 7, 0, 0, 0, []), (.invokevirtual 78, 89, 2, 0, [7, 9, 2, 559, 560, 129, 561, 562]), (.ireturn, 0, 0, 0, [])]
def zc_67_4 : List zi_I := [(.aload_n 0, 0, 0, 0, []), (.getfield 20, 1, 2, 0, [7, 9, 64]), (.getfield 171, 0, 0, 0, [1, 4, 611]), (.ifCond .ne 10, 5, 0, 0, []), (.aload_n 0, 0, 0, 0, []), (.bipush (-3), 0, 0, -3, []), (.invokevirtual 67, 88, 2, 0, [7, 9, 2, 548, 549, 129, 550, 551]), (.ireturn, 0, 0, 0, [])]
def zc_67_5 : List zi_I := [(.aload 6, 0, 0, 0, []), (.iload_n 3, 0, 0, 0, []), (.iload 4, 0, 0, 0, []), (.invokestatic 203, 97, 3, 0, [5, 624, 625, 129, 626]), (.ifCond .ne 10, 6, 0, 0, []), (.aload_n 0, 0, 0, 0, []), (.bipush (-2), 0, 0, -2, []), (.invokevirtual 67, 88, 2, 0, [7, 9, 2, 548, 549, 129, 550, 551]), (.ireturn, 0, 0, 0, [])]
def zc_67_6 : List zi_I := [(.aload_n 0, 0, 0, 0, []), (.iconst 0, 0, 0, 0, []), (.putfield 59, 8, 0, 0, [7, 9, 95]), (.aload_n 0, 0, 0, 0, []), (.aload 6, 0, 0, 0, []), (.iload_n 3, 0, 0, 0, []), (.iload 4, 0, 0, 0, []), (.invokevirtual 206, 98, 4, 0, [7, 9, 5, 627, 628, 129, 629, 630]), (.istore 8, 0, 0, 0, []), (.iload 5, 0, 0, 0, []), (.iconst 1, 0, 0, 1, []), (.if_icmp .ne 6, 7, 0, 0, []), (.iload 8, 0, 0, 0, []), (.ireturn, 0, 0, 0, [])]
def zc_67_7 : List zi_I := [(.iload 8, 0, 0, 0, []), (.bipush (-9), 0, 0, -9, []), (.if_icmp .ne 12, 8, 0, 0, []), (.aload_n 0, 0, 0, 0, []), (.iload 5, 0, 0, 0, []), (.invokevirtual 209, 99, 2, 0, [7, 9, 3, 631, 632, 129, 633, 634]), (.goto 8, 9, 0, 0, [])]
def zc_67_8 : List zi_I := [(.bipush (-100), 0, 0, -100, []), (.iload 8, 0, 0, 0, []), (.isub, 0, 0, 0, []), (.nop, 9, 0, 0, [])]
def zc_67_9 : List zi_I := [(.ireturn, 0, 0, 0, [])]
def zc_67 : zi_D := ((yX7_day, cX7_day, 9, (some .int)), (6, 135, 0, 0), [zc_67_0, zc_67_1, zc_67_2, zc_67_3, zc_67_4, zc_67_5, zc_67_6, zc_67_7, zc_67_8, zc_67_9], [0, 13, 40, 47, 78, 95, 113, 138, 154, 159])
def zc_68_0 : List zi_I := [(.iload_n 1, 0, 0, 0, []), (.invokestatic 212, 94, 1, 0, [1, 635, 453, 129, 454]), (.ifCond .ne 14, 1, 0, 0, []), (.iload_n 2, 0, 0, 0, []), (.iconst (-1), 0, 0, -1, []), (.if_icmp .lt 9, 1, 0, 0, []), (.iload_n 2, 0, 0, 0, []), (.bipush 10, 0, 0, 10, []), (.if_icmp .lt 6, 2, 0, 0, []), (.nop, 1, 0, 0, [])]
def zc_68_1 : List zi_I := [(.bipush (-2), 0, 0, -2, []), (.ireturn, 0, 0, 0, [])]
def zc_68_2 : List zi_I := [(.aload_n 0, 0, 0, 0, []), (.getfield 20, 1, 2, 0, [7, 9, 64]), (.getfield 171, 0, 0, 0, [1, 4, 611]), (.ifCond .ne 6, 3, 0, 0, []), (.bipush (-3), 0, 0, -3, []), (.ireturn, 0, 0, 0, [])]
def zc_68_3 : List zi_I := [(.aload_n 0, 0, 0, 0, []), (.getfield 51, 6, 2, 0, [7, 9, 93]), (.aload_n 0, 0, 0, 0, []), (.getfield 20, 1, 2, 0, [7, 9, 64]), (.aload_n 0, 0, 0, 0, []), (.getfield 20, 1, 2, 0, [7, 9, 64]), (.getfield 102, 2, 0, 0, [1, 4, 581]), (.invokevirtual 139, 20, 2, 0, [1, 4, 2, 596, 402, 52, 403, 404]), (.invokevirtual 215, 29, 2, 0, [2, 9, 4, 636, 637, 89, 638, 639]), (.iload_n 2, 0, 0, 0, []), (.iconst (-1), 0, 0, -1, []), (.if_icmp .ne 15, 4, 0, 0, []), (.aload_n 0, 0, 0, 0, []), (.getfield 51, 6, 2, 0, [7, 9, 93]), (.getfield 219, 4, 2, 0, [2, 9, 640]), (.iload_n 1, 0, 0, 0, []), (.iaload, 0, 0, 0, []), (.goto 12, 5, 0, 0, [])]
def zc_68_4 : List zi_I := [(.aload_n 0, 0, 0, 0, []), (.getfield 51, 6, 2, 0, [7, 9, 93]), (.iload_n 1, 0, 0, 0, []), (.iload_n 2, 0, 0, 0, []), (.invokevirtual 222, 31, 3, 0, [2, 9, 5, 641, 642, 89, 643, 644]), (.nop, 5, 0, 0, [])]
def zc_68_5 : List zi_I := [(.ireturn, 0, 0, 0, [])]
def zc_68 : zi_D := ((yX7_fewest, cX7_fewest, 3, (some .int)), (3, 71, 0, 0), [zc_68_0, zc_68_1, zc_68_2, zc_68_3, zc_68_4, zc_68_5], [0, 18, 21, 34, 72, 81])
def zc_69_0 : List zi_I := [(.iload_n 1, 0, 0, 0, []), (.ifCond .lt 25, 1, 0, 0, []), (.iload_n 1, 0, 0, 0, []), (.iconst 5, 0, 0, 5, []), (.if_icmp .gt 20, 1, 0, 0, []), (.iload_n 2, 0, 0, 0, []), (.invokestatic 212, 94, 1, 0, [1, 635, 453, 129, 454]), (.ifCond .ne 13, 1, 0, 0, []), (.aload_n 0, 0, 0, 0, []), (.getfield 20, 1, 2, 0, [7, 9, 64]), (.getfield 171, 0, 0, 0, [1, 4, 611]), (.ifCond .ne 7, 2, 0, 0, []), (.nop, 1, 0, 0, [])]
def zc_69_1 : List zi_I := [(.ldc2_w 226, 0, 0, 0, [645]), (.lreturn, 0, 0, 0, [])]
def zc_69_2 : List zi_I := [(.aload_n 0, 0, 0, 0, []), (.getfield 51, 6, 2, 0, [7, 9, 93]), (.aload_n 0, 0, 0, 0, []), (.getfield 20, 1, 2, 0, [7, 9, 64]), (.aload_n 0, 0, 0, 0, []), (.getfield 20, 1, 2, 0, [7, 9, 64]), (.getfield 102, 2, 0, 0, [1, 4, 581]), (.invokevirtual 139, 20, 2, 0, [1, 4, 2, 596, 402, 52, 403, 404]), (.invokevirtual 228, 32, 2, 0, [2, 9, 4, 646, 647, 89, 648, 649]), (.aload_n 0, 0, 0, 0, []), (.getfield 51, 6, 2, 0, [7, 9, 93]), (.getfield 231, 8, 2, 0, [2, 9, 650]), (.iload_n 1, 0, 0, 0, []), (.aaload, 0, 0, 0, []), (.iload_n 2, 0, 0, 0, []), (.laload, 0, 0, 0, []), (.lreturn, 0, 0, 0, [])]
def zc_69 : zi_D := ((yX7_ways, cX7_ways, 3, (some .long)), (3, 72, 0, 0), [zc_69_0, zc_69_1, zc_69_2], [0, 26, 30])
def zc_70_0 : List zi_I := [(.aload_n 0, 0, 0, 0, []), (.getfield 20, 1, 2, 0, [7, 9, 64]), (.iload_n 1, 0, 0, 0, []), (.invokevirtual 136, 15, 2, 0, [1, 4, 2, 595, 394, 52, 395, 396]), (.ifCond .ne 5, 1, 0, 0, []), (.iconst (-1), 0, 0, -1, []), (.ireturn, 0, 0, 0, [])]
def zc_70_1 : List zi_I := [(.aload_n 0, 0, 0, 0, []), (.getfield 20, 1, 2, 0, [7, 9, 64]), (.iload_n 1, 0, 0, 0, []), (.invokevirtual 139, 20, 2, 0, [1, 4, 2, 596, 402, 52, 403, 404]), (.istore_n 2, 0, 0, 0, []), (.iload_n 1, 0, 0, 0, []), (.aload_n 0, 0, 0, 0, []), (.getfield 20, 1, 2, 0, [7, 9, 64]), (.getfield 102, 2, 0, 0, [1, 4, 581]), (.if_icmp .ne 5, 2, 0, 0, []), (.iload_n 2, 0, 0, 0, []), (.ireturn, 0, 0, 0, [])]
def zc_70_2 : List zi_I := [(.iconst 0, 0, 0, 0, []), (.istore_n 3, 0, 0, 0, []), (.iconst 0, 0, 0, 0, []), (.istore 4, 0, 0, 0, []), (.nop, 3, 0, 0, [])]
def zc_70_3 : List zi_I := [(.iload 4, 0, 0, 0, []), (.iload_n 2, 0, 0, 0, []), (.if_icmp .ge 27, 5, 0, 0, []), (.aload_n 0, 0, 0, 0, []), (.getfield 37, 4, 2, 0, [7, 9, 79]), (.getfield 159, 4, 2, 0, [0, 5, 605]), (.iload_n 1, 0, 0, 0, []), (.aaload, 0, 0, 0, []), (.iload 4, 0, 0, 0, []), (.iaload, 0, 0, 0, []), (.ifCond .ne 6, 4, 0, 0, []), (.iinc 3 1, 0, 0, 1, []), (.nop, 4, 0, 0, [])]
def zc_70_4 : List zi_I := [(.iinc 4 1, 0, 0, 1, []), (.goto (-27), 3, 0, 0, [])]
def zc_70_5 : List zi_I := [(.iload_n 3, 0, 0, 0, []), (.ireturn, 0, 0, 0, [])]
def zc_70 : zi_D := ((yX7_bare, cX7_bare, 5, (some .int)), (1, 21, 0, 0), [zc_70_0, zc_70_1, zc_70_2, zc_70_3, zc_70_4, zc_70_5], [0, 13, 35, 40, 64, 70])
def zc_71_0 : List zi_I := [(.aload_n 0, 0, 0, 0, []), (.getfield 20, 1, 2, 0, [7, 9, 64]), (.iload_n 1, 0, 0, 0, []), (.invokevirtual 103, 16, 2, 0, [1, 4, 2, 582, 373, 52, 374, 375]), (.ifnonnull 5, 1, 0, 0, []), (.iconst (-1), 0, 0, -1, []), (.ireturn, 0, 0, 0, [])]
def zc_71_1 : List zi_I := [(.iload_n 2, 0, 0, 0, []), (.ifCond .lt 10, 2, 0, 0, []), (.iload_n 2, 0, 0, 0, []), (.sipush 1080, 0, 0, 1080, []), (.if_icmp .le 6, 3, 0, 0, []), (.nop, 2, 0, 0, [])]
def zc_71_2 : List zi_I := [(.bipush (-2), 0, 0, -2, []), (.ireturn, 0, 0, 0, [])]
def zc_71_3 : List zi_I := [(.aload_n 0, 0, 0, 0, []), (.getfield 44, 5, 2, 0, [7, 9, 86]), (.getfield 96, 0, 0, 0, [3, 3, 576]), (.istore_n 3, 0, 0, 0, []), (.aload_n 0, 0, 0, 0, []), (.getfield 44, 5, 2, 0, [7, 9, 86]), (.iload_n 1, 0, 0, 0, []), (.iload_n 2, 0, 0, 0, []), (.invokevirtual 235, 34, 3, 0, [3, 3, 3, 651, 652, 82, 653, 654]), (.ifCond .eq 7, 4, 0, 0, []), (.iload_n 3, 0, 0, 0, []), (.goto 5, 5, 0, 0, [])]
def zc_71_4 : List zi_I := [(.bipush (-4), 0, 0, -4, []), (.nop, 5, 0, 0, [])]
def zc_71_5 : List zi_I := [(.ireturn, 0, 0, 0, [])]
def zc_71 : zi_D := ((yX7_reading, cX7_reading, 4, (some .int)), (2, 42, 0, 0), [zc_71_0, zc_71_1, zc_71_2, zc_71_3, zc_71_4, zc_71_5], [0, 13, 24, 27, 51, 53])
def zc_72_0 : List zi_I := [(.iload_n 1, 0, 0, 0, []), (.ifCond .lt 14, 1, 0, 0, []), (.iload_n 1, 0, 0, 0, []), (.aload_n 0, 0, 0, 0, []), (.getfield 44, 5, 2, 0, [7, 9, 86]), (.getfield 96, 0, 0, 0, [3, 3, 576]), (.if_icmp .le 6, 2, 0, 0, []), (.nop, 1, 0, 0, [])]
def zc_72_1 : List zi_I := [(.bipush (-2), 0, 0, -2, []), (.ireturn, 0, 0, 0, [])]
def zc_72_2 : List zi_I := [(.aload_n 0, 0, 0, 0, []), (.getfield 44, 5, 2, 0, [7, 9, 86]), (.dup, 0, 0, 0, []), (.getfield 96, 0, 0, 0, [3, 3, 576]), (.iload_n 1, 0, 0, 0, []), (.isub, 0, 0, 0, []), (.putfield 96, 0, 0, 0, [3, 3, 576]), (.aload_n 0, 0, 0, 0, []), (.getfield 44, 5, 2, 0, [7, 9, 86]), (.getfield 96, 0, 0, 0, [3, 3, 576]), (.ireturn, 0, 0, 0, [])]
def zc_72 : zi_D := ((yX7_back, cX7_back, 2, (some .int)), (0, 0, 0, 0), [zc_72_0, zc_72_1, zc_72_2], [0, 15, 18])
def zc_73_0 : List zi_I := [(.aload_n 0, 0, 0, 0, []), (.getfield 20, 1, 2, 0, [7, 9, 64]), (.getfield 171, 0, 0, 0, [1, 4, 611]), (.ifCond .ne 6, 1, 0, 0, []), (.bipush (-3), 0, 0, -3, []), (.ireturn, 0, 0, 0, [])]
def zc_73_1 : List zi_I := [(.aload_n 0, 0, 0, 0, []), (.getfield 24, 2, 2, 0, [7, 9, 65]), (.aload_n 0, 0, 0, 0, []), (.getfield 20, 1, 2, 0, [7, 9, 64]), (.invokevirtual 92, 19, 2, 0, [1, 4, 3, 572, 573, 52, 574, 575]), (.iconst 0, 0, 0, 0, []), (.istore_n 1, 0, 0, 0, []), (.iconst 3, 0, 0, 3, []), (.istore_n 2, 0, 0, 0, []), (.nop, 2, 0, 0, [])]
def zc_73_2 : List zi_I := [(.iload_n 2, 0, 0, 0, []), (.bipush 8, 0, 0, 8, []), (.if_icmp .gt 25, 3, 0, 0, []), (.aload_n 0, 0, 0, 0, []), (.getfield 24, 2, 2, 0, [7, 9, 65]), (.iload_n 2, 0, 0, 0, []), (.putfield 239, 1, 0, 0, [1, 4, 655]), (.iload_n 1, 0, 0, 0, []), (.aload_n 0, 0, 0, 0, []), (.iload_n 2, 0, 0, 0, []), (.invokevirtual 242, 100, 2, 0, [7, 9, 2, 656, 657, 129, 658, 659]), (.ior, 0, 0, 0, []), (.istore_n 1, 0, 0, 0, []), (.iinc 2 1, 0, 0, 1, []), (.goto (-25), 2, 0, 0, [])]
def zc_73_3 : List zi_I := [(.iload_n 1, 0, 0, 0, []), (.ireturn, 0, 0, 0, [])]
def zc_73 : zi_D := ((yX7_rings, cX7_rings, 3, (some .int)), (4, 89, 0, 0), [zc_73_0, zc_73_1, zc_73_2, zc_73_3], [0, 13, 28, 56])
def zc_74_0 : List zi_I := [(.aload_n 0, 0, 0, 0, []), (.getfield 24, 2, 2, 0, [7, 9, 65]), (.aload_n 0, 0, 0, 0, []), (.getfield 20, 1, 2, 0, [7, 9, 64]), (.invokevirtual 92, 19, 2, 0, [1, 4, 3, 572, 573, 52, 574, 575]), (.aload_n 0, 0, 0, 0, []), (.getfield 24, 2, 2, 0, [7, 9, 65]), (.iload_n 1, 0, 0, 0, []), (.invokevirtual 103, 16, 2, 0, [1, 4, 2, 582, 373, 52, 374, 375]), (.astore_n 2, 0, 0, 0, []), (.aload_n 2, 0, 0, 0, []), (.ifnonnull 5, 1, 0, 0, []), (.iconst (-1), 0, 0, -1, []), (.ireturn, 0, 0, 0, [])]
def zc_74_1 : List zi_I := [(.iconst 0, 0, 0, 0, []), (.istore_n 3, 0, 0, 0, []), (.iconst 0, 0, 0, 0, []), (.istore 4, 0, 0, 0, []), (.nop, 2, 0, 0, [])]
def zc_74_2 : List zi_I := [(.iload 4, 0, 0, 0, []), (.iconst 3, 0, 0, 3, []), (.if_icmp .ge 24, 3, 0, 0, []), (.aload_n 2, 0, 0, 0, []), (.iload 4, 0, 0, 0, []), (.putfield 107, 0, 0, 0, [4, 6, 583]), (.iload_n 3, 0, 0, 0, []), (.aload_n 0, 0, 0, 0, []), (.iload 4, 0, 0, 0, []), (.invokevirtual 242, 100, 2, 0, [7, 9, 2, 656, 657, 129, 658, 659]), (.ior, 0, 0, 0, []), (.istore_n 3, 0, 0, 0, []), (.iinc 4 1, 0, 0, 1, []), (.goto (-24), 2, 0, 0, [])]
def zc_74_3 : List zi_I := [(.iload_n 3, 0, 0, 0, []), (.ireturn, 0, 0, 0, [])]
def zc_74 : zi_D := ((yX7_kinds, cX7_kinds, 5, (some .int)), (4, 89, 0, 0), [zc_74_0, zc_74_1, zc_74_2, zc_74_3], [0, 26, 31, 58])
def zc_75_0 : List zi_I := [(.aload_n 0, 0, 0, 0, []), (.getfield 24, 2, 2, 0, [7, 9, 65]), (.aload_n 0, 0, 0, 0, []), (.getfield 20, 1, 2, 0, [7, 9, 64]), (.invokevirtual 92, 19, 2, 0, [1, 4, 3, 572, 573, 52, 574, 575]), (.aload_n 0, 0, 0, 0, []), (.getfield 24, 2, 2, 0, [7, 9, 65]), (.iload_n 1, 0, 0, 0, []), (.invokevirtual 103, 16, 2, 0, [1, 4, 2, 582, 373, 52, 374, 375]), (.astore_n 3, 0, 0, 0, []), (.aload_n 3, 0, 0, 0, []), (.ifnull 11, 1, 0, 0, []), (.aload_n 3, 0, 0, 0, []), (.iload_n 2, 0, 0, 0, []), (.invokevirtual 142, 38, 2, 0, [4, 6, 2, 597, 598, 19, 599, 600]), (.ifCond .ne 5, 2, 0, 0, []), (.nop, 1, 0, 0, [])]
def zc_75_1 : List zi_I := [(.iconst (-1), 0, 0, -1, []), (.ireturn, 0, 0, 0, [])]
def zc_75_2 : List zi_I := [(.iconst 0, 0, 0, 0, []), (.istore 4, 0, 0, 0, []), (.iconst 0, 0, 0, 0, []), (.istore 5, 0, 0, 0, []), (.nop, 3, 0, 0, [])]
def zc_75_3 : List zi_I := [(.iload 5, 0, 0, 0, []), (.iconst 5, 0, 0, 5, []), (.if_icmp .ge 28, 4, 0, 0, []), (.aload_n 3, 0, 0, 0, []), (.getfield 145, 3, 2, 0, [4, 6, 601]), (.iload_n 2, 0, 0, 0, []), (.iload 5, 0, 0, 0, []), (.iastore, 0, 0, 0, []), (.iload 4, 0, 0, 0, []), (.aload_n 0, 0, 0, 0, []), (.iload 5, 0, 0, 0, []), (.invokevirtual 242, 100, 2, 0, [7, 9, 2, 656, 657, 129, 658, 659]), (.ior, 0, 0, 0, []), (.istore 4, 0, 0, 0, []), (.iinc 5 1, 0, 0, 1, []), (.goto (-28), 3, 0, 0, [])]
def zc_75_4 : List zi_I := [(.iload 4, 0, 0, 0, []), (.ireturn, 0, 0, 0, [])]
def zc_75 : zi_D := ((yX7_signings, cX7_signings, 6, (some .int)), (4, 89, 0, 0), [zc_75_0, zc_75_1, zc_75_2, zc_75_3, zc_75_4], [0, 32, 34, 40, 71])
def zc_76_0 : List zi_I := [(.aload_n 0, 0, 0, 0, []), (.getfield 20, 1, 2, 0, [7, 9, 64]), (.getfield 171, 0, 0, 0, [1, 4, 611]), (.ifCond .eq 27, 1, 0, 0, []), (.iload_n 1, 0, 0, 0, []), (.ifCond .lt 23, 1, 0, 0, []), (.iload_n 1, 0, 0, 0, []), (.aload_n 0, 0, 0, 0, []), (.getfield 20, 1, 2, 0, [7, 9, 64]), (.getfield 239, 1, 0, 0, [1, 4, 655]), (.if_icmp .ge 12, 1, 0, 0, []), (.iload_n 2, 0, 0, 0, []), (.ifCond .lt 8, 1, 0, 0, []), (.iload_n 2, 0, 0, 0, []), (.iconst 1, 0, 0, 1, []), (.if_icmp .le 7, 2, 0, 0, []), (.nop, 1, 0, 0, [])]
def zc_76_1 : List zi_I := [(.ldc2_w 226, 0, 0, 0, [645]), (.lreturn, 0, 0, 0, [])]
def zc_76_2 : List zi_I := [(.aload_n 0, 0, 0, 0, []), (.getfield 20, 1, 2, 0, [7, 9, 64]), (.aload_n 0, 0, 0, 0, []), (.getfield 20, 1, 2, 0, [7, 9, 64]), (.getfield 102, 2, 0, 0, [1, 4, 581]), (.invokevirtual 139, 20, 2, 0, [1, 4, 2, 596, 402, 52, 403, 404]), (.istore_n 3, 0, 0, 0, []), (.iconst 0, 0, 0, 0, []), (.istore 4, 0, 0, 0, []), (.iconst 0, 0, 0, 0, []), (.istore 5, 0, 0, 0, []), (.nop, 3, 0, 0, [])]
def zc_76_3 : List zi_I := [(.iload 5, 0, 0, 0, []), (.iload_n 3, 0, 0, 0, []), (.if_icmp .ge 36, 4, 0, 0, []), (.iload 4, 0, 0, 0, []), (.aload_n 0, 0, 0, 0, []), (.getfield 37, 4, 2, 0, [7, 9, 79]), (.getfield 162, 3, 2, 0, [0, 5, 606]), (.aload_n 0, 0, 0, 0, []), (.getfield 20, 1, 2, 0, [7, 9, 64]), (.getfield 102, 2, 0, 0, [1, 4, 581]), (.aaload, 0, 0, 0, []), (.iload 5, 0, 0, 0, []), (.iaload, 0, 0, 0, []), (.iload_n 1, 0, 0, 0, []), (.ishr, 0, 0, 0, []), (.iconst 1, 0, 0, 1, []), (.iand, 0, 0, 0, []), (.iadd, 0, 0, 0, []), (.istore 4, 0, 0, 0, []), (.iinc 5 1, 0, 0, 1, []), (.goto (-36), 3, 0, 0, [])]
def zc_76_4 : List zi_I := [(.iload_n 2, 0, 0, 0, []), (.ifCond .ne 13, 5, 0, 0, []), (.iload 4, 0, 0, 0, []), (.iload_n 3, 0, 0, 0, []), (.invokestatic 245, 101, 2, 0, [3, 660, 661, 129, 662]), (.i2l, 0, 0, 0, []), (.goto 10, 6, 0, 0, [])]
def zc_76_5 : List zi_I := [(.iload_n 3, 0, 0, 0, []), (.iload 4, 0, 0, 0, []), (.invokestatic 245, 101, 2, 0, [3, 660, 661, 129, 662]), (.i2l, 0, 0, 0, []), (.nop, 6, 0, 0, [])]
def zc_76_6 : List zi_I := [(.lreturn, 0, 0, 0, [])]
def zc_76 : zi_D := ((yX7_odds, cX7_odds, 6, (some .long)), (1, 22, 0, 0), [zc_76_0, zc_76_1, zc_76_2, zc_76_3, zc_76_4, zc_76_5, zc_76_6], [0, 34, 38, 59, 98, 112, 119])
def zc_77_0 : List zi_I := [(.iload_n 1, 0, 0, 0, []), (.invokestatic 63, 90, 1, 0, [1, 545, 546, 129, 547]), (.ifCond .eq 9, 1, 0, 0, []), (.aload_n 0, 0, 0, 0, []), (.iconst (-1), 0, 0, -1, []), (.invokevirtual 67, 88, 2, 0, [7, 9, 2, 548, 549, 129, 550, 551]), (.ireturn, 0, 0, 0, [])]
def zc_77_1 : List zi_I := [(.iload_n 2, 0, 0, 0, []), (.invokestatic 71, 91, 1, 0, [1, 552, 553, 129, 554]), (.ifCond .ne 9, 2, 0, 0, []), (.iload_n 3, 0, 0, 0, []), (.bipush 60, 0, 0, 60, []), (.if_icmp .le 10, 3, 0, 0, []), (.nop, 2, 0, 0, [])]
def zc_77_2 : List zi_I := [(.aload_n 0, 0, 0, 0, []), (.bipush (-2), 0, 0, -2, []), (.invokevirtual 67, 88, 2, 0, [7, 9, 2, 548, 549, 129, 550, 551]), (.ireturn, 0, 0, 0, [])]
def zc_77_3 : List zi_I := [(.iload_n 3, 0, 0, 0, []), (.ifCond .ge 9, 4, 0, 0, []), (.aload_n 0, 0, 0, 0, []), (.iconst 4, 0, 0, 4, []), (.invokevirtual 78, 89, 2, 0, [7, 9, 2, 559, 560, 129, 561, 562]), (.ireturn, 0, 0, 0, [])]
def zc_77_4 : List zi_I := [(.aload_n 0, 0, 0, 0, []), (.iconst 0, 0, 0, 0, []), (.putfield 59, 8, 0, 0, [7, 9, 95]), (.aload_n 0, 0, 0, 0, []), (.getfield 13, 0, 2, 0, [7, 9, 61]), (.iload_n 1, 0, 0, 0, []), (.aaload, 0, 0, 0, []), (.iload_n 2, 0, 0, 0, []), (.iload_n 3, 0, 0, 0, []), (.invokevirtual 248, 43, 3, 0, [5, 4, 3, 663, 664, 97, 665, 666]), (.iconst 1, 0, 0, 1, []), (.ireturn, 0, 0, 0, [])]
def zc_77 : zi_D := ((yX7_sheet, cX7_sheet, 4, (some .int)), (2, 45, 0, 0), [zc_77_0, zc_77_1, zc_77_2, zc_77_3, zc_77_4], [0, 13, 26, 33, 43])
def zc_78_0 : List zi_I := [(.iload_n 1, 0, 0, 0, []), (.invokestatic 63, 90, 1, 0, [1, 545, 546, 129, 547]), (.ifCond .eq 5, 1, 0, 0, []), (.iconst (-1), 0, 0, -1, []), (.ireturn, 0, 0, 0, [])]
def zc_78_1 : List zi_I := [(.aload_n 0, 0, 0, 0, []), (.getfield 13, 0, 2, 0, [7, 9, 61]), (.iload_n 1, 0, 0, 0, []), (.aaload, 0, 0, 0, []), (.getfield 251, 0, 0, 0, [5, 4, 667]), (.ifCond .eq 7, 2, 0, 0, []), (.iconst 1, 0, 0, 1, []), (.goto 4, 3, 0, 0, [])]
def zc_78_2 : List zi_I := [(.iconst 0, 0, 0, 0, []), (.nop, 3, 0, 0, [])]
def zc_78_3 : List zi_I := [(.istore_n 2, 0, 0, 0, []), (.aload_n 0, 0, 0, 0, []), (.getfield 13, 0, 2, 0, [7, 9, 61]), (.iload_n 1, 0, 0, 0, []), (.aaload, 0, 0, 0, []), (.iconst 0, 0, 0, 0, []), (.putfield 251, 0, 1, 0, [5, 4, 667]), (.iload_n 2, 0, 0, 0, []), (.ireturn, 0, 0, 0, [])]
def zc_78 : zi_D := ((yX7_lose, cX7_lose, 3, (some .int)), (1, 20, 0, 0), [zc_78_0, zc_78_1, zc_78_2, zc_78_3], [0, 9, 25, 26])
def zc_79_0 : List zi_I := [(.iload_n 1, 0, 0, 0, []), (.invokestatic 63, 90, 1, 0, [1, 545, 546, 129, 547]), (.ifCond .eq 9, 1, 0, 0, []), (.aload_n 0, 0, 0, 0, []), (.iconst (-1), 0, 0, -1, []), (.invokevirtual 67, 88, 2, 0, [7, 9, 2, 548, 549, 129, 550, 551]), (.ireturn, 0, 0, 0, [])]
def zc_79_1 : List zi_I := [(.aload_n 0, 0, 0, 0, []), (.getfield 13, 0, 2, 0, [7, 9, 61]), (.iload_n 1, 0, 0, 0, []), (.aaload, 0, 0, 0, []), (.astore 4, 0, 0, 0, []), (.aload 4, 0, 0, 0, []), (.getfield 251, 0, 0, 0, [5, 4, 667]), (.ifCond .ne 9, 2, 0, 0, []), (.aload_n 0, 0, 0, 0, []), (.iconst 1, 0, 0, 1, []), (.invokevirtual 78, 89, 2, 0, [7, 9, 2, 559, 560, 129, 561, 562]), (.ireturn, 0, 0, 0, [])]
def zc_79_2 : List zi_I := [(.aload 4, 0, 0, 0, []), (.iload_n 2, 0, 0, 0, []), (.iconst 1, 0, 0, 1, []), (.invokevirtual 254, 45, 3, 0, [5, 4, 3, 668, 487, 97, 488, 489]), (.ifCond .eq 9, 3, 0, 0, []), (.aload_n 0, 0, 0, 0, []), (.iconst 3, 0, 0, 3, []), (.invokevirtual 78, 89, 2, 0, [7, 9, 2, 559, 560, 129, 561, 562]), (.ireturn, 0, 0, 0, [])]
def zc_79_3 : List zi_I := [(.aload_n 0, 0, 0, 0, []), (.iconst 0, 0, 0, 0, []), (.putfield 59, 8, 0, 0, [7, 9, 95]), (.aload 4, 0, 0, 0, []), (.getfield 257, 3, 2, 0, [5, 4, 669]), (.iload_n 2, 0, 0, 0, []), (.aload 4, 0, 0, 0, []), (.iload_n 3, 0, 0, 0, []), (.invokevirtual 260, 46, 2, 0, [5, 4, 2, 670, 671, 97, 672, 673]), (.iastore, 0, 0, 0, []), (.iconst 1, 0, 0, 1, []), (.ireturn, 0, 0, 0, [])]
def zc_79 : zi_D := ((yX7_put, cX7_put, 5, (some .int)), (1, 22, 0, 0), [zc_79_0, zc_79_1, zc_79_2, zc_79_3], [0, 13, 35, 51])
def zc_80_0 : List zi_I := [(.aload_n 0, 0, 0, 0, []), (.iconst 0, 0, 0, 0, []), (.putfield 59, 8, 0, 0, [7, 9, 95]), (.iload_n 1, 0, 0, 0, []), (.invokestatic 63, 90, 1, 0, [1, 545, 546, 129, 547]), (.ifCond .ne 10, 1, 0, 0, []), (.iload_n 3, 0, 0, 0, []), (.invokestatic 71, 91, 1, 0, [1, 552, 553, 129, 554]), (.ifCond .eq 7, 2, 0, 0, []), (.nop, 1, 0, 0, [])]
def zc_80_1 : List zi_I := [(.ldc2_w 226, 0, 0, 0, [645]), (.lreturn, 0, 0, 0, [])]
def zc_80_2 : List zi_I := [(.aload_n 0, 0, 0, 0, []), (.aload_n 0, 0, 0, 0, []), (.getfield 13, 0, 2, 0, [7, 9, 61]), (.iload_n 1, 0, 0, 0, []), (.aaload, 0, 0, 0, []), (.iload_n 3, 0, 0, 0, []), (.iload_n 2, 0, 0, 0, []), (.iconst 1, 0, 0, 1, []), (.invokevirtual 74, 47, 4, 0, [5, 4, 4, 555, 556, 97, 557, 558]), (.putfield 59, 8, 0, 0, [7, 9, 95]), (.aload_n 0, 0, 0, 0, []), (.getfield 59, 8, 0, 0, [7, 9, 95]), (.ifCond .ne 17, 3, 0, 0, []), (.aload_n 0, 0, 0, 0, []), (.getfield 13, 0, 2, 0, [7, 9, 61]), (.iload_n 1, 0, 0, 0, []), (.aaload, 0, 0, 0, []), (.iload_n 2, 0, 0, 0, []), (.invokevirtual 187, 44, 2, 0, [5, 4, 2, 617, 493, 97, 494, 495]), (.i2l, 0, 0, 0, []), (.goto 6, 4, 0, 0, [])]
def zc_80_3 : List zi_I := [(.ldc2_w 226, 0, 0, 0, [645]), (.nop, 4, 0, 0, [])]
def zc_80_4 : List zi_I := [(.lreturn, 0, 0, 0, [])]
def zc_80 : zi_D := ((yX7_cell, cX7_cell, 4, (some .long)), (2, 45, 0, 0), [zc_80_0, zc_80_1, zc_80_2, zc_80_3, zc_80_4], [0, 19, 23, 60, 63])
def zc_81_0 : List zi_I := [(.iload_n 1, 0, 0, 0, []), (.invokestatic 63, 90, 1, 0, [1, 545, 546, 129, 547]), (.ifCond .ne 10, 1, 0, 0, []), (.iload_n 3, 0, 0, 0, []), (.invokestatic 63, 90, 1, 0, [1, 545, 546, 129, 547]), (.ifCond .eq 9, 2, 0, 0, []), (.nop, 1, 0, 0, [])]
def zc_81_1 : List zi_I := [(.aload_n 0, 0, 0, 0, []), (.iconst (-1), 0, 0, -1, []), (.invokevirtual 67, 88, 2, 0, [7, 9, 2, 548, 549, 129, 550, 551]), (.ireturn, 0, 0, 0, [])]
def zc_81_2 : List zi_I := [(.aload_n 0, 0, 0, 0, []), (.getfield 13, 0, 2, 0, [7, 9, 61]), (.iload_n 1, 0, 0, 0, []), (.aaload, 0, 0, 0, []), (.astore 6, 0, 0, 0, []), (.aload_n 0, 0, 0, 0, []), (.getfield 13, 0, 2, 0, [7, 9, 61]), (.iload_n 3, 0, 0, 0, []), (.aaload, 0, 0, 0, []), (.astore 7, 0, 0, 0, []), (.aload 6, 0, 0, 0, []), (.getfield 251, 0, 0, 0, [5, 4, 667]), (.ifCond .eq 11, 3, 0, 0, []), (.aload 7, 0, 0, 0, []), (.getfield 251, 0, 0, 0, [5, 4, 667]), (.ifCond .ne 9, 4, 0, 0, []), (.nop, 3, 0, 0, [])]
def zc_81_3 : List zi_I := [(.aload_n 0, 0, 0, 0, []), (.iconst 1, 0, 0, 1, []), (.invokevirtual 78, 89, 2, 0, [7, 9, 2, 559, 560, 129, 561, 562]), (.ireturn, 0, 0, 0, [])]
def zc_81_4 : List zi_I := [(.aload 6, 0, 0, 0, []), (.getfield 263, 1, 0, 0, [5, 4, 674]), (.aload 7, 0, 0, 0, []), (.getfield 263, 1, 0, 0, [5, 4, 674]), (.if_icmp .eq 9, 5, 0, 0, []), (.aload_n 0, 0, 0, 0, []), (.iconst 2, 0, 0, 2, []), (.invokevirtual 78, 89, 2, 0, [7, 9, 2, 559, 560, 129, 561, 562]), (.ireturn, 0, 0, 0, [])]
def zc_81_5 : List zi_I := [(.aload 6, 0, 0, 0, []), (.iload_n 2, 0, 0, 0, []), (.iload 5, 0, 0, 0, []), (.invokevirtual 254, 45, 3, 0, [5, 4, 3, 668, 487, 97, 488, 489]), (.ifCond .ne 15, 6, 0, 0, []), (.aload 7, 0, 0, 0, []), (.iload 4, 0, 0, 0, []), (.iload 5, 0, 0, 0, []), (.invokevirtual 254, 45, 3, 0, [5, 4, 3, 668, 487, 97, 488, 489]), (.ifCond .eq 9, 7, 0, 0, []), (.nop, 6, 0, 0, [])]
def zc_81_6 : List zi_I := [(.aload_n 0, 0, 0, 0, []), (.iconst 3, 0, 0, 3, []), (.invokevirtual 78, 89, 2, 0, [7, 9, 2, 559, 560, 129, 561, 562]), (.ireturn, 0, 0, 0, [])]
def zc_81_7 : List zi_I := [(.aload_n 0, 0, 0, 0, []), (.iconst 0, 0, 0, 0, []), (.putfield 59, 8, 0, 0, [7, 9, 95]), (.aload 6, 0, 0, 0, []), (.getfield 257, 3, 2, 0, [5, 4, 669]), (.iload_n 2, 0, 0, 0, []), (.aload 7, 0, 0, 0, []), (.getfield 257, 3, 2, 0, [5, 4, 669]), (.iload 4, 0, 0, 0, []), (.iload 5, 0, 0, 0, []), (.invokestatic 266, 9998, 0, 0, [675, 476, 477, 478]), (.iload 5, 0, 0, 0, []), (.ireturn, 0, 0, 0, [])]
def zc_81 : zi_D := ((yX7_copy, cX7_copy, 8, (some .int)), (1, 26, 0, 0), [zc_81_0, zc_81_1, zc_81_2, zc_81_3, zc_81_4, zc_81_5, zc_81_6, zc_81_7], [0, 14, 20, 52, 58, 77, 100, 106])
def zc_82_0 : List zi_I := [(.aload_n 0, 0, 0, 0, []), (.getfield 20, 1, 2, 0, [7, 9, 64]), (.iload_n 1, 0, 0, 0, []), (.invokevirtual 103, 16, 2, 0, [1, 4, 2, 582, 373, 52, 374, 375]), (.astore_n 2, 0, 0, 0, []), (.aload_n 2, 0, 0, 0, []), (.ifnonnull 5, 1, 0, 0, []), (.iconst (-1), 0, 0, -1, []), (.ireturn, 0, 0, 0, [])]
def zc_82_1 : List zi_I := [(.aload_n 2, 0, 0, 0, []), (.getfield 107, 0, 0, 0, [4, 6, 583]), (.lookupswitch 43 #[(1, 34), (2, 25)], 4, 0, 0, [3, 2])]
def zc_82_2 : List zi_I := [(.aload_n 0, 0, 0, 0, []), (.aload_n 2, 0, 0, 0, []), (.getfield 112, 1, 0, 0, [4, 6, 584]), (.invokevirtual 272, 105, 2, 0, [7, 9, 3, 676, 677, 129, 678, 679]), (.ireturn, 0, 0, 0, [])]
def zc_82_3 : List zi_I := [(.aload_n 0, 0, 0, 0, []), (.aload_n 2, 0, 0, 0, []), (.getfield 112, 1, 0, 0, [4, 6, 584]), (.invokevirtual 275, 104, 2, 0, [7, 9, 2, 680, 681, 129, 682, 683]), (.ireturn, 0, 0, 0, [])]
def zc_82_4 : List zi_I := [(.aload_n 0, 0, 0, 0, []), (.aload_n 2, 0, 0, 0, []), (.getfield 112, 1, 0, 0, [4, 6, 584]), (.invokevirtual 278, 103, 2, 0, [7, 9, 2, 684, 685, 129, 686, 687]), (.ireturn, 0, 0, 0, [])]
def zc_82 : zi_D := ((yX7_tell, cX7_tell, 3, (some .int)), (4, 85, 0, 0), [zc_82_0, zc_82_1, zc_82_2, zc_82_3, zc_82_4], [0, 15, 44, 53, 62])
def zc_83_0 : List zi_I := [(.aload_n 0, 0, 0, 0, []), (.getfield 20, 1, 2, 0, [7, 9, 64]), (.iload_n 1, 0, 0, 0, []), (.invokevirtual 103, 16, 2, 0, [1, 4, 2, 582, 373, 52, 374, 375]), (.astore_n 2, 0, 0, 0, []), (.aload_n 2, 0, 0, 0, []), (.ifnonnull 5, 1, 0, 0, []), (.iconst (-1), 0, 0, -1, []), (.ireturn, 0, 0, 0, [])]
def zc_83_1 : List zi_I := [(.aload_n 2, 0, 0, 0, []), (.getfield 107, 0, 0, 0, [4, 6, 583]), (.iconst 2, 0, 0, 2, []), (.if_icmp .ne 10, 2, 0, 0, []), (.aload_n 0, 0, 0, 0, []), (.invokevirtual 281, 107, 1, 0, [7, 9, 1, 688, 689, 129, 690, 691]), (.goto 11, 3, 0, 0, [])]
def zc_83_2 : List zi_I := [(.aload_n 0, 0, 0, 0, []), (.aload_n 2, 0, 0, 0, []), (.getfield 118, 2, 0, 0, [4, 6, 586]), (.invokevirtual 284, 106, 2, 0, [7, 9, 2, 692, 693, 129, 694, 695]), (.nop, 3, 0, 0, [])]
def zc_83_3 : List zi_I := [(.ireturn, 0, 0, 0, [])]
def zc_83 : zi_D := ((yX7_tug, cX7_tug, 3, (some .int)), (2, 42, 0, 0), [zc_83_0, zc_83_1, zc_83_2, zc_83_3], [0, 15, 30, 38])
def zc_84_0 : List zi_I := [(.aload_n 0, 0, 0, 0, []), (.getfield 20, 1, 2, 0, [7, 9, 64]), (.iload_n 1, 0, 0, 0, []), (.invokevirtual 103, 16, 2, 0, [1, 4, 2, 582, 373, 52, 374, 375]), (.astore_n 3, 0, 0, 0, []), (.aload_n 3, 0, 0, 0, []), (.ifnonnull 9, 1, 0, 0, []), (.aload_n 0, 0, 0, 0, []), (.iconst (-1), 0, 0, -1, []), (.invokevirtual 67, 88, 2, 0, [7, 9, 2, 548, 549, 129, 550, 551]), (.ireturn, 0, 0, 0, [])]
def zc_84_1 : List zi_I := [(.iload_n 2, 0, 0, 0, []), (.invokestatic 168, 92, 1, 0, [1, 608, 609, 129, 610]), (.ifCond .eq 10, 2, 0, 0, []), (.aload_n 0, 0, 0, 0, []), (.bipush (-2), 0, 0, -2, []), (.invokevirtual 67, 88, 2, 0, [7, 9, 2, 548, 549, 129, 550, 551]), (.ireturn, 0, 0, 0, [])]
def zc_84_2 : List zi_I := [(.iload_n 2, 0, 0, 0, []), (.aload_n 3, 0, 0, 0, []), (.getfield 107, 0, 0, 0, [4, 6, 583]), (.if_icmp .le 9, 3, 0, 0, []), (.aload_n 0, 0, 0, 0, []), (.iconst 2, 0, 0, 2, []), (.invokevirtual 78, 89, 2, 0, [7, 9, 2, 559, 560, 129, 561, 562]), (.ireturn, 0, 0, 0, [])]
def zc_84_3 : List zi_I := [(.aload_n 0, 0, 0, 0, []), (.iconst 0, 0, 0, 0, []), (.putfield 59, 8, 0, 0, [7, 9, 95]), (.iconst 1, 0, 0, 1, []), (.ireturn, 0, 0, 0, [])]
def zc_84 : zi_D := ((yX7_as, cX7_as, 4, (some .int)), (2, 42, 0, 0), [zc_84_0, zc_84_1, zc_84_2, zc_84_3], [0, 19, 33, 47])
def zc_85_0 : List zi_I := [(.aload_n 0, 0, 0, 0, []), (.getfield 55, 7, 0, 0, [7, 9, 94]), (.ireturn, 0, 0, 0, [])]
def zc_85 : zi_D := ((yX7_trace, cX7_trace, 1, (some .int)), (0, 0, 0, 0), [zc_85_0], [0])
def zc_86_0 : List zi_I := [(.aload_n 0, 0, 0, 0, []), (.getfield 59, 8, 0, 0, [7, 9, 95]), (.ireturn, 0, 0, 0, [])]
def zc_86 : zi_D := ((yX7_fault, cX7_fault, 1, (some .int)), (0, 0, 0, 0), [zc_86_0], [0])
def zc_87_0 : List zi_I := [(.iload_n 1, 0, 0, 0, []), (.tableswitch 98 0 3 #[31, 39, 68, 90], 9, 0, 0, [1, 2, 5, 8])]
def zc_87_1 : List zi_I := [(.aload_n 0, 0, 0, 0, []), (.getfield 20, 1, 2, 0, [7, 9, 64]), (.getfield 102, 2, 0, 0, [1, 4, 581]), (.ireturn, 0, 0, 0, [])]
def zc_87_2 : List zi_I := [(.aload_n 0, 0, 0, 0, []), (.getfield 20, 1, 2, 0, [7, 9, 64]), (.getfield 171, 0, 0, 0, [1, 4, 611]), (.ifCond .eq 20, 3, 0, 0, []), (.aload_n 0, 0, 0, 0, []), (.getfield 20, 1, 2, 0, [7, 9, 64]), (.aload_n 0, 0, 0, 0, []), (.getfield 20, 1, 2, 0, [7, 9, 64]), (.getfield 102, 2, 0, 0, [1, 4, 581]), (.invokevirtual 139, 20, 2, 0, [1, 4, 2, 596, 402, 52, 403, 404]), (.goto 4, 4, 0, 0, [])]
def zc_87_3 : List zi_I := [(.iconst 0, 0, 0, 0, []), (.nop, 4, 0, 0, [])]
def zc_87_4 : List zi_I := [(.ireturn, 0, 0, 0, [])]
def zc_87_5 : List zi_I := [(.aload_n 0, 0, 0, 0, []), (.getfield 20, 1, 2, 0, [7, 9, 64]), (.getfield 171, 0, 0, 0, [1, 4, 611]), (.ifCond .eq 13, 6, 0, 0, []), (.aload_n 0, 0, 0, 0, []), (.getfield 20, 1, 2, 0, [7, 9, 64]), (.invokevirtual 287, 21, 1, 0, [1, 4, 3, 696, 697, 52, 698, 699]), (.goto 4, 7, 0, 0, [])]
def zc_87_6 : List zi_I := [(.iconst 0, 0, 0, 0, []), (.nop, 7, 0, 0, [])]
def zc_87_7 : List zi_I := [(.ireturn, 0, 0, 0, [])]
def zc_87_8 : List zi_I := [(.aload_n 0, 0, 0, 0, []), (.getfield 44, 5, 2, 0, [7, 9, 86]), (.getfield 96, 0, 0, 0, [3, 3, 576]), (.ireturn, 0, 0, 0, [])]
def zc_87_9 : List zi_I := [(.bipush (-2), 0, 0, -2, []), (.ireturn, 0, 0, 0, [])]
def zc_87 : zi_D := ((yX7_many, cX7_many, 2, (some .int)), (2, 43, 0, 0), [zc_87_0, zc_87_1, zc_87_2, zc_87_3, zc_87_4, zc_87_5, zc_87_6, zc_87_7, zc_87_8, zc_87_9], [0, 32, 40, 67, 68, 69, 89, 90, 91, 99])
def zc_88_0 : List zi_I := [(.aload_n 0, 0, 0, 0, []), (.iconst 0, 0, 0, 0, []), (.putfield 59, 8, 0, 0, [7, 9, 95]), (.iload_n 1, 0, 0, 0, []), (.ireturn, 0, 0, 0, [])]
def zc_88 : zi_D := ((yX7_refused, cX7_refused, 2, (some .int)), (0, 0, 0, 0), [zc_88_0], [0])
def zc_89_0 : List zi_I := [(.aload_n 0, 0, 0, 0, []), (.iload_n 1, 0, 0, 0, []), (.putfield 59, 8, 0, 0, [7, 9, 95]), (.bipush (-10), 0, 0, -10, []), (.iload_n 1, 0, 0, 0, []), (.isub, 0, 0, 0, []), (.ireturn, 0, 0, 0, [])]
def zc_89 : zi_D := ((yX7_faulted, cX7_faulted, 2, (some .int)), (0, 0, 0, 0), [zc_89_0], [0])
def zc_90_0 : List zi_I := [(.iload_n 0, 0, 0, 0, []), (.ifCond .lt 8, 1, 0, 0, []), (.iload_n 0, 0, 0, 0, []), (.iconst 4, 0, 0, 4, []), (.if_icmp .lt 7, 2, 0, 0, []), (.nop, 1, 0, 0, [])]
def zc_90_1 : List zi_I := [(.iconst 1, 0, 0, 1, []), (.goto 4, 3, 0, 0, [])]
def zc_90_2 : List zi_I := [(.iconst 0, 0, 0, 0, []), (.nop, 3, 0, 0, [])]
def zc_90_3 : List zi_I := [(.ireturn, 1, 0, 0, [])]
def zc_90 : zi_D := ((yX7_isNoSheet, cX7_isNoSheet, 1, (some .boolean)), (0, 0, 0, 0), [zc_90_0, zc_90_1, zc_90_2, zc_90_3], [0, 9, 13, 14])
def zc_91_0 : List zi_I := [(.iload_n 0, 0, 0, 0, []), (.ifCond .lt 8, 1, 0, 0, []), (.iload_n 0, 0, 0, 0, []), (.iconst 3, 0, 0, 3, []), (.if_icmp .lt 7, 2, 0, 0, []), (.nop, 1, 0, 0, [])]
def zc_91_1 : List zi_I := [(.iconst 1, 0, 0, 1, []), (.goto 4, 3, 0, 0, [])]
def zc_91_2 : List zi_I := [(.iconst 0, 0, 0, 0, []), (.nop, 3, 0, 0, [])]
def zc_91_3 : List zi_I := [(.ireturn, 1, 0, 0, [])]
def zc_91 : zi_D := ((yX7_isNoLane, cX7_isNoLane, 1, (some .boolean)), (0, 0, 0, 0), [zc_91_0, zc_91_1, zc_91_2, zc_91_3], [0, 9, 13, 14])
def zc_92_0 : List zi_I := [(.iload_n 0, 0, 0, 0, []), (.ifCond .lt 8, 1, 0, 0, []), (.iload_n 0, 0, 0, 0, []), (.iconst 3, 0, 0, 3, []), (.if_icmp .lt 7, 2, 0, 0, []), (.nop, 1, 0, 0, [])]
def zc_92_1 : List zi_I := [(.iconst 1, 0, 0, 1, []), (.goto 4, 3, 0, 0, [])]
def zc_92_2 : List zi_I := [(.iconst 0, 0, 0, 0, []), (.nop, 3, 0, 0, [])]
def zc_92_3 : List zi_I := [(.ireturn, 1, 0, 0, [])]
def zc_92 : zi_D := ((yX7_isNoKind, cX7_isNoKind, 1, (some .boolean)), (0, 0, 0, 0), [zc_92_0, zc_92_1, zc_92_2, zc_92_3], [0, 9, 13, 14])
def zc_93_0 : List zi_I := [(.iload_n 0, 0, 0, 0, []), (.iconst 1, 0, 0, 1, []), (.if_icmp .lt 9, 1, 0, 0, []), (.iload_n 0, 0, 0, 0, []), (.bipush 9, 0, 0, 9, []), (.if_icmp .le 7, 2, 0, 0, []), (.nop, 1, 0, 0, [])]
def zc_93_1 : List zi_I := [(.iconst 1, 0, 0, 1, []), (.goto 4, 3, 0, 0, [])]
def zc_93_2 : List zi_I := [(.iconst 0, 0, 0, 0, []), (.nop, 3, 0, 0, [])]
def zc_93_3 : List zi_I := [(.ireturn, 1, 0, 0, [])]
def zc_93 : zi_D := ((yX7_isNoSpun, cX7_isNoSpun, 1, (some .boolean)), (0, 0, 0, 0), [zc_93_0, zc_93_1, zc_93_2, zc_93_3], [0, 11, 15, 16])
def zc_94_0 : List zi_I := [(.iload_n 0, 0, 0, 0, []), (.iconst 1, 0, 0, 1, []), (.if_icmp .lt 9, 1, 0, 0, []), (.iload_n 0, 0, 0, 0, []), (.bipush 60, 0, 0, 60, []), (.if_icmp .le 7, 2, 0, 0, []), (.nop, 1, 0, 0, [])]
def zc_94_1 : List zi_I := [(.iconst 1, 0, 0, 1, []), (.goto 4, 3, 0, 0, [])]
def zc_94_2 : List zi_I := [(.iconst 0, 0, 0, 0, []), (.nop, 3, 0, 0, [])]
def zc_94_3 : List zi_I := [(.ireturn, 1, 0, 0, [])]
def zc_94 : zi_D := ((yX7_isNoLoopCount, cX7_isNoLoopCount, 1, (some .boolean)), (0, 0, 0, 0), [zc_94_0, zc_94_1, zc_94_2, zc_94_3], [0, 11, 15, 16])
def zc_95_0 : List zi_I := [(.iload_n 0, 0, 0, 0, []), (.ifCond .lt 20, 1, 0, 0, []), (.iload_n 0, 0, 0, 0, []), (.bipush 16, 0, 0, 16, []), (.if_icmp .gt 14, 1, 0, 0, []), (.iload_n 0, 0, 0, 0, []), (.iconst 4, 0, 0, 4, []), (.if_icmp .le 13, 2, 0, 0, []), (.iload_n 0, 0, 0, 0, []), (.bipush 10, 0, 0, 10, []), (.if_icmp .ge 7, 2, 0, 0, []), (.nop, 1, 0, 0, [])]
def zc_95_1 : List zi_I := [(.iconst 1, 0, 0, 1, []), (.goto 4, 3, 0, 0, [])]
def zc_95_2 : List zi_I := [(.iconst 0, 0, 0, 0, []), (.nop, 3, 0, 0, [])]
def zc_95_3 : List zi_I := [(.ireturn, 1, 0, 0, [])]
def zc_95 : zi_D := ((yX7_isNothingOfDay, cX7_isNothingOfDay, 1, (some .boolean)), (0, 0, 0, 0), [zc_95_0, zc_95_1, zc_95_2, zc_95_3], [0, 21, 25, 26])
def zc_96_0 : List zi_I := [(.iconst 0, 0, 0, 0, []), (.istore_n 3, 0, 0, 0, []), (.nop, 1, 0, 0, [])]
def zc_96_1 : List zi_I := [(.iload_n 3, 0, 0, 0, []), (.iload_n 2, 0, 0, 0, []), (.if_icmp .ge 31, 4, 0, 0, []), (.aload_n 0, 0, 0, 0, []), (.iload_n 1, 0, 0, 0, []), (.iload_n 3, 0, 0, 0, []), (.iadd, 0, 0, 0, []), (.invokevirtual 187, 44, 2, 0, [5, 4, 2, 617, 493, 97, 494, 495]), (.istore 4, 0, 0, 0, []), (.iload 4, 0, 0, 0, []), (.ifCond .lt 9, 2, 0, 0, []), (.iload 4, 0, 0, 0, []), (.iconst 5, 0, 0, 5, []), (.if_icmp .lt 5, 3, 0, 0, []), (.nop, 2, 0, 0, [])]
def zc_96_2 : List zi_I := [(.iconst 0, 0, 0, 0, []), (.ireturn, 1, 0, 0, [])]
def zc_96_3 : List zi_I := [(.iinc 3 1, 0, 0, 1, []), (.goto (-30), 1, 0, 0, [])]
def zc_96_4 : List zi_I := [(.iconst 1, 0, 0, 1, []), (.ireturn, 1, 0, 0, [])]
def zc_96 : zi_D := ((yX7_areSigns, cX7_areSigns, 5, (some .boolean)), (2, 43, 0, 0), [zc_96_0, zc_96_1, zc_96_2, zc_96_3, zc_96_4], [0, 2, 27, 29, 35])
def zc_97_0 : List zi_I := [(.iconst 0, 0, 0, 0, []), (.istore_n 3, 0, 0, 0, []), (.nop, 1, 0, 0, [])]
def zc_97_1 : List zi_I := [(.iload_n 3, 0, 0, 0, []), (.iload_n 2, 0, 0, 0, []), (.if_icmp .ge 45, 4, 0, 0, []), (.aload_n 0, 0, 0, 0, []), (.iload_n 1, 0, 0, 0, []), (.iload_n 3, 0, 0, 0, []), (.iadd, 0, 0, 0, []), (.invokevirtual 187, 44, 2, 0, [5, 4, 2, 617, 493, 97, 494, 495]), (.istore 4, 0, 0, 0, []), (.iload 4, 0, 0, 0, []), (.ifCond .lt 23, 2, 0, 0, []), (.iload 4, 0, 0, 0, []), (.bipush 16, 0, 0, 16, []), (.if_icmp .gt 16, 2, 0, 0, []), (.iload 4, 0, 0, 0, []), (.iconst 5, 0, 0, 5, []), (.if_icmp .le 12, 3, 0, 0, []), (.iload 4, 0, 0, 0, []), (.bipush 10, 0, 0, 10, []), (.if_icmp .gt 5, 3, 0, 0, []), (.nop, 2, 0, 0, [])]
def zc_97_2 : List zi_I := [(.iconst 0, 0, 0, 0, []), (.ireturn, 1, 0, 0, [])]
def zc_97_3 : List zi_I := [(.iinc 3 1, 0, 0, 1, []), (.goto (-44), 1, 0, 0, [])]
def zc_97_4 : List zi_I := [(.iconst 1, 0, 0, 1, []), (.ireturn, 1, 0, 0, [])]
def zc_97 : zi_D := ((yX7_areActs, cX7_areActs, 5, (some .boolean)), (2, 43, 0, 0), [zc_97_0, zc_97_1, zc_97_2, zc_97_3, zc_97_4], [0, 2, 41, 43, 49])
def zc_98_0 : List zi_I := [(.aload_n 0, 0, 0, 0, []), (.getfield 24, 2, 2, 0, [7, 9, 65]), (.aload_n 0, 0, 0, 0, []), (.getfield 20, 1, 2, 0, [7, 9, 64]), (.invokevirtual 92, 19, 2, 0, [1, 4, 3, 572, 573, 52, 574, 575]), (.iconst 0, 0, 0, 0, []), (.istore 4, 0, 0, 0, []), (.nop, 1, 0, 0, [])]
def zc_98_1 : List zi_I := [(.iload 4, 0, 0, 0, []), (.iload_n 3, 0, 0, 0, []), (.if_icmp .ge 30, 3, 0, 0, []), (.aload_n 0, 0, 0, 0, []), (.getfield 24, 2, 2, 0, [7, 9, 65]), (.aload_n 1, 0, 0, 0, []), (.iload_n 2, 0, 0, 0, []), (.iload 4, 0, 0, 0, []), (.iadd, 0, 0, 0, []), (.invokevirtual 187, 44, 2, 0, [5, 4, 2, 617, 493, 97, 494, 495]), (.invokevirtual 290, 25, 2, 0, [1, 4, 2, 700, 701, 52, 702, 703]), (.ifCond .ne 6, 2, 0, 0, []), (.iload 4, 0, 0, 0, []), (.ireturn, 0, 0, 0, [])]
def zc_98_2 : List zi_I := [(.iinc 4 1, 0, 0, 1, []), (.goto (-30), 1, 0, 0, [])]
def zc_98_3 : List zi_I := [(.bipush (-9), 0, 0, -9, []), (.ireturn, 0, 0, 0, [])]
def zc_98 : zi_D := ((yX7_firstWrong, cX7_firstWrong, 5, (some .int)), (5, 111, 0, 0), [zc_98_0, zc_98_1, zc_98_2, zc_98_3], [0, 14, 41, 47])
def zc_99_0 : List zi_I := [(.aload_n 0, 0, 0, 0, []), (.getfield 24, 2, 2, 0, [7, 9, 65]), (.aload_n 0, 0, 0, 0, []), (.getfield 24, 2, 2, 0, [7, 9, 65]), (.getfield 102, 2, 0, 0, [1, 4, 581]), (.invokevirtual 103, 16, 2, 0, [1, 4, 2, 582, 373, 52, 374, 375]), (.astore_n 2, 0, 0, 0, []), (.iload_n 1, 0, 0, 0, []), (.tableswitch 88 0 4 #[36, 88, 51, 59, 73], 7, 0, 0, [1, 7, 2, 3, 6])]
def zc_99_1 : List zi_I := [(.aload_n 0, 0, 0, 0, []), (.getfield 24, 2, 2, 0, [7, 9, 65]), (.aload_n 0, 0, 0, 0, []), (.getfield 24, 2, 2, 0, [7, 9, 65]), (.getfield 102, 2, 0, 0, [1, 4, 581]), (.invokevirtual 139, 20, 2, 0, [1, 4, 2, 596, 402, 52, 403, 404]), (.ireturn, 0, 0, 0, [])]
def zc_99_2 : List zi_I := [(.aload_n 0, 0, 0, 0, []), (.getfield 24, 2, 2, 0, [7, 9, 65]), (.getfield 102, 2, 0, 0, [1, 4, 581]), (.ireturn, 0, 0, 0, [])]
def zc_99_3 : List zi_I := [(.aload_n 2, 0, 0, 0, []), (.ifnonnull 8, 4, 0, 0, []), (.bipush (-9), 0, 0, -9, []), (.goto 7, 5, 0, 0, [])]
def zc_99_4 : List zi_I := [(.aload_n 2, 0, 0, 0, []), (.invokevirtual 127, 42, 1, 0, [4, 6, 1, 589, 420, 19, 421, 422]), (.nop, 5, 0, 0, [])]
def zc_99_5 : List zi_I := [(.ireturn, 0, 0, 0, [])]
def zc_99_6 : List zi_I := [(.aload_n 0, 0, 0, 0, []), (.getfield 24, 2, 2, 0, [7, 9, 65]), (.aload_n 0, 0, 0, 0, []), (.getfield 24, 2, 2, 0, [7, 9, 65]), (.getfield 102, 2, 0, 0, [1, 4, 581]), (.invokevirtual 130, 23, 2, 0, [1, 4, 4, 590, 424, 52, 425, 426]), (.ireturn, 0, 0, 0, [])]
def zc_99_7 : List zi_I := [(.aload_n 0, 0, 0, 0, []), (.getfield 24, 2, 2, 0, [7, 9, 65]), (.iload_n 1, 0, 0, 0, []), (.bipush 10, 0, 0, 10, []), (.isub, 0, 0, 0, []), (.invokevirtual 136, 15, 2, 0, [1, 4, 2, 595, 394, 52, 395, 396]), (.ifCond .eq 17, 8, 0, 0, []), (.aload_n 0, 0, 0, 0, []), (.getfield 24, 2, 2, 0, [7, 9, 65]), (.iload_n 1, 0, 0, 0, []), (.bipush 10, 0, 0, 10, []), (.isub, 0, 0, 0, []), (.invokevirtual 139, 20, 2, 0, [1, 4, 2, 596, 402, 52, 403, 404]), (.goto 5, 9, 0, 0, [])]
def zc_99_8 : List zi_I := [(.bipush (-9), 0, 0, -9, []), (.nop, 9, 0, 0, [])]
def zc_99_9 : List zi_I := [(.ireturn, 0, 0, 0, [])]
def zc_99 : zi_D := ((yX7_ofTrialDay, cX7_ofTrialDay, 3, (some .int)), (2, 43, 0, 0), [zc_99_0, zc_99_1, zc_99_2, zc_99_3, zc_99_4, zc_99_5, zc_99_6, zc_99_7, zc_99_8, zc_99_9], [0, 52, 67, 75, 84, 88, 89, 104, 132, 134])
def zc_100_0 : List zi_I := [(.aload_n 0, 0, 0, 0, []), (.getfield 24, 2, 2, 0, [7, 9, 65]), (.invokevirtual 88, 22, 1, 0, [1, 4, 2, 568, 569, 52, 570, 571]), (.bipush (-9), 0, 0, -9, []), (.if_icmp .ne 23, 1, 0, 0, []), (.aload_n 0, 0, 0, 0, []), (.getfield 44, 5, 2, 0, [7, 9, 86]), (.aload_n 0, 0, 0, 0, []), (.getfield 24, 2, 2, 0, [7, 9, 65]), (.invokevirtual 293, 35, 2, 0, [3, 3, 4, 704, 705, 82, 706, 707]), (.ifCond .eq 9, 1, 0, 0, []), (.iconst 1, 0, 0, 1, []), (.iload_n 1, 0, 0, 0, []), (.ishl, 0, 0, 0, []), (.goto 4, 2, 0, 0, [])]
def zc_100_1 : List zi_I := [(.iconst 0, 0, 0, 0, []), (.nop, 2, 0, 0, [])]
def zc_100_2 : List zi_I := [(.ireturn, 0, 0, 0, [])]
def zc_100 : zi_D := ((yX7_bitIfTrialCanBe, cX7_bitIfTrialCanBe, 2, (some .int)), (3, 68, 0, 0), [zc_100_0, zc_100_1, zc_100_2], [0, 32, 33])
def zc_101_0 : List zi_I := [(.bipush 60, 0, 0, 60, []), (.istore_n 2, 0, 0, 0, []), (.nop, 1, 0, 0, [])]
def zc_101_1 : List zi_I := [(.iload_n 2, 0, 0, 0, []), (.iconst 1, 0, 0, 1, []), (.if_icmp .le 25, 3, 0, 0, []), (.iload_n 0, 0, 0, 0, []), (.iload_n 2, 0, 0, 0, []), (.irem, 0, 0, 0, []), (.ifCond .ne 13, 2, 0, 0, []), (.iload_n 1, 0, 0, 0, []), (.iload_n 2, 0, 0, 0, []), (.irem, 0, 0, 0, []), (.ifCond .ne 7, 2, 0, 0, []), (.iload_n 0, 0, 0, 0, []), (.iload_n 2, 0, 0, 0, []), (.idiv, 0, 0, 0, []), (.ireturn, 0, 0, 0, [])]
def zc_101_2 : List zi_I := [(.iinc 2 (-1), 0, 0, -1, []), (.goto (-24), 1, 0, 0, [])]
def zc_101_3 : List zi_I := [(.iload_n 0, 0, 0, 0, []), (.ireturn, 0, 0, 0, [])]
def zc_101 : zi_D := ((yX7_inLeastTerms, cX7_inLeastTerms, 3, (some .int)), (0, 0, 0, 0), [zc_101_0, zc_101_1, zc_101_2, zc_101_3], [0, 3, 24, 30])
def zc_102_0 : List zi_I := [(.aload_n 0, 0, 0, 0, []), (.bipush 31, 0, 0, 31, []), (.aload_n 0, 0, 0, 0, []), (.getfield 55, 7, 0, 0, [7, 9, 94]), (.imul, 0, 0, 0, []), (.iload_n 1, 0, 0, 0, []), (.iadd, 0, 0, 0, []), (.putfield 55, 7, 0, 0, [7, 9, 94]), (.return_, 0, 0, 0, [])]
def zc_102 : zi_D := ((yX7_leaveInTrace, cX7_leaveInTrace, 2, none), (0, 0, 0, 0), [zc_102_0], [0])
def zc_103_0 : List zi_I := [(.aload_n 0, 0, 0, 0, []), (.iconst 1, 0, 0, 1, []), (.invokevirtual 297, 102, 2, 0, [7, 9, 2, 708, 709, 129, 710, 711]), (.iload_n 1, 0, 0, 0, []), (.ireturn, 0, 0, 0, [])]
def zc_103 : zi_D := ((yX7_tellPlain, cX7_tellPlain, 2, (some .int)), (1, 21, 0, 0), [zc_103_0], [0])
def zc_104_0 : List zi_I := [(.aload_n 0, 0, 0, 0, []), (.iconst 2, 0, 0, 2, []), (.invokevirtual 297, 102, 2, 0, [7, 9, 2, 708, 709, 129, 710, 711]), (.aload_n 0, 0, 0, 0, []), (.iload_n 1, 0, 0, 0, []), (.invokevirtual 278, 103, 2, 0, [7, 9, 2, 684, 685, 129, 686, 687]), (.bipush 100, 0, 0, 100, []), (.iadd, 0, 0, 0, []), (.ireturn, 0, 0, 0, [])]
def zc_104 : zi_D := ((yX7_tellBrushed, cX7_tellBrushed, 2, (some .int)), (2, 42, 0, 0), [zc_104_0], [0])
def zc_105_0 : List zi_I := [(.aload_n 0, 0, 0, 0, []), (.iconst 3, 0, 0, 3, []), (.invokevirtual 297, 102, 2, 0, [7, 9, 2, 708, 709, 129, 710, 711]), (.aload_n 0, 0, 0, 0, []), (.iload_n 1, 0, 0, 0, []), (.invokevirtual 275, 104, 2, 0, [7, 9, 2, 680, 681, 129, 682, 683]), (.istore_n 2, 0, 0, 0, []), (.iload_n 2, 0, 0, 0, []), (.aload_n 0, 0, 0, 0, []), (.iload_n 1, 0, 0, 0, []), (.invokevirtual 278, 103, 2, 0, [7, 9, 2, 684, 685, 129, 686, 687]), (.iadd, 0, 0, 0, []), (.ireturn, 0, 0, 0, [])]
def zc_105 : zi_D := ((yX7_tellTwined, cX7_tellTwined, 3, (some .int)), (3, 63, 0, 0), [zc_105_0], [0])
def zc_106_0 : List zi_I := [(.aload_n 0, 0, 0, 0, []), (.iconst 4, 0, 0, 4, []), (.invokevirtual 297, 102, 2, 0, [7, 9, 2, 708, 709, 129, 710, 711]), (.iload_n 1, 0, 0, 0, []), (.ireturn, 0, 0, 0, [])]
def zc_106 : zi_D := ((yX7_tugLent, cX7_tugLent, 2, (some .int)), (1, 21, 0, 0), [zc_106_0], [0])
def zc_107_0 : List zi_I := [(.aload_n 0, 0, 0, 0, []), (.iconst 5, 0, 0, 5, []), (.invokevirtual 297, 102, 2, 0, [7, 9, 2, 708, 709, 129, 710, 711]), (.bipush 50, 0, 0, 50, []), (.ireturn, 0, 0, 0, [])]
def zc_107 : zi_D := ((yX7_tugTwined, cX7_tugTwined, 1, (some .int)), (1, 21, 0, 0), [zc_107_0], [0])
def zc_108_0 : List zi_I := [(.iload_n 1, 0, 0, 0, []), (.iconst 1, 0, 0, 1, []), (.if_icmp .lt 9, 1, 0, 0, []), (.iload_n 0, 0, 0, 0, []), (.iload_n 1, 0, 0, 0, []), (.irem, 0, 0, 0, []), (.ifCond .eq 5, 2, 0, 0, []), (.nop, 1, 0, 0, [])]
def zc_108_1 : List zi_I := [(.iconst 0, 0, 0, 0, []), (.ireturn, 0, 0, 0, [])]
def zc_108_2 : List zi_I := [(.iload_n 0, 0, 0, 0, []), (.iload_n 1, 0, 0, 0, []), (.idiv, 0, 0, 0, []), (.iload_n 2, 0, 0, 0, []), (.imul, 0, 0, 0, []), (.istore_n 3, 0, 0, 0, []), (.iload_n 3, 0, 0, 0, []), (.bipush 60, 0, 0, 60, []), (.if_icmp .le 7, 3, 0, 0, []), (.iconst 0, 0, 0, 0, []), (.goto 4, 4, 0, 0, [])]
def zc_108_3 : List zi_I := [(.iload_n 3, 0, 0, 0, []), (.nop, 4, 0, 0, [])]
def zc_108_4 : List zi_I := [(.ireturn, 0, 0, 0, [])]
def zc_108 : zi_D := ((yX7_loopsUpon, cX7_loopsUpon, 4, (some .int)), (0, 0, 0, 0), [zc_108_0, zc_108_1, zc_108_2, zc_108_3, zc_108_4], [0, 11, 13, 29, 30])
def zc_109_0 : List zi_I := [(.aload_n 0, 0, 0, 0, []), (.iload_n 1, 0, 0, 0, []), (.putfield 86, 0, 0, 0, [8, 33, 712]), (.bipush (-10), 0, 0, -10, []), (.iload_n 1, 0, 0, 0, []), (.isub, 0, 0, 0, []), (.ireturn, 0, 0, 0, [])]
def zc_109 : zi_D := ((yX8_fails, cX8_fails, 2, (some .int)), (0, 0, 0, 0), [zc_109_0], [0])
def zc_110_0 : List zi_I := [(.aload_n 0, 0, 0, 0, []), (.iload_n 1, 0, 0, 0, []), (.putfield 86, 0, 0, 0, [8, 33, 712]), (.ldc2_w 90, 0, 0, 0, [713]), (.lreturn, 0, 0, 0, [])]
def zc_110 : zi_D := ((yX8_lost, cX8_lost, 2, (some .long)), (0, 0, 0, 0), [zc_110_0], [0])
def zc_111_0 : List zi_I := [(.iload_n 0, 0, 0, 0, []), (.iload_n 1, 0, 0, 0, []), (.if_icmp .lt 12, 1, 0, 0, []), (.iload_n 0, 0, 0, 0, []), (.iload_n 2, 0, 0, 0, []), (.if_icmp .gt 7, 1, 0, 0, []), (.iconst 1, 0, 0, 1, []), (.goto 4, 2, 0, 0, [])]
def zc_111_1 : List zi_I := [(.iconst 0, 0, 0, 0, []), (.nop, 2, 0, 0, [])]
def zc_111_2 : List zi_I := [(.ireturn, 1, 0, 0, [])]
def zc_111 : zi_D := ((yX8_within, cX8_within, 3, (some .boolean)), (0, 0, 0, 0), [zc_111_0, zc_111_1, zc_111_2], [0, 14, 15])
def zc_112_0 : List zi_I := [(.iload_n 0, 0, 0, 0, []), (.iconst 0, 0, 0, 0, []), (.iconst 3, 0, 0, 3, []), (.invokestatic 92, 111, 3, 0, [3, 714, 715, 135, 716]), (.ireturn, 1, 0, 0, [])]
def zc_112 : zi_D := ((yX8_isSheet, cX8_isSheet, 1, (some .boolean)), (1, 22, 0, 0), [zc_112_0], [0])
def zc_113_0 : List zi_I := [(.iload_n 0, 0, 0, 0, []), (.iconst 0, 0, 0, 0, []), (.iconst 2, 0, 0, 2, []), (.invokestatic 92, 111, 3, 0, [3, 714, 715, 135, 716]), (.ireturn, 1, 0, 0, [])]
def zc_113 : zi_D := ((yX8_isSort, cX8_isSort, 1, (some .boolean)), (1, 22, 0, 0), [zc_113_0], [0])
def zc_114_0 : List zi_I := [(.aload_n 0, 0, 0, 0, []), (.getfield 9, 2, 2, 0, [8, 33, 102]), (.iload_n 1, 0, 0, 0, []), (.iaload, 0, 0, 0, []), (.bipush (-9), 0, 0, -9, []), (.if_icmp .eq 15, 1, 0, 0, []), (.aload_n 0, 0, 0, 0, []), (.getfield 9, 2, 2, 0, [8, 33, 102]), (.iload_n 1, 0, 0, 0, []), (.iaload, 0, 0, 0, []), (.iload_n 2, 0, 0, 0, []), (.if_icmp .eq 5, 1, 0, 0, []), (.iconst 2, 0, 0, 2, []), (.ireturn, 0, 0, 0, [])]
def zc_114_1 : List zi_I := [(.aload_n 0, 0, 0, 0, []), (.getfield 9, 2, 2, 0, [8, 33, 102]), (.iload_n 1, 0, 0, 0, []), (.iaload, 0, 0, 0, []), (.bipush (-9), 0, 0, -9, []), (.if_icmp .ne 5, 2, 0, 0, []), (.iconst 1, 0, 0, 1, []), (.ireturn, 0, 0, 0, [])]
def zc_114_2 : List zi_I := [(.iload 4, 0, 0, 0, []), (.ifCond .ge 5, 3, 0, 0, []), (.iconst 4, 0, 0, 4, []), (.ireturn, 0, 0, 0, [])]
def zc_114_3 : List zi_I := [(.iload_n 3, 0, 0, 0, []), (.ifCond .lt 26, 4, 0, 0, []), (.iload_n 3, 0, 0, 0, []), (.aload_n 0, 0, 0, 0, []), (.getfield 13, 3, 2, 0, [8, 33, 103]), (.iload_n 1, 0, 0, 0, []), (.iaload, 0, 0, 0, []), (.if_icmp .gt 16, 4, 0, 0, []), (.iload 4, 0, 0, 0, []), (.aload_n 0, 0, 0, 0, []), (.getfield 13, 3, 2, 0, [8, 33, 103]), (.iload_n 1, 0, 0, 0, []), (.iaload, 0, 0, 0, []), (.iload_n 3, 0, 0, 0, []), (.isub, 0, 0, 0, []), (.if_icmp .le 7, 5, 0, 0, []), (.nop, 4, 0, 0, [])]
def zc_114_4 : List zi_I := [(.iconst 3, 0, 0, 3, []), (.goto 4, 6, 0, 0, [])]
def zc_114_5 : List zi_I := [(.iconst 0, 0, 0, 0, []), (.nop, 6, 0, 0, [])]
def zc_114_6 : List zi_I := [(.ireturn, 0, 0, 0, [])]
def zc_114 : zi_D := ((yX8_against, cX8_against, 5, (some .int)), (0, 0, 0, 0), [zc_114_0, zc_114_1, zc_114_2, zc_114_3, zc_114_4, zc_114_5, zc_114_6], [0, 23, 36, 43, 70, 74, 75])
def zc_115_0 : List zi_I := [(.aload_n 0, 0, 0, 0, []), (.getfield 19, 6, 2, 0, [8, 33, 105]), (.iconst 0, 0, 0, 0, []), (.iaload, 0, 0, 0, []), (.ifCond .le 7, 1, 0, 0, []), (.iconst 1, 0, 0, 1, []), (.goto 4, 2, 0, 0, [])]
def zc_115_1 : List zi_I := [(.iconst 0, 0, 0, 0, []), (.nop, 2, 0, 0, [])]
def zc_115_2 : List zi_I := [(.ireturn, 1, 0, 0, [])]
def zc_115 : zi_D := ((yX8_isPiece, cX8_isPiece, 1, (some .boolean)), (0, 0, 0, 0), [zc_115_0, zc_115_1, zc_115_2], [0, 13, 14])
def zc_116_0 : List zi_I := [(.iload_n 1, 0, 0, 0, []), (.iconst 1, 0, 0, 1, []), (.if_icmp .lt 15, 1, 0, 0, []), (.iload_n 1, 0, 0, 0, []), (.aload_n 0, 0, 0, 0, []), (.getfield 96, 5, 0, 0, [8, 33, 717]), (.if_icmp .gt 7, 1, 0, 0, []), (.iconst 1, 0, 0, 1, []), (.goto 4, 2, 0, 0, [])]
def zc_116_1 : List zi_I := [(.iconst 0, 0, 0, 0, []), (.nop, 2, 0, 0, [])]
def zc_116_2 : List zi_I := [(.ireturn, 1, 0, 0, [])]
def zc_116 : zi_D := ((yX8_isRound, cX8_isRound, 2, (some .boolean)), (0, 0, 0, 0), [zc_116_0, zc_116_1, zc_116_2], [0, 17, 18])
def zc_117_0 : List zi_I := [(.iload_n 0, 0, 0, 0, []), (.iload_n 1, 0, 0, 0, []), (.ishr, 0, 0, 0, []), (.iconst 1, 0, 0, 1, []), (.iand, 0, 0, 0, []), (.iconst 1, 0, 0, 1, []), (.if_icmp .ne 7, 1, 0, 0, []), (.iconst 1, 0, 0, 1, []), (.goto 4, 2, 0, 0, [])]
def zc_117_1 : List zi_I := [(.iconst 0, 0, 0, 0, []), (.nop, 2, 0, 0, [])]
def zc_117_2 : List zi_I := [(.ireturn, 1, 0, 0, [])]
def zc_117 : zi_D := ((yX8_isOf, cX8_isOf, 2, (some .boolean)), (0, 0, 0, 0), [zc_117_0, zc_117_1, zc_117_2], [0, 13, 14])
def zc_118_0 : List zi_I := [(.iload_n 0, 0, 0, 0, []), (.iconst 2, 0, 0, 2, []), (.if_icmp .ne 7, 1, 0, 0, []), (.iconst 2, 0, 0, 2, []), (.goto 13, 3, 0, 0, [])]
def zc_118_1 : List zi_I := [(.iload_n 0, 0, 0, 0, []), (.iconst 3, 0, 0, 3, []), (.if_icmp .ne 7, 2, 0, 0, []), (.iconst 0, 0, 0, 0, []), (.goto 4, 3, 0, 0, [])]
def zc_118_2 : List zi_I := [(.iconst 1, 0, 0, 1, []), (.nop, 3, 0, 0, [])]
def zc_118_3 : List zi_I := [(.ireturn, 0, 0, 0, [])]
def zc_118 : zi_D := ((yX8_usedBy, cX8_usedBy, 1, (some .int)), (0, 0, 0, 0), [zc_118_0, zc_118_1, zc_118_2, zc_118_3], [0, 9, 18, 19])
def zc_119_0 : List zi_I := [(.iload_n 0, 0, 0, 0, []), (.iconst 1, 0, 0, 1, []), (.if_icmp .ne 7, 1, 0, 0, []), (.iconst 2, 0, 0, 2, []), (.goto 13, 3, 0, 0, [])]
def zc_119_1 : List zi_I := [(.iload_n 0, 0, 0, 0, []), (.iconst 4, 0, 0, 4, []), (.if_icmp .ne 7, 2, 0, 0, []), (.iconst 0, 0, 0, 0, []), (.goto 4, 3, 0, 0, [])]
def zc_119_2 : List zi_I := [(.iconst 1, 0, 0, 1, []), (.nop, 3, 0, 0, [])]
def zc_119_3 : List zi_I := [(.ireturn, 0, 0, 0, [])]
def zc_119 : zi_D := ((yX8_madeBy, cX8_madeBy, 1, (some .int)), (0, 0, 0, 0), [zc_119_0, zc_119_1, zc_119_2, zc_119_3], [0, 9, 18, 19])
def zc_120_0 : List zi_I := [(.aload_n 0, 0, 0, 0, []), (.getfield 99, 11, 0, 0, [8, 33, 718]), (.iload_n 1, 0, 0, 0, []), (.if_icmp .ge 26, 1, 0, 0, []), (.aload_n 0, 0, 0, 0, []), (.getfield 16, 4, 2, 0, [8, 33, 104]), (.aload_n 0, 0, 0, 0, []), (.getfield 99, 11, 0, 0, [8, 33, 718]), (.iaload, 0, 0, 0, []), (.bipush 48, 0, 0, 48, []), (.iload_n 2, 0, 0, 0, []), (.iadd, 0, 0, 0, []), (.bipush 48, 0, 0, 48, []), (.iload_n 3, 0, 0, 0, []), (.iadd, 0, 0, 0, []), (.invokestatic 92, 111, 3, 0, [3, 714, 715, 135, 716]), (.ifCond .ne 6, 2, 0, 0, []), (.nop, 1, 0, 0, [])]
def zc_120_1 : List zi_I := [(.bipush (-9), 0, 0, -9, []), (.ireturn, 0, 0, 0, [])]
def zc_120_2 : List zi_I := [(.aload_n 0, 0, 0, 0, []), (.dup, 0, 0, 0, []), (.getfield 99, 11, 0, 0, [8, 33, 718]), (.iconst 1, 0, 0, 1, []), (.iadd, 0, 0, 0, []), (.putfield 99, 11, 0, 0, [8, 33, 718]), (.aload_n 0, 0, 0, 0, []), (.getfield 16, 4, 2, 0, [8, 33, 104]), (.aload_n 0, 0, 0, 0, []), (.getfield 99, 11, 0, 0, [8, 33, 718]), (.iconst 1, 0, 0, 1, []), (.isub, 0, 0, 0, []), (.iaload, 0, 0, 0, []), (.bipush 48, 0, 0, 48, []), (.isub, 0, 0, 0, []), (.ireturn, 0, 0, 0, [])]
def zc_120 : zi_D := ((yX8_digit, cX8_digit, 4, (some .int)), (1, 22, 0, 0), [zc_120_0, zc_120_1, zc_120_2], [0, 31, 34])
def zc_121_0 : List zi_I := [(.aload_n 0, 0, 0, 0, []), (.getfield 99, 11, 0, 0, [8, 33, 718]), (.iload_n 1, 0, 0, 0, []), (.if_icmp .ge 16, 1, 0, 0, []), (.aload_n 0, 0, 0, 0, []), (.getfield 16, 4, 2, 0, [8, 33, 104]), (.aload_n 0, 0, 0, 0, []), (.getfield 99, 11, 0, 0, [8, 33, 718]), (.iaload, 0, 0, 0, []), (.iload_n 2, 0, 0, 0, []), (.if_icmp .eq 5, 2, 0, 0, []), (.nop, 1, 0, 0, [])]
def zc_121_1 : List zi_I := [(.iconst 0, 0, 0, 0, []), (.ireturn, 1, 0, 0, [])]
def zc_121_2 : List zi_I := [(.aload_n 0, 0, 0, 0, []), (.dup, 0, 0, 0, []), (.getfield 99, 11, 0, 0, [8, 33, 718]), (.iconst 1, 0, 0, 1, []), (.iadd, 0, 0, 0, []), (.putfield 99, 11, 0, 0, [8, 33, 718]), (.iconst 1, 0, 0, 1, []), (.ireturn, 1, 0, 0, [])]
def zc_121 : zi_D := ((yX8_isSign, cX8_isSign, 3, (some .boolean)), (0, 0, 0, 0), [zc_121_0, zc_121_1, zc_121_2], [0, 21, 23])
def zc_122_0 : List zi_I := [(.aload_n 0, 0, 0, 0, []), (.iconst 0, 0, 0, 0, []), (.putfield 86, 0, 0, 0, [8, 33, 712]), (.iload_n 1, 0, 0, 0, []), (.invokestatic 102, 112, 1, 0, [1, 719, 720, 135, 721]), (.ifCond .ne 5, 1, 0, 0, []), (.iconst (-1), 0, 0, -1, []), (.ireturn, 0, 0, 0, [])]
def zc_122_1 : List zi_I := [(.iload_n 2, 0, 0, 0, []), (.invokestatic 106, 113, 1, 0, [1, 722, 723, 135, 724]), (.ifCond .ne 6, 2, 0, 0, []), (.bipush (-2), 0, 0, -2, []), (.ireturn, 0, 0, 0, [])]
def zc_122_2 : List zi_I := [(.aload_n 0, 0, 0, 0, []), (.iload_n 1, 0, 0, 0, []), (.iload_n 2, 0, 0, 0, []), (.iload_n 3, 0, 0, 0, []), (.iload 4, 0, 0, 0, []), (.invokevirtual 109, 114, 5, 0, [8, 33, 5, 725, 726, 135, 727, 728]), (.istore 5, 0, 0, 0, []), (.iload 5, 0, 0, 0, []), (.ifCond .eq 10, 3, 0, 0, []), (.aload_n 0, 0, 0, 0, []), (.iload 5, 0, 0, 0, []), (.invokevirtual 113, 109, 2, 0, [8, 33, 2, 729, 730, 135, 731, 732]), (.ireturn, 0, 0, 0, [])]
def zc_122_3 : List zi_I := [(.bipush 60, 0, 0, 60, []), (.iload_n 1, 0, 0, 0, []), (.imul, 0, 0, 0, []), (.iload_n 3, 0, 0, 0, []), (.iadd, 0, 0, 0, []), (.istore 6, 0, 0, 0, []), (.aload_n 0, 0, 0, 0, []), (.iload 6, 0, 0, 0, []), (.putfield 99, 11, 0, 0, [8, 33, 718]), (.aload_n 0, 0, 0, 0, []), (.iload 6, 0, 0, 0, []), (.iload 4, 0, 0, 0, []), (.iadd, 0, 0, 0, []), (.invokevirtual 117, 124, 2, 0, [8, 33, 2, 733, 734, 135, 735, 736]), (.ifCond .ne 14, 4, 0, 0, []), (.bipush (-100), 0, 0, -100, []), (.aload_n 0, 0, 0, 0, []), (.getfield 99, 11, 0, 0, [8, 33, 718]), (.iload 6, 0, 0, 0, []), (.isub, 0, 0, 0, []), (.isub, 0, 0, 0, []), (.ireturn, 0, 0, 0, [])]
def zc_122_4 : List zi_I := [(.aload_n 0, 0, 0, 0, []), (.getfield 120, 13, 0, 0, [8, 33, 737]), (.istore 7, 0, 0, 0, []), (.iconst 1, 0, 0, 1, []), (.istore 8, 0, 0, 0, []), (.nop, 5, 0, 0, [])]
def zc_122_5 : List zi_I := [(.iload 8, 0, 0, 0, []), (.aload_n 0, 0, 0, 0, []), (.getfield 123, 12, 0, 0, [8, 33, 738]), (.if_icmp .gt 45, 7, 0, 0, []), (.iload 7, 0, 0, 0, []), (.aload_n 0, 0, 0, 0, []), (.getfield 43, 17, 2, 0, [8, 33, 113]), (.iconst 5, 0, 0, 5, []), (.iload 8, 0, 0, 0, []), (.imul, 0, 0, 0, []), (.aload_n 0, 0, 0, 0, []), (.getfield 40, 16, 2, 0, [8, 33, 112]), (.iload 8, 0, 0, 0, []), (.iaload, 0, 0, 0, []), (.invokestatic 126, 127, 4, 0, [7, 739, 740, 135, 741]), (.istore 7, 0, 0, 0, []), (.iload 7, 0, 0, 0, []), (.bipush (-9), 0, 0, -9, []), (.if_icmp .ne 10, 6, 0, 0, []), (.sipush (-200), 0, 0, -200, []), (.iload 8, 0, 0, 0, []), (.isub, 0, 0, 0, []), (.ireturn, 0, 0, 0, [])]
def zc_122_6 : List zi_I := [(.iinc 8 1, 0, 0, 1, []), (.goto (-48), 5, 0, 0, [])]
def zc_122_7 : List zi_I := [(.aload_n 0, 0, 0, 0, []), (.invokevirtual 130, 123, 1, 0, [8, 33, 3, 742, 743, 135, 744, 745]), (.aload_n 0, 0, 0, 0, []), (.getfield 96, 5, 0, 0, [8, 33, 717]), (.ireturn, 0, 0, 0, [])]
def zc_122 : zi_D := ((yX8_piece, cX8_piece, 9, (some .int)), (4, 89, 0, 0), [zc_122_0, zc_122_1, zc_122_2, zc_122_3, zc_122_4, zc_122_5, zc_122_6, zc_122_7], [0, 14, 24, 47, 84, 93, 138, 144])
def zc_123_0 : List zi_I := [(.aload_n 0, 0, 0, 0, []), (.aload_n 0, 0, 0, 0, []), (.getfield 123, 12, 0, 0, [8, 33, 738]), (.putfield 96, 5, 0, 0, [8, 33, 717]), (.aload_n 0, 0, 0, 0, []), (.getfield 19, 6, 2, 0, [8, 33, 105]), (.iconst 0, 0, 0, 0, []), (.aload_n 0, 0, 0, 0, []), (.getfield 120, 13, 0, 0, [8, 33, 737]), (.iastore, 0, 0, 0, []), (.iconst 1, 0, 0, 1, []), (.istore_n 1, 0, 0, 0, []), (.nop, 1, 0, 0, [])]
def zc_123_1 : List zi_I := [(.iload_n 1, 0, 0, 0, []), (.aload_n 0, 0, 0, 0, []), (.getfield 96, 5, 0, 0, [8, 33, 717]), (.if_icmp .gt 108, 4, 0, 0, []), (.aload_n 0, 0, 0, 0, []), (.getfield 22, 7, 2, 0, [8, 33, 106]), (.iload_n 1, 0, 0, 0, []), (.aload_n 0, 0, 0, 0, []), (.getfield 34, 14, 2, 0, [8, 33, 110]), (.iload_n 1, 0, 0, 0, []), (.iaload, 0, 0, 0, []), (.iastore, 0, 0, 0, []), (.aload_n 0, 0, 0, 0, []), (.getfield 25, 8, 2, 0, [8, 33, 107]), (.iload_n 1, 0, 0, 0, []), (.aload_n 0, 0, 0, 0, []), (.getfield 37, 15, 2, 0, [8, 33, 111]), (.iload_n 1, 0, 0, 0, []), (.iaload, 0, 0, 0, []), (.iastore, 0, 0, 0, []), (.aload_n 0, 0, 0, 0, []), (.getfield 28, 9, 2, 0, [8, 33, 108]), (.iload_n 1, 0, 0, 0, []), (.aload_n 0, 0, 0, 0, []), (.getfield 40, 16, 2, 0, [8, 33, 112]), (.iload_n 1, 0, 0, 0, []), (.iaload, 0, 0, 0, []), (.iastore, 0, 0, 0, []), (.iconst 0, 0, 0, 0, []), (.istore_n 2, 0, 0, 0, []), (.nop, 2, 0, 0, [])]
def zc_123_2 : List zi_I := [(.iload_n 2, 0, 0, 0, []), (.iconst 5, 0, 0, 5, []), (.if_icmp .ge 29, 3, 0, 0, []), (.aload_n 0, 0, 0, 0, []), (.getfield 31, 10, 2, 0, [8, 33, 109]), (.iconst 5, 0, 0, 5, []), (.iload_n 1, 0, 0, 0, []), (.imul, 0, 0, 0, []), (.iload_n 2, 0, 0, 0, []), (.iadd, 0, 0, 0, []), (.aload_n 0, 0, 0, 0, []), (.getfield 43, 17, 2, 0, [8, 33, 113]), (.iconst 5, 0, 0, 5, []), (.iload_n 1, 0, 0, 0, []), (.imul, 0, 0, 0, []), (.iload_n 2, 0, 0, 0, []), (.iadd, 0, 0, 0, []), (.iaload, 0, 0, 0, []), (.iastore, 0, 0, 0, []), (.iinc 2 1, 0, 0, 1, []), (.goto (-28), 2, 0, 0, [])]
def zc_123_3 : List zi_I := [(.aload_n 0, 0, 0, 0, []), (.getfield 19, 6, 2, 0, [8, 33, 105]), (.iload_n 1, 0, 0, 0, []), (.aload_n 0, 0, 0, 0, []), (.getfield 19, 6, 2, 0, [8, 33, 105]), (.iload_n 1, 0, 0, 0, []), (.iconst 1, 0, 0, 1, []), (.isub, 0, 0, 0, []), (.iaload, 0, 0, 0, []), (.aload_n 0, 0, 0, 0, []), (.getfield 31, 10, 2, 0, [8, 33, 109]), (.iconst 5, 0, 0, 5, []), (.iload_n 1, 0, 0, 0, []), (.imul, 0, 0, 0, []), (.aload_n 0, 0, 0, 0, []), (.getfield 28, 9, 2, 0, [8, 33, 108]), (.iload_n 1, 0, 0, 0, []), (.iaload, 0, 0, 0, []), (.invokestatic 126, 127, 4, 0, [7, 739, 740, 135, 741]), (.iastore, 0, 0, 0, []), (.iinc 1 1, 0, 0, 1, []), (.goto (-110), 1, 0, 0, [])]
def zc_123_4 : List zi_I := [(.aload_n 0, 0, 0, 0, []), (.iconst 0, 0, 0, 0, []), (.putfield 133, 30, 0, 0, [8, 33, 746]), (.return_, 0, 0, 0, [])]
def zc_123 : zi_D := ((yX8_takePiece, cX8_takePiece, 3, none), (2, 48, 0, 0), [zc_123_0, zc_123_1, zc_123_2, zc_123_3, zc_123_4], [0, 20, 66, 97, 133])
def zc_124_0 : List zi_I := [(.aload_n 0, 0, 0, 0, []), (.iconst 0, 0, 0, 0, []), (.putfield 123, 12, 0, 0, [8, 33, 738]), (.aload_n 0, 0, 0, 0, []), (.iload_n 1, 0, 0, 0, []), (.bipush 114, 0, 0, 114, []), (.invokevirtual 136, 121, 3, 0, [8, 33, 3, 747, 748, 135, 749, 750]), (.ifCond .ne 5, 1, 0, 0, []), (.iconst 0, 0, 0, 0, []), (.ireturn, 1, 0, 0, [])]
def zc_124_1 : List zi_I := [(.aload_n 0, 0, 0, 0, []), (.aload_n 0, 0, 0, 0, []), (.iload_n 1, 0, 0, 0, []), (.iconst 3, 0, 0, 3, []), (.bipush 8, 0, 0, 8, []), (.invokevirtual 140, 120, 4, 0, [8, 33, 4, 751, 752, 135, 753, 754]), (.putfield 120, 13, 0, 0, [8, 33, 737]), (.aload_n 0, 0, 0, 0, []), (.getfield 120, 13, 0, 0, [8, 33, 737]), (.bipush (-9), 0, 0, -9, []), (.if_icmp .ne 5, 2, 0, 0, []), (.iconst 0, 0, 0, 0, []), (.ireturn, 1, 0, 0, [])]
def zc_124_2 : List zi_I := [(.aload_n 0, 0, 0, 0, []), (.getfield 123, 12, 0, 0, [8, 33, 738]), (.ifCond .eq 20, 3, 0, 0, []), (.aload_n 0, 0, 0, 0, []), (.getfield 123, 12, 0, 0, [8, 33, 738]), (.bipush 6, 0, 0, 6, []), (.if_icmp .ge 50, 6, 0, 0, []), (.aload_n 0, 0, 0, 0, []), (.getfield 99, 11, 0, 0, [8, 33, 718]), (.iload_n 1, 0, 0, 0, []), (.if_icmp .ge 42, 6, 0, 0, []), (.nop, 3, 0, 0, [])]
def zc_124_3 : List zi_I := [(.aload_n 0, 0, 0, 0, []), (.iload_n 1, 0, 0, 0, []), (.bipush 59, 0, 0, 59, []), (.invokevirtual 136, 121, 3, 0, [8, 33, 3, 747, 748, 135, 749, 750]), (.ifCond .eq 17, 4, 0, 0, []), (.aload_n 0, 0, 0, 0, []), (.iload_n 1, 0, 0, 0, []), (.aload_n 0, 0, 0, 0, []), (.getfield 123, 12, 0, 0, [8, 33, 738]), (.iconst 1, 0, 0, 1, []), (.iadd, 0, 0, 0, []), (.invokevirtual 144, 125, 3, 0, [8, 33, 4, 755, 756, 135, 757, 758]), (.ifCond .ne 5, 5, 0, 0, []), (.nop, 4, 0, 0, [])]
def zc_124_4 : List zi_I := [(.iconst 0, 0, 0, 0, []), (.ireturn, 1, 0, 0, [])]
def zc_124_5 : List zi_I := [(.aload_n 0, 0, 0, 0, []), (.dup, 0, 0, 0, []), (.getfield 123, 12, 0, 0, [8, 33, 738]), (.iconst 1, 0, 0, 1, []), (.iadd, 0, 0, 0, []), (.putfield 123, 12, 0, 0, [8, 33, 738]), (.goto (-60), 2, 0, 0, [])]
def zc_124_6 : List zi_I := [(.aload_n 0, 0, 0, 0, []), (.getfield 99, 11, 0, 0, [8, 33, 718]), (.iload_n 1, 0, 0, 0, []), (.if_icmp .ne 7, 7, 0, 0, []), (.iconst 1, 0, 0, 1, []), (.goto 4, 8, 0, 0, [])]
def zc_124_7 : List zi_I := [(.iconst 0, 0, 0, 0, []), (.nop, 8, 0, 0, [])]
def zc_124_8 : List zi_I := [(.ireturn, 1, 0, 0, [])]
def zc_124 : zi_D := ((yX8_readPiece, cX8_readPiece, 2, (some .boolean)), (3, 68, 0, 0), [zc_124_0, zc_124_1, zc_124_2, zc_124_3, zc_124_4, zc_124_5, zc_124_6, zc_124_7, zc_124_8], [0, 17, 40, 64, 88, 90, 103, 115, 116])
def zc_125_0 : List zi_I := [(.aload_n 0, 0, 0, 0, []), (.getfield 99, 11, 0, 0, [8, 33, 718]), (.iload_n 1, 0, 0, 0, []), (.if_icmp .ge 15, 1, 0, 0, []), (.aload_n 0, 0, 0, 0, []), (.getfield 16, 4, 2, 0, [8, 33, 104]), (.aload_n 0, 0, 0, 0, []), (.getfield 99, 11, 0, 0, [8, 33, 718]), (.iaload, 0, 0, 0, []), (.goto 4, 2, 0, 0, [])]
def zc_125_1 : List zi_I := [(.iconst 0, 0, 0, 0, []), (.nop, 2, 0, 0, [])]
def zc_125_2 : List zi_I := [(.istore_n 3, 0, 0, 0, []), (.aload_n 0, 0, 0, 0, []), (.getfield 34, 14, 2, 0, [8, 33, 110]), (.iload_n 2, 0, 0, 0, []), (.iload_n 3, 0, 0, 0, []), (.bipush 112, 0, 0, 112, []), (.if_icmp .ne 7, 3, 0, 0, []), (.iconst 0, 0, 0, 0, []), (.goto 25, 6, 0, 0, [])]
def zc_125_3 : List zi_I := [(.iload_n 3, 0, 0, 0, []), (.bipush 98, 0, 0, 98, []), (.if_icmp .ne 7, 4, 0, 0, []), (.iconst 1, 0, 0, 1, []), (.goto 15, 6, 0, 0, [])]
def zc_125_4 : List zi_I := [(.iload_n 3, 0, 0, 0, []), (.bipush 116, 0, 0, 116, []), (.if_icmp .ne 7, 5, 0, 0, []), (.iconst 2, 0, 0, 2, []), (.goto 5, 6, 0, 0, [])]
def zc_125_5 : List zi_I := [(.bipush (-9), 0, 0, -9, []), (.nop, 6, 0, 0, [])]
def zc_125_6 : List zi_I := [(.iastore, 0, 0, 0, []), (.aload_n 0, 0, 0, 0, []), (.getfield 34, 14, 2, 0, [8, 33, 110]), (.iload_n 2, 0, 0, 0, []), (.iaload, 0, 0, 0, []), (.bipush (-9), 0, 0, -9, []), (.if_icmp .ne 5, 7, 0, 0, []), (.iconst 0, 0, 0, 0, []), (.ireturn, 1, 0, 0, [])]
def zc_125_7 : List zi_I := [(.aload_n 0, 0, 0, 0, []), (.dup, 0, 0, 0, []), (.getfield 99, 11, 0, 0, [8, 33, 718]), (.iconst 1, 0, 0, 1, []), (.iadd, 0, 0, 0, []), (.putfield 99, 11, 0, 0, [8, 33, 718]), (.aload_n 0, 0, 0, 0, []), (.getfield 37, 15, 2, 0, [8, 33, 111]), (.iload_n 2, 0, 0, 0, []), (.aload_n 0, 0, 0, 0, []), (.iload_n 1, 0, 0, 0, []), (.iconst 1, 0, 0, 1, []), (.bipush 9, 0, 0, 9, []), (.invokevirtual 140, 120, 4, 0, [8, 33, 4, 751, 752, 135, 753, 754]), (.iastore, 0, 0, 0, []), (.aload_n 0, 0, 0, 0, []), (.getfield 37, 15, 2, 0, [8, 33, 111]), (.iload_n 2, 0, 0, 0, []), (.iaload, 0, 0, 0, []), (.bipush (-9), 0, 0, -9, []), (.if_icmp .ne 5, 8, 0, 0, []), (.iconst 0, 0, 0, 0, []), (.ireturn, 1, 0, 0, [])]
def zc_125_8 : List zi_I := [(.aload_n 0, 0, 0, 0, []), (.getfield 40, 16, 2, 0, [8, 33, 112]), (.iload_n 2, 0, 0, 0, []), (.iconst 0, 0, 0, 0, []), (.iastore, 0, 0, 0, []), (.nop, 9, 0, 0, [])]
def zc_125_9 : List zi_I := [(.aload_n 0, 0, 0, 0, []), (.getfield 40, 16, 2, 0, [8, 33, 112]), (.iload_n 2, 0, 0, 0, []), (.iaload, 0, 0, 0, []), (.iconst 5, 0, 0, 5, []), (.if_icmp .ge 78, 10, 0, 0, []), (.aload_n 0, 0, 0, 0, []), (.getfield 99, 11, 0, 0, [8, 33, 718]), (.iload_n 1, 0, 0, 0, []), (.if_icmp .ge 70, 10, 0, 0, []), (.aload_n 0, 0, 0, 0, []), (.getfield 16, 4, 2, 0, [8, 33, 104]), (.aload_n 0, 0, 0, 0, []), (.getfield 99, 11, 0, 0, [8, 33, 718]), (.iaload, 0, 0, 0, []), (.invokestatic 147, 126, 1, 0, [1, 759, 760, 135, 761]), (.bipush (-9), 0, 0, -9, []), (.if_icmp .eq 53, 10, 0, 0, []), (.aload_n 0, 0, 0, 0, []), (.getfield 43, 17, 2, 0, [8, 33, 113]), (.iconst 5, 0, 0, 5, []), (.iload_n 2, 0, 0, 0, []), (.imul, 0, 0, 0, []), (.aload_n 0, 0, 0, 0, []), (.getfield 40, 16, 2, 0, [8, 33, 112]), (.iload_n 2, 0, 0, 0, []), (.iaload, 0, 0, 0, []), (.iadd, 0, 0, 0, []), (.aload_n 0, 0, 0, 0, []), (.getfield 16, 4, 2, 0, [8, 33, 104]), (.aload_n 0, 0, 0, 0, []), (.getfield 99, 11, 0, 0, [8, 33, 718]), (.iaload, 0, 0, 0, []), (.invokestatic 147, 126, 1, 0, [1, 759, 760, 135, 761]), (.iastore, 0, 0, 0, []), (.aload_n 0, 0, 0, 0, []), (.getfield 40, 16, 2, 0, [8, 33, 112]), (.iload_n 2, 0, 0, 0, []), (.dup2, 0, 0, 0, []), (.iaload, 0, 0, 0, []), (.iconst 1, 0, 0, 1, []), (.iadd, 0, 0, 0, []), (.iastore, 0, 0, 0, []), (.aload_n 0, 0, 0, 0, []), (.dup, 0, 0, 0, []), (.getfield 99, 11, 0, 0, [8, 33, 718]), (.iconst 1, 0, 0, 1, []), (.iadd, 0, 0, 0, []), (.putfield 99, 11, 0, 0, [8, 33, 718]), (.goto (-82), 9, 0, 0, [])]
def zc_125_10 : List zi_I := [(.aload_n 0, 0, 0, 0, []), (.getfield 40, 16, 2, 0, [8, 33, 112]), (.iload_n 2, 0, 0, 0, []), (.iaload, 0, 0, 0, []), (.ifCond .le 7, 11, 0, 0, []), (.iconst 1, 0, 0, 1, []), (.goto 4, 12, 0, 0, [])]
def zc_125_11 : List zi_I := [(.iconst 0, 0, 0, 0, []), (.nop, 12, 0, 0, [])]
def zc_125_12 : List zi_I := [(.ireturn, 1, 0, 0, [])]
def zc_125 : zi_D := ((yX8_readRound, cX8_readRound, 4, (some .boolean)), (2, 45, 0, 0), [zc_125_0, zc_125_1, zc_125_2, zc_125_3, zc_125_4, zc_125_5, zc_125_6, zc_125_7, zc_125_8, zc_125_9, zc_125_10, zc_125_11, zc_125_12], [0, 20, 21, 37, 47, 57, 59, 73, 110, 117, 202, 215, 216])
def zc_126_0 : List zi_I := [(.iload_n 0, 0, 0, 0, []), (.bipush 115, 0, 0, 115, []), (.if_icmp .ne 7, 1, 0, 0, []), (.iconst 0, 0, 0, 0, []), (.goto 45, 6, 0, 0, [])]
def zc_126_1 : List zi_I := [(.iload_n 0, 0, 0, 0, []), (.bipush 105, 0, 0, 105, []), (.if_icmp .ne 7, 2, 0, 0, []), (.iconst 1, 0, 0, 1, []), (.goto 35, 6, 0, 0, [])]
def zc_126_2 : List zi_I := [(.iload_n 0, 0, 0, 0, []), (.bipush 100, 0, 0, 100, []), (.if_icmp .ne 7, 3, 0, 0, []), (.iconst 2, 0, 0, 2, []), (.goto 25, 6, 0, 0, [])]
def zc_126_3 : List zi_I := [(.iload_n 0, 0, 0, 0, []), (.bipush 99, 0, 0, 99, []), (.if_icmp .ne 7, 4, 0, 0, []), (.iconst 3, 0, 0, 3, []), (.goto 15, 6, 0, 0, [])]
def zc_126_4 : List zi_I := [(.iload_n 0, 0, 0, 0, []), (.bipush 107, 0, 0, 107, []), (.if_icmp .ne 7, 5, 0, 0, []), (.iconst 4, 0, 0, 4, []), (.goto 5, 6, 0, 0, [])]
def zc_126_5 : List zi_I := [(.bipush (-9), 0, 0, -9, []), (.nop, 6, 0, 0, [])]
def zc_126_6 : List zi_I := [(.ireturn, 0, 0, 0, [])]
def zc_126 : zi_D := ((yX8_signBy, cX8_signBy, 1, (some .int)), (0, 0, 0, 0), [zc_126_0, zc_126_1, zc_126_2, zc_126_3, zc_126_4, zc_126_5, zc_126_6], [0, 10, 20, 30, 40, 50, 52])
def zc_127_0 : List zi_I := [(.iconst 0, 0, 0, 0, []), (.istore 4, 0, 0, 0, []), (.iconst 0, 0, 0, 0, []), (.istore 5, 0, 0, 0, []), (.iload_n 2, 0, 0, 0, []), (.istore 6, 0, 0, 0, []), (.nop, 1, 0, 0, [])]
def zc_127_1 : List zi_I := [(.iload 6, 0, 0, 0, []), (.iload_n 2, 0, 0, 0, []), (.iload_n 3, 0, 0, 0, []), (.iadd, 0, 0, 0, []), (.if_icmp .ge 33, 2, 0, 0, []), (.iload 4, 0, 0, 0, []), (.aload_n 1, 0, 0, 0, []), (.iload 6, 0, 0, 0, []), (.iaload, 0, 0, 0, []), (.invokestatic 150, 118, 1, 0, [1, 762, 763, 135, 764]), (.iadd, 0, 0, 0, []), (.istore 4, 0, 0, 0, []), (.iload 5, 0, 0, 0, []), (.aload_n 1, 0, 0, 0, []), (.iload 6, 0, 0, 0, []), (.iaload, 0, 0, 0, []), (.invokestatic 153, 119, 1, 0, [1, 765, 766, 135, 767]), (.iadd, 0, 0, 0, []), (.istore 5, 0, 0, 0, []), (.iinc 6 1, 0, 0, 1, []), (.goto (-35), 1, 0, 0, [])]
def zc_127_2 : List zi_I := [(.iload 4, 0, 0, 0, []), (.ifCond .eq 10, 3, 0, 0, []), (.iload_n 0, 0, 0, 0, []), (.iload 4, 0, 0, 0, []), (.irem, 0, 0, 0, []), (.ifCond .eq 6, 4, 0, 0, []), (.nop, 3, 0, 0, [])]
def zc_127_3 : List zi_I := [(.bipush (-9), 0, 0, -9, []), (.ireturn, 0, 0, 0, [])]
def zc_127_4 : List zi_I := [(.iload_n 0, 0, 0, 0, []), (.iload 4, 0, 0, 0, []), (.idiv, 0, 0, 0, []), (.iload 5, 0, 0, 0, []), (.imul, 0, 0, 0, []), (.istore 6, 0, 0, 0, []), (.iload 6, 0, 0, 0, []), (.iconst 1, 0, 0, 1, []), (.bipush 60, 0, 0, 60, []), (.invokestatic 92, 111, 3, 0, [3, 714, 715, 135, 716]), (.ifCond .eq 8, 5, 0, 0, []), (.iload 6, 0, 0, 0, []), (.goto 5, 6, 0, 0, [])]
def zc_127_5 : List zi_I := [(.bipush (-9), 0, 0, -9, []), (.nop, 6, 0, 0, [])]
def zc_127_6 : List zi_I := [(.ireturn, 0, 0, 0, [])]
def zc_127 : zi_D := ((yX8_comesOut, cX8_comesOut, 7, (some .int)), (1, 22, 0, 0), [zc_127_0, zc_127_1, zc_127_2, zc_127_3, zc_127_4, zc_127_5, zc_127_6], [0, 9, 47, 59, 62, 87, 89])
def zc_128_0 : List zi_I := [(.iconst 0, 0, 0, 0, []), (.istore_n 2, 0, 0, 0, []), (.iconst 0, 0, 0, 0, []), (.istore_n 3, 0, 0, 0, []), (.nop, 1, 0, 0, [])]
def zc_128_1 : List zi_I := [(.iload_n 3, 0, 0, 0, []), (.aload_n 0, 0, 0, 0, []), (.getfield 28, 9, 2, 0, [8, 33, 108]), (.iload_n 1, 0, 0, 0, []), (.iaload, 0, 0, 0, []), (.if_icmp .ge 25, 2, 0, 0, []), (.iload_n 2, 0, 0, 0, []), (.aload_n 0, 0, 0, 0, []), (.getfield 31, 10, 2, 0, [8, 33, 109]), (.iconst 5, 0, 0, 5, []), (.iload_n 1, 0, 0, 0, []), (.imul, 0, 0, 0, []), (.iload_n 3, 0, 0, 0, []), (.iadd, 0, 0, 0, []), (.iaload, 0, 0, 0, []), (.invokestatic 150, 118, 1, 0, [1, 762, 763, 135, 764]), (.iadd, 0, 0, 0, []), (.istore_n 2, 0, 0, 0, []), (.iinc 3 1, 0, 0, 1, []), (.goto (-29), 1, 0, 0, [])]
def zc_128_2 : List zi_I := [(.aload_n 0, 0, 0, 0, []), (.getfield 19, 6, 2, 0, [8, 33, 105]), (.iload_n 1, 0, 0, 0, []), (.iconst 1, 0, 0, 1, []), (.isub, 0, 0, 0, []), (.iaload, 0, 0, 0, []), (.iload_n 2, 0, 0, 0, []), (.idiv, 0, 0, 0, []), (.ireturn, 0, 0, 0, [])]
def zc_128 : zi_D := ((yX8_timesOf, cX8_timesOf, 4, (some .int)), (1, 20, 0, 0), [zc_128_0, zc_128_1, zc_128_2], [0, 4, 36])
def zc_129_0 : List zi_I := [(.aload_n 0, 0, 0, 0, []), (.getfield 22, 7, 2, 0, [8, 33, 106]), (.iload_n 1, 0, 0, 0, []), (.iaload, 0, 0, 0, []), (.ifCond .ne 12, 1, 0, 0, []), (.aload_n 0, 0, 0, 0, []), (.getfield 25, 8, 2, 0, [8, 33, 107]), (.iload_n 1, 0, 0, 0, []), (.iaload, 0, 0, 0, []), (.goto 32, 3, 0, 0, [])]
def zc_129_1 : List zi_I := [(.aload_n 0, 0, 0, 0, []), (.getfield 22, 7, 2, 0, [8, 33, 106]), (.iload_n 1, 0, 0, 0, []), (.iaload, 0, 0, 0, []), (.iconst 1, 0, 0, 1, []), (.if_icmp .ne 14, 2, 0, 0, []), (.aload_n 0, 0, 0, 0, []), (.getfield 25, 8, 2, 0, [8, 33, 107]), (.iload_n 1, 0, 0, 0, []), (.iaload, 0, 0, 0, []), (.iconst 1, 0, 0, 1, []), (.iadd, 0, 0, 0, []), (.goto 11, 3, 0, 0, [])]
def zc_129_2 : List zi_I := [(.iconst 2, 0, 0, 2, []), (.aload_n 0, 0, 0, 0, []), (.getfield 25, 8, 2, 0, [8, 33, 107]), (.iload_n 1, 0, 0, 0, []), (.iaload, 0, 0, 0, []), (.imul, 0, 0, 0, []), (.nop, 3, 0, 0, [])]
def zc_129_3 : List zi_I := [(.ireturn, 0, 0, 0, [])]
def zc_129 : zi_D := ((yX8_wideOf, cX8_wideOf, 2, (some .int)), (0, 0, 0, 0), [zc_129_0, zc_129_1, zc_129_2, zc_129_3], [0, 18, 39, 47])
def zc_130_0 : List zi_I := [(.aload_n 0, 0, 0, 0, []), (.getfield 19, 6, 2, 0, [8, 33, 105]), (.iload_n 1, 0, 0, 0, []), (.iaload, 0, 0, 0, []), (.aload_n 0, 0, 0, 0, []), (.iload_n 1, 0, 0, 0, []), (.invokevirtual 156, 129, 2, 0, [8, 33, 2, 768, 769, 135, 770, 771]), (.imul, 0, 0, 0, []), (.ireturn, 0, 0, 0, [])]
def zc_130 : zi_D := ((yX8_girthOf, cX8_girthOf, 2, (some .int)), (1, 21, 0, 0), [zc_130_0], [0])
def zc_131_0 : List zi_I := [(.iconst 0, 0, 0, 0, []), (.istore_n 2, 0, 0, 0, []), (.iconst 1, 0, 0, 1, []), (.istore_n 3, 0, 0, 0, []), (.nop, 1, 0, 0, [])]
def zc_131_1 : List zi_I := [(.iload_n 3, 0, 0, 0, []), (.iload_n 1, 0, 0, 0, []), (.if_icmp .gt 17, 2, 0, 0, []), (.iload_n 2, 0, 0, 0, []), (.aload_n 0, 0, 0, 0, []), (.iload_n 3, 0, 0, 0, []), (.invokevirtual 156, 129, 2, 0, [8, 33, 2, 768, 769, 135, 770, 771]), (.iadd, 0, 0, 0, []), (.istore_n 2, 0, 0, 0, []), (.iinc 3 1, 0, 0, 1, []), (.goto (-16), 1, 0, 0, [])]
def zc_131_2 : List zi_I := [(.iload_n 2, 0, 0, 0, []), (.ireturn, 0, 0, 0, [])]
def zc_131 : zi_D := ((yX8_outOf, cX8_outOf, 4, (some .int)), (1, 21, 0, 0), [zc_131_0, zc_131_1, zc_131_2], [0, 4, 23])
def zc_132_0 : List zi_I := [(.aload_n 0, 0, 0, 0, []), (.iload_n 1, 0, 0, 0, []), (.invokevirtual 159, 130, 2, 0, [8, 33, 2, 772, 773, 135, 774, 775]), (.bipush 6, 0, 0, 6, []), (.aload_n 0, 0, 0, 0, []), (.iload_n 1, 0, 0, 0, []), (.invokevirtual 162, 131, 2, 0, [8, 33, 4, 776, 777, 135, 778, 779]), (.imul, 0, 0, 0, []), (.isub, 0, 0, 0, []), (.istore_n 2, 0, 0, 0, []), (.iload_n 2, 0, 0, 0, []), (.ifCond .ne 7, 1, 0, 0, []), (.iconst 0, 0, 0, 0, []), (.goto 12, 3, 0, 0, [])]
def zc_132_1 : List zi_I := [(.iload_n 2, 0, 0, 0, []), (.ifCond .ge 7, 2, 0, 0, []), (.iconst (-1), 0, 0, -1, []), (.goto 4, 3, 0, 0, [])]
def zc_132_2 : List zi_I := [(.iconst 1, 0, 0, 1, []), (.nop, 3, 0, 0, [])]
def zc_132_3 : List zi_I := [(.ireturn, 0, 0, 0, [])]
def zc_132 : zi_D := ((yX8_curlOf, cX8_curlOf, 3, (some .int)), (2, 44, 0, 0), [zc_132_0, zc_132_1, zc_132_2, zc_132_3], [0, 23, 31, 32])
def zc_133_0 : List zi_I := [(.aload_n 0, 0, 0, 0, []), (.iload_n 1, 0, 0, 0, []), (.invokevirtual 165, 116, 2, 0, [8, 33, 2, 780, 781, 135, 782, 783]), (.ifCond .ne 5, 1, 0, 0, []), (.iconst (-1), 0, 0, -1, []), (.ireturn, 0, 0, 0, [])]
def zc_133_1 : List zi_I := [(.iload_n 2, 0, 0, 0, []), (.tableswitch 107 0 8 #[49, 56, 63, 69, 76, 83, 89, 95, 101], 11, 0, 0, [2, 3, 4, 5, 6, 7, 8, 9, 10])]
def zc_133_2 : List zi_I := [(.aload_n 0, 0, 0, 0, []), (.getfield 22, 7, 2, 0, [8, 33, 106]), (.iload_n 1, 0, 0, 0, []), (.iaload, 0, 0, 0, []), (.ireturn, 0, 0, 0, [])]
def zc_133_3 : List zi_I := [(.aload_n 0, 0, 0, 0, []), (.getfield 25, 8, 2, 0, [8, 33, 107]), (.iload_n 1, 0, 0, 0, []), (.iaload, 0, 0, 0, []), (.ireturn, 0, 0, 0, [])]
def zc_133_4 : List zi_I := [(.aload_n 0, 0, 0, 0, []), (.iload_n 1, 0, 0, 0, []), (.invokevirtual 156, 129, 2, 0, [8, 33, 2, 768, 769, 135, 770, 771]), (.ireturn, 0, 0, 0, [])]
def zc_133_5 : List zi_I := [(.aload_n 0, 0, 0, 0, []), (.getfield 28, 9, 2, 0, [8, 33, 108]), (.iload_n 1, 0, 0, 0, []), (.iaload, 0, 0, 0, []), (.ireturn, 0, 0, 0, [])]
def zc_133_6 : List zi_I := [(.aload_n 0, 0, 0, 0, []), (.getfield 19, 6, 2, 0, [8, 33, 105]), (.iload_n 1, 0, 0, 0, []), (.iaload, 0, 0, 0, []), (.ireturn, 0, 0, 0, [])]
def zc_133_7 : List zi_I := [(.aload_n 0, 0, 0, 0, []), (.iload_n 1, 0, 0, 0, []), (.invokevirtual 168, 128, 2, 0, [8, 33, 4, 784, 785, 135, 786, 787]), (.ireturn, 0, 0, 0, [])]
def zc_133_8 : List zi_I := [(.aload_n 0, 0, 0, 0, []), (.iload_n 1, 0, 0, 0, []), (.invokevirtual 159, 130, 2, 0, [8, 33, 2, 772, 773, 135, 774, 775]), (.ireturn, 0, 0, 0, [])]
def zc_133_9 : List zi_I := [(.aload_n 0, 0, 0, 0, []), (.iload_n 1, 0, 0, 0, []), (.invokevirtual 162, 131, 2, 0, [8, 33, 4, 776, 777, 135, 778, 779]), (.ireturn, 0, 0, 0, [])]
def zc_133_10 : List zi_I := [(.aload_n 0, 0, 0, 0, []), (.iload_n 1, 0, 0, 0, []), (.invokevirtual 171, 132, 2, 0, [8, 33, 3, 788, 789, 135, 790, 791]), (.ireturn, 0, 0, 0, [])]
def zc_133_11 : List zi_I := [(.bipush (-2), 0, 0, -2, []), (.ireturn, 0, 0, 0, [])]
def zc_133 : zi_D := ((yX8_ofRound, cX8_ofRound, 3, (some .int)), (3, 66, 0, 0), [zc_133_0, zc_133_1, zc_133_2, zc_133_3, zc_133_4, zc_133_5, zc_133_6, zc_133_7, zc_133_8, zc_133_9, zc_133_10, zc_133_11], [0, 10, 60, 67, 74, 80, 87, 94, 100, 106, 112, 118])
def zc_134_0 : List zi_I := [(.aload_n 0, 0, 0, 0, []), (.invokevirtual 174, 115, 1, 0, [8, 33, 1, 792, 793, 135, 794, 795]), (.ifCond .eq 24, 1, 0, 0, []), (.iload_n 1, 0, 0, 0, []), (.iconst 0, 0, 0, 0, []), (.aload_n 0, 0, 0, 0, []), (.getfield 96, 5, 0, 0, [8, 33, 717]), (.invokestatic 92, 111, 3, 0, [3, 714, 715, 135, 716]), (.ifCond .eq 12, 1, 0, 0, []), (.aload_n 0, 0, 0, 0, []), (.getfield 19, 6, 2, 0, [8, 33, 105]), (.iload_n 1, 0, 0, 0, []), (.iaload, 0, 0, 0, []), (.goto 4, 2, 0, 0, [])]
def zc_134_1 : List zi_I := [(.iconst (-1), 0, 0, -1, []), (.nop, 2, 0, 0, [])]
def zc_134_2 : List zi_I := [(.ireturn, 0, 0, 0, [])]
def zc_134 : zi_D := ((yX8_loops, cX8_loops, 2, (some .int)), (1, 22, 0, 0), [zc_134_0, zc_134_1, zc_134_2], [0, 28, 29])
def zc_135_0 : List zi_I := [(.aload_n 0, 0, 0, 0, []), (.iload_n 1, 0, 0, 0, []), (.invokevirtual 165, 116, 2, 0, [8, 33, 2, 780, 781, 135, 782, 783]), (.ifCond .eq 32, 1, 0, 0, []), (.iload_n 2, 0, 0, 0, []), (.iconst 0, 0, 0, 0, []), (.aload_n 0, 0, 0, 0, []), (.getfield 28, 9, 2, 0, [8, 33, 108]), (.iload_n 1, 0, 0, 0, []), (.iaload, 0, 0, 0, []), (.iconst 1, 0, 0, 1, []), (.isub, 0, 0, 0, []), (.invokestatic 92, 111, 3, 0, [3, 714, 715, 135, 716]), (.ifCond .eq 16, 1, 0, 0, []), (.aload_n 0, 0, 0, 0, []), (.getfield 31, 10, 2, 0, [8, 33, 109]), (.iconst 5, 0, 0, 5, []), (.iload_n 1, 0, 0, 0, []), (.imul, 0, 0, 0, []), (.iload_n 2, 0, 0, 0, []), (.iadd, 0, 0, 0, []), (.iaload, 0, 0, 0, []), (.goto 4, 2, 0, 0, [])]
def zc_135_1 : List zi_I := [(.iconst (-1), 0, 0, -1, []), (.nop, 2, 0, 0, [])]
def zc_135_2 : List zi_I := [(.ireturn, 0, 0, 0, [])]
def zc_135 : zi_D := ((yX8_sign, cX8_sign, 3, (some .int)), (1, 22, 0, 0), [zc_135_0, zc_135_1, zc_135_2], [0, 37, 38])
def zc_136_0 : List zi_I := [(.iconst 0, 0, 0, 0, []), (.istore_n 1, 0, 0, 0, []), (.nop, 1, 0, 0, [])]
def zc_136_1 : List zi_I := [(.iload_n 1, 0, 0, 0, []), (.aload_n 0, 0, 0, 0, []), (.getfield 19, 6, 2, 0, [8, 33, 105]), (.iconst 0, 0, 0, 0, []), (.iaload, 0, 0, 0, []), (.if_icmp .ge 25, 2, 0, 0, []), (.aload_n 0, 0, 0, 0, []), (.getfield 58, 22, 2, 0, [8, 33, 118]), (.iload_n 1, 0, 0, 0, []), (.iconst 1, 0, 0, 1, []), (.iload_n 1, 0, 0, 0, []), (.ishl, 0, 0, 0, []), (.iastore, 0, 0, 0, []), (.aload_n 0, 0, 0, 0, []), (.getfield 55, 21, 2, 0, [8, 33, 117]), (.iload_n 1, 0, 0, 0, []), (.iconst 0, 0, 0, 0, []), (.iastore, 0, 0, 0, []), (.iinc 1 1, 0, 0, 1, []), (.goto (-29), 1, 0, 0, [])]
def zc_136_2 : List zi_I := [(.iconst 1, 0, 0, 1, []), (.istore_n 1, 0, 0, 0, []), (.nop, 3, 0, 0, [])]
def zc_136_3 : List zi_I := [(.iload_n 1, 0, 0, 0, []), (.aload_n 0, 0, 0, 0, []), (.getfield 96, 5, 0, 0, [8, 33, 717]), (.if_icmp .gt 108, 10, 0, 0, []), (.iconst 0, 0, 0, 0, []), (.istore_n 2, 0, 0, 0, []), (.iconst 0, 0, 0, 0, []), (.istore_n 3, 0, 0, 0, []), (.aload_n 0, 0, 0, 0, []), (.iload_n 1, 0, 0, 0, []), (.invokevirtual 168, 128, 2, 0, [8, 33, 4, 784, 785, 135, 786, 787]), (.istore 4, 0, 0, 0, []), (.iconst 0, 0, 0, 0, []), (.istore 5, 0, 0, 0, []), (.nop, 4, 0, 0, [])]
def zc_136_4 : List zi_I := [(.iload 5, 0, 0, 0, []), (.iload 4, 0, 0, 0, []), (.if_icmp .ge 81, 9, 0, 0, []), (.iconst 0, 0, 0, 0, []), (.istore 6, 0, 0, 0, []), (.nop, 5, 0, 0, [])]
def zc_136_5 : List zi_I := [(.iload 6, 0, 0, 0, []), (.aload_n 0, 0, 0, 0, []), (.getfield 28, 9, 2, 0, [8, 33, 108]), (.iload_n 1, 0, 0, 0, []), (.iaload, 0, 0, 0, []), (.if_icmp .ge 61, 8, 0, 0, []), (.aload_n 0, 0, 0, 0, []), (.getfield 31, 10, 2, 0, [8, 33, 109]), (.iconst 5, 0, 0, 5, []), (.iload_n 1, 0, 0, 0, []), (.imul, 0, 0, 0, []), (.iload 6, 0, 0, 0, []), (.iadd, 0, 0, 0, []), (.iaload, 0, 0, 0, []), (.istore 7, 0, 0, 0, []), (.iconst 0, 0, 0, 0, []), (.istore 8, 0, 0, 0, []), (.nop, 6, 0, 0, [])]
def zc_136_6 : List zi_I := [(.iload 8, 0, 0, 0, []), (.iload 7, 0, 0, 0, []), (.invokestatic 153, 119, 1, 0, [1, 765, 766, 135, 767]), (.if_icmp .ge 21, 7, 0, 0, []), (.aload_n 0, 0, 0, 0, []), (.iload_n 1, 0, 0, 0, []), (.iload_n 3, 0, 0, 0, []), (.iload 7, 0, 0, 0, []), (.iload_n 2, 0, 0, 0, []), (.invokevirtual 178, 137, 5, 0, [8, 33, 8, 796, 797, 135, 798, 799]), (.iinc 3 1, 0, 0, 1, []), (.iinc 8 1, 0, 0, 1, []), (.goto (-25), 6, 0, 0, [])]
def zc_136_7 : List zi_I := [(.iload_n 2, 0, 0, 0, []), (.iload 7, 0, 0, 0, []), (.invokestatic 150, 118, 1, 0, [1, 762, 763, 135, 764]), (.iadd, 0, 0, 0, []), (.istore_n 2, 0, 0, 0, []), (.iinc 6 1, 0, 0, 1, []), (.goto (-66), 5, 0, 0, [])]
def zc_136_8 : List zi_I := [(.iinc 5 1, 0, 0, 1, []), (.goto (-82), 4, 0, 0, [])]
def zc_136_9 : List zi_I := [(.iinc 1 1, 0, 0, 1, []), (.goto (-110), 3, 0, 0, [])]
def zc_136_10 : List zi_I := [(.return_, 0, 0, 0, [])]
def zc_136 : zi_D := ((yX8_findLoops, cX8_findLoops, 9, none), (2, 47, 0, 0), [zc_136_0, zc_136_1, zc_136_2, zc_136_3, zc_136_4, zc_136_5, zc_136_6, zc_136_7, zc_136_8, zc_136_9, zc_136_10], [0, 2, 34, 36, 58, 68, 95, 123, 137, 143, 149])
def zc_137_0 : List zi_I := [(.bipush 60, 0, 0, 60, []), (.iload_n 1, 0, 0, 0, []), (.imul, 0, 0, 0, []), (.iload_n 2, 0, 0, 0, []), (.iadd, 0, 0, 0, []), (.istore 5, 0, 0, 0, []), (.bipush 60, 0, 0, 60, []), (.iload_n 1, 0, 0, 0, []), (.iconst 1, 0, 0, 1, []), (.isub, 0, 0, 0, []), (.imul, 0, 0, 0, []), (.iload 4, 0, 0, 0, []), (.iadd, 0, 0, 0, []), (.istore 6, 0, 0, 0, []), (.aload_n 0, 0, 0, 0, []), (.getfield 46, 18, 2, 0, [8, 33, 114]), (.iload 5, 0, 0, 0, []), (.iload_n 3, 0, 0, 0, []), (.iastore, 0, 0, 0, []), (.aload_n 0, 0, 0, 0, []), (.getfield 49, 19, 2, 0, [8, 33, 115]), (.iload 5, 0, 0, 0, []), (.iload_n 3, 0, 0, 0, []), (.iconst 3, 0, 0, 3, []), (.if_icmp .ne 8, 1, 0, 0, []), (.bipush (-9), 0, 0, -9, []), (.goto 5, 2, 0, 0, [])]
def zc_137_1 : List zi_I := [(.iload 4, 0, 0, 0, []), (.nop, 2, 0, 0, [])]
def zc_137_2 : List zi_I := [(.iastore, 0, 0, 0, []), (.aload_n 0, 0, 0, 0, []), (.getfield 52, 20, 2, 0, [8, 33, 116]), (.iload 5, 0, 0, 0, []), (.iload_n 3, 0, 0, 0, []), (.iconst 3, 0, 0, 3, []), (.if_icmp .ne 8, 3, 0, 0, []), (.bipush (-9), 0, 0, -9, []), (.goto 17, 5, 0, 0, [])]
def zc_137_3 : List zi_I := [(.iload_n 3, 0, 0, 0, []), (.iconst 2, 0, 0, 2, []), (.if_icmp .ne 10, 4, 0, 0, []), (.iload 4, 0, 0, 0, []), (.iconst 1, 0, 0, 1, []), (.iadd, 0, 0, 0, []), (.goto 5, 5, 0, 0, [])]
def zc_137_4 : List zi_I := [(.iload 4, 0, 0, 0, []), (.nop, 5, 0, 0, [])]
def zc_137_5 : List zi_I := [(.iastore, 0, 0, 0, []), (.aload_n 0, 0, 0, 0, []), (.getfield 55, 21, 2, 0, [8, 33, 117]), (.iload 5, 0, 0, 0, []), (.iconst 0, 0, 0, 0, []), (.iastore, 0, 0, 0, []), (.aload_n 0, 0, 0, 0, []), (.getfield 58, 22, 2, 0, [8, 33, 118]), (.iload 5, 0, 0, 0, []), (.iconst 0, 0, 0, 0, []), (.iastore, 0, 0, 0, []), (.iconst 0, 0, 0, 0, []), (.istore 7, 0, 0, 0, []), (.nop, 6, 0, 0, [])]
def zc_137_6 : List zi_I := [(.iload 7, 0, 0, 0, []), (.iload_n 3, 0, 0, 0, []), (.invokestatic 150, 118, 1, 0, [1, 762, 763, 135, 764]), (.if_icmp .ge 43, 7, 0, 0, []), (.aload_n 0, 0, 0, 0, []), (.getfield 55, 21, 2, 0, [8, 33, 117]), (.iload 6, 0, 0, 0, []), (.iload 7, 0, 0, 0, []), (.iadd, 0, 0, 0, []), (.dup2, 0, 0, 0, []), (.iaload, 0, 0, 0, []), (.iconst 1, 0, 0, 1, []), (.iadd, 0, 0, 0, []), (.iastore, 0, 0, 0, []), (.aload_n 0, 0, 0, 0, []), (.getfield 58, 22, 2, 0, [8, 33, 118]), (.iload 5, 0, 0, 0, []), (.dup2, 0, 0, 0, []), (.iaload, 0, 0, 0, []), (.aload_n 0, 0, 0, 0, []), (.getfield 58, 22, 2, 0, [8, 33, 118]), (.iload 6, 0, 0, 0, []), (.iload 7, 0, 0, 0, []), (.iadd, 0, 0, 0, []), (.iaload, 0, 0, 0, []), (.ior, 0, 0, 0, []), (.iastore, 0, 0, 0, []), (.iinc 7 1, 0, 0, 1, []), (.goto (-46), 6, 0, 0, [])]
def zc_137_7 : List zi_I := [(.return_, 0, 0, 0, [])]
def zc_137 : zi_D := ((yX8_writeLoop, cX8_writeLoop, 8, none), (1, 20, 0, 0), [zc_137_0, zc_137_1, zc_137_2, zc_137_3, zc_137_4, zc_137_5, zc_137_6, zc_137_7], [0, 43, 45, 62, 74, 76, 96, 145])
def zc_138_0 : List zi_I := [(.aload_n 0, 0, 0, 0, []), (.iload_n 1, 0, 0, 0, []), (.invokevirtual 165, 116, 2, 0, [8, 33, 2, 780, 781, 135, 782, 783]), (.ifCond .eq 19, 1, 0, 0, []), (.iload_n 2, 0, 0, 0, []), (.iconst 0, 0, 0, 0, []), (.aload_n 0, 0, 0, 0, []), (.getfield 19, 6, 2, 0, [8, 33, 105]), (.iload_n 1, 0, 0, 0, []), (.iaload, 0, 0, 0, []), (.iconst 1, 0, 0, 1, []), (.isub, 0, 0, 0, []), (.invokestatic 92, 111, 3, 0, [3, 714, 715, 135, 716]), (.ifCond .ne 5, 2, 0, 0, []), (.nop, 1, 0, 0, [])]
def zc_138_1 : List zi_I := [(.iconst (-1), 0, 0, -1, []), (.ireturn, 0, 0, 0, [])]
def zc_138_2 : List zi_I := [(.aload_n 0, 0, 0, 0, []), (.invokevirtual 182, 136, 1, 0, [8, 33, 9, 800, 801, 135, 802, 803]), (.bipush 60, 0, 0, 60, []), (.iload_n 1, 0, 0, 0, []), (.imul, 0, 0, 0, []), (.iload_n 2, 0, 0, 0, []), (.iadd, 0, 0, 0, []), (.istore 4, 0, 0, 0, []), (.iload_n 3, 0, 0, 0, []), (.tableswitch 73 0 4 #[33, 41, 49, 57, 65], 8, 0, 0, [3, 4, 5, 6, 7])]
def zc_138_3 : List zi_I := [(.aload_n 0, 0, 0, 0, []), (.getfield 46, 18, 2, 0, [8, 33, 114]), (.iload 4, 0, 0, 0, []), (.iaload, 0, 0, 0, []), (.ireturn, 0, 0, 0, [])]
def zc_138_4 : List zi_I := [(.aload_n 0, 0, 0, 0, []), (.getfield 49, 19, 2, 0, [8, 33, 115]), (.iload 4, 0, 0, 0, []), (.iaload, 0, 0, 0, []), (.ireturn, 0, 0, 0, [])]
def zc_138_5 : List zi_I := [(.aload_n 0, 0, 0, 0, []), (.getfield 52, 20, 2, 0, [8, 33, 116]), (.iload 4, 0, 0, 0, []), (.iaload, 0, 0, 0, []), (.ireturn, 0, 0, 0, [])]
def zc_138_6 : List zi_I := [(.aload_n 0, 0, 0, 0, []), (.getfield 55, 21, 2, 0, [8, 33, 117]), (.iload 4, 0, 0, 0, []), (.iaload, 0, 0, 0, []), (.ireturn, 0, 0, 0, [])]
def zc_138_7 : List zi_I := [(.aload_n 0, 0, 0, 0, []), (.getfield 58, 22, 2, 0, [8, 33, 118]), (.iload 4, 0, 0, 0, []), (.iaload, 0, 0, 0, []), (.ireturn, 0, 0, 0, [])]
def zc_138_8 : List zi_I := [(.bipush (-2), 0, 0, -2, []), (.ireturn, 0, 0, 0, [])]
def zc_138 : zi_D := ((yX8_loop, cX8_loop, 5, (some .int)), (3, 75, 0, 0), [zc_138_0, zc_138_1, zc_138_2, zc_138_3, zc_138_4, zc_138_5, zc_138_6, zc_138_7, zc_138_8], [0, 24, 26, 72, 80, 88, 96, 104, 112])
def zc_139_0 : List zi_I := [(.aload_n 0, 0, 0, 0, []), (.iload_n 1, 0, 0, 0, []), (.invokevirtual 165, 116, 2, 0, [8, 33, 2, 780, 781, 135, 782, 783]), (.ifCond .ne 5, 1, 0, 0, []), (.iconst (-1), 0, 0, -1, []), (.ireturn, 0, 0, 0, [])]
def zc_139_1 : List zi_I := [(.iload_n 2, 0, 0, 0, []), (.iconst 1, 0, 0, 1, []), (.bipush 9, 0, 0, 9, []), (.invokestatic 92, 111, 3, 0, [3, 714, 715, 135, 716]), (.ifCond .ne 6, 2, 0, 0, []), (.bipush (-2), 0, 0, -2, []), (.ireturn, 0, 0, 0, [])]
def zc_139_2 : List zi_I := [(.aload_n 0, 0, 0, 0, []), (.getfield 25, 8, 2, 0, [8, 33, 107]), (.iload_n 1, 0, 0, 0, []), (.iaload, 0, 0, 0, []), (.istore_n 3, 0, 0, 0, []), (.aload_n 0, 0, 0, 0, []), (.getfield 25, 8, 2, 0, [8, 33, 107]), (.iload_n 1, 0, 0, 0, []), (.iload_n 2, 0, 0, 0, []), (.iastore, 0, 0, 0, []), (.iload_n 3, 0, 0, 0, []), (.ireturn, 0, 0, 0, [])]
def zc_139 : zi_D := ((yX8_spun, cX8_spun, 4, (some .int)), (1, 22, 0, 0), [zc_139_0, zc_139_1, zc_139_2], [0, 10, 23])
def zc_140_0 : List zi_I := [(.aload_n 0, 0, 0, 0, []), (.dup, 0, 0, 0, []), (.getfield 96, 5, 0, 0, [8, 33, 717]), (.iconst 1, 0, 0, 1, []), (.iadd, 0, 0, 0, []), (.putfield 96, 5, 0, 0, [8, 33, 717]), (.aload_n 0, 0, 0, 0, []), (.getfield 22, 7, 2, 0, [8, 33, 106]), (.aload_n 0, 0, 0, 0, []), (.getfield 96, 5, 0, 0, [8, 33, 717]), (.iload_n 1, 0, 0, 0, []), (.iastore, 0, 0, 0, []), (.aload_n 0, 0, 0, 0, []), (.getfield 25, 8, 2, 0, [8, 33, 107]), (.aload_n 0, 0, 0, 0, []), (.getfield 96, 5, 0, 0, [8, 33, 717]), (.iload_n 2, 0, 0, 0, []), (.iastore, 0, 0, 0, []), (.aload_n 0, 0, 0, 0, []), (.getfield 28, 9, 2, 0, [8, 33, 108]), (.aload_n 0, 0, 0, 0, []), (.getfield 96, 5, 0, 0, [8, 33, 717]), (.iload_n 3, 0, 0, 0, []), (.iastore, 0, 0, 0, []), (.aload_n 0, 0, 0, 0, []), (.getfield 19, 6, 2, 0, [8, 33, 105]), (.aload_n 0, 0, 0, 0, []), (.getfield 96, 5, 0, 0, [8, 33, 717]), (.iload 4, 0, 0, 0, []), (.iastore, 0, 0, 0, []), (.return_, 0, 0, 0, [])]
def zc_140 : zi_D := ((yX8_putRound, cX8_putRound, 5, none), (0, 0, 0, 0), [zc_140_0], [0])
def zc_141_0 : List zi_I := [(.aload_n 0, 0, 0, 0, []), (.iconst 0, 0, 0, 0, []), (.putfield 86, 0, 0, 0, [8, 33, 712]), (.iload_n 1, 0, 0, 0, []), (.iconst 0, 0, 0, 0, []), (.iconst 2, 0, 0, 2, []), (.invokestatic 92, 111, 3, 0, [3, 714, 715, 135, 716]), (.ifCond .eq 13, 1, 0, 0, []), (.iload_n 2, 0, 0, 0, []), (.iconst 1, 0, 0, 1, []), (.bipush 9, 0, 0, 9, []), (.invokestatic 92, 111, 3, 0, [3, 714, 715, 135, 716]), (.ifCond .ne 6, 2, 0, 0, []), (.nop, 1, 0, 0, [])]
def zc_141_1 : List zi_I := [(.bipush (-2), 0, 0, -2, []), (.ireturn, 0, 0, 0, [])]
def zc_141_2 : List zi_I := [(.aload_n 0, 0, 0, 0, []), (.invokevirtual 174, 115, 1, 0, [8, 33, 1, 792, 793, 135, 794, 795]), (.ifCond .ne 6, 3, 0, 0, []), (.bipush (-3), 0, 0, -3, []), (.ireturn, 0, 0, 0, [])]
def zc_141_3 : List zi_I := [(.iload_n 3, 0, 0, 0, []), (.invokestatic 102, 112, 1, 0, [1, 719, 720, 135, 721]), (.ifCond .ne 5, 4, 0, 0, []), (.iconst (-1), 0, 0, -1, []), (.ireturn, 0, 0, 0, [])]
def zc_141_4 : List zi_I := [(.iload 4, 0, 0, 0, []), (.invokestatic 106, 113, 1, 0, [1, 722, 723, 135, 724]), (.ifCond .eq 13, 5, 0, 0, []), (.iload 6, 0, 0, 0, []), (.iconst 1, 0, 0, 1, []), (.iconst 5, 0, 0, 5, []), (.invokestatic 92, 111, 3, 0, [3, 714, 715, 135, 716]), (.ifCond .ne 6, 6, 0, 0, []), (.nop, 5, 0, 0, [])]
def zc_141_5 : List zi_I := [(.bipush (-2), 0, 0, -2, []), (.ireturn, 0, 0, 0, [])]
def zc_141_6 : List zi_I := [(.aload_n 0, 0, 0, 0, []), (.iload_n 3, 0, 0, 0, []), (.iload 4, 0, 0, 0, []), (.iload 5, 0, 0, 0, []), (.iload 6, 0, 0, 0, []), (.invokevirtual 109, 114, 5, 0, [8, 33, 5, 725, 726, 135, 727, 728]), (.istore 7, 0, 0, 0, []), (.iload 7, 0, 0, 0, []), (.ifCond .eq 10, 7, 0, 0, []), (.aload_n 0, 0, 0, 0, []), (.iload 7, 0, 0, 0, []), (.invokevirtual 113, 109, 2, 0, [8, 33, 2, 729, 730, 135, 731, 732]), (.ireturn, 0, 0, 0, [])]
def zc_141_7 : List zi_I := [(.bipush 60, 0, 0, 60, []), (.iload_n 3, 0, 0, 0, []), (.imul, 0, 0, 0, []), (.iload 5, 0, 0, 0, []), (.iadd, 0, 0, 0, []), (.istore 8, 0, 0, 0, []), (.iconst 0, 0, 0, 0, []), (.istore 9, 0, 0, 0, []), (.nop, 8, 0, 0, [])]
def zc_141_8 : List zi_I := [(.iload 9, 0, 0, 0, []), (.iload 6, 0, 0, 0, []), (.if_icmp .ge 30, 10, 0, 0, []), (.aload_n 0, 0, 0, 0, []), (.getfield 16, 4, 2, 0, [8, 33, 104]), (.iload 8, 0, 0, 0, []), (.iload 9, 0, 0, 0, []), (.iadd, 0, 0, 0, []), (.iaload, 0, 0, 0, []), (.iconst 0, 0, 0, 0, []), (.iconst 4, 0, 0, 4, []), (.invokestatic 92, 111, 3, 0, [3, 714, 715, 135, 716]), (.ifCond .ne 6, 9, 0, 0, []), (.bipush (-2), 0, 0, -2, []), (.ireturn, 0, 0, 0, [])]
def zc_141_9 : List zi_I := [(.iinc 9 1, 0, 0, 1, []), (.goto (-31), 8, 0, 0, [])]
def zc_141_10 : List zi_I := [(.aload_n 0, 0, 0, 0, []), (.getfield 96, 5, 0, 0, [8, 33, 717]), (.bipush 6, 0, 0, 6, []), (.if_icmp .ne 6, 11, 0, 0, []), (.bipush (-4), 0, 0, -4, []), (.ireturn, 0, 0, 0, [])]
def zc_141_11 : List zi_I := [(.aload_n 0, 0, 0, 0, []), (.getfield 19, 6, 2, 0, [8, 33, 105]), (.aload_n 0, 0, 0, 0, []), (.getfield 96, 5, 0, 0, [8, 33, 717]), (.iaload, 0, 0, 0, []), (.aload_n 0, 0, 0, 0, []), (.getfield 16, 4, 2, 0, [8, 33, 104]), (.iload 8, 0, 0, 0, []), (.iload 6, 0, 0, 0, []), (.invokestatic 126, 127, 4, 0, [7, 739, 740, 135, 741]), (.istore 9, 0, 0, 0, []), (.iload 9, 0, 0, 0, []), (.bipush (-9), 0, 0, -9, []), (.if_icmp .ne 6, 12, 0, 0, []), (.bipush (-3), 0, 0, -3, []), (.ireturn, 0, 0, 0, [])]
def zc_141_12 : List zi_I := [(.aload_n 0, 0, 0, 0, []), (.iload_n 1, 0, 0, 0, []), (.iload_n 2, 0, 0, 0, []), (.iload 6, 0, 0, 0, []), (.iload 9, 0, 0, 0, []), (.invokevirtual 185, 140, 5, 0, [8, 33, 5, 804, 805, 135, 806, 807]), (.iconst 0, 0, 0, 0, []), (.istore 10, 0, 0, 0, []), (.nop, 13, 0, 0, [])]
def zc_141_13 : List zi_I := [(.iload 10, 0, 0, 0, []), (.iload 6, 0, 0, 0, []), (.if_icmp .ge 33, 14, 0, 0, []), (.aload_n 0, 0, 0, 0, []), (.getfield 31, 10, 2, 0, [8, 33, 109]), (.iconst 5, 0, 0, 5, []), (.aload_n 0, 0, 0, 0, []), (.getfield 96, 5, 0, 0, [8, 33, 717]), (.imul, 0, 0, 0, []), (.iload 10, 0, 0, 0, []), (.iadd, 0, 0, 0, []), (.aload_n 0, 0, 0, 0, []), (.getfield 16, 4, 2, 0, [8, 33, 104]), (.iload 8, 0, 0, 0, []), (.iload 10, 0, 0, 0, []), (.iadd, 0, 0, 0, []), (.iaload, 0, 0, 0, []), (.iastore, 0, 0, 0, []), (.iinc 10 1, 0, 0, 1, []), (.goto (-34), 13, 0, 0, [])]
def zc_141_14 : List zi_I := [(.iload 9, 0, 0, 0, []), (.ireturn, 0, 0, 0, [])]
def zc_141 : zi_D := ((yX8_puton, cX8_puton, 11, (some .int)), (2, 48, 0, 0), [zc_141_0, zc_141_1, zc_141_2, zc_141_3, zc_141_4, zc_141_5, zc_141_6, zc_141_7, zc_141_8, zc_141_9, zc_141_10, zc_141_11, zc_141_12, zc_141_13, zc_141_14], [0, 24, 27, 37, 46, 64, 67, 92, 104, 132, 138, 150, 182, 195, 232])
def zc_142_0 : List zi_I := [(.iload_n 1, 0, 0, 0, []), (.iconst 0, 0, 0, 0, []), (.aload_n 0, 0, 0, 0, []), (.getfield 96, 5, 0, 0, [8, 33, 717]), (.invokestatic 92, 111, 3, 0, [3, 714, 715, 135, 716]), (.ifCond .ne 6, 1, 0, 0, []), (.bipush (-2), 0, 0, -2, []), (.ireturn, 0, 0, 0, [])]
def zc_142_1 : List zi_I := [(.aload_n 0, 0, 0, 0, []), (.invokevirtual 174, 115, 1, 0, [8, 33, 1, 792, 793, 135, 794, 795]), (.ifCond .ne 6, 2, 0, 0, []), (.bipush (-3), 0, 0, -3, []), (.ireturn, 0, 0, 0, [])]
def zc_142_2 : List zi_I := [(.aload_n 0, 0, 0, 0, []), (.dup, 0, 0, 0, []), (.getfield 96, 5, 0, 0, [8, 33, 717]), (.iload_n 1, 0, 0, 0, []), (.isub, 0, 0, 0, []), (.putfield 96, 5, 0, 0, [8, 33, 717]), (.aload_n 0, 0, 0, 0, []), (.getfield 96, 5, 0, 0, [8, 33, 717]), (.ireturn, 0, 0, 0, [])]
def zc_142 : zi_D := ((yX8_ravel, cX8_ravel, 2, (some .int)), (1, 22, 0, 0), [zc_142_0, zc_142_1, zc_142_2], [0, 15, 25])
def zc_143_0 : List zi_I := [(.aload_n 0, 0, 0, 0, []), (.aload_n 0, 0, 0, 0, []), (.getfield 96, 5, 0, 0, [8, 33, 717]), (.putfield 188, 23, 0, 0, [8, 33, 808]), (.iconst 0, 0, 0, 0, []), (.istore_n 1, 0, 0, 0, []), (.nop, 1, 0, 0, [])]
def zc_143_1 : List zi_I := [(.iload_n 1, 0, 0, 0, []), (.bipush 7, 0, 0, 7, []), (.if_icmp .ge 111, 4, 0, 0, []), (.aload_n 0, 0, 0, 0, []), (.getfield 61, 24, 2, 0, [8, 33, 119]), (.bipush 9, 0, 0, 9, []), (.iload_n 1, 0, 0, 0, []), (.imul, 0, 0, 0, []), (.aload_n 0, 0, 0, 0, []), (.getfield 19, 6, 2, 0, [8, 33, 105]), (.iload_n 1, 0, 0, 0, []), (.iaload, 0, 0, 0, []), (.iastore, 0, 0, 0, []), (.aload_n 0, 0, 0, 0, []), (.getfield 61, 24, 2, 0, [8, 33, 119]), (.bipush 9, 0, 0, 9, []), (.iload_n 1, 0, 0, 0, []), (.imul, 0, 0, 0, []), (.iconst 1, 0, 0, 1, []), (.iadd, 0, 0, 0, []), (.aload_n 0, 0, 0, 0, []), (.getfield 22, 7, 2, 0, [8, 33, 106]), (.iload_n 1, 0, 0, 0, []), (.iaload, 0, 0, 0, []), (.iastore, 0, 0, 0, []), (.aload_n 0, 0, 0, 0, []), (.getfield 61, 24, 2, 0, [8, 33, 119]), (.bipush 9, 0, 0, 9, []), (.iload_n 1, 0, 0, 0, []), (.imul, 0, 0, 0, []), (.iconst 2, 0, 0, 2, []), (.iadd, 0, 0, 0, []), (.aload_n 0, 0, 0, 0, []), (.getfield 25, 8, 2, 0, [8, 33, 107]), (.iload_n 1, 0, 0, 0, []), (.iaload, 0, 0, 0, []), (.iastore, 0, 0, 0, []), (.aload_n 0, 0, 0, 0, []), (.getfield 61, 24, 2, 0, [8, 33, 119]), (.bipush 9, 0, 0, 9, []), (.iload_n 1, 0, 0, 0, []), (.imul, 0, 0, 0, []), (.iconst 3, 0, 0, 3, []), (.iadd, 0, 0, 0, []), (.aload_n 0, 0, 0, 0, []), (.getfield 28, 9, 2, 0, [8, 33, 108]), (.iload_n 1, 0, 0, 0, []), (.iaload, 0, 0, 0, []), (.iastore, 0, 0, 0, []), (.iconst 0, 0, 0, 0, []), (.istore_n 2, 0, 0, 0, []), (.nop, 2, 0, 0, [])]
def zc_143_2 : List zi_I := [(.iload_n 2, 0, 0, 0, []), (.iconst 5, 0, 0, 5, []), (.if_icmp .ge 32, 3, 0, 0, []), (.aload_n 0, 0, 0, 0, []), (.getfield 61, 24, 2, 0, [8, 33, 119]), (.bipush 9, 0, 0, 9, []), (.iload_n 1, 0, 0, 0, []), (.imul, 0, 0, 0, []), (.iconst 4, 0, 0, 4, []), (.iadd, 0, 0, 0, []), (.iload_n 2, 0, 0, 0, []), (.iadd, 0, 0, 0, []), (.aload_n 0, 0, 0, 0, []), (.getfield 31, 10, 2, 0, [8, 33, 109]), (.iconst 5, 0, 0, 5, []), (.iload_n 1, 0, 0, 0, []), (.imul, 0, 0, 0, []), (.iload_n 2, 0, 0, 0, []), (.iadd, 0, 0, 0, []), (.iaload, 0, 0, 0, []), (.iastore, 0, 0, 0, []), (.iinc 2 1, 0, 0, 1, []), (.goto (-31), 2, 0, 0, [])]
def zc_143_3 : List zi_I := [(.iinc 1 1, 0, 0, 1, []), (.goto (-111), 1, 0, 0, [])]
def zc_143_4 : List zi_I := [(.return_, 0, 0, 0, [])]
def zc_143 : zi_D := ((yX8_keep, cX8_keep, 3, none), (0, 0, 0, 0), [zc_143_0, zc_143_1, zc_143_2, zc_143_3, zc_143_4], [0, 10, 84, 118, 124])
def zc_144_0 : List zi_I := [(.aload_n 0, 0, 0, 0, []), (.aload_n 0, 0, 0, 0, []), (.getfield 188, 23, 0, 0, [8, 33, 808]), (.putfield 96, 5, 0, 0, [8, 33, 717]), (.iconst 0, 0, 0, 0, []), (.istore_n 1, 0, 0, 0, []), (.nop, 1, 0, 0, [])]
def zc_144_1 : List zi_I := [(.iload_n 1, 0, 0, 0, []), (.bipush 7, 0, 0, 7, []), (.if_icmp .ge 111, 4, 0, 0, []), (.aload_n 0, 0, 0, 0, []), (.getfield 19, 6, 2, 0, [8, 33, 105]), (.iload_n 1, 0, 0, 0, []), (.aload_n 0, 0, 0, 0, []), (.getfield 61, 24, 2, 0, [8, 33, 119]), (.bipush 9, 0, 0, 9, []), (.iload_n 1, 0, 0, 0, []), (.imul, 0, 0, 0, []), (.iaload, 0, 0, 0, []), (.iastore, 0, 0, 0, []), (.aload_n 0, 0, 0, 0, []), (.getfield 22, 7, 2, 0, [8, 33, 106]), (.iload_n 1, 0, 0, 0, []), (.aload_n 0, 0, 0, 0, []), (.getfield 61, 24, 2, 0, [8, 33, 119]), (.bipush 9, 0, 0, 9, []), (.iload_n 1, 0, 0, 0, []), (.imul, 0, 0, 0, []), (.iconst 1, 0, 0, 1, []), (.iadd, 0, 0, 0, []), (.iaload, 0, 0, 0, []), (.iastore, 0, 0, 0, []), (.aload_n 0, 0, 0, 0, []), (.getfield 25, 8, 2, 0, [8, 33, 107]), (.iload_n 1, 0, 0, 0, []), (.aload_n 0, 0, 0, 0, []), (.getfield 61, 24, 2, 0, [8, 33, 119]), (.bipush 9, 0, 0, 9, []), (.iload_n 1, 0, 0, 0, []), (.imul, 0, 0, 0, []), (.iconst 2, 0, 0, 2, []), (.iadd, 0, 0, 0, []), (.iaload, 0, 0, 0, []), (.iastore, 0, 0, 0, []), (.aload_n 0, 0, 0, 0, []), (.getfield 28, 9, 2, 0, [8, 33, 108]), (.iload_n 1, 0, 0, 0, []), (.aload_n 0, 0, 0, 0, []), (.getfield 61, 24, 2, 0, [8, 33, 119]), (.bipush 9, 0, 0, 9, []), (.iload_n 1, 0, 0, 0, []), (.imul, 0, 0, 0, []), (.iconst 3, 0, 0, 3, []), (.iadd, 0, 0, 0, []), (.iaload, 0, 0, 0, []), (.iastore, 0, 0, 0, []), (.iconst 0, 0, 0, 0, []), (.istore_n 2, 0, 0, 0, []), (.nop, 2, 0, 0, [])]
def zc_144_2 : List zi_I := [(.iload_n 2, 0, 0, 0, []), (.iconst 5, 0, 0, 5, []), (.if_icmp .ge 32, 3, 0, 0, []), (.aload_n 0, 0, 0, 0, []), (.getfield 31, 10, 2, 0, [8, 33, 109]), (.iconst 5, 0, 0, 5, []), (.iload_n 1, 0, 0, 0, []), (.imul, 0, 0, 0, []), (.iload_n 2, 0, 0, 0, []), (.iadd, 0, 0, 0, []), (.aload_n 0, 0, 0, 0, []), (.getfield 61, 24, 2, 0, [8, 33, 119]), (.bipush 9, 0, 0, 9, []), (.iload_n 1, 0, 0, 0, []), (.imul, 0, 0, 0, []), (.iconst 4, 0, 0, 4, []), (.iadd, 0, 0, 0, []), (.iload_n 2, 0, 0, 0, []), (.iadd, 0, 0, 0, []), (.iaload, 0, 0, 0, []), (.iastore, 0, 0, 0, []), (.iinc 2 1, 0, 0, 1, []), (.goto (-31), 2, 0, 0, [])]
def zc_144_3 : List zi_I := [(.iinc 1 1, 0, 0, 1, []), (.goto (-111), 1, 0, 0, [])]
def zc_144_4 : List zi_I := [(.return_, 0, 0, 0, [])]
def zc_144 : zi_D := ((yX8_putBack, cX8_putBack, 3, none), (0, 0, 0, 0), [zc_144_0, zc_144_1, zc_144_2, zc_144_3, zc_144_4], [0, 10, 84, 118, 124])
def zc_145_0 : List zi_I := [(.iload_n 1, 0, 0, 0, []), (.ifCond .ne 36, 5, 0, 0, []), (.aload_n 0, 0, 0, 0, []), (.getfield 96, 5, 0, 0, [8, 33, 717]), (.ifCond .le 7, 1, 0, 0, []), (.iconst 1, 0, 0, 1, []), (.goto 4, 2, 0, 0, [])]
def zc_145_1 : List zi_I := [(.iconst 0, 0, 0, 0, []), (.nop, 2, 0, 0, [])]
def zc_145_2 : List zi_I := [(.istore_n 2, 0, 0, 0, []), (.aload_n 0, 0, 0, 0, []), (.dup, 0, 0, 0, []), (.getfield 96, 5, 0, 0, [8, 33, 717]), (.iload_n 2, 0, 0, 0, []), (.ifCond .eq 7, 3, 0, 0, []), (.iconst 1, 0, 0, 1, []), (.goto 4, 4, 0, 0, [])]
def zc_145_3 : List zi_I := [(.iconst 0, 0, 0, 0, []), (.nop, 4, 0, 0, [])]
def zc_145_4 : List zi_I := [(.isub, 0, 0, 0, []), (.putfield 96, 5, 0, 0, [8, 33, 717]), (.iload_n 2, 0, 0, 0, []), (.ireturn, 1, 0, 0, [])]
def zc_145_5 : List zi_I := [(.iload_n 1, 0, 0, 0, []), (.bipush 10, 0, 0, 10, []), (.if_icmp .le 41, 8, 0, 0, []), (.iload_n 1, 0, 0, 0, []), (.bipush 10, 0, 0, 10, []), (.isub, 0, 0, 0, []), (.istore_n 2, 0, 0, 0, []), (.aload_n 0, 0, 0, 0, []), (.iload_n 2, 0, 0, 0, []), (.invokevirtual 165, 116, 2, 0, [8, 33, 2, 780, 781, 135, 782, 783]), (.ifCond .eq 14, 6, 0, 0, []), (.aload_n 0, 0, 0, 0, []), (.getfield 25, 8, 2, 0, [8, 33, 107]), (.iload_n 2, 0, 0, 0, []), (.iaload, 0, 0, 0, []), (.bipush 9, 0, 0, 9, []), (.if_icmp .ne 5, 7, 0, 0, []), (.nop, 6, 0, 0, [])]
def zc_145_6 : List zi_I := [(.iconst 0, 0, 0, 0, []), (.ireturn, 1, 0, 0, [])]
def zc_145_7 : List zi_I := [(.aload_n 0, 0, 0, 0, []), (.getfield 25, 8, 2, 0, [8, 33, 107]), (.iload_n 2, 0, 0, 0, []), (.dup2, 0, 0, 0, []), (.iaload, 0, 0, 0, []), (.iconst 1, 0, 0, 1, []), (.iadd, 0, 0, 0, []), (.iastore, 0, 0, 0, []), (.iconst 1, 0, 0, 1, []), (.ireturn, 1, 0, 0, [])]
def zc_145_8 : List zi_I := [(.aload_n 0, 0, 0, 0, []), (.getfield 64, 25, 2, 0, [8, 33, 120]), (.iconst 0, 0, 0, 0, []), (.iload_n 1, 0, 0, 0, []), (.iconst 1, 0, 0, 1, []), (.isub, 0, 0, 0, []), (.iastore, 0, 0, 0, []), (.aload_n 0, 0, 0, 0, []), (.getfield 96, 5, 0, 0, [8, 33, 717]), (.bipush 6, 0, 0, 6, []), (.if_icmp .ne 8, 9, 0, 0, []), (.bipush (-9), 0, 0, -9, []), (.goto 21, 10, 0, 0, [])]
def zc_145_9 : List zi_I := [(.aload_n 0, 0, 0, 0, []), (.getfield 19, 6, 2, 0, [8, 33, 105]), (.aload_n 0, 0, 0, 0, []), (.getfield 96, 5, 0, 0, [8, 33, 717]), (.iaload, 0, 0, 0, []), (.aload_n 0, 0, 0, 0, []), (.getfield 64, 25, 2, 0, [8, 33, 120]), (.iconst 0, 0, 0, 0, []), (.iconst 1, 0, 0, 1, []), (.invokestatic 126, 127, 4, 0, [7, 739, 740, 135, 741]), (.nop, 10, 0, 0, [])]
def zc_145_10 : List zi_I := [(.istore_n 2, 0, 0, 0, []), (.iload_n 2, 0, 0, 0, []), (.bipush (-9), 0, 0, -9, []), (.if_icmp .ne 5, 11, 0, 0, []), (.iconst 0, 0, 0, 0, []), (.ireturn, 1, 0, 0, [])]
def zc_145_11 : List zi_I := [(.aload_n 0, 0, 0, 0, []), (.iconst 0, 0, 0, 0, []), (.iconst 1, 0, 0, 1, []), (.iconst 1, 0, 0, 1, []), (.iload_n 2, 0, 0, 0, []), (.invokevirtual 185, 140, 5, 0, [8, 33, 5, 804, 805, 135, 806, 807]), (.aload_n 0, 0, 0, 0, []), (.getfield 31, 10, 2, 0, [8, 33, 109]), (.iconst 5, 0, 0, 5, []), (.aload_n 0, 0, 0, 0, []), (.getfield 96, 5, 0, 0, [8, 33, 717]), (.imul, 0, 0, 0, []), (.iload_n 1, 0, 0, 0, []), (.iconst 1, 0, 0, 1, []), (.isub, 0, 0, 0, []), (.iastore, 0, 0, 0, []), (.iconst 1, 0, 0, 1, []), (.ireturn, 1, 0, 0, [])]
def zc_145 : zi_D := ((yX8_does, cX8_does, 3, (some .boolean)), (2, 48, 0, 0), [zc_145_0, zc_145_1, zc_145_2, zc_145_3, zc_145_4, zc_145_5, zc_145_6, zc_145_7, zc_145_8, zc_145_9, zc_145_10, zc_145_11], [0, 15, 16, 30, 31, 37, 67, 69, 81, 104, 122, 131])
def zc_146_0 : List zi_I := [(.iconst 0, 0, 0, 0, []), (.istore_n 3, 0, 0, 0, []), (.nop, 1, 0, 0, [])]
def zc_146_1 : List zi_I := [(.iload_n 3, 0, 0, 0, []), (.iload_n 2, 0, 0, 0, []), (.if_icmp .ge 26, 3, 0, 0, []), (.aload_n 0, 0, 0, 0, []), (.aload_n 0, 0, 0, 0, []), (.getfield 16, 4, 2, 0, [8, 33, 104]), (.iload_n 1, 0, 0, 0, []), (.iload_n 3, 0, 0, 0, []), (.iadd, 0, 0, 0, []), (.iaload, 0, 0, 0, []), (.invokevirtual 191, 145, 2, 0, [8, 33, 3, 809, 810, 135, 811, 812]), (.ifCond .ne 5, 2, 0, 0, []), (.iload_n 3, 0, 0, 0, []), (.ireturn, 0, 0, 0, [])]
def zc_146_2 : List zi_I := [(.iinc 3 1, 0, 0, 1, []), (.goto (-25), 1, 0, 0, [])]
def zc_146_3 : List zi_I := [(.bipush (-9), 0, 0, -9, []), (.ireturn, 0, 0, 0, [])]
def zc_146 : zi_D := ((yX8_goDay, cX8_goDay, 4, (some .int)), (3, 70, 0, 0), [zc_146_0, zc_146_1, zc_146_2, zc_146_3], [0, 2, 24, 30])
def zc_147_0 : List zi_I := [(.aload_n 0, 0, 0, 0, []), (.iconst 0, 0, 0, 0, []), (.putfield 86, 0, 0, 0, [8, 33, 712]), (.iload_n 1, 0, 0, 0, []), (.invokestatic 102, 112, 1, 0, [1, 719, 720, 135, 721]), (.ifCond .ne 5, 1, 0, 0, []), (.iconst (-1), 0, 0, -1, []), (.ireturn, 0, 0, 0, [])]
def zc_147_1 : List zi_I := [(.iload_n 2, 0, 0, 0, []), (.invokestatic 106, 113, 1, 0, [1, 722, 723, 135, 724]), (.ifCond .eq 36, 2, 0, 0, []), (.iload 4, 0, 0, 0, []), (.iconst 0, 0, 0, 0, []), (.bipush 20, 0, 0, 20, []), (.invokestatic 92, 111, 3, 0, [3, 714, 715, 135, 716]), (.ifCond .eq 25, 2, 0, 0, []), (.iload 5, 0, 0, 0, []), (.iconst 0, 0, 0, 0, []), (.iconst 4, 0, 0, 4, []), (.invokestatic 92, 111, 3, 0, [3, 714, 715, 135, 716]), (.ifCond .ne 18, 3, 0, 0, []), (.iload 5, 0, 0, 0, []), (.bipush 10, 0, 0, 10, []), (.bipush 16, 0, 0, 16, []), (.invokestatic 92, 111, 3, 0, [3, 714, 715, 135, 716]), (.ifCond .ne 6, 3, 0, 0, []), (.nop, 2, 0, 0, [])]
def zc_147_2 : List zi_I := [(.bipush (-2), 0, 0, -2, []), (.ireturn, 0, 0, 0, [])]
def zc_147_3 : List zi_I := [(.aload_n 0, 0, 0, 0, []), (.iload_n 1, 0, 0, 0, []), (.iload_n 2, 0, 0, 0, []), (.iload_n 3, 0, 0, 0, []), (.iload 4, 0, 0, 0, []), (.invokevirtual 109, 114, 5, 0, [8, 33, 5, 725, 726, 135, 727, 728]), (.istore 6, 0, 0, 0, []), (.iload 6, 0, 0, 0, []), (.ifCond .eq 10, 4, 0, 0, []), (.aload_n 0, 0, 0, 0, []), (.iload 6, 0, 0, 0, []), (.invokevirtual 113, 109, 2, 0, [8, 33, 2, 729, 730, 135, 731, 732]), (.ireturn, 0, 0, 0, [])]
def zc_147_4 : List zi_I := [(.aload_n 0, 0, 0, 0, []), (.invokevirtual 174, 115, 1, 0, [8, 33, 1, 792, 793, 135, 794, 795]), (.ifCond .ne 6, 5, 0, 0, []), (.bipush (-3), 0, 0, -3, []), (.ireturn, 0, 0, 0, [])]
def zc_147_5 : List zi_I := [(.bipush 60, 0, 0, 60, []), (.iload_n 1, 0, 0, 0, []), (.imul, 0, 0, 0, []), (.iload_n 3, 0, 0, 0, []), (.iadd, 0, 0, 0, []), (.istore 7, 0, 0, 0, []), (.iconst 0, 0, 0, 0, []), (.istore 8, 0, 0, 0, []), (.nop, 6, 0, 0, [])]
def zc_147_6 : List zi_I := [(.iload 8, 0, 0, 0, []), (.iload 4, 0, 0, 0, []), (.if_icmp .ge 50, 8, 0, 0, []), (.aload_n 0, 0, 0, 0, []), (.getfield 16, 4, 2, 0, [8, 33, 104]), (.iload 7, 0, 0, 0, []), (.iload 8, 0, 0, 0, []), (.iadd, 0, 0, 0, []), (.iaload, 0, 0, 0, []), (.iconst 0, 0, 0, 0, []), (.iconst 5, 0, 0, 5, []), (.invokestatic 92, 111, 3, 0, [3, 714, 715, 135, 716]), (.ifCond .ne 26, 7, 0, 0, []), (.aload_n 0, 0, 0, 0, []), (.getfield 16, 4, 2, 0, [8, 33, 104]), (.iload 7, 0, 0, 0, []), (.iload 8, 0, 0, 0, []), (.iadd, 0, 0, 0, []), (.iaload, 0, 0, 0, []), (.bipush 11, 0, 0, 11, []), (.bipush 16, 0, 0, 16, []), (.invokestatic 92, 111, 3, 0, [3, 714, 715, 135, 716]), (.ifCond .ne 6, 7, 0, 0, []), (.bipush (-2), 0, 0, -2, []), (.ireturn, 0, 0, 0, [])]
def zc_147_7 : List zi_I := [(.iinc 8 1, 0, 0, 1, []), (.goto (-51), 6, 0, 0, [])]
def zc_147_8 : List zi_I := [(.aload_n 0, 0, 0, 0, []), (.invokevirtual 194, 143, 1, 0, [8, 33, 3, 813, 814, 135, 815, 816]), (.aload_n 0, 0, 0, 0, []), (.iload 7, 0, 0, 0, []), (.iload 4, 0, 0, 0, []), (.invokevirtual 197, 146, 3, 0, [8, 33, 4, 817, 818, 135, 819, 820]), (.istore 8, 0, 0, 0, []), (.aload_n 0, 0, 0, 0, []), (.iload 5, 0, 0, 0, []), (.invokevirtual 201, 148, 2, 0, [8, 33, 2, 821, 822, 135, 823, 824]), (.istore 9, 0, 0, 0, []), (.aload_n 0, 0, 0, 0, []), (.invokevirtual 204, 144, 1, 0, [8, 33, 3, 825, 826, 135, 827, 828]), (.iload 5, 0, 0, 0, []), (.iconst 1, 0, 0, 1, []), (.if_icmp .ne 8, 9, 0, 0, []), (.iload 8, 0, 0, 0, []), (.goto 20, 11, 0, 0, [])]
def zc_147_9 : List zi_I := [(.iload 8, 0, 0, 0, []), (.bipush (-9), 0, 0, -9, []), (.if_icmp .ne 8, 10, 0, 0, []), (.iload 9, 0, 0, 0, []), (.goto 8, 11, 0, 0, [])]
def zc_147_10 : List zi_I := [(.bipush (-100), 0, 0, -100, []), (.iload 8, 0, 0, 0, []), (.isub, 0, 0, 0, []), (.nop, 11, 0, 0, [])]
def zc_147_11 : List zi_I := [(.ireturn, 0, 0, 0, [])]
def zc_147 : zi_D := ((yX8_day, cX8_day, 10, (some .int)), (4, 93, 0, 0), [zc_147_0, zc_147_1, zc_147_2, zc_147_3, zc_147_4, zc_147_5, zc_147_6, zc_147_7, zc_147_8, zc_147_9, zc_147_10, zc_147_11], [0, 14, 54, 57, 80, 90, 101, 149, 155, 192, 204, 209])
def zc_148_0 : List zi_I := [(.iload_n 1, 0, 0, 0, []), (.bipush 10, 0, 0, 10, []), (.if_icmp .lt 29, 3, 0, 0, []), (.iload_n 1, 0, 0, 0, []), (.bipush 10, 0, 0, 10, []), (.isub, 0, 0, 0, []), (.aload_n 0, 0, 0, 0, []), (.getfield 96, 5, 0, 0, [8, 33, 717]), (.if_icmp .gt 15, 1, 0, 0, []), (.aload_n 0, 0, 0, 0, []), (.getfield 19, 6, 2, 0, [8, 33, 105]), (.iload_n 1, 0, 0, 0, []), (.bipush 10, 0, 0, 10, []), (.isub, 0, 0, 0, []), (.iaload, 0, 0, 0, []), (.goto 5, 2, 0, 0, [])]
def zc_148_1 : List zi_I := [(.bipush (-9), 0, 0, -9, []), (.nop, 2, 0, 0, [])]
def zc_148_2 : List zi_I := [(.ireturn, 0, 0, 0, [])]
def zc_148_3 : List zi_I := [(.iload_n 1, 0, 0, 0, []), (.tableswitch 67 0 3 #[31, 67, 41, 46], 9, 0, 0, [4, 9, 5, 6])]
def zc_148_4 : List zi_I := [(.aload_n 0, 0, 0, 0, []), (.getfield 19, 6, 2, 0, [8, 33, 105]), (.aload_n 0, 0, 0, 0, []), (.getfield 96, 5, 0, 0, [8, 33, 717]), (.iaload, 0, 0, 0, []), (.ireturn, 0, 0, 0, [])]
def zc_148_5 : List zi_I := [(.aload_n 0, 0, 0, 0, []), (.getfield 96, 5, 0, 0, [8, 33, 717]), (.ireturn, 0, 0, 0, [])]
def zc_148_6 : List zi_I := [(.aload_n 0, 0, 0, 0, []), (.getfield 96, 5, 0, 0, [8, 33, 717]), (.ifCond .ne 8, 7, 0, 0, []), (.bipush (-9), 0, 0, -9, []), (.goto 11, 8, 0, 0, [])]
def zc_148_7 : List zi_I := [(.aload_n 0, 0, 0, 0, []), (.aload_n 0, 0, 0, 0, []), (.getfield 96, 5, 0, 0, [8, 33, 717]), (.invokevirtual 159, 130, 2, 0, [8, 33, 2, 772, 773, 135, 774, 775]), (.nop, 8, 0, 0, [])]
def zc_148_8 : List zi_I := [(.ireturn, 0, 0, 0, [])]
def zc_148_9 : List zi_I := [(.aload_n 0, 0, 0, 0, []), (.aload_n 0, 0, 0, 0, []), (.getfield 96, 5, 0, 0, [8, 33, 717]), (.invokevirtual 162, 131, 2, 0, [8, 33, 4, 776, 777, 135, 778, 779]), (.ireturn, 0, 0, 0, [])]
def zc_148 : zi_D := ((yX8_tellDay, cX8_tellDay, 2, (some .int)), (2, 44, 0, 0), [zc_148_0, zc_148_1, zc_148_2, zc_148_3, zc_148_4, zc_148_5, zc_148_6, zc_148_7, zc_148_8, zc_148_9], [0, 29, 31, 32, 64, 74, 79, 91, 99, 100])
def zc_149_0 : List zi_I := [(.iload_n 2, 0, 0, 0, []), (.iconst 5, 0, 0, 5, []), (.if_icmp .ge 21, 1, 0, 0, []), (.aload_n 0, 0, 0, 0, []), (.getfield 67, 26, 2, 0, [8, 33, 121]), (.iconst 0, 0, 0, 0, []), (.iload_n 2, 0, 0, 0, []), (.iastore, 0, 0, 0, []), (.iload_n 1, 0, 0, 0, []), (.aload_n 0, 0, 0, 0, []), (.getfield 67, 26, 2, 0, [8, 33, 121]), (.iconst 0, 0, 0, 0, []), (.iconst 1, 0, 0, 1, []), (.invokestatic 126, 127, 4, 0, [7, 739, 740, 135, 741]), (.ireturn, 0, 0, 0, [])]
def zc_149_1 : List zi_I := [(.aload_n 0, 0, 0, 0, []), (.getfield 67, 26, 2, 0, [8, 33, 121]), (.iconst 0, 0, 0, 0, []), (.iload_n 2, 0, 0, 0, []), (.iconst 5, 0, 0, 5, []), (.isub, 0, 0, 0, []), (.iconst 5, 0, 0, 5, []), (.idiv, 0, 0, 0, []), (.iastore, 0, 0, 0, []), (.aload_n 0, 0, 0, 0, []), (.getfield 67, 26, 2, 0, [8, 33, 121]), (.iconst 1, 0, 0, 1, []), (.iload_n 2, 0, 0, 0, []), (.iconst 5, 0, 0, 5, []), (.isub, 0, 0, 0, []), (.iconst 5, 0, 0, 5, []), (.irem, 0, 0, 0, []), (.iastore, 0, 0, 0, []), (.iload_n 1, 0, 0, 0, []), (.aload_n 0, 0, 0, 0, []), (.getfield 67, 26, 2, 0, [8, 33, 121]), (.iconst 0, 0, 0, 0, []), (.iconst 2, 0, 0, 2, []), (.invokestatic 126, 127, 4, 0, [7, 739, 740, 135, 741]), (.ireturn, 0, 0, 0, [])]
def zc_149 : zi_D := ((yX8_comesByPlan, cX8_comesByPlan, 3, (some .int)), (2, 48, 0, 0), [zc_149_0, zc_149_1], [0, 23])
def zc_150_0 : List zi_I := [(.iconst 1, 0, 0, 1, []), (.istore_n 2, 0, 0, 0, []), (.nop, 1, 0, 0, [])]
def zc_150_1 : List zi_I := [(.iload_n 2, 0, 0, 0, []), (.bipush 60, 0, 0, 60, []), (.if_icmp .gt 26, 4, 0, 0, []), (.aload_n 0, 0, 0, 0, []), (.getfield 70, 27, 2, 0, [8, 33, 122]), (.iload_n 2, 0, 0, 0, []), (.iload_n 2, 0, 0, 0, []), (.iload_n 1, 0, 0, 0, []), (.if_icmp .ne 7, 2, 0, 0, []), (.iconst 0, 0, 0, 0, []), (.goto 5, 3, 0, 0, [])]
def zc_150_2 : List zi_I := [(.bipush (-9), 0, 0, -9, []), (.nop, 3, 0, 0, [])]
def zc_150_3 : List zi_I := [(.iastore, 0, 0, 0, []), (.iinc 2 1, 0, 0, 1, []), (.goto (-26), 1, 0, 0, [])]
def zc_150_4 : List zi_I := [(.iconst 1, 0, 0, 1, []), (.istore_n 2, 0, 0, 0, []), (.iconst 1, 0, 0, 1, []), (.istore_n 3, 0, 0, 0, []), (.nop, 5, 0, 0, [])]
def zc_150_5 : List zi_I := [(.iload_n 2, 0, 0, 0, []), (.ifCond .eq 95, 11, 0, 0, []), (.iconst 0, 0, 0, 0, []), (.istore_n 2, 0, 0, 0, []), (.iconst 1, 0, 0, 1, []), (.istore 4, 0, 0, 0, []), (.nop, 6, 0, 0, [])]
def zc_150_6 : List zi_I := [(.iload 4, 0, 0, 0, []), (.bipush 60, 0, 0, 60, []), (.if_icmp .gt 77, 10, 0, 0, []), (.iconst 0, 0, 0, 0, []), (.istore 5, 0, 0, 0, []), (.nop, 7, 0, 0, [])]
def zc_150_7 : List zi_I := [(.iload 5, 0, 0, 0, []), (.bipush 30, 0, 0, 30, []), (.if_icmp .ge 61, 9, 0, 0, []), (.aload_n 0, 0, 0, 0, []), (.getfield 70, 27, 2, 0, [8, 33, 122]), (.iload 4, 0, 0, 0, []), (.iaload, 0, 0, 0, []), (.bipush (-9), 0, 0, -9, []), (.if_icmp .ne 49, 9, 0, 0, []), (.aload_n 0, 0, 0, 0, []), (.iload 4, 0, 0, 0, []), (.iload 5, 0, 0, 0, []), (.invokevirtual 207, 149, 3, 0, [8, 33, 3, 829, 830, 135, 831, 832]), (.istore 6, 0, 0, 0, []), (.iload 6, 0, 0, 0, []), (.bipush (-9), 0, 0, -9, []), (.if_icmp .eq 26, 8, 0, 0, []), (.aload_n 0, 0, 0, 0, []), (.getfield 70, 27, 2, 0, [8, 33, 122]), (.iload 6, 0, 0, 0, []), (.iaload, 0, 0, 0, []), (.iload_n 3, 0, 0, 0, []), (.iconst 1, 0, 0, 1, []), (.isub, 0, 0, 0, []), (.if_icmp .ne 13, 8, 0, 0, []), (.aload_n 0, 0, 0, 0, []), (.getfield 70, 27, 2, 0, [8, 33, 122]), (.iload 4, 0, 0, 0, []), (.iload_n 3, 0, 0, 0, []), (.iastore, 0, 0, 0, []), (.iconst 1, 0, 0, 1, []), (.istore_n 2, 0, 0, 0, []), (.nop, 8, 0, 0, [])]
def zc_150_8 : List zi_I := [(.iinc 5 1, 0, 0, 1, []), (.goto (-62), 7, 0, 0, [])]
def zc_150_9 : List zi_I := [(.iinc 4 1, 0, 0, 1, []), (.goto (-78), 6, 0, 0, [])]
def zc_150_10 : List zi_I := [(.iinc 3 1, 0, 0, 1, []), (.goto (-93), 5, 0, 0, [])]
def zc_150_11 : List zi_I := [(.return_, 0, 0, 0, [])]
def zc_150 : zi_D := ((yX8_findFar, cX8_findFar, 7, none), (3, 70, 0, 0), [zc_150_0, zc_150_1, zc_150_2, zc_150_3, zc_150_4, zc_150_5, zc_150_6, zc_150_7, zc_150_8, zc_150_9, zc_150_10, zc_150_11], [0, 2, 22, 24, 31, 35, 44, 54, 113, 119, 125, 131])
def zc_151_0 : List zi_I := [(.iload_n 1, 0, 0, 0, []), (.iconst 1, 0, 0, 1, []), (.bipush 60, 0, 0, 60, []), (.invokestatic 92, 111, 3, 0, [3, 714, 715, 135, 716]), (.ifCond .eq 13, 1, 0, 0, []), (.iload_n 2, 0, 0, 0, []), (.iconst (-1), 0, 0, -1, []), (.bipush 9, 0, 0, 9, []), (.invokestatic 92, 111, 3, 0, [3, 714, 715, 135, 716]), (.ifCond .ne 6, 2, 0, 0, []), (.nop, 1, 0, 0, [])]
def zc_151_1 : List zi_I := [(.bipush (-2), 0, 0, -2, []), (.ireturn, 0, 0, 0, [])]
def zc_151_2 : List zi_I := [(.aload_n 0, 0, 0, 0, []), (.invokevirtual 174, 115, 1, 0, [8, 33, 1, 792, 793, 135, 794, 795]), (.ifCond .ne 6, 3, 0, 0, []), (.bipush (-3), 0, 0, -3, []), (.ireturn, 0, 0, 0, [])]
def zc_151_3 : List zi_I := [(.aload_n 0, 0, 0, 0, []), (.iload_n 1, 0, 0, 0, []), (.invokevirtual 210, 150, 2, 0, [8, 33, 7, 833, 834, 135, 835, 836]), (.aload_n 0, 0, 0, 0, []), (.getfield 19, 6, 2, 0, [8, 33, 105]), (.aload_n 0, 0, 0, 0, []), (.getfield 96, 5, 0, 0, [8, 33, 717]), (.iaload, 0, 0, 0, []), (.istore_n 3, 0, 0, 0, []), (.iload_n 2, 0, 0, 0, []), (.iconst (-1), 0, 0, -1, []), (.if_icmp .ne 10, 4, 0, 0, []), (.aload_n 0, 0, 0, 0, []), (.getfield 70, 27, 2, 0, [8, 33, 122]), (.iload_n 3, 0, 0, 0, []), (.iaload, 0, 0, 0, []), (.ireturn, 0, 0, 0, [])]
def zc_151_4 : List zi_I := [(.iload_n 2, 0, 0, 0, []), (.aload_n 0, 0, 0, 0, []), (.getfield 70, 27, 2, 0, [8, 33, 122]), (.iload_n 3, 0, 0, 0, []), (.iaload, 0, 0, 0, []), (.if_icmp .lt 6, 5, 0, 0, []), (.bipush (-9), 0, 0, -9, []), (.ireturn, 0, 0, 0, [])]
def zc_151_5 : List zi_I := [(.iconst 0, 0, 0, 0, []), (.istore 4, 0, 0, 0, []), (.iconst 0, 0, 0, 0, []), (.istore 5, 0, 0, 0, []), (.nop, 6, 0, 0, [])]
def zc_151_6 : List zi_I := [(.iload 5, 0, 0, 0, []), (.iload_n 2, 0, 0, 0, []), (.if_icmp .gt 64, 10, 0, 0, []), (.iconst 0, 0, 0, 0, []), (.istore 4, 0, 0, 0, []), (.aload_n 0, 0, 0, 0, []), (.iload_n 3, 0, 0, 0, []), (.iload 4, 0, 0, 0, []), (.invokevirtual 207, 149, 3, 0, [8, 33, 3, 829, 830, 135, 831, 832]), (.istore 6, 0, 0, 0, []), (.nop, 7, 0, 0, [])]
def zc_151_7 : List zi_I := [(.iload 6, 0, 0, 0, []), (.bipush (-9), 0, 0, -9, []), (.if_icmp .eq 21, 8, 0, 0, []), (.aload_n 0, 0, 0, 0, []), (.getfield 70, 27, 2, 0, [8, 33, 122]), (.iload 6, 0, 0, 0, []), (.iaload, 0, 0, 0, []), (.aload_n 0, 0, 0, 0, []), (.getfield 70, 27, 2, 0, [8, 33, 122]), (.iload_n 3, 0, 0, 0, []), (.iaload, 0, 0, 0, []), (.iconst 1, 0, 0, 1, []), (.isub, 0, 0, 0, []), (.if_icmp .eq 18, 9, 0, 0, []), (.nop, 8, 0, 0, [])]
def zc_151_8 : List zi_I := [(.iinc 4 1, 0, 0, 1, []), (.aload_n 0, 0, 0, 0, []), (.iload_n 3, 0, 0, 0, []), (.iload 4, 0, 0, 0, []), (.invokevirtual 207, 149, 3, 0, [8, 33, 3, 829, 830, 135, 831, 832]), (.istore 6, 0, 0, 0, []), (.goto (-37), 7, 0, 0, [])]
def zc_151_9 : List zi_I := [(.iload 6, 0, 0, 0, []), (.istore_n 3, 0, 0, 0, []), (.iinc 5 1, 0, 0, 1, []), (.goto (-64), 6, 0, 0, [])]
def zc_151_10 : List zi_I := [(.iload 4, 0, 0, 0, []), (.ireturn, 0, 0, 0, [])]
def zc_151 : zi_D := ((yX8_fewest, cX8_fewest, 7, (some .int)), (4, 96, 0, 0), [zc_151_0, zc_151_1, zc_151_2, zc_151_3, zc_151_4, zc_151_5, zc_151_6, zc_151_7, zc_151_8, zc_151_9, zc_151_10], [0, 20, 23, 33, 60, 73, 79, 97, 122, 137, 146])
def zc_152_0 : List zi_I := [(.iload_n 1, 0, 0, 0, []), (.iconst 0, 0, 0, 0, []), (.iconst 5, 0, 0, 5, []), (.invokestatic 92, 111, 3, 0, [3, 714, 715, 135, 716]), (.ifCond .eq 20, 1, 0, 0, []), (.iload_n 2, 0, 0, 0, []), (.iconst 1, 0, 0, 1, []), (.bipush 60, 0, 0, 60, []), (.invokestatic 92, 111, 3, 0, [3, 714, 715, 135, 716]), (.ifCond .eq 10, 1, 0, 0, []), (.aload_n 0, 0, 0, 0, []), (.invokevirtual 174, 115, 1, 0, [8, 33, 1, 792, 793, 135, 794, 795]), (.ifCond .ne 7, 2, 0, 0, []), (.nop, 1, 0, 0, [])]
def zc_152_1 : List zi_I := [(.ldc2_w 90, 0, 0, 0, [713]), (.lreturn, 0, 0, 0, [])]
def zc_152_2 : List zi_I := [(.iconst 1, 0, 0, 1, []), (.istore_n 3, 0, 0, 0, []), (.nop, 3, 0, 0, [])]
def zc_152_3 : List zi_I := [(.iload_n 3, 0, 0, 0, []), (.bipush 60, 0, 0, 60, []), (.if_icmp .gt 33, 6, 0, 0, []), (.aload_n 0, 0, 0, 0, []), (.getfield 73, 28, 2, 0, [8, 33, 123]), (.iload_n 3, 0, 0, 0, []), (.iload_n 3, 0, 0, 0, []), (.aload_n 0, 0, 0, 0, []), (.getfield 19, 6, 2, 0, [8, 33, 105]), (.aload_n 0, 0, 0, 0, []), (.getfield 96, 5, 0, 0, [8, 33, 717]), (.iaload, 0, 0, 0, []), (.if_icmp .ne 7, 4, 0, 0, []), (.lconst 1, 0, 0, 0, []), (.goto 4, 5, 0, 0, [])]
def zc_152_4 : List zi_I := [(.lconst 0, 0, 0, 0, []), (.nop, 5, 0, 0, [])]
def zc_152_5 : List zi_I := [(.lastore, 0, 0, 0, []), (.iinc 3 1, 0, 0, 1, []), (.goto (-33), 3, 0, 0, [])]
def zc_152_6 : List zi_I := [(.iconst 0, 0, 0, 0, []), (.istore_n 3, 0, 0, 0, []), (.nop, 7, 0, 0, [])]
def zc_152_7 : List zi_I := [(.iload_n 3, 0, 0, 0, []), (.iload_n 1, 0, 0, 0, []), (.if_icmp .ge 129, 17, 0, 0, []), (.iconst 1, 0, 0, 1, []), (.istore 4, 0, 0, 0, []), (.nop, 8, 0, 0, [])]
def zc_152_8 : List zi_I := [(.iload 4, 0, 0, 0, []), (.bipush 60, 0, 0, 60, []), (.if_icmp .gt 17, 9, 0, 0, []), (.aload_n 0, 0, 0, 0, []), (.getfield 77, 29, 2, 0, [8, 33, 124]), (.iload 4, 0, 0, 0, []), (.lconst 0, 0, 0, 0, []), (.lastore, 0, 0, 0, []), (.iinc 4 1, 0, 0, 1, []), (.goto (-18), 8, 0, 0, [])]
def zc_152_9 : List zi_I := [(.iconst 1, 0, 0, 1, []), (.istore 4, 0, 0, 0, []), (.nop, 10, 0, 0, [])]
def zc_152_10 : List zi_I := [(.iload 4, 0, 0, 0, []), (.bipush 60, 0, 0, 60, []), (.if_icmp .gt 59, 14, 0, 0, []), (.iconst 5, 0, 0, 5, []), (.istore 5, 0, 0, 0, []), (.nop, 11, 0, 0, [])]
def zc_152_11 : List zi_I := [(.iload 5, 0, 0, 0, []), (.bipush 30, 0, 0, 30, []), (.if_icmp .ge 43, 13, 0, 0, []), (.aload_n 0, 0, 0, 0, []), (.iload 4, 0, 0, 0, []), (.iload 5, 0, 0, 0, []), (.invokevirtual 207, 149, 3, 0, [8, 33, 3, 829, 830, 135, 831, 832]), (.istore 6, 0, 0, 0, []), (.iload 6, 0, 0, 0, []), (.bipush (-9), 0, 0, -9, []), (.if_icmp .eq 20, 12, 0, 0, []), (.aload_n 0, 0, 0, 0, []), (.getfield 77, 29, 2, 0, [8, 33, 124]), (.iload 6, 0, 0, 0, []), (.dup2, 0, 0, 0, []), (.laload, 0, 0, 0, []), (.aload_n 0, 0, 0, 0, []), (.getfield 73, 28, 2, 0, [8, 33, 123]), (.iload 4, 0, 0, 0, []), (.laload, 0, 0, 0, []), (.ladd, 0, 0, 0, []), (.lastore, 0, 0, 0, []), (.nop, 12, 0, 0, [])]
def zc_152_12 : List zi_I := [(.iinc 5 1, 0, 0, 1, []), (.goto (-44), 11, 0, 0, [])]
def zc_152_13 : List zi_I := [(.iinc 4 1, 0, 0, 1, []), (.goto (-60), 10, 0, 0, [])]
def zc_152_14 : List zi_I := [(.iconst 1, 0, 0, 1, []), (.istore 4, 0, 0, 0, []), (.nop, 15, 0, 0, [])]
def zc_152_15 : List zi_I := [(.iload 4, 0, 0, 0, []), (.bipush 60, 0, 0, 60, []), (.if_icmp .gt 23, 16, 0, 0, []), (.aload_n 0, 0, 0, 0, []), (.getfield 73, 28, 2, 0, [8, 33, 123]), (.iload 4, 0, 0, 0, []), (.aload_n 0, 0, 0, 0, []), (.getfield 77, 29, 2, 0, [8, 33, 124]), (.iload 4, 0, 0, 0, []), (.laload, 0, 0, 0, []), (.lastore, 0, 0, 0, []), (.iinc 4 1, 0, 0, 1, []), (.goto (-24), 15, 0, 0, [])]
def zc_152_16 : List zi_I := [(.iinc 3 1, 0, 0, 1, []), (.goto (-128), 7, 0, 0, [])]
def zc_152_17 : List zi_I := [(.aload_n 0, 0, 0, 0, []), (.getfield 73, 28, 2, 0, [8, 33, 123]), (.iload_n 2, 0, 0, 0, []), (.laload, 0, 0, 0, []), (.lreturn, 0, 0, 0, [])]
def zc_152 : zi_D := ((yX8_ways, cX8_ways, 7, (some .long)), (3, 70, 0, 0), [zc_152_0, zc_152_1, zc_152_2, zc_152_3, zc_152_4, zc_152_5, zc_152_6, zc_152_7, zc_152_8, zc_152_9, zc_152_10, zc_152_11, zc_152_12, zc_152_13, zc_152_14, zc_152_15, zc_152_16, zc_152_17], [0, 26, 30, 32, 60, 61, 68, 70, 78, 99, 102, 112, 153, 159, 165, 168, 195, 201])
def zc_153_0 : List zi_I := [(.aload_n 0, 0, 0, 0, []), (.invokevirtual 174, 115, 1, 0, [8, 33, 1, 792, 793, 135, 794, 795]), (.ifCond .eq 15, 1, 0, 0, []), (.iload_n 1, 0, 0, 0, []), (.iconst 0, 0, 0, 0, []), (.aload_n 0, 0, 0, 0, []), (.getfield 96, 5, 0, 0, [8, 33, 717]), (.invokestatic 92, 111, 3, 0, [3, 714, 715, 135, 716]), (.ifCond .ne 5, 2, 0, 0, []), (.nop, 1, 0, 0, [])]
def zc_153_1 : List zi_I := [(.iconst (-1), 0, 0, -1, []), (.ireturn, 0, 0, 0, [])]
def zc_153_2 : List zi_I := [(.aload_n 0, 0, 0, 0, []), (.invokevirtual 182, 136, 1, 0, [8, 33, 9, 800, 801, 135, 802, 803]), (.iconst 0, 0, 0, 0, []), (.istore_n 2, 0, 0, 0, []), (.iconst 0, 0, 0, 0, []), (.istore_n 3, 0, 0, 0, []), (.nop, 3, 0, 0, [])]
def zc_153_3 : List zi_I := [(.iload_n 3, 0, 0, 0, []), (.aload_n 0, 0, 0, 0, []), (.getfield 19, 6, 2, 0, [8, 33, 105]), (.iload_n 1, 0, 0, 0, []), (.iaload, 0, 0, 0, []), (.if_icmp .ge 31, 6, 0, 0, []), (.iload_n 2, 0, 0, 0, []), (.aload_n 0, 0, 0, 0, []), (.getfield 55, 21, 2, 0, [8, 33, 117]), (.bipush 60, 0, 0, 60, []), (.iload_n 1, 0, 0, 0, []), (.imul, 0, 0, 0, []), (.iload_n 3, 0, 0, 0, []), (.iadd, 0, 0, 0, []), (.iaload, 0, 0, 0, []), (.ifCond .ne 7, 4, 0, 0, []), (.iconst 1, 0, 0, 1, []), (.goto 4, 5, 0, 0, [])]
def zc_153_4 : List zi_I := [(.iconst 0, 0, 0, 0, []), (.nop, 5, 0, 0, [])]
def zc_153_5 : List zi_I := [(.iadd, 0, 0, 0, []), (.istore_n 2, 0, 0, 0, []), (.iinc 3 1, 0, 0, 1, []), (.goto (-35), 3, 0, 0, [])]
def zc_153_6 : List zi_I := [(.iload_n 2, 0, 0, 0, []), (.ireturn, 0, 0, 0, [])]
def zc_153 : zi_D := ((yX8_bare, cX8_bare, 4, (some .int)), (3, 75, 0, 0), [zc_153_0, zc_153_1, zc_153_2, zc_153_3, zc_153_4, zc_153_5, zc_153_6], [0, 19, 21, 29, 58, 59, 67])
def zc_154_0 : List zi_I := [(.aload_n 0, 0, 0, 0, []), (.iload_n 1, 0, 0, 0, []), (.invokevirtual 165, 116, 2, 0, [8, 33, 2, 780, 781, 135, 782, 783]), (.ifCond .ne 5, 1, 0, 0, []), (.iconst (-1), 0, 0, -1, []), (.ireturn, 0, 0, 0, [])]
def zc_154_1 : List zi_I := [(.iload_n 2, 0, 0, 0, []), (.iconst 0, 0, 0, 0, []), (.sipush 1080, 0, 0, 1080, []), (.invokestatic 92, 111, 3, 0, [3, 714, 715, 135, 716]), (.ifCond .ne 6, 2, 0, 0, []), (.bipush (-2), 0, 0, -2, []), (.ireturn, 0, 0, 0, [])]
def zc_154_2 : List zi_I := [(.aload_n 0, 0, 0, 0, []), (.getfield 133, 30, 0, 0, [8, 33, 746]), (.bipush 8, 0, 0, 8, []), (.if_icmp .ne 6, 3, 0, 0, []), (.bipush (-4), 0, 0, -4, []), (.ireturn, 0, 0, 0, [])]
def zc_154_3 : List zi_I := [(.aload_n 0, 0, 0, 0, []), (.getfield 80, 31, 2, 0, [8, 33, 125]), (.aload_n 0, 0, 0, 0, []), (.getfield 133, 30, 0, 0, [8, 33, 746]), (.iload_n 1, 0, 0, 0, []), (.iastore, 0, 0, 0, []), (.aload_n 0, 0, 0, 0, []), (.getfield 83, 32, 2, 0, [8, 33, 126]), (.aload_n 0, 0, 0, 0, []), (.getfield 133, 30, 0, 0, [8, 33, 746]), (.iload_n 2, 0, 0, 0, []), (.iastore, 0, 0, 0, []), (.aload_n 0, 0, 0, 0, []), (.dup, 0, 0, 0, []), (.getfield 133, 30, 0, 0, [8, 33, 746]), (.iconst 1, 0, 0, 1, []), (.iadd, 0, 0, 0, []), (.putfield 133, 30, 0, 0, [8, 33, 746]), (.aload_n 0, 0, 0, 0, []), (.getfield 133, 30, 0, 0, [8, 33, 746]), (.iconst 1, 0, 0, 1, []), (.isub, 0, 0, 0, []), (.ireturn, 0, 0, 0, [])]
def zc_154 : zi_D := ((yX8_reading, cX8_reading, 3, (some .int)), (1, 22, 0, 0), [zc_154_0, zc_154_1, zc_154_2, zc_154_3], [0, 10, 24, 36])
def zc_155_0 : List zi_I := [(.iload_n 1, 0, 0, 0, []), (.iconst 0, 0, 0, 0, []), (.aload_n 0, 0, 0, 0, []), (.getfield 133, 30, 0, 0, [8, 33, 746]), (.invokestatic 92, 111, 3, 0, [3, 714, 715, 135, 716]), (.ifCond .ne 6, 1, 0, 0, []), (.bipush (-2), 0, 0, -2, []), (.ireturn, 0, 0, 0, [])]
def zc_155_1 : List zi_I := [(.aload_n 0, 0, 0, 0, []), (.dup, 0, 0, 0, []), (.getfield 133, 30, 0, 0, [8, 33, 746]), (.iload_n 1, 0, 0, 0, []), (.isub, 0, 0, 0, []), (.putfield 133, 30, 0, 0, [8, 33, 746]), (.aload_n 0, 0, 0, 0, []), (.getfield 133, 30, 0, 0, [8, 33, 746]), (.ireturn, 0, 0, 0, [])]
def zc_155 : zi_D := ((yX8_back, cX8_back, 2, (some .int)), (1, 22, 0, 0), [zc_155_0, zc_155_1], [0, 15])
def zc_156_0 : List zi_I := [(.iconst 1, 0, 0, 1, []), (.istore_n 1, 0, 0, 0, []), (.nop, 1, 0, 0, [])]
def zc_156_1 : List zi_I := [(.iload_n 1, 0, 0, 0, []), (.aload_n 0, 0, 0, 0, []), (.getfield 96, 5, 0, 0, [8, 33, 717]), (.if_icmp .gt 52, 3, 0, 0, []), (.aload_n 0, 0, 0, 0, []), (.getfield 19, 6, 2, 0, [8, 33, 105]), (.iload_n 1, 0, 0, 0, []), (.aload_n 0, 0, 0, 0, []), (.getfield 19, 6, 2, 0, [8, 33, 105]), (.iload_n 1, 0, 0, 0, []), (.iconst 1, 0, 0, 1, []), (.isub, 0, 0, 0, []), (.iaload, 0, 0, 0, []), (.aload_n 0, 0, 0, 0, []), (.getfield 31, 10, 2, 0, [8, 33, 109]), (.iconst 5, 0, 0, 5, []), (.iload_n 1, 0, 0, 0, []), (.imul, 0, 0, 0, []), (.aload_n 0, 0, 0, 0, []), (.getfield 28, 9, 2, 0, [8, 33, 108]), (.iload_n 1, 0, 0, 0, []), (.iaload, 0, 0, 0, []), (.invokestatic 126, 127, 4, 0, [7, 739, 740, 135, 741]), (.iastore, 0, 0, 0, []), (.aload_n 0, 0, 0, 0, []), (.getfield 19, 6, 2, 0, [8, 33, 105]), (.iload_n 1, 0, 0, 0, []), (.iaload, 0, 0, 0, []), (.bipush (-9), 0, 0, -9, []), (.if_icmp .ne 5, 2, 0, 0, []), (.iconst 0, 0, 0, 0, []), (.ireturn, 1, 0, 0, [])]
def zc_156_2 : List zi_I := [(.iinc 1 1, 0, 0, 1, []), (.goto (-54), 1, 0, 0, [])]
def zc_156_3 : List zi_I := [(.iconst 0, 0, 0, 0, []), (.istore_n 1, 0, 0, 0, []), (.nop, 4, 0, 0, [])]
def zc_156_4 : List zi_I := [(.iload_n 1, 0, 0, 0, []), (.aload_n 0, 0, 0, 0, []), (.getfield 133, 30, 0, 0, [8, 33, 746]), (.if_icmp .ge 43, 7, 0, 0, []), (.aload_n 0, 0, 0, 0, []), (.aload_n 0, 0, 0, 0, []), (.getfield 80, 31, 2, 0, [8, 33, 125]), (.iload_n 1, 0, 0, 0, []), (.iaload, 0, 0, 0, []), (.invokevirtual 165, 116, 2, 0, [8, 33, 2, 780, 781, 135, 782, 783]), (.ifCond .eq 22, 5, 0, 0, []), (.aload_n 0, 0, 0, 0, []), (.aload_n 0, 0, 0, 0, []), (.getfield 80, 31, 2, 0, [8, 33, 125]), (.iload_n 1, 0, 0, 0, []), (.iaload, 0, 0, 0, []), (.invokevirtual 159, 130, 2, 0, [8, 33, 2, 772, 773, 135, 774, 775]), (.aload_n 0, 0, 0, 0, []), (.getfield 83, 32, 2, 0, [8, 33, 126]), (.iload_n 1, 0, 0, 0, []), (.iaload, 0, 0, 0, []), (.if_icmp .eq 5, 6, 0, 0, []), (.nop, 5, 0, 0, [])]
def zc_156_5 : List zi_I := [(.iconst 0, 0, 0, 0, []), (.ireturn, 1, 0, 0, [])]
def zc_156_6 : List zi_I := [(.iinc 1 1, 0, 0, 1, []), (.goto (-45), 4, 0, 0, [])]
def zc_156_7 : List zi_I := [(.iconst 1, 0, 0, 1, []), (.ireturn, 1, 0, 0, [])]
def zc_156 : zi_D := ((yX8_areSo, cX8_areSo, 2, (some .boolean)), (2, 48, 0, 0), [zc_156_0, zc_156_1, zc_156_2, zc_156_3, zc_156_4, zc_156_5, zc_156_6, zc_156_7], [0, 2, 53, 59, 61, 101, 103, 109])
def zc_157_0 : List zi_I := [(.aload_n 0, 0, 0, 0, []), (.invokevirtual 174, 115, 1, 0, [8, 33, 1, 792, 793, 135, 794, 795]), (.ifCond .ne 6, 1, 0, 0, []), (.bipush (-3), 0, 0, -3, []), (.ireturn, 0, 0, 0, [])]
def zc_157_1 : List zi_I := [(.aload_n 0, 0, 0, 0, []), (.invokevirtual 194, 143, 1, 0, [8, 33, 3, 813, 814, 135, 815, 816]), (.iconst 0, 0, 0, 0, []), (.istore_n 1, 0, 0, 0, []), (.iconst 3, 0, 0, 3, []), (.istore_n 2, 0, 0, 0, []), (.nop, 2, 0, 0, [])]
def zc_157_2 : List zi_I := [(.iload_n 2, 0, 0, 0, []), (.bipush 8, 0, 0, 8, []), (.if_icmp .gt 33, 5, 0, 0, []), (.aload_n 0, 0, 0, 0, []), (.getfield 19, 6, 2, 0, [8, 33, 105]), (.iconst 0, 0, 0, 0, []), (.iload_n 2, 0, 0, 0, []), (.iastore, 0, 0, 0, []), (.iload_n 1, 0, 0, 0, []), (.aload_n 0, 0, 0, 0, []), (.invokevirtual 214, 156, 1, 0, [8, 33, 2, 837, 838, 135, 839, 840]), (.ifCond .eq 9, 3, 0, 0, []), (.iconst 1, 0, 0, 1, []), (.iload_n 2, 0, 0, 0, []), (.ishl, 0, 0, 0, []), (.goto 4, 4, 0, 0, [])]
def zc_157_3 : List zi_I := [(.iconst 0, 0, 0, 0, []), (.nop, 4, 0, 0, [])]
def zc_157_4 : List zi_I := [(.ior, 0, 0, 0, []), (.istore_n 1, 0, 0, 0, []), (.iinc 2 1, 0, 0, 1, []), (.goto (-33), 2, 0, 0, [])]
def zc_157_5 : List zi_I := [(.aload_n 0, 0, 0, 0, []), (.invokevirtual 204, 144, 1, 0, [8, 33, 3, 825, 826, 135, 827, 828]), (.iload_n 1, 0, 0, 0, []), (.ireturn, 0, 0, 0, [])]
def zc_157 : zi_D := ((yX8_rings, cX8_rings, 3, (some .int)), (3, 69, 0, 0), [zc_157_0, zc_157_1, zc_157_2, zc_157_3, zc_157_4, zc_157_5], [0, 10, 18, 45, 46, 54])
def zc_158_0 : List zi_I := [(.aload_n 0, 0, 0, 0, []), (.iload_n 1, 0, 0, 0, []), (.invokevirtual 165, 116, 2, 0, [8, 33, 2, 780, 781, 135, 782, 783]), (.ifCond .ne 5, 1, 0, 0, []), (.iconst (-1), 0, 0, -1, []), (.ireturn, 0, 0, 0, [])]
def zc_158_1 : List zi_I := [(.aload_n 0, 0, 0, 0, []), (.getfield 22, 7, 2, 0, [8, 33, 106]), (.iload_n 1, 0, 0, 0, []), (.iaload, 0, 0, 0, []), (.istore_n 2, 0, 0, 0, []), (.iconst 0, 0, 0, 0, []), (.istore_n 3, 0, 0, 0, []), (.iconst 0, 0, 0, 0, []), (.istore 4, 0, 0, 0, []), (.nop, 2, 0, 0, [])]
def zc_158_2 : List zi_I := [(.iload 4, 0, 0, 0, []), (.iconst 3, 0, 0, 3, []), (.if_icmp .ge 35, 5, 0, 0, []), (.aload_n 0, 0, 0, 0, []), (.getfield 22, 7, 2, 0, [8, 33, 106]), (.iload_n 1, 0, 0, 0, []), (.iload 4, 0, 0, 0, []), (.iastore, 0, 0, 0, []), (.iload_n 3, 0, 0, 0, []), (.aload_n 0, 0, 0, 0, []), (.invokevirtual 214, 156, 1, 0, [8, 33, 2, 837, 838, 135, 839, 840]), (.ifCond .eq 10, 3, 0, 0, []), (.iconst 1, 0, 0, 1, []), (.iload 4, 0, 0, 0, []), (.ishl, 0, 0, 0, []), (.goto 4, 4, 0, 0, [])]
def zc_158_3 : List zi_I := [(.iconst 0, 0, 0, 0, []), (.nop, 4, 0, 0, [])]
def zc_158_4 : List zi_I := [(.ior, 0, 0, 0, []), (.istore_n 3, 0, 0, 0, []), (.iinc 4 1, 0, 0, 1, []), (.goto (-35), 2, 0, 0, [])]
def zc_158_5 : List zi_I := [(.aload_n 0, 0, 0, 0, []), (.getfield 22, 7, 2, 0, [8, 33, 106]), (.iload_n 1, 0, 0, 0, []), (.iload_n 2, 0, 0, 0, []), (.iastore, 0, 0, 0, []), (.iload_n 3, 0, 0, 0, []), (.ireturn, 0, 0, 0, [])]
def zc_158 : zi_D := ((yX8_kinds, cX8_kinds, 5, (some .int)), (3, 69, 0, 0), [zc_158_0, zc_158_1, zc_158_2, zc_158_3, zc_158_4, zc_158_5], [0, 10, 22, 51, 52, 60])
def zc_159_0 : List zi_I := [(.aload_n 0, 0, 0, 0, []), (.iload_n 1, 0, 0, 0, []), (.invokevirtual 165, 116, 2, 0, [8, 33, 2, 780, 781, 135, 782, 783]), (.ifCond .eq 19, 1, 0, 0, []), (.iload_n 2, 0, 0, 0, []), (.iconst 0, 0, 0, 0, []), (.aload_n 0, 0, 0, 0, []), (.getfield 28, 9, 2, 0, [8, 33, 108]), (.iload_n 1, 0, 0, 0, []), (.iaload, 0, 0, 0, []), (.iconst 1, 0, 0, 1, []), (.isub, 0, 0, 0, []), (.invokestatic 92, 111, 3, 0, [3, 714, 715, 135, 716]), (.ifCond .ne 5, 2, 0, 0, []), (.nop, 1, 0, 0, [])]
def zc_159_1 : List zi_I := [(.iconst (-1), 0, 0, -1, []), (.ireturn, 0, 0, 0, [])]
def zc_159_2 : List zi_I := [(.aload_n 0, 0, 0, 0, []), (.invokevirtual 194, 143, 1, 0, [8, 33, 3, 813, 814, 135, 815, 816]), (.iconst 0, 0, 0, 0, []), (.istore_n 3, 0, 0, 0, []), (.iconst 0, 0, 0, 0, []), (.istore 4, 0, 0, 0, []), (.nop, 3, 0, 0, [])]
def zc_159_3 : List zi_I := [(.iload 4, 0, 0, 0, []), (.iconst 5, 0, 0, 5, []), (.if_icmp .ge 39, 6, 0, 0, []), (.aload_n 0, 0, 0, 0, []), (.getfield 31, 10, 2, 0, [8, 33, 109]), (.iconst 5, 0, 0, 5, []), (.iload_n 1, 0, 0, 0, []), (.imul, 0, 0, 0, []), (.iload_n 2, 0, 0, 0, []), (.iadd, 0, 0, 0, []), (.iload 4, 0, 0, 0, []), (.iastore, 0, 0, 0, []), (.iload_n 3, 0, 0, 0, []), (.aload_n 0, 0, 0, 0, []), (.invokevirtual 214, 156, 1, 0, [8, 33, 2, 837, 838, 135, 839, 840]), (.ifCond .eq 10, 4, 0, 0, []), (.iconst 1, 0, 0, 1, []), (.iload 4, 0, 0, 0, []), (.ishl, 0, 0, 0, []), (.goto 4, 5, 0, 0, [])]
def zc_159_4 : List zi_I := [(.iconst 0, 0, 0, 0, []), (.nop, 5, 0, 0, [])]
def zc_159_5 : List zi_I := [(.ior, 0, 0, 0, []), (.istore_n 3, 0, 0, 0, []), (.iinc 4 1, 0, 0, 1, []), (.goto (-39), 3, 0, 0, [])]
def zc_159_6 : List zi_I := [(.aload_n 0, 0, 0, 0, []), (.invokevirtual 204, 144, 1, 0, [8, 33, 3, 825, 826, 135, 827, 828]), (.iload_n 3, 0, 0, 0, []), (.ireturn, 0, 0, 0, [])]
def zc_159 : zi_D := ((yX8_signings, cX8_signings, 5, (some .int)), (3, 69, 0, 0), [zc_159_0, zc_159_1, zc_159_2, zc_159_3, zc_159_4, zc_159_5, zc_159_6], [0, 24, 26, 35, 68, 69, 77])
def zc_160_0 : List zi_I := [(.lload_n 0, 0, 0, 0, []), (.lstore 5, 0, 0, 0, []), (.lload_n 2, 0, 0, 0, []), (.lstore 7, 0, 0, 0, []), (.nop, 1, 0, 0, [])]
def zc_160_1 : List zi_I := [(.lload 7, 0, 0, 0, []), (.lconst 0, 0, 0, 0, []), (.lcmp, 0, 0, 0, []), (.ifCond .eq 21, 2, 0, 0, []), (.lload 5, 0, 0, 0, []), (.lload 7, 0, 0, 0, []), (.lrem, 0, 0, 0, []), (.lstore 9, 0, 0, 0, []), (.lload 7, 0, 0, 0, []), (.lstore 5, 0, 0, 0, []), (.lload 9, 0, 0, 0, []), (.lstore 7, 0, 0, 0, []), (.goto (-22), 1, 0, 0, [])]
def zc_160_2 : List zi_I := [(.iload 4, 0, 0, 0, []), (.ifCond .ne 10, 3, 0, 0, []), (.lload_n 0, 0, 0, 0, []), (.lload 5, 0, 0, 0, []), (.ldiv, 0, 0, 0, []), (.goto 7, 4, 0, 0, [])]
def zc_160_3 : List zi_I := [(.lload_n 2, 0, 0, 0, []), (.lload 5, 0, 0, 0, []), (.ldiv, 0, 0, 0, []), (.nop, 4, 0, 0, [])]
def zc_160_4 : List zi_I := [(.lreturn, 0, 0, 0, [])]
def zc_160 : zi_D := ((yX8_inLeastTerms, cX8_inLeastTerms, 11, (some .long)), (0, 0, 0, 0), [zc_160_0, zc_160_1, zc_160_2, zc_160_3, zc_160_4], [0, 6, 31, 43, 47])
def zc_161_0 : List zi_I := [(.iload_n 1, 0, 0, 0, []), (.iconst 0, 0, 0, 0, []), (.aload_n 0, 0, 0, 0, []), (.getfield 19, 6, 2, 0, [8, 33, 105]), (.iconst 0, 0, 0, 0, []), (.iaload, 0, 0, 0, []), (.iconst 1, 0, 0, 1, []), (.isub, 0, 0, 0, []), (.invokestatic 92, 111, 3, 0, [3, 714, 715, 135, 716]), (.ifCond .eq 12, 1, 0, 0, []), (.iload_n 2, 0, 0, 0, []), (.iconst 0, 0, 0, 0, []), (.iconst 1, 0, 0, 1, []), (.invokestatic 92, 111, 3, 0, [3, 714, 715, 135, 716]), (.ifCond .ne 7, 2, 0, 0, []), (.nop, 1, 0, 0, [])]
def zc_161_1 : List zi_I := [(.ldc2_w 90, 0, 0, 0, [713]), (.lreturn, 0, 0, 0, [])]
def zc_161_2 : List zi_I := [(.aload_n 0, 0, 0, 0, []), (.invokevirtual 182, 136, 1, 0, [8, 33, 9, 800, 801, 135, 802, 803]), (.iconst 0, 0, 0, 0, []), (.istore_n 3, 0, 0, 0, []), (.iconst 0, 0, 0, 0, []), (.istore 4, 0, 0, 0, []), (.nop, 3, 0, 0, [])]
def zc_161_3 : List zi_I := [(.iload 4, 0, 0, 0, []), (.aload_n 0, 0, 0, 0, []), (.getfield 19, 6, 2, 0, [8, 33, 105]), (.aload_n 0, 0, 0, 0, []), (.getfield 96, 5, 0, 0, [8, 33, 717]), (.iaload, 0, 0, 0, []), (.if_icmp .ge 39, 6, 0, 0, []), (.iload_n 3, 0, 0, 0, []), (.aload_n 0, 0, 0, 0, []), (.getfield 58, 22, 2, 0, [8, 33, 118]), (.bipush 60, 0, 0, 60, []), (.aload_n 0, 0, 0, 0, []), (.getfield 96, 5, 0, 0, [8, 33, 717]), (.imul, 0, 0, 0, []), (.iload 4, 0, 0, 0, []), (.iadd, 0, 0, 0, []), (.iaload, 0, 0, 0, []), (.iload_n 1, 0, 0, 0, []), (.invokestatic 217, 117, 2, 0, [2, 841, 842, 135, 843]), (.ifCond .eq 7, 4, 0, 0, []), (.iconst 1, 0, 0, 1, []), (.goto 4, 5, 0, 0, [])]
def zc_161_4 : List zi_I := [(.iconst 0, 0, 0, 0, []), (.nop, 5, 0, 0, [])]
def zc_161_5 : List zi_I := [(.iadd, 0, 0, 0, []), (.istore_n 3, 0, 0, 0, []), (.iinc 4 1, 0, 0, 1, []), (.goto (-47), 3, 0, 0, [])]
def zc_161_6 : List zi_I := [(.iload_n 3, 0, 0, 0, []), (.i2l, 0, 0, 0, []), (.aload_n 0, 0, 0, 0, []), (.getfield 19, 6, 2, 0, [8, 33, 105]), (.aload_n 0, 0, 0, 0, []), (.getfield 96, 5, 0, 0, [8, 33, 717]), (.iaload, 0, 0, 0, []), (.i2l, 0, 0, 0, []), (.iload_n 2, 0, 0, 0, []), (.invokestatic 220, 160, 3, 0, [11, 844, 845, 135, 846]), (.lreturn, 0, 0, 0, [])]
def zc_161 : zi_D := ((yX8_odds, cX8_odds, 5, (some .long)), (3, 75, 0, 0), [zc_161_0, zc_161_1, zc_161_2, zc_161_3, zc_161_4, zc_161_5, zc_161_6], [0, 25, 29, 38, 79, 80, 88])
def zc_162_0 : List zi_I := [(.aload_n 0, 0, 0, 0, []), (.iconst 0, 0, 0, 0, []), (.putfield 86, 0, 0, 0, [8, 33, 712]), (.iload_n 1, 0, 0, 0, []), (.invokestatic 102, 112, 1, 0, [1, 719, 720, 135, 721]), (.ifCond .ne 5, 1, 0, 0, []), (.iconst (-1), 0, 0, -1, []), (.ireturn, 0, 0, 0, [])]
def zc_162_1 : List zi_I := [(.iload_n 2, 0, 0, 0, []), (.invokestatic 106, 113, 1, 0, [1, 722, 723, 135, 724]), (.ifCond .eq 9, 2, 0, 0, []), (.iload_n 3, 0, 0, 0, []), (.bipush 60, 0, 0, 60, []), (.if_icmp .le 6, 3, 0, 0, []), (.nop, 2, 0, 0, [])]
def zc_162_2 : List zi_I := [(.bipush (-2), 0, 0, -2, []), (.ireturn, 0, 0, 0, [])]
def zc_162_3 : List zi_I := [(.iload_n 3, 0, 0, 0, []), (.ifCond .ge 9, 4, 0, 0, []), (.aload_n 0, 0, 0, 0, []), (.iconst 4, 0, 0, 4, []), (.invokevirtual 113, 109, 2, 0, [8, 33, 2, 729, 730, 135, 731, 732]), (.ireturn, 0, 0, 0, [])]
def zc_162_4 : List zi_I := [(.aload_n 0, 0, 0, 0, []), (.getfield 9, 2, 2, 0, [8, 33, 102]), (.iload_n 1, 0, 0, 0, []), (.iload_n 2, 0, 0, 0, []), (.iastore, 0, 0, 0, []), (.aload_n 0, 0, 0, 0, []), (.getfield 13, 3, 2, 0, [8, 33, 103]), (.iload_n 1, 0, 0, 0, []), (.iload_n 3, 0, 0, 0, []), (.iastore, 0, 0, 0, []), (.iconst 0, 0, 0, 0, []), (.istore 4, 0, 0, 0, []), (.nop, 5, 0, 0, [])]
def zc_162_5 : List zi_I := [(.iload 4, 0, 0, 0, []), (.bipush 60, 0, 0, 60, []), (.if_icmp .ge 22, 6, 0, 0, []), (.aload_n 0, 0, 0, 0, []), (.getfield 16, 4, 2, 0, [8, 33, 104]), (.bipush 60, 0, 0, 60, []), (.iload_n 1, 0, 0, 0, []), (.imul, 0, 0, 0, []), (.iload 4, 0, 0, 0, []), (.iadd, 0, 0, 0, []), (.iconst 0, 0, 0, 0, []), (.iastore, 0, 0, 0, []), (.iinc 4 1, 0, 0, 1, []), (.goto (-23), 5, 0, 0, [])]
def zc_162_6 : List zi_I := [(.iconst 1, 0, 0, 1, []), (.ireturn, 0, 0, 0, [])]
def zc_162 : zi_D := ((yX8_sheet, cX8_sheet, 5, (some .int)), (2, 42, 0, 0), [zc_162_0, zc_162_1, zc_162_2, zc_162_3, zc_162_4, zc_162_5, zc_162_6], [0, 14, 27, 30, 40, 57, 83])
def zc_163_0 : List zi_I := [(.iload_n 1, 0, 0, 0, []), (.invokestatic 102, 112, 1, 0, [1, 719, 720, 135, 721]), (.ifCond .ne 5, 1, 0, 0, []), (.iconst (-1), 0, 0, -1, []), (.ireturn, 0, 0, 0, [])]
def zc_163_1 : List zi_I := [(.aload_n 0, 0, 0, 0, []), (.getfield 9, 2, 2, 0, [8, 33, 102]), (.iload_n 1, 0, 0, 0, []), (.iaload, 0, 0, 0, []), (.bipush (-9), 0, 0, -9, []), (.if_icmp .ne 7, 2, 0, 0, []), (.iconst 0, 0, 0, 0, []), (.goto 4, 3, 0, 0, [])]
def zc_163_2 : List zi_I := [(.iconst 1, 0, 0, 1, []), (.nop, 3, 0, 0, [])]
def zc_163_3 : List zi_I := [(.istore_n 2, 0, 0, 0, []), (.aload_n 0, 0, 0, 0, []), (.getfield 9, 2, 2, 0, [8, 33, 102]), (.iload_n 1, 0, 0, 0, []), (.bipush (-9), 0, 0, -9, []), (.iastore, 0, 0, 0, []), (.iload_n 2, 0, 0, 0, []), (.ireturn, 0, 0, 0, [])]
def zc_163 : zi_D := ((yX8_lose, cX8_lose, 3, (some .int)), (2, 42, 0, 0), [zc_163_0, zc_163_1, zc_163_2, zc_163_3], [0, 9, 24, 25])
def zc_164_0 : List zi_I := [(.aload_n 0, 0, 0, 0, []), (.iconst 0, 0, 0, 0, []), (.putfield 86, 0, 0, 0, [8, 33, 712]), (.iload_n 1, 0, 0, 0, []), (.invokestatic 102, 112, 1, 0, [1, 719, 720, 135, 721]), (.ifCond .ne 5, 1, 0, 0, []), (.iconst (-1), 0, 0, -1, []), (.ireturn, 0, 0, 0, [])]
def zc_164_1 : List zi_I := [(.aload_n 0, 0, 0, 0, []), (.getfield 9, 2, 2, 0, [8, 33, 102]), (.iload_n 1, 0, 0, 0, []), (.iaload, 0, 0, 0, []), (.bipush (-9), 0, 0, -9, []), (.if_icmp .ne 9, 2, 0, 0, []), (.aload_n 0, 0, 0, 0, []), (.iconst 1, 0, 0, 1, []), (.invokevirtual 113, 109, 2, 0, [8, 33, 2, 729, 730, 135, 731, 732]), (.ireturn, 0, 0, 0, [])]
def zc_164_2 : List zi_I := [(.iload_n 2, 0, 0, 0, []), (.iconst 0, 0, 0, 0, []), (.aload_n 0, 0, 0, 0, []), (.getfield 13, 3, 2, 0, [8, 33, 103]), (.iload_n 1, 0, 0, 0, []), (.iaload, 0, 0, 0, []), (.iconst 1, 0, 0, 1, []), (.isub, 0, 0, 0, []), (.invokestatic 92, 111, 3, 0, [3, 714, 715, 135, 716]), (.ifCond .ne 9, 3, 0, 0, []), (.aload_n 0, 0, 0, 0, []), (.iconst 3, 0, 0, 3, []), (.invokevirtual 113, 109, 2, 0, [8, 33, 2, 729, 730, 135, 731, 732]), (.ireturn, 0, 0, 0, [])]
def zc_164_3 : List zi_I := [(.aload_n 0, 0, 0, 0, []), (.getfield 16, 4, 2, 0, [8, 33, 104]), (.bipush 60, 0, 0, 60, []), (.iload_n 1, 0, 0, 0, []), (.imul, 0, 0, 0, []), (.iload_n 2, 0, 0, 0, []), (.iadd, 0, 0, 0, []), (.aload_n 0, 0, 0, 0, []), (.getfield 9, 2, 2, 0, [8, 33, 102]), (.iload_n 1, 0, 0, 0, []), (.iaload, 0, 0, 0, []), (.ifCond .ne 8, 4, 0, 0, []), (.iload_n 3, 0, 0, 0, []), (.i2b, 0, 0, 0, []), (.goto 19, 6, 0, 0, [])]
def zc_164_4 : List zi_I := [(.aload_n 0, 0, 0, 0, []), (.getfield 9, 2, 2, 0, [8, 33, 102]), (.iload_n 1, 0, 0, 0, []), (.iaload, 0, 0, 0, []), (.iconst 1, 0, 0, 1, []), (.if_icmp .ne 8, 5, 0, 0, []), (.iload_n 3, 0, 0, 0, []), (.i2s, 0, 0, 0, []), (.goto 4, 6, 0, 0, [])]
def zc_164_5 : List zi_I := [(.iload_n 3, 0, 0, 0, []), (.nop, 6, 0, 0, [])]
def zc_164_6 : List zi_I := [(.iastore, 0, 0, 0, []), (.iconst 1, 0, 0, 1, []), (.ireturn, 0, 0, 0, [])]
def zc_164 : zi_D := ((yX8_put, cX8_put, 4, (some .int)), (2, 42, 0, 0), [zc_164_0, zc_164_1, zc_164_2, zc_164_3, zc_164_4, zc_164_5, zc_164_6], [0, 14, 31, 53, 77, 92, 93])
def zc_165_0 : List zi_I := [(.aload_n 0, 0, 0, 0, []), (.iconst 0, 0, 0, 0, []), (.putfield 86, 0, 0, 0, [8, 33, 712]), (.iload_n 1, 0, 0, 0, []), (.invokestatic 102, 112, 1, 0, [1, 719, 720, 135, 721]), (.ifCond .eq 10, 1, 0, 0, []), (.iload_n 3, 0, 0, 0, []), (.invokestatic 106, 113, 1, 0, [1, 722, 723, 135, 724]), (.ifCond .ne 7, 2, 0, 0, []), (.nop, 1, 0, 0, [])]
def zc_165_1 : List zi_I := [(.ldc2_w 90, 0, 0, 0, [713]), (.lreturn, 0, 0, 0, [])]
def zc_165_2 : List zi_I := [(.aload_n 0, 0, 0, 0, []), (.getfield 9, 2, 2, 0, [8, 33, 102]), (.iload_n 1, 0, 0, 0, []), (.iaload, 0, 0, 0, []), (.bipush (-9), 0, 0, -9, []), (.if_icmp .eq 19, 3, 0, 0, []), (.aload_n 0, 0, 0, 0, []), (.getfield 9, 2, 2, 0, [8, 33, 102]), (.iload_n 1, 0, 0, 0, []), (.iaload, 0, 0, 0, []), (.iload_n 3, 0, 0, 0, []), (.if_icmp .eq 9, 3, 0, 0, []), (.aload_n 0, 0, 0, 0, []), (.iconst 2, 0, 0, 2, []), (.invokevirtual 224, 110, 2, 0, [8, 33, 2, 847, 848, 135, 849, 850]), (.lreturn, 0, 0, 0, [])]
def zc_165_3 : List zi_I := [(.aload_n 0, 0, 0, 0, []), (.getfield 9, 2, 2, 0, [8, 33, 102]), (.iload_n 1, 0, 0, 0, []), (.iaload, 0, 0, 0, []), (.bipush (-9), 0, 0, -9, []), (.if_icmp .ne 9, 4, 0, 0, []), (.aload_n 0, 0, 0, 0, []), (.iconst 1, 0, 0, 1, []), (.invokevirtual 224, 110, 2, 0, [8, 33, 2, 847, 848, 135, 849, 850]), (.lreturn, 0, 0, 0, [])]
def zc_165_4 : List zi_I := [(.iload_n 2, 0, 0, 0, []), (.iconst 0, 0, 0, 0, []), (.aload_n 0, 0, 0, 0, []), (.getfield 13, 3, 2, 0, [8, 33, 103]), (.iload_n 1, 0, 0, 0, []), (.iaload, 0, 0, 0, []), (.iconst 1, 0, 0, 1, []), (.isub, 0, 0, 0, []), (.invokestatic 92, 111, 3, 0, [3, 714, 715, 135, 716]), (.ifCond .ne 9, 5, 0, 0, []), (.aload_n 0, 0, 0, 0, []), (.iconst 3, 0, 0, 3, []), (.invokevirtual 224, 110, 2, 0, [8, 33, 2, 847, 848, 135, 849, 850]), (.lreturn, 0, 0, 0, [])]
def zc_165_5 : List zi_I := [(.aload_n 0, 0, 0, 0, []), (.getfield 16, 4, 2, 0, [8, 33, 104]), (.bipush 60, 0, 0, 60, []), (.iload_n 1, 0, 0, 0, []), (.imul, 0, 0, 0, []), (.iload_n 2, 0, 0, 0, []), (.iadd, 0, 0, 0, []), (.iaload, 0, 0, 0, []), (.i2l, 0, 0, 0, []), (.lreturn, 0, 0, 0, [])]
def zc_165 : zi_D := ((yX8_cell, cX8_cell, 4, (some .long)), (2, 42, 0, 0), [zc_165_0, zc_165_1, zc_165_2, zc_165_3, zc_165_4, zc_165_5], [0, 19, 23, 50, 67, 89])
def zc_166_0 : List zi_I := [(.aload_n 0, 0, 0, 0, []), (.iconst 0, 0, 0, 0, []), (.putfield 86, 0, 0, 0, [8, 33, 712]), (.iload_n 1, 0, 0, 0, []), (.invokestatic 102, 112, 1, 0, [1, 719, 720, 135, 721]), (.ifCond .eq 10, 1, 0, 0, []), (.iload_n 3, 0, 0, 0, []), (.invokestatic 102, 112, 1, 0, [1, 719, 720, 135, 721]), (.ifCond .ne 5, 2, 0, 0, []), (.nop, 1, 0, 0, [])]
def zc_166_1 : List zi_I := [(.iconst (-1), 0, 0, -1, []), (.ireturn, 0, 0, 0, [])]
def zc_166_2 : List zi_I := [(.aload_n 0, 0, 0, 0, []), (.getfield 9, 2, 2, 0, [8, 33, 102]), (.iload_n 1, 0, 0, 0, []), (.iaload, 0, 0, 0, []), (.bipush (-9), 0, 0, -9, []), (.if_icmp .eq 14, 3, 0, 0, []), (.aload_n 0, 0, 0, 0, []), (.getfield 9, 2, 2, 0, [8, 33, 102]), (.iload_n 3, 0, 0, 0, []), (.iaload, 0, 0, 0, []), (.bipush (-9), 0, 0, -9, []), (.if_icmp .ne 9, 4, 0, 0, []), (.nop, 3, 0, 0, [])]
def zc_166_3 : List zi_I := [(.aload_n 0, 0, 0, 0, []), (.iconst 1, 0, 0, 1, []), (.invokevirtual 113, 109, 2, 0, [8, 33, 2, 729, 730, 135, 731, 732]), (.ireturn, 0, 0, 0, [])]
def zc_166_4 : List zi_I := [(.aload_n 0, 0, 0, 0, []), (.getfield 9, 2, 2, 0, [8, 33, 102]), (.iload_n 1, 0, 0, 0, []), (.iaload, 0, 0, 0, []), (.aload_n 0, 0, 0, 0, []), (.getfield 9, 2, 2, 0, [8, 33, 102]), (.iload_n 3, 0, 0, 0, []), (.iaload, 0, 0, 0, []), (.if_icmp .eq 9, 5, 0, 0, []), (.aload_n 0, 0, 0, 0, []), (.iconst 2, 0, 0, 2, []), (.invokevirtual 113, 109, 2, 0, [8, 33, 2, 729, 730, 135, 731, 732]), (.ireturn, 0, 0, 0, [])]
def zc_166_5 : List zi_I := [(.iload_n 2, 0, 0, 0, []), (.ifCond .lt 38, 6, 0, 0, []), (.iload 4, 0, 0, 0, []), (.ifCond .lt 33, 6, 0, 0, []), (.iload 5, 0, 0, 0, []), (.ifCond .lt 28, 6, 0, 0, []), (.iload_n 2, 0, 0, 0, []), (.aload_n 0, 0, 0, 0, []), (.getfield 13, 3, 2, 0, [8, 33, 103]), (.iload_n 1, 0, 0, 0, []), (.iaload, 0, 0, 0, []), (.if_icmp .gt 18, 6, 0, 0, []), (.iload 4, 0, 0, 0, []), (.aload_n 0, 0, 0, 0, []), (.getfield 13, 3, 2, 0, [8, 33, 103]), (.iload_n 3, 0, 0, 0, []), (.iaload, 0, 0, 0, []), (.if_icmp .gt 7, 6, 0, 0, []), (.iconst 1, 0, 0, 1, []), (.goto 4, 7, 0, 0, [])]
def zc_166_6 : List zi_I := [(.iconst 0, 0, 0, 0, []), (.nop, 7, 0, 0, [])]
def zc_166_7 : List zi_I := [(.istore 6, 0, 0, 0, []), (.iload 6, 0, 0, 0, []), (.ifCond .eq 30, 8, 0, 0, []), (.iload 5, 0, 0, 0, []), (.aload_n 0, 0, 0, 0, []), (.getfield 13, 3, 2, 0, [8, 33, 103]), (.iload_n 1, 0, 0, 0, []), (.iaload, 0, 0, 0, []), (.iload_n 2, 0, 0, 0, []), (.isub, 0, 0, 0, []), (.if_icmp .gt 17, 8, 0, 0, []), (.iload 5, 0, 0, 0, []), (.aload_n 0, 0, 0, 0, []), (.getfield 13, 3, 2, 0, [8, 33, 103]), (.iload_n 3, 0, 0, 0, []), (.iaload, 0, 0, 0, []), (.iload 4, 0, 0, 0, []), (.isub, 0, 0, 0, []), (.if_icmp .le 9, 9, 0, 0, []), (.nop, 8, 0, 0, [])]
def zc_166_8 : List zi_I := [(.aload_n 0, 0, 0, 0, []), (.iconst 3, 0, 0, 3, []), (.invokevirtual 113, 109, 2, 0, [8, 33, 2, 729, 730, 135, 731, 732]), (.ireturn, 0, 0, 0, [])]
def zc_166_9 : List zi_I := [(.iload_n 2, 0, 0, 0, []), (.iload 4, 0, 0, 0, []), (.if_icmp .ge 7, 10, 0, 0, []), (.iconst 1, 0, 0, 1, []), (.goto 4, 11, 0, 0, [])]
def zc_166_10 : List zi_I := [(.iconst 0, 0, 0, 0, []), (.nop, 11, 0, 0, [])]
def zc_166_11 : List zi_I := [(.istore 7, 0, 0, 0, []), (.iconst 0, 0, 0, 0, []), (.istore 8, 0, 0, 0, []), (.nop, 12, 0, 0, [])]
def zc_166_12 : List zi_I := [(.iload 8, 0, 0, 0, []), (.iload 5, 0, 0, 0, []), (.if_icmp .ge 57, 15, 0, 0, []), (.iload 7, 0, 0, 0, []), (.ifCond .eq 13, 13, 0, 0, []), (.iload 5, 0, 0, 0, []), (.iconst 1, 0, 0, 1, []), (.isub, 0, 0, 0, []), (.iload 8, 0, 0, 0, []), (.isub, 0, 0, 0, []), (.goto 5, 14, 0, 0, [])]
def zc_166_13 : List zi_I := [(.iload 8, 0, 0, 0, []), (.nop, 14, 0, 0, [])]
def zc_166_14 : List zi_I := [(.istore 9, 0, 0, 0, []), (.aload_n 0, 0, 0, 0, []), (.getfield 16, 4, 2, 0, [8, 33, 104]), (.bipush 60, 0, 0, 60, []), (.iload_n 3, 0, 0, 0, []), (.imul, 0, 0, 0, []), (.iload 4, 0, 0, 0, []), (.iadd, 0, 0, 0, []), (.iload 9, 0, 0, 0, []), (.iadd, 0, 0, 0, []), (.aload_n 0, 0, 0, 0, []), (.getfield 16, 4, 2, 0, [8, 33, 104]), (.bipush 60, 0, 0, 60, []), (.iload_n 1, 0, 0, 0, []), (.imul, 0, 0, 0, []), (.iload_n 2, 0, 0, 0, []), (.iadd, 0, 0, 0, []), (.iload 9, 0, 0, 0, []), (.iadd, 0, 0, 0, []), (.iaload, 0, 0, 0, []), (.iastore, 0, 0, 0, []), (.iinc 8 1, 0, 0, 1, []), (.goto (-58), 12, 0, 0, [])]
def zc_166_15 : List zi_I := [(.iload 5, 0, 0, 0, []), (.ireturn, 0, 0, 0, [])]
def zc_166 : zi_D := ((yX8_copy, cX8_copy, 10, (some .int)), (2, 42, 0, 0), [zc_166_0, zc_166_1, zc_166_2, zc_166_3, zc_166_4, zc_166_5, zc_166_6, zc_166_7, zc_166_8, zc_166_9, zc_166_10, zc_166_11, zc_166_12, zc_166_13, zc_166_14, zc_166_15], [0, 19, 21, 43, 49, 70, 109, 110, 144, 150, 160, 161, 166, 188, 190, 227])
def zc_167_0 : List zi_I := [(.aload_n 0, 0, 0, 0, []), (.bipush 31, 0, 0, 31, []), (.aload_n 0, 0, 0, 0, []), (.getfield 228, 1, 0, 0, [8, 33, 851]), (.imul, 0, 0, 0, []), (.iload_n 1, 0, 0, 0, []), (.iadd, 0, 0, 0, []), (.putfield 228, 1, 0, 0, [8, 33, 851]), (.return_, 0, 0, 0, [])]
def zc_167 : zi_D := ((yX8_begins, cX8_begins, 2, none), (0, 0, 0, 0), [zc_167_0], [0])
def zc_168_0 : List zi_I := [(.aload_n 0, 0, 0, 0, []), (.iload_n 1, 0, 0, 0, []), (.invokevirtual 165, 116, 2, 0, [8, 33, 2, 780, 781, 135, 782, 783]), (.ifCond .ne 5, 1, 0, 0, []), (.iconst (-1), 0, 0, -1, []), (.ireturn, 0, 0, 0, [])]
def zc_168_1 : List zi_I := [(.aload_n 0, 0, 0, 0, []), (.getfield 25, 8, 2, 0, [8, 33, 107]), (.iload_n 1, 0, 0, 0, []), (.iaload, 0, 0, 0, []), (.istore_n 2, 0, 0, 0, []), (.aload_n 0, 0, 0, 0, []), (.getfield 22, 7, 2, 0, [8, 33, 106]), (.iload_n 1, 0, 0, 0, []), (.iaload, 0, 0, 0, []), (.lookupswitch 67 #[(1, 25), (2, 40)], 4, 0, 0, [2, 3])]
def zc_168_2 : List zi_I := [(.aload_n 0, 0, 0, 0, []), (.iconst 2, 0, 0, 2, []), (.invokevirtual 231, 167, 2, 0, [8, 33, 2, 852, 853, 135, 854, 855]), (.aload_n 0, 0, 0, 0, []), (.iconst 1, 0, 0, 1, []), (.invokevirtual 231, 167, 2, 0, [8, 33, 2, 852, 853, 135, 854, 855]), (.iload_n 2, 0, 0, 0, []), (.bipush 100, 0, 0, 100, []), (.iadd, 0, 0, 0, []), (.ireturn, 0, 0, 0, [])]
def zc_168_3 : List zi_I := [(.aload_n 0, 0, 0, 0, []), (.iconst 3, 0, 0, 3, []), (.invokevirtual 231, 167, 2, 0, [8, 33, 2, 852, 853, 135, 854, 855]), (.aload_n 0, 0, 0, 0, []), (.iconst 2, 0, 0, 2, []), (.invokevirtual 231, 167, 2, 0, [8, 33, 2, 852, 853, 135, 854, 855]), (.aload_n 0, 0, 0, 0, []), (.iconst 1, 0, 0, 1, []), (.invokevirtual 231, 167, 2, 0, [8, 33, 2, 852, 853, 135, 854, 855]), (.aload_n 0, 0, 0, 0, []), (.iconst 1, 0, 0, 1, []), (.invokevirtual 231, 167, 2, 0, [8, 33, 2, 852, 853, 135, 854, 855]), (.iconst 2, 0, 0, 2, []), (.iload_n 2, 0, 0, 0, []), (.imul, 0, 0, 0, []), (.bipush 100, 0, 0, 100, []), (.iadd, 0, 0, 0, []), (.ireturn, 0, 0, 0, [])]
def zc_168_4 : List zi_I := [(.aload_n 0, 0, 0, 0, []), (.iconst 1, 0, 0, 1, []), (.invokevirtual 231, 167, 2, 0, [8, 33, 2, 852, 853, 135, 854, 855]), (.iload_n 2, 0, 0, 0, []), (.ireturn, 0, 0, 0, [])]
def zc_168 : zi_D := ((yX8_tell, cX8_tell, 3, (some .int)), (1, 21, 0, 0), [zc_168_0, zc_168_1, zc_168_2, zc_168_3, zc_168_4], [0, 10, 48, 63, 90])
def zc_169_0 : List zi_I := [(.aload_n 0, 0, 0, 0, []), (.iload_n 1, 0, 0, 0, []), (.invokevirtual 165, 116, 2, 0, [8, 33, 2, 780, 781, 135, 782, 783]), (.ifCond .ne 5, 1, 0, 0, []), (.iconst (-1), 0, 0, -1, []), (.ireturn, 0, 0, 0, [])]
def zc_169_1 : List zi_I := [(.aload_n 0, 0, 0, 0, []), (.aload_n 0, 0, 0, 0, []), (.getfield 22, 7, 2, 0, [8, 33, 106]), (.iload_n 1, 0, 0, 0, []), (.iaload, 0, 0, 0, []), (.iconst 2, 0, 0, 2, []), (.if_icmp .ne 7, 2, 0, 0, []), (.iconst 5, 0, 0, 5, []), (.goto 4, 3, 0, 0, [])]
def zc_169_2 : List zi_I := [(.iconst 4, 0, 0, 4, []), (.nop, 3, 0, 0, [])]
def zc_169_3 : List zi_I := [(.invokevirtual 231, 167, 2, 0, [8, 33, 2, 852, 853, 135, 854, 855]), (.aload_n 0, 0, 0, 0, []), (.getfield 22, 7, 2, 0, [8, 33, 106]), (.iload_n 1, 0, 0, 0, []), (.iaload, 0, 0, 0, []), (.iconst 2, 0, 0, 2, []), (.if_icmp .ne 8, 4, 0, 0, []), (.bipush 50, 0, 0, 50, []), (.goto 9, 5, 0, 0, [])]
def zc_169_4 : List zi_I := [(.aload_n 0, 0, 0, 0, []), (.getfield 28, 9, 2, 0, [8, 33, 108]), (.iload_n 1, 0, 0, 0, []), (.iaload, 0, 0, 0, []), (.nop, 5, 0, 0, [])]
def zc_169_5 : List zi_I := [(.ireturn, 0, 0, 0, [])]
def zc_169 : zi_D := ((yX8_tug, cX8_tug, 2, (some .int)), (1, 21, 0, 0), [zc_169_0, zc_169_1, zc_169_2, zc_169_3, zc_169_4, zc_169_5], [0, 10, 25, 26, 44, 50])
def zc_170_0 : List zi_I := [(.aload_n 0, 0, 0, 0, []), (.iconst 0, 0, 0, 0, []), (.putfield 86, 0, 0, 0, [8, 33, 712]), (.aload_n 0, 0, 0, 0, []), (.iload_n 1, 0, 0, 0, []), (.invokevirtual 165, 116, 2, 0, [8, 33, 2, 780, 781, 135, 782, 783]), (.ifCond .ne 5, 1, 0, 0, []), (.iconst (-1), 0, 0, -1, []), (.ireturn, 0, 0, 0, [])]
def zc_170_1 : List zi_I := [(.iload_n 2, 0, 0, 0, []), (.iconst 0, 0, 0, 0, []), (.iconst 2, 0, 0, 2, []), (.invokestatic 92, 111, 3, 0, [3, 714, 715, 135, 716]), (.ifCond .ne 6, 2, 0, 0, []), (.bipush (-2), 0, 0, -2, []), (.ireturn, 0, 0, 0, [])]
def zc_170_2 : List zi_I := [(.aload_n 0, 0, 0, 0, []), (.getfield 22, 7, 2, 0, [8, 33, 106]), (.iload_n 1, 0, 0, 0, []), (.iaload, 0, 0, 0, []), (.iload_n 2, 0, 0, 0, []), (.if_icmp .lt 7, 3, 0, 0, []), (.iconst 1, 0, 0, 1, []), (.goto 8, 4, 0, 0, [])]
def zc_170_3 : List zi_I := [(.aload_n 0, 0, 0, 0, []), (.iconst 2, 0, 0, 2, []), (.invokevirtual 113, 109, 2, 0, [8, 33, 2, 729, 730, 135, 731, 732]), (.nop, 4, 0, 0, [])]
def zc_170_4 : List zi_I := [(.ireturn, 0, 0, 0, [])]
def zc_170 : zi_D := ((yX8_as, cX8_as, 3, (some .int)), (1, 22, 0, 0), [zc_170_0, zc_170_1, zc_170_2, zc_170_3, zc_170_4], [0, 15, 27, 41, 46])
def zc_171_0 : List zi_I := [(.aload_n 0, 0, 0, 0, []), (.getfield 228, 1, 0, 0, [8, 33, 851]), (.ireturn, 0, 0, 0, [])]
def zc_171 : zi_D := ((yX8_trace, cX8_trace, 1, (some .int)), (0, 0, 0, 0), [zc_171_0], [0])
def zc_172_0 : List zi_I := [(.aload_n 0, 0, 0, 0, []), (.getfield 86, 0, 0, 0, [8, 33, 712]), (.ireturn, 0, 0, 0, [])]
def zc_172 : zi_D := ((yX8_fault, cX8_fault, 1, (some .int)), (0, 0, 0, 0), [zc_172_0], [0])
def zc_173_0 : List zi_I := [(.iload_n 1, 0, 0, 0, []), (.tableswitch 80 0 3 #[31, 36, 46, 75], 7, 0, 0, [1, 2, 3, 6])]
def zc_173_1 : List zi_I := [(.aload_n 0, 0, 0, 0, []), (.getfield 96, 5, 0, 0, [8, 33, 717]), (.ireturn, 0, 0, 0, [])]
def zc_173_2 : List zi_I := [(.aload_n 0, 0, 0, 0, []), (.getfield 19, 6, 2, 0, [8, 33, 105]), (.aload_n 0, 0, 0, 0, []), (.getfield 96, 5, 0, 0, [8, 33, 717]), (.iaload, 0, 0, 0, []), (.ireturn, 0, 0, 0, [])]
def zc_173_3 : List zi_I := [(.iconst 0, 0, 0, 0, []), (.istore_n 2, 0, 0, 0, []), (.iconst 0, 0, 0, 0, []), (.istore_n 3, 0, 0, 0, []), (.nop, 4, 0, 0, [])]
def zc_173_4 : List zi_I := [(.iload_n 3, 0, 0, 0, []), (.aload_n 0, 0, 0, 0, []), (.getfield 96, 5, 0, 0, [8, 33, 717]), (.if_icmp .gt 18, 5, 0, 0, []), (.iload_n 2, 0, 0, 0, []), (.aload_n 0, 0, 0, 0, []), (.getfield 19, 6, 2, 0, [8, 33, 105]), (.iload_n 3, 0, 0, 0, []), (.iaload, 0, 0, 0, []), (.iadd, 0, 0, 0, []), (.istore_n 2, 0, 0, 0, []), (.iinc 3 1, 0, 0, 1, []), (.goto (-20), 4, 0, 0, [])]
def zc_173_5 : List zi_I := [(.iload_n 2, 0, 0, 0, []), (.ireturn, 0, 0, 0, [])]
def zc_173_6 : List zi_I := [(.aload_n 0, 0, 0, 0, []), (.getfield 133, 30, 0, 0, [8, 33, 746]), (.ireturn, 0, 0, 0, [])]
def zc_173_7 : List zi_I := [(.bipush (-2), 0, 0, -2, []), (.ireturn, 0, 0, 0, [])]
def zc_173 : zi_D := ((yX8_many, cX8_many, 4, (some .int)), (0, 0, 0, 0), [zc_173_0, zc_173_1, zc_173_2, zc_173_3, zc_173_4, zc_173_5, zc_173_6, zc_173_7], [0, 32, 37, 47, 51, 74, 76, 81])
def zi_dd : zi_D := ((yX0_init, cX0_init, 0, none), (0, 0, 0, 0), [], [])
def zt_0 : List zi_D := [zc_0, zc_1, zc_2, zc_3, zc_4, zc_5, zc_6, zc_7, zc_8, zc_9, zc_10, zc_11, zc_12, zc_13, zc_14, zc_15]
def zt_1 : List zi_D := [zc_16, zc_17, zc_18, zc_19, zc_20, zc_21, zc_22, zc_23, zc_24, zc_25, zc_26, zc_27, zc_28, zc_29, zc_30, zc_31]
def zt_2 : List zi_D := [zc_32, zc_33, zc_34, zc_35, zc_36, zc_37, zc_38, zc_39, zc_40, zc_41, zc_42, zc_43, zc_44, zc_45, zc_46, zc_47]
def zt_3 : List zi_D := [zc_48, zc_49, zc_50, zc_51, zc_52, zc_53, zc_54, zc_55, zc_56, zc_57, zc_58, zc_59, zc_60, zc_61, zc_62, zc_63]
def zt_4 : List zi_D := [zc_64, zc_65, zc_66, zc_67, zc_68, zc_69, zc_70, zc_71, zc_72, zc_73, zc_74, zc_75, zc_76, zc_77, zc_78, zc_79]
def zt_5 : List zi_D := [zc_80, zc_81, zc_82, zc_83, zc_84, zc_85, zc_86, zc_87, zc_88, zc_89, zc_90, zc_91, zc_92, zc_93, zc_94, zc_95]
def zt_6 : List zi_D := [zc_96, zc_97, zc_98, zc_99, zc_100, zc_101, zc_102, zc_103, zc_104, zc_105, zc_106, zc_107, zc_108, zc_109, zc_110, zc_111]
def zt_7 : List zi_D := [zc_112, zc_113, zc_114, zc_115, zc_116, zc_117, zc_118, zc_119, zc_120, zc_121, zc_122, zc_123, zc_124, zc_125, zc_126, zc_127]
def zt_8 : List zi_D := [zc_128, zc_129, zc_130, zc_131, zc_132, zc_133, zc_134, zc_135, zc_136, zc_137, zc_138, zc_139, zc_140, zc_141, zc_142, zc_143]
def zt_9 : List zi_D := [zc_144, zc_145, zc_146, zc_147, zc_148, zc_149, zc_150, zc_151, zc_152, zc_153, zc_154, zc_155, zc_156, zc_157, zc_158, zc_159]
def zt_10 : List zi_D := [zc_160, zc_161, zc_162, zc_163, zc_164, zc_165, zc_166, zc_167, zc_168, zc_169, zc_170, zc_171, zc_172, zc_173]
def zi_TC (c : Nat) : List zi_D := match c with
  | 0 => zt_0
  | 1 => zt_1
  | 2 => zt_2
  | 3 => zt_3
  | 4 => zt_4
  | 5 => zt_5
  | 6 => zt_6
  | 7 => zt_7
  | 8 => zt_8
  | 9 => zt_9
  | 10 => zt_10
  | _ => []
def zi_T (k : Nat) : zi_D := (zi_TC (k / 16)).getD (k % 16) zi_dd
end
section
/-! the kernel's check of the methods, by program -/
theorem zi_allof {k n : Nat} (h : (List.range n).all (fun b => zi_chk zi_T k (zi_sp zi_T k b) (zi_bk zi_T k b)) = true) (hn : (zi_T k).2.2.1.length = n) : ∀ b, zi_chk zi_T k (zi_sp zi_T k b) (zi_bk zi_T k b) = true := by
  intro b
  by_cases hb : b < n
  · exact List.all_eq_true.mp h b (List.mem_range.mpr hb)
  · have e : zi_bk zi_T k b = [] := by
      show ((zi_T k).2.2.1.getD b []) = []
      rw [List.getD_eq_getElem?_getD, List.getElem?_eq_none (by rw [hn]; omega)]
      rfl
    rw [e]
    rfl
set_option maxRecDepth 100000 in
theorem zk_0_a : (List.range 1).all (fun b => zi_chk zi_T 0 (zi_sp zi_T 0 b) (zi_bk zi_T 0 b)) = true := by decide +kernel
theorem zk_0 : ∀ b, zi_chk zi_T 0 (zi_sp zi_T 0 b) (zi_bk zi_T 0 b) = true := zi_allof zk_0_a rfl
set_option maxRecDepth 100000 in
theorem zk_1_a : (List.range 3).all (fun b => zi_chk zi_T 1 (zi_sp zi_T 1 b) (zi_bk zi_T 1 b)) = true := by decide +kernel
theorem zk_1 : ∀ b, zi_chk zi_T 1 (zi_sp zi_T 1 b) (zi_bk zi_T 1 b) = true := zi_allof zk_1_a rfl
set_option maxRecDepth 100000 in
theorem zk_2_a : (List.range 5).all (fun b => zi_chk zi_T 2 (zi_sp zi_T 2 b) (zi_bk zi_T 2 b)) = true := by decide +kernel
theorem zk_2 : ∀ b, zi_chk zi_T 2 (zi_sp zi_T 2 b) (zi_bk zi_T 2 b) = true := zi_allof zk_2_a rfl
set_option maxRecDepth 100000 in
theorem zk_3_a : (List.range 1).all (fun b => zi_chk zi_T 3 (zi_sp zi_T 3 b) (zi_bk zi_T 3 b)) = true := by decide +kernel
theorem zk_3 : ∀ b, zi_chk zi_T 3 (zi_sp zi_T 3 b) (zi_bk zi_T 3 b) = true := zi_allof zk_3_a rfl
set_option maxRecDepth 100000 in
theorem zk_4_a : (List.range 1).all (fun b => zi_chk zi_T 4 (zi_sp zi_T 4 b) (zi_bk zi_T 4 b)) = true := by decide +kernel
theorem zk_4 : ∀ b, zi_chk zi_T 4 (zi_sp zi_T 4 b) (zi_bk zi_T 4 b) = true := zi_allof zk_4_a rfl
set_option maxRecDepth 100000 in
theorem zk_5_a : (List.range 1).all (fun b => zi_chk zi_T 5 (zi_sp zi_T 5 b) (zi_bk zi_T 5 b)) = true := by decide +kernel
theorem zk_5 : ∀ b, zi_chk zi_T 5 (zi_sp zi_T 5 b) (zi_bk zi_T 5 b) = true := zi_allof zk_5_a rfl
set_option maxRecDepth 100000 in
theorem zk_6_a : (List.range 1).all (fun b => zi_chk zi_T 6 (zi_sp zi_T 6 b) (zi_bk zi_T 6 b)) = true := by decide +kernel
theorem zk_6 : ∀ b, zi_chk zi_T 6 (zi_sp zi_T 6 b) (zi_bk zi_T 6 b) = true := zi_allof zk_6_a rfl
set_option maxRecDepth 100000 in
theorem zk_7_a : (List.range 3).all (fun b => zi_chk zi_T 7 (zi_sp zi_T 7 b) (zi_bk zi_T 7 b)) = true := by decide +kernel
theorem zk_7 : ∀ b, zi_chk zi_T 7 (zi_sp zi_T 7 b) (zi_bk zi_T 7 b) = true := zi_allof zk_7_a rfl
set_option maxRecDepth 100000 in
theorem zk_8_a : (List.range 1).all (fun b => zi_chk zi_T 8 (zi_sp zi_T 8 b) (zi_bk zi_T 8 b)) = true := by decide +kernel
theorem zk_8 : ∀ b, zi_chk zi_T 8 (zi_sp zi_T 8 b) (zi_bk zi_T 8 b) = true := zi_allof zk_8_a rfl
set_option maxRecDepth 100000 in
theorem zk_9_0 : zi_chk zi_T 9 (zi_sp zi_T 9 0) (zi_bk zi_T 9 0) = true := by decide +kernel
set_option maxRecDepth 100000 in
theorem zk_9_1 : zi_chk zi_T 9 (zi_sp zi_T 9 1) (zi_bk zi_T 9 1) = true := by decide +kernel
set_option maxRecDepth 100000 in
theorem zk_9_2 : zi_chk zi_T 9 (zi_sp zi_T 9 2) (zi_bk zi_T 9 2) = true := by decide +kernel
set_option maxRecDepth 100000 in
theorem zk_9_3 : zi_chk zi_T 9 (zi_sp zi_T 9 3) (zi_bk zi_T 9 3) = true := by decide +kernel
set_option maxRecDepth 100000 in
theorem zk_9_4 : zi_chk zi_T 9 (zi_sp zi_T 9 4) (zi_bk zi_T 9 4) = true := by decide +kernel
set_option maxRecDepth 100000 in
theorem zk_9_5 : zi_chk zi_T 9 (zi_sp zi_T 9 5) (zi_bk zi_T 9 5) = true := by decide +kernel
set_option maxRecDepth 100000 in
theorem zk_9_6 : zi_chk zi_T 9 (zi_sp zi_T 9 6) (zi_bk zi_T 9 6) = true := by decide +kernel
set_option maxRecDepth 100000 in
theorem zk_9_7 : zi_chk zi_T 9 (zi_sp zi_T 9 7) (zi_bk zi_T 9 7) = true := by decide +kernel
set_option maxRecDepth 100000 in
theorem zk_9_8 : zi_chk zi_T 9 (zi_sp zi_T 9 8) (zi_bk zi_T 9 8) = true := by decide +kernel
set_option maxRecDepth 100000 in
theorem zk_9_9 : zi_chk zi_T 9 (zi_sp zi_T 9 9) (zi_bk zi_T 9 9) = true := by decide +kernel
set_option maxRecDepth 100000 in
theorem zk_9_10 : zi_chk zi_T 9 (zi_sp zi_T 9 10) (zi_bk zi_T 9 10) = true := by decide +kernel
set_option maxRecDepth 100000 in
theorem zk_9_11 : zi_chk zi_T 9 (zi_sp zi_T 9 11) (zi_bk zi_T 9 11) = true := by decide +kernel
set_option maxRecDepth 100000 in
theorem zk_9_12 : zi_chk zi_T 9 (zi_sp zi_T 9 12) (zi_bk zi_T 9 12) = true := by decide +kernel
set_option maxRecDepth 100000 in
theorem zk_9_13 : zi_chk zi_T 9 (zi_sp zi_T 9 13) (zi_bk zi_T 9 13) = true := by decide +kernel
set_option maxRecDepth 100000 in
theorem zk_9_14 : zi_chk zi_T 9 (zi_sp zi_T 9 14) (zi_bk zi_T 9 14) = true := by decide +kernel
set_option maxRecDepth 100000 in
theorem zk_9_15 : zi_chk zi_T 9 (zi_sp zi_T 9 15) (zi_bk zi_T 9 15) = true := by decide +kernel
set_option maxRecDepth 100000 in
theorem zk_9_16 : zi_chk zi_T 9 (zi_sp zi_T 9 16) (zi_bk zi_T 9 16) = true := by decide +kernel
set_option maxRecDepth 100000 in
theorem zk_9_17 : zi_chk zi_T 9 (zi_sp zi_T 9 17) (zi_bk zi_T 9 17) = true := by decide +kernel
set_option maxRecDepth 100000 in
theorem zk_9_18 : zi_chk zi_T 9 (zi_sp zi_T 9 18) (zi_bk zi_T 9 18) = true := by decide +kernel
set_option maxRecDepth 100000 in
theorem zk_9_19 : zi_chk zi_T 9 (zi_sp zi_T 9 19) (zi_bk zi_T 9 19) = true := by decide +kernel
set_option maxRecDepth 100000 in
theorem zk_9_20 : zi_chk zi_T 9 (zi_sp zi_T 9 20) (zi_bk zi_T 9 20) = true := by decide +kernel
set_option maxRecDepth 100000 in
theorem zk_9_21 : zi_chk zi_T 9 (zi_sp zi_T 9 21) (zi_bk zi_T 9 21) = true := by decide +kernel
set_option maxRecDepth 100000 in
theorem zk_9_22 : zi_chk zi_T 9 (zi_sp zi_T 9 22) (zi_bk zi_T 9 22) = true := by decide +kernel
set_option maxRecDepth 100000 in
theorem zk_9_23 : zi_chk zi_T 9 (zi_sp zi_T 9 23) (zi_bk zi_T 9 23) = true := by decide +kernel
set_option maxRecDepth 100000 in
theorem zk_9_24 : zi_chk zi_T 9 (zi_sp zi_T 9 24) (zi_bk zi_T 9 24) = true := by decide +kernel
set_option maxRecDepth 100000 in
theorem zk_9_25 : zi_chk zi_T 9 (zi_sp zi_T 9 25) (zi_bk zi_T 9 25) = true := by decide +kernel
set_option maxRecDepth 100000 in
theorem zk_9_26 : zi_chk zi_T 9 (zi_sp zi_T 9 26) (zi_bk zi_T 9 26) = true := by decide +kernel
set_option maxRecDepth 100000 in
theorem zk_9_27 : zi_chk zi_T 9 (zi_sp zi_T 9 27) (zi_bk zi_T 9 27) = true := by decide +kernel
set_option maxRecDepth 100000 in
theorem zk_9_28 : zi_chk zi_T 9 (zi_sp zi_T 9 28) (zi_bk zi_T 9 28) = true := by decide +kernel
set_option maxRecDepth 100000 in
theorem zk_9_29 : zi_chk zi_T 9 (zi_sp zi_T 9 29) (zi_bk zi_T 9 29) = true := by decide +kernel
set_option maxRecDepth 100000 in
theorem zk_9_30 : zi_chk zi_T 9 (zi_sp zi_T 9 30) (zi_bk zi_T 9 30) = true := by decide +kernel
set_option maxRecDepth 100000 in
theorem zk_9_31 : zi_chk zi_T 9 (zi_sp zi_T 9 31) (zi_bk zi_T 9 31) = true := by decide +kernel
set_option maxRecDepth 100000 in
theorem zk_9_32 : zi_chk zi_T 9 (zi_sp zi_T 9 32) (zi_bk zi_T 9 32) = true := by decide +kernel
theorem zk_9 : ∀ b, zi_chk zi_T 9 (zi_sp zi_T 9 b) (zi_bk zi_T 9 b) = true := fun b => match b with
  | 0 => zk_9_0
  | 1 => zk_9_1
  | 2 => zk_9_2
  | 3 => zk_9_3
  | 4 => zk_9_4
  | 5 => zk_9_5
  | 6 => zk_9_6
  | 7 => zk_9_7
  | 8 => zk_9_8
  | 9 => zk_9_9
  | 10 => zk_9_10
  | 11 => zk_9_11
  | 12 => zk_9_12
  | 13 => zk_9_13
  | 14 => zk_9_14
  | 15 => zk_9_15
  | 16 => zk_9_16
  | 17 => zk_9_17
  | 18 => zk_9_18
  | 19 => zk_9_19
  | 20 => zk_9_20
  | 21 => zk_9_21
  | 22 => zk_9_22
  | 23 => zk_9_23
  | 24 => zk_9_24
  | 25 => zk_9_25
  | 26 => zk_9_26
  | 27 => zk_9_27
  | 28 => zk_9_28
  | 29 => zk_9_29
  | 30 => zk_9_30
  | 31 => zk_9_31
  | 32 => zk_9_32
  | _ + 33 => rfl
end
section
/-! the kernel's check of the methods, by program -/
set_option maxRecDepth 100000 in
theorem zk_10_a : (List.range 3).all (fun b => zi_chk zi_T 10 (zi_sp zi_T 10 b) (zi_bk zi_T 10 b)) = true := by decide +kernel
theorem zk_10 : ∀ b, zi_chk zi_T 10 (zi_sp zi_T 10 b) (zi_bk zi_T 10 b) = true := zi_allof zk_10_a rfl
set_option maxRecDepth 100000 in
theorem zk_11_a : (List.range 3).all (fun b => zi_chk zi_T 11 (zi_sp zi_T 11 b) (zi_bk zi_T 11 b)) = true := by decide +kernel
theorem zk_11 : ∀ b, zi_chk zi_T 11 (zi_sp zi_T 11 b) (zi_bk zi_T 11 b) = true := zi_allof zk_11_a rfl
set_option maxRecDepth 100000 in
theorem zk_12_a : (List.range 5).all (fun b => zi_chk zi_T 12 (zi_sp zi_T 12 b) (zi_bk zi_T 12 b)) = true := by decide +kernel
theorem zk_12 : ∀ b, zi_chk zi_T 12 (zi_sp zi_T 12 b) (zi_bk zi_T 12 b) = true := zi_allof zk_12_a rfl
set_option maxRecDepth 100000 in
theorem zk_13_a : (List.range 9).all (fun b => zi_chk zi_T 13 (zi_sp zi_T 13 b) (zi_bk zi_T 13 b)) = true := by decide +kernel
theorem zk_13 : ∀ b, zi_chk zi_T 13 (zi_sp zi_T 13 b) (zi_bk zi_T 13 b) = true := zi_allof zk_13_a rfl
set_option maxRecDepth 100000 in
theorem zk_14_a : (List.range 9).all (fun b => zi_chk zi_T 14 (zi_sp zi_T 14 b) (zi_bk zi_T 14 b)) = true := by decide +kernel
theorem zk_14 : ∀ b, zi_chk zi_T 14 (zi_sp zi_T 14 b) (zi_bk zi_T 14 b) = true := zi_allof zk_14_a rfl
set_option maxRecDepth 100000 in
theorem zk_15_a : (List.range 3).all (fun b => zi_chk zi_T 15 (zi_sp zi_T 15 b) (zi_bk zi_T 15 b)) = true := by decide +kernel
theorem zk_15 : ∀ b, zi_chk zi_T 15 (zi_sp zi_T 15 b) (zi_bk zi_T 15 b) = true := zi_allof zk_15_a rfl
set_option maxRecDepth 100000 in
theorem zk_16_a : (List.range 3).all (fun b => zi_chk zi_T 16 (zi_sp zi_T 16 b) (zi_bk zi_T 16 b)) = true := by decide +kernel
theorem zk_16 : ∀ b, zi_chk zi_T 16 (zi_sp zi_T 16 b) (zi_bk zi_T 16 b) = true := zi_allof zk_16_a rfl
set_option maxRecDepth 100000 in
theorem zk_17_a : (List.range 3).all (fun b => zi_chk zi_T 17 (zi_sp zi_T 17 b) (zi_bk zi_T 17 b)) = true := by decide +kernel
theorem zk_17 : ∀ b, zi_chk zi_T 17 (zi_sp zi_T 17 b) (zi_bk zi_T 17 b) = true := zi_allof zk_17_a rfl
set_option maxRecDepth 100000 in
theorem zk_18_a : (List.range 3).all (fun b => zi_chk zi_T 18 (zi_sp zi_T 18 b) (zi_bk zi_T 18 b)) = true := by decide +kernel
theorem zk_18 : ∀ b, zi_chk zi_T 18 (zi_sp zi_T 18 b) (zi_bk zi_T 18 b) = true := zi_allof zk_18_a rfl
set_option maxRecDepth 100000 in
theorem zk_19_a : (List.range 3).all (fun b => zi_chk zi_T 19 (zi_sp zi_T 19 b) (zi_bk zi_T 19 b)) = true := by decide +kernel
theorem zk_19 : ∀ b, zi_chk zi_T 19 (zi_sp zi_T 19 b) (zi_bk zi_T 19 b) = true := zi_allof zk_19_a rfl
set_option maxRecDepth 100000 in
theorem zk_20_a : (List.range 4).all (fun b => zi_chk zi_T 20 (zi_sp zi_T 20 b) (zi_bk zi_T 20 b)) = true := by decide +kernel
theorem zk_20 : ∀ b, zi_chk zi_T 20 (zi_sp zi_T 20 b) (zi_bk zi_T 20 b) = true := zi_allof zk_20_a rfl
set_option maxRecDepth 100000 in
theorem zk_21_a : (List.range 3).all (fun b => zi_chk zi_T 21 (zi_sp zi_T 21 b) (zi_bk zi_T 21 b)) = true := by decide +kernel
theorem zk_21 : ∀ b, zi_chk zi_T 21 (zi_sp zi_T 21 b) (zi_bk zi_T 21 b) = true := zi_allof zk_21_a rfl
set_option maxRecDepth 100000 in
theorem zk_22_a : (List.range 4).all (fun b => zi_chk zi_T 22 (zi_sp zi_T 22 b) (zi_bk zi_T 22 b)) = true := by decide +kernel
theorem zk_22 : ∀ b, zi_chk zi_T 22 (zi_sp zi_T 22 b) (zi_bk zi_T 22 b) = true := zi_allof zk_22_a rfl
set_option maxRecDepth 100000 in
theorem zk_23_a : (List.range 3).all (fun b => zi_chk zi_T 23 (zi_sp zi_T 23 b) (zi_bk zi_T 23 b)) = true := by decide +kernel
theorem zk_23 : ∀ b, zi_chk zi_T 23 (zi_sp zi_T 23 b) (zi_bk zi_T 23 b) = true := zi_allof zk_23_a rfl
set_option maxRecDepth 100000 in
theorem zk_24_a : (List.range 6).all (fun b => zi_chk zi_T 24 (zi_sp zi_T 24 b) (zi_bk zi_T 24 b)) = true := by decide +kernel
theorem zk_24 : ∀ b, zi_chk zi_T 24 (zi_sp zi_T 24 b) (zi_bk zi_T 24 b) = true := zi_allof zk_24_a rfl
set_option maxRecDepth 100000 in
theorem zk_25_a : (List.range 4).all (fun b => zi_chk zi_T 25 (zi_sp zi_T 25 b) (zi_bk zi_T 25 b)) = true := by decide +kernel
theorem zk_25 : ∀ b, zi_chk zi_T 25 (zi_sp zi_T 25 b) (zi_bk zi_T 25 b) = true := zi_allof zk_25_a rfl
set_option maxRecDepth 100000 in
theorem zk_26_a : (List.range 2).all (fun b => zi_chk zi_T 26 (zi_sp zi_T 26 b) (zi_bk zi_T 26 b)) = true := by decide +kernel
theorem zk_26 : ∀ b, zi_chk zi_T 26 (zi_sp zi_T 26 b) (zi_bk zi_T 26 b) = true := zi_allof zk_26_a rfl
set_option maxRecDepth 100000 in
theorem zk_27_a : (List.range 3).all (fun b => zi_chk zi_T 27 (zi_sp zi_T 27 b) (zi_bk zi_T 27 b)) = true := by decide +kernel
theorem zk_27 : ∀ b, zi_chk zi_T 27 (zi_sp zi_T 27 b) (zi_bk zi_T 27 b) = true := zi_allof zk_27_a rfl
set_option maxRecDepth 100000 in
theorem zk_28_a : (List.range 4).all (fun b => zi_chk zi_T 28 (zi_sp zi_T 28 b) (zi_bk zi_T 28 b)) = true := by decide +kernel
theorem zk_28 : ∀ b, zi_chk zi_T 28 (zi_sp zi_T 28 b) (zi_bk zi_T 28 b) = true := zi_allof zk_28_a rfl
set_option maxRecDepth 100000 in
theorem zk_29_a : (List.range 5).all (fun b => zi_chk zi_T 29 (zi_sp zi_T 29 b) (zi_bk zi_T 29 b)) = true := by decide +kernel
theorem zk_29 : ∀ b, zi_chk zi_T 29 (zi_sp zi_T 29 b) (zi_bk zi_T 29 b) = true := zi_allof zk_29_a rfl
set_option maxRecDepth 100000 in
theorem zk_30_a : (List.range 4).all (fun b => zi_chk zi_T 30 (zi_sp zi_T 30 b) (zi_bk zi_T 30 b)) = true := by decide +kernel
theorem zk_30 : ∀ b, zi_chk zi_T 30 (zi_sp zi_T 30 b) (zi_bk zi_T 30 b) = true := zi_allof zk_30_a rfl
set_option maxRecDepth 100000 in
theorem zk_31_a : (List.range 4).all (fun b => zi_chk zi_T 31 (zi_sp zi_T 31 b) (zi_bk zi_T 31 b)) = true := by decide +kernel
theorem zk_31 : ∀ b, zi_chk zi_T 31 (zi_sp zi_T 31 b) (zi_bk zi_T 31 b) = true := zi_allof zk_31_a rfl
set_option maxRecDepth 100000 in
theorem zk_32_a : (List.range 7).all (fun b => zi_chk zi_T 32 (zi_sp zi_T 32 b) (zi_bk zi_T 32 b)) = true := by decide +kernel
theorem zk_32 : ∀ b, zi_chk zi_T 32 (zi_sp zi_T 32 b) (zi_bk zi_T 32 b) = true := zi_allof zk_32_a rfl
set_option maxRecDepth 100000 in
theorem zk_33_a : (List.range 5).all (fun b => zi_chk zi_T 33 (zi_sp zi_T 33 b) (zi_bk zi_T 33 b)) = true := by decide +kernel
theorem zk_33 : ∀ b, zi_chk zi_T 33 (zi_sp zi_T 33 b) (zi_bk zi_T 33 b) = true := zi_allof zk_33_a rfl
set_option maxRecDepth 100000 in
theorem zk_34_a : (List.range 2).all (fun b => zi_chk zi_T 34 (zi_sp zi_T 34 b) (zi_bk zi_T 34 b)) = true := by decide +kernel
theorem zk_34 : ∀ b, zi_chk zi_T 34 (zi_sp zi_T 34 b) (zi_bk zi_T 34 b) = true := zi_allof zk_34_a rfl
set_option maxRecDepth 100000 in
theorem zk_35_a : (List.range 5).all (fun b => zi_chk zi_T 35 (zi_sp zi_T 35 b) (zi_bk zi_T 35 b)) = true := by decide +kernel
theorem zk_35 : ∀ b, zi_chk zi_T 35 (zi_sp zi_T 35 b) (zi_bk zi_T 35 b) = true := zi_allof zk_35_a rfl
set_option maxRecDepth 100000 in
theorem zk_36_a : (List.range 1).all (fun b => zi_chk zi_T 36 (zi_sp zi_T 36 b) (zi_bk zi_T 36 b)) = true := by decide +kernel
theorem zk_36 : ∀ b, zi_chk zi_T 36 (zi_sp zi_T 36 b) (zi_bk zi_T 36 b) = true := zi_allof zk_36_a rfl
set_option maxRecDepth 100000 in
theorem zk_37_a : (List.range 3).all (fun b => zi_chk zi_T 37 (zi_sp zi_T 37 b) (zi_bk zi_T 37 b)) = true := by decide +kernel
theorem zk_37 : ∀ b, zi_chk zi_T 37 (zi_sp zi_T 37 b) (zi_bk zi_T 37 b) = true := zi_allof zk_37_a rfl
set_option maxRecDepth 100000 in
theorem zk_38_a : (List.range 3).all (fun b => zi_chk zi_T 38 (zi_sp zi_T 38 b) (zi_bk zi_T 38 b)) = true := by decide +kernel
theorem zk_38 : ∀ b, zi_chk zi_T 38 (zi_sp zi_T 38 b) (zi_bk zi_T 38 b) = true := zi_allof zk_38_a rfl
set_option maxRecDepth 100000 in
theorem zk_39_a : (List.range 1).all (fun b => zi_chk zi_T 39 (zi_sp zi_T 39 b) (zi_bk zi_T 39 b)) = true := by decide +kernel
theorem zk_39 : ∀ b, zi_chk zi_T 39 (zi_sp zi_T 39 b) (zi_bk zi_T 39 b) = true := zi_allof zk_39_a rfl
set_option maxRecDepth 100000 in
theorem zk_40_a : (List.range 7).all (fun b => zi_chk zi_T 40 (zi_sp zi_T 40 b) (zi_bk zi_T 40 b)) = true := by decide +kernel
theorem zk_40 : ∀ b, zi_chk zi_T 40 (zi_sp zi_T 40 b) (zi_bk zi_T 40 b) = true := zi_allof zk_40_a rfl
set_option maxRecDepth 100000 in
theorem zk_41_a : (List.range 4).all (fun b => zi_chk zi_T 41 (zi_sp zi_T 41 b) (zi_bk zi_T 41 b)) = true := by decide +kernel
theorem zk_41 : ∀ b, zi_chk zi_T 41 (zi_sp zi_T 41 b) (zi_bk zi_T 41 b) = true := zi_allof zk_41_a rfl
set_option maxRecDepth 100000 in
theorem zk_42_a : (List.range 1).all (fun b => zi_chk zi_T 42 (zi_sp zi_T 42 b) (zi_bk zi_T 42 b)) = true := by decide +kernel
theorem zk_42 : ∀ b, zi_chk zi_T 42 (zi_sp zi_T 42 b) (zi_bk zi_T 42 b) = true := zi_allof zk_42_a rfl
set_option maxRecDepth 100000 in
theorem zk_43_a : (List.range 1).all (fun b => zi_chk zi_T 43 (zi_sp zi_T 43 b) (zi_bk zi_T 43 b)) = true := by decide +kernel
theorem zk_43 : ∀ b, zi_chk zi_T 43 (zi_sp zi_T 43 b) (zi_bk zi_T 43 b) = true := zi_allof zk_43_a rfl
set_option maxRecDepth 100000 in
theorem zk_44_a : (List.range 3).all (fun b => zi_chk zi_T 44 (zi_sp zi_T 44 b) (zi_bk zi_T 44 b)) = true := by decide +kernel
theorem zk_44 : ∀ b, zi_chk zi_T 44 (zi_sp zi_T 44 b) (zi_bk zi_T 44 b) = true := zi_allof zk_44_a rfl
set_option maxRecDepth 100000 in
theorem zk_45_a : (List.range 4).all (fun b => zi_chk zi_T 45 (zi_sp zi_T 45 b) (zi_bk zi_T 45 b)) = true := by decide +kernel
theorem zk_45 : ∀ b, zi_chk zi_T 45 (zi_sp zi_T 45 b) (zi_bk zi_T 45 b) = true := zi_allof zk_45_a rfl
set_option maxRecDepth 100000 in
theorem zk_46_a : (List.range 4).all (fun b => zi_chk zi_T 46 (zi_sp zi_T 46 b) (zi_bk zi_T 46 b)) = true := by decide +kernel
theorem zk_46 : ∀ b, zi_chk zi_T 46 (zi_sp zi_T 46 b) (zi_bk zi_T 46 b) = true := zi_allof zk_46_a rfl
set_option maxRecDepth 100000 in
theorem zk_47_a : (List.range 6).all (fun b => zi_chk zi_T 47 (zi_sp zi_T 47 b) (zi_bk zi_T 47 b)) = true := by decide +kernel
theorem zk_47 : ∀ b, zi_chk zi_T 47 (zi_sp zi_T 47 b) (zi_bk zi_T 47 b) = true := zi_allof zk_47_a rfl
set_option maxRecDepth 100000 in
theorem zk_48_a : (List.range 6).all (fun b => zi_chk zi_T 48 (zi_sp zi_T 48 b) (zi_bk zi_T 48 b)) = true := by decide +kernel
theorem zk_48 : ∀ b, zi_chk zi_T 48 (zi_sp zi_T 48 b) (zi_bk zi_T 48 b) = true := zi_allof zk_48_a rfl
set_option maxRecDepth 100000 in
theorem zk_49_a : (List.range 9).all (fun b => zi_chk zi_T 49 (zi_sp zi_T 49 b) (zi_bk zi_T 49 b)) = true := by decide +kernel
theorem zk_49 : ∀ b, zi_chk zi_T 49 (zi_sp zi_T 49 b) (zi_bk zi_T 49 b) = true := zi_allof zk_49_a rfl
set_option maxRecDepth 100000 in
theorem zk_50_a : (List.range 3).all (fun b => zi_chk zi_T 50 (zi_sp zi_T 50 b) (zi_bk zi_T 50 b)) = true := by decide +kernel
theorem zk_50 : ∀ b, zi_chk zi_T 50 (zi_sp zi_T 50 b) (zi_bk zi_T 50 b) = true := zi_allof zk_50_a rfl
set_option maxRecDepth 100000 in
theorem zk_51_a : (List.range 2).all (fun b => zi_chk zi_T 51 (zi_sp zi_T 51 b) (zi_bk zi_T 51 b)) = true := by decide +kernel
theorem zk_51 : ∀ b, zi_chk zi_T 51 (zi_sp zi_T 51 b) (zi_bk zi_T 51 b) = true := zi_allof zk_51_a rfl
set_option maxRecDepth 100000 in
theorem zk_52_a : (List.range 3).all (fun b => zi_chk zi_T 52 (zi_sp zi_T 52 b) (zi_bk zi_T 52 b)) = true := by decide +kernel
theorem zk_52 : ∀ b, zi_chk zi_T 52 (zi_sp zi_T 52 b) (zi_bk zi_T 52 b) = true := zi_allof zk_52_a rfl
set_option maxRecDepth 100000 in
theorem zk_53_a : (List.range 3).all (fun b => zi_chk zi_T 53 (zi_sp zi_T 53 b) (zi_bk zi_T 53 b)) = true := by decide +kernel
theorem zk_53 : ∀ b, zi_chk zi_T 53 (zi_sp zi_T 53 b) (zi_bk zi_T 53 b) = true := zi_allof zk_53_a rfl
end
section
/-! the kernel's check of the methods, by program -/
set_option maxRecDepth 100000 in
theorem zk_54_a : (List.range 3).all (fun b => zi_chk zi_T 54 (zi_sp zi_T 54 b) (zi_bk zi_T 54 b)) = true := by decide +kernel
theorem zk_54 : ∀ b, zi_chk zi_T 54 (zi_sp zi_T 54 b) (zi_bk zi_T 54 b) = true := zi_allof zk_54_a rfl
set_option maxRecDepth 100000 in
theorem zk_55_a : (List.range 3).all (fun b => zi_chk zi_T 55 (zi_sp zi_T 55 b) (zi_bk zi_T 55 b)) = true := by decide +kernel
theorem zk_55 : ∀ b, zi_chk zi_T 55 (zi_sp zi_T 55 b) (zi_bk zi_T 55 b) = true := zi_allof zk_55_a rfl
set_option maxRecDepth 100000 in
theorem zk_56_a : (List.range 5).all (fun b => zi_chk zi_T 56 (zi_sp zi_T 56 b) (zi_bk zi_T 56 b)) = true := by decide +kernel
theorem zk_56 : ∀ b, zi_chk zi_T 56 (zi_sp zi_T 56 b) (zi_bk zi_T 56 b) = true := zi_allof zk_56_a rfl
set_option maxRecDepth 100000 in
theorem zk_57_a : (List.range 5).all (fun b => zi_chk zi_T 57 (zi_sp zi_T 57 b) (zi_bk zi_T 57 b)) = true := by decide +kernel
theorem zk_57 : ∀ b, zi_chk zi_T 57 (zi_sp zi_T 57 b) (zi_bk zi_T 57 b) = true := zi_allof zk_57_a rfl
set_option maxRecDepth 100000 in
theorem zk_58_a : (List.range 7).all (fun b => zi_chk zi_T 58 (zi_sp zi_T 58 b) (zi_bk zi_T 58 b)) = true := by decide +kernel
theorem zk_58 : ∀ b, zi_chk zi_T 58 (zi_sp zi_T 58 b) (zi_bk zi_T 58 b) = true := zi_allof zk_58_a rfl
set_option maxRecDepth 100000 in
theorem zk_59_a : (List.range 6).all (fun b => zi_chk zi_T 59 (zi_sp zi_T 59 b) (zi_bk zi_T 59 b)) = true := by decide +kernel
theorem zk_59 : ∀ b, zi_chk zi_T 59 (zi_sp zi_T 59 b) (zi_bk zi_T 59 b) = true := zi_allof zk_59_a rfl
set_option maxRecDepth 100000 in
theorem zk_60_a : (List.range 12).all (fun b => zi_chk zi_T 60 (zi_sp zi_T 60 b) (zi_bk zi_T 60 b)) = true := by decide +kernel
theorem zk_60 : ∀ b, zi_chk zi_T 60 (zi_sp zi_T 60 b) (zi_bk zi_T 60 b) = true := zi_allof zk_60_a rfl
set_option maxRecDepth 100000 in
theorem zk_61_a : (List.range 3).all (fun b => zi_chk zi_T 61 (zi_sp zi_T 61 b) (zi_bk zi_T 61 b)) = true := by decide +kernel
theorem zk_61 : ∀ b, zi_chk zi_T 61 (zi_sp zi_T 61 b) (zi_bk zi_T 61 b) = true := zi_allof zk_61_a rfl
set_option maxRecDepth 100000 in
theorem zk_62_a : (List.range 3).all (fun b => zi_chk zi_T 62 (zi_sp zi_T 62 b) (zi_bk zi_T 62 b)) = true := by decide +kernel
theorem zk_62 : ∀ b, zi_chk zi_T 62 (zi_sp zi_T 62 b) (zi_bk zi_T 62 b) = true := zi_allof zk_62_a rfl
set_option maxRecDepth 100000 in
theorem zk_63_a : (List.range 11).all (fun b => zi_chk zi_T 63 (zi_sp zi_T 63 b) (zi_bk zi_T 63 b)) = true := by decide +kernel
theorem zk_63 : ∀ b, zi_chk zi_T 63 (zi_sp zi_T 63 b) (zi_bk zi_T 63 b) = true := zi_allof zk_63_a rfl
set_option maxRecDepth 100000 in
theorem zk_64_a : (List.range 3).all (fun b => zi_chk zi_T 64 (zi_sp zi_T 64 b) (zi_bk zi_T 64 b)) = true := by decide +kernel
theorem zk_64 : ∀ b, zi_chk zi_T 64 (zi_sp zi_T 64 b) (zi_bk zi_T 64 b) = true := zi_allof zk_64_a rfl
set_option maxRecDepth 100000 in
theorem zk_65_a : (List.range 13).all (fun b => zi_chk zi_T 65 (zi_sp zi_T 65 b) (zi_bk zi_T 65 b)) = true := by decide +kernel
theorem zk_65 : ∀ b, zi_chk zi_T 65 (zi_sp zi_T 65 b) (zi_bk zi_T 65 b) = true := zi_allof zk_65_a rfl
set_option maxRecDepth 100000 in
theorem zk_66_a : (List.range 4).all (fun b => zi_chk zi_T 66 (zi_sp zi_T 66 b) (zi_bk zi_T 66 b)) = true := by decide +kernel
theorem zk_66 : ∀ b, zi_chk zi_T 66 (zi_sp zi_T 66 b) (zi_bk zi_T 66 b) = true := zi_allof zk_66_a rfl
set_option maxRecDepth 100000 in
theorem zk_67_a : (List.range 10).all (fun b => zi_chk zi_T 67 (zi_sp zi_T 67 b) (zi_bk zi_T 67 b)) = true := by decide +kernel
theorem zk_67 : ∀ b, zi_chk zi_T 67 (zi_sp zi_T 67 b) (zi_bk zi_T 67 b) = true := zi_allof zk_67_a rfl
set_option maxRecDepth 100000 in
theorem zk_68_a : (List.range 6).all (fun b => zi_chk zi_T 68 (zi_sp zi_T 68 b) (zi_bk zi_T 68 b)) = true := by decide +kernel
theorem zk_68 : ∀ b, zi_chk zi_T 68 (zi_sp zi_T 68 b) (zi_bk zi_T 68 b) = true := zi_allof zk_68_a rfl
set_option maxRecDepth 100000 in
theorem zk_69_a : (List.range 3).all (fun b => zi_chk zi_T 69 (zi_sp zi_T 69 b) (zi_bk zi_T 69 b)) = true := by decide +kernel
theorem zk_69 : ∀ b, zi_chk zi_T 69 (zi_sp zi_T 69 b) (zi_bk zi_T 69 b) = true := zi_allof zk_69_a rfl
set_option maxRecDepth 100000 in
theorem zk_70_a : (List.range 6).all (fun b => zi_chk zi_T 70 (zi_sp zi_T 70 b) (zi_bk zi_T 70 b)) = true := by decide +kernel
theorem zk_70 : ∀ b, zi_chk zi_T 70 (zi_sp zi_T 70 b) (zi_bk zi_T 70 b) = true := zi_allof zk_70_a rfl
set_option maxRecDepth 100000 in
theorem zk_71_a : (List.range 6).all (fun b => zi_chk zi_T 71 (zi_sp zi_T 71 b) (zi_bk zi_T 71 b)) = true := by decide +kernel
theorem zk_71 : ∀ b, zi_chk zi_T 71 (zi_sp zi_T 71 b) (zi_bk zi_T 71 b) = true := zi_allof zk_71_a rfl
set_option maxRecDepth 100000 in
theorem zk_72_a : (List.range 3).all (fun b => zi_chk zi_T 72 (zi_sp zi_T 72 b) (zi_bk zi_T 72 b)) = true := by decide +kernel
theorem zk_72 : ∀ b, zi_chk zi_T 72 (zi_sp zi_T 72 b) (zi_bk zi_T 72 b) = true := zi_allof zk_72_a rfl
set_option maxRecDepth 100000 in
theorem zk_73_a : (List.range 4).all (fun b => zi_chk zi_T 73 (zi_sp zi_T 73 b) (zi_bk zi_T 73 b)) = true := by decide +kernel
theorem zk_73 : ∀ b, zi_chk zi_T 73 (zi_sp zi_T 73 b) (zi_bk zi_T 73 b) = true := zi_allof zk_73_a rfl
set_option maxRecDepth 100000 in
theorem zk_74_a : (List.range 4).all (fun b => zi_chk zi_T 74 (zi_sp zi_T 74 b) (zi_bk zi_T 74 b)) = true := by decide +kernel
theorem zk_74 : ∀ b, zi_chk zi_T 74 (zi_sp zi_T 74 b) (zi_bk zi_T 74 b) = true := zi_allof zk_74_a rfl
set_option maxRecDepth 100000 in
theorem zk_75_a : (List.range 5).all (fun b => zi_chk zi_T 75 (zi_sp zi_T 75 b) (zi_bk zi_T 75 b)) = true := by decide +kernel
theorem zk_75 : ∀ b, zi_chk zi_T 75 (zi_sp zi_T 75 b) (zi_bk zi_T 75 b) = true := zi_allof zk_75_a rfl
set_option maxRecDepth 100000 in
theorem zk_76_a : (List.range 7).all (fun b => zi_chk zi_T 76 (zi_sp zi_T 76 b) (zi_bk zi_T 76 b)) = true := by decide +kernel
theorem zk_76 : ∀ b, zi_chk zi_T 76 (zi_sp zi_T 76 b) (zi_bk zi_T 76 b) = true := zi_allof zk_76_a rfl
set_option maxRecDepth 100000 in
theorem zk_77_a : (List.range 5).all (fun b => zi_chk zi_T 77 (zi_sp zi_T 77 b) (zi_bk zi_T 77 b)) = true := by decide +kernel
theorem zk_77 : ∀ b, zi_chk zi_T 77 (zi_sp zi_T 77 b) (zi_bk zi_T 77 b) = true := zi_allof zk_77_a rfl
set_option maxRecDepth 100000 in
theorem zk_78_a : (List.range 4).all (fun b => zi_chk zi_T 78 (zi_sp zi_T 78 b) (zi_bk zi_T 78 b)) = true := by decide +kernel
theorem zk_78 : ∀ b, zi_chk zi_T 78 (zi_sp zi_T 78 b) (zi_bk zi_T 78 b) = true := zi_allof zk_78_a rfl
set_option maxRecDepth 100000 in
theorem zk_79_a : (List.range 4).all (fun b => zi_chk zi_T 79 (zi_sp zi_T 79 b) (zi_bk zi_T 79 b)) = true := by decide +kernel
theorem zk_79 : ∀ b, zi_chk zi_T 79 (zi_sp zi_T 79 b) (zi_bk zi_T 79 b) = true := zi_allof zk_79_a rfl
set_option maxRecDepth 100000 in
theorem zk_80_a : (List.range 5).all (fun b => zi_chk zi_T 80 (zi_sp zi_T 80 b) (zi_bk zi_T 80 b)) = true := by decide +kernel
theorem zk_80 : ∀ b, zi_chk zi_T 80 (zi_sp zi_T 80 b) (zi_bk zi_T 80 b) = true := zi_allof zk_80_a rfl
set_option maxRecDepth 100000 in
theorem zk_81_a : (List.range 8).all (fun b => zi_chk zi_T 81 (zi_sp zi_T 81 b) (zi_bk zi_T 81 b)) = true := by decide +kernel
theorem zk_81 : ∀ b, zi_chk zi_T 81 (zi_sp zi_T 81 b) (zi_bk zi_T 81 b) = true := zi_allof zk_81_a rfl
set_option maxRecDepth 100000 in
theorem zk_82_a : (List.range 5).all (fun b => zi_chk zi_T 82 (zi_sp zi_T 82 b) (zi_bk zi_T 82 b)) = true := by decide +kernel
theorem zk_82 : ∀ b, zi_chk zi_T 82 (zi_sp zi_T 82 b) (zi_bk zi_T 82 b) = true := zi_allof zk_82_a rfl
set_option maxRecDepth 100000 in
theorem zk_83_a : (List.range 4).all (fun b => zi_chk zi_T 83 (zi_sp zi_T 83 b) (zi_bk zi_T 83 b)) = true := by decide +kernel
theorem zk_83 : ∀ b, zi_chk zi_T 83 (zi_sp zi_T 83 b) (zi_bk zi_T 83 b) = true := zi_allof zk_83_a rfl
set_option maxRecDepth 100000 in
theorem zk_84_a : (List.range 4).all (fun b => zi_chk zi_T 84 (zi_sp zi_T 84 b) (zi_bk zi_T 84 b)) = true := by decide +kernel
theorem zk_84 : ∀ b, zi_chk zi_T 84 (zi_sp zi_T 84 b) (zi_bk zi_T 84 b) = true := zi_allof zk_84_a rfl
end
section
/-! the kernel's check of the methods, by program -/
set_option maxRecDepth 100000 in
theorem zk_85_a : (List.range 1).all (fun b => zi_chk zi_T 85 (zi_sp zi_T 85 b) (zi_bk zi_T 85 b)) = true := by decide +kernel
theorem zk_85 : ∀ b, zi_chk zi_T 85 (zi_sp zi_T 85 b) (zi_bk zi_T 85 b) = true := zi_allof zk_85_a rfl
set_option maxRecDepth 100000 in
theorem zk_86_a : (List.range 1).all (fun b => zi_chk zi_T 86 (zi_sp zi_T 86 b) (zi_bk zi_T 86 b)) = true := by decide +kernel
theorem zk_86 : ∀ b, zi_chk zi_T 86 (zi_sp zi_T 86 b) (zi_bk zi_T 86 b) = true := zi_allof zk_86_a rfl
set_option maxRecDepth 100000 in
theorem zk_87_a : (List.range 10).all (fun b => zi_chk zi_T 87 (zi_sp zi_T 87 b) (zi_bk zi_T 87 b)) = true := by decide +kernel
theorem zk_87 : ∀ b, zi_chk zi_T 87 (zi_sp zi_T 87 b) (zi_bk zi_T 87 b) = true := zi_allof zk_87_a rfl
set_option maxRecDepth 100000 in
theorem zk_88_a : (List.range 1).all (fun b => zi_chk zi_T 88 (zi_sp zi_T 88 b) (zi_bk zi_T 88 b)) = true := by decide +kernel
theorem zk_88 : ∀ b, zi_chk zi_T 88 (zi_sp zi_T 88 b) (zi_bk zi_T 88 b) = true := zi_allof zk_88_a rfl
set_option maxRecDepth 100000 in
theorem zk_89_a : (List.range 1).all (fun b => zi_chk zi_T 89 (zi_sp zi_T 89 b) (zi_bk zi_T 89 b)) = true := by decide +kernel
theorem zk_89 : ∀ b, zi_chk zi_T 89 (zi_sp zi_T 89 b) (zi_bk zi_T 89 b) = true := zi_allof zk_89_a rfl
set_option maxRecDepth 100000 in
theorem zk_90_a : (List.range 4).all (fun b => zi_chk zi_T 90 (zi_sp zi_T 90 b) (zi_bk zi_T 90 b)) = true := by decide +kernel
theorem zk_90 : ∀ b, zi_chk zi_T 90 (zi_sp zi_T 90 b) (zi_bk zi_T 90 b) = true := zi_allof zk_90_a rfl
set_option maxRecDepth 100000 in
theorem zk_91_a : (List.range 4).all (fun b => zi_chk zi_T 91 (zi_sp zi_T 91 b) (zi_bk zi_T 91 b)) = true := by decide +kernel
theorem zk_91 : ∀ b, zi_chk zi_T 91 (zi_sp zi_T 91 b) (zi_bk zi_T 91 b) = true := zi_allof zk_91_a rfl
set_option maxRecDepth 100000 in
theorem zk_92_a : (List.range 4).all (fun b => zi_chk zi_T 92 (zi_sp zi_T 92 b) (zi_bk zi_T 92 b)) = true := by decide +kernel
theorem zk_92 : ∀ b, zi_chk zi_T 92 (zi_sp zi_T 92 b) (zi_bk zi_T 92 b) = true := zi_allof zk_92_a rfl
set_option maxRecDepth 100000 in
theorem zk_93_a : (List.range 4).all (fun b => zi_chk zi_T 93 (zi_sp zi_T 93 b) (zi_bk zi_T 93 b)) = true := by decide +kernel
theorem zk_93 : ∀ b, zi_chk zi_T 93 (zi_sp zi_T 93 b) (zi_bk zi_T 93 b) = true := zi_allof zk_93_a rfl
set_option maxRecDepth 100000 in
theorem zk_94_a : (List.range 4).all (fun b => zi_chk zi_T 94 (zi_sp zi_T 94 b) (zi_bk zi_T 94 b)) = true := by decide +kernel
theorem zk_94 : ∀ b, zi_chk zi_T 94 (zi_sp zi_T 94 b) (zi_bk zi_T 94 b) = true := zi_allof zk_94_a rfl
set_option maxRecDepth 100000 in
theorem zk_95_a : (List.range 4).all (fun b => zi_chk zi_T 95 (zi_sp zi_T 95 b) (zi_bk zi_T 95 b)) = true := by decide +kernel
theorem zk_95 : ∀ b, zi_chk zi_T 95 (zi_sp zi_T 95 b) (zi_bk zi_T 95 b) = true := zi_allof zk_95_a rfl
set_option maxRecDepth 100000 in
theorem zk_96_a : (List.range 5).all (fun b => zi_chk zi_T 96 (zi_sp zi_T 96 b) (zi_bk zi_T 96 b)) = true := by decide +kernel
theorem zk_96 : ∀ b, zi_chk zi_T 96 (zi_sp zi_T 96 b) (zi_bk zi_T 96 b) = true := zi_allof zk_96_a rfl
set_option maxRecDepth 100000 in
theorem zk_97_a : (List.range 5).all (fun b => zi_chk zi_T 97 (zi_sp zi_T 97 b) (zi_bk zi_T 97 b)) = true := by decide +kernel
theorem zk_97 : ∀ b, zi_chk zi_T 97 (zi_sp zi_T 97 b) (zi_bk zi_T 97 b) = true := zi_allof zk_97_a rfl
set_option maxRecDepth 100000 in
theorem zk_98_a : (List.range 4).all (fun b => zi_chk zi_T 98 (zi_sp zi_T 98 b) (zi_bk zi_T 98 b)) = true := by decide +kernel
theorem zk_98 : ∀ b, zi_chk zi_T 98 (zi_sp zi_T 98 b) (zi_bk zi_T 98 b) = true := zi_allof zk_98_a rfl
set_option maxRecDepth 100000 in
theorem zk_99_a : (List.range 10).all (fun b => zi_chk zi_T 99 (zi_sp zi_T 99 b) (zi_bk zi_T 99 b)) = true := by decide +kernel
theorem zk_99 : ∀ b, zi_chk zi_T 99 (zi_sp zi_T 99 b) (zi_bk zi_T 99 b) = true := zi_allof zk_99_a rfl
set_option maxRecDepth 100000 in
theorem zk_100_a : (List.range 3).all (fun b => zi_chk zi_T 100 (zi_sp zi_T 100 b) (zi_bk zi_T 100 b)) = true := by decide +kernel
theorem zk_100 : ∀ b, zi_chk zi_T 100 (zi_sp zi_T 100 b) (zi_bk zi_T 100 b) = true := zi_allof zk_100_a rfl
set_option maxRecDepth 100000 in
theorem zk_101_a : (List.range 4).all (fun b => zi_chk zi_T 101 (zi_sp zi_T 101 b) (zi_bk zi_T 101 b)) = true := by decide +kernel
theorem zk_101 : ∀ b, zi_chk zi_T 101 (zi_sp zi_T 101 b) (zi_bk zi_T 101 b) = true := zi_allof zk_101_a rfl
set_option maxRecDepth 100000 in
theorem zk_102_a : (List.range 1).all (fun b => zi_chk zi_T 102 (zi_sp zi_T 102 b) (zi_bk zi_T 102 b)) = true := by decide +kernel
theorem zk_102 : ∀ b, zi_chk zi_T 102 (zi_sp zi_T 102 b) (zi_bk zi_T 102 b) = true := zi_allof zk_102_a rfl
set_option maxRecDepth 100000 in
theorem zk_103_a : (List.range 1).all (fun b => zi_chk zi_T 103 (zi_sp zi_T 103 b) (zi_bk zi_T 103 b)) = true := by decide +kernel
theorem zk_103 : ∀ b, zi_chk zi_T 103 (zi_sp zi_T 103 b) (zi_bk zi_T 103 b) = true := zi_allof zk_103_a rfl
set_option maxRecDepth 100000 in
theorem zk_104_a : (List.range 1).all (fun b => zi_chk zi_T 104 (zi_sp zi_T 104 b) (zi_bk zi_T 104 b)) = true := by decide +kernel
theorem zk_104 : ∀ b, zi_chk zi_T 104 (zi_sp zi_T 104 b) (zi_bk zi_T 104 b) = true := zi_allof zk_104_a rfl
set_option maxRecDepth 100000 in
theorem zk_105_a : (List.range 1).all (fun b => zi_chk zi_T 105 (zi_sp zi_T 105 b) (zi_bk zi_T 105 b)) = true := by decide +kernel
theorem zk_105 : ∀ b, zi_chk zi_T 105 (zi_sp zi_T 105 b) (zi_bk zi_T 105 b) = true := zi_allof zk_105_a rfl
set_option maxRecDepth 100000 in
theorem zk_106_a : (List.range 1).all (fun b => zi_chk zi_T 106 (zi_sp zi_T 106 b) (zi_bk zi_T 106 b)) = true := by decide +kernel
theorem zk_106 : ∀ b, zi_chk zi_T 106 (zi_sp zi_T 106 b) (zi_bk zi_T 106 b) = true := zi_allof zk_106_a rfl
set_option maxRecDepth 100000 in
theorem zk_107_a : (List.range 1).all (fun b => zi_chk zi_T 107 (zi_sp zi_T 107 b) (zi_bk zi_T 107 b)) = true := by decide +kernel
theorem zk_107 : ∀ b, zi_chk zi_T 107 (zi_sp zi_T 107 b) (zi_bk zi_T 107 b) = true := zi_allof zk_107_a rfl
set_option maxRecDepth 100000 in
theorem zk_108_a : (List.range 5).all (fun b => zi_chk zi_T 108 (zi_sp zi_T 108 b) (zi_bk zi_T 108 b)) = true := by decide +kernel
theorem zk_108 : ∀ b, zi_chk zi_T 108 (zi_sp zi_T 108 b) (zi_bk zi_T 108 b) = true := zi_allof zk_108_a rfl
set_option maxRecDepth 100000 in
theorem zk_109_a : (List.range 1).all (fun b => zi_chk zi_T 109 (zi_sp zi_T 109 b) (zi_bk zi_T 109 b)) = true := by decide +kernel
theorem zk_109 : ∀ b, zi_chk zi_T 109 (zi_sp zi_T 109 b) (zi_bk zi_T 109 b) = true := zi_allof zk_109_a rfl
set_option maxRecDepth 100000 in
theorem zk_110_a : (List.range 1).all (fun b => zi_chk zi_T 110 (zi_sp zi_T 110 b) (zi_bk zi_T 110 b)) = true := by decide +kernel
theorem zk_110 : ∀ b, zi_chk zi_T 110 (zi_sp zi_T 110 b) (zi_bk zi_T 110 b) = true := zi_allof zk_110_a rfl
set_option maxRecDepth 100000 in
theorem zk_111_a : (List.range 3).all (fun b => zi_chk zi_T 111 (zi_sp zi_T 111 b) (zi_bk zi_T 111 b)) = true := by decide +kernel
theorem zk_111 : ∀ b, zi_chk zi_T 111 (zi_sp zi_T 111 b) (zi_bk zi_T 111 b) = true := zi_allof zk_111_a rfl
set_option maxRecDepth 100000 in
theorem zk_112_a : (List.range 1).all (fun b => zi_chk zi_T 112 (zi_sp zi_T 112 b) (zi_bk zi_T 112 b)) = true := by decide +kernel
theorem zk_112 : ∀ b, zi_chk zi_T 112 (zi_sp zi_T 112 b) (zi_bk zi_T 112 b) = true := zi_allof zk_112_a rfl
set_option maxRecDepth 100000 in
theorem zk_113_a : (List.range 1).all (fun b => zi_chk zi_T 113 (zi_sp zi_T 113 b) (zi_bk zi_T 113 b)) = true := by decide +kernel
theorem zk_113 : ∀ b, zi_chk zi_T 113 (zi_sp zi_T 113 b) (zi_bk zi_T 113 b) = true := zi_allof zk_113_a rfl
set_option maxRecDepth 100000 in
theorem zk_114_a : (List.range 7).all (fun b => zi_chk zi_T 114 (zi_sp zi_T 114 b) (zi_bk zi_T 114 b)) = true := by decide +kernel
theorem zk_114 : ∀ b, zi_chk zi_T 114 (zi_sp zi_T 114 b) (zi_bk zi_T 114 b) = true := zi_allof zk_114_a rfl
set_option maxRecDepth 100000 in
theorem zk_115_a : (List.range 3).all (fun b => zi_chk zi_T 115 (zi_sp zi_T 115 b) (zi_bk zi_T 115 b)) = true := by decide +kernel
theorem zk_115 : ∀ b, zi_chk zi_T 115 (zi_sp zi_T 115 b) (zi_bk zi_T 115 b) = true := zi_allof zk_115_a rfl
set_option maxRecDepth 100000 in
theorem zk_116_a : (List.range 3).all (fun b => zi_chk zi_T 116 (zi_sp zi_T 116 b) (zi_bk zi_T 116 b)) = true := by decide +kernel
theorem zk_116 : ∀ b, zi_chk zi_T 116 (zi_sp zi_T 116 b) (zi_bk zi_T 116 b) = true := zi_allof zk_116_a rfl
set_option maxRecDepth 100000 in
theorem zk_117_a : (List.range 3).all (fun b => zi_chk zi_T 117 (zi_sp zi_T 117 b) (zi_bk zi_T 117 b)) = true := by decide +kernel
theorem zk_117 : ∀ b, zi_chk zi_T 117 (zi_sp zi_T 117 b) (zi_bk zi_T 117 b) = true := zi_allof zk_117_a rfl
set_option maxRecDepth 100000 in
theorem zk_118_a : (List.range 4).all (fun b => zi_chk zi_T 118 (zi_sp zi_T 118 b) (zi_bk zi_T 118 b)) = true := by decide +kernel
theorem zk_118 : ∀ b, zi_chk zi_T 118 (zi_sp zi_T 118 b) (zi_bk zi_T 118 b) = true := zi_allof zk_118_a rfl
set_option maxRecDepth 100000 in
theorem zk_119_a : (List.range 4).all (fun b => zi_chk zi_T 119 (zi_sp zi_T 119 b) (zi_bk zi_T 119 b)) = true := by decide +kernel
theorem zk_119 : ∀ b, zi_chk zi_T 119 (zi_sp zi_T 119 b) (zi_bk zi_T 119 b) = true := zi_allof zk_119_a rfl
set_option maxRecDepth 100000 in
theorem zk_120_a : (List.range 3).all (fun b => zi_chk zi_T 120 (zi_sp zi_T 120 b) (zi_bk zi_T 120 b)) = true := by decide +kernel
theorem zk_120 : ∀ b, zi_chk zi_T 120 (zi_sp zi_T 120 b) (zi_bk zi_T 120 b) = true := zi_allof zk_120_a rfl
set_option maxRecDepth 100000 in
theorem zk_121_a : (List.range 3).all (fun b => zi_chk zi_T 121 (zi_sp zi_T 121 b) (zi_bk zi_T 121 b)) = true := by decide +kernel
theorem zk_121 : ∀ b, zi_chk zi_T 121 (zi_sp zi_T 121 b) (zi_bk zi_T 121 b) = true := zi_allof zk_121_a rfl
set_option maxRecDepth 100000 in
theorem zk_122_a : (List.range 8).all (fun b => zi_chk zi_T 122 (zi_sp zi_T 122 b) (zi_bk zi_T 122 b)) = true := by decide +kernel
theorem zk_122 : ∀ b, zi_chk zi_T 122 (zi_sp zi_T 122 b) (zi_bk zi_T 122 b) = true := zi_allof zk_122_a rfl
set_option maxRecDepth 100000 in
theorem zk_123_a : (List.range 5).all (fun b => zi_chk zi_T 123 (zi_sp zi_T 123 b) (zi_bk zi_T 123 b)) = true := by decide +kernel
theorem zk_123 : ∀ b, zi_chk zi_T 123 (zi_sp zi_T 123 b) (zi_bk zi_T 123 b) = true := zi_allof zk_123_a rfl
set_option maxRecDepth 100000 in
theorem zk_124_a : (List.range 9).all (fun b => zi_chk zi_T 124 (zi_sp zi_T 124 b) (zi_bk zi_T 124 b)) = true := by decide +kernel
theorem zk_124 : ∀ b, zi_chk zi_T 124 (zi_sp zi_T 124 b) (zi_bk zi_T 124 b) = true := zi_allof zk_124_a rfl
set_option maxRecDepth 100000 in
theorem zk_125_a : (List.range 13).all (fun b => zi_chk zi_T 125 (zi_sp zi_T 125 b) (zi_bk zi_T 125 b)) = true := by decide +kernel
theorem zk_125 : ∀ b, zi_chk zi_T 125 (zi_sp zi_T 125 b) (zi_bk zi_T 125 b) = true := zi_allof zk_125_a rfl
set_option maxRecDepth 100000 in
theorem zk_126_a : (List.range 7).all (fun b => zi_chk zi_T 126 (zi_sp zi_T 126 b) (zi_bk zi_T 126 b)) = true := by decide +kernel
theorem zk_126 : ∀ b, zi_chk zi_T 126 (zi_sp zi_T 126 b) (zi_bk zi_T 126 b) = true := zi_allof zk_126_a rfl
set_option maxRecDepth 100000 in
theorem zk_127_a : (List.range 7).all (fun b => zi_chk zi_T 127 (zi_sp zi_T 127 b) (zi_bk zi_T 127 b)) = true := by decide +kernel
theorem zk_127 : ∀ b, zi_chk zi_T 127 (zi_sp zi_T 127 b) (zi_bk zi_T 127 b) = true := zi_allof zk_127_a rfl
set_option maxRecDepth 100000 in
theorem zk_128_a : (List.range 3).all (fun b => zi_chk zi_T 128 (zi_sp zi_T 128 b) (zi_bk zi_T 128 b)) = true := by decide +kernel
theorem zk_128 : ∀ b, zi_chk zi_T 128 (zi_sp zi_T 128 b) (zi_bk zi_T 128 b) = true := zi_allof zk_128_a rfl
set_option maxRecDepth 100000 in
theorem zk_129_a : (List.range 4).all (fun b => zi_chk zi_T 129 (zi_sp zi_T 129 b) (zi_bk zi_T 129 b)) = true := by decide +kernel
theorem zk_129 : ∀ b, zi_chk zi_T 129 (zi_sp zi_T 129 b) (zi_bk zi_T 129 b) = true := zi_allof zk_129_a rfl
set_option maxRecDepth 100000 in
theorem zk_130_a : (List.range 1).all (fun b => zi_chk zi_T 130 (zi_sp zi_T 130 b) (zi_bk zi_T 130 b)) = true := by decide +kernel
theorem zk_130 : ∀ b, zi_chk zi_T 130 (zi_sp zi_T 130 b) (zi_bk zi_T 130 b) = true := zi_allof zk_130_a rfl
set_option maxRecDepth 100000 in
theorem zk_131_a : (List.range 3).all (fun b => zi_chk zi_T 131 (zi_sp zi_T 131 b) (zi_bk zi_T 131 b)) = true := by decide +kernel
theorem zk_131 : ∀ b, zi_chk zi_T 131 (zi_sp zi_T 131 b) (zi_bk zi_T 131 b) = true := zi_allof zk_131_a rfl
set_option maxRecDepth 100000 in
theorem zk_132_a : (List.range 4).all (fun b => zi_chk zi_T 132 (zi_sp zi_T 132 b) (zi_bk zi_T 132 b)) = true := by decide +kernel
theorem zk_132 : ∀ b, zi_chk zi_T 132 (zi_sp zi_T 132 b) (zi_bk zi_T 132 b) = true := zi_allof zk_132_a rfl
set_option maxRecDepth 100000 in
theorem zk_133_a : (List.range 12).all (fun b => zi_chk zi_T 133 (zi_sp zi_T 133 b) (zi_bk zi_T 133 b)) = true := by decide +kernel
theorem zk_133 : ∀ b, zi_chk zi_T 133 (zi_sp zi_T 133 b) (zi_bk zi_T 133 b) = true := zi_allof zk_133_a rfl
set_option maxRecDepth 100000 in
theorem zk_134_a : (List.range 3).all (fun b => zi_chk zi_T 134 (zi_sp zi_T 134 b) (zi_bk zi_T 134 b)) = true := by decide +kernel
theorem zk_134 : ∀ b, zi_chk zi_T 134 (zi_sp zi_T 134 b) (zi_bk zi_T 134 b) = true := zi_allof zk_134_a rfl
end
section
/-! the kernel's check of the methods, by program -/
set_option maxRecDepth 100000 in
theorem zk_135_a : (List.range 3).all (fun b => zi_chk zi_T 135 (zi_sp zi_T 135 b) (zi_bk zi_T 135 b)) = true := by decide +kernel
theorem zk_135 : ∀ b, zi_chk zi_T 135 (zi_sp zi_T 135 b) (zi_bk zi_T 135 b) = true := zi_allof zk_135_a rfl
set_option maxRecDepth 100000 in
theorem zk_136_a : (List.range 11).all (fun b => zi_chk zi_T 136 (zi_sp zi_T 136 b) (zi_bk zi_T 136 b)) = true := by decide +kernel
theorem zk_136 : ∀ b, zi_chk zi_T 136 (zi_sp zi_T 136 b) (zi_bk zi_T 136 b) = true := zi_allof zk_136_a rfl
set_option maxRecDepth 100000 in
theorem zk_137_a : (List.range 8).all (fun b => zi_chk zi_T 137 (zi_sp zi_T 137 b) (zi_bk zi_T 137 b)) = true := by decide +kernel
theorem zk_137 : ∀ b, zi_chk zi_T 137 (zi_sp zi_T 137 b) (zi_bk zi_T 137 b) = true := zi_allof zk_137_a rfl
set_option maxRecDepth 100000 in
theorem zk_138_a : (List.range 9).all (fun b => zi_chk zi_T 138 (zi_sp zi_T 138 b) (zi_bk zi_T 138 b)) = true := by decide +kernel
theorem zk_138 : ∀ b, zi_chk zi_T 138 (zi_sp zi_T 138 b) (zi_bk zi_T 138 b) = true := zi_allof zk_138_a rfl
set_option maxRecDepth 100000 in
theorem zk_139_a : (List.range 3).all (fun b => zi_chk zi_T 139 (zi_sp zi_T 139 b) (zi_bk zi_T 139 b)) = true := by decide +kernel
theorem zk_139 : ∀ b, zi_chk zi_T 139 (zi_sp zi_T 139 b) (zi_bk zi_T 139 b) = true := zi_allof zk_139_a rfl
set_option maxRecDepth 100000 in
theorem zk_140_a : (List.range 1).all (fun b => zi_chk zi_T 140 (zi_sp zi_T 140 b) (zi_bk zi_T 140 b)) = true := by decide +kernel
theorem zk_140 : ∀ b, zi_chk zi_T 140 (zi_sp zi_T 140 b) (zi_bk zi_T 140 b) = true := zi_allof zk_140_a rfl
set_option maxRecDepth 100000 in
theorem zk_141_a : (List.range 15).all (fun b => zi_chk zi_T 141 (zi_sp zi_T 141 b) (zi_bk zi_T 141 b)) = true := by decide +kernel
theorem zk_141 : ∀ b, zi_chk zi_T 141 (zi_sp zi_T 141 b) (zi_bk zi_T 141 b) = true := zi_allof zk_141_a rfl
set_option maxRecDepth 100000 in
theorem zk_142_a : (List.range 3).all (fun b => zi_chk zi_T 142 (zi_sp zi_T 142 b) (zi_bk zi_T 142 b)) = true := by decide +kernel
theorem zk_142 : ∀ b, zi_chk zi_T 142 (zi_sp zi_T 142 b) (zi_bk zi_T 142 b) = true := zi_allof zk_142_a rfl
set_option maxRecDepth 100000 in
theorem zk_143_a : (List.range 5).all (fun b => zi_chk zi_T 143 (zi_sp zi_T 143 b) (zi_bk zi_T 143 b)) = true := by decide +kernel
theorem zk_143 : ∀ b, zi_chk zi_T 143 (zi_sp zi_T 143 b) (zi_bk zi_T 143 b) = true := zi_allof zk_143_a rfl
set_option maxRecDepth 100000 in
theorem zk_144_a : (List.range 5).all (fun b => zi_chk zi_T 144 (zi_sp zi_T 144 b) (zi_bk zi_T 144 b)) = true := by decide +kernel
theorem zk_144 : ∀ b, zi_chk zi_T 144 (zi_sp zi_T 144 b) (zi_bk zi_T 144 b) = true := zi_allof zk_144_a rfl
set_option maxRecDepth 100000 in
theorem zk_145_a : (List.range 12).all (fun b => zi_chk zi_T 145 (zi_sp zi_T 145 b) (zi_bk zi_T 145 b)) = true := by decide +kernel
theorem zk_145 : ∀ b, zi_chk zi_T 145 (zi_sp zi_T 145 b) (zi_bk zi_T 145 b) = true := zi_allof zk_145_a rfl
set_option maxRecDepth 100000 in
theorem zk_146_a : (List.range 4).all (fun b => zi_chk zi_T 146 (zi_sp zi_T 146 b) (zi_bk zi_T 146 b)) = true := by decide +kernel
theorem zk_146 : ∀ b, zi_chk zi_T 146 (zi_sp zi_T 146 b) (zi_bk zi_T 146 b) = true := zi_allof zk_146_a rfl
set_option maxRecDepth 100000 in
theorem zk_147_a : (List.range 12).all (fun b => zi_chk zi_T 147 (zi_sp zi_T 147 b) (zi_bk zi_T 147 b)) = true := by decide +kernel
theorem zk_147 : ∀ b, zi_chk zi_T 147 (zi_sp zi_T 147 b) (zi_bk zi_T 147 b) = true := zi_allof zk_147_a rfl
set_option maxRecDepth 100000 in
theorem zk_148_a : (List.range 10).all (fun b => zi_chk zi_T 148 (zi_sp zi_T 148 b) (zi_bk zi_T 148 b)) = true := by decide +kernel
theorem zk_148 : ∀ b, zi_chk zi_T 148 (zi_sp zi_T 148 b) (zi_bk zi_T 148 b) = true := zi_allof zk_148_a rfl
set_option maxRecDepth 100000 in
theorem zk_149_a : (List.range 2).all (fun b => zi_chk zi_T 149 (zi_sp zi_T 149 b) (zi_bk zi_T 149 b)) = true := by decide +kernel
theorem zk_149 : ∀ b, zi_chk zi_T 149 (zi_sp zi_T 149 b) (zi_bk zi_T 149 b) = true := zi_allof zk_149_a rfl
set_option maxRecDepth 100000 in
theorem zk_150_a : (List.range 12).all (fun b => zi_chk zi_T 150 (zi_sp zi_T 150 b) (zi_bk zi_T 150 b)) = true := by decide +kernel
theorem zk_150 : ∀ b, zi_chk zi_T 150 (zi_sp zi_T 150 b) (zi_bk zi_T 150 b) = true := zi_allof zk_150_a rfl
set_option maxRecDepth 100000 in
theorem zk_151_a : (List.range 11).all (fun b => zi_chk zi_T 151 (zi_sp zi_T 151 b) (zi_bk zi_T 151 b)) = true := by decide +kernel
theorem zk_151 : ∀ b, zi_chk zi_T 151 (zi_sp zi_T 151 b) (zi_bk zi_T 151 b) = true := zi_allof zk_151_a rfl
set_option maxRecDepth 100000 in
theorem zk_152_a : (List.range 18).all (fun b => zi_chk zi_T 152 (zi_sp zi_T 152 b) (zi_bk zi_T 152 b)) = true := by decide +kernel
theorem zk_152 : ∀ b, zi_chk zi_T 152 (zi_sp zi_T 152 b) (zi_bk zi_T 152 b) = true := zi_allof zk_152_a rfl
end
section
/-! the kernel's check of the methods, by program -/
set_option maxRecDepth 100000 in
theorem zk_153_a : (List.range 7).all (fun b => zi_chk zi_T 153 (zi_sp zi_T 153 b) (zi_bk zi_T 153 b)) = true := by decide +kernel
theorem zk_153 : ∀ b, zi_chk zi_T 153 (zi_sp zi_T 153 b) (zi_bk zi_T 153 b) = true := zi_allof zk_153_a rfl
set_option maxRecDepth 100000 in
theorem zk_154_a : (List.range 4).all (fun b => zi_chk zi_T 154 (zi_sp zi_T 154 b) (zi_bk zi_T 154 b)) = true := by decide +kernel
theorem zk_154 : ∀ b, zi_chk zi_T 154 (zi_sp zi_T 154 b) (zi_bk zi_T 154 b) = true := zi_allof zk_154_a rfl
set_option maxRecDepth 100000 in
theorem zk_155_a : (List.range 2).all (fun b => zi_chk zi_T 155 (zi_sp zi_T 155 b) (zi_bk zi_T 155 b)) = true := by decide +kernel
theorem zk_155 : ∀ b, zi_chk zi_T 155 (zi_sp zi_T 155 b) (zi_bk zi_T 155 b) = true := zi_allof zk_155_a rfl
set_option maxRecDepth 100000 in
theorem zk_156_a : (List.range 8).all (fun b => zi_chk zi_T 156 (zi_sp zi_T 156 b) (zi_bk zi_T 156 b)) = true := by decide +kernel
theorem zk_156 : ∀ b, zi_chk zi_T 156 (zi_sp zi_T 156 b) (zi_bk zi_T 156 b) = true := zi_allof zk_156_a rfl
set_option maxRecDepth 100000 in
theorem zk_157_a : (List.range 6).all (fun b => zi_chk zi_T 157 (zi_sp zi_T 157 b) (zi_bk zi_T 157 b)) = true := by decide +kernel
theorem zk_157 : ∀ b, zi_chk zi_T 157 (zi_sp zi_T 157 b) (zi_bk zi_T 157 b) = true := zi_allof zk_157_a rfl
set_option maxRecDepth 100000 in
theorem zk_158_a : (List.range 6).all (fun b => zi_chk zi_T 158 (zi_sp zi_T 158 b) (zi_bk zi_T 158 b)) = true := by decide +kernel
theorem zk_158 : ∀ b, zi_chk zi_T 158 (zi_sp zi_T 158 b) (zi_bk zi_T 158 b) = true := zi_allof zk_158_a rfl
set_option maxRecDepth 100000 in
theorem zk_159_a : (List.range 7).all (fun b => zi_chk zi_T 159 (zi_sp zi_T 159 b) (zi_bk zi_T 159 b)) = true := by decide +kernel
theorem zk_159 : ∀ b, zi_chk zi_T 159 (zi_sp zi_T 159 b) (zi_bk zi_T 159 b) = true := zi_allof zk_159_a rfl
set_option maxRecDepth 100000 in
theorem zk_160_a : (List.range 5).all (fun b => zi_chk zi_T 160 (zi_sp zi_T 160 b) (zi_bk zi_T 160 b)) = true := by decide +kernel
theorem zk_160 : ∀ b, zi_chk zi_T 160 (zi_sp zi_T 160 b) (zi_bk zi_T 160 b) = true := zi_allof zk_160_a rfl
set_option maxRecDepth 100000 in
theorem zk_161_a : (List.range 7).all (fun b => zi_chk zi_T 161 (zi_sp zi_T 161 b) (zi_bk zi_T 161 b)) = true := by decide +kernel
theorem zk_161 : ∀ b, zi_chk zi_T 161 (zi_sp zi_T 161 b) (zi_bk zi_T 161 b) = true := zi_allof zk_161_a rfl
set_option maxRecDepth 100000 in
theorem zk_162_a : (List.range 7).all (fun b => zi_chk zi_T 162 (zi_sp zi_T 162 b) (zi_bk zi_T 162 b)) = true := by decide +kernel
theorem zk_162 : ∀ b, zi_chk zi_T 162 (zi_sp zi_T 162 b) (zi_bk zi_T 162 b) = true := zi_allof zk_162_a rfl
set_option maxRecDepth 100000 in
theorem zk_163_a : (List.range 4).all (fun b => zi_chk zi_T 163 (zi_sp zi_T 163 b) (zi_bk zi_T 163 b)) = true := by decide +kernel
theorem zk_163 : ∀ b, zi_chk zi_T 163 (zi_sp zi_T 163 b) (zi_bk zi_T 163 b) = true := zi_allof zk_163_a rfl
set_option maxRecDepth 100000 in
theorem zk_164_a : (List.range 7).all (fun b => zi_chk zi_T 164 (zi_sp zi_T 164 b) (zi_bk zi_T 164 b)) = true := by decide +kernel
theorem zk_164 : ∀ b, zi_chk zi_T 164 (zi_sp zi_T 164 b) (zi_bk zi_T 164 b) = true := zi_allof zk_164_a rfl
set_option maxRecDepth 100000 in
theorem zk_165_a : (List.range 6).all (fun b => zi_chk zi_T 165 (zi_sp zi_T 165 b) (zi_bk zi_T 165 b)) = true := by decide +kernel
theorem zk_165 : ∀ b, zi_chk zi_T 165 (zi_sp zi_T 165 b) (zi_bk zi_T 165 b) = true := zi_allof zk_165_a rfl
set_option maxRecDepth 100000 in
theorem zk_166_a : (List.range 16).all (fun b => zi_chk zi_T 166 (zi_sp zi_T 166 b) (zi_bk zi_T 166 b)) = true := by decide +kernel
theorem zk_166 : ∀ b, zi_chk zi_T 166 (zi_sp zi_T 166 b) (zi_bk zi_T 166 b) = true := zi_allof zk_166_a rfl
set_option maxRecDepth 100000 in
theorem zk_167_a : (List.range 1).all (fun b => zi_chk zi_T 167 (zi_sp zi_T 167 b) (zi_bk zi_T 167 b)) = true := by decide +kernel
theorem zk_167 : ∀ b, zi_chk zi_T 167 (zi_sp zi_T 167 b) (zi_bk zi_T 167 b) = true := zi_allof zk_167_a rfl
set_option maxRecDepth 100000 in
theorem zk_168_a : (List.range 5).all (fun b => zi_chk zi_T 168 (zi_sp zi_T 168 b) (zi_bk zi_T 168 b)) = true := by decide +kernel
theorem zk_168 : ∀ b, zi_chk zi_T 168 (zi_sp zi_T 168 b) (zi_bk zi_T 168 b) = true := zi_allof zk_168_a rfl
set_option maxRecDepth 100000 in
theorem zk_169_a : (List.range 6).all (fun b => zi_chk zi_T 169 (zi_sp zi_T 169 b) (zi_bk zi_T 169 b)) = true := by decide +kernel
theorem zk_169 : ∀ b, zi_chk zi_T 169 (zi_sp zi_T 169 b) (zi_bk zi_T 169 b) = true := zi_allof zk_169_a rfl
set_option maxRecDepth 100000 in
theorem zk_170_a : (List.range 5).all (fun b => zi_chk zi_T 170 (zi_sp zi_T 170 b) (zi_bk zi_T 170 b)) = true := by decide +kernel
theorem zk_170 : ∀ b, zi_chk zi_T 170 (zi_sp zi_T 170 b) (zi_bk zi_T 170 b) = true := zi_allof zk_170_a rfl
set_option maxRecDepth 100000 in
theorem zk_171_a : (List.range 1).all (fun b => zi_chk zi_T 171 (zi_sp zi_T 171 b) (zi_bk zi_T 171 b)) = true := by decide +kernel
theorem zk_171 : ∀ b, zi_chk zi_T 171 (zi_sp zi_T 171 b) (zi_bk zi_T 171 b) = true := zi_allof zk_171_a rfl
set_option maxRecDepth 100000 in
theorem zk_172_a : (List.range 1).all (fun b => zi_chk zi_T 172 (zi_sp zi_T 172 b) (zi_bk zi_T 172 b)) = true := by decide +kernel
theorem zk_172 : ∀ b, zi_chk zi_T 172 (zi_sp zi_T 172 b) (zi_bk zi_T 172 b) = true := zi_allof zk_172_a rfl
set_option maxRecDepth 100000 in
theorem zk_173_a : (List.range 8).all (fun b => zi_chk zi_T 173 (zi_sp zi_T 173 b) (zi_bk zi_T 173 b)) = true := by decide +kernel
theorem zk_173 : ∀ b, zi_chk zi_T 173 (zi_sp zi_T 173 b) (zi_bk zi_T 173 b) = true := zi_allof zk_173_a rfl
end
section
/-! all methods are checked -/
theorem zi_T_far {k : Nat} (h : 174 ≤ k) : zi_T k = zi_dd := by
  unfold zi_T
  rw [List.getD_eq_getElem?_getD]
  by_cases h2 : k < 176
  · have e : k / 16 = 10 := by omega
    rw [e]
    rw [List.getElem?_eq_none (by show 14 ≤ _; omega)]
    rfl
  · have e : zi_TC (k / 16) = [] := by
      unfold zi_TC
      split <;> first | (exfalso; omega) | rfl
    rw [e]
    rfl
theorem zi_hall : ∀ k b, zi_chk zi_T k (zi_sp zi_T k b) (zi_bk zi_T k b) = true := fun k => match k with
  | 0 => zk_0
  | 1 => zk_1
  | 2 => zk_2
  | 3 => zk_3
  | 4 => zk_4
  | 5 => zk_5
  | 6 => zk_6
  | 7 => zk_7
  | 8 => zk_8
  | 9 => zk_9
  | 10 => zk_10
  | 11 => zk_11
  | 12 => zk_12
  | 13 => zk_13
  | 14 => zk_14
  | 15 => zk_15
  | 16 => zk_16
  | 17 => zk_17
  | 18 => zk_18
  | 19 => zk_19
  | 20 => zk_20
  | 21 => zk_21
  | 22 => zk_22
  | 23 => zk_23
  | 24 => zk_24
  | 25 => zk_25
  | 26 => zk_26
  | 27 => zk_27
  | 28 => zk_28
  | 29 => zk_29
  | 30 => zk_30
  | 31 => zk_31
  | 32 => zk_32
  | 33 => zk_33
  | 34 => zk_34
  | 35 => zk_35
  | 36 => zk_36
  | 37 => zk_37
  | 38 => zk_38
  | 39 => zk_39
  | 40 => zk_40
  | 41 => zk_41
  | 42 => zk_42
  | 43 => zk_43
  | 44 => zk_44
  | 45 => zk_45
  | 46 => zk_46
  | 47 => zk_47
  | 48 => zk_48
  | 49 => zk_49
  | 50 => zk_50
  | 51 => zk_51
  | 52 => zk_52
  | 53 => zk_53
  | 54 => zk_54
  | 55 => zk_55
  | 56 => zk_56
  | 57 => zk_57
  | 58 => zk_58
  | 59 => zk_59
  | 60 => zk_60
  | 61 => zk_61
  | 62 => zk_62
  | 63 => zk_63
  | 64 => zk_64
  | 65 => zk_65
  | 66 => zk_66
  | 67 => zk_67
  | 68 => zk_68
  | 69 => zk_69
  | 70 => zk_70
  | 71 => zk_71
  | 72 => zk_72
  | 73 => zk_73
  | 74 => zk_74
  | 75 => zk_75
  | 76 => zk_76
  | 77 => zk_77
  | 78 => zk_78
  | 79 => zk_79
  | 80 => zk_80
  | 81 => zk_81
  | 82 => zk_82
  | 83 => zk_83
  | 84 => zk_84
  | 85 => zk_85
  | 86 => zk_86
  | 87 => zk_87
  | 88 => zk_88
  | 89 => zk_89
  | 90 => zk_90
  | 91 => zk_91
  | 92 => zk_92
  | 93 => zk_93
  | 94 => zk_94
  | 95 => zk_95
  | 96 => zk_96
  | 97 => zk_97
  | 98 => zk_98
  | 99 => zk_99
  | 100 => zk_100
  | 101 => zk_101
  | 102 => zk_102
  | 103 => zk_103
  | 104 => zk_104
  | 105 => zk_105
  | 106 => zk_106
  | 107 => zk_107
  | 108 => zk_108
  | 109 => zk_109
  | 110 => zk_110
  | 111 => zk_111
  | 112 => zk_112
  | 113 => zk_113
  | 114 => zk_114
  | 115 => zk_115
  | 116 => zk_116
  | 117 => zk_117
  | 118 => zk_118
  | 119 => zk_119
  | 120 => zk_120
  | 121 => zk_121
  | 122 => zk_122
  | 123 => zk_123
  | 124 => zk_124
  | 125 => zk_125
  | 126 => zk_126
  | 127 => zk_127
  | 128 => zk_128
  | 129 => zk_129
  | 130 => zk_130
  | 131 => zk_131
  | 132 => zk_132
  | 133 => zk_133
  | 134 => zk_134
  | 135 => zk_135
  | 136 => zk_136
  | 137 => zk_137
  | 138 => zk_138
  | 139 => zk_139
  | 140 => zk_140
  | 141 => zk_141
  | 142 => zk_142
  | 143 => zk_143
  | 144 => zk_144
  | 145 => zk_145
  | 146 => zk_146
  | 147 => zk_147
  | 148 => zk_148
  | 149 => zk_149
  | 150 => zk_150
  | 151 => zk_151
  | 152 => zk_152
  | 153 => zk_153
  | 154 => zk_154
  | 155 => zk_155
  | 156 => zk_156
  | 157 => zk_157
  | 158 => zk_158
  | 159 => zk_159
  | 160 => zk_160
  | 161 => zk_161
  | 162 => zk_162
  | 163 => zk_163
  | 164 => zk_164
  | 165 => zk_165
  | 166 => zk_166
  | 167 => zk_167
  | 168 => zk_168
  | 169 => zk_169
  | 170 => zk_170
  | 171 => zk_171
  | 172 => zk_172
  | 173 => zk_173
  | k + 174 => fun b => by
    have e := zi_T_far (k := k + 174) (by omega)
    have e2 : zi_bk zi_T (k + 174) b = [] := by unfold zi_bk; rw [e]; rfl
    rw [e2]
    rfl
theorem zi_hpl_l : (List.range 174).all (fun k => decide (plainName (zi_yy zi_T k).cls = true)) = true := by decide +kernel
theorem zi_hpl : ∀ k, plainName (zi_yy zi_T k).cls = true := by
  intro k
  by_cases h : k < 174
  · have := List.all_eq_true.mp zi_hpl_l k (List.mem_range.mpr h)
    simpa using this
  · have e := zi_T_far (k := k) (by omega)
    unfold zi_yy
    rw [e]
    decide
theorem zi_hz_l : (List.range 174).all (fun k => decide (zi_sp zi_T k 0 = 0)) = true := by decide +kernel
theorem zi_hz : ∀ k, zi_sp zi_T k 0 = 0 := by
  intro k
  by_cases h : k < 174
  · have := List.all_eq_true.mp zi_hz_l k (List.mem_range.mpr h)
    simpa using this
  · have e := zi_T_far (k := k) (by omega)
    unfold zi_sp
    rw [e]
    rfl
end
section
/-! reckoning with the interpreter: what must hold ahead of a stretch of instructions (zi_wp) -/
theorem zx_nop (sc : Nat × (Nat → Int32))  (a b : Nat) (c : Int32) (l : List Nat) (lv : zi_L) (st : List Value) (M : zi_M) : zi_nx sc (.nop, a, b, c, l) lv st M = some (.inr (.inl (a, st))) := rfl
theorem zx_iconst (sc : Nat × (Nat → Int32)) (n : Int) (a b : Nat) (c : Int32) (l : List Nat) (lv : zi_L) (st : List Value) (M : zi_M) : zi_nx sc (.iconst n, a, b, c, l) lv st M = some (.inl (lv, .int c :: st, M)) := rfl
theorem zx_bipush (sc : Nat × (Nat → Int32)) (n : Int) (a b : Nat) (c : Int32) (l : List Nat) (lv : zi_L) (st : List Value) (M : zi_M) : zi_nx sc (.bipush n, a, b, c, l) lv st M = some (.inl (lv, .int c :: st, M)) := rfl
theorem zx_sipush (sc : Nat × (Nat → Int32)) (n : Int) (a b : Nat) (c : Int32) (l : List Nat) (lv : zi_L) (st : List Value) (M : zi_M) : zi_nx sc (.sipush n, a, b, c, l) lv st M = some (.inl (lv, .int c :: st, M)) := rfl
theorem zx_lconst (sc : Nat × (Nat → Int32)) (n : Fin 2) (a b : Nat) (c : Int32) (l : List Nat) (lv : zi_L) (st : List Value) (M : zi_M) : zi_nx sc (.lconst n, a, b, c, l) lv st M = some (.inl (lv, .long (Int64.ofNat n) :: st, M)) := rfl
theorem zx_ldc2_w (sc : Nat × (Nat → Int32)) (n : Nat) (a b : Nat) (c : Int32) (l : List Nat) (lv : zi_L) (st : List Value) (M : zi_M) : zi_nx sc (.ldc2_w n, a, b, c, l) lv st M = some (.inl (lv, .long (-9223372036854775808) :: st, M)) := rfl
theorem zx_aconst_null (sc : Nat × (Nat → Int32))  (a b : Nat) (c : Int32) (l : List Nat) (lv : zi_L) (st : List Value) (M : zi_M) : zi_nx sc (.aconst_null, a, b, c, l) lv st M = some (.inl (lv, .null :: st, M)) := rfl
theorem zx_iload (sc : Nat × (Nat → Int32)) (n : Nat) (a b : Nat) (c : Int32) (l : List Nat) (lv : zi_L) (st : List Value) (M : zi_M) : zi_nx sc (.iload n, a, b, c, l) lv st M = zi_ldi lv n st M := rfl
theorem zx_iload_n (sc : Nat × (Nat → Int32)) (n : Fin 4) (a b : Nat) (c : Int32) (l : List Nat) (lv : zi_L) (st : List Value) (M : zi_M) : zi_nx sc (.iload_n n, a, b, c, l) lv st M = zi_ldi lv n.val st M := rfl
theorem zx_lload (sc : Nat × (Nat → Int32)) (n : Nat) (a b : Nat) (c : Int32) (l : List Nat) (lv : zi_L) (st : List Value) (M : zi_M) : zi_nx sc (.lload n, a, b, c, l) lv st M = zi_ldl lv n st M := rfl
theorem zx_lload_n (sc : Nat × (Nat → Int32)) (n : Fin 4) (a b : Nat) (c : Int32) (l : List Nat) (lv : zi_L) (st : List Value) (M : zi_M) : zi_nx sc (.lload_n n, a, b, c, l) lv st M = zi_ldl lv n.val st M := rfl
theorem zx_aload (sc : Nat × (Nat → Int32)) (n : Nat) (a b : Nat) (c : Int32) (l : List Nat) (lv : zi_L) (st : List Value) (M : zi_M) : zi_nx sc (.aload n, a, b, c, l) lv st M = zi_lda lv n st M := rfl
theorem zx_aload_n (sc : Nat × (Nat → Int32)) (n : Fin 4) (a b : Nat) (c : Int32) (l : List Nat) (lv : zi_L) (st : List Value) (M : zi_M) : zi_nx sc (.aload_n n, a, b, c, l) lv st M = zi_lda lv n.val st M := rfl
theorem zx_istore (sc : Nat × (Nat → Int32)) (n : Nat) (a b : Nat) (c : Int32) (l : List Nat) (lv : zi_L) (st : List Value) (M : zi_M) : zi_nx sc (.istore n, a, b, c, l) lv st M = zi_sti lv n st M := rfl
theorem zx_istore_n (sc : Nat × (Nat → Int32)) (n : Fin 4) (a b : Nat) (c : Int32) (l : List Nat) (lv : zi_L) (st : List Value) (M : zi_M) : zi_nx sc (.istore_n n, a, b, c, l) lv st M = zi_sti lv n.val st M := rfl
theorem zx_lstore (sc : Nat × (Nat → Int32)) (n : Nat) (a b : Nat) (c : Int32) (l : List Nat) (lv : zi_L) (st : List Value) (M : zi_M) : zi_nx sc (.lstore n, a, b, c, l) lv st M = zi_stl lv n st M := rfl
theorem zx_lstore_n (sc : Nat × (Nat → Int32)) (n : Fin 4) (a b : Nat) (c : Int32) (l : List Nat) (lv : zi_L) (st : List Value) (M : zi_M) : zi_nx sc (.lstore_n n, a, b, c, l) lv st M = zi_stl lv n.val st M := rfl
theorem zx_astore (sc : Nat × (Nat → Int32)) (n : Nat) (a b : Nat) (c : Int32) (l : List Nat) (lv : zi_L) (st : List Value) (M : zi_M) : zi_nx sc (.astore n, a, b, c, l) lv st M = zi_sta lv n st M := rfl
theorem zx_astore_n (sc : Nat × (Nat → Int32)) (n : Fin 4) (a b : Nat) (c : Int32) (l : List Nat) (lv : zi_L) (st : List Value) (M : zi_M) : zi_nx sc (.astore_n n, a, b, c, l) lv st M = zi_sta lv n.val st M := rfl
theorem zx_iinc (sc : Nat × (Nat → Int32)) (n : Nat) (d : Int) (a b : Nat) (c : Int32) (l : List Nat) (lv : zi_L) (st : List Value) (M : zi_M) : zi_nx sc (.iinc n d, a, b, c, l) lv st M = zi_inc lv n c st M := rfl
theorem zx_iadd (sc : Nat × (Nat → Int32))  (a b : Nat) (c : Int32) (l : List Nat) (lv : zi_L) (st : List Value) (M : zi_M) : zi_nx sc (.iadd, a, b, c, l) lv st M = zi_b2 (fun x y => x + y) lv st M := rfl
theorem zx_isub (sc : Nat × (Nat → Int32))  (a b : Nat) (c : Int32) (l : List Nat) (lv : zi_L) (st : List Value) (M : zi_M) : zi_nx sc (.isub, a, b, c, l) lv st M = zi_b2 (fun x y => x - y) lv st M := rfl
theorem zx_imul (sc : Nat × (Nat → Int32))  (a b : Nat) (c : Int32) (l : List Nat) (lv : zi_L) (st : List Value) (M : zi_M) : zi_nx sc (.imul, a, b, c, l) lv st M = zi_b2 (fun x y => x * y) lv st M := rfl
theorem zx_iand (sc : Nat × (Nat → Int32))  (a b : Nat) (c : Int32) (l : List Nat) (lv : zi_L) (st : List Value) (M : zi_M) : zi_nx sc (.iand, a, b, c, l) lv st M = zi_b2 (fun x y => x &&& y) lv st M := rfl
theorem zx_ior (sc : Nat × (Nat → Int32))  (a b : Nat) (c : Int32) (l : List Nat) (lv : zi_L) (st : List Value) (M : zi_M) : zi_nx sc (.ior, a, b, c, l) lv st M = zi_b2 (fun x y => x ||| y) lv st M := rfl
theorem zx_ishl (sc : Nat × (Nat → Int32))  (a b : Nat) (c : Int32) (l : List Nat) (lv : zi_L) (st : List Value) (M : zi_M) : zi_nx sc (.ishl, a, b, c, l) lv st M = zi_b2 (fun x y => x <<< (y &&& 31)) lv st M := rfl
theorem zx_ishr (sc : Nat × (Nat → Int32))  (a b : Nat) (c : Int32) (l : List Nat) (lv : zi_L) (st : List Value) (M : zi_M) : zi_nx sc (.ishr, a, b, c, l) lv st M = zi_b2 (fun x y => x >>> (y &&& 31)) lv st M := rfl
theorem zx_idiv (sc : Nat × (Nat → Int32))  (a b : Nat) (c : Int32) (l : List Nat) (lv : zi_L) (st : List Value) (M : zi_M) : zi_nx sc (.idiv, a, b, c, l) lv st M = zi_d2 (fun x y => x / y) lv st M := rfl
theorem zx_irem (sc : Nat × (Nat → Int32))  (a b : Nat) (c : Int32) (l : List Nat) (lv : zi_L) (st : List Value) (M : zi_M) : zi_nx sc (.irem, a, b, c, l) lv st M = zi_d2 (fun x y => x - x / y * y) lv st M := rfl
theorem zx_ladd (sc : Nat × (Nat → Int32))  (a b : Nat) (c : Int32) (l : List Nat) (lv : zi_L) (st : List Value) (M : zi_M) : zi_nx sc (.ladd, a, b, c, l) lv st M = zi_l2 (fun x y => x + y) lv st M := rfl
theorem zx_ldiv (sc : Nat × (Nat → Int32))  (a b : Nat) (c : Int32) (l : List Nat) (lv : zi_L) (st : List Value) (M : zi_M) : zi_nx sc (.ldiv, a, b, c, l) lv st M = zi_dl2 (fun x y => x / y) lv st M := rfl
theorem zx_lrem (sc : Nat × (Nat → Int32))  (a b : Nat) (c : Int32) (l : List Nat) (lv : zi_L) (st : List Value) (M : zi_M) : zi_nx sc (.lrem, a, b, c, l) lv st M = zi_dl2 (fun x y => x - x / y * y) lv st M := rfl
theorem zx_lcmp (sc : Nat × (Nat → Int32))  (a b : Nat) (c : Int32) (l : List Nat) (lv : zi_L) (st : List Value) (M : zi_M) : zi_nx sc (.lcmp, a, b, c, l) lv st M = zi_lc lv st M := rfl
theorem zx_i2l (sc : Nat × (Nat → Int32))  (a b : Nat) (c : Int32) (l : List Nat) (lv : zi_L) (st : List Value) (M : zi_M) : zi_nx sc (.i2l, a, b, c, l) lv st M = zi_u1 (fun x => .long x.toInt64) lv st M := rfl
theorem zx_i2b (sc : Nat × (Nat → Int32))  (a b : Nat) (c : Int32) (l : List Nat) (lv : zi_L) (st : List Value) (M : zi_M) : zi_nx sc (.i2b, a, b, c, l) lv st M = zi_u1 (fun x => .int x.toInt8.toInt32) lv st M := rfl
theorem zx_i2s (sc : Nat × (Nat → Int32))  (a b : Nat) (c : Int32) (l : List Nat) (lv : zi_L) (st : List Value) (M : zi_M) : zi_nx sc (.i2s, a, b, c, l) lv st M = zi_u1 (fun x => .int x.toInt16.toInt32) lv st M := rfl
theorem zx_pop (sc : Nat × (Nat → Int32))  (a b : Nat) (c : Int32) (l : List Nat) (lv : zi_L) (st : List Value) (M : zi_M) : zi_nx sc (.pop, a, b, c, l) lv st M = zi_pp lv st M := rfl
theorem zx_dup (sc : Nat × (Nat → Int32))  (a b : Nat) (c : Int32) (l : List Nat) (lv : zi_L) (st : List Value) (M : zi_M) : zi_nx sc (.dup, a, b, c, l) lv st M = zi_dup lv st M := rfl
theorem zx_dup2 (sc : Nat × (Nat → Int32))  (a b : Nat) (c : Int32) (l : List Nat) (lv : zi_L) (st : List Value) (M : zi_M) : zi_nx sc (.dup2, a, b, c, l) lv st M = zi_dup2 lv st M := rfl
theorem zx_getfield (sc : Nat × (Nat → Int32)) (n : Nat) (a b : Nat) (c : Int32) (l : List Nat) (lv : zi_L) (st : List Value) (M : zi_M) : zi_nx sc (.getfield n, a, b, c, l) lv st M = zi_gf a b l lv st M := rfl
theorem zx_putfield (sc : Nat × (Nat → Int32)) (n : Nat) (a b : Nat) (c : Int32) (l : List Nat) (lv : zi_L) (st : List Value) (M : zi_M) : zi_nx sc (.putfield n, a, b, c, l) lv st M = zi_pf a b l lv st M := rfl
theorem zx_getstatic (sc : Nat × (Nat → Int32)) (n : Nat) (a b : Nat) (c : Int32) (l : List Nat) (lv : zi_L) (st : List Value) (M : zi_M) : zi_nx sc (.getstatic n, a, b, c, l) lv st M = some (.inl (lv, .float (UInt32.ofNat a) :: st, M)) := rfl
theorem zx_iaload (sc : Nat × (Nat → Int32))  (a b : Nat) (c : Int32) (l : List Nat) (lv : zi_L) (st : List Value) (M : zi_M) : zi_nx sc (.iaload, a, b, c, l) lv st M = zi_ial sc lv st M := rfl
theorem zx_iastore (sc : Nat × (Nat → Int32))  (a b : Nat) (c : Int32) (l : List Nat) (lv : zi_L) (st : List Value) (M : zi_M) : zi_nx sc (.iastore, a, b, c, l) lv st M = zi_ias lv st M := rfl
theorem zx_laload (sc : Nat × (Nat → Int32))  (a b : Nat) (c : Int32) (l : List Nat) (lv : zi_L) (st : List Value) (M : zi_M) : zi_nx sc (.laload, a, b, c, l) lv st M = zi_lal lv st M := rfl
theorem zx_lastore (sc : Nat × (Nat → Int32))  (a b : Nat) (c : Int32) (l : List Nat) (lv : zi_L) (st : List Value) (M : zi_M) : zi_nx sc (.lastore, a, b, c, l) lv st M = zi_las lv st M := rfl
theorem zx_aaload (sc : Nat × (Nat → Int32))  (a b : Nat) (c : Int32) (l : List Nat) (lv : zi_L) (st : List Value) (M : zi_M) : zi_nx sc (.aaload, a, b, c, l) lv st M = zi_aal lv st M := rfl
theorem zx_arraylength (sc : Nat × (Nat → Int32))  (a b : Nat) (c : Int32) (l : List Nat) (lv : zi_L) (st : List Value) (M : zi_M) : zi_nx sc (.arraylength, a, b, c, l) lv st M = zi_aln sc lv st M := rfl
theorem zx_goto (sc : Nat × (Nat → Int32)) (d : Int) (a b : Nat) (c : Int32) (l : List Nat) (lv : zi_L) (st : List Value) (M : zi_M) : zi_nx sc (.goto d, a, b, c, l) lv st M = some (.inr (.inl (a, st))) := rfl
theorem zx_ifCond (sc : Nat × (Nat → Int32)) (e : ClassFile.Cond) (d : Int) (a b : Nat) (c : Int32) (l : List Nat) (lv : zi_L) (st : List Value) (M : zi_M) : zi_nx sc (.ifCond e d, a, b, c, l) lv st M = zi_if e a lv st M := rfl
theorem zx_if_icmp (sc : Nat × (Nat → Int32)) (e : ClassFile.Cond) (d : Int) (a b : Nat) (c : Int32) (l : List Nat) (lv : zi_L) (st : List Value) (M : zi_M) : zi_nx sc (.if_icmp e d, a, b, c, l) lv st M = zi_ic e a lv st M := rfl
theorem zx_ifnull (sc : Nat × (Nat → Int32)) (d : Int) (a b : Nat) (c : Int32) (l : List Nat) (lv : zi_L) (st : List Value) (M : zi_M) : zi_nx sc (.ifnull d, a, b, c, l) lv st M = zi_nul a lv st M := rfl
theorem zx_ifnonnull (sc : Nat × (Nat → Int32)) (d : Int) (a b : Nat) (c : Int32) (l : List Nat) (lv : zi_L) (st : List Value) (M : zi_M) : zi_nx sc (.ifnonnull d, a, b, c, l) lv st M = zi_nnl a lv st M := rfl
theorem zx_tableswitch (sc : Nat × (Nat → Int32)) (d lo hi : Int) (o : Array Int) (a b : Nat) (c : Int32) (l : List Nat) (lv : zi_L) (st : List Value) (M : zi_M) : zi_nx sc (.tableswitch d lo hi o, a, b, c, l) lv st M = zi_sw (fun x => zi_tb c a x l) st := rfl
theorem zx_lookupswitch (sc : Nat × (Nat → Int32)) (d : Int) (ps : Array (Int × Int)) (a b : Nat) (c : Int32) (l : List Nat) (lv : zi_L) (st : List Value) (M : zi_M) : zi_nx sc (.lookupswitch d ps, a, b, c, l) lv st M = zi_sw (fun x => zi_lk a x ps.toList l) st := rfl
theorem zx_ireturn (sc : Nat × (Nat → Int32))  (a b : Nat) (c : Int32) (l : List Nat) (lv : zi_L) (st : List Value) (M : zi_M) : zi_nx sc (.ireturn, a, b, c, l) lv st M = zi_ri a st := rfl
theorem zx_lreturn (sc : Nat × (Nat → Int32))  (a b : Nat) (c : Int32) (l : List Nat) (lv : zi_L) (st : List Value) (M : zi_M) : zi_nx sc (.lreturn, a, b, c, l) lv st M = zi_rl st := rfl
theorem zx_areturn (sc : Nat × (Nat → Int32))  (a b : Nat) (c : Int32) (l : List Nat) (lv : zi_L) (st : List Value) (M : zi_M) : zi_nx sc (.areturn, a, b, c, l) lv st M = zi_ra st := rfl
theorem zx_return_ (sc : Nat × (Nat → Int32))  (a b : Nat) (c : Int32) (l : List Nat) (lv : zi_L) (st : List Value) (M : zi_M) : zi_nx sc (.return_, a, b, c, l) lv st M = zi_rv st := rfl
theorem zx_invokestatic (sc : Nat × (Nat → Int32)) (n : Nat) (a b : Nat) (c : Int32) (l : List Nat) (lv : zi_L) (st : List Value) (M : zi_M) : zi_nx sc (.invokestatic n, a, b, c, l) lv st M = if a = 9998 then zi_cp lv st M else zi_iv a b l st := rfl
theorem zx_invokevirtual (sc : Nat × (Nat → Int32)) (n : Nat) (a b : Nat) (c : Int32) (l : List Nat) (lv : zi_L) (st : List Value) (M : zi_M) : zi_nx sc (.invokevirtual n, a, b, c, l) lv st M = zi_ivr a b l st M := rfl
/-- more steps allowed, the same end -/
theorem zi_ex_up {T : Nat → zi_D} {sc : Nat × (Nat → Int32)} : ∀ (n : Nat) (k : Nat) (is : List zi_I) (lv : zi_L) (st : List Value) (M : zi_M) (cu su : Nat) (q : Option Value × zi_M), zi_ex T sc n k is lv st M cu su = some q → zi_ex T sc (n + 1) k is lv st M cu su = some q
  | 0, k, is, lv, st, M, cu, su, q, h => by simp [zi_ex] at h
  | n + 1, k, [], lv, st, M, cu, su, q, h => by simp [zi_ex] at h
  | n + 1, k, i :: is, lv, st, M, cu, su, q, h => by
    unfold zi_ex at h ⊢
    cases hn : zi_nx sc i lv st M with
    | none => rw [hn] at h; cases h
    | some z =>
      rw [hn] at h
      rcases z with ⟨lv', st', M2⟩ | ⟨b, st'⟩ | r2 | ⟨j, as, st'⟩
      · dsimp only at h ⊢
        by_cases hg : cu + (zi_al i st).1 ≤ zi_mc T k ∧ su + (zi_al i st).2 ≤ zi_ms T k
        · rw [if_pos hg] at h ⊢
          exact zi_ex_up n k is lv' st' M2 _ _ q h
        · rw [if_neg hg] at h
          cases h
      · exact zi_ex_up n k _ lv st' M cu su q h
      · exact h
      · dsimp only at h ⊢
        by_cases hg : cu + zi_mc T j ≤ zi_mc T k ∧ su + zi_ms T j ≤ zi_ms T k
        · rw [if_pos hg] at h ⊢
          cases hc : zi_ex T sc n j (zi_bk T j 0) (zi_la as) [] M 0 0 with
          | none => rw [hc] at h; cases h
          | some q2 =>
            rw [hc] at h
            rw [zi_ex_up n j _ _ _ M 0 0 q2 hc]
            exact zi_ex_up n k is lv _ _ _ _ q h
        · rw [if_neg hg] at h
          cases h
theorem zi_ex_le {T : Nat → zi_D} {sc : Nat × (Nat → Int32)} {n n' k : Nat} {is : List zi_I} {lv : zi_L} {st : List Value} {M : zi_M} {cu su : Nat} {q : Option Value × zi_M} (h : zi_ex T sc n k is lv st M cu su = some q) (hn : n ≤ n') : zi_ex T sc n' k is lv st M cu su = some q := by
  induction hn with
  | refl => exact h
  | step _ ih => exact zi_ex_up _ _ _ _ _ _ _ _ _ ih
def zi_G (sc : Nat × (Nat → Int32)) (cu su k : Nat) (is : List zi_I) (lv : zi_L) (st : List Value) (M : zi_M) (Q : Option Value → zi_M → Prop) : Prop := ∃ n r M', zi_ex zi_T sc n k is lv st M cu su = some (r, M') ∧ Q r M'
/-- from a block of a method on -/
def zi_B (sc : Nat × (Nat → Int32)) (cu su k b : Nat) (lv : zi_L) (st : List Value) (M : zi_M) (Q : Option Value → zi_M → Prop) : Prop := zi_G sc cu su k (zi_bk zi_T k b) lv st M Q
/-- behind a call -/
def zi_cc (go : zi_L → List Value → zi_M → Prop) (lv : zi_L) (st : List Value) : Option Value → zi_M → Prop := fun r M => go lv (r.toList ++ st) M
def zi_wK (sc : Nat × (Nat → Int32)) (cu su k : Nat) (Q : Option Value → zi_M → Prop) (go : zi_L → List Value → zi_M → Prop) (lv : zi_L) (M : zi_M) : Option zi_N → Prop
  | none => False
  | some (.inl (lv', st', M')) => go lv' st' M'
  | some (.inr (.inl (b, st'))) => zi_B sc cu su k b lv st' M Q
  | some (.inr (.inr (.inl r))) => Q r M
  | some (.inr (.inr (.inr (j, as, st')))) => zi_B sc 0 0 j 0 (zi_la as) [] M (zi_cc go lv st')
def zi_wp (sc : Nat × (Nat → Int32)) (cu su k : Nat) (Q : Option Value → zi_M → Prop) : List zi_I → zi_L → List Value → zi_M → Prop
  | [] => fun _ _ _ => False
  | i :: is => fun lv st M => zi_wK sc cu su k Q (zi_wp sc cu su k Q is) lv M (zi_nx sc i lv st M)
theorem zi_wp_c (sc : Nat × (Nat → Int32)) (cu su k : Nat) (Q : Option Value → zi_M → Prop) (i : zi_I) (is : List zi_I) (lv : zi_L) (st : List Value) (M : zi_M) : zi_wp sc cu su k Q (i :: is) lv st M = zi_wK sc cu su k Q (zi_wp sc cu su k Q is) lv M (zi_nx sc i lv st M) := rfl
theorem zi_wK_if (sc : Nat × (Nat → Int32)) (cu su k : Nat) (Q : Option Value → zi_M → Prop) (go : zi_L → List Value → zi_M → Prop) (lv : zi_L) (M : zi_M) (p : Prop) (hp : Decidable p) (x y : Option zi_N) : zi_wK sc cu su k Q go lv M (@ite _ p hp x y) = @ite _ p hp (zi_wK sc cu su k Q go lv M x) (zi_wK sc cu su k Q go lv M y) := by
  by_cases h : p
  · rw [if_pos h, if_pos h]
  · rw [if_neg h, if_neg h]
theorem zi_wK_go (sc : Nat × (Nat → Int32)) (cu su k : Nat) (Q : Option Value → zi_M → Prop) (go : zi_L → List Value → zi_M → Prop) (lv lv' : zi_L) (st' : List Value) (M M' : zi_M) : zi_wK sc cu su k Q go lv M (some (.inl (lv', st', M'))) = go lv' st' M' := rfl
theorem zi_wK_no (sc : Nat × (Nat → Int32)) (cu su k : Nat) (Q : Option Value → zi_M → Prop) (go : zi_L → List Value → zi_M → Prop) (lv : zi_L) (M : zi_M) : zi_wK sc cu su k Q go lv M none = False := rfl
theorem zi_wK_b (sc : Nat × (Nat → Int32)) (cu su k : Nat) (Q : Option Value → zi_M → Prop) (go : zi_L → List Value → zi_M → Prop) (lv : zi_L) (M : zi_M) (b : Nat) (st' : List Value) : zi_wK sc cu su k Q go lv M (some (.inr (.inl (b, st')))) = zi_B sc cu su k b lv st' M Q := rfl
theorem zi_wK_r (sc : Nat × (Nat → Int32)) (cu su k : Nat) (Q : Option Value → zi_M → Prop) (go : zi_L → List Value → zi_M → Prop) (lv : zi_L) (M : zi_M) (r : Option Value) : zi_wK sc cu su k Q go lv M (some (.inr (.inr (.inl r)))) = Q r M := rfl
theorem zi_wK_c (sc : Nat × (Nat → Int32)) (cu su k : Nat) (Q : Option Value → zi_M → Prop) (go : zi_L → List Value → zi_M → Prop) (lv : zi_L) (M : zi_M) (j : Nat) (as st' : List Value) : zi_wK sc cu su k Q go lv M (some (.inr (.inr (.inr (j, as, st'))))) = zi_B sc 0 0 j 0 (zi_la as) [] M (zi_cc go lv st') := rfl
theorem zi_cc_i (go : zi_L → List Value → zi_M → Prop) (lv : zi_L) (st : List Value) (v : Value) (M : zi_M) : zi_cc go lv st (some v) M = go lv (v :: st) M := rfl
theorem zi_cc_n (go : zi_L → List Value → zi_M → Prop) (lv : zi_L) (st : List Value) (M : zi_M) : zi_cc go lv st none M = go lv st M := rfl
theorem zi_ifF (p : Prop) (hp : Decidable p) (x : Prop) : @ite _ p hp x False = (p ∧ x) := by
  by_cases h : p
  · rw [if_pos h]; simp [h]
  · rw [if_neg h]; simp [h]
def zi_isA (i : zi_I) : Bool := match i.1 with
  | .new _ => true
  | .newarray _ => true
  | .anewarray _ => true
  | .multianewarray _ _ => true
  | .invokestatic _ => decide (i.2.1 < 10)
  | .invokevirtual _ => decide (i.2.1 < 10)
  | .invokespecial _ => decide (i.2.1 < 10)
  | _ => false
theorem zi_al_0 {i : zi_I} {st : List Value} (h : zi_isA i = false) : zi_al i st = (0, 0) := by
  obtain ⟨op, a, b, c, l⟩ := i
  cases op <;> first | rfl | (simp [zi_isA] at h)
theorem zi_nx_j {sc : Nat × (Nat → Int32)} {i : zi_I} {lv : zi_L} {st : List Value} {M : zi_M} {j : Nat} {as st' : List Value} (h : zi_isA i = false) (hn : zi_nx sc i lv st M = some (.inr (.inr (.inr (j, as, st'))))) : 10 ≤ j := by
  obtain ⟨op, ia, ib, ic, il⟩ := i
  cases op with
  | invokestatic idx =>
    simp only [zi_nx] at hn
    simp only [zi_isA, decide_eq_false_iff_not] at h
    by_cases h9 : ia = 9998
    · rw [if_pos h9] at hn
      unfold zi_cp at hn
      split at hn
      · split at hn <;> cases hn
      · cases hn
    · rw [if_neg h9] at hn
      obtain ⟨as, r, -, -, -, hz⟩ := zi_iv_inv hn
      cases hz
      omega
  | invokevirtual idx =>
    simp only [zi_nx] at hn
    simp only [zi_isA, decide_eq_false_iff_not] at h
    obtain ⟨id, as, r, -, -, -, -, hz⟩ := zi_ivr_inv hn
    cases hz
    omega
  | invokespecial idx =>
    simp only [zi_nx] at hn
    simp only [zi_isA, decide_eq_false_iff_not] at h
    by_cases h9 : ia = 9999
    · rw [if_pos h9] at hn
      unfold zi_obj at hn
      split at hn
      · split at hn <;> cases hn
      · cases hn
    · rw [if_neg h9] at hn
      obtain ⟨id, as, r, -, -, -, -, hz⟩ := zi_ivr_inv hn
      cases hz
      omega
  | ifCond d off =>
    simp only [zi_nx] at hn
    obtain ⟨x, r, rfl, hz⟩ := zi_if_inv hn
    split at hz <;> cases hz
  | if_icmp d off =>
    simp only [zi_nx] at hn
    obtain ⟨x, y, r, rfl, hz⟩ := zi_ic_inv hn
    split at hz <;> cases hz
  | ifnull off => simp only [zi_nx] at hn; rcases zi_nul_inv hn with ⟨r, rfl, hz⟩ | ⟨x, r, rfl, hz⟩ <;> cases hz
  | ifnonnull off => simp only [zi_nx] at hn; rcases zi_nnl_inv hn with ⟨r, rfl, hz⟩ | ⟨x, r, rfl, hz⟩ <;> cases hz
  | tableswitch d lo hi offs => simp only [zi_nx] at hn; obtain ⟨x, r, rfl, hz⟩ := zi_sw_inv hn; cases hz
  | lookupswitch d ps => simp only [zi_nx] at hn; obtain ⟨x, r, rfl, hz⟩ := zi_sw_inv hn; cases hz
  | ireturn => simp only [zi_nx] at hn; obtain ⟨x, -, -, hz⟩ := zi_ri_inv hn; cases hz
  | lreturn => simp only [zi_nx] at hn; obtain ⟨x, -, hz⟩ := zi_rl_inv hn; cases hz
  | areturn => simp only [zi_nx] at hn; obtain ⟨x, -, -, hz⟩ := zi_ra_inv hn; cases hz
  | return_ => simp only [zi_nx] at hn; obtain ⟨-, hz⟩ := zi_rv_inv hn; cases hz
  | _ =>
    simp only [zi_nx] at hn
    first
      | cases hn
      | (unfold zi_ldi at hn; split at hn <;> cases hn)
      | (unfold zi_ldl at hn; split at hn <;> cases hn)
      | (unfold zi_lda at hn; split at hn <;> cases hn)
      | (unfold zi_sti at hn; split at hn <;> cases hn)
      | (unfold zi_stl at hn; split at hn <;> cases hn)
      | (unfold zi_sta at hn; split at hn <;> cases hn)
      | (unfold zi_inc at hn; split at hn <;> cases hn)
      | (unfold zi_b2 at hn; split at hn <;> cases hn)
      | (unfold zi_l2 at hn; split at hn <;> cases hn)
      | (unfold zi_lc at hn; split at hn <;> cases hn)
      | (unfold zi_u1 at hn; split at hn <;> cases hn)
      | (unfold zi_pp at hn; split at hn <;> cases hn)
      | (unfold zi_dup at hn; split at hn <;> cases hn)
      | (unfold zi_dup2 at hn; split at hn <;> cases hn)
      | (unfold zi_new at hn; cases hn)
      | (unfold zi_d2 at hn; split at hn <;> (try split at hn) <;> cases hn)
      | (unfold zi_dl2 at hn; split at hn <;> (try split at hn) <;> cases hn)
      | (unfold zi_gf at hn; split at hn <;> (try split at hn) <;> cases hn)
      | (unfold zi_pf at hn; split at hn <;> (try split at hn) <;> cases hn)
      | (unfold zi_ial at hn; split at hn <;> (try split at hn) <;> cases hn)
      | (unfold zi_ias at hn; split at hn <;> (try split at hn) <;> cases hn)
      | (unfold zi_lal at hn; split at hn <;> (try split at hn) <;> cases hn)
      | (unfold zi_las at hn; split at hn <;> (try split at hn) <;> cases hn)
      | (unfold zi_aal at hn; split at hn <;> (try split at hn) <;> cases hn)
      | (unfold zi_aas at hn; split at hn <;> (try split at hn) <;> cases hn)
      | (unfold zi_aln at hn; split at hn <;> (try split at hn) <;> cases hn)
      | (unfold zi_na at hn; split at hn <;> (try split at hn) <;> cases hn)
      | (unfold zi_mna at hn; split at hn <;> (try split at hn) <;> cases hn)
theorem zi_far10_l : (List.range 174).all (fun k => decide (10 ≤ k → zi_mc zi_T k = 0 ∧ zi_ms zi_T k = 0)) = true := by decide +kernel
theorem zi_far10 {j : Nat} (h : 10 ≤ j) : zi_mc zi_T j = 0 ∧ zi_ms zi_T j = 0 := by
  by_cases h2 : j < 174
  · have := List.all_eq_true.mp zi_far10_l j (List.mem_range.mpr h2)
    simp only [decide_eq_true_eq] at this
    exact this h
  · have e := zi_T_far (k := j) (by omega)
    unfold zi_mc zi_ms
    rw [e]
    exact ⟨rfl, rfl⟩
theorem zi_wp_G {sc : Nat × (Nat → Int32)} {cu su k : Nat} {Q : Option Value → zi_M → Prop} (hcu : cu ≤ zi_mc zi_T k) (hsu : su ≤ zi_ms zi_T k) : ∀ (is : List zi_I) (lv : zi_L) (st : List Value) (M : zi_M), is.all (fun i => !zi_isA i) = true → (zi_wp sc cu su k Q is lv st M ↔ zi_G sc cu su k is lv st M Q)
  | [], lv, st, M, _ => ⟨fun h => absurd h id, fun ⟨n, r, M', h, _⟩ => by cases n <;> simp [zi_ex] at h⟩
  | i :: is, lv, st, M, ha => by
    rw [List.all_cons, Bool.and_eq_true] at ha
    have hia : zi_isA i = false := by simpa using ha.1
    have hal := zi_al_0 (i := i) (st := st) hia
    have key : ∀ n, zi_ex zi_T sc (n + 1) k (i :: is) lv st M cu su = match zi_nx sc i lv st M with
      | none => none
      | some (.inl (lv', st', M')) => zi_ex zi_T sc n k is lv' st' M' cu su
      | some (.inr (.inl (b, st'))) => zi_ex zi_T sc n k (zi_bk zi_T k b) lv st' M cu su
      | some (.inr (.inr (.inl r))) => some (r, M)
      | some (.inr (.inr (.inr (j, as, st')))) => match zi_ex zi_T sc n j (zi_bk zi_T j 0) (zi_la as) [] M 0 0 with
        | none => none
        | some (r, M') => zi_ex zi_T sc n k is lv (r.toList ++ st') M' cu su := by
      intro n
      conv => lhs; unfold zi_ex
      cases hn : zi_nx sc i lv st M with
      | none => rfl
      | some z =>
        rcases z with ⟨lv', st', M2⟩ | ⟨b, st'⟩ | r2 | ⟨j, as, st'⟩
        · dsimp only
          rw [hal, if_pos ⟨hcu, hsu⟩]
          rfl
        · rfl
        · rfl
        · obtain ⟨m1, m2⟩ := zi_far10 (zi_nx_j hia hn)
          dsimp only
          rw [m1, m2, if_pos ⟨hcu, hsu⟩]
          rfl
    rw [zi_wp_c]
    constructor
    · intro h
      cases hn : zi_nx sc i lv st M with
      | none => rw [hn] at h; exact absurd h id
      | some z =>
        rw [hn] at h
        rcases z with ⟨lv', st', M2⟩ | ⟨b, st'⟩ | r2 | ⟨j, as, st'⟩
        · obtain ⟨n, r, M', h1, h2⟩ := (zi_wp_G hcu hsu is lv' st' M2 ha.2).mp h
          exact ⟨n + 1, r, M', by rw [key, hn]; exact h1, h2⟩
        · obtain ⟨n, r, M', h1, h2⟩ := h
          exact ⟨n + 1, r, M', by rw [key, hn]; exact h1, h2⟩
        · exact ⟨1, r2, M, by rw [key, hn], h⟩
        · obtain ⟨n, r, M', h1, h2⟩ := h
          obtain ⟨n2, r2, M2, h3, h4⟩ := (zi_wp_G hcu hsu is lv (r.toList ++ st') M' ha.2).mp h2
          refine ⟨max n n2 + 1, r2, M2, ?_, h4⟩
          rw [key, hn]
          dsimp only
          rw [zi_ex_le h1 (Nat.le_max_left _ _)]
          exact zi_ex_le h3 (Nat.le_max_right _ _)
    · rintro ⟨n, r, M', h1, h2⟩
      cases n with
      | zero => simp [zi_ex] at h1
      | succ n =>
        rw [key] at h1
        cases hn : zi_nx sc i lv st M with
        | none => rw [hn] at h1; cases h1
        | some z =>
          rw [hn] at h1
          rcases z with ⟨lv', st', M2⟩ | ⟨b, st'⟩ | r2 | ⟨j, as, st'⟩
          · exact (zi_wp_G hcu hsu is lv' st' M2 ha.2).mpr ⟨n, r, M', h1, h2⟩
          · exact ⟨n, r, M', h1, h2⟩
          · cases h1
            exact h2
          · dsimp only at h1
            cases hc : zi_ex zi_T sc n j (zi_bk zi_T j 0) (zi_la as) [] M 0 0 with
            | none => rw [hc] at h1; cases h1
            | some q =>
              obtain ⟨r3, M3⟩ := q
              rw [hc] at h1
              exact ⟨n, r3, M3, hc, (zi_wp_G hcu hsu is lv (r3.toList ++ st') M3 ha.2).mpr ⟨n, r, M', h1, h2⟩⟩
/-- a block: its instructions -/
theorem zi_blk {sc : Nat × (Nat → Int32)} {cu su k b : Nat} (is : List zi_I) (e : zi_bk zi_T k b = is) (hc : cu ≤ zi_mc zi_T k ∧ su ≤ zi_ms zi_T k) (ha : is.all (fun i => !zi_isA i) = true) (lv : zi_L) (st : List Value) (M : zi_M) (Q : Option Value → zi_M → Prop) : zi_B sc cu su k b lv st M Q = zi_wp sc cu su k Q is lv st M := by
  unfold zi_B
  rw [e]
  exact propext (zi_wp_G hc.1 hc.2 is lv st M ha).symm
theorem zi_B_if (sc : Nat × (Nat → Int32)) (cu su k : Nat) (p : Prop) (hp : Decidable p) (b1 b2 : Nat) (lv : zi_L) (st : List Value) (M : zi_M) (Q : Option Value → zi_M → Prop) : zi_B sc cu su k (@ite _ p hp b1 b2) lv st M Q = @ite _ p hp (zi_B sc cu su k b1 lv st M Q) (zi_B sc cu su k b2 lv st M Q) := by
  by_cases h : p
  · rw [if_pos h, if_pos h]
  · rw [if_neg h, if_neg h]
theorem zi_B.mono {sc : Nat × (Nat → Int32)} {cu su k b : Nat} {Q Q' : Option Value → zi_M → Prop} {lv : zi_L} {st : List Value} {M : zi_M} (h : zi_B sc cu su k b lv st M Q) (hq : ∀ r M', Q r M' → Q' r M') : zi_B sc cu su k b lv st M Q' := by
  obtain ⟨n, r, M', h1, h2⟩ := h
  exact ⟨n, r, M', h1, hq r M' h2⟩
theorem zq_get0 (x : Option Value) (t : zi_L) : zi_get (x :: t) 0 = x := rfl
theorem zq_getS (x : Option Value) (t : zi_L) (n : Nat) : zi_get (x :: t) (n + 1) = zi_get t n := rfl
theorem zq_getN (n : Nat) : zi_get [] n = none := rfl
theorem zq_put0 (x v : Option Value) (t : zi_L) : zi_put (x :: t) 0 v = v :: t := rfl
theorem zq_putS (x v : Option Value) (t : zi_L) (n : Nat) : zi_put (x :: t) (n + 1) v = x :: zi_put t n v := rfl
theorem zq_putN0 (v : Option Value) : zi_put [] 0 v = [v] := rfl
theorem zq_putNS (v : Option Value) (n : Nat) : zi_put [] (n + 1) v = none :: zi_put [] n v := rfl
theorem zq_kl0 (lv : zi_L) : zi_kl lv 0 = lv := rfl
theorem zq_klS (lv : zi_L) (i : Nat) : zi_kl lv (i + 1) = if zi_isL (zi_get lv i) = true then zi_put lv i none else lv := rfl
theorem zq_Ln : zi_isL none = false := rfl
theorem zq_Li (x : Int32) : zi_isL (some (.int x)) = false := rfl
theorem zq_Lr (x : Nat) : zi_isL (some (.ref x)) = false := rfl
theorem zq_Lf (x : UInt32) : zi_isL (some (.float x)) = false := rfl
theorem zq_Lz : zi_isL (some .null) = false := rfl
theorem zq_Ll (x : Int64) : zi_isL (some (.long x)) = true := rfl
theorem zq_ft0 (n : Nat) : zi_fit [] n = true := rfl
theorem zq_fti (x : Int32) (t : List Value) (n : Nat) : zi_fit (.int x :: t) (n + 1) = zi_fit t n := rfl
theorem zq_ftr (x : Nat) (t : List Value) (n : Nat) : zi_fit (.ref x :: t) (n + 1) = zi_fit t n := rfl
theorem zq_ftz (t : List Value) (n : Nat) : zi_fit (.null :: t) (n + 1) = zi_fit t n := rfl
theorem zq_ftf (x : UInt32) (t : List Value) (n : Nat) : zi_fit (.float x :: t) (n + 1) = zi_fit t n := rfl
theorem zq_ftl (x : Int64) (t : List Value) (n : Nat) : zi_fit (.long x :: t) (n + 2) = zi_fit t n := rfl
theorem zq_pop0 (acc st : List Value) : zi_pop 0 acc st = some (acc, st) := rfl
theorem zq_popS (n : Nat) (acc st : List Value) (v : Value) : zi_pop (n + 1) acc (v :: st) = zi_pop n (v :: acc) st := rfl
theorem zq_la0 : zi_la [] = [] := rfl
theorem zq_lai (x : Int32) (t : List Value) : zi_la (.int x :: t) = some (.int x) :: zi_la t := rfl
theorem zq_lar (x : Nat) (t : List Value) : zi_la (.ref x :: t) = some (.ref x) :: zi_la t := rfl
theorem zq_laz (t : List Value) : zi_la (.null :: t) = some .null :: zi_la t := rfl
theorem zq_laf (x : UInt32) (t : List Value) : zi_la (.float x :: t) = some (.float x) :: zi_la t := rfl
theorem zq_lal (x : Int64) (t : List Value) : zi_la (.long x :: t) = some (.long x) :: none :: zi_la t := rfl
theorem zq_sh0 : zi_sh [] = true := rfl
theorem zq_sh1 (a : Value) : zi_sh [a] = true := rfl
theorem zq_sh2 (a b : Value) : zi_sh [a, b] = true := rfl
theorem zq_sh3 (a b c : Value) : zi_sh [a, b, c] = true := rfl
theorem zq_sh4 (a b c d : Value) : zi_sh [a, b, c, d] = true := rfl
theorem zq_f0 : (0 : Fin 4).val = 0 := rfl
theorem zq_f1 : (1 : Fin 4).val = 1 := rfl
theorem zq_f2 : (2 : Fin 4).val = 2 := rfl
theorem zq_f3 : (3 : Fin 4).val = 3 := rfl
theorem zq_u0 : (UInt32.ofNat 0).toNat = 0 := rfl
theorem zq_u1 : (UInt32.ofNat 1).toNat = 1 := rfl
theorem zq_u2 : (UInt32.ofNat 2).toNat = 2 := rfl
theorem zq_ro0 (sc : Nat × (Nat → Int32)) : zi_ro sc 0 = (5, zi_U) := rfl
theorem zq_ro1 (sc : Nat × (Nat → Int32)) : zi_ro sc 1 = (5, zi_K) := rfl
theorem zq_ro2 (sc : Nat × (Nat → Int32)) : zi_ro sc 2 = sc := rfl
theorem zq_fv0 (x : Int32) (r : Option Nat) : zi_fv 0 x r = .int x := rfl
theorem zq_fv2 (x : Int32) (r : Option Nat) : zi_fv 2 x r = va_rf r := rfl
theorem zq_rfs (n : Nat) : va_rf (some n) = .ref n := rfl
theorem zq_rfn : va_rf none = .null := rfl
theorem zq_gD0 (a : Nat) (l : List Nat) : (a :: l).getD 0 0 = a := rfl
theorem zq_gDS (a n : Nat) (l : List Nat) : (a :: l).getD (n + 1) 0 = l.getD n 0 := rfl
theorem zq_gDN (n : Nat) : ([] : List Nat).getD n 0 = 0 := rfl
theorem zq_lk0 (d : Nat) (x : Int32) : zi_lk d x [] [] = d := rfl
theorem zq_lkS (d : Nat) (x : Int32) (q : Int × Int) (ps : List (Int × Int)) (t : Nat) (ts : List Nat) : zi_lk d x (q :: ps) (t :: ts) = if x = Int32.ofInt q.1 then t else zi_lk d x ps ts := rfl
theorem zq_tb0 (key : Int32) (d : Nat) (x : Int32) : zi_tb key d x [] = d := rfl
theorem zq_tbS (key : Int32) (d : Nat) (x : Int32) (t : Nat) (ts : List Nat) : zi_tb key d x (t :: ts) = if x = key then t else zi_tb (key + 1) d x ts := rfl
theorem zq_o0 : Int32.ofInt 0 = 0 := rfl
theorem zq_o1 : Int32.ofInt 1 = 1 := rfl
theorem zq_o2 : Int32.ofInt 2 = 2 := rfl
theorem zq_o98 : Int32.ofInt 98 = 98 := rfl
theorem zq_o99 : Int32.ofInt 99 = 99 := rfl
theorem zq_o100 : Int32.ofInt 100 = 100 := rfl
theorem zq_o105 : Int32.ofInt 105 = 105 := rfl
theorem zq_o107 : Int32.ofInt 107 = 107 := rfl
theorem zq_o112 : Int32.ofInt 112 = 112 := rfl
theorem zq_o115 : Int32.ofInt 115 = 115 := rfl
theorem zq_o116 : Int32.ofInt 116 = 116 := rfl
theorem zq_c0 : (0 : Int32).toNatClampNeg = 0 := rfl
theorem zq_c1 : (1 : Int32).toNatClampNeg = 1 := rfl
theorem zq_v0 (n : Nat) : zi_vin 0 (n + 1) = true := by simp [zi_vin]
theorem zq_v1 (n : Nat) : zi_vin 1 (n + 2) = true := by simp [zi_vin, zq_c1]
end
section
/-! blocks as equations; the memory behind the constructors (by program) -/
theorem zb_9_1 (sc : Nat × (Nat → Int32)) (cu su : Nat) (h : cu ≤ 600000 ∧ su ≤ 7302250) (lv : zi_L) (st : List Value) (M : zi_M) (Q : Option Value → zi_M → Prop) : zi_B sc cu su 9 1 lv st M Q = zi_wp sc cu su 9 Q zc_9_1 lv st M := zi_blk zc_9_1 rfl h rfl lv st M Q
theorem zb_9_2 (sc : Nat × (Nat → Int32)) (cu su : Nat) (h : cu ≤ 600000 ∧ su ≤ 7302250) (lv : zi_L) (st : List Value) (M : zi_M) (Q : Option Value → zi_M → Prop) : zi_B sc cu su 9 2 lv st M Q = zi_wp sc cu su 9 Q zc_9_2 lv st M := zi_blk zc_9_2 rfl h rfl lv st M Q
theorem zb_9_3 (sc : Nat × (Nat → Int32)) (cu su : Nat) (h : cu ≤ 600000 ∧ su ≤ 7302250) (lv : zi_L) (st : List Value) (M : zi_M) (Q : Option Value → zi_M → Prop) : zi_B sc cu su 9 3 lv st M Q = zi_wp sc cu su 9 Q zc_9_3 lv st M := zi_blk zc_9_3 rfl h rfl lv st M Q
theorem zb_9_4 (sc : Nat × (Nat → Int32)) (cu su : Nat) (h : cu ≤ 600000 ∧ su ≤ 7302250) (lv : zi_L) (st : List Value) (M : zi_M) (Q : Option Value → zi_M → Prop) : zi_B sc cu su 9 4 lv st M Q = zi_wp sc cu su 9 Q zc_9_4 lv st M := zi_blk zc_9_4 rfl h rfl lv st M Q
theorem zb_9_5 (sc : Nat × (Nat → Int32)) (cu su : Nat) (h : cu ≤ 600000 ∧ su ≤ 7302250) (lv : zi_L) (st : List Value) (M : zi_M) (Q : Option Value → zi_M → Prop) : zi_B sc cu su 9 5 lv st M Q = zi_wp sc cu su 9 Q zc_9_5 lv st M := zi_blk zc_9_5 rfl h rfl lv st M Q
theorem zb_9_6 (sc : Nat × (Nat → Int32)) (cu su : Nat) (h : cu ≤ 600000 ∧ su ≤ 7302250) (lv : zi_L) (st : List Value) (M : zi_M) (Q : Option Value → zi_M → Prop) : zi_B sc cu su 9 6 lv st M Q = zi_wp sc cu su 9 Q zc_9_6 lv st M := zi_blk zc_9_6 rfl h rfl lv st M Q
theorem zb_9_7 (sc : Nat × (Nat → Int32)) (cu su : Nat) (h : cu ≤ 600000 ∧ su ≤ 7302250) (lv : zi_L) (st : List Value) (M : zi_M) (Q : Option Value → zi_M → Prop) : zi_B sc cu su 9 7 lv st M Q = zi_wp sc cu su 9 Q zc_9_7 lv st M := zi_blk zc_9_7 rfl h rfl lv st M Q
theorem zb_9_8 (sc : Nat × (Nat → Int32)) (cu su : Nat) (h : cu ≤ 600000 ∧ su ≤ 7302250) (lv : zi_L) (st : List Value) (M : zi_M) (Q : Option Value → zi_M → Prop) : zi_B sc cu su 9 8 lv st M Q = zi_wp sc cu su 9 Q zc_9_8 lv st M := zi_blk zc_9_8 rfl h rfl lv st M Q
theorem zb_9_9 (sc : Nat × (Nat → Int32)) (cu su : Nat) (h : cu ≤ 600000 ∧ su ≤ 7302250) (lv : zi_L) (st : List Value) (M : zi_M) (Q : Option Value → zi_M → Prop) : zi_B sc cu su 9 9 lv st M Q = zi_wp sc cu su 9 Q zc_9_9 lv st M := zi_blk zc_9_9 rfl h rfl lv st M Q
theorem zb_9_10 (sc : Nat × (Nat → Int32)) (cu su : Nat) (h : cu ≤ 600000 ∧ su ≤ 7302250) (lv : zi_L) (st : List Value) (M : zi_M) (Q : Option Value → zi_M → Prop) : zi_B sc cu su 9 10 lv st M Q = zi_wp sc cu su 9 Q zc_9_10 lv st M := zi_blk zc_9_10 rfl h rfl lv st M Q
theorem zb_9_11 (sc : Nat × (Nat → Int32)) (cu su : Nat) (h : cu ≤ 600000 ∧ su ≤ 7302250) (lv : zi_L) (st : List Value) (M : zi_M) (Q : Option Value → zi_M → Prop) : zi_B sc cu su 9 11 lv st M Q = zi_wp sc cu su 9 Q zc_9_11 lv st M := zi_blk zc_9_11 rfl h rfl lv st M Q
theorem zb_9_12 (sc : Nat × (Nat → Int32)) (cu su : Nat) (h : cu ≤ 600000 ∧ su ≤ 7302250) (lv : zi_L) (st : List Value) (M : zi_M) (Q : Option Value → zi_M → Prop) : zi_B sc cu su 9 12 lv st M Q = zi_wp sc cu su 9 Q zc_9_12 lv st M := zi_blk zc_9_12 rfl h rfl lv st M Q
theorem zb_9_13 (sc : Nat × (Nat → Int32)) (cu su : Nat) (h : cu ≤ 600000 ∧ su ≤ 7302250) (lv : zi_L) (st : List Value) (M : zi_M) (Q : Option Value → zi_M → Prop) : zi_B sc cu su 9 13 lv st M Q = zi_wp sc cu su 9 Q zc_9_13 lv st M := zi_blk zc_9_13 rfl h rfl lv st M Q
theorem zb_9_14 (sc : Nat × (Nat → Int32)) (cu su : Nat) (h : cu ≤ 600000 ∧ su ≤ 7302250) (lv : zi_L) (st : List Value) (M : zi_M) (Q : Option Value → zi_M → Prop) : zi_B sc cu su 9 14 lv st M Q = zi_wp sc cu su 9 Q zc_9_14 lv st M := zi_blk zc_9_14 rfl h rfl lv st M Q
theorem zb_9_15 (sc : Nat × (Nat → Int32)) (cu su : Nat) (h : cu ≤ 600000 ∧ su ≤ 7302250) (lv : zi_L) (st : List Value) (M : zi_M) (Q : Option Value → zi_M → Prop) : zi_B sc cu su 9 15 lv st M Q = zi_wp sc cu su 9 Q zc_9_15 lv st M := zi_blk zc_9_15 rfl h rfl lv st M Q
theorem zb_9_16 (sc : Nat × (Nat → Int32)) (cu su : Nat) (h : cu ≤ 600000 ∧ su ≤ 7302250) (lv : zi_L) (st : List Value) (M : zi_M) (Q : Option Value → zi_M → Prop) : zi_B sc cu su 9 16 lv st M Q = zi_wp sc cu su 9 Q zc_9_16 lv st M := zi_blk zc_9_16 rfl h rfl lv st M Q
theorem zb_9_17 (sc : Nat × (Nat → Int32)) (cu su : Nat) (h : cu ≤ 600000 ∧ su ≤ 7302250) (lv : zi_L) (st : List Value) (M : zi_M) (Q : Option Value → zi_M → Prop) : zi_B sc cu su 9 17 lv st M Q = zi_wp sc cu su 9 Q zc_9_17 lv st M := zi_blk zc_9_17 rfl h rfl lv st M Q
theorem zb_9_18 (sc : Nat × (Nat → Int32)) (cu su : Nat) (h : cu ≤ 600000 ∧ su ≤ 7302250) (lv : zi_L) (st : List Value) (M : zi_M) (Q : Option Value → zi_M → Prop) : zi_B sc cu su 9 18 lv st M Q = zi_wp sc cu su 9 Q zc_9_18 lv st M := zi_blk zc_9_18 rfl h rfl lv st M Q
theorem zb_9_19 (sc : Nat × (Nat → Int32)) (cu su : Nat) (h : cu ≤ 600000 ∧ su ≤ 7302250) (lv : zi_L) (st : List Value) (M : zi_M) (Q : Option Value → zi_M → Prop) : zi_B sc cu su 9 19 lv st M Q = zi_wp sc cu su 9 Q zc_9_19 lv st M := zi_blk zc_9_19 rfl h rfl lv st M Q
theorem zb_9_20 (sc : Nat × (Nat → Int32)) (cu su : Nat) (h : cu ≤ 600000 ∧ su ≤ 7302250) (lv : zi_L) (st : List Value) (M : zi_M) (Q : Option Value → zi_M → Prop) : zi_B sc cu su 9 20 lv st M Q = zi_wp sc cu su 9 Q zc_9_20 lv st M := zi_blk zc_9_20 rfl h rfl lv st M Q
theorem zb_9_21 (sc : Nat × (Nat → Int32)) (cu su : Nat) (h : cu ≤ 600000 ∧ su ≤ 7302250) (lv : zi_L) (st : List Value) (M : zi_M) (Q : Option Value → zi_M → Prop) : zi_B sc cu su 9 21 lv st M Q = zi_wp sc cu su 9 Q zc_9_21 lv st M := zi_blk zc_9_21 rfl h rfl lv st M Q
theorem zb_9_22 (sc : Nat × (Nat → Int32)) (cu su : Nat) (h : cu ≤ 600000 ∧ su ≤ 7302250) (lv : zi_L) (st : List Value) (M : zi_M) (Q : Option Value → zi_M → Prop) : zi_B sc cu su 9 22 lv st M Q = zi_wp sc cu su 9 Q zc_9_22 lv st M := zi_blk zc_9_22 rfl h rfl lv st M Q
theorem zb_9_23 (sc : Nat × (Nat → Int32)) (cu su : Nat) (h : cu ≤ 600000 ∧ su ≤ 7302250) (lv : zi_L) (st : List Value) (M : zi_M) (Q : Option Value → zi_M → Prop) : zi_B sc cu su 9 23 lv st M Q = zi_wp sc cu su 9 Q zc_9_23 lv st M := zi_blk zc_9_23 rfl h rfl lv st M Q
theorem zb_9_24 (sc : Nat × (Nat → Int32)) (cu su : Nat) (h : cu ≤ 600000 ∧ su ≤ 7302250) (lv : zi_L) (st : List Value) (M : zi_M) (Q : Option Value → zi_M → Prop) : zi_B sc cu su 9 24 lv st M Q = zi_wp sc cu su 9 Q zc_9_24 lv st M := zi_blk zc_9_24 rfl h rfl lv st M Q
theorem zb_9_25 (sc : Nat × (Nat → Int32)) (cu su : Nat) (h : cu ≤ 600000 ∧ su ≤ 7302250) (lv : zi_L) (st : List Value) (M : zi_M) (Q : Option Value → zi_M → Prop) : zi_B sc cu su 9 25 lv st M Q = zi_wp sc cu su 9 Q zc_9_25 lv st M := zi_blk zc_9_25 rfl h rfl lv st M Q
theorem zb_9_26 (sc : Nat × (Nat → Int32)) (cu su : Nat) (h : cu ≤ 600000 ∧ su ≤ 7302250) (lv : zi_L) (st : List Value) (M : zi_M) (Q : Option Value → zi_M → Prop) : zi_B sc cu su 9 26 lv st M Q = zi_wp sc cu su 9 Q zc_9_26 lv st M := zi_blk zc_9_26 rfl h rfl lv st M Q
theorem zb_9_27 (sc : Nat × (Nat → Int32)) (cu su : Nat) (h : cu ≤ 600000 ∧ su ≤ 7302250) (lv : zi_L) (st : List Value) (M : zi_M) (Q : Option Value → zi_M → Prop) : zi_B sc cu su 9 27 lv st M Q = zi_wp sc cu su 9 Q zc_9_27 lv st M := zi_blk zc_9_27 rfl h rfl lv st M Q
theorem zb_9_28 (sc : Nat × (Nat → Int32)) (cu su : Nat) (h : cu ≤ 600000 ∧ su ≤ 7302250) (lv : zi_L) (st : List Value) (M : zi_M) (Q : Option Value → zi_M → Prop) : zi_B sc cu su 9 28 lv st M Q = zi_wp sc cu su 9 Q zc_9_28 lv st M := zi_blk zc_9_28 rfl h rfl lv st M Q
theorem zb_9_29 (sc : Nat × (Nat → Int32)) (cu su : Nat) (h : cu ≤ 600000 ∧ su ≤ 7302250) (lv : zi_L) (st : List Value) (M : zi_M) (Q : Option Value → zi_M → Prop) : zi_B sc cu su 9 29 lv st M Q = zi_wp sc cu su 9 Q zc_9_29 lv st M := zi_blk zc_9_29 rfl h rfl lv st M Q
theorem zb_9_30 (sc : Nat × (Nat → Int32)) (cu su : Nat) (h : cu ≤ 600000 ∧ su ≤ 7302250) (lv : zi_L) (st : List Value) (M : zi_M) (Q : Option Value → zi_M → Prop) : zi_B sc cu su 9 30 lv st M Q = zi_wp sc cu su 9 Q zc_9_30 lv st M := zi_blk zc_9_30 rfl h rfl lv st M Q
theorem zb_9_31 (sc : Nat × (Nat → Int32)) (cu su : Nat) (h : cu ≤ 600000 ∧ su ≤ 7302250) (lv : zi_L) (st : List Value) (M : zi_M) (Q : Option Value → zi_M → Prop) : zi_B sc cu su 9 31 lv st M Q = zi_wp sc cu su 9 Q zc_9_31 lv st M := zi_blk zc_9_31 rfl h rfl lv st M Q
theorem zb_9_32 (sc : Nat × (Nat → Int32)) (cu su : Nat) (h : cu ≤ 600000 ∧ su ≤ 7302250) (lv : zi_L) (st : List Value) (M : zi_M) (Q : Option Value → zi_M → Prop) : zi_B sc cu su 9 32 lv st M Q = zi_wp sc cu su 9 Q zc_9_32 lv st M := zi_blk zc_9_32 rfl h rfl lv st M Q
theorem zb_10_0 (sc : Nat × (Nat → Int32)) (lv : zi_L) (st : List Value) (M : zi_M) (Q : Option Value → zi_M → Prop) : zi_B sc 0 0 10 0 lv st M Q = zi_wp sc 0 0 10 Q zc_10_0 lv st M := zi_blk zc_10_0 rfl ⟨Nat.zero_le _, Nat.zero_le _⟩ rfl lv st M Q
theorem zb_10_1 (sc : Nat × (Nat → Int32)) (lv : zi_L) (st : List Value) (M : zi_M) (Q : Option Value → zi_M → Prop) : zi_B sc 0 0 10 1 lv st M Q = zi_wp sc 0 0 10 Q zc_10_1 lv st M := zi_blk zc_10_1 rfl ⟨Nat.zero_le _, Nat.zero_le _⟩ rfl lv st M Q
theorem zb_10_2 (sc : Nat × (Nat → Int32)) (lv : zi_L) (st : List Value) (M : zi_M) (Q : Option Value → zi_M → Prop) : zi_B sc 0 0 10 2 lv st M Q = zi_wp sc 0 0 10 Q zc_10_2 lv st M := zi_blk zc_10_2 rfl ⟨Nat.zero_le _, Nat.zero_le _⟩ rfl lv st M Q
theorem zb_11_0 (sc : Nat × (Nat → Int32)) (lv : zi_L) (st : List Value) (M : zi_M) (Q : Option Value → zi_M → Prop) : zi_B sc 0 0 11 0 lv st M Q = zi_wp sc 0 0 11 Q zc_11_0 lv st M := zi_blk zc_11_0 rfl ⟨Nat.zero_le _, Nat.zero_le _⟩ rfl lv st M Q
theorem zb_11_1 (sc : Nat × (Nat → Int32)) (lv : zi_L) (st : List Value) (M : zi_M) (Q : Option Value → zi_M → Prop) : zi_B sc 0 0 11 1 lv st M Q = zi_wp sc 0 0 11 Q zc_11_1 lv st M := zi_blk zc_11_1 rfl ⟨Nat.zero_le _, Nat.zero_le _⟩ rfl lv st M Q
theorem zb_11_2 (sc : Nat × (Nat → Int32)) (lv : zi_L) (st : List Value) (M : zi_M) (Q : Option Value → zi_M → Prop) : zi_B sc 0 0 11 2 lv st M Q = zi_wp sc 0 0 11 Q zc_11_2 lv st M := zi_blk zc_11_2 rfl ⟨Nat.zero_le _, Nat.zero_le _⟩ rfl lv st M Q
theorem zb_12_0 (sc : Nat × (Nat → Int32)) (lv : zi_L) (st : List Value) (M : zi_M) (Q : Option Value → zi_M → Prop) : zi_B sc 0 0 12 0 lv st M Q = zi_wp sc 0 0 12 Q zc_12_0 lv st M := zi_blk zc_12_0 rfl ⟨Nat.zero_le _, Nat.zero_le _⟩ rfl lv st M Q
theorem zb_12_1 (sc : Nat × (Nat → Int32)) (lv : zi_L) (st : List Value) (M : zi_M) (Q : Option Value → zi_M → Prop) : zi_B sc 0 0 12 1 lv st M Q = zi_wp sc 0 0 12 Q zc_12_1 lv st M := zi_blk zc_12_1 rfl ⟨Nat.zero_le _, Nat.zero_le _⟩ rfl lv st M Q
theorem zb_12_2 (sc : Nat × (Nat → Int32)) (lv : zi_L) (st : List Value) (M : zi_M) (Q : Option Value → zi_M → Prop) : zi_B sc 0 0 12 2 lv st M Q = zi_wp sc 0 0 12 Q zc_12_2 lv st M := zi_blk zc_12_2 rfl ⟨Nat.zero_le _, Nat.zero_le _⟩ rfl lv st M Q
theorem zb_12_3 (sc : Nat × (Nat → Int32)) (lv : zi_L) (st : List Value) (M : zi_M) (Q : Option Value → zi_M → Prop) : zi_B sc 0 0 12 3 lv st M Q = zi_wp sc 0 0 12 Q zc_12_3 lv st M := zi_blk zc_12_3 rfl ⟨Nat.zero_le _, Nat.zero_le _⟩ rfl lv st M Q
theorem zb_12_4 (sc : Nat × (Nat → Int32)) (lv : zi_L) (st : List Value) (M : zi_M) (Q : Option Value → zi_M → Prop) : zi_B sc 0 0 12 4 lv st M Q = zi_wp sc 0 0 12 Q zc_12_4 lv st M := zi_blk zc_12_4 rfl ⟨Nat.zero_le _, Nat.zero_le _⟩ rfl lv st M Q
theorem zb_13_0 (sc : Nat × (Nat → Int32)) (lv : zi_L) (st : List Value) (M : zi_M) (Q : Option Value → zi_M → Prop) : zi_B sc 0 0 13 0 lv st M Q = zi_wp sc 0 0 13 Q zc_13_0 lv st M := zi_blk zc_13_0 rfl ⟨Nat.zero_le _, Nat.zero_le _⟩ rfl lv st M Q
theorem zb_13_1 (sc : Nat × (Nat → Int32)) (lv : zi_L) (st : List Value) (M : zi_M) (Q : Option Value → zi_M → Prop) : zi_B sc 0 0 13 1 lv st M Q = zi_wp sc 0 0 13 Q zc_13_1 lv st M := zi_blk zc_13_1 rfl ⟨Nat.zero_le _, Nat.zero_le _⟩ rfl lv st M Q
theorem zb_13_2 (sc : Nat × (Nat → Int32)) (lv : zi_L) (st : List Value) (M : zi_M) (Q : Option Value → zi_M → Prop) : zi_B sc 0 0 13 2 lv st M Q = zi_wp sc 0 0 13 Q zc_13_2 lv st M := zi_blk zc_13_2 rfl ⟨Nat.zero_le _, Nat.zero_le _⟩ rfl lv st M Q
theorem zb_13_3 (sc : Nat × (Nat → Int32)) (lv : zi_L) (st : List Value) (M : zi_M) (Q : Option Value → zi_M → Prop) : zi_B sc 0 0 13 3 lv st M Q = zi_wp sc 0 0 13 Q zc_13_3 lv st M := zi_blk zc_13_3 rfl ⟨Nat.zero_le _, Nat.zero_le _⟩ rfl lv st M Q
theorem zb_13_4 (sc : Nat × (Nat → Int32)) (lv : zi_L) (st : List Value) (M : zi_M) (Q : Option Value → zi_M → Prop) : zi_B sc 0 0 13 4 lv st M Q = zi_wp sc 0 0 13 Q zc_13_4 lv st M := zi_blk zc_13_4 rfl ⟨Nat.zero_le _, Nat.zero_le _⟩ rfl lv st M Q
theorem zb_13_5 (sc : Nat × (Nat → Int32)) (lv : zi_L) (st : List Value) (M : zi_M) (Q : Option Value → zi_M → Prop) : zi_B sc 0 0 13 5 lv st M Q = zi_wp sc 0 0 13 Q zc_13_5 lv st M := zi_blk zc_13_5 rfl ⟨Nat.zero_le _, Nat.zero_le _⟩ rfl lv st M Q
theorem zb_13_6 (sc : Nat × (Nat → Int32)) (lv : zi_L) (st : List Value) (M : zi_M) (Q : Option Value → zi_M → Prop) : zi_B sc 0 0 13 6 lv st M Q = zi_wp sc 0 0 13 Q zc_13_6 lv st M := zi_blk zc_13_6 rfl ⟨Nat.zero_le _, Nat.zero_le _⟩ rfl lv st M Q
theorem zb_13_7 (sc : Nat × (Nat → Int32)) (lv : zi_L) (st : List Value) (M : zi_M) (Q : Option Value → zi_M → Prop) : zi_B sc 0 0 13 7 lv st M Q = zi_wp sc 0 0 13 Q zc_13_7 lv st M := zi_blk zc_13_7 rfl ⟨Nat.zero_le _, Nat.zero_le _⟩ rfl lv st M Q
theorem zb_13_8 (sc : Nat × (Nat → Int32)) (lv : zi_L) (st : List Value) (M : zi_M) (Q : Option Value → zi_M → Prop) : zi_B sc 0 0 13 8 lv st M Q = zi_wp sc 0 0 13 Q zc_13_8 lv st M := zi_blk zc_13_8 rfl ⟨Nat.zero_le _, Nat.zero_le _⟩ rfl lv st M Q
theorem zb_14_0 (sc : Nat × (Nat → Int32)) (lv : zi_L) (st : List Value) (M : zi_M) (Q : Option Value → zi_M → Prop) : zi_B sc 0 0 14 0 lv st M Q = zi_wp sc 0 0 14 Q zc_14_0 lv st M := zi_blk zc_14_0 rfl ⟨Nat.zero_le _, Nat.zero_le _⟩ rfl lv st M Q
theorem zb_14_1 (sc : Nat × (Nat → Int32)) (lv : zi_L) (st : List Value) (M : zi_M) (Q : Option Value → zi_M → Prop) : zi_B sc 0 0 14 1 lv st M Q = zi_wp sc 0 0 14 Q zc_14_1 lv st M := zi_blk zc_14_1 rfl ⟨Nat.zero_le _, Nat.zero_le _⟩ rfl lv st M Q
theorem zb_14_2 (sc : Nat × (Nat → Int32)) (lv : zi_L) (st : List Value) (M : zi_M) (Q : Option Value → zi_M → Prop) : zi_B sc 0 0 14 2 lv st M Q = zi_wp sc 0 0 14 Q zc_14_2 lv st M := zi_blk zc_14_2 rfl ⟨Nat.zero_le _, Nat.zero_le _⟩ rfl lv st M Q
theorem zb_14_3 (sc : Nat × (Nat → Int32)) (lv : zi_L) (st : List Value) (M : zi_M) (Q : Option Value → zi_M → Prop) : zi_B sc 0 0 14 3 lv st M Q = zi_wp sc 0 0 14 Q zc_14_3 lv st M := zi_blk zc_14_3 rfl ⟨Nat.zero_le _, Nat.zero_le _⟩ rfl lv st M Q
theorem zb_14_4 (sc : Nat × (Nat → Int32)) (lv : zi_L) (st : List Value) (M : zi_M) (Q : Option Value → zi_M → Prop) : zi_B sc 0 0 14 4 lv st M Q = zi_wp sc 0 0 14 Q zc_14_4 lv st M := zi_blk zc_14_4 rfl ⟨Nat.zero_le _, Nat.zero_le _⟩ rfl lv st M Q
theorem zb_14_5 (sc : Nat × (Nat → Int32)) (lv : zi_L) (st : List Value) (M : zi_M) (Q : Option Value → zi_M → Prop) : zi_B sc 0 0 14 5 lv st M Q = zi_wp sc 0 0 14 Q zc_14_5 lv st M := zi_blk zc_14_5 rfl ⟨Nat.zero_le _, Nat.zero_le _⟩ rfl lv st M Q
theorem zb_14_6 (sc : Nat × (Nat → Int32)) (lv : zi_L) (st : List Value) (M : zi_M) (Q : Option Value → zi_M → Prop) : zi_B sc 0 0 14 6 lv st M Q = zi_wp sc 0 0 14 Q zc_14_6 lv st M := zi_blk zc_14_6 rfl ⟨Nat.zero_le _, Nat.zero_le _⟩ rfl lv st M Q
theorem zb_14_7 (sc : Nat × (Nat → Int32)) (lv : zi_L) (st : List Value) (M : zi_M) (Q : Option Value → zi_M → Prop) : zi_B sc 0 0 14 7 lv st M Q = zi_wp sc 0 0 14 Q zc_14_7 lv st M := zi_blk zc_14_7 rfl ⟨Nat.zero_le _, Nat.zero_le _⟩ rfl lv st M Q
theorem zb_14_8 (sc : Nat × (Nat → Int32)) (lv : zi_L) (st : List Value) (M : zi_M) (Q : Option Value → zi_M → Prop) : zi_B sc 0 0 14 8 lv st M Q = zi_wp sc 0 0 14 Q zc_14_8 lv st M := zi_blk zc_14_8 rfl ⟨Nat.zero_le _, Nat.zero_le _⟩ rfl lv st M Q
theorem zb_15_0 (sc : Nat × (Nat → Int32)) (lv : zi_L) (st : List Value) (M : zi_M) (Q : Option Value → zi_M → Prop) : zi_B sc 0 0 15 0 lv st M Q = zi_wp sc 0 0 15 Q zc_15_0 lv st M := zi_blk zc_15_0 rfl ⟨Nat.zero_le _, Nat.zero_le _⟩ rfl lv st M Q
theorem zb_15_1 (sc : Nat × (Nat → Int32)) (lv : zi_L) (st : List Value) (M : zi_M) (Q : Option Value → zi_M → Prop) : zi_B sc 0 0 15 1 lv st M Q = zi_wp sc 0 0 15 Q zc_15_1 lv st M := zi_blk zc_15_1 rfl ⟨Nat.zero_le _, Nat.zero_le _⟩ rfl lv st M Q
theorem zb_15_2 (sc : Nat × (Nat → Int32)) (lv : zi_L) (st : List Value) (M : zi_M) (Q : Option Value → zi_M → Prop) : zi_B sc 0 0 15 2 lv st M Q = zi_wp sc 0 0 15 Q zc_15_2 lv st M := zi_blk zc_15_2 rfl ⟨Nat.zero_le _, Nat.zero_le _⟩ rfl lv st M Q
theorem zb_16_0 (sc : Nat × (Nat → Int32)) (lv : zi_L) (st : List Value) (M : zi_M) (Q : Option Value → zi_M → Prop) : zi_B sc 0 0 16 0 lv st M Q = zi_wp sc 0 0 16 Q zc_16_0 lv st M := zi_blk zc_16_0 rfl ⟨Nat.zero_le _, Nat.zero_le _⟩ rfl lv st M Q
theorem zb_16_1 (sc : Nat × (Nat → Int32)) (lv : zi_L) (st : List Value) (M : zi_M) (Q : Option Value → zi_M → Prop) : zi_B sc 0 0 16 1 lv st M Q = zi_wp sc 0 0 16 Q zc_16_1 lv st M := zi_blk zc_16_1 rfl ⟨Nat.zero_le _, Nat.zero_le _⟩ rfl lv st M Q
theorem zb_16_2 (sc : Nat × (Nat → Int32)) (lv : zi_L) (st : List Value) (M : zi_M) (Q : Option Value → zi_M → Prop) : zi_B sc 0 0 16 2 lv st M Q = zi_wp sc 0 0 16 Q zc_16_2 lv st M := zi_blk zc_16_2 rfl ⟨Nat.zero_le _, Nat.zero_le _⟩ rfl lv st M Q
theorem zb_17_0 (sc : Nat × (Nat → Int32)) (lv : zi_L) (st : List Value) (M : zi_M) (Q : Option Value → zi_M → Prop) : zi_B sc 0 0 17 0 lv st M Q = zi_wp sc 0 0 17 Q zc_17_0 lv st M := zi_blk zc_17_0 rfl ⟨Nat.zero_le _, Nat.zero_le _⟩ rfl lv st M Q
theorem zb_17_1 (sc : Nat × (Nat → Int32)) (lv : zi_L) (st : List Value) (M : zi_M) (Q : Option Value → zi_M → Prop) : zi_B sc 0 0 17 1 lv st M Q = zi_wp sc 0 0 17 Q zc_17_1 lv st M := zi_blk zc_17_1 rfl ⟨Nat.zero_le _, Nat.zero_le _⟩ rfl lv st M Q
theorem zb_17_2 (sc : Nat × (Nat → Int32)) (lv : zi_L) (st : List Value) (M : zi_M) (Q : Option Value → zi_M → Prop) : zi_B sc 0 0 17 2 lv st M Q = zi_wp sc 0 0 17 Q zc_17_2 lv st M := zi_blk zc_17_2 rfl ⟨Nat.zero_le _, Nat.zero_le _⟩ rfl lv st M Q
theorem zb_18_0 (sc : Nat × (Nat → Int32)) (lv : zi_L) (st : List Value) (M : zi_M) (Q : Option Value → zi_M → Prop) : zi_B sc 0 0 18 0 lv st M Q = zi_wp sc 0 0 18 Q zc_18_0 lv st M := zi_blk zc_18_0 rfl ⟨Nat.zero_le _, Nat.zero_le _⟩ rfl lv st M Q
theorem zb_18_1 (sc : Nat × (Nat → Int32)) (lv : zi_L) (st : List Value) (M : zi_M) (Q : Option Value → zi_M → Prop) : zi_B sc 0 0 18 1 lv st M Q = zi_wp sc 0 0 18 Q zc_18_1 lv st M := zi_blk zc_18_1 rfl ⟨Nat.zero_le _, Nat.zero_le _⟩ rfl lv st M Q
theorem zb_18_2 (sc : Nat × (Nat → Int32)) (lv : zi_L) (st : List Value) (M : zi_M) (Q : Option Value → zi_M → Prop) : zi_B sc 0 0 18 2 lv st M Q = zi_wp sc 0 0 18 Q zc_18_2 lv st M := zi_blk zc_18_2 rfl ⟨Nat.zero_le _, Nat.zero_le _⟩ rfl lv st M Q
theorem zb_19_0 (sc : Nat × (Nat → Int32)) (lv : zi_L) (st : List Value) (M : zi_M) (Q : Option Value → zi_M → Prop) : zi_B sc 0 0 19 0 lv st M Q = zi_wp sc 0 0 19 Q zc_19_0 lv st M := zi_blk zc_19_0 rfl ⟨Nat.zero_le _, Nat.zero_le _⟩ rfl lv st M Q
theorem zb_19_1 (sc : Nat × (Nat → Int32)) (lv : zi_L) (st : List Value) (M : zi_M) (Q : Option Value → zi_M → Prop) : zi_B sc 0 0 19 1 lv st M Q = zi_wp sc 0 0 19 Q zc_19_1 lv st M := zi_blk zc_19_1 rfl ⟨Nat.zero_le _, Nat.zero_le _⟩ rfl lv st M Q
theorem zb_19_2 (sc : Nat × (Nat → Int32)) (lv : zi_L) (st : List Value) (M : zi_M) (Q : Option Value → zi_M → Prop) : zi_B sc 0 0 19 2 lv st M Q = zi_wp sc 0 0 19 Q zc_19_2 lv st M := zi_blk zc_19_2 rfl ⟨Nat.zero_le _, Nat.zero_le _⟩ rfl lv st M Q
theorem zb_20_0 (sc : Nat × (Nat → Int32)) (lv : zi_L) (st : List Value) (M : zi_M) (Q : Option Value → zi_M → Prop) : zi_B sc 0 0 20 0 lv st M Q = zi_wp sc 0 0 20 Q zc_20_0 lv st M := zi_blk zc_20_0 rfl ⟨Nat.zero_le _, Nat.zero_le _⟩ rfl lv st M Q
theorem zb_20_1 (sc : Nat × (Nat → Int32)) (lv : zi_L) (st : List Value) (M : zi_M) (Q : Option Value → zi_M → Prop) : zi_B sc 0 0 20 1 lv st M Q = zi_wp sc 0 0 20 Q zc_20_1 lv st M := zi_blk zc_20_1 rfl ⟨Nat.zero_le _, Nat.zero_le _⟩ rfl lv st M Q
theorem zb_20_2 (sc : Nat × (Nat → Int32)) (lv : zi_L) (st : List Value) (M : zi_M) (Q : Option Value → zi_M → Prop) : zi_B sc 0 0 20 2 lv st M Q = zi_wp sc 0 0 20 Q zc_20_2 lv st M := zi_blk zc_20_2 rfl ⟨Nat.zero_le _, Nat.zero_le _⟩ rfl lv st M Q
theorem zb_20_3 (sc : Nat × (Nat → Int32)) (lv : zi_L) (st : List Value) (M : zi_M) (Q : Option Value → zi_M → Prop) : zi_B sc 0 0 20 3 lv st M Q = zi_wp sc 0 0 20 Q zc_20_3 lv st M := zi_blk zc_20_3 rfl ⟨Nat.zero_le _, Nat.zero_le _⟩ rfl lv st M Q
theorem zb_21_0 (sc : Nat × (Nat → Int32)) (lv : zi_L) (st : List Value) (M : zi_M) (Q : Option Value → zi_M → Prop) : zi_B sc 0 0 21 0 lv st M Q = zi_wp sc 0 0 21 Q zc_21_0 lv st M := zi_blk zc_21_0 rfl ⟨Nat.zero_le _, Nat.zero_le _⟩ rfl lv st M Q
theorem zb_21_1 (sc : Nat × (Nat → Int32)) (lv : zi_L) (st : List Value) (M : zi_M) (Q : Option Value → zi_M → Prop) : zi_B sc 0 0 21 1 lv st M Q = zi_wp sc 0 0 21 Q zc_21_1 lv st M := zi_blk zc_21_1 rfl ⟨Nat.zero_le _, Nat.zero_le _⟩ rfl lv st M Q
theorem zb_21_2 (sc : Nat × (Nat → Int32)) (lv : zi_L) (st : List Value) (M : zi_M) (Q : Option Value → zi_M → Prop) : zi_B sc 0 0 21 2 lv st M Q = zi_wp sc 0 0 21 Q zc_21_2 lv st M := zi_blk zc_21_2 rfl ⟨Nat.zero_le _, Nat.zero_le _⟩ rfl lv st M Q
theorem zb_22_0 (sc : Nat × (Nat → Int32)) (lv : zi_L) (st : List Value) (M : zi_M) (Q : Option Value → zi_M → Prop) : zi_B sc 0 0 22 0 lv st M Q = zi_wp sc 0 0 22 Q zc_22_0 lv st M := zi_blk zc_22_0 rfl ⟨Nat.zero_le _, Nat.zero_le _⟩ rfl lv st M Q
theorem zb_22_1 (sc : Nat × (Nat → Int32)) (lv : zi_L) (st : List Value) (M : zi_M) (Q : Option Value → zi_M → Prop) : zi_B sc 0 0 22 1 lv st M Q = zi_wp sc 0 0 22 Q zc_22_1 lv st M := zi_blk zc_22_1 rfl ⟨Nat.zero_le _, Nat.zero_le _⟩ rfl lv st M Q
theorem zb_22_2 (sc : Nat × (Nat → Int32)) (lv : zi_L) (st : List Value) (M : zi_M) (Q : Option Value → zi_M → Prop) : zi_B sc 0 0 22 2 lv st M Q = zi_wp sc 0 0 22 Q zc_22_2 lv st M := zi_blk zc_22_2 rfl ⟨Nat.zero_le _, Nat.zero_le _⟩ rfl lv st M Q
theorem zb_22_3 (sc : Nat × (Nat → Int32)) (lv : zi_L) (st : List Value) (M : zi_M) (Q : Option Value → zi_M → Prop) : zi_B sc 0 0 22 3 lv st M Q = zi_wp sc 0 0 22 Q zc_22_3 lv st M := zi_blk zc_22_3 rfl ⟨Nat.zero_le _, Nat.zero_le _⟩ rfl lv st M Q
theorem zb_23_0 (sc : Nat × (Nat → Int32)) (lv : zi_L) (st : List Value) (M : zi_M) (Q : Option Value → zi_M → Prop) : zi_B sc 0 0 23 0 lv st M Q = zi_wp sc 0 0 23 Q zc_23_0 lv st M := zi_blk zc_23_0 rfl ⟨Nat.zero_le _, Nat.zero_le _⟩ rfl lv st M Q
theorem zb_23_1 (sc : Nat × (Nat → Int32)) (lv : zi_L) (st : List Value) (M : zi_M) (Q : Option Value → zi_M → Prop) : zi_B sc 0 0 23 1 lv st M Q = zi_wp sc 0 0 23 Q zc_23_1 lv st M := zi_blk zc_23_1 rfl ⟨Nat.zero_le _, Nat.zero_le _⟩ rfl lv st M Q
theorem zb_23_2 (sc : Nat × (Nat → Int32)) (lv : zi_L) (st : List Value) (M : zi_M) (Q : Option Value → zi_M → Prop) : zi_B sc 0 0 23 2 lv st M Q = zi_wp sc 0 0 23 Q zc_23_2 lv st M := zi_blk zc_23_2 rfl ⟨Nat.zero_le _, Nat.zero_le _⟩ rfl lv st M Q
theorem zb_24_0 (sc : Nat × (Nat → Int32)) (lv : zi_L) (st : List Value) (M : zi_M) (Q : Option Value → zi_M → Prop) : zi_B sc 0 0 24 0 lv st M Q = zi_wp sc 0 0 24 Q zc_24_0 lv st M := zi_blk zc_24_0 rfl ⟨Nat.zero_le _, Nat.zero_le _⟩ rfl lv st M Q
theorem zb_24_1 (sc : Nat × (Nat → Int32)) (lv : zi_L) (st : List Value) (M : zi_M) (Q : Option Value → zi_M → Prop) : zi_B sc 0 0 24 1 lv st M Q = zi_wp sc 0 0 24 Q zc_24_1 lv st M := zi_blk zc_24_1 rfl ⟨Nat.zero_le _, Nat.zero_le _⟩ rfl lv st M Q
theorem zb_24_2 (sc : Nat × (Nat → Int32)) (lv : zi_L) (st : List Value) (M : zi_M) (Q : Option Value → zi_M → Prop) : zi_B sc 0 0 24 2 lv st M Q = zi_wp sc 0 0 24 Q zc_24_2 lv st M := zi_blk zc_24_2 rfl ⟨Nat.zero_le _, Nat.zero_le _⟩ rfl lv st M Q
theorem zb_24_3 (sc : Nat × (Nat → Int32)) (lv : zi_L) (st : List Value) (M : zi_M) (Q : Option Value → zi_M → Prop) : zi_B sc 0 0 24 3 lv st M Q = zi_wp sc 0 0 24 Q zc_24_3 lv st M := zi_blk zc_24_3 rfl ⟨Nat.zero_le _, Nat.zero_le _⟩ rfl lv st M Q
theorem zb_24_4 (sc : Nat × (Nat → Int32)) (lv : zi_L) (st : List Value) (M : zi_M) (Q : Option Value → zi_M → Prop) : zi_B sc 0 0 24 4 lv st M Q = zi_wp sc 0 0 24 Q zc_24_4 lv st M := zi_blk zc_24_4 rfl ⟨Nat.zero_le _, Nat.zero_le _⟩ rfl lv st M Q
theorem zb_24_5 (sc : Nat × (Nat → Int32)) (lv : zi_L) (st : List Value) (M : zi_M) (Q : Option Value → zi_M → Prop) : zi_B sc 0 0 24 5 lv st M Q = zi_wp sc 0 0 24 Q zc_24_5 lv st M := zi_blk zc_24_5 rfl ⟨Nat.zero_le _, Nat.zero_le _⟩ rfl lv st M Q
theorem zb_25_0 (sc : Nat × (Nat → Int32)) (lv : zi_L) (st : List Value) (M : zi_M) (Q : Option Value → zi_M → Prop) : zi_B sc 0 0 25 0 lv st M Q = zi_wp sc 0 0 25 Q zc_25_0 lv st M := zi_blk zc_25_0 rfl ⟨Nat.zero_le _, Nat.zero_le _⟩ rfl lv st M Q
theorem zb_25_1 (sc : Nat × (Nat → Int32)) (lv : zi_L) (st : List Value) (M : zi_M) (Q : Option Value → zi_M → Prop) : zi_B sc 0 0 25 1 lv st M Q = zi_wp sc 0 0 25 Q zc_25_1 lv st M := zi_blk zc_25_1 rfl ⟨Nat.zero_le _, Nat.zero_le _⟩ rfl lv st M Q
theorem zb_25_2 (sc : Nat × (Nat → Int32)) (lv : zi_L) (st : List Value) (M : zi_M) (Q : Option Value → zi_M → Prop) : zi_B sc 0 0 25 2 lv st M Q = zi_wp sc 0 0 25 Q zc_25_2 lv st M := zi_blk zc_25_2 rfl ⟨Nat.zero_le _, Nat.zero_le _⟩ rfl lv st M Q
theorem zb_25_3 (sc : Nat × (Nat → Int32)) (lv : zi_L) (st : List Value) (M : zi_M) (Q : Option Value → zi_M → Prop) : zi_B sc 0 0 25 3 lv st M Q = zi_wp sc 0 0 25 Q zc_25_3 lv st M := zi_blk zc_25_3 rfl ⟨Nat.zero_le _, Nat.zero_le _⟩ rfl lv st M Q
theorem zb_26_0 (sc : Nat × (Nat → Int32)) (lv : zi_L) (st : List Value) (M : zi_M) (Q : Option Value → zi_M → Prop) : zi_B sc 0 0 26 0 lv st M Q = zi_wp sc 0 0 26 Q zc_26_0 lv st M := zi_blk zc_26_0 rfl ⟨Nat.zero_le _, Nat.zero_le _⟩ rfl lv st M Q
theorem zb_26_1 (sc : Nat × (Nat → Int32)) (lv : zi_L) (st : List Value) (M : zi_M) (Q : Option Value → zi_M → Prop) : zi_B sc 0 0 26 1 lv st M Q = zi_wp sc 0 0 26 Q zc_26_1 lv st M := zi_blk zc_26_1 rfl ⟨Nat.zero_le _, Nat.zero_le _⟩ rfl lv st M Q
theorem zb_27_0 (sc : Nat × (Nat → Int32)) (lv : zi_L) (st : List Value) (M : zi_M) (Q : Option Value → zi_M → Prop) : zi_B sc 0 0 27 0 lv st M Q = zi_wp sc 0 0 27 Q zc_27_0 lv st M := zi_blk zc_27_0 rfl ⟨Nat.zero_le _, Nat.zero_le _⟩ rfl lv st M Q
theorem zb_27_1 (sc : Nat × (Nat → Int32)) (lv : zi_L) (st : List Value) (M : zi_M) (Q : Option Value → zi_M → Prop) : zi_B sc 0 0 27 1 lv st M Q = zi_wp sc 0 0 27 Q zc_27_1 lv st M := zi_blk zc_27_1 rfl ⟨Nat.zero_le _, Nat.zero_le _⟩ rfl lv st M Q
theorem zb_27_2 (sc : Nat × (Nat → Int32)) (lv : zi_L) (st : List Value) (M : zi_M) (Q : Option Value → zi_M → Prop) : zi_B sc 0 0 27 2 lv st M Q = zi_wp sc 0 0 27 Q zc_27_2 lv st M := zi_blk zc_27_2 rfl ⟨Nat.zero_le _, Nat.zero_le _⟩ rfl lv st M Q
theorem zb_28_0 (sc : Nat × (Nat → Int32)) (lv : zi_L) (st : List Value) (M : zi_M) (Q : Option Value → zi_M → Prop) : zi_B sc 0 0 28 0 lv st M Q = zi_wp sc 0 0 28 Q zc_28_0 lv st M := zi_blk zc_28_0 rfl ⟨Nat.zero_le _, Nat.zero_le _⟩ rfl lv st M Q
theorem zb_28_1 (sc : Nat × (Nat → Int32)) (lv : zi_L) (st : List Value) (M : zi_M) (Q : Option Value → zi_M → Prop) : zi_B sc 0 0 28 1 lv st M Q = zi_wp sc 0 0 28 Q zc_28_1 lv st M := zi_blk zc_28_1 rfl ⟨Nat.zero_le _, Nat.zero_le _⟩ rfl lv st M Q
theorem zb_28_2 (sc : Nat × (Nat → Int32)) (lv : zi_L) (st : List Value) (M : zi_M) (Q : Option Value → zi_M → Prop) : zi_B sc 0 0 28 2 lv st M Q = zi_wp sc 0 0 28 Q zc_28_2 lv st M := zi_blk zc_28_2 rfl ⟨Nat.zero_le _, Nat.zero_le _⟩ rfl lv st M Q
theorem zb_28_3 (sc : Nat × (Nat → Int32)) (lv : zi_L) (st : List Value) (M : zi_M) (Q : Option Value → zi_M → Prop) : zi_B sc 0 0 28 3 lv st M Q = zi_wp sc 0 0 28 Q zc_28_3 lv st M := zi_blk zc_28_3 rfl ⟨Nat.zero_le _, Nat.zero_le _⟩ rfl lv st M Q
theorem zb_29_0 (sc : Nat × (Nat → Int32)) (lv : zi_L) (st : List Value) (M : zi_M) (Q : Option Value → zi_M → Prop) : zi_B sc 0 0 29 0 lv st M Q = zi_wp sc 0 0 29 Q zc_29_0 lv st M := zi_blk zc_29_0 rfl ⟨Nat.zero_le _, Nat.zero_le _⟩ rfl lv st M Q
theorem zb_29_1 (sc : Nat × (Nat → Int32)) (lv : zi_L) (st : List Value) (M : zi_M) (Q : Option Value → zi_M → Prop) : zi_B sc 0 0 29 1 lv st M Q = zi_wp sc 0 0 29 Q zc_29_1 lv st M := zi_blk zc_29_1 rfl ⟨Nat.zero_le _, Nat.zero_le _⟩ rfl lv st M Q
theorem zb_29_2 (sc : Nat × (Nat → Int32)) (lv : zi_L) (st : List Value) (M : zi_M) (Q : Option Value → zi_M → Prop) : zi_B sc 0 0 29 2 lv st M Q = zi_wp sc 0 0 29 Q zc_29_2 lv st M := zi_blk zc_29_2 rfl ⟨Nat.zero_le _, Nat.zero_le _⟩ rfl lv st M Q
theorem zb_29_3 (sc : Nat × (Nat → Int32)) (lv : zi_L) (st : List Value) (M : zi_M) (Q : Option Value → zi_M → Prop) : zi_B sc 0 0 29 3 lv st M Q = zi_wp sc 0 0 29 Q zc_29_3 lv st M := zi_blk zc_29_3 rfl ⟨Nat.zero_le _, Nat.zero_le _⟩ rfl lv st M Q
theorem zb_29_4 (sc : Nat × (Nat → Int32)) (lv : zi_L) (st : List Value) (M : zi_M) (Q : Option Value → zi_M → Prop) : zi_B sc 0 0 29 4 lv st M Q = zi_wp sc 0 0 29 Q zc_29_4 lv st M := zi_blk zc_29_4 rfl ⟨Nat.zero_le _, Nat.zero_le _⟩ rfl lv st M Q
theorem zb_30_0 (sc : Nat × (Nat → Int32)) (lv : zi_L) (st : List Value) (M : zi_M) (Q : Option Value → zi_M → Prop) : zi_B sc 0 0 30 0 lv st M Q = zi_wp sc 0 0 30 Q zc_30_0 lv st M := zi_blk zc_30_0 rfl ⟨Nat.zero_le _, Nat.zero_le _⟩ rfl lv st M Q
theorem zb_30_1 (sc : Nat × (Nat → Int32)) (lv : zi_L) (st : List Value) (M : zi_M) (Q : Option Value → zi_M → Prop) : zi_B sc 0 0 30 1 lv st M Q = zi_wp sc 0 0 30 Q zc_30_1 lv st M := zi_blk zc_30_1 rfl ⟨Nat.zero_le _, Nat.zero_le _⟩ rfl lv st M Q
theorem zb_30_2 (sc : Nat × (Nat → Int32)) (lv : zi_L) (st : List Value) (M : zi_M) (Q : Option Value → zi_M → Prop) : zi_B sc 0 0 30 2 lv st M Q = zi_wp sc 0 0 30 Q zc_30_2 lv st M := zi_blk zc_30_2 rfl ⟨Nat.zero_le _, Nat.zero_le _⟩ rfl lv st M Q
theorem zb_30_3 (sc : Nat × (Nat → Int32)) (lv : zi_L) (st : List Value) (M : zi_M) (Q : Option Value → zi_M → Prop) : zi_B sc 0 0 30 3 lv st M Q = zi_wp sc 0 0 30 Q zc_30_3 lv st M := zi_blk zc_30_3 rfl ⟨Nat.zero_le _, Nat.zero_le _⟩ rfl lv st M Q
theorem zb_31_0 (sc : Nat × (Nat → Int32)) (lv : zi_L) (st : List Value) (M : zi_M) (Q : Option Value → zi_M → Prop) : zi_B sc 0 0 31 0 lv st M Q = zi_wp sc 0 0 31 Q zc_31_0 lv st M := zi_blk zc_31_0 rfl ⟨Nat.zero_le _, Nat.zero_le _⟩ rfl lv st M Q
theorem zb_31_1 (sc : Nat × (Nat → Int32)) (lv : zi_L) (st : List Value) (M : zi_M) (Q : Option Value → zi_M → Prop) : zi_B sc 0 0 31 1 lv st M Q = zi_wp sc 0 0 31 Q zc_31_1 lv st M := zi_blk zc_31_1 rfl ⟨Nat.zero_le _, Nat.zero_le _⟩ rfl lv st M Q
theorem zb_31_2 (sc : Nat × (Nat → Int32)) (lv : zi_L) (st : List Value) (M : zi_M) (Q : Option Value → zi_M → Prop) : zi_B sc 0 0 31 2 lv st M Q = zi_wp sc 0 0 31 Q zc_31_2 lv st M := zi_blk zc_31_2 rfl ⟨Nat.zero_le _, Nat.zero_le _⟩ rfl lv st M Q
theorem zb_31_3 (sc : Nat × (Nat → Int32)) (lv : zi_L) (st : List Value) (M : zi_M) (Q : Option Value → zi_M → Prop) : zi_B sc 0 0 31 3 lv st M Q = zi_wp sc 0 0 31 Q zc_31_3 lv st M := zi_blk zc_31_3 rfl ⟨Nat.zero_le _, Nat.zero_le _⟩ rfl lv st M Q
theorem zb_32_0 (sc : Nat × (Nat → Int32)) (lv : zi_L) (st : List Value) (M : zi_M) (Q : Option Value → zi_M → Prop) : zi_B sc 0 0 32 0 lv st M Q = zi_wp sc 0 0 32 Q zc_32_0 lv st M := zi_blk zc_32_0 rfl ⟨Nat.zero_le _, Nat.zero_le _⟩ rfl lv st M Q
theorem zb_32_1 (sc : Nat × (Nat → Int32)) (lv : zi_L) (st : List Value) (M : zi_M) (Q : Option Value → zi_M → Prop) : zi_B sc 0 0 32 1 lv st M Q = zi_wp sc 0 0 32 Q zc_32_1 lv st M := zi_blk zc_32_1 rfl ⟨Nat.zero_le _, Nat.zero_le _⟩ rfl lv st M Q
theorem zb_32_2 (sc : Nat × (Nat → Int32)) (lv : zi_L) (st : List Value) (M : zi_M) (Q : Option Value → zi_M → Prop) : zi_B sc 0 0 32 2 lv st M Q = zi_wp sc 0 0 32 Q zc_32_2 lv st M := zi_blk zc_32_2 rfl ⟨Nat.zero_le _, Nat.zero_le _⟩ rfl lv st M Q
theorem zb_32_3 (sc : Nat × (Nat → Int32)) (lv : zi_L) (st : List Value) (M : zi_M) (Q : Option Value → zi_M → Prop) : zi_B sc 0 0 32 3 lv st M Q = zi_wp sc 0 0 32 Q zc_32_3 lv st M := zi_blk zc_32_3 rfl ⟨Nat.zero_le _, Nat.zero_le _⟩ rfl lv st M Q
theorem zb_32_4 (sc : Nat × (Nat → Int32)) (lv : zi_L) (st : List Value) (M : zi_M) (Q : Option Value → zi_M → Prop) : zi_B sc 0 0 32 4 lv st M Q = zi_wp sc 0 0 32 Q zc_32_4 lv st M := zi_blk zc_32_4 rfl ⟨Nat.zero_le _, Nat.zero_le _⟩ rfl lv st M Q
theorem zb_32_5 (sc : Nat × (Nat → Int32)) (lv : zi_L) (st : List Value) (M : zi_M) (Q : Option Value → zi_M → Prop) : zi_B sc 0 0 32 5 lv st M Q = zi_wp sc 0 0 32 Q zc_32_5 lv st M := zi_blk zc_32_5 rfl ⟨Nat.zero_le _, Nat.zero_le _⟩ rfl lv st M Q
theorem zb_32_6 (sc : Nat × (Nat → Int32)) (lv : zi_L) (st : List Value) (M : zi_M) (Q : Option Value → zi_M → Prop) : zi_B sc 0 0 32 6 lv st M Q = zi_wp sc 0 0 32 Q zc_32_6 lv st M := zi_blk zc_32_6 rfl ⟨Nat.zero_le _, Nat.zero_le _⟩ rfl lv st M Q
theorem zb_33_0 (sc : Nat × (Nat → Int32)) (lv : zi_L) (st : List Value) (M : zi_M) (Q : Option Value → zi_M → Prop) : zi_B sc 0 0 33 0 lv st M Q = zi_wp sc 0 0 33 Q zc_33_0 lv st M := zi_blk zc_33_0 rfl ⟨Nat.zero_le _, Nat.zero_le _⟩ rfl lv st M Q
theorem zb_33_1 (sc : Nat × (Nat → Int32)) (lv : zi_L) (st : List Value) (M : zi_M) (Q : Option Value → zi_M → Prop) : zi_B sc 0 0 33 1 lv st M Q = zi_wp sc 0 0 33 Q zc_33_1 lv st M := zi_blk zc_33_1 rfl ⟨Nat.zero_le _, Nat.zero_le _⟩ rfl lv st M Q
theorem zb_33_2 (sc : Nat × (Nat → Int32)) (lv : zi_L) (st : List Value) (M : zi_M) (Q : Option Value → zi_M → Prop) : zi_B sc 0 0 33 2 lv st M Q = zi_wp sc 0 0 33 Q zc_33_2 lv st M := zi_blk zc_33_2 rfl ⟨Nat.zero_le _, Nat.zero_le _⟩ rfl lv st M Q
theorem zb_33_3 (sc : Nat × (Nat → Int32)) (lv : zi_L) (st : List Value) (M : zi_M) (Q : Option Value → zi_M → Prop) : zi_B sc 0 0 33 3 lv st M Q = zi_wp sc 0 0 33 Q zc_33_3 lv st M := zi_blk zc_33_3 rfl ⟨Nat.zero_le _, Nat.zero_le _⟩ rfl lv st M Q
theorem zb_33_4 (sc : Nat × (Nat → Int32)) (lv : zi_L) (st : List Value) (M : zi_M) (Q : Option Value → zi_M → Prop) : zi_B sc 0 0 33 4 lv st M Q = zi_wp sc 0 0 33 Q zc_33_4 lv st M := zi_blk zc_33_4 rfl ⟨Nat.zero_le _, Nat.zero_le _⟩ rfl lv st M Q
theorem zb_34_0 (sc : Nat × (Nat → Int32)) (lv : zi_L) (st : List Value) (M : zi_M) (Q : Option Value → zi_M → Prop) : zi_B sc 0 0 34 0 lv st M Q = zi_wp sc 0 0 34 Q zc_34_0 lv st M := zi_blk zc_34_0 rfl ⟨Nat.zero_le _, Nat.zero_le _⟩ rfl lv st M Q
theorem zb_34_1 (sc : Nat × (Nat → Int32)) (lv : zi_L) (st : List Value) (M : zi_M) (Q : Option Value → zi_M → Prop) : zi_B sc 0 0 34 1 lv st M Q = zi_wp sc 0 0 34 Q zc_34_1 lv st M := zi_blk zc_34_1 rfl ⟨Nat.zero_le _, Nat.zero_le _⟩ rfl lv st M Q
theorem zb_35_0 (sc : Nat × (Nat → Int32)) (lv : zi_L) (st : List Value) (M : zi_M) (Q : Option Value → zi_M → Prop) : zi_B sc 0 0 35 0 lv st M Q = zi_wp sc 0 0 35 Q zc_35_0 lv st M := zi_blk zc_35_0 rfl ⟨Nat.zero_le _, Nat.zero_le _⟩ rfl lv st M Q
theorem zb_35_1 (sc : Nat × (Nat → Int32)) (lv : zi_L) (st : List Value) (M : zi_M) (Q : Option Value → zi_M → Prop) : zi_B sc 0 0 35 1 lv st M Q = zi_wp sc 0 0 35 Q zc_35_1 lv st M := zi_blk zc_35_1 rfl ⟨Nat.zero_le _, Nat.zero_le _⟩ rfl lv st M Q
theorem zb_35_2 (sc : Nat × (Nat → Int32)) (lv : zi_L) (st : List Value) (M : zi_M) (Q : Option Value → zi_M → Prop) : zi_B sc 0 0 35 2 lv st M Q = zi_wp sc 0 0 35 Q zc_35_2 lv st M := zi_blk zc_35_2 rfl ⟨Nat.zero_le _, Nat.zero_le _⟩ rfl lv st M Q
theorem zb_35_3 (sc : Nat × (Nat → Int32)) (lv : zi_L) (st : List Value) (M : zi_M) (Q : Option Value → zi_M → Prop) : zi_B sc 0 0 35 3 lv st M Q = zi_wp sc 0 0 35 Q zc_35_3 lv st M := zi_blk zc_35_3 rfl ⟨Nat.zero_le _, Nat.zero_le _⟩ rfl lv st M Q
theorem zb_35_4 (sc : Nat × (Nat → Int32)) (lv : zi_L) (st : List Value) (M : zi_M) (Q : Option Value → zi_M → Prop) : zi_B sc 0 0 35 4 lv st M Q = zi_wp sc 0 0 35 Q zc_35_4 lv st M := zi_blk zc_35_4 rfl ⟨Nat.zero_le _, Nat.zero_le _⟩ rfl lv st M Q
theorem zb_36_0 (sc : Nat × (Nat → Int32)) (lv : zi_L) (st : List Value) (M : zi_M) (Q : Option Value → zi_M → Prop) : zi_B sc 0 0 36 0 lv st M Q = zi_wp sc 0 0 36 Q zc_36_0 lv st M := zi_blk zc_36_0 rfl ⟨Nat.zero_le _, Nat.zero_le _⟩ rfl lv st M Q
theorem zb_37_0 (sc : Nat × (Nat → Int32)) (lv : zi_L) (st : List Value) (M : zi_M) (Q : Option Value → zi_M → Prop) : zi_B sc 0 0 37 0 lv st M Q = zi_wp sc 0 0 37 Q zc_37_0 lv st M := zi_blk zc_37_0 rfl ⟨Nat.zero_le _, Nat.zero_le _⟩ rfl lv st M Q
theorem zb_37_1 (sc : Nat × (Nat → Int32)) (lv : zi_L) (st : List Value) (M : zi_M) (Q : Option Value → zi_M → Prop) : zi_B sc 0 0 37 1 lv st M Q = zi_wp sc 0 0 37 Q zc_37_1 lv st M := zi_blk zc_37_1 rfl ⟨Nat.zero_le _, Nat.zero_le _⟩ rfl lv st M Q
theorem zb_37_2 (sc : Nat × (Nat → Int32)) (lv : zi_L) (st : List Value) (M : zi_M) (Q : Option Value → zi_M → Prop) : zi_B sc 0 0 37 2 lv st M Q = zi_wp sc 0 0 37 Q zc_37_2 lv st M := zi_blk zc_37_2 rfl ⟨Nat.zero_le _, Nat.zero_le _⟩ rfl lv st M Q
theorem zb_38_0 (sc : Nat × (Nat → Int32)) (lv : zi_L) (st : List Value) (M : zi_M) (Q : Option Value → zi_M → Prop) : zi_B sc 0 0 38 0 lv st M Q = zi_wp sc 0 0 38 Q zc_38_0 lv st M := zi_blk zc_38_0 rfl ⟨Nat.zero_le _, Nat.zero_le _⟩ rfl lv st M Q
theorem zb_38_1 (sc : Nat × (Nat → Int32)) (lv : zi_L) (st : List Value) (M : zi_M) (Q : Option Value → zi_M → Prop) : zi_B sc 0 0 38 1 lv st M Q = zi_wp sc 0 0 38 Q zc_38_1 lv st M := zi_blk zc_38_1 rfl ⟨Nat.zero_le _, Nat.zero_le _⟩ rfl lv st M Q
theorem zb_38_2 (sc : Nat × (Nat → Int32)) (lv : zi_L) (st : List Value) (M : zi_M) (Q : Option Value → zi_M → Prop) : zi_B sc 0 0 38 2 lv st M Q = zi_wp sc 0 0 38 Q zc_38_2 lv st M := zi_blk zc_38_2 rfl ⟨Nat.zero_le _, Nat.zero_le _⟩ rfl lv st M Q
theorem zb_39_0 (sc : Nat × (Nat → Int32)) (lv : zi_L) (st : List Value) (M : zi_M) (Q : Option Value → zi_M → Prop) : zi_B sc 0 0 39 0 lv st M Q = zi_wp sc 0 0 39 Q zc_39_0 lv st M := zi_blk zc_39_0 rfl ⟨Nat.zero_le _, Nat.zero_le _⟩ rfl lv st M Q
theorem zb_40_0 (sc : Nat × (Nat → Int32)) (lv : zi_L) (st : List Value) (M : zi_M) (Q : Option Value → zi_M → Prop) : zi_B sc 0 0 40 0 lv st M Q = zi_wp sc 0 0 40 Q zc_40_0 lv st M := zi_blk zc_40_0 rfl ⟨Nat.zero_le _, Nat.zero_le _⟩ rfl lv st M Q
theorem zb_40_1 (sc : Nat × (Nat → Int32)) (lv : zi_L) (st : List Value) (M : zi_M) (Q : Option Value → zi_M → Prop) : zi_B sc 0 0 40 1 lv st M Q = zi_wp sc 0 0 40 Q zc_40_1 lv st M := zi_blk zc_40_1 rfl ⟨Nat.zero_le _, Nat.zero_le _⟩ rfl lv st M Q
theorem zb_40_2 (sc : Nat × (Nat → Int32)) (lv : zi_L) (st : List Value) (M : zi_M) (Q : Option Value → zi_M → Prop) : zi_B sc 0 0 40 2 lv st M Q = zi_wp sc 0 0 40 Q zc_40_2 lv st M := zi_blk zc_40_2 rfl ⟨Nat.zero_le _, Nat.zero_le _⟩ rfl lv st M Q
theorem zb_40_3 (sc : Nat × (Nat → Int32)) (lv : zi_L) (st : List Value) (M : zi_M) (Q : Option Value → zi_M → Prop) : zi_B sc 0 0 40 3 lv st M Q = zi_wp sc 0 0 40 Q zc_40_3 lv st M := zi_blk zc_40_3 rfl ⟨Nat.zero_le _, Nat.zero_le _⟩ rfl lv st M Q
theorem zb_40_4 (sc : Nat × (Nat → Int32)) (lv : zi_L) (st : List Value) (M : zi_M) (Q : Option Value → zi_M → Prop) : zi_B sc 0 0 40 4 lv st M Q = zi_wp sc 0 0 40 Q zc_40_4 lv st M := zi_blk zc_40_4 rfl ⟨Nat.zero_le _, Nat.zero_le _⟩ rfl lv st M Q
theorem zb_40_5 (sc : Nat × (Nat → Int32)) (lv : zi_L) (st : List Value) (M : zi_M) (Q : Option Value → zi_M → Prop) : zi_B sc 0 0 40 5 lv st M Q = zi_wp sc 0 0 40 Q zc_40_5 lv st M := zi_blk zc_40_5 rfl ⟨Nat.zero_le _, Nat.zero_le _⟩ rfl lv st M Q
theorem zb_40_6 (sc : Nat × (Nat → Int32)) (lv : zi_L) (st : List Value) (M : zi_M) (Q : Option Value → zi_M → Prop) : zi_B sc 0 0 40 6 lv st M Q = zi_wp sc 0 0 40 Q zc_40_6 lv st M := zi_blk zc_40_6 rfl ⟨Nat.zero_le _, Nat.zero_le _⟩ rfl lv st M Q
theorem zb_41_0 (sc : Nat × (Nat → Int32)) (lv : zi_L) (st : List Value) (M : zi_M) (Q : Option Value → zi_M → Prop) : zi_B sc 0 0 41 0 lv st M Q = zi_wp sc 0 0 41 Q zc_41_0 lv st M := zi_blk zc_41_0 rfl ⟨Nat.zero_le _, Nat.zero_le _⟩ rfl lv st M Q
theorem zb_41_1 (sc : Nat × (Nat → Int32)) (lv : zi_L) (st : List Value) (M : zi_M) (Q : Option Value → zi_M → Prop) : zi_B sc 0 0 41 1 lv st M Q = zi_wp sc 0 0 41 Q zc_41_1 lv st M := zi_blk zc_41_1 rfl ⟨Nat.zero_le _, Nat.zero_le _⟩ rfl lv st M Q
theorem zb_41_2 (sc : Nat × (Nat → Int32)) (lv : zi_L) (st : List Value) (M : zi_M) (Q : Option Value → zi_M → Prop) : zi_B sc 0 0 41 2 lv st M Q = zi_wp sc 0 0 41 Q zc_41_2 lv st M := zi_blk zc_41_2 rfl ⟨Nat.zero_le _, Nat.zero_le _⟩ rfl lv st M Q
theorem zb_41_3 (sc : Nat × (Nat → Int32)) (lv : zi_L) (st : List Value) (M : zi_M) (Q : Option Value → zi_M → Prop) : zi_B sc 0 0 41 3 lv st M Q = zi_wp sc 0 0 41 Q zc_41_3 lv st M := zi_blk zc_41_3 rfl ⟨Nat.zero_le _, Nat.zero_le _⟩ rfl lv st M Q
theorem zb_42_0 (sc : Nat × (Nat → Int32)) (lv : zi_L) (st : List Value) (M : zi_M) (Q : Option Value → zi_M → Prop) : zi_B sc 0 0 42 0 lv st M Q = zi_wp sc 0 0 42 Q zc_42_0 lv st M := zi_blk zc_42_0 rfl ⟨Nat.zero_le _, Nat.zero_le _⟩ rfl lv st M Q
theorem zb_43_0 (sc : Nat × (Nat → Int32)) (lv : zi_L) (st : List Value) (M : zi_M) (Q : Option Value → zi_M → Prop) : zi_B sc 0 0 43 0 lv st M Q = zi_wp sc 0 0 43 Q zc_43_0 lv st M := zi_blk zc_43_0 rfl ⟨Nat.zero_le _, Nat.zero_le _⟩ rfl lv st M Q
theorem zb_44_0 (sc : Nat × (Nat → Int32)) (lv : zi_L) (st : List Value) (M : zi_M) (Q : Option Value → zi_M → Prop) : zi_B sc 0 0 44 0 lv st M Q = zi_wp sc 0 0 44 Q zc_44_0 lv st M := zi_blk zc_44_0 rfl ⟨Nat.zero_le _, Nat.zero_le _⟩ rfl lv st M Q
theorem zb_44_1 (sc : Nat × (Nat → Int32)) (lv : zi_L) (st : List Value) (M : zi_M) (Q : Option Value → zi_M → Prop) : zi_B sc 0 0 44 1 lv st M Q = zi_wp sc 0 0 44 Q zc_44_1 lv st M := zi_blk zc_44_1 rfl ⟨Nat.zero_le _, Nat.zero_le _⟩ rfl lv st M Q
theorem zb_44_2 (sc : Nat × (Nat → Int32)) (lv : zi_L) (st : List Value) (M : zi_M) (Q : Option Value → zi_M → Prop) : zi_B sc 0 0 44 2 lv st M Q = zi_wp sc 0 0 44 Q zc_44_2 lv st M := zi_blk zc_44_2 rfl ⟨Nat.zero_le _, Nat.zero_le _⟩ rfl lv st M Q
theorem zb_45_0 (sc : Nat × (Nat → Int32)) (lv : zi_L) (st : List Value) (M : zi_M) (Q : Option Value → zi_M → Prop) : zi_B sc 0 0 45 0 lv st M Q = zi_wp sc 0 0 45 Q zc_45_0 lv st M := zi_blk zc_45_0 rfl ⟨Nat.zero_le _, Nat.zero_le _⟩ rfl lv st M Q
theorem zb_45_1 (sc : Nat × (Nat → Int32)) (lv : zi_L) (st : List Value) (M : zi_M) (Q : Option Value → zi_M → Prop) : zi_B sc 0 0 45 1 lv st M Q = zi_wp sc 0 0 45 Q zc_45_1 lv st M := zi_blk zc_45_1 rfl ⟨Nat.zero_le _, Nat.zero_le _⟩ rfl lv st M Q
theorem zb_45_2 (sc : Nat × (Nat → Int32)) (lv : zi_L) (st : List Value) (M : zi_M) (Q : Option Value → zi_M → Prop) : zi_B sc 0 0 45 2 lv st M Q = zi_wp sc 0 0 45 Q zc_45_2 lv st M := zi_blk zc_45_2 rfl ⟨Nat.zero_le _, Nat.zero_le _⟩ rfl lv st M Q
theorem zb_45_3 (sc : Nat × (Nat → Int32)) (lv : zi_L) (st : List Value) (M : zi_M) (Q : Option Value → zi_M → Prop) : zi_B sc 0 0 45 3 lv st M Q = zi_wp sc 0 0 45 Q zc_45_3 lv st M := zi_blk zc_45_3 rfl ⟨Nat.zero_le _, Nat.zero_le _⟩ rfl lv st M Q
theorem zb_46_0 (sc : Nat × (Nat → Int32)) (lv : zi_L) (st : List Value) (M : zi_M) (Q : Option Value → zi_M → Prop) : zi_B sc 0 0 46 0 lv st M Q = zi_wp sc 0 0 46 Q zc_46_0 lv st M := zi_blk zc_46_0 rfl ⟨Nat.zero_le _, Nat.zero_le _⟩ rfl lv st M Q
theorem zb_46_1 (sc : Nat × (Nat → Int32)) (lv : zi_L) (st : List Value) (M : zi_M) (Q : Option Value → zi_M → Prop) : zi_B sc 0 0 46 1 lv st M Q = zi_wp sc 0 0 46 Q zc_46_1 lv st M := zi_blk zc_46_1 rfl ⟨Nat.zero_le _, Nat.zero_le _⟩ rfl lv st M Q
theorem zb_46_2 (sc : Nat × (Nat → Int32)) (lv : zi_L) (st : List Value) (M : zi_M) (Q : Option Value → zi_M → Prop) : zi_B sc 0 0 46 2 lv st M Q = zi_wp sc 0 0 46 Q zc_46_2 lv st M := zi_blk zc_46_2 rfl ⟨Nat.zero_le _, Nat.zero_le _⟩ rfl lv st M Q
theorem zb_46_3 (sc : Nat × (Nat → Int32)) (lv : zi_L) (st : List Value) (M : zi_M) (Q : Option Value → zi_M → Prop) : zi_B sc 0 0 46 3 lv st M Q = zi_wp sc 0 0 46 Q zc_46_3 lv st M := zi_blk zc_46_3 rfl ⟨Nat.zero_le _, Nat.zero_le _⟩ rfl lv st M Q
theorem zb_47_0 (sc : Nat × (Nat → Int32)) (lv : zi_L) (st : List Value) (M : zi_M) (Q : Option Value → zi_M → Prop) : zi_B sc 0 0 47 0 lv st M Q = zi_wp sc 0 0 47 Q zc_47_0 lv st M := zi_blk zc_47_0 rfl ⟨Nat.zero_le _, Nat.zero_le _⟩ rfl lv st M Q
theorem zb_47_1 (sc : Nat × (Nat → Int32)) (lv : zi_L) (st : List Value) (M : zi_M) (Q : Option Value → zi_M → Prop) : zi_B sc 0 0 47 1 lv st M Q = zi_wp sc 0 0 47 Q zc_47_1 lv st M := zi_blk zc_47_1 rfl ⟨Nat.zero_le _, Nat.zero_le _⟩ rfl lv st M Q
theorem zb_47_2 (sc : Nat × (Nat → Int32)) (lv : zi_L) (st : List Value) (M : zi_M) (Q : Option Value → zi_M → Prop) : zi_B sc 0 0 47 2 lv st M Q = zi_wp sc 0 0 47 Q zc_47_2 lv st M := zi_blk zc_47_2 rfl ⟨Nat.zero_le _, Nat.zero_le _⟩ rfl lv st M Q
theorem zb_47_3 (sc : Nat × (Nat → Int32)) (lv : zi_L) (st : List Value) (M : zi_M) (Q : Option Value → zi_M → Prop) : zi_B sc 0 0 47 3 lv st M Q = zi_wp sc 0 0 47 Q zc_47_3 lv st M := zi_blk zc_47_3 rfl ⟨Nat.zero_le _, Nat.zero_le _⟩ rfl lv st M Q
theorem zb_47_4 (sc : Nat × (Nat → Int32)) (lv : zi_L) (st : List Value) (M : zi_M) (Q : Option Value → zi_M → Prop) : zi_B sc 0 0 47 4 lv st M Q = zi_wp sc 0 0 47 Q zc_47_4 lv st M := zi_blk zc_47_4 rfl ⟨Nat.zero_le _, Nat.zero_le _⟩ rfl lv st M Q
theorem zb_47_5 (sc : Nat × (Nat → Int32)) (lv : zi_L) (st : List Value) (M : zi_M) (Q : Option Value → zi_M → Prop) : zi_B sc 0 0 47 5 lv st M Q = zi_wp sc 0 0 47 Q zc_47_5 lv st M := zi_blk zc_47_5 rfl ⟨Nat.zero_le _, Nat.zero_le _⟩ rfl lv st M Q
theorem zb_48_0 (sc : Nat × (Nat → Int32)) (lv : zi_L) (st : List Value) (M : zi_M) (Q : Option Value → zi_M → Prop) : zi_B sc 0 0 48 0 lv st M Q = zi_wp sc 0 0 48 Q zc_48_0 lv st M := zi_blk zc_48_0 rfl ⟨Nat.zero_le _, Nat.zero_le _⟩ rfl lv st M Q
theorem zb_48_1 (sc : Nat × (Nat → Int32)) (lv : zi_L) (st : List Value) (M : zi_M) (Q : Option Value → zi_M → Prop) : zi_B sc 0 0 48 1 lv st M Q = zi_wp sc 0 0 48 Q zc_48_1 lv st M := zi_blk zc_48_1 rfl ⟨Nat.zero_le _, Nat.zero_le _⟩ rfl lv st M Q
theorem zb_48_2 (sc : Nat × (Nat → Int32)) (lv : zi_L) (st : List Value) (M : zi_M) (Q : Option Value → zi_M → Prop) : zi_B sc 0 0 48 2 lv st M Q = zi_wp sc 0 0 48 Q zc_48_2 lv st M := zi_blk zc_48_2 rfl ⟨Nat.zero_le _, Nat.zero_le _⟩ rfl lv st M Q
theorem zb_48_3 (sc : Nat × (Nat → Int32)) (lv : zi_L) (st : List Value) (M : zi_M) (Q : Option Value → zi_M → Prop) : zi_B sc 0 0 48 3 lv st M Q = zi_wp sc 0 0 48 Q zc_48_3 lv st M := zi_blk zc_48_3 rfl ⟨Nat.zero_le _, Nat.zero_le _⟩ rfl lv st M Q
theorem zb_48_4 (sc : Nat × (Nat → Int32)) (lv : zi_L) (st : List Value) (M : zi_M) (Q : Option Value → zi_M → Prop) : zi_B sc 0 0 48 4 lv st M Q = zi_wp sc 0 0 48 Q zc_48_4 lv st M := zi_blk zc_48_4 rfl ⟨Nat.zero_le _, Nat.zero_le _⟩ rfl lv st M Q
theorem zb_48_5 (sc : Nat × (Nat → Int32)) (lv : zi_L) (st : List Value) (M : zi_M) (Q : Option Value → zi_M → Prop) : zi_B sc 0 0 48 5 lv st M Q = zi_wp sc 0 0 48 Q zc_48_5 lv st M := zi_blk zc_48_5 rfl ⟨Nat.zero_le _, Nat.zero_le _⟩ rfl lv st M Q
theorem zb_49_0 (sc : Nat × (Nat → Int32)) (lv : zi_L) (st : List Value) (M : zi_M) (Q : Option Value → zi_M → Prop) : zi_B sc 0 0 49 0 lv st M Q = zi_wp sc 0 0 49 Q zc_49_0 lv st M := zi_blk zc_49_0 rfl ⟨Nat.zero_le _, Nat.zero_le _⟩ rfl lv st M Q
theorem zb_49_1 (sc : Nat × (Nat → Int32)) (lv : zi_L) (st : List Value) (M : zi_M) (Q : Option Value → zi_M → Prop) : zi_B sc 0 0 49 1 lv st M Q = zi_wp sc 0 0 49 Q zc_49_1 lv st M := zi_blk zc_49_1 rfl ⟨Nat.zero_le _, Nat.zero_le _⟩ rfl lv st M Q
theorem zb_49_2 (sc : Nat × (Nat → Int32)) (lv : zi_L) (st : List Value) (M : zi_M) (Q : Option Value → zi_M → Prop) : zi_B sc 0 0 49 2 lv st M Q = zi_wp sc 0 0 49 Q zc_49_2 lv st M := zi_blk zc_49_2 rfl ⟨Nat.zero_le _, Nat.zero_le _⟩ rfl lv st M Q
theorem zb_49_3 (sc : Nat × (Nat → Int32)) (lv : zi_L) (st : List Value) (M : zi_M) (Q : Option Value → zi_M → Prop) : zi_B sc 0 0 49 3 lv st M Q = zi_wp sc 0 0 49 Q zc_49_3 lv st M := zi_blk zc_49_3 rfl ⟨Nat.zero_le _, Nat.zero_le _⟩ rfl lv st M Q
theorem zb_49_4 (sc : Nat × (Nat → Int32)) (lv : zi_L) (st : List Value) (M : zi_M) (Q : Option Value → zi_M → Prop) : zi_B sc 0 0 49 4 lv st M Q = zi_wp sc 0 0 49 Q zc_49_4 lv st M := zi_blk zc_49_4 rfl ⟨Nat.zero_le _, Nat.zero_le _⟩ rfl lv st M Q
theorem zb_49_5 (sc : Nat × (Nat → Int32)) (lv : zi_L) (st : List Value) (M : zi_M) (Q : Option Value → zi_M → Prop) : zi_B sc 0 0 49 5 lv st M Q = zi_wp sc 0 0 49 Q zc_49_5 lv st M := zi_blk zc_49_5 rfl ⟨Nat.zero_le _, Nat.zero_le _⟩ rfl lv st M Q
theorem zb_49_6 (sc : Nat × (Nat → Int32)) (lv : zi_L) (st : List Value) (M : zi_M) (Q : Option Value → zi_M → Prop) : zi_B sc 0 0 49 6 lv st M Q = zi_wp sc 0 0 49 Q zc_49_6 lv st M := zi_blk zc_49_6 rfl ⟨Nat.zero_le _, Nat.zero_le _⟩ rfl lv st M Q
theorem zb_49_7 (sc : Nat × (Nat → Int32)) (lv : zi_L) (st : List Value) (M : zi_M) (Q : Option Value → zi_M → Prop) : zi_B sc 0 0 49 7 lv st M Q = zi_wp sc 0 0 49 Q zc_49_7 lv st M := zi_blk zc_49_7 rfl ⟨Nat.zero_le _, Nat.zero_le _⟩ rfl lv st M Q
theorem zb_49_8 (sc : Nat × (Nat → Int32)) (lv : zi_L) (st : List Value) (M : zi_M) (Q : Option Value → zi_M → Prop) : zi_B sc 0 0 49 8 lv st M Q = zi_wp sc 0 0 49 Q zc_49_8 lv st M := zi_blk zc_49_8 rfl ⟨Nat.zero_le _, Nat.zero_le _⟩ rfl lv st M Q
theorem zb_50_0 (sc : Nat × (Nat → Int32)) (lv : zi_L) (st : List Value) (M : zi_M) (Q : Option Value → zi_M → Prop) : zi_B sc 0 0 50 0 lv st M Q = zi_wp sc 0 0 50 Q zc_50_0 lv st M := zi_blk zc_50_0 rfl ⟨Nat.zero_le _, Nat.zero_le _⟩ rfl lv st M Q
theorem zb_50_1 (sc : Nat × (Nat → Int32)) (lv : zi_L) (st : List Value) (M : zi_M) (Q : Option Value → zi_M → Prop) : zi_B sc 0 0 50 1 lv st M Q = zi_wp sc 0 0 50 Q zc_50_1 lv st M := zi_blk zc_50_1 rfl ⟨Nat.zero_le _, Nat.zero_le _⟩ rfl lv st M Q
theorem zb_50_2 (sc : Nat × (Nat → Int32)) (lv : zi_L) (st : List Value) (M : zi_M) (Q : Option Value → zi_M → Prop) : zi_B sc 0 0 50 2 lv st M Q = zi_wp sc 0 0 50 Q zc_50_2 lv st M := zi_blk zc_50_2 rfl ⟨Nat.zero_le _, Nat.zero_le _⟩ rfl lv st M Q
theorem zb_51_0 (sc : Nat × (Nat → Int32)) (lv : zi_L) (st : List Value) (M : zi_M) (Q : Option Value → zi_M → Prop) : zi_B sc 0 0 51 0 lv st M Q = zi_wp sc 0 0 51 Q zc_51_0 lv st M := zi_blk zc_51_0 rfl ⟨Nat.zero_le _, Nat.zero_le _⟩ rfl lv st M Q
theorem zb_51_1 (sc : Nat × (Nat → Int32)) (lv : zi_L) (st : List Value) (M : zi_M) (Q : Option Value → zi_M → Prop) : zi_B sc 0 0 51 1 lv st M Q = zi_wp sc 0 0 51 Q zc_51_1 lv st M := zi_blk zc_51_1 rfl ⟨Nat.zero_le _, Nat.zero_le _⟩ rfl lv st M Q
theorem zb_52_0 (sc : Nat × (Nat → Int32)) (lv : zi_L) (st : List Value) (M : zi_M) (Q : Option Value → zi_M → Prop) : zi_B sc 0 0 52 0 lv st M Q = zi_wp sc 0 0 52 Q zc_52_0 lv st M := zi_blk zc_52_0 rfl ⟨Nat.zero_le _, Nat.zero_le _⟩ rfl lv st M Q
theorem zb_52_1 (sc : Nat × (Nat → Int32)) (lv : zi_L) (st : List Value) (M : zi_M) (Q : Option Value → zi_M → Prop) : zi_B sc 0 0 52 1 lv st M Q = zi_wp sc 0 0 52 Q zc_52_1 lv st M := zi_blk zc_52_1 rfl ⟨Nat.zero_le _, Nat.zero_le _⟩ rfl lv st M Q
theorem zb_52_2 (sc : Nat × (Nat → Int32)) (lv : zi_L) (st : List Value) (M : zi_M) (Q : Option Value → zi_M → Prop) : zi_B sc 0 0 52 2 lv st M Q = zi_wp sc 0 0 52 Q zc_52_2 lv st M := zi_blk zc_52_2 rfl ⟨Nat.zero_le _, Nat.zero_le _⟩ rfl lv st M Q
theorem zb_53_0 (sc : Nat × (Nat → Int32)) (lv : zi_L) (st : List Value) (M : zi_M) (Q : Option Value → zi_M → Prop) : zi_B sc 0 0 53 0 lv st M Q = zi_wp sc 0 0 53 Q zc_53_0 lv st M := zi_blk zc_53_0 rfl ⟨Nat.zero_le _, Nat.zero_le _⟩ rfl lv st M Q
theorem zb_53_1 (sc : Nat × (Nat → Int32)) (lv : zi_L) (st : List Value) (M : zi_M) (Q : Option Value → zi_M → Prop) : zi_B sc 0 0 53 1 lv st M Q = zi_wp sc 0 0 53 Q zc_53_1 lv st M := zi_blk zc_53_1 rfl ⟨Nat.zero_le _, Nat.zero_le _⟩ rfl lv st M Q
theorem zb_53_2 (sc : Nat × (Nat → Int32)) (lv : zi_L) (st : List Value) (M : zi_M) (Q : Option Value → zi_M → Prop) : zi_B sc 0 0 53 2 lv st M Q = zi_wp sc 0 0 53 Q zc_53_2 lv st M := zi_blk zc_53_2 rfl ⟨Nat.zero_le _, Nat.zero_le _⟩ rfl lv st M Q
theorem zb_54_0 (sc : Nat × (Nat → Int32)) (lv : zi_L) (st : List Value) (M : zi_M) (Q : Option Value → zi_M → Prop) : zi_B sc 0 0 54 0 lv st M Q = zi_wp sc 0 0 54 Q zc_54_0 lv st M := zi_blk zc_54_0 rfl ⟨Nat.zero_le _, Nat.zero_le _⟩ rfl lv st M Q
theorem zb_54_1 (sc : Nat × (Nat → Int32)) (lv : zi_L) (st : List Value) (M : zi_M) (Q : Option Value → zi_M → Prop) : zi_B sc 0 0 54 1 lv st M Q = zi_wp sc 0 0 54 Q zc_54_1 lv st M := zi_blk zc_54_1 rfl ⟨Nat.zero_le _, Nat.zero_le _⟩ rfl lv st M Q
theorem zb_54_2 (sc : Nat × (Nat → Int32)) (lv : zi_L) (st : List Value) (M : zi_M) (Q : Option Value → zi_M → Prop) : zi_B sc 0 0 54 2 lv st M Q = zi_wp sc 0 0 54 Q zc_54_2 lv st M := zi_blk zc_54_2 rfl ⟨Nat.zero_le _, Nat.zero_le _⟩ rfl lv st M Q
theorem zb_55_0 (sc : Nat × (Nat → Int32)) (lv : zi_L) (st : List Value) (M : zi_M) (Q : Option Value → zi_M → Prop) : zi_B sc 0 0 55 0 lv st M Q = zi_wp sc 0 0 55 Q zc_55_0 lv st M := zi_blk zc_55_0 rfl ⟨Nat.zero_le _, Nat.zero_le _⟩ rfl lv st M Q
theorem zb_55_1 (sc : Nat × (Nat → Int32)) (lv : zi_L) (st : List Value) (M : zi_M) (Q : Option Value → zi_M → Prop) : zi_B sc 0 0 55 1 lv st M Q = zi_wp sc 0 0 55 Q zc_55_1 lv st M := zi_blk zc_55_1 rfl ⟨Nat.zero_le _, Nat.zero_le _⟩ rfl lv st M Q
theorem zb_55_2 (sc : Nat × (Nat → Int32)) (lv : zi_L) (st : List Value) (M : zi_M) (Q : Option Value → zi_M → Prop) : zi_B sc 0 0 55 2 lv st M Q = zi_wp sc 0 0 55 Q zc_55_2 lv st M := zi_blk zc_55_2 rfl ⟨Nat.zero_le _, Nat.zero_le _⟩ rfl lv st M Q
theorem zb_56_0 (sc : Nat × (Nat → Int32)) (lv : zi_L) (st : List Value) (M : zi_M) (Q : Option Value → zi_M → Prop) : zi_B sc 0 0 56 0 lv st M Q = zi_wp sc 0 0 56 Q zc_56_0 lv st M := zi_blk zc_56_0 rfl ⟨Nat.zero_le _, Nat.zero_le _⟩ rfl lv st M Q
theorem zb_56_1 (sc : Nat × (Nat → Int32)) (lv : zi_L) (st : List Value) (M : zi_M) (Q : Option Value → zi_M → Prop) : zi_B sc 0 0 56 1 lv st M Q = zi_wp sc 0 0 56 Q zc_56_1 lv st M := zi_blk zc_56_1 rfl ⟨Nat.zero_le _, Nat.zero_le _⟩ rfl lv st M Q
theorem zb_56_2 (sc : Nat × (Nat → Int32)) (lv : zi_L) (st : List Value) (M : zi_M) (Q : Option Value → zi_M → Prop) : zi_B sc 0 0 56 2 lv st M Q = zi_wp sc 0 0 56 Q zc_56_2 lv st M := zi_blk zc_56_2 rfl ⟨Nat.zero_le _, Nat.zero_le _⟩ rfl lv st M Q
theorem zb_56_3 (sc : Nat × (Nat → Int32)) (lv : zi_L) (st : List Value) (M : zi_M) (Q : Option Value → zi_M → Prop) : zi_B sc 0 0 56 3 lv st M Q = zi_wp sc 0 0 56 Q zc_56_3 lv st M := zi_blk zc_56_3 rfl ⟨Nat.zero_le _, Nat.zero_le _⟩ rfl lv st M Q
theorem zb_56_4 (sc : Nat × (Nat → Int32)) (lv : zi_L) (st : List Value) (M : zi_M) (Q : Option Value → zi_M → Prop) : zi_B sc 0 0 56 4 lv st M Q = zi_wp sc 0 0 56 Q zc_56_4 lv st M := zi_blk zc_56_4 rfl ⟨Nat.zero_le _, Nat.zero_le _⟩ rfl lv st M Q
theorem zb_57_0 (sc : Nat × (Nat → Int32)) (lv : zi_L) (st : List Value) (M : zi_M) (Q : Option Value → zi_M → Prop) : zi_B sc 0 0 57 0 lv st M Q = zi_wp sc 0 0 57 Q zc_57_0 lv st M := zi_blk zc_57_0 rfl ⟨Nat.zero_le _, Nat.zero_le _⟩ rfl lv st M Q
theorem zb_57_1 (sc : Nat × (Nat → Int32)) (lv : zi_L) (st : List Value) (M : zi_M) (Q : Option Value → zi_M → Prop) : zi_B sc 0 0 57 1 lv st M Q = zi_wp sc 0 0 57 Q zc_57_1 lv st M := zi_blk zc_57_1 rfl ⟨Nat.zero_le _, Nat.zero_le _⟩ rfl lv st M Q
theorem zb_57_2 (sc : Nat × (Nat → Int32)) (lv : zi_L) (st : List Value) (M : zi_M) (Q : Option Value → zi_M → Prop) : zi_B sc 0 0 57 2 lv st M Q = zi_wp sc 0 0 57 Q zc_57_2 lv st M := zi_blk zc_57_2 rfl ⟨Nat.zero_le _, Nat.zero_le _⟩ rfl lv st M Q
theorem zb_57_3 (sc : Nat × (Nat → Int32)) (lv : zi_L) (st : List Value) (M : zi_M) (Q : Option Value → zi_M → Prop) : zi_B sc 0 0 57 3 lv st M Q = zi_wp sc 0 0 57 Q zc_57_3 lv st M := zi_blk zc_57_3 rfl ⟨Nat.zero_le _, Nat.zero_le _⟩ rfl lv st M Q
theorem zb_57_4 (sc : Nat × (Nat → Int32)) (lv : zi_L) (st : List Value) (M : zi_M) (Q : Option Value → zi_M → Prop) : zi_B sc 0 0 57 4 lv st M Q = zi_wp sc 0 0 57 Q zc_57_4 lv st M := zi_blk zc_57_4 rfl ⟨Nat.zero_le _, Nat.zero_le _⟩ rfl lv st M Q
theorem zb_58_0 (sc : Nat × (Nat → Int32)) (lv : zi_L) (st : List Value) (M : zi_M) (Q : Option Value → zi_M → Prop) : zi_B sc 0 0 58 0 lv st M Q = zi_wp sc 0 0 58 Q zc_58_0 lv st M := zi_blk zc_58_0 rfl ⟨Nat.zero_le _, Nat.zero_le _⟩ rfl lv st M Q
theorem zb_58_1 (sc : Nat × (Nat → Int32)) (lv : zi_L) (st : List Value) (M : zi_M) (Q : Option Value → zi_M → Prop) : zi_B sc 0 0 58 1 lv st M Q = zi_wp sc 0 0 58 Q zc_58_1 lv st M := zi_blk zc_58_1 rfl ⟨Nat.zero_le _, Nat.zero_le _⟩ rfl lv st M Q
theorem zb_58_2 (sc : Nat × (Nat → Int32)) (lv : zi_L) (st : List Value) (M : zi_M) (Q : Option Value → zi_M → Prop) : zi_B sc 0 0 58 2 lv st M Q = zi_wp sc 0 0 58 Q zc_58_2 lv st M := zi_blk zc_58_2 rfl ⟨Nat.zero_le _, Nat.zero_le _⟩ rfl lv st M Q
theorem zb_58_3 (sc : Nat × (Nat → Int32)) (lv : zi_L) (st : List Value) (M : zi_M) (Q : Option Value → zi_M → Prop) : zi_B sc 0 0 58 3 lv st M Q = zi_wp sc 0 0 58 Q zc_58_3 lv st M := zi_blk zc_58_3 rfl ⟨Nat.zero_le _, Nat.zero_le _⟩ rfl lv st M Q
theorem zb_58_4 (sc : Nat × (Nat → Int32)) (lv : zi_L) (st : List Value) (M : zi_M) (Q : Option Value → zi_M → Prop) : zi_B sc 0 0 58 4 lv st M Q = zi_wp sc 0 0 58 Q zc_58_4 lv st M := zi_blk zc_58_4 rfl ⟨Nat.zero_le _, Nat.zero_le _⟩ rfl lv st M Q
theorem zb_58_5 (sc : Nat × (Nat → Int32)) (lv : zi_L) (st : List Value) (M : zi_M) (Q : Option Value → zi_M → Prop) : zi_B sc 0 0 58 5 lv st M Q = zi_wp sc 0 0 58 Q zc_58_5 lv st M := zi_blk zc_58_5 rfl ⟨Nat.zero_le _, Nat.zero_le _⟩ rfl lv st M Q
theorem zb_58_6 (sc : Nat × (Nat → Int32)) (lv : zi_L) (st : List Value) (M : zi_M) (Q : Option Value → zi_M → Prop) : zi_B sc 0 0 58 6 lv st M Q = zi_wp sc 0 0 58 Q zc_58_6 lv st M := zi_blk zc_58_6 rfl ⟨Nat.zero_le _, Nat.zero_le _⟩ rfl lv st M Q
theorem zb_59_0 (sc : Nat × (Nat → Int32)) (lv : zi_L) (st : List Value) (M : zi_M) (Q : Option Value → zi_M → Prop) : zi_B sc 0 0 59 0 lv st M Q = zi_wp sc 0 0 59 Q zc_59_0 lv st M := zi_blk zc_59_0 rfl ⟨Nat.zero_le _, Nat.zero_le _⟩ rfl lv st M Q
theorem zb_59_1 (sc : Nat × (Nat → Int32)) (lv : zi_L) (st : List Value) (M : zi_M) (Q : Option Value → zi_M → Prop) : zi_B sc 0 0 59 1 lv st M Q = zi_wp sc 0 0 59 Q zc_59_1 lv st M := zi_blk zc_59_1 rfl ⟨Nat.zero_le _, Nat.zero_le _⟩ rfl lv st M Q
theorem zb_59_2 (sc : Nat × (Nat → Int32)) (lv : zi_L) (st : List Value) (M : zi_M) (Q : Option Value → zi_M → Prop) : zi_B sc 0 0 59 2 lv st M Q = zi_wp sc 0 0 59 Q zc_59_2 lv st M := zi_blk zc_59_2 rfl ⟨Nat.zero_le _, Nat.zero_le _⟩ rfl lv st M Q
theorem zb_59_3 (sc : Nat × (Nat → Int32)) (lv : zi_L) (st : List Value) (M : zi_M) (Q : Option Value → zi_M → Prop) : zi_B sc 0 0 59 3 lv st M Q = zi_wp sc 0 0 59 Q zc_59_3 lv st M := zi_blk zc_59_3 rfl ⟨Nat.zero_le _, Nat.zero_le _⟩ rfl lv st M Q
theorem zb_59_4 (sc : Nat × (Nat → Int32)) (lv : zi_L) (st : List Value) (M : zi_M) (Q : Option Value → zi_M → Prop) : zi_B sc 0 0 59 4 lv st M Q = zi_wp sc 0 0 59 Q zc_59_4 lv st M := zi_blk zc_59_4 rfl ⟨Nat.zero_le _, Nat.zero_le _⟩ rfl lv st M Q
theorem zb_59_5 (sc : Nat × (Nat → Int32)) (lv : zi_L) (st : List Value) (M : zi_M) (Q : Option Value → zi_M → Prop) : zi_B sc 0 0 59 5 lv st M Q = zi_wp sc 0 0 59 Q zc_59_5 lv st M := zi_blk zc_59_5 rfl ⟨Nat.zero_le _, Nat.zero_le _⟩ rfl lv st M Q
theorem zb_60_0 (sc : Nat × (Nat → Int32)) (lv : zi_L) (st : List Value) (M : zi_M) (Q : Option Value → zi_M → Prop) : zi_B sc 0 0 60 0 lv st M Q = zi_wp sc 0 0 60 Q zc_60_0 lv st M := zi_blk zc_60_0 rfl ⟨Nat.zero_le _, Nat.zero_le _⟩ rfl lv st M Q
theorem zb_60_1 (sc : Nat × (Nat → Int32)) (lv : zi_L) (st : List Value) (M : zi_M) (Q : Option Value → zi_M → Prop) : zi_B sc 0 0 60 1 lv st M Q = zi_wp sc 0 0 60 Q zc_60_1 lv st M := zi_blk zc_60_1 rfl ⟨Nat.zero_le _, Nat.zero_le _⟩ rfl lv st M Q
theorem zb_60_2 (sc : Nat × (Nat → Int32)) (lv : zi_L) (st : List Value) (M : zi_M) (Q : Option Value → zi_M → Prop) : zi_B sc 0 0 60 2 lv st M Q = zi_wp sc 0 0 60 Q zc_60_2 lv st M := zi_blk zc_60_2 rfl ⟨Nat.zero_le _, Nat.zero_le _⟩ rfl lv st M Q
theorem zb_60_3 (sc : Nat × (Nat → Int32)) (lv : zi_L) (st : List Value) (M : zi_M) (Q : Option Value → zi_M → Prop) : zi_B sc 0 0 60 3 lv st M Q = zi_wp sc 0 0 60 Q zc_60_3 lv st M := zi_blk zc_60_3 rfl ⟨Nat.zero_le _, Nat.zero_le _⟩ rfl lv st M Q
theorem zb_60_4 (sc : Nat × (Nat → Int32)) (lv : zi_L) (st : List Value) (M : zi_M) (Q : Option Value → zi_M → Prop) : zi_B sc 0 0 60 4 lv st M Q = zi_wp sc 0 0 60 Q zc_60_4 lv st M := zi_blk zc_60_4 rfl ⟨Nat.zero_le _, Nat.zero_le _⟩ rfl lv st M Q
theorem zb_60_5 (sc : Nat × (Nat → Int32)) (lv : zi_L) (st : List Value) (M : zi_M) (Q : Option Value → zi_M → Prop) : zi_B sc 0 0 60 5 lv st M Q = zi_wp sc 0 0 60 Q zc_60_5 lv st M := zi_blk zc_60_5 rfl ⟨Nat.zero_le _, Nat.zero_le _⟩ rfl lv st M Q
theorem zb_60_6 (sc : Nat × (Nat → Int32)) (lv : zi_L) (st : List Value) (M : zi_M) (Q : Option Value → zi_M → Prop) : zi_B sc 0 0 60 6 lv st M Q = zi_wp sc 0 0 60 Q zc_60_6 lv st M := zi_blk zc_60_6 rfl ⟨Nat.zero_le _, Nat.zero_le _⟩ rfl lv st M Q
theorem zb_60_7 (sc : Nat × (Nat → Int32)) (lv : zi_L) (st : List Value) (M : zi_M) (Q : Option Value → zi_M → Prop) : zi_B sc 0 0 60 7 lv st M Q = zi_wp sc 0 0 60 Q zc_60_7 lv st M := zi_blk zc_60_7 rfl ⟨Nat.zero_le _, Nat.zero_le _⟩ rfl lv st M Q
theorem zb_60_8 (sc : Nat × (Nat → Int32)) (lv : zi_L) (st : List Value) (M : zi_M) (Q : Option Value → zi_M → Prop) : zi_B sc 0 0 60 8 lv st M Q = zi_wp sc 0 0 60 Q zc_60_8 lv st M := zi_blk zc_60_8 rfl ⟨Nat.zero_le _, Nat.zero_le _⟩ rfl lv st M Q
theorem zb_60_9 (sc : Nat × (Nat → Int32)) (lv : zi_L) (st : List Value) (M : zi_M) (Q : Option Value → zi_M → Prop) : zi_B sc 0 0 60 9 lv st M Q = zi_wp sc 0 0 60 Q zc_60_9 lv st M := zi_blk zc_60_9 rfl ⟨Nat.zero_le _, Nat.zero_le _⟩ rfl lv st M Q
theorem zb_60_10 (sc : Nat × (Nat → Int32)) (lv : zi_L) (st : List Value) (M : zi_M) (Q : Option Value → zi_M → Prop) : zi_B sc 0 0 60 10 lv st M Q = zi_wp sc 0 0 60 Q zc_60_10 lv st M := zi_blk zc_60_10 rfl ⟨Nat.zero_le _, Nat.zero_le _⟩ rfl lv st M Q
theorem zb_60_11 (sc : Nat × (Nat → Int32)) (lv : zi_L) (st : List Value) (M : zi_M) (Q : Option Value → zi_M → Prop) : zi_B sc 0 0 60 11 lv st M Q = zi_wp sc 0 0 60 Q zc_60_11 lv st M := zi_blk zc_60_11 rfl ⟨Nat.zero_le _, Nat.zero_le _⟩ rfl lv st M Q
theorem zb_61_0 (sc : Nat × (Nat → Int32)) (lv : zi_L) (st : List Value) (M : zi_M) (Q : Option Value → zi_M → Prop) : zi_B sc 0 0 61 0 lv st M Q = zi_wp sc 0 0 61 Q zc_61_0 lv st M := zi_blk zc_61_0 rfl ⟨Nat.zero_le _, Nat.zero_le _⟩ rfl lv st M Q
theorem zb_61_1 (sc : Nat × (Nat → Int32)) (lv : zi_L) (st : List Value) (M : zi_M) (Q : Option Value → zi_M → Prop) : zi_B sc 0 0 61 1 lv st M Q = zi_wp sc 0 0 61 Q zc_61_1 lv st M := zi_blk zc_61_1 rfl ⟨Nat.zero_le _, Nat.zero_le _⟩ rfl lv st M Q
theorem zb_61_2 (sc : Nat × (Nat → Int32)) (lv : zi_L) (st : List Value) (M : zi_M) (Q : Option Value → zi_M → Prop) : zi_B sc 0 0 61 2 lv st M Q = zi_wp sc 0 0 61 Q zc_61_2 lv st M := zi_blk zc_61_2 rfl ⟨Nat.zero_le _, Nat.zero_le _⟩ rfl lv st M Q
theorem zb_62_0 (sc : Nat × (Nat → Int32)) (lv : zi_L) (st : List Value) (M : zi_M) (Q : Option Value → zi_M → Prop) : zi_B sc 0 0 62 0 lv st M Q = zi_wp sc 0 0 62 Q zc_62_0 lv st M := zi_blk zc_62_0 rfl ⟨Nat.zero_le _, Nat.zero_le _⟩ rfl lv st M Q
theorem zb_62_1 (sc : Nat × (Nat → Int32)) (lv : zi_L) (st : List Value) (M : zi_M) (Q : Option Value → zi_M → Prop) : zi_B sc 0 0 62 1 lv st M Q = zi_wp sc 0 0 62 Q zc_62_1 lv st M := zi_blk zc_62_1 rfl ⟨Nat.zero_le _, Nat.zero_le _⟩ rfl lv st M Q
theorem zb_62_2 (sc : Nat × (Nat → Int32)) (lv : zi_L) (st : List Value) (M : zi_M) (Q : Option Value → zi_M → Prop) : zi_B sc 0 0 62 2 lv st M Q = zi_wp sc 0 0 62 Q zc_62_2 lv st M := zi_blk zc_62_2 rfl ⟨Nat.zero_le _, Nat.zero_le _⟩ rfl lv st M Q
theorem zb_63_0 (sc : Nat × (Nat → Int32)) (lv : zi_L) (st : List Value) (M : zi_M) (Q : Option Value → zi_M → Prop) : zi_B sc 0 0 63 0 lv st M Q = zi_wp sc 0 0 63 Q zc_63_0 lv st M := zi_blk zc_63_0 rfl ⟨Nat.zero_le _, Nat.zero_le _⟩ rfl lv st M Q
theorem zb_63_1 (sc : Nat × (Nat → Int32)) (lv : zi_L) (st : List Value) (M : zi_M) (Q : Option Value → zi_M → Prop) : zi_B sc 0 0 63 1 lv st M Q = zi_wp sc 0 0 63 Q zc_63_1 lv st M := zi_blk zc_63_1 rfl ⟨Nat.zero_le _, Nat.zero_le _⟩ rfl lv st M Q
theorem zb_63_2 (sc : Nat × (Nat → Int32)) (lv : zi_L) (st : List Value) (M : zi_M) (Q : Option Value → zi_M → Prop) : zi_B sc 0 0 63 2 lv st M Q = zi_wp sc 0 0 63 Q zc_63_2 lv st M := zi_blk zc_63_2 rfl ⟨Nat.zero_le _, Nat.zero_le _⟩ rfl lv st M Q
theorem zb_63_3 (sc : Nat × (Nat → Int32)) (lv : zi_L) (st : List Value) (M : zi_M) (Q : Option Value → zi_M → Prop) : zi_B sc 0 0 63 3 lv st M Q = zi_wp sc 0 0 63 Q zc_63_3 lv st M := zi_blk zc_63_3 rfl ⟨Nat.zero_le _, Nat.zero_le _⟩ rfl lv st M Q
theorem zb_63_4 (sc : Nat × (Nat → Int32)) (lv : zi_L) (st : List Value) (M : zi_M) (Q : Option Value → zi_M → Prop) : zi_B sc 0 0 63 4 lv st M Q = zi_wp sc 0 0 63 Q zc_63_4 lv st M := zi_blk zc_63_4 rfl ⟨Nat.zero_le _, Nat.zero_le _⟩ rfl lv st M Q
theorem zb_63_5 (sc : Nat × (Nat → Int32)) (lv : zi_L) (st : List Value) (M : zi_M) (Q : Option Value → zi_M → Prop) : zi_B sc 0 0 63 5 lv st M Q = zi_wp sc 0 0 63 Q zc_63_5 lv st M := zi_blk zc_63_5 rfl ⟨Nat.zero_le _, Nat.zero_le _⟩ rfl lv st M Q
theorem zb_63_6 (sc : Nat × (Nat → Int32)) (lv : zi_L) (st : List Value) (M : zi_M) (Q : Option Value → zi_M → Prop) : zi_B sc 0 0 63 6 lv st M Q = zi_wp sc 0 0 63 Q zc_63_6 lv st M := zi_blk zc_63_6 rfl ⟨Nat.zero_le _, Nat.zero_le _⟩ rfl lv st M Q
theorem zb_63_7 (sc : Nat × (Nat → Int32)) (lv : zi_L) (st : List Value) (M : zi_M) (Q : Option Value → zi_M → Prop) : zi_B sc 0 0 63 7 lv st M Q = zi_wp sc 0 0 63 Q zc_63_7 lv st M := zi_blk zc_63_7 rfl ⟨Nat.zero_le _, Nat.zero_le _⟩ rfl lv st M Q
theorem zb_63_8 (sc : Nat × (Nat → Int32)) (lv : zi_L) (st : List Value) (M : zi_M) (Q : Option Value → zi_M → Prop) : zi_B sc 0 0 63 8 lv st M Q = zi_wp sc 0 0 63 Q zc_63_8 lv st M := zi_blk zc_63_8 rfl ⟨Nat.zero_le _, Nat.zero_le _⟩ rfl lv st M Q
theorem zb_63_9 (sc : Nat × (Nat → Int32)) (lv : zi_L) (st : List Value) (M : zi_M) (Q : Option Value → zi_M → Prop) : zi_B sc 0 0 63 9 lv st M Q = zi_wp sc 0 0 63 Q zc_63_9 lv st M := zi_blk zc_63_9 rfl ⟨Nat.zero_le _, Nat.zero_le _⟩ rfl lv st M Q
theorem zb_63_10 (sc : Nat × (Nat → Int32)) (lv : zi_L) (st : List Value) (M : zi_M) (Q : Option Value → zi_M → Prop) : zi_B sc 0 0 63 10 lv st M Q = zi_wp sc 0 0 63 Q zc_63_10 lv st M := zi_blk zc_63_10 rfl ⟨Nat.zero_le _, Nat.zero_le _⟩ rfl lv st M Q
theorem zb_64_0 (sc : Nat × (Nat → Int32)) (lv : zi_L) (st : List Value) (M : zi_M) (Q : Option Value → zi_M → Prop) : zi_B sc 0 0 64 0 lv st M Q = zi_wp sc 0 0 64 Q zc_64_0 lv st M := zi_blk zc_64_0 rfl ⟨Nat.zero_le _, Nat.zero_le _⟩ rfl lv st M Q
theorem zb_64_1 (sc : Nat × (Nat → Int32)) (lv : zi_L) (st : List Value) (M : zi_M) (Q : Option Value → zi_M → Prop) : zi_B sc 0 0 64 1 lv st M Q = zi_wp sc 0 0 64 Q zc_64_1 lv st M := zi_blk zc_64_1 rfl ⟨Nat.zero_le _, Nat.zero_le _⟩ rfl lv st M Q
theorem zb_64_2 (sc : Nat × (Nat → Int32)) (lv : zi_L) (st : List Value) (M : zi_M) (Q : Option Value → zi_M → Prop) : zi_B sc 0 0 64 2 lv st M Q = zi_wp sc 0 0 64 Q zc_64_2 lv st M := zi_blk zc_64_2 rfl ⟨Nat.zero_le _, Nat.zero_le _⟩ rfl lv st M Q
theorem zb_65_0 (sc : Nat × (Nat → Int32)) (lv : zi_L) (st : List Value) (M : zi_M) (Q : Option Value → zi_M → Prop) : zi_B sc 0 0 65 0 lv st M Q = zi_wp sc 0 0 65 Q zc_65_0 lv st M := zi_blk zc_65_0 rfl ⟨Nat.zero_le _, Nat.zero_le _⟩ rfl lv st M Q
theorem zb_65_1 (sc : Nat × (Nat → Int32)) (lv : zi_L) (st : List Value) (M : zi_M) (Q : Option Value → zi_M → Prop) : zi_B sc 0 0 65 1 lv st M Q = zi_wp sc 0 0 65 Q zc_65_1 lv st M := zi_blk zc_65_1 rfl ⟨Nat.zero_le _, Nat.zero_le _⟩ rfl lv st M Q
theorem zb_65_2 (sc : Nat × (Nat → Int32)) (lv : zi_L) (st : List Value) (M : zi_M) (Q : Option Value → zi_M → Prop) : zi_B sc 0 0 65 2 lv st M Q = zi_wp sc 0 0 65 Q zc_65_2 lv st M := zi_blk zc_65_2 rfl ⟨Nat.zero_le _, Nat.zero_le _⟩ rfl lv st M Q
theorem zb_65_3 (sc : Nat × (Nat → Int32)) (lv : zi_L) (st : List Value) (M : zi_M) (Q : Option Value → zi_M → Prop) : zi_B sc 0 0 65 3 lv st M Q = zi_wp sc 0 0 65 Q zc_65_3 lv st M := zi_blk zc_65_3 rfl ⟨Nat.zero_le _, Nat.zero_le _⟩ rfl lv st M Q
theorem zb_65_4 (sc : Nat × (Nat → Int32)) (lv : zi_L) (st : List Value) (M : zi_M) (Q : Option Value → zi_M → Prop) : zi_B sc 0 0 65 4 lv st M Q = zi_wp sc 0 0 65 Q zc_65_4 lv st M := zi_blk zc_65_4 rfl ⟨Nat.zero_le _, Nat.zero_le _⟩ rfl lv st M Q
theorem zb_65_5 (sc : Nat × (Nat → Int32)) (lv : zi_L) (st : List Value) (M : zi_M) (Q : Option Value → zi_M → Prop) : zi_B sc 0 0 65 5 lv st M Q = zi_wp sc 0 0 65 Q zc_65_5 lv st M := zi_blk zc_65_5 rfl ⟨Nat.zero_le _, Nat.zero_le _⟩ rfl lv st M Q
theorem zb_65_6 (sc : Nat × (Nat → Int32)) (lv : zi_L) (st : List Value) (M : zi_M) (Q : Option Value → zi_M → Prop) : zi_B sc 0 0 65 6 lv st M Q = zi_wp sc 0 0 65 Q zc_65_6 lv st M := zi_blk zc_65_6 rfl ⟨Nat.zero_le _, Nat.zero_le _⟩ rfl lv st M Q
theorem zb_65_7 (sc : Nat × (Nat → Int32)) (lv : zi_L) (st : List Value) (M : zi_M) (Q : Option Value → zi_M → Prop) : zi_B sc 0 0 65 7 lv st M Q = zi_wp sc 0 0 65 Q zc_65_7 lv st M := zi_blk zc_65_7 rfl ⟨Nat.zero_le _, Nat.zero_le _⟩ rfl lv st M Q
theorem zb_65_8 (sc : Nat × (Nat → Int32)) (lv : zi_L) (st : List Value) (M : zi_M) (Q : Option Value → zi_M → Prop) : zi_B sc 0 0 65 8 lv st M Q = zi_wp sc 0 0 65 Q zc_65_8 lv st M := zi_blk zc_65_8 rfl ⟨Nat.zero_le _, Nat.zero_le _⟩ rfl lv st M Q
theorem zb_65_9 (sc : Nat × (Nat → Int32)) (lv : zi_L) (st : List Value) (M : zi_M) (Q : Option Value → zi_M → Prop) : zi_B sc 0 0 65 9 lv st M Q = zi_wp sc 0 0 65 Q zc_65_9 lv st M := zi_blk zc_65_9 rfl ⟨Nat.zero_le _, Nat.zero_le _⟩ rfl lv st M Q
theorem zb_65_10 (sc : Nat × (Nat → Int32)) (lv : zi_L) (st : List Value) (M : zi_M) (Q : Option Value → zi_M → Prop) : zi_B sc 0 0 65 10 lv st M Q = zi_wp sc 0 0 65 Q zc_65_10 lv st M := zi_blk zc_65_10 rfl ⟨Nat.zero_le _, Nat.zero_le _⟩ rfl lv st M Q
theorem zb_65_11 (sc : Nat × (Nat → Int32)) (lv : zi_L) (st : List Value) (M : zi_M) (Q : Option Value → zi_M → Prop) : zi_B sc 0 0 65 11 lv st M Q = zi_wp sc 0 0 65 Q zc_65_11 lv st M := zi_blk zc_65_11 rfl ⟨Nat.zero_le _, Nat.zero_le _⟩ rfl lv st M Q
theorem zb_65_12 (sc : Nat × (Nat → Int32)) (lv : zi_L) (st : List Value) (M : zi_M) (Q : Option Value → zi_M → Prop) : zi_B sc 0 0 65 12 lv st M Q = zi_wp sc 0 0 65 Q zc_65_12 lv st M := zi_blk zc_65_12 rfl ⟨Nat.zero_le _, Nat.zero_le _⟩ rfl lv st M Q
theorem zb_66_0 (sc : Nat × (Nat → Int32)) (lv : zi_L) (st : List Value) (M : zi_M) (Q : Option Value → zi_M → Prop) : zi_B sc 0 0 66 0 lv st M Q = zi_wp sc 0 0 66 Q zc_66_0 lv st M := zi_blk zc_66_0 rfl ⟨Nat.zero_le _, Nat.zero_le _⟩ rfl lv st M Q
theorem zb_66_1 (sc : Nat × (Nat → Int32)) (lv : zi_L) (st : List Value) (M : zi_M) (Q : Option Value → zi_M → Prop) : zi_B sc 0 0 66 1 lv st M Q = zi_wp sc 0 0 66 Q zc_66_1 lv st M := zi_blk zc_66_1 rfl ⟨Nat.zero_le _, Nat.zero_le _⟩ rfl lv st M Q
theorem zb_66_2 (sc : Nat × (Nat → Int32)) (lv : zi_L) (st : List Value) (M : zi_M) (Q : Option Value → zi_M → Prop) : zi_B sc 0 0 66 2 lv st M Q = zi_wp sc 0 0 66 Q zc_66_2 lv st M := zi_blk zc_66_2 rfl ⟨Nat.zero_le _, Nat.zero_le _⟩ rfl lv st M Q
theorem zb_66_3 (sc : Nat × (Nat → Int32)) (lv : zi_L) (st : List Value) (M : zi_M) (Q : Option Value → zi_M → Prop) : zi_B sc 0 0 66 3 lv st M Q = zi_wp sc 0 0 66 Q zc_66_3 lv st M := zi_blk zc_66_3 rfl ⟨Nat.zero_le _, Nat.zero_le _⟩ rfl lv st M Q
theorem zb_67_0 (sc : Nat × (Nat → Int32)) (lv : zi_L) (st : List Value) (M : zi_M) (Q : Option Value → zi_M → Prop) : zi_B sc 0 0 67 0 lv st M Q = zi_wp sc 0 0 67 Q zc_67_0 lv st M := zi_blk zc_67_0 rfl ⟨Nat.zero_le _, Nat.zero_le _⟩ rfl lv st M Q
theorem zb_67_1 (sc : Nat × (Nat → Int32)) (lv : zi_L) (st : List Value) (M : zi_M) (Q : Option Value → zi_M → Prop) : zi_B sc 0 0 67 1 lv st M Q = zi_wp sc 0 0 67 Q zc_67_1 lv st M := zi_blk zc_67_1 rfl ⟨Nat.zero_le _, Nat.zero_le _⟩ rfl lv st M Q
theorem zb_67_2 (sc : Nat × (Nat → Int32)) (lv : zi_L) (st : List Value) (M : zi_M) (Q : Option Value → zi_M → Prop) : zi_B sc 0 0 67 2 lv st M Q = zi_wp sc 0 0 67 Q zc_67_2 lv st M := zi_blk zc_67_2 rfl ⟨Nat.zero_le _, Nat.zero_le _⟩ rfl lv st M Q
theorem zb_67_3 (sc : Nat × (Nat → Int32)) (lv : zi_L) (st : List Value) (M : zi_M) (Q : Option Value → zi_M → Prop) : zi_B sc 0 0 67 3 lv st M Q = zi_wp sc 0 0 67 Q zc_67_3 lv st M := zi_blk zc_67_3 rfl ⟨Nat.zero_le _, Nat.zero_le _⟩ rfl lv st M Q
theorem zb_67_4 (sc : Nat × (Nat → Int32)) (lv : zi_L) (st : List Value) (M : zi_M) (Q : Option Value → zi_M → Prop) : zi_B sc 0 0 67 4 lv st M Q = zi_wp sc 0 0 67 Q zc_67_4 lv st M := zi_blk zc_67_4 rfl ⟨Nat.zero_le _, Nat.zero_le _⟩ rfl lv st M Q
theorem zb_67_5 (sc : Nat × (Nat → Int32)) (lv : zi_L) (st : List Value) (M : zi_M) (Q : Option Value → zi_M → Prop) : zi_B sc 0 0 67 5 lv st M Q = zi_wp sc 0 0 67 Q zc_67_5 lv st M := zi_blk zc_67_5 rfl ⟨Nat.zero_le _, Nat.zero_le _⟩ rfl lv st M Q
theorem zb_67_6 (sc : Nat × (Nat → Int32)) (lv : zi_L) (st : List Value) (M : zi_M) (Q : Option Value → zi_M → Prop) : zi_B sc 0 0 67 6 lv st M Q = zi_wp sc 0 0 67 Q zc_67_6 lv st M := zi_blk zc_67_6 rfl ⟨Nat.zero_le _, Nat.zero_le _⟩ rfl lv st M Q
theorem zb_67_7 (sc : Nat × (Nat → Int32)) (lv : zi_L) (st : List Value) (M : zi_M) (Q : Option Value → zi_M → Prop) : zi_B sc 0 0 67 7 lv st M Q = zi_wp sc 0 0 67 Q zc_67_7 lv st M := zi_blk zc_67_7 rfl ⟨Nat.zero_le _, Nat.zero_le _⟩ rfl lv st M Q
theorem zb_67_8 (sc : Nat × (Nat → Int32)) (lv : zi_L) (st : List Value) (M : zi_M) (Q : Option Value → zi_M → Prop) : zi_B sc 0 0 67 8 lv st M Q = zi_wp sc 0 0 67 Q zc_67_8 lv st M := zi_blk zc_67_8 rfl ⟨Nat.zero_le _, Nat.zero_le _⟩ rfl lv st M Q
theorem zb_67_9 (sc : Nat × (Nat → Int32)) (lv : zi_L) (st : List Value) (M : zi_M) (Q : Option Value → zi_M → Prop) : zi_B sc 0 0 67 9 lv st M Q = zi_wp sc 0 0 67 Q zc_67_9 lv st M := zi_blk zc_67_9 rfl ⟨Nat.zero_le _, Nat.zero_le _⟩ rfl lv st M Q
theorem zb_68_0 (sc : Nat × (Nat → Int32)) (lv : zi_L) (st : List Value) (M : zi_M) (Q : Option Value → zi_M → Prop) : zi_B sc 0 0 68 0 lv st M Q = zi_wp sc 0 0 68 Q zc_68_0 lv st M := zi_blk zc_68_0 rfl ⟨Nat.zero_le _, Nat.zero_le _⟩ rfl lv st M Q
theorem zb_68_1 (sc : Nat × (Nat → Int32)) (lv : zi_L) (st : List Value) (M : zi_M) (Q : Option Value → zi_M → Prop) : zi_B sc 0 0 68 1 lv st M Q = zi_wp sc 0 0 68 Q zc_68_1 lv st M := zi_blk zc_68_1 rfl ⟨Nat.zero_le _, Nat.zero_le _⟩ rfl lv st M Q
theorem zb_68_2 (sc : Nat × (Nat → Int32)) (lv : zi_L) (st : List Value) (M : zi_M) (Q : Option Value → zi_M → Prop) : zi_B sc 0 0 68 2 lv st M Q = zi_wp sc 0 0 68 Q zc_68_2 lv st M := zi_blk zc_68_2 rfl ⟨Nat.zero_le _, Nat.zero_le _⟩ rfl lv st M Q
theorem zb_68_3 (sc : Nat × (Nat → Int32)) (lv : zi_L) (st : List Value) (M : zi_M) (Q : Option Value → zi_M → Prop) : zi_B sc 0 0 68 3 lv st M Q = zi_wp sc 0 0 68 Q zc_68_3 lv st M := zi_blk zc_68_3 rfl ⟨Nat.zero_le _, Nat.zero_le _⟩ rfl lv st M Q
theorem zb_68_4 (sc : Nat × (Nat → Int32)) (lv : zi_L) (st : List Value) (M : zi_M) (Q : Option Value → zi_M → Prop) : zi_B sc 0 0 68 4 lv st M Q = zi_wp sc 0 0 68 Q zc_68_4 lv st M := zi_blk zc_68_4 rfl ⟨Nat.zero_le _, Nat.zero_le _⟩ rfl lv st M Q
theorem zb_68_5 (sc : Nat × (Nat → Int32)) (lv : zi_L) (st : List Value) (M : zi_M) (Q : Option Value → zi_M → Prop) : zi_B sc 0 0 68 5 lv st M Q = zi_wp sc 0 0 68 Q zc_68_5 lv st M := zi_blk zc_68_5 rfl ⟨Nat.zero_le _, Nat.zero_le _⟩ rfl lv st M Q
theorem zb_69_0 (sc : Nat × (Nat → Int32)) (lv : zi_L) (st : List Value) (M : zi_M) (Q : Option Value → zi_M → Prop) : zi_B sc 0 0 69 0 lv st M Q = zi_wp sc 0 0 69 Q zc_69_0 lv st M := zi_blk zc_69_0 rfl ⟨Nat.zero_le _, Nat.zero_le _⟩ rfl lv st M Q
theorem zb_69_1 (sc : Nat × (Nat → Int32)) (lv : zi_L) (st : List Value) (M : zi_M) (Q : Option Value → zi_M → Prop) : zi_B sc 0 0 69 1 lv st M Q = zi_wp sc 0 0 69 Q zc_69_1 lv st M := zi_blk zc_69_1 rfl ⟨Nat.zero_le _, Nat.zero_le _⟩ rfl lv st M Q
theorem zb_69_2 (sc : Nat × (Nat → Int32)) (lv : zi_L) (st : List Value) (M : zi_M) (Q : Option Value → zi_M → Prop) : zi_B sc 0 0 69 2 lv st M Q = zi_wp sc 0 0 69 Q zc_69_2 lv st M := zi_blk zc_69_2 rfl ⟨Nat.zero_le _, Nat.zero_le _⟩ rfl lv st M Q
theorem zb_70_0 (sc : Nat × (Nat → Int32)) (lv : zi_L) (st : List Value) (M : zi_M) (Q : Option Value → zi_M → Prop) : zi_B sc 0 0 70 0 lv st M Q = zi_wp sc 0 0 70 Q zc_70_0 lv st M := zi_blk zc_70_0 rfl ⟨Nat.zero_le _, Nat.zero_le _⟩ rfl lv st M Q
theorem zb_70_1 (sc : Nat × (Nat → Int32)) (lv : zi_L) (st : List Value) (M : zi_M) (Q : Option Value → zi_M → Prop) : zi_B sc 0 0 70 1 lv st M Q = zi_wp sc 0 0 70 Q zc_70_1 lv st M := zi_blk zc_70_1 rfl ⟨Nat.zero_le _, Nat.zero_le _⟩ rfl lv st M Q
theorem zb_70_2 (sc : Nat × (Nat → Int32)) (lv : zi_L) (st : List Value) (M : zi_M) (Q : Option Value → zi_M → Prop) : zi_B sc 0 0 70 2 lv st M Q = zi_wp sc 0 0 70 Q zc_70_2 lv st M := zi_blk zc_70_2 rfl ⟨Nat.zero_le _, Nat.zero_le _⟩ rfl lv st M Q
theorem zb_70_3 (sc : Nat × (Nat → Int32)) (lv : zi_L) (st : List Value) (M : zi_M) (Q : Option Value → zi_M → Prop) : zi_B sc 0 0 70 3 lv st M Q = zi_wp sc 0 0 70 Q zc_70_3 lv st M := zi_blk zc_70_3 rfl ⟨Nat.zero_le _, Nat.zero_le _⟩ rfl lv st M Q
theorem zb_70_4 (sc : Nat × (Nat → Int32)) (lv : zi_L) (st : List Value) (M : zi_M) (Q : Option Value → zi_M → Prop) : zi_B sc 0 0 70 4 lv st M Q = zi_wp sc 0 0 70 Q zc_70_4 lv st M := zi_blk zc_70_4 rfl ⟨Nat.zero_le _, Nat.zero_le _⟩ rfl lv st M Q
theorem zb_70_5 (sc : Nat × (Nat → Int32)) (lv : zi_L) (st : List Value) (M : zi_M) (Q : Option Value → zi_M → Prop) : zi_B sc 0 0 70 5 lv st M Q = zi_wp sc 0 0 70 Q zc_70_5 lv st M := zi_blk zc_70_5 rfl ⟨Nat.zero_le _, Nat.zero_le _⟩ rfl lv st M Q
theorem zb_71_0 (sc : Nat × (Nat → Int32)) (lv : zi_L) (st : List Value) (M : zi_M) (Q : Option Value → zi_M → Prop) : zi_B sc 0 0 71 0 lv st M Q = zi_wp sc 0 0 71 Q zc_71_0 lv st M := zi_blk zc_71_0 rfl ⟨Nat.zero_le _, Nat.zero_le _⟩ rfl lv st M Q
theorem zb_71_1 (sc : Nat × (Nat → Int32)) (lv : zi_L) (st : List Value) (M : zi_M) (Q : Option Value → zi_M → Prop) : zi_B sc 0 0 71 1 lv st M Q = zi_wp sc 0 0 71 Q zc_71_1 lv st M := zi_blk zc_71_1 rfl ⟨Nat.zero_le _, Nat.zero_le _⟩ rfl lv st M Q
theorem zb_71_2 (sc : Nat × (Nat → Int32)) (lv : zi_L) (st : List Value) (M : zi_M) (Q : Option Value → zi_M → Prop) : zi_B sc 0 0 71 2 lv st M Q = zi_wp sc 0 0 71 Q zc_71_2 lv st M := zi_blk zc_71_2 rfl ⟨Nat.zero_le _, Nat.zero_le _⟩ rfl lv st M Q
theorem zb_71_3 (sc : Nat × (Nat → Int32)) (lv : zi_L) (st : List Value) (M : zi_M) (Q : Option Value → zi_M → Prop) : zi_B sc 0 0 71 3 lv st M Q = zi_wp sc 0 0 71 Q zc_71_3 lv st M := zi_blk zc_71_3 rfl ⟨Nat.zero_le _, Nat.zero_le _⟩ rfl lv st M Q
theorem zb_71_4 (sc : Nat × (Nat → Int32)) (lv : zi_L) (st : List Value) (M : zi_M) (Q : Option Value → zi_M → Prop) : zi_B sc 0 0 71 4 lv st M Q = zi_wp sc 0 0 71 Q zc_71_4 lv st M := zi_blk zc_71_4 rfl ⟨Nat.zero_le _, Nat.zero_le _⟩ rfl lv st M Q
theorem zb_71_5 (sc : Nat × (Nat → Int32)) (lv : zi_L) (st : List Value) (M : zi_M) (Q : Option Value → zi_M → Prop) : zi_B sc 0 0 71 5 lv st M Q = zi_wp sc 0 0 71 Q zc_71_5 lv st M := zi_blk zc_71_5 rfl ⟨Nat.zero_le _, Nat.zero_le _⟩ rfl lv st M Q
theorem zb_72_0 (sc : Nat × (Nat → Int32)) (lv : zi_L) (st : List Value) (M : zi_M) (Q : Option Value → zi_M → Prop) : zi_B sc 0 0 72 0 lv st M Q = zi_wp sc 0 0 72 Q zc_72_0 lv st M := zi_blk zc_72_0 rfl ⟨Nat.zero_le _, Nat.zero_le _⟩ rfl lv st M Q
theorem zb_72_1 (sc : Nat × (Nat → Int32)) (lv : zi_L) (st : List Value) (M : zi_M) (Q : Option Value → zi_M → Prop) : zi_B sc 0 0 72 1 lv st M Q = zi_wp sc 0 0 72 Q zc_72_1 lv st M := zi_blk zc_72_1 rfl ⟨Nat.zero_le _, Nat.zero_le _⟩ rfl lv st M Q
theorem zb_72_2 (sc : Nat × (Nat → Int32)) (lv : zi_L) (st : List Value) (M : zi_M) (Q : Option Value → zi_M → Prop) : zi_B sc 0 0 72 2 lv st M Q = zi_wp sc 0 0 72 Q zc_72_2 lv st M := zi_blk zc_72_2 rfl ⟨Nat.zero_le _, Nat.zero_le _⟩ rfl lv st M Q
theorem zb_73_0 (sc : Nat × (Nat → Int32)) (lv : zi_L) (st : List Value) (M : zi_M) (Q : Option Value → zi_M → Prop) : zi_B sc 0 0 73 0 lv st M Q = zi_wp sc 0 0 73 Q zc_73_0 lv st M := zi_blk zc_73_0 rfl ⟨Nat.zero_le _, Nat.zero_le _⟩ rfl lv st M Q
theorem zb_73_1 (sc : Nat × (Nat → Int32)) (lv : zi_L) (st : List Value) (M : zi_M) (Q : Option Value → zi_M → Prop) : zi_B sc 0 0 73 1 lv st M Q = zi_wp sc 0 0 73 Q zc_73_1 lv st M := zi_blk zc_73_1 rfl ⟨Nat.zero_le _, Nat.zero_le _⟩ rfl lv st M Q
theorem zb_73_2 (sc : Nat × (Nat → Int32)) (lv : zi_L) (st : List Value) (M : zi_M) (Q : Option Value → zi_M → Prop) : zi_B sc 0 0 73 2 lv st M Q = zi_wp sc 0 0 73 Q zc_73_2 lv st M := zi_blk zc_73_2 rfl ⟨Nat.zero_le _, Nat.zero_le _⟩ rfl lv st M Q
theorem zb_73_3 (sc : Nat × (Nat → Int32)) (lv : zi_L) (st : List Value) (M : zi_M) (Q : Option Value → zi_M → Prop) : zi_B sc 0 0 73 3 lv st M Q = zi_wp sc 0 0 73 Q zc_73_3 lv st M := zi_blk zc_73_3 rfl ⟨Nat.zero_le _, Nat.zero_le _⟩ rfl lv st M Q
theorem zb_74_0 (sc : Nat × (Nat → Int32)) (lv : zi_L) (st : List Value) (M : zi_M) (Q : Option Value → zi_M → Prop) : zi_B sc 0 0 74 0 lv st M Q = zi_wp sc 0 0 74 Q zc_74_0 lv st M := zi_blk zc_74_0 rfl ⟨Nat.zero_le _, Nat.zero_le _⟩ rfl lv st M Q
theorem zb_74_1 (sc : Nat × (Nat → Int32)) (lv : zi_L) (st : List Value) (M : zi_M) (Q : Option Value → zi_M → Prop) : zi_B sc 0 0 74 1 lv st M Q = zi_wp sc 0 0 74 Q zc_74_1 lv st M := zi_blk zc_74_1 rfl ⟨Nat.zero_le _, Nat.zero_le _⟩ rfl lv st M Q
theorem zb_74_2 (sc : Nat × (Nat → Int32)) (lv : zi_L) (st : List Value) (M : zi_M) (Q : Option Value → zi_M → Prop) : zi_B sc 0 0 74 2 lv st M Q = zi_wp sc 0 0 74 Q zc_74_2 lv st M := zi_blk zc_74_2 rfl ⟨Nat.zero_le _, Nat.zero_le _⟩ rfl lv st M Q
theorem zb_74_3 (sc : Nat × (Nat → Int32)) (lv : zi_L) (st : List Value) (M : zi_M) (Q : Option Value → zi_M → Prop) : zi_B sc 0 0 74 3 lv st M Q = zi_wp sc 0 0 74 Q zc_74_3 lv st M := zi_blk zc_74_3 rfl ⟨Nat.zero_le _, Nat.zero_le _⟩ rfl lv st M Q
theorem zb_75_0 (sc : Nat × (Nat → Int32)) (lv : zi_L) (st : List Value) (M : zi_M) (Q : Option Value → zi_M → Prop) : zi_B sc 0 0 75 0 lv st M Q = zi_wp sc 0 0 75 Q zc_75_0 lv st M := zi_blk zc_75_0 rfl ⟨Nat.zero_le _, Nat.zero_le _⟩ rfl lv st M Q
theorem zb_75_1 (sc : Nat × (Nat → Int32)) (lv : zi_L) (st : List Value) (M : zi_M) (Q : Option Value → zi_M → Prop) : zi_B sc 0 0 75 1 lv st M Q = zi_wp sc 0 0 75 Q zc_75_1 lv st M := zi_blk zc_75_1 rfl ⟨Nat.zero_le _, Nat.zero_le _⟩ rfl lv st M Q
theorem zb_75_2 (sc : Nat × (Nat → Int32)) (lv : zi_L) (st : List Value) (M : zi_M) (Q : Option Value → zi_M → Prop) : zi_B sc 0 0 75 2 lv st M Q = zi_wp sc 0 0 75 Q zc_75_2 lv st M := zi_blk zc_75_2 rfl ⟨Nat.zero_le _, Nat.zero_le _⟩ rfl lv st M Q
theorem zb_75_3 (sc : Nat × (Nat → Int32)) (lv : zi_L) (st : List Value) (M : zi_M) (Q : Option Value → zi_M → Prop) : zi_B sc 0 0 75 3 lv st M Q = zi_wp sc 0 0 75 Q zc_75_3 lv st M := zi_blk zc_75_3 rfl ⟨Nat.zero_le _, Nat.zero_le _⟩ rfl lv st M Q
theorem zb_75_4 (sc : Nat × (Nat → Int32)) (lv : zi_L) (st : List Value) (M : zi_M) (Q : Option Value → zi_M → Prop) : zi_B sc 0 0 75 4 lv st M Q = zi_wp sc 0 0 75 Q zc_75_4 lv st M := zi_blk zc_75_4 rfl ⟨Nat.zero_le _, Nat.zero_le _⟩ rfl lv st M Q
theorem zb_76_0 (sc : Nat × (Nat → Int32)) (lv : zi_L) (st : List Value) (M : zi_M) (Q : Option Value → zi_M → Prop) : zi_B sc 0 0 76 0 lv st M Q = zi_wp sc 0 0 76 Q zc_76_0 lv st M := zi_blk zc_76_0 rfl ⟨Nat.zero_le _, Nat.zero_le _⟩ rfl lv st M Q
theorem zb_76_1 (sc : Nat × (Nat → Int32)) (lv : zi_L) (st : List Value) (M : zi_M) (Q : Option Value → zi_M → Prop) : zi_B sc 0 0 76 1 lv st M Q = zi_wp sc 0 0 76 Q zc_76_1 lv st M := zi_blk zc_76_1 rfl ⟨Nat.zero_le _, Nat.zero_le _⟩ rfl lv st M Q
theorem zb_76_2 (sc : Nat × (Nat → Int32)) (lv : zi_L) (st : List Value) (M : zi_M) (Q : Option Value → zi_M → Prop) : zi_B sc 0 0 76 2 lv st M Q = zi_wp sc 0 0 76 Q zc_76_2 lv st M := zi_blk zc_76_2 rfl ⟨Nat.zero_le _, Nat.zero_le _⟩ rfl lv st M Q
theorem zb_76_3 (sc : Nat × (Nat → Int32)) (lv : zi_L) (st : List Value) (M : zi_M) (Q : Option Value → zi_M → Prop) : zi_B sc 0 0 76 3 lv st M Q = zi_wp sc 0 0 76 Q zc_76_3 lv st M := zi_blk zc_76_3 rfl ⟨Nat.zero_le _, Nat.zero_le _⟩ rfl lv st M Q
theorem zb_76_4 (sc : Nat × (Nat → Int32)) (lv : zi_L) (st : List Value) (M : zi_M) (Q : Option Value → zi_M → Prop) : zi_B sc 0 0 76 4 lv st M Q = zi_wp sc 0 0 76 Q zc_76_4 lv st M := zi_blk zc_76_4 rfl ⟨Nat.zero_le _, Nat.zero_le _⟩ rfl lv st M Q
theorem zb_76_5 (sc : Nat × (Nat → Int32)) (lv : zi_L) (st : List Value) (M : zi_M) (Q : Option Value → zi_M → Prop) : zi_B sc 0 0 76 5 lv st M Q = zi_wp sc 0 0 76 Q zc_76_5 lv st M := zi_blk zc_76_5 rfl ⟨Nat.zero_le _, Nat.zero_le _⟩ rfl lv st M Q
theorem zb_76_6 (sc : Nat × (Nat → Int32)) (lv : zi_L) (st : List Value) (M : zi_M) (Q : Option Value → zi_M → Prop) : zi_B sc 0 0 76 6 lv st M Q = zi_wp sc 0 0 76 Q zc_76_6 lv st M := zi_blk zc_76_6 rfl ⟨Nat.zero_le _, Nat.zero_le _⟩ rfl lv st M Q
theorem zb_77_0 (sc : Nat × (Nat → Int32)) (lv : zi_L) (st : List Value) (M : zi_M) (Q : Option Value → zi_M → Prop) : zi_B sc 0 0 77 0 lv st M Q = zi_wp sc 0 0 77 Q zc_77_0 lv st M := zi_blk zc_77_0 rfl ⟨Nat.zero_le _, Nat.zero_le _⟩ rfl lv st M Q
theorem zb_77_1 (sc : Nat × (Nat → Int32)) (lv : zi_L) (st : List Value) (M : zi_M) (Q : Option Value → zi_M → Prop) : zi_B sc 0 0 77 1 lv st M Q = zi_wp sc 0 0 77 Q zc_77_1 lv st M := zi_blk zc_77_1 rfl ⟨Nat.zero_le _, Nat.zero_le _⟩ rfl lv st M Q
theorem zb_77_2 (sc : Nat × (Nat → Int32)) (lv : zi_L) (st : List Value) (M : zi_M) (Q : Option Value → zi_M → Prop) : zi_B sc 0 0 77 2 lv st M Q = zi_wp sc 0 0 77 Q zc_77_2 lv st M := zi_blk zc_77_2 rfl ⟨Nat.zero_le _, Nat.zero_le _⟩ rfl lv st M Q
theorem zb_77_3 (sc : Nat × (Nat → Int32)) (lv : zi_L) (st : List Value) (M : zi_M) (Q : Option Value → zi_M → Prop) : zi_B sc 0 0 77 3 lv st M Q = zi_wp sc 0 0 77 Q zc_77_3 lv st M := zi_blk zc_77_3 rfl ⟨Nat.zero_le _, Nat.zero_le _⟩ rfl lv st M Q
theorem zb_77_4 (sc : Nat × (Nat → Int32)) (lv : zi_L) (st : List Value) (M : zi_M) (Q : Option Value → zi_M → Prop) : zi_B sc 0 0 77 4 lv st M Q = zi_wp sc 0 0 77 Q zc_77_4 lv st M := zi_blk zc_77_4 rfl ⟨Nat.zero_le _, Nat.zero_le _⟩ rfl lv st M Q
theorem zb_78_0 (sc : Nat × (Nat → Int32)) (lv : zi_L) (st : List Value) (M : zi_M) (Q : Option Value → zi_M → Prop) : zi_B sc 0 0 78 0 lv st M Q = zi_wp sc 0 0 78 Q zc_78_0 lv st M := zi_blk zc_78_0 rfl ⟨Nat.zero_le _, Nat.zero_le _⟩ rfl lv st M Q
theorem zb_78_1 (sc : Nat × (Nat → Int32)) (lv : zi_L) (st : List Value) (M : zi_M) (Q : Option Value → zi_M → Prop) : zi_B sc 0 0 78 1 lv st M Q = zi_wp sc 0 0 78 Q zc_78_1 lv st M := zi_blk zc_78_1 rfl ⟨Nat.zero_le _, Nat.zero_le _⟩ rfl lv st M Q
theorem zb_78_2 (sc : Nat × (Nat → Int32)) (lv : zi_L) (st : List Value) (M : zi_M) (Q : Option Value → zi_M → Prop) : zi_B sc 0 0 78 2 lv st M Q = zi_wp sc 0 0 78 Q zc_78_2 lv st M := zi_blk zc_78_2 rfl ⟨Nat.zero_le _, Nat.zero_le _⟩ rfl lv st M Q
theorem zb_78_3 (sc : Nat × (Nat → Int32)) (lv : zi_L) (st : List Value) (M : zi_M) (Q : Option Value → zi_M → Prop) : zi_B sc 0 0 78 3 lv st M Q = zi_wp sc 0 0 78 Q zc_78_3 lv st M := zi_blk zc_78_3 rfl ⟨Nat.zero_le _, Nat.zero_le _⟩ rfl lv st M Q
theorem zb_79_0 (sc : Nat × (Nat → Int32)) (lv : zi_L) (st : List Value) (M : zi_M) (Q : Option Value → zi_M → Prop) : zi_B sc 0 0 79 0 lv st M Q = zi_wp sc 0 0 79 Q zc_79_0 lv st M := zi_blk zc_79_0 rfl ⟨Nat.zero_le _, Nat.zero_le _⟩ rfl lv st M Q
theorem zb_79_1 (sc : Nat × (Nat → Int32)) (lv : zi_L) (st : List Value) (M : zi_M) (Q : Option Value → zi_M → Prop) : zi_B sc 0 0 79 1 lv st M Q = zi_wp sc 0 0 79 Q zc_79_1 lv st M := zi_blk zc_79_1 rfl ⟨Nat.zero_le _, Nat.zero_le _⟩ rfl lv st M Q
theorem zb_79_2 (sc : Nat × (Nat → Int32)) (lv : zi_L) (st : List Value) (M : zi_M) (Q : Option Value → zi_M → Prop) : zi_B sc 0 0 79 2 lv st M Q = zi_wp sc 0 0 79 Q zc_79_2 lv st M := zi_blk zc_79_2 rfl ⟨Nat.zero_le _, Nat.zero_le _⟩ rfl lv st M Q
theorem zb_79_3 (sc : Nat × (Nat → Int32)) (lv : zi_L) (st : List Value) (M : zi_M) (Q : Option Value → zi_M → Prop) : zi_B sc 0 0 79 3 lv st M Q = zi_wp sc 0 0 79 Q zc_79_3 lv st M := zi_blk zc_79_3 rfl ⟨Nat.zero_le _, Nat.zero_le _⟩ rfl lv st M Q
theorem zb_80_0 (sc : Nat × (Nat → Int32)) (lv : zi_L) (st : List Value) (M : zi_M) (Q : Option Value → zi_M → Prop) : zi_B sc 0 0 80 0 lv st M Q = zi_wp sc 0 0 80 Q zc_80_0 lv st M := zi_blk zc_80_0 rfl ⟨Nat.zero_le _, Nat.zero_le _⟩ rfl lv st M Q
theorem zb_80_1 (sc : Nat × (Nat → Int32)) (lv : zi_L) (st : List Value) (M : zi_M) (Q : Option Value → zi_M → Prop) : zi_B sc 0 0 80 1 lv st M Q = zi_wp sc 0 0 80 Q zc_80_1 lv st M := zi_blk zc_80_1 rfl ⟨Nat.zero_le _, Nat.zero_le _⟩ rfl lv st M Q
theorem zb_80_2 (sc : Nat × (Nat → Int32)) (lv : zi_L) (st : List Value) (M : zi_M) (Q : Option Value → zi_M → Prop) : zi_B sc 0 0 80 2 lv st M Q = zi_wp sc 0 0 80 Q zc_80_2 lv st M := zi_blk zc_80_2 rfl ⟨Nat.zero_le _, Nat.zero_le _⟩ rfl lv st M Q
theorem zb_80_3 (sc : Nat × (Nat → Int32)) (lv : zi_L) (st : List Value) (M : zi_M) (Q : Option Value → zi_M → Prop) : zi_B sc 0 0 80 3 lv st M Q = zi_wp sc 0 0 80 Q zc_80_3 lv st M := zi_blk zc_80_3 rfl ⟨Nat.zero_le _, Nat.zero_le _⟩ rfl lv st M Q
theorem zb_80_4 (sc : Nat × (Nat → Int32)) (lv : zi_L) (st : List Value) (M : zi_M) (Q : Option Value → zi_M → Prop) : zi_B sc 0 0 80 4 lv st M Q = zi_wp sc 0 0 80 Q zc_80_4 lv st M := zi_blk zc_80_4 rfl ⟨Nat.zero_le _, Nat.zero_le _⟩ rfl lv st M Q
theorem zb_81_0 (sc : Nat × (Nat → Int32)) (lv : zi_L) (st : List Value) (M : zi_M) (Q : Option Value → zi_M → Prop) : zi_B sc 0 0 81 0 lv st M Q = zi_wp sc 0 0 81 Q zc_81_0 lv st M := zi_blk zc_81_0 rfl ⟨Nat.zero_le _, Nat.zero_le _⟩ rfl lv st M Q
theorem zb_81_1 (sc : Nat × (Nat → Int32)) (lv : zi_L) (st : List Value) (M : zi_M) (Q : Option Value → zi_M → Prop) : zi_B sc 0 0 81 1 lv st M Q = zi_wp sc 0 0 81 Q zc_81_1 lv st M := zi_blk zc_81_1 rfl ⟨Nat.zero_le _, Nat.zero_le _⟩ rfl lv st M Q
theorem zb_81_2 (sc : Nat × (Nat → Int32)) (lv : zi_L) (st : List Value) (M : zi_M) (Q : Option Value → zi_M → Prop) : zi_B sc 0 0 81 2 lv st M Q = zi_wp sc 0 0 81 Q zc_81_2 lv st M := zi_blk zc_81_2 rfl ⟨Nat.zero_le _, Nat.zero_le _⟩ rfl lv st M Q
theorem zb_81_3 (sc : Nat × (Nat → Int32)) (lv : zi_L) (st : List Value) (M : zi_M) (Q : Option Value → zi_M → Prop) : zi_B sc 0 0 81 3 lv st M Q = zi_wp sc 0 0 81 Q zc_81_3 lv st M := zi_blk zc_81_3 rfl ⟨Nat.zero_le _, Nat.zero_le _⟩ rfl lv st M Q
theorem zb_81_4 (sc : Nat × (Nat → Int32)) (lv : zi_L) (st : List Value) (M : zi_M) (Q : Option Value → zi_M → Prop) : zi_B sc 0 0 81 4 lv st M Q = zi_wp sc 0 0 81 Q zc_81_4 lv st M := zi_blk zc_81_4 rfl ⟨Nat.zero_le _, Nat.zero_le _⟩ rfl lv st M Q
theorem zb_81_5 (sc : Nat × (Nat → Int32)) (lv : zi_L) (st : List Value) (M : zi_M) (Q : Option Value → zi_M → Prop) : zi_B sc 0 0 81 5 lv st M Q = zi_wp sc 0 0 81 Q zc_81_5 lv st M := zi_blk zc_81_5 rfl ⟨Nat.zero_le _, Nat.zero_le _⟩ rfl lv st M Q
theorem zb_81_6 (sc : Nat × (Nat → Int32)) (lv : zi_L) (st : List Value) (M : zi_M) (Q : Option Value → zi_M → Prop) : zi_B sc 0 0 81 6 lv st M Q = zi_wp sc 0 0 81 Q zc_81_6 lv st M := zi_blk zc_81_6 rfl ⟨Nat.zero_le _, Nat.zero_le _⟩ rfl lv st M Q
theorem zb_81_7 (sc : Nat × (Nat → Int32)) (lv : zi_L) (st : List Value) (M : zi_M) (Q : Option Value → zi_M → Prop) : zi_B sc 0 0 81 7 lv st M Q = zi_wp sc 0 0 81 Q zc_81_7 lv st M := zi_blk zc_81_7 rfl ⟨Nat.zero_le _, Nat.zero_le _⟩ rfl lv st M Q
theorem zb_82_0 (sc : Nat × (Nat → Int32)) (lv : zi_L) (st : List Value) (M : zi_M) (Q : Option Value → zi_M → Prop) : zi_B sc 0 0 82 0 lv st M Q = zi_wp sc 0 0 82 Q zc_82_0 lv st M := zi_blk zc_82_0 rfl ⟨Nat.zero_le _, Nat.zero_le _⟩ rfl lv st M Q
theorem zb_82_1 (sc : Nat × (Nat → Int32)) (lv : zi_L) (st : List Value) (M : zi_M) (Q : Option Value → zi_M → Prop) : zi_B sc 0 0 82 1 lv st M Q = zi_wp sc 0 0 82 Q zc_82_1 lv st M := zi_blk zc_82_1 rfl ⟨Nat.zero_le _, Nat.zero_le _⟩ rfl lv st M Q
theorem zb_82_2 (sc : Nat × (Nat → Int32)) (lv : zi_L) (st : List Value) (M : zi_M) (Q : Option Value → zi_M → Prop) : zi_B sc 0 0 82 2 lv st M Q = zi_wp sc 0 0 82 Q zc_82_2 lv st M := zi_blk zc_82_2 rfl ⟨Nat.zero_le _, Nat.zero_le _⟩ rfl lv st M Q
theorem zb_82_3 (sc : Nat × (Nat → Int32)) (lv : zi_L) (st : List Value) (M : zi_M) (Q : Option Value → zi_M → Prop) : zi_B sc 0 0 82 3 lv st M Q = zi_wp sc 0 0 82 Q zc_82_3 lv st M := zi_blk zc_82_3 rfl ⟨Nat.zero_le _, Nat.zero_le _⟩ rfl lv st M Q
theorem zb_82_4 (sc : Nat × (Nat → Int32)) (lv : zi_L) (st : List Value) (M : zi_M) (Q : Option Value → zi_M → Prop) : zi_B sc 0 0 82 4 lv st M Q = zi_wp sc 0 0 82 Q zc_82_4 lv st M := zi_blk zc_82_4 rfl ⟨Nat.zero_le _, Nat.zero_le _⟩ rfl lv st M Q
theorem zb_83_0 (sc : Nat × (Nat → Int32)) (lv : zi_L) (st : List Value) (M : zi_M) (Q : Option Value → zi_M → Prop) : zi_B sc 0 0 83 0 lv st M Q = zi_wp sc 0 0 83 Q zc_83_0 lv st M := zi_blk zc_83_0 rfl ⟨Nat.zero_le _, Nat.zero_le _⟩ rfl lv st M Q
theorem zb_83_1 (sc : Nat × (Nat → Int32)) (lv : zi_L) (st : List Value) (M : zi_M) (Q : Option Value → zi_M → Prop) : zi_B sc 0 0 83 1 lv st M Q = zi_wp sc 0 0 83 Q zc_83_1 lv st M := zi_blk zc_83_1 rfl ⟨Nat.zero_le _, Nat.zero_le _⟩ rfl lv st M Q
theorem zb_83_2 (sc : Nat × (Nat → Int32)) (lv : zi_L) (st : List Value) (M : zi_M) (Q : Option Value → zi_M → Prop) : zi_B sc 0 0 83 2 lv st M Q = zi_wp sc 0 0 83 Q zc_83_2 lv st M := zi_blk zc_83_2 rfl ⟨Nat.zero_le _, Nat.zero_le _⟩ rfl lv st M Q
theorem zb_83_3 (sc : Nat × (Nat → Int32)) (lv : zi_L) (st : List Value) (M : zi_M) (Q : Option Value → zi_M → Prop) : zi_B sc 0 0 83 3 lv st M Q = zi_wp sc 0 0 83 Q zc_83_3 lv st M := zi_blk zc_83_3 rfl ⟨Nat.zero_le _, Nat.zero_le _⟩ rfl lv st M Q
theorem zb_84_0 (sc : Nat × (Nat → Int32)) (lv : zi_L) (st : List Value) (M : zi_M) (Q : Option Value → zi_M → Prop) : zi_B sc 0 0 84 0 lv st M Q = zi_wp sc 0 0 84 Q zc_84_0 lv st M := zi_blk zc_84_0 rfl ⟨Nat.zero_le _, Nat.zero_le _⟩ rfl lv st M Q
theorem zb_84_1 (sc : Nat × (Nat → Int32)) (lv : zi_L) (st : List Value) (M : zi_M) (Q : Option Value → zi_M → Prop) : zi_B sc 0 0 84 1 lv st M Q = zi_wp sc 0 0 84 Q zc_84_1 lv st M := zi_blk zc_84_1 rfl ⟨Nat.zero_le _, Nat.zero_le _⟩ rfl lv st M Q
theorem zb_84_2 (sc : Nat × (Nat → Int32)) (lv : zi_L) (st : List Value) (M : zi_M) (Q : Option Value → zi_M → Prop) : zi_B sc 0 0 84 2 lv st M Q = zi_wp sc 0 0 84 Q zc_84_2 lv st M := zi_blk zc_84_2 rfl ⟨Nat.zero_le _, Nat.zero_le _⟩ rfl lv st M Q
theorem zb_84_3 (sc : Nat × (Nat → Int32)) (lv : zi_L) (st : List Value) (M : zi_M) (Q : Option Value → zi_M → Prop) : zi_B sc 0 0 84 3 lv st M Q = zi_wp sc 0 0 84 Q zc_84_3 lv st M := zi_blk zc_84_3 rfl ⟨Nat.zero_le _, Nat.zero_le _⟩ rfl lv st M Q
theorem zb_85_0 (sc : Nat × (Nat → Int32)) (lv : zi_L) (st : List Value) (M : zi_M) (Q : Option Value → zi_M → Prop) : zi_B sc 0 0 85 0 lv st M Q = zi_wp sc 0 0 85 Q zc_85_0 lv st M := zi_blk zc_85_0 rfl ⟨Nat.zero_le _, Nat.zero_le _⟩ rfl lv st M Q
theorem zb_86_0 (sc : Nat × (Nat → Int32)) (lv : zi_L) (st : List Value) (M : zi_M) (Q : Option Value → zi_M → Prop) : zi_B sc 0 0 86 0 lv st M Q = zi_wp sc 0 0 86 Q zc_86_0 lv st M := zi_blk zc_86_0 rfl ⟨Nat.zero_le _, Nat.zero_le _⟩ rfl lv st M Q
theorem zb_87_0 (sc : Nat × (Nat → Int32)) (lv : zi_L) (st : List Value) (M : zi_M) (Q : Option Value → zi_M → Prop) : zi_B sc 0 0 87 0 lv st M Q = zi_wp sc 0 0 87 Q zc_87_0 lv st M := zi_blk zc_87_0 rfl ⟨Nat.zero_le _, Nat.zero_le _⟩ rfl lv st M Q
theorem zb_87_1 (sc : Nat × (Nat → Int32)) (lv : zi_L) (st : List Value) (M : zi_M) (Q : Option Value → zi_M → Prop) : zi_B sc 0 0 87 1 lv st M Q = zi_wp sc 0 0 87 Q zc_87_1 lv st M := zi_blk zc_87_1 rfl ⟨Nat.zero_le _, Nat.zero_le _⟩ rfl lv st M Q
theorem zb_87_2 (sc : Nat × (Nat → Int32)) (lv : zi_L) (st : List Value) (M : zi_M) (Q : Option Value → zi_M → Prop) : zi_B sc 0 0 87 2 lv st M Q = zi_wp sc 0 0 87 Q zc_87_2 lv st M := zi_blk zc_87_2 rfl ⟨Nat.zero_le _, Nat.zero_le _⟩ rfl lv st M Q
theorem zb_87_3 (sc : Nat × (Nat → Int32)) (lv : zi_L) (st : List Value) (M : zi_M) (Q : Option Value → zi_M → Prop) : zi_B sc 0 0 87 3 lv st M Q = zi_wp sc 0 0 87 Q zc_87_3 lv st M := zi_blk zc_87_3 rfl ⟨Nat.zero_le _, Nat.zero_le _⟩ rfl lv st M Q
theorem zb_87_4 (sc : Nat × (Nat → Int32)) (lv : zi_L) (st : List Value) (M : zi_M) (Q : Option Value → zi_M → Prop) : zi_B sc 0 0 87 4 lv st M Q = zi_wp sc 0 0 87 Q zc_87_4 lv st M := zi_blk zc_87_4 rfl ⟨Nat.zero_le _, Nat.zero_le _⟩ rfl lv st M Q
theorem zb_87_5 (sc : Nat × (Nat → Int32)) (lv : zi_L) (st : List Value) (M : zi_M) (Q : Option Value → zi_M → Prop) : zi_B sc 0 0 87 5 lv st M Q = zi_wp sc 0 0 87 Q zc_87_5 lv st M := zi_blk zc_87_5 rfl ⟨Nat.zero_le _, Nat.zero_le _⟩ rfl lv st M Q
theorem zb_87_6 (sc : Nat × (Nat → Int32)) (lv : zi_L) (st : List Value) (M : zi_M) (Q : Option Value → zi_M → Prop) : zi_B sc 0 0 87 6 lv st M Q = zi_wp sc 0 0 87 Q zc_87_6 lv st M := zi_blk zc_87_6 rfl ⟨Nat.zero_le _, Nat.zero_le _⟩ rfl lv st M Q
theorem zb_87_7 (sc : Nat × (Nat → Int32)) (lv : zi_L) (st : List Value) (M : zi_M) (Q : Option Value → zi_M → Prop) : zi_B sc 0 0 87 7 lv st M Q = zi_wp sc 0 0 87 Q zc_87_7 lv st M := zi_blk zc_87_7 rfl ⟨Nat.zero_le _, Nat.zero_le _⟩ rfl lv st M Q
theorem zb_87_8 (sc : Nat × (Nat → Int32)) (lv : zi_L) (st : List Value) (M : zi_M) (Q : Option Value → zi_M → Prop) : zi_B sc 0 0 87 8 lv st M Q = zi_wp sc 0 0 87 Q zc_87_8 lv st M := zi_blk zc_87_8 rfl ⟨Nat.zero_le _, Nat.zero_le _⟩ rfl lv st M Q
theorem zb_87_9 (sc : Nat × (Nat → Int32)) (lv : zi_L) (st : List Value) (M : zi_M) (Q : Option Value → zi_M → Prop) : zi_B sc 0 0 87 9 lv st M Q = zi_wp sc 0 0 87 Q zc_87_9 lv st M := zi_blk zc_87_9 rfl ⟨Nat.zero_le _, Nat.zero_le _⟩ rfl lv st M Q
theorem zb_88_0 (sc : Nat × (Nat → Int32)) (lv : zi_L) (st : List Value) (M : zi_M) (Q : Option Value → zi_M → Prop) : zi_B sc 0 0 88 0 lv st M Q = zi_wp sc 0 0 88 Q zc_88_0 lv st M := zi_blk zc_88_0 rfl ⟨Nat.zero_le _, Nat.zero_le _⟩ rfl lv st M Q
theorem zb_89_0 (sc : Nat × (Nat → Int32)) (lv : zi_L) (st : List Value) (M : zi_M) (Q : Option Value → zi_M → Prop) : zi_B sc 0 0 89 0 lv st M Q = zi_wp sc 0 0 89 Q zc_89_0 lv st M := zi_blk zc_89_0 rfl ⟨Nat.zero_le _, Nat.zero_le _⟩ rfl lv st M Q
theorem zb_90_0 (sc : Nat × (Nat → Int32)) (lv : zi_L) (st : List Value) (M : zi_M) (Q : Option Value → zi_M → Prop) : zi_B sc 0 0 90 0 lv st M Q = zi_wp sc 0 0 90 Q zc_90_0 lv st M := zi_blk zc_90_0 rfl ⟨Nat.zero_le _, Nat.zero_le _⟩ rfl lv st M Q
theorem zb_90_1 (sc : Nat × (Nat → Int32)) (lv : zi_L) (st : List Value) (M : zi_M) (Q : Option Value → zi_M → Prop) : zi_B sc 0 0 90 1 lv st M Q = zi_wp sc 0 0 90 Q zc_90_1 lv st M := zi_blk zc_90_1 rfl ⟨Nat.zero_le _, Nat.zero_le _⟩ rfl lv st M Q
theorem zb_90_2 (sc : Nat × (Nat → Int32)) (lv : zi_L) (st : List Value) (M : zi_M) (Q : Option Value → zi_M → Prop) : zi_B sc 0 0 90 2 lv st M Q = zi_wp sc 0 0 90 Q zc_90_2 lv st M := zi_blk zc_90_2 rfl ⟨Nat.zero_le _, Nat.zero_le _⟩ rfl lv st M Q
theorem zb_90_3 (sc : Nat × (Nat → Int32)) (lv : zi_L) (st : List Value) (M : zi_M) (Q : Option Value → zi_M → Prop) : zi_B sc 0 0 90 3 lv st M Q = zi_wp sc 0 0 90 Q zc_90_3 lv st M := zi_blk zc_90_3 rfl ⟨Nat.zero_le _, Nat.zero_le _⟩ rfl lv st M Q
theorem zb_91_0 (sc : Nat × (Nat → Int32)) (lv : zi_L) (st : List Value) (M : zi_M) (Q : Option Value → zi_M → Prop) : zi_B sc 0 0 91 0 lv st M Q = zi_wp sc 0 0 91 Q zc_91_0 lv st M := zi_blk zc_91_0 rfl ⟨Nat.zero_le _, Nat.zero_le _⟩ rfl lv st M Q
theorem zb_91_1 (sc : Nat × (Nat → Int32)) (lv : zi_L) (st : List Value) (M : zi_M) (Q : Option Value → zi_M → Prop) : zi_B sc 0 0 91 1 lv st M Q = zi_wp sc 0 0 91 Q zc_91_1 lv st M := zi_blk zc_91_1 rfl ⟨Nat.zero_le _, Nat.zero_le _⟩ rfl lv st M Q
theorem zb_91_2 (sc : Nat × (Nat → Int32)) (lv : zi_L) (st : List Value) (M : zi_M) (Q : Option Value → zi_M → Prop) : zi_B sc 0 0 91 2 lv st M Q = zi_wp sc 0 0 91 Q zc_91_2 lv st M := zi_blk zc_91_2 rfl ⟨Nat.zero_le _, Nat.zero_le _⟩ rfl lv st M Q
theorem zb_91_3 (sc : Nat × (Nat → Int32)) (lv : zi_L) (st : List Value) (M : zi_M) (Q : Option Value → zi_M → Prop) : zi_B sc 0 0 91 3 lv st M Q = zi_wp sc 0 0 91 Q zc_91_3 lv st M := zi_blk zc_91_3 rfl ⟨Nat.zero_le _, Nat.zero_le _⟩ rfl lv st M Q
theorem zb_92_0 (sc : Nat × (Nat → Int32)) (lv : zi_L) (st : List Value) (M : zi_M) (Q : Option Value → zi_M → Prop) : zi_B sc 0 0 92 0 lv st M Q = zi_wp sc 0 0 92 Q zc_92_0 lv st M := zi_blk zc_92_0 rfl ⟨Nat.zero_le _, Nat.zero_le _⟩ rfl lv st M Q
theorem zb_92_1 (sc : Nat × (Nat → Int32)) (lv : zi_L) (st : List Value) (M : zi_M) (Q : Option Value → zi_M → Prop) : zi_B sc 0 0 92 1 lv st M Q = zi_wp sc 0 0 92 Q zc_92_1 lv st M := zi_blk zc_92_1 rfl ⟨Nat.zero_le _, Nat.zero_le _⟩ rfl lv st M Q
theorem zb_92_2 (sc : Nat × (Nat → Int32)) (lv : zi_L) (st : List Value) (M : zi_M) (Q : Option Value → zi_M → Prop) : zi_B sc 0 0 92 2 lv st M Q = zi_wp sc 0 0 92 Q zc_92_2 lv st M := zi_blk zc_92_2 rfl ⟨Nat.zero_le _, Nat.zero_le _⟩ rfl lv st M Q
theorem zb_92_3 (sc : Nat × (Nat → Int32)) (lv : zi_L) (st : List Value) (M : zi_M) (Q : Option Value → zi_M → Prop) : zi_B sc 0 0 92 3 lv st M Q = zi_wp sc 0 0 92 Q zc_92_3 lv st M := zi_blk zc_92_3 rfl ⟨Nat.zero_le _, Nat.zero_le _⟩ rfl lv st M Q
theorem zb_93_0 (sc : Nat × (Nat → Int32)) (lv : zi_L) (st : List Value) (M : zi_M) (Q : Option Value → zi_M → Prop) : zi_B sc 0 0 93 0 lv st M Q = zi_wp sc 0 0 93 Q zc_93_0 lv st M := zi_blk zc_93_0 rfl ⟨Nat.zero_le _, Nat.zero_le _⟩ rfl lv st M Q
theorem zb_93_1 (sc : Nat × (Nat → Int32)) (lv : zi_L) (st : List Value) (M : zi_M) (Q : Option Value → zi_M → Prop) : zi_B sc 0 0 93 1 lv st M Q = zi_wp sc 0 0 93 Q zc_93_1 lv st M := zi_blk zc_93_1 rfl ⟨Nat.zero_le _, Nat.zero_le _⟩ rfl lv st M Q
theorem zb_93_2 (sc : Nat × (Nat → Int32)) (lv : zi_L) (st : List Value) (M : zi_M) (Q : Option Value → zi_M → Prop) : zi_B sc 0 0 93 2 lv st M Q = zi_wp sc 0 0 93 Q zc_93_2 lv st M := zi_blk zc_93_2 rfl ⟨Nat.zero_le _, Nat.zero_le _⟩ rfl lv st M Q
theorem zb_93_3 (sc : Nat × (Nat → Int32)) (lv : zi_L) (st : List Value) (M : zi_M) (Q : Option Value → zi_M → Prop) : zi_B sc 0 0 93 3 lv st M Q = zi_wp sc 0 0 93 Q zc_93_3 lv st M := zi_blk zc_93_3 rfl ⟨Nat.zero_le _, Nat.zero_le _⟩ rfl lv st M Q
theorem zb_94_0 (sc : Nat × (Nat → Int32)) (lv : zi_L) (st : List Value) (M : zi_M) (Q : Option Value → zi_M → Prop) : zi_B sc 0 0 94 0 lv st M Q = zi_wp sc 0 0 94 Q zc_94_0 lv st M := zi_blk zc_94_0 rfl ⟨Nat.zero_le _, Nat.zero_le _⟩ rfl lv st M Q
theorem zb_94_1 (sc : Nat × (Nat → Int32)) (lv : zi_L) (st : List Value) (M : zi_M) (Q : Option Value → zi_M → Prop) : zi_B sc 0 0 94 1 lv st M Q = zi_wp sc 0 0 94 Q zc_94_1 lv st M := zi_blk zc_94_1 rfl ⟨Nat.zero_le _, Nat.zero_le _⟩ rfl lv st M Q
theorem zb_94_2 (sc : Nat × (Nat → Int32)) (lv : zi_L) (st : List Value) (M : zi_M) (Q : Option Value → zi_M → Prop) : zi_B sc 0 0 94 2 lv st M Q = zi_wp sc 0 0 94 Q zc_94_2 lv st M := zi_blk zc_94_2 rfl ⟨Nat.zero_le _, Nat.zero_le _⟩ rfl lv st M Q
theorem zb_94_3 (sc : Nat × (Nat → Int32)) (lv : zi_L) (st : List Value) (M : zi_M) (Q : Option Value → zi_M → Prop) : zi_B sc 0 0 94 3 lv st M Q = zi_wp sc 0 0 94 Q zc_94_3 lv st M := zi_blk zc_94_3 rfl ⟨Nat.zero_le _, Nat.zero_le _⟩ rfl lv st M Q
theorem zb_95_0 (sc : Nat × (Nat → Int32)) (lv : zi_L) (st : List Value) (M : zi_M) (Q : Option Value → zi_M → Prop) : zi_B sc 0 0 95 0 lv st M Q = zi_wp sc 0 0 95 Q zc_95_0 lv st M := zi_blk zc_95_0 rfl ⟨Nat.zero_le _, Nat.zero_le _⟩ rfl lv st M Q
theorem zb_95_1 (sc : Nat × (Nat → Int32)) (lv : zi_L) (st : List Value) (M : zi_M) (Q : Option Value → zi_M → Prop) : zi_B sc 0 0 95 1 lv st M Q = zi_wp sc 0 0 95 Q zc_95_1 lv st M := zi_blk zc_95_1 rfl ⟨Nat.zero_le _, Nat.zero_le _⟩ rfl lv st M Q
theorem zb_95_2 (sc : Nat × (Nat → Int32)) (lv : zi_L) (st : List Value) (M : zi_M) (Q : Option Value → zi_M → Prop) : zi_B sc 0 0 95 2 lv st M Q = zi_wp sc 0 0 95 Q zc_95_2 lv st M := zi_blk zc_95_2 rfl ⟨Nat.zero_le _, Nat.zero_le _⟩ rfl lv st M Q
theorem zb_95_3 (sc : Nat × (Nat → Int32)) (lv : zi_L) (st : List Value) (M : zi_M) (Q : Option Value → zi_M → Prop) : zi_B sc 0 0 95 3 lv st M Q = zi_wp sc 0 0 95 Q zc_95_3 lv st M := zi_blk zc_95_3 rfl ⟨Nat.zero_le _, Nat.zero_le _⟩ rfl lv st M Q
theorem zb_96_0 (sc : Nat × (Nat → Int32)) (lv : zi_L) (st : List Value) (M : zi_M) (Q : Option Value → zi_M → Prop) : zi_B sc 0 0 96 0 lv st M Q = zi_wp sc 0 0 96 Q zc_96_0 lv st M := zi_blk zc_96_0 rfl ⟨Nat.zero_le _, Nat.zero_le _⟩ rfl lv st M Q
theorem zb_96_1 (sc : Nat × (Nat → Int32)) (lv : zi_L) (st : List Value) (M : zi_M) (Q : Option Value → zi_M → Prop) : zi_B sc 0 0 96 1 lv st M Q = zi_wp sc 0 0 96 Q zc_96_1 lv st M := zi_blk zc_96_1 rfl ⟨Nat.zero_le _, Nat.zero_le _⟩ rfl lv st M Q
theorem zb_96_2 (sc : Nat × (Nat → Int32)) (lv : zi_L) (st : List Value) (M : zi_M) (Q : Option Value → zi_M → Prop) : zi_B sc 0 0 96 2 lv st M Q = zi_wp sc 0 0 96 Q zc_96_2 lv st M := zi_blk zc_96_2 rfl ⟨Nat.zero_le _, Nat.zero_le _⟩ rfl lv st M Q
theorem zb_96_3 (sc : Nat × (Nat → Int32)) (lv : zi_L) (st : List Value) (M : zi_M) (Q : Option Value → zi_M → Prop) : zi_B sc 0 0 96 3 lv st M Q = zi_wp sc 0 0 96 Q zc_96_3 lv st M := zi_blk zc_96_3 rfl ⟨Nat.zero_le _, Nat.zero_le _⟩ rfl lv st M Q
theorem zb_96_4 (sc : Nat × (Nat → Int32)) (lv : zi_L) (st : List Value) (M : zi_M) (Q : Option Value → zi_M → Prop) : zi_B sc 0 0 96 4 lv st M Q = zi_wp sc 0 0 96 Q zc_96_4 lv st M := zi_blk zc_96_4 rfl ⟨Nat.zero_le _, Nat.zero_le _⟩ rfl lv st M Q
theorem zb_97_0 (sc : Nat × (Nat → Int32)) (lv : zi_L) (st : List Value) (M : zi_M) (Q : Option Value → zi_M → Prop) : zi_B sc 0 0 97 0 lv st M Q = zi_wp sc 0 0 97 Q zc_97_0 lv st M := zi_blk zc_97_0 rfl ⟨Nat.zero_le _, Nat.zero_le _⟩ rfl lv st M Q
theorem zb_97_1 (sc : Nat × (Nat → Int32)) (lv : zi_L) (st : List Value) (M : zi_M) (Q : Option Value → zi_M → Prop) : zi_B sc 0 0 97 1 lv st M Q = zi_wp sc 0 0 97 Q zc_97_1 lv st M := zi_blk zc_97_1 rfl ⟨Nat.zero_le _, Nat.zero_le _⟩ rfl lv st M Q
theorem zb_97_2 (sc : Nat × (Nat → Int32)) (lv : zi_L) (st : List Value) (M : zi_M) (Q : Option Value → zi_M → Prop) : zi_B sc 0 0 97 2 lv st M Q = zi_wp sc 0 0 97 Q zc_97_2 lv st M := zi_blk zc_97_2 rfl ⟨Nat.zero_le _, Nat.zero_le _⟩ rfl lv st M Q
theorem zb_97_3 (sc : Nat × (Nat → Int32)) (lv : zi_L) (st : List Value) (M : zi_M) (Q : Option Value → zi_M → Prop) : zi_B sc 0 0 97 3 lv st M Q = zi_wp sc 0 0 97 Q zc_97_3 lv st M := zi_blk zc_97_3 rfl ⟨Nat.zero_le _, Nat.zero_le _⟩ rfl lv st M Q
theorem zb_97_4 (sc : Nat × (Nat → Int32)) (lv : zi_L) (st : List Value) (M : zi_M) (Q : Option Value → zi_M → Prop) : zi_B sc 0 0 97 4 lv st M Q = zi_wp sc 0 0 97 Q zc_97_4 lv st M := zi_blk zc_97_4 rfl ⟨Nat.zero_le _, Nat.zero_le _⟩ rfl lv st M Q
theorem zb_98_0 (sc : Nat × (Nat → Int32)) (lv : zi_L) (st : List Value) (M : zi_M) (Q : Option Value → zi_M → Prop) : zi_B sc 0 0 98 0 lv st M Q = zi_wp sc 0 0 98 Q zc_98_0 lv st M := zi_blk zc_98_0 rfl ⟨Nat.zero_le _, Nat.zero_le _⟩ rfl lv st M Q
theorem zb_98_1 (sc : Nat × (Nat → Int32)) (lv : zi_L) (st : List Value) (M : zi_M) (Q : Option Value → zi_M → Prop) : zi_B sc 0 0 98 1 lv st M Q = zi_wp sc 0 0 98 Q zc_98_1 lv st M := zi_blk zc_98_1 rfl ⟨Nat.zero_le _, Nat.zero_le _⟩ rfl lv st M Q
theorem zb_98_2 (sc : Nat × (Nat → Int32)) (lv : zi_L) (st : List Value) (M : zi_M) (Q : Option Value → zi_M → Prop) : zi_B sc 0 0 98 2 lv st M Q = zi_wp sc 0 0 98 Q zc_98_2 lv st M := zi_blk zc_98_2 rfl ⟨Nat.zero_le _, Nat.zero_le _⟩ rfl lv st M Q
theorem zb_98_3 (sc : Nat × (Nat → Int32)) (lv : zi_L) (st : List Value) (M : zi_M) (Q : Option Value → zi_M → Prop) : zi_B sc 0 0 98 3 lv st M Q = zi_wp sc 0 0 98 Q zc_98_3 lv st M := zi_blk zc_98_3 rfl ⟨Nat.zero_le _, Nat.zero_le _⟩ rfl lv st M Q
theorem zb_99_0 (sc : Nat × (Nat → Int32)) (lv : zi_L) (st : List Value) (M : zi_M) (Q : Option Value → zi_M → Prop) : zi_B sc 0 0 99 0 lv st M Q = zi_wp sc 0 0 99 Q zc_99_0 lv st M := zi_blk zc_99_0 rfl ⟨Nat.zero_le _, Nat.zero_le _⟩ rfl lv st M Q
theorem zb_99_1 (sc : Nat × (Nat → Int32)) (lv : zi_L) (st : List Value) (M : zi_M) (Q : Option Value → zi_M → Prop) : zi_B sc 0 0 99 1 lv st M Q = zi_wp sc 0 0 99 Q zc_99_1 lv st M := zi_blk zc_99_1 rfl ⟨Nat.zero_le _, Nat.zero_le _⟩ rfl lv st M Q
theorem zb_99_2 (sc : Nat × (Nat → Int32)) (lv : zi_L) (st : List Value) (M : zi_M) (Q : Option Value → zi_M → Prop) : zi_B sc 0 0 99 2 lv st M Q = zi_wp sc 0 0 99 Q zc_99_2 lv st M := zi_blk zc_99_2 rfl ⟨Nat.zero_le _, Nat.zero_le _⟩ rfl lv st M Q
theorem zb_99_3 (sc : Nat × (Nat → Int32)) (lv : zi_L) (st : List Value) (M : zi_M) (Q : Option Value → zi_M → Prop) : zi_B sc 0 0 99 3 lv st M Q = zi_wp sc 0 0 99 Q zc_99_3 lv st M := zi_blk zc_99_3 rfl ⟨Nat.zero_le _, Nat.zero_le _⟩ rfl lv st M Q
theorem zb_99_4 (sc : Nat × (Nat → Int32)) (lv : zi_L) (st : List Value) (M : zi_M) (Q : Option Value → zi_M → Prop) : zi_B sc 0 0 99 4 lv st M Q = zi_wp sc 0 0 99 Q zc_99_4 lv st M := zi_blk zc_99_4 rfl ⟨Nat.zero_le _, Nat.zero_le _⟩ rfl lv st M Q
theorem zb_99_5 (sc : Nat × (Nat → Int32)) (lv : zi_L) (st : List Value) (M : zi_M) (Q : Option Value → zi_M → Prop) : zi_B sc 0 0 99 5 lv st M Q = zi_wp sc 0 0 99 Q zc_99_5 lv st M := zi_blk zc_99_5 rfl ⟨Nat.zero_le _, Nat.zero_le _⟩ rfl lv st M Q
theorem zb_99_6 (sc : Nat × (Nat → Int32)) (lv : zi_L) (st : List Value) (M : zi_M) (Q : Option Value → zi_M → Prop) : zi_B sc 0 0 99 6 lv st M Q = zi_wp sc 0 0 99 Q zc_99_6 lv st M := zi_blk zc_99_6 rfl ⟨Nat.zero_le _, Nat.zero_le _⟩ rfl lv st M Q
theorem zb_99_7 (sc : Nat × (Nat → Int32)) (lv : zi_L) (st : List Value) (M : zi_M) (Q : Option Value → zi_M → Prop) : zi_B sc 0 0 99 7 lv st M Q = zi_wp sc 0 0 99 Q zc_99_7 lv st M := zi_blk zc_99_7 rfl ⟨Nat.zero_le _, Nat.zero_le _⟩ rfl lv st M Q
theorem zb_99_8 (sc : Nat × (Nat → Int32)) (lv : zi_L) (st : List Value) (M : zi_M) (Q : Option Value → zi_M → Prop) : zi_B sc 0 0 99 8 lv st M Q = zi_wp sc 0 0 99 Q zc_99_8 lv st M := zi_blk zc_99_8 rfl ⟨Nat.zero_le _, Nat.zero_le _⟩ rfl lv st M Q
theorem zb_99_9 (sc : Nat × (Nat → Int32)) (lv : zi_L) (st : List Value) (M : zi_M) (Q : Option Value → zi_M → Prop) : zi_B sc 0 0 99 9 lv st M Q = zi_wp sc 0 0 99 Q zc_99_9 lv st M := zi_blk zc_99_9 rfl ⟨Nat.zero_le _, Nat.zero_le _⟩ rfl lv st M Q
theorem zb_100_0 (sc : Nat × (Nat → Int32)) (lv : zi_L) (st : List Value) (M : zi_M) (Q : Option Value → zi_M → Prop) : zi_B sc 0 0 100 0 lv st M Q = zi_wp sc 0 0 100 Q zc_100_0 lv st M := zi_blk zc_100_0 rfl ⟨Nat.zero_le _, Nat.zero_le _⟩ rfl lv st M Q
theorem zb_100_1 (sc : Nat × (Nat → Int32)) (lv : zi_L) (st : List Value) (M : zi_M) (Q : Option Value → zi_M → Prop) : zi_B sc 0 0 100 1 lv st M Q = zi_wp sc 0 0 100 Q zc_100_1 lv st M := zi_blk zc_100_1 rfl ⟨Nat.zero_le _, Nat.zero_le _⟩ rfl lv st M Q
theorem zb_100_2 (sc : Nat × (Nat → Int32)) (lv : zi_L) (st : List Value) (M : zi_M) (Q : Option Value → zi_M → Prop) : zi_B sc 0 0 100 2 lv st M Q = zi_wp sc 0 0 100 Q zc_100_2 lv st M := zi_blk zc_100_2 rfl ⟨Nat.zero_le _, Nat.zero_le _⟩ rfl lv st M Q
theorem zb_101_0 (sc : Nat × (Nat → Int32)) (lv : zi_L) (st : List Value) (M : zi_M) (Q : Option Value → zi_M → Prop) : zi_B sc 0 0 101 0 lv st M Q = zi_wp sc 0 0 101 Q zc_101_0 lv st M := zi_blk zc_101_0 rfl ⟨Nat.zero_le _, Nat.zero_le _⟩ rfl lv st M Q
theorem zb_101_1 (sc : Nat × (Nat → Int32)) (lv : zi_L) (st : List Value) (M : zi_M) (Q : Option Value → zi_M → Prop) : zi_B sc 0 0 101 1 lv st M Q = zi_wp sc 0 0 101 Q zc_101_1 lv st M := zi_blk zc_101_1 rfl ⟨Nat.zero_le _, Nat.zero_le _⟩ rfl lv st M Q
theorem zb_101_2 (sc : Nat × (Nat → Int32)) (lv : zi_L) (st : List Value) (M : zi_M) (Q : Option Value → zi_M → Prop) : zi_B sc 0 0 101 2 lv st M Q = zi_wp sc 0 0 101 Q zc_101_2 lv st M := zi_blk zc_101_2 rfl ⟨Nat.zero_le _, Nat.zero_le _⟩ rfl lv st M Q
theorem zb_101_3 (sc : Nat × (Nat → Int32)) (lv : zi_L) (st : List Value) (M : zi_M) (Q : Option Value → zi_M → Prop) : zi_B sc 0 0 101 3 lv st M Q = zi_wp sc 0 0 101 Q zc_101_3 lv st M := zi_blk zc_101_3 rfl ⟨Nat.zero_le _, Nat.zero_le _⟩ rfl lv st M Q
theorem zb_102_0 (sc : Nat × (Nat → Int32)) (lv : zi_L) (st : List Value) (M : zi_M) (Q : Option Value → zi_M → Prop) : zi_B sc 0 0 102 0 lv st M Q = zi_wp sc 0 0 102 Q zc_102_0 lv st M := zi_blk zc_102_0 rfl ⟨Nat.zero_le _, Nat.zero_le _⟩ rfl lv st M Q
theorem zb_103_0 (sc : Nat × (Nat → Int32)) (lv : zi_L) (st : List Value) (M : zi_M) (Q : Option Value → zi_M → Prop) : zi_B sc 0 0 103 0 lv st M Q = zi_wp sc 0 0 103 Q zc_103_0 lv st M := zi_blk zc_103_0 rfl ⟨Nat.zero_le _, Nat.zero_le _⟩ rfl lv st M Q
theorem zb_104_0 (sc : Nat × (Nat → Int32)) (lv : zi_L) (st : List Value) (M : zi_M) (Q : Option Value → zi_M → Prop) : zi_B sc 0 0 104 0 lv st M Q = zi_wp sc 0 0 104 Q zc_104_0 lv st M := zi_blk zc_104_0 rfl ⟨Nat.zero_le _, Nat.zero_le _⟩ rfl lv st M Q
theorem zb_105_0 (sc : Nat × (Nat → Int32)) (lv : zi_L) (st : List Value) (M : zi_M) (Q : Option Value → zi_M → Prop) : zi_B sc 0 0 105 0 lv st M Q = zi_wp sc 0 0 105 Q zc_105_0 lv st M := zi_blk zc_105_0 rfl ⟨Nat.zero_le _, Nat.zero_le _⟩ rfl lv st M Q
theorem zb_106_0 (sc : Nat × (Nat → Int32)) (lv : zi_L) (st : List Value) (M : zi_M) (Q : Option Value → zi_M → Prop) : zi_B sc 0 0 106 0 lv st M Q = zi_wp sc 0 0 106 Q zc_106_0 lv st M := zi_blk zc_106_0 rfl ⟨Nat.zero_le _, Nat.zero_le _⟩ rfl lv st M Q
theorem zb_107_0 (sc : Nat × (Nat → Int32)) (lv : zi_L) (st : List Value) (M : zi_M) (Q : Option Value → zi_M → Prop) : zi_B sc 0 0 107 0 lv st M Q = zi_wp sc 0 0 107 Q zc_107_0 lv st M := zi_blk zc_107_0 rfl ⟨Nat.zero_le _, Nat.zero_le _⟩ rfl lv st M Q
theorem zb_108_0 (sc : Nat × (Nat → Int32)) (lv : zi_L) (st : List Value) (M : zi_M) (Q : Option Value → zi_M → Prop) : zi_B sc 0 0 108 0 lv st M Q = zi_wp sc 0 0 108 Q zc_108_0 lv st M := zi_blk zc_108_0 rfl ⟨Nat.zero_le _, Nat.zero_le _⟩ rfl lv st M Q
theorem zb_108_1 (sc : Nat × (Nat → Int32)) (lv : zi_L) (st : List Value) (M : zi_M) (Q : Option Value → zi_M → Prop) : zi_B sc 0 0 108 1 lv st M Q = zi_wp sc 0 0 108 Q zc_108_1 lv st M := zi_blk zc_108_1 rfl ⟨Nat.zero_le _, Nat.zero_le _⟩ rfl lv st M Q
theorem zb_108_2 (sc : Nat × (Nat → Int32)) (lv : zi_L) (st : List Value) (M : zi_M) (Q : Option Value → zi_M → Prop) : zi_B sc 0 0 108 2 lv st M Q = zi_wp sc 0 0 108 Q zc_108_2 lv st M := zi_blk zc_108_2 rfl ⟨Nat.zero_le _, Nat.zero_le _⟩ rfl lv st M Q
theorem zb_108_3 (sc : Nat × (Nat → Int32)) (lv : zi_L) (st : List Value) (M : zi_M) (Q : Option Value → zi_M → Prop) : zi_B sc 0 0 108 3 lv st M Q = zi_wp sc 0 0 108 Q zc_108_3 lv st M := zi_blk zc_108_3 rfl ⟨Nat.zero_le _, Nat.zero_le _⟩ rfl lv st M Q
theorem zb_108_4 (sc : Nat × (Nat → Int32)) (lv : zi_L) (st : List Value) (M : zi_M) (Q : Option Value → zi_M → Prop) : zi_B sc 0 0 108 4 lv st M Q = zi_wp sc 0 0 108 Q zc_108_4 lv st M := zi_blk zc_108_4 rfl ⟨Nat.zero_le _, Nat.zero_le _⟩ rfl lv st M Q
theorem zb_109_0 (sc : Nat × (Nat → Int32)) (lv : zi_L) (st : List Value) (M : zi_M) (Q : Option Value → zi_M → Prop) : zi_B sc 0 0 109 0 lv st M Q = zi_wp sc 0 0 109 Q zc_109_0 lv st M := zi_blk zc_109_0 rfl ⟨Nat.zero_le _, Nat.zero_le _⟩ rfl lv st M Q
theorem zb_110_0 (sc : Nat × (Nat → Int32)) (lv : zi_L) (st : List Value) (M : zi_M) (Q : Option Value → zi_M → Prop) : zi_B sc 0 0 110 0 lv st M Q = zi_wp sc 0 0 110 Q zc_110_0 lv st M := zi_blk zc_110_0 rfl ⟨Nat.zero_le _, Nat.zero_le _⟩ rfl lv st M Q
theorem zb_111_0 (sc : Nat × (Nat → Int32)) (lv : zi_L) (st : List Value) (M : zi_M) (Q : Option Value → zi_M → Prop) : zi_B sc 0 0 111 0 lv st M Q = zi_wp sc 0 0 111 Q zc_111_0 lv st M := zi_blk zc_111_0 rfl ⟨Nat.zero_le _, Nat.zero_le _⟩ rfl lv st M Q
theorem zb_111_1 (sc : Nat × (Nat → Int32)) (lv : zi_L) (st : List Value) (M : zi_M) (Q : Option Value → zi_M → Prop) : zi_B sc 0 0 111 1 lv st M Q = zi_wp sc 0 0 111 Q zc_111_1 lv st M := zi_blk zc_111_1 rfl ⟨Nat.zero_le _, Nat.zero_le _⟩ rfl lv st M Q
theorem zb_111_2 (sc : Nat × (Nat → Int32)) (lv : zi_L) (st : List Value) (M : zi_M) (Q : Option Value → zi_M → Prop) : zi_B sc 0 0 111 2 lv st M Q = zi_wp sc 0 0 111 Q zc_111_2 lv st M := zi_blk zc_111_2 rfl ⟨Nat.zero_le _, Nat.zero_le _⟩ rfl lv st M Q
theorem zb_112_0 (sc : Nat × (Nat → Int32)) (lv : zi_L) (st : List Value) (M : zi_M) (Q : Option Value → zi_M → Prop) : zi_B sc 0 0 112 0 lv st M Q = zi_wp sc 0 0 112 Q zc_112_0 lv st M := zi_blk zc_112_0 rfl ⟨Nat.zero_le _, Nat.zero_le _⟩ rfl lv st M Q
theorem zb_113_0 (sc : Nat × (Nat → Int32)) (lv : zi_L) (st : List Value) (M : zi_M) (Q : Option Value → zi_M → Prop) : zi_B sc 0 0 113 0 lv st M Q = zi_wp sc 0 0 113 Q zc_113_0 lv st M := zi_blk zc_113_0 rfl ⟨Nat.zero_le _, Nat.zero_le _⟩ rfl lv st M Q
theorem zb_114_0 (sc : Nat × (Nat → Int32)) (lv : zi_L) (st : List Value) (M : zi_M) (Q : Option Value → zi_M → Prop) : zi_B sc 0 0 114 0 lv st M Q = zi_wp sc 0 0 114 Q zc_114_0 lv st M := zi_blk zc_114_0 rfl ⟨Nat.zero_le _, Nat.zero_le _⟩ rfl lv st M Q
theorem zb_114_1 (sc : Nat × (Nat → Int32)) (lv : zi_L) (st : List Value) (M : zi_M) (Q : Option Value → zi_M → Prop) : zi_B sc 0 0 114 1 lv st M Q = zi_wp sc 0 0 114 Q zc_114_1 lv st M := zi_blk zc_114_1 rfl ⟨Nat.zero_le _, Nat.zero_le _⟩ rfl lv st M Q
theorem zb_114_2 (sc : Nat × (Nat → Int32)) (lv : zi_L) (st : List Value) (M : zi_M) (Q : Option Value → zi_M → Prop) : zi_B sc 0 0 114 2 lv st M Q = zi_wp sc 0 0 114 Q zc_114_2 lv st M := zi_blk zc_114_2 rfl ⟨Nat.zero_le _, Nat.zero_le _⟩ rfl lv st M Q
theorem zb_114_3 (sc : Nat × (Nat → Int32)) (lv : zi_L) (st : List Value) (M : zi_M) (Q : Option Value → zi_M → Prop) : zi_B sc 0 0 114 3 lv st M Q = zi_wp sc 0 0 114 Q zc_114_3 lv st M := zi_blk zc_114_3 rfl ⟨Nat.zero_le _, Nat.zero_le _⟩ rfl lv st M Q
theorem zb_114_4 (sc : Nat × (Nat → Int32)) (lv : zi_L) (st : List Value) (M : zi_M) (Q : Option Value → zi_M → Prop) : zi_B sc 0 0 114 4 lv st M Q = zi_wp sc 0 0 114 Q zc_114_4 lv st M := zi_blk zc_114_4 rfl ⟨Nat.zero_le _, Nat.zero_le _⟩ rfl lv st M Q
theorem zb_114_5 (sc : Nat × (Nat → Int32)) (lv : zi_L) (st : List Value) (M : zi_M) (Q : Option Value → zi_M → Prop) : zi_B sc 0 0 114 5 lv st M Q = zi_wp sc 0 0 114 Q zc_114_5 lv st M := zi_blk zc_114_5 rfl ⟨Nat.zero_le _, Nat.zero_le _⟩ rfl lv st M Q
theorem zb_114_6 (sc : Nat × (Nat → Int32)) (lv : zi_L) (st : List Value) (M : zi_M) (Q : Option Value → zi_M → Prop) : zi_B sc 0 0 114 6 lv st M Q = zi_wp sc 0 0 114 Q zc_114_6 lv st M := zi_blk zc_114_6 rfl ⟨Nat.zero_le _, Nat.zero_le _⟩ rfl lv st M Q
theorem zb_115_0 (sc : Nat × (Nat → Int32)) (lv : zi_L) (st : List Value) (M : zi_M) (Q : Option Value → zi_M → Prop) : zi_B sc 0 0 115 0 lv st M Q = zi_wp sc 0 0 115 Q zc_115_0 lv st M := zi_blk zc_115_0 rfl ⟨Nat.zero_le _, Nat.zero_le _⟩ rfl lv st M Q
theorem zb_115_1 (sc : Nat × (Nat → Int32)) (lv : zi_L) (st : List Value) (M : zi_M) (Q : Option Value → zi_M → Prop) : zi_B sc 0 0 115 1 lv st M Q = zi_wp sc 0 0 115 Q zc_115_1 lv st M := zi_blk zc_115_1 rfl ⟨Nat.zero_le _, Nat.zero_le _⟩ rfl lv st M Q
theorem zb_115_2 (sc : Nat × (Nat → Int32)) (lv : zi_L) (st : List Value) (M : zi_M) (Q : Option Value → zi_M → Prop) : zi_B sc 0 0 115 2 lv st M Q = zi_wp sc 0 0 115 Q zc_115_2 lv st M := zi_blk zc_115_2 rfl ⟨Nat.zero_le _, Nat.zero_le _⟩ rfl lv st M Q
theorem zb_116_0 (sc : Nat × (Nat → Int32)) (lv : zi_L) (st : List Value) (M : zi_M) (Q : Option Value → zi_M → Prop) : zi_B sc 0 0 116 0 lv st M Q = zi_wp sc 0 0 116 Q zc_116_0 lv st M := zi_blk zc_116_0 rfl ⟨Nat.zero_le _, Nat.zero_le _⟩ rfl lv st M Q
theorem zb_116_1 (sc : Nat × (Nat → Int32)) (lv : zi_L) (st : List Value) (M : zi_M) (Q : Option Value → zi_M → Prop) : zi_B sc 0 0 116 1 lv st M Q = zi_wp sc 0 0 116 Q zc_116_1 lv st M := zi_blk zc_116_1 rfl ⟨Nat.zero_le _, Nat.zero_le _⟩ rfl lv st M Q
theorem zb_116_2 (sc : Nat × (Nat → Int32)) (lv : zi_L) (st : List Value) (M : zi_M) (Q : Option Value → zi_M → Prop) : zi_B sc 0 0 116 2 lv st M Q = zi_wp sc 0 0 116 Q zc_116_2 lv st M := zi_blk zc_116_2 rfl ⟨Nat.zero_le _, Nat.zero_le _⟩ rfl lv st M Q
theorem zb_117_0 (sc : Nat × (Nat → Int32)) (lv : zi_L) (st : List Value) (M : zi_M) (Q : Option Value → zi_M → Prop) : zi_B sc 0 0 117 0 lv st M Q = zi_wp sc 0 0 117 Q zc_117_0 lv st M := zi_blk zc_117_0 rfl ⟨Nat.zero_le _, Nat.zero_le _⟩ rfl lv st M Q
theorem zb_117_1 (sc : Nat × (Nat → Int32)) (lv : zi_L) (st : List Value) (M : zi_M) (Q : Option Value → zi_M → Prop) : zi_B sc 0 0 117 1 lv st M Q = zi_wp sc 0 0 117 Q zc_117_1 lv st M := zi_blk zc_117_1 rfl ⟨Nat.zero_le _, Nat.zero_le _⟩ rfl lv st M Q
theorem zb_117_2 (sc : Nat × (Nat → Int32)) (lv : zi_L) (st : List Value) (M : zi_M) (Q : Option Value → zi_M → Prop) : zi_B sc 0 0 117 2 lv st M Q = zi_wp sc 0 0 117 Q zc_117_2 lv st M := zi_blk zc_117_2 rfl ⟨Nat.zero_le _, Nat.zero_le _⟩ rfl lv st M Q
theorem zb_118_0 (sc : Nat × (Nat → Int32)) (lv : zi_L) (st : List Value) (M : zi_M) (Q : Option Value → zi_M → Prop) : zi_B sc 0 0 118 0 lv st M Q = zi_wp sc 0 0 118 Q zc_118_0 lv st M := zi_blk zc_118_0 rfl ⟨Nat.zero_le _, Nat.zero_le _⟩ rfl lv st M Q
theorem zb_118_1 (sc : Nat × (Nat → Int32)) (lv : zi_L) (st : List Value) (M : zi_M) (Q : Option Value → zi_M → Prop) : zi_B sc 0 0 118 1 lv st M Q = zi_wp sc 0 0 118 Q zc_118_1 lv st M := zi_blk zc_118_1 rfl ⟨Nat.zero_le _, Nat.zero_le _⟩ rfl lv st M Q
theorem zb_118_2 (sc : Nat × (Nat → Int32)) (lv : zi_L) (st : List Value) (M : zi_M) (Q : Option Value → zi_M → Prop) : zi_B sc 0 0 118 2 lv st M Q = zi_wp sc 0 0 118 Q zc_118_2 lv st M := zi_blk zc_118_2 rfl ⟨Nat.zero_le _, Nat.zero_le _⟩ rfl lv st M Q
theorem zb_118_3 (sc : Nat × (Nat → Int32)) (lv : zi_L) (st : List Value) (M : zi_M) (Q : Option Value → zi_M → Prop) : zi_B sc 0 0 118 3 lv st M Q = zi_wp sc 0 0 118 Q zc_118_3 lv st M := zi_blk zc_118_3 rfl ⟨Nat.zero_le _, Nat.zero_le _⟩ rfl lv st M Q
theorem zb_119_0 (sc : Nat × (Nat → Int32)) (lv : zi_L) (st : List Value) (M : zi_M) (Q : Option Value → zi_M → Prop) : zi_B sc 0 0 119 0 lv st M Q = zi_wp sc 0 0 119 Q zc_119_0 lv st M := zi_blk zc_119_0 rfl ⟨Nat.zero_le _, Nat.zero_le _⟩ rfl lv st M Q
theorem zb_119_1 (sc : Nat × (Nat → Int32)) (lv : zi_L) (st : List Value) (M : zi_M) (Q : Option Value → zi_M → Prop) : zi_B sc 0 0 119 1 lv st M Q = zi_wp sc 0 0 119 Q zc_119_1 lv st M := zi_blk zc_119_1 rfl ⟨Nat.zero_le _, Nat.zero_le _⟩ rfl lv st M Q
theorem zb_119_2 (sc : Nat × (Nat → Int32)) (lv : zi_L) (st : List Value) (M : zi_M) (Q : Option Value → zi_M → Prop) : zi_B sc 0 0 119 2 lv st M Q = zi_wp sc 0 0 119 Q zc_119_2 lv st M := zi_blk zc_119_2 rfl ⟨Nat.zero_le _, Nat.zero_le _⟩ rfl lv st M Q
theorem zb_119_3 (sc : Nat × (Nat → Int32)) (lv : zi_L) (st : List Value) (M : zi_M) (Q : Option Value → zi_M → Prop) : zi_B sc 0 0 119 3 lv st M Q = zi_wp sc 0 0 119 Q zc_119_3 lv st M := zi_blk zc_119_3 rfl ⟨Nat.zero_le _, Nat.zero_le _⟩ rfl lv st M Q
theorem zb_120_0 (sc : Nat × (Nat → Int32)) (lv : zi_L) (st : List Value) (M : zi_M) (Q : Option Value → zi_M → Prop) : zi_B sc 0 0 120 0 lv st M Q = zi_wp sc 0 0 120 Q zc_120_0 lv st M := zi_blk zc_120_0 rfl ⟨Nat.zero_le _, Nat.zero_le _⟩ rfl lv st M Q
theorem zb_120_1 (sc : Nat × (Nat → Int32)) (lv : zi_L) (st : List Value) (M : zi_M) (Q : Option Value → zi_M → Prop) : zi_B sc 0 0 120 1 lv st M Q = zi_wp sc 0 0 120 Q zc_120_1 lv st M := zi_blk zc_120_1 rfl ⟨Nat.zero_le _, Nat.zero_le _⟩ rfl lv st M Q
theorem zb_120_2 (sc : Nat × (Nat → Int32)) (lv : zi_L) (st : List Value) (M : zi_M) (Q : Option Value → zi_M → Prop) : zi_B sc 0 0 120 2 lv st M Q = zi_wp sc 0 0 120 Q zc_120_2 lv st M := zi_blk zc_120_2 rfl ⟨Nat.zero_le _, Nat.zero_le _⟩ rfl lv st M Q
theorem zb_121_0 (sc : Nat × (Nat → Int32)) (lv : zi_L) (st : List Value) (M : zi_M) (Q : Option Value → zi_M → Prop) : zi_B sc 0 0 121 0 lv st M Q = zi_wp sc 0 0 121 Q zc_121_0 lv st M := zi_blk zc_121_0 rfl ⟨Nat.zero_le _, Nat.zero_le _⟩ rfl lv st M Q
theorem zb_121_1 (sc : Nat × (Nat → Int32)) (lv : zi_L) (st : List Value) (M : zi_M) (Q : Option Value → zi_M → Prop) : zi_B sc 0 0 121 1 lv st M Q = zi_wp sc 0 0 121 Q zc_121_1 lv st M := zi_blk zc_121_1 rfl ⟨Nat.zero_le _, Nat.zero_le _⟩ rfl lv st M Q
theorem zb_121_2 (sc : Nat × (Nat → Int32)) (lv : zi_L) (st : List Value) (M : zi_M) (Q : Option Value → zi_M → Prop) : zi_B sc 0 0 121 2 lv st M Q = zi_wp sc 0 0 121 Q zc_121_2 lv st M := zi_blk zc_121_2 rfl ⟨Nat.zero_le _, Nat.zero_le _⟩ rfl lv st M Q
theorem zb_122_0 (sc : Nat × (Nat → Int32)) (lv : zi_L) (st : List Value) (M : zi_M) (Q : Option Value → zi_M → Prop) : zi_B sc 0 0 122 0 lv st M Q = zi_wp sc 0 0 122 Q zc_122_0 lv st M := zi_blk zc_122_0 rfl ⟨Nat.zero_le _, Nat.zero_le _⟩ rfl lv st M Q
theorem zb_122_1 (sc : Nat × (Nat → Int32)) (lv : zi_L) (st : List Value) (M : zi_M) (Q : Option Value → zi_M → Prop) : zi_B sc 0 0 122 1 lv st M Q = zi_wp sc 0 0 122 Q zc_122_1 lv st M := zi_blk zc_122_1 rfl ⟨Nat.zero_le _, Nat.zero_le _⟩ rfl lv st M Q
theorem zb_122_2 (sc : Nat × (Nat → Int32)) (lv : zi_L) (st : List Value) (M : zi_M) (Q : Option Value → zi_M → Prop) : zi_B sc 0 0 122 2 lv st M Q = zi_wp sc 0 0 122 Q zc_122_2 lv st M := zi_blk zc_122_2 rfl ⟨Nat.zero_le _, Nat.zero_le _⟩ rfl lv st M Q
theorem zb_122_3 (sc : Nat × (Nat → Int32)) (lv : zi_L) (st : List Value) (M : zi_M) (Q : Option Value → zi_M → Prop) : zi_B sc 0 0 122 3 lv st M Q = zi_wp sc 0 0 122 Q zc_122_3 lv st M := zi_blk zc_122_3 rfl ⟨Nat.zero_le _, Nat.zero_le _⟩ rfl lv st M Q
theorem zb_122_4 (sc : Nat × (Nat → Int32)) (lv : zi_L) (st : List Value) (M : zi_M) (Q : Option Value → zi_M → Prop) : zi_B sc 0 0 122 4 lv st M Q = zi_wp sc 0 0 122 Q zc_122_4 lv st M := zi_blk zc_122_4 rfl ⟨Nat.zero_le _, Nat.zero_le _⟩ rfl lv st M Q
theorem zb_122_5 (sc : Nat × (Nat → Int32)) (lv : zi_L) (st : List Value) (M : zi_M) (Q : Option Value → zi_M → Prop) : zi_B sc 0 0 122 5 lv st M Q = zi_wp sc 0 0 122 Q zc_122_5 lv st M := zi_blk zc_122_5 rfl ⟨Nat.zero_le _, Nat.zero_le _⟩ rfl lv st M Q
theorem zb_122_6 (sc : Nat × (Nat → Int32)) (lv : zi_L) (st : List Value) (M : zi_M) (Q : Option Value → zi_M → Prop) : zi_B sc 0 0 122 6 lv st M Q = zi_wp sc 0 0 122 Q zc_122_6 lv st M := zi_blk zc_122_6 rfl ⟨Nat.zero_le _, Nat.zero_le _⟩ rfl lv st M Q
theorem zb_122_7 (sc : Nat × (Nat → Int32)) (lv : zi_L) (st : List Value) (M : zi_M) (Q : Option Value → zi_M → Prop) : zi_B sc 0 0 122 7 lv st M Q = zi_wp sc 0 0 122 Q zc_122_7 lv st M := zi_blk zc_122_7 rfl ⟨Nat.zero_le _, Nat.zero_le _⟩ rfl lv st M Q
theorem zb_123_0 (sc : Nat × (Nat → Int32)) (lv : zi_L) (st : List Value) (M : zi_M) (Q : Option Value → zi_M → Prop) : zi_B sc 0 0 123 0 lv st M Q = zi_wp sc 0 0 123 Q zc_123_0 lv st M := zi_blk zc_123_0 rfl ⟨Nat.zero_le _, Nat.zero_le _⟩ rfl lv st M Q
theorem zb_123_1 (sc : Nat × (Nat → Int32)) (lv : zi_L) (st : List Value) (M : zi_M) (Q : Option Value → zi_M → Prop) : zi_B sc 0 0 123 1 lv st M Q = zi_wp sc 0 0 123 Q zc_123_1 lv st M := zi_blk zc_123_1 rfl ⟨Nat.zero_le _, Nat.zero_le _⟩ rfl lv st M Q
theorem zb_123_2 (sc : Nat × (Nat → Int32)) (lv : zi_L) (st : List Value) (M : zi_M) (Q : Option Value → zi_M → Prop) : zi_B sc 0 0 123 2 lv st M Q = zi_wp sc 0 0 123 Q zc_123_2 lv st M := zi_blk zc_123_2 rfl ⟨Nat.zero_le _, Nat.zero_le _⟩ rfl lv st M Q
theorem zb_123_3 (sc : Nat × (Nat → Int32)) (lv : zi_L) (st : List Value) (M : zi_M) (Q : Option Value → zi_M → Prop) : zi_B sc 0 0 123 3 lv st M Q = zi_wp sc 0 0 123 Q zc_123_3 lv st M := zi_blk zc_123_3 rfl ⟨Nat.zero_le _, Nat.zero_le _⟩ rfl lv st M Q
theorem zb_123_4 (sc : Nat × (Nat → Int32)) (lv : zi_L) (st : List Value) (M : zi_M) (Q : Option Value → zi_M → Prop) : zi_B sc 0 0 123 4 lv st M Q = zi_wp sc 0 0 123 Q zc_123_4 lv st M := zi_blk zc_123_4 rfl ⟨Nat.zero_le _, Nat.zero_le _⟩ rfl lv st M Q
theorem zb_124_0 (sc : Nat × (Nat → Int32)) (lv : zi_L) (st : List Value) (M : zi_M) (Q : Option Value → zi_M → Prop) : zi_B sc 0 0 124 0 lv st M Q = zi_wp sc 0 0 124 Q zc_124_0 lv st M := zi_blk zc_124_0 rfl ⟨Nat.zero_le _, Nat.zero_le _⟩ rfl lv st M Q
theorem zb_124_1 (sc : Nat × (Nat → Int32)) (lv : zi_L) (st : List Value) (M : zi_M) (Q : Option Value → zi_M → Prop) : zi_B sc 0 0 124 1 lv st M Q = zi_wp sc 0 0 124 Q zc_124_1 lv st M := zi_blk zc_124_1 rfl ⟨Nat.zero_le _, Nat.zero_le _⟩ rfl lv st M Q
theorem zb_124_2 (sc : Nat × (Nat → Int32)) (lv : zi_L) (st : List Value) (M : zi_M) (Q : Option Value → zi_M → Prop) : zi_B sc 0 0 124 2 lv st M Q = zi_wp sc 0 0 124 Q zc_124_2 lv st M := zi_blk zc_124_2 rfl ⟨Nat.zero_le _, Nat.zero_le _⟩ rfl lv st M Q
theorem zb_124_3 (sc : Nat × (Nat → Int32)) (lv : zi_L) (st : List Value) (M : zi_M) (Q : Option Value → zi_M → Prop) : zi_B sc 0 0 124 3 lv st M Q = zi_wp sc 0 0 124 Q zc_124_3 lv st M := zi_blk zc_124_3 rfl ⟨Nat.zero_le _, Nat.zero_le _⟩ rfl lv st M Q
theorem zb_124_4 (sc : Nat × (Nat → Int32)) (lv : zi_L) (st : List Value) (M : zi_M) (Q : Option Value → zi_M → Prop) : zi_B sc 0 0 124 4 lv st M Q = zi_wp sc 0 0 124 Q zc_124_4 lv st M := zi_blk zc_124_4 rfl ⟨Nat.zero_le _, Nat.zero_le _⟩ rfl lv st M Q
theorem zb_124_5 (sc : Nat × (Nat → Int32)) (lv : zi_L) (st : List Value) (M : zi_M) (Q : Option Value → zi_M → Prop) : zi_B sc 0 0 124 5 lv st M Q = zi_wp sc 0 0 124 Q zc_124_5 lv st M := zi_blk zc_124_5 rfl ⟨Nat.zero_le _, Nat.zero_le _⟩ rfl lv st M Q
theorem zb_124_6 (sc : Nat × (Nat → Int32)) (lv : zi_L) (st : List Value) (M : zi_M) (Q : Option Value → zi_M → Prop) : zi_B sc 0 0 124 6 lv st M Q = zi_wp sc 0 0 124 Q zc_124_6 lv st M := zi_blk zc_124_6 rfl ⟨Nat.zero_le _, Nat.zero_le _⟩ rfl lv st M Q
theorem zb_124_7 (sc : Nat × (Nat → Int32)) (lv : zi_L) (st : List Value) (M : zi_M) (Q : Option Value → zi_M → Prop) : zi_B sc 0 0 124 7 lv st M Q = zi_wp sc 0 0 124 Q zc_124_7 lv st M := zi_blk zc_124_7 rfl ⟨Nat.zero_le _, Nat.zero_le _⟩ rfl lv st M Q
theorem zb_124_8 (sc : Nat × (Nat → Int32)) (lv : zi_L) (st : List Value) (M : zi_M) (Q : Option Value → zi_M → Prop) : zi_B sc 0 0 124 8 lv st M Q = zi_wp sc 0 0 124 Q zc_124_8 lv st M := zi_blk zc_124_8 rfl ⟨Nat.zero_le _, Nat.zero_le _⟩ rfl lv st M Q
theorem zb_125_0 (sc : Nat × (Nat → Int32)) (lv : zi_L) (st : List Value) (M : zi_M) (Q : Option Value → zi_M → Prop) : zi_B sc 0 0 125 0 lv st M Q = zi_wp sc 0 0 125 Q zc_125_0 lv st M := zi_blk zc_125_0 rfl ⟨Nat.zero_le _, Nat.zero_le _⟩ rfl lv st M Q
theorem zb_125_1 (sc : Nat × (Nat → Int32)) (lv : zi_L) (st : List Value) (M : zi_M) (Q : Option Value → zi_M → Prop) : zi_B sc 0 0 125 1 lv st M Q = zi_wp sc 0 0 125 Q zc_125_1 lv st M := zi_blk zc_125_1 rfl ⟨Nat.zero_le _, Nat.zero_le _⟩ rfl lv st M Q
theorem zb_125_2 (sc : Nat × (Nat → Int32)) (lv : zi_L) (st : List Value) (M : zi_M) (Q : Option Value → zi_M → Prop) : zi_B sc 0 0 125 2 lv st M Q = zi_wp sc 0 0 125 Q zc_125_2 lv st M := zi_blk zc_125_2 rfl ⟨Nat.zero_le _, Nat.zero_le _⟩ rfl lv st M Q
theorem zb_125_3 (sc : Nat × (Nat → Int32)) (lv : zi_L) (st : List Value) (M : zi_M) (Q : Option Value → zi_M → Prop) : zi_B sc 0 0 125 3 lv st M Q = zi_wp sc 0 0 125 Q zc_125_3 lv st M := zi_blk zc_125_3 rfl ⟨Nat.zero_le _, Nat.zero_le _⟩ rfl lv st M Q
theorem zb_125_4 (sc : Nat × (Nat → Int32)) (lv : zi_L) (st : List Value) (M : zi_M) (Q : Option Value → zi_M → Prop) : zi_B sc 0 0 125 4 lv st M Q = zi_wp sc 0 0 125 Q zc_125_4 lv st M := zi_blk zc_125_4 rfl ⟨Nat.zero_le _, Nat.zero_le _⟩ rfl lv st M Q
theorem zb_125_5 (sc : Nat × (Nat → Int32)) (lv : zi_L) (st : List Value) (M : zi_M) (Q : Option Value → zi_M → Prop) : zi_B sc 0 0 125 5 lv st M Q = zi_wp sc 0 0 125 Q zc_125_5 lv st M := zi_blk zc_125_5 rfl ⟨Nat.zero_le _, Nat.zero_le _⟩ rfl lv st M Q
theorem zb_125_6 (sc : Nat × (Nat → Int32)) (lv : zi_L) (st : List Value) (M : zi_M) (Q : Option Value → zi_M → Prop) : zi_B sc 0 0 125 6 lv st M Q = zi_wp sc 0 0 125 Q zc_125_6 lv st M := zi_blk zc_125_6 rfl ⟨Nat.zero_le _, Nat.zero_le _⟩ rfl lv st M Q
theorem zb_125_7 (sc : Nat × (Nat → Int32)) (lv : zi_L) (st : List Value) (M : zi_M) (Q : Option Value → zi_M → Prop) : zi_B sc 0 0 125 7 lv st M Q = zi_wp sc 0 0 125 Q zc_125_7 lv st M := zi_blk zc_125_7 rfl ⟨Nat.zero_le _, Nat.zero_le _⟩ rfl lv st M Q
theorem zb_125_8 (sc : Nat × (Nat → Int32)) (lv : zi_L) (st : List Value) (M : zi_M) (Q : Option Value → zi_M → Prop) : zi_B sc 0 0 125 8 lv st M Q = zi_wp sc 0 0 125 Q zc_125_8 lv st M := zi_blk zc_125_8 rfl ⟨Nat.zero_le _, Nat.zero_le _⟩ rfl lv st M Q
theorem zb_125_9 (sc : Nat × (Nat → Int32)) (lv : zi_L) (st : List Value) (M : zi_M) (Q : Option Value → zi_M → Prop) : zi_B sc 0 0 125 9 lv st M Q = zi_wp sc 0 0 125 Q zc_125_9 lv st M := zi_blk zc_125_9 rfl ⟨Nat.zero_le _, Nat.zero_le _⟩ rfl lv st M Q
theorem zb_125_10 (sc : Nat × (Nat → Int32)) (lv : zi_L) (st : List Value) (M : zi_M) (Q : Option Value → zi_M → Prop) : zi_B sc 0 0 125 10 lv st M Q = zi_wp sc 0 0 125 Q zc_125_10 lv st M := zi_blk zc_125_10 rfl ⟨Nat.zero_le _, Nat.zero_le _⟩ rfl lv st M Q
theorem zb_125_11 (sc : Nat × (Nat → Int32)) (lv : zi_L) (st : List Value) (M : zi_M) (Q : Option Value → zi_M → Prop) : zi_B sc 0 0 125 11 lv st M Q = zi_wp sc 0 0 125 Q zc_125_11 lv st M := zi_blk zc_125_11 rfl ⟨Nat.zero_le _, Nat.zero_le _⟩ rfl lv st M Q
theorem zb_125_12 (sc : Nat × (Nat → Int32)) (lv : zi_L) (st : List Value) (M : zi_M) (Q : Option Value → zi_M → Prop) : zi_B sc 0 0 125 12 lv st M Q = zi_wp sc 0 0 125 Q zc_125_12 lv st M := zi_blk zc_125_12 rfl ⟨Nat.zero_le _, Nat.zero_le _⟩ rfl lv st M Q
theorem zb_126_0 (sc : Nat × (Nat → Int32)) (lv : zi_L) (st : List Value) (M : zi_M) (Q : Option Value → zi_M → Prop) : zi_B sc 0 0 126 0 lv st M Q = zi_wp sc 0 0 126 Q zc_126_0 lv st M := zi_blk zc_126_0 rfl ⟨Nat.zero_le _, Nat.zero_le _⟩ rfl lv st M Q
theorem zb_126_1 (sc : Nat × (Nat → Int32)) (lv : zi_L) (st : List Value) (M : zi_M) (Q : Option Value → zi_M → Prop) : zi_B sc 0 0 126 1 lv st M Q = zi_wp sc 0 0 126 Q zc_126_1 lv st M := zi_blk zc_126_1 rfl ⟨Nat.zero_le _, Nat.zero_le _⟩ rfl lv st M Q
theorem zb_126_2 (sc : Nat × (Nat → Int32)) (lv : zi_L) (st : List Value) (M : zi_M) (Q : Option Value → zi_M → Prop) : zi_B sc 0 0 126 2 lv st M Q = zi_wp sc 0 0 126 Q zc_126_2 lv st M := zi_blk zc_126_2 rfl ⟨Nat.zero_le _, Nat.zero_le _⟩ rfl lv st M Q
theorem zb_126_3 (sc : Nat × (Nat → Int32)) (lv : zi_L) (st : List Value) (M : zi_M) (Q : Option Value → zi_M → Prop) : zi_B sc 0 0 126 3 lv st M Q = zi_wp sc 0 0 126 Q zc_126_3 lv st M := zi_blk zc_126_3 rfl ⟨Nat.zero_le _, Nat.zero_le _⟩ rfl lv st M Q
theorem zb_126_4 (sc : Nat × (Nat → Int32)) (lv : zi_L) (st : List Value) (M : zi_M) (Q : Option Value → zi_M → Prop) : zi_B sc 0 0 126 4 lv st M Q = zi_wp sc 0 0 126 Q zc_126_4 lv st M := zi_blk zc_126_4 rfl ⟨Nat.zero_le _, Nat.zero_le _⟩ rfl lv st M Q
theorem zb_126_5 (sc : Nat × (Nat → Int32)) (lv : zi_L) (st : List Value) (M : zi_M) (Q : Option Value → zi_M → Prop) : zi_B sc 0 0 126 5 lv st M Q = zi_wp sc 0 0 126 Q zc_126_5 lv st M := zi_blk zc_126_5 rfl ⟨Nat.zero_le _, Nat.zero_le _⟩ rfl lv st M Q
theorem zb_126_6 (sc : Nat × (Nat → Int32)) (lv : zi_L) (st : List Value) (M : zi_M) (Q : Option Value → zi_M → Prop) : zi_B sc 0 0 126 6 lv st M Q = zi_wp sc 0 0 126 Q zc_126_6 lv st M := zi_blk zc_126_6 rfl ⟨Nat.zero_le _, Nat.zero_le _⟩ rfl lv st M Q
theorem zb_127_0 (sc : Nat × (Nat → Int32)) (lv : zi_L) (st : List Value) (M : zi_M) (Q : Option Value → zi_M → Prop) : zi_B sc 0 0 127 0 lv st M Q = zi_wp sc 0 0 127 Q zc_127_0 lv st M := zi_blk zc_127_0 rfl ⟨Nat.zero_le _, Nat.zero_le _⟩ rfl lv st M Q
theorem zb_127_1 (sc : Nat × (Nat → Int32)) (lv : zi_L) (st : List Value) (M : zi_M) (Q : Option Value → zi_M → Prop) : zi_B sc 0 0 127 1 lv st M Q = zi_wp sc 0 0 127 Q zc_127_1 lv st M := zi_blk zc_127_1 rfl ⟨Nat.zero_le _, Nat.zero_le _⟩ rfl lv st M Q
theorem zb_127_2 (sc : Nat × (Nat → Int32)) (lv : zi_L) (st : List Value) (M : zi_M) (Q : Option Value → zi_M → Prop) : zi_B sc 0 0 127 2 lv st M Q = zi_wp sc 0 0 127 Q zc_127_2 lv st M := zi_blk zc_127_2 rfl ⟨Nat.zero_le _, Nat.zero_le _⟩ rfl lv st M Q
theorem zb_127_3 (sc : Nat × (Nat → Int32)) (lv : zi_L) (st : List Value) (M : zi_M) (Q : Option Value → zi_M → Prop) : zi_B sc 0 0 127 3 lv st M Q = zi_wp sc 0 0 127 Q zc_127_3 lv st M := zi_blk zc_127_3 rfl ⟨Nat.zero_le _, Nat.zero_le _⟩ rfl lv st M Q
theorem zb_127_4 (sc : Nat × (Nat → Int32)) (lv : zi_L) (st : List Value) (M : zi_M) (Q : Option Value → zi_M → Prop) : zi_B sc 0 0 127 4 lv st M Q = zi_wp sc 0 0 127 Q zc_127_4 lv st M := zi_blk zc_127_4 rfl ⟨Nat.zero_le _, Nat.zero_le _⟩ rfl lv st M Q
theorem zb_127_5 (sc : Nat × (Nat → Int32)) (lv : zi_L) (st : List Value) (M : zi_M) (Q : Option Value → zi_M → Prop) : zi_B sc 0 0 127 5 lv st M Q = zi_wp sc 0 0 127 Q zc_127_5 lv st M := zi_blk zc_127_5 rfl ⟨Nat.zero_le _, Nat.zero_le _⟩ rfl lv st M Q
theorem zb_127_6 (sc : Nat × (Nat → Int32)) (lv : zi_L) (st : List Value) (M : zi_M) (Q : Option Value → zi_M → Prop) : zi_B sc 0 0 127 6 lv st M Q = zi_wp sc 0 0 127 Q zc_127_6 lv st M := zi_blk zc_127_6 rfl ⟨Nat.zero_le _, Nat.zero_le _⟩ rfl lv st M Q
theorem zb_128_0 (sc : Nat × (Nat → Int32)) (lv : zi_L) (st : List Value) (M : zi_M) (Q : Option Value → zi_M → Prop) : zi_B sc 0 0 128 0 lv st M Q = zi_wp sc 0 0 128 Q zc_128_0 lv st M := zi_blk zc_128_0 rfl ⟨Nat.zero_le _, Nat.zero_le _⟩ rfl lv st M Q
theorem zb_128_1 (sc : Nat × (Nat → Int32)) (lv : zi_L) (st : List Value) (M : zi_M) (Q : Option Value → zi_M → Prop) : zi_B sc 0 0 128 1 lv st M Q = zi_wp sc 0 0 128 Q zc_128_1 lv st M := zi_blk zc_128_1 rfl ⟨Nat.zero_le _, Nat.zero_le _⟩ rfl lv st M Q
theorem zb_128_2 (sc : Nat × (Nat → Int32)) (lv : zi_L) (st : List Value) (M : zi_M) (Q : Option Value → zi_M → Prop) : zi_B sc 0 0 128 2 lv st M Q = zi_wp sc 0 0 128 Q zc_128_2 lv st M := zi_blk zc_128_2 rfl ⟨Nat.zero_le _, Nat.zero_le _⟩ rfl lv st M Q
theorem zb_129_0 (sc : Nat × (Nat → Int32)) (lv : zi_L) (st : List Value) (M : zi_M) (Q : Option Value → zi_M → Prop) : zi_B sc 0 0 129 0 lv st M Q = zi_wp sc 0 0 129 Q zc_129_0 lv st M := zi_blk zc_129_0 rfl ⟨Nat.zero_le _, Nat.zero_le _⟩ rfl lv st M Q
theorem zb_129_1 (sc : Nat × (Nat → Int32)) (lv : zi_L) (st : List Value) (M : zi_M) (Q : Option Value → zi_M → Prop) : zi_B sc 0 0 129 1 lv st M Q = zi_wp sc 0 0 129 Q zc_129_1 lv st M := zi_blk zc_129_1 rfl ⟨Nat.zero_le _, Nat.zero_le _⟩ rfl lv st M Q
theorem zb_129_2 (sc : Nat × (Nat → Int32)) (lv : zi_L) (st : List Value) (M : zi_M) (Q : Option Value → zi_M → Prop) : zi_B sc 0 0 129 2 lv st M Q = zi_wp sc 0 0 129 Q zc_129_2 lv st M := zi_blk zc_129_2 rfl ⟨Nat.zero_le _, Nat.zero_le _⟩ rfl lv st M Q
theorem zb_129_3 (sc : Nat × (Nat → Int32)) (lv : zi_L) (st : List Value) (M : zi_M) (Q : Option Value → zi_M → Prop) : zi_B sc 0 0 129 3 lv st M Q = zi_wp sc 0 0 129 Q zc_129_3 lv st M := zi_blk zc_129_3 rfl ⟨Nat.zero_le _, Nat.zero_le _⟩ rfl lv st M Q
theorem zb_130_0 (sc : Nat × (Nat → Int32)) (lv : zi_L) (st : List Value) (M : zi_M) (Q : Option Value → zi_M → Prop) : zi_B sc 0 0 130 0 lv st M Q = zi_wp sc 0 0 130 Q zc_130_0 lv st M := zi_blk zc_130_0 rfl ⟨Nat.zero_le _, Nat.zero_le _⟩ rfl lv st M Q
theorem zb_131_0 (sc : Nat × (Nat → Int32)) (lv : zi_L) (st : List Value) (M : zi_M) (Q : Option Value → zi_M → Prop) : zi_B sc 0 0 131 0 lv st M Q = zi_wp sc 0 0 131 Q zc_131_0 lv st M := zi_blk zc_131_0 rfl ⟨Nat.zero_le _, Nat.zero_le _⟩ rfl lv st M Q
theorem zb_131_1 (sc : Nat × (Nat → Int32)) (lv : zi_L) (st : List Value) (M : zi_M) (Q : Option Value → zi_M → Prop) : zi_B sc 0 0 131 1 lv st M Q = zi_wp sc 0 0 131 Q zc_131_1 lv st M := zi_blk zc_131_1 rfl ⟨Nat.zero_le _, Nat.zero_le _⟩ rfl lv st M Q
theorem zb_131_2 (sc : Nat × (Nat → Int32)) (lv : zi_L) (st : List Value) (M : zi_M) (Q : Option Value → zi_M → Prop) : zi_B sc 0 0 131 2 lv st M Q = zi_wp sc 0 0 131 Q zc_131_2 lv st M := zi_blk zc_131_2 rfl ⟨Nat.zero_le _, Nat.zero_le _⟩ rfl lv st M Q
theorem zb_132_0 (sc : Nat × (Nat → Int32)) (lv : zi_L) (st : List Value) (M : zi_M) (Q : Option Value → zi_M → Prop) : zi_B sc 0 0 132 0 lv st M Q = zi_wp sc 0 0 132 Q zc_132_0 lv st M := zi_blk zc_132_0 rfl ⟨Nat.zero_le _, Nat.zero_le _⟩ rfl lv st M Q
theorem zb_132_1 (sc : Nat × (Nat → Int32)) (lv : zi_L) (st : List Value) (M : zi_M) (Q : Option Value → zi_M → Prop) : zi_B sc 0 0 132 1 lv st M Q = zi_wp sc 0 0 132 Q zc_132_1 lv st M := zi_blk zc_132_1 rfl ⟨Nat.zero_le _, Nat.zero_le _⟩ rfl lv st M Q
theorem zb_132_2 (sc : Nat × (Nat → Int32)) (lv : zi_L) (st : List Value) (M : zi_M) (Q : Option Value → zi_M → Prop) : zi_B sc 0 0 132 2 lv st M Q = zi_wp sc 0 0 132 Q zc_132_2 lv st M := zi_blk zc_132_2 rfl ⟨Nat.zero_le _, Nat.zero_le _⟩ rfl lv st M Q
theorem zb_132_3 (sc : Nat × (Nat → Int32)) (lv : zi_L) (st : List Value) (M : zi_M) (Q : Option Value → zi_M → Prop) : zi_B sc 0 0 132 3 lv st M Q = zi_wp sc 0 0 132 Q zc_132_3 lv st M := zi_blk zc_132_3 rfl ⟨Nat.zero_le _, Nat.zero_le _⟩ rfl lv st M Q
theorem zb_133_0 (sc : Nat × (Nat → Int32)) (lv : zi_L) (st : List Value) (M : zi_M) (Q : Option Value → zi_M → Prop) : zi_B sc 0 0 133 0 lv st M Q = zi_wp sc 0 0 133 Q zc_133_0 lv st M := zi_blk zc_133_0 rfl ⟨Nat.zero_le _, Nat.zero_le _⟩ rfl lv st M Q
theorem zb_133_1 (sc : Nat × (Nat → Int32)) (lv : zi_L) (st : List Value) (M : zi_M) (Q : Option Value → zi_M → Prop) : zi_B sc 0 0 133 1 lv st M Q = zi_wp sc 0 0 133 Q zc_133_1 lv st M := zi_blk zc_133_1 rfl ⟨Nat.zero_le _, Nat.zero_le _⟩ rfl lv st M Q
theorem zb_133_2 (sc : Nat × (Nat → Int32)) (lv : zi_L) (st : List Value) (M : zi_M) (Q : Option Value → zi_M → Prop) : zi_B sc 0 0 133 2 lv st M Q = zi_wp sc 0 0 133 Q zc_133_2 lv st M := zi_blk zc_133_2 rfl ⟨Nat.zero_le _, Nat.zero_le _⟩ rfl lv st M Q
theorem zb_133_3 (sc : Nat × (Nat → Int32)) (lv : zi_L) (st : List Value) (M : zi_M) (Q : Option Value → zi_M → Prop) : zi_B sc 0 0 133 3 lv st M Q = zi_wp sc 0 0 133 Q zc_133_3 lv st M := zi_blk zc_133_3 rfl ⟨Nat.zero_le _, Nat.zero_le _⟩ rfl lv st M Q
theorem zb_133_4 (sc : Nat × (Nat → Int32)) (lv : zi_L) (st : List Value) (M : zi_M) (Q : Option Value → zi_M → Prop) : zi_B sc 0 0 133 4 lv st M Q = zi_wp sc 0 0 133 Q zc_133_4 lv st M := zi_blk zc_133_4 rfl ⟨Nat.zero_le _, Nat.zero_le _⟩ rfl lv st M Q
theorem zb_133_5 (sc : Nat × (Nat → Int32)) (lv : zi_L) (st : List Value) (M : zi_M) (Q : Option Value → zi_M → Prop) : zi_B sc 0 0 133 5 lv st M Q = zi_wp sc 0 0 133 Q zc_133_5 lv st M := zi_blk zc_133_5 rfl ⟨Nat.zero_le _, Nat.zero_le _⟩ rfl lv st M Q
theorem zb_133_6 (sc : Nat × (Nat → Int32)) (lv : zi_L) (st : List Value) (M : zi_M) (Q : Option Value → zi_M → Prop) : zi_B sc 0 0 133 6 lv st M Q = zi_wp sc 0 0 133 Q zc_133_6 lv st M := zi_blk zc_133_6 rfl ⟨Nat.zero_le _, Nat.zero_le _⟩ rfl lv st M Q
theorem zb_133_7 (sc : Nat × (Nat → Int32)) (lv : zi_L) (st : List Value) (M : zi_M) (Q : Option Value → zi_M → Prop) : zi_B sc 0 0 133 7 lv st M Q = zi_wp sc 0 0 133 Q zc_133_7 lv st M := zi_blk zc_133_7 rfl ⟨Nat.zero_le _, Nat.zero_le _⟩ rfl lv st M Q
theorem zb_133_8 (sc : Nat × (Nat → Int32)) (lv : zi_L) (st : List Value) (M : zi_M) (Q : Option Value → zi_M → Prop) : zi_B sc 0 0 133 8 lv st M Q = zi_wp sc 0 0 133 Q zc_133_8 lv st M := zi_blk zc_133_8 rfl ⟨Nat.zero_le _, Nat.zero_le _⟩ rfl lv st M Q
theorem zb_133_9 (sc : Nat × (Nat → Int32)) (lv : zi_L) (st : List Value) (M : zi_M) (Q : Option Value → zi_M → Prop) : zi_B sc 0 0 133 9 lv st M Q = zi_wp sc 0 0 133 Q zc_133_9 lv st M := zi_blk zc_133_9 rfl ⟨Nat.zero_le _, Nat.zero_le _⟩ rfl lv st M Q
theorem zb_133_10 (sc : Nat × (Nat → Int32)) (lv : zi_L) (st : List Value) (M : zi_M) (Q : Option Value → zi_M → Prop) : zi_B sc 0 0 133 10 lv st M Q = zi_wp sc 0 0 133 Q zc_133_10 lv st M := zi_blk zc_133_10 rfl ⟨Nat.zero_le _, Nat.zero_le _⟩ rfl lv st M Q
theorem zb_133_11 (sc : Nat × (Nat → Int32)) (lv : zi_L) (st : List Value) (M : zi_M) (Q : Option Value → zi_M → Prop) : zi_B sc 0 0 133 11 lv st M Q = zi_wp sc 0 0 133 Q zc_133_11 lv st M := zi_blk zc_133_11 rfl ⟨Nat.zero_le _, Nat.zero_le _⟩ rfl lv st M Q
theorem zb_134_0 (sc : Nat × (Nat → Int32)) (lv : zi_L) (st : List Value) (M : zi_M) (Q : Option Value → zi_M → Prop) : zi_B sc 0 0 134 0 lv st M Q = zi_wp sc 0 0 134 Q zc_134_0 lv st M := zi_blk zc_134_0 rfl ⟨Nat.zero_le _, Nat.zero_le _⟩ rfl lv st M Q
theorem zb_134_1 (sc : Nat × (Nat → Int32)) (lv : zi_L) (st : List Value) (M : zi_M) (Q : Option Value → zi_M → Prop) : zi_B sc 0 0 134 1 lv st M Q = zi_wp sc 0 0 134 Q zc_134_1 lv st M := zi_blk zc_134_1 rfl ⟨Nat.zero_le _, Nat.zero_le _⟩ rfl lv st M Q
theorem zb_134_2 (sc : Nat × (Nat → Int32)) (lv : zi_L) (st : List Value) (M : zi_M) (Q : Option Value → zi_M → Prop) : zi_B sc 0 0 134 2 lv st M Q = zi_wp sc 0 0 134 Q zc_134_2 lv st M := zi_blk zc_134_2 rfl ⟨Nat.zero_le _, Nat.zero_le _⟩ rfl lv st M Q
theorem zb_135_0 (sc : Nat × (Nat → Int32)) (lv : zi_L) (st : List Value) (M : zi_M) (Q : Option Value → zi_M → Prop) : zi_B sc 0 0 135 0 lv st M Q = zi_wp sc 0 0 135 Q zc_135_0 lv st M := zi_blk zc_135_0 rfl ⟨Nat.zero_le _, Nat.zero_le _⟩ rfl lv st M Q
theorem zb_135_1 (sc : Nat × (Nat → Int32)) (lv : zi_L) (st : List Value) (M : zi_M) (Q : Option Value → zi_M → Prop) : zi_B sc 0 0 135 1 lv st M Q = zi_wp sc 0 0 135 Q zc_135_1 lv st M := zi_blk zc_135_1 rfl ⟨Nat.zero_le _, Nat.zero_le _⟩ rfl lv st M Q
theorem zb_135_2 (sc : Nat × (Nat → Int32)) (lv : zi_L) (st : List Value) (M : zi_M) (Q : Option Value → zi_M → Prop) : zi_B sc 0 0 135 2 lv st M Q = zi_wp sc 0 0 135 Q zc_135_2 lv st M := zi_blk zc_135_2 rfl ⟨Nat.zero_le _, Nat.zero_le _⟩ rfl lv st M Q
theorem zb_136_0 (sc : Nat × (Nat → Int32)) (lv : zi_L) (st : List Value) (M : zi_M) (Q : Option Value → zi_M → Prop) : zi_B sc 0 0 136 0 lv st M Q = zi_wp sc 0 0 136 Q zc_136_0 lv st M := zi_blk zc_136_0 rfl ⟨Nat.zero_le _, Nat.zero_le _⟩ rfl lv st M Q
theorem zb_136_1 (sc : Nat × (Nat → Int32)) (lv : zi_L) (st : List Value) (M : zi_M) (Q : Option Value → zi_M → Prop) : zi_B sc 0 0 136 1 lv st M Q = zi_wp sc 0 0 136 Q zc_136_1 lv st M := zi_blk zc_136_1 rfl ⟨Nat.zero_le _, Nat.zero_le _⟩ rfl lv st M Q
theorem zb_136_2 (sc : Nat × (Nat → Int32)) (lv : zi_L) (st : List Value) (M : zi_M) (Q : Option Value → zi_M → Prop) : zi_B sc 0 0 136 2 lv st M Q = zi_wp sc 0 0 136 Q zc_136_2 lv st M := zi_blk zc_136_2 rfl ⟨Nat.zero_le _, Nat.zero_le _⟩ rfl lv st M Q
theorem zb_136_3 (sc : Nat × (Nat → Int32)) (lv : zi_L) (st : List Value) (M : zi_M) (Q : Option Value → zi_M → Prop) : zi_B sc 0 0 136 3 lv st M Q = zi_wp sc 0 0 136 Q zc_136_3 lv st M := zi_blk zc_136_3 rfl ⟨Nat.zero_le _, Nat.zero_le _⟩ rfl lv st M Q
theorem zb_136_4 (sc : Nat × (Nat → Int32)) (lv : zi_L) (st : List Value) (M : zi_M) (Q : Option Value → zi_M → Prop) : zi_B sc 0 0 136 4 lv st M Q = zi_wp sc 0 0 136 Q zc_136_4 lv st M := zi_blk zc_136_4 rfl ⟨Nat.zero_le _, Nat.zero_le _⟩ rfl lv st M Q
theorem zb_136_5 (sc : Nat × (Nat → Int32)) (lv : zi_L) (st : List Value) (M : zi_M) (Q : Option Value → zi_M → Prop) : zi_B sc 0 0 136 5 lv st M Q = zi_wp sc 0 0 136 Q zc_136_5 lv st M := zi_blk zc_136_5 rfl ⟨Nat.zero_le _, Nat.zero_le _⟩ rfl lv st M Q
theorem zb_136_6 (sc : Nat × (Nat → Int32)) (lv : zi_L) (st : List Value) (M : zi_M) (Q : Option Value → zi_M → Prop) : zi_B sc 0 0 136 6 lv st M Q = zi_wp sc 0 0 136 Q zc_136_6 lv st M := zi_blk zc_136_6 rfl ⟨Nat.zero_le _, Nat.zero_le _⟩ rfl lv st M Q
theorem zb_136_7 (sc : Nat × (Nat → Int32)) (lv : zi_L) (st : List Value) (M : zi_M) (Q : Option Value → zi_M → Prop) : zi_B sc 0 0 136 7 lv st M Q = zi_wp sc 0 0 136 Q zc_136_7 lv st M := zi_blk zc_136_7 rfl ⟨Nat.zero_le _, Nat.zero_le _⟩ rfl lv st M Q
theorem zb_136_8 (sc : Nat × (Nat → Int32)) (lv : zi_L) (st : List Value) (M : zi_M) (Q : Option Value → zi_M → Prop) : zi_B sc 0 0 136 8 lv st M Q = zi_wp sc 0 0 136 Q zc_136_8 lv st M := zi_blk zc_136_8 rfl ⟨Nat.zero_le _, Nat.zero_le _⟩ rfl lv st M Q
theorem zb_136_9 (sc : Nat × (Nat → Int32)) (lv : zi_L) (st : List Value) (M : zi_M) (Q : Option Value → zi_M → Prop) : zi_B sc 0 0 136 9 lv st M Q = zi_wp sc 0 0 136 Q zc_136_9 lv st M := zi_blk zc_136_9 rfl ⟨Nat.zero_le _, Nat.zero_le _⟩ rfl lv st M Q
theorem zb_136_10 (sc : Nat × (Nat → Int32)) (lv : zi_L) (st : List Value) (M : zi_M) (Q : Option Value → zi_M → Prop) : zi_B sc 0 0 136 10 lv st M Q = zi_wp sc 0 0 136 Q zc_136_10 lv st M := zi_blk zc_136_10 rfl ⟨Nat.zero_le _, Nat.zero_le _⟩ rfl lv st M Q
theorem zb_137_0 (sc : Nat × (Nat → Int32)) (lv : zi_L) (st : List Value) (M : zi_M) (Q : Option Value → zi_M → Prop) : zi_B sc 0 0 137 0 lv st M Q = zi_wp sc 0 0 137 Q zc_137_0 lv st M := zi_blk zc_137_0 rfl ⟨Nat.zero_le _, Nat.zero_le _⟩ rfl lv st M Q
theorem zb_137_1 (sc : Nat × (Nat → Int32)) (lv : zi_L) (st : List Value) (M : zi_M) (Q : Option Value → zi_M → Prop) : zi_B sc 0 0 137 1 lv st M Q = zi_wp sc 0 0 137 Q zc_137_1 lv st M := zi_blk zc_137_1 rfl ⟨Nat.zero_le _, Nat.zero_le _⟩ rfl lv st M Q
theorem zb_137_2 (sc : Nat × (Nat → Int32)) (lv : zi_L) (st : List Value) (M : zi_M) (Q : Option Value → zi_M → Prop) : zi_B sc 0 0 137 2 lv st M Q = zi_wp sc 0 0 137 Q zc_137_2 lv st M := zi_blk zc_137_2 rfl ⟨Nat.zero_le _, Nat.zero_le _⟩ rfl lv st M Q
theorem zb_137_3 (sc : Nat × (Nat → Int32)) (lv : zi_L) (st : List Value) (M : zi_M) (Q : Option Value → zi_M → Prop) : zi_B sc 0 0 137 3 lv st M Q = zi_wp sc 0 0 137 Q zc_137_3 lv st M := zi_blk zc_137_3 rfl ⟨Nat.zero_le _, Nat.zero_le _⟩ rfl lv st M Q
theorem zb_137_4 (sc : Nat × (Nat → Int32)) (lv : zi_L) (st : List Value) (M : zi_M) (Q : Option Value → zi_M → Prop) : zi_B sc 0 0 137 4 lv st M Q = zi_wp sc 0 0 137 Q zc_137_4 lv st M := zi_blk zc_137_4 rfl ⟨Nat.zero_le _, Nat.zero_le _⟩ rfl lv st M Q
theorem zb_137_5 (sc : Nat × (Nat → Int32)) (lv : zi_L) (st : List Value) (M : zi_M) (Q : Option Value → zi_M → Prop) : zi_B sc 0 0 137 5 lv st M Q = zi_wp sc 0 0 137 Q zc_137_5 lv st M := zi_blk zc_137_5 rfl ⟨Nat.zero_le _, Nat.zero_le _⟩ rfl lv st M Q
theorem zb_137_6 (sc : Nat × (Nat → Int32)) (lv : zi_L) (st : List Value) (M : zi_M) (Q : Option Value → zi_M → Prop) : zi_B sc 0 0 137 6 lv st M Q = zi_wp sc 0 0 137 Q zc_137_6 lv st M := zi_blk zc_137_6 rfl ⟨Nat.zero_le _, Nat.zero_le _⟩ rfl lv st M Q
theorem zb_137_7 (sc : Nat × (Nat → Int32)) (lv : zi_L) (st : List Value) (M : zi_M) (Q : Option Value → zi_M → Prop) : zi_B sc 0 0 137 7 lv st M Q = zi_wp sc 0 0 137 Q zc_137_7 lv st M := zi_blk zc_137_7 rfl ⟨Nat.zero_le _, Nat.zero_le _⟩ rfl lv st M Q
theorem zb_138_0 (sc : Nat × (Nat → Int32)) (lv : zi_L) (st : List Value) (M : zi_M) (Q : Option Value → zi_M → Prop) : zi_B sc 0 0 138 0 lv st M Q = zi_wp sc 0 0 138 Q zc_138_0 lv st M := zi_blk zc_138_0 rfl ⟨Nat.zero_le _, Nat.zero_le _⟩ rfl lv st M Q
theorem zb_138_1 (sc : Nat × (Nat → Int32)) (lv : zi_L) (st : List Value) (M : zi_M) (Q : Option Value → zi_M → Prop) : zi_B sc 0 0 138 1 lv st M Q = zi_wp sc 0 0 138 Q zc_138_1 lv st M := zi_blk zc_138_1 rfl ⟨Nat.zero_le _, Nat.zero_le _⟩ rfl lv st M Q
theorem zb_138_2 (sc : Nat × (Nat → Int32)) (lv : zi_L) (st : List Value) (M : zi_M) (Q : Option Value → zi_M → Prop) : zi_B sc 0 0 138 2 lv st M Q = zi_wp sc 0 0 138 Q zc_138_2 lv st M := zi_blk zc_138_2 rfl ⟨Nat.zero_le _, Nat.zero_le _⟩ rfl lv st M Q
theorem zb_138_3 (sc : Nat × (Nat → Int32)) (lv : zi_L) (st : List Value) (M : zi_M) (Q : Option Value → zi_M → Prop) : zi_B sc 0 0 138 3 lv st M Q = zi_wp sc 0 0 138 Q zc_138_3 lv st M := zi_blk zc_138_3 rfl ⟨Nat.zero_le _, Nat.zero_le _⟩ rfl lv st M Q
theorem zb_138_4 (sc : Nat × (Nat → Int32)) (lv : zi_L) (st : List Value) (M : zi_M) (Q : Option Value → zi_M → Prop) : zi_B sc 0 0 138 4 lv st M Q = zi_wp sc 0 0 138 Q zc_138_4 lv st M := zi_blk zc_138_4 rfl ⟨Nat.zero_le _, Nat.zero_le _⟩ rfl lv st M Q
theorem zb_138_5 (sc : Nat × (Nat → Int32)) (lv : zi_L) (st : List Value) (M : zi_M) (Q : Option Value → zi_M → Prop) : zi_B sc 0 0 138 5 lv st M Q = zi_wp sc 0 0 138 Q zc_138_5 lv st M := zi_blk zc_138_5 rfl ⟨Nat.zero_le _, Nat.zero_le _⟩ rfl lv st M Q
theorem zb_138_6 (sc : Nat × (Nat → Int32)) (lv : zi_L) (st : List Value) (M : zi_M) (Q : Option Value → zi_M → Prop) : zi_B sc 0 0 138 6 lv st M Q = zi_wp sc 0 0 138 Q zc_138_6 lv st M := zi_blk zc_138_6 rfl ⟨Nat.zero_le _, Nat.zero_le _⟩ rfl lv st M Q
theorem zb_138_7 (sc : Nat × (Nat → Int32)) (lv : zi_L) (st : List Value) (M : zi_M) (Q : Option Value → zi_M → Prop) : zi_B sc 0 0 138 7 lv st M Q = zi_wp sc 0 0 138 Q zc_138_7 lv st M := zi_blk zc_138_7 rfl ⟨Nat.zero_le _, Nat.zero_le _⟩ rfl lv st M Q
theorem zb_138_8 (sc : Nat × (Nat → Int32)) (lv : zi_L) (st : List Value) (M : zi_M) (Q : Option Value → zi_M → Prop) : zi_B sc 0 0 138 8 lv st M Q = zi_wp sc 0 0 138 Q zc_138_8 lv st M := zi_blk zc_138_8 rfl ⟨Nat.zero_le _, Nat.zero_le _⟩ rfl lv st M Q
theorem zb_139_0 (sc : Nat × (Nat → Int32)) (lv : zi_L) (st : List Value) (M : zi_M) (Q : Option Value → zi_M → Prop) : zi_B sc 0 0 139 0 lv st M Q = zi_wp sc 0 0 139 Q zc_139_0 lv st M := zi_blk zc_139_0 rfl ⟨Nat.zero_le _, Nat.zero_le _⟩ rfl lv st M Q
theorem zb_139_1 (sc : Nat × (Nat → Int32)) (lv : zi_L) (st : List Value) (M : zi_M) (Q : Option Value → zi_M → Prop) : zi_B sc 0 0 139 1 lv st M Q = zi_wp sc 0 0 139 Q zc_139_1 lv st M := zi_blk zc_139_1 rfl ⟨Nat.zero_le _, Nat.zero_le _⟩ rfl lv st M Q
theorem zb_139_2 (sc : Nat × (Nat → Int32)) (lv : zi_L) (st : List Value) (M : zi_M) (Q : Option Value → zi_M → Prop) : zi_B sc 0 0 139 2 lv st M Q = zi_wp sc 0 0 139 Q zc_139_2 lv st M := zi_blk zc_139_2 rfl ⟨Nat.zero_le _, Nat.zero_le _⟩ rfl lv st M Q
theorem zb_140_0 (sc : Nat × (Nat → Int32)) (lv : zi_L) (st : List Value) (M : zi_M) (Q : Option Value → zi_M → Prop) : zi_B sc 0 0 140 0 lv st M Q = zi_wp sc 0 0 140 Q zc_140_0 lv st M := zi_blk zc_140_0 rfl ⟨Nat.zero_le _, Nat.zero_le _⟩ rfl lv st M Q
theorem zb_141_0 (sc : Nat × (Nat → Int32)) (lv : zi_L) (st : List Value) (M : zi_M) (Q : Option Value → zi_M → Prop) : zi_B sc 0 0 141 0 lv st M Q = zi_wp sc 0 0 141 Q zc_141_0 lv st M := zi_blk zc_141_0 rfl ⟨Nat.zero_le _, Nat.zero_le _⟩ rfl lv st M Q
theorem zb_141_1 (sc : Nat × (Nat → Int32)) (lv : zi_L) (st : List Value) (M : zi_M) (Q : Option Value → zi_M → Prop) : zi_B sc 0 0 141 1 lv st M Q = zi_wp sc 0 0 141 Q zc_141_1 lv st M := zi_blk zc_141_1 rfl ⟨Nat.zero_le _, Nat.zero_le _⟩ rfl lv st M Q
theorem zb_141_2 (sc : Nat × (Nat → Int32)) (lv : zi_L) (st : List Value) (M : zi_M) (Q : Option Value → zi_M → Prop) : zi_B sc 0 0 141 2 lv st M Q = zi_wp sc 0 0 141 Q zc_141_2 lv st M := zi_blk zc_141_2 rfl ⟨Nat.zero_le _, Nat.zero_le _⟩ rfl lv st M Q
theorem zb_141_3 (sc : Nat × (Nat → Int32)) (lv : zi_L) (st : List Value) (M : zi_M) (Q : Option Value → zi_M → Prop) : zi_B sc 0 0 141 3 lv st M Q = zi_wp sc 0 0 141 Q zc_141_3 lv st M := zi_blk zc_141_3 rfl ⟨Nat.zero_le _, Nat.zero_le _⟩ rfl lv st M Q
theorem zb_141_4 (sc : Nat × (Nat → Int32)) (lv : zi_L) (st : List Value) (M : zi_M) (Q : Option Value → zi_M → Prop) : zi_B sc 0 0 141 4 lv st M Q = zi_wp sc 0 0 141 Q zc_141_4 lv st M := zi_blk zc_141_4 rfl ⟨Nat.zero_le _, Nat.zero_le _⟩ rfl lv st M Q
theorem zb_141_5 (sc : Nat × (Nat → Int32)) (lv : zi_L) (st : List Value) (M : zi_M) (Q : Option Value → zi_M → Prop) : zi_B sc 0 0 141 5 lv st M Q = zi_wp sc 0 0 141 Q zc_141_5 lv st M := zi_blk zc_141_5 rfl ⟨Nat.zero_le _, Nat.zero_le _⟩ rfl lv st M Q
theorem zb_141_6 (sc : Nat × (Nat → Int32)) (lv : zi_L) (st : List Value) (M : zi_M) (Q : Option Value → zi_M → Prop) : zi_B sc 0 0 141 6 lv st M Q = zi_wp sc 0 0 141 Q zc_141_6 lv st M := zi_blk zc_141_6 rfl ⟨Nat.zero_le _, Nat.zero_le _⟩ rfl lv st M Q
theorem zb_141_7 (sc : Nat × (Nat → Int32)) (lv : zi_L) (st : List Value) (M : zi_M) (Q : Option Value → zi_M → Prop) : zi_B sc 0 0 141 7 lv st M Q = zi_wp sc 0 0 141 Q zc_141_7 lv st M := zi_blk zc_141_7 rfl ⟨Nat.zero_le _, Nat.zero_le _⟩ rfl lv st M Q
theorem zb_141_8 (sc : Nat × (Nat → Int32)) (lv : zi_L) (st : List Value) (M : zi_M) (Q : Option Value → zi_M → Prop) : zi_B sc 0 0 141 8 lv st M Q = zi_wp sc 0 0 141 Q zc_141_8 lv st M := zi_blk zc_141_8 rfl ⟨Nat.zero_le _, Nat.zero_le _⟩ rfl lv st M Q
theorem zb_141_9 (sc : Nat × (Nat → Int32)) (lv : zi_L) (st : List Value) (M : zi_M) (Q : Option Value → zi_M → Prop) : zi_B sc 0 0 141 9 lv st M Q = zi_wp sc 0 0 141 Q zc_141_9 lv st M := zi_blk zc_141_9 rfl ⟨Nat.zero_le _, Nat.zero_le _⟩ rfl lv st M Q
theorem zb_141_10 (sc : Nat × (Nat → Int32)) (lv : zi_L) (st : List Value) (M : zi_M) (Q : Option Value → zi_M → Prop) : zi_B sc 0 0 141 10 lv st M Q = zi_wp sc 0 0 141 Q zc_141_10 lv st M := zi_blk zc_141_10 rfl ⟨Nat.zero_le _, Nat.zero_le _⟩ rfl lv st M Q
theorem zb_141_11 (sc : Nat × (Nat → Int32)) (lv : zi_L) (st : List Value) (M : zi_M) (Q : Option Value → zi_M → Prop) : zi_B sc 0 0 141 11 lv st M Q = zi_wp sc 0 0 141 Q zc_141_11 lv st M := zi_blk zc_141_11 rfl ⟨Nat.zero_le _, Nat.zero_le _⟩ rfl lv st M Q
theorem zb_141_12 (sc : Nat × (Nat → Int32)) (lv : zi_L) (st : List Value) (M : zi_M) (Q : Option Value → zi_M → Prop) : zi_B sc 0 0 141 12 lv st M Q = zi_wp sc 0 0 141 Q zc_141_12 lv st M := zi_blk zc_141_12 rfl ⟨Nat.zero_le _, Nat.zero_le _⟩ rfl lv st M Q
theorem zb_141_13 (sc : Nat × (Nat → Int32)) (lv : zi_L) (st : List Value) (M : zi_M) (Q : Option Value → zi_M → Prop) : zi_B sc 0 0 141 13 lv st M Q = zi_wp sc 0 0 141 Q zc_141_13 lv st M := zi_blk zc_141_13 rfl ⟨Nat.zero_le _, Nat.zero_le _⟩ rfl lv st M Q
theorem zb_141_14 (sc : Nat × (Nat → Int32)) (lv : zi_L) (st : List Value) (M : zi_M) (Q : Option Value → zi_M → Prop) : zi_B sc 0 0 141 14 lv st M Q = zi_wp sc 0 0 141 Q zc_141_14 lv st M := zi_blk zc_141_14 rfl ⟨Nat.zero_le _, Nat.zero_le _⟩ rfl lv st M Q
theorem zb_142_0 (sc : Nat × (Nat → Int32)) (lv : zi_L) (st : List Value) (M : zi_M) (Q : Option Value → zi_M → Prop) : zi_B sc 0 0 142 0 lv st M Q = zi_wp sc 0 0 142 Q zc_142_0 lv st M := zi_blk zc_142_0 rfl ⟨Nat.zero_le _, Nat.zero_le _⟩ rfl lv st M Q
theorem zb_142_1 (sc : Nat × (Nat → Int32)) (lv : zi_L) (st : List Value) (M : zi_M) (Q : Option Value → zi_M → Prop) : zi_B sc 0 0 142 1 lv st M Q = zi_wp sc 0 0 142 Q zc_142_1 lv st M := zi_blk zc_142_1 rfl ⟨Nat.zero_le _, Nat.zero_le _⟩ rfl lv st M Q
theorem zb_142_2 (sc : Nat × (Nat → Int32)) (lv : zi_L) (st : List Value) (M : zi_M) (Q : Option Value → zi_M → Prop) : zi_B sc 0 0 142 2 lv st M Q = zi_wp sc 0 0 142 Q zc_142_2 lv st M := zi_blk zc_142_2 rfl ⟨Nat.zero_le _, Nat.zero_le _⟩ rfl lv st M Q
theorem zb_143_0 (sc : Nat × (Nat → Int32)) (lv : zi_L) (st : List Value) (M : zi_M) (Q : Option Value → zi_M → Prop) : zi_B sc 0 0 143 0 lv st M Q = zi_wp sc 0 0 143 Q zc_143_0 lv st M := zi_blk zc_143_0 rfl ⟨Nat.zero_le _, Nat.zero_le _⟩ rfl lv st M Q
theorem zb_143_1 (sc : Nat × (Nat → Int32)) (lv : zi_L) (st : List Value) (M : zi_M) (Q : Option Value → zi_M → Prop) : zi_B sc 0 0 143 1 lv st M Q = zi_wp sc 0 0 143 Q zc_143_1 lv st M := zi_blk zc_143_1 rfl ⟨Nat.zero_le _, Nat.zero_le _⟩ rfl lv st M Q
theorem zb_143_2 (sc : Nat × (Nat → Int32)) (lv : zi_L) (st : List Value) (M : zi_M) (Q : Option Value → zi_M → Prop) : zi_B sc 0 0 143 2 lv st M Q = zi_wp sc 0 0 143 Q zc_143_2 lv st M := zi_blk zc_143_2 rfl ⟨Nat.zero_le _, Nat.zero_le _⟩ rfl lv st M Q
theorem zb_143_3 (sc : Nat × (Nat → Int32)) (lv : zi_L) (st : List Value) (M : zi_M) (Q : Option Value → zi_M → Prop) : zi_B sc 0 0 143 3 lv st M Q = zi_wp sc 0 0 143 Q zc_143_3 lv st M := zi_blk zc_143_3 rfl ⟨Nat.zero_le _, Nat.zero_le _⟩ rfl lv st M Q
theorem zb_143_4 (sc : Nat × (Nat → Int32)) (lv : zi_L) (st : List Value) (M : zi_M) (Q : Option Value → zi_M → Prop) : zi_B sc 0 0 143 4 lv st M Q = zi_wp sc 0 0 143 Q zc_143_4 lv st M := zi_blk zc_143_4 rfl ⟨Nat.zero_le _, Nat.zero_le _⟩ rfl lv st M Q
theorem zb_144_0 (sc : Nat × (Nat → Int32)) (lv : zi_L) (st : List Value) (M : zi_M) (Q : Option Value → zi_M → Prop) : zi_B sc 0 0 144 0 lv st M Q = zi_wp sc 0 0 144 Q zc_144_0 lv st M := zi_blk zc_144_0 rfl ⟨Nat.zero_le _, Nat.zero_le _⟩ rfl lv st M Q
theorem zb_144_1 (sc : Nat × (Nat → Int32)) (lv : zi_L) (st : List Value) (M : zi_M) (Q : Option Value → zi_M → Prop) : zi_B sc 0 0 144 1 lv st M Q = zi_wp sc 0 0 144 Q zc_144_1 lv st M := zi_blk zc_144_1 rfl ⟨Nat.zero_le _, Nat.zero_le _⟩ rfl lv st M Q
theorem zb_144_2 (sc : Nat × (Nat → Int32)) (lv : zi_L) (st : List Value) (M : zi_M) (Q : Option Value → zi_M → Prop) : zi_B sc 0 0 144 2 lv st M Q = zi_wp sc 0 0 144 Q zc_144_2 lv st M := zi_blk zc_144_2 rfl ⟨Nat.zero_le _, Nat.zero_le _⟩ rfl lv st M Q
theorem zb_144_3 (sc : Nat × (Nat → Int32)) (lv : zi_L) (st : List Value) (M : zi_M) (Q : Option Value → zi_M → Prop) : zi_B sc 0 0 144 3 lv st M Q = zi_wp sc 0 0 144 Q zc_144_3 lv st M := zi_blk zc_144_3 rfl ⟨Nat.zero_le _, Nat.zero_le _⟩ rfl lv st M Q
theorem zb_144_4 (sc : Nat × (Nat → Int32)) (lv : zi_L) (st : List Value) (M : zi_M) (Q : Option Value → zi_M → Prop) : zi_B sc 0 0 144 4 lv st M Q = zi_wp sc 0 0 144 Q zc_144_4 lv st M := zi_blk zc_144_4 rfl ⟨Nat.zero_le _, Nat.zero_le _⟩ rfl lv st M Q
theorem zb_145_0 (sc : Nat × (Nat → Int32)) (lv : zi_L) (st : List Value) (M : zi_M) (Q : Option Value → zi_M → Prop) : zi_B sc 0 0 145 0 lv st M Q = zi_wp sc 0 0 145 Q zc_145_0 lv st M := zi_blk zc_145_0 rfl ⟨Nat.zero_le _, Nat.zero_le _⟩ rfl lv st M Q
theorem zb_145_1 (sc : Nat × (Nat → Int32)) (lv : zi_L) (st : List Value) (M : zi_M) (Q : Option Value → zi_M → Prop) : zi_B sc 0 0 145 1 lv st M Q = zi_wp sc 0 0 145 Q zc_145_1 lv st M := zi_blk zc_145_1 rfl ⟨Nat.zero_le _, Nat.zero_le _⟩ rfl lv st M Q
theorem zb_145_2 (sc : Nat × (Nat → Int32)) (lv : zi_L) (st : List Value) (M : zi_M) (Q : Option Value → zi_M → Prop) : zi_B sc 0 0 145 2 lv st M Q = zi_wp sc 0 0 145 Q zc_145_2 lv st M := zi_blk zc_145_2 rfl ⟨Nat.zero_le _, Nat.zero_le _⟩ rfl lv st M Q
theorem zb_145_3 (sc : Nat × (Nat → Int32)) (lv : zi_L) (st : List Value) (M : zi_M) (Q : Option Value → zi_M → Prop) : zi_B sc 0 0 145 3 lv st M Q = zi_wp sc 0 0 145 Q zc_145_3 lv st M := zi_blk zc_145_3 rfl ⟨Nat.zero_le _, Nat.zero_le _⟩ rfl lv st M Q
theorem zb_145_4 (sc : Nat × (Nat → Int32)) (lv : zi_L) (st : List Value) (M : zi_M) (Q : Option Value → zi_M → Prop) : zi_B sc 0 0 145 4 lv st M Q = zi_wp sc 0 0 145 Q zc_145_4 lv st M := zi_blk zc_145_4 rfl ⟨Nat.zero_le _, Nat.zero_le _⟩ rfl lv st M Q
theorem zb_145_5 (sc : Nat × (Nat → Int32)) (lv : zi_L) (st : List Value) (M : zi_M) (Q : Option Value → zi_M → Prop) : zi_B sc 0 0 145 5 lv st M Q = zi_wp sc 0 0 145 Q zc_145_5 lv st M := zi_blk zc_145_5 rfl ⟨Nat.zero_le _, Nat.zero_le _⟩ rfl lv st M Q
theorem zb_145_6 (sc : Nat × (Nat → Int32)) (lv : zi_L) (st : List Value) (M : zi_M) (Q : Option Value → zi_M → Prop) : zi_B sc 0 0 145 6 lv st M Q = zi_wp sc 0 0 145 Q zc_145_6 lv st M := zi_blk zc_145_6 rfl ⟨Nat.zero_le _, Nat.zero_le _⟩ rfl lv st M Q
theorem zb_145_7 (sc : Nat × (Nat → Int32)) (lv : zi_L) (st : List Value) (M : zi_M) (Q : Option Value → zi_M → Prop) : zi_B sc 0 0 145 7 lv st M Q = zi_wp sc 0 0 145 Q zc_145_7 lv st M := zi_blk zc_145_7 rfl ⟨Nat.zero_le _, Nat.zero_le _⟩ rfl lv st M Q
theorem zb_145_8 (sc : Nat × (Nat → Int32)) (lv : zi_L) (st : List Value) (M : zi_M) (Q : Option Value → zi_M → Prop) : zi_B sc 0 0 145 8 lv st M Q = zi_wp sc 0 0 145 Q zc_145_8 lv st M := zi_blk zc_145_8 rfl ⟨Nat.zero_le _, Nat.zero_le _⟩ rfl lv st M Q
theorem zb_145_9 (sc : Nat × (Nat → Int32)) (lv : zi_L) (st : List Value) (M : zi_M) (Q : Option Value → zi_M → Prop) : zi_B sc 0 0 145 9 lv st M Q = zi_wp sc 0 0 145 Q zc_145_9 lv st M := zi_blk zc_145_9 rfl ⟨Nat.zero_le _, Nat.zero_le _⟩ rfl lv st M Q
theorem zb_145_10 (sc : Nat × (Nat → Int32)) (lv : zi_L) (st : List Value) (M : zi_M) (Q : Option Value → zi_M → Prop) : zi_B sc 0 0 145 10 lv st M Q = zi_wp sc 0 0 145 Q zc_145_10 lv st M := zi_blk zc_145_10 rfl ⟨Nat.zero_le _, Nat.zero_le _⟩ rfl lv st M Q
theorem zb_145_11 (sc : Nat × (Nat → Int32)) (lv : zi_L) (st : List Value) (M : zi_M) (Q : Option Value → zi_M → Prop) : zi_B sc 0 0 145 11 lv st M Q = zi_wp sc 0 0 145 Q zc_145_11 lv st M := zi_blk zc_145_11 rfl ⟨Nat.zero_le _, Nat.zero_le _⟩ rfl lv st M Q
theorem zb_146_0 (sc : Nat × (Nat → Int32)) (lv : zi_L) (st : List Value) (M : zi_M) (Q : Option Value → zi_M → Prop) : zi_B sc 0 0 146 0 lv st M Q = zi_wp sc 0 0 146 Q zc_146_0 lv st M := zi_blk zc_146_0 rfl ⟨Nat.zero_le _, Nat.zero_le _⟩ rfl lv st M Q
theorem zb_146_1 (sc : Nat × (Nat → Int32)) (lv : zi_L) (st : List Value) (M : zi_M) (Q : Option Value → zi_M → Prop) : zi_B sc 0 0 146 1 lv st M Q = zi_wp sc 0 0 146 Q zc_146_1 lv st M := zi_blk zc_146_1 rfl ⟨Nat.zero_le _, Nat.zero_le _⟩ rfl lv st M Q
theorem zb_146_2 (sc : Nat × (Nat → Int32)) (lv : zi_L) (st : List Value) (M : zi_M) (Q : Option Value → zi_M → Prop) : zi_B sc 0 0 146 2 lv st M Q = zi_wp sc 0 0 146 Q zc_146_2 lv st M := zi_blk zc_146_2 rfl ⟨Nat.zero_le _, Nat.zero_le _⟩ rfl lv st M Q
theorem zb_146_3 (sc : Nat × (Nat → Int32)) (lv : zi_L) (st : List Value) (M : zi_M) (Q : Option Value → zi_M → Prop) : zi_B sc 0 0 146 3 lv st M Q = zi_wp sc 0 0 146 Q zc_146_3 lv st M := zi_blk zc_146_3 rfl ⟨Nat.zero_le _, Nat.zero_le _⟩ rfl lv st M Q
theorem zb_147_0 (sc : Nat × (Nat → Int32)) (lv : zi_L) (st : List Value) (M : zi_M) (Q : Option Value → zi_M → Prop) : zi_B sc 0 0 147 0 lv st M Q = zi_wp sc 0 0 147 Q zc_147_0 lv st M := zi_blk zc_147_0 rfl ⟨Nat.zero_le _, Nat.zero_le _⟩ rfl lv st M Q
theorem zb_147_1 (sc : Nat × (Nat → Int32)) (lv : zi_L) (st : List Value) (M : zi_M) (Q : Option Value → zi_M → Prop) : zi_B sc 0 0 147 1 lv st M Q = zi_wp sc 0 0 147 Q zc_147_1 lv st M := zi_blk zc_147_1 rfl ⟨Nat.zero_le _, Nat.zero_le _⟩ rfl lv st M Q
theorem zb_147_2 (sc : Nat × (Nat → Int32)) (lv : zi_L) (st : List Value) (M : zi_M) (Q : Option Value → zi_M → Prop) : zi_B sc 0 0 147 2 lv st M Q = zi_wp sc 0 0 147 Q zc_147_2 lv st M := zi_blk zc_147_2 rfl ⟨Nat.zero_le _, Nat.zero_le _⟩ rfl lv st M Q
theorem zb_147_3 (sc : Nat × (Nat → Int32)) (lv : zi_L) (st : List Value) (M : zi_M) (Q : Option Value → zi_M → Prop) : zi_B sc 0 0 147 3 lv st M Q = zi_wp sc 0 0 147 Q zc_147_3 lv st M := zi_blk zc_147_3 rfl ⟨Nat.zero_le _, Nat.zero_le _⟩ rfl lv st M Q
theorem zb_147_4 (sc : Nat × (Nat → Int32)) (lv : zi_L) (st : List Value) (M : zi_M) (Q : Option Value → zi_M → Prop) : zi_B sc 0 0 147 4 lv st M Q = zi_wp sc 0 0 147 Q zc_147_4 lv st M := zi_blk zc_147_4 rfl ⟨Nat.zero_le _, Nat.zero_le _⟩ rfl lv st M Q
theorem zb_147_5 (sc : Nat × (Nat → Int32)) (lv : zi_L) (st : List Value) (M : zi_M) (Q : Option Value → zi_M → Prop) : zi_B sc 0 0 147 5 lv st M Q = zi_wp sc 0 0 147 Q zc_147_5 lv st M := zi_blk zc_147_5 rfl ⟨Nat.zero_le _, Nat.zero_le _⟩ rfl lv st M Q
theorem zb_147_6 (sc : Nat × (Nat → Int32)) (lv : zi_L) (st : List Value) (M : zi_M) (Q : Option Value → zi_M → Prop) : zi_B sc 0 0 147 6 lv st M Q = zi_wp sc 0 0 147 Q zc_147_6 lv st M := zi_blk zc_147_6 rfl ⟨Nat.zero_le _, Nat.zero_le _⟩ rfl lv st M Q
theorem zb_147_7 (sc : Nat × (Nat → Int32)) (lv : zi_L) (st : List Value) (M : zi_M) (Q : Option Value → zi_M → Prop) : zi_B sc 0 0 147 7 lv st M Q = zi_wp sc 0 0 147 Q zc_147_7 lv st M := zi_blk zc_147_7 rfl ⟨Nat.zero_le _, Nat.zero_le _⟩ rfl lv st M Q
theorem zb_147_8 (sc : Nat × (Nat → Int32)) (lv : zi_L) (st : List Value) (M : zi_M) (Q : Option Value → zi_M → Prop) : zi_B sc 0 0 147 8 lv st M Q = zi_wp sc 0 0 147 Q zc_147_8 lv st M := zi_blk zc_147_8 rfl ⟨Nat.zero_le _, Nat.zero_le _⟩ rfl lv st M Q
theorem zb_147_9 (sc : Nat × (Nat → Int32)) (lv : zi_L) (st : List Value) (M : zi_M) (Q : Option Value → zi_M → Prop) : zi_B sc 0 0 147 9 lv st M Q = zi_wp sc 0 0 147 Q zc_147_9 lv st M := zi_blk zc_147_9 rfl ⟨Nat.zero_le _, Nat.zero_le _⟩ rfl lv st M Q
theorem zb_147_10 (sc : Nat × (Nat → Int32)) (lv : zi_L) (st : List Value) (M : zi_M) (Q : Option Value → zi_M → Prop) : zi_B sc 0 0 147 10 lv st M Q = zi_wp sc 0 0 147 Q zc_147_10 lv st M := zi_blk zc_147_10 rfl ⟨Nat.zero_le _, Nat.zero_le _⟩ rfl lv st M Q
theorem zb_147_11 (sc : Nat × (Nat → Int32)) (lv : zi_L) (st : List Value) (M : zi_M) (Q : Option Value → zi_M → Prop) : zi_B sc 0 0 147 11 lv st M Q = zi_wp sc 0 0 147 Q zc_147_11 lv st M := zi_blk zc_147_11 rfl ⟨Nat.zero_le _, Nat.zero_le _⟩ rfl lv st M Q
theorem zb_148_0 (sc : Nat × (Nat → Int32)) (lv : zi_L) (st : List Value) (M : zi_M) (Q : Option Value → zi_M → Prop) : zi_B sc 0 0 148 0 lv st M Q = zi_wp sc 0 0 148 Q zc_148_0 lv st M := zi_blk zc_148_0 rfl ⟨Nat.zero_le _, Nat.zero_le _⟩ rfl lv st M Q
theorem zb_148_1 (sc : Nat × (Nat → Int32)) (lv : zi_L) (st : List Value) (M : zi_M) (Q : Option Value → zi_M → Prop) : zi_B sc 0 0 148 1 lv st M Q = zi_wp sc 0 0 148 Q zc_148_1 lv st M := zi_blk zc_148_1 rfl ⟨Nat.zero_le _, Nat.zero_le _⟩ rfl lv st M Q
theorem zb_148_2 (sc : Nat × (Nat → Int32)) (lv : zi_L) (st : List Value) (M : zi_M) (Q : Option Value → zi_M → Prop) : zi_B sc 0 0 148 2 lv st M Q = zi_wp sc 0 0 148 Q zc_148_2 lv st M := zi_blk zc_148_2 rfl ⟨Nat.zero_le _, Nat.zero_le _⟩ rfl lv st M Q
theorem zb_148_3 (sc : Nat × (Nat → Int32)) (lv : zi_L) (st : List Value) (M : zi_M) (Q : Option Value → zi_M → Prop) : zi_B sc 0 0 148 3 lv st M Q = zi_wp sc 0 0 148 Q zc_148_3 lv st M := zi_blk zc_148_3 rfl ⟨Nat.zero_le _, Nat.zero_le _⟩ rfl lv st M Q
theorem zb_148_4 (sc : Nat × (Nat → Int32)) (lv : zi_L) (st : List Value) (M : zi_M) (Q : Option Value → zi_M → Prop) : zi_B sc 0 0 148 4 lv st M Q = zi_wp sc 0 0 148 Q zc_148_4 lv st M := zi_blk zc_148_4 rfl ⟨Nat.zero_le _, Nat.zero_le _⟩ rfl lv st M Q
theorem zb_148_5 (sc : Nat × (Nat → Int32)) (lv : zi_L) (st : List Value) (M : zi_M) (Q : Option Value → zi_M → Prop) : zi_B sc 0 0 148 5 lv st M Q = zi_wp sc 0 0 148 Q zc_148_5 lv st M := zi_blk zc_148_5 rfl ⟨Nat.zero_le _, Nat.zero_le _⟩ rfl lv st M Q
theorem zb_148_6 (sc : Nat × (Nat → Int32)) (lv : zi_L) (st : List Value) (M : zi_M) (Q : Option Value → zi_M → Prop) : zi_B sc 0 0 148 6 lv st M Q = zi_wp sc 0 0 148 Q zc_148_6 lv st M := zi_blk zc_148_6 rfl ⟨Nat.zero_le _, Nat.zero_le _⟩ rfl lv st M Q
theorem zb_148_7 (sc : Nat × (Nat → Int32)) (lv : zi_L) (st : List Value) (M : zi_M) (Q : Option Value → zi_M → Prop) : zi_B sc 0 0 148 7 lv st M Q = zi_wp sc 0 0 148 Q zc_148_7 lv st M := zi_blk zc_148_7 rfl ⟨Nat.zero_le _, Nat.zero_le _⟩ rfl lv st M Q
theorem zb_148_8 (sc : Nat × (Nat → Int32)) (lv : zi_L) (st : List Value) (M : zi_M) (Q : Option Value → zi_M → Prop) : zi_B sc 0 0 148 8 lv st M Q = zi_wp sc 0 0 148 Q zc_148_8 lv st M := zi_blk zc_148_8 rfl ⟨Nat.zero_le _, Nat.zero_le _⟩ rfl lv st M Q
theorem zb_148_9 (sc : Nat × (Nat → Int32)) (lv : zi_L) (st : List Value) (M : zi_M) (Q : Option Value → zi_M → Prop) : zi_B sc 0 0 148 9 lv st M Q = zi_wp sc 0 0 148 Q zc_148_9 lv st M := zi_blk zc_148_9 rfl ⟨Nat.zero_le _, Nat.zero_le _⟩ rfl lv st M Q
theorem zb_149_0 (sc : Nat × (Nat → Int32)) (lv : zi_L) (st : List Value) (M : zi_M) (Q : Option Value → zi_M → Prop) : zi_B sc 0 0 149 0 lv st M Q = zi_wp sc 0 0 149 Q zc_149_0 lv st M := zi_blk zc_149_0 rfl ⟨Nat.zero_le _, Nat.zero_le _⟩ rfl lv st M Q
theorem zb_149_1 (sc : Nat × (Nat → Int32)) (lv : zi_L) (st : List Value) (M : zi_M) (Q : Option Value → zi_M → Prop) : zi_B sc 0 0 149 1 lv st M Q = zi_wp sc 0 0 149 Q zc_149_1 lv st M := zi_blk zc_149_1 rfl ⟨Nat.zero_le _, Nat.zero_le _⟩ rfl lv st M Q
theorem zb_150_0 (sc : Nat × (Nat → Int32)) (lv : zi_L) (st : List Value) (M : zi_M) (Q : Option Value → zi_M → Prop) : zi_B sc 0 0 150 0 lv st M Q = zi_wp sc 0 0 150 Q zc_150_0 lv st M := zi_blk zc_150_0 rfl ⟨Nat.zero_le _, Nat.zero_le _⟩ rfl lv st M Q
theorem zb_150_1 (sc : Nat × (Nat → Int32)) (lv : zi_L) (st : List Value) (M : zi_M) (Q : Option Value → zi_M → Prop) : zi_B sc 0 0 150 1 lv st M Q = zi_wp sc 0 0 150 Q zc_150_1 lv st M := zi_blk zc_150_1 rfl ⟨Nat.zero_le _, Nat.zero_le _⟩ rfl lv st M Q
theorem zb_150_2 (sc : Nat × (Nat → Int32)) (lv : zi_L) (st : List Value) (M : zi_M) (Q : Option Value → zi_M → Prop) : zi_B sc 0 0 150 2 lv st M Q = zi_wp sc 0 0 150 Q zc_150_2 lv st M := zi_blk zc_150_2 rfl ⟨Nat.zero_le _, Nat.zero_le _⟩ rfl lv st M Q
theorem zb_150_3 (sc : Nat × (Nat → Int32)) (lv : zi_L) (st : List Value) (M : zi_M) (Q : Option Value → zi_M → Prop) : zi_B sc 0 0 150 3 lv st M Q = zi_wp sc 0 0 150 Q zc_150_3 lv st M := zi_blk zc_150_3 rfl ⟨Nat.zero_le _, Nat.zero_le _⟩ rfl lv st M Q
theorem zb_150_4 (sc : Nat × (Nat → Int32)) (lv : zi_L) (st : List Value) (M : zi_M) (Q : Option Value → zi_M → Prop) : zi_B sc 0 0 150 4 lv st M Q = zi_wp sc 0 0 150 Q zc_150_4 lv st M := zi_blk zc_150_4 rfl ⟨Nat.zero_le _, Nat.zero_le _⟩ rfl lv st M Q
theorem zb_150_5 (sc : Nat × (Nat → Int32)) (lv : zi_L) (st : List Value) (M : zi_M) (Q : Option Value → zi_M → Prop) : zi_B sc 0 0 150 5 lv st M Q = zi_wp sc 0 0 150 Q zc_150_5 lv st M := zi_blk zc_150_5 rfl ⟨Nat.zero_le _, Nat.zero_le _⟩ rfl lv st M Q
theorem zb_150_6 (sc : Nat × (Nat → Int32)) (lv : zi_L) (st : List Value) (M : zi_M) (Q : Option Value → zi_M → Prop) : zi_B sc 0 0 150 6 lv st M Q = zi_wp sc 0 0 150 Q zc_150_6 lv st M := zi_blk zc_150_6 rfl ⟨Nat.zero_le _, Nat.zero_le _⟩ rfl lv st M Q
theorem zb_150_7 (sc : Nat × (Nat → Int32)) (lv : zi_L) (st : List Value) (M : zi_M) (Q : Option Value → zi_M → Prop) : zi_B sc 0 0 150 7 lv st M Q = zi_wp sc 0 0 150 Q zc_150_7 lv st M := zi_blk zc_150_7 rfl ⟨Nat.zero_le _, Nat.zero_le _⟩ rfl lv st M Q
theorem zb_150_8 (sc : Nat × (Nat → Int32)) (lv : zi_L) (st : List Value) (M : zi_M) (Q : Option Value → zi_M → Prop) : zi_B sc 0 0 150 8 lv st M Q = zi_wp sc 0 0 150 Q zc_150_8 lv st M := zi_blk zc_150_8 rfl ⟨Nat.zero_le _, Nat.zero_le _⟩ rfl lv st M Q
theorem zb_150_9 (sc : Nat × (Nat → Int32)) (lv : zi_L) (st : List Value) (M : zi_M) (Q : Option Value → zi_M → Prop) : zi_B sc 0 0 150 9 lv st M Q = zi_wp sc 0 0 150 Q zc_150_9 lv st M := zi_blk zc_150_9 rfl ⟨Nat.zero_le _, Nat.zero_le _⟩ rfl lv st M Q
theorem zb_150_10 (sc : Nat × (Nat → Int32)) (lv : zi_L) (st : List Value) (M : zi_M) (Q : Option Value → zi_M → Prop) : zi_B sc 0 0 150 10 lv st M Q = zi_wp sc 0 0 150 Q zc_150_10 lv st M := zi_blk zc_150_10 rfl ⟨Nat.zero_le _, Nat.zero_le _⟩ rfl lv st M Q
theorem zb_150_11 (sc : Nat × (Nat → Int32)) (lv : zi_L) (st : List Value) (M : zi_M) (Q : Option Value → zi_M → Prop) : zi_B sc 0 0 150 11 lv st M Q = zi_wp sc 0 0 150 Q zc_150_11 lv st M := zi_blk zc_150_11 rfl ⟨Nat.zero_le _, Nat.zero_le _⟩ rfl lv st M Q
theorem zb_151_0 (sc : Nat × (Nat → Int32)) (lv : zi_L) (st : List Value) (M : zi_M) (Q : Option Value → zi_M → Prop) : zi_B sc 0 0 151 0 lv st M Q = zi_wp sc 0 0 151 Q zc_151_0 lv st M := zi_blk zc_151_0 rfl ⟨Nat.zero_le _, Nat.zero_le _⟩ rfl lv st M Q
theorem zb_151_1 (sc : Nat × (Nat → Int32)) (lv : zi_L) (st : List Value) (M : zi_M) (Q : Option Value → zi_M → Prop) : zi_B sc 0 0 151 1 lv st M Q = zi_wp sc 0 0 151 Q zc_151_1 lv st M := zi_blk zc_151_1 rfl ⟨Nat.zero_le _, Nat.zero_le _⟩ rfl lv st M Q
theorem zb_151_2 (sc : Nat × (Nat → Int32)) (lv : zi_L) (st : List Value) (M : zi_M) (Q : Option Value → zi_M → Prop) : zi_B sc 0 0 151 2 lv st M Q = zi_wp sc 0 0 151 Q zc_151_2 lv st M := zi_blk zc_151_2 rfl ⟨Nat.zero_le _, Nat.zero_le _⟩ rfl lv st M Q
theorem zb_151_3 (sc : Nat × (Nat → Int32)) (lv : zi_L) (st : List Value) (M : zi_M) (Q : Option Value → zi_M → Prop) : zi_B sc 0 0 151 3 lv st M Q = zi_wp sc 0 0 151 Q zc_151_3 lv st M := zi_blk zc_151_3 rfl ⟨Nat.zero_le _, Nat.zero_le _⟩ rfl lv st M Q
theorem zb_151_4 (sc : Nat × (Nat → Int32)) (lv : zi_L) (st : List Value) (M : zi_M) (Q : Option Value → zi_M → Prop) : zi_B sc 0 0 151 4 lv st M Q = zi_wp sc 0 0 151 Q zc_151_4 lv st M := zi_blk zc_151_4 rfl ⟨Nat.zero_le _, Nat.zero_le _⟩ rfl lv st M Q
theorem zb_151_5 (sc : Nat × (Nat → Int32)) (lv : zi_L) (st : List Value) (M : zi_M) (Q : Option Value → zi_M → Prop) : zi_B sc 0 0 151 5 lv st M Q = zi_wp sc 0 0 151 Q zc_151_5 lv st M := zi_blk zc_151_5 rfl ⟨Nat.zero_le _, Nat.zero_le _⟩ rfl lv st M Q
theorem zb_151_6 (sc : Nat × (Nat → Int32)) (lv : zi_L) (st : List Value) (M : zi_M) (Q : Option Value → zi_M → Prop) : zi_B sc 0 0 151 6 lv st M Q = zi_wp sc 0 0 151 Q zc_151_6 lv st M := zi_blk zc_151_6 rfl ⟨Nat.zero_le _, Nat.zero_le _⟩ rfl lv st M Q
theorem zb_151_7 (sc : Nat × (Nat → Int32)) (lv : zi_L) (st : List Value) (M : zi_M) (Q : Option Value → zi_M → Prop) : zi_B sc 0 0 151 7 lv st M Q = zi_wp sc 0 0 151 Q zc_151_7 lv st M := zi_blk zc_151_7 rfl ⟨Nat.zero_le _, Nat.zero_le _⟩ rfl lv st M Q
theorem zb_151_8 (sc : Nat × (Nat → Int32)) (lv : zi_L) (st : List Value) (M : zi_M) (Q : Option Value → zi_M → Prop) : zi_B sc 0 0 151 8 lv st M Q = zi_wp sc 0 0 151 Q zc_151_8 lv st M := zi_blk zc_151_8 rfl ⟨Nat.zero_le _, Nat.zero_le _⟩ rfl lv st M Q
theorem zb_151_9 (sc : Nat × (Nat → Int32)) (lv : zi_L) (st : List Value) (M : zi_M) (Q : Option Value → zi_M → Prop) : zi_B sc 0 0 151 9 lv st M Q = zi_wp sc 0 0 151 Q zc_151_9 lv st M := zi_blk zc_151_9 rfl ⟨Nat.zero_le _, Nat.zero_le _⟩ rfl lv st M Q
theorem zb_151_10 (sc : Nat × (Nat → Int32)) (lv : zi_L) (st : List Value) (M : zi_M) (Q : Option Value → zi_M → Prop) : zi_B sc 0 0 151 10 lv st M Q = zi_wp sc 0 0 151 Q zc_151_10 lv st M := zi_blk zc_151_10 rfl ⟨Nat.zero_le _, Nat.zero_le _⟩ rfl lv st M Q
theorem zb_152_0 (sc : Nat × (Nat → Int32)) (lv : zi_L) (st : List Value) (M : zi_M) (Q : Option Value → zi_M → Prop) : zi_B sc 0 0 152 0 lv st M Q = zi_wp sc 0 0 152 Q zc_152_0 lv st M := zi_blk zc_152_0 rfl ⟨Nat.zero_le _, Nat.zero_le _⟩ rfl lv st M Q
theorem zb_152_1 (sc : Nat × (Nat → Int32)) (lv : zi_L) (st : List Value) (M : zi_M) (Q : Option Value → zi_M → Prop) : zi_B sc 0 0 152 1 lv st M Q = zi_wp sc 0 0 152 Q zc_152_1 lv st M := zi_blk zc_152_1 rfl ⟨Nat.zero_le _, Nat.zero_le _⟩ rfl lv st M Q
theorem zb_152_2 (sc : Nat × (Nat → Int32)) (lv : zi_L) (st : List Value) (M : zi_M) (Q : Option Value → zi_M → Prop) : zi_B sc 0 0 152 2 lv st M Q = zi_wp sc 0 0 152 Q zc_152_2 lv st M := zi_blk zc_152_2 rfl ⟨Nat.zero_le _, Nat.zero_le _⟩ rfl lv st M Q
theorem zb_152_3 (sc : Nat × (Nat → Int32)) (lv : zi_L) (st : List Value) (M : zi_M) (Q : Option Value → zi_M → Prop) : zi_B sc 0 0 152 3 lv st M Q = zi_wp sc 0 0 152 Q zc_152_3 lv st M := zi_blk zc_152_3 rfl ⟨Nat.zero_le _, Nat.zero_le _⟩ rfl lv st M Q
theorem zb_152_4 (sc : Nat × (Nat → Int32)) (lv : zi_L) (st : List Value) (M : zi_M) (Q : Option Value → zi_M → Prop) : zi_B sc 0 0 152 4 lv st M Q = zi_wp sc 0 0 152 Q zc_152_4 lv st M := zi_blk zc_152_4 rfl ⟨Nat.zero_le _, Nat.zero_le _⟩ rfl lv st M Q
theorem zb_152_5 (sc : Nat × (Nat → Int32)) (lv : zi_L) (st : List Value) (M : zi_M) (Q : Option Value → zi_M → Prop) : zi_B sc 0 0 152 5 lv st M Q = zi_wp sc 0 0 152 Q zc_152_5 lv st M := zi_blk zc_152_5 rfl ⟨Nat.zero_le _, Nat.zero_le _⟩ rfl lv st M Q
theorem zb_152_6 (sc : Nat × (Nat → Int32)) (lv : zi_L) (st : List Value) (M : zi_M) (Q : Option Value → zi_M → Prop) : zi_B sc 0 0 152 6 lv st M Q = zi_wp sc 0 0 152 Q zc_152_6 lv st M := zi_blk zc_152_6 rfl ⟨Nat.zero_le _, Nat.zero_le _⟩ rfl lv st M Q
theorem zb_152_7 (sc : Nat × (Nat → Int32)) (lv : zi_L) (st : List Value) (M : zi_M) (Q : Option Value → zi_M → Prop) : zi_B sc 0 0 152 7 lv st M Q = zi_wp sc 0 0 152 Q zc_152_7 lv st M := zi_blk zc_152_7 rfl ⟨Nat.zero_le _, Nat.zero_le _⟩ rfl lv st M Q
theorem zb_152_8 (sc : Nat × (Nat → Int32)) (lv : zi_L) (st : List Value) (M : zi_M) (Q : Option Value → zi_M → Prop) : zi_B sc 0 0 152 8 lv st M Q = zi_wp sc 0 0 152 Q zc_152_8 lv st M := zi_blk zc_152_8 rfl ⟨Nat.zero_le _, Nat.zero_le _⟩ rfl lv st M Q
theorem zb_152_9 (sc : Nat × (Nat → Int32)) (lv : zi_L) (st : List Value) (M : zi_M) (Q : Option Value → zi_M → Prop) : zi_B sc 0 0 152 9 lv st M Q = zi_wp sc 0 0 152 Q zc_152_9 lv st M := zi_blk zc_152_9 rfl ⟨Nat.zero_le _, Nat.zero_le _⟩ rfl lv st M Q
theorem zb_152_10 (sc : Nat × (Nat → Int32)) (lv : zi_L) (st : List Value) (M : zi_M) (Q : Option Value → zi_M → Prop) : zi_B sc 0 0 152 10 lv st M Q = zi_wp sc 0 0 152 Q zc_152_10 lv st M := zi_blk zc_152_10 rfl ⟨Nat.zero_le _, Nat.zero_le _⟩ rfl lv st M Q
theorem zb_152_11 (sc : Nat × (Nat → Int32)) (lv : zi_L) (st : List Value) (M : zi_M) (Q : Option Value → zi_M → Prop) : zi_B sc 0 0 152 11 lv st M Q = zi_wp sc 0 0 152 Q zc_152_11 lv st M := zi_blk zc_152_11 rfl ⟨Nat.zero_le _, Nat.zero_le _⟩ rfl lv st M Q
theorem zb_152_12 (sc : Nat × (Nat → Int32)) (lv : zi_L) (st : List Value) (M : zi_M) (Q : Option Value → zi_M → Prop) : zi_B sc 0 0 152 12 lv st M Q = zi_wp sc 0 0 152 Q zc_152_12 lv st M := zi_blk zc_152_12 rfl ⟨Nat.zero_le _, Nat.zero_le _⟩ rfl lv st M Q
theorem zb_152_13 (sc : Nat × (Nat → Int32)) (lv : zi_L) (st : List Value) (M : zi_M) (Q : Option Value → zi_M → Prop) : zi_B sc 0 0 152 13 lv st M Q = zi_wp sc 0 0 152 Q zc_152_13 lv st M := zi_blk zc_152_13 rfl ⟨Nat.zero_le _, Nat.zero_le _⟩ rfl lv st M Q
theorem zb_152_14 (sc : Nat × (Nat → Int32)) (lv : zi_L) (st : List Value) (M : zi_M) (Q : Option Value → zi_M → Prop) : zi_B sc 0 0 152 14 lv st M Q = zi_wp sc 0 0 152 Q zc_152_14 lv st M := zi_blk zc_152_14 rfl ⟨Nat.zero_le _, Nat.zero_le _⟩ rfl lv st M Q
theorem zb_152_15 (sc : Nat × (Nat → Int32)) (lv : zi_L) (st : List Value) (M : zi_M) (Q : Option Value → zi_M → Prop) : zi_B sc 0 0 152 15 lv st M Q = zi_wp sc 0 0 152 Q zc_152_15 lv st M := zi_blk zc_152_15 rfl ⟨Nat.zero_le _, Nat.zero_le _⟩ rfl lv st M Q
theorem zb_152_16 (sc : Nat × (Nat → Int32)) (lv : zi_L) (st : List Value) (M : zi_M) (Q : Option Value → zi_M → Prop) : zi_B sc 0 0 152 16 lv st M Q = zi_wp sc 0 0 152 Q zc_152_16 lv st M := zi_blk zc_152_16 rfl ⟨Nat.zero_le _, Nat.zero_le _⟩ rfl lv st M Q
theorem zb_152_17 (sc : Nat × (Nat → Int32)) (lv : zi_L) (st : List Value) (M : zi_M) (Q : Option Value → zi_M → Prop) : zi_B sc 0 0 152 17 lv st M Q = zi_wp sc 0 0 152 Q zc_152_17 lv st M := zi_blk zc_152_17 rfl ⟨Nat.zero_le _, Nat.zero_le _⟩ rfl lv st M Q
theorem zb_153_0 (sc : Nat × (Nat → Int32)) (lv : zi_L) (st : List Value) (M : zi_M) (Q : Option Value → zi_M → Prop) : zi_B sc 0 0 153 0 lv st M Q = zi_wp sc 0 0 153 Q zc_153_0 lv st M := zi_blk zc_153_0 rfl ⟨Nat.zero_le _, Nat.zero_le _⟩ rfl lv st M Q
theorem zb_153_1 (sc : Nat × (Nat → Int32)) (lv : zi_L) (st : List Value) (M : zi_M) (Q : Option Value → zi_M → Prop) : zi_B sc 0 0 153 1 lv st M Q = zi_wp sc 0 0 153 Q zc_153_1 lv st M := zi_blk zc_153_1 rfl ⟨Nat.zero_le _, Nat.zero_le _⟩ rfl lv st M Q
theorem zb_153_2 (sc : Nat × (Nat → Int32)) (lv : zi_L) (st : List Value) (M : zi_M) (Q : Option Value → zi_M → Prop) : zi_B sc 0 0 153 2 lv st M Q = zi_wp sc 0 0 153 Q zc_153_2 lv st M := zi_blk zc_153_2 rfl ⟨Nat.zero_le _, Nat.zero_le _⟩ rfl lv st M Q
theorem zb_153_3 (sc : Nat × (Nat → Int32)) (lv : zi_L) (st : List Value) (M : zi_M) (Q : Option Value → zi_M → Prop) : zi_B sc 0 0 153 3 lv st M Q = zi_wp sc 0 0 153 Q zc_153_3 lv st M := zi_blk zc_153_3 rfl ⟨Nat.zero_le _, Nat.zero_le _⟩ rfl lv st M Q
theorem zb_153_4 (sc : Nat × (Nat → Int32)) (lv : zi_L) (st : List Value) (M : zi_M) (Q : Option Value → zi_M → Prop) : zi_B sc 0 0 153 4 lv st M Q = zi_wp sc 0 0 153 Q zc_153_4 lv st M := zi_blk zc_153_4 rfl ⟨Nat.zero_le _, Nat.zero_le _⟩ rfl lv st M Q
theorem zb_153_5 (sc : Nat × (Nat → Int32)) (lv : zi_L) (st : List Value) (M : zi_M) (Q : Option Value → zi_M → Prop) : zi_B sc 0 0 153 5 lv st M Q = zi_wp sc 0 0 153 Q zc_153_5 lv st M := zi_blk zc_153_5 rfl ⟨Nat.zero_le _, Nat.zero_le _⟩ rfl lv st M Q
theorem zb_153_6 (sc : Nat × (Nat → Int32)) (lv : zi_L) (st : List Value) (M : zi_M) (Q : Option Value → zi_M → Prop) : zi_B sc 0 0 153 6 lv st M Q = zi_wp sc 0 0 153 Q zc_153_6 lv st M := zi_blk zc_153_6 rfl ⟨Nat.zero_le _, Nat.zero_le _⟩ rfl lv st M Q
theorem zb_154_0 (sc : Nat × (Nat → Int32)) (lv : zi_L) (st : List Value) (M : zi_M) (Q : Option Value → zi_M → Prop) : zi_B sc 0 0 154 0 lv st M Q = zi_wp sc 0 0 154 Q zc_154_0 lv st M := zi_blk zc_154_0 rfl ⟨Nat.zero_le _, Nat.zero_le _⟩ rfl lv st M Q
theorem zb_154_1 (sc : Nat × (Nat → Int32)) (lv : zi_L) (st : List Value) (M : zi_M) (Q : Option Value → zi_M → Prop) : zi_B sc 0 0 154 1 lv st M Q = zi_wp sc 0 0 154 Q zc_154_1 lv st M := zi_blk zc_154_1 rfl ⟨Nat.zero_le _, Nat.zero_le _⟩ rfl lv st M Q
theorem zb_154_2 (sc : Nat × (Nat → Int32)) (lv : zi_L) (st : List Value) (M : zi_M) (Q : Option Value → zi_M → Prop) : zi_B sc 0 0 154 2 lv st M Q = zi_wp sc 0 0 154 Q zc_154_2 lv st M := zi_blk zc_154_2 rfl ⟨Nat.zero_le _, Nat.zero_le _⟩ rfl lv st M Q
theorem zb_154_3 (sc : Nat × (Nat → Int32)) (lv : zi_L) (st : List Value) (M : zi_M) (Q : Option Value → zi_M → Prop) : zi_B sc 0 0 154 3 lv st M Q = zi_wp sc 0 0 154 Q zc_154_3 lv st M := zi_blk zc_154_3 rfl ⟨Nat.zero_le _, Nat.zero_le _⟩ rfl lv st M Q
theorem zb_155_0 (sc : Nat × (Nat → Int32)) (lv : zi_L) (st : List Value) (M : zi_M) (Q : Option Value → zi_M → Prop) : zi_B sc 0 0 155 0 lv st M Q = zi_wp sc 0 0 155 Q zc_155_0 lv st M := zi_blk zc_155_0 rfl ⟨Nat.zero_le _, Nat.zero_le _⟩ rfl lv st M Q
theorem zb_155_1 (sc : Nat × (Nat → Int32)) (lv : zi_L) (st : List Value) (M : zi_M) (Q : Option Value → zi_M → Prop) : zi_B sc 0 0 155 1 lv st M Q = zi_wp sc 0 0 155 Q zc_155_1 lv st M := zi_blk zc_155_1 rfl ⟨Nat.zero_le _, Nat.zero_le _⟩ rfl lv st M Q
theorem zb_156_0 (sc : Nat × (Nat → Int32)) (lv : zi_L) (st : List Value) (M : zi_M) (Q : Option Value → zi_M → Prop) : zi_B sc 0 0 156 0 lv st M Q = zi_wp sc 0 0 156 Q zc_156_0 lv st M := zi_blk zc_156_0 rfl ⟨Nat.zero_le _, Nat.zero_le _⟩ rfl lv st M Q
theorem zb_156_1 (sc : Nat × (Nat → Int32)) (lv : zi_L) (st : List Value) (M : zi_M) (Q : Option Value → zi_M → Prop) : zi_B sc 0 0 156 1 lv st M Q = zi_wp sc 0 0 156 Q zc_156_1 lv st M := zi_blk zc_156_1 rfl ⟨Nat.zero_le _, Nat.zero_le _⟩ rfl lv st M Q
theorem zb_156_2 (sc : Nat × (Nat → Int32)) (lv : zi_L) (st : List Value) (M : zi_M) (Q : Option Value → zi_M → Prop) : zi_B sc 0 0 156 2 lv st M Q = zi_wp sc 0 0 156 Q zc_156_2 lv st M := zi_blk zc_156_2 rfl ⟨Nat.zero_le _, Nat.zero_le _⟩ rfl lv st M Q
theorem zb_156_3 (sc : Nat × (Nat → Int32)) (lv : zi_L) (st : List Value) (M : zi_M) (Q : Option Value → zi_M → Prop) : zi_B sc 0 0 156 3 lv st M Q = zi_wp sc 0 0 156 Q zc_156_3 lv st M := zi_blk zc_156_3 rfl ⟨Nat.zero_le _, Nat.zero_le _⟩ rfl lv st M Q
theorem zb_156_4 (sc : Nat × (Nat → Int32)) (lv : zi_L) (st : List Value) (M : zi_M) (Q : Option Value → zi_M → Prop) : zi_B sc 0 0 156 4 lv st M Q = zi_wp sc 0 0 156 Q zc_156_4 lv st M := zi_blk zc_156_4 rfl ⟨Nat.zero_le _, Nat.zero_le _⟩ rfl lv st M Q
theorem zb_156_5 (sc : Nat × (Nat → Int32)) (lv : zi_L) (st : List Value) (M : zi_M) (Q : Option Value → zi_M → Prop) : zi_B sc 0 0 156 5 lv st M Q = zi_wp sc 0 0 156 Q zc_156_5 lv st M := zi_blk zc_156_5 rfl ⟨Nat.zero_le _, Nat.zero_le _⟩ rfl lv st M Q
theorem zb_156_6 (sc : Nat × (Nat → Int32)) (lv : zi_L) (st : List Value) (M : zi_M) (Q : Option Value → zi_M → Prop) : zi_B sc 0 0 156 6 lv st M Q = zi_wp sc 0 0 156 Q zc_156_6 lv st M := zi_blk zc_156_6 rfl ⟨Nat.zero_le _, Nat.zero_le _⟩ rfl lv st M Q
theorem zb_156_7 (sc : Nat × (Nat → Int32)) (lv : zi_L) (st : List Value) (M : zi_M) (Q : Option Value → zi_M → Prop) : zi_B sc 0 0 156 7 lv st M Q = zi_wp sc 0 0 156 Q zc_156_7 lv st M := zi_blk zc_156_7 rfl ⟨Nat.zero_le _, Nat.zero_le _⟩ rfl lv st M Q
theorem zb_157_0 (sc : Nat × (Nat → Int32)) (lv : zi_L) (st : List Value) (M : zi_M) (Q : Option Value → zi_M → Prop) : zi_B sc 0 0 157 0 lv st M Q = zi_wp sc 0 0 157 Q zc_157_0 lv st M := zi_blk zc_157_0 rfl ⟨Nat.zero_le _, Nat.zero_le _⟩ rfl lv st M Q
theorem zb_157_1 (sc : Nat × (Nat → Int32)) (lv : zi_L) (st : List Value) (M : zi_M) (Q : Option Value → zi_M → Prop) : zi_B sc 0 0 157 1 lv st M Q = zi_wp sc 0 0 157 Q zc_157_1 lv st M := zi_blk zc_157_1 rfl ⟨Nat.zero_le _, Nat.zero_le _⟩ rfl lv st M Q
theorem zb_157_2 (sc : Nat × (Nat → Int32)) (lv : zi_L) (st : List Value) (M : zi_M) (Q : Option Value → zi_M → Prop) : zi_B sc 0 0 157 2 lv st M Q = zi_wp sc 0 0 157 Q zc_157_2 lv st M := zi_blk zc_157_2 rfl ⟨Nat.zero_le _, Nat.zero_le _⟩ rfl lv st M Q
theorem zb_157_3 (sc : Nat × (Nat → Int32)) (lv : zi_L) (st : List Value) (M : zi_M) (Q : Option Value → zi_M → Prop) : zi_B sc 0 0 157 3 lv st M Q = zi_wp sc 0 0 157 Q zc_157_3 lv st M := zi_blk zc_157_3 rfl ⟨Nat.zero_le _, Nat.zero_le _⟩ rfl lv st M Q
theorem zb_157_4 (sc : Nat × (Nat → Int32)) (lv : zi_L) (st : List Value) (M : zi_M) (Q : Option Value → zi_M → Prop) : zi_B sc 0 0 157 4 lv st M Q = zi_wp sc 0 0 157 Q zc_157_4 lv st M := zi_blk zc_157_4 rfl ⟨Nat.zero_le _, Nat.zero_le _⟩ rfl lv st M Q
theorem zb_157_5 (sc : Nat × (Nat → Int32)) (lv : zi_L) (st : List Value) (M : zi_M) (Q : Option Value → zi_M → Prop) : zi_B sc 0 0 157 5 lv st M Q = zi_wp sc 0 0 157 Q zc_157_5 lv st M := zi_blk zc_157_5 rfl ⟨Nat.zero_le _, Nat.zero_le _⟩ rfl lv st M Q
theorem zb_158_0 (sc : Nat × (Nat → Int32)) (lv : zi_L) (st : List Value) (M : zi_M) (Q : Option Value → zi_M → Prop) : zi_B sc 0 0 158 0 lv st M Q = zi_wp sc 0 0 158 Q zc_158_0 lv st M := zi_blk zc_158_0 rfl ⟨Nat.zero_le _, Nat.zero_le _⟩ rfl lv st M Q
theorem zb_158_1 (sc : Nat × (Nat → Int32)) (lv : zi_L) (st : List Value) (M : zi_M) (Q : Option Value → zi_M → Prop) : zi_B sc 0 0 158 1 lv st M Q = zi_wp sc 0 0 158 Q zc_158_1 lv st M := zi_blk zc_158_1 rfl ⟨Nat.zero_le _, Nat.zero_le _⟩ rfl lv st M Q
theorem zb_158_2 (sc : Nat × (Nat → Int32)) (lv : zi_L) (st : List Value) (M : zi_M) (Q : Option Value → zi_M → Prop) : zi_B sc 0 0 158 2 lv st M Q = zi_wp sc 0 0 158 Q zc_158_2 lv st M := zi_blk zc_158_2 rfl ⟨Nat.zero_le _, Nat.zero_le _⟩ rfl lv st M Q
theorem zb_158_3 (sc : Nat × (Nat → Int32)) (lv : zi_L) (st : List Value) (M : zi_M) (Q : Option Value → zi_M → Prop) : zi_B sc 0 0 158 3 lv st M Q = zi_wp sc 0 0 158 Q zc_158_3 lv st M := zi_blk zc_158_3 rfl ⟨Nat.zero_le _, Nat.zero_le _⟩ rfl lv st M Q
theorem zb_158_4 (sc : Nat × (Nat → Int32)) (lv : zi_L) (st : List Value) (M : zi_M) (Q : Option Value → zi_M → Prop) : zi_B sc 0 0 158 4 lv st M Q = zi_wp sc 0 0 158 Q zc_158_4 lv st M := zi_blk zc_158_4 rfl ⟨Nat.zero_le _, Nat.zero_le _⟩ rfl lv st M Q
theorem zb_158_5 (sc : Nat × (Nat → Int32)) (lv : zi_L) (st : List Value) (M : zi_M) (Q : Option Value → zi_M → Prop) : zi_B sc 0 0 158 5 lv st M Q = zi_wp sc 0 0 158 Q zc_158_5 lv st M := zi_blk zc_158_5 rfl ⟨Nat.zero_le _, Nat.zero_le _⟩ rfl lv st M Q
theorem zb_159_0 (sc : Nat × (Nat → Int32)) (lv : zi_L) (st : List Value) (M : zi_M) (Q : Option Value → zi_M → Prop) : zi_B sc 0 0 159 0 lv st M Q = zi_wp sc 0 0 159 Q zc_159_0 lv st M := zi_blk zc_159_0 rfl ⟨Nat.zero_le _, Nat.zero_le _⟩ rfl lv st M Q
theorem zb_159_1 (sc : Nat × (Nat → Int32)) (lv : zi_L) (st : List Value) (M : zi_M) (Q : Option Value → zi_M → Prop) : zi_B sc 0 0 159 1 lv st M Q = zi_wp sc 0 0 159 Q zc_159_1 lv st M := zi_blk zc_159_1 rfl ⟨Nat.zero_le _, Nat.zero_le _⟩ rfl lv st M Q
theorem zb_159_2 (sc : Nat × (Nat → Int32)) (lv : zi_L) (st : List Value) (M : zi_M) (Q : Option Value → zi_M → Prop) : zi_B sc 0 0 159 2 lv st M Q = zi_wp sc 0 0 159 Q zc_159_2 lv st M := zi_blk zc_159_2 rfl ⟨Nat.zero_le _, Nat.zero_le _⟩ rfl lv st M Q
theorem zb_159_3 (sc : Nat × (Nat → Int32)) (lv : zi_L) (st : List Value) (M : zi_M) (Q : Option Value → zi_M → Prop) : zi_B sc 0 0 159 3 lv st M Q = zi_wp sc 0 0 159 Q zc_159_3 lv st M := zi_blk zc_159_3 rfl ⟨Nat.zero_le _, Nat.zero_le _⟩ rfl lv st M Q
theorem zb_159_4 (sc : Nat × (Nat → Int32)) (lv : zi_L) (st : List Value) (M : zi_M) (Q : Option Value → zi_M → Prop) : zi_B sc 0 0 159 4 lv st M Q = zi_wp sc 0 0 159 Q zc_159_4 lv st M := zi_blk zc_159_4 rfl ⟨Nat.zero_le _, Nat.zero_le _⟩ rfl lv st M Q
theorem zb_159_5 (sc : Nat × (Nat → Int32)) (lv : zi_L) (st : List Value) (M : zi_M) (Q : Option Value → zi_M → Prop) : zi_B sc 0 0 159 5 lv st M Q = zi_wp sc 0 0 159 Q zc_159_5 lv st M := zi_blk zc_159_5 rfl ⟨Nat.zero_le _, Nat.zero_le _⟩ rfl lv st M Q
theorem zb_159_6 (sc : Nat × (Nat → Int32)) (lv : zi_L) (st : List Value) (M : zi_M) (Q : Option Value → zi_M → Prop) : zi_B sc 0 0 159 6 lv st M Q = zi_wp sc 0 0 159 Q zc_159_6 lv st M := zi_blk zc_159_6 rfl ⟨Nat.zero_le _, Nat.zero_le _⟩ rfl lv st M Q
theorem zb_160_0 (sc : Nat × (Nat → Int32)) (lv : zi_L) (st : List Value) (M : zi_M) (Q : Option Value → zi_M → Prop) : zi_B sc 0 0 160 0 lv st M Q = zi_wp sc 0 0 160 Q zc_160_0 lv st M := zi_blk zc_160_0 rfl ⟨Nat.zero_le _, Nat.zero_le _⟩ rfl lv st M Q
theorem zb_160_1 (sc : Nat × (Nat → Int32)) (lv : zi_L) (st : List Value) (M : zi_M) (Q : Option Value → zi_M → Prop) : zi_B sc 0 0 160 1 lv st M Q = zi_wp sc 0 0 160 Q zc_160_1 lv st M := zi_blk zc_160_1 rfl ⟨Nat.zero_le _, Nat.zero_le _⟩ rfl lv st M Q
theorem zb_160_2 (sc : Nat × (Nat → Int32)) (lv : zi_L) (st : List Value) (M : zi_M) (Q : Option Value → zi_M → Prop) : zi_B sc 0 0 160 2 lv st M Q = zi_wp sc 0 0 160 Q zc_160_2 lv st M := zi_blk zc_160_2 rfl ⟨Nat.zero_le _, Nat.zero_le _⟩ rfl lv st M Q
theorem zb_160_3 (sc : Nat × (Nat → Int32)) (lv : zi_L) (st : List Value) (M : zi_M) (Q : Option Value → zi_M → Prop) : zi_B sc 0 0 160 3 lv st M Q = zi_wp sc 0 0 160 Q zc_160_3 lv st M := zi_blk zc_160_3 rfl ⟨Nat.zero_le _, Nat.zero_le _⟩ rfl lv st M Q
theorem zb_160_4 (sc : Nat × (Nat → Int32)) (lv : zi_L) (st : List Value) (M : zi_M) (Q : Option Value → zi_M → Prop) : zi_B sc 0 0 160 4 lv st M Q = zi_wp sc 0 0 160 Q zc_160_4 lv st M := zi_blk zc_160_4 rfl ⟨Nat.zero_le _, Nat.zero_le _⟩ rfl lv st M Q
theorem zb_161_0 (sc : Nat × (Nat → Int32)) (lv : zi_L) (st : List Value) (M : zi_M) (Q : Option Value → zi_M → Prop) : zi_B sc 0 0 161 0 lv st M Q = zi_wp sc 0 0 161 Q zc_161_0 lv st M := zi_blk zc_161_0 rfl ⟨Nat.zero_le _, Nat.zero_le _⟩ rfl lv st M Q
theorem zb_161_1 (sc : Nat × (Nat → Int32)) (lv : zi_L) (st : List Value) (M : zi_M) (Q : Option Value → zi_M → Prop) : zi_B sc 0 0 161 1 lv st M Q = zi_wp sc 0 0 161 Q zc_161_1 lv st M := zi_blk zc_161_1 rfl ⟨Nat.zero_le _, Nat.zero_le _⟩ rfl lv st M Q
theorem zb_161_2 (sc : Nat × (Nat → Int32)) (lv : zi_L) (st : List Value) (M : zi_M) (Q : Option Value → zi_M → Prop) : zi_B sc 0 0 161 2 lv st M Q = zi_wp sc 0 0 161 Q zc_161_2 lv st M := zi_blk zc_161_2 rfl ⟨Nat.zero_le _, Nat.zero_le _⟩ rfl lv st M Q
theorem zb_161_3 (sc : Nat × (Nat → Int32)) (lv : zi_L) (st : List Value) (M : zi_M) (Q : Option Value → zi_M → Prop) : zi_B sc 0 0 161 3 lv st M Q = zi_wp sc 0 0 161 Q zc_161_3 lv st M := zi_blk zc_161_3 rfl ⟨Nat.zero_le _, Nat.zero_le _⟩ rfl lv st M Q
theorem zb_161_4 (sc : Nat × (Nat → Int32)) (lv : zi_L) (st : List Value) (M : zi_M) (Q : Option Value → zi_M → Prop) : zi_B sc 0 0 161 4 lv st M Q = zi_wp sc 0 0 161 Q zc_161_4 lv st M := zi_blk zc_161_4 rfl ⟨Nat.zero_le _, Nat.zero_le _⟩ rfl lv st M Q
theorem zb_161_5 (sc : Nat × (Nat → Int32)) (lv : zi_L) (st : List Value) (M : zi_M) (Q : Option Value → zi_M → Prop) : zi_B sc 0 0 161 5 lv st M Q = zi_wp sc 0 0 161 Q zc_161_5 lv st M := zi_blk zc_161_5 rfl ⟨Nat.zero_le _, Nat.zero_le _⟩ rfl lv st M Q
theorem zb_161_6 (sc : Nat × (Nat → Int32)) (lv : zi_L) (st : List Value) (M : zi_M) (Q : Option Value → zi_M → Prop) : zi_B sc 0 0 161 6 lv st M Q = zi_wp sc 0 0 161 Q zc_161_6 lv st M := zi_blk zc_161_6 rfl ⟨Nat.zero_le _, Nat.zero_le _⟩ rfl lv st M Q
theorem zb_162_0 (sc : Nat × (Nat → Int32)) (lv : zi_L) (st : List Value) (M : zi_M) (Q : Option Value → zi_M → Prop) : zi_B sc 0 0 162 0 lv st M Q = zi_wp sc 0 0 162 Q zc_162_0 lv st M := zi_blk zc_162_0 rfl ⟨Nat.zero_le _, Nat.zero_le _⟩ rfl lv st M Q
theorem zb_162_1 (sc : Nat × (Nat → Int32)) (lv : zi_L) (st : List Value) (M : zi_M) (Q : Option Value → zi_M → Prop) : zi_B sc 0 0 162 1 lv st M Q = zi_wp sc 0 0 162 Q zc_162_1 lv st M := zi_blk zc_162_1 rfl ⟨Nat.zero_le _, Nat.zero_le _⟩ rfl lv st M Q
theorem zb_162_2 (sc : Nat × (Nat → Int32)) (lv : zi_L) (st : List Value) (M : zi_M) (Q : Option Value → zi_M → Prop) : zi_B sc 0 0 162 2 lv st M Q = zi_wp sc 0 0 162 Q zc_162_2 lv st M := zi_blk zc_162_2 rfl ⟨Nat.zero_le _, Nat.zero_le _⟩ rfl lv st M Q
theorem zb_162_3 (sc : Nat × (Nat → Int32)) (lv : zi_L) (st : List Value) (M : zi_M) (Q : Option Value → zi_M → Prop) : zi_B sc 0 0 162 3 lv st M Q = zi_wp sc 0 0 162 Q zc_162_3 lv st M := zi_blk zc_162_3 rfl ⟨Nat.zero_le _, Nat.zero_le _⟩ rfl lv st M Q
theorem zb_162_4 (sc : Nat × (Nat → Int32)) (lv : zi_L) (st : List Value) (M : zi_M) (Q : Option Value → zi_M → Prop) : zi_B sc 0 0 162 4 lv st M Q = zi_wp sc 0 0 162 Q zc_162_4 lv st M := zi_blk zc_162_4 rfl ⟨Nat.zero_le _, Nat.zero_le _⟩ rfl lv st M Q
theorem zb_162_5 (sc : Nat × (Nat → Int32)) (lv : zi_L) (st : List Value) (M : zi_M) (Q : Option Value → zi_M → Prop) : zi_B sc 0 0 162 5 lv st M Q = zi_wp sc 0 0 162 Q zc_162_5 lv st M := zi_blk zc_162_5 rfl ⟨Nat.zero_le _, Nat.zero_le _⟩ rfl lv st M Q
theorem zb_162_6 (sc : Nat × (Nat → Int32)) (lv : zi_L) (st : List Value) (M : zi_M) (Q : Option Value → zi_M → Prop) : zi_B sc 0 0 162 6 lv st M Q = zi_wp sc 0 0 162 Q zc_162_6 lv st M := zi_blk zc_162_6 rfl ⟨Nat.zero_le _, Nat.zero_le _⟩ rfl lv st M Q
theorem zb_163_0 (sc : Nat × (Nat → Int32)) (lv : zi_L) (st : List Value) (M : zi_M) (Q : Option Value → zi_M → Prop) : zi_B sc 0 0 163 0 lv st M Q = zi_wp sc 0 0 163 Q zc_163_0 lv st M := zi_blk zc_163_0 rfl ⟨Nat.zero_le _, Nat.zero_le _⟩ rfl lv st M Q
theorem zb_163_1 (sc : Nat × (Nat → Int32)) (lv : zi_L) (st : List Value) (M : zi_M) (Q : Option Value → zi_M → Prop) : zi_B sc 0 0 163 1 lv st M Q = zi_wp sc 0 0 163 Q zc_163_1 lv st M := zi_blk zc_163_1 rfl ⟨Nat.zero_le _, Nat.zero_le _⟩ rfl lv st M Q
theorem zb_163_2 (sc : Nat × (Nat → Int32)) (lv : zi_L) (st : List Value) (M : zi_M) (Q : Option Value → zi_M → Prop) : zi_B sc 0 0 163 2 lv st M Q = zi_wp sc 0 0 163 Q zc_163_2 lv st M := zi_blk zc_163_2 rfl ⟨Nat.zero_le _, Nat.zero_le _⟩ rfl lv st M Q
theorem zb_163_3 (sc : Nat × (Nat → Int32)) (lv : zi_L) (st : List Value) (M : zi_M) (Q : Option Value → zi_M → Prop) : zi_B sc 0 0 163 3 lv st M Q = zi_wp sc 0 0 163 Q zc_163_3 lv st M := zi_blk zc_163_3 rfl ⟨Nat.zero_le _, Nat.zero_le _⟩ rfl lv st M Q
theorem zb_164_0 (sc : Nat × (Nat → Int32)) (lv : zi_L) (st : List Value) (M : zi_M) (Q : Option Value → zi_M → Prop) : zi_B sc 0 0 164 0 lv st M Q = zi_wp sc 0 0 164 Q zc_164_0 lv st M := zi_blk zc_164_0 rfl ⟨Nat.zero_le _, Nat.zero_le _⟩ rfl lv st M Q
theorem zb_164_1 (sc : Nat × (Nat → Int32)) (lv : zi_L) (st : List Value) (M : zi_M) (Q : Option Value → zi_M → Prop) : zi_B sc 0 0 164 1 lv st M Q = zi_wp sc 0 0 164 Q zc_164_1 lv st M := zi_blk zc_164_1 rfl ⟨Nat.zero_le _, Nat.zero_le _⟩ rfl lv st M Q
theorem zb_164_2 (sc : Nat × (Nat → Int32)) (lv : zi_L) (st : List Value) (M : zi_M) (Q : Option Value → zi_M → Prop) : zi_B sc 0 0 164 2 lv st M Q = zi_wp sc 0 0 164 Q zc_164_2 lv st M := zi_blk zc_164_2 rfl ⟨Nat.zero_le _, Nat.zero_le _⟩ rfl lv st M Q
theorem zb_164_3 (sc : Nat × (Nat → Int32)) (lv : zi_L) (st : List Value) (M : zi_M) (Q : Option Value → zi_M → Prop) : zi_B sc 0 0 164 3 lv st M Q = zi_wp sc 0 0 164 Q zc_164_3 lv st M := zi_blk zc_164_3 rfl ⟨Nat.zero_le _, Nat.zero_le _⟩ rfl lv st M Q
theorem zb_164_4 (sc : Nat × (Nat → Int32)) (lv : zi_L) (st : List Value) (M : zi_M) (Q : Option Value → zi_M → Prop) : zi_B sc 0 0 164 4 lv st M Q = zi_wp sc 0 0 164 Q zc_164_4 lv st M := zi_blk zc_164_4 rfl ⟨Nat.zero_le _, Nat.zero_le _⟩ rfl lv st M Q
theorem zb_164_5 (sc : Nat × (Nat → Int32)) (lv : zi_L) (st : List Value) (M : zi_M) (Q : Option Value → zi_M → Prop) : zi_B sc 0 0 164 5 lv st M Q = zi_wp sc 0 0 164 Q zc_164_5 lv st M := zi_blk zc_164_5 rfl ⟨Nat.zero_le _, Nat.zero_le _⟩ rfl lv st M Q
theorem zb_164_6 (sc : Nat × (Nat → Int32)) (lv : zi_L) (st : List Value) (M : zi_M) (Q : Option Value → zi_M → Prop) : zi_B sc 0 0 164 6 lv st M Q = zi_wp sc 0 0 164 Q zc_164_6 lv st M := zi_blk zc_164_6 rfl ⟨Nat.zero_le _, Nat.zero_le _⟩ rfl lv st M Q
theorem zb_165_0 (sc : Nat × (Nat → Int32)) (lv : zi_L) (st : List Value) (M : zi_M) (Q : Option Value → zi_M → Prop) : zi_B sc 0 0 165 0 lv st M Q = zi_wp sc 0 0 165 Q zc_165_0 lv st M := zi_blk zc_165_0 rfl ⟨Nat.zero_le _, Nat.zero_le _⟩ rfl lv st M Q
theorem zb_165_1 (sc : Nat × (Nat → Int32)) (lv : zi_L) (st : List Value) (M : zi_M) (Q : Option Value → zi_M → Prop) : zi_B sc 0 0 165 1 lv st M Q = zi_wp sc 0 0 165 Q zc_165_1 lv st M := zi_blk zc_165_1 rfl ⟨Nat.zero_le _, Nat.zero_le _⟩ rfl lv st M Q
theorem zb_165_2 (sc : Nat × (Nat → Int32)) (lv : zi_L) (st : List Value) (M : zi_M) (Q : Option Value → zi_M → Prop) : zi_B sc 0 0 165 2 lv st M Q = zi_wp sc 0 0 165 Q zc_165_2 lv st M := zi_blk zc_165_2 rfl ⟨Nat.zero_le _, Nat.zero_le _⟩ rfl lv st M Q
theorem zb_165_3 (sc : Nat × (Nat → Int32)) (lv : zi_L) (st : List Value) (M : zi_M) (Q : Option Value → zi_M → Prop) : zi_B sc 0 0 165 3 lv st M Q = zi_wp sc 0 0 165 Q zc_165_3 lv st M := zi_blk zc_165_3 rfl ⟨Nat.zero_le _, Nat.zero_le _⟩ rfl lv st M Q
theorem zb_165_4 (sc : Nat × (Nat → Int32)) (lv : zi_L) (st : List Value) (M : zi_M) (Q : Option Value → zi_M → Prop) : zi_B sc 0 0 165 4 lv st M Q = zi_wp sc 0 0 165 Q zc_165_4 lv st M := zi_blk zc_165_4 rfl ⟨Nat.zero_le _, Nat.zero_le _⟩ rfl lv st M Q
theorem zb_165_5 (sc : Nat × (Nat → Int32)) (lv : zi_L) (st : List Value) (M : zi_M) (Q : Option Value → zi_M → Prop) : zi_B sc 0 0 165 5 lv st M Q = zi_wp sc 0 0 165 Q zc_165_5 lv st M := zi_blk zc_165_5 rfl ⟨Nat.zero_le _, Nat.zero_le _⟩ rfl lv st M Q
theorem zb_166_0 (sc : Nat × (Nat → Int32)) (lv : zi_L) (st : List Value) (M : zi_M) (Q : Option Value → zi_M → Prop) : zi_B sc 0 0 166 0 lv st M Q = zi_wp sc 0 0 166 Q zc_166_0 lv st M := zi_blk zc_166_0 rfl ⟨Nat.zero_le _, Nat.zero_le _⟩ rfl lv st M Q
theorem zb_166_1 (sc : Nat × (Nat → Int32)) (lv : zi_L) (st : List Value) (M : zi_M) (Q : Option Value → zi_M → Prop) : zi_B sc 0 0 166 1 lv st M Q = zi_wp sc 0 0 166 Q zc_166_1 lv st M := zi_blk zc_166_1 rfl ⟨Nat.zero_le _, Nat.zero_le _⟩ rfl lv st M Q
theorem zb_166_2 (sc : Nat × (Nat → Int32)) (lv : zi_L) (st : List Value) (M : zi_M) (Q : Option Value → zi_M → Prop) : zi_B sc 0 0 166 2 lv st M Q = zi_wp sc 0 0 166 Q zc_166_2 lv st M := zi_blk zc_166_2 rfl ⟨Nat.zero_le _, Nat.zero_le _⟩ rfl lv st M Q
theorem zb_166_3 (sc : Nat × (Nat → Int32)) (lv : zi_L) (st : List Value) (M : zi_M) (Q : Option Value → zi_M → Prop) : zi_B sc 0 0 166 3 lv st M Q = zi_wp sc 0 0 166 Q zc_166_3 lv st M := zi_blk zc_166_3 rfl ⟨Nat.zero_le _, Nat.zero_le _⟩ rfl lv st M Q
theorem zb_166_4 (sc : Nat × (Nat → Int32)) (lv : zi_L) (st : List Value) (M : zi_M) (Q : Option Value → zi_M → Prop) : zi_B sc 0 0 166 4 lv st M Q = zi_wp sc 0 0 166 Q zc_166_4 lv st M := zi_blk zc_166_4 rfl ⟨Nat.zero_le _, Nat.zero_le _⟩ rfl lv st M Q
theorem zb_166_5 (sc : Nat × (Nat → Int32)) (lv : zi_L) (st : List Value) (M : zi_M) (Q : Option Value → zi_M → Prop) : zi_B sc 0 0 166 5 lv st M Q = zi_wp sc 0 0 166 Q zc_166_5 lv st M := zi_blk zc_166_5 rfl ⟨Nat.zero_le _, Nat.zero_le _⟩ rfl lv st M Q
theorem zb_166_6 (sc : Nat × (Nat → Int32)) (lv : zi_L) (st : List Value) (M : zi_M) (Q : Option Value → zi_M → Prop) : zi_B sc 0 0 166 6 lv st M Q = zi_wp sc 0 0 166 Q zc_166_6 lv st M := zi_blk zc_166_6 rfl ⟨Nat.zero_le _, Nat.zero_le _⟩ rfl lv st M Q
theorem zb_166_7 (sc : Nat × (Nat → Int32)) (lv : zi_L) (st : List Value) (M : zi_M) (Q : Option Value → zi_M → Prop) : zi_B sc 0 0 166 7 lv st M Q = zi_wp sc 0 0 166 Q zc_166_7 lv st M := zi_blk zc_166_7 rfl ⟨Nat.zero_le _, Nat.zero_le _⟩ rfl lv st M Q
theorem zb_166_8 (sc : Nat × (Nat → Int32)) (lv : zi_L) (st : List Value) (M : zi_M) (Q : Option Value → zi_M → Prop) : zi_B sc 0 0 166 8 lv st M Q = zi_wp sc 0 0 166 Q zc_166_8 lv st M := zi_blk zc_166_8 rfl ⟨Nat.zero_le _, Nat.zero_le _⟩ rfl lv st M Q
theorem zb_166_9 (sc : Nat × (Nat → Int32)) (lv : zi_L) (st : List Value) (M : zi_M) (Q : Option Value → zi_M → Prop) : zi_B sc 0 0 166 9 lv st M Q = zi_wp sc 0 0 166 Q zc_166_9 lv st M := zi_blk zc_166_9 rfl ⟨Nat.zero_le _, Nat.zero_le _⟩ rfl lv st M Q
theorem zb_166_10 (sc : Nat × (Nat → Int32)) (lv : zi_L) (st : List Value) (M : zi_M) (Q : Option Value → zi_M → Prop) : zi_B sc 0 0 166 10 lv st M Q = zi_wp sc 0 0 166 Q zc_166_10 lv st M := zi_blk zc_166_10 rfl ⟨Nat.zero_le _, Nat.zero_le _⟩ rfl lv st M Q
theorem zb_166_11 (sc : Nat × (Nat → Int32)) (lv : zi_L) (st : List Value) (M : zi_M) (Q : Option Value → zi_M → Prop) : zi_B sc 0 0 166 11 lv st M Q = zi_wp sc 0 0 166 Q zc_166_11 lv st M := zi_blk zc_166_11 rfl ⟨Nat.zero_le _, Nat.zero_le _⟩ rfl lv st M Q
theorem zb_166_12 (sc : Nat × (Nat → Int32)) (lv : zi_L) (st : List Value) (M : zi_M) (Q : Option Value → zi_M → Prop) : zi_B sc 0 0 166 12 lv st M Q = zi_wp sc 0 0 166 Q zc_166_12 lv st M := zi_blk zc_166_12 rfl ⟨Nat.zero_le _, Nat.zero_le _⟩ rfl lv st M Q
theorem zb_166_13 (sc : Nat × (Nat → Int32)) (lv : zi_L) (st : List Value) (M : zi_M) (Q : Option Value → zi_M → Prop) : zi_B sc 0 0 166 13 lv st M Q = zi_wp sc 0 0 166 Q zc_166_13 lv st M := zi_blk zc_166_13 rfl ⟨Nat.zero_le _, Nat.zero_le _⟩ rfl lv st M Q
theorem zb_166_14 (sc : Nat × (Nat → Int32)) (lv : zi_L) (st : List Value) (M : zi_M) (Q : Option Value → zi_M → Prop) : zi_B sc 0 0 166 14 lv st M Q = zi_wp sc 0 0 166 Q zc_166_14 lv st M := zi_blk zc_166_14 rfl ⟨Nat.zero_le _, Nat.zero_le _⟩ rfl lv st M Q
theorem zb_166_15 (sc : Nat × (Nat → Int32)) (lv : zi_L) (st : List Value) (M : zi_M) (Q : Option Value → zi_M → Prop) : zi_B sc 0 0 166 15 lv st M Q = zi_wp sc 0 0 166 Q zc_166_15 lv st M := zi_blk zc_166_15 rfl ⟨Nat.zero_le _, Nat.zero_le _⟩ rfl lv st M Q
theorem zb_167_0 (sc : Nat × (Nat → Int32)) (lv : zi_L) (st : List Value) (M : zi_M) (Q : Option Value → zi_M → Prop) : zi_B sc 0 0 167 0 lv st M Q = zi_wp sc 0 0 167 Q zc_167_0 lv st M := zi_blk zc_167_0 rfl ⟨Nat.zero_le _, Nat.zero_le _⟩ rfl lv st M Q
theorem zb_168_0 (sc : Nat × (Nat → Int32)) (lv : zi_L) (st : List Value) (M : zi_M) (Q : Option Value → zi_M → Prop) : zi_B sc 0 0 168 0 lv st M Q = zi_wp sc 0 0 168 Q zc_168_0 lv st M := zi_blk zc_168_0 rfl ⟨Nat.zero_le _, Nat.zero_le _⟩ rfl lv st M Q
theorem zb_168_1 (sc : Nat × (Nat → Int32)) (lv : zi_L) (st : List Value) (M : zi_M) (Q : Option Value → zi_M → Prop) : zi_B sc 0 0 168 1 lv st M Q = zi_wp sc 0 0 168 Q zc_168_1 lv st M := zi_blk zc_168_1 rfl ⟨Nat.zero_le _, Nat.zero_le _⟩ rfl lv st M Q
theorem zb_168_2 (sc : Nat × (Nat → Int32)) (lv : zi_L) (st : List Value) (M : zi_M) (Q : Option Value → zi_M → Prop) : zi_B sc 0 0 168 2 lv st M Q = zi_wp sc 0 0 168 Q zc_168_2 lv st M := zi_blk zc_168_2 rfl ⟨Nat.zero_le _, Nat.zero_le _⟩ rfl lv st M Q
theorem zb_168_3 (sc : Nat × (Nat → Int32)) (lv : zi_L) (st : List Value) (M : zi_M) (Q : Option Value → zi_M → Prop) : zi_B sc 0 0 168 3 lv st M Q = zi_wp sc 0 0 168 Q zc_168_3 lv st M := zi_blk zc_168_3 rfl ⟨Nat.zero_le _, Nat.zero_le _⟩ rfl lv st M Q
theorem zb_168_4 (sc : Nat × (Nat → Int32)) (lv : zi_L) (st : List Value) (M : zi_M) (Q : Option Value → zi_M → Prop) : zi_B sc 0 0 168 4 lv st M Q = zi_wp sc 0 0 168 Q zc_168_4 lv st M := zi_blk zc_168_4 rfl ⟨Nat.zero_le _, Nat.zero_le _⟩ rfl lv st M Q
theorem zb_169_0 (sc : Nat × (Nat → Int32)) (lv : zi_L) (st : List Value) (M : zi_M) (Q : Option Value → zi_M → Prop) : zi_B sc 0 0 169 0 lv st M Q = zi_wp sc 0 0 169 Q zc_169_0 lv st M := zi_blk zc_169_0 rfl ⟨Nat.zero_le _, Nat.zero_le _⟩ rfl lv st M Q
theorem zb_169_1 (sc : Nat × (Nat → Int32)) (lv : zi_L) (st : List Value) (M : zi_M) (Q : Option Value → zi_M → Prop) : zi_B sc 0 0 169 1 lv st M Q = zi_wp sc 0 0 169 Q zc_169_1 lv st M := zi_blk zc_169_1 rfl ⟨Nat.zero_le _, Nat.zero_le _⟩ rfl lv st M Q
theorem zb_169_2 (sc : Nat × (Nat → Int32)) (lv : zi_L) (st : List Value) (M : zi_M) (Q : Option Value → zi_M → Prop) : zi_B sc 0 0 169 2 lv st M Q = zi_wp sc 0 0 169 Q zc_169_2 lv st M := zi_blk zc_169_2 rfl ⟨Nat.zero_le _, Nat.zero_le _⟩ rfl lv st M Q
theorem zb_169_3 (sc : Nat × (Nat → Int32)) (lv : zi_L) (st : List Value) (M : zi_M) (Q : Option Value → zi_M → Prop) : zi_B sc 0 0 169 3 lv st M Q = zi_wp sc 0 0 169 Q zc_169_3 lv st M := zi_blk zc_169_3 rfl ⟨Nat.zero_le _, Nat.zero_le _⟩ rfl lv st M Q
theorem zb_169_4 (sc : Nat × (Nat → Int32)) (lv : zi_L) (st : List Value) (M : zi_M) (Q : Option Value → zi_M → Prop) : zi_B sc 0 0 169 4 lv st M Q = zi_wp sc 0 0 169 Q zc_169_4 lv st M := zi_blk zc_169_4 rfl ⟨Nat.zero_le _, Nat.zero_le _⟩ rfl lv st M Q
theorem zb_169_5 (sc : Nat × (Nat → Int32)) (lv : zi_L) (st : List Value) (M : zi_M) (Q : Option Value → zi_M → Prop) : zi_B sc 0 0 169 5 lv st M Q = zi_wp sc 0 0 169 Q zc_169_5 lv st M := zi_blk zc_169_5 rfl ⟨Nat.zero_le _, Nat.zero_le _⟩ rfl lv st M Q
theorem zb_170_0 (sc : Nat × (Nat → Int32)) (lv : zi_L) (st : List Value) (M : zi_M) (Q : Option Value → zi_M → Prop) : zi_B sc 0 0 170 0 lv st M Q = zi_wp sc 0 0 170 Q zc_170_0 lv st M := zi_blk zc_170_0 rfl ⟨Nat.zero_le _, Nat.zero_le _⟩ rfl lv st M Q
theorem zb_170_1 (sc : Nat × (Nat → Int32)) (lv : zi_L) (st : List Value) (M : zi_M) (Q : Option Value → zi_M → Prop) : zi_B sc 0 0 170 1 lv st M Q = zi_wp sc 0 0 170 Q zc_170_1 lv st M := zi_blk zc_170_1 rfl ⟨Nat.zero_le _, Nat.zero_le _⟩ rfl lv st M Q
theorem zb_170_2 (sc : Nat × (Nat → Int32)) (lv : zi_L) (st : List Value) (M : zi_M) (Q : Option Value → zi_M → Prop) : zi_B sc 0 0 170 2 lv st M Q = zi_wp sc 0 0 170 Q zc_170_2 lv st M := zi_blk zc_170_2 rfl ⟨Nat.zero_le _, Nat.zero_le _⟩ rfl lv st M Q
theorem zb_170_3 (sc : Nat × (Nat → Int32)) (lv : zi_L) (st : List Value) (M : zi_M) (Q : Option Value → zi_M → Prop) : zi_B sc 0 0 170 3 lv st M Q = zi_wp sc 0 0 170 Q zc_170_3 lv st M := zi_blk zc_170_3 rfl ⟨Nat.zero_le _, Nat.zero_le _⟩ rfl lv st M Q
theorem zb_170_4 (sc : Nat × (Nat → Int32)) (lv : zi_L) (st : List Value) (M : zi_M) (Q : Option Value → zi_M → Prop) : zi_B sc 0 0 170 4 lv st M Q = zi_wp sc 0 0 170 Q zc_170_4 lv st M := zi_blk zc_170_4 rfl ⟨Nat.zero_le _, Nat.zero_le _⟩ rfl lv st M Q
theorem zb_171_0 (sc : Nat × (Nat → Int32)) (lv : zi_L) (st : List Value) (M : zi_M) (Q : Option Value → zi_M → Prop) : zi_B sc 0 0 171 0 lv st M Q = zi_wp sc 0 0 171 Q zc_171_0 lv st M := zi_blk zc_171_0 rfl ⟨Nat.zero_le _, Nat.zero_le _⟩ rfl lv st M Q
theorem zb_172_0 (sc : Nat × (Nat → Int32)) (lv : zi_L) (st : List Value) (M : zi_M) (Q : Option Value → zi_M → Prop) : zi_B sc 0 0 172 0 lv st M Q = zi_wp sc 0 0 172 Q zc_172_0 lv st M := zi_blk zc_172_0 rfl ⟨Nat.zero_le _, Nat.zero_le _⟩ rfl lv st M Q
theorem zb_173_0 (sc : Nat × (Nat → Int32)) (lv : zi_L) (st : List Value) (M : zi_M) (Q : Option Value → zi_M → Prop) : zi_B sc 0 0 173 0 lv st M Q = zi_wp sc 0 0 173 Q zc_173_0 lv st M := zi_blk zc_173_0 rfl ⟨Nat.zero_le _, Nat.zero_le _⟩ rfl lv st M Q
theorem zb_173_1 (sc : Nat × (Nat → Int32)) (lv : zi_L) (st : List Value) (M : zi_M) (Q : Option Value → zi_M → Prop) : zi_B sc 0 0 173 1 lv st M Q = zi_wp sc 0 0 173 Q zc_173_1 lv st M := zi_blk zc_173_1 rfl ⟨Nat.zero_le _, Nat.zero_le _⟩ rfl lv st M Q
theorem zb_173_2 (sc : Nat × (Nat → Int32)) (lv : zi_L) (st : List Value) (M : zi_M) (Q : Option Value → zi_M → Prop) : zi_B sc 0 0 173 2 lv st M Q = zi_wp sc 0 0 173 Q zc_173_2 lv st M := zi_blk zc_173_2 rfl ⟨Nat.zero_le _, Nat.zero_le _⟩ rfl lv st M Q
theorem zb_173_3 (sc : Nat × (Nat → Int32)) (lv : zi_L) (st : List Value) (M : zi_M) (Q : Option Value → zi_M → Prop) : zi_B sc 0 0 173 3 lv st M Q = zi_wp sc 0 0 173 Q zc_173_3 lv st M := zi_blk zc_173_3 rfl ⟨Nat.zero_le _, Nat.zero_le _⟩ rfl lv st M Q
theorem zb_173_4 (sc : Nat × (Nat → Int32)) (lv : zi_L) (st : List Value) (M : zi_M) (Q : Option Value → zi_M → Prop) : zi_B sc 0 0 173 4 lv st M Q = zi_wp sc 0 0 173 Q zc_173_4 lv st M := zi_blk zc_173_4 rfl ⟨Nat.zero_le _, Nat.zero_le _⟩ rfl lv st M Q
theorem zb_173_5 (sc : Nat × (Nat → Int32)) (lv : zi_L) (st : List Value) (M : zi_M) (Q : Option Value → zi_M → Prop) : zi_B sc 0 0 173 5 lv st M Q = zi_wp sc 0 0 173 Q zc_173_5 lv st M := zi_blk zc_173_5 rfl ⟨Nat.zero_le _, Nat.zero_le _⟩ rfl lv st M Q
theorem zb_173_6 (sc : Nat × (Nat → Int32)) (lv : zi_L) (st : List Value) (M : zi_M) (Q : Option Value → zi_M → Prop) : zi_B sc 0 0 173 6 lv st M Q = zi_wp sc 0 0 173 Q zc_173_6 lv st M := zi_blk zc_173_6 rfl ⟨Nat.zero_le _, Nat.zero_le _⟩ rfl lv st M Q
theorem zb_173_7 (sc : Nat × (Nat → Int32)) (lv : zi_L) (st : List Value) (M : zi_M) (Q : Option Value → zi_M → Prop) : zi_B sc 0 0 173 7 lv st M Q = zi_wp sc 0 0 173 Q zc_173_7 lv st M := zi_blk zc_173_7 rfl ⟨Nat.zero_le _, Nat.zero_le _⟩ rfl lv st M Q
def zMTL : List (Nat × Nat × Nat) := [(0, 7, 9), (3, 2, 4), (0, 1, 4), (3, 3, 6), (0, 4, 6), (1, 0, 5), (0, 4, 6), (1, 0, 5), (0, 4, 6), (1, 0, 5), (0, 4, 6), (1, 0, 5), (0, 4, 6), (1, 0, 5), (0, 4, 6), (1, 0, 5), (0, 1, 4), (3, 3, 6), (0, 4, 6), (1, 0, 5), (0, 4, 6), (1, 0, 5), (0, 4, 6), (1, 0, 5), (0, 4, 6), (1, 0, 5), (0, 4, 6), (1, 0, 5), (0, 4, 6), (1, 0, 5), (0, 6, 2), (0, 1, 4), (3, 3, 6), (0, 4, 6), (1, 0, 5), (0, 4, 6), (1, 0, 5), (0, 4, 6), (1, 0, 5), (0, 4, 6), (1, 0, 5), (0, 4, 6), (1, 0, 5), (0, 4, 6), (1, 0, 5), (0, 0, 5), (3, 4, 7), (1, 0, 60), (1, 0, 60), (1, 0, 60), (1, 0, 60), (1, 0, 60), (1, 0, 60), (1, 0, 60), (3, 4, 7), (1, 0, 60), (1, 0, 60), (1, 0, 60), (1, 0, 60), (1, 0, 60), (1, 0, 60), (1, 0, 60), (3, 4, 7), (1, 0, 60), (1, 0, 60), (1, 0, 60), (1, 0, 60), (1, 0, 60), (1, 0, 60), (1, 0, 60), (3, 4, 7), (1, 0, 60), (1, 0, 60), (1, 0, 60), (1, 0, 60), (1, 0, 60), (1, 0, 60), (1, 0, 60), (3, 4, 7), (1, 0, 60), (1, 0, 60), (1, 0, 60), (1, 0, 60), (1, 0, 60), (1, 0, 60), (1, 0, 60), (0, 3, 3), (1, 0, 8), (1, 0, 8), (0, 2, 9), (1, 0, 30), (1, 0, 30), (1, 0, 61), (1, 0, 61), (1, 0, 61), (1, 0, 60), (3, 5, 6), (2, 1, 61), (2, 1, 61), (2, 1, 61), (2, 1, 61), (2, 1, 61), (2, 1, 61), (0, 5, 4), (1, 0, 60), (0, 5, 4), (1, 0, 60), (0, 5, 4), (1, 0, 60), (0, 5, 4), (1, 0, 60), (0, 8, 33), (1, 0, 4), (1, 0, 4), (1, 0, 240), (1, 0, 7), (1, 0, 7), (1, 0, 7), (1, 0, 7), (1, 0, 35), (1, 0, 7), (1, 0, 7), (1, 0, 7), (1, 0, 35), (1, 0, 420), (1, 0, 420), (1, 0, 420), (1, 0, 420), (1, 0, 420), (1, 0, 63), (1, 0, 2), (1, 0, 2), (1, 0, 61), (2, 1, 61), (2, 1, 61), (1, 0, 8), (1, 0, 8)]
def zMT (i : Nat) : Nat × Nat × Nat := zMTL.getD i (9, 0, 0)
theorem zmt_0 : zMT 0 = (0, 7, 9) := rfl
theorem zmt_1 : zMT 1 = (3, 2, 4) := rfl
theorem zmt_2 : zMT 2 = (0, 1, 4) := rfl
theorem zmt_3 : zMT 3 = (3, 3, 6) := rfl
theorem zmt_4 : zMT 4 = (0, 4, 6) := rfl
theorem zmt_5 : zMT 5 = (1, 0, 5) := rfl
theorem zmt_6 : zMT 6 = (0, 4, 6) := rfl
theorem zmt_7 : zMT 7 = (1, 0, 5) := rfl
theorem zmt_8 : zMT 8 = (0, 4, 6) := rfl
theorem zmt_9 : zMT 9 = (1, 0, 5) := rfl
theorem zmt_10 : zMT 10 = (0, 4, 6) := rfl
theorem zmt_11 : zMT 11 = (1, 0, 5) := rfl
theorem zmt_12 : zMT 12 = (0, 4, 6) := rfl
theorem zmt_13 : zMT 13 = (1, 0, 5) := rfl
theorem zmt_14 : zMT 14 = (0, 4, 6) := rfl
theorem zmt_15 : zMT 15 = (1, 0, 5) := rfl
theorem zmt_16 : zMT 16 = (0, 1, 4) := rfl
theorem zmt_17 : zMT 17 = (3, 3, 6) := rfl
theorem zmt_18 : zMT 18 = (0, 4, 6) := rfl
theorem zmt_19 : zMT 19 = (1, 0, 5) := rfl
theorem zmt_20 : zMT 20 = (0, 4, 6) := rfl
theorem zmt_21 : zMT 21 = (1, 0, 5) := rfl
theorem zmt_22 : zMT 22 = (0, 4, 6) := rfl
theorem zmt_23 : zMT 23 = (1, 0, 5) := rfl
theorem zmt_24 : zMT 24 = (0, 4, 6) := rfl
theorem zmt_25 : zMT 25 = (1, 0, 5) := rfl
theorem zmt_26 : zMT 26 = (0, 4, 6) := rfl
theorem zmt_27 : zMT 27 = (1, 0, 5) := rfl
theorem zmt_28 : zMT 28 = (0, 4, 6) := rfl
theorem zmt_29 : zMT 29 = (1, 0, 5) := rfl
theorem zmt_30 : zMT 30 = (0, 6, 2) := rfl
theorem zmt_31 : zMT 31 = (0, 1, 4) := rfl
theorem zmt_32 : zMT 32 = (3, 3, 6) := rfl
theorem zmt_33 : zMT 33 = (0, 4, 6) := rfl
theorem zmt_34 : zMT 34 = (1, 0, 5) := rfl
theorem zmt_35 : zMT 35 = (0, 4, 6) := rfl
theorem zmt_36 : zMT 36 = (1, 0, 5) := rfl
theorem zmt_37 : zMT 37 = (0, 4, 6) := rfl
theorem zmt_38 : zMT 38 = (1, 0, 5) := rfl
theorem zmt_39 : zMT 39 = (0, 4, 6) := rfl
theorem zmt_40 : zMT 40 = (1, 0, 5) := rfl
theorem zmt_41 : zMT 41 = (0, 4, 6) := rfl
theorem zmt_42 : zMT 42 = (1, 0, 5) := rfl
theorem zmt_43 : zMT 43 = (0, 4, 6) := rfl
theorem zmt_44 : zMT 44 = (1, 0, 5) := rfl
theorem zmt_45 : zMT 45 = (0, 0, 5) := rfl
theorem zmt_46 : zMT 46 = (3, 4, 7) := rfl
theorem zmt_47 : zMT 47 = (1, 0, 60) := rfl
theorem zmt_48 : zMT 48 = (1, 0, 60) := rfl
theorem zmt_49 : zMT 49 = (1, 0, 60) := rfl
theorem zmt_50 : zMT 50 = (1, 0, 60) := rfl
theorem zmt_51 : zMT 51 = (1, 0, 60) := rfl
theorem zmt_52 : zMT 52 = (1, 0, 60) := rfl
theorem zmt_53 : zMT 53 = (1, 0, 60) := rfl
theorem zmt_54 : zMT 54 = (3, 4, 7) := rfl
theorem zmt_55 : zMT 55 = (1, 0, 60) := rfl
theorem zmt_56 : zMT 56 = (1, 0, 60) := rfl
theorem zmt_57 : zMT 57 = (1, 0, 60) := rfl
theorem zmt_58 : zMT 58 = (1, 0, 60) := rfl
theorem zmt_59 : zMT 59 = (1, 0, 60) := rfl
theorem zmt_60 : zMT 60 = (1, 0, 60) := rfl
theorem zmt_61 : zMT 61 = (1, 0, 60) := rfl
theorem zmt_62 : zMT 62 = (3, 4, 7) := rfl
theorem zmt_63 : zMT 63 = (1, 0, 60) := rfl
theorem zmt_64 : zMT 64 = (1, 0, 60) := rfl
theorem zmt_65 : zMT 65 = (1, 0, 60) := rfl
theorem zmt_66 : zMT 66 = (1, 0, 60) := rfl
theorem zmt_67 : zMT 67 = (1, 0, 60) := rfl
theorem zmt_68 : zMT 68 = (1, 0, 60) := rfl
theorem zmt_69 : zMT 69 = (1, 0, 60) := rfl
theorem zmt_70 : zMT 70 = (3, 4, 7) := rfl
theorem zmt_71 : zMT 71 = (1, 0, 60) := rfl
theorem zmt_72 : zMT 72 = (1, 0, 60) := rfl
theorem zmt_73 : zMT 73 = (1, 0, 60) := rfl
theorem zmt_74 : zMT 74 = (1, 0, 60) := rfl
theorem zmt_75 : zMT 75 = (1, 0, 60) := rfl
theorem zmt_76 : zMT 76 = (1, 0, 60) := rfl
theorem zmt_77 : zMT 77 = (1, 0, 60) := rfl
theorem zmt_78 : zMT 78 = (3, 4, 7) := rfl
theorem zmt_79 : zMT 79 = (1, 0, 60) := rfl
theorem zmt_80 : zMT 80 = (1, 0, 60) := rfl
theorem zmt_81 : zMT 81 = (1, 0, 60) := rfl
theorem zmt_82 : zMT 82 = (1, 0, 60) := rfl
theorem zmt_83 : zMT 83 = (1, 0, 60) := rfl
theorem zmt_84 : zMT 84 = (1, 0, 60) := rfl
theorem zmt_85 : zMT 85 = (1, 0, 60) := rfl
theorem zmt_86 : zMT 86 = (0, 3, 3) := rfl
theorem zmt_87 : zMT 87 = (1, 0, 8) := rfl
theorem zmt_88 : zMT 88 = (1, 0, 8) := rfl
theorem zmt_89 : zMT 89 = (0, 2, 9) := rfl
theorem zmt_90 : zMT 90 = (1, 0, 30) := rfl
theorem zmt_91 : zMT 91 = (1, 0, 30) := rfl
theorem zmt_92 : zMT 92 = (1, 0, 61) := rfl
theorem zmt_93 : zMT 93 = (1, 0, 61) := rfl
theorem zmt_94 : zMT 94 = (1, 0, 61) := rfl
theorem zmt_95 : zMT 95 = (1, 0, 60) := rfl
theorem zmt_96 : zMT 96 = (3, 5, 6) := rfl
theorem zmt_97 : zMT 97 = (2, 1, 61) := rfl
theorem zmt_98 : zMT 98 = (2, 1, 61) := rfl
theorem zmt_99 : zMT 99 = (2, 1, 61) := rfl
theorem zmt_100 : zMT 100 = (2, 1, 61) := rfl
theorem zmt_101 : zMT 101 = (2, 1, 61) := rfl
theorem zmt_102 : zMT 102 = (2, 1, 61) := rfl
theorem zmt_103 : zMT 103 = (0, 5, 4) := rfl
theorem zmt_104 : zMT 104 = (1, 0, 60) := rfl
theorem zmt_105 : zMT 105 = (0, 5, 4) := rfl
theorem zmt_106 : zMT 106 = (1, 0, 60) := rfl
theorem zmt_107 : zMT 107 = (0, 5, 4) := rfl
theorem zmt_108 : zMT 108 = (1, 0, 60) := rfl
theorem zmt_109 : zMT 109 = (0, 5, 4) := rfl
theorem zmt_110 : zMT 110 = (1, 0, 60) := rfl
theorem zmt_111 : zMT 111 = (0, 8, 33) := rfl
theorem zmt_112 : zMT 112 = (1, 0, 4) := rfl
theorem zmt_113 : zMT 113 = (1, 0, 4) := rfl
theorem zmt_114 : zMT 114 = (1, 0, 240) := rfl
theorem zmt_115 : zMT 115 = (1, 0, 7) := rfl
theorem zmt_116 : zMT 116 = (1, 0, 7) := rfl
theorem zmt_117 : zMT 117 = (1, 0, 7) := rfl
theorem zmt_118 : zMT 118 = (1, 0, 7) := rfl
theorem zmt_119 : zMT 119 = (1, 0, 35) := rfl
theorem zmt_120 : zMT 120 = (1, 0, 7) := rfl
theorem zmt_121 : zMT 121 = (1, 0, 7) := rfl
theorem zmt_122 : zMT 122 = (1, 0, 7) := rfl
theorem zmt_123 : zMT 123 = (1, 0, 35) := rfl
theorem zmt_124 : zMT 124 = (1, 0, 420) := rfl
theorem zmt_125 : zMT 125 = (1, 0, 420) := rfl
theorem zmt_126 : zMT 126 = (1, 0, 420) := rfl
theorem zmt_127 : zMT 127 = (1, 0, 420) := rfl
theorem zmt_128 : zMT 128 = (1, 0, 420) := rfl
theorem zmt_129 : zMT 129 = (1, 0, 63) := rfl
theorem zmt_130 : zMT 130 = (1, 0, 2) := rfl
theorem zmt_131 : zMT 131 = (1, 0, 2) := rfl
theorem zmt_132 : zMT 132 = (1, 0, 61) := rfl
theorem zmt_133 : zMT 133 = (2, 1, 61) := rfl
theorem zmt_134 : zMT 134 = (2, 1, 61) := rfl
theorem zmt_135 : zMT 135 = (1, 0, 8) := rfl
theorem zmt_136 : zMT 136 = (1, 0, 8) := rfl
def zRCL : List (List (Option Nat)) := [[some 1, some 2, some 16, some 30, some 45, some 86, some 89, none, none], [some 103, some 105, some 107, some 109], [none, none, none, some 3], [some 4, some 6, some 8, some 10, some 12, some 14], [none, none, none, some 5, none, none], [], [none, none, none, some 7, none, none], [], [none, none, none, some 9, none, none], [], [none, none, none, some 11, none, none], [], [none, none, none, some 13, none, none], [], [none, none, none, some 15, none, none], [], [none, none, none, some 17], [some 18, some 20, some 22, some 24, some 26, some 28], [none, none, none, some 19, none, none], [], [none, none, none, some 21, none, none], [], [none, none, none, some 23, none, none], [], [none, none, none, some 25, none, none], [], [none, none, none, some 27, none, none], [], [none, none, none, some 29, none, none], [], [some 31, none], [none, none, none, some 32], [some 33, some 35, some 37, some 39, some 41, some 43], [none, none, none, some 34, none, none], [], [none, none, none, some 36, none, none], [], [none, none, none, some 38, none, none], [], [none, none, none, some 40, none, none], [], [none, none, none, some 42, none, none], [], [none, none, none, some 44, none, none], [], [some 46, some 54, some 62, some 70, some 78], [some 47, some 48, some 49, some 50, some 51, some 52, some 53], [], [], [], [], [], [], [], [some 55, some 56, some 57, some 58, some 59, some 60, some 61], [], [], [], [], [], [], [], [some 63, some 64, some 65, some 66, some 67, some 68, some 69], [], [], [], [], [], [], [], [some 71, some 72, some 73, some 74, some 75, some 76, some 77], [], [], [], [], [], [], [], [some 79, some 80, some 81, some 82, some 83, some 84, some 85], [], [], [], [], [], [], [], [none, some 87, some 88], [], [], [some 90, some 91, none, none, some 92, some 93, some 94, some 95, some 96], [], [], [], [], [], [], [some 97, some 98, some 99, some 100, some 101, some 102], [], [], [], [], [], [], [none, none, none, some 104], [], [none, none, none, some 106], [], [none, none, none, some 108], [], [none, none, none, some 110], [], [none, none, some 112, some 113, some 114, none, some 115, some 116, some 117, some 118, some 119, none, none, none, some 120, some 121, some 122, some 123, some 124, some 125, some 126, some 127, some 128, none, some 129, some 130, some 131, some 132, some 133, some 134, none, some 135, some 136], [], [], [], [], [], [], [], [], [], [], [], [], [], [], [], [], [], [], [], [], [], [], [], [], []]
def zRC (i k : Nat) : Option Nat := (zRCL.getD i []).getD k none
theorem zrc_0_0 : zRC 0 0 = some 1 := rfl
theorem zrc_0_1 : zRC 0 1 = some 2 := rfl
theorem zrc_0_2 : zRC 0 2 = some 16 := rfl
theorem zrc_0_3 : zRC 0 3 = some 30 := rfl
theorem zrc_0_4 : zRC 0 4 = some 45 := rfl
theorem zrc_0_5 : zRC 0 5 = some 86 := rfl
theorem zrc_0_6 : zRC 0 6 = some 89 := rfl
theorem zrc_2_3 : zRC 2 3 = some 3 := rfl
theorem zrc_4_3 : zRC 4 3 = some 5 := rfl
theorem zrc_6_3 : zRC 6 3 = some 7 := rfl
theorem zrc_8_3 : zRC 8 3 = some 9 := rfl
theorem zrc_10_3 : zRC 10 3 = some 11 := rfl
theorem zrc_12_3 : zRC 12 3 = some 13 := rfl
theorem zrc_14_3 : zRC 14 3 = some 15 := rfl
theorem zrc_16_3 : zRC 16 3 = some 17 := rfl
theorem zrc_18_3 : zRC 18 3 = some 19 := rfl
theorem zrc_20_3 : zRC 20 3 = some 21 := rfl
theorem zrc_22_3 : zRC 22 3 = some 23 := rfl
theorem zrc_24_3 : zRC 24 3 = some 25 := rfl
theorem zrc_26_3 : zRC 26 3 = some 27 := rfl
theorem zrc_28_3 : zRC 28 3 = some 29 := rfl
theorem zrc_30_0 : zRC 30 0 = some 31 := rfl
theorem zrc_31_3 : zRC 31 3 = some 32 := rfl
theorem zrc_33_3 : zRC 33 3 = some 34 := rfl
theorem zrc_35_3 : zRC 35 3 = some 36 := rfl
theorem zrc_37_3 : zRC 37 3 = some 38 := rfl
theorem zrc_39_3 : zRC 39 3 = some 40 := rfl
theorem zrc_41_3 : zRC 41 3 = some 42 := rfl
theorem zrc_43_3 : zRC 43 3 = some 44 := rfl
theorem zrc_45_0 : zRC 45 0 = some 46 := rfl
theorem zrc_45_1 : zRC 45 1 = some 54 := rfl
theorem zrc_45_2 : zRC 45 2 = some 62 := rfl
theorem zrc_45_3 : zRC 45 3 = some 70 := rfl
theorem zrc_45_4 : zRC 45 4 = some 78 := rfl
theorem zrc_86_1 : zRC 86 1 = some 87 := rfl
theorem zrc_86_2 : zRC 86 2 = some 88 := rfl
theorem zrc_89_0 : zRC 89 0 = some 90 := rfl
theorem zrc_89_1 : zRC 89 1 = some 91 := rfl
theorem zrc_89_4 : zRC 89 4 = some 92 := rfl
theorem zrc_89_5 : zRC 89 5 = some 93 := rfl
theorem zrc_89_6 : zRC 89 6 = some 94 := rfl
theorem zrc_89_7 : zRC 89 7 = some 95 := rfl
theorem zrc_89_8 : zRC 89 8 = some 96 := rfl
theorem zrc_103_3 : zRC 103 3 = some 104 := rfl
theorem zrc_105_3 : zRC 105 3 = some 106 := rfl
theorem zrc_107_3 : zRC 107 3 = some 108 := rfl
theorem zrc_109_3 : zRC 109 3 = some 110 := rfl
theorem zrc_111_2 : zRC 111 2 = some 112 := rfl
theorem zrc_111_3 : zRC 111 3 = some 113 := rfl
theorem zrc_111_4 : zRC 111 4 = some 114 := rfl
theorem zrc_111_6 : zRC 111 6 = some 115 := rfl
theorem zrc_111_7 : zRC 111 7 = some 116 := rfl
theorem zrc_111_8 : zRC 111 8 = some 117 := rfl
theorem zrc_111_9 : zRC 111 9 = some 118 := rfl
theorem zrc_111_10 : zRC 111 10 = some 119 := rfl
theorem zrc_111_14 : zRC 111 14 = some 120 := rfl
theorem zrc_111_15 : zRC 111 15 = some 121 := rfl
theorem zrc_111_16 : zRC 111 16 = some 122 := rfl
theorem zrc_111_17 : zRC 111 17 = some 123 := rfl
theorem zrc_111_18 : zRC 111 18 = some 124 := rfl
theorem zrc_111_19 : zRC 111 19 = some 125 := rfl
theorem zrc_111_20 : zRC 111 20 = some 126 := rfl
theorem zrc_111_21 : zRC 111 21 = some 127 := rfl
theorem zrc_111_22 : zRC 111 22 = some 128 := rfl
theorem zrc_111_24 : zRC 111 24 = some 129 := rfl
theorem zrc_111_25 : zRC 111 25 = some 130 := rfl
theorem zrc_111_26 : zRC 111 26 = some 131 := rfl
theorem zrc_111_27 : zRC 111 27 = some 132 := rfl
theorem zrc_111_28 : zRC 111 28 = some 133 := rfl
theorem zrc_111_29 : zRC 111 29 = some 134 := rfl
theorem zrc_111_31 : zRC 111 31 = some 135 := rfl
theorem zrc_111_32 : zRC 111 32 = some 136 := rfl
/-- the memory behind the constructors, with its ints and longs -/
abbrev zm (I : Nat → Nat → Int32) (J : Nat → Nat → Int64) : zi_M := (137, zMT, I, J, zRC)
end
section
/-! ints by their numbers: a road to omega; memory that agrees -/
theorem zt_nI (a : Nat) : (nI a).toInt = ((a : Int) + 2147483648) % 4294967296 - 2147483648 := by
  show (Int32.ofNat a).toInt = _
  rw [Int32.toInt_ofNat']
  rw [Int.bmod_def]
  simp only [Int32.size]
  omega
theorem zt_add (x y : Int32) : (x + y).toInt = (x.toInt + y.toInt + 2147483648) % 4294967296 - 2147483648 := by
  rw [Int32.toInt_add, Int.bmod_def]
  omega
theorem zt_sub (x y : Int32) : (x - y).toInt = (x.toInt - y.toInt + 2147483648) % 4294967296 - 2147483648 := by
  rw [Int32.toInt_sub, Int.bmod_def]
  omega
theorem zt_neg (x : Int32) : (-x).toInt = (-x.toInt + 2147483648) % 4294967296 - 2147483648 := by
  rw [Int32.toInt_neg, Int.bmod_def]
  omega
theorem zt_ran (x : Int32) : -2147483648 ≤ x.toInt ∧ x.toInt < 2147483648 := ⟨Int32.le_toInt x, Int32.toInt_lt x⟩
theorem zt_eq (x y : Int32) : x = y ↔ x.toInt = y.toInt := ⟨fun h => by rw [h], fun h => Int32.toInt_inj.mp h⟩
theorem zl_0 : (0 : Int32).toInt = 0 := rfl
theorem zl_1 : (1 : Int32).toInt = 1 := rfl
theorem zl_2 : (2 : Int32).toInt = 2 := rfl
theorem zl_3 : (3 : Int32).toInt = 3 := rfl
theorem zl_4 : (4 : Int32).toInt = 4 := rfl
theorem zl_5 : (5 : Int32).toInt = 5 := rfl
theorem zl_6 : (6 : Int32).toInt = 6 := rfl
theorem zl_7 : (7 : Int32).toInt = 7 := rfl
theorem zl_8 : (8 : Int32).toInt = 8 := rfl
theorem zl_9 : (9 : Int32).toInt = 9 := rfl
theorem zl_10 : (10 : Int32).toInt = 10 := rfl
theorem zl_16 : (16 : Int32).toInt = 16 := rfl
theorem zl_20 : (20 : Int32).toInt = 20 := rfl
theorem zl_30 : (30 : Int32).toInt = 30 := rfl
theorem zl_60 : (60 : Int32).toInt = 60 := rfl
theorem zl_1080 : (1080 : Int32).toInt = 1080 := rfl
theorem zl_m1 : (-1 : Int32).toInt = -1 := rfl
theorem zl_m2 : (-2 : Int32).toInt = -2 := rfl
theorem zl_m9 : (-9 : Int32).toInt = -9 := rfl
/-- an index within, by its number -/
theorem zv_of {i : Int32} {n : Nat} (h0 : 0 ≤ i.toInt) (h1 : i.toInt < n) : zi_vin i n = true := by
  simp only [zi_vin, Bool.and_eq_true, decide_eq_true_eq]
  refine ⟨fun h => ?_, ?_⟩
  · rw [Int32.lt_iff_toInt_lt, zl_0] at h
    omega
  · show i.toInt.toNat < n
    omega
theorem zv_nI {a n : Nat} (h : a < n) (hn : n ≤ 2147483648) : zi_vin (nI a) n = true := zv_of (by rw [zt_nI]; omega) (by rw [zt_nI]; omega)
theorem zv_inv {i : Int32} {n : Nat} (h : zi_vin i n = true) : 0 ≤ i.toInt ∧ i.toInt < n := by
  simp only [zi_vin, Bool.and_eq_true, decide_eq_true_eq] at h
  have h1 : i.toInt.toNat < n := h.2
  have h2 : ¬ i.toInt < 0 := fun q => h.1 (by rw [Int32.lt_iff_toInt_lt, zl_0]; exact q)
  omega
theorem zv_clamp {i : Int32} {a : Nat} (h : i.toInt = a) : i.toNatClampNeg = a := by
  show i.toInt.toNat = a
  omega
theorem zt_of {i : Int32} {a : Nat} (h : i.toInt = a) : i = nI a := by
  rw [zt_eq, zt_nI]
  have := zt_ran i
  omega
/-- one int of the memory has changed -/
theorem zu_up (I : Nat → Nat → Int32) (i k : Nat) (v : Int32) (a b : Nat) : zi_up I i k v a b = if a = i then (if b = k then v else I i b) else I a b := by
  unfold zi_up zi_row va_up
  by_cases h : a = i
  · rw [if_pos h, if_pos h]
  · rw [if_neg h, if_neg h]
theorem zu_row {α : Type} (I : Nat → Nat → α) (i : Nat) (r : Nat → α) (a : Nat) : zi_row I i r a = if a = i then r else I a := rfl
theorem zu_up_ne {α : Type} (I : Nat → Nat → α) {i k a : Nat} {v : α} (h : a ≠ i) : zi_up I i k v a = I a := zi_up_ne I k v h
/-- the rows from lo to hi - 1 alone may differ -/
def zAg (lo hi : Nat) (I I' : Nat → Nat → Int32) : Prop := ∀ a, a < lo ∨ hi ≤ a → I' a = I a
theorem zAg.rf {lo hi : Nat} {I : Nat → Nat → Int32} : zAg lo hi I I := fun _ _ => rfl
theorem zAg.tr {lo hi : Nat} {I I' I'' : Nat → Nat → Int32} (h : zAg lo hi I I') (h' : zAg lo hi I' I'') : zAg lo hi I I'' := fun a ha => (h' a ha).trans (h a ha)
theorem zAg.up {lo hi : Nat} {I I' : Nat → Nat → Int32} (h : zAg lo hi I I') {i k : Nat} {v : Int32} (hi1 : lo ≤ i) (hi2 : i < hi) : zAg lo hi I (zi_up I' i k v) := fun a ha => by
  rw [zu_up_ne I' (by omega)]
  exact h a ha
theorem zAg.row {lo hi : Nat} {I I' : Nat → Nat → Int32} (h : zAg lo hi I I') {i : Nat} {r : Nat → Int32} (hi1 : lo ≤ i) (hi2 : i < hi) : zAg lo hi I (zi_row I' i r) := fun a ha => by
  rw [zi_row_ne I' r (by omega)]
  exact h a ha
theorem zAg.wide {lo hi lo' hi' : Nat} {I I' : Nat → Nat → Int32} (h : zAg lo hi I I') (h1 : lo' ≤ lo) (h2 : hi ≤ hi') : zAg lo' hi' I I' := fun a ha => h a (by omega)
theorem zK_if {K : Option Value → zi_M → Prop} {M : zi_M} (p : Prop) (hp : Decidable p) (x y : Int32) : (@ite _ p hp (K (some (.int x)) M) (K (some (.int y)) M)) = K (some (.int (@ite _ p hp x y))) M := by
  by_cases h : p
  · rw [if_pos h, if_pos h]
  · rw [if_neg h, if_neg h]
end
section
/-! a ROUND's methods -/
/-- cell q is a Round object of the memory -/
def zIsR (q : Nat) : Prop := zMT q = (0, 4, 6) ∧ zMT (q + 1) = (1, 0, 5) ∧ zRC q 3 = some (q + 1)
def zIsP (p : Nat) : Prop := zMT p = (0, 1, 4) ∧ zMT (p + 1) = (3, 3, 6) ∧ zRC p 3 = some (p + 1) ∧ ∀ r, r < 6 → zRC (p + 1) r = some (p + 2 + 2 * r) ∧ zIsR (p + 2 + 2 * r)
theorem zIsP_of {p : Nat} (h : zMT p = (0, 1, 4) ∧ zMT (p + 1) = (3, 3, 6) ∧ zRC p 3 = some (p + 1)) (h2 : (List.range 6).all (fun r => decide (zRC (p + 1) r = some (p + 2 + 2 * r) ∧ zMT (p + 2 + 2 * r) = (0, 4, 6) ∧ zMT (p + 2 + 2 * r + 1) = (1, 0, 5) ∧ zRC (p + 2 + 2 * r) 3 = some (p + 2 + 2 * r + 1))) = true) : zIsP p := by
  refine ⟨h.1, h.2.1, h.2.2, fun r hr => ?_⟩
  have := List.all_eq_true.mp h2 r (List.mem_range.mpr hr)
  simp only [decide_eq_true_eq] at this
  exact this
theorem zIsP_2 : zIsP 2 := zIsP_of ⟨rfl, rfl, rfl⟩ (by decide)
theorem zIsP_16 : zIsP 16 := zIsP_of ⟨rfl, rfl, rfl⟩ (by decide)
theorem zIsP_31 : zIsP 31 := zIsP_of ⟨rfl, rfl, rfl⟩ (by decide)
section ZL
variable {sc : Nat × (Nat → Int32)} {I : Nat → Nat → Int32} {J : Nat → Nat → Int64} {K : Option Value → zi_M → Prop}
def zf_wide (k s : Int32) : Int32 := if k = 1 then s + 1 else if k = 2 then 2 * s else s
theorem s_R_wide {q : Nat} (hq : zMT q = (0, 4, 6)) : zi_B sc 0 0 41 0 [some (.ref q)] [] (zm I J) K = K (some (.int (zf_wide (I q 0) (I q 1)))) (zm I J) := by
  simp only [zi_wp_c, zi_wK_if, zi_wK_go, zi_wK_no, zi_wK_b, zi_wK_r, zi_wK_c, zi_cc_i, zi_cc_n, zi_B_if, zi_ifF, zx_nop, zx_iconst, zx_bipush, zx_sipush, zx_lconst, zx_ldc2_w, zx_aconst_null, zx_iload, zx_iload_n, zx_lload, zx_lload_n, zx_aload, zx_aload_n, zx_istore, zx_istore_n, zx_lstore, zx_lstore_n, zx_astore, zx_astore_n, zx_iinc, zx_iadd, zx_isub, zx_imul, zx_iand, zx_ior, zx_ishl, zx_ishr, zx_idiv, zx_irem, zx_ladd, zx_ldiv, zx_lrem, zx_lcmp, zx_i2l, zx_i2b, zx_i2s, zx_pop, zx_dup, zx_dup2, zx_getfield, zx_putfield, zx_getstatic, zx_iaload, zx_iastore, zx_laload, zx_lastore, zx_aaload, zx_arraylength, zx_goto, zx_ifCond, zx_if_icmp, zx_ifnull, zx_ifnonnull, zx_tableswitch, zx_lookupswitch, zx_ireturn, zx_lreturn, zx_areturn, zx_return_, zx_invokestatic, zx_invokevirtual, zi_ldi, zi_ldl, zi_lda, zi_sti, zi_stl, zi_sta, zi_inc, zi_b2, zi_d2, zi_l2, zi_dl2, zi_lc, zi_u1, zi_pp, zi_dup, zi_dup2, zi_gf, zi_pf, zi_ial, zi_ias, zi_lal, zi_las, zi_aal, zi_aln, zi_cp, zi_cmp, zi_if, zi_ic, zi_nul, zi_nnl, zi_sw, zi_ri, zi_rl, zi_ra, zi_rv, zi_iv, zi_ivr, zi_st1, zi_st2, zq_get0, zq_getS, zq_getN, zq_put0, zq_putS, zq_putN0, zq_putNS, zq_kl0, zq_klS, zq_Ln, zq_Li, zq_Lr, zq_Lf, zq_Lz, zq_Ll, zq_ft0, zq_fti, zq_ftr, zq_ftz, zq_ftf, zq_ftl, zq_pop0, zq_popS, zq_la0, zq_lai, zq_lar, zq_laz, zq_laf, zq_lal, zq_sh0, zq_sh1, zq_sh2, zq_sh3, zq_sh4, zq_f0, zq_f1, zq_f2, zq_f3, zq_u0, zq_u1, zq_u2, zq_ro0, zq_ro1, zq_ro2, zq_fv0, zq_fv2, zq_rfs, zq_rfn, zq_gD0, zq_gDS, zq_gDN, zq_lk0, zq_lkS, zq_tb0, zq_tbS, zq_o0, zq_o1, zq_o2, zq_o98, zq_o99, zq_o100, zq_o105, zq_o107, zq_o112, zq_o115, zq_o116, zq_c0, zq_c1, zq_v0, zq_v1, decide_eq_true_eq, List.toList_toArray, if_true, if_false, ite_self, and_true, true_and, and_false, false_and, true_or, or_true, or_false, false_or, not_true_eq_false, not_false_eq_true, Bool.false_eq_true, reduceCtorEq, ne_eq, ite_not, eq_self, Prod.mk.injEq, Nat.reduceEqDiff, Nat.reduceSub, Nat.reduceAdd, Nat.reduceLT, Nat.reduceLeDiff, zb_41_0, zc_41_0, zb_41_1, zc_41_1, zb_41_2, zc_41_2, zb_41_3, zc_41_3, hq, zf_wide, zK_if]
theorem s_R_girth {q : Nat} (hq : zMT q = (0, 4, 6)) : zi_B sc 0 0 42 0 [some (.ref q)] [] (zm I J) K = K (some (.int (I q 5 * zf_wide (I q 0) (I q 1)))) (zm I J) := by
  simp only [zi_wp_c, zi_wK_if, zi_wK_go, zi_wK_no, zi_wK_b, zi_wK_r, zi_wK_c, zi_cc_i, zi_cc_n, zi_B_if, zi_ifF, zx_nop, zx_iconst, zx_bipush, zx_sipush, zx_lconst, zx_ldc2_w, zx_aconst_null, zx_iload, zx_iload_n, zx_lload, zx_lload_n, zx_aload, zx_aload_n, zx_istore, zx_istore_n, zx_lstore, zx_lstore_n, zx_astore, zx_astore_n, zx_iinc, zx_iadd, zx_isub, zx_imul, zx_iand, zx_ior, zx_ishl, zx_ishr, zx_idiv, zx_irem, zx_ladd, zx_ldiv, zx_lrem, zx_lcmp, zx_i2l, zx_i2b, zx_i2s, zx_pop, zx_dup, zx_dup2, zx_getfield, zx_putfield, zx_getstatic, zx_iaload, zx_iastore, zx_laload, zx_lastore, zx_aaload, zx_arraylength, zx_goto, zx_ifCond, zx_if_icmp, zx_ifnull, zx_ifnonnull, zx_tableswitch, zx_lookupswitch, zx_ireturn, zx_lreturn, zx_areturn, zx_return_, zx_invokestatic, zx_invokevirtual, zi_ldi, zi_ldl, zi_lda, zi_sti, zi_stl, zi_sta, zi_inc, zi_b2, zi_d2, zi_l2, zi_dl2, zi_lc, zi_u1, zi_pp, zi_dup, zi_dup2, zi_gf, zi_pf, zi_ial, zi_ias, zi_lal, zi_las, zi_aal, zi_aln, zi_cp, zi_cmp, zi_if, zi_ic, zi_nul, zi_nnl, zi_sw, zi_ri, zi_rl, zi_ra, zi_rv, zi_iv, zi_ivr, zi_st1, zi_st2, zq_get0, zq_getS, zq_getN, zq_put0, zq_putS, zq_putN0, zq_putNS, zq_kl0, zq_klS, zq_Ln, zq_Li, zq_Lr, zq_Lf, zq_Lz, zq_Ll, zq_ft0, zq_fti, zq_ftr, zq_ftz, zq_ftf, zq_ftl, zq_pop0, zq_popS, zq_la0, zq_lai, zq_lar, zq_laz, zq_laf, zq_lal, zq_sh0, zq_sh1, zq_sh2, zq_sh3, zq_sh4, zq_f0, zq_f1, zq_f2, zq_f3, zq_u0, zq_u1, zq_u2, zq_ro0, zq_ro1, zq_ro2, zq_fv0, zq_fv2, zq_rfs, zq_rfn, zq_gD0, zq_gDS, zq_gDN, zq_lk0, zq_lkS, zq_tb0, zq_tbS, zq_o0, zq_o1, zq_o2, zq_o98, zq_o99, zq_o100, zq_o105, zq_o107, zq_o112, zq_o115, zq_o116, zq_c0, zq_c1, zq_v0, zq_v1, decide_eq_true_eq, List.toList_toArray, if_true, if_false, ite_self, and_true, true_and, and_false, false_and, true_or, or_true, or_false, false_or, not_true_eq_false, not_false_eq_true, Bool.false_eq_true, reduceCtorEq, ne_eq, ite_not, eq_self, Prod.mk.injEq, Nat.reduceEqDiff, Nat.reduceSub, Nat.reduceAdd, Nat.reduceLT, Nat.reduceLeDiff, zb_42_0, zc_42_0, hq, s_R_wide hq]
theorem s_R_hasPlace {q : Nat} {i : Int32} (hq : zMT q = (0, 4, 6)) : zi_B sc 0 0 38 0 [some (.ref q), some (.int i)] [] (zm I J) K = K (some (.int (if i < 0 then 0 else if I q 2 ≤ i then 0 else 1))) (zm I J) := by
  simp only [zi_wp_c, zi_wK_if, zi_wK_go, zi_wK_no, zi_wK_b, zi_wK_r, zi_wK_c, zi_cc_i, zi_cc_n, zi_B_if, zi_ifF, zx_nop, zx_iconst, zx_bipush, zx_sipush, zx_lconst, zx_ldc2_w, zx_aconst_null, zx_iload, zx_iload_n, zx_lload, zx_lload_n, zx_aload, zx_aload_n, zx_istore, zx_istore_n, zx_lstore, zx_lstore_n, zx_astore, zx_astore_n, zx_iinc, zx_iadd, zx_isub, zx_imul, zx_iand, zx_ior, zx_ishl, zx_ishr, zx_idiv, zx_irem, zx_ladd, zx_ldiv, zx_lrem, zx_lcmp, zx_i2l, zx_i2b, zx_i2s, zx_pop, zx_dup, zx_dup2, zx_getfield, zx_putfield, zx_getstatic, zx_iaload, zx_iastore, zx_laload, zx_lastore, zx_aaload, zx_arraylength, zx_goto, zx_ifCond, zx_if_icmp, zx_ifnull, zx_ifnonnull, zx_tableswitch, zx_lookupswitch, zx_ireturn, zx_lreturn, zx_areturn, zx_return_, zx_invokestatic, zx_invokevirtual, zi_ldi, zi_ldl, zi_lda, zi_sti, zi_stl, zi_sta, zi_inc, zi_b2, zi_d2, zi_l2, zi_dl2, zi_lc, zi_u1, zi_pp, zi_dup, zi_dup2, zi_gf, zi_pf, zi_ial, zi_ias, zi_lal, zi_las, zi_aal, zi_aln, zi_cp, zi_cmp, zi_if, zi_ic, zi_nul, zi_nnl, zi_sw, zi_ri, zi_rl, zi_ra, zi_rv, zi_iv, zi_ivr, zi_st1, zi_st2, zq_get0, zq_getS, zq_getN, zq_put0, zq_putS, zq_putN0, zq_putNS, zq_kl0, zq_klS, zq_Ln, zq_Li, zq_Lr, zq_Lf, zq_Lz, zq_Ll, zq_ft0, zq_fti, zq_ftr, zq_ftz, zq_ftf, zq_ftl, zq_pop0, zq_popS, zq_la0, zq_lai, zq_lar, zq_laz, zq_laf, zq_lal, zq_sh0, zq_sh1, zq_sh2, zq_sh3, zq_sh4, zq_f0, zq_f1, zq_f2, zq_f3, zq_u0, zq_u1, zq_u2, zq_ro0, zq_ro1, zq_ro2, zq_fv0, zq_fv2, zq_rfs, zq_rfn, zq_gD0, zq_gDS, zq_gDN, zq_lk0, zq_lkS, zq_tb0, zq_tbS, zq_o0, zq_o1, zq_o2, zq_o98, zq_o99, zq_o100, zq_o105, zq_o107, zq_o112, zq_o115, zq_o116, zq_c0, zq_c1, zq_v0, zq_v1, decide_eq_true_eq, List.toList_toArray, if_true, if_false, ite_self, and_true, true_and, and_false, false_and, true_or, or_true, or_false, false_or, not_true_eq_false, not_false_eq_true, Bool.false_eq_true, reduceCtorEq, ne_eq, ite_not, eq_self, Prod.mk.injEq, Nat.reduceEqDiff, Nat.reduceSub, Nat.reduceAdd, Nat.reduceLT, Nat.reduceLeDiff, zb_38_0, zc_38_0, zb_38_1, zc_38_1, zb_38_2, zc_38_2, hq, zK_if]
theorem s_R_begin {q : Nat} {k s : Int32} (hq : zMT q = (0, 4, 6)) : zi_B sc 0 0 36 0 [some (.ref q), some (.int k), some (.int s)] [] (zm I J) K = K none (zm (zi_up (zi_up (zi_up I q 0 k) q 1 s) q 2 0) J) := by
  simp only [zi_wp_c, zi_wK_if, zi_wK_go, zi_wK_no, zi_wK_b, zi_wK_r, zi_wK_c, zi_cc_i, zi_cc_n, zi_B_if, zi_ifF, zx_nop, zx_iconst, zx_bipush, zx_sipush, zx_lconst, zx_ldc2_w, zx_aconst_null, zx_iload, zx_iload_n, zx_lload, zx_lload_n, zx_aload, zx_aload_n, zx_istore, zx_istore_n, zx_lstore, zx_lstore_n, zx_astore, zx_astore_n, zx_iinc, zx_iadd, zx_isub, zx_imul, zx_iand, zx_ior, zx_ishl, zx_ishr, zx_idiv, zx_irem, zx_ladd, zx_ldiv, zx_lrem, zx_lcmp, zx_i2l, zx_i2b, zx_i2s, zx_pop, zx_dup, zx_dup2, zx_getfield, zx_putfield, zx_getstatic, zx_iaload, zx_iastore, zx_laload, zx_lastore, zx_aaload, zx_arraylength, zx_goto, zx_ifCond, zx_if_icmp, zx_ifnull, zx_ifnonnull, zx_tableswitch, zx_lookupswitch, zx_ireturn, zx_lreturn, zx_areturn, zx_return_, zx_invokestatic, zx_invokevirtual, zi_ldi, zi_ldl, zi_lda, zi_sti, zi_stl, zi_sta, zi_inc, zi_b2, zi_d2, zi_l2, zi_dl2, zi_lc, zi_u1, zi_pp, zi_dup, zi_dup2, zi_gf, zi_pf, zi_ial, zi_ias, zi_lal, zi_las, zi_aal, zi_aln, zi_cp, zi_cmp, zi_if, zi_ic, zi_nul, zi_nnl, zi_sw, zi_ri, zi_rl, zi_ra, zi_rv, zi_iv, zi_ivr, zi_st1, zi_st2, zq_get0, zq_getS, zq_getN, zq_put0, zq_putS, zq_putN0, zq_putNS, zq_kl0, zq_klS, zq_Ln, zq_Li, zq_Lr, zq_Lf, zq_Lz, zq_Ll, zq_ft0, zq_fti, zq_ftr, zq_ftz, zq_ftf, zq_ftl, zq_pop0, zq_popS, zq_la0, zq_lai, zq_lar, zq_laz, zq_laf, zq_lal, zq_sh0, zq_sh1, zq_sh2, zq_sh3, zq_sh4, zq_f0, zq_f1, zq_f2, zq_f3, zq_u0, zq_u1, zq_u2, zq_ro0, zq_ro1, zq_ro2, zq_fv0, zq_fv2, zq_rfs, zq_rfn, zq_gD0, zq_gDS, zq_gDN, zq_lk0, zq_lkS, zq_tb0, zq_tbS, zq_o0, zq_o1, zq_o2, zq_o98, zq_o99, zq_o100, zq_o105, zq_o107, zq_o112, zq_o115, zq_o116, zq_c0, zq_c1, zq_v0, zq_v1, decide_eq_true_eq, List.toList_toArray, if_true, if_false, ite_self, and_true, true_and, and_false, false_and, true_or, or_true, or_false, false_or, not_true_eq_false, not_false_eq_true, Bool.false_eq_true, reduceCtorEq, ne_eq, ite_not, eq_self, Prod.mk.injEq, Nat.reduceEqDiff, Nat.reduceSub, Nat.reduceAdd, Nat.reduceLT, Nat.reduceLeDiff, zb_36_0, zc_36_0, hq]
theorem s_R_addSign {q : Nat} {g : Int32} {c : Nat} (hq : zIsR q) (hc : I q 2 = nI c) (hc2 : c ≤ 5) : zi_B sc 0 0 37 0 [some (.ref q), some (.int g)] [] (zm I J) K = if c < 5 ∧ 0 ≤ g ∧ g < 5 then K (some (.int 1)) (zm (zi_up (zi_up I (q + 1) c g) q 2 (nI (c + 1))) J) else K (some (.int 0)) (zm I J) := by
  obtain ⟨h1, h2, h3⟩ := hq
  have e1 : (nI c).toNatClampNeg = c := nI_clamp (by omega)
  have e2 : ∀ x, zi_up I (q + 1) c x q 2 = nI c := fun x => by rw [zu_up_ne I (by omega), hc]
  simp only [zi_wp_c, zi_wK_if, zi_wK_go, zi_wK_no, zi_wK_b, zi_wK_r, zi_wK_c, zi_cc_i, zi_cc_n, zi_B_if, zi_ifF, zx_nop, zx_iconst, zx_bipush, zx_sipush, zx_lconst, zx_ldc2_w, zx_aconst_null, zx_iload, zx_iload_n, zx_lload, zx_lload_n, zx_aload, zx_aload_n, zx_istore, zx_istore_n, zx_lstore, zx_lstore_n, zx_astore, zx_astore_n, zx_iinc, zx_iadd, zx_isub, zx_imul, zx_iand, zx_ior, zx_ishl, zx_ishr, zx_idiv, zx_irem, zx_ladd, zx_ldiv, zx_lrem, zx_lcmp, zx_i2l, zx_i2b, zx_i2s, zx_pop, zx_dup, zx_dup2, zx_getfield, zx_putfield, zx_getstatic, zx_iaload, zx_iastore, zx_laload, zx_lastore, zx_aaload, zx_arraylength, zx_goto, zx_ifCond, zx_if_icmp, zx_ifnull, zx_ifnonnull, zx_tableswitch, zx_lookupswitch, zx_ireturn, zx_lreturn, zx_areturn, zx_return_, zx_invokestatic, zx_invokevirtual, zi_ldi, zi_ldl, zi_lda, zi_sti, zi_stl, zi_sta, zi_inc, zi_b2, zi_d2, zi_l2, zi_dl2, zi_lc, zi_u1, zi_pp, zi_dup, zi_dup2, zi_gf, zi_pf, zi_ial, zi_ias, zi_lal, zi_las, zi_aal, zi_aln, zi_cp, zi_cmp, zi_if, zi_ic, zi_nul, zi_nnl, zi_sw, zi_ri, zi_rl, zi_ra, zi_rv, zi_iv, zi_ivr, zi_st1, zi_st2, zq_get0, zq_getS, zq_getN, zq_put0, zq_putS, zq_putN0, zq_putNS, zq_kl0, zq_klS, zq_Ln, zq_Li, zq_Lr, zq_Lf, zq_Lz, zq_Ll, zq_ft0, zq_fti, zq_ftr, zq_ftz, zq_ftf, zq_ftl, zq_pop0, zq_popS, zq_la0, zq_lai, zq_lar, zq_laz, zq_laf, zq_lal, zq_sh0, zq_sh1, zq_sh2, zq_sh3, zq_sh4, zq_f0, zq_f1, zq_f2, zq_f3, zq_u0, zq_u1, zq_u2, zq_ro0, zq_ro1, zq_ro2, zq_fv0, zq_fv2, zq_rfs, zq_rfn, zq_gD0, zq_gDS, zq_gDN, zq_lk0, zq_lkS, zq_tb0, zq_tbS, zq_o0, zq_o1, zq_o2, zq_o98, zq_o99, zq_o100, zq_o105, zq_o107, zq_o112, zq_o115, zq_o116, zq_c0, zq_c1, zq_v0, zq_v1, decide_eq_true_eq, List.toList_toArray, if_true, if_false, ite_self, and_true, true_and, and_false, false_and, true_or, or_true, or_false, false_or, not_true_eq_false, not_false_eq_true, Bool.false_eq_true, reduceCtorEq, ne_eq, ite_not, eq_self, Prod.mk.injEq, Nat.reduceEqDiff, Nat.reduceSub, Nat.reduceAdd, Nat.reduceLT, Nat.reduceLeDiff, zb_37_0, zc_37_0, zb_37_1, zc_37_1, zb_37_2, zc_37_2, h1, h2, h3, hc, e1, e2, nI_1]
  by_cases c1 : c < 5
  · rw [if_neg (by (simp only [zt_eq, Int32.lt_iff_toInt_lt, Int32.le_iff_toInt_le, zt_add, zt_sub, zt_neg, zt_nI, zl_0, zl_1, zl_2, zl_3, zl_4, zl_5, zl_6, zl_7, zl_8, zl_9, zl_10, zl_16, zl_20, zl_30, zl_60, zl_1080, zl_m1, zl_m2, zl_m9]; omega))]
    by_cases c2 : g < 0
    · rw [if_pos c2, if_neg (fun h => absurd h.2.1 (by rw [Int32.not_le]; exact c2))]
    · rw [if_neg c2]
      by_cases c3 : g < 5
      · rw [if_pos c3, if_pos ⟨c1, Int32.not_lt.mp c2, c3⟩]
        simp only [zv_nI c1 (by omega), true_and]
      · rw [if_neg c3, if_neg (fun h => c3 h.2.2)]
  · rw [if_pos (by (simp only [zt_eq, Int32.lt_iff_toInt_lt, Int32.le_iff_toInt_le, zt_add, zt_sub, zt_neg, zt_nI, zl_0, zl_1, zl_2, zl_3, zl_4, zl_5, zl_6, zl_7, zl_8, zl_9, zl_10, zl_16, zl_20, zl_30, zl_60, zl_1080, zl_m1, zl_m2, zl_m9]; omega)), if_neg (fun h => c1 h.1)]
/-- round o of memory I is round q of memory I' -/
def zReq (I : Nat → Nat → Int32) (o : Nat) (I' : Nat → Nat → Int32) (q : Nat) : Prop := I' q 0 = I o 0 ∧ I' q 1 = I o 1 ∧ I' q 2 = I o 2 ∧ I' q 4 = I o 4 ∧ I' q 5 = I o 5 ∧ ∀ i, i < 5 → I' (q + 1) i = I (o + 1) i
theorem s_R_become {q o : Nat} (hq : zIsR q) (ho : zIsR o) (hqo : o + 1 < q ∨ q + 1 < o) (hK : ∀ I', zAg q (q + 2) I I' → zReq I o I' q → K none (zm I' J)) : zi_B sc 0 0 39 0 [some (.ref q), some (.ref o)] [] (zm I J) K := by
  obtain ⟨h1, h2, h3⟩ := hq
  obtain ⟨g1, g2, g3⟩ := ho
  have o1 : o ≠ q := by omega
  have o2 : o ≠ q + 1 := by omega
  have o3 : o + 1 ≠ q := by omega
  have o4 : o + 1 ≠ q + 1 := by omega
  have o5 : q + 1 ≠ q := by omega
  have e5 : (5 : Int32).toNatClampNeg = 5 := rfl
  simp only [zi_wp_c, zi_wK_if, zi_wK_go, zi_wK_no, zi_wK_b, zi_wK_r, zi_wK_c, zi_cc_i, zi_cc_n, zi_B_if, zi_ifF, zx_nop, zx_iconst, zx_bipush, zx_sipush, zx_lconst, zx_ldc2_w, zx_aconst_null, zx_iload, zx_iload_n, zx_lload, zx_lload_n, zx_aload, zx_aload_n, zx_istore, zx_istore_n, zx_lstore, zx_lstore_n, zx_astore, zx_astore_n, zx_iinc, zx_iadd, zx_isub, zx_imul, zx_iand, zx_ior, zx_ishl, zx_ishr, zx_idiv, zx_irem, zx_ladd, zx_ldiv, zx_lrem, zx_lcmp, zx_i2l, zx_i2b, zx_i2s, zx_pop, zx_dup, zx_dup2, zx_getfield, zx_putfield, zx_getstatic, zx_iaload, zx_iastore, zx_laload, zx_lastore, zx_aaload, zx_arraylength, zx_goto, zx_ifCond, zx_if_icmp, zx_ifnull, zx_ifnonnull, zx_tableswitch, zx_lookupswitch, zx_ireturn, zx_lreturn, zx_areturn, zx_return_, zx_invokestatic, zx_invokevirtual, zi_ldi, zi_ldl, zi_lda, zi_sti, zi_stl, zi_sta, zi_inc, zi_b2, zi_d2, zi_l2, zi_dl2, zi_lc, zi_u1, zi_pp, zi_dup, zi_dup2, zi_gf, zi_pf, zi_ial, zi_ias, zi_lal, zi_las, zi_aal, zi_aln, zi_cp, zi_cmp, zi_if, zi_ic, zi_nul, zi_nnl, zi_sw, zi_ri, zi_rl, zi_ra, zi_rv, zi_iv, zi_ivr, zi_st1, zi_st2, zq_get0, zq_getS, zq_getN, zq_put0, zq_putS, zq_putN0, zq_putNS, zq_kl0, zq_klS, zq_Ln, zq_Li, zq_Lr, zq_Lf, zq_Lz, zq_Ll, zq_ft0, zq_fti, zq_ftr, zq_ftz, zq_ftf, zq_ftl, zq_pop0, zq_popS, zq_la0, zq_lai, zq_lar, zq_laz, zq_laf, zq_lal, zq_sh0, zq_sh1, zq_sh2, zq_sh3, zq_sh4, zq_f0, zq_f1, zq_f2, zq_f3, zq_u0, zq_u1, zq_u2, zq_ro0, zq_ro1, zq_ro2, zq_fv0, zq_fv2, zq_rfs, zq_rfn, zq_gD0, zq_gDS, zq_gDN, zq_lk0, zq_lkS, zq_tb0, zq_tbS, zq_o0, zq_o1, zq_o2, zq_o98, zq_o99, zq_o100, zq_o105, zq_o107, zq_o112, zq_o115, zq_o116, zq_c0, zq_c1, zq_v0, zq_v1, decide_eq_true_eq, List.toList_toArray, if_true, if_false, ite_self, and_true, true_and, and_false, false_and, true_or, or_true, or_false, false_or, not_true_eq_false, not_false_eq_true, Bool.false_eq_true, reduceCtorEq, ne_eq, ite_not, eq_self, Prod.mk.injEq, Nat.reduceEqDiff, Nat.reduceSub, Nat.reduceAdd, Nat.reduceLT, Nat.reduceLeDiff, zb_39_0, zc_39_0, h1, h2, h3, g1, g2, g3, e5]
  refine ⟨by decide, hK _ ?_ ?_⟩
  · exact ((((((zAg.rf.up (Nat.le_refl _) (by omega)).up (Nat.le_refl _) (by omega)).up (Nat.le_refl _) (by omega)).row (by omega) (by omega)).up (Nat.le_refl _) (by omega)).up (Nat.le_refl _) (by omega))
  · refine ⟨?_, ?_, ?_, ?_, ?_, fun i hi => ?_⟩
    all_goals simp only [zu_up, zu_row, if_true, if_neg o1, if_neg o2, if_neg o3, if_neg o4, if_neg o5, if_neg (Ne.symm o5), va_cpy, Nat.reduceEqDiff, if_false, Nat.zero_add, Nat.sub_zero, Nat.zero_le, true_and]
    all_goals try rfl
    all_goals try (rw [if_pos hi])
end ZL
end
section
/-! coming out: a row of SIGNS upon so many loops -/
def zusN (s : Nat) : Nat := match s with
  | 2 => 2
  | 3 => 0
  | _ => 1
def zmkN (s : Nat) : Nat := match s with
  | 1 => 2
  | 4 => 0
  | _ => 1
def zuS (sg : Nat → Nat) : Nat → Nat
  | 0 => 0
  | n + 1 => zuS sg n + zusN (sg n)
def zmS (sg : Nat → Nat) : Nat → Nat
  | 0 => 0
  | n + 1 => zmS sg n + zmkN (sg n)
/-- how many loops come of it; 0: it does not come out -/
def zco (b u m : Nat) : Nat := if u = 0 ∨ b % u ≠ 0 then 0 else if 60 < b / u * m then 0 else b / u * m
/-- a round's value: kind, spun, how many signs, which -/
abbrev zRt : Type := Nat × Nat × Nat × (Nat → Nat)
def zRv (I : Nat → Nat → Int32) (q : Nat) (x : zRt) : Prop := I q 0 = nI x.1 ∧ I q 1 = nI x.2.1 ∧ I q 2 = nI x.2.2.1 ∧ (x.1 < 3 ∧ 1 ≤ x.2.1 ∧ x.2.1 ≤ 9 ∧ x.2.2.1 ≤ 5) ∧ ∀ i, i < x.2.2.1 → I (q + 1) i = nI (x.2.2.2 i) ∧ x.2.2.2 i < 5
abbrev zuR (x : zRt) : Nat := zuS x.2.2.2 x.2.2.1
abbrev zmR (x : zRt) : Nat := zmS x.2.2.2 x.2.2.1
theorem zusN_le (s : Nat) : zusN s ≤ 2 := by unfold zusN; split <;> omega
theorem zmkN_le (s : Nat) : zmkN s ≤ 2 := by unfold zmkN; split <;> omega
theorem zuS_le (sg : Nat → Nat) : ∀ n, zuS sg n ≤ 2 * n
  | 0 => Nat.le_refl _
  | n + 1 => by have := zuS_le sg n; have := zusN_le (sg n); simp only [zuS]; omega
theorem zmS_le (sg : Nat → Nat) : ∀ n, zmS sg n ≤ 2 * n
  | 0 => Nat.le_refl _
  | n + 1 => by have := zmS_le sg n; have := zmkN_le (sg n); simp only [zmS]; omega
theorem zU_nI {s : Nat} (h : s < 5) : zi_U s = nI (zusN s) := by
  match s, h with
  | 0, _ => rfl
  | 1, _ => rfl
  | 2, _ => rfl
  | 3, _ => rfl
  | 4, _ => rfl
theorem zK_nI {s : Nat} (h : s < 5) : zi_K s = nI (zmkN s) := by
  match s, h with
  | 0, _ => rfl
  | 1, _ => rfl
  | 2, _ => rfl
  | 3, _ => rfl
  | 4, _ => rfl
theorem zdiv_le (b u : Nat) : b / u ≤ b := Nat.div_le_self b u
theorem zmulb {b u m : Nat} (hb : b ≤ 60) (hm : m ≤ 60) : b / u * m ≤ 3600 := Nat.le_trans (Nat.mul_le_mul (Nat.le_trans (zdiv_le b u) hb) hm) (by omega)
section ZC
variable {sc : Nat × (Nat → Int32)} {I : Nat → Nat → Int32} {J : Nat → Nat → Int64} {K : Option Value → zi_M → Prop}
theorem s_x_loopsUpon {b u m : Nat} {M : zi_M} (hb : b ≤ 60) (hu : u ≤ 60) (hm : m ≤ 60) : zi_B sc 0 0 108 0 [some (.int (nI b)), some (.int (nI u)), some (.int (nI m))] [] M K = K (some (.int (nI (zco b u m)))) M := by
  have hq := zmulb (u := u) hb hm
  by_cases c1 : u = 0
  · subst c1
    simp only [zi_wp_c, zi_wK_if, zi_wK_go, zi_wK_no, zi_wK_b, zi_wK_r, zi_wK_c, zi_cc_i, zi_cc_n, zi_B_if, zi_ifF, zx_nop, zx_iconst, zx_bipush, zx_sipush, zx_lconst, zx_ldc2_w, zx_aconst_null, zx_iload, zx_iload_n, zx_lload, zx_lload_n, zx_aload, zx_aload_n, zx_istore, zx_istore_n, zx_lstore, zx_lstore_n, zx_astore, zx_astore_n, zx_iinc, zx_iadd, zx_isub, zx_imul, zx_iand, zx_ior, zx_ishl, zx_ishr, zx_idiv, zx_irem, zx_ladd, zx_ldiv, zx_lrem, zx_lcmp, zx_i2l, zx_i2b, zx_i2s, zx_pop, zx_dup, zx_dup2, zx_getfield, zx_putfield, zx_getstatic, zx_iaload, zx_iastore, zx_laload, zx_lastore, zx_aaload, zx_arraylength, zx_goto, zx_ifCond, zx_if_icmp, zx_ifnull, zx_ifnonnull, zx_tableswitch, zx_lookupswitch, zx_ireturn, zx_lreturn, zx_areturn, zx_return_, zx_invokestatic, zx_invokevirtual, zi_ldi, zi_ldl, zi_lda, zi_sti, zi_stl, zi_sta, zi_inc, zi_b2, zi_d2, zi_l2, zi_dl2, zi_lc, zi_u1, zi_pp, zi_dup, zi_dup2, zi_gf, zi_pf, zi_ial, zi_ias, zi_lal, zi_las, zi_aal, zi_aln, zi_cp, zi_cmp, zi_if, zi_ic, zi_nul, zi_nnl, zi_sw, zi_ri, zi_rl, zi_ra, zi_rv, zi_iv, zi_ivr, zi_st1, zi_st2, zq_get0, zq_getS, zq_getN, zq_put0, zq_putS, zq_putN0, zq_putNS, zq_kl0, zq_klS, zq_Ln, zq_Li, zq_Lr, zq_Lf, zq_Lz, zq_Ll, zq_ft0, zq_fti, zq_ftr, zq_ftz, zq_ftf, zq_ftl, zq_pop0, zq_popS, zq_la0, zq_lai, zq_lar, zq_laz, zq_laf, zq_lal, zq_sh0, zq_sh1, zq_sh2, zq_sh3, zq_sh4, zq_f0, zq_f1, zq_f2, zq_f3, zq_u0, zq_u1, zq_u2, zq_ro0, zq_ro1, zq_ro2, zq_fv0, zq_fv2, zq_rfs, zq_rfn, zq_gD0, zq_gDS, zq_gDN, zq_lk0, zq_lkS, zq_tb0, zq_tbS, zq_o0, zq_o1, zq_o2, zq_o98, zq_o99, zq_o100, zq_o105, zq_o107, zq_o112, zq_o115, zq_o116, zq_c0, zq_c1, zq_v0, zq_v1, decide_eq_true_eq, List.toList_toArray, if_true, if_false, ite_self, and_true, true_and, and_false, false_and, true_or, or_true, or_false, false_or, not_true_eq_false, not_false_eq_true, Bool.false_eq_true, reduceCtorEq, ne_eq, ite_not, eq_self, Prod.mk.injEq, Nat.reduceEqDiff, Nat.reduceSub, Nat.reduceAdd, Nat.reduceLT, Nat.reduceLeDiff, zb_108_0, zc_108_0, zb_108_1, zc_108_1, zb_108_2, zc_108_2, zb_108_3, zc_108_3, zb_108_4, zc_108_4]
    rw [if_pos (by (simp only [zt_eq, Int32.lt_iff_toInt_lt, Int32.le_iff_toInt_le, zt_add, zt_sub, zt_neg, zt_nI, zl_0, zl_1, zl_2, zl_3, zl_4, zl_5, zl_6, zl_7, zl_8, zl_9, zl_10, zl_16, zl_20, zl_30, zl_60, zl_1080, zl_m1, zl_m2, zl_m9]; omega))]
    rfl
  · have e1 : nI b - nI b / nI u * nI u = nI (b % u) := pk_rem (by omega) (by omega) (by omega)
    have e2 : nI b / nI u = nI (b / u) := pk_div (by omega) (by omega) (by omega)
    have n1 : ¬ nI u = 0 := nI_ne0 (by omega) (by omega)
    have hbu : b % u < u := Nat.mod_lt _ (by omega)
    simp only [zi_wp_c, zi_wK_if, zi_wK_go, zi_wK_no, zi_wK_b, zi_wK_r, zi_wK_c, zi_cc_i, zi_cc_n, zi_B_if, zi_ifF, zx_nop, zx_iconst, zx_bipush, zx_sipush, zx_lconst, zx_ldc2_w, zx_aconst_null, zx_iload, zx_iload_n, zx_lload, zx_lload_n, zx_aload, zx_aload_n, zx_istore, zx_istore_n, zx_lstore, zx_lstore_n, zx_astore, zx_astore_n, zx_iinc, zx_iadd, zx_isub, zx_imul, zx_iand, zx_ior, zx_ishl, zx_ishr, zx_idiv, zx_irem, zx_ladd, zx_ldiv, zx_lrem, zx_lcmp, zx_i2l, zx_i2b, zx_i2s, zx_pop, zx_dup, zx_dup2, zx_getfield, zx_putfield, zx_getstatic, zx_iaload, zx_iastore, zx_laload, zx_lastore, zx_aaload, zx_arraylength, zx_goto, zx_ifCond, zx_if_icmp, zx_ifnull, zx_ifnonnull, zx_tableswitch, zx_lookupswitch, zx_ireturn, zx_lreturn, zx_areturn, zx_return_, zx_invokestatic, zx_invokevirtual, zi_ldi, zi_ldl, zi_lda, zi_sti, zi_stl, zi_sta, zi_inc, zi_b2, zi_d2, zi_l2, zi_dl2, zi_lc, zi_u1, zi_pp, zi_dup, zi_dup2, zi_gf, zi_pf, zi_ial, zi_ias, zi_lal, zi_las, zi_aal, zi_aln, zi_cp, zi_cmp, zi_if, zi_ic, zi_nul, zi_nnl, zi_sw, zi_ri, zi_rl, zi_ra, zi_rv, zi_iv, zi_ivr, zi_st1, zi_st2, zq_get0, zq_getS, zq_getN, zq_put0, zq_putS, zq_putN0, zq_putNS, zq_kl0, zq_klS, zq_Ln, zq_Li, zq_Lr, zq_Lf, zq_Lz, zq_Ll, zq_ft0, zq_fti, zq_ftr, zq_ftz, zq_ftf, zq_ftl, zq_pop0, zq_popS, zq_la0, zq_lai, zq_lar, zq_laz, zq_laf, zq_lal, zq_sh0, zq_sh1, zq_sh2, zq_sh3, zq_sh4, zq_f0, zq_f1, zq_f2, zq_f3, zq_u0, zq_u1, zq_u2, zq_ro0, zq_ro1, zq_ro2, zq_fv0, zq_fv2, zq_rfs, zq_rfn, zq_gD0, zq_gDS, zq_gDN, zq_lk0, zq_lkS, zq_tb0, zq_tbS, zq_o0, zq_o1, zq_o2, zq_o98, zq_o99, zq_o100, zq_o105, zq_o107, zq_o112, zq_o115, zq_o116, zq_c0, zq_c1, zq_v0, zq_v1, decide_eq_true_eq, List.toList_toArray, if_true, if_false, ite_self, and_true, true_and, and_false, false_and, true_or, or_true, or_false, false_or, not_true_eq_false, not_false_eq_true, Bool.false_eq_true, reduceCtorEq, ne_eq, ite_not, eq_self, Prod.mk.injEq, Nat.reduceEqDiff, Nat.reduceSub, Nat.reduceAdd, Nat.reduceLT, Nat.reduceLeDiff, zb_108_0, zc_108_0, zb_108_1, zc_108_1, zb_108_2, zc_108_2, zb_108_3, zc_108_3, zb_108_4, zc_108_4, e1, n1]
    simp only [e2, pk_mul]
    rw [if_neg (by (simp only [zt_eq, Int32.lt_iff_toInt_lt, Int32.le_iff_toInt_le, zt_add, zt_sub, zt_neg, zt_nI, zl_0, zl_1, zl_2, zl_3, zl_4, zl_5, zl_6, zl_7, zl_8, zl_9, zl_10, zl_16, zl_20, zl_30, zl_60, zl_1080, zl_m1, zl_m2, zl_m9]; omega))]
    unfold zco
    by_cases c2 : b % u = 0
    · rw [if_pos (by rw [c2]; rfl), if_neg (show ¬ (u = 0 ∨ b % u ≠ 0) by omega)]
      by_cases c3 : 60 < b / u * m
      · rw [if_neg (by (simp only [zt_eq, Int32.lt_iff_toInt_lt, Int32.le_iff_toInt_le, zt_add, zt_sub, zt_neg, zt_nI, zl_0, zl_1, zl_2, zl_3, zl_4, zl_5, zl_6, zl_7, zl_8, zl_9, zl_10, zl_16, zl_20, zl_30, zl_60, zl_1080, zl_m1, zl_m2, zl_m9]; omega)), if_pos c3]
        rfl
      · rw [if_pos (by (simp only [zt_eq, Int32.lt_iff_toInt_lt, Int32.le_iff_toInt_le, zt_add, zt_sub, zt_neg, zt_nI, zl_0, zl_1, zl_2, zl_3, zl_4, zl_5, zl_6, zl_7, zl_8, zl_9, zl_10, zl_16, zl_20, zl_30, zl_60, zl_1080, zl_m1, zl_m2, zl_m9]; omega)), if_neg c3]
    · rw [if_neg (nI_ne0 (by omega) (by omega)), if_pos (Or.inr c2)]
      rfl
theorem l_R_co {q : Nat} {x : zRt} {b : Int32} (hq : zIsR q) (hv : zRv I q x) : ∀ d i, i + d = x.2.2.1 → zi_B sc 0 0 40 1 [some (.ref q), some (.int b), some (.int (nI (zuS x.2.2.2 i))), some (.int (nI (zmS x.2.2.2 i))), some (.int (nI i))] [] (zm I J) K = zi_B sc 0 0 40 2 [some (.ref q), some (.int b), some (.int (nI (zuR x))), some (.int (nI (zmR x))), some (.int (nI x.2.2.1))] [] (zm I J) K := by
  obtain ⟨h1, h2, h3⟩ := hq
  obtain ⟨v0, v1, v2, ⟨v3, v4, v5, v6⟩, v7⟩ := hv
  intro d
  induction d with
  | zero =>
    intro i hi
    have : i = x.2.2.1 := by omega
    subst this
    rw [zb_40_1]
    simp only [zi_wp_c, zi_wK_if, zi_wK_go, zi_wK_no, zi_wK_b, zi_wK_r, zi_wK_c, zi_cc_i, zi_cc_n, zi_B_if, zi_ifF, zx_nop, zx_iconst, zx_bipush, zx_sipush, zx_lconst, zx_ldc2_w, zx_aconst_null, zx_iload, zx_iload_n, zx_lload, zx_lload_n, zx_aload, zx_aload_n, zx_istore, zx_istore_n, zx_lstore, zx_lstore_n, zx_astore, zx_astore_n, zx_iinc, zx_iadd, zx_isub, zx_imul, zx_iand, zx_ior, zx_ishl, zx_ishr, zx_idiv, zx_irem, zx_ladd, zx_ldiv, zx_lrem, zx_lcmp, zx_i2l, zx_i2b, zx_i2s, zx_pop, zx_dup, zx_dup2, zx_getfield, zx_putfield, zx_getstatic, zx_iaload, zx_iastore, zx_laload, zx_lastore, zx_aaload, zx_arraylength, zx_goto, zx_ifCond, zx_if_icmp, zx_ifnull, zx_ifnonnull, zx_tableswitch, zx_lookupswitch, zx_ireturn, zx_lreturn, zx_areturn, zx_return_, zx_invokestatic, zx_invokevirtual, zi_ldi, zi_ldl, zi_lda, zi_sti, zi_stl, zi_sta, zi_inc, zi_b2, zi_d2, zi_l2, zi_dl2, zi_lc, zi_u1, zi_pp, zi_dup, zi_dup2, zi_gf, zi_pf, zi_ial, zi_ias, zi_lal, zi_las, zi_aal, zi_aln, zi_cp, zi_cmp, zi_if, zi_ic, zi_nul, zi_nnl, zi_sw, zi_ri, zi_rl, zi_ra, zi_rv, zi_iv, zi_ivr, zi_st1, zi_st2, zq_get0, zq_getS, zq_getN, zq_put0, zq_putS, zq_putN0, zq_putNS, zq_kl0, zq_klS, zq_Ln, zq_Li, zq_Lr, zq_Lf, zq_Lz, zq_Ll, zq_ft0, zq_fti, zq_ftr, zq_ftz, zq_ftf, zq_ftl, zq_pop0, zq_popS, zq_la0, zq_lai, zq_lar, zq_laz, zq_laf, zq_lal, zq_sh0, zq_sh1, zq_sh2, zq_sh3, zq_sh4, zq_f0, zq_f1, zq_f2, zq_f3, zq_u0, zq_u1, zq_u2, zq_ro0, zq_ro1, zq_ro2, zq_fv0, zq_fv2, zq_rfs, zq_rfn, zq_gD0, zq_gDS, zq_gDN, zq_lk0, zq_lkS, zq_tb0, zq_tbS, zq_o0, zq_o1, zq_o2, zq_o98, zq_o99, zq_o100, zq_o105, zq_o107, zq_o112, zq_o115, zq_o116, zq_c0, zq_c1, zq_v0, zq_v1, decide_eq_true_eq, List.toList_toArray, if_true, if_false, ite_self, and_true, true_and, and_false, false_and, true_or, or_true, or_false, false_or, not_true_eq_false, not_false_eq_true, Bool.false_eq_true, reduceCtorEq, ne_eq, ite_not, eq_self, Prod.mk.injEq, Nat.reduceEqDiff, Nat.reduceSub, Nat.reduceAdd, Nat.reduceLT, Nat.reduceLeDiff, h1, zc_40_1, v2]
    rw [if_pos (by (simp only [zt_eq, Int32.lt_iff_toInt_lt, Int32.le_iff_toInt_le, zt_add, zt_sub, zt_neg, zt_nI, zl_0, zl_1, zl_2, zl_3, zl_4, zl_5, zl_6, zl_7, zl_8, zl_9, zl_10, zl_16, zl_20, zl_30, zl_60, zl_1080, zl_m1, zl_m2, zl_m9]; omega))]
  | succ d ih =>
    intro i hi
    obtain ⟨g1, g2⟩ := v7 i (by omega)
    have e1 : (nI i).toNatClampNeg = i := nI_clamp (by omega)
    have e2 : (nI (x.2.2.2 i)).toNatClampNeg = x.2.2.2 i := nI_clamp (by omega)
    rw [zb_40_1]
    simp only [zi_wp_c, zi_wK_if, zi_wK_go, zi_wK_no, zi_wK_b, zi_wK_r, zi_wK_c, zi_cc_i, zi_cc_n, zi_B_if, zi_ifF, zx_nop, zx_iconst, zx_bipush, zx_sipush, zx_lconst, zx_ldc2_w, zx_aconst_null, zx_iload, zx_iload_n, zx_lload, zx_lload_n, zx_aload, zx_aload_n, zx_istore, zx_istore_n, zx_lstore, zx_lstore_n, zx_astore, zx_astore_n, zx_iinc, zx_iadd, zx_isub, zx_imul, zx_iand, zx_ior, zx_ishl, zx_ishr, zx_idiv, zx_irem, zx_ladd, zx_ldiv, zx_lrem, zx_lcmp, zx_i2l, zx_i2b, zx_i2s, zx_pop, zx_dup, zx_dup2, zx_getfield, zx_putfield, zx_getstatic, zx_iaload, zx_iastore, zx_laload, zx_lastore, zx_aaload, zx_arraylength, zx_goto, zx_ifCond, zx_if_icmp, zx_ifnull, zx_ifnonnull, zx_tableswitch, zx_lookupswitch, zx_ireturn, zx_lreturn, zx_areturn, zx_return_, zx_invokestatic, zx_invokevirtual, zi_ldi, zi_ldl, zi_lda, zi_sti, zi_stl, zi_sta, zi_inc, zi_b2, zi_d2, zi_l2, zi_dl2, zi_lc, zi_u1, zi_pp, zi_dup, zi_dup2, zi_gf, zi_pf, zi_ial, zi_ias, zi_lal, zi_las, zi_aal, zi_aln, zi_cp, zi_cmp, zi_if, zi_ic, zi_nul, zi_nnl, zi_sw, zi_ri, zi_rl, zi_ra, zi_rv, zi_iv, zi_ivr, zi_st1, zi_st2, zq_get0, zq_getS, zq_getN, zq_put0, zq_putS, zq_putN0, zq_putNS, zq_kl0, zq_klS, zq_Ln, zq_Li, zq_Lr, zq_Lf, zq_Lz, zq_Ll, zq_ft0, zq_fti, zq_ftr, zq_ftz, zq_ftf, zq_ftl, zq_pop0, zq_popS, zq_la0, zq_lai, zq_lar, zq_laz, zq_laf, zq_lal, zq_sh0, zq_sh1, zq_sh2, zq_sh3, zq_sh4, zq_f0, zq_f1, zq_f2, zq_f3, zq_u0, zq_u1, zq_u2, zq_ro0, zq_ro1, zq_ro2, zq_fv0, zq_fv2, zq_rfs, zq_rfn, zq_gD0, zq_gDS, zq_gDN, zq_lk0, zq_lkS, zq_tb0, zq_tbS, zq_o0, zq_o1, zq_o2, zq_o98, zq_o99, zq_o100, zq_o105, zq_o107, zq_o112, zq_o115, zq_o116, zq_c0, zq_c1, zq_v0, zq_v1, decide_eq_true_eq, List.toList_toArray, if_true, if_false, ite_self, and_true, true_and, and_false, false_and, true_or, or_true, or_false, false_or, not_true_eq_false, not_false_eq_true, Bool.false_eq_true, reduceCtorEq, ne_eq, ite_not, eq_self, Prod.mk.injEq, Nat.reduceEqDiff, Nat.reduceSub, Nat.reduceAdd, Nat.reduceLT, Nat.reduceLeDiff, h1, h2, h3, zc_40_1, v2, e1, g1, e2, zU_nI g2, zK_nI g2, zv_nI (show i < 5 by omega) (by omega), zv_nI g2 (by omega), nI_add]
    rw [if_neg (by (simp only [zt_eq, Int32.lt_iff_toInt_lt, Int32.le_iff_toInt_le, zt_add, zt_sub, zt_neg, zt_nI, zl_0, zl_1, zl_2, zl_3, zl_4, zl_5, zl_6, zl_7, zl_8, zl_9, zl_10, zl_16, zl_20, zl_30, zl_60, zl_1080, zl_m1, zl_m2, zl_m9]; omega)), show nI i + 1 = nI (i + 1) from nI_1 i]
    exact ih (i + 1) (by omega)
theorem s_R_co {q b : Nat} {x : zRt} (hq : zIsR q) (hv : zRv I q x) (hb : b ≤ 60) : zi_B sc 0 0 40 0 [some (.ref q), some (.int (nI b))] [] (zm I J) K = K (some (.int (if 0 < zco b (zuR x) (zmR x) then 1 else 0))) (zm (zi_up (zi_up I q 5 (nI (zco b (zuR x) (zmR x)))) q 4 (nI (b / zuR x))) J) := by
  have hu : zuR x ≤ 2 * x.2.2.1 := zuS_le x.2.2.2 x.2.2.1
  have hm : zmR x ≤ 2 * x.2.2.1 := zmS_le x.2.2.2 x.2.2.1
  have h6 := hv.2.2.2.1.2.2.2
  have h0 := l_R_co (sc := sc) (J := J) (K := K) (b := nI b) hq hv x.2.2.1 0 (by omega)
  simp only [zi_wp_c, zi_wK_if, zi_wK_go, zi_wK_no, zi_wK_b, zi_wK_r, zi_wK_c, zi_cc_i, zi_cc_n, zi_B_if, zi_ifF, zx_nop, zx_iconst, zx_bipush, zx_sipush, zx_lconst, zx_ldc2_w, zx_aconst_null, zx_iload, zx_iload_n, zx_lload, zx_lload_n, zx_aload, zx_aload_n, zx_istore, zx_istore_n, zx_lstore, zx_lstore_n, zx_astore, zx_astore_n, zx_iinc, zx_iadd, zx_isub, zx_imul, zx_iand, zx_ior, zx_ishl, zx_ishr, zx_idiv, zx_irem, zx_ladd, zx_ldiv, zx_lrem, zx_lcmp, zx_i2l, zx_i2b, zx_i2s, zx_pop, zx_dup, zx_dup2, zx_getfield, zx_putfield, zx_getstatic, zx_iaload, zx_iastore, zx_laload, zx_lastore, zx_aaload, zx_arraylength, zx_goto, zx_ifCond, zx_if_icmp, zx_ifnull, zx_ifnonnull, zx_tableswitch, zx_lookupswitch, zx_ireturn, zx_lreturn, zx_areturn, zx_return_, zx_invokestatic, zx_invokevirtual, zi_ldi, zi_ldl, zi_lda, zi_sti, zi_stl, zi_sta, zi_inc, zi_b2, zi_d2, zi_l2, zi_dl2, zi_lc, zi_u1, zi_pp, zi_dup, zi_dup2, zi_gf, zi_pf, zi_ial, zi_ias, zi_lal, zi_las, zi_aal, zi_aln, zi_cp, zi_cmp, zi_if, zi_ic, zi_nul, zi_nnl, zi_sw, zi_ri, zi_rl, zi_ra, zi_rv, zi_iv, zi_ivr, zi_st1, zi_st2, zq_get0, zq_getS, zq_getN, zq_put0, zq_putS, zq_putN0, zq_putNS, zq_kl0, zq_klS, zq_Ln, zq_Li, zq_Lr, zq_Lf, zq_Lz, zq_Ll, zq_ft0, zq_fti, zq_ftr, zq_ftz, zq_ftf, zq_ftl, zq_pop0, zq_popS, zq_la0, zq_lai, zq_lar, zq_laz, zq_laf, zq_lal, zq_sh0, zq_sh1, zq_sh2, zq_sh3, zq_sh4, zq_f0, zq_f1, zq_f2, zq_f3, zq_u0, zq_u1, zq_u2, zq_ro0, zq_ro1, zq_ro2, zq_fv0, zq_fv2, zq_rfs, zq_rfn, zq_gD0, zq_gDS, zq_gDN, zq_lk0, zq_lkS, zq_tb0, zq_tbS, zq_o0, zq_o1, zq_o2, zq_o98, zq_o99, zq_o100, zq_o105, zq_o107, zq_o112, zq_o115, zq_o116, zq_c0, zq_c1, zq_v0, zq_v1, decide_eq_true_eq, List.toList_toArray, if_true, if_false, ite_self, and_true, true_and, and_false, false_and, true_or, or_true, or_false, false_or, not_true_eq_false, not_false_eq_true, Bool.false_eq_true, reduceCtorEq, ne_eq, ite_not, eq_self, Prod.mk.injEq, Nat.reduceEqDiff, Nat.reduceSub, Nat.reduceAdd, Nat.reduceLT, Nat.reduceLeDiff, zb_40_0, zc_40_0]
  refine Eq.trans h0 ?_
  have h1 := hq.1
  have hco : zco b (zuR x) (zmR x) ≤ 60 := by unfold zco; split <;> (try split) <;> omega
  have n5 : ∀ v w, zi_up (zi_up I q 5 v) q 4 w q 5 = v := fun v w => by simp only [zu_up, if_true, Nat.reduceEqDiff, if_false]
  by_cases c1 : zuR x = 0
  · simp only [zi_wp_c, zi_wK_if, zi_wK_go, zi_wK_no, zi_wK_b, zi_wK_r, zi_wK_c, zi_cc_i, zi_cc_n, zi_B_if, zi_ifF, zx_nop, zx_iconst, zx_bipush, zx_sipush, zx_lconst, zx_ldc2_w, zx_aconst_null, zx_iload, zx_iload_n, zx_lload, zx_lload_n, zx_aload, zx_aload_n, zx_istore, zx_istore_n, zx_lstore, zx_lstore_n, zx_astore, zx_astore_n, zx_iinc, zx_iadd, zx_isub, zx_imul, zx_iand, zx_ior, zx_ishl, zx_ishr, zx_idiv, zx_irem, zx_ladd, zx_ldiv, zx_lrem, zx_lcmp, zx_i2l, zx_i2b, zx_i2s, zx_pop, zx_dup, zx_dup2, zx_getfield, zx_putfield, zx_getstatic, zx_iaload, zx_iastore, zx_laload, zx_lastore, zx_aaload, zx_arraylength, zx_goto, zx_ifCond, zx_if_icmp, zx_ifnull, zx_ifnonnull, zx_tableswitch, zx_lookupswitch, zx_ireturn, zx_lreturn, zx_areturn, zx_return_, zx_invokestatic, zx_invokevirtual, zi_ldi, zi_ldl, zi_lda, zi_sti, zi_stl, zi_sta, zi_inc, zi_b2, zi_d2, zi_l2, zi_dl2, zi_lc, zi_u1, zi_pp, zi_dup, zi_dup2, zi_gf, zi_pf, zi_ial, zi_ias, zi_lal, zi_las, zi_aal, zi_aln, zi_cp, zi_cmp, zi_if, zi_ic, zi_nul, zi_nnl, zi_sw, zi_ri, zi_rl, zi_ra, zi_rv, zi_iv, zi_ivr, zi_st1, zi_st2, zq_get0, zq_getS, zq_getN, zq_put0, zq_putS, zq_putN0, zq_putNS, zq_kl0, zq_klS, zq_Ln, zq_Li, zq_Lr, zq_Lf, zq_Lz, zq_Ll, zq_ft0, zq_fti, zq_ftr, zq_ftz, zq_ftf, zq_ftl, zq_pop0, zq_popS, zq_la0, zq_lai, zq_lar, zq_laz, zq_laf, zq_lal, zq_sh0, zq_sh1, zq_sh2, zq_sh3, zq_sh4, zq_f0, zq_f1, zq_f2, zq_f3, zq_u0, zq_u1, zq_u2, zq_ro0, zq_ro1, zq_ro2, zq_fv0, zq_fv2, zq_rfs, zq_rfn, zq_gD0, zq_gDS, zq_gDN, zq_lk0, zq_lkS, zq_tb0, zq_tbS, zq_o0, zq_o1, zq_o2, zq_o98, zq_o99, zq_o100, zq_o105, zq_o107, zq_o112, zq_o115, zq_o116, zq_c0, zq_c1, zq_v0, zq_v1, decide_eq_true_eq, List.toList_toArray, if_true, if_false, ite_self, and_true, true_and, and_false, false_and, true_or, or_true, or_false, false_or, not_true_eq_false, not_false_eq_true, Bool.false_eq_true, reduceCtorEq, ne_eq, ite_not, eq_self, Prod.mk.injEq, Nat.reduceEqDiff, Nat.reduceSub, Nat.reduceAdd, Nat.reduceLT, Nat.reduceLeDiff, zb_40_2, zc_40_2, zb_40_3, zc_40_3, zb_40_4, zc_40_4, zb_40_5, zc_40_5, zb_40_6, zc_40_6, h1, s_x_loopsUpon hb (show zuR x ≤ 60 by omega) (show zmR x ≤ 60 by omega), n5]
    rw [if_pos (show nI (zuR x) ≤ 0 by (simp only [zt_eq, Int32.lt_iff_toInt_lt, Int32.le_iff_toInt_le, zt_add, zt_sub, zt_neg, zt_nI, zl_0, zl_1, zl_2, zl_3, zl_4, zl_5, zl_6, zl_7, zl_8, zl_9, zl_10, zl_16, zl_20, zl_30, zl_60, zl_1080, zl_m1, zl_m2, zl_m9]; omega)), c1, Nat.div_zero]
    rw [c1] at hco
    rcases Nat.eq_zero_or_pos (zco b 0 (zmR x)) with c | c
    · rw [if_pos (by (simp only [zt_eq, Int32.lt_iff_toInt_lt, Int32.le_iff_toInt_le, zt_add, zt_sub, zt_neg, zt_nI, zl_0, zl_1, zl_2, zl_3, zl_4, zl_5, zl_6, zl_7, zl_8, zl_9, zl_10, zl_16, zl_20, zl_30, zl_60, zl_1080, zl_m1, zl_m2, zl_m9]; omega)), if_neg (show ¬ 0 < zco b 0 (zmR x) by omega)]
      rfl
    · rw [if_neg (by (simp only [zt_eq, Int32.lt_iff_toInt_lt, Int32.le_iff_toInt_le, zt_add, zt_sub, zt_neg, zt_nI, zl_0, zl_1, zl_2, zl_3, zl_4, zl_5, zl_6, zl_7, zl_8, zl_9, zl_10, zl_16, zl_20, zl_30, zl_60, zl_1080, zl_m1, zl_m2, zl_m9]; omega)), if_pos c]
      rfl
  · have n1 : ¬ nI (zuR x) = 0 := nI_ne0 (by omega) (by omega)
    have e2 : nI b / nI (zuR x) = nI (b / zuR x) := pk_div (by omega) (by omega) (by omega)
    simp only [zi_wp_c, zi_wK_if, zi_wK_go, zi_wK_no, zi_wK_b, zi_wK_r, zi_wK_c, zi_cc_i, zi_cc_n, zi_B_if, zi_ifF, zx_nop, zx_iconst, zx_bipush, zx_sipush, zx_lconst, zx_ldc2_w, zx_aconst_null, zx_iload, zx_iload_n, zx_lload, zx_lload_n, zx_aload, zx_aload_n, zx_istore, zx_istore_n, zx_lstore, zx_lstore_n, zx_astore, zx_astore_n, zx_iinc, zx_iadd, zx_isub, zx_imul, zx_iand, zx_ior, zx_ishl, zx_ishr, zx_idiv, zx_irem, zx_ladd, zx_ldiv, zx_lrem, zx_lcmp, zx_i2l, zx_i2b, zx_i2s, zx_pop, zx_dup, zx_dup2, zx_getfield, zx_putfield, zx_getstatic, zx_iaload, zx_iastore, zx_laload, zx_lastore, zx_aaload, zx_arraylength, zx_goto, zx_ifCond, zx_if_icmp, zx_ifnull, zx_ifnonnull, zx_tableswitch, zx_lookupswitch, zx_ireturn, zx_lreturn, zx_areturn, zx_return_, zx_invokestatic, zx_invokevirtual, zi_ldi, zi_ldl, zi_lda, zi_sti, zi_stl, zi_sta, zi_inc, zi_b2, zi_d2, zi_l2, zi_dl2, zi_lc, zi_u1, zi_pp, zi_dup, zi_dup2, zi_gf, zi_pf, zi_ial, zi_ias, zi_lal, zi_las, zi_aal, zi_aln, zi_cp, zi_cmp, zi_if, zi_ic, zi_nul, zi_nnl, zi_sw, zi_ri, zi_rl, zi_ra, zi_rv, zi_iv, zi_ivr, zi_st1, zi_st2, zq_get0, zq_getS, zq_getN, zq_put0, zq_putS, zq_putN0, zq_putNS, zq_kl0, zq_klS, zq_Ln, zq_Li, zq_Lr, zq_Lf, zq_Lz, zq_Ll, zq_ft0, zq_fti, zq_ftr, zq_ftz, zq_ftf, zq_ftl, zq_pop0, zq_popS, zq_la0, zq_lai, zq_lar, zq_laz, zq_laf, zq_lal, zq_sh0, zq_sh1, zq_sh2, zq_sh3, zq_sh4, zq_f0, zq_f1, zq_f2, zq_f3, zq_u0, zq_u1, zq_u2, zq_ro0, zq_ro1, zq_ro2, zq_fv0, zq_fv2, zq_rfs, zq_rfn, zq_gD0, zq_gDS, zq_gDN, zq_lk0, zq_lkS, zq_tb0, zq_tbS, zq_o0, zq_o1, zq_o2, zq_o98, zq_o99, zq_o100, zq_o105, zq_o107, zq_o112, zq_o115, zq_o116, zq_c0, zq_c1, zq_v0, zq_v1, decide_eq_true_eq, List.toList_toArray, if_true, if_false, ite_self, and_true, true_and, and_false, false_and, true_or, or_true, or_false, false_or, not_true_eq_false, not_false_eq_true, Bool.false_eq_true, reduceCtorEq, ne_eq, ite_not, eq_self, Prod.mk.injEq, Nat.reduceEqDiff, Nat.reduceSub, Nat.reduceAdd, Nat.reduceLT, Nat.reduceLeDiff, zb_40_2, zc_40_2, zb_40_3, zc_40_3, zb_40_4, zc_40_4, zb_40_5, zc_40_5, zb_40_6, zc_40_6, h1, s_x_loopsUpon hb (show zuR x ≤ 60 by omega) (show zmR x ≤ 60 by omega), n5, n1, e2]
    rw [if_neg (show ¬ nI (zuR x) ≤ 0 by (simp only [zt_eq, Int32.lt_iff_toInt_lt, Int32.le_iff_toInt_le, zt_add, zt_sub, zt_neg, zt_nI, zl_0, zl_1, zl_2, zl_3, zl_4, zl_5, zl_6, zl_7, zl_8, zl_9, zl_10, zl_16, zl_20, zl_30, zl_60, zl_1080, zl_m1, zl_m2, zl_m9]; omega))]
    rcases Nat.eq_zero_or_pos (zco b (zuR x) (zmR x)) with c | c
    · rw [if_pos (by (simp only [zt_eq, Int32.lt_iff_toInt_lt, Int32.le_iff_toInt_le, zt_add, zt_sub, zt_neg, zt_nI, zl_0, zl_1, zl_2, zl_3, zl_4, zl_5, zl_6, zl_7, zl_8, zl_9, zl_10, zl_16, zl_20, zl_30, zl_60, zl_1080, zl_m1, zl_m2, zl_m9]; omega)), if_neg (show ¬ 0 < zco b (zuR x) (zmR x) by omega)]
    · rw [if_neg (by (simp only [zt_eq, Int32.lt_iff_toInt_lt, Int32.le_iff_toInt_le, zt_add, zt_sub, zt_neg, zt_nI, zl_0, zl_1, zl_2, zl_3, zl_4, zl_5, zl_6, zl_7, zl_8, zl_9, zl_10, zl_16, zl_20, zl_30, zl_60, zl_1080, zl_m1, zl_m2, zl_m9]; omega)), if_pos c]
def zf_used (s : Int32) : Int32 := if s = 2 then 2 else if s = 3 then 0 else 1
def zf_made (s : Int32) : Int32 := if s = 1 then 2 else if s = 4 then 0 else 1
theorem s_m_usedBy {s : Int32} {M : zi_M} : zi_B sc 0 0 118 0 [some (.int s)] [] M K = K (some (.int (zf_used s))) M := by
  simp only [zi_wp_c, zi_wK_if, zi_wK_go, zi_wK_no, zi_wK_b, zi_wK_r, zi_wK_c, zi_cc_i, zi_cc_n, zi_B_if, zi_ifF, zx_nop, zx_iconst, zx_bipush, zx_sipush, zx_lconst, zx_ldc2_w, zx_aconst_null, zx_iload, zx_iload_n, zx_lload, zx_lload_n, zx_aload, zx_aload_n, zx_istore, zx_istore_n, zx_lstore, zx_lstore_n, zx_astore, zx_astore_n, zx_iinc, zx_iadd, zx_isub, zx_imul, zx_iand, zx_ior, zx_ishl, zx_ishr, zx_idiv, zx_irem, zx_ladd, zx_ldiv, zx_lrem, zx_lcmp, zx_i2l, zx_i2b, zx_i2s, zx_pop, zx_dup, zx_dup2, zx_getfield, zx_putfield, zx_getstatic, zx_iaload, zx_iastore, zx_laload, zx_lastore, zx_aaload, zx_arraylength, zx_goto, zx_ifCond, zx_if_icmp, zx_ifnull, zx_ifnonnull, zx_tableswitch, zx_lookupswitch, zx_ireturn, zx_lreturn, zx_areturn, zx_return_, zx_invokestatic, zx_invokevirtual, zi_ldi, zi_ldl, zi_lda, zi_sti, zi_stl, zi_sta, zi_inc, zi_b2, zi_d2, zi_l2, zi_dl2, zi_lc, zi_u1, zi_pp, zi_dup, zi_dup2, zi_gf, zi_pf, zi_ial, zi_ias, zi_lal, zi_las, zi_aal, zi_aln, zi_cp, zi_cmp, zi_if, zi_ic, zi_nul, zi_nnl, zi_sw, zi_ri, zi_rl, zi_ra, zi_rv, zi_iv, zi_ivr, zi_st1, zi_st2, zq_get0, zq_getS, zq_getN, zq_put0, zq_putS, zq_putN0, zq_putNS, zq_kl0, zq_klS, zq_Ln, zq_Li, zq_Lr, zq_Lf, zq_Lz, zq_Ll, zq_ft0, zq_fti, zq_ftr, zq_ftz, zq_ftf, zq_ftl, zq_pop0, zq_popS, zq_la0, zq_lai, zq_lar, zq_laz, zq_laf, zq_lal, zq_sh0, zq_sh1, zq_sh2, zq_sh3, zq_sh4, zq_f0, zq_f1, zq_f2, zq_f3, zq_u0, zq_u1, zq_u2, zq_ro0, zq_ro1, zq_ro2, zq_fv0, zq_fv2, zq_rfs, zq_rfn, zq_gD0, zq_gDS, zq_gDN, zq_lk0, zq_lkS, zq_tb0, zq_tbS, zq_o0, zq_o1, zq_o2, zq_o98, zq_o99, zq_o100, zq_o105, zq_o107, zq_o112, zq_o115, zq_o116, zq_c0, zq_c1, zq_v0, zq_v1, decide_eq_true_eq, List.toList_toArray, if_true, if_false, ite_self, and_true, true_and, and_false, false_and, true_or, or_true, or_false, false_or, not_true_eq_false, not_false_eq_true, Bool.false_eq_true, reduceCtorEq, ne_eq, ite_not, eq_self, Prod.mk.injEq, Nat.reduceEqDiff, Nat.reduceSub, Nat.reduceAdd, Nat.reduceLT, Nat.reduceLeDiff, zb_118_0, zc_118_0, zb_118_1, zc_118_1, zb_118_2, zc_118_2, zb_118_3, zc_118_3, zf_used, zK_if]
theorem s_m_madeBy {s : Int32} {M : zi_M} : zi_B sc 0 0 119 0 [some (.int s)] [] M K = K (some (.int (zf_made s))) M := by
  simp only [zi_wp_c, zi_wK_if, zi_wK_go, zi_wK_no, zi_wK_b, zi_wK_r, zi_wK_c, zi_cc_i, zi_cc_n, zi_B_if, zi_ifF, zx_nop, zx_iconst, zx_bipush, zx_sipush, zx_lconst, zx_ldc2_w, zx_aconst_null, zx_iload, zx_iload_n, zx_lload, zx_lload_n, zx_aload, zx_aload_n, zx_istore, zx_istore_n, zx_lstore, zx_lstore_n, zx_astore, zx_astore_n, zx_iinc, zx_iadd, zx_isub, zx_imul, zx_iand, zx_ior, zx_ishl, zx_ishr, zx_idiv, zx_irem, zx_ladd, zx_ldiv, zx_lrem, zx_lcmp, zx_i2l, zx_i2b, zx_i2s, zx_pop, zx_dup, zx_dup2, zx_getfield, zx_putfield, zx_getstatic, zx_iaload, zx_iastore, zx_laload, zx_lastore, zx_aaload, zx_arraylength, zx_goto, zx_ifCond, zx_if_icmp, zx_ifnull, zx_ifnonnull, zx_tableswitch, zx_lookupswitch, zx_ireturn, zx_lreturn, zx_areturn, zx_return_, zx_invokestatic, zx_invokevirtual, zi_ldi, zi_ldl, zi_lda, zi_sti, zi_stl, zi_sta, zi_inc, zi_b2, zi_d2, zi_l2, zi_dl2, zi_lc, zi_u1, zi_pp, zi_dup, zi_dup2, zi_gf, zi_pf, zi_ial, zi_ias, zi_lal, zi_las, zi_aal, zi_aln, zi_cp, zi_cmp, zi_if, zi_ic, zi_nul, zi_nnl, zi_sw, zi_ri, zi_rl, zi_ra, zi_rv, zi_iv, zi_ivr, zi_st1, zi_st2, zq_get0, zq_getS, zq_getN, zq_put0, zq_putS, zq_putN0, zq_putNS, zq_kl0, zq_klS, zq_Ln, zq_Li, zq_Lr, zq_Lf, zq_Lz, zq_Ll, zq_ft0, zq_fti, zq_ftr, zq_ftz, zq_ftf, zq_ftl, zq_pop0, zq_popS, zq_la0, zq_lai, zq_lar, zq_laz, zq_laf, zq_lal, zq_sh0, zq_sh1, zq_sh2, zq_sh3, zq_sh4, zq_f0, zq_f1, zq_f2, zq_f3, zq_u0, zq_u1, zq_u2, zq_ro0, zq_ro1, zq_ro2, zq_fv0, zq_fv2, zq_rfs, zq_rfn, zq_gD0, zq_gDS, zq_gDN, zq_lk0, zq_lkS, zq_tb0, zq_tbS, zq_o0, zq_o1, zq_o2, zq_o98, zq_o99, zq_o100, zq_o105, zq_o107, zq_o112, zq_o115, zq_o116, zq_c0, zq_c1, zq_v0, zq_v1, decide_eq_true_eq, List.toList_toArray, if_true, if_false, ite_self, and_true, true_and, and_false, false_and, true_or, or_true, or_false, false_or, not_true_eq_false, not_false_eq_true, Bool.false_eq_true, reduceCtorEq, ne_eq, ite_not, eq_self, Prod.mk.injEq, Nat.reduceEqDiff, Nat.reduceSub, Nat.reduceAdd, Nat.reduceLT, Nat.reduceLeDiff, zb_119_0, zc_119_0, zb_119_1, zc_119_1, zb_119_2, zc_119_2, zb_119_3, zc_119_3, zf_made, zK_if]
theorem s_m_within {v a b : Int32} {M : zi_M} : zi_B sc 0 0 111 0 [some (.int v), some (.int a), some (.int b)] [] M K = K (some (.int (if v < a then 0 else if b < v then 0 else 1))) M := by
  simp only [zi_wp_c, zi_wK_if, zi_wK_go, zi_wK_no, zi_wK_b, zi_wK_r, zi_wK_c, zi_cc_i, zi_cc_n, zi_B_if, zi_ifF, zx_nop, zx_iconst, zx_bipush, zx_sipush, zx_lconst, zx_ldc2_w, zx_aconst_null, zx_iload, zx_iload_n, zx_lload, zx_lload_n, zx_aload, zx_aload_n, zx_istore, zx_istore_n, zx_lstore, zx_lstore_n, zx_astore, zx_astore_n, zx_iinc, zx_iadd, zx_isub, zx_imul, zx_iand, zx_ior, zx_ishl, zx_ishr, zx_idiv, zx_irem, zx_ladd, zx_ldiv, zx_lrem, zx_lcmp, zx_i2l, zx_i2b, zx_i2s, zx_pop, zx_dup, zx_dup2, zx_getfield, zx_putfield, zx_getstatic, zx_iaload, zx_iastore, zx_laload, zx_lastore, zx_aaload, zx_arraylength, zx_goto, zx_ifCond, zx_if_icmp, zx_ifnull, zx_ifnonnull, zx_tableswitch, zx_lookupswitch, zx_ireturn, zx_lreturn, zx_areturn, zx_return_, zx_invokestatic, zx_invokevirtual, zi_ldi, zi_ldl, zi_lda, zi_sti, zi_stl, zi_sta, zi_inc, zi_b2, zi_d2, zi_l2, zi_dl2, zi_lc, zi_u1, zi_pp, zi_dup, zi_dup2, zi_gf, zi_pf, zi_ial, zi_ias, zi_lal, zi_las, zi_aal, zi_aln, zi_cp, zi_cmp, zi_if, zi_ic, zi_nul, zi_nnl, zi_sw, zi_ri, zi_rl, zi_ra, zi_rv, zi_iv, zi_ivr, zi_st1, zi_st2, zq_get0, zq_getS, zq_getN, zq_put0, zq_putS, zq_putN0, zq_putNS, zq_kl0, zq_klS, zq_Ln, zq_Li, zq_Lr, zq_Lf, zq_Lz, zq_Ll, zq_ft0, zq_fti, zq_ftr, zq_ftz, zq_ftf, zq_ftl, zq_pop0, zq_popS, zq_la0, zq_lai, zq_lar, zq_laz, zq_laf, zq_lal, zq_sh0, zq_sh1, zq_sh2, zq_sh3, zq_sh4, zq_f0, zq_f1, zq_f2, zq_f3, zq_u0, zq_u1, zq_u2, zq_ro0, zq_ro1, zq_ro2, zq_fv0, zq_fv2, zq_rfs, zq_rfn, zq_gD0, zq_gDS, zq_gDN, zq_lk0, zq_lkS, zq_tb0, zq_tbS, zq_o0, zq_o1, zq_o2, zq_o98, zq_o99, zq_o100, zq_o105, zq_o107, zq_o112, zq_o115, zq_o116, zq_c0, zq_c1, zq_v0, zq_v1, decide_eq_true_eq, List.toList_toArray, if_true, if_false, ite_self, and_true, true_and, and_false, false_and, true_or, or_true, or_false, false_or, not_true_eq_false, not_false_eq_true, Bool.false_eq_true, reduceCtorEq, ne_eq, ite_not, eq_self, Prod.mk.injEq, Nat.reduceEqDiff, Nat.reduceSub, Nat.reduceAdd, Nat.reduceLT, Nat.reduceLeDiff, zb_111_0, zc_111_0, zb_111_1, zc_111_1, zb_111_2, zc_111_2, zK_if]
theorem zused_nI {s : Nat} (h : s < 5) : zf_used (nI s) = nI (zusN s) := by
  match s, h with
  | 0, _ => rfl
  | 1, _ => rfl
  | 2, _ => rfl
  | 3, _ => rfl
  | 4, _ => rfl
theorem zmade_nI {s : Nat} (h : s < 5) : zf_made (nI s) = nI (zmkN s) := by
  match s, h with
  | 0, _ => rfl
  | 1, _ => rfl
  | 2, _ => rfl
  | 3, _ => rfl
  | 4, _ => rfl
theorem l_m_co {A L f n : Nat} {sg : Nat → Nat} {b : Int32} (hA : zMT A = (1, 0, L)) (hL : f + n ≤ L) (hL2 : L ≤ 1000) (hn : n ≤ 30) (hs : ∀ i, i < n → I A (f + i) = nI (sg i) ∧ sg i < 5) : ∀ d i, i + d = n → zi_B sc 0 0 127 1 [some (.int b), some (.ref A), some (.int (nI f)), some (.int (nI n)), some (.int (nI (zuS sg i))), some (.int (nI (zmS sg i))), some (.int (nI (f + i)))] [] (zm I J) K = zi_B sc 0 0 127 2 [some (.int b), some (.ref A), some (.int (nI f)), some (.int (nI n)), some (.int (nI (zuS sg n))), some (.int (nI (zmS sg n))), some (.int (nI (f + n)))] [] (zm I J) K := by
  intro d
  induction d with
  | zero =>
    intro i hi
    have : i = n := by omega
    subst this
    rw [zb_127_1]
    simp only [zi_wp_c, zi_wK_if, zi_wK_go, zi_wK_no, zi_wK_b, zi_wK_r, zi_wK_c, zi_cc_i, zi_cc_n, zi_B_if, zi_ifF, zx_nop, zx_iconst, zx_bipush, zx_sipush, zx_lconst, zx_ldc2_w, zx_aconst_null, zx_iload, zx_iload_n, zx_lload, zx_lload_n, zx_aload, zx_aload_n, zx_istore, zx_istore_n, zx_lstore, zx_lstore_n, zx_astore, zx_astore_n, zx_iinc, zx_iadd, zx_isub, zx_imul, zx_iand, zx_ior, zx_ishl, zx_ishr, zx_idiv, zx_irem, zx_ladd, zx_ldiv, zx_lrem, zx_lcmp, zx_i2l, zx_i2b, zx_i2s, zx_pop, zx_dup, zx_dup2, zx_getfield, zx_putfield, zx_getstatic, zx_iaload, zx_iastore, zx_laload, zx_lastore, zx_aaload, zx_arraylength, zx_goto, zx_ifCond, zx_if_icmp, zx_ifnull, zx_ifnonnull, zx_tableswitch, zx_lookupswitch, zx_ireturn, zx_lreturn, zx_areturn, zx_return_, zx_invokestatic, zx_invokevirtual, zi_ldi, zi_ldl, zi_lda, zi_sti, zi_stl, zi_sta, zi_inc, zi_b2, zi_d2, zi_l2, zi_dl2, zi_lc, zi_u1, zi_pp, zi_dup, zi_dup2, zi_gf, zi_pf, zi_ial, zi_ias, zi_lal, zi_las, zi_aal, zi_aln, zi_cp, zi_cmp, zi_if, zi_ic, zi_nul, zi_nnl, zi_sw, zi_ri, zi_rl, zi_ra, zi_rv, zi_iv, zi_ivr, zi_st1, zi_st2, zq_get0, zq_getS, zq_getN, zq_put0, zq_putS, zq_putN0, zq_putNS, zq_kl0, zq_klS, zq_Ln, zq_Li, zq_Lr, zq_Lf, zq_Lz, zq_Ll, zq_ft0, zq_fti, zq_ftr, zq_ftz, zq_ftf, zq_ftl, zq_pop0, zq_popS, zq_la0, zq_lai, zq_lar, zq_laz, zq_laf, zq_lal, zq_sh0, zq_sh1, zq_sh2, zq_sh3, zq_sh4, zq_f0, zq_f1, zq_f2, zq_f3, zq_u0, zq_u1, zq_u2, zq_ro0, zq_ro1, zq_ro2, zq_fv0, zq_fv2, zq_rfs, zq_rfn, zq_gD0, zq_gDS, zq_gDN, zq_lk0, zq_lkS, zq_tb0, zq_tbS, zq_o0, zq_o1, zq_o2, zq_o98, zq_o99, zq_o100, zq_o105, zq_o107, zq_o112, zq_o115, zq_o116, zq_c0, zq_c1, zq_v0, zq_v1, decide_eq_true_eq, List.toList_toArray, if_true, if_false, ite_self, and_true, true_and, and_false, false_and, true_or, or_true, or_false, false_or, not_true_eq_false, not_false_eq_true, Bool.false_eq_true, reduceCtorEq, ne_eq, ite_not, eq_self, Prod.mk.injEq, Nat.reduceEqDiff, Nat.reduceSub, Nat.reduceAdd, Nat.reduceLT, Nat.reduceLeDiff, zc_127_1, nI_add]
    rw [if_pos (by (simp only [zt_eq, Int32.lt_iff_toInt_lt, Int32.le_iff_toInt_le, zt_add, zt_sub, zt_neg, zt_nI, zl_0, zl_1, zl_2, zl_3, zl_4, zl_5, zl_6, zl_7, zl_8, zl_9, zl_10, zl_16, zl_20, zl_30, zl_60, zl_1080, zl_m1, zl_m2, zl_m9]; omega))]
  | succ d ih =>
    intro i hi
    obtain ⟨g1, g2⟩ := hs i (by omega)
    have e1 : (nI (f + i)).toNatClampNeg = f + i := nI_clamp (by omega)
    have hv : zi_vin (nI (f + i)) L = true := zv_nI (by omega) (by omega)
    rw [zb_127_1]
    simp only [zi_wp_c, zi_wK_if, zi_wK_go, zi_wK_no, zi_wK_b, zi_wK_r, zi_wK_c, zi_cc_i, zi_cc_n, zi_B_if, zi_ifF, zx_nop, zx_iconst, zx_bipush, zx_sipush, zx_lconst, zx_ldc2_w, zx_aconst_null, zx_iload, zx_iload_n, zx_lload, zx_lload_n, zx_aload, zx_aload_n, zx_istore, zx_istore_n, zx_lstore, zx_lstore_n, zx_astore, zx_astore_n, zx_iinc, zx_iadd, zx_isub, zx_imul, zx_iand, zx_ior, zx_ishl, zx_ishr, zx_idiv, zx_irem, zx_ladd, zx_ldiv, zx_lrem, zx_lcmp, zx_i2l, zx_i2b, zx_i2s, zx_pop, zx_dup, zx_dup2, zx_getfield, zx_putfield, zx_getstatic, zx_iaload, zx_iastore, zx_laload, zx_lastore, zx_aaload, zx_arraylength, zx_goto, zx_ifCond, zx_if_icmp, zx_ifnull, zx_ifnonnull, zx_tableswitch, zx_lookupswitch, zx_ireturn, zx_lreturn, zx_areturn, zx_return_, zx_invokestatic, zx_invokevirtual, zi_ldi, zi_ldl, zi_lda, zi_sti, zi_stl, zi_sta, zi_inc, zi_b2, zi_d2, zi_l2, zi_dl2, zi_lc, zi_u1, zi_pp, zi_dup, zi_dup2, zi_gf, zi_pf, zi_ial, zi_ias, zi_lal, zi_las, zi_aal, zi_aln, zi_cp, zi_cmp, zi_if, zi_ic, zi_nul, zi_nnl, zi_sw, zi_ri, zi_rl, zi_ra, zi_rv, zi_iv, zi_ivr, zi_st1, zi_st2, zq_get0, zq_getS, zq_getN, zq_put0, zq_putS, zq_putN0, zq_putNS, zq_kl0, zq_klS, zq_Ln, zq_Li, zq_Lr, zq_Lf, zq_Lz, zq_Ll, zq_ft0, zq_fti, zq_ftr, zq_ftz, zq_ftf, zq_ftl, zq_pop0, zq_popS, zq_la0, zq_lai, zq_lar, zq_laz, zq_laf, zq_lal, zq_sh0, zq_sh1, zq_sh2, zq_sh3, zq_sh4, zq_f0, zq_f1, zq_f2, zq_f3, zq_u0, zq_u1, zq_u2, zq_ro0, zq_ro1, zq_ro2, zq_fv0, zq_fv2, zq_rfs, zq_rfn, zq_gD0, zq_gDS, zq_gDN, zq_lk0, zq_lkS, zq_tb0, zq_tbS, zq_o0, zq_o1, zq_o2, zq_o98, zq_o99, zq_o100, zq_o105, zq_o107, zq_o112, zq_o115, zq_o116, zq_c0, zq_c1, zq_v0, zq_v1, decide_eq_true_eq, List.toList_toArray, if_true, if_false, ite_self, and_true, true_and, and_false, false_and, true_or, or_true, or_false, false_or, not_true_eq_false, not_false_eq_true, Bool.false_eq_true, reduceCtorEq, ne_eq, ite_not, eq_self, Prod.mk.injEq, Nat.reduceEqDiff, Nat.reduceSub, Nat.reduceAdd, Nat.reduceLT, Nat.reduceLeDiff, hA, zc_127_1, e1, g1, hv, s_m_usedBy, s_m_madeBy, zused_nI g2, zmade_nI g2, nI_add]
    rw [if_neg (by (simp only [zt_eq, Int32.lt_iff_toInt_lt, Int32.le_iff_toInt_le, zt_add, zt_sub, zt_neg, zt_nI, zl_0, zl_1, zl_2, zl_3, zl_4, zl_5, zl_6, zl_7, zl_8, zl_9, zl_10, zl_16, zl_20, zl_30, zl_60, zl_1080, zl_m1, zl_m2, zl_m9]; omega)), show nI (f + i) + 1 = nI (f + (i + 1)) from nI_1 _]
    exact ih (i + 1) (by omega)
theorem s_m_co {A L f n b : Nat} {sg : Nat → Nat} (hA : zMT A = (1, 0, L)) (hL : f + n ≤ L) (hL2 : L ≤ 1000) (hn : n ≤ 30) (hs : ∀ i, i < n → I A (f + i) = nI (sg i) ∧ sg i < 5) (hb : b ≤ 60) : zi_B sc 0 0 127 0 [some (.int (nI b)), some (.ref A), some (.int (nI f)), some (.int (nI n))] [] (zm I J) K = K (some (.int (if zco b (zuS sg n) (zmS sg n) = 0 then -9 else nI (zco b (zuS sg n) (zmS sg n))))) (zm I J) := by
  have hu := zuS_le sg n
  have hm := zmS_le sg n
  have h0 := l_m_co (sc := sc) (J := J) (K := K) (b := nI b) hA hL hL2 hn hs n 0 (by omega)
  simp only [zi_wp_c, zi_wK_if, zi_wK_go, zi_wK_no, zi_wK_b, zi_wK_r, zi_wK_c, zi_cc_i, zi_cc_n, zi_B_if, zi_ifF, zx_nop, zx_iconst, zx_bipush, zx_sipush, zx_lconst, zx_ldc2_w, zx_aconst_null, zx_iload, zx_iload_n, zx_lload, zx_lload_n, zx_aload, zx_aload_n, zx_istore, zx_istore_n, zx_lstore, zx_lstore_n, zx_astore, zx_astore_n, zx_iinc, zx_iadd, zx_isub, zx_imul, zx_iand, zx_ior, zx_ishl, zx_ishr, zx_idiv, zx_irem, zx_ladd, zx_ldiv, zx_lrem, zx_lcmp, zx_i2l, zx_i2b, zx_i2s, zx_pop, zx_dup, zx_dup2, zx_getfield, zx_putfield, zx_getstatic, zx_iaload, zx_iastore, zx_laload, zx_lastore, zx_aaload, zx_arraylength, zx_goto, zx_ifCond, zx_if_icmp, zx_ifnull, zx_ifnonnull, zx_tableswitch, zx_lookupswitch, zx_ireturn, zx_lreturn, zx_areturn, zx_return_, zx_invokestatic, zx_invokevirtual, zi_ldi, zi_ldl, zi_lda, zi_sti, zi_stl, zi_sta, zi_inc, zi_b2, zi_d2, zi_l2, zi_dl2, zi_lc, zi_u1, zi_pp, zi_dup, zi_dup2, zi_gf, zi_pf, zi_ial, zi_ias, zi_lal, zi_las, zi_aal, zi_aln, zi_cp, zi_cmp, zi_if, zi_ic, zi_nul, zi_nnl, zi_sw, zi_ri, zi_rl, zi_ra, zi_rv, zi_iv, zi_ivr, zi_st1, zi_st2, zq_get0, zq_getS, zq_getN, zq_put0, zq_putS, zq_putN0, zq_putNS, zq_kl0, zq_klS, zq_Ln, zq_Li, zq_Lr, zq_Lf, zq_Lz, zq_Ll, zq_ft0, zq_fti, zq_ftr, zq_ftz, zq_ftf, zq_ftl, zq_pop0, zq_popS, zq_la0, zq_lai, zq_lar, zq_laz, zq_laf, zq_lal, zq_sh0, zq_sh1, zq_sh2, zq_sh3, zq_sh4, zq_f0, zq_f1, zq_f2, zq_f3, zq_u0, zq_u1, zq_u2, zq_ro0, zq_ro1, zq_ro2, zq_fv0, zq_fv2, zq_rfs, zq_rfn, zq_gD0, zq_gDS, zq_gDN, zq_lk0, zq_lkS, zq_tb0, zq_tbS, zq_o0, zq_o1, zq_o2, zq_o98, zq_o99, zq_o100, zq_o105, zq_o107, zq_o112, zq_o115, zq_o116, zq_c0, zq_c1, zq_v0, zq_v1, decide_eq_true_eq, List.toList_toArray, if_true, if_false, ite_self, and_true, true_and, and_false, false_and, true_or, or_true, or_false, false_or, not_true_eq_false, not_false_eq_true, Bool.false_eq_true, reduceCtorEq, ne_eq, ite_not, eq_self, Prod.mk.injEq, Nat.reduceEqDiff, Nat.reduceSub, Nat.reduceAdd, Nat.reduceLT, Nat.reduceLeDiff, zb_127_0, zc_127_0]
  refine Eq.trans h0 ?_
  have hq := zmulb (b := b) (u := zuS sg n) (m := zmS sg n) hb (by omega)
  generalize zuS sg n = u at hu hq ⊢
  generalize zmS sg n = w at hm hq ⊢
  by_cases c1 : u = 0
  · subst c1
    simp only [zi_wp_c, zi_wK_if, zi_wK_go, zi_wK_no, zi_wK_b, zi_wK_r, zi_wK_c, zi_cc_i, zi_cc_n, zi_B_if, zi_ifF, zx_nop, zx_iconst, zx_bipush, zx_sipush, zx_lconst, zx_ldc2_w, zx_aconst_null, zx_iload, zx_iload_n, zx_lload, zx_lload_n, zx_aload, zx_aload_n, zx_istore, zx_istore_n, zx_lstore, zx_lstore_n, zx_astore, zx_astore_n, zx_iinc, zx_iadd, zx_isub, zx_imul, zx_iand, zx_ior, zx_ishl, zx_ishr, zx_idiv, zx_irem, zx_ladd, zx_ldiv, zx_lrem, zx_lcmp, zx_i2l, zx_i2b, zx_i2s, zx_pop, zx_dup, zx_dup2, zx_getfield, zx_putfield, zx_getstatic, zx_iaload, zx_iastore, zx_laload, zx_lastore, zx_aaload, zx_arraylength, zx_goto, zx_ifCond, zx_if_icmp, zx_ifnull, zx_ifnonnull, zx_tableswitch, zx_lookupswitch, zx_ireturn, zx_lreturn, zx_areturn, zx_return_, zx_invokestatic, zx_invokevirtual, zi_ldi, zi_ldl, zi_lda, zi_sti, zi_stl, zi_sta, zi_inc, zi_b2, zi_d2, zi_l2, zi_dl2, zi_lc, zi_u1, zi_pp, zi_dup, zi_dup2, zi_gf, zi_pf, zi_ial, zi_ias, zi_lal, zi_las, zi_aal, zi_aln, zi_cp, zi_cmp, zi_if, zi_ic, zi_nul, zi_nnl, zi_sw, zi_ri, zi_rl, zi_ra, zi_rv, zi_iv, zi_ivr, zi_st1, zi_st2, zq_get0, zq_getS, zq_getN, zq_put0, zq_putS, zq_putN0, zq_putNS, zq_kl0, zq_klS, zq_Ln, zq_Li, zq_Lr, zq_Lf, zq_Lz, zq_Ll, zq_ft0, zq_fti, zq_ftr, zq_ftz, zq_ftf, zq_ftl, zq_pop0, zq_popS, zq_la0, zq_lai, zq_lar, zq_laz, zq_laf, zq_lal, zq_sh0, zq_sh1, zq_sh2, zq_sh3, zq_sh4, zq_f0, zq_f1, zq_f2, zq_f3, zq_u0, zq_u1, zq_u2, zq_ro0, zq_ro1, zq_ro2, zq_fv0, zq_fv2, zq_rfs, zq_rfn, zq_gD0, zq_gDS, zq_gDN, zq_lk0, zq_lkS, zq_tb0, zq_tbS, zq_o0, zq_o1, zq_o2, zq_o98, zq_o99, zq_o100, zq_o105, zq_o107, zq_o112, zq_o115, zq_o116, zq_c0, zq_c1, zq_v0, zq_v1, decide_eq_true_eq, List.toList_toArray, if_true, if_false, ite_self, and_true, true_and, and_false, false_and, true_or, or_true, or_false, false_or, not_true_eq_false, not_false_eq_true, Bool.false_eq_true, reduceCtorEq, ne_eq, ite_not, eq_self, Prod.mk.injEq, Nat.reduceEqDiff, Nat.reduceSub, Nat.reduceAdd, Nat.reduceLT, Nat.reduceLeDiff, zb_127_2, zc_127_2, zb_127_3, zc_127_3, zb_127_4, zc_127_4, zb_127_5, zc_127_5, zb_127_6, zc_127_6, s_m_within]
    rw [if_pos (show nI 0 = 0 from rfl), if_pos (show zco b 0 w = 0 from rfl)]
  · have n1 : ¬ nI u = 0 := nI_ne0 (by omega) (by omega)
    have e2 : nI b / nI u = nI (b / u) := pk_div (by omega) (by omega) (by omega)
    have e1 : nI b - nI b / nI u * nI u = nI (b % u) := pk_rem (by omega) (by omega) (by omega)
    have hbu : b % u < u := Nat.mod_lt _ (by omega)
    simp only [zi_wp_c, zi_wK_if, zi_wK_go, zi_wK_no, zi_wK_b, zi_wK_r, zi_wK_c, zi_cc_i, zi_cc_n, zi_B_if, zi_ifF, zx_nop, zx_iconst, zx_bipush, zx_sipush, zx_lconst, zx_ldc2_w, zx_aconst_null, zx_iload, zx_iload_n, zx_lload, zx_lload_n, zx_aload, zx_aload_n, zx_istore, zx_istore_n, zx_lstore, zx_lstore_n, zx_astore, zx_astore_n, zx_iinc, zx_iadd, zx_isub, zx_imul, zx_iand, zx_ior, zx_ishl, zx_ishr, zx_idiv, zx_irem, zx_ladd, zx_ldiv, zx_lrem, zx_lcmp, zx_i2l, zx_i2b, zx_i2s, zx_pop, zx_dup, zx_dup2, zx_getfield, zx_putfield, zx_getstatic, zx_iaload, zx_iastore, zx_laload, zx_lastore, zx_aaload, zx_arraylength, zx_goto, zx_ifCond, zx_if_icmp, zx_ifnull, zx_ifnonnull, zx_tableswitch, zx_lookupswitch, zx_ireturn, zx_lreturn, zx_areturn, zx_return_, zx_invokestatic, zx_invokevirtual, zi_ldi, zi_ldl, zi_lda, zi_sti, zi_stl, zi_sta, zi_inc, zi_b2, zi_d2, zi_l2, zi_dl2, zi_lc, zi_u1, zi_pp, zi_dup, zi_dup2, zi_gf, zi_pf, zi_ial, zi_ias, zi_lal, zi_las, zi_aal, zi_aln, zi_cp, zi_cmp, zi_if, zi_ic, zi_nul, zi_nnl, zi_sw, zi_ri, zi_rl, zi_ra, zi_rv, zi_iv, zi_ivr, zi_st1, zi_st2, zq_get0, zq_getS, zq_getN, zq_put0, zq_putS, zq_putN0, zq_putNS, zq_kl0, zq_klS, zq_Ln, zq_Li, zq_Lr, zq_Lf, zq_Lz, zq_Ll, zq_ft0, zq_fti, zq_ftr, zq_ftz, zq_ftf, zq_ftl, zq_pop0, zq_popS, zq_la0, zq_lai, zq_lar, zq_laz, zq_laf, zq_lal, zq_sh0, zq_sh1, zq_sh2, zq_sh3, zq_sh4, zq_f0, zq_f1, zq_f2, zq_f3, zq_u0, zq_u1, zq_u2, zq_ro0, zq_ro1, zq_ro2, zq_fv0, zq_fv2, zq_rfs, zq_rfn, zq_gD0, zq_gDS, zq_gDN, zq_lk0, zq_lkS, zq_tb0, zq_tbS, zq_o0, zq_o1, zq_o2, zq_o98, zq_o99, zq_o100, zq_o105, zq_o107, zq_o112, zq_o115, zq_o116, zq_c0, zq_c1, zq_v0, zq_v1, decide_eq_true_eq, List.toList_toArray, if_true, if_false, ite_self, and_true, true_and, and_false, false_and, true_or, or_true, or_false, false_or, not_true_eq_false, not_false_eq_true, Bool.false_eq_true, reduceCtorEq, ne_eq, ite_not, eq_self, Prod.mk.injEq, Nat.reduceEqDiff, Nat.reduceSub, Nat.reduceAdd, Nat.reduceLT, Nat.reduceLeDiff, zb_127_2, zc_127_2, zb_127_3, zc_127_3, zb_127_4, zc_127_4, zb_127_5, zc_127_5, zb_127_6, zc_127_6, s_m_within, n1, e1]
    simp only [e2, pk_mul]
    unfold zco
    by_cases c2 : b % u = 0
    · rw [if_pos (show nI (b % u) = 0 by rw [c2]; rfl), if_neg (show ¬ (u = 0 ∨ b % u ≠ 0) by omega)]
      by_cases c3 : b / u * w < 1
      · rw [if_pos (show nI (b / u * w) < 1 by (simp only [zt_eq, Int32.lt_iff_toInt_lt, Int32.le_iff_toInt_le, zt_add, zt_sub, zt_neg, zt_nI, zl_0, zl_1, zl_2, zl_3, zl_4, zl_5, zl_6, zl_7, zl_8, zl_9, zl_10, zl_16, zl_20, zl_30, zl_60, zl_1080, zl_m1, zl_m2, zl_m9]; omega)), if_pos rfl, if_neg (show ¬ 60 < b / u * w by omega), if_pos (show b / u * w = 0 by omega)]
      · rw [if_neg (show ¬ nI (b / u * w) < 1 by (simp only [zt_eq, Int32.lt_iff_toInt_lt, Int32.le_iff_toInt_le, zt_add, zt_sub, zt_neg, zt_nI, zl_0, zl_1, zl_2, zl_3, zl_4, zl_5, zl_6, zl_7, zl_8, zl_9, zl_10, zl_16, zl_20, zl_30, zl_60, zl_1080, zl_m1, zl_m2, zl_m9]; omega))]
        by_cases c4 : 60 < b / u * w
        · rw [if_pos (show (60 : Int32) < nI (b / u * w) by (simp only [zt_eq, Int32.lt_iff_toInt_lt, Int32.le_iff_toInt_le, zt_add, zt_sub, zt_neg, zt_nI, zl_0, zl_1, zl_2, zl_3, zl_4, zl_5, zl_6, zl_7, zl_8, zl_9, zl_10, zl_16, zl_20, zl_30, zl_60, zl_1080, zl_m1, zl_m2, zl_m9]; omega)), if_pos rfl, if_pos c4, if_pos rfl]
        · rw [if_neg (show ¬ (60 : Int32) < nI (b / u * w) by (simp only [zt_eq, Int32.lt_iff_toInt_lt, Int32.le_iff_toInt_le, zt_add, zt_sub, zt_neg, zt_nI, zl_0, zl_1, zl_2, zl_3, zl_4, zl_5, zl_6, zl_7, zl_8, zl_9, zl_10, zl_16, zl_20, zl_30, zl_60, zl_1080, zl_m1, zl_m2, zl_m9]; omega)), if_neg (show ¬ (1 : Int32) = 0 by decide), if_neg c4, if_neg (show ¬ b / u * w = 0 by omega)]
    · rw [if_neg (nI_ne0 (show 0 < b % u by omega) (by omega)), if_pos (Or.inr c2), if_pos rfl]
end ZC
end
section
/-! a PIECE's methods -/
def zlp (ring : Nat) (rd : Nat → zRt) : Nat → Nat
  | 0 => ring
  | r + 1 => zco (zlp ring rd r) (zuR (rd r)) (zmR (rd r))
theorem zco_le (b u m : Nat) : zco b u m ≤ 60 := by unfold zco; split <;> (try split) <;> omega
theorem zlp_le {ring : Nat} (h : ring ≤ 60) (rd : Nat → zRt) : ∀ r, zlp ring rd r ≤ 60
  | 0 => h
  | r + 1 => zco_le _ _ _
/-- a piece without its rounds' loops -/
def zPs (I : Nat → Nat → Int32) (p ring n : Nat) (rd : Nat → zRt) : Prop := (I p 1 = nI ring ∧ I p 2 = nI n) ∧ (ring ≤ 60 ∧ n ≤ 6) ∧ ∀ r, r < n → zRv I (p + 2 + 2 * r) (rd r)
def zPl (I : Nat → Nat → Int32) (p ring n : Nat) (rd : Nat → zRt) : Prop := ∀ r, r < n → I (p + 2 + 2 * r) 5 = nI (zlp ring rd (r + 1)) ∧ I (p + 2 + 2 * r) 4 = nI (zlp ring rd r / zuR (rd r))
/-- the number in 'loops of ROUND k' -/
def zli (I : Nat → Nat → Int32) (p : Nat) : Nat → Int32
  | 0 => I p 1
  | j + 1 => I (p + 2 + 2 * j) 5
theorem zli_lp {I : Nat → Nat → Int32} {p ring n : Nat} {rd : Nat → zRt} (h : zPs I p ring n rd) (hl : zPl I p ring n rd) {k : Nat} (hk : k ≤ n) : zli I p k = nI (zlp ring rd k) := by
  cases k with
  | zero => exact h.1.1
  | succ k => exact (hl k (by omega)).1
theorem zRv.kept {I I' : Nat → Nat → Int32} {q : Nat} {x : zRt} (h : zRv I q x) (h1 : I' q 0 = I q 0 ∧ I' q 1 = I q 1 ∧ I' q 2 = I q 2) (h2 : ∀ i, i < 5 → I' (q + 1) i = I (q + 1) i) : zRv I' q x := by
  obtain ⟨a, b, c, d, e⟩ := h
  exact ⟨h1.1.trans a, h1.2.1.trans b, h1.2.2.trans c, d, fun i hi => by rw [h2 i (by omega)]; exact e i hi⟩
theorem zRv.req {I I' : Nat → Nat → Int32} {o q : Nat} {x : zRt} (h : zRv I o x) (hr : zReq I o I' q) : zRv I' q x := by
  obtain ⟨a, b, c, d, e⟩ := h
  obtain ⟨r0, r1, r2, r4, r5, r6⟩ := hr
  exact ⟨r0.trans a, r1.trans b, r2.trans c, d, fun i hi => by rw [r6 i (by omega)]; exact e i hi⟩
theorem zPs.kept {I I' : Nat → Nat → Int32} {p ring n : Nat} {rd : Nat → zRt} (h : zPs I p ring n rd) (hk : ∀ a, p ≤ a → a < p + 14 → I' a = I a) : zPs I' p ring n rd := by
  obtain ⟨⟨a, b⟩, ⟨c, d⟩, e⟩ := h
  refine ⟨⟨by rw [hk p (by omega) (by omega)]; exact a, by rw [hk p (by omega) (by omega)]; exact b⟩, ⟨c, d⟩, fun r hr => (e r hr).kept ⟨?_, ?_, ?_⟩ (fun i _ => ?_)⟩
  all_goals rw [hk _ (by omega) (by omega)]
theorem zPl.kept {I I' : Nat → Nat → Int32} {p ring n : Nat} {rd : Nat → zRt} (h : zPl I p ring n rd) (hn : n ≤ 6) (hk : ∀ a, p ≤ a → a < p + 14 → I' a = I a) : zPl I' p ring n rd := fun r hr => by
  rw [hk _ (by omega) (by omega)]
  exact h r hr
section ZP
variable {sc : Nat × (Nat → Int32)} {I : Nat → Nat → Int32} {J : Nat → Nat → Int64} {K : Option Value → zi_M → Prop} {p : Nat}
theorem s_P_has (hp : zIsP p) {r : Int32} : zi_B sc 0 0 15 0 [some (.ref p), some (.int r)] [] (zm I J) K = K (some (.int (if I p 0 = 0 then 0 else if r < 0 then 0 else if I p 2 < r then 0 else 1))) (zm I J) := by
  have h1 := hp.1
  simp only [zi_wp_c, zi_wK_if, zi_wK_go, zi_wK_no, zi_wK_b, zi_wK_r, zi_wK_c, zi_cc_i, zi_cc_n, zi_B_if, zi_ifF, zx_nop, zx_iconst, zx_bipush, zx_sipush, zx_lconst, zx_ldc2_w, zx_aconst_null, zx_iload, zx_iload_n, zx_lload, zx_lload_n, zx_aload, zx_aload_n, zx_istore, zx_istore_n, zx_lstore, zx_lstore_n, zx_astore, zx_astore_n, zx_iinc, zx_iadd, zx_isub, zx_imul, zx_iand, zx_ior, zx_ishl, zx_ishr, zx_idiv, zx_irem, zx_ladd, zx_ldiv, zx_lrem, zx_lcmp, zx_i2l, zx_i2b, zx_i2s, zx_pop, zx_dup, zx_dup2, zx_getfield, zx_putfield, zx_getstatic, zx_iaload, zx_iastore, zx_laload, zx_lastore, zx_aaload, zx_arraylength, zx_goto, zx_ifCond, zx_if_icmp, zx_ifnull, zx_ifnonnull, zx_tableswitch, zx_lookupswitch, zx_ireturn, zx_lreturn, zx_areturn, zx_return_, zx_invokestatic, zx_invokevirtual, zi_ldi, zi_ldl, zi_lda, zi_sti, zi_stl, zi_sta, zi_inc, zi_b2, zi_d2, zi_l2, zi_dl2, zi_lc, zi_u1, zi_pp, zi_dup, zi_dup2, zi_gf, zi_pf, zi_ial, zi_ias, zi_lal, zi_las, zi_aal, zi_aln, zi_cp, zi_cmp, zi_if, zi_ic, zi_nul, zi_nnl, zi_sw, zi_ri, zi_rl, zi_ra, zi_rv, zi_iv, zi_ivr, zi_st1, zi_st2, zq_get0, zq_getS, zq_getN, zq_put0, zq_putS, zq_putN0, zq_putNS, zq_kl0, zq_klS, zq_Ln, zq_Li, zq_Lr, zq_Lf, zq_Lz, zq_Ll, zq_ft0, zq_fti, zq_ftr, zq_ftz, zq_ftf, zq_ftl, zq_pop0, zq_popS, zq_la0, zq_lai, zq_lar, zq_laz, zq_laf, zq_lal, zq_sh0, zq_sh1, zq_sh2, zq_sh3, zq_sh4, zq_f0, zq_f1, zq_f2, zq_f3, zq_u0, zq_u1, zq_u2, zq_ro0, zq_ro1, zq_ro2, zq_fv0, zq_fv2, zq_rfs, zq_rfn, zq_gD0, zq_gDS, zq_gDN, zq_lk0, zq_lkS, zq_tb0, zq_tbS, zq_o0, zq_o1, zq_o2, zq_o98, zq_o99, zq_o100, zq_o105, zq_o107, zq_o112, zq_o115, zq_o116, zq_c0, zq_c1, zq_v0, zq_v1, decide_eq_true_eq, List.toList_toArray, if_true, if_false, ite_self, and_true, true_and, and_false, false_and, true_or, or_true, or_false, false_or, not_true_eq_false, not_false_eq_true, Bool.false_eq_true, reduceCtorEq, ne_eq, ite_not, eq_self, Prod.mk.injEq, Nat.reduceEqDiff, Nat.reduceSub, Nat.reduceAdd, Nat.reduceLT, Nat.reduceLeDiff, zb_15_0, zc_15_0, zb_15_1, zc_15_1, zb_15_2, zc_15_2, h1, zK_if]
theorem s_P_at_in (hp : zIsP p) {n k : Nat} (hb : I p 0 = 1) (hn : I p 2 = nI n) (hn6 : n ≤ 6) (hk : 1 ≤ k) (hkn : k ≤ n) : zi_B sc 0 0 16 0 [some (.ref p), some (.int (nI k))] [] (zm I J) K = K (some (.ref (p + 2 * k))) (zm I J) := by
  obtain ⟨h1, h2, h3, h4⟩ := id hp
  have e1 : nI k - 1 = nI (k - 1) := by
    obtain ⟨j, rfl⟩ : ∃ j, k = j + 1 := ⟨k - 1, by omega⟩
    exact nI_pred j
  have e2 : (nI (k - 1)).toNatClampNeg = k - 1 := nI_clamp (by omega)
  have e3 := (h4 (k - 1) (by omega)).1
  have e4 : p + 2 + 2 * (k - 1) = p + 2 * k := by omega
  have c1 : ¬ nI k < 0 := nI_pos (by omega)
  have c2 : ¬ nI n < nI k := by (simp only [zt_eq, Int32.lt_iff_toInt_lt, Int32.le_iff_toInt_le, zt_add, zt_sub, zt_neg, zt_nI, zl_0, zl_1, zl_2, zl_3, zl_4, zl_5, zl_6, zl_7, zl_8, zl_9, zl_10, zl_16, zl_20, zl_30, zl_60, zl_1080, zl_m1, zl_m2, zl_m9]; omega)
  have c3 : ¬ nI k ≤ 0 := by (simp only [zt_eq, Int32.lt_iff_toInt_lt, Int32.le_iff_toInt_le, zt_add, zt_sub, zt_neg, zt_nI, zl_0, zl_1, zl_2, zl_3, zl_4, zl_5, zl_6, zl_7, zl_8, zl_9, zl_10, zl_16, zl_20, zl_30, zl_60, zl_1080, zl_m1, zl_m2, zl_m9]; omega)
  have hv : zi_vin (nI (k - 1)) 6 = true := zv_nI (by omega) (by omega)
  have d1 : ¬ (1 : Int32) = 0 := by decide
  simp only [zi_wp_c, zi_wK_if, zi_wK_go, zi_wK_no, zi_wK_b, zi_wK_r, zi_wK_c, zi_cc_i, zi_cc_n, zi_B_if, zi_ifF, zx_nop, zx_iconst, zx_bipush, zx_sipush, zx_lconst, zx_ldc2_w, zx_aconst_null, zx_iload, zx_iload_n, zx_lload, zx_lload_n, zx_aload, zx_aload_n, zx_istore, zx_istore_n, zx_lstore, zx_lstore_n, zx_astore, zx_astore_n, zx_iinc, zx_iadd, zx_isub, zx_imul, zx_iand, zx_ior, zx_ishl, zx_ishr, zx_idiv, zx_irem, zx_ladd, zx_ldiv, zx_lrem, zx_lcmp, zx_i2l, zx_i2b, zx_i2s, zx_pop, zx_dup, zx_dup2, zx_getfield, zx_putfield, zx_getstatic, zx_iaload, zx_iastore, zx_laload, zx_lastore, zx_aaload, zx_arraylength, zx_goto, zx_ifCond, zx_if_icmp, zx_ifnull, zx_ifnonnull, zx_tableswitch, zx_lookupswitch, zx_ireturn, zx_lreturn, zx_areturn, zx_return_, zx_invokestatic, zx_invokevirtual, zi_ldi, zi_ldl, zi_lda, zi_sti, zi_stl, zi_sta, zi_inc, zi_b2, zi_d2, zi_l2, zi_dl2, zi_lc, zi_u1, zi_pp, zi_dup, zi_dup2, zi_gf, zi_pf, zi_ial, zi_ias, zi_lal, zi_las, zi_aal, zi_aln, zi_cp, zi_cmp, zi_if, zi_ic, zi_nul, zi_nnl, zi_sw, zi_ri, zi_rl, zi_ra, zi_rv, zi_iv, zi_ivr, zi_st1, zi_st2, zq_get0, zq_getS, zq_getN, zq_put0, zq_putS, zq_putN0, zq_putNS, zq_kl0, zq_klS, zq_Ln, zq_Li, zq_Lr, zq_Lf, zq_Lz, zq_Ll, zq_ft0, zq_fti, zq_ftr, zq_ftz, zq_ftf, zq_ftl, zq_pop0, zq_popS, zq_la0, zq_lai, zq_lar, zq_laz, zq_laf, zq_lal, zq_sh0, zq_sh1, zq_sh2, zq_sh3, zq_sh4, zq_f0, zq_f1, zq_f2, zq_f3, zq_u0, zq_u1, zq_u2, zq_ro0, zq_ro1, zq_ro2, zq_fv0, zq_fv2, zq_rfs, zq_rfn, zq_gD0, zq_gDS, zq_gDN, zq_lk0, zq_lkS, zq_tb0, zq_tbS, zq_o0, zq_o1, zq_o2, zq_o98, zq_o99, zq_o100, zq_o105, zq_o107, zq_o112, zq_o115, zq_o116, zq_c0, zq_c1, zq_v0, zq_v1, decide_eq_true_eq, List.toList_toArray, if_true, if_false, ite_self, and_true, true_and, and_false, false_and, true_or, or_true, or_false, false_or, not_true_eq_false, not_false_eq_true, Bool.false_eq_true, reduceCtorEq, ne_eq, ite_not, eq_self, Prod.mk.injEq, Nat.reduceEqDiff, Nat.reduceSub, Nat.reduceAdd, Nat.reduceLT, Nat.reduceLeDiff, zb_16_0, zc_16_0, zb_16_1, zc_16_1, zb_16_2, zc_16_2, h1, h2, h3, s_P_has hp, e1, e2, e3, e4, hb, hn, c1, c2, c3, hv, d1]
theorem s_P_at_out (hp : zIsP p) {r : Int32} (h : I p 0 = 0 ∨ r ≤ 0 ∨ I p 2 < r) : zi_B sc 0 0 16 0 [some (.ref p), some (.int r)] [] (zm I J) K = K (some .null) (zm I J) := by
  have h1 := hp.1
  by_cases c0 : I p 0 = 0
  · simp only [zi_wp_c, zi_wK_if, zi_wK_go, zi_wK_no, zi_wK_b, zi_wK_r, zi_wK_c, zi_cc_i, zi_cc_n, zi_B_if, zi_ifF, zx_nop, zx_iconst, zx_bipush, zx_sipush, zx_lconst, zx_ldc2_w, zx_aconst_null, zx_iload, zx_iload_n, zx_lload, zx_lload_n, zx_aload, zx_aload_n, zx_istore, zx_istore_n, zx_lstore, zx_lstore_n, zx_astore, zx_astore_n, zx_iinc, zx_iadd, zx_isub, zx_imul, zx_iand, zx_ior, zx_ishl, zx_ishr, zx_idiv, zx_irem, zx_ladd, zx_ldiv, zx_lrem, zx_lcmp, zx_i2l, zx_i2b, zx_i2s, zx_pop, zx_dup, zx_dup2, zx_getfield, zx_putfield, zx_getstatic, zx_iaload, zx_iastore, zx_laload, zx_lastore, zx_aaload, zx_arraylength, zx_goto, zx_ifCond, zx_if_icmp, zx_ifnull, zx_ifnonnull, zx_tableswitch, zx_lookupswitch, zx_ireturn, zx_lreturn, zx_areturn, zx_return_, zx_invokestatic, zx_invokevirtual, zi_ldi, zi_ldl, zi_lda, zi_sti, zi_stl, zi_sta, zi_inc, zi_b2, zi_d2, zi_l2, zi_dl2, zi_lc, zi_u1, zi_pp, zi_dup, zi_dup2, zi_gf, zi_pf, zi_ial, zi_ias, zi_lal, zi_las, zi_aal, zi_aln, zi_cp, zi_cmp, zi_if, zi_ic, zi_nul, zi_nnl, zi_sw, zi_ri, zi_rl, zi_ra, zi_rv, zi_iv, zi_ivr, zi_st1, zi_st2, zq_get0, zq_getS, zq_getN, zq_put0, zq_putS, zq_putN0, zq_putNS, zq_kl0, zq_klS, zq_Ln, zq_Li, zq_Lr, zq_Lf, zq_Lz, zq_Ll, zq_ft0, zq_fti, zq_ftr, zq_ftz, zq_ftf, zq_ftl, zq_pop0, zq_popS, zq_la0, zq_lai, zq_lar, zq_laz, zq_laf, zq_lal, zq_sh0, zq_sh1, zq_sh2, zq_sh3, zq_sh4, zq_f0, zq_f1, zq_f2, zq_f3, zq_u0, zq_u1, zq_u2, zq_ro0, zq_ro1, zq_ro2, zq_fv0, zq_fv2, zq_rfs, zq_rfn, zq_gD0, zq_gDS, zq_gDN, zq_lk0, zq_lkS, zq_tb0, zq_tbS, zq_o0, zq_o1, zq_o2, zq_o98, zq_o99, zq_o100, zq_o105, zq_o107, zq_o112, zq_o115, zq_o116, zq_c0, zq_c1, zq_v0, zq_v1, decide_eq_true_eq, List.toList_toArray, if_true, if_false, ite_self, and_true, true_and, and_false, false_and, true_or, or_true, or_false, false_or, not_true_eq_false, not_false_eq_true, Bool.false_eq_true, reduceCtorEq, ne_eq, ite_not, eq_self, Prod.mk.injEq, Nat.reduceEqDiff, Nat.reduceSub, Nat.reduceAdd, Nat.reduceLT, Nat.reduceLeDiff, zb_16_1, zc_16_1, zb_16_2, zc_16_2, h1, s_P_has hp, zb_16_0, zc_16_0, c0]
  · by_cases c1 : r < 0
    · simp only [zi_wp_c, zi_wK_if, zi_wK_go, zi_wK_no, zi_wK_b, zi_wK_r, zi_wK_c, zi_cc_i, zi_cc_n, zi_B_if, zi_ifF, zx_nop, zx_iconst, zx_bipush, zx_sipush, zx_lconst, zx_ldc2_w, zx_aconst_null, zx_iload, zx_iload_n, zx_lload, zx_lload_n, zx_aload, zx_aload_n, zx_istore, zx_istore_n, zx_lstore, zx_lstore_n, zx_astore, zx_astore_n, zx_iinc, zx_iadd, zx_isub, zx_imul, zx_iand, zx_ior, zx_ishl, zx_ishr, zx_idiv, zx_irem, zx_ladd, zx_ldiv, zx_lrem, zx_lcmp, zx_i2l, zx_i2b, zx_i2s, zx_pop, zx_dup, zx_dup2, zx_getfield, zx_putfield, zx_getstatic, zx_iaload, zx_iastore, zx_laload, zx_lastore, zx_aaload, zx_arraylength, zx_goto, zx_ifCond, zx_if_icmp, zx_ifnull, zx_ifnonnull, zx_tableswitch, zx_lookupswitch, zx_ireturn, zx_lreturn, zx_areturn, zx_return_, zx_invokestatic, zx_invokevirtual, zi_ldi, zi_ldl, zi_lda, zi_sti, zi_stl, zi_sta, zi_inc, zi_b2, zi_d2, zi_l2, zi_dl2, zi_lc, zi_u1, zi_pp, zi_dup, zi_dup2, zi_gf, zi_pf, zi_ial, zi_ias, zi_lal, zi_las, zi_aal, zi_aln, zi_cp, zi_cmp, zi_if, zi_ic, zi_nul, zi_nnl, zi_sw, zi_ri, zi_rl, zi_ra, zi_rv, zi_iv, zi_ivr, zi_st1, zi_st2, zq_get0, zq_getS, zq_getN, zq_put0, zq_putS, zq_putN0, zq_putNS, zq_kl0, zq_klS, zq_Ln, zq_Li, zq_Lr, zq_Lf, zq_Lz, zq_Ll, zq_ft0, zq_fti, zq_ftr, zq_ftz, zq_ftf, zq_ftl, zq_pop0, zq_popS, zq_la0, zq_lai, zq_lar, zq_laz, zq_laf, zq_lal, zq_sh0, zq_sh1, zq_sh2, zq_sh3, zq_sh4, zq_f0, zq_f1, zq_f2, zq_f3, zq_u0, zq_u1, zq_u2, zq_ro0, zq_ro1, zq_ro2, zq_fv0, zq_fv2, zq_rfs, zq_rfn, zq_gD0, zq_gDS, zq_gDN, zq_lk0, zq_lkS, zq_tb0, zq_tbS, zq_o0, zq_o1, zq_o2, zq_o98, zq_o99, zq_o100, zq_o105, zq_o107, zq_o112, zq_o115, zq_o116, zq_c0, zq_c1, zq_v0, zq_v1, decide_eq_true_eq, List.toList_toArray, if_true, if_false, ite_self, and_true, true_and, and_false, false_and, true_or, or_true, or_false, false_or, not_true_eq_false, not_false_eq_true, Bool.false_eq_true, reduceCtorEq, ne_eq, ite_not, eq_self, Prod.mk.injEq, Nat.reduceEqDiff, Nat.reduceSub, Nat.reduceAdd, Nat.reduceLT, Nat.reduceLeDiff, zb_16_1, zc_16_1, zb_16_2, zc_16_2, h1, s_P_has hp, zb_16_0, zc_16_0, c0, c1]
    · by_cases c2 : I p 2 < r
      · simp only [zi_wp_c, zi_wK_if, zi_wK_go, zi_wK_no, zi_wK_b, zi_wK_r, zi_wK_c, zi_cc_i, zi_cc_n, zi_B_if, zi_ifF, zx_nop, zx_iconst, zx_bipush, zx_sipush, zx_lconst, zx_ldc2_w, zx_aconst_null, zx_iload, zx_iload_n, zx_lload, zx_lload_n, zx_aload, zx_aload_n, zx_istore, zx_istore_n, zx_lstore, zx_lstore_n, zx_astore, zx_astore_n, zx_iinc, zx_iadd, zx_isub, zx_imul, zx_iand, zx_ior, zx_ishl, zx_ishr, zx_idiv, zx_irem, zx_ladd, zx_ldiv, zx_lrem, zx_lcmp, zx_i2l, zx_i2b, zx_i2s, zx_pop, zx_dup, zx_dup2, zx_getfield, zx_putfield, zx_getstatic, zx_iaload, zx_iastore, zx_laload, zx_lastore, zx_aaload, zx_arraylength, zx_goto, zx_ifCond, zx_if_icmp, zx_ifnull, zx_ifnonnull, zx_tableswitch, zx_lookupswitch, zx_ireturn, zx_lreturn, zx_areturn, zx_return_, zx_invokestatic, zx_invokevirtual, zi_ldi, zi_ldl, zi_lda, zi_sti, zi_stl, zi_sta, zi_inc, zi_b2, zi_d2, zi_l2, zi_dl2, zi_lc, zi_u1, zi_pp, zi_dup, zi_dup2, zi_gf, zi_pf, zi_ial, zi_ias, zi_lal, zi_las, zi_aal, zi_aln, zi_cp, zi_cmp, zi_if, zi_ic, zi_nul, zi_nnl, zi_sw, zi_ri, zi_rl, zi_ra, zi_rv, zi_iv, zi_ivr, zi_st1, zi_st2, zq_get0, zq_getS, zq_getN, zq_put0, zq_putS, zq_putN0, zq_putNS, zq_kl0, zq_klS, zq_Ln, zq_Li, zq_Lr, zq_Lf, zq_Lz, zq_Ll, zq_ft0, zq_fti, zq_ftr, zq_ftz, zq_ftf, zq_ftl, zq_pop0, zq_popS, zq_la0, zq_lai, zq_lar, zq_laz, zq_laf, zq_lal, zq_sh0, zq_sh1, zq_sh2, zq_sh3, zq_sh4, zq_f0, zq_f1, zq_f2, zq_f3, zq_u0, zq_u1, zq_u2, zq_ro0, zq_ro1, zq_ro2, zq_fv0, zq_fv2, zq_rfs, zq_rfn, zq_gD0, zq_gDS, zq_gDN, zq_lk0, zq_lkS, zq_tb0, zq_tbS, zq_o0, zq_o1, zq_o2, zq_o98, zq_o99, zq_o100, zq_o105, zq_o107, zq_o112, zq_o115, zq_o116, zq_c0, zq_c1, zq_v0, zq_v1, decide_eq_true_eq, List.toList_toArray, if_true, if_false, ite_self, and_true, true_and, and_false, false_and, true_or, or_true, or_false, false_or, not_true_eq_false, not_false_eq_true, Bool.false_eq_true, reduceCtorEq, ne_eq, ite_not, eq_self, Prod.mk.injEq, Nat.reduceEqDiff, Nat.reduceSub, Nat.reduceAdd, Nat.reduceLT, Nat.reduceLeDiff, zb_16_1, zc_16_1, zb_16_2, zc_16_2, h1, s_P_has hp, zb_16_0, zc_16_0, c0, c1, c2]
      · have c3 : r ≤ 0 := by rcases h with h | h | h; exact absurd h c0; exact h; exact absurd h c2
        have d1 : ¬ (1 : Int32) = 0 := by decide
        simp only [zi_wp_c, zi_wK_if, zi_wK_go, zi_wK_no, zi_wK_b, zi_wK_r, zi_wK_c, zi_cc_i, zi_cc_n, zi_B_if, zi_ifF, zx_nop, zx_iconst, zx_bipush, zx_sipush, zx_lconst, zx_ldc2_w, zx_aconst_null, zx_iload, zx_iload_n, zx_lload, zx_lload_n, zx_aload, zx_aload_n, zx_istore, zx_istore_n, zx_lstore, zx_lstore_n, zx_astore, zx_astore_n, zx_iinc, zx_iadd, zx_isub, zx_imul, zx_iand, zx_ior, zx_ishl, zx_ishr, zx_idiv, zx_irem, zx_ladd, zx_ldiv, zx_lrem, zx_lcmp, zx_i2l, zx_i2b, zx_i2s, zx_pop, zx_dup, zx_dup2, zx_getfield, zx_putfield, zx_getstatic, zx_iaload, zx_iastore, zx_laload, zx_lastore, zx_aaload, zx_arraylength, zx_goto, zx_ifCond, zx_if_icmp, zx_ifnull, zx_ifnonnull, zx_tableswitch, zx_lookupswitch, zx_ireturn, zx_lreturn, zx_areturn, zx_return_, zx_invokestatic, zx_invokevirtual, zi_ldi, zi_ldl, zi_lda, zi_sti, zi_stl, zi_sta, zi_inc, zi_b2, zi_d2, zi_l2, zi_dl2, zi_lc, zi_u1, zi_pp, zi_dup, zi_dup2, zi_gf, zi_pf, zi_ial, zi_ias, zi_lal, zi_las, zi_aal, zi_aln, zi_cp, zi_cmp, zi_if, zi_ic, zi_nul, zi_nnl, zi_sw, zi_ri, zi_rl, zi_ra, zi_rv, zi_iv, zi_ivr, zi_st1, zi_st2, zq_get0, zq_getS, zq_getN, zq_put0, zq_putS, zq_putN0, zq_putNS, zq_kl0, zq_klS, zq_Ln, zq_Li, zq_Lr, zq_Lf, zq_Lz, zq_Ll, zq_ft0, zq_fti, zq_ftr, zq_ftz, zq_ftf, zq_ftl, zq_pop0, zq_popS, zq_la0, zq_lai, zq_lar, zq_laz, zq_laf, zq_lal, zq_sh0, zq_sh1, zq_sh2, zq_sh3, zq_sh4, zq_f0, zq_f1, zq_f2, zq_f3, zq_u0, zq_u1, zq_u2, zq_ro0, zq_ro1, zq_ro2, zq_fv0, zq_fv2, zq_rfs, zq_rfn, zq_gD0, zq_gDS, zq_gDN, zq_lk0, zq_lkS, zq_tb0, zq_tbS, zq_o0, zq_o1, zq_o2, zq_o98, zq_o99, zq_o100, zq_o105, zq_o107, zq_o112, zq_o115, zq_o116, zq_c0, zq_c1, zq_v0, zq_v1, decide_eq_true_eq, List.toList_toArray, if_true, if_false, ite_self, and_true, true_and, and_false, false_and, true_or, or_true, or_false, false_or, not_true_eq_false, not_false_eq_true, Bool.false_eq_true, reduceCtorEq, ne_eq, ite_not, eq_self, Prod.mk.injEq, Nat.reduceEqDiff, Nat.reduceSub, Nat.reduceAdd, Nat.reduceLT, Nat.reduceLeDiff, zb_16_0, zc_16_0, zb_16_1, zc_16_1, zb_16_2, zc_16_2, h1, s_P_has hp, c0, c1, c2, c3, d1]
theorem s_P_loopsIn (hp : zIsP p) {n k : Nat} (hn : I p 2 = nI n) (hn6 : n ≤ 6) (hkn : k ≤ n) : zi_B sc 0 0 20 0 [some (.ref p), some (.int (nI k))] [] (zm I J) K = K (some (.int (zli I p k))) (zm I J) := by
  obtain ⟨h1, h2, h3, h4⟩ := id hp
  cases k with
  | zero =>
    have c1 : nI 0 < 1 := by decide
    simp only [zi_wp_c, zi_wK_if, zi_wK_go, zi_wK_no, zi_wK_b, zi_wK_r, zi_wK_c, zi_cc_i, zi_cc_n, zi_B_if, zi_ifF, zx_nop, zx_iconst, zx_bipush, zx_sipush, zx_lconst, zx_ldc2_w, zx_aconst_null, zx_iload, zx_iload_n, zx_lload, zx_lload_n, zx_aload, zx_aload_n, zx_istore, zx_istore_n, zx_lstore, zx_lstore_n, zx_astore, zx_astore_n, zx_iinc, zx_iadd, zx_isub, zx_imul, zx_iand, zx_ior, zx_ishl, zx_ishr, zx_idiv, zx_irem, zx_ladd, zx_ldiv, zx_lrem, zx_lcmp, zx_i2l, zx_i2b, zx_i2s, zx_pop, zx_dup, zx_dup2, zx_getfield, zx_putfield, zx_getstatic, zx_iaload, zx_iastore, zx_laload, zx_lastore, zx_aaload, zx_arraylength, zx_goto, zx_ifCond, zx_if_icmp, zx_ifnull, zx_ifnonnull, zx_tableswitch, zx_lookupswitch, zx_ireturn, zx_lreturn, zx_areturn, zx_return_, zx_invokestatic, zx_invokevirtual, zi_ldi, zi_ldl, zi_lda, zi_sti, zi_stl, zi_sta, zi_inc, zi_b2, zi_d2, zi_l2, zi_dl2, zi_lc, zi_u1, zi_pp, zi_dup, zi_dup2, zi_gf, zi_pf, zi_ial, zi_ias, zi_lal, zi_las, zi_aal, zi_aln, zi_cp, zi_cmp, zi_if, zi_ic, zi_nul, zi_nnl, zi_sw, zi_ri, zi_rl, zi_ra, zi_rv, zi_iv, zi_ivr, zi_st1, zi_st2, zq_get0, zq_getS, zq_getN, zq_put0, zq_putS, zq_putN0, zq_putNS, zq_kl0, zq_klS, zq_Ln, zq_Li, zq_Lr, zq_Lf, zq_Lz, zq_Ll, zq_ft0, zq_fti, zq_ftr, zq_ftz, zq_ftf, zq_ftl, zq_pop0, zq_popS, zq_la0, zq_lai, zq_lar, zq_laz, zq_laf, zq_lal, zq_sh0, zq_sh1, zq_sh2, zq_sh3, zq_sh4, zq_f0, zq_f1, zq_f2, zq_f3, zq_u0, zq_u1, zq_u2, zq_ro0, zq_ro1, zq_ro2, zq_fv0, zq_fv2, zq_rfs, zq_rfn, zq_gD0, zq_gDS, zq_gDN, zq_lk0, zq_lkS, zq_tb0, zq_tbS, zq_o0, zq_o1, zq_o2, zq_o98, zq_o99, zq_o100, zq_o105, zq_o107, zq_o112, zq_o115, zq_o116, zq_c0, zq_c1, zq_v0, zq_v1, decide_eq_true_eq, List.toList_toArray, if_true, if_false, ite_self, and_true, true_and, and_false, false_and, true_or, or_true, or_false, false_or, not_true_eq_false, not_false_eq_true, Bool.false_eq_true, reduceCtorEq, ne_eq, ite_not, eq_self, Prod.mk.injEq, Nat.reduceEqDiff, Nat.reduceSub, Nat.reduceAdd, Nat.reduceLT, Nat.reduceLeDiff, zb_20_0, zc_20_0, zb_20_1, zc_20_1, zb_20_2, zc_20_2, zb_20_3, zc_20_3, h1, c1]
    rfl
  | succ k =>
    have e1 : nI (k + 1) - 1 = nI k := nI_pred k
    have e2 : (nI k).toNatClampNeg = k := nI_clamp (by omega)
    obtain ⟨e3, e5, -, -⟩ := h4 k (by omega)
    have c1 : ¬ nI (k + 1) < 1 := by (simp only [zt_eq, Int32.lt_iff_toInt_lt, Int32.le_iff_toInt_le, zt_add, zt_sub, zt_neg, zt_nI, zl_0, zl_1, zl_2, zl_3, zl_4, zl_5, zl_6, zl_7, zl_8, zl_9, zl_10, zl_16, zl_20, zl_30, zl_60, zl_1080, zl_m1, zl_m2, zl_m9]; omega)
    have c2 : nI (k + 1) ≤ nI n := by (simp only [zt_eq, Int32.lt_iff_toInt_lt, Int32.le_iff_toInt_le, zt_add, zt_sub, zt_neg, zt_nI, zl_0, zl_1, zl_2, zl_3, zl_4, zl_5, zl_6, zl_7, zl_8, zl_9, zl_10, zl_16, zl_20, zl_30, zl_60, zl_1080, zl_m1, zl_m2, zl_m9]; omega)
    have hv : zi_vin (nI k) 6 = true := zv_nI (by omega) (by omega)
    simp only [zi_wp_c, zi_wK_if, zi_wK_go, zi_wK_no, zi_wK_b, zi_wK_r, zi_wK_c, zi_cc_i, zi_cc_n, zi_B_if, zi_ifF, zx_nop, zx_iconst, zx_bipush, zx_sipush, zx_lconst, zx_ldc2_w, zx_aconst_null, zx_iload, zx_iload_n, zx_lload, zx_lload_n, zx_aload, zx_aload_n, zx_istore, zx_istore_n, zx_lstore, zx_lstore_n, zx_astore, zx_astore_n, zx_iinc, zx_iadd, zx_isub, zx_imul, zx_iand, zx_ior, zx_ishl, zx_ishr, zx_idiv, zx_irem, zx_ladd, zx_ldiv, zx_lrem, zx_lcmp, zx_i2l, zx_i2b, zx_i2s, zx_pop, zx_dup, zx_dup2, zx_getfield, zx_putfield, zx_getstatic, zx_iaload, zx_iastore, zx_laload, zx_lastore, zx_aaload, zx_arraylength, zx_goto, zx_ifCond, zx_if_icmp, zx_ifnull, zx_ifnonnull, zx_tableswitch, zx_lookupswitch, zx_ireturn, zx_lreturn, zx_areturn, zx_return_, zx_invokestatic, zx_invokevirtual, zi_ldi, zi_ldl, zi_lda, zi_sti, zi_stl, zi_sta, zi_inc, zi_b2, zi_d2, zi_l2, zi_dl2, zi_lc, zi_u1, zi_pp, zi_dup, zi_dup2, zi_gf, zi_pf, zi_ial, zi_ias, zi_lal, zi_las, zi_aal, zi_aln, zi_cp, zi_cmp, zi_if, zi_ic, zi_nul, zi_nnl, zi_sw, zi_ri, zi_rl, zi_ra, zi_rv, zi_iv, zi_ivr, zi_st1, zi_st2, zq_get0, zq_getS, zq_getN, zq_put0, zq_putS, zq_putN0, zq_putNS, zq_kl0, zq_klS, zq_Ln, zq_Li, zq_Lr, zq_Lf, zq_Lz, zq_Ll, zq_ft0, zq_fti, zq_ftr, zq_ftz, zq_ftf, zq_ftl, zq_pop0, zq_popS, zq_la0, zq_lai, zq_lar, zq_laz, zq_laf, zq_lal, zq_sh0, zq_sh1, zq_sh2, zq_sh3, zq_sh4, zq_f0, zq_f1, zq_f2, zq_f3, zq_u0, zq_u1, zq_u2, zq_ro0, zq_ro1, zq_ro2, zq_fv0, zq_fv2, zq_rfs, zq_rfn, zq_gD0, zq_gDS, zq_gDN, zq_lk0, zq_lkS, zq_tb0, zq_tbS, zq_o0, zq_o1, zq_o2, zq_o98, zq_o99, zq_o100, zq_o105, zq_o107, zq_o112, zq_o115, zq_o116, zq_c0, zq_c1, zq_v0, zq_v1, decide_eq_true_eq, List.toList_toArray, if_true, if_false, ite_self, and_true, true_and, and_false, false_and, true_or, or_true, or_false, false_or, not_true_eq_false, not_false_eq_true, Bool.false_eq_true, reduceCtorEq, ne_eq, ite_not, eq_self, Prod.mk.injEq, Nat.reduceEqDiff, Nat.reduceSub, Nat.reduceAdd, Nat.reduceLT, Nat.reduceLeDiff, zb_20_0, zc_20_0, zb_20_1, zc_20_1, zb_20_2, zc_20_2, zb_20_3, zc_20_3, h1, h2, h3, e1, e2, e3, e5, hn, c1, c2, hv]
    rfl
theorem s_P_spare (hp : zIsP p) {n : Nat} (hn : I p 2 = nI n) (hn6 : n ≤ 6) : zi_B sc 0 0 17 0 [some (.ref p)] [] (zm I J) K = if n < 6 then K (some (.ref (p + 2 + 2 * n))) (zm I J) else K (some .null) (zm I J) := by
  obtain ⟨h1, h2, h3, h4⟩ := id hp
  by_cases c : n < 6
  · have e2 : (nI n).toNatClampNeg = n := nI_clamp (by omega)
    have e3 := (h4 n (by omega)).1
    have c1 : ¬ (6 : Int32) ≤ nI n := by (simp only [zt_eq, Int32.lt_iff_toInt_lt, Int32.le_iff_toInt_le, zt_add, zt_sub, zt_neg, zt_nI, zl_0, zl_1, zl_2, zl_3, zl_4, zl_5, zl_6, zl_7, zl_8, zl_9, zl_10, zl_16, zl_20, zl_30, zl_60, zl_1080, zl_m1, zl_m2, zl_m9]; omega)
    have hv : zi_vin (nI n) 6 = true := zv_nI (by omega) (by omega)
    simp only [zi_wp_c, zi_wK_if, zi_wK_go, zi_wK_no, zi_wK_b, zi_wK_r, zi_wK_c, zi_cc_i, zi_cc_n, zi_B_if, zi_ifF, zx_nop, zx_iconst, zx_bipush, zx_sipush, zx_lconst, zx_ldc2_w, zx_aconst_null, zx_iload, zx_iload_n, zx_lload, zx_lload_n, zx_aload, zx_aload_n, zx_istore, zx_istore_n, zx_lstore, zx_lstore_n, zx_astore, zx_astore_n, zx_iinc, zx_iadd, zx_isub, zx_imul, zx_iand, zx_ior, zx_ishl, zx_ishr, zx_idiv, zx_irem, zx_ladd, zx_ldiv, zx_lrem, zx_lcmp, zx_i2l, zx_i2b, zx_i2s, zx_pop, zx_dup, zx_dup2, zx_getfield, zx_putfield, zx_getstatic, zx_iaload, zx_iastore, zx_laload, zx_lastore, zx_aaload, zx_arraylength, zx_goto, zx_ifCond, zx_if_icmp, zx_ifnull, zx_ifnonnull, zx_tableswitch, zx_lookupswitch, zx_ireturn, zx_lreturn, zx_areturn, zx_return_, zx_invokestatic, zx_invokevirtual, zi_ldi, zi_ldl, zi_lda, zi_sti, zi_stl, zi_sta, zi_inc, zi_b2, zi_d2, zi_l2, zi_dl2, zi_lc, zi_u1, zi_pp, zi_dup, zi_dup2, zi_gf, zi_pf, zi_ial, zi_ias, zi_lal, zi_las, zi_aal, zi_aln, zi_cp, zi_cmp, zi_if, zi_ic, zi_nul, zi_nnl, zi_sw, zi_ri, zi_rl, zi_ra, zi_rv, zi_iv, zi_ivr, zi_st1, zi_st2, zq_get0, zq_getS, zq_getN, zq_put0, zq_putS, zq_putN0, zq_putNS, zq_kl0, zq_klS, zq_Ln, zq_Li, zq_Lr, zq_Lf, zq_Lz, zq_Ll, zq_ft0, zq_fti, zq_ftr, zq_ftz, zq_ftf, zq_ftl, zq_pop0, zq_popS, zq_la0, zq_lai, zq_lar, zq_laz, zq_laf, zq_lal, zq_sh0, zq_sh1, zq_sh2, zq_sh3, zq_sh4, zq_f0, zq_f1, zq_f2, zq_f3, zq_u0, zq_u1, zq_u2, zq_ro0, zq_ro1, zq_ro2, zq_fv0, zq_fv2, zq_rfs, zq_rfn, zq_gD0, zq_gDS, zq_gDN, zq_lk0, zq_lkS, zq_tb0, zq_tbS, zq_o0, zq_o1, zq_o2, zq_o98, zq_o99, zq_o100, zq_o105, zq_o107, zq_o112, zq_o115, zq_o116, zq_c0, zq_c1, zq_v0, zq_v1, decide_eq_true_eq, List.toList_toArray, if_true, if_false, ite_self, and_true, true_and, and_false, false_and, true_or, or_true, or_false, false_or, not_true_eq_false, not_false_eq_true, Bool.false_eq_true, reduceCtorEq, ne_eq, ite_not, eq_self, Prod.mk.injEq, Nat.reduceEqDiff, Nat.reduceSub, Nat.reduceAdd, Nat.reduceLT, Nat.reduceLeDiff, zb_17_0, zc_17_0, zb_17_1, zc_17_1, zb_17_2, zc_17_2, h1, h2, h3, e2, e3, hn, c1, hv]
    rw [if_pos c]
  · have c1 : (6 : Int32) ≤ nI n := by (simp only [zt_eq, Int32.lt_iff_toInt_lt, Int32.le_iff_toInt_le, zt_add, zt_sub, zt_neg, zt_nI, zl_0, zl_1, zl_2, zl_3, zl_4, zl_5, zl_6, zl_7, zl_8, zl_9, zl_10, zl_16, zl_20, zl_30, zl_60, zl_1080, zl_m1, zl_m2, zl_m9]; omega)
    simp only [zi_wp_c, zi_wK_if, zi_wK_go, zi_wK_no, zi_wK_b, zi_wK_r, zi_wK_c, zi_cc_i, zi_cc_n, zi_B_if, zi_ifF, zx_nop, zx_iconst, zx_bipush, zx_sipush, zx_lconst, zx_ldc2_w, zx_aconst_null, zx_iload, zx_iload_n, zx_lload, zx_lload_n, zx_aload, zx_aload_n, zx_istore, zx_istore_n, zx_lstore, zx_lstore_n, zx_astore, zx_astore_n, zx_iinc, zx_iadd, zx_isub, zx_imul, zx_iand, zx_ior, zx_ishl, zx_ishr, zx_idiv, zx_irem, zx_ladd, zx_ldiv, zx_lrem, zx_lcmp, zx_i2l, zx_i2b, zx_i2s, zx_pop, zx_dup, zx_dup2, zx_getfield, zx_putfield, zx_getstatic, zx_iaload, zx_iastore, zx_laload, zx_lastore, zx_aaload, zx_arraylength, zx_goto, zx_ifCond, zx_if_icmp, zx_ifnull, zx_ifnonnull, zx_tableswitch, zx_lookupswitch, zx_ireturn, zx_lreturn, zx_areturn, zx_return_, zx_invokestatic, zx_invokevirtual, zi_ldi, zi_ldl, zi_lda, zi_sti, zi_stl, zi_sta, zi_inc, zi_b2, zi_d2, zi_l2, zi_dl2, zi_lc, zi_u1, zi_pp, zi_dup, zi_dup2, zi_gf, zi_pf, zi_ial, zi_ias, zi_lal, zi_las, zi_aal, zi_aln, zi_cp, zi_cmp, zi_if, zi_ic, zi_nul, zi_nnl, zi_sw, zi_ri, zi_rl, zi_ra, zi_rv, zi_iv, zi_ivr, zi_st1, zi_st2, zq_get0, zq_getS, zq_getN, zq_put0, zq_putS, zq_putN0, zq_putNS, zq_kl0, zq_klS, zq_Ln, zq_Li, zq_Lr, zq_Lf, zq_Lz, zq_Ll, zq_ft0, zq_fti, zq_ftr, zq_ftz, zq_ftf, zq_ftl, zq_pop0, zq_popS, zq_la0, zq_lai, zq_lar, zq_laz, zq_laf, zq_lal, zq_sh0, zq_sh1, zq_sh2, zq_sh3, zq_sh4, zq_f0, zq_f1, zq_f2, zq_f3, zq_u0, zq_u1, zq_u2, zq_ro0, zq_ro1, zq_ro2, zq_fv0, zq_fv2, zq_rfs, zq_rfn, zq_gD0, zq_gDS, zq_gDN, zq_lk0, zq_lkS, zq_tb0, zq_tbS, zq_o0, zq_o1, zq_o2, zq_o98, zq_o99, zq_o100, zq_o105, zq_o107, zq_o112, zq_o115, zq_o116, zq_c0, zq_c1, zq_v0, zq_v1, decide_eq_true_eq, List.toList_toArray, if_true, if_false, ite_self, and_true, true_and, and_false, false_and, true_or, or_true, or_false, false_or, not_true_eq_false, not_false_eq_true, Bool.false_eq_true, reduceCtorEq, ne_eq, ite_not, eq_self, Prod.mk.injEq, Nat.reduceEqDiff, Nat.reduceSub, Nat.reduceAdd, Nat.reduceLT, Nat.reduceLeDiff, zb_17_0, zc_17_0, zb_17_1, zc_17_1, zb_17_2, zc_17_2, h1, h2, h3, hn, c1]
    rw [if_neg c]
theorem s_P_takesSpare (hp : zIsP p) {n b : Nat} {x : zRt} (hn : I p 2 = nI n) (hn6 : n < 6) (hb : zli I p n = nI b) (hb60 : b ≤ 60) (hx : zRv I (p + 2 + 2 * n) x) : zi_B sc 0 0 18 0 [some (.ref p)] [] (zm I J) K = if 0 < zco b (zuR x) (zmR x) then K (some (.int 1)) (zm (zi_up (zi_up (zi_up I (p + 2 + 2 * n) 5 (nI (zco b (zuR x) (zmR x)))) (p + 2 + 2 * n) 4 (nI (b / zuR x))) p 2 (nI (n + 1))) J) else K (some (.int 0)) (zm (zi_up (zi_up I (p + 2 + 2 * n) 5 (nI (zco b (zuR x) (zmR x)))) (p + 2 + 2 * n) 4 (nI (b / zuR x))) J) := by
  obtain ⟨h1, h2, h3, h4⟩ := id hp
  have hq := (h4 n hn6).2
  have e3 : ∀ v w, zi_up (zi_up I (p + 2 + 2 * n) 5 v) (p + 2 + 2 * n) 4 w p 2 = nI n := fun v w => by rw [zu_up_ne _ (by omega), zu_up_ne _ (by omega)]; exact hn
  have d1 : ¬ (1 : Int32) = 0 := by decide
  by_cases c : 0 < zco b (zuR x) (zmR x)
  · simp only [zi_wp_c, zi_wK_if, zi_wK_go, zi_wK_no, zi_wK_b, zi_wK_r, zi_wK_c, zi_cc_i, zi_cc_n, zi_B_if, zi_ifF, zx_nop, zx_iconst, zx_bipush, zx_sipush, zx_lconst, zx_ldc2_w, zx_aconst_null, zx_iload, zx_iload_n, zx_lload, zx_lload_n, zx_aload, zx_aload_n, zx_istore, zx_istore_n, zx_lstore, zx_lstore_n, zx_astore, zx_astore_n, zx_iinc, zx_iadd, zx_isub, zx_imul, zx_iand, zx_ior, zx_ishl, zx_ishr, zx_idiv, zx_irem, zx_ladd, zx_ldiv, zx_lrem, zx_lcmp, zx_i2l, zx_i2b, zx_i2s, zx_pop, zx_dup, zx_dup2, zx_getfield, zx_putfield, zx_getstatic, zx_iaload, zx_iastore, zx_laload, zx_lastore, zx_aaload, zx_arraylength, zx_goto, zx_ifCond, zx_if_icmp, zx_ifnull, zx_ifnonnull, zx_tableswitch, zx_lookupswitch, zx_ireturn, zx_lreturn, zx_areturn, zx_return_, zx_invokestatic, zx_invokevirtual, zi_ldi, zi_ldl, zi_lda, zi_sti, zi_stl, zi_sta, zi_inc, zi_b2, zi_d2, zi_l2, zi_dl2, zi_lc, zi_u1, zi_pp, zi_dup, zi_dup2, zi_gf, zi_pf, zi_ial, zi_ias, zi_lal, zi_las, zi_aal, zi_aln, zi_cp, zi_cmp, zi_if, zi_ic, zi_nul, zi_nnl, zi_sw, zi_ri, zi_rl, zi_ra, zi_rv, zi_iv, zi_ivr, zi_st1, zi_st2, zq_get0, zq_getS, zq_getN, zq_put0, zq_putS, zq_putN0, zq_putNS, zq_kl0, zq_klS, zq_Ln, zq_Li, zq_Lr, zq_Lf, zq_Lz, zq_Ll, zq_ft0, zq_fti, zq_ftr, zq_ftz, zq_ftf, zq_ftl, zq_pop0, zq_popS, zq_la0, zq_lai, zq_lar, zq_laz, zq_laf, zq_lal, zq_sh0, zq_sh1, zq_sh2, zq_sh3, zq_sh4, zq_f0, zq_f1, zq_f2, zq_f3, zq_u0, zq_u1, zq_u2, zq_ro0, zq_ro1, zq_ro2, zq_fv0, zq_fv2, zq_rfs, zq_rfn, zq_gD0, zq_gDS, zq_gDN, zq_lk0, zq_lkS, zq_tb0, zq_tbS, zq_o0, zq_o1, zq_o2, zq_o98, zq_o99, zq_o100, zq_o105, zq_o107, zq_o112, zq_o115, zq_o116, zq_c0, zq_c1, zq_v0, zq_v1, decide_eq_true_eq, List.toList_toArray, if_true, if_false, ite_self, and_true, true_and, and_false, false_and, true_or, or_true, or_false, false_or, not_true_eq_false, not_false_eq_true, Bool.false_eq_true, reduceCtorEq, ne_eq, ite_not, eq_self, Prod.mk.injEq, Nat.reduceEqDiff, Nat.reduceSub, Nat.reduceAdd, Nat.reduceLT, Nat.reduceLeDiff, zb_18_0, zc_18_0, zb_18_1, zc_18_1, zb_18_2, zc_18_2, h1, hq.1, hn, s_P_spare hp hn (show n ≤ 6 by omega), hn6, s_P_loopsIn hp hn (show n ≤ 6 by omega) (Nat.le_refl n), hb, s_R_co hq hx hb60, c, d1, e3, nI_1]
  · simp only [zi_wp_c, zi_wK_if, zi_wK_go, zi_wK_no, zi_wK_b, zi_wK_r, zi_wK_c, zi_cc_i, zi_cc_n, zi_B_if, zi_ifF, zx_nop, zx_iconst, zx_bipush, zx_sipush, zx_lconst, zx_ldc2_w, zx_aconst_null, zx_iload, zx_iload_n, zx_lload, zx_lload_n, zx_aload, zx_aload_n, zx_istore, zx_istore_n, zx_lstore, zx_lstore_n, zx_astore, zx_astore_n, zx_iinc, zx_iadd, zx_isub, zx_imul, zx_iand, zx_ior, zx_ishl, zx_ishr, zx_idiv, zx_irem, zx_ladd, zx_ldiv, zx_lrem, zx_lcmp, zx_i2l, zx_i2b, zx_i2s, zx_pop, zx_dup, zx_dup2, zx_getfield, zx_putfield, zx_getstatic, zx_iaload, zx_iastore, zx_laload, zx_lastore, zx_aaload, zx_arraylength, zx_goto, zx_ifCond, zx_if_icmp, zx_ifnull, zx_ifnonnull, zx_tableswitch, zx_lookupswitch, zx_ireturn, zx_lreturn, zx_areturn, zx_return_, zx_invokestatic, zx_invokevirtual, zi_ldi, zi_ldl, zi_lda, zi_sti, zi_stl, zi_sta, zi_inc, zi_b2, zi_d2, zi_l2, zi_dl2, zi_lc, zi_u1, zi_pp, zi_dup, zi_dup2, zi_gf, zi_pf, zi_ial, zi_ias, zi_lal, zi_las, zi_aal, zi_aln, zi_cp, zi_cmp, zi_if, zi_ic, zi_nul, zi_nnl, zi_sw, zi_ri, zi_rl, zi_ra, zi_rv, zi_iv, zi_ivr, zi_st1, zi_st2, zq_get0, zq_getS, zq_getN, zq_put0, zq_putS, zq_putN0, zq_putNS, zq_kl0, zq_klS, zq_Ln, zq_Li, zq_Lr, zq_Lf, zq_Lz, zq_Ll, zq_ft0, zq_fti, zq_ftr, zq_ftz, zq_ftf, zq_ftl, zq_pop0, zq_popS, zq_la0, zq_lai, zq_lar, zq_laz, zq_laf, zq_lal, zq_sh0, zq_sh1, zq_sh2, zq_sh3, zq_sh4, zq_f0, zq_f1, zq_f2, zq_f3, zq_u0, zq_u1, zq_u2, zq_ro0, zq_ro1, zq_ro2, zq_fv0, zq_fv2, zq_rfs, zq_rfn, zq_gD0, zq_gDS, zq_gDN, zq_lk0, zq_lkS, zq_tb0, zq_tbS, zq_o0, zq_o1, zq_o2, zq_o98, zq_o99, zq_o100, zq_o105, zq_o107, zq_o112, zq_o115, zq_o116, zq_c0, zq_c1, zq_v0, zq_v1, decide_eq_true_eq, List.toList_toArray, if_true, if_false, ite_self, and_true, true_and, and_false, false_and, true_or, or_true, or_false, false_or, not_true_eq_false, not_false_eq_true, Bool.false_eq_true, reduceCtorEq, ne_eq, ite_not, eq_self, Prod.mk.injEq, Nat.reduceEqDiff, Nat.reduceSub, Nat.reduceAdd, Nat.reduceLT, Nat.reduceLeDiff, zb_18_0, zc_18_0, zb_18_1, zc_18_1, zb_18_2, zc_18_2, h1, hq.1, hn, s_P_spare hp hn (show n ≤ 6 by omega), hn6, s_P_loopsIn hp hn (show n ≤ 6 by omega) (Nat.le_refl n), hb, s_R_co hq hx hb60, c]
end ZP
end
section
/-! a PIECE's methods with loops -/
/-- the first ROUND from r on, among d, that does not come out; 0: none -/
def zfo (ring : Nat) (rd : Nat → zRt) : Nat → Nat → Nat
  | 0, _ => 0
  | d + 1, r => if zlp ring rd r = 0 then r else zfo ring rd d (r + 1)
def zwd (x : zRt) : Nat := if x.1 = 1 then x.2.1 + 1 else if x.1 = 2 then 2 * x.2.1 else x.2.1
theorem zwd_le {x : zRt} (h : x.2.1 ≤ 9) : zwd x ≤ 18 := by unfold zwd; split <;> (try split) <;> omega
theorem zwide_nI {x : zRt} (h : x.1 < 3) : zf_wide (nI x.1) (nI x.2.1) = nI (zwd x) := by
  unfold zf_wide zwd
  rcases (show x.1 = 0 ∨ x.1 = 1 ∨ x.1 = 2 by omega) with c | c | c
  · rw [c]; rw [if_neg (show ¬ nI 0 = 1 by decide), if_neg (show ¬ nI 0 = 2 by decide)]; rfl
  · rw [c]; rw [if_pos (show nI 1 = 1 by decide)]; exact nI_1 _
  · rw [c]; rw [if_neg (show ¬ nI 2 = 1 by decide), if_pos (show nI 2 = 2 by decide)]; exact pk_mul 2 _
def zout (rd : Nat → zRt) : Nat → Nat
  | 0 => 0
  | n + 1 => zout rd n + zwd (rd n)
theorem zout_le {rd : Nat → zRt} {n : Nat} (h : ∀ r, r < n → (rd r).2.1 ≤ 9) : zout rd n ≤ 18 * n := by
  induction n with
  | zero => exact Nat.le_refl _
  | succ n ih =>
    have h1 := ih (fun r hr => h r (by omega))
    have h2 := zwd_le (h n (by omega))
    simp only [zout]
    omega
def zall (ring : Nat) (rd : Nat → zRt) : Nat → Nat
  | 0 => 0
  | n + 1 => zall ring rd n + zlp ring rd n
theorem zall_le {ring : Nat} (h : ring ≤ 60) (rd : Nat → zRt) : ∀ n, zall ring rd n ≤ 60 * n
  | 0 => Nat.le_refl _
  | n + 1 => by have := zall_le h rd n; have := zlp_le h rd n; simp only [zall]; omega
section ZQ
variable {sc : Nat × (Nat → Int32)} {J : Nat → Nat → Int64} {K : Option Value → zi_M → Prop} {p : Nat}
theorem l_P_all {I : Nat → Nat → Int32} (hp : zIsP p) {ring n : Nat} {rd : Nat → zRt} (hs : zPs I p ring n rd) (hl : zPl I p ring n rd) : ∀ d i, i + d = n + 1 → zi_B sc 0 0 21 1 [some (.ref p), some (.int (nI (zall ring rd i))), some (.int (nI i))] [] (zm I J) K = K (some (.int (nI (zall ring rd (n + 1))))) (zm I J) := by
  obtain ⟨h1, h2, h3, h4⟩ := id hp
  obtain ⟨⟨g1, g2⟩, ⟨g3, g4⟩, g5⟩ := id hs
  intro d
  induction d with
  | zero =>
    intro i hi
    have : i = n + 1 := by omega
    subst this
    have c1 : nI n < nI (n + 1) := by (simp only [zt_eq, Int32.lt_iff_toInt_lt, Int32.le_iff_toInt_le, zt_add, zt_sub, zt_neg, zt_nI, zl_0, zl_1, zl_2, zl_3, zl_4, zl_5, zl_6, zl_7, zl_8, zl_9, zl_10, zl_16, zl_20, zl_30, zl_60, zl_1080, zl_m1, zl_m2, zl_m9]; omega)
    rw [zb_21_1]
    simp only [zi_wp_c, zi_wK_if, zi_wK_go, zi_wK_no, zi_wK_b, zi_wK_r, zi_wK_c, zi_cc_i, zi_cc_n, zi_B_if, zi_ifF, zx_nop, zx_iconst, zx_bipush, zx_sipush, zx_lconst, zx_ldc2_w, zx_aconst_null, zx_iload, zx_iload_n, zx_lload, zx_lload_n, zx_aload, zx_aload_n, zx_istore, zx_istore_n, zx_lstore, zx_lstore_n, zx_astore, zx_astore_n, zx_iinc, zx_iadd, zx_isub, zx_imul, zx_iand, zx_ior, zx_ishl, zx_ishr, zx_idiv, zx_irem, zx_ladd, zx_ldiv, zx_lrem, zx_lcmp, zx_i2l, zx_i2b, zx_i2s, zx_pop, zx_dup, zx_dup2, zx_getfield, zx_putfield, zx_getstatic, zx_iaload, zx_iastore, zx_laload, zx_lastore, zx_aaload, zx_arraylength, zx_goto, zx_ifCond, zx_if_icmp, zx_ifnull, zx_ifnonnull, zx_tableswitch, zx_lookupswitch, zx_ireturn, zx_lreturn, zx_areturn, zx_return_, zx_invokestatic, zx_invokevirtual, zi_ldi, zi_ldl, zi_lda, zi_sti, zi_stl, zi_sta, zi_inc, zi_b2, zi_d2, zi_l2, zi_dl2, zi_lc, zi_u1, zi_pp, zi_dup, zi_dup2, zi_gf, zi_pf, zi_ial, zi_ias, zi_lal, zi_las, zi_aal, zi_aln, zi_cp, zi_cmp, zi_if, zi_ic, zi_nul, zi_nnl, zi_sw, zi_ri, zi_rl, zi_ra, zi_rv, zi_iv, zi_ivr, zi_st1, zi_st2, zq_get0, zq_getS, zq_getN, zq_put0, zq_putS, zq_putN0, zq_putNS, zq_kl0, zq_klS, zq_Ln, zq_Li, zq_Lr, zq_Lf, zq_Lz, zq_Ll, zq_ft0, zq_fti, zq_ftr, zq_ftz, zq_ftf, zq_ftl, zq_pop0, zq_popS, zq_la0, zq_lai, zq_lar, zq_laz, zq_laf, zq_lal, zq_sh0, zq_sh1, zq_sh2, zq_sh3, zq_sh4, zq_f0, zq_f1, zq_f2, zq_f3, zq_u0, zq_u1, zq_u2, zq_ro0, zq_ro1, zq_ro2, zq_fv0, zq_fv2, zq_rfs, zq_rfn, zq_gD0, zq_gDS, zq_gDN, zq_lk0, zq_lkS, zq_tb0, zq_tbS, zq_o0, zq_o1, zq_o2, zq_o98, zq_o99, zq_o100, zq_o105, zq_o107, zq_o112, zq_o115, zq_o116, zq_c0, zq_c1, zq_v0, zq_v1, decide_eq_true_eq, List.toList_toArray, if_true, if_false, ite_self, and_true, true_and, and_false, false_and, true_or, or_true, or_false, false_or, not_true_eq_false, not_false_eq_true, Bool.false_eq_true, reduceCtorEq, ne_eq, ite_not, eq_self, Prod.mk.injEq, Nat.reduceEqDiff, Nat.reduceSub, Nat.reduceAdd, Nat.reduceLT, Nat.reduceLeDiff, zb_21_2, zc_21_2, h1, zc_21_1, g2, c1]
  | succ d ih =>
    intro i hi
    have c1 : ¬ nI n < nI i := by (simp only [zt_eq, Int32.lt_iff_toInt_lt, Int32.le_iff_toInt_le, zt_add, zt_sub, zt_neg, zt_nI, zl_0, zl_1, zl_2, zl_3, zl_4, zl_5, zl_6, zl_7, zl_8, zl_9, zl_10, zl_16, zl_20, zl_30, zl_60, zl_1080, zl_m1, zl_m2, zl_m9]; omega)
    rw [zb_21_1]
    simp only [zi_wp_c, zi_wK_if, zi_wK_go, zi_wK_no, zi_wK_b, zi_wK_r, zi_wK_c, zi_cc_i, zi_cc_n, zi_B_if, zi_ifF, zx_nop, zx_iconst, zx_bipush, zx_sipush, zx_lconst, zx_ldc2_w, zx_aconst_null, zx_iload, zx_iload_n, zx_lload, zx_lload_n, zx_aload, zx_aload_n, zx_istore, zx_istore_n, zx_lstore, zx_lstore_n, zx_astore, zx_astore_n, zx_iinc, zx_iadd, zx_isub, zx_imul, zx_iand, zx_ior, zx_ishl, zx_ishr, zx_idiv, zx_irem, zx_ladd, zx_ldiv, zx_lrem, zx_lcmp, zx_i2l, zx_i2b, zx_i2s, zx_pop, zx_dup, zx_dup2, zx_getfield, zx_putfield, zx_getstatic, zx_iaload, zx_iastore, zx_laload, zx_lastore, zx_aaload, zx_arraylength, zx_goto, zx_ifCond, zx_if_icmp, zx_ifnull, zx_ifnonnull, zx_tableswitch, zx_lookupswitch, zx_ireturn, zx_lreturn, zx_areturn, zx_return_, zx_invokestatic, zx_invokevirtual, zi_ldi, zi_ldl, zi_lda, zi_sti, zi_stl, zi_sta, zi_inc, zi_b2, zi_d2, zi_l2, zi_dl2, zi_lc, zi_u1, zi_pp, zi_dup, zi_dup2, zi_gf, zi_pf, zi_ial, zi_ias, zi_lal, zi_las, zi_aal, zi_aln, zi_cp, zi_cmp, zi_if, zi_ic, zi_nul, zi_nnl, zi_sw, zi_ri, zi_rl, zi_ra, zi_rv, zi_iv, zi_ivr, zi_st1, zi_st2, zq_get0, zq_getS, zq_getN, zq_put0, zq_putS, zq_putN0, zq_putNS, zq_kl0, zq_klS, zq_Ln, zq_Li, zq_Lr, zq_Lf, zq_Lz, zq_Ll, zq_ft0, zq_fti, zq_ftr, zq_ftz, zq_ftf, zq_ftl, zq_pop0, zq_popS, zq_la0, zq_lai, zq_lar, zq_laz, zq_laf, zq_lal, zq_sh0, zq_sh1, zq_sh2, zq_sh3, zq_sh4, zq_f0, zq_f1, zq_f2, zq_f3, zq_u0, zq_u1, zq_u2, zq_ro0, zq_ro1, zq_ro2, zq_fv0, zq_fv2, zq_rfs, zq_rfn, zq_gD0, zq_gDS, zq_gDN, zq_lk0, zq_lkS, zq_tb0, zq_tbS, zq_o0, zq_o1, zq_o2, zq_o98, zq_o99, zq_o100, zq_o105, zq_o107, zq_o112, zq_o115, zq_o116, zq_c0, zq_c1, zq_v0, zq_v1, decide_eq_true_eq, List.toList_toArray, if_true, if_false, ite_self, and_true, true_and, and_false, false_and, true_or, or_true, or_false, false_or, not_true_eq_false, not_false_eq_true, Bool.false_eq_true, reduceCtorEq, ne_eq, ite_not, eq_self, Prod.mk.injEq, Nat.reduceEqDiff, Nat.reduceSub, Nat.reduceAdd, Nat.reduceLT, Nat.reduceLeDiff, h1, zc_21_1, g2, c1, s_P_loopsIn hp g2 g4 (show i ≤ n by omega), zli_lp hs hl (show i ≤ n by omega), nI_add]
    rw [show nI i + 1 = nI (i + 1) from nI_1 i]
    exact ih (i + 1) (by omega)
theorem s_P_all {I : Nat → Nat → Int32} (hp : zIsP p) {ring n : Nat} {rd : Nat → zRt} (hs : zPs I p ring n rd) (hl : zPl I p ring n rd) : zi_B sc 0 0 21 0 [some (.ref p)] [] (zm I J) K = K (some (.int (nI (zall ring rd (n + 1))))) (zm I J) := by
  simp only [zi_wp_c, zi_wK_if, zi_wK_go, zi_wK_no, zi_wK_b, zi_wK_r, zi_wK_c, zi_cc_i, zi_cc_n, zi_B_if, zi_ifF, zx_nop, zx_iconst, zx_bipush, zx_sipush, zx_lconst, zx_ldc2_w, zx_aconst_null, zx_iload, zx_iload_n, zx_lload, zx_lload_n, zx_aload, zx_aload_n, zx_istore, zx_istore_n, zx_lstore, zx_lstore_n, zx_astore, zx_astore_n, zx_iinc, zx_iadd, zx_isub, zx_imul, zx_iand, zx_ior, zx_ishl, zx_ishr, zx_idiv, zx_irem, zx_ladd, zx_ldiv, zx_lrem, zx_lcmp, zx_i2l, zx_i2b, zx_i2s, zx_pop, zx_dup, zx_dup2, zx_getfield, zx_putfield, zx_getstatic, zx_iaload, zx_iastore, zx_laload, zx_lastore, zx_aaload, zx_arraylength, zx_goto, zx_ifCond, zx_if_icmp, zx_ifnull, zx_ifnonnull, zx_tableswitch, zx_lookupswitch, zx_ireturn, zx_lreturn, zx_areturn, zx_return_, zx_invokestatic, zx_invokevirtual, zi_ldi, zi_ldl, zi_lda, zi_sti, zi_stl, zi_sta, zi_inc, zi_b2, zi_d2, zi_l2, zi_dl2, zi_lc, zi_u1, zi_pp, zi_dup, zi_dup2, zi_gf, zi_pf, zi_ial, zi_ias, zi_lal, zi_las, zi_aal, zi_aln, zi_cp, zi_cmp, zi_if, zi_ic, zi_nul, zi_nnl, zi_sw, zi_ri, zi_rl, zi_ra, zi_rv, zi_iv, zi_ivr, zi_st1, zi_st2, zq_get0, zq_getS, zq_getN, zq_put0, zq_putS, zq_putN0, zq_putNS, zq_kl0, zq_klS, zq_Ln, zq_Li, zq_Lr, zq_Lf, zq_Lz, zq_Ll, zq_ft0, zq_fti, zq_ftr, zq_ftz, zq_ftf, zq_ftl, zq_pop0, zq_popS, zq_la0, zq_lai, zq_lar, zq_laz, zq_laf, zq_lal, zq_sh0, zq_sh1, zq_sh2, zq_sh3, zq_sh4, zq_f0, zq_f1, zq_f2, zq_f3, zq_u0, zq_u1, zq_u2, zq_ro0, zq_ro1, zq_ro2, zq_fv0, zq_fv2, zq_rfs, zq_rfn, zq_gD0, zq_gDS, zq_gDN, zq_lk0, zq_lkS, zq_tb0, zq_tbS, zq_o0, zq_o1, zq_o2, zq_o98, zq_o99, zq_o100, zq_o105, zq_o107, zq_o112, zq_o115, zq_o116, zq_c0, zq_c1, zq_v0, zq_v1, decide_eq_true_eq, List.toList_toArray, if_true, if_false, ite_self, and_true, true_and, and_false, false_and, true_or, or_true, or_false, false_or, not_true_eq_false, not_false_eq_true, Bool.false_eq_true, reduceCtorEq, ne_eq, ite_not, eq_self, Prod.mk.injEq, Nat.reduceEqDiff, Nat.reduceSub, Nat.reduceAdd, Nat.reduceLT, Nat.reduceLeDiff, zb_21_0, zc_21_0]
  exact l_P_all hp hs hl (n + 1) 0 (by omega)
theorem l_P_out {I : Nat → Nat → Int32} (hp : zIsP p) {ring n k : Nat} {rd : Nat → zRt} (hs : zPs I p ring n rd) (hk : k ≤ n) : ∀ d i, i + d = k → zi_B sc 0 0 23 1 [some (.ref p), some (.int (nI k)), some (.int (nI (zout rd i))), some (.int (nI i))] [] (zm I J) K = K (some (.int (nI (zout rd k)))) (zm I J) := by
  obtain ⟨h1, h2, h3, h4⟩ := id hp
  obtain ⟨⟨g1, g2⟩, ⟨g3, g4⟩, g5⟩ := id hs
  intro d
  induction d with
  | zero =>
    intro i hi
    have : i = k := by omega
    subst this
    have c1 : nI i ≤ nI i := by (simp only [zt_eq, Int32.lt_iff_toInt_lt, Int32.le_iff_toInt_le, zt_add, zt_sub, zt_neg, zt_nI, zl_0, zl_1, zl_2, zl_3, zl_4, zl_5, zl_6, zl_7, zl_8, zl_9, zl_10, zl_16, zl_20, zl_30, zl_60, zl_1080, zl_m1, zl_m2, zl_m9]; omega)
    rw [zb_23_1]
    simp only [zi_wp_c, zi_wK_if, zi_wK_go, zi_wK_no, zi_wK_b, zi_wK_r, zi_wK_c, zi_cc_i, zi_cc_n, zi_B_if, zi_ifF, zx_nop, zx_iconst, zx_bipush, zx_sipush, zx_lconst, zx_ldc2_w, zx_aconst_null, zx_iload, zx_iload_n, zx_lload, zx_lload_n, zx_aload, zx_aload_n, zx_istore, zx_istore_n, zx_lstore, zx_lstore_n, zx_astore, zx_astore_n, zx_iinc, zx_iadd, zx_isub, zx_imul, zx_iand, zx_ior, zx_ishl, zx_ishr, zx_idiv, zx_irem, zx_ladd, zx_ldiv, zx_lrem, zx_lcmp, zx_i2l, zx_i2b, zx_i2s, zx_pop, zx_dup, zx_dup2, zx_getfield, zx_putfield, zx_getstatic, zx_iaload, zx_iastore, zx_laload, zx_lastore, zx_aaload, zx_arraylength, zx_goto, zx_ifCond, zx_if_icmp, zx_ifnull, zx_ifnonnull, zx_tableswitch, zx_lookupswitch, zx_ireturn, zx_lreturn, zx_areturn, zx_return_, zx_invokestatic, zx_invokevirtual, zi_ldi, zi_ldl, zi_lda, zi_sti, zi_stl, zi_sta, zi_inc, zi_b2, zi_d2, zi_l2, zi_dl2, zi_lc, zi_u1, zi_pp, zi_dup, zi_dup2, zi_gf, zi_pf, zi_ial, zi_ias, zi_lal, zi_las, zi_aal, zi_aln, zi_cp, zi_cmp, zi_if, zi_ic, zi_nul, zi_nnl, zi_sw, zi_ri, zi_rl, zi_ra, zi_rv, zi_iv, zi_ivr, zi_st1, zi_st2, zq_get0, zq_getS, zq_getN, zq_put0, zq_putS, zq_putN0, zq_putNS, zq_kl0, zq_klS, zq_Ln, zq_Li, zq_Lr, zq_Lf, zq_Lz, zq_Ll, zq_ft0, zq_fti, zq_ftr, zq_ftz, zq_ftf, zq_ftl, zq_pop0, zq_popS, zq_la0, zq_lai, zq_lar, zq_laz, zq_laf, zq_lal, zq_sh0, zq_sh1, zq_sh2, zq_sh3, zq_sh4, zq_f0, zq_f1, zq_f2, zq_f3, zq_u0, zq_u1, zq_u2, zq_ro0, zq_ro1, zq_ro2, zq_fv0, zq_fv2, zq_rfs, zq_rfn, zq_gD0, zq_gDS, zq_gDN, zq_lk0, zq_lkS, zq_tb0, zq_tbS, zq_o0, zq_o1, zq_o2, zq_o98, zq_o99, zq_o100, zq_o105, zq_o107, zq_o112, zq_o115, zq_o116, zq_c0, zq_c1, zq_v0, zq_v1, decide_eq_true_eq, List.toList_toArray, if_true, if_false, ite_self, and_true, true_and, and_false, false_and, true_or, or_true, or_false, false_or, not_true_eq_false, not_false_eq_true, Bool.false_eq_true, reduceCtorEq, ne_eq, ite_not, eq_self, Prod.mk.injEq, Nat.reduceEqDiff, Nat.reduceSub, Nat.reduceAdd, Nat.reduceLT, Nat.reduceLeDiff, zb_23_2, zc_23_2, h1, zc_23_1, c1]
  | succ d ih =>
    intro i hi
    have c1 : ¬ nI k ≤ nI i := by (simp only [zt_eq, Int32.lt_iff_toInt_lt, Int32.le_iff_toInt_le, zt_add, zt_sub, zt_neg, zt_nI, zl_0, zl_1, zl_2, zl_3, zl_4, zl_5, zl_6, zl_7, zl_8, zl_9, zl_10, zl_16, zl_20, zl_30, zl_60, zl_1080, zl_m1, zl_m2, zl_m9]; omega)
    have c2 : ¬ nI n ≤ nI i := by (simp only [zt_eq, Int32.lt_iff_toInt_lt, Int32.le_iff_toInt_le, zt_add, zt_sub, zt_neg, zt_nI, zl_0, zl_1, zl_2, zl_3, zl_4, zl_5, zl_6, zl_7, zl_8, zl_9, zl_10, zl_16, zl_20, zl_30, zl_60, zl_1080, zl_m1, zl_m2, zl_m9]; omega)
    obtain ⟨e3, e5⟩ := h4 i (by omega)
    have e2 : (nI i).toNatClampNeg = i := nI_clamp (by omega)
    have hv : zi_vin (nI i) 6 = true := zv_nI (by omega) (by omega)
    obtain ⟨w0, w1, w2, w3, -⟩ := g5 i (by omega)
    rw [zb_23_1]
    simp only [zi_wp_c, zi_wK_if, zi_wK_go, zi_wK_no, zi_wK_b, zi_wK_r, zi_wK_c, zi_cc_i, zi_cc_n, zi_B_if, zi_ifF, zx_nop, zx_iconst, zx_bipush, zx_sipush, zx_lconst, zx_ldc2_w, zx_aconst_null, zx_iload, zx_iload_n, zx_lload, zx_lload_n, zx_aload, zx_aload_n, zx_istore, zx_istore_n, zx_lstore, zx_lstore_n, zx_astore, zx_astore_n, zx_iinc, zx_iadd, zx_isub, zx_imul, zx_iand, zx_ior, zx_ishl, zx_ishr, zx_idiv, zx_irem, zx_ladd, zx_ldiv, zx_lrem, zx_lcmp, zx_i2l, zx_i2b, zx_i2s, zx_pop, zx_dup, zx_dup2, zx_getfield, zx_putfield, zx_getstatic, zx_iaload, zx_iastore, zx_laload, zx_lastore, zx_aaload, zx_arraylength, zx_goto, zx_ifCond, zx_if_icmp, zx_ifnull, zx_ifnonnull, zx_tableswitch, zx_lookupswitch, zx_ireturn, zx_lreturn, zx_areturn, zx_return_, zx_invokestatic, zx_invokevirtual, zi_ldi, zi_ldl, zi_lda, zi_sti, zi_stl, zi_sta, zi_inc, zi_b2, zi_d2, zi_l2, zi_dl2, zi_lc, zi_u1, zi_pp, zi_dup, zi_dup2, zi_gf, zi_pf, zi_ial, zi_ias, zi_lal, zi_las, zi_aal, zi_aln, zi_cp, zi_cmp, zi_if, zi_ic, zi_nul, zi_nnl, zi_sw, zi_ri, zi_rl, zi_ra, zi_rv, zi_iv, zi_ivr, zi_st1, zi_st2, zq_get0, zq_getS, zq_getN, zq_put0, zq_putS, zq_putN0, zq_putNS, zq_kl0, zq_klS, zq_Ln, zq_Li, zq_Lr, zq_Lf, zq_Lz, zq_Ll, zq_ft0, zq_fti, zq_ftr, zq_ftz, zq_ftf, zq_ftl, zq_pop0, zq_popS, zq_la0, zq_lai, zq_lar, zq_laz, zq_laf, zq_lal, zq_sh0, zq_sh1, zq_sh2, zq_sh3, zq_sh4, zq_f0, zq_f1, zq_f2, zq_f3, zq_u0, zq_u1, zq_u2, zq_ro0, zq_ro1, zq_ro2, zq_fv0, zq_fv2, zq_rfs, zq_rfn, zq_gD0, zq_gDS, zq_gDN, zq_lk0, zq_lkS, zq_tb0, zq_tbS, zq_o0, zq_o1, zq_o2, zq_o98, zq_o99, zq_o100, zq_o105, zq_o107, zq_o112, zq_o115, zq_o116, zq_c0, zq_c1, zq_v0, zq_v1, decide_eq_true_eq, List.toList_toArray, if_true, if_false, ite_self, and_true, true_and, and_false, false_and, true_or, or_true, or_false, false_or, not_true_eq_false, not_false_eq_true, Bool.false_eq_true, reduceCtorEq, ne_eq, ite_not, eq_self, Prod.mk.injEq, Nat.reduceEqDiff, Nat.reduceSub, Nat.reduceAdd, Nat.reduceLT, Nat.reduceLeDiff, h1, h2, h3, zc_23_1, g2, c1, c2, e3, e2, hv, e5.1, s_R_wide e5.1, w0, w1, zwide_nI w3.1, nI_add]
    rw [show nI i + 1 = nI (i + 1) from nI_1 i]
    exact ih (i + 1) (by omega)
theorem s_P_out {I : Nat → Nat → Int32} (hp : zIsP p) {ring n k : Nat} {rd : Nat → zRt} (hs : zPs I p ring n rd) (hk : k ≤ n) : zi_B sc 0 0 23 0 [some (.ref p), some (.int (nI k))] [] (zm I J) K = K (some (.int (nI (zout rd k)))) (zm I J) := by
  simp only [zi_wp_c, zi_wK_if, zi_wK_go, zi_wK_no, zi_wK_b, zi_wK_r, zi_wK_c, zi_cc_i, zi_cc_n, zi_B_if, zi_ifF, zx_nop, zx_iconst, zx_bipush, zx_sipush, zx_lconst, zx_ldc2_w, zx_aconst_null, zx_iload, zx_iload_n, zx_lload, zx_lload_n, zx_aload, zx_aload_n, zx_istore, zx_istore_n, zx_lstore, zx_lstore_n, zx_astore, zx_astore_n, zx_iinc, zx_iadd, zx_isub, zx_imul, zx_iand, zx_ior, zx_ishl, zx_ishr, zx_idiv, zx_irem, zx_ladd, zx_ldiv, zx_lrem, zx_lcmp, zx_i2l, zx_i2b, zx_i2s, zx_pop, zx_dup, zx_dup2, zx_getfield, zx_putfield, zx_getstatic, zx_iaload, zx_iastore, zx_laload, zx_lastore, zx_aaload, zx_arraylength, zx_goto, zx_ifCond, zx_if_icmp, zx_ifnull, zx_ifnonnull, zx_tableswitch, zx_lookupswitch, zx_ireturn, zx_lreturn, zx_areturn, zx_return_, zx_invokestatic, zx_invokevirtual, zi_ldi, zi_ldl, zi_lda, zi_sti, zi_stl, zi_sta, zi_inc, zi_b2, zi_d2, zi_l2, zi_dl2, zi_lc, zi_u1, zi_pp, zi_dup, zi_dup2, zi_gf, zi_pf, zi_ial, zi_ias, zi_lal, zi_las, zi_aal, zi_aln, zi_cp, zi_cmp, zi_if, zi_ic, zi_nul, zi_nnl, zi_sw, zi_ri, zi_rl, zi_ra, zi_rv, zi_iv, zi_ivr, zi_st1, zi_st2, zq_get0, zq_getS, zq_getN, zq_put0, zq_putS, zq_putN0, zq_putNS, zq_kl0, zq_klS, zq_Ln, zq_Li, zq_Lr, zq_Lf, zq_Lz, zq_Ll, zq_ft0, zq_fti, zq_ftr, zq_ftz, zq_ftf, zq_ftl, zq_pop0, zq_popS, zq_la0, zq_lai, zq_lar, zq_laz, zq_laf, zq_lal, zq_sh0, zq_sh1, zq_sh2, zq_sh3, zq_sh4, zq_f0, zq_f1, zq_f2, zq_f3, zq_u0, zq_u1, zq_u2, zq_ro0, zq_ro1, zq_ro2, zq_fv0, zq_fv2, zq_rfs, zq_rfn, zq_gD0, zq_gDS, zq_gDN, zq_lk0, zq_lkS, zq_tb0, zq_tbS, zq_o0, zq_o1, zq_o2, zq_o98, zq_o99, zq_o100, zq_o105, zq_o107, zq_o112, zq_o115, zq_o116, zq_c0, zq_c1, zq_v0, zq_v1, decide_eq_true_eq, List.toList_toArray, if_true, if_false, ite_self, and_true, true_and, and_false, false_and, true_or, or_true, or_false, false_or, not_true_eq_false, not_false_eq_true, Bool.false_eq_true, reduceCtorEq, ne_eq, ite_not, eq_self, Prod.mk.injEq, Nat.reduceEqDiff, Nat.reduceSub, Nat.reduceAdd, Nat.reduceLT, Nat.reduceLeDiff, zb_23_0, zc_23_0]
  exact l_P_out hp hs hk k 0 (by omega)
/-- which ROUND does not come out -/
def zfoI (r : Nat) : Int32 := if r = 0 then -9 else nI r
theorem l_P_fno (hp : zIsP p) {ring n : Nat} {rd : Nat → zRt} : ∀ d i (I : Nat → Nat → Int32), i + d = n → zPs I p ring n rd → (∀ r, r < i → I (p + 2 + 2 * r) 5 = nI (zlp ring rd (r + 1)) ∧ I (p + 2 + 2 * r) 4 = nI (zlp ring rd r / zuR (rd r))) →
    (∀ I', zAg p (p + 14) I I' → I' p = I p → zPs I' p ring n rd → (zfo ring rd d (i + 1) = 0 → zPl I' p ring n rd) → K (some (.int (zfoI (zfo ring rd d (i + 1))))) (zm I' J)) → zi_B sc 0 0 22 1 [some (.ref p), some (.int (nI (i + 1)))] [] (zm I J) K := by
  obtain ⟨h1, h2, h3, h4⟩ := id hp
  intro d
  induction d with
  | zero =>
    intro i I hi hs hl hK
    have : i = n := by omega
    subst this
    obtain ⟨⟨g1, g2⟩, ⟨g3, g4⟩, g5⟩ := id hs
    have c1 : nI i < nI (i + 1) := by (simp only [zt_eq, Int32.lt_iff_toInt_lt, Int32.le_iff_toInt_le, zt_add, zt_sub, zt_neg, zt_nI, zl_0, zl_1, zl_2, zl_3, zl_4, zl_5, zl_6, zl_7, zl_8, zl_9, zl_10, zl_16, zl_20, zl_30, zl_60, zl_1080, zl_m1, zl_m2, zl_m9]; omega)
    rw [zb_22_1]
    simp only [zi_wp_c, zi_wK_if, zi_wK_go, zi_wK_no, zi_wK_b, zi_wK_r, zi_wK_c, zi_cc_i, zi_cc_n, zi_B_if, zi_ifF, zx_nop, zx_iconst, zx_bipush, zx_sipush, zx_lconst, zx_ldc2_w, zx_aconst_null, zx_iload, zx_iload_n, zx_lload, zx_lload_n, zx_aload, zx_aload_n, zx_istore, zx_istore_n, zx_lstore, zx_lstore_n, zx_astore, zx_astore_n, zx_iinc, zx_iadd, zx_isub, zx_imul, zx_iand, zx_ior, zx_ishl, zx_ishr, zx_idiv, zx_irem, zx_ladd, zx_ldiv, zx_lrem, zx_lcmp, zx_i2l, zx_i2b, zx_i2s, zx_pop, zx_dup, zx_dup2, zx_getfield, zx_putfield, zx_getstatic, zx_iaload, zx_iastore, zx_laload, zx_lastore, zx_aaload, zx_arraylength, zx_goto, zx_ifCond, zx_if_icmp, zx_ifnull, zx_ifnonnull, zx_tableswitch, zx_lookupswitch, zx_ireturn, zx_lreturn, zx_areturn, zx_return_, zx_invokestatic, zx_invokevirtual, zi_ldi, zi_ldl, zi_lda, zi_sti, zi_stl, zi_sta, zi_inc, zi_b2, zi_d2, zi_l2, zi_dl2, zi_lc, zi_u1, zi_pp, zi_dup, zi_dup2, zi_gf, zi_pf, zi_ial, zi_ias, zi_lal, zi_las, zi_aal, zi_aln, zi_cp, zi_cmp, zi_if, zi_ic, zi_nul, zi_nnl, zi_sw, zi_ri, zi_rl, zi_ra, zi_rv, zi_iv, zi_ivr, zi_st1, zi_st2, zq_get0, zq_getS, zq_getN, zq_put0, zq_putS, zq_putN0, zq_putNS, zq_kl0, zq_klS, zq_Ln, zq_Li, zq_Lr, zq_Lf, zq_Lz, zq_Ll, zq_ft0, zq_fti, zq_ftr, zq_ftz, zq_ftf, zq_ftl, zq_pop0, zq_popS, zq_la0, zq_lai, zq_lar, zq_laz, zq_laf, zq_lal, zq_sh0, zq_sh1, zq_sh2, zq_sh3, zq_sh4, zq_f0, zq_f1, zq_f2, zq_f3, zq_u0, zq_u1, zq_u2, zq_ro0, zq_ro1, zq_ro2, zq_fv0, zq_fv2, zq_rfs, zq_rfn, zq_gD0, zq_gDS, zq_gDN, zq_lk0, zq_lkS, zq_tb0, zq_tbS, zq_o0, zq_o1, zq_o2, zq_o98, zq_o99, zq_o100, zq_o105, zq_o107, zq_o112, zq_o115, zq_o116, zq_c0, zq_c1, zq_v0, zq_v1, decide_eq_true_eq, List.toList_toArray, if_true, if_false, ite_self, and_true, true_and, and_false, false_and, true_or, or_true, or_false, false_or, not_true_eq_false, not_false_eq_true, Bool.false_eq_true, reduceCtorEq, ne_eq, ite_not, eq_self, Prod.mk.injEq, Nat.reduceEqDiff, Nat.reduceSub, Nat.reduceAdd, Nat.reduceLT, Nat.reduceLeDiff, zb_22_3, zc_22_3, h1, zc_22_1, g2, c1]
    exact hK I zAg.rf rfl hs (fun _ => hl)
  | succ d ih =>
    intro i I hi hs hl hK
    obtain ⟨⟨g1, g2⟩, ⟨g3, g4⟩, g5⟩ := id hs
    have c1 : ¬ nI n < nI (i + 1) := by (simp only [zt_eq, Int32.lt_iff_toInt_lt, Int32.le_iff_toInt_le, zt_add, zt_sub, zt_neg, zt_nI, zl_0, zl_1, zl_2, zl_3, zl_4, zl_5, zl_6, zl_7, zl_8, zl_9, zl_10, zl_16, zl_20, zl_30, zl_60, zl_1080, zl_m1, zl_m2, zl_m9]; omega)
    have e1 : nI (i + 1) - 1 = nI i := nI_pred i
    have e2 : (nI i).toNatClampNeg = i := nI_clamp (by omega)
    have hv : zi_vin (nI i) 6 = true := zv_nI (by omega) (by omega)
    obtain ⟨e3, e5⟩ := h4 i (by omega)
    have eb : zli I p i = nI (zlp ring rd i) := by
      cases i with
      | zero => exact g1
      | succ i => exact (hl i (by omega)).1
    have hx := g5 i (by omega)
    have d1 : ¬ (1 : Int32) = 0 := by decide
    have hz : zlp ring rd (i + 1) = zco (zlp ring rd i) (zuR (rd i)) (zmR (rd i)) := rfl
    rw [zb_22_1]
    have key : ∀ I', I' = zi_up (zi_up I (p + 2 + 2 * i) 5 (nI (zco (zlp ring rd i) (zuR (rd i)) (zmR (rd i))))) (p + 2 + 2 * i) 4 (nI (zlp ring rd i / zuR (rd i))) → zAg p (p + 14) I I' ∧ I' p = I p ∧ zPs I' p ring n rd ∧ (∀ r, r < i + 1 → I' (p + 2 + 2 * r) 5 = nI (zlp ring rd (r + 1)) ∧ I' (p + 2 + 2 * r) 4 = nI (zlp ring rd r / zuR (rd r))) := by
      intro I' hI'
      have ho : ∀ a, a ≠ p + 2 + 2 * i → I' a = I a := fun a ha => by rw [hI', zu_up_ne _ ha, zu_up_ne _ ha]
      have hi5 : I' (p + 2 + 2 * i) 5 = nI (zlp ring rd (i + 1)) := by rw [hI', hz]; simp only [zu_up, if_true, Nat.reduceEqDiff, if_false]
      have hi4 : I' (p + 2 + 2 * i) 4 = nI (zlp ring rd i / zuR (rd i)) := by rw [hI']; simp only [zu_up, if_true]
      have hi0 : I' (p + 2 + 2 * i) 0 = I (p + 2 + 2 * i) 0 ∧ I' (p + 2 + 2 * i) 1 = I (p + 2 + 2 * i) 1 ∧ I' (p + 2 + 2 * i) 2 = I (p + 2 + 2 * i) 2 := by
        rw [hI']; simp only [zu_up, if_true, Nat.reduceEqDiff, if_false, and_self]
      refine ⟨fun a ha => ho a (by omega), ho p (by omega), ⟨⟨by rw [ho p (by omega)]; exact g1, by rw [ho p (by omega)]; exact g2⟩, ⟨g3, g4⟩, fun r hr => ?_⟩, fun r hr => ?_⟩
      · by_cases hri : r = i
        · subst hri
          exact (g5 r hr).kept hi0 (fun j _ => by rw [ho _ (by omega)])
        · exact (g5 r hr).kept ⟨by rw [ho _ (by omega)], by rw [ho _ (by omega)], by rw [ho _ (by omega)]⟩ (fun j _ => by rw [ho _ (by omega)])
      · by_cases hri : r = i
        · subst hri
          exact ⟨hi5, hi4⟩
        · rw [ho _ (by omega)]
          exact hl r (by omega)
    obtain ⟨k1, k2, k3, k4⟩ := key _ rfl
    by_cases c : 0 < zco (zlp ring rd i) (zuR (rd i)) (zmR (rd i))
    · simp only [zi_wp_c, zi_wK_if, zi_wK_go, zi_wK_no, zi_wK_b, zi_wK_r, zi_wK_c, zi_cc_i, zi_cc_n, zi_B_if, zi_ifF, zx_nop, zx_iconst, zx_bipush, zx_sipush, zx_lconst, zx_ldc2_w, zx_aconst_null, zx_iload, zx_iload_n, zx_lload, zx_lload_n, zx_aload, zx_aload_n, zx_istore, zx_istore_n, zx_lstore, zx_lstore_n, zx_astore, zx_astore_n, zx_iinc, zx_iadd, zx_isub, zx_imul, zx_iand, zx_ior, zx_ishl, zx_ishr, zx_idiv, zx_irem, zx_ladd, zx_ldiv, zx_lrem, zx_lcmp, zx_i2l, zx_i2b, zx_i2s, zx_pop, zx_dup, zx_dup2, zx_getfield, zx_putfield, zx_getstatic, zx_iaload, zx_iastore, zx_laload, zx_lastore, zx_aaload, zx_arraylength, zx_goto, zx_ifCond, zx_if_icmp, zx_ifnull, zx_ifnonnull, zx_tableswitch, zx_lookupswitch, zx_ireturn, zx_lreturn, zx_areturn, zx_return_, zx_invokestatic, zx_invokevirtual, zi_ldi, zi_ldl, zi_lda, zi_sti, zi_stl, zi_sta, zi_inc, zi_b2, zi_d2, zi_l2, zi_dl2, zi_lc, zi_u1, zi_pp, zi_dup, zi_dup2, zi_gf, zi_pf, zi_ial, zi_ias, zi_lal, zi_las, zi_aal, zi_aln, zi_cp, zi_cmp, zi_if, zi_ic, zi_nul, zi_nnl, zi_sw, zi_ri, zi_rl, zi_ra, zi_rv, zi_iv, zi_ivr, zi_st1, zi_st2, zq_get0, zq_getS, zq_getN, zq_put0, zq_putS, zq_putN0, zq_putNS, zq_kl0, zq_klS, zq_Ln, zq_Li, zq_Lr, zq_Lf, zq_Lz, zq_Ll, zq_ft0, zq_fti, zq_ftr, zq_ftz, zq_ftf, zq_ftl, zq_pop0, zq_popS, zq_la0, zq_lai, zq_lar, zq_laz, zq_laf, zq_lal, zq_sh0, zq_sh1, zq_sh2, zq_sh3, zq_sh4, zq_f0, zq_f1, zq_f2, zq_f3, zq_u0, zq_u1, zq_u2, zq_ro0, zq_ro1, zq_ro2, zq_fv0, zq_fv2, zq_rfs, zq_rfn, zq_gD0, zq_gDS, zq_gDN, zq_lk0, zq_lkS, zq_tb0, zq_tbS, zq_o0, zq_o1, zq_o2, zq_o98, zq_o99, zq_o100, zq_o105, zq_o107, zq_o112, zq_o115, zq_o116, zq_c0, zq_c1, zq_v0, zq_v1, decide_eq_true_eq, List.toList_toArray, if_true, if_false, ite_self, and_true, true_and, and_false, false_and, true_or, or_true, or_false, false_or, not_true_eq_false, not_false_eq_true, Bool.false_eq_true, reduceCtorEq, ne_eq, ite_not, eq_self, Prod.mk.injEq, Nat.reduceEqDiff, Nat.reduceSub, Nat.reduceAdd, Nat.reduceLT, Nat.reduceLeDiff, zb_22_2, zc_22_2, h1, h2, h3, zc_22_1, g2, c1, e1, e2, hv, e3, e5.1, s_P_loopsIn hp g2 g4 (show i ≤ n by omega), eb, s_R_co e5 hx (zlp_le g3 rd i), c, d1]
      rw [show nI (i + 1) + 1 = nI (i + 1 + 1) from nI_1 _]
      refine ih (i + 1) _ (by omega) k3 k4 (fun I' a1 a2 a3 a4 => ?_)
      have hf : zfo ring rd (d + 1) (i + 1) = zfo ring rd d (i + 1 + 1) := by
        show (if zlp ring rd (i + 1) = 0 then i + 1 else _) = _
        rw [if_neg (by rw [hz]; omega)]
      have hK2 := hK I' (k1.tr a1) (a2.trans k2) a3
      rw [hf] at hK2
      exact hK2 a4
    · simp only [zi_wp_c, zi_wK_if, zi_wK_go, zi_wK_no, zi_wK_b, zi_wK_r, zi_wK_c, zi_cc_i, zi_cc_n, zi_B_if, zi_ifF, zx_nop, zx_iconst, zx_bipush, zx_sipush, zx_lconst, zx_ldc2_w, zx_aconst_null, zx_iload, zx_iload_n, zx_lload, zx_lload_n, zx_aload, zx_aload_n, zx_istore, zx_istore_n, zx_lstore, zx_lstore_n, zx_astore, zx_astore_n, zx_iinc, zx_iadd, zx_isub, zx_imul, zx_iand, zx_ior, zx_ishl, zx_ishr, zx_idiv, zx_irem, zx_ladd, zx_ldiv, zx_lrem, zx_lcmp, zx_i2l, zx_i2b, zx_i2s, zx_pop, zx_dup, zx_dup2, zx_getfield, zx_putfield, zx_getstatic, zx_iaload, zx_iastore, zx_laload, zx_lastore, zx_aaload, zx_arraylength, zx_goto, zx_ifCond, zx_if_icmp, zx_ifnull, zx_ifnonnull, zx_tableswitch, zx_lookupswitch, zx_ireturn, zx_lreturn, zx_areturn, zx_return_, zx_invokestatic, zx_invokevirtual, zi_ldi, zi_ldl, zi_lda, zi_sti, zi_stl, zi_sta, zi_inc, zi_b2, zi_d2, zi_l2, zi_dl2, zi_lc, zi_u1, zi_pp, zi_dup, zi_dup2, zi_gf, zi_pf, zi_ial, zi_ias, zi_lal, zi_las, zi_aal, zi_aln, zi_cp, zi_cmp, zi_if, zi_ic, zi_nul, zi_nnl, zi_sw, zi_ri, zi_rl, zi_ra, zi_rv, zi_iv, zi_ivr, zi_st1, zi_st2, zq_get0, zq_getS, zq_getN, zq_put0, zq_putS, zq_putN0, zq_putNS, zq_kl0, zq_klS, zq_Ln, zq_Li, zq_Lr, zq_Lf, zq_Lz, zq_Ll, zq_ft0, zq_fti, zq_ftr, zq_ftz, zq_ftf, zq_ftl, zq_pop0, zq_popS, zq_la0, zq_lai, zq_lar, zq_laz, zq_laf, zq_lal, zq_sh0, zq_sh1, zq_sh2, zq_sh3, zq_sh4, zq_f0, zq_f1, zq_f2, zq_f3, zq_u0, zq_u1, zq_u2, zq_ro0, zq_ro1, zq_ro2, zq_fv0, zq_fv2, zq_rfs, zq_rfn, zq_gD0, zq_gDS, zq_gDN, zq_lk0, zq_lkS, zq_tb0, zq_tbS, zq_o0, zq_o1, zq_o2, zq_o98, zq_o99, zq_o100, zq_o105, zq_o107, zq_o112, zq_o115, zq_o116, zq_c0, zq_c1, zq_v0, zq_v1, decide_eq_true_eq, List.toList_toArray, if_true, if_false, ite_self, and_true, true_and, and_false, false_and, true_or, or_true, or_false, false_or, not_true_eq_false, not_false_eq_true, Bool.false_eq_true, reduceCtorEq, ne_eq, ite_not, eq_self, Prod.mk.injEq, Nat.reduceEqDiff, Nat.reduceSub, Nat.reduceAdd, Nat.reduceLT, Nat.reduceLeDiff, zb_22_2, zc_22_2, h1, h2, h3, zc_22_1, g2, c1, e1, e2, hv, e3, e5.1, s_P_loopsIn hp g2 g4 (show i ≤ n by omega), eb, s_R_co e5 hx (zlp_le g3 rd i), c]
      have hf : zfo ring rd (d + 1) (i + 1) = i + 1 := by
        show (if zlp ring rd (i + 1) = 0 then i + 1 else _) = _
        rw [if_pos (by rw [hz]; omega)]
      have hK2 := hK _ k1 k2 k3
      rw [hf] at hK2
      exact hK2 (fun h => absurd h (by omega))
theorem s_P_fno {I : Nat → Nat → Int32} (hp : zIsP p) {ring n : Nat} {rd : Nat → zRt} (hs : zPs I p ring n rd) (hK : ∀ I', zAg p (p + 14) I I' → I' p = I p → zPs I' p ring n rd → (zfo ring rd n 1 = 0 → zPl I' p ring n rd) → K (some (.int (zfoI (zfo ring rd n 1)))) (zm I' J)) : zi_B sc 0 0 22 0 [some (.ref p)] [] (zm I J) K := by
  simp only [zi_wp_c, zi_wK_if, zi_wK_go, zi_wK_no, zi_wK_b, zi_wK_r, zi_wK_c, zi_cc_i, zi_cc_n, zi_B_if, zi_ifF, zx_nop, zx_iconst, zx_bipush, zx_sipush, zx_lconst, zx_ldc2_w, zx_aconst_null, zx_iload, zx_iload_n, zx_lload, zx_lload_n, zx_aload, zx_aload_n, zx_istore, zx_istore_n, zx_lstore, zx_lstore_n, zx_astore, zx_astore_n, zx_iinc, zx_iadd, zx_isub, zx_imul, zx_iand, zx_ior, zx_ishl, zx_ishr, zx_idiv, zx_irem, zx_ladd, zx_ldiv, zx_lrem, zx_lcmp, zx_i2l, zx_i2b, zx_i2s, zx_pop, zx_dup, zx_dup2, zx_getfield, zx_putfield, zx_getstatic, zx_iaload, zx_iastore, zx_laload, zx_lastore, zx_aaload, zx_arraylength, zx_goto, zx_ifCond, zx_if_icmp, zx_ifnull, zx_ifnonnull, zx_tableswitch, zx_lookupswitch, zx_ireturn, zx_lreturn, zx_areturn, zx_return_, zx_invokestatic, zx_invokevirtual, zi_ldi, zi_ldl, zi_lda, zi_sti, zi_stl, zi_sta, zi_inc, zi_b2, zi_d2, zi_l2, zi_dl2, zi_lc, zi_u1, zi_pp, zi_dup, zi_dup2, zi_gf, zi_pf, zi_ial, zi_ias, zi_lal, zi_las, zi_aal, zi_aln, zi_cp, zi_cmp, zi_if, zi_ic, zi_nul, zi_nnl, zi_sw, zi_ri, zi_rl, zi_ra, zi_rv, zi_iv, zi_ivr, zi_st1, zi_st2, zq_get0, zq_getS, zq_getN, zq_put0, zq_putS, zq_putN0, zq_putNS, zq_kl0, zq_klS, zq_Ln, zq_Li, zq_Lr, zq_Lf, zq_Lz, zq_Ll, zq_ft0, zq_fti, zq_ftr, zq_ftz, zq_ftf, zq_ftl, zq_pop0, zq_popS, zq_la0, zq_lai, zq_lar, zq_laz, zq_laf, zq_lal, zq_sh0, zq_sh1, zq_sh2, zq_sh3, zq_sh4, zq_f0, zq_f1, zq_f2, zq_f3, zq_u0, zq_u1, zq_u2, zq_ro0, zq_ro1, zq_ro2, zq_fv0, zq_fv2, zq_rfs, zq_rfn, zq_gD0, zq_gDS, zq_gDN, zq_lk0, zq_lkS, zq_tb0, zq_tbS, zq_o0, zq_o1, zq_o2, zq_o98, zq_o99, zq_o100, zq_o105, zq_o107, zq_o112, zq_o115, zq_o116, zq_c0, zq_c1, zq_v0, zq_v1, decide_eq_true_eq, List.toList_toArray, if_true, if_false, ite_self, and_true, true_and, and_false, false_and, true_or, or_true, or_false, false_or, not_true_eq_false, not_false_eq_true, Bool.false_eq_true, reduceCtorEq, ne_eq, ite_not, eq_self, Prod.mk.injEq, Nat.reduceEqDiff, Nat.reduceSub, Nat.reduceAdd, Nat.reduceLT, Nat.reduceLeDiff, zb_22_0, zc_22_0]
  exact l_P_fno hp n 0 I (by omega) hs (fun r hr => absurd hr (Nat.not_lt_zero _)) hK
end ZQ
end
