-- ===== PART A: goes FIRST, ahead of the names: the tables' words, and 'selects' of the private methods out of them =====
/-- a private method of a class that the tables say can be made, by its rows of tables_1 -/
def lw_okq (q : MethodName × Nat) : Prop := (q.1.cls ≠ "java/lang/invoke/MethodHandle" ∧ q.1.cls ≠ "java/lang/invoke/VarHandle") ∧ Cond.instantiable q.1.cls q.2 ∈ tables_1 ∧ Cond.privateMethod q.1 ∈ tables_1 ∧ Cond.instanceMethod q.1 ∈ tables_1
theorem lw_p0 : lw_okq (⟨"FarFromAnybody", "forgetWays", "()V"⟩, 14) := ⟨⟨by decide +kernel, by decide +kernel⟩, List.mem_of_getElem? (i := 19) (by decide +kernel), List.mem_of_getElem? (i := 358) (by decide +kernel), List.mem_of_getElem? (i := 359) (by decide +kernel)⟩
theorem lw_p1 : lw_okq (⟨"FarFromAnybody", "setFine", "(I)Z"⟩, 14) := ⟨⟨by decide +kernel, by decide +kernel⟩, List.mem_of_getElem? (i := 19) (by decide +kernel), List.mem_of_getElem? (i := 423) (by decide +kernel), List.mem_of_getElem? (i := 424) (by decide +kernel)⟩
theorem lw_p2 : lw_okq (⟨"FarFromAnybody", "setAtOnce", "(I)Z"⟩, 14) := ⟨⟨by decide +kernel, by decide +kernel⟩, List.mem_of_getElem? (i := 19) (by decide +kernel), List.mem_of_getElem? (i := 427) (by decide +kernel), List.mem_of_getElem? (i := 428) (by decide +kernel)⟩
theorem lw_p3 : lw_okq (⟨"FarFromAnybody", "setMode", "(II)Z"⟩, 14) := ⟨⟨by decide +kernel, by decide +kernel⟩, List.mem_of_getElem? (i := 19) (by decide +kernel), List.mem_of_getElem? (i := 431) (by decide +kernel), List.mem_of_getElem? (i := 432) (by decide +kernel)⟩
theorem lw_p4 : lw_okq (⟨"FarFromAnybody", "putTent", "(II)Z"⟩, 14) := ⟨⟨by decide +kernel, by decide +kernel⟩, List.mem_of_getElem? (i := 19) (by decide +kernel), List.mem_of_getElem? (i := 439) (by decide +kernel), List.mem_of_getElem? (i := 440) (by decide +kernel)⟩
theorem lw_p5 : lw_okq (⟨"FarFromAnybody", "tapeNumber", "(I)V"⟩, 14) := ⟨⟨by decide +kernel, by decide +kernel⟩, List.mem_of_getElem? (i := 19) (by decide +kernel), List.mem_of_getElem? (i := 447) (by decide +kernel), List.mem_of_getElem? (i := 448) (by decide +kernel)⟩
theorem lw_p6 : lw_okq (⟨"FarFromAnybody$Reader", "split", "([BI)V"⟩, 11) := ⟨⟨by decide +kernel, by decide +kernel⟩, List.mem_of_getElem? (i := 459) (by decide +kernel), List.mem_of_getElem? (i := 508) (by decide +kernel), List.mem_of_getElem? (i := 509) (by decide +kernel)⟩
theorem lw_p7 : lw_okq (⟨"FarFromAnybody$Reader", "addWord", "([BII)V"⟩, 11) := ⟨⟨by decide +kernel, by decide +kernel⟩, List.mem_of_getElem? (i := 459) (by decide +kernel), List.mem_of_getElem? (i := 515) (by decide +kernel), List.mem_of_getElem? (i := 516) (by decide +kernel)⟩
theorem lw_p8 : lw_okq (⟨"FarFromAnybody$Reader", "addToken", "(III)V"⟩, 11) := ⟨⟨by decide +kernel, by decide +kernel⟩, List.mem_of_getElem? (i := 459) (by decide +kernel), List.mem_of_getElem? (i := 581) (by decide +kernel), List.mem_of_getElem? (i := 582) (by decide +kernel)⟩
theorem lw_p9 : lw_okq (⟨"FarFromAnybody$Reader", "addNumber", "([BII)V"⟩, 11) := ⟨⟨by decide +kernel, by decide +kernel⟩, List.mem_of_getElem? (i := 459) (by decide +kernel), List.mem_of_getElem? (i := 593) (by decide +kernel), List.mem_of_getElem? (i := 594) (by decide +kernel)⟩
theorem lw_p10 : lw_okq (⟨"FarFromAnybody$Reader", "refuse", "(I)Z"⟩, 11) := ⟨⟨by decide +kernel, by decide +kernel⟩, List.mem_of_getElem? (i := 459) (by decide +kernel), List.mem_of_getElem? (i := 597) (by decide +kernel), List.mem_of_getElem? (i := 598) (by decide +kernel)⟩
theorem lw_p11 : lw_okq (⟨"FarFromAnybody$Reader", "readSign", "(I)Z"⟩, 11) := ⟨⟨by decide +kernel, by decide +kernel⟩, List.mem_of_getElem? (i := 459) (by decide +kernel), List.mem_of_getElem? (i := 601) (by decide +kernel), List.mem_of_getElem? (i := 602) (by decide +kernel)⟩
theorem lw_p12 : lw_okq (⟨"FarFromAnybody$Reader", "goOn", "()V"⟩, 11) := ⟨⟨by decide +kernel, by decide +kernel⟩, List.mem_of_getElem? (i := 459) (by decide +kernel), List.mem_of_getElem? (i := 605) (by decide +kernel), List.mem_of_getElem? (i := 606) (by decide +kernel)⟩
theorem lw_p13 : lw_okq (⟨"FarFromAnybody$Reader", "readAmount", "()Z"⟩, 11) := ⟨⟨by decide +kernel, by decide +kernel⟩, List.mem_of_getElem? (i := 459) (by decide +kernel), List.mem_of_getElem? (i := 609) (by decide +kernel), List.mem_of_getElem? (i := 610) (by decide +kernel)⟩
theorem lw_p14 : lw_okq (⟨"FarFromAnybody$Reader", "readUnit", "(I)Z"⟩, 11) := ⟨⟨by decide +kernel, by decide +kernel⟩, List.mem_of_getElem? (i := 459) (by decide +kernel), List.mem_of_getElem? (i := 613) (by decide +kernel), List.mem_of_getElem? (i := 614) (by decide +kernel)⟩
theorem lw_p15 : lw_okq (⟨"FarFromAnybody$Reader", "addStep", "(II)V"⟩, 11) := ⟨⟨by decide +kernel, by decide +kernel⟩, List.mem_of_getElem? (i := 459) (by decide +kernel), List.mem_of_getElem? (i := 617) (by decide +kernel), List.mem_of_getElem? (i := 618) (by decide +kernel)⟩
def lw_privs_1 : List (MethodName × Nat) := [(⟨"FarFromAnybody", "forgetWays", "()V"⟩, 14), (⟨"FarFromAnybody", "setFine", "(I)Z"⟩, 14), (⟨"FarFromAnybody", "setAtOnce", "(I)Z"⟩, 14), (⟨"FarFromAnybody", "setMode", "(II)Z"⟩, 14), (⟨"FarFromAnybody", "putTent", "(II)Z"⟩, 14), (⟨"FarFromAnybody", "tapeNumber", "(I)V"⟩, 14), (⟨"FarFromAnybody$Reader", "split", "([BI)V"⟩, 11), (⟨"FarFromAnybody$Reader", "addWord", "([BII)V"⟩, 11), (⟨"FarFromAnybody$Reader", "addToken", "(III)V"⟩, 11), (⟨"FarFromAnybody$Reader", "addNumber", "([BII)V"⟩, 11), (⟨"FarFromAnybody$Reader", "refuse", "(I)Z"⟩, 11), (⟨"FarFromAnybody$Reader", "readSign", "(I)Z"⟩, 11), (⟨"FarFromAnybody$Reader", "goOn", "()V"⟩, 11), (⟨"FarFromAnybody$Reader", "readAmount", "()Z"⟩, 11), (⟨"FarFromAnybody$Reader", "readUnit", "(I)Z"⟩, 11), (⟨"FarFromAnybody$Reader", "addStep", "(II)V"⟩, 11)]
theorem lw_r1 : ∀ q ∈ lw_privs_1, lw_okq q := List.forall_mem_cons.mpr ⟨lw_p0, List.forall_mem_cons.mpr ⟨lw_p1, List.forall_mem_cons.mpr ⟨lw_p2, List.forall_mem_cons.mpr ⟨lw_p3, List.forall_mem_cons.mpr ⟨lw_p4, List.forall_mem_cons.mpr ⟨lw_p5, List.forall_mem_cons.mpr ⟨lw_p6, List.forall_mem_cons.mpr ⟨lw_p7, List.forall_mem_cons.mpr ⟨lw_p8, List.forall_mem_cons.mpr ⟨lw_p9, List.forall_mem_cons.mpr ⟨lw_p10, List.forall_mem_cons.mpr ⟨lw_p11, List.forall_mem_cons.mpr ⟨lw_p12, List.forall_mem_cons.mpr ⟨lw_p13, List.forall_mem_cons.mpr ⟨lw_p14, List.forall_mem_cons.mpr ⟨lw_p15, fun _ h => absurd h List.not_mem_nil⟩⟩⟩⟩⟩⟩⟩⟩⟩⟩⟩⟩⟩⟩⟩⟩
theorem lw_p16 : lw_okq (⟨"FarFromAnybody$Reader", "readPart", "()Z"⟩, 11) := ⟨⟨by decide +kernel, by decide +kernel⟩, List.mem_of_getElem? (i := 459) (by decide +kernel), List.mem_of_getElem? (i := 621) (by decide +kernel), List.mem_of_getElem? (i := 622) (by decide +kernel)⟩
theorem lw_p17 : lw_okq (⟨"FarFromAnybody$Reader", "readEither", "(I)Z"⟩, 11) := ⟨⟨by decide +kernel, by decide +kernel⟩, List.mem_of_getElem? (i := 459) (by decide +kernel), List.mem_of_getElem? (i := 625) (by decide +kernel), List.mem_of_getElem? (i := 626) (by decide +kernel)⟩
theorem lw_p18 : lw_okq (⟨"FarFromAnybody$Reader", "readBoth", "(I)Z"⟩, 11) := ⟨⟨by decide +kernel, by decide +kernel⟩, List.mem_of_getElem? (i := 459) (by decide +kernel), List.mem_of_getElem? (i := 629) (by decide +kernel), List.mem_of_getElem? (i := 630) (by decide +kernel)⟩
theorem lw_p19 : lw_okq (⟨"FarFromAnybody$Reader", "readClaim", "(I)Z"⟩, 11) := ⟨⟨by decide +kernel, by decide +kernel⟩, List.mem_of_getElem? (i := 459) (by decide +kernel), List.mem_of_getElem? (i := 633) (by decide +kernel), List.mem_of_getElem? (i := 634) (by decide +kernel)⟩
theorem lw_p20 : lw_okq (⟨"FarFromAnybody$Days", "wishOf", "(IZ)I"⟩, 5) := ⟨⟨by decide +kernel, by decide +kernel⟩, List.mem_of_getElem? (i := 221) (by decide +kernel), List.mem_of_getElem? (i := 673) (by decide +kernel), List.mem_of_getElem? (i := 674) (by decide +kernel)⟩
theorem lw_p21 : lw_okq (⟨"FarFromAnybody$Days", "whimOf", "(I)I"⟩, 5) := ⟨⟨by decide +kernel, by decide +kernel⟩, List.mem_of_getElem? (i := 221) (by decide +kernel), List.mem_of_getElem? (i := 677) (by decide +kernel), List.mem_of_getElem? (i := 678) (by decide +kernel)⟩
theorem lw_p22 : lw_okq (⟨"FarFromAnybody$King", "measureKin", "(I)V"⟩, 8) := ⟨⟨by decide +kernel, by decide +kernel⟩, List.mem_of_getElem? (i := 187) (by decide +kernel), List.mem_of_getElem? (i := 693) (by decide +kernel), List.mem_of_getElem? (i := 694) (by decide +kernel)⟩
theorem lw_p23 : lw_okq (⟨"FarFromAnybody$King", "measureAt", "(II)V"⟩, 8) := ⟨⟨by decide +kernel, by decide +kernel⟩, List.mem_of_getElem? (i := 187) (by decide +kernel), List.mem_of_getElem? (i := 701) (by decide +kernel), List.mem_of_getElem? (i := 702) (by decide +kernel)⟩
theorem lw_p24 : lw_okq (⟨"FarFromAnybody$Thought", "circleUpTo", "(I)I"⟩, 13) := ⟨⟨by decide +kernel, by decide +kernel⟩, List.mem_of_getElem? (i := 244) (by decide +kernel), List.mem_of_getElem? (i := 788) (by decide +kernel), List.mem_of_getElem? (i := 789) (by decide +kernel)⟩
theorem lw_p25 : lw_okq (⟨"FarFromAnybody$Placings", "prepare", "()V"⟩, 7) := ⟨⟨by decide +kernel, by decide +kernel⟩, List.mem_of_getElem? (i := 800) (by decide +kernel), List.mem_of_getElem? (i := 833) (by decide +kernel), List.mem_of_getElem? (i := 834) (by decide +kernel)⟩
theorem lw_p26 : lw_okq (⟨"FarFromAnybody$Placings", "judge", "(III)V"⟩, 7) := ⟨⟨by decide +kernel, by decide +kernel⟩, List.mem_of_getElem? (i := 800) (by decide +kernel), List.mem_of_getElem? (i := 839) (by decide +kernel), List.mem_of_getElem? (i := 840) (by decide +kernel)⟩
theorem lw_p27 : lw_okq (⟨"FarFromAnybody$Placings", "payAt", "(III)I"⟩, 7) := ⟨⟨by decide +kernel, by decide +kernel⟩, List.mem_of_getElem? (i := 800) (by decide +kernel), List.mem_of_getElem? (i := 843) (by decide +kernel), List.mem_of_getElem? (i := 844) (by decide +kernel)⟩
theorem lw_p28 : lw_okq (⟨"FarFromAnybody$Placings", "noteRow", "(IIII)V"⟩, 7) := ⟨⟨by decide +kernel, by decide +kernel⟩, List.mem_of_getElem? (i := 800) (by decide +kernel), List.mem_of_getElem? (i := 850) (by decide +kernel), List.mem_of_getElem? (i := 851) (by decide +kernel)⟩
theorem lw_p29 : lw_okq (⟨"FarFromAnybody$Placings", "bestBy", "(II)I"⟩, 7) := ⟨⟨by decide +kernel, by decide +kernel⟩, List.mem_of_getElem? (i := 800) (by decide +kernel), List.mem_of_getElem? (i := 854) (by decide +kernel), List.mem_of_getElem? (i := 855) (by decide +kernel)⟩
theorem lw_p30 : lw_okq (⟨"FarFromAnybody$Thought", "fitsTold", "()Z"⟩, 13) := ⟨⟨by decide +kernel, by decide +kernel⟩, List.mem_of_getElem? (i := 244) (by decide +kernel), List.mem_of_getElem? (i := 922) (by decide +kernel), List.mem_of_getElem? (i := 923) (by decide +kernel)⟩
theorem lw_p31 : lw_okq (⟨"FarFromAnybody$Thought", "noteGoing", "(II)V"⟩, 13) := ⟨⟨by decide +kernel, by decide +kernel⟩, List.mem_of_getElem? (i := 244) (by decide +kernel), List.mem_of_getElem? (i := 926) (by decide +kernel), List.mem_of_getElem? (i := 927) (by decide +kernel)⟩
def lw_privs_2 : List (MethodName × Nat) := [(⟨"FarFromAnybody$Reader", "readPart", "()Z"⟩, 11), (⟨"FarFromAnybody$Reader", "readEither", "(I)Z"⟩, 11), (⟨"FarFromAnybody$Reader", "readBoth", "(I)Z"⟩, 11), (⟨"FarFromAnybody$Reader", "readClaim", "(I)Z"⟩, 11), (⟨"FarFromAnybody$Days", "wishOf", "(IZ)I"⟩, 5), (⟨"FarFromAnybody$Days", "whimOf", "(I)I"⟩, 5), (⟨"FarFromAnybody$King", "measureKin", "(I)V"⟩, 8), (⟨"FarFromAnybody$King", "measureAt", "(II)V"⟩, 8), (⟨"FarFromAnybody$Thought", "circleUpTo", "(I)I"⟩, 13), (⟨"FarFromAnybody$Placings", "prepare", "()V"⟩, 7), (⟨"FarFromAnybody$Placings", "judge", "(III)V"⟩, 7), (⟨"FarFromAnybody$Placings", "payAt", "(III)I"⟩, 7), (⟨"FarFromAnybody$Placings", "noteRow", "(IIII)V"⟩, 7), (⟨"FarFromAnybody$Placings", "bestBy", "(II)I"⟩, 7), (⟨"FarFromAnybody$Thought", "fitsTold", "()Z"⟩, 13), (⟨"FarFromAnybody$Thought", "noteGoing", "(II)V"⟩, 13)]
theorem lw_r2 : ∀ q ∈ lw_privs_2, lw_okq q := List.forall_mem_cons.mpr ⟨lw_p16, List.forall_mem_cons.mpr ⟨lw_p17, List.forall_mem_cons.mpr ⟨lw_p18, List.forall_mem_cons.mpr ⟨lw_p19, List.forall_mem_cons.mpr ⟨lw_p20, List.forall_mem_cons.mpr ⟨lw_p21, List.forall_mem_cons.mpr ⟨lw_p22, List.forall_mem_cons.mpr ⟨lw_p23, List.forall_mem_cons.mpr ⟨lw_p24, List.forall_mem_cons.mpr ⟨lw_p25, List.forall_mem_cons.mpr ⟨lw_p26, List.forall_mem_cons.mpr ⟨lw_p27, List.forall_mem_cons.mpr ⟨lw_p28, List.forall_mem_cons.mpr ⟨lw_p29, List.forall_mem_cons.mpr ⟨lw_p30, List.forall_mem_cons.mpr ⟨lw_p31, fun _ h => absurd h List.not_mem_nil⟩⟩⟩⟩⟩⟩⟩⟩⟩⟩⟩⟩⟩⟩⟩⟩
theorem lw_p32 : lw_okq (⟨"FarFromAnybody", "lookAtTold", "(I)I"⟩, 14) := ⟨⟨by decide +kernel, by decide +kernel⟩, List.mem_of_getElem? (i := 19) (by decide +kernel), List.mem_of_getElem? (i := 943) (by decide +kernel), List.mem_of_getElem? (i := 944) (by decide +kernel)⟩
theorem lw_p33 : lw_okq (⟨"FarFromAnybodyModel", "begins", "(II)V"⟩, 36) := ⟨⟨by decide +kernel, by decide +kernel⟩, List.mem_of_getElem? (i := 947) (by decide +kernel), List.mem_of_getElem? (i := 953) (by decide +kernel), List.mem_of_getElem? (i := 954) (by decide +kernel)⟩
theorem lw_p34 : lw_okq (⟨"FarFromAnybodyModel", "isYard", "(I)Z"⟩, 36) := ⟨⟨by decide +kernel, by decide +kernel⟩, List.mem_of_getElem? (i := 947) (by decide +kernel), List.mem_of_getElem? (i := 1081) (by decide +kernel), List.mem_of_getElem? (i := 1082) (by decide +kernel)⟩
theorem lw_p35 : lw_okq (⟨"FarFromAnybodyModel", "isPlace", "(II)Z"⟩, 36) := ⟨⟨by decide +kernel, by decide +kernel⟩, List.mem_of_getElem? (i := 947) (by decide +kernel), List.mem_of_getElem? (i := 1085) (by decide +kernel), List.mem_of_getElem? (i := 1086) (by decide +kernel)⟩
theorem lw_p36 : lw_okq (⟨"FarFromAnybodyModel", "tentAt", "(I)I"⟩, 36) := ⟨⟨by decide +kernel, by decide +kernel⟩, List.mem_of_getElem? (i := 947) (by decide +kernel), List.mem_of_getElem? (i := 1089) (by decide +kernel), List.mem_of_getElem? (i := 1090) (by decide +kernel)⟩
theorem lw_p37 : lw_okq (⟨"FarFromAnybodyModel", "own", "(II)I"⟩, 36) := ⟨⟨by decide +kernel, by decide +kernel⟩, List.mem_of_getElem? (i := 947) (by decide +kernel), List.mem_of_getElem? (i := 1093) (by decide +kernel), List.mem_of_getElem? (i := 1094) (by decide +kernel)⟩
theorem lw_p38 : lw_okq (⟨"FarFromAnybodyModel", "manAt", "(I)I"⟩, 36) := ⟨⟨by decide +kernel, by decide +kernel⟩, List.mem_of_getElem? (i := 947) (by decide +kernel), List.mem_of_getElem? (i := 1097) (by decide +kernel), List.mem_of_getElem? (i := 1098) (by decide +kernel)⟩
theorem lw_p39 : lw_okq (⟨"FarFromAnybodyModel", "couldBe", "(III)Z"⟩, 36) := ⟨⟨by decide +kernel, by decide +kernel⟩, List.mem_of_getElem? (i := 947) (by decide +kernel), List.mem_of_getElem? (i := 1105) (by decide +kernel), List.mem_of_getElem? (i := 1106) (by decide +kernel)⟩
theorem lw_p40 : lw_okq (⟨"FarFromAnybodyModel", "isGrass", "(I)Z"⟩, 36) := ⟨⟨by decide +kernel, by decide +kernel⟩, List.mem_of_getElem? (i := 947) (by decide +kernel), List.mem_of_getElem? (i := 1109) (by decide +kernel), List.mem_of_getElem? (i := 1110) (by decide +kernel)⟩
theorem lw_p41 : lw_okq (⟨"FarFromAnybodyModel", "gives", "(III)V"⟩, 36) := ⟨⟨by decide +kernel, by decide +kernel⟩, List.mem_of_getElem? (i := 947) (by decide +kernel), List.mem_of_getElem? (i := 1113) (by decide +kernel), List.mem_of_getElem? (i := 1114) (by decide +kernel)⟩
theorem lw_p42 : lw_okq (⟨"FarFromAnybodyModel", "isFree", "(I)Z"⟩, 36) := ⟨⟨by decide +kernel, by decide +kernel⟩, List.mem_of_getElem? (i := 947) (by decide +kernel), List.mem_of_getElem? (i := 1121) (by decide +kernel), List.mem_of_getElem? (i := 1122) (by decide +kernel)⟩
theorem lw_p43 : lw_okq (⟨"FarFromAnybodyModel", "isTent", "(I)Z"⟩, 36) := ⟨⟨by decide +kernel, by decide +kernel⟩, List.mem_of_getElem? (i := 947) (by decide +kernel), List.mem_of_getElem? (i := 1133) (by decide +kernel), List.mem_of_getElem? (i := 1134) (by decide +kernel)⟩
theorem lw_p44 : lw_okq (⟨"FarFromAnybodyModel", "couldStand", "(II)Z"⟩, 36) := ⟨⟨by decide +kernel, by decide +kernel⟩, List.mem_of_getElem? (i := 947) (by decide +kernel), List.mem_of_getElem? (i := 1137) (by decide +kernel), List.mem_of_getElem? (i := 1138) (by decide +kernel)⟩
theorem lw_p45 : lw_okq (⟨"FarFromAnybodyModel", "next0", "()V"⟩, 36) := ⟨⟨by decide +kernel, by decide +kernel⟩, List.mem_of_getElem? (i := 947) (by decide +kernel), List.mem_of_getElem? (i := 1153) (by decide +kernel), List.mem_of_getElem? (i := 1154) (by decide +kernel)⟩
theorem lw_p46 : lw_okq (⟨"FarFromAnybodyModel", "see", "(I)I"⟩, 36) := ⟨⟨by decide +kernel, by decide +kernel⟩, List.mem_of_getElem? (i := 947) (by decide +kernel), List.mem_of_getElem? (i := 1157) (by decide +kernel), List.mem_of_getElem? (i := 1158) (by decide +kernel)⟩
theorem lw_p47 : lw_okq (⟨"FarFromAnybodyModel", "word", "()I"⟩, 36) := ⟨⟨by decide +kernel, by decide +kernel⟩, List.mem_of_getElem? (i := 947) (by decide +kernel), List.mem_of_getElem? (i := 1164) (by decide +kernel), List.mem_of_getElem? (i := 1165) (by decide +kernel)⟩
def lw_privs_3 : List (MethodName × Nat) := [(⟨"FarFromAnybody", "lookAtTold", "(I)I"⟩, 14), (⟨"FarFromAnybodyModel", "begins", "(II)V"⟩, 36), (⟨"FarFromAnybodyModel", "isYard", "(I)Z"⟩, 36), (⟨"FarFromAnybodyModel", "isPlace", "(II)Z"⟩, 36), (⟨"FarFromAnybodyModel", "tentAt", "(I)I"⟩, 36), (⟨"FarFromAnybodyModel", "own", "(II)I"⟩, 36), (⟨"FarFromAnybodyModel", "manAt", "(I)I"⟩, 36), (⟨"FarFromAnybodyModel", "couldBe", "(III)Z"⟩, 36), (⟨"FarFromAnybodyModel", "isGrass", "(I)Z"⟩, 36), (⟨"FarFromAnybodyModel", "gives", "(III)V"⟩, 36), (⟨"FarFromAnybodyModel", "isFree", "(I)Z"⟩, 36), (⟨"FarFromAnybodyModel", "isTent", "(I)Z"⟩, 36), (⟨"FarFromAnybodyModel", "couldStand", "(II)Z"⟩, 36), (⟨"FarFromAnybodyModel", "next0", "()V"⟩, 36), (⟨"FarFromAnybodyModel", "see", "(I)I"⟩, 36), (⟨"FarFromAnybodyModel", "word", "()I"⟩, 36)]
theorem lw_r3 : ∀ q ∈ lw_privs_3, lw_okq q := List.forall_mem_cons.mpr ⟨lw_p32, List.forall_mem_cons.mpr ⟨lw_p33, List.forall_mem_cons.mpr ⟨lw_p34, List.forall_mem_cons.mpr ⟨lw_p35, List.forall_mem_cons.mpr ⟨lw_p36, List.forall_mem_cons.mpr ⟨lw_p37, List.forall_mem_cons.mpr ⟨lw_p38, List.forall_mem_cons.mpr ⟨lw_p39, List.forall_mem_cons.mpr ⟨lw_p40, List.forall_mem_cons.mpr ⟨lw_p41, List.forall_mem_cons.mpr ⟨lw_p42, List.forall_mem_cons.mpr ⟨lw_p43, List.forall_mem_cons.mpr ⟨lw_p44, List.forall_mem_cons.mpr ⟨lw_p45, List.forall_mem_cons.mpr ⟨lw_p46, List.forall_mem_cons.mpr ⟨lw_p47, fun _ h => absurd h List.not_mem_nil⟩⟩⟩⟩⟩⟩⟩⟩⟩⟩⟩⟩⟩⟩⟩⟩
theorem lw_p48 : lw_okq (⟨"FarFromAnybodyModel", "is", "(Ljava/lang/String;)Z"⟩, 36) := ⟨⟨by decide +kernel, by decide +kernel⟩, List.mem_of_getElem? (i := 947) (by decide +kernel), List.mem_of_getElem? (i := 1169) (by decide +kernel), List.mem_of_getElem? (i := 1170) (by decide +kernel)⟩
theorem lw_p49 : lw_okq (⟨"FarFromAnybodyModel", "nameWord", "()I"⟩, 36) := ⟨⟨by decide +kernel, by decide +kernel⟩, List.mem_of_getElem? (i := 947) (by decide +kernel), List.mem_of_getElem? (i := 1179) (by decide +kernel), List.mem_of_getElem? (i := 1180) (by decide +kernel)⟩
theorem lw_p50 : lw_okq (⟨"FarFromAnybodyModel", "aLine", "()Z"⟩, 36) := ⟨⟨by decide +kernel, by decide +kernel⟩, List.mem_of_getElem? (i := 947) (by decide +kernel), List.mem_of_getElem? (i := 1194) (by decide +kernel), List.mem_of_getElem? (i := 1195) (by decide +kernel)⟩
theorem lw_p51 : lw_okq (⟨"FarFromAnybodyModel", "bad", "(I)Z"⟩, 36) := ⟨⟨by decide +kernel, by decide +kernel⟩, List.mem_of_getElem? (i := 947) (by decide +kernel), List.mem_of_getElem? (i := 1198) (by decide +kernel), List.mem_of_getElem? (i := 1199) (by decide +kernel)⟩
theorem lw_p52 : lw_okq (⟨"FarFromAnybodyModel", "sumUp", "()Z"⟩, 36) := ⟨⟨by decide +kernel, by decide +kernel⟩, List.mem_of_getElem? (i := 947) (by decide +kernel), List.mem_of_getElem? (i := 1202) (by decide +kernel), List.mem_of_getElem? (i := 1203) (by decide +kernel)⟩
theorem lw_p53 : lw_okq (⟨"FarFromAnybodyModel", "product", "()Z"⟩, 36) := ⟨⟨by decide +kernel, by decide +kernel⟩, List.mem_of_getElem? (i := 947) (by decide +kernel), List.mem_of_getElem? (i := 1206) (by decide +kernel), List.mem_of_getElem? (i := 1207) (by decide +kernel)⟩
theorem lw_p54 : lw_okq (⟨"FarFromAnybodyModel", "unit", "()Z"⟩, 36) := ⟨⟨by decide +kernel, by decide +kernel⟩, List.mem_of_getElem? (i := 947) (by decide +kernel), List.mem_of_getElem? (i := 1210) (by decide +kernel), List.mem_of_getElem? (i := 1211) (by decide +kernel)⟩
theorem lw_p55 : lw_okq (⟨"FarFromAnybodyModel", "lay", "(II)V"⟩, 36) := ⟨⟨by decide +kernel, by decide +kernel⟩, List.mem_of_getElem? (i := 947) (by decide +kernel), List.mem_of_getElem? (i := 1214) (by decide +kernel), List.mem_of_getElem? (i := 1215) (by decide +kernel)⟩
theorem lw_p56 : lw_okq (⟨"FarFromAnybodyModel", "any", "()Z"⟩, 36) := ⟨⟨by decide +kernel, by decide +kernel⟩, List.mem_of_getElem? (i := 947) (by decide +kernel), List.mem_of_getElem? (i := 1218) (by decide +kernel), List.mem_of_getElem? (i := 1219) (by decide +kernel)⟩
theorem lw_p57 : lw_okq (⟨"FarFromAnybodyModel", "every", "()Z"⟩, 36) := ⟨⟨by decide +kernel, by decide +kernel⟩, List.mem_of_getElem? (i := 947) (by decide +kernel), List.mem_of_getElem? (i := 1222) (by decide +kernel), List.mem_of_getElem? (i := 1223) (by decide +kernel)⟩
theorem lw_p58 : lw_okq (⟨"FarFromAnybodyModel", "oneTest", "()Z"⟩, 36) := ⟨⟨by decide +kernel, by decide +kernel⟩, List.mem_of_getElem? (i := 947) (by decide +kernel), List.mem_of_getElem? (i := 1226) (by decide +kernel), List.mem_of_getElem? (i := 1227) (by decide +kernel)⟩
theorem lw_p59 : lw_okq (⟨"FarFromAnybodyModel", "opens", "()Z"⟩, 36) := ⟨⟨by decide +kernel, by decide +kernel⟩, List.mem_of_getElem? (i := 947) (by decide +kernel), List.mem_of_getElem? (i := 1230) (by decide +kernel), List.mem_of_getElem? (i := 1231) (by decide +kernel)⟩
theorem lw_p60 : lw_okq (⟨"FarFromAnybodyModel", "need", "(I)Z"⟩, 36) := ⟨⟨by decide +kernel, by decide +kernel⟩, List.mem_of_getElem? (i := 947) (by decide +kernel), List.mem_of_getElem? (i := 1234) (by decide +kernel), List.mem_of_getElem? (i := 1235) (by decide +kernel)⟩
theorem lw_p61 : lw_okq (⟨"FarFromAnybodyModel", "isDry", "(I)Z"⟩, 36) := ⟨⟨by decide +kernel, by decide +kernel⟩, List.mem_of_getElem? (i := 947) (by decide +kernel), List.mem_of_getElem? (i := 1246) (by decide +kernel), List.mem_of_getElem? (i := 1247) (by decide +kernel)⟩
theorem lw_p62 : lw_okq (⟨"FarFromAnybodyModel", "wayOf", "(II)I"⟩, 36) := ⟨⟨by decide +kernel, by decide +kernel⟩, List.mem_of_getElem? (i := 947) (by decide +kernel), List.mem_of_getElem? (i := 1250) (by decide +kernel), List.mem_of_getElem? (i := 1251) (by decide +kernel)⟩
theorem lw_p63 : lw_okq (⟨"FarFromAnybodyModel", "laysWays", "(I)V"⟩, 36) := ⟨⟨by decide +kernel, by decide +kernel⟩, List.mem_of_getElem? (i := 947) (by decide +kernel), List.mem_of_getElem? (i := 1254) (by decide +kernel), List.mem_of_getElem? (i := 1255) (by decide +kernel)⟩
def lw_privs_4 : List (MethodName × Nat) := [(⟨"FarFromAnybodyModel", "is", "(Ljava/lang/String;)Z"⟩, 36), (⟨"FarFromAnybodyModel", "nameWord", "()I"⟩, 36), (⟨"FarFromAnybodyModel", "aLine", "()Z"⟩, 36), (⟨"FarFromAnybodyModel", "bad", "(I)Z"⟩, 36), (⟨"FarFromAnybodyModel", "sumUp", "()Z"⟩, 36), (⟨"FarFromAnybodyModel", "product", "()Z"⟩, 36), (⟨"FarFromAnybodyModel", "unit", "()Z"⟩, 36), (⟨"FarFromAnybodyModel", "lay", "(II)V"⟩, 36), (⟨"FarFromAnybodyModel", "any", "()Z"⟩, 36), (⟨"FarFromAnybodyModel", "every", "()Z"⟩, 36), (⟨"FarFromAnybodyModel", "oneTest", "()Z"⟩, 36), (⟨"FarFromAnybodyModel", "opens", "()Z"⟩, 36), (⟨"FarFromAnybodyModel", "need", "(I)Z"⟩, 36), (⟨"FarFromAnybodyModel", "isDry", "(I)Z"⟩, 36), (⟨"FarFromAnybodyModel", "wayOf", "(II)I"⟩, 36), (⟨"FarFromAnybodyModel", "laysWays", "(I)V"⟩, 36)]
theorem lw_r4 : ∀ q ∈ lw_privs_4, lw_okq q := List.forall_mem_cons.mpr ⟨lw_p48, List.forall_mem_cons.mpr ⟨lw_p49, List.forall_mem_cons.mpr ⟨lw_p50, List.forall_mem_cons.mpr ⟨lw_p51, List.forall_mem_cons.mpr ⟨lw_p52, List.forall_mem_cons.mpr ⟨lw_p53, List.forall_mem_cons.mpr ⟨lw_p54, List.forall_mem_cons.mpr ⟨lw_p55, List.forall_mem_cons.mpr ⟨lw_p56, List.forall_mem_cons.mpr ⟨lw_p57, List.forall_mem_cons.mpr ⟨lw_p58, List.forall_mem_cons.mpr ⟨lw_p59, List.forall_mem_cons.mpr ⟨lw_p60, List.forall_mem_cons.mpr ⟨lw_p61, List.forall_mem_cons.mpr ⟨lw_p62, List.forall_mem_cons.mpr ⟨lw_p63, fun _ h => absurd h List.not_mem_nil⟩⟩⟩⟩⟩⟩⟩⟩⟩⟩⟩⟩⟩⟩⟩⟩
theorem lw_p64 : lw_okq (⟨"FarFromAnybodyModel", "noon", "(Z)I"⟩, 36) := ⟨⟨by decide +kernel, by decide +kernel⟩, List.mem_of_getElem? (i := 947) (by decide +kernel), List.mem_of_getElem? (i := 1265) (by decide +kernel), List.mem_of_getElem? (i := 1266) (by decide +kernel)⟩
theorem lw_p65 : lw_okq (⟨"FarFromAnybodyModel", "chosen", "(IZ)I"⟩, 36) := ⟨⟨by decide +kernel, by decide +kernel⟩, List.mem_of_getElem? (i := 947) (by decide +kernel), List.mem_of_getElem? (i := 1269) (by decide +kernel), List.mem_of_getElem? (i := 1270) (by decide +kernel)⟩
theorem lw_p66 : lw_okq (⟨"FarFromAnybodyModel", "draw", "(I)I"⟩, 36) := ⟨⟨by decide +kernel, by decide +kernel⟩, List.mem_of_getElem? (i := 947) (by decide +kernel), List.mem_of_getElem? (i := 1273) (by decide +kernel), List.mem_of_getElem? (i := 1274) (by decide +kernel)⟩
theorem lw_p67 : lw_okq (⟨"FarFromAnybodyModel", "where", "(I)I"⟩, 36) := ⟨⟨by decide +kernel, by decide +kernel⟩, List.mem_of_getElem? (i := 947) (by decide +kernel), List.mem_of_getElem? (i := 1279) (by decide +kernel), List.mem_of_getElem? (i := 1280) (by decide +kernel)⟩
theorem lw_p68 : lw_okq (⟨"FarFromAnybodyModel", "payAt", "(II)I"⟩, 36) := ⟨⟨by decide +kernel, by decide +kernel⟩, List.mem_of_getElem? (i := 947) (by decide +kernel), List.mem_of_getElem? (i := 1283) (by decide +kernel), List.mem_of_getElem? (i := 1284) (by decide +kernel)⟩
theorem lw_p69 : lw_okq (⟨"FarFromAnybodyModel", "payOf", "(I)I"⟩, 36) := ⟨⟨by decide +kernel, by decide +kernel⟩, List.mem_of_getElem? (i := 947) (by decide +kernel), List.mem_of_getElem? (i := 1287) (by decide +kernel), List.mem_of_getElem? (i := 1288) (by decide +kernel)⟩
theorem lw_p70 : lw_okq (⟨"FarFromAnybodyModel", "kinOf", "(I)I"⟩, 36) := ⟨⟨by decide +kernel, by decide +kernel⟩, List.mem_of_getElem? (i := 947) (by decide +kernel), List.mem_of_getElem? (i := 1291) (by decide +kernel), List.mem_of_getElem? (i := 1292) (by decide +kernel)⟩
theorem lw_p71 : lw_okq (⟨"FarFromAnybodyModel", "areKin", "(II)Z"⟩, 36) := ⟨⟨by decide +kernel, by decide +kernel⟩, List.mem_of_getElem? (i := 947) (by decide +kernel), List.mem_of_getElem? (i := 1295) (by decide +kernel), List.mem_of_getElem? (i := 1296) (by decide +kernel)⟩
theorem lw_p72 : lw_okq (⟨"FarFromAnybodyModel", "farOf", "(I)I"⟩, 36) := ⟨⟨by decide +kernel, by decide +kernel⟩, List.mem_of_getElem? (i := 947) (by decide +kernel), List.mem_of_getElem? (i := 1299) (by decide +kernel), List.mem_of_getElem? (i := 1300) (by decide +kernel)⟩
theorem lw_p73 : lw_okq (⟨"FarFromAnybodyModel", "farAlone", "(I)I"⟩, 36) := ⟨⟨by decide +kernel, by decide +kernel⟩, List.mem_of_getElem? (i := 947) (by decide +kernel), List.mem_of_getElem? (i := 1303) (by decide +kernel), List.mem_of_getElem? (i := 1304) (by decide +kernel)⟩
theorem lw_p74 : lw_okq (⟨"FarFromAnybodyModel", "nearer", "(III)I"⟩, 36) := ⟨⟨by decide +kernel, by decide +kernel⟩, List.mem_of_getElem? (i := 947) (by decide +kernel), List.mem_of_getElem? (i := 1307) (by decide +kernel), List.mem_of_getElem? (i := 1308) (by decide +kernel)⟩
theorem lw_p75 : lw_okq (⟨"FarFromAnybodyModel", "nearOf", "(I)I"⟩, 36) := ⟨⟨by decide +kernel, by decide +kernel⟩, List.mem_of_getElem? (i := 947) (by decide +kernel), List.mem_of_getElem? (i := 1314) (by decide +kernel), List.mem_of_getElem? (i := 1315) (by decide +kernel)⟩
theorem lw_p76 : lw_okq (⟨"FarFromAnybodyModel", "isNear", "(II)I"⟩, 36) := ⟨⟨by decide +kernel, by decide +kernel⟩, List.mem_of_getElem? (i := 947) (by decide +kernel), List.mem_of_getElem? (i := 1318) (by decide +kernel), List.mem_of_getElem? (i := 1319) (by decide +kernel)⟩
theorem lw_p77 : lw_okq (⟨"FarFromAnybodyModel", "lawful", "(IIII)I"⟩, 36) := ⟨⟨by decide +kernel, by decide +kernel⟩, List.mem_of_getElem? (i := 947) (by decide +kernel), List.mem_of_getElem? (i := 1322) (by decide +kernel), List.mem_of_getElem? (i := 1323) (by decide +kernel)⟩
theorem lw_p78 : lw_okq (⟨"FarFromAnybodyModel", "comesTo", "(II)I"⟩, 36) := ⟨⟨by decide +kernel, by decide +kernel⟩, List.mem_of_getElem? (i := 947) (by decide +kernel), List.mem_of_getElem? (i := 1326) (by decide +kernel), List.mem_of_getElem? (i := 1327) (by decide +kernel)⟩
theorem lw_p79 : lw_okq (⟨"FarFromAnybodyModel", "bestBeside", "(I)I"⟩, 36) := ⟨⟨by decide +kernel, by decide +kernel⟩, List.mem_of_getElem? (i := 947) (by decide +kernel), List.mem_of_getElem? (i := 1333) (by decide +kernel), List.mem_of_getElem? (i := 1334) (by decide +kernel)⟩
def lw_privs_5 : List (MethodName × Nat) := [(⟨"FarFromAnybodyModel", "noon", "(Z)I"⟩, 36), (⟨"FarFromAnybodyModel", "chosen", "(IZ)I"⟩, 36), (⟨"FarFromAnybodyModel", "draw", "(I)I"⟩, 36), (⟨"FarFromAnybodyModel", "where", "(I)I"⟩, 36), (⟨"FarFromAnybodyModel", "payAt", "(II)I"⟩, 36), (⟨"FarFromAnybodyModel", "payOf", "(I)I"⟩, 36), (⟨"FarFromAnybodyModel", "kinOf", "(I)I"⟩, 36), (⟨"FarFromAnybodyModel", "areKin", "(II)Z"⟩, 36), (⟨"FarFromAnybodyModel", "farOf", "(I)I"⟩, 36), (⟨"FarFromAnybodyModel", "farAlone", "(I)I"⟩, 36), (⟨"FarFromAnybodyModel", "nearer", "(III)I"⟩, 36), (⟨"FarFromAnybodyModel", "nearOf", "(I)I"⟩, 36), (⟨"FarFromAnybodyModel", "isNear", "(II)I"⟩, 36), (⟨"FarFromAnybodyModel", "lawful", "(IIII)I"⟩, 36), (⟨"FarFromAnybodyModel", "comesTo", "(II)I"⟩, 36), (⟨"FarFromAnybodyModel", "bestBeside", "(I)I"⟩, 36)]
theorem lw_r5 : ∀ q ∈ lw_privs_5, lw_okq q := List.forall_mem_cons.mpr ⟨lw_p64, List.forall_mem_cons.mpr ⟨lw_p65, List.forall_mem_cons.mpr ⟨lw_p66, List.forall_mem_cons.mpr ⟨lw_p67, List.forall_mem_cons.mpr ⟨lw_p68, List.forall_mem_cons.mpr ⟨lw_p69, List.forall_mem_cons.mpr ⟨lw_p70, List.forall_mem_cons.mpr ⟨lw_p71, List.forall_mem_cons.mpr ⟨lw_p72, List.forall_mem_cons.mpr ⟨lw_p73, List.forall_mem_cons.mpr ⟨lw_p74, List.forall_mem_cons.mpr ⟨lw_p75, List.forall_mem_cons.mpr ⟨lw_p76, List.forall_mem_cons.mpr ⟨lw_p77, List.forall_mem_cons.mpr ⟨lw_p78, List.forall_mem_cons.mpr ⟨lw_p79, fun _ h => absurd h List.not_mem_nil⟩⟩⟩⟩⟩⟩⟩⟩⟩⟩⟩⟩⟩⟩⟩⟩
theorem lw_p80 : lw_okq (⟨"FarFromAnybodyModel", "isRow", "(I)Z"⟩, 36) := ⟨⟨by decide +kernel, by decide +kernel⟩, List.mem_of_getElem? (i := 947) (by decide +kernel), List.mem_of_getElem? (i := 1349) (by decide +kernel), List.mem_of_getElem? (i := 1350) (by decide +kernel)⟩
theorem lw_p81 : lw_okq (⟨"FarFromAnybodyModel", "places", "(II)V"⟩, 36) := ⟨⟨by decide +kernel, by decide +kernel⟩, List.mem_of_getElem? (i := 947) (by decide +kernel), List.mem_of_getElem? (i := 1357) (by decide +kernel), List.mem_of_getElem? (i := 1358) (by decide +kernel)⟩
theorem lw_p82 : lw_okq (⟨"FarFromAnybodyModel", "judges", "()V"⟩, 36) := ⟨⟨by decide +kernel, by decide +kernel⟩, List.mem_of_getElem? (i := 947) (by decide +kernel), List.mem_of_getElem? (i := 1361) (by decide +kernel), List.mem_of_getElem? (i := 1362) (by decide +kernel)⟩
theorem lw_p83 : lw_okq (⟨"FarFromAnybodyModel", "paid", "(II)I"⟩, 36) := ⟨⟨by decide +kernel, by decide +kernel⟩, List.mem_of_getElem? (i := 947) (by decide +kernel), List.mem_of_getElem? (i := 1365) (by decide +kernel), List.mem_of_getElem? (i := 1366) (by decide +kernel)⟩
theorem lw_p84 : lw_okq (⟨"FarFromAnybodyModel", "isAtRest", "(I)Z"⟩, 36) := ⟨⟨by decide +kernel, by decide +kernel⟩, List.mem_of_getElem? (i := 947) (by decide +kernel), List.mem_of_getElem? (i := 1369) (by decide +kernel), List.mem_of_getElem? (i := 1370) (by decide +kernel)⟩
theorem lw_p85 : lw_okq (⟨"FarFromAnybodyModel", "allPays", "()I"⟩, 36) := ⟨⟨by decide +kernel, by decide +kernel⟩, List.mem_of_getElem? (i := 947) (by decide +kernel), List.mem_of_getElem? (i := 1377) (by decide +kernel), List.mem_of_getElem? (i := 1378) (by decide +kernel)⟩
theorem lw_p86 : lw_okq (⟨"FarFromAnybodyModel", "pays", "(I)I"⟩, 36) := ⟨⟨by decide +kernel, by decide +kernel⟩, List.mem_of_getElem? (i := 947) (by decide +kernel), List.mem_of_getElem? (i := 1394) (by decide +kernel), List.mem_of_getElem? (i := 1395) (by decide +kernel)⟩
theorem lw_p87 : lw_okq (⟨"FarFromAnybodyModel", "breaks", "(II)V"⟩, 36) := ⟨⟨by decide +kernel, by decide +kernel⟩, List.mem_of_getElem? (i := 947) (by decide +kernel), List.mem_of_getElem? (i := 1402) (by decide +kernel), List.mem_of_getElem? (i := 1403) (by decide +kernel)⟩
theorem lw_p88 : lw_okq (⟨"FarFromAnybodyModel", "goWith", "()Z"⟩, 36) := ⟨⟨by decide +kernel, by decide +kernel⟩, List.mem_of_getElem? (i := 947) (by decide +kernel), List.mem_of_getElem? (i := 1414) (by decide +kernel), List.mem_of_getElem? (i := 1415) (by decide +kernel)⟩
def lw_privs_6 : List (MethodName × Nat) := [(⟨"FarFromAnybodyModel", "isRow", "(I)Z"⟩, 36), (⟨"FarFromAnybodyModel", "places", "(II)V"⟩, 36), (⟨"FarFromAnybodyModel", "judges", "()V"⟩, 36), (⟨"FarFromAnybodyModel", "paid", "(II)I"⟩, 36), (⟨"FarFromAnybodyModel", "isAtRest", "(I)Z"⟩, 36), (⟨"FarFromAnybodyModel", "allPays", "()I"⟩, 36), (⟨"FarFromAnybodyModel", "pays", "(I)I"⟩, 36), (⟨"FarFromAnybodyModel", "breaks", "(II)V"⟩, 36), (⟨"FarFromAnybodyModel", "goWith", "()Z"⟩, 36)]
theorem lw_r6 : ∀ q ∈ lw_privs_6, lw_okq q := List.forall_mem_cons.mpr ⟨lw_p80, List.forall_mem_cons.mpr ⟨lw_p81, List.forall_mem_cons.mpr ⟨lw_p82, List.forall_mem_cons.mpr ⟨lw_p83, List.forall_mem_cons.mpr ⟨lw_p84, List.forall_mem_cons.mpr ⟨lw_p85, List.forall_mem_cons.mpr ⟨lw_p86, List.forall_mem_cons.mpr ⟨lw_p87, List.forall_mem_cons.mpr ⟨lw_p88, fun _ h => absurd h List.not_mem_nil⟩⟩⟩⟩⟩⟩⟩⟩⟩
def lw_privs : List (MethodName × Nat) := lw_privs_1 ++ (lw_privs_2 ++ (lw_privs_3 ++ (lw_privs_4 ++ (lw_privs_5 ++ (lw_privs_6)))))
def lw_tbl : List Cond := k2_sels lw_privs ++ tables_1
theorem lw_privs_ok : ∀ q ∈ lw_privs, lw_okq q := by
  show ∀ q ∈ lw_privs_1 ++ (lw_privs_2 ++ (lw_privs_3 ++ (lw_privs_4 ++ (lw_privs_5 ++ (lw_privs_6))))), lw_okq q
  exact List.forall_mem_append.mpr ⟨lw_r1, List.forall_mem_append.mpr ⟨lw_r2, List.forall_mem_append.mpr ⟨lw_r3, List.forall_mem_append.mpr ⟨lw_r4, List.forall_mem_append.mpr ⟨lw_r5, lw_r6⟩⟩⟩⟩⟩
-- ===== end of PART A; then your names; then what follows =====
def RX0 : String := "FarFromAnybody$Camp"
def TX0 : u_T := fun k => match k with
  | 0 => ("FarFromAnybody$Camp", "w", "I", false)
  | 1 => ("FarFromAnybody$Camp", "h", "I", false)
  | 2 => ("FarFromAnybody$Camp", "draws", "I", false)
  | 3 => ("FarFromAnybody$Camp", "kinds", "[I", true)
  | 4 => ("FarFromAnybody$Camp", "tents", "I", false)
  | 5 => ("FarFromAnybody$Camp", "yards", "[I", true)
  | 6 => ("FarFromAnybody$Camp", "families", "[I", true)
  | 7 => ("FarFromAnybody$Camp", "modes", "[I", true)
  | 8 => ("FarFromAnybody$Camp", "coins", "[I", true)
  | 9 => ("FarFromAnybody$Camp", "moves", "[I", true)
  | 10 => ("FarFromAnybody$Camp", "toldPays", "[I", true)
  | 11 => ("FarFromAnybody$Camp", "men", "I", false)
  | 12 => ("FarFromAnybody$Camp", "manYards", "[I", true)
  | 13 => ("FarFromAnybody$Camp", "strangerYard", "I", false)
  | 14 => ("FarFromAnybody$Camp", "fine", "I", false)
  | 15 => ("FarFromAnybody$Camp", "atOnce", "Z", false)
  | 16 => ("FarFromAnybody$Camp", "evening", "I", false)
  | 17 => ("FarFromAnybody$Camp", "spent", "I", false)
  | _ => ("FarFromAnybody$Camp", "law", "LFarFromAnybody$Law;", false)
def tyX0 : Nat → FieldType := fun k => match k with
  | 0 => .int
  | 1 => .int
  | 2 => .int
  | 3 => .array .int
  | 4 => .int
  | 5 => .array .int
  | 6 => .array .int
  | 7 => .array .int
  | 8 => .array .int
  | 9 => .array .int
  | 10 => .array .int
  | 11 => .int
  | 12 => .array .int
  | 13 => .int
  | 14 => .int
  | 15 => .boolean
  | 16 => .int
  | 17 => .int
  | _ => .object "FarFromAnybody$Law"
abbrev wsX00 : List Cond := u_ws RX0 TX0 19
theorem nmX0 : ∀ a, a < 19 → ∀ b, b < 19 → a ≠ b → (TX0 a).2.1 ≠ (TX0 b).2.1 := by decide +kernel
theorem tyX0_ok : ∀ k, k < 19 → parseFieldDescriptor (TX0 k).2.2.1 = some (tyX0 k) := by decide +kernel
abbrev cX0_init : ByteArray := prog_2_method_1_code
def yX0_init : MethodName := ⟨RX0, "<init>", "()V"⟩
abbrev cX0_clear : ByteArray := prog_2_method_2_code
def yX0_clear : MethodName := ⟨RX0, "clear", "(II)V"⟩
abbrev cX0_copy : ByteArray := prog_2_method_3_code
def yX0_copy : MethodName := ⟨RX0, "copy", "(LFarFromAnybody$Camp;)V"⟩
abbrev cX0_inside : ByteArray := prog_2_method_4_code
def yX0_inside : MethodName := ⟨RX0, "inside", "(I)Z"⟩
abbrev cX0_isGrass : ByteArray := prog_2_method_5_code
def yX0_isGrass : MethodName := ⟨RX0, "isGrass", "(I)Z"⟩
abbrev cX0_canBeGoneOver : ByteArray := prog_2_method_6_code
def yX0_canBeGoneOver : MethodName := ⟨RX0, "canBeGoneOver", "(I)Z"⟩
abbrev cX0_grassCount : ByteArray := prog_2_method_7_code
def yX0_grassCount : MethodName := ⟨RX0, "grassCount", "()I"⟩
abbrev cX0_isTent : ByteArray := prog_2_method_8_code
def yX0_isTent : MethodName := ⟨RX0, "isTent", "(I)Z"⟩
abbrev cX0_tentAt : ByteArray := prog_2_method_9_code
def yX0_tentAt : MethodName := ⟨RX0, "tentAt", "(I)I"⟩
abbrev cX0_manAt : ByteArray := prog_2_method_10_code
def yX0_manAt : MethodName := ⟨RX0, "manAt", "(I)I"⟩
abbrev cX0_taken : ByteArray := prog_2_method_11_code
def yX0_taken : MethodName := ⟨RX0, "taken", "(I)Z"⟩
abbrev cX0_freeForMan : ByteArray := prog_2_method_12_code
def yX0_freeForMan : MethodName := ⟨RX0, "freeForMan", "(I)Z"⟩
abbrev cX0_couldStand : ByteArray := prog_2_method_13_code
def yX0_couldStand : MethodName := ⟨RX0, "couldStand", "(III)Z"⟩
abbrev cX0_pitch : ByteArray := prog_2_method_14_code
def yX0_pitch : MethodName := ⟨RX0, "pitch", "(III)I"⟩
abbrev cX0_bodies : ByteArray := prog_2_method_15_code
def yX0_bodies : MethodName := ⟨RX0, "bodies", "()I"⟩
abbrev cX0_yardOfBody : ByteArray := prog_2_method_16_code
def yX0_yardOfBody : MethodName := ⟨RX0, "yardOfBody", "(I)I"⟩
abbrev cX0_areKin : ByteArray := prog_2_method_17_code
def yX0_areKin : MethodName := ⟨RX0, "areKin", "(II)Z"⟩
abbrev cX0_waterBeside : ByteArray := prog_2_method_18_code
def yX0_waterBeside : MethodName := ⟨RX0, "waterBeside", "(I)I"⟩
abbrev cX0_draw : ByteArray := prog_2_method_19_code
def yX0_draw : MethodName := ⟨RX0, "draw", "(I)I"⟩
def RX1 : String := "FarFromAnybody$Days"
def TX1 : u_T := fun k => match k with
  | 0 => ("FarFromAnybody$Days", "camp", "LFarFromAnybody$Camp;", true)
  | 1 => ("FarFromAnybody$Days", "king", "LFarFromAnybody$King;", true)
  | 2 => ("FarFromAnybody$Days", "wishes", "[I", true)
  | 3 => ("FarFromAnybody$Days", "gone", "[Z", true)
  | _ => ("FarFromAnybody$Days", "pays", "[I", true)
def tyX1 : Nat → FieldType := fun k => match k with
  | 0 => .object "FarFromAnybody$Camp"
  | 1 => .object "FarFromAnybody$King"
  | 2 => .array .int
  | 3 => .array .boolean
  | _ => .array .int
abbrev wsX10 : List Cond := u_ws RX1 TX1 5
theorem nmX1 : ∀ a, a < 5 → ∀ b, b < 5 → a ≠ b → (TX1 a).2.1 ≠ (TX1 b).2.1 := by decide +kernel
theorem tyX1_ok : ∀ k, k < 5 → parseFieldDescriptor (TX1 k).2.2.1 = some (tyX1 k) := by decide +kernel
abbrev cX1_init : ByteArray := prog_3_method_1_code
def yX1_init : MethodName := ⟨RX1, "<init>", "(LFarFromAnybody$Camp;LFarFromAnybody$King;)V"⟩
abbrev cX1_noon : ByteArray := prog_3_method_2_code
def yX1_noon : MethodName := ⟨RX1, "noon", "(Z)I"⟩
abbrev cX1_wishOf : ByteArray := prog_3_method_3_code
def yX1_wishOf : MethodName := ⟨RX1, "wishOf", "(IZ)I"⟩
abbrev cX1_whimOf : ByteArray := prog_3_method_4_code
def yX1_whimOf : MethodName := ⟨RX1, "whimOf", "(I)I"⟩
abbrev cX1_newEvening : ByteArray := prog_3_method_5_code
def yX1_newEvening : MethodName := ⟨RX1, "newEvening", "()I"⟩
abbrev cX1_allAlike : ByteArray := prog_3_method_6_code
def yX1_allAlike : MethodName := ⟨RX1, "allAlike", "()Z"⟩
abbrev cX1_sameEvening : ByteArray := prog_3_method_7_code
def yX1_sameEvening : MethodName := ⟨RX1, "sameEvening", "()V"⟩
def RX2 : String := "FarFromAnybody$King"
def TX2 : u_T := fun k => match k with
  | 0 => ("FarFromAnybody$King", "ways", "LFarFromAnybody$Ways;", true)
  | 1 => ("FarFromAnybody$King", "bestYard", "I", false)
  | 2 => ("FarFromAnybody$King", "camp", "LFarFromAnybody$Camp;", true)
  | 3 => ("FarFromAnybody$King", "facts", "[I", true)
  | 4 => ("FarFromAnybody$King", "kin", "I", false)
  | 5 => ("FarFromAnybody$King", "farOfKin", "I", false)
  | 6 => ("FarFromAnybody$King", "far", "I", false)
  | _ => ("FarFromAnybody$King", "near", "I", false)
def tyX2 : Nat → FieldType := fun k => match k with
  | 0 => .object "FarFromAnybody$Ways"
  | 1 => .int
  | 2 => .object "FarFromAnybody$Camp"
  | 3 => .array .int
  | 4 => .int
  | 5 => .int
  | 6 => .int
  | _ => .int
abbrev wsX20 : List Cond := u_ws RX2 TX2 8
theorem nmX2 : ∀ a, a < 8 → ∀ b, b < 8 → a ≠ b → (TX2 a).2.1 ≠ (TX2 b).2.1 := by decide +kernel
theorem tyX2_ok : ∀ k, k < 8 → parseFieldDescriptor (TX2 k).2.2.1 = some (tyX2 k) := by decide +kernel
abbrev cX2_init : ByteArray := prog_4_method_1_code
def yX2_init : MethodName := ⟨RX2, "<init>", "(LFarFromAnybody$Camp;LFarFromAnybody$Ways;)V"⟩
abbrev cX2_farOf : ByteArray := prog_4_method_2_code
def yX2_farOf : MethodName := ⟨RX2, "farOf", "(I)I"⟩
abbrev cX2_payOf : ByteArray := prog_4_method_3_code
def yX2_payOf : MethodName := ⟨RX2, "payOf", "(I)I"⟩
abbrev cX2_payFor : ByteArray := prog_4_method_4_code
def yX2_payFor : MethodName := ⟨RX2, "payFor", "(IIII)I"⟩
abbrev cX2_allPays : ByteArray := prog_4_method_5_code
def yX2_allPays : MethodName := ⟨RX2, "allPays", "()I"⟩
abbrev cX2_familyPays : ByteArray := prog_4_method_6_code
def yX2_familyPays : MethodName := ⟨RX2, "familyPays", "(I)I"⟩
abbrev cX2_findBest : ByteArray := prog_4_method_7_code
def yX2_findBest : MethodName := ⟨RX2, "findBest", "(II)I"⟩
abbrev cX2_measureKin : ByteArray := prog_4_method_8_code
def yX2_measureKin : MethodName := ⟨RX2, "measureKin", "(I)V"⟩
abbrev cX2_measureAt : ByteArray := prog_4_method_9_code
def yX2_measureAt : MethodName := ⟨RX2, "measureAt", "(II)V"⟩
def RX3 : String := "FarFromAnybody$Law"
def TX3 : u_T := fun k => match k with
  | 0 => ("FarFromAnybody$Law", "lines", "I", true)
  | 1 => ("FarFromAnybody$Law", "asksEvening", "Z", true)
  | _ => ("FarFromAnybody$Law", "steps", "[I", true)
def tyX3 : Nat → FieldType := fun k => match k with
  | 0 => .int
  | 1 => .boolean
  | _ => .array .int
abbrev wsX30 : List Cond := u_ws RX3 TX3 3
theorem nmX3 : ∀ a, a < 3 → ∀ b, b < 3 → a ≠ b → (TX3 a).2.1 ≠ (TX3 b).2.1 := by decide +kernel
theorem tyX3_ok : ∀ k, k < 3 → parseFieldDescriptor (TX3 k).2.2.1 = some (tyX3 k) := by decide +kernel
abbrev cX3_init : ByteArray := prog_5_method_1_code
def yX3_init : MethodName := ⟨RX3, "<init>", "([IIZ)V"⟩
abbrev cX3_amount : ByteArray := prog_5_method_2_code
def yX3_amount : MethodName := ⟨RX3, "amount", "([I)I"⟩
abbrev cX3_judged : ByteArray := prog_5_method_3_code
def yX3_judged : MethodName := ⟨RX3, "judged", "(JIII)J"⟩
def RX4 : String := "FarFromAnybody$Placings"
def TX4 : u_T := fun k => match k with
  | 0 => ("FarFromAnybody$Placings", "answers", "[I", true)
  | 1 => ("FarFromAnybody$Placings", "camp", "LFarFromAnybody$Camp;", true)
  | 2 => ("FarFromAnybody$Placings", "king", "LFarFromAnybody$King;", true)
  | 3 => ("FarFromAnybody$Placings", "places", "[I", true)
  | 4 => ("FarFromAnybody$Placings", "count", "I", false)
  | 5 => ("FarFromAnybody$Placings", "pays", "[I", true)
  | _ => ("FarFromAnybody$Placings", "bests", "[I", true)
def tyX4 : Nat → FieldType := fun k => match k with
  | 0 => .array .int
  | 1 => .object "FarFromAnybody$Camp"
  | 2 => .object "FarFromAnybody$King"
  | 3 => .array .int
  | 4 => .int
  | 5 => .array .int
  | _ => .array .int
abbrev wsX40 : List Cond := u_ws RX4 TX4 7
theorem nmX4 : ∀ a, a < 7 → ∀ b, b < 7 → a ≠ b → (TX4 a).2.1 ≠ (TX4 b).2.1 := by decide +kernel
theorem tyX4_ok : ∀ k, k < 7 → parseFieldDescriptor (TX4 k).2.2.1 = some (tyX4 k) := by decide +kernel
abbrev cX4_init : ByteArray := prog_6_method_1_code
def yX4_init : MethodName := ⟨RX4, "<init>", "(LFarFromAnybody$Camp;LFarFromAnybody$King;)V"⟩
abbrev cX4_tryAll : ByteArray := prog_6_method_2_code
def yX4_tryAll : MethodName := ⟨RX4, "tryAll", "(I)V"⟩
abbrev cX4_prepare : ByteArray := prog_6_method_3_code
def yX4_prepare : MethodName := ⟨RX4, "prepare", "()V"⟩
abbrev cX4_judge : ByteArray := prog_6_method_4_code
def yX4_judge : MethodName := ⟨RX4, "judge", "(III)V"⟩
abbrev cX4_noteRow : ByteArray := prog_6_method_5_code
def yX4_noteRow : MethodName := ⟨RX4, "noteRow", "(IIII)V"⟩
abbrev cX4_bestBy : ByteArray := prog_6_method_6_code
def yX4_bestBy : MethodName := ⟨RX4, "bestBy", "(II)I"⟩
abbrev cX4_payAt : ByteArray := prog_6_method_7_code
def yX4_payAt : MethodName := ⟨RX4, "payAt", "(III)I"⟩
def RX5 : String := "FarFromAnybody$Reader"
def TX5 : u_T := fun k => match k with
  | 0 => ("FarFromAnybody$Reader", "faultKind", "I", false)
  | 1 => ("FarFromAnybody$Reader", "faultPlace", "I", false)
  | 2 => ("FarFromAnybody$Reader", "kinds", "[I", true)
  | 3 => ("FarFromAnybody$Reader", "places", "[I", true)
  | 4 => ("FarFromAnybody$Reader", "values", "[I", true)
  | 5 => ("FarFromAnybody$Reader", "tokens", "I", false)
  | 6 => ("FarFromAnybody$Reader", "now", "I", false)
  | 7 => ("FarFromAnybody$Reader", "steps", "[I", true)
  | 8 => ("FarFromAnybody$Reader", "stepCount", "I", false)
  | 9 => ("FarFromAnybody$Reader", "lines", "I", false)
  | _ => ("FarFromAnybody$Reader", "asksEvening", "Z", false)
def tyX5 : Nat → FieldType := fun k => match k with
  | 0 => .int
  | 1 => .int
  | 2 => .array .int
  | 3 => .array .int
  | 4 => .array .int
  | 5 => .int
  | 6 => .int
  | 7 => .array .int
  | 8 => .int
  | 9 => .int
  | _ => .boolean
abbrev wsX50 : List Cond := u_ws RX5 TX5 11
theorem nmX5 : ∀ a, a < 11 → ∀ b, b < 11 → a ≠ b → (TX5 a).2.1 ≠ (TX5 b).2.1 := by decide +kernel
theorem tyX5_ok : ∀ k, k < 11 → parseFieldDescriptor (TX5 k).2.2.1 = some (tyX5 k) := by decide +kernel
abbrev cX5_init : ByteArray := prog_7_method_1_code
def yX5_init : MethodName := ⟨RX5, "<init>", "()V"⟩
abbrev cX5_read : ByteArray := prog_7_method_2_code
def yX5_read : MethodName := ⟨RX5, "read", "([BI)LFarFromAnybody$Law;"⟩
abbrev cX5_split : ByteArray := prog_7_method_3_code
def yX5_split : MethodName := ⟨RX5, "split", "([BI)V"⟩
abbrev cX5_isLetter : ByteArray := prog_7_method_4_code
def yX5_isLetter : MethodName := ⟨RX5, "isLetter", "(I)Z"⟩
abbrev cX5_isDigit : ByteArray := prog_7_method_5_code
def yX5_isDigit : MethodName := ⟨RX5, "isDigit", "(I)Z"⟩
abbrev cX5_addToken : ByteArray := prog_7_method_6_code
def yX5_addToken : MethodName := ⟨RX5, "addToken", "(III)V"⟩
abbrev cX5_addNumber : ByteArray := prog_7_method_7_code
def yX5_addNumber : MethodName := ⟨RX5, "addNumber", "([BII)V"⟩
abbrev cX5_addWord : ByteArray := prog_7_method_8_code
def yX5_addWord : MethodName := ⟨RX5, "addWord", "([BII)V"⟩
abbrev cX5_factOf : ByteArray := prog_7_method_9_code
def yX5_factOf : MethodName := ⟨RX5, "factOf", "([BII)I"⟩
abbrev cX5_isWord : ByteArray := prog_7_method_10_code
def yX5_isWord : MethodName := ⟨RX5, "isWord", "([BIILjava/lang/String;)Z"⟩
abbrev cX5_refuse : ByteArray := prog_7_method_11_code
def yX5_refuse : MethodName := ⟨RX5, "refuse", "(I)Z"⟩
abbrev cX5_goOn : ByteArray := prog_7_method_12_code
def yX5_goOn : MethodName := ⟨RX5, "goOn", "()V"⟩
abbrev cX5_addStep : ByteArray := prog_7_method_13_code
def yX5_addStep : MethodName := ⟨RX5, "addStep", "(II)V"⟩
abbrev cX5_readSign : ByteArray := prog_7_method_14_code
def yX5_readSign : MethodName := ⟨RX5, "readSign", "(I)Z"⟩
abbrev cX5_readEither : ByteArray := prog_7_method_15_code
def yX5_readEither : MethodName := ⟨RX5, "readEither", "(I)Z"⟩
abbrev cX5_readBoth : ByteArray := prog_7_method_16_code
def yX5_readBoth : MethodName := ⟨RX5, "readBoth", "(I)Z"⟩
abbrev cX5_readClaim : ByteArray := prog_7_method_17_code
def yX5_readClaim : MethodName := ⟨RX5, "readClaim", "(I)Z"⟩
abbrev cX5_readAmount : ByteArray := prog_7_method_18_code
def yX5_readAmount : MethodName := ⟨RX5, "readAmount", "()Z"⟩
abbrev cX5_readUnit : ByteArray := prog_7_method_19_code
def yX5_readUnit : MethodName := ⟨RX5, "readUnit", "(I)Z"⟩
abbrev cX5_readPart : ByteArray := prog_7_method_20_code
def yX5_readPart : MethodName := ⟨RX5, "readPart", "()Z"⟩
def RX6 : String := "FarFromAnybody$Thought"
def TX6 : u_T := fun k => match k with
  | 0 => ("FarFromAnybody$Thought", "noons", "I", false)
  | 1 => ("FarFromAnybody$Thought", "circle", "I", false)
  | 2 => ("FarFromAnybody$Thought", "savingYard", "I", false)
  | 3 => ("FarFromAnybody$Thought", "saved", "I", false)
  | 4 => ("FarFromAnybody$Thought", "sentYard", "I", false)
  | 5 => ("FarFromAnybody$Thought", "sentPays", "I", false)
  | 6 => ("FarFromAnybody$Thought", "goings", "I", false)
  | 7 => ("FarFromAnybody$Thought", "goneTent", "I", false)
  | 8 => ("FarFromAnybody$Thought", "goneYard", "I", false)
  | 9 => ("FarFromAnybody$Thought", "camp", "LFarFromAnybody$Camp;", true)
  | 10 => ("FarFromAnybody$Thought", "king", "LFarFromAnybody$King;", true)
  | 11 => ("FarFromAnybody$Thought", "days", "LFarFromAnybody$Days;", true)
  | _ => ("FarFromAnybody$Thought", "stood", "[I", true)
def tyX6 : Nat → FieldType := fun k => match k with
  | 0 => .int
  | 1 => .int
  | 2 => .int
  | 3 => .int
  | 4 => .int
  | 5 => .int
  | 6 => .int
  | 7 => .int
  | 8 => .int
  | 9 => .object "FarFromAnybody$Camp"
  | 10 => .object "FarFromAnybody$King"
  | 11 => .object "FarFromAnybody$Days"
  | _ => .array .int
abbrev wsX60 : List Cond := u_ws RX6 TX6 13
theorem nmX6 : ∀ a, a < 13 → ∀ b, b < 13 → a ≠ b → (TX6 a).2.1 ≠ (TX6 b).2.1 := by decide +kernel
theorem tyX6_ok : ∀ k, k < 13 → parseFieldDescriptor (TX6 k).2.2.1 = some (tyX6 k) := by decide +kernel
abbrev cX6_init : ByteArray := prog_8_method_1_code
def yX6_init : MethodName := ⟨RX6, "<init>", "(LFarFromAnybody$Camp;LFarFromAnybody$King;LFarFromAnybody$Days;)V"⟩
abbrev cX6_settle : ByteArray := prog_8_method_2_code
def yX6_settle : MethodName := ⟨RX6, "settle", "()V"⟩
abbrev cX6_circleUpTo : ByteArray := prog_8_method_3_code
def yX6_circleUpTo : MethodName := ⟨RX6, "circleUpTo", "(I)I"⟩
abbrev cX6_findSaving : ByteArray := prog_8_method_4_code
def yX6_findSaving : MethodName := ⟨RX6, "findSaving", "()V"⟩
abbrev cX6_stillFine : ByteArray := prog_8_method_5_code
def yX6_stillFine : MethodName := ⟨RX6, "stillFine", "()I"⟩
abbrev cX6_findSending : ByteArray := prog_8_method_6_code
def yX6_findSending : MethodName := ⟨RX6, "findSending", "(I)V"⟩
abbrev cX6_gainWithout : ByteArray := prog_8_method_7_code
def yX6_gainWithout : MethodName := ⟨RX6, "gainWithout", "(II)I"⟩
abbrev cX6_recallNight : ByteArray := prog_8_method_8_code
def yX6_recallNight : MethodName := ⟨RX6, "recallNight", "()V"⟩
abbrev cX6_noteGoing : ByteArray := prog_8_method_9_code
def yX6_noteGoing : MethodName := ⟨RX6, "noteGoing", "(II)V"⟩
abbrev cX6_fitsTold : ByteArray := prog_8_method_10_code
def yX6_fitsTold : MethodName := ⟨RX6, "fitsTold", "()Z"⟩
def RX7 : String := "FarFromAnybody$Ways"
def TX7 : u_T := fun k => match k with
  | 0 => ("FarFromAnybody$Ways", "camp", "LFarFromAnybody$Camp;", true)
  | 1 => ("FarFromAnybody$Ways", "bridgesStand", "Z", true)
  | 2 => ("FarFromAnybody$Ways", "rows", "[[B", true)
  | 3 => ("FarFromAnybody$Ways", "stamps", "[I", true)
  | 4 => ("FarFromAnybody$Ways", "queue", "[I", true)
  | _ => ("FarFromAnybody$Ways", "stamp", "I", false)
def tyX7 : Nat → FieldType := fun k => match k with
  | 0 => .object "FarFromAnybody$Camp"
  | 1 => .boolean
  | 2 => .array (.array .byte)
  | 3 => .array .int
  | 4 => .array .int
  | _ => .int
abbrev wsX70 : List Cond := u_ws RX7 TX7 6
theorem nmX7 : ∀ a, a < 6 → ∀ b, b < 6 → a ≠ b → (TX7 a).2.1 ≠ (TX7 b).2.1 := by decide +kernel
theorem tyX7_ok : ∀ k, k < 6 → parseFieldDescriptor (TX7 k).2.2.1 = some (tyX7 k) := by decide +kernel
abbrev cX7_init : ByteArray := prog_9_method_1_code
def yX7_init : MethodName := ⟨RX7, "<init>", "(LFarFromAnybody$Camp;Z)V"⟩
abbrev cX7_forget : ByteArray := prog_9_method_2_code
def yX7_forget : MethodName := ⟨RX7, "forget", "()V"⟩
abbrev cX7_from : ByteArray := prog_9_method_3_code
def yX7_from : MethodName := ⟨RX7, "from", "(I)[B"⟩
def RX8 : String := "FarFromAnybody"
def TX8 : u_T := fun k => match k with
  | 0 => ("FarFromAnybody", "camp", "LFarFromAnybody$Camp;", true)
  | 1 => ("FarFromAnybody", "ways", "LFarFromAnybody$Ways;", true)
  | 2 => ("FarFromAnybody", "brokenWays", "LFarFromAnybody$Ways;", true)
  | 3 => ("FarFromAnybody", "king", "LFarFromAnybody$King;", true)
  | 4 => ("FarFromAnybody", "brokenKing", "LFarFromAnybody$King;", true)
  | 5 => ("FarFromAnybody", "days", "LFarFromAnybody$Days;", true)
  | 6 => ("FarFromAnybody", "thought", "LFarFromAnybody$Thought;", true)
  | 7 => ("FarFromAnybody", "tape", "[B", true)
  | 8 => ("FarFromAnybody", "taped", "I", false)
  | 9 => ("FarFromAnybody", "faultKind", "I", false)
  | 10 => ("FarFromAnybody", "faultPlace", "I", false)
  | 11 => ("FarFromAnybody", "reader", "LFarFromAnybody$Reader;", false)
  | 12 => ("FarFromAnybody", "trials", "LFarFromAnybody$Placings;", false)
  | _ => ("FarFromAnybody", "kept", "LFarFromAnybody$Camp;", false)
def tyX8 : Nat → FieldType := fun k => match k with
  | 0 => .object "FarFromAnybody$Camp"
  | 1 => .object "FarFromAnybody$Ways"
  | 2 => .object "FarFromAnybody$Ways"
  | 3 => .object "FarFromAnybody$King"
  | 4 => .object "FarFromAnybody$King"
  | 5 => .object "FarFromAnybody$Days"
  | 6 => .object "FarFromAnybody$Thought"
  | 7 => .array .byte
  | 8 => .int
  | 9 => .int
  | 10 => .int
  | 11 => .object "FarFromAnybody$Reader"
  | 12 => .object "FarFromAnybody$Placings"
  | _ => .object "FarFromAnybody$Camp"
abbrev wsX80 : List Cond := u_ws RX8 TX8 14
theorem nmX8 : ∀ a, a < 14 → ∀ b, b < 14 → a ≠ b → (TX8 a).2.1 ≠ (TX8 b).2.1 := by decide +kernel
theorem tyX8_ok : ∀ k, k < 14 → parseFieldDescriptor (TX8 k).2.2.1 = some (tyX8 k) := by decide +kernel
abbrev cX8_init : ByteArray := prog_1_method_1_code
def yX8_init : MethodName := ⟨RX8, "<init>", "()V"⟩
abbrev cX8_state : ByteArray := prog_1_method_2_code
def yX8_state : MethodName := ⟨RX8, "state", "(I)I"⟩
abbrev cX8_plain : ByteArray := prog_1_method_3_code
def yX8_plain : MethodName := ⟨RX8, "plain", "(II)Z"⟩
abbrev cX8_yard : ByteArray := prog_1_method_4_code
def yX8_yard : MethodName := ⟨RX8, "yard", "(II)Z"⟩
abbrev cX8_tent : ByteArray := prog_1_method_5_code
def yX8_tent : MethodName := ⟨RX8, "tent", "(III)I"⟩
abbrev cX8_man : ByteArray := prog_1_method_6_code
def yX8_man : MethodName := ⟨RX8, "man", "(I)I"⟩
abbrev cX8_stranger : ByteArray := prog_1_method_7_code
def yX8_stranger : MethodName := ⟨RX8, "stranger", "(I)Z"⟩
abbrev cX8_set : ByteArray := prog_1_method_8_code
def yX8_set : MethodName := ⟨RX8, "set", "(III)Z"⟩
abbrev cX8_feed : ByteArray := prog_1_method_9_code
def yX8_feed : MethodName := ⟨RX8, "feed", "(IIIII)I"⟩
abbrev cX8_end : ByteArray := prog_1_method_10_code
def yX8_end : MethodName := ⟨RX8, "end", "(I)Z"⟩
abbrev cX8_text : ByteArray := prog_1_method_11_code
def yX8_text : MethodName := ⟨RX8, "text", "()I"⟩
abbrev cX8_fault : ByteArray := prog_1_method_12_code
def yX8_fault : MethodName := ⟨RX8, "fault", "(I)I"⟩
abbrev cX8_evenings : ByteArray := prog_1_method_13_code
def yX8_evenings : MethodName := ⟨RX8, "evenings", "(I)I"⟩
abbrev cX8_of : ByteArray := prog_1_method_14_code
def yX8_of : MethodName := ⟨RX8, "of", "(II)I"⟩
abbrev cX8_way : ByteArray := prog_1_method_15_code
def yX8_way : MethodName := ⟨RX8, "way", "(II)I"⟩
abbrev cX8_at : ByteArray := prog_1_method_16_code
def yX8_at : MethodName := ⟨RX8, "at", "(II)I"⟩
abbrev cX8_rest : ByteArray := prog_1_method_17_code
def yX8_rest : MethodName := ⟨RX8, "rest", "(I)I"⟩
abbrev cX8_placings : ByteArray := prog_1_method_18_code
def yX8_placings : MethodName := ⟨RX8, "placings", "(II)I"⟩
abbrev cX8_saves : ByteArray := prog_1_method_19_code
def yX8_saves : MethodName := ⟨RX8, "saves", "(I)I"⟩
abbrev cX8_line : ByteArray := prog_1_method_20_code
def yX8_line : MethodName := ⟨RX8, "line", "()I"⟩
abbrev cX8_rid : ByteArray := prog_1_method_21_code
def yX8_rid : MethodName := ⟨RX8, "rid", "(II)I"⟩
abbrev cX8_send : ByteArray := prog_1_method_22_code
def yX8_send : MethodName := ⟨RX8, "send", "(II)I"⟩
abbrev cX8_broken : ByteArray := prog_1_method_23_code
def yX8_broken : MethodName := ⟨RX8, "broken", "(I)I"⟩
abbrev cX8_told : ByteArray := prog_1_method_24_code
def yX8_told : MethodName := ⟨RX8, "told", "(II)Z"⟩
abbrev cX8_night : ByteArray := prog_1_method_25_code
def yX8_night : MethodName := ⟨RX8, "night", "(I)I"⟩
abbrev cX8_image : ByteArray := prog_1_method_26_code
def yX8_image : MethodName := ⟨RX8, "image", "(Z)Z"⟩
abbrev cX8_look : ByteArray := prog_1_method_27_code
def yX8_look : MethodName := ⟨RX8, "look", "(I)I"⟩
abbrev cX8_lookAtTold : ByteArray := prog_1_method_28_code
def yX8_lookAtTold : MethodName := ⟨RX8, "lookAtTold", "(I)I"⟩
abbrev cX8_forgetWays : ByteArray := prog_1_method_29_code
def yX8_forgetWays : MethodName := ⟨RX8, "forgetWays", "()V"⟩
abbrev cX8_tapeNumber : ByteArray := prog_1_method_30_code
def yX8_tapeNumber : MethodName := ⟨RX8, "tapeNumber", "(I)V"⟩
abbrev cX8_isMode : ByteArray := prog_1_method_31_code
def yX8_isMode : MethodName := ⟨RX8, "isMode", "(I)Z"⟩
abbrev cX8_setFine : ByteArray := prog_1_method_32_code
def yX8_setFine : MethodName := ⟨RX8, "setFine", "(I)Z"⟩
abbrev cX8_setAtOnce : ByteArray := prog_1_method_33_code
def yX8_setAtOnce : MethodName := ⟨RX8, "setAtOnce", "(I)Z"⟩
abbrev cX8_setMode : ByteArray := prog_1_method_34_code
def yX8_setMode : MethodName := ⟨RX8, "setMode", "(II)Z"⟩
abbrev cX8_putTent : ByteArray := prog_1_method_35_code
def yX8_putTent : MethodName := ⟨RX8, "putTent", "(II)Z"⟩
def RX9 : String := "FarFromAnybodyModel"
def TX9 : u_T := fun k => match k with
  | 0 => ("FarFromAnybodyModel", "w", "[I", true)
  | 1 => ("FarFromAnybodyModel", "kept", "[I", true)
  | 2 => ("FarFromAnybodyModel", "hasImage", "Z", false)
  | 3 => ("FarFromAnybodyModel", "freshLine", "[I", true)
  | 4 => ("FarFromAnybodyModel", "freshStep", "[I", true)
  | 5 => ("FarFromAnybodyModel", "tape", "[I", true)
  | 6 => ("FarFromAnybodyModel", "pile", "[I", true)
  | 7 => ("FarFromAnybodyModel", "facts", "[I", true)
  | 8 => ("FarFromAnybodyModel", "lines", "I", false)
  | 9 => ("FarFromAnybodyModel", "steps", "I", false)
  | 10 => ("FarFromAnybodyModel", "taped", "I", false)
  | 11 => ("FarFromAnybodyModel", "at", "I", false)
  | 12 => ("FarFromAnybodyModel", "token", "I", false)
  | 13 => ("FarFromAnybodyModel", "tokenAt", "I", false)
  | 14 => ("FarFromAnybodyModel", "value", "I", false)
  | 15 => ("FarFromAnybodyModel", "wrong", "I", false)
  | 16 => ("FarFromAnybodyModel", "wrongAt", "I", false)
  | 17 => ("FarFromAnybodyModel", "faultKind", "I", false)
  | 18 => ("FarFromAnybodyModel", "depth", "I", false)
  | 19 => ("FarFromAnybodyModel", "faultPlace", "I", false)
  | 20 => ("FarFromAnybodyModel", "ways", "[I", true)
  | 21 => ("FarFromAnybodyModel", "queue", "[I", true)
  | 22 => ("FarFromAnybodyModel", "hasWays", "Z", false)
  | 23 => ("FarFromAnybodyModel", "gone", "I", false)
  | 24 => ("FarFromAnybodyModel", "choice", "[I", true)
  | 25 => ("FarFromAnybodyModel", "went", "[I", true)
  | 26 => ("FarFromAnybodyModel", "rows", "[I", true)
  | 27 => ("FarFromAnybodyModel", "before", "[I", true)
  | 28 => ("FarFromAnybodyModel", "placed", "[I", true)
  | 29 => ("FarFromAnybodyModel", "firstRest", "[I", true)
  | 30 => ("FarFromAnybodyModel", "leastRow", "[I", true)
  | 31 => ("FarFromAnybodyModel", "mostRow", "[I", true)
  | 32 => ("FarFromAnybodyModel", "placedMany", "I", false)
  | 33 => ("FarFromAnybodyModel", "rests", "I", false)
  | 34 => ("FarFromAnybodyModel", "leastSum", "I", false)
  | _ => ("FarFromAnybodyModel", "mostSum", "I", false)
def tyX9 : Nat → FieldType := fun k => match k with
  | 0 => .array .int
  | 1 => .array .int
  | 2 => .boolean
  | 3 => .array .int
  | 4 => .array .int
  | 5 => .array .int
  | 6 => .array .int
  | 7 => .array .int
  | 8 => .int
  | 9 => .int
  | 10 => .int
  | 11 => .int
  | 12 => .int
  | 13 => .int
  | 14 => .int
  | 15 => .int
  | 16 => .int
  | 17 => .int
  | 18 => .int
  | 19 => .int
  | 20 => .array .int
  | 21 => .array .int
  | 22 => .boolean
  | 23 => .int
  | 24 => .array .int
  | 25 => .array .int
  | 26 => .array .int
  | 27 => .array .int
  | 28 => .array .int
  | 29 => .array .int
  | 30 => .array .int
  | 31 => .array .int
  | 32 => .int
  | 33 => .int
  | 34 => .int
  | _ => .int
abbrev wsX90 : List Cond := u_ws RX9 TX9 36
theorem nmX9 : ∀ a, a < 36 → ∀ b, b < 36 → a ≠ b → (TX9 a).2.1 ≠ (TX9 b).2.1 := by decide +kernel
theorem tyX9_ok : ∀ k, k < 36 → parseFieldDescriptor (TX9 k).2.2.1 = some (tyX9 k) := by decide +kernel
abbrev cX9_init : ByteArray := prog_11_method_1_code
def yX9_init : MethodName := ⟨RX9, "<init>", "()V"⟩
abbrev cX9_begins : ByteArray := prog_11_method_2_code
def yX9_begins : MethodName := ⟨RX9, "begins", "(II)V"⟩
abbrev cX9_isIn : ByteArray := prog_11_method_3_code
def yX9_isIn : MethodName := ⟨RX9, "isIn", "(III)Z"⟩
abbrev cX9_least : ByteArray := prog_11_method_4_code
def yX9_least : MethodName := ⟨RX9, "least", "(II)I"⟩
abbrev cX9_isPlace : ByteArray := prog_11_method_5_code
def yX9_isPlace : MethodName := ⟨RX9, "isPlace", "(II)Z"⟩
abbrev cX9_isYard : ByteArray := prog_11_method_6_code
def yX9_isYard : MethodName := ⟨RX9, "isYard", "(I)Z"⟩
abbrev cX9_isGrass : ByteArray := prog_11_method_7_code
def yX9_isGrass : MethodName := ⟨RX9, "isGrass", "(I)Z"⟩
abbrev cX9_isTent : ByteArray := prog_11_method_8_code
def yX9_isTent : MethodName := ⟨RX9, "isTent", "(I)Z"⟩
abbrev cX9_own : ByteArray := prog_11_method_9_code
def yX9_own : MethodName := ⟨RX9, "own", "(II)I"⟩
abbrev cX9_gives : ByteArray := prog_11_method_10_code
def yX9_gives : MethodName := ⟨RX9, "gives", "(III)V"⟩
abbrev cX9_state : ByteArray := prog_11_method_11_code
def yX9_state : MethodName := ⟨RX9, "state", "(I)I"⟩
abbrev cX9_draw : ByteArray := prog_11_method_12_code
def yX9_draw : MethodName := ⟨RX9, "draw", "(I)I"⟩
abbrev cX9_plain : ByteArray := prog_11_method_13_code
def yX9_plain : MethodName := ⟨RX9, "plain", "(II)Z"⟩
abbrev cX9_tentAt : ByteArray := prog_11_method_14_code
def yX9_tentAt : MethodName := ⟨RX9, "tentAt", "(I)I"⟩
abbrev cX9_manAt : ByteArray := prog_11_method_15_code
def yX9_manAt : MethodName := ⟨RX9, "manAt", "(I)I"⟩
abbrev cX9_yard : ByteArray := prog_11_method_16_code
def yX9_yard : MethodName := ⟨RX9, "yard", "(II)Z"⟩
abbrev cX9_couldBe : ByteArray := prog_11_method_17_code
def yX9_couldBe : MethodName := ⟨RX9, "couldBe", "(III)Z"⟩
abbrev cX9_tent : ByteArray := prog_11_method_18_code
def yX9_tent : MethodName := ⟨RX9, "tent", "(III)I"⟩
abbrev cX9_isFree : ByteArray := prog_11_method_19_code
def yX9_isFree : MethodName := ⟨RX9, "isFree", "(I)Z"⟩
abbrev cX9_man : ByteArray := prog_11_method_20_code
def yX9_man : MethodName := ⟨RX9, "man", "(I)I"⟩
abbrev cX9_stranger : ByteArray := prog_11_method_21_code
def yX9_stranger : MethodName := ⟨RX9, "stranger", "(I)Z"⟩
abbrev cX9_couldStand : ByteArray := prog_11_method_22_code
def yX9_couldStand : MethodName := ⟨RX9, "couldStand", "(II)Z"⟩
abbrev cX9_set : ByteArray := prog_11_method_23_code
def yX9_set : MethodName := ⟨RX9, "set", "(III)Z"⟩
abbrev cX9_feed : ByteArray := prog_11_method_24_code
def yX9_feed : MethodName := ⟨RX9, "feed", "(IIIII)I"⟩
abbrev cX9_end : ByteArray := prog_11_method_25_code
def yX9_end : MethodName := ⟨RX9, "end", "(I)Z"⟩
abbrev cX9_see : ByteArray := prog_11_method_26_code
def yX9_see : MethodName := ⟨RX9, "see", "(I)I"⟩
abbrev cX9_isLetter : ByteArray := prog_11_method_27_code
def yX9_isLetter : MethodName := ⟨RX9, "isLetter", "(I)Z"⟩
abbrev cX9_isDigit : ByteArray := prog_11_method_28_code
def yX9_isDigit : MethodName := ⟨RX9, "isDigit", "(I)Z"⟩
abbrev cX9_is : ByteArray := prog_11_method_29_code
def yX9_is : MethodName := ⟨RX9, "is", "(Ljava/lang/String;)Z"⟩
abbrev cX9_nameWord : ByteArray := prog_11_method_30_code
def yX9_nameWord : MethodName := ⟨RX9, "nameWord", "()I"⟩
abbrev cX9_word : ByteArray := prog_11_method_31_code
def yX9_word : MethodName := ⟨RX9, "word", "()I"⟩
abbrev cX9_next0 : ByteArray := prog_11_method_32_code
def yX9_next0 : MethodName := ⟨RX9, "next0", "()V"⟩
abbrev cX9_bad : ByteArray := prog_11_method_33_code
def yX9_bad : MethodName := ⟨RX9, "bad", "(I)Z"⟩
abbrev cX9_need : ByteArray := prog_11_method_34_code
def yX9_need : MethodName := ⟨RX9, "need", "(I)Z"⟩
abbrev cX9_lay : ByteArray := prog_11_method_35_code
def yX9_lay : MethodName := ⟨RX9, "lay", "(II)V"⟩
abbrev cX9_opens : ByteArray := prog_11_method_36_code
def yX9_opens : MethodName := ⟨RX9, "opens", "()Z"⟩
abbrev cX9_sumUp : ByteArray := prog_11_method_37_code
def yX9_sumUp : MethodName := ⟨RX9, "sumUp", "()Z"⟩
abbrev cX9_product : ByteArray := prog_11_method_38_code
def yX9_product : MethodName := ⟨RX9, "product", "()Z"⟩
abbrev cX9_unit : ByteArray := prog_11_method_39_code
def yX9_unit : MethodName := ⟨RX9, "unit", "()Z"⟩
abbrev cX9_any : ByteArray := prog_11_method_40_code
def yX9_any : MethodName := ⟨RX9, "any", "()Z"⟩
abbrev cX9_every : ByteArray := prog_11_method_41_code
def yX9_every : MethodName := ⟨RX9, "every", "()Z"⟩
abbrev cX9_oneTest : ByteArray := prog_11_method_42_code
def yX9_oneTest : MethodName := ⟨RX9, "oneTest", "()Z"⟩
abbrev cX9_aLine : ByteArray := prog_11_method_43_code
def yX9_aLine : MethodName := ⟨RX9, "aLine", "()Z"⟩
abbrev cX9_text : ByteArray := prog_11_method_44_code
def yX9_text : MethodName := ⟨RX9, "text", "()I"⟩
abbrev cX9_fault : ByteArray := prog_11_method_45_code
def yX9_fault : MethodName := ⟨RX9, "fault", "(I)I"⟩
abbrev cX9_both : ByteArray := prog_11_method_46_code
def yX9_both : MethodName := ⟨RX9, "both", "(III)I"⟩
abbrev cX9_comesTo : ByteArray := prog_11_method_47_code
def yX9_comesTo : MethodName := ⟨RX9, "comesTo", "(II)I"⟩
abbrev cX9_beside : ByteArray := prog_11_method_48_code
def yX9_beside : MethodName := ⟨RX9, "beside", "(II)I"⟩
abbrev cX9_isDry : ByteArray := prog_11_method_49_code
def yX9_isDry : MethodName := ⟨RX9, "isDry", "(I)Z"⟩
abbrev cX9_laysWays : ByteArray := prog_11_method_50_code
def yX9_laysWays : MethodName := ⟨RX9, "laysWays", "(I)V"⟩
abbrev cX9_wayOf : ByteArray := prog_11_method_51_code
def yX9_wayOf : MethodName := ⟨RX9, "wayOf", "(II)I"⟩
abbrev cX9_way : ByteArray := prog_11_method_52_code
def yX9_way : MethodName := ⟨RX9, "way", "(II)I"⟩
abbrev cX9_areKin : ByteArray := prog_11_method_53_code
def yX9_areKin : MethodName := ⟨RX9, "areKin", "(II)Z"⟩
abbrev cX9_nearer : ByteArray := prog_11_method_54_code
def yX9_nearer : MethodName := ⟨RX9, "nearer", "(III)I"⟩
abbrev cX9_farAlone : ByteArray := prog_11_method_55_code
def yX9_farAlone : MethodName := ⟨RX9, "farAlone", "(I)I"⟩
abbrev cX9_farOf : ByteArray := prog_11_method_56_code
def yX9_farOf : MethodName := ⟨RX9, "farOf", "(I)I"⟩
abbrev cX9_kinOf : ByteArray := prog_11_method_57_code
def yX9_kinOf : MethodName := ⟨RX9, "kinOf", "(I)I"⟩
abbrev cX9_isNear : ByteArray := prog_11_method_58_code
def yX9_isNear : MethodName := ⟨RX9, "isNear", "(II)I"⟩
abbrev cX9_nearOf : ByteArray := prog_11_method_59_code
def yX9_nearOf : MethodName := ⟨RX9, "nearOf", "(I)I"⟩
abbrev cX9_lawful : ByteArray := prog_11_method_60_code
def yX9_lawful : MethodName := ⟨RX9, "lawful", "(IIII)I"⟩
abbrev cX9_payOf : ByteArray := prog_11_method_61_code
def yX9_payOf : MethodName := ⟨RX9, "payOf", "(I)I"⟩
abbrev cX9_payAt : ByteArray := prog_11_method_62_code
def yX9_payAt : MethodName := ⟨RX9, "payAt", "(II)I"⟩
abbrev cX9_where : ByteArray := prog_11_method_63_code
def yX9_where : MethodName := ⟨RX9, "where", "(I)I"⟩
abbrev cX9_bestBeside : ByteArray := prog_11_method_64_code
def yX9_bestBeside : MethodName := ⟨RX9, "bestBeside", "(I)I"⟩
abbrev cX9_chosen : ByteArray := prog_11_method_65_code
def yX9_chosen : MethodName := ⟨RX9, "chosen", "(IZ)I"⟩
abbrev cX9_noon : ByteArray := prog_11_method_66_code
def yX9_noon : MethodName := ⟨RX9, "noon", "(Z)I"⟩
abbrev cX9_evenings : ByteArray := prog_11_method_67_code
def yX9_evenings : MethodName := ⟨RX9, "evenings", "(I)I"⟩
abbrev cX9_of : ByteArray := prog_11_method_68_code
def yX9_of : MethodName := ⟨RX9, "of", "(II)I"⟩
abbrev cX9_at : ByteArray := prog_11_method_69_code
def yX9_at : MethodName := ⟨RX9, "at", "(II)I"⟩
abbrev cX9_isRow : ByteArray := prog_11_method_70_code
def yX9_isRow : MethodName := ⟨RX9, "isRow", "(I)Z"⟩
abbrev cX9_rest : ByteArray := prog_11_method_71_code
def yX9_rest : MethodName := ⟨RX9, "rest", "(I)I"⟩
abbrev cX9_paid : ByteArray := prog_11_method_72_code
def yX9_paid : MethodName := ⟨RX9, "paid", "(II)I"⟩
abbrev cX9_isAtRest : ByteArray := prog_11_method_73_code
def yX9_isAtRest : MethodName := ⟨RX9, "isAtRest", "(I)Z"⟩
abbrev cX9_judges : ByteArray := prog_11_method_74_code
def yX9_judges : MethodName := ⟨RX9, "judges", "()V"⟩
abbrev cX9_places : ByteArray := prog_11_method_75_code
def yX9_places : MethodName := ⟨RX9, "places", "(II)V"⟩
abbrev cX9_placings : ByteArray := prog_11_method_76_code
def yX9_placings : MethodName := ⟨RX9, "placings", "(II)I"⟩
abbrev cX9_allPays : ByteArray := prog_11_method_77_code
def yX9_allPays : MethodName := ⟨RX9, "allPays", "()I"⟩
abbrev cX9_saves : ByteArray := prog_11_method_78_code
def yX9_saves : MethodName := ⟨RX9, "saves", "(I)I"⟩
abbrev cX9_line : ByteArray := prog_11_method_79_code
def yX9_line : MethodName := ⟨RX9, "line", "()I"⟩
abbrev cX9_rid : ByteArray := prog_11_method_80_code
def yX9_rid : MethodName := ⟨RX9, "rid", "(II)I"⟩
abbrev cX9_pays : ByteArray := prog_11_method_81_code
def yX9_pays : MethodName := ⟨RX9, "pays", "(I)I"⟩
abbrev cX9_send : ByteArray := prog_11_method_82_code
def yX9_send : MethodName := ⟨RX9, "send", "(II)I"⟩
abbrev cX9_breaks : ByteArray := prog_11_method_83_code
def yX9_breaks : MethodName := ⟨RX9, "breaks", "(II)V"⟩
abbrev cX9_broken : ByteArray := prog_11_method_84_code
def yX9_broken : MethodName := ⟨RX9, "broken", "(I)I"⟩
abbrev cX9_told : ByteArray := prog_11_method_85_code
def yX9_told : MethodName := ⟨RX9, "told", "(II)Z"⟩
abbrev cX9_goWith : ByteArray := prog_11_method_86_code
def yX9_goWith : MethodName := ⟨RX9, "goWith", "()Z"⟩
abbrev cX9_night : ByteArray := prog_11_method_87_code
def yX9_night : MethodName := ⟨RX9, "night", "(I)I"⟩
abbrev cX9_image : ByteArray := prog_11_method_88_code
def yX9_image : MethodName := ⟨RX9, "image", "(Z)Z"⟩
abbrev cX9_look : ByteArray := prog_11_method_89_code
def yX9_look : MethodName := ⟨RX9, "look", "(I)I"⟩
def RJ9 : String := "java/lang/Math"
abbrev cJ9_max_7cf53 : ByteArray := prog_13_method_65_code
def yJ9_max_7cf53 : MethodName := ⟨RJ9, "max", "(II)I"⟩
abbrev cJ9_min_7cf53 : ByteArray := prog_13_method_69_code
def yJ9_min_7cf53 : MethodName := ⟨RJ9, "min", "(II)I"⟩
def RJ0 : String := "java/lang/String"
abbrev cJ0_length_8abf5 : ByteArray := prog_14_method_54_code
def yJ0_length_8abf5 : MethodName := ⟨RJ0, "length", "()I"⟩
abbrev cJ0_charAt_5068e : ByteArray := prog_14_method_56_code
def yJ0_charAt_5068e : MethodName := ⟨RJ0, "charAt", "(I)C"⟩
abbrev cJ0_coder_7d493 : ByteArray := prog_14_method_152_code
def yJ0_coder_7d493 : MethodName := ⟨RJ0, "coder", "()B"⟩
abbrev cJ0_isLatin1_aae02 : ByteArray := prog_14_method_154_code
def yJ0_isLatin1_aae02 : MethodName := ⟨RJ0, "isLatin1", "()Z"⟩
abbrev cJ0_checkIndex_df160 : ByteArray := prog_14_method_155_code
def yJ0_checkIndex_df160 : MethodName := ⟨RJ0, "checkIndex", "(II)V"⟩
def RJ1 : String := "java/lang/StringLatin1"
abbrev cJ1_charAt_3b067 : ByteArray := prog_15_method_2_code
def yJ1_charAt_3b067 : MethodName := ⟨RJ1, "charAt", "([BI)C"⟩
def RJ2 : String := "java/lang/StringUTF16"
abbrev cJ2_getChar_3b067 : ByteArray := prog_16_method_5_code
def yJ2_getChar_3b067 : MethodName := ⟨RJ2, "getChar", "([BI)C"⟩
abbrev cJ2_length_9d52b : ByteArray := prog_16_method_6_code
def yJ2_length_9d52b : MethodName := ⟨RJ2, "length", "([B)I"⟩
abbrev cJ2_charAt_3b067 : ByteArray := prog_16_method_83_code
def yJ2_charAt_3b067 : MethodName := ⟨RJ2, "charAt", "([BI)C"⟩
abbrev cJ2_checkIndex_2214a : ByteArray := prog_16_method_91_code
def yJ2_checkIndex_2214a : MethodName := ⟨RJ2, "checkIndex", "(I[B)V"⟩
def RJ10 : String := "java/lang/System"
def RJ7 : String := "java/util/Arrays"
abbrev cJ7_fill_53178 : ByteArray := prog_18_method_103_code
def yJ7_fill_53178 : MethodName := ⟨RJ7, "fill", "([II)V"⟩
abbrev cJ7_fill_031fb : ByteArray := prog_18_method_109_code
def yJ7_fill_031fb : MethodName := ⟨RJ7, "fill", "([BB)V"⟩
abbrev cJ7_copyOf_59c91 : ByteArray := prog_18_method_123_code
def yJ7_copyOf_59c91 : MethodName := ⟨RJ7, "copyOf", "([II)[I"⟩
def RJ3 : String := "jdk/internal/util/Preconditions"
abbrev cJ3_checkIndex_8e157 : ByteArray := prog_19_method_11_code
def yJ3_checkIndex_8e157 : MethodName := ⟨RJ3, "checkIndex", "(IILjava/util/function/BiFunction;)I"⟩
def RL : String := "FarFromAnybodyLaw"
abbrev cL_law : ByteArray := code
def yL_law : MethodName := ⟨RL, "law", "([I)Z"⟩
abbrev vwCl : List vw_C := [(RX0, TX0, 19), (RX1, TX1, 5), (RX2, TX2, 8), (RX3, TX3, 3), (RX4, TX4, 7), (RX5, TX5, 11), (RX6, TX6, 13), (RX7, TX7, 6), (RX8, TX8, 14), (RX9, TX9, 36)]
/-- the objects of FarFromAnybody$Camp, kind 0: what each holds, by its address -/
theorem inX0 : ∀ w ∈ wsX00, w ∈ lw_tbl := by decide +kernel
theorem inX1 : ∀ w ∈ wsX10, w ∈ lw_tbl := by decide +kernel
theorem inX2 : ∀ w ∈ wsX20, w ∈ lw_tbl := by decide +kernel
theorem inX3 : ∀ w ∈ wsX30, w ∈ lw_tbl := by decide +kernel
theorem inX4 : ∀ w ∈ wsX40, w ∈ lw_tbl := by decide +kernel
theorem inX5 : ∀ w ∈ wsX50, w ∈ lw_tbl := by decide +kernel
theorem inX6 : ∀ w ∈ wsX60, w ∈ lw_tbl := by decide +kernel
theorem inX7 : ∀ w ∈ wsX70, w ∈ lw_tbl := by decide +kernel
theorem inX8 : ∀ w ∈ wsX80, w ∈ lw_tbl := by decide +kernel
theorem inX9 : ∀ w ∈ wsX90, w ∈ lw_tbl := by decide +kernel
