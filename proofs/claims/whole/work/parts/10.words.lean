-- written by gen.py: the words that the instructions need
theorem in_1 {w : Cond} (h : w ∈ tables_1_1) : w ∈ lw_tbl := List.mem_append_right _ (show w ∈ tables_1_1 ++ (tables_1_2 ++ (tables_1_3 ++ (tables_1_4 ++ (tables_1_5 ++ tables_1_6)))) from List.mem_append_left _ h)
theorem in_2 {w : Cond} (h : w ∈ tables_1_2) : w ∈ lw_tbl := List.mem_append_right _ (show w ∈ tables_1_1 ++ (tables_1_2 ++ (tables_1_3 ++ (tables_1_4 ++ (tables_1_5 ++ tables_1_6)))) from List.mem_append_right _ (List.mem_append_left _ h))
theorem in_3 {w : Cond} (h : w ∈ tables_1_3) : w ∈ lw_tbl := List.mem_append_right _ (show w ∈ tables_1_1 ++ (tables_1_2 ++ (tables_1_3 ++ (tables_1_4 ++ (tables_1_5 ++ tables_1_6)))) from List.mem_append_right _ (List.mem_append_right _ (List.mem_append_left _ h)))
theorem in_4 {w : Cond} (h : w ∈ tables_1_4) : w ∈ lw_tbl := List.mem_append_right _ (show w ∈ tables_1_1 ++ (tables_1_2 ++ (tables_1_3 ++ (tables_1_4 ++ (tables_1_5 ++ tables_1_6)))) from List.mem_append_right _ (List.mem_append_right _ (List.mem_append_right _ (List.mem_append_left _ h))))
theorem in_5 {w : Cond} (h : w ∈ tables_1_5) : w ∈ lw_tbl := List.mem_append_right _ (show w ∈ tables_1_1 ++ (tables_1_2 ++ (tables_1_3 ++ (tables_1_4 ++ (tables_1_5 ++ tables_1_6)))) from List.mem_append_right _ (List.mem_append_right _ (List.mem_append_right _ (List.mem_append_right _ (List.mem_append_left _ h)))))
theorem in_6 {w : Cond} (h : w ∈ tables_1_6) : w ∈ lw_tbl := List.mem_append_right _ (show w ∈ tables_1_1 ++ (tables_1_2 ++ (tables_1_3 ++ (tables_1_4 ++ (tables_1_5 ++ tables_1_6)))) from List.mem_append_right _ (List.mem_append_right _ (List.mem_append_right _ (List.mem_append_right _ (List.mem_append_right _ (h))))))
theorem in_s {y : MethodName} {c : Nat} (h : (y, c) ∈ lw_privs) : Cond.selects y.cls y y ∈ lw_tbl := List.mem_append_left _ (List.mem_map.mpr ⟨_, h, rfl⟩)
theorem wd_0 : Cond.selects "FarFromAnybody" (⟨"FarFromAnybody", "forgetWays", "()V"⟩ : MethodName) (⟨"FarFromAnybody", "forgetWays", "()V"⟩ : MethodName) ∈ lw_tbl := in_s (y := (⟨"FarFromAnybody", "forgetWays", "()V"⟩ : MethodName)) (c := 14) (List.mem_of_getElem? (i := 0) rfl)
theorem wd_1 : Cond.selects "FarFromAnybody" (⟨"FarFromAnybody", "setFine", "(I)Z"⟩ : MethodName) (⟨"FarFromAnybody", "setFine", "(I)Z"⟩ : MethodName) ∈ lw_tbl := in_s (y := (⟨"FarFromAnybody", "setFine", "(I)Z"⟩ : MethodName)) (c := 14) (List.mem_of_getElem? (i := 1) rfl)
theorem wd_2 : Cond.selects "FarFromAnybody" (⟨"FarFromAnybody", "setAtOnce", "(I)Z"⟩ : MethodName) (⟨"FarFromAnybody", "setAtOnce", "(I)Z"⟩ : MethodName) ∈ lw_tbl := in_s (y := (⟨"FarFromAnybody", "setAtOnce", "(I)Z"⟩ : MethodName)) (c := 14) (List.mem_of_getElem? (i := 2) rfl)
theorem wd_3 : Cond.selects "FarFromAnybody" (⟨"FarFromAnybody", "setMode", "(II)Z"⟩ : MethodName) (⟨"FarFromAnybody", "setMode", "(II)Z"⟩ : MethodName) ∈ lw_tbl := in_s (y := (⟨"FarFromAnybody", "setMode", "(II)Z"⟩ : MethodName)) (c := 14) (List.mem_of_getElem? (i := 3) rfl)
theorem wd_4 : Cond.selects "FarFromAnybody" (⟨"FarFromAnybody", "putTent", "(II)Z"⟩ : MethodName) (⟨"FarFromAnybody", "putTent", "(II)Z"⟩ : MethodName) ∈ lw_tbl := in_s (y := (⟨"FarFromAnybody", "putTent", "(II)Z"⟩ : MethodName)) (c := 14) (List.mem_of_getElem? (i := 4) rfl)
theorem wd_5 : Cond.selects "FarFromAnybody" (⟨"FarFromAnybody", "tapeNumber", "(I)V"⟩ : MethodName) (⟨"FarFromAnybody", "tapeNumber", "(I)V"⟩ : MethodName) ∈ lw_tbl := in_s (y := (⟨"FarFromAnybody", "tapeNumber", "(I)V"⟩ : MethodName)) (c := 14) (List.mem_of_getElem? (i := 5) rfl)
theorem wd_6 : Cond.selects "FarFromAnybody$Reader" (⟨"FarFromAnybody$Reader", "split", "([BI)V"⟩ : MethodName) (⟨"FarFromAnybody$Reader", "split", "([BI)V"⟩ : MethodName) ∈ lw_tbl := in_s (y := (⟨"FarFromAnybody$Reader", "split", "([BI)V"⟩ : MethodName)) (c := 11) (List.mem_of_getElem? (i := 6) rfl)
theorem wd_7 : Cond.selects "FarFromAnybody$Reader" (⟨"FarFromAnybody$Reader", "addWord", "([BII)V"⟩ : MethodName) (⟨"FarFromAnybody$Reader", "addWord", "([BII)V"⟩ : MethodName) ∈ lw_tbl := in_s (y := (⟨"FarFromAnybody$Reader", "addWord", "([BII)V"⟩ : MethodName)) (c := 11) (List.mem_of_getElem? (i := 7) rfl)
theorem wd_8 : Cond.selects "FarFromAnybody$Reader" (⟨"FarFromAnybody$Reader", "addToken", "(III)V"⟩ : MethodName) (⟨"FarFromAnybody$Reader", "addToken", "(III)V"⟩ : MethodName) ∈ lw_tbl := in_s (y := (⟨"FarFromAnybody$Reader", "addToken", "(III)V"⟩ : MethodName)) (c := 11) (List.mem_of_getElem? (i := 8) rfl)
theorem wd_9 : Cond.selects "FarFromAnybody$Reader" (⟨"FarFromAnybody$Reader", "addNumber", "([BII)V"⟩ : MethodName) (⟨"FarFromAnybody$Reader", "addNumber", "([BII)V"⟩ : MethodName) ∈ lw_tbl := in_s (y := (⟨"FarFromAnybody$Reader", "addNumber", "([BII)V"⟩ : MethodName)) (c := 11) (List.mem_of_getElem? (i := 9) rfl)
theorem wd_10 : Cond.selects "FarFromAnybody$Reader" (⟨"FarFromAnybody$Reader", "refuse", "(I)Z"⟩ : MethodName) (⟨"FarFromAnybody$Reader", "refuse", "(I)Z"⟩ : MethodName) ∈ lw_tbl := in_s (y := (⟨"FarFromAnybody$Reader", "refuse", "(I)Z"⟩ : MethodName)) (c := 11) (List.mem_of_getElem? (i := 10) rfl)
theorem wd_11 : Cond.selects "FarFromAnybody$Reader" (⟨"FarFromAnybody$Reader", "readSign", "(I)Z"⟩ : MethodName) (⟨"FarFromAnybody$Reader", "readSign", "(I)Z"⟩ : MethodName) ∈ lw_tbl := in_s (y := (⟨"FarFromAnybody$Reader", "readSign", "(I)Z"⟩ : MethodName)) (c := 11) (List.mem_of_getElem? (i := 11) rfl)
theorem wd_12 : Cond.selects "FarFromAnybody$Reader" (⟨"FarFromAnybody$Reader", "goOn", "()V"⟩ : MethodName) (⟨"FarFromAnybody$Reader", "goOn", "()V"⟩ : MethodName) ∈ lw_tbl := in_s (y := (⟨"FarFromAnybody$Reader", "goOn", "()V"⟩ : MethodName)) (c := 11) (List.mem_of_getElem? (i := 12) rfl)
theorem wd_13 : Cond.selects "FarFromAnybody$Reader" (⟨"FarFromAnybody$Reader", "readAmount", "()Z"⟩ : MethodName) (⟨"FarFromAnybody$Reader", "readAmount", "()Z"⟩ : MethodName) ∈ lw_tbl := in_s (y := (⟨"FarFromAnybody$Reader", "readAmount", "()Z"⟩ : MethodName)) (c := 11) (List.mem_of_getElem? (i := 13) rfl)
theorem wd_14 : Cond.selects "FarFromAnybody$Reader" (⟨"FarFromAnybody$Reader", "readUnit", "(I)Z"⟩ : MethodName) (⟨"FarFromAnybody$Reader", "readUnit", "(I)Z"⟩ : MethodName) ∈ lw_tbl := in_s (y := (⟨"FarFromAnybody$Reader", "readUnit", "(I)Z"⟩ : MethodName)) (c := 11) (List.mem_of_getElem? (i := 14) rfl)
theorem wd_15 : Cond.selects "FarFromAnybody$Reader" (⟨"FarFromAnybody$Reader", "addStep", "(II)V"⟩ : MethodName) (⟨"FarFromAnybody$Reader", "addStep", "(II)V"⟩ : MethodName) ∈ lw_tbl := in_s (y := (⟨"FarFromAnybody$Reader", "addStep", "(II)V"⟩ : MethodName)) (c := 11) (List.mem_of_getElem? (i := 15) rfl)
theorem wd_16 : Cond.selects "FarFromAnybody$Reader" (⟨"FarFromAnybody$Reader", "readPart", "()Z"⟩ : MethodName) (⟨"FarFromAnybody$Reader", "readPart", "()Z"⟩ : MethodName) ∈ lw_tbl := in_s (y := (⟨"FarFromAnybody$Reader", "readPart", "()Z"⟩ : MethodName)) (c := 11) (List.mem_of_getElem? (i := 16) rfl)
theorem wd_17 : Cond.selects "FarFromAnybody$Reader" (⟨"FarFromAnybody$Reader", "readEither", "(I)Z"⟩ : MethodName) (⟨"FarFromAnybody$Reader", "readEither", "(I)Z"⟩ : MethodName) ∈ lw_tbl := in_s (y := (⟨"FarFromAnybody$Reader", "readEither", "(I)Z"⟩ : MethodName)) (c := 11) (List.mem_of_getElem? (i := 17) rfl)
theorem wd_18 : Cond.selects "FarFromAnybody$Reader" (⟨"FarFromAnybody$Reader", "readBoth", "(I)Z"⟩ : MethodName) (⟨"FarFromAnybody$Reader", "readBoth", "(I)Z"⟩ : MethodName) ∈ lw_tbl := in_s (y := (⟨"FarFromAnybody$Reader", "readBoth", "(I)Z"⟩ : MethodName)) (c := 11) (List.mem_of_getElem? (i := 18) rfl)
theorem wd_19 : Cond.selects "FarFromAnybody$Reader" (⟨"FarFromAnybody$Reader", "readClaim", "(I)Z"⟩ : MethodName) (⟨"FarFromAnybody$Reader", "readClaim", "(I)Z"⟩ : MethodName) ∈ lw_tbl := in_s (y := (⟨"FarFromAnybody$Reader", "readClaim", "(I)Z"⟩ : MethodName)) (c := 11) (List.mem_of_getElem? (i := 19) rfl)
theorem wd_20 : Cond.selects "FarFromAnybody$Days" (⟨"FarFromAnybody$Days", "wishOf", "(IZ)I"⟩ : MethodName) (⟨"FarFromAnybody$Days", "wishOf", "(IZ)I"⟩ : MethodName) ∈ lw_tbl := in_s (y := (⟨"FarFromAnybody$Days", "wishOf", "(IZ)I"⟩ : MethodName)) (c := 5) (List.mem_of_getElem? (i := 20) rfl)
theorem wd_21 : Cond.selects "FarFromAnybody$Days" (⟨"FarFromAnybody$Days", "whimOf", "(I)I"⟩ : MethodName) (⟨"FarFromAnybody$Days", "whimOf", "(I)I"⟩ : MethodName) ∈ lw_tbl := in_s (y := (⟨"FarFromAnybody$Days", "whimOf", "(I)I"⟩ : MethodName)) (c := 5) (List.mem_of_getElem? (i := 21) rfl)
theorem wd_22 : Cond.selects "FarFromAnybody$King" (⟨"FarFromAnybody$King", "measureKin", "(I)V"⟩ : MethodName) (⟨"FarFromAnybody$King", "measureKin", "(I)V"⟩ : MethodName) ∈ lw_tbl := in_s (y := (⟨"FarFromAnybody$King", "measureKin", "(I)V"⟩ : MethodName)) (c := 8) (List.mem_of_getElem? (i := 22) rfl)
theorem wd_23 : Cond.selects "FarFromAnybody$King" (⟨"FarFromAnybody$King", "measureAt", "(II)V"⟩ : MethodName) (⟨"FarFromAnybody$King", "measureAt", "(II)V"⟩ : MethodName) ∈ lw_tbl := in_s (y := (⟨"FarFromAnybody$King", "measureAt", "(II)V"⟩ : MethodName)) (c := 8) (List.mem_of_getElem? (i := 23) rfl)
theorem wd_24 : Cond.selects "FarFromAnybody$Thought" (⟨"FarFromAnybody$Thought", "circleUpTo", "(I)I"⟩ : MethodName) (⟨"FarFromAnybody$Thought", "circleUpTo", "(I)I"⟩ : MethodName) ∈ lw_tbl := in_s (y := (⟨"FarFromAnybody$Thought", "circleUpTo", "(I)I"⟩ : MethodName)) (c := 13) (List.mem_of_getElem? (i := 24) rfl)
theorem wd_25 : Cond.selects "FarFromAnybody$Placings" (⟨"FarFromAnybody$Placings", "prepare", "()V"⟩ : MethodName) (⟨"FarFromAnybody$Placings", "prepare", "()V"⟩ : MethodName) ∈ lw_tbl := in_s (y := (⟨"FarFromAnybody$Placings", "prepare", "()V"⟩ : MethodName)) (c := 7) (List.mem_of_getElem? (i := 25) rfl)
theorem wd_26 : Cond.selects "FarFromAnybody$Placings" (⟨"FarFromAnybody$Placings", "judge", "(III)V"⟩ : MethodName) (⟨"FarFromAnybody$Placings", "judge", "(III)V"⟩ : MethodName) ∈ lw_tbl := in_s (y := (⟨"FarFromAnybody$Placings", "judge", "(III)V"⟩ : MethodName)) (c := 7) (List.mem_of_getElem? (i := 26) rfl)
theorem wd_27 : Cond.selects "FarFromAnybody$Placings" (⟨"FarFromAnybody$Placings", "payAt", "(III)I"⟩ : MethodName) (⟨"FarFromAnybody$Placings", "payAt", "(III)I"⟩ : MethodName) ∈ lw_tbl := in_s (y := (⟨"FarFromAnybody$Placings", "payAt", "(III)I"⟩ : MethodName)) (c := 7) (List.mem_of_getElem? (i := 27) rfl)
theorem wd_28 : Cond.selects "FarFromAnybody$Placings" (⟨"FarFromAnybody$Placings", "noteRow", "(IIII)V"⟩ : MethodName) (⟨"FarFromAnybody$Placings", "noteRow", "(IIII)V"⟩ : MethodName) ∈ lw_tbl := in_s (y := (⟨"FarFromAnybody$Placings", "noteRow", "(IIII)V"⟩ : MethodName)) (c := 7) (List.mem_of_getElem? (i := 28) rfl)
theorem wd_29 : Cond.selects "FarFromAnybody$Placings" (⟨"FarFromAnybody$Placings", "bestBy", "(II)I"⟩ : MethodName) (⟨"FarFromAnybody$Placings", "bestBy", "(II)I"⟩ : MethodName) ∈ lw_tbl := in_s (y := (⟨"FarFromAnybody$Placings", "bestBy", "(II)I"⟩ : MethodName)) (c := 7) (List.mem_of_getElem? (i := 29) rfl)
theorem wd_30 : Cond.selects "FarFromAnybody$Thought" (⟨"FarFromAnybody$Thought", "fitsTold", "()Z"⟩ : MethodName) (⟨"FarFromAnybody$Thought", "fitsTold", "()Z"⟩ : MethodName) ∈ lw_tbl := in_s (y := (⟨"FarFromAnybody$Thought", "fitsTold", "()Z"⟩ : MethodName)) (c := 13) (List.mem_of_getElem? (i := 30) rfl)
theorem wd_31 : Cond.selects "FarFromAnybody$Thought" (⟨"FarFromAnybody$Thought", "noteGoing", "(II)V"⟩ : MethodName) (⟨"FarFromAnybody$Thought", "noteGoing", "(II)V"⟩ : MethodName) ∈ lw_tbl := in_s (y := (⟨"FarFromAnybody$Thought", "noteGoing", "(II)V"⟩ : MethodName)) (c := 13) (List.mem_of_getElem? (i := 31) rfl)
theorem wd_32 : Cond.selects "FarFromAnybody" (⟨"FarFromAnybody", "lookAtTold", "(I)I"⟩ : MethodName) (⟨"FarFromAnybody", "lookAtTold", "(I)I"⟩ : MethodName) ∈ lw_tbl := in_s (y := (⟨"FarFromAnybody", "lookAtTold", "(I)I"⟩ : MethodName)) (c := 14) (List.mem_of_getElem? (i := 32) rfl)
theorem wd_33 : Cond.selects "FarFromAnybodyModel" (⟨"FarFromAnybodyModel", "begins", "(II)V"⟩ : MethodName) (⟨"FarFromAnybodyModel", "begins", "(II)V"⟩ : MethodName) ∈ lw_tbl := in_s (y := (⟨"FarFromAnybodyModel", "begins", "(II)V"⟩ : MethodName)) (c := 36) (List.mem_of_getElem? (i := 33) rfl)
theorem wd_34 : Cond.selects "FarFromAnybodyModel" (⟨"FarFromAnybodyModel", "isYard", "(I)Z"⟩ : MethodName) (⟨"FarFromAnybodyModel", "isYard", "(I)Z"⟩ : MethodName) ∈ lw_tbl := in_s (y := (⟨"FarFromAnybodyModel", "isYard", "(I)Z"⟩ : MethodName)) (c := 36) (List.mem_of_getElem? (i := 34) rfl)
theorem wd_35 : Cond.selects "FarFromAnybodyModel" (⟨"FarFromAnybodyModel", "isPlace", "(II)Z"⟩ : MethodName) (⟨"FarFromAnybodyModel", "isPlace", "(II)Z"⟩ : MethodName) ∈ lw_tbl := in_s (y := (⟨"FarFromAnybodyModel", "isPlace", "(II)Z"⟩ : MethodName)) (c := 36) (List.mem_of_getElem? (i := 35) rfl)
theorem wd_36 : Cond.selects "FarFromAnybodyModel" (⟨"FarFromAnybodyModel", "tentAt", "(I)I"⟩ : MethodName) (⟨"FarFromAnybodyModel", "tentAt", "(I)I"⟩ : MethodName) ∈ lw_tbl := in_s (y := (⟨"FarFromAnybodyModel", "tentAt", "(I)I"⟩ : MethodName)) (c := 36) (List.mem_of_getElem? (i := 36) rfl)
theorem wd_37 : Cond.selects "FarFromAnybodyModel" (⟨"FarFromAnybodyModel", "own", "(II)I"⟩ : MethodName) (⟨"FarFromAnybodyModel", "own", "(II)I"⟩ : MethodName) ∈ lw_tbl := in_s (y := (⟨"FarFromAnybodyModel", "own", "(II)I"⟩ : MethodName)) (c := 36) (List.mem_of_getElem? (i := 37) rfl)
theorem wd_38 : Cond.selects "FarFromAnybodyModel" (⟨"FarFromAnybodyModel", "manAt", "(I)I"⟩ : MethodName) (⟨"FarFromAnybodyModel", "manAt", "(I)I"⟩ : MethodName) ∈ lw_tbl := in_s (y := (⟨"FarFromAnybodyModel", "manAt", "(I)I"⟩ : MethodName)) (c := 36) (List.mem_of_getElem? (i := 38) rfl)
theorem wd_39 : Cond.selects "FarFromAnybodyModel" (⟨"FarFromAnybodyModel", "couldBe", "(III)Z"⟩ : MethodName) (⟨"FarFromAnybodyModel", "couldBe", "(III)Z"⟩ : MethodName) ∈ lw_tbl := in_s (y := (⟨"FarFromAnybodyModel", "couldBe", "(III)Z"⟩ : MethodName)) (c := 36) (List.mem_of_getElem? (i := 39) rfl)
theorem wd_40 : Cond.selects "FarFromAnybodyModel" (⟨"FarFromAnybodyModel", "isGrass", "(I)Z"⟩ : MethodName) (⟨"FarFromAnybodyModel", "isGrass", "(I)Z"⟩ : MethodName) ∈ lw_tbl := in_s (y := (⟨"FarFromAnybodyModel", "isGrass", "(I)Z"⟩ : MethodName)) (c := 36) (List.mem_of_getElem? (i := 40) rfl)
theorem wd_41 : Cond.selects "FarFromAnybodyModel" (⟨"FarFromAnybodyModel", "gives", "(III)V"⟩ : MethodName) (⟨"FarFromAnybodyModel", "gives", "(III)V"⟩ : MethodName) ∈ lw_tbl := in_s (y := (⟨"FarFromAnybodyModel", "gives", "(III)V"⟩ : MethodName)) (c := 36) (List.mem_of_getElem? (i := 41) rfl)
theorem wd_42 : Cond.selects "FarFromAnybodyModel" (⟨"FarFromAnybodyModel", "isFree", "(I)Z"⟩ : MethodName) (⟨"FarFromAnybodyModel", "isFree", "(I)Z"⟩ : MethodName) ∈ lw_tbl := in_s (y := (⟨"FarFromAnybodyModel", "isFree", "(I)Z"⟩ : MethodName)) (c := 36) (List.mem_of_getElem? (i := 42) rfl)
theorem wd_43 : Cond.selects "FarFromAnybodyModel" (⟨"FarFromAnybodyModel", "isTent", "(I)Z"⟩ : MethodName) (⟨"FarFromAnybodyModel", "isTent", "(I)Z"⟩ : MethodName) ∈ lw_tbl := in_s (y := (⟨"FarFromAnybodyModel", "isTent", "(I)Z"⟩ : MethodName)) (c := 36) (List.mem_of_getElem? (i := 43) rfl)
theorem wd_44 : Cond.selects "FarFromAnybodyModel" (⟨"FarFromAnybodyModel", "couldStand", "(II)Z"⟩ : MethodName) (⟨"FarFromAnybodyModel", "couldStand", "(II)Z"⟩ : MethodName) ∈ lw_tbl := in_s (y := (⟨"FarFromAnybodyModel", "couldStand", "(II)Z"⟩ : MethodName)) (c := 36) (List.mem_of_getElem? (i := 44) rfl)
theorem wd_45 : Cond.selects "FarFromAnybodyModel" (⟨"FarFromAnybodyModel", "next0", "()V"⟩ : MethodName) (⟨"FarFromAnybodyModel", "next0", "()V"⟩ : MethodName) ∈ lw_tbl := in_s (y := (⟨"FarFromAnybodyModel", "next0", "()V"⟩ : MethodName)) (c := 36) (List.mem_of_getElem? (i := 45) rfl)
theorem wd_46 : Cond.selects "FarFromAnybodyModel" (⟨"FarFromAnybodyModel", "see", "(I)I"⟩ : MethodName) (⟨"FarFromAnybodyModel", "see", "(I)I"⟩ : MethodName) ∈ lw_tbl := in_s (y := (⟨"FarFromAnybodyModel", "see", "(I)I"⟩ : MethodName)) (c := 36) (List.mem_of_getElem? (i := 46) rfl)
theorem wd_47 : Cond.selects "FarFromAnybodyModel" (⟨"FarFromAnybodyModel", "word", "()I"⟩ : MethodName) (⟨"FarFromAnybodyModel", "word", "()I"⟩ : MethodName) ∈ lw_tbl := in_s (y := (⟨"FarFromAnybodyModel", "word", "()I"⟩ : MethodName)) (c := 36) (List.mem_of_getElem? (i := 47) rfl)
theorem wd_48 : Cond.selects "FarFromAnybodyModel" (⟨"FarFromAnybodyModel", "is", "(Ljava/lang/String;)Z"⟩ : MethodName) (⟨"FarFromAnybodyModel", "is", "(Ljava/lang/String;)Z"⟩ : MethodName) ∈ lw_tbl := in_s (y := (⟨"FarFromAnybodyModel", "is", "(Ljava/lang/String;)Z"⟩ : MethodName)) (c := 36) (List.mem_of_getElem? (i := 48) rfl)
theorem wd_49 : Cond.selects "FarFromAnybodyModel" (⟨"FarFromAnybodyModel", "nameWord", "()I"⟩ : MethodName) (⟨"FarFromAnybodyModel", "nameWord", "()I"⟩ : MethodName) ∈ lw_tbl := in_s (y := (⟨"FarFromAnybodyModel", "nameWord", "()I"⟩ : MethodName)) (c := 36) (List.mem_of_getElem? (i := 49) rfl)
theorem wd_50 : Cond.selects "FarFromAnybodyModel" (⟨"FarFromAnybodyModel", "aLine", "()Z"⟩ : MethodName) (⟨"FarFromAnybodyModel", "aLine", "()Z"⟩ : MethodName) ∈ lw_tbl := in_s (y := (⟨"FarFromAnybodyModel", "aLine", "()Z"⟩ : MethodName)) (c := 36) (List.mem_of_getElem? (i := 50) rfl)
theorem wd_51 : Cond.selects "FarFromAnybodyModel" (⟨"FarFromAnybodyModel", "bad", "(I)Z"⟩ : MethodName) (⟨"FarFromAnybodyModel", "bad", "(I)Z"⟩ : MethodName) ∈ lw_tbl := in_s (y := (⟨"FarFromAnybodyModel", "bad", "(I)Z"⟩ : MethodName)) (c := 36) (List.mem_of_getElem? (i := 51) rfl)
theorem wd_52 : Cond.selects "FarFromAnybodyModel" (⟨"FarFromAnybodyModel", "sumUp", "()Z"⟩ : MethodName) (⟨"FarFromAnybodyModel", "sumUp", "()Z"⟩ : MethodName) ∈ lw_tbl := in_s (y := (⟨"FarFromAnybodyModel", "sumUp", "()Z"⟩ : MethodName)) (c := 36) (List.mem_of_getElem? (i := 52) rfl)
theorem wd_53 : Cond.selects "FarFromAnybodyModel" (⟨"FarFromAnybodyModel", "product", "()Z"⟩ : MethodName) (⟨"FarFromAnybodyModel", "product", "()Z"⟩ : MethodName) ∈ lw_tbl := in_s (y := (⟨"FarFromAnybodyModel", "product", "()Z"⟩ : MethodName)) (c := 36) (List.mem_of_getElem? (i := 53) rfl)
theorem wd_54 : Cond.selects "FarFromAnybodyModel" (⟨"FarFromAnybodyModel", "unit", "()Z"⟩ : MethodName) (⟨"FarFromAnybodyModel", "unit", "()Z"⟩ : MethodName) ∈ lw_tbl := in_s (y := (⟨"FarFromAnybodyModel", "unit", "()Z"⟩ : MethodName)) (c := 36) (List.mem_of_getElem? (i := 54) rfl)
theorem wd_55 : Cond.selects "FarFromAnybodyModel" (⟨"FarFromAnybodyModel", "lay", "(II)V"⟩ : MethodName) (⟨"FarFromAnybodyModel", "lay", "(II)V"⟩ : MethodName) ∈ lw_tbl := in_s (y := (⟨"FarFromAnybodyModel", "lay", "(II)V"⟩ : MethodName)) (c := 36) (List.mem_of_getElem? (i := 55) rfl)
theorem wd_56 : Cond.selects "FarFromAnybodyModel" (⟨"FarFromAnybodyModel", "any", "()Z"⟩ : MethodName) (⟨"FarFromAnybodyModel", "any", "()Z"⟩ : MethodName) ∈ lw_tbl := in_s (y := (⟨"FarFromAnybodyModel", "any", "()Z"⟩ : MethodName)) (c := 36) (List.mem_of_getElem? (i := 56) rfl)
theorem wd_57 : Cond.selects "FarFromAnybodyModel" (⟨"FarFromAnybodyModel", "every", "()Z"⟩ : MethodName) (⟨"FarFromAnybodyModel", "every", "()Z"⟩ : MethodName) ∈ lw_tbl := in_s (y := (⟨"FarFromAnybodyModel", "every", "()Z"⟩ : MethodName)) (c := 36) (List.mem_of_getElem? (i := 57) rfl)
theorem wd_58 : Cond.selects "FarFromAnybodyModel" (⟨"FarFromAnybodyModel", "oneTest", "()Z"⟩ : MethodName) (⟨"FarFromAnybodyModel", "oneTest", "()Z"⟩ : MethodName) ∈ lw_tbl := in_s (y := (⟨"FarFromAnybodyModel", "oneTest", "()Z"⟩ : MethodName)) (c := 36) (List.mem_of_getElem? (i := 58) rfl)
theorem wd_59 : Cond.selects "FarFromAnybodyModel" (⟨"FarFromAnybodyModel", "opens", "()Z"⟩ : MethodName) (⟨"FarFromAnybodyModel", "opens", "()Z"⟩ : MethodName) ∈ lw_tbl := in_s (y := (⟨"FarFromAnybodyModel", "opens", "()Z"⟩ : MethodName)) (c := 36) (List.mem_of_getElem? (i := 59) rfl)
theorem wd_60 : Cond.selects "FarFromAnybodyModel" (⟨"FarFromAnybodyModel", "need", "(I)Z"⟩ : MethodName) (⟨"FarFromAnybodyModel", "need", "(I)Z"⟩ : MethodName) ∈ lw_tbl := in_s (y := (⟨"FarFromAnybodyModel", "need", "(I)Z"⟩ : MethodName)) (c := 36) (List.mem_of_getElem? (i := 60) rfl)
theorem wd_61 : Cond.selects "FarFromAnybodyModel" (⟨"FarFromAnybodyModel", "isDry", "(I)Z"⟩ : MethodName) (⟨"FarFromAnybodyModel", "isDry", "(I)Z"⟩ : MethodName) ∈ lw_tbl := in_s (y := (⟨"FarFromAnybodyModel", "isDry", "(I)Z"⟩ : MethodName)) (c := 36) (List.mem_of_getElem? (i := 61) rfl)
theorem wd_62 : Cond.selects "FarFromAnybodyModel" (⟨"FarFromAnybodyModel", "wayOf", "(II)I"⟩ : MethodName) (⟨"FarFromAnybodyModel", "wayOf", "(II)I"⟩ : MethodName) ∈ lw_tbl := in_s (y := (⟨"FarFromAnybodyModel", "wayOf", "(II)I"⟩ : MethodName)) (c := 36) (List.mem_of_getElem? (i := 62) rfl)
theorem wd_63 : Cond.selects "FarFromAnybodyModel" (⟨"FarFromAnybodyModel", "laysWays", "(I)V"⟩ : MethodName) (⟨"FarFromAnybodyModel", "laysWays", "(I)V"⟩ : MethodName) ∈ lw_tbl := in_s (y := (⟨"FarFromAnybodyModel", "laysWays", "(I)V"⟩ : MethodName)) (c := 36) (List.mem_of_getElem? (i := 63) rfl)
theorem wd_64 : Cond.selects "FarFromAnybodyModel" (⟨"FarFromAnybodyModel", "noon", "(Z)I"⟩ : MethodName) (⟨"FarFromAnybodyModel", "noon", "(Z)I"⟩ : MethodName) ∈ lw_tbl := in_s (y := (⟨"FarFromAnybodyModel", "noon", "(Z)I"⟩ : MethodName)) (c := 36) (List.mem_of_getElem? (i := 64) rfl)
theorem wd_65 : Cond.selects "FarFromAnybodyModel" (⟨"FarFromAnybodyModel", "chosen", "(IZ)I"⟩ : MethodName) (⟨"FarFromAnybodyModel", "chosen", "(IZ)I"⟩ : MethodName) ∈ lw_tbl := in_s (y := (⟨"FarFromAnybodyModel", "chosen", "(IZ)I"⟩ : MethodName)) (c := 36) (List.mem_of_getElem? (i := 65) rfl)
theorem wd_66 : Cond.selects "FarFromAnybodyModel" (⟨"FarFromAnybodyModel", "draw", "(I)I"⟩ : MethodName) (⟨"FarFromAnybodyModel", "draw", "(I)I"⟩ : MethodName) ∈ lw_tbl := in_s (y := (⟨"FarFromAnybodyModel", "draw", "(I)I"⟩ : MethodName)) (c := 36) (List.mem_of_getElem? (i := 66) rfl)
theorem wd_67 : Cond.selects "FarFromAnybodyModel" (⟨"FarFromAnybodyModel", "where", "(I)I"⟩ : MethodName) (⟨"FarFromAnybodyModel", "where", "(I)I"⟩ : MethodName) ∈ lw_tbl := in_s (y := (⟨"FarFromAnybodyModel", "where", "(I)I"⟩ : MethodName)) (c := 36) (List.mem_of_getElem? (i := 67) rfl)
theorem wd_68 : Cond.selects "FarFromAnybodyModel" (⟨"FarFromAnybodyModel", "payAt", "(II)I"⟩ : MethodName) (⟨"FarFromAnybodyModel", "payAt", "(II)I"⟩ : MethodName) ∈ lw_tbl := in_s (y := (⟨"FarFromAnybodyModel", "payAt", "(II)I"⟩ : MethodName)) (c := 36) (List.mem_of_getElem? (i := 68) rfl)
theorem wd_69 : Cond.selects "FarFromAnybodyModel" (⟨"FarFromAnybodyModel", "payOf", "(I)I"⟩ : MethodName) (⟨"FarFromAnybodyModel", "payOf", "(I)I"⟩ : MethodName) ∈ lw_tbl := in_s (y := (⟨"FarFromAnybodyModel", "payOf", "(I)I"⟩ : MethodName)) (c := 36) (List.mem_of_getElem? (i := 69) rfl)
theorem wd_70 : Cond.selects "FarFromAnybodyModel" (⟨"FarFromAnybodyModel", "kinOf", "(I)I"⟩ : MethodName) (⟨"FarFromAnybodyModel", "kinOf", "(I)I"⟩ : MethodName) ∈ lw_tbl := in_s (y := (⟨"FarFromAnybodyModel", "kinOf", "(I)I"⟩ : MethodName)) (c := 36) (List.mem_of_getElem? (i := 70) rfl)
theorem wd_71 : Cond.selects "FarFromAnybodyModel" (⟨"FarFromAnybodyModel", "areKin", "(II)Z"⟩ : MethodName) (⟨"FarFromAnybodyModel", "areKin", "(II)Z"⟩ : MethodName) ∈ lw_tbl := in_s (y := (⟨"FarFromAnybodyModel", "areKin", "(II)Z"⟩ : MethodName)) (c := 36) (List.mem_of_getElem? (i := 71) rfl)
theorem wd_72 : Cond.selects "FarFromAnybodyModel" (⟨"FarFromAnybodyModel", "farOf", "(I)I"⟩ : MethodName) (⟨"FarFromAnybodyModel", "farOf", "(I)I"⟩ : MethodName) ∈ lw_tbl := in_s (y := (⟨"FarFromAnybodyModel", "farOf", "(I)I"⟩ : MethodName)) (c := 36) (List.mem_of_getElem? (i := 72) rfl)
theorem wd_73 : Cond.selects "FarFromAnybodyModel" (⟨"FarFromAnybodyModel", "farAlone", "(I)I"⟩ : MethodName) (⟨"FarFromAnybodyModel", "farAlone", "(I)I"⟩ : MethodName) ∈ lw_tbl := in_s (y := (⟨"FarFromAnybodyModel", "farAlone", "(I)I"⟩ : MethodName)) (c := 36) (List.mem_of_getElem? (i := 73) rfl)
theorem wd_74 : Cond.selects "FarFromAnybodyModel" (⟨"FarFromAnybodyModel", "nearer", "(III)I"⟩ : MethodName) (⟨"FarFromAnybodyModel", "nearer", "(III)I"⟩ : MethodName) ∈ lw_tbl := in_s (y := (⟨"FarFromAnybodyModel", "nearer", "(III)I"⟩ : MethodName)) (c := 36) (List.mem_of_getElem? (i := 74) rfl)
theorem wd_75 : Cond.selects "FarFromAnybodyModel" (⟨"FarFromAnybodyModel", "nearOf", "(I)I"⟩ : MethodName) (⟨"FarFromAnybodyModel", "nearOf", "(I)I"⟩ : MethodName) ∈ lw_tbl := in_s (y := (⟨"FarFromAnybodyModel", "nearOf", "(I)I"⟩ : MethodName)) (c := 36) (List.mem_of_getElem? (i := 75) rfl)
theorem wd_76 : Cond.selects "FarFromAnybodyModel" (⟨"FarFromAnybodyModel", "isNear", "(II)I"⟩ : MethodName) (⟨"FarFromAnybodyModel", "isNear", "(II)I"⟩ : MethodName) ∈ lw_tbl := in_s (y := (⟨"FarFromAnybodyModel", "isNear", "(II)I"⟩ : MethodName)) (c := 36) (List.mem_of_getElem? (i := 76) rfl)
theorem wd_77 : Cond.selects "FarFromAnybodyModel" (⟨"FarFromAnybodyModel", "lawful", "(IIII)I"⟩ : MethodName) (⟨"FarFromAnybodyModel", "lawful", "(IIII)I"⟩ : MethodName) ∈ lw_tbl := in_s (y := (⟨"FarFromAnybodyModel", "lawful", "(IIII)I"⟩ : MethodName)) (c := 36) (List.mem_of_getElem? (i := 77) rfl)
theorem wd_78 : Cond.selects "FarFromAnybodyModel" (⟨"FarFromAnybodyModel", "comesTo", "(II)I"⟩ : MethodName) (⟨"FarFromAnybodyModel", "comesTo", "(II)I"⟩ : MethodName) ∈ lw_tbl := in_s (y := (⟨"FarFromAnybodyModel", "comesTo", "(II)I"⟩ : MethodName)) (c := 36) (List.mem_of_getElem? (i := 78) rfl)
theorem wd_79 : Cond.selects "FarFromAnybodyModel" (⟨"FarFromAnybodyModel", "bestBeside", "(I)I"⟩ : MethodName) (⟨"FarFromAnybodyModel", "bestBeside", "(I)I"⟩ : MethodName) ∈ lw_tbl := in_s (y := (⟨"FarFromAnybodyModel", "bestBeside", "(I)I"⟩ : MethodName)) (c := 36) (List.mem_of_getElem? (i := 79) rfl)
theorem wd_80 : Cond.selects "FarFromAnybodyModel" (⟨"FarFromAnybodyModel", "isRow", "(I)Z"⟩ : MethodName) (⟨"FarFromAnybodyModel", "isRow", "(I)Z"⟩ : MethodName) ∈ lw_tbl := in_s (y := (⟨"FarFromAnybodyModel", "isRow", "(I)Z"⟩ : MethodName)) (c := 36) (List.mem_of_getElem? (i := 80) rfl)
theorem wd_81 : Cond.selects "FarFromAnybodyModel" (⟨"FarFromAnybodyModel", "places", "(II)V"⟩ : MethodName) (⟨"FarFromAnybodyModel", "places", "(II)V"⟩ : MethodName) ∈ lw_tbl := in_s (y := (⟨"FarFromAnybodyModel", "places", "(II)V"⟩ : MethodName)) (c := 36) (List.mem_of_getElem? (i := 81) rfl)
theorem wd_82 : Cond.selects "FarFromAnybodyModel" (⟨"FarFromAnybodyModel", "judges", "()V"⟩ : MethodName) (⟨"FarFromAnybodyModel", "judges", "()V"⟩ : MethodName) ∈ lw_tbl := in_s (y := (⟨"FarFromAnybodyModel", "judges", "()V"⟩ : MethodName)) (c := 36) (List.mem_of_getElem? (i := 82) rfl)
theorem wd_83 : Cond.selects "FarFromAnybodyModel" (⟨"FarFromAnybodyModel", "paid", "(II)I"⟩ : MethodName) (⟨"FarFromAnybodyModel", "paid", "(II)I"⟩ : MethodName) ∈ lw_tbl := in_s (y := (⟨"FarFromAnybodyModel", "paid", "(II)I"⟩ : MethodName)) (c := 36) (List.mem_of_getElem? (i := 83) rfl)
theorem wd_84 : Cond.selects "FarFromAnybodyModel" (⟨"FarFromAnybodyModel", "isAtRest", "(I)Z"⟩ : MethodName) (⟨"FarFromAnybodyModel", "isAtRest", "(I)Z"⟩ : MethodName) ∈ lw_tbl := in_s (y := (⟨"FarFromAnybodyModel", "isAtRest", "(I)Z"⟩ : MethodName)) (c := 36) (List.mem_of_getElem? (i := 84) rfl)
theorem wd_85 : Cond.selects "FarFromAnybodyModel" (⟨"FarFromAnybodyModel", "allPays", "()I"⟩ : MethodName) (⟨"FarFromAnybodyModel", "allPays", "()I"⟩ : MethodName) ∈ lw_tbl := in_s (y := (⟨"FarFromAnybodyModel", "allPays", "()I"⟩ : MethodName)) (c := 36) (List.mem_of_getElem? (i := 85) rfl)
theorem wd_86 : Cond.selects "FarFromAnybodyModel" (⟨"FarFromAnybodyModel", "pays", "(I)I"⟩ : MethodName) (⟨"FarFromAnybodyModel", "pays", "(I)I"⟩ : MethodName) ∈ lw_tbl := in_s (y := (⟨"FarFromAnybodyModel", "pays", "(I)I"⟩ : MethodName)) (c := 36) (List.mem_of_getElem? (i := 86) rfl)
theorem wd_87 : Cond.selects "FarFromAnybodyModel" (⟨"FarFromAnybodyModel", "breaks", "(II)V"⟩ : MethodName) (⟨"FarFromAnybodyModel", "breaks", "(II)V"⟩ : MethodName) ∈ lw_tbl := in_s (y := (⟨"FarFromAnybodyModel", "breaks", "(II)V"⟩ : MethodName)) (c := 36) (List.mem_of_getElem? (i := 87) rfl)
theorem wd_88 : Cond.selects "FarFromAnybodyModel" (⟨"FarFromAnybodyModel", "goWith", "()Z"⟩ : MethodName) (⟨"FarFromAnybodyModel", "goWith", "()Z"⟩ : MethodName) ∈ lw_tbl := in_s (y := (⟨"FarFromAnybodyModel", "goWith", "()Z"⟩ : MethodName)) (c := 36) (List.mem_of_getElem? (i := 88) rfl)
theorem wd_90 : Jvm.Cond.initialized "FarFromAnybody" ∈ lw_tbl := in_1 (List.mem_of_getElem? (i := 1) rfl)
theorem wd_91 : Jvm.Cond.initialized "FarFromAnybody$Camp" ∈ lw_tbl := in_1 (List.mem_of_getElem? (i := 2) rfl)
theorem wd_92 : Jvm.Cond.initialized "FarFromAnybody$Law" ∈ lw_tbl := in_1 (List.mem_of_getElem? (i := 3) rfl)
theorem wd_93 : Jvm.Cond.initialized "FarFromAnybody$Ways" ∈ lw_tbl := in_1 (List.mem_of_getElem? (i := 4) rfl)
theorem wd_94 : Jvm.Cond.initialized "FarFromAnybody$King" ∈ lw_tbl := in_1 (List.mem_of_getElem? (i := 5) rfl)
theorem wd_95 : Jvm.Cond.initialized "FarFromAnybody$Days" ∈ lw_tbl := in_1 (List.mem_of_getElem? (i := 6) rfl)
theorem wd_96 : Jvm.Cond.initialized "FarFromAnybody$Thought" ∈ lw_tbl := in_1 (List.mem_of_getElem? (i := 7) rfl)
theorem wd_97 : Jvm.Cond.initialized "FarFromAnybodyModel" ∈ lw_tbl := in_1 (List.mem_of_getElem? (i := 8) rfl)
theorem wd_98 : Jvm.Cond.initialized "java/util/Arrays" ∈ lw_tbl := in_1 (List.mem_of_getElem? (i := 9) rfl)
theorem wd_99 : Jvm.Cond.initialized "FarFromAnybody$Reader" ∈ lw_tbl := in_1 (List.mem_of_getElem? (i := 10) rfl)
theorem wd_100 : Jvm.Cond.initialized "java/lang/Math" ∈ lw_tbl := in_1 (List.mem_of_getElem? (i := 11) rfl)
theorem wd_101 : Jvm.Cond.initialized "java/lang/String" ∈ lw_tbl := in_1 (List.mem_of_getElem? (i := 12) rfl)
theorem wd_102 : Jvm.Cond.initialized "java/lang/StringLatin1" ∈ lw_tbl := in_1 (List.mem_of_getElem? (i := 13) rfl)
theorem wd_103 : Jvm.Cond.initialized "jdk/internal/util/Preconditions" ∈ lw_tbl := in_1 (List.mem_of_getElem? (i := 14) rfl)
theorem wd_105 : Jvm.Cond.initialized "java/lang/System" ∈ lw_tbl := in_1 (List.mem_of_getElem? (i := 16) rfl)
theorem wd_106 : Jvm.Cond.initialized "FarFromAnybody$Placings" ∈ lw_tbl := in_1 (List.mem_of_getElem? (i := 17) rfl)
theorem wd_111 : Jvm.Cond.code ({ cls := "FarFromAnybody", name := "<init>", desc := "()V" } : Jvm.MethodName) prog_1_method_1_code (1 : Nat) (Option.none : Option Jvm.ClassFile.FieldType) ∈ lw_tbl := in_1 (List.mem_of_getElem? (i := 22) rfl)
theorem wd_112 : Jvm.Cond.methodLink "FarFromAnybody" (3 : Nat) ({ cls := "java/lang/Object", name := "<init>", desc := "()V" } : Jvm.MethodName) ∈ lw_tbl := in_1 (List.mem_of_getElem? (i := 23) rfl)
theorem wd_113 : Jvm.Cond.instanceMethod ({ cls := "java/lang/Object", name := "<init>", desc := "()V" } : Jvm.MethodName) ∈ lw_tbl := in_1 (List.mem_of_getElem? (i := 24) rfl)
theorem wd_114 : Jvm.Cond.code ({ cls := "java/lang/Object", name := "<init>", desc := "()V" } : Jvm.MethodName) object_method_1_code (1 : Nat) (Option.none : Option Jvm.ClassFile.FieldType) ∈ lw_tbl := in_1 (List.mem_of_getElem? (i := 25) rfl)
theorem wd_115 : Jvm.Cond.classLink "FarFromAnybody" (9 : Nat) "FarFromAnybody$Camp" ∈ lw_tbl := in_1 (List.mem_of_getElem? (i := 26) rfl)
theorem wd_116 : Jvm.Cond.instantiable "FarFromAnybody$Camp" (19 : Nat) ∈ lw_tbl := in_1 (List.mem_of_getElem? (i := 27) rfl)
theorem wd_117 : Jvm.Cond.methodLink "FarFromAnybody" (11 : Nat) ({ cls := "FarFromAnybody$Camp", name := "<init>", desc := "()V" } : Jvm.MethodName) ∈ lw_tbl := in_1 (List.mem_of_getElem? (i := 28) rfl)
theorem wd_118 : Jvm.Cond.instanceMethod ({ cls := "FarFromAnybody$Camp", name := "<init>", desc := "()V" } : Jvm.MethodName) ∈ lw_tbl := in_1 (List.mem_of_getElem? (i := 29) rfl)
theorem wd_119 : Jvm.Cond.code ({ cls := "FarFromAnybody$Camp", name := "<init>", desc := "()V" } : Jvm.MethodName) prog_2_method_1_code (1 : Nat) (Option.none : Option Jvm.ClassFile.FieldType) ∈ lw_tbl := in_1 (List.mem_of_getElem? (i := 30) rfl)
theorem wd_120 : Jvm.Cond.methodLink "FarFromAnybody$Camp" (3 : Nat) ({ cls := "java/lang/Object", name := "<init>", desc := "()V" } : Jvm.MethodName) ∈ lw_tbl := in_1 (List.mem_of_getElem? (i := 31) rfl)
theorem wd_121 : Jvm.Cond.classLink "FarFromAnybody$Camp" (46 : Nat) "FarFromAnybody$Law" ∈ lw_tbl := in_1 (List.mem_of_getElem? (i := 32) rfl)
theorem wd_122 : Jvm.Cond.instantiable "FarFromAnybody$Law" (3 : Nat) ∈ lw_tbl := in_1 (List.mem_of_getElem? (i := 33) rfl)
theorem wd_123 : Jvm.Cond.methodLink "FarFromAnybody$Camp" (48 : Nat) ({ cls := "FarFromAnybody$Law", name := "<init>", desc := "([IIZ)V" } : Jvm.MethodName) ∈ lw_tbl := in_1 (List.mem_of_getElem? (i := 34) rfl)
theorem wd_124 : Jvm.Cond.instanceMethod ({ cls := "FarFromAnybody$Law", name := "<init>", desc := "([IIZ)V" } : Jvm.MethodName) ∈ lw_tbl := in_1 (List.mem_of_getElem? (i := 35) rfl)
theorem wd_125 : Jvm.Cond.code ({ cls := "FarFromAnybody$Law", name := "<init>", desc := "([IIZ)V" } : Jvm.MethodName) prog_5_method_1_code (4 : Nat) (Option.none : Option Jvm.ClassFile.FieldType) ∈ lw_tbl := in_1 (List.mem_of_getElem? (i := 36) rfl)
theorem wd_126 : Jvm.Cond.methodLink "FarFromAnybody$Law" (3 : Nat) ({ cls := "java/lang/Object", name := "<init>", desc := "()V" } : Jvm.MethodName) ∈ lw_tbl := in_1 (List.mem_of_getElem? (i := 37) rfl)
theorem wd_127 : Jvm.Cond.fieldLink "FarFromAnybody$Law" (15 : Nat) "FarFromAnybody$Law" "lines" "I" ∈ lw_tbl := in_1 (List.mem_of_getElem? (i := 38) rfl)
theorem wd_128 : Jvm.Cond.fieldLink "FarFromAnybody" (156 : Nat) "FarFromAnybody$Law" "lines" "I" ∈ lw_tbl := in_1 (List.mem_of_getElem? (i := 39) rfl)
theorem wd_129 : Jvm.Cond.fieldLink "FarFromAnybody$Law" (19 : Nat) "FarFromAnybody$Law" "asksEvening" "Z" ∈ lw_tbl := in_1 (List.mem_of_getElem? (i := 40) rfl)
theorem wd_130 : Jvm.Cond.fieldLink "FarFromAnybody$Days" (105 : Nat) "FarFromAnybody$Law" "asksEvening" "Z" ∈ lw_tbl := in_1 (List.mem_of_getElem? (i := 41) rfl)
theorem wd_131 : Jvm.Cond.fieldLink "FarFromAnybody$Law" (9 : Nat) "FarFromAnybody$Law" "steps" "[I" ∈ lw_tbl := in_1 (List.mem_of_getElem? (i := 42) rfl)
theorem wd_139 : Jvm.Cond.arrayClass Jvm.ClassFile.FieldType.int ∈ lw_tbl := in_1 (List.mem_of_getElem? (i := 50) rfl)
theorem wd_140 : Jvm.Cond.fieldLink "FarFromAnybody$Camp" (36 : Nat) "FarFromAnybody$Camp" "w" "I" ∈ lw_tbl := in_1 (List.mem_of_getElem? (i := 51) rfl)
theorem wd_141 : Jvm.Cond.fieldLink "FarFromAnybody$Ways" (48 : Nat) "FarFromAnybody$Camp" "w" "I" ∈ lw_tbl := in_1 (List.mem_of_getElem? (i := 52) rfl)
theorem wd_142 : Jvm.Cond.fieldLink "FarFromAnybody$Days" (76 : Nat) "FarFromAnybody$Camp" "w" "I" ∈ lw_tbl := in_1 (List.mem_of_getElem? (i := 53) rfl)
theorem wd_143 : Jvm.Cond.fieldLink "FarFromAnybody$King" (52 : Nat) "FarFromAnybody$Camp" "w" "I" ∈ lw_tbl := in_1 (List.mem_of_getElem? (i := 54) rfl)
theorem wd_144 : Jvm.Cond.fieldLink "FarFromAnybody" (231 : Nat) "FarFromAnybody$Camp" "w" "I" ∈ lw_tbl := in_1 (List.mem_of_getElem? (i := 55) rfl)
theorem wd_145 : Jvm.Cond.fieldLink "FarFromAnybody$Camp" (40 : Nat) "FarFromAnybody$Camp" "h" "I" ∈ lw_tbl := in_1 (List.mem_of_getElem? (i := 56) rfl)
theorem wd_146 : Jvm.Cond.fieldLink "FarFromAnybody$Ways" (53 : Nat) "FarFromAnybody$Camp" "h" "I" ∈ lw_tbl := in_1 (List.mem_of_getElem? (i := 57) rfl)
theorem wd_147 : Jvm.Cond.fieldLink "FarFromAnybody$Days" (82 : Nat) "FarFromAnybody$Camp" "h" "I" ∈ lw_tbl := in_1 (List.mem_of_getElem? (i := 58) rfl)
theorem wd_148 : Jvm.Cond.fieldLink "FarFromAnybody$King" (55 : Nat) "FarFromAnybody$Camp" "h" "I" ∈ lw_tbl := in_1 (List.mem_of_getElem? (i := 59) rfl)
theorem wd_149 : Jvm.Cond.fieldLink "FarFromAnybody" (234 : Nat) "FarFromAnybody$Camp" "h" "I" ∈ lw_tbl := in_1 (List.mem_of_getElem? (i := 60) rfl)
theorem wd_150 : Jvm.Cond.fieldLink "FarFromAnybody" (66 : Nat) "FarFromAnybody$Camp" "draws" "I" ∈ lw_tbl := in_1 (List.mem_of_getElem? (i := 61) rfl)
theorem wd_151 : Jvm.Cond.fieldLink "FarFromAnybody$Camp" (80 : Nat) "FarFromAnybody$Camp" "draws" "I" ∈ lw_tbl := in_1 (List.mem_of_getElem? (i := 62) rfl)
theorem wd_152 : Jvm.Cond.fieldLink "FarFromAnybody$Camp" (9 : Nat) "FarFromAnybody$Camp" "kinds" "[I" ∈ lw_tbl := in_1 (List.mem_of_getElem? (i := 63) rfl)
theorem wd_153 : Jvm.Cond.fieldLink "FarFromAnybody$Ways" (56 : Nat) "FarFromAnybody$Camp" "kinds" "[I" ∈ lw_tbl := in_1 (List.mem_of_getElem? (i := 64) rfl)
theorem wd_154 : Jvm.Cond.fieldLink "FarFromAnybody" (83 : Nat) "FarFromAnybody$Camp" "kinds" "[I" ∈ lw_tbl := in_1 (List.mem_of_getElem? (i := 65) rfl)
theorem wd_155 : Jvm.Cond.fieldLink "FarFromAnybody$Days" (36 : Nat) "FarFromAnybody$Camp" "tents" "I" ∈ lw_tbl := in_1 (List.mem_of_getElem? (i := 66) rfl)
theorem wd_156 : Jvm.Cond.fieldLink "FarFromAnybody$Camp" (61 : Nat) "FarFromAnybody$Camp" "tents" "I" ∈ lw_tbl := in_1 (List.mem_of_getElem? (i := 67) rfl)
theorem wd_157 : Jvm.Cond.fieldLink "FarFromAnybody$Thought" (55 : Nat) "FarFromAnybody$Camp" "tents" "I" ∈ lw_tbl := in_1 (List.mem_of_getElem? (i := 68) rfl)
theorem wd_158 : Jvm.Cond.fieldLink "FarFromAnybody" (87 : Nat) "FarFromAnybody$Camp" "tents" "I" ∈ lw_tbl := in_1 (List.mem_of_getElem? (i := 69) rfl)
theorem wd_159 : Jvm.Cond.fieldLink "FarFromAnybody$King" (82 : Nat) "FarFromAnybody$Camp" "tents" "I" ∈ lw_tbl := in_1 (List.mem_of_getElem? (i := 70) rfl)
theorem wd_160 : Jvm.Cond.fieldLink "FarFromAnybody$Camp" (15 : Nat) "FarFromAnybody$Camp" "yards" "[I" ∈ lw_tbl := in_1 (List.mem_of_getElem? (i := 71) rfl)
theorem wd_161 : Jvm.Cond.fieldLink "FarFromAnybody$King" (29 : Nat) "FarFromAnybody$Camp" "yards" "[I" ∈ lw_tbl := in_1 (List.mem_of_getElem? (i := 72) rfl)
theorem wd_162 : Jvm.Cond.fieldLink "FarFromAnybody$Thought" (34 : Nat) "FarFromAnybody$Camp" "yards" "[I" ∈ lw_tbl := in_1 (List.mem_of_getElem? (i := 73) rfl)
theorem wd_163 : Jvm.Cond.fieldLink "FarFromAnybody$Days" (51 : Nat) "FarFromAnybody$Camp" "yards" "[I" ∈ lw_tbl := in_1 (List.mem_of_getElem? (i := 74) rfl)
theorem wd_164 : Jvm.Cond.fieldLink "FarFromAnybody" (178 : Nat) "FarFromAnybody$Camp" "yards" "[I" ∈ lw_tbl := in_1 (List.mem_of_getElem? (i := 75) rfl)
theorem wd_165 : Jvm.Cond.fieldLink "FarFromAnybody$Camp" (18 : Nat) "FarFromAnybody$Camp" "families" "[I" ∈ lw_tbl := in_1 (List.mem_of_getElem? (i := 76) rfl)
theorem wd_166 : Jvm.Cond.fieldLink "FarFromAnybody$Days" (44 : Nat) "FarFromAnybody$Camp" "families" "[I" ∈ lw_tbl := in_1 (List.mem_of_getElem? (i := 77) rfl)
theorem wd_167 : Jvm.Cond.fieldLink "FarFromAnybody$Thought" (101 : Nat) "FarFromAnybody$Camp" "families" "[I" ∈ lw_tbl := in_1 (List.mem_of_getElem? (i := 78) rfl)
theorem wd_168 : Jvm.Cond.fieldLink "FarFromAnybody$King" (95 : Nat) "FarFromAnybody$Camp" "families" "[I" ∈ lw_tbl := in_1 (List.mem_of_getElem? (i := 79) rfl)
theorem wd_169 : Jvm.Cond.fieldLink "FarFromAnybody" (181 : Nat) "FarFromAnybody$Camp" "families" "[I" ∈ lw_tbl := in_1 (List.mem_of_getElem? (i := 80) rfl)
theorem wd_170 : Jvm.Cond.fieldLink "FarFromAnybody$Camp" (21 : Nat) "FarFromAnybody$Camp" "modes" "[I" ∈ lw_tbl := in_1 (List.mem_of_getElem? (i := 81) rfl)
theorem wd_171 : Jvm.Cond.fieldLink "FarFromAnybody$Days" (54 : Nat) "FarFromAnybody$Camp" "modes" "[I" ∈ lw_tbl := in_1 (List.mem_of_getElem? (i := 82) rfl)
theorem wd_172 : Jvm.Cond.fieldLink "FarFromAnybody$Thought" (80 : Nat) "FarFromAnybody$Camp" "modes" "[I" ∈ lw_tbl := in_1 (List.mem_of_getElem? (i := 83) rfl)
theorem wd_173 : Jvm.Cond.fieldLink "FarFromAnybody" (184 : Nat) "FarFromAnybody$Camp" "modes" "[I" ∈ lw_tbl := in_1 (List.mem_of_getElem? (i := 84) rfl)
theorem wd_174 : Jvm.Cond.fieldLink "FarFromAnybody$Camp" (24 : Nat) "FarFromAnybody$Camp" "coins" "[I" ∈ lw_tbl := in_1 (List.mem_of_getElem? (i := 85) rfl)
theorem wd_175 : Jvm.Cond.fieldLink "FarFromAnybody$Days" (89 : Nat) "FarFromAnybody$Camp" "coins" "[I" ∈ lw_tbl := in_1 (List.mem_of_getElem? (i := 86) rfl)
theorem wd_176 : Jvm.Cond.fieldLink "FarFromAnybody" (187 : Nat) "FarFromAnybody$Camp" "coins" "[I" ∈ lw_tbl := in_1 (List.mem_of_getElem? (i := 87) rfl)
theorem wd_177 : Jvm.Cond.fieldLink "FarFromAnybody$Camp" (27 : Nat) "FarFromAnybody$Camp" "moves" "[I" ∈ lw_tbl := in_1 (List.mem_of_getElem? (i := 88) rfl)
theorem wd_178 : Jvm.Cond.fieldLink "FarFromAnybody$Days" (95 : Nat) "FarFromAnybody$Camp" "moves" "[I" ∈ lw_tbl := in_1 (List.mem_of_getElem? (i := 89) rfl)
theorem wd_179 : Jvm.Cond.fieldLink "FarFromAnybody" (190 : Nat) "FarFromAnybody$Camp" "moves" "[I" ∈ lw_tbl := in_1 (List.mem_of_getElem? (i := 90) rfl)
theorem wd_180 : Jvm.Cond.fieldLink "FarFromAnybody$Camp" (30 : Nat) "FarFromAnybody$Camp" "toldPays" "[I" ∈ lw_tbl := in_1 (List.mem_of_getElem? (i := 91) rfl)
theorem wd_181 : Jvm.Cond.fieldLink "FarFromAnybody$Thought" (128 : Nat) "FarFromAnybody$Camp" "toldPays" "[I" ∈ lw_tbl := in_1 (List.mem_of_getElem? (i := 92) rfl)
theorem wd_182 : Jvm.Cond.fieldLink "FarFromAnybody" (276 : Nat) "FarFromAnybody$Camp" "toldPays" "[I" ∈ lw_tbl := in_1 (List.mem_of_getElem? (i := 93) rfl)
theorem wd_183 : Jvm.Cond.fieldLink "FarFromAnybody$Camp" (64 : Nat) "FarFromAnybody$Camp" "men" "I" ∈ lw_tbl := in_1 (List.mem_of_getElem? (i := 94) rfl)
theorem wd_184 : Jvm.Cond.fieldLink "FarFromAnybody$Thought" (77 : Nat) "FarFromAnybody$Camp" "men" "I" ∈ lw_tbl := in_1 (List.mem_of_getElem? (i := 95) rfl)
theorem wd_185 : Jvm.Cond.fieldLink "FarFromAnybody" (101 : Nat) "FarFromAnybody$Camp" "men" "I" ∈ lw_tbl := in_1 (List.mem_of_getElem? (i := 96) rfl)
theorem wd_186 : Jvm.Cond.fieldLink "FarFromAnybody$Camp" (33 : Nat) "FarFromAnybody$Camp" "manYards" "[I" ∈ lw_tbl := in_1 (List.mem_of_getElem? (i := 97) rfl)
theorem wd_187 : Jvm.Cond.fieldLink "FarFromAnybody$Thought" (74 : Nat) "FarFromAnybody$Camp" "manYards" "[I" ∈ lw_tbl := in_1 (List.mem_of_getElem? (i := 98) rfl)
theorem wd_188 : Jvm.Cond.fieldLink "FarFromAnybody" (107 : Nat) "FarFromAnybody$Camp" "manYards" "[I" ∈ lw_tbl := in_1 (List.mem_of_getElem? (i := 99) rfl)
theorem wd_189 : Jvm.Cond.fieldLink "FarFromAnybody$Camp" (43 : Nat) "FarFromAnybody$Camp" "strangerYard" "I" ∈ lw_tbl := in_1 (List.mem_of_getElem? (i := 100) rfl)
theorem wd_190 : Jvm.Cond.fieldLink "FarFromAnybody" (113 : Nat) "FarFromAnybody$Camp" "strangerYard" "I" ∈ lw_tbl := in_1 (List.mem_of_getElem? (i := 101) rfl)
theorem wd_191 : Jvm.Cond.fieldLink "FarFromAnybody$Camp" (67 : Nat) "FarFromAnybody$Camp" "fine" "I" ∈ lw_tbl := in_1 (List.mem_of_getElem? (i := 102) rfl)
theorem wd_192 : Jvm.Cond.fieldLink "FarFromAnybody$Days" (70 : Nat) "FarFromAnybody$Camp" "fine" "I" ∈ lw_tbl := in_1 (List.mem_of_getElem? (i := 103) rfl)
theorem wd_193 : Jvm.Cond.fieldLink "FarFromAnybody$Placings" (67 : Nat) "FarFromAnybody$Camp" "fine" "I" ∈ lw_tbl := in_1 (List.mem_of_getElem? (i := 104) rfl)
theorem wd_194 : Jvm.Cond.fieldLink "FarFromAnybody" (298 : Nat) "FarFromAnybody$Camp" "fine" "I" ∈ lw_tbl := in_1 (List.mem_of_getElem? (i := 105) rfl)
theorem wd_195 : Jvm.Cond.fieldLink "FarFromAnybody$Days" (30 : Nat) "FarFromAnybody$Camp" "atOnce" "Z" ∈ lw_tbl := in_1 (List.mem_of_getElem? (i := 106) rfl)
theorem wd_196 : Jvm.Cond.fieldLink "FarFromAnybody$Camp" (70 : Nat) "FarFromAnybody$Camp" "atOnce" "Z" ∈ lw_tbl := in_1 (List.mem_of_getElem? (i := 107) rfl)
theorem wd_197 : Jvm.Cond.fieldLink "FarFromAnybody" (301 : Nat) "FarFromAnybody$Camp" "atOnce" "Z" ∈ lw_tbl := in_1 (List.mem_of_getElem? (i := 108) rfl)
theorem wd_198 : Jvm.Cond.fieldLink "FarFromAnybody$Camp" (74 : Nat) "FarFromAnybody$Camp" "evening" "I" ∈ lw_tbl := in_1 (List.mem_of_getElem? (i := 109) rfl)
theorem wd_199 : Jvm.Cond.fieldLink "FarFromAnybody$King" (62 : Nat) "FarFromAnybody$Camp" "evening" "I" ∈ lw_tbl := in_1 (List.mem_of_getElem? (i := 110) rfl)
theorem wd_200 : Jvm.Cond.fieldLink "FarFromAnybody$Days" (98 : Nat) "FarFromAnybody$Camp" "evening" "I" ∈ lw_tbl := in_1 (List.mem_of_getElem? (i := 111) rfl)
theorem wd_201 : Jvm.Cond.fieldLink "FarFromAnybody" (161 : Nat) "FarFromAnybody$Camp" "evening" "I" ∈ lw_tbl := in_1 (List.mem_of_getElem? (i := 112) rfl)
theorem wd_202 : Jvm.Cond.fieldLink "FarFromAnybody$Camp" (77 : Nat) "FarFromAnybody$Camp" "spent" "I" ∈ lw_tbl := in_1 (List.mem_of_getElem? (i := 113) rfl)
theorem wd_203 : Jvm.Cond.fieldLink "FarFromAnybody$Days" (92 : Nat) "FarFromAnybody$Camp" "spent" "I" ∈ lw_tbl := in_1 (List.mem_of_getElem? (i := 114) rfl)
theorem wd_204 : Jvm.Cond.fieldLink "FarFromAnybody" (305 : Nat) "FarFromAnybody$Camp" "spent" "I" ∈ lw_tbl := in_1 (List.mem_of_getElem? (i := 115) rfl)
theorem wd_205 : Jvm.Cond.fieldLink "FarFromAnybody$Camp" (51 : Nat) "FarFromAnybody$Camp" "law" "LFarFromAnybody$Law;" ∈ lw_tbl := in_1 (List.mem_of_getElem? (i := 116) rfl)
theorem wd_206 : Jvm.Cond.fieldLink "FarFromAnybody$King" (65 : Nat) "FarFromAnybody$Camp" "law" "LFarFromAnybody$Law;" ∈ lw_tbl := in_1 (List.mem_of_getElem? (i := 117) rfl)
theorem wd_207 : Jvm.Cond.fieldLink "FarFromAnybody$Days" (101 : Nat) "FarFromAnybody$Camp" "law" "LFarFromAnybody$Law;" ∈ lw_tbl := in_1 (List.mem_of_getElem? (i := 118) rfl)
theorem wd_208 : Jvm.Cond.fieldLink "FarFromAnybody" (152 : Nat) "FarFromAnybody$Camp" "law" "LFarFromAnybody$Law;" ∈ lw_tbl := in_1 (List.mem_of_getElem? (i := 119) rfl)
theorem wd_248 : Jvm.Cond.classLink "FarFromAnybody" (16 : Nat) "FarFromAnybody$Ways" ∈ lw_tbl := in_1 (List.mem_of_getElem? (i := 159) rfl)
theorem wd_249 : Jvm.Cond.instantiable "FarFromAnybody$Ways" (6 : Nat) ∈ lw_tbl := in_1 (List.mem_of_getElem? (i := 160) rfl)
theorem wd_250 : Jvm.Cond.methodLink "FarFromAnybody" (18 : Nat) ({ cls := "FarFromAnybody$Ways", name := "<init>", desc := "(LFarFromAnybody$Camp;Z)V" } : Jvm.MethodName) ∈ lw_tbl := in_1 (List.mem_of_getElem? (i := 161) rfl)
theorem wd_251 : Jvm.Cond.instanceMethod ({ cls := "FarFromAnybody$Ways", name := "<init>", desc := "(LFarFromAnybody$Camp;Z)V" } : Jvm.MethodName) ∈ lw_tbl := in_1 (List.mem_of_getElem? (i := 162) rfl)
theorem wd_252 : Jvm.Cond.code ({ cls := "FarFromAnybody$Ways", name := "<init>", desc := "(LFarFromAnybody$Camp;Z)V" } : Jvm.MethodName) prog_9_method_1_code (3 : Nat) (Option.none : Option Jvm.ClassFile.FieldType) ∈ lw_tbl := in_1 (List.mem_of_getElem? (i := 163) rfl)
theorem wd_253 : Jvm.Cond.methodLink "FarFromAnybody$Ways" (3 : Nat) ({ cls := "java/lang/Object", name := "<init>", desc := "()V" } : Jvm.MethodName) ∈ lw_tbl := in_1 (List.mem_of_getElem? (i := 164) rfl)
theorem wd_254 : Jvm.Cond.classLink "FarFromAnybody$Ways" (19 : Nat) "[B" ∈ lw_tbl := in_1 (List.mem_of_getElem? (i := 165) rfl)
theorem wd_255 : Jvm.Cond.arrayOver (Jvm.ClassFile.FieldType.array Jvm.ClassFile.FieldType.byte) ∈ lw_tbl := in_1 (List.mem_of_getElem? (i := 166) rfl)
theorem wd_256 : Jvm.Cond.fieldLink "FarFromAnybody$Ways" (9 : Nat) "FarFromAnybody$Ways" "camp" "LFarFromAnybody$Camp;" ∈ lw_tbl := in_1 (List.mem_of_getElem? (i := 167) rfl)
theorem wd_257 : Jvm.Cond.fieldLink "FarFromAnybody$Ways" (15 : Nat) "FarFromAnybody$Ways" "bridgesStand" "Z" ∈ lw_tbl := in_1 (List.mem_of_getElem? (i := 168) rfl)
theorem wd_258 : Jvm.Cond.fieldLink "FarFromAnybody$Ways" (21 : Nat) "FarFromAnybody$Ways" "rows" "[[B" ∈ lw_tbl := in_1 (List.mem_of_getElem? (i := 169) rfl)
theorem wd_259 : Jvm.Cond.fieldLink "FarFromAnybody$Ways" (25 : Nat) "FarFromAnybody$Ways" "stamps" "[I" ∈ lw_tbl := in_1 (List.mem_of_getElem? (i := 170) rfl)
theorem wd_260 : Jvm.Cond.fieldLink "FarFromAnybody$Ways" (29 : Nat) "FarFromAnybody$Ways" "queue" "[I" ∈ lw_tbl := in_1 (List.mem_of_getElem? (i := 171) rfl)
theorem wd_261 : Jvm.Cond.fieldLink "FarFromAnybody$Ways" (32 : Nat) "FarFromAnybody$Ways" "stamp" "I" ∈ lw_tbl := in_1 (List.mem_of_getElem? (i := 172) rfl)
theorem wd_275 : Jvm.Cond.classLink "FarFromAnybody" (28 : Nat) "FarFromAnybody$King" ∈ lw_tbl := in_1 (List.mem_of_getElem? (i := 186) rfl)
theorem wd_276 : Jvm.Cond.instantiable "FarFromAnybody$King" (8 : Nat) ∈ lw_tbl := in_1 (List.mem_of_getElem? (i := 187) rfl)
theorem wd_277 : Jvm.Cond.methodLink "FarFromAnybody" (30 : Nat) ({ cls := "FarFromAnybody$King", name := "<init>", desc := "(LFarFromAnybody$Camp;LFarFromAnybody$Ways;)V" } : Jvm.MethodName) ∈ lw_tbl := in_1 (List.mem_of_getElem? (i := 188) rfl)
theorem wd_278 : Jvm.Cond.instanceMethod ({ cls := "FarFromAnybody$King", name := "<init>", desc := "(LFarFromAnybody$Camp;LFarFromAnybody$Ways;)V" } : Jvm.MethodName) ∈ lw_tbl := in_1 (List.mem_of_getElem? (i := 189) rfl)
theorem wd_279 : Jvm.Cond.code ({ cls := "FarFromAnybody$King", name := "<init>", desc := "(LFarFromAnybody$Camp;LFarFromAnybody$Ways;)V" } : Jvm.MethodName) prog_4_method_1_code (3 : Nat) (Option.none : Option Jvm.ClassFile.FieldType) ∈ lw_tbl := in_1 (List.mem_of_getElem? (i := 190) rfl)
theorem wd_280 : Jvm.Cond.methodLink "FarFromAnybody$King" (3 : Nat) ({ cls := "java/lang/Object", name := "<init>", desc := "()V" } : Jvm.MethodName) ∈ lw_tbl := in_1 (List.mem_of_getElem? (i := 191) rfl)
theorem wd_281 : Jvm.Cond.fieldLink "FarFromAnybody$King" (15 : Nat) "FarFromAnybody$King" "ways" "LFarFromAnybody$Ways;" ∈ lw_tbl := in_1 (List.mem_of_getElem? (i := 192) rfl)
theorem wd_282 : Jvm.Cond.fieldLink "FarFromAnybody$Placings" (75 : Nat) "FarFromAnybody$King" "ways" "LFarFromAnybody$Ways;" ∈ lw_tbl := in_1 (List.mem_of_getElem? (i := 193) rfl)
theorem wd_283 : Jvm.Cond.fieldLink "FarFromAnybody$Days" (67 : Nat) "FarFromAnybody$King" "bestYard" "I" ∈ lw_tbl := in_1 (List.mem_of_getElem? (i := 194) rfl)
theorem wd_284 : Jvm.Cond.fieldLink "FarFromAnybody$King" (92 : Nat) "FarFromAnybody$King" "bestYard" "I" ∈ lw_tbl := in_1 (List.mem_of_getElem? (i := 195) rfl)
theorem wd_285 : Jvm.Cond.fieldLink "FarFromAnybody" (204 : Nat) "FarFromAnybody$King" "bestYard" "I" ∈ lw_tbl := in_1 (List.mem_of_getElem? (i := 196) rfl)
theorem wd_286 : Jvm.Cond.fieldLink "FarFromAnybody$King" (9 : Nat) "FarFromAnybody$King" "camp" "LFarFromAnybody$Camp;" ∈ lw_tbl := in_1 (List.mem_of_getElem? (i := 197) rfl)
theorem wd_287 : Jvm.Cond.fieldLink "FarFromAnybody$King" (21 : Nat) "FarFromAnybody$King" "facts" "[I" ∈ lw_tbl := in_1 (List.mem_of_getElem? (i := 198) rfl)
theorem wd_288 : Jvm.Cond.fieldLink "FarFromAnybody$King" (45 : Nat) "FarFromAnybody$King" "kin" "I" ∈ lw_tbl := in_1 (List.mem_of_getElem? (i := 199) rfl)
theorem wd_289 : Jvm.Cond.fieldLink "FarFromAnybody$King" (102 : Nat) "FarFromAnybody$King" "farOfKin" "I" ∈ lw_tbl := in_1 (List.mem_of_getElem? (i := 200) rfl)
theorem wd_290 : Jvm.Cond.fieldLink "FarFromAnybody$King" (38 : Nat) "FarFromAnybody$King" "far" "I" ∈ lw_tbl := in_1 (List.mem_of_getElem? (i := 201) rfl)
theorem wd_291 : Jvm.Cond.fieldLink "FarFromAnybody$King" (42 : Nat) "FarFromAnybody$King" "near" "I" ∈ lw_tbl := in_1 (List.mem_of_getElem? (i := 202) rfl)
theorem wd_309 : Jvm.Cond.classLink "FarFromAnybody" (40 : Nat) "FarFromAnybody$Days" ∈ lw_tbl := in_1 (List.mem_of_getElem? (i := 220) rfl)
theorem wd_310 : Jvm.Cond.instantiable "FarFromAnybody$Days" (5 : Nat) ∈ lw_tbl := in_1 (List.mem_of_getElem? (i := 221) rfl)
theorem wd_311 : Jvm.Cond.methodLink "FarFromAnybody" (42 : Nat) ({ cls := "FarFromAnybody$Days", name := "<init>", desc := "(LFarFromAnybody$Camp;LFarFromAnybody$King;)V" } : Jvm.MethodName) ∈ lw_tbl := in_1 (List.mem_of_getElem? (i := 222) rfl)
theorem wd_312 : Jvm.Cond.instanceMethod ({ cls := "FarFromAnybody$Days", name := "<init>", desc := "(LFarFromAnybody$Camp;LFarFromAnybody$King;)V" } : Jvm.MethodName) ∈ lw_tbl := in_1 (List.mem_of_getElem? (i := 223) rfl)
theorem wd_313 : Jvm.Cond.code ({ cls := "FarFromAnybody$Days", name := "<init>", desc := "(LFarFromAnybody$Camp;LFarFromAnybody$King;)V" } : Jvm.MethodName) prog_3_method_1_code (3 : Nat) (Option.none : Option Jvm.ClassFile.FieldType) ∈ lw_tbl := in_1 (List.mem_of_getElem? (i := 224) rfl)
theorem wd_314 : Jvm.Cond.methodLink "FarFromAnybody$Days" (3 : Nat) ({ cls := "java/lang/Object", name := "<init>", desc := "()V" } : Jvm.MethodName) ∈ lw_tbl := in_1 (List.mem_of_getElem? (i := 225) rfl)
theorem wd_315 : Jvm.Cond.fieldLink "FarFromAnybody$Days" (9 : Nat) "FarFromAnybody$Days" "camp" "LFarFromAnybody$Camp;" ∈ lw_tbl := in_1 (List.mem_of_getElem? (i := 226) rfl)
theorem wd_316 : Jvm.Cond.fieldLink "FarFromAnybody$Days" (15 : Nat) "FarFromAnybody$Days" "king" "LFarFromAnybody$King;" ∈ lw_tbl := in_1 (List.mem_of_getElem? (i := 227) rfl)
theorem wd_317 : Jvm.Cond.fieldLink "FarFromAnybody$Days" (19 : Nat) "FarFromAnybody$Days" "wishes" "[I" ∈ lw_tbl := in_1 (List.mem_of_getElem? (i := 228) rfl)
theorem wd_318 : Jvm.Cond.fieldLink "FarFromAnybody$Days" (23 : Nat) "FarFromAnybody$Days" "gone" "[Z" ∈ lw_tbl := in_1 (List.mem_of_getElem? (i := 229) rfl)
theorem wd_319 : Jvm.Cond.fieldLink "FarFromAnybody$Days" (27 : Nat) "FarFromAnybody$Days" "pays" "[I" ∈ lw_tbl := in_1 (List.mem_of_getElem? (i := 230) rfl)
theorem wd_331 : Jvm.Cond.arrayClass Jvm.ClassFile.FieldType.boolean ∈ lw_tbl := in_2 (List.mem_of_getElem? (i := 2) rfl)
theorem wd_332 : Jvm.Cond.classLink "FarFromAnybody" (49 : Nat) "FarFromAnybody$Thought" ∈ lw_tbl := in_2 (List.mem_of_getElem? (i := 3) rfl)
theorem wd_333 : Jvm.Cond.instantiable "FarFromAnybody$Thought" (13 : Nat) ∈ lw_tbl := in_2 (List.mem_of_getElem? (i := 4) rfl)
theorem wd_334 : Jvm.Cond.methodLink "FarFromAnybody" (51 : Nat) ({ cls := "FarFromAnybody$Thought", name := "<init>", desc := "(LFarFromAnybody$Camp;LFarFromAnybody$King;LFarFromAnybody$Days;)V" } : Jvm.MethodName) ∈ lw_tbl := in_2 (List.mem_of_getElem? (i := 5) rfl)
theorem wd_335 : Jvm.Cond.instanceMethod ({ cls := "FarFromAnybody$Thought", name := "<init>", desc := "(LFarFromAnybody$Camp;LFarFromAnybody$King;LFarFromAnybody$Days;)V" } : Jvm.MethodName) ∈ lw_tbl := in_2 (List.mem_of_getElem? (i := 6) rfl)
theorem wd_336 : Jvm.Cond.code ({ cls := "FarFromAnybody$Thought", name := "<init>", desc := "(LFarFromAnybody$Camp;LFarFromAnybody$King;LFarFromAnybody$Days;)V" } : Jvm.MethodName) prog_8_method_1_code (4 : Nat) (Option.none : Option Jvm.ClassFile.FieldType) ∈ lw_tbl := in_2 (List.mem_of_getElem? (i := 7) rfl)
theorem wd_337 : Jvm.Cond.methodLink "FarFromAnybody$Thought" (3 : Nat) ({ cls := "java/lang/Object", name := "<init>", desc := "()V" } : Jvm.MethodName) ∈ lw_tbl := in_2 (List.mem_of_getElem? (i := 8) rfl)
theorem wd_338 : Jvm.Cond.fieldLink "FarFromAnybody$Thought" (27 : Nat) "FarFromAnybody$Thought" "noons" "I" ∈ lw_tbl := in_2 (List.mem_of_getElem? (i := 9) rfl)
theorem wd_339 : Jvm.Cond.fieldLink "FarFromAnybody" (223 : Nat) "FarFromAnybody$Thought" "noons" "I" ∈ lw_tbl := in_2 (List.mem_of_getElem? (i := 10) rfl)
theorem wd_340 : Jvm.Cond.fieldLink "FarFromAnybody$Thought" (31 : Nat) "FarFromAnybody$Thought" "circle" "I" ∈ lw_tbl := in_2 (List.mem_of_getElem? (i := 11) rfl)
theorem wd_341 : Jvm.Cond.fieldLink "FarFromAnybody" (226 : Nat) "FarFromAnybody$Thought" "circle" "I" ∈ lw_tbl := in_2 (List.mem_of_getElem? (i := 12) rfl)
theorem wd_342 : Jvm.Cond.fieldLink "FarFromAnybody$Thought" (64 : Nat) "FarFromAnybody$Thought" "savingYard" "I" ∈ lw_tbl := in_2 (List.mem_of_getElem? (i := 13) rfl)
theorem wd_343 : Jvm.Cond.fieldLink "FarFromAnybody" (254 : Nat) "FarFromAnybody$Thought" "savingYard" "I" ∈ lw_tbl := in_2 (List.mem_of_getElem? (i := 14) rfl)
theorem wd_344 : Jvm.Cond.fieldLink "FarFromAnybody$Thought" (67 : Nat) "FarFromAnybody$Thought" "saved" "I" ∈ lw_tbl := in_2 (List.mem_of_getElem? (i := 15) rfl)
theorem wd_345 : Jvm.Cond.fieldLink "FarFromAnybody" (257 : Nat) "FarFromAnybody$Thought" "saved" "I" ∈ lw_tbl := in_2 (List.mem_of_getElem? (i := 16) rfl)
theorem wd_346 : Jvm.Cond.fieldLink "FarFromAnybody$Thought" (95 : Nat) "FarFromAnybody$Thought" "sentYard" "I" ∈ lw_tbl := in_2 (List.mem_of_getElem? (i := 17) rfl)
theorem wd_347 : Jvm.Cond.fieldLink "FarFromAnybody" (270 : Nat) "FarFromAnybody$Thought" "sentYard" "I" ∈ lw_tbl := in_2 (List.mem_of_getElem? (i := 18) rfl)
theorem wd_348 : Jvm.Cond.fieldLink "FarFromAnybody$Thought" (98 : Nat) "FarFromAnybody$Thought" "sentPays" "I" ∈ lw_tbl := in_2 (List.mem_of_getElem? (i := 19) rfl)
theorem wd_349 : Jvm.Cond.fieldLink "FarFromAnybody" (273 : Nat) "FarFromAnybody$Thought" "sentPays" "I" ∈ lw_tbl := in_2 (List.mem_of_getElem? (i := 20) rfl)
theorem wd_350 : Jvm.Cond.fieldLink "FarFromAnybody$Thought" (115 : Nat) "FarFromAnybody$Thought" "goings" "I" ∈ lw_tbl := in_2 (List.mem_of_getElem? (i := 21) rfl)
theorem wd_351 : Jvm.Cond.fieldLink "FarFromAnybody" (282 : Nat) "FarFromAnybody$Thought" "goings" "I" ∈ lw_tbl := in_2 (List.mem_of_getElem? (i := 22) rfl)
theorem wd_352 : Jvm.Cond.fieldLink "FarFromAnybody$Thought" (118 : Nat) "FarFromAnybody$Thought" "goneTent" "I" ∈ lw_tbl := in_2 (List.mem_of_getElem? (i := 23) rfl)
theorem wd_353 : Jvm.Cond.fieldLink "FarFromAnybody" (285 : Nat) "FarFromAnybody$Thought" "goneTent" "I" ∈ lw_tbl := in_2 (List.mem_of_getElem? (i := 24) rfl)
theorem wd_354 : Jvm.Cond.fieldLink "FarFromAnybody$Thought" (121 : Nat) "FarFromAnybody$Thought" "goneYard" "I" ∈ lw_tbl := in_2 (List.mem_of_getElem? (i := 25) rfl)
theorem wd_355 : Jvm.Cond.fieldLink "FarFromAnybody" (288 : Nat) "FarFromAnybody$Thought" "goneYard" "I" ∈ lw_tbl := in_2 (List.mem_of_getElem? (i := 26) rfl)
theorem wd_356 : Jvm.Cond.fieldLink "FarFromAnybody$Thought" (9 : Nat) "FarFromAnybody$Thought" "camp" "LFarFromAnybody$Camp;" ∈ lw_tbl := in_2 (List.mem_of_getElem? (i := 27) rfl)
theorem wd_357 : Jvm.Cond.fieldLink "FarFromAnybody$Thought" (15 : Nat) "FarFromAnybody$Thought" "king" "LFarFromAnybody$King;" ∈ lw_tbl := in_2 (List.mem_of_getElem? (i := 28) rfl)
theorem wd_358 : Jvm.Cond.fieldLink "FarFromAnybody$Thought" (19 : Nat) "FarFromAnybody$Thought" "days" "LFarFromAnybody$Days;" ∈ lw_tbl := in_2 (List.mem_of_getElem? (i := 29) rfl)
theorem wd_359 : Jvm.Cond.fieldLink "FarFromAnybody$Thought" (23 : Nat) "FarFromAnybody$Thought" "stood" "[I" ∈ lw_tbl := in_2 (List.mem_of_getElem? (i := 30) rfl)
theorem wd_387 : Jvm.Cond.fieldLink "FarFromAnybody" (12 : Nat) "FarFromAnybody" "camp" "LFarFromAnybody$Camp;" ∈ lw_tbl := in_2 (List.mem_of_getElem? (i := 58) rfl)
theorem wd_388 : Jvm.Cond.fieldLink "FarFromAnybody" (21 : Nat) "FarFromAnybody" "ways" "LFarFromAnybody$Ways;" ∈ lw_tbl := in_2 (List.mem_of_getElem? (i := 59) rfl)
theorem wd_389 : Jvm.Cond.fieldLink "FarFromAnybody" (25 : Nat) "FarFromAnybody" "brokenWays" "LFarFromAnybody$Ways;" ∈ lw_tbl := in_2 (List.mem_of_getElem? (i := 60) rfl)
theorem wd_390 : Jvm.Cond.fieldLink "FarFromAnybody" (33 : Nat) "FarFromAnybody" "king" "LFarFromAnybody$King;" ∈ lw_tbl := in_2 (List.mem_of_getElem? (i := 61) rfl)
theorem wd_391 : Jvm.Cond.fieldLink "FarFromAnybody" (37 : Nat) "FarFromAnybody" "brokenKing" "LFarFromAnybody$King;" ∈ lw_tbl := in_2 (List.mem_of_getElem? (i := 62) rfl)
theorem wd_392 : Jvm.Cond.fieldLink "FarFromAnybody" (45 : Nat) "FarFromAnybody" "days" "LFarFromAnybody$Days;" ∈ lw_tbl := in_2 (List.mem_of_getElem? (i := 63) rfl)
theorem wd_393 : Jvm.Cond.fieldLink "FarFromAnybody" (54 : Nat) "FarFromAnybody" "thought" "LFarFromAnybody$Thought;" ∈ lw_tbl := in_2 (List.mem_of_getElem? (i := 64) rfl)
theorem wd_394 : Jvm.Cond.fieldLink "FarFromAnybody" (58 : Nat) "FarFromAnybody" "tape" "[B" ∈ lw_tbl := in_2 (List.mem_of_getElem? (i := 65) rfl)
theorem wd_395 : Jvm.Cond.fieldLink "FarFromAnybody" (129 : Nat) "FarFromAnybody" "taped" "I" ∈ lw_tbl := in_2 (List.mem_of_getElem? (i := 66) rfl)
theorem wd_396 : Jvm.Cond.fieldLink "FarFromAnybody" (150 : Nat) "FarFromAnybody" "faultKind" "I" ∈ lw_tbl := in_2 (List.mem_of_getElem? (i := 67) rfl)
theorem wd_397 : Jvm.Cond.fieldLink "FarFromAnybody" (62 : Nat) "FarFromAnybody" "faultPlace" "I" ∈ lw_tbl := in_2 (List.mem_of_getElem? (i := 68) rfl)
theorem wd_398 : Jvm.Cond.fieldLink "FarFromAnybody" (136 : Nat) "FarFromAnybody" "reader" "LFarFromAnybody$Reader;" ∈ lw_tbl := in_2 (List.mem_of_getElem? (i := 69) rfl)
theorem wd_399 : Jvm.Cond.fieldLink "FarFromAnybody" (240 : Nat) "FarFromAnybody" "trials" "LFarFromAnybody$Placings;" ∈ lw_tbl := in_2 (List.mem_of_getElem? (i := 70) rfl)
theorem wd_400 : Jvm.Cond.fieldLink "FarFromAnybody" (291 : Nat) "FarFromAnybody" "kept" "LFarFromAnybody$Camp;" ∈ lw_tbl := in_2 (List.mem_of_getElem? (i := 71) rfl)
theorem wd_430 : Jvm.Cond.arrayClass Jvm.ClassFile.FieldType.byte ∈ lw_tbl := in_2 (List.mem_of_getElem? (i := 101) rfl)
theorem wd_434 : Jvm.Cond.code ({ cls := "FarFromAnybody", name := "state", desc := "(I)I" } : Jvm.MethodName) prog_1_method_2_code (3 : Nat) (Option.some Jvm.ClassFile.FieldType.int) ∈ lw_tbl := in_2 (List.mem_of_getElem? (i := 105) rfl)
theorem wd_438 : Jvm.Cond.code ({ cls := "FarFromAnybody", name := "plain", desc := "(II)Z" } : Jvm.MethodName) prog_1_method_3_code (3 : Nat) (Option.some Jvm.ClassFile.FieldType.boolean) ∈ lw_tbl := in_2 (List.mem_of_getElem? (i := 109) rfl)
theorem wd_439 : Jvm.Cond.methodLink "FarFromAnybody" (69 : Nat) ({ cls := "FarFromAnybody$Camp", name := "clear", desc := "(II)V" } : Jvm.MethodName) ∈ lw_tbl := in_2 (List.mem_of_getElem? (i := 110) rfl)
theorem wd_440 : Jvm.Cond.instanceMethod ({ cls := "FarFromAnybody$Camp", name := "clear", desc := "(II)V" } : Jvm.MethodName) ∈ lw_tbl := in_2 (List.mem_of_getElem? (i := 111) rfl)
theorem wd_441 : Jvm.Cond.selects "FarFromAnybody$Camp" ({ cls := "FarFromAnybody$Camp", name := "clear", desc := "(II)V" } : Jvm.MethodName) ({ cls := "FarFromAnybody$Camp", name := "clear", desc := "(II)V" } : Jvm.MethodName) ∈ lw_tbl := in_2 (List.mem_of_getElem? (i := 112) rfl)
theorem wd_442 : Jvm.Cond.code ({ cls := "FarFromAnybody$Camp", name := "clear", desc := "(II)V" } : Jvm.MethodName) prog_2_method_2_code (3 : Nat) (Option.none : Option Jvm.ClassFile.FieldType) ∈ lw_tbl := in_2 (List.mem_of_getElem? (i := 113) rfl)
theorem wd_443 : Jvm.Cond.methodLink "FarFromAnybody$Camp" (55 : Nat) ({ cls := "java/util/Arrays", name := "fill", desc := "([II)V" } : Jvm.MethodName) ∈ lw_tbl := in_2 (List.mem_of_getElem? (i := 114) rfl)
theorem wd_444 : Jvm.Cond.static ({ cls := "java/util/Arrays", name := "fill", desc := "([II)V" } : Jvm.MethodName) ∈ lw_tbl := in_2 (List.mem_of_getElem? (i := 115) rfl)
theorem wd_445 : Jvm.Cond.code ({ cls := "java/util/Arrays", name := "fill", desc := "([II)V" } : Jvm.MethodName) prog_18_method_103_code (4 : Nat) (Option.none : Option Jvm.ClassFile.FieldType) ∈ lw_tbl := in_2 (List.mem_of_getElem? (i := 116) rfl)
theorem wd_446 : Jvm.Cond.methodLink "FarFromAnybody" (73 : Nat) ({ cls := "FarFromAnybody", name := "forgetWays", desc := "()V" } : Jvm.MethodName) ∈ lw_tbl := in_2 (List.mem_of_getElem? (i := 117) rfl)
theorem wd_448 : Jvm.Cond.instanceMethod ({ cls := "FarFromAnybody", name := "forgetWays", desc := "()V" } : Jvm.MethodName) ∈ lw_tbl := in_2 (List.mem_of_getElem? (i := 119) rfl)
theorem wd_449 : Jvm.Cond.code ({ cls := "FarFromAnybody", name := "forgetWays", desc := "()V" } : Jvm.MethodName) prog_1_method_29_code (1 : Nat) (Option.none : Option Jvm.ClassFile.FieldType) ∈ lw_tbl := in_2 (List.mem_of_getElem? (i := 120) rfl)
theorem wd_450 : Jvm.Cond.methodLink "FarFromAnybody" (311 : Nat) ({ cls := "FarFromAnybody$Ways", name := "forget", desc := "()V" } : Jvm.MethodName) ∈ lw_tbl := in_2 (List.mem_of_getElem? (i := 121) rfl)
theorem wd_451 : Jvm.Cond.instanceMethod ({ cls := "FarFromAnybody$Ways", name := "forget", desc := "()V" } : Jvm.MethodName) ∈ lw_tbl := in_2 (List.mem_of_getElem? (i := 122) rfl)
theorem wd_452 : Jvm.Cond.selects "FarFromAnybody$Ways" ({ cls := "FarFromAnybody$Ways", name := "forget", desc := "()V" } : Jvm.MethodName) ({ cls := "FarFromAnybody$Ways", name := "forget", desc := "()V" } : Jvm.MethodName) ∈ lw_tbl := in_2 (List.mem_of_getElem? (i := 123) rfl)
theorem wd_453 : Jvm.Cond.code ({ cls := "FarFromAnybody$Ways", name := "forget", desc := "()V" } : Jvm.MethodName) prog_9_method_2_code (1 : Nat) (Option.none : Option Jvm.ClassFile.FieldType) ∈ lw_tbl := in_2 (List.mem_of_getElem? (i := 124) rfl)
theorem wd_457 : Jvm.Cond.code ({ cls := "FarFromAnybody", name := "yard", desc := "(II)Z" } : Jvm.MethodName) prog_1_method_4_code (3 : Nat) (Option.some Jvm.ClassFile.FieldType.boolean) ∈ lw_tbl := in_2 (List.mem_of_getElem? (i := 128) rfl)
theorem wd_458 : Jvm.Cond.methodLink "FarFromAnybody" (76 : Nat) ({ cls := "FarFromAnybody$Camp", name := "inside", desc := "(I)Z" } : Jvm.MethodName) ∈ lw_tbl := in_2 (List.mem_of_getElem? (i := 129) rfl)
theorem wd_459 : Jvm.Cond.instanceMethod ({ cls := "FarFromAnybody$Camp", name := "inside", desc := "(I)Z" } : Jvm.MethodName) ∈ lw_tbl := in_2 (List.mem_of_getElem? (i := 130) rfl)
theorem wd_460 : Jvm.Cond.selects "FarFromAnybody$Camp" ({ cls := "FarFromAnybody$Camp", name := "inside", desc := "(I)Z" } : Jvm.MethodName) ({ cls := "FarFromAnybody$Camp", name := "inside", desc := "(I)Z" } : Jvm.MethodName) ∈ lw_tbl := in_2 (List.mem_of_getElem? (i := 131) rfl)
theorem wd_461 : Jvm.Cond.code ({ cls := "FarFromAnybody$Camp", name := "inside", desc := "(I)Z" } : Jvm.MethodName) prog_2_method_4_code (2 : Nat) (Option.some Jvm.ClassFile.FieldType.boolean) ∈ lw_tbl := in_2 (List.mem_of_getElem? (i := 132) rfl)
theorem wd_462 : Jvm.Cond.methodLink "FarFromAnybody" (80 : Nat) ({ cls := "FarFromAnybody$Camp", name := "taken", desc := "(I)Z" } : Jvm.MethodName) ∈ lw_tbl := in_2 (List.mem_of_getElem? (i := 133) rfl)
theorem wd_463 : Jvm.Cond.instanceMethod ({ cls := "FarFromAnybody$Camp", name := "taken", desc := "(I)Z" } : Jvm.MethodName) ∈ lw_tbl := in_2 (List.mem_of_getElem? (i := 134) rfl)
theorem wd_464 : Jvm.Cond.selects "FarFromAnybody$Camp" ({ cls := "FarFromAnybody$Camp", name := "taken", desc := "(I)Z" } : Jvm.MethodName) ({ cls := "FarFromAnybody$Camp", name := "taken", desc := "(I)Z" } : Jvm.MethodName) ∈ lw_tbl := in_2 (List.mem_of_getElem? (i := 135) rfl)
theorem wd_465 : Jvm.Cond.code ({ cls := "FarFromAnybody$Camp", name := "taken", desc := "(I)Z" } : Jvm.MethodName) prog_2_method_11_code (2 : Nat) (Option.some Jvm.ClassFile.FieldType.boolean) ∈ lw_tbl := in_2 (List.mem_of_getElem? (i := 136) rfl)
theorem wd_466 : Jvm.Cond.methodLink "FarFromAnybody$Camp" (96 : Nat) ({ cls := "FarFromAnybody$Camp", name := "tentAt", desc := "(I)I" } : Jvm.MethodName) ∈ lw_tbl := in_2 (List.mem_of_getElem? (i := 137) rfl)
theorem wd_467 : Jvm.Cond.instanceMethod ({ cls := "FarFromAnybody$Camp", name := "tentAt", desc := "(I)I" } : Jvm.MethodName) ∈ lw_tbl := in_2 (List.mem_of_getElem? (i := 138) rfl)
theorem wd_468 : Jvm.Cond.selects "FarFromAnybody$Camp" ({ cls := "FarFromAnybody$Camp", name := "tentAt", desc := "(I)I" } : Jvm.MethodName) ({ cls := "FarFromAnybody$Camp", name := "tentAt", desc := "(I)I" } : Jvm.MethodName) ∈ lw_tbl := in_2 (List.mem_of_getElem? (i := 139) rfl)
theorem wd_469 : Jvm.Cond.code ({ cls := "FarFromAnybody$Camp", name := "tentAt", desc := "(I)I" } : Jvm.MethodName) prog_2_method_9_code (3 : Nat) (Option.some Jvm.ClassFile.FieldType.int) ∈ lw_tbl := in_2 (List.mem_of_getElem? (i := 140) rfl)
theorem wd_470 : Jvm.Cond.methodLink "FarFromAnybody$Camp" (100 : Nat) ({ cls := "FarFromAnybody$Camp", name := "manAt", desc := "(I)I" } : Jvm.MethodName) ∈ lw_tbl := in_2 (List.mem_of_getElem? (i := 141) rfl)
theorem wd_471 : Jvm.Cond.instanceMethod ({ cls := "FarFromAnybody$Camp", name := "manAt", desc := "(I)I" } : Jvm.MethodName) ∈ lw_tbl := in_2 (List.mem_of_getElem? (i := 142) rfl)
theorem wd_472 : Jvm.Cond.selects "FarFromAnybody$Camp" ({ cls := "FarFromAnybody$Camp", name := "manAt", desc := "(I)I" } : Jvm.MethodName) ({ cls := "FarFromAnybody$Camp", name := "manAt", desc := "(I)I" } : Jvm.MethodName) ∈ lw_tbl := in_2 (List.mem_of_getElem? (i := 143) rfl)
theorem wd_473 : Jvm.Cond.code ({ cls := "FarFromAnybody$Camp", name := "manAt", desc := "(I)I" } : Jvm.MethodName) prog_2_method_10_code (3 : Nat) (Option.some Jvm.ClassFile.FieldType.int) ∈ lw_tbl := in_2 (List.mem_of_getElem? (i := 144) rfl)
theorem wd_477 : Jvm.Cond.code ({ cls := "FarFromAnybody", name := "tent", desc := "(III)I" } : Jvm.MethodName) prog_1_method_5_code (4 : Nat) (Option.some Jvm.ClassFile.FieldType.int) ∈ lw_tbl := in_2 (List.mem_of_getElem? (i := 148) rfl)
theorem wd_478 : Jvm.Cond.methodLink "FarFromAnybody" (90 : Nat) ({ cls := "FarFromAnybody", name := "isMode", desc := "(I)Z" } : Jvm.MethodName) ∈ lw_tbl := in_2 (List.mem_of_getElem? (i := 149) rfl)
theorem wd_479 : Jvm.Cond.static ({ cls := "FarFromAnybody", name := "isMode", desc := "(I)Z" } : Jvm.MethodName) ∈ lw_tbl := in_2 (List.mem_of_getElem? (i := 150) rfl)
theorem wd_480 : Jvm.Cond.code ({ cls := "FarFromAnybody", name := "isMode", desc := "(I)Z" } : Jvm.MethodName) prog_1_method_31_code (1 : Nat) (Option.some Jvm.ClassFile.FieldType.boolean) ∈ lw_tbl := in_2 (List.mem_of_getElem? (i := 151) rfl)
theorem wd_481 : Jvm.Cond.methodLink "FarFromAnybody" (93 : Nat) ({ cls := "FarFromAnybody$Camp", name := "couldStand", desc := "(III)Z" } : Jvm.MethodName) ∈ lw_tbl := in_2 (List.mem_of_getElem? (i := 152) rfl)
theorem wd_482 : Jvm.Cond.instanceMethod ({ cls := "FarFromAnybody$Camp", name := "couldStand", desc := "(III)Z" } : Jvm.MethodName) ∈ lw_tbl := in_2 (List.mem_of_getElem? (i := 153) rfl)
theorem wd_483 : Jvm.Cond.selects "FarFromAnybody$Camp" ({ cls := "FarFromAnybody$Camp", name := "couldStand", desc := "(III)Z" } : Jvm.MethodName) ({ cls := "FarFromAnybody$Camp", name := "couldStand", desc := "(III)Z" } : Jvm.MethodName) ∈ lw_tbl := in_2 (List.mem_of_getElem? (i := 154) rfl)
theorem wd_484 : Jvm.Cond.code ({ cls := "FarFromAnybody$Camp", name := "couldStand", desc := "(III)Z" } : Jvm.MethodName) prog_2_method_13_code (6 : Nat) (Option.some Jvm.ClassFile.FieldType.boolean) ∈ lw_tbl := in_2 (List.mem_of_getElem? (i := 155) rfl)
theorem wd_485 : Jvm.Cond.methodLink "FarFromAnybody$Camp" (93 : Nat) ({ cls := "FarFromAnybody$Camp", name := "isGrass", desc := "(I)Z" } : Jvm.MethodName) ∈ lw_tbl := in_2 (List.mem_of_getElem? (i := 156) rfl)
theorem wd_486 : Jvm.Cond.instanceMethod ({ cls := "FarFromAnybody$Camp", name := "isGrass", desc := "(I)Z" } : Jvm.MethodName) ∈ lw_tbl := in_2 (List.mem_of_getElem? (i := 157) rfl)
theorem wd_487 : Jvm.Cond.selects "FarFromAnybody$Camp" ({ cls := "FarFromAnybody$Camp", name := "isGrass", desc := "(I)Z" } : Jvm.MethodName) ({ cls := "FarFromAnybody$Camp", name := "isGrass", desc := "(I)Z" } : Jvm.MethodName) ∈ lw_tbl := in_2 (List.mem_of_getElem? (i := 158) rfl)
theorem wd_488 : Jvm.Cond.code ({ cls := "FarFromAnybody$Camp", name := "isGrass", desc := "(I)Z" } : Jvm.MethodName) prog_2_method_5_code (2 : Nat) (Option.some Jvm.ClassFile.FieldType.boolean) ∈ lw_tbl := in_2 (List.mem_of_getElem? (i := 159) rfl)
theorem wd_489 : Jvm.Cond.methodLink "FarFromAnybody$Camp" (89 : Nat) ({ cls := "FarFromAnybody$Camp", name := "inside", desc := "(I)Z" } : Jvm.MethodName) ∈ lw_tbl := in_2 (List.mem_of_getElem? (i := 160) rfl)
theorem wd_490 : Jvm.Cond.methodLink "FarFromAnybody" (97 : Nat) ({ cls := "FarFromAnybody$Camp", name := "pitch", desc := "(III)I" } : Jvm.MethodName) ∈ lw_tbl := in_2 (List.mem_of_getElem? (i := 161) rfl)
theorem wd_491 : Jvm.Cond.instanceMethod ({ cls := "FarFromAnybody$Camp", name := "pitch", desc := "(III)I" } : Jvm.MethodName) ∈ lw_tbl := in_2 (List.mem_of_getElem? (i := 162) rfl)
theorem wd_492 : Jvm.Cond.selects "FarFromAnybody$Camp" ({ cls := "FarFromAnybody$Camp", name := "pitch", desc := "(III)I" } : Jvm.MethodName) ({ cls := "FarFromAnybody$Camp", name := "pitch", desc := "(III)I" } : Jvm.MethodName) ∈ lw_tbl := in_2 (List.mem_of_getElem? (i := 163) rfl)
theorem wd_493 : Jvm.Cond.code ({ cls := "FarFromAnybody$Camp", name := "pitch", desc := "(III)I" } : Jvm.MethodName) prog_2_method_14_code (5 : Nat) (Option.some Jvm.ClassFile.FieldType.int) ∈ lw_tbl := in_2 (List.mem_of_getElem? (i := 164) rfl)
theorem wd_497 : Jvm.Cond.code ({ cls := "FarFromAnybody", name := "man", desc := "(I)I" } : Jvm.MethodName) prog_1_method_6_code (2 : Nat) (Option.some Jvm.ClassFile.FieldType.int) ∈ lw_tbl := in_2 (List.mem_of_getElem? (i := 168) rfl)
theorem wd_498 : Jvm.Cond.methodLink "FarFromAnybody" (104 : Nat) ({ cls := "FarFromAnybody$Camp", name := "freeForMan", desc := "(I)Z" } : Jvm.MethodName) ∈ lw_tbl := in_2 (List.mem_of_getElem? (i := 169) rfl)
theorem wd_499 : Jvm.Cond.instanceMethod ({ cls := "FarFromAnybody$Camp", name := "freeForMan", desc := "(I)Z" } : Jvm.MethodName) ∈ lw_tbl := in_2 (List.mem_of_getElem? (i := 170) rfl)
theorem wd_500 : Jvm.Cond.selects "FarFromAnybody$Camp" ({ cls := "FarFromAnybody$Camp", name := "freeForMan", desc := "(I)Z" } : Jvm.MethodName) ({ cls := "FarFromAnybody$Camp", name := "freeForMan", desc := "(I)Z" } : Jvm.MethodName) ∈ lw_tbl := in_2 (List.mem_of_getElem? (i := 171) rfl)
theorem wd_501 : Jvm.Cond.code ({ cls := "FarFromAnybody$Camp", name := "freeForMan", desc := "(I)Z" } : Jvm.MethodName) prog_2_method_12_code (2 : Nat) (Option.some Jvm.ClassFile.FieldType.boolean) ∈ lw_tbl := in_2 (List.mem_of_getElem? (i := 172) rfl)
theorem wd_505 : Jvm.Cond.code ({ cls := "FarFromAnybody", name := "stranger", desc := "(I)Z" } : Jvm.MethodName) prog_1_method_7_code (2 : Nat) (Option.some Jvm.ClassFile.FieldType.boolean) ∈ lw_tbl := in_2 (List.mem_of_getElem? (i := 176) rfl)
theorem wd_506 : Jvm.Cond.methodLink "FarFromAnybody" (110 : Nat) ({ cls := "FarFromAnybody$Camp", name := "isGrass", desc := "(I)Z" } : Jvm.MethodName) ∈ lw_tbl := in_2 (List.mem_of_getElem? (i := 177) rfl)
theorem wd_510 : Jvm.Cond.code ({ cls := "FarFromAnybody", name := "set", desc := "(III)Z" } : Jvm.MethodName) prog_1_method_8_code (4 : Nat) (Option.some Jvm.ClassFile.FieldType.boolean) ∈ lw_tbl := in_2 (List.mem_of_getElem? (i := 181) rfl)
theorem wd_511 : Jvm.Cond.methodLink "FarFromAnybody" (116 : Nat) ({ cls := "FarFromAnybody", name := "setFine", desc := "(I)Z" } : Jvm.MethodName) ∈ lw_tbl := in_2 (List.mem_of_getElem? (i := 182) rfl)
theorem wd_513 : Jvm.Cond.instanceMethod ({ cls := "FarFromAnybody", name := "setFine", desc := "(I)Z" } : Jvm.MethodName) ∈ lw_tbl := in_2 (List.mem_of_getElem? (i := 184) rfl)
theorem wd_514 : Jvm.Cond.code ({ cls := "FarFromAnybody", name := "setFine", desc := "(I)Z" } : Jvm.MethodName) prog_1_method_32_code (2 : Nat) (Option.some Jvm.ClassFile.FieldType.boolean) ∈ lw_tbl := in_2 (List.mem_of_getElem? (i := 185) rfl)
theorem wd_515 : Jvm.Cond.methodLink "FarFromAnybody" (119 : Nat) ({ cls := "FarFromAnybody", name := "setAtOnce", desc := "(I)Z" } : Jvm.MethodName) ∈ lw_tbl := in_2 (List.mem_of_getElem? (i := 186) rfl)
theorem wd_517 : Jvm.Cond.instanceMethod ({ cls := "FarFromAnybody", name := "setAtOnce", desc := "(I)Z" } : Jvm.MethodName) ∈ lw_tbl := in_2 (List.mem_of_getElem? (i := 188) rfl)
theorem wd_518 : Jvm.Cond.code ({ cls := "FarFromAnybody", name := "setAtOnce", desc := "(I)Z" } : Jvm.MethodName) prog_1_method_33_code (2 : Nat) (Option.some Jvm.ClassFile.FieldType.boolean) ∈ lw_tbl := in_2 (List.mem_of_getElem? (i := 189) rfl)
theorem wd_519 : Jvm.Cond.methodLink "FarFromAnybody" (122 : Nat) ({ cls := "FarFromAnybody", name := "setMode", desc := "(II)Z" } : Jvm.MethodName) ∈ lw_tbl := in_2 (List.mem_of_getElem? (i := 190) rfl)
theorem wd_521 : Jvm.Cond.instanceMethod ({ cls := "FarFromAnybody", name := "setMode", desc := "(II)Z" } : Jvm.MethodName) ∈ lw_tbl := in_2 (List.mem_of_getElem? (i := 192) rfl)
theorem wd_522 : Jvm.Cond.code ({ cls := "FarFromAnybody", name := "setMode", desc := "(II)Z" } : Jvm.MethodName) prog_1_method_34_code (3 : Nat) (Option.some Jvm.ClassFile.FieldType.boolean) ∈ lw_tbl := in_2 (List.mem_of_getElem? (i := 193) rfl)
theorem wd_523 : Jvm.Cond.methodLink "FarFromAnybody" (175 : Nat) ({ cls := "FarFromAnybody$Camp", name := "isTent", desc := "(I)Z" } : Jvm.MethodName) ∈ lw_tbl := in_2 (List.mem_of_getElem? (i := 194) rfl)
theorem wd_524 : Jvm.Cond.instanceMethod ({ cls := "FarFromAnybody$Camp", name := "isTent", desc := "(I)Z" } : Jvm.MethodName) ∈ lw_tbl := in_2 (List.mem_of_getElem? (i := 195) rfl)
theorem wd_525 : Jvm.Cond.selects "FarFromAnybody$Camp" ({ cls := "FarFromAnybody$Camp", name := "isTent", desc := "(I)Z" } : Jvm.MethodName) ({ cls := "FarFromAnybody$Camp", name := "isTent", desc := "(I)Z" } : Jvm.MethodName) ∈ lw_tbl := in_2 (List.mem_of_getElem? (i := 196) rfl)
theorem wd_526 : Jvm.Cond.code ({ cls := "FarFromAnybody$Camp", name := "isTent", desc := "(I)Z" } : Jvm.MethodName) prog_2_method_8_code (2 : Nat) (Option.some Jvm.ClassFile.FieldType.boolean) ∈ lw_tbl := in_2 (List.mem_of_getElem? (i := 197) rfl)
theorem wd_527 : Jvm.Cond.methodLink "FarFromAnybody" (126 : Nat) ({ cls := "FarFromAnybody", name := "putTent", desc := "(II)Z" } : Jvm.MethodName) ∈ lw_tbl := in_2 (List.mem_of_getElem? (i := 198) rfl)
theorem wd_529 : Jvm.Cond.instanceMethod ({ cls := "FarFromAnybody", name := "putTent", desc := "(II)Z" } : Jvm.MethodName) ∈ lw_tbl := in_2 (List.mem_of_getElem? (i := 200) rfl)
theorem wd_530 : Jvm.Cond.code ({ cls := "FarFromAnybody", name := "putTent", desc := "(II)Z" } : Jvm.MethodName) prog_1_method_35_code (3 : Nat) (Option.some Jvm.ClassFile.FieldType.boolean) ∈ lw_tbl := in_2 (List.mem_of_getElem? (i := 201) rfl)
theorem wd_534 : Jvm.Cond.code ({ cls := "FarFromAnybody", name := "feed", desc := "(IIIII)I" } : Jvm.MethodName) prog_1_method_9_code (6 : Nat) (Option.some Jvm.ClassFile.FieldType.int) ∈ lw_tbl := in_2 (List.mem_of_getElem? (i := 205) rfl)
theorem wd_535 : Jvm.Cond.methodLink "FarFromAnybody" (132 : Nat) ({ cls := "FarFromAnybody", name := "tapeNumber", desc := "(I)V" } : Jvm.MethodName) ∈ lw_tbl := in_2 (List.mem_of_getElem? (i := 206) rfl)
theorem wd_537 : Jvm.Cond.instanceMethod ({ cls := "FarFromAnybody", name := "tapeNumber", desc := "(I)V" } : Jvm.MethodName) ∈ lw_tbl := in_2 (List.mem_of_getElem? (i := 208) rfl)
theorem wd_538 : Jvm.Cond.code ({ cls := "FarFromAnybody", name := "tapeNumber", desc := "(I)V" } : Jvm.MethodName) prog_1_method_30_code (3 : Nat) (Option.none : Option Jvm.ClassFile.FieldType) ∈ lw_tbl := in_2 (List.mem_of_getElem? (i := 209) rfl)
theorem wd_542 : Jvm.Cond.code ({ cls := "FarFromAnybody", name := "end", desc := "(I)Z" } : Jvm.MethodName) prog_1_method_10_code (2 : Nat) (Option.some Jvm.ClassFile.FieldType.boolean) ∈ lw_tbl := in_2 (List.mem_of_getElem? (i := 213) rfl)
theorem wd_546 : Jvm.Cond.code ({ cls := "FarFromAnybody", name := "text", desc := "()I" } : Jvm.MethodName) prog_1_method_11_code (2 : Nat) (Option.some Jvm.ClassFile.FieldType.int) ∈ lw_tbl := in_2 (List.mem_of_getElem? (i := 217) rfl)
theorem wd_547 : Jvm.Cond.classLink "FarFromAnybody" (140 : Nat) "FarFromAnybody$Reader" ∈ lw_tbl := in_2 (List.mem_of_getElem? (i := 218) rfl)
theorem wd_548 : Jvm.Cond.instantiable "FarFromAnybody$Reader" (11 : Nat) ∈ lw_tbl := in_2 (List.mem_of_getElem? (i := 219) rfl)
theorem wd_549 : Jvm.Cond.methodLink "FarFromAnybody" (142 : Nat) ({ cls := "FarFromAnybody$Reader", name := "<init>", desc := "()V" } : Jvm.MethodName) ∈ lw_tbl := in_2 (List.mem_of_getElem? (i := 220) rfl)
theorem wd_550 : Jvm.Cond.instanceMethod ({ cls := "FarFromAnybody$Reader", name := "<init>", desc := "()V" } : Jvm.MethodName) ∈ lw_tbl := in_2 (List.mem_of_getElem? (i := 221) rfl)
theorem wd_551 : Jvm.Cond.code ({ cls := "FarFromAnybody$Reader", name := "<init>", desc := "()V" } : Jvm.MethodName) prog_7_method_1_code (1 : Nat) (Option.none : Option Jvm.ClassFile.FieldType) ∈ lw_tbl := in_2 (List.mem_of_getElem? (i := 222) rfl)
theorem wd_552 : Jvm.Cond.methodLink "FarFromAnybody$Reader" (3 : Nat) ({ cls := "java/lang/Object", name := "<init>", desc := "()V" } : Jvm.MethodName) ∈ lw_tbl := in_2 (List.mem_of_getElem? (i := 223) rfl)
theorem wd_553 : Jvm.Cond.fieldLink "FarFromAnybody$Reader" (24 : Nat) "FarFromAnybody$Reader" "faultKind" "I" ∈ lw_tbl := in_2 (List.mem_of_getElem? (i := 224) rfl)
theorem wd_554 : Jvm.Cond.fieldLink "FarFromAnybody" (147 : Nat) "FarFromAnybody$Reader" "faultKind" "I" ∈ lw_tbl := in_2 (List.mem_of_getElem? (i := 225) rfl)
theorem wd_555 : Jvm.Cond.fieldLink "FarFromAnybody$Reader" (28 : Nat) "FarFromAnybody$Reader" "faultPlace" "I" ∈ lw_tbl := in_2 (List.mem_of_getElem? (i := 226) rfl)
theorem wd_556 : Jvm.Cond.fieldLink "FarFromAnybody" (151 : Nat) "FarFromAnybody$Reader" "faultPlace" "I" ∈ lw_tbl := in_2 (List.mem_of_getElem? (i := 227) rfl)
theorem wd_557 : Jvm.Cond.fieldLink "FarFromAnybody$Reader" (9 : Nat) "FarFromAnybody$Reader" "kinds" "[I" ∈ lw_tbl := in_2 (List.mem_of_getElem? (i := 228) rfl)
theorem wd_558 : Jvm.Cond.fieldLink "FarFromAnybody$Reader" (15 : Nat) "FarFromAnybody$Reader" "places" "[I" ∈ lw_tbl := in_2 (List.mem_of_getElem? (i := 229) rfl)
theorem wd_559 : Jvm.Cond.fieldLink "FarFromAnybody$Reader" (18 : Nat) "FarFromAnybody$Reader" "values" "[I" ∈ lw_tbl := in_2 (List.mem_of_getElem? (i := 230) rfl)
theorem wd_560 : Jvm.Cond.fieldLink "FarFromAnybody$Reader" (86 : Nat) "FarFromAnybody$Reader" "tokens" "I" ∈ lw_tbl := in_2 (List.mem_of_getElem? (i := 231) rfl)
theorem wd_561 : Jvm.Cond.fieldLink "FarFromAnybody$Reader" (41 : Nat) "FarFromAnybody$Reader" "now" "I" ∈ lw_tbl := in_2 (List.mem_of_getElem? (i := 232) rfl)
theorem wd_562 : Jvm.Cond.fieldLink "FarFromAnybody$Reader" (21 : Nat) "FarFromAnybody$Reader" "steps" "[I" ∈ lw_tbl := in_2 (List.mem_of_getElem? (i := 233) rfl)
theorem wd_563 : Jvm.Cond.fieldLink "FarFromAnybody$Reader" (31 : Nat) "FarFromAnybody$Reader" "stepCount" "I" ∈ lw_tbl := in_2 (List.mem_of_getElem? (i := 234) rfl)
theorem wd_564 : Jvm.Cond.fieldLink "FarFromAnybody$Reader" (34 : Nat) "FarFromAnybody$Reader" "lines" "I" ∈ lw_tbl := in_2 (List.mem_of_getElem? (i := 235) rfl)
theorem wd_565 : Jvm.Cond.fieldLink "FarFromAnybody$Reader" (37 : Nat) "FarFromAnybody$Reader" "asksEvening" "Z" ∈ lw_tbl := in_2 (List.mem_of_getElem? (i := 236) rfl)
theorem wd_589 : Jvm.Cond.methodLink "FarFromAnybody" (143 : Nat) ({ cls := "FarFromAnybody$Reader", name := "read", desc := "([BI)LFarFromAnybody$Law;" } : Jvm.MethodName) ∈ lw_tbl := in_3 (List.mem_of_getElem? (i := 20) rfl)
theorem wd_590 : Jvm.Cond.instanceMethod ({ cls := "FarFromAnybody$Reader", name := "read", desc := "([BI)LFarFromAnybody$Law;" } : Jvm.MethodName) ∈ lw_tbl := in_3 (List.mem_of_getElem? (i := 21) rfl)
theorem wd_591 : Jvm.Cond.selects "FarFromAnybody$Reader" ({ cls := "FarFromAnybody$Reader", name := "read", desc := "([BI)LFarFromAnybody$Law;" } : Jvm.MethodName) ({ cls := "FarFromAnybody$Reader", name := "read", desc := "([BI)LFarFromAnybody$Law;" } : Jvm.MethodName) ∈ lw_tbl := in_3 (List.mem_of_getElem? (i := 22) rfl)
theorem wd_592 : Jvm.Cond.code ({ cls := "FarFromAnybody$Reader", name := "read", desc := "([BI)LFarFromAnybody$Law;" } : Jvm.MethodName) prog_7_method_2_code (5 : Nat) (Option.some (Jvm.ClassFile.FieldType.object "FarFromAnybody$Law")) ∈ lw_tbl := in_3 (List.mem_of_getElem? (i := 23) rfl)
theorem wd_593 : Jvm.Cond.methodLink "FarFromAnybody$Reader" (44 : Nat) ({ cls := "java/lang/Math", name := "min", desc := "(II)I" } : Jvm.MethodName) ∈ lw_tbl := in_3 (List.mem_of_getElem? (i := 24) rfl)
theorem wd_594 : Jvm.Cond.static ({ cls := "java/lang/Math", name := "min", desc := "(II)I" } : Jvm.MethodName) ∈ lw_tbl := in_3 (List.mem_of_getElem? (i := 25) rfl)
theorem wd_595 : Jvm.Cond.code ({ cls := "java/lang/Math", name := "min", desc := "(II)I" } : Jvm.MethodName) prog_13_method_69_code (2 : Nat) (Option.some Jvm.ClassFile.FieldType.int) ∈ lw_tbl := in_3 (List.mem_of_getElem? (i := 26) rfl)
theorem wd_596 : Jvm.Cond.methodLink "FarFromAnybody$Reader" (50 : Nat) ({ cls := "FarFromAnybody$Reader", name := "split", desc := "([BI)V" } : Jvm.MethodName) ∈ lw_tbl := in_3 (List.mem_of_getElem? (i := 27) rfl)
theorem wd_598 : Jvm.Cond.instanceMethod ({ cls := "FarFromAnybody$Reader", name := "split", desc := "([BI)V" } : Jvm.MethodName) ∈ lw_tbl := in_3 (List.mem_of_getElem? (i := 29) rfl)
theorem wd_599 : Jvm.Cond.code ({ cls := "FarFromAnybody$Reader", name := "split", desc := "([BI)V" } : Jvm.MethodName) prog_7_method_3_code (6 : Nat) (Option.none : Option Jvm.ClassFile.FieldType) ∈ lw_tbl := in_3 (List.mem_of_getElem? (i := 30) rfl)
theorem wd_600 : Jvm.Cond.methodLink "FarFromAnybody$Reader" (89 : Nat) ({ cls := "FarFromAnybody$Reader", name := "isLetter", desc := "(I)Z" } : Jvm.MethodName) ∈ lw_tbl := in_3 (List.mem_of_getElem? (i := 31) rfl)
theorem wd_601 : Jvm.Cond.static ({ cls := "FarFromAnybody$Reader", name := "isLetter", desc := "(I)Z" } : Jvm.MethodName) ∈ lw_tbl := in_3 (List.mem_of_getElem? (i := 32) rfl)
theorem wd_602 : Jvm.Cond.code ({ cls := "FarFromAnybody$Reader", name := "isLetter", desc := "(I)Z" } : Jvm.MethodName) prog_7_method_4_code (1 : Nat) (Option.some Jvm.ClassFile.FieldType.boolean) ∈ lw_tbl := in_3 (List.mem_of_getElem? (i := 33) rfl)
theorem wd_603 : Jvm.Cond.methodLink "FarFromAnybody$Reader" (92 : Nat) ({ cls := "FarFromAnybody$Reader", name := "addWord", desc := "([BII)V" } : Jvm.MethodName) ∈ lw_tbl := in_3 (List.mem_of_getElem? (i := 34) rfl)
theorem wd_605 : Jvm.Cond.instanceMethod ({ cls := "FarFromAnybody$Reader", name := "addWord", desc := "([BII)V" } : Jvm.MethodName) ∈ lw_tbl := in_3 (List.mem_of_getElem? (i := 36) rfl)
theorem wd_606 : Jvm.Cond.code ({ cls := "FarFromAnybody$Reader", name := "addWord", desc := "([BII)V" } : Jvm.MethodName) prog_7_method_8_code (5 : Nat) (Option.none : Option Jvm.ClassFile.FieldType) ∈ lw_tbl := in_3 (List.mem_of_getElem? (i := 37) rfl)
theorem wd_607 : Jvm.Cond.methodLink "FarFromAnybody$Reader" (106 : Nat) ({ cls := "FarFromAnybody$Reader", name := "factOf", desc := "([BII)I" } : Jvm.MethodName) ∈ lw_tbl := in_3 (List.mem_of_getElem? (i := 38) rfl)
theorem wd_608 : Jvm.Cond.static ({ cls := "FarFromAnybody$Reader", name := "factOf", desc := "([BII)I" } : Jvm.MethodName) ∈ lw_tbl := in_3 (List.mem_of_getElem? (i := 39) rfl)
theorem wd_609 : Jvm.Cond.code ({ cls := "FarFromAnybody$Reader", name := "factOf", desc := "([BII)I" } : Jvm.MethodName) prog_7_method_9_code (3 : Nat) (Option.some Jvm.ClassFile.FieldType.int) ∈ lw_tbl := in_3 (List.mem_of_getElem? (i := 40) rfl)
theorem wd_610 : Jvm.Cond.stringRef "FarFromAnybody$Reader" (124 : Nat) "far" ∈ lw_tbl := in_3 (List.mem_of_getElem? (i := 41) rfl)
theorem wd_611 : Jvm.Cond.methodLink "FarFromAnybody$Reader" (112 : Nat) ({ cls := "FarFromAnybody$Reader", name := "isWord", desc := "([BIILjava/lang/String;)Z" } : Jvm.MethodName) ∈ lw_tbl := in_3 (List.mem_of_getElem? (i := 42) rfl)
theorem wd_612 : Jvm.Cond.static ({ cls := "FarFromAnybody$Reader", name := "isWord", desc := "([BIILjava/lang/String;)Z" } : Jvm.MethodName) ∈ lw_tbl := in_3 (List.mem_of_getElem? (i := 43) rfl)
theorem wd_613 : Jvm.Cond.code ({ cls := "FarFromAnybody$Reader", name := "isWord", desc := "([BIILjava/lang/String;)Z" } : Jvm.MethodName) prog_7_method_10_code (5 : Nat) (Option.some Jvm.ClassFile.FieldType.boolean) ∈ lw_tbl := in_3 (List.mem_of_getElem? (i := 44) rfl)
theorem wd_614 : Jvm.Cond.methodLink "FarFromAnybody$Reader" (140 : Nat) ({ cls := "java/lang/String", name := "length", desc := "()I" } : Jvm.MethodName) ∈ lw_tbl := in_3 (List.mem_of_getElem? (i := 45) rfl)
theorem wd_615 : Jvm.Cond.instanceMethod ({ cls := "java/lang/String", name := "length", desc := "()I" } : Jvm.MethodName) ∈ lw_tbl := in_3 (List.mem_of_getElem? (i := 46) rfl)
theorem wd_616 : Jvm.Cond.selects "java/lang/String" ({ cls := "java/lang/String", name := "length", desc := "()I" } : Jvm.MethodName) ({ cls := "java/lang/String", name := "length", desc := "()I" } : Jvm.MethodName) ∈ lw_tbl := in_3 (List.mem_of_getElem? (i := 47) rfl)
theorem wd_617 : Jvm.Cond.code ({ cls := "java/lang/String", name := "length", desc := "()I" } : Jvm.MethodName) prog_14_method_54_code (1 : Nat) (Option.some Jvm.ClassFile.FieldType.int) ∈ lw_tbl := in_3 (List.mem_of_getElem? (i := 48) rfl)
theorem wd_618 : Jvm.Cond.methodLink "java/lang/String" (335 : Nat) ({ cls := "java/lang/String", name := "coder", desc := "()B" } : Jvm.MethodName) ∈ lw_tbl := in_3 (List.mem_of_getElem? (i := 49) rfl)
theorem wd_619 : Jvm.Cond.instanceMethod ({ cls := "java/lang/String", name := "coder", desc := "()B" } : Jvm.MethodName) ∈ lw_tbl := in_3 (List.mem_of_getElem? (i := 50) rfl)
theorem wd_620 : Jvm.Cond.selects "java/lang/String" ({ cls := "java/lang/String", name := "coder", desc := "()B" } : Jvm.MethodName) ({ cls := "java/lang/String", name := "coder", desc := "()B" } : Jvm.MethodName) ∈ lw_tbl := in_3 (List.mem_of_getElem? (i := 51) rfl)
theorem wd_621 : Jvm.Cond.code ({ cls := "java/lang/String", name := "coder", desc := "()B" } : Jvm.MethodName) prog_14_method_152_code (1 : Nat) (Option.some Jvm.ClassFile.FieldType.byte) ∈ lw_tbl := in_3 (List.mem_of_getElem? (i := 52) rfl)
theorem wd_622 : Jvm.Cond.fieldLink "java/lang/String" (38 : Nat) "java/lang/String" "COMPACT_STRINGS" "Z" ∈ lw_tbl := in_3 (List.mem_of_getElem? (i := 53) rfl)
theorem wd_624 : Jvm.Cond.methodLink "FarFromAnybody$Reader" (146 : Nat) ({ cls := "java/lang/String", name := "charAt", desc := "(I)C" } : Jvm.MethodName) ∈ lw_tbl := in_3 (List.mem_of_getElem? (i := 55) rfl)
theorem wd_625 : Jvm.Cond.instanceMethod ({ cls := "java/lang/String", name := "charAt", desc := "(I)C" } : Jvm.MethodName) ∈ lw_tbl := in_3 (List.mem_of_getElem? (i := 56) rfl)
theorem wd_626 : Jvm.Cond.selects "java/lang/String" ({ cls := "java/lang/String", name := "charAt", desc := "(I)C" } : Jvm.MethodName) ({ cls := "java/lang/String", name := "charAt", desc := "(I)C" } : Jvm.MethodName) ∈ lw_tbl := in_3 (List.mem_of_getElem? (i := 57) rfl)
theorem wd_627 : Jvm.Cond.code ({ cls := "java/lang/String", name := "charAt", desc := "(I)C" } : Jvm.MethodName) prog_14_method_56_code (2 : Nat) (Option.some Jvm.ClassFile.FieldType.char) ∈ lw_tbl := in_3 (List.mem_of_getElem? (i := 58) rfl)
theorem wd_628 : Jvm.Cond.methodLink "java/lang/String" (492 : Nat) ({ cls := "java/lang/String", name := "isLatin1", desc := "()Z" } : Jvm.MethodName) ∈ lw_tbl := in_3 (List.mem_of_getElem? (i := 59) rfl)
theorem wd_629 : Jvm.Cond.instanceMethod ({ cls := "java/lang/String", name := "isLatin1", desc := "()Z" } : Jvm.MethodName) ∈ lw_tbl := in_3 (List.mem_of_getElem? (i := 60) rfl)
theorem wd_630 : Jvm.Cond.selects "java/lang/String" ({ cls := "java/lang/String", name := "isLatin1", desc := "()Z" } : Jvm.MethodName) ({ cls := "java/lang/String", name := "isLatin1", desc := "()Z" } : Jvm.MethodName) ∈ lw_tbl := in_3 (List.mem_of_getElem? (i := 61) rfl)
theorem wd_631 : Jvm.Cond.code ({ cls := "java/lang/String", name := "isLatin1", desc := "()Z" } : Jvm.MethodName) prog_14_method_154_code (1 : Nat) (Option.some Jvm.ClassFile.FieldType.boolean) ∈ lw_tbl := in_3 (List.mem_of_getElem? (i := 62) rfl)
theorem wd_632 : Jvm.Cond.methodLink "java/lang/String" (495 : Nat) ({ cls := "java/lang/StringLatin1", name := "charAt", desc := "([BI)C" } : Jvm.MethodName) ∈ lw_tbl := in_3 (List.mem_of_getElem? (i := 63) rfl)
theorem wd_633 : Jvm.Cond.static ({ cls := "java/lang/StringLatin1", name := "charAt", desc := "([BI)C" } : Jvm.MethodName) ∈ lw_tbl := in_3 (List.mem_of_getElem? (i := 64) rfl)
theorem wd_634 : Jvm.Cond.code ({ cls := "java/lang/StringLatin1", name := "charAt", desc := "([BI)C" } : Jvm.MethodName) prog_15_method_2_code (2 : Nat) (Option.some Jvm.ClassFile.FieldType.char) ∈ lw_tbl := in_3 (List.mem_of_getElem? (i := 65) rfl)
theorem wd_635 : Jvm.Cond.methodLink "java/lang/StringLatin1" (9 : Nat) ({ cls := "java/lang/String", name := "checkIndex", desc := "(II)V" } : Jvm.MethodName) ∈ lw_tbl := in_3 (List.mem_of_getElem? (i := 66) rfl)
theorem wd_636 : Jvm.Cond.static ({ cls := "java/lang/String", name := "checkIndex", desc := "(II)V" } : Jvm.MethodName) ∈ lw_tbl := in_3 (List.mem_of_getElem? (i := 67) rfl)
theorem wd_637 : Jvm.Cond.code ({ cls := "java/lang/String", name := "checkIndex", desc := "(II)V" } : Jvm.MethodName) prog_14_method_155_code (2 : Nat) (Option.none : Option Jvm.ClassFile.FieldType) ∈ lw_tbl := in_3 (List.mem_of_getElem? (i := 68) rfl)
theorem wd_638 : Jvm.Cond.fieldLink "java/lang/String" (1053 : Nat) "jdk/internal/util/Preconditions" "SIOOBE_FORMATTER" "Ljava/util/function/BiFunction;" ∈ lw_tbl := in_3 (List.mem_of_getElem? (i := 69) rfl)
theorem wd_640 : Jvm.Cond.methodLink "java/lang/String" (1059 : Nat) ({ cls := "jdk/internal/util/Preconditions", name := "checkIndex", desc := "(IILjava/util/function/BiFunction;)I" } : Jvm.MethodName) ∈ lw_tbl := in_3 (List.mem_of_getElem? (i := 71) rfl)
theorem wd_641 : Jvm.Cond.static ({ cls := "jdk/internal/util/Preconditions", name := "checkIndex", desc := "(IILjava/util/function/BiFunction;)I" } : Jvm.MethodName) ∈ lw_tbl := in_3 (List.mem_of_getElem? (i := 72) rfl)
theorem wd_642 : Jvm.Cond.code ({ cls := "jdk/internal/util/Preconditions", name := "checkIndex", desc := "(IILjava/util/function/BiFunction;)I" } : Jvm.MethodName) prog_19_method_11_code (3 : Nat) (Option.some Jvm.ClassFile.FieldType.int) ∈ lw_tbl := in_3 (List.mem_of_getElem? (i := 73) rfl)
theorem wd_662 : Jvm.Cond.stringRef "FarFromAnybody$Reader" (126 : Nat) "edge" ∈ lw_tbl := in_3 (List.mem_of_getElem? (i := 93) rfl)
theorem wd_663 : Jvm.Cond.stringRef "FarFromAnybody$Reader" (128 : Nat) "water" ∈ lw_tbl := in_3 (List.mem_of_getElem? (i := 94) rfl)
theorem wd_664 : Jvm.Cond.stringRef "FarFromAnybody$Reader" (130 : Nat) "near" ∈ lw_tbl := in_3 (List.mem_of_getElem? (i := 95) rfl)
theorem wd_665 : Jvm.Cond.stringRef "FarFromAnybody$Reader" (132 : Nat) "kin" ∈ lw_tbl := in_3 (List.mem_of_getElem? (i := 96) rfl)
theorem wd_666 : Jvm.Cond.stringRef "FarFromAnybody$Reader" (134 : Nat) "x" ∈ lw_tbl := in_3 (List.mem_of_getElem? (i := 97) rfl)
theorem wd_667 : Jvm.Cond.stringRef "FarFromAnybody$Reader" (136 : Nat) "y" ∈ lw_tbl := in_3 (List.mem_of_getElem? (i := 98) rfl)
theorem wd_668 : Jvm.Cond.stringRef "FarFromAnybody$Reader" (138 : Nat) "evening" ∈ lw_tbl := in_3 (List.mem_of_getElem? (i := 99) rfl)
theorem wd_669 : Jvm.Cond.methodLink "FarFromAnybody$Reader" (102 : Nat) ({ cls := "FarFromAnybody$Reader", name := "addToken", desc := "(III)V" } : Jvm.MethodName) ∈ lw_tbl := in_3 (List.mem_of_getElem? (i := 100) rfl)
theorem wd_671 : Jvm.Cond.instanceMethod ({ cls := "FarFromAnybody$Reader", name := "addToken", desc := "(III)V" } : Jvm.MethodName) ∈ lw_tbl := in_3 (List.mem_of_getElem? (i := 102) rfl)
theorem wd_672 : Jvm.Cond.code ({ cls := "FarFromAnybody$Reader", name := "addToken", desc := "(III)V" } : Jvm.MethodName) prog_7_method_6_code (4 : Nat) (Option.none : Option Jvm.ClassFile.FieldType) ∈ lw_tbl := in_3 (List.mem_of_getElem? (i := 103) rfl)
theorem wd_673 : Jvm.Cond.stringRef "FarFromAnybody$Reader" (110 : Nat) "pay" ∈ lw_tbl := in_3 (List.mem_of_getElem? (i := 104) rfl)
theorem wd_674 : Jvm.Cond.stringRef "FarFromAnybody$Reader" (116 : Nat) "when" ∈ lw_tbl := in_3 (List.mem_of_getElem? (i := 105) rfl)
theorem wd_675 : Jvm.Cond.stringRef "FarFromAnybody$Reader" (118 : Nat) "or" ∈ lw_tbl := in_3 (List.mem_of_getElem? (i := 106) rfl)
theorem wd_676 : Jvm.Cond.stringRef "FarFromAnybody$Reader" (120 : Nat) "and" ∈ lw_tbl := in_3 (List.mem_of_getElem? (i := 107) rfl)
theorem wd_677 : Jvm.Cond.stringRef "FarFromAnybody$Reader" (122 : Nat) "not" ∈ lw_tbl := in_3 (List.mem_of_getElem? (i := 108) rfl)
theorem wd_678 : Jvm.Cond.methodLink "FarFromAnybody$Reader" (96 : Nat) ({ cls := "FarFromAnybody$Reader", name := "isDigit", desc := "(I)Z" } : Jvm.MethodName) ∈ lw_tbl := in_3 (List.mem_of_getElem? (i := 109) rfl)
theorem wd_679 : Jvm.Cond.static ({ cls := "FarFromAnybody$Reader", name := "isDigit", desc := "(I)Z" } : Jvm.MethodName) ∈ lw_tbl := in_3 (List.mem_of_getElem? (i := 110) rfl)
theorem wd_680 : Jvm.Cond.code ({ cls := "FarFromAnybody$Reader", name := "isDigit", desc := "(I)Z" } : Jvm.MethodName) prog_7_method_5_code (1 : Nat) (Option.some Jvm.ClassFile.FieldType.boolean) ∈ lw_tbl := in_3 (List.mem_of_getElem? (i := 111) rfl)
theorem wd_681 : Jvm.Cond.methodLink "FarFromAnybody$Reader" (99 : Nat) ({ cls := "FarFromAnybody$Reader", name := "addNumber", desc := "([BII)V" } : Jvm.MethodName) ∈ lw_tbl := in_3 (List.mem_of_getElem? (i := 112) rfl)
theorem wd_683 : Jvm.Cond.instanceMethod ({ cls := "FarFromAnybody$Reader", name := "addNumber", desc := "([BII)V" } : Jvm.MethodName) ∈ lw_tbl := in_3 (List.mem_of_getElem? (i := 114) rfl)
theorem wd_684 : Jvm.Cond.code ({ cls := "FarFromAnybody$Reader", name := "addNumber", desc := "([BII)V" } : Jvm.MethodName) prog_7_method_7_code (6 : Nat) (Option.none : Option Jvm.ClassFile.FieldType) ∈ lw_tbl := in_3 (List.mem_of_getElem? (i := 115) rfl)
theorem wd_685 : Jvm.Cond.methodLink "FarFromAnybody$Reader" (54 : Nat) ({ cls := "FarFromAnybody$Reader", name := "refuse", desc := "(I)Z" } : Jvm.MethodName) ∈ lw_tbl := in_3 (List.mem_of_getElem? (i := 116) rfl)
theorem wd_687 : Jvm.Cond.instanceMethod ({ cls := "FarFromAnybody$Reader", name := "refuse", desc := "(I)Z" } : Jvm.MethodName) ∈ lw_tbl := in_3 (List.mem_of_getElem? (i := 118) rfl)
theorem wd_688 : Jvm.Cond.code ({ cls := "FarFromAnybody$Reader", name := "refuse", desc := "(I)Z" } : Jvm.MethodName) prog_7_method_11_code (2 : Nat) (Option.some Jvm.ClassFile.FieldType.boolean) ∈ lw_tbl := in_3 (List.mem_of_getElem? (i := 119) rfl)
theorem wd_689 : Jvm.Cond.methodLink "FarFromAnybody$Reader" (58 : Nat) ({ cls := "FarFromAnybody$Reader", name := "readSign", desc := "(I)Z" } : Jvm.MethodName) ∈ lw_tbl := in_3 (List.mem_of_getElem? (i := 120) rfl)
theorem wd_691 : Jvm.Cond.instanceMethod ({ cls := "FarFromAnybody$Reader", name := "readSign", desc := "(I)Z" } : Jvm.MethodName) ∈ lw_tbl := in_3 (List.mem_of_getElem? (i := 122) rfl)
theorem wd_692 : Jvm.Cond.code ({ cls := "FarFromAnybody$Reader", name := "readSign", desc := "(I)Z" } : Jvm.MethodName) prog_7_method_14_code (2 : Nat) (Option.some Jvm.ClassFile.FieldType.boolean) ∈ lw_tbl := in_3 (List.mem_of_getElem? (i := 123) rfl)
theorem wd_693 : Jvm.Cond.methodLink "FarFromAnybody$Reader" (71 : Nat) ({ cls := "FarFromAnybody$Reader", name := "goOn", desc := "()V" } : Jvm.MethodName) ∈ lw_tbl := in_3 (List.mem_of_getElem? (i := 124) rfl)
theorem wd_695 : Jvm.Cond.instanceMethod ({ cls := "FarFromAnybody$Reader", name := "goOn", desc := "()V" } : Jvm.MethodName) ∈ lw_tbl := in_3 (List.mem_of_getElem? (i := 126) rfl)
theorem wd_696 : Jvm.Cond.code ({ cls := "FarFromAnybody$Reader", name := "goOn", desc := "()V" } : Jvm.MethodName) prog_7_method_12_code (1 : Nat) (Option.none : Option Jvm.ClassFile.FieldType) ∈ lw_tbl := in_3 (List.mem_of_getElem? (i := 127) rfl)
theorem wd_697 : Jvm.Cond.methodLink "FarFromAnybody$Reader" (61 : Nat) ({ cls := "FarFromAnybody$Reader", name := "readAmount", desc := "()Z" } : Jvm.MethodName) ∈ lw_tbl := in_3 (List.mem_of_getElem? (i := 128) rfl)
theorem wd_699 : Jvm.Cond.instanceMethod ({ cls := "FarFromAnybody$Reader", name := "readAmount", desc := "()Z" } : Jvm.MethodName) ∈ lw_tbl := in_3 (List.mem_of_getElem? (i := 130) rfl)
theorem wd_700 : Jvm.Cond.code ({ cls := "FarFromAnybody$Reader", name := "readAmount", desc := "()Z" } : Jvm.MethodName) prog_7_method_18_code (4 : Nat) (Option.some Jvm.ClassFile.FieldType.boolean) ∈ lw_tbl := in_3 (List.mem_of_getElem? (i := 131) rfl)
theorem wd_701 : Jvm.Cond.methodLink "FarFromAnybody$Reader" (156 : Nat) ({ cls := "FarFromAnybody$Reader", name := "readUnit", desc := "(I)Z" } : Jvm.MethodName) ∈ lw_tbl := in_3 (List.mem_of_getElem? (i := 132) rfl)
theorem wd_703 : Jvm.Cond.instanceMethod ({ cls := "FarFromAnybody$Reader", name := "readUnit", desc := "(I)Z" } : Jvm.MethodName) ∈ lw_tbl := in_3 (List.mem_of_getElem? (i := 134) rfl)
theorem wd_704 : Jvm.Cond.code ({ cls := "FarFromAnybody$Reader", name := "readUnit", desc := "(I)Z" } : Jvm.MethodName) prog_7_method_19_code (2 : Nat) (Option.some Jvm.ClassFile.FieldType.boolean) ∈ lw_tbl := in_3 (List.mem_of_getElem? (i := 135) rfl)
theorem wd_705 : Jvm.Cond.methodLink "FarFromAnybody$Reader" (67 : Nat) ({ cls := "FarFromAnybody$Reader", name := "addStep", desc := "(II)V" } : Jvm.MethodName) ∈ lw_tbl := in_3 (List.mem_of_getElem? (i := 136) rfl)
theorem wd_707 : Jvm.Cond.instanceMethod ({ cls := "FarFromAnybody$Reader", name := "addStep", desc := "(II)V" } : Jvm.MethodName) ∈ lw_tbl := in_3 (List.mem_of_getElem? (i := 138) rfl)
theorem wd_708 : Jvm.Cond.code ({ cls := "FarFromAnybody$Reader", name := "addStep", desc := "(II)V" } : Jvm.MethodName) prog_7_method_13_code (3 : Nat) (Option.none : Option Jvm.ClassFile.FieldType) ∈ lw_tbl := in_3 (List.mem_of_getElem? (i := 139) rfl)
theorem wd_709 : Jvm.Cond.methodLink "FarFromAnybody$Reader" (159 : Nat) ({ cls := "FarFromAnybody$Reader", name := "readPart", desc := "()Z" } : Jvm.MethodName) ∈ lw_tbl := in_3 (List.mem_of_getElem? (i := 140) rfl)
theorem wd_711 : Jvm.Cond.instanceMethod ({ cls := "FarFromAnybody$Reader", name := "readPart", desc := "()Z" } : Jvm.MethodName) ∈ lw_tbl := in_3 (List.mem_of_getElem? (i := 142) rfl)
theorem wd_712 : Jvm.Cond.code ({ cls := "FarFromAnybody$Reader", name := "readPart", desc := "()Z" } : Jvm.MethodName) prog_7_method_20_code (1 : Nat) (Option.some Jvm.ClassFile.FieldType.boolean) ∈ lw_tbl := in_3 (List.mem_of_getElem? (i := 143) rfl)
theorem wd_713 : Jvm.Cond.methodLink "FarFromAnybody$Reader" (74 : Nat) ({ cls := "FarFromAnybody$Reader", name := "readEither", desc := "(I)Z" } : Jvm.MethodName) ∈ lw_tbl := in_3 (List.mem_of_getElem? (i := 144) rfl)
theorem wd_715 : Jvm.Cond.instanceMethod ({ cls := "FarFromAnybody$Reader", name := "readEither", desc := "(I)Z" } : Jvm.MethodName) ∈ lw_tbl := in_3 (List.mem_of_getElem? (i := 146) rfl)
theorem wd_716 : Jvm.Cond.code ({ cls := "FarFromAnybody$Reader", name := "readEither", desc := "(I)Z" } : Jvm.MethodName) prog_7_method_15_code (3 : Nat) (Option.some Jvm.ClassFile.FieldType.boolean) ∈ lw_tbl := in_3 (List.mem_of_getElem? (i := 147) rfl)
theorem wd_717 : Jvm.Cond.methodLink "FarFromAnybody$Reader" (150 : Nat) ({ cls := "FarFromAnybody$Reader", name := "readBoth", desc := "(I)Z" } : Jvm.MethodName) ∈ lw_tbl := in_3 (List.mem_of_getElem? (i := 148) rfl)
theorem wd_719 : Jvm.Cond.instanceMethod ({ cls := "FarFromAnybody$Reader", name := "readBoth", desc := "(I)Z" } : Jvm.MethodName) ∈ lw_tbl := in_3 (List.mem_of_getElem? (i := 150) rfl)
theorem wd_720 : Jvm.Cond.code ({ cls := "FarFromAnybody$Reader", name := "readBoth", desc := "(I)Z" } : Jvm.MethodName) prog_7_method_16_code (3 : Nat) (Option.some Jvm.ClassFile.FieldType.boolean) ∈ lw_tbl := in_3 (List.mem_of_getElem? (i := 151) rfl)
theorem wd_721 : Jvm.Cond.methodLink "FarFromAnybody$Reader" (153 : Nat) ({ cls := "FarFromAnybody$Reader", name := "readClaim", desc := "(I)Z" } : Jvm.MethodName) ∈ lw_tbl := in_3 (List.mem_of_getElem? (i := 152) rfl)
theorem wd_723 : Jvm.Cond.instanceMethod ({ cls := "FarFromAnybody$Reader", name := "readClaim", desc := "(I)Z" } : Jvm.MethodName) ∈ lw_tbl := in_3 (List.mem_of_getElem? (i := 154) rfl)
theorem wd_724 : Jvm.Cond.code ({ cls := "FarFromAnybody$Reader", name := "readClaim", desc := "(I)Z" } : Jvm.MethodName) prog_7_method_17_code (5 : Nat) (Option.some Jvm.ClassFile.FieldType.boolean) ∈ lw_tbl := in_3 (List.mem_of_getElem? (i := 155) rfl)
theorem wd_725 : Jvm.Cond.classLink "FarFromAnybody$Reader" (65 : Nat) "FarFromAnybody$Law" ∈ lw_tbl := in_3 (List.mem_of_getElem? (i := 156) rfl)
theorem wd_726 : Jvm.Cond.methodLink "FarFromAnybody$Reader" (77 : Nat) ({ cls := "java/util/Arrays", name := "copyOf", desc := "([II)[I" } : Jvm.MethodName) ∈ lw_tbl := in_3 (List.mem_of_getElem? (i := 157) rfl)
theorem wd_727 : Jvm.Cond.static ({ cls := "java/util/Arrays", name := "copyOf", desc := "([II)[I" } : Jvm.MethodName) ∈ lw_tbl := in_3 (List.mem_of_getElem? (i := 158) rfl)
theorem wd_728 : Jvm.Cond.code ({ cls := "java/util/Arrays", name := "copyOf", desc := "([II)[I" } : Jvm.MethodName) prog_18_method_123_code (3 : Nat) (Option.some (Jvm.ClassFile.FieldType.array Jvm.ClassFile.FieldType.int)) ∈ lw_tbl := in_3 (List.mem_of_getElem? (i := 159) rfl)
theorem wd_736 : Jvm.Cond.methodLink "java/util/Arrays" (304 : Nat) ({ cls := "java/lang/Math", name := "min", desc := "(II)I" } : Jvm.MethodName) ∈ lw_tbl := in_3 (List.mem_of_getElem? (i := 167) rfl)
theorem wd_737 : Jvm.Cond.methodLink "java/util/Arrays" (150 : Nat) ({ cls := "java/lang/System", name := "arraycopy", desc := "(Ljava/lang/Object;ILjava/lang/Object;II)V" } : Jvm.MethodName) ∈ lw_tbl := in_3 (List.mem_of_getElem? (i := 168) rfl)
theorem wd_738 : Jvm.Cond.static ({ cls := "java/lang/System", name := "arraycopy", desc := "(Ljava/lang/Object;ILjava/lang/Object;II)V" } : Jvm.MethodName) ∈ lw_tbl := in_3 (List.mem_of_getElem? (i := 169) rfl)
theorem wd_739 : Jvm.Cond.native ({ cls := "java/lang/System", name := "arraycopy", desc := "(Ljava/lang/Object;ILjava/lang/Object;II)V" } : Jvm.MethodName) ∈ lw_tbl := in_3 (List.mem_of_getElem? (i := 170) rfl)
theorem wd_740 : Jvm.Cond.methodLink "FarFromAnybody$Reader" (83 : Nat) ({ cls := "FarFromAnybody$Law", name := "<init>", desc := "([IIZ)V" } : Jvm.MethodName) ∈ lw_tbl := in_3 (List.mem_of_getElem? (i := 171) rfl)
theorem wd_744 : Jvm.Cond.code ({ cls := "FarFromAnybody", name := "fault", desc := "(I)I" } : Jvm.MethodName) prog_1_method_12_code (2 : Nat) (Option.some Jvm.ClassFile.FieldType.int) ∈ lw_tbl := in_3 (List.mem_of_getElem? (i := 175) rfl)
theorem wd_748 : Jvm.Cond.code ({ cls := "FarFromAnybody", name := "evenings", desc := "(I)I" } : Jvm.MethodName) prog_1_method_13_code (6 : Nat) (Option.some Jvm.ClassFile.FieldType.int) ∈ lw_tbl := in_3 (List.mem_of_getElem? (i := 179) rfl)
theorem wd_749 : Jvm.Cond.methodLink "FarFromAnybody" (164 : Nat) ({ cls := "FarFromAnybody$Days", name := "sameEvening", desc := "()V" } : Jvm.MethodName) ∈ lw_tbl := in_3 (List.mem_of_getElem? (i := 180) rfl)
theorem wd_750 : Jvm.Cond.instanceMethod ({ cls := "FarFromAnybody$Days", name := "sameEvening", desc := "()V" } : Jvm.MethodName) ∈ lw_tbl := in_3 (List.mem_of_getElem? (i := 181) rfl)
theorem wd_751 : Jvm.Cond.selects "FarFromAnybody$Days" ({ cls := "FarFromAnybody$Days", name := "sameEvening", desc := "()V" } : Jvm.MethodName) ({ cls := "FarFromAnybody$Days", name := "sameEvening", desc := "()V" } : Jvm.MethodName) ∈ lw_tbl := in_3 (List.mem_of_getElem? (i := 182) rfl)
theorem wd_752 : Jvm.Cond.code ({ cls := "FarFromAnybody$Days", name := "sameEvening", desc := "()V" } : Jvm.MethodName) prog_3_method_7_code (2 : Nat) (Option.none : Option Jvm.ClassFile.FieldType) ∈ lw_tbl := in_3 (List.mem_of_getElem? (i := 183) rfl)
theorem wd_753 : Jvm.Cond.methodLink "FarFromAnybody" (167 : Nat) ({ cls := "FarFromAnybody$Days", name := "newEvening", desc := "()I" } : Jvm.MethodName) ∈ lw_tbl := in_3 (List.mem_of_getElem? (i := 184) rfl)
theorem wd_754 : Jvm.Cond.instanceMethod ({ cls := "FarFromAnybody$Days", name := "newEvening", desc := "()I" } : Jvm.MethodName) ∈ lw_tbl := in_3 (List.mem_of_getElem? (i := 185) rfl)
theorem wd_755 : Jvm.Cond.selects "FarFromAnybody$Days" ({ cls := "FarFromAnybody$Days", name := "newEvening", desc := "()I" } : Jvm.MethodName) ({ cls := "FarFromAnybody$Days", name := "newEvening", desc := "()I" } : Jvm.MethodName) ∈ lw_tbl := in_3 (List.mem_of_getElem? (i := 186) rfl)
theorem wd_756 : Jvm.Cond.code ({ cls := "FarFromAnybody$Days", name := "newEvening", desc := "()I" } : Jvm.MethodName) prog_3_method_5_code (4 : Nat) (Option.some Jvm.ClassFile.FieldType.int) ∈ lw_tbl := in_3 (List.mem_of_getElem? (i := 187) rfl)
theorem wd_757 : Jvm.Cond.methodLink "FarFromAnybody$Days" (85 : Nat) ({ cls := "FarFromAnybody$Days", name := "noon", desc := "(Z)I" } : Jvm.MethodName) ∈ lw_tbl := in_3 (List.mem_of_getElem? (i := 188) rfl)
theorem wd_758 : Jvm.Cond.instanceMethod ({ cls := "FarFromAnybody$Days", name := "noon", desc := "(Z)I" } : Jvm.MethodName) ∈ lw_tbl := in_3 (List.mem_of_getElem? (i := 189) rfl)
theorem wd_759 : Jvm.Cond.selects "FarFromAnybody$Days" ({ cls := "FarFromAnybody$Days", name := "noon", desc := "(Z)I" } : Jvm.MethodName) ({ cls := "FarFromAnybody$Days", name := "noon", desc := "(Z)I" } : Jvm.MethodName) ∈ lw_tbl := in_3 (List.mem_of_getElem? (i := 190) rfl)
theorem wd_760 : Jvm.Cond.code ({ cls := "FarFromAnybody$Days", name := "noon", desc := "(Z)I" } : Jvm.MethodName) prog_3_method_2_code (5 : Nat) (Option.some Jvm.ClassFile.FieldType.int) ∈ lw_tbl := in_3 (List.mem_of_getElem? (i := 191) rfl)
theorem wd_761 : Jvm.Cond.methodLink "FarFromAnybody$Days" (40 : Nat) ({ cls := "FarFromAnybody$Days", name := "wishOf", desc := "(IZ)I" } : Jvm.MethodName) ∈ lw_tbl := in_3 (List.mem_of_getElem? (i := 192) rfl)
theorem wd_763 : Jvm.Cond.instanceMethod ({ cls := "FarFromAnybody$Days", name := "wishOf", desc := "(IZ)I" } : Jvm.MethodName) ∈ lw_tbl := in_3 (List.mem_of_getElem? (i := 194) rfl)
theorem wd_764 : Jvm.Cond.code ({ cls := "FarFromAnybody$Days", name := "wishOf", desc := "(IZ)I" } : Jvm.MethodName) prog_3_method_3_code (6 : Nat) (Option.some Jvm.ClassFile.FieldType.int) ∈ lw_tbl := in_3 (List.mem_of_getElem? (i := 195) rfl)
theorem wd_765 : Jvm.Cond.methodLink "FarFromAnybody$Days" (57 : Nat) ({ cls := "FarFromAnybody$Days", name := "whimOf", desc := "(I)I" } : Jvm.MethodName) ∈ lw_tbl := in_3 (List.mem_of_getElem? (i := 196) rfl)
theorem wd_767 : Jvm.Cond.instanceMethod ({ cls := "FarFromAnybody$Days", name := "whimOf", desc := "(I)I" } : Jvm.MethodName) ∈ lw_tbl := in_3 (List.mem_of_getElem? (i := 198) rfl)
theorem wd_768 : Jvm.Cond.code ({ cls := "FarFromAnybody$Days", name := "whimOf", desc := "(I)I" } : Jvm.MethodName) prog_3_method_4_code (6 : Nat) (Option.some Jvm.ClassFile.FieldType.int) ∈ lw_tbl := in_3 (List.mem_of_getElem? (i := 199) rfl)
theorem wd_769 : Jvm.Cond.methodLink "FarFromAnybody$Days" (79 : Nat) ({ cls := "FarFromAnybody$Camp", name := "draw", desc := "(I)I" } : Jvm.MethodName) ∈ lw_tbl := in_3 (List.mem_of_getElem? (i := 200) rfl)
theorem wd_770 : Jvm.Cond.instanceMethod ({ cls := "FarFromAnybody$Camp", name := "draw", desc := "(I)I" } : Jvm.MethodName) ∈ lw_tbl := in_3 (List.mem_of_getElem? (i := 201) rfl)
theorem wd_771 : Jvm.Cond.selects "FarFromAnybody$Camp" ({ cls := "FarFromAnybody$Camp", name := "draw", desc := "(I)I" } : Jvm.MethodName) ({ cls := "FarFromAnybody$Camp", name := "draw", desc := "(I)I" } : Jvm.MethodName) ∈ lw_tbl := in_3 (List.mem_of_getElem? (i := 202) rfl)
theorem wd_772 : Jvm.Cond.code ({ cls := "FarFromAnybody$Camp", name := "draw", desc := "(I)I" } : Jvm.MethodName) prog_2_method_19_code (2 : Nat) (Option.some Jvm.ClassFile.FieldType.int) ∈ lw_tbl := in_3 (List.mem_of_getElem? (i := 203) rfl)
theorem wd_773 : Jvm.Cond.constant "FarFromAnybody$Camp" (103 : Nat) (1664525 : Int32) ∈ lw_tbl := in_3 (List.mem_of_getElem? (i := 204) rfl)
theorem wd_774 : Jvm.Cond.constant "FarFromAnybody$Camp" (104 : Nat) (1013904223 : Int32) ∈ lw_tbl := in_3 (List.mem_of_getElem? (i := 205) rfl)
theorem wd_775 : Jvm.Cond.methodLink "FarFromAnybody$Days" (47 : Nat) ({ cls := "FarFromAnybody$Camp", name := "couldStand", desc := "(III)Z" } : Jvm.MethodName) ∈ lw_tbl := in_3 (List.mem_of_getElem? (i := 206) rfl)
theorem wd_776 : Jvm.Cond.methodLink "FarFromAnybody$Days" (61 : Nat) ({ cls := "FarFromAnybody$King", name := "findBest", desc := "(II)I" } : Jvm.MethodName) ∈ lw_tbl := in_3 (List.mem_of_getElem? (i := 207) rfl)
theorem wd_777 : Jvm.Cond.instanceMethod ({ cls := "FarFromAnybody$King", name := "findBest", desc := "(II)I" } : Jvm.MethodName) ∈ lw_tbl := in_3 (List.mem_of_getElem? (i := 208) rfl)
theorem wd_778 : Jvm.Cond.selects "FarFromAnybody$King" ({ cls := "FarFromAnybody$King", name := "findBest", desc := "(II)I" } : Jvm.MethodName) ({ cls := "FarFromAnybody$King", name := "findBest", desc := "(II)I" } : Jvm.MethodName) ∈ lw_tbl := in_3 (List.mem_of_getElem? (i := 209) rfl)
theorem wd_779 : Jvm.Cond.code ({ cls := "FarFromAnybody$King", name := "findBest", desc := "(II)I" } : Jvm.MethodName) prog_4_method_7_code (13 : Nat) (Option.some Jvm.ClassFile.FieldType.int) ∈ lw_tbl := in_3 (List.mem_of_getElem? (i := 210) rfl)
theorem wd_780 : Jvm.Cond.methodLink "FarFromAnybody$King" (73 : Nat) ({ cls := "java/lang/Math", name := "min", desc := "(II)I" } : Jvm.MethodName) ∈ lw_tbl := in_3 (List.mem_of_getElem? (i := 211) rfl)
theorem wd_781 : Jvm.Cond.methodLink "FarFromAnybody$King" (25 : Nat) ({ cls := "FarFromAnybody$King", name := "measureKin", desc := "(I)V" } : Jvm.MethodName) ∈ lw_tbl := in_3 (List.mem_of_getElem? (i := 212) rfl)
theorem wd_783 : Jvm.Cond.instanceMethod ({ cls := "FarFromAnybody$King", name := "measureKin", desc := "(I)V" } : Jvm.MethodName) ∈ lw_tbl := in_3 (List.mem_of_getElem? (i := 214) rfl)
theorem wd_784 : Jvm.Cond.code ({ cls := "FarFromAnybody$King", name := "measureKin", desc := "(I)V" } : Jvm.MethodName) prog_4_method_8_code (3 : Nat) (Option.none : Option Jvm.ClassFile.FieldType) ∈ lw_tbl := in_3 (List.mem_of_getElem? (i := 215) rfl)
theorem wd_785 : Jvm.Cond.methodLink "FarFromAnybody$King" (88 : Nat) ({ cls := "FarFromAnybody$Camp", name := "areKin", desc := "(II)Z" } : Jvm.MethodName) ∈ lw_tbl := in_3 (List.mem_of_getElem? (i := 216) rfl)
theorem wd_786 : Jvm.Cond.instanceMethod ({ cls := "FarFromAnybody$Camp", name := "areKin", desc := "(II)Z" } : Jvm.MethodName) ∈ lw_tbl := in_3 (List.mem_of_getElem? (i := 217) rfl)
theorem wd_787 : Jvm.Cond.selects "FarFromAnybody$Camp" ({ cls := "FarFromAnybody$Camp", name := "areKin", desc := "(II)Z" } : Jvm.MethodName) ({ cls := "FarFromAnybody$Camp", name := "areKin", desc := "(II)Z" } : Jvm.MethodName) ∈ lw_tbl := in_3 (List.mem_of_getElem? (i := 218) rfl)
theorem wd_788 : Jvm.Cond.code ({ cls := "FarFromAnybody$Camp", name := "areKin", desc := "(II)Z" } : Jvm.MethodName) prog_2_method_17_code (3 : Nat) (Option.some Jvm.ClassFile.FieldType.boolean) ∈ lw_tbl := in_3 (List.mem_of_getElem? (i := 219) rfl)
theorem wd_789 : Jvm.Cond.methodLink "FarFromAnybody$King" (34 : Nat) ({ cls := "FarFromAnybody$King", name := "measureAt", desc := "(II)V" } : Jvm.MethodName) ∈ lw_tbl := in_3 (List.mem_of_getElem? (i := 220) rfl)
theorem wd_791 : Jvm.Cond.instanceMethod ({ cls := "FarFromAnybody$King", name := "measureAt", desc := "(II)V" } : Jvm.MethodName) ∈ lw_tbl := in_3 (List.mem_of_getElem? (i := 222) rfl)
theorem wd_792 : Jvm.Cond.code ({ cls := "FarFromAnybody$King", name := "measureAt", desc := "(II)V" } : Jvm.MethodName) prog_4_method_9_code (8 : Nat) (Option.none : Option Jvm.ClassFile.FieldType) ∈ lw_tbl := in_3 (List.mem_of_getElem? (i := 223) rfl)
theorem wd_793 : Jvm.Cond.methodLink "FarFromAnybody$King" (105 : Nat) ({ cls := "FarFromAnybody$Ways", name := "from", desc := "(I)[B" } : Jvm.MethodName) ∈ lw_tbl := in_3 (List.mem_of_getElem? (i := 224) rfl)
theorem wd_794 : Jvm.Cond.instanceMethod ({ cls := "FarFromAnybody$Ways", name := "from", desc := "(I)[B" } : Jvm.MethodName) ∈ lw_tbl := in_3 (List.mem_of_getElem? (i := 225) rfl)
theorem wd_795 : Jvm.Cond.selects "FarFromAnybody$Ways" ({ cls := "FarFromAnybody$Ways", name := "from", desc := "(I)[B" } : Jvm.MethodName) ({ cls := "FarFromAnybody$Ways", name := "from", desc := "(I)[B" } : Jvm.MethodName) ∈ lw_tbl := in_3 (List.mem_of_getElem? (i := 226) rfl)
theorem wd_796 : Jvm.Cond.code ({ cls := "FarFromAnybody$Ways", name := "from", desc := "(I)[B" } : Jvm.MethodName) prog_9_method_3_code (12 : Nat) (Option.some (Jvm.ClassFile.FieldType.array Jvm.ClassFile.FieldType.byte)) ∈ lw_tbl := in_3 (List.mem_of_getElem? (i := 227) rfl)
theorem wd_797 : Jvm.Cond.methodLink "FarFromAnybody$Ways" (36 : Nat) ({ cls := "java/util/Arrays", name := "fill", desc := "([BB)V" } : Jvm.MethodName) ∈ lw_tbl := in_3 (List.mem_of_getElem? (i := 228) rfl)
theorem wd_798 : Jvm.Cond.static ({ cls := "java/util/Arrays", name := "fill", desc := "([BB)V" } : Jvm.MethodName) ∈ lw_tbl := in_3 (List.mem_of_getElem? (i := 229) rfl)
theorem wd_799 : Jvm.Cond.code ({ cls := "java/util/Arrays", name := "fill", desc := "([BB)V" } : Jvm.MethodName) prog_18_method_109_code (4 : Nat) (Option.none : Option Jvm.ClassFile.FieldType) ∈ lw_tbl := in_3 (List.mem_of_getElem? (i := 230) rfl)
theorem wd_800 : Jvm.Cond.fieldLink "FarFromAnybody$Ways" (42 : Nat) "FarFromAnybody$Ways" "BESIDE_X" "[I" ∈ lw_tbl := in_3 (List.mem_of_getElem? (i := 231) rfl)
theorem wd_802 : Jvm.Cond.fieldLink "FarFromAnybody$Ways" (45 : Nat) "FarFromAnybody$Ways" "BESIDE_Y" "[I" ∈ lw_tbl := in_3 (List.mem_of_getElem? (i := 233) rfl)
theorem wd_804 : Jvm.Cond.methodLink "FarFromAnybody$King" (111 : Nat) ({ cls := "FarFromAnybody$Camp", name := "bodies", desc := "()I" } : Jvm.MethodName) ∈ lw_tbl := in_3 (List.mem_of_getElem? (i := 235) rfl)
theorem wd_805 : Jvm.Cond.instanceMethod ({ cls := "FarFromAnybody$Camp", name := "bodies", desc := "()I" } : Jvm.MethodName) ∈ lw_tbl := in_3 (List.mem_of_getElem? (i := 236) rfl)
theorem wd_806 : Jvm.Cond.selects "FarFromAnybody$Camp" ({ cls := "FarFromAnybody$Camp", name := "bodies", desc := "()I" } : Jvm.MethodName) ({ cls := "FarFromAnybody$Camp", name := "bodies", desc := "()I" } : Jvm.MethodName) ∈ lw_tbl := in_3 (List.mem_of_getElem? (i := 237) rfl)
theorem wd_807 : Jvm.Cond.code ({ cls := "FarFromAnybody$Camp", name := "bodies", desc := "()I" } : Jvm.MethodName) prog_2_method_15_code (1 : Nat) (Option.some Jvm.ClassFile.FieldType.int) ∈ lw_tbl := in_3 (List.mem_of_getElem? (i := 238) rfl)
theorem wd_808 : Jvm.Cond.methodLink "FarFromAnybody$King" (115 : Nat) ({ cls := "FarFromAnybody$Camp", name := "yardOfBody", desc := "(I)I" } : Jvm.MethodName) ∈ lw_tbl := in_3 (List.mem_of_getElem? (i := 239) rfl)
theorem wd_809 : Jvm.Cond.instanceMethod ({ cls := "FarFromAnybody$Camp", name := "yardOfBody", desc := "(I)I" } : Jvm.MethodName) ∈ lw_tbl := in_4 (List.mem_of_getElem? (i := 0) rfl)
theorem wd_810 : Jvm.Cond.selects "FarFromAnybody$Camp" ({ cls := "FarFromAnybody$Camp", name := "yardOfBody", desc := "(I)I" } : Jvm.MethodName) ({ cls := "FarFromAnybody$Camp", name := "yardOfBody", desc := "(I)I" } : Jvm.MethodName) ∈ lw_tbl := in_4 (List.mem_of_getElem? (i := 1) rfl)
theorem wd_811 : Jvm.Cond.code ({ cls := "FarFromAnybody$Camp", name := "yardOfBody", desc := "(I)I" } : Jvm.MethodName) prog_2_method_16_code (2 : Nat) (Option.some Jvm.ClassFile.FieldType.int) ∈ lw_tbl := in_4 (List.mem_of_getElem? (i := 2) rfl)
theorem wd_812 : Jvm.Cond.methodLink "FarFromAnybody$King" (79 : Nat) ({ cls := "java/lang/Math", name := "max", desc := "(II)I" } : Jvm.MethodName) ∈ lw_tbl := in_4 (List.mem_of_getElem? (i := 3) rfl)
theorem wd_813 : Jvm.Cond.static ({ cls := "java/lang/Math", name := "max", desc := "(II)I" } : Jvm.MethodName) ∈ lw_tbl := in_4 (List.mem_of_getElem? (i := 4) rfl)
theorem wd_814 : Jvm.Cond.code ({ cls := "java/lang/Math", name := "max", desc := "(II)I" } : Jvm.MethodName) prog_13_method_65_code (2 : Nat) (Option.some Jvm.ClassFile.FieldType.int) ∈ lw_tbl := in_4 (List.mem_of_getElem? (i := 5) rfl)
theorem wd_815 : Jvm.Cond.methodLink "FarFromAnybody$King" (98 : Nat) ({ cls := "FarFromAnybody$Camp", name := "couldStand", desc := "(III)Z" } : Jvm.MethodName) ∈ lw_tbl := in_4 (List.mem_of_getElem? (i := 6) rfl)
theorem wd_816 : Jvm.Cond.methodLink "FarFromAnybody$King" (48 : Nat) ({ cls := "FarFromAnybody$King", name := "payFor", desc := "(IIII)I" } : Jvm.MethodName) ∈ lw_tbl := in_4 (List.mem_of_getElem? (i := 7) rfl)
theorem wd_817 : Jvm.Cond.instanceMethod ({ cls := "FarFromAnybody$King", name := "payFor", desc := "(IIII)I" } : Jvm.MethodName) ∈ lw_tbl := in_4 (List.mem_of_getElem? (i := 8) rfl)
theorem wd_818 : Jvm.Cond.selects "FarFromAnybody$King" ({ cls := "FarFromAnybody$King", name := "payFor", desc := "(IIII)I" } : Jvm.MethodName) ({ cls := "FarFromAnybody$King", name := "payFor", desc := "(IIII)I" } : Jvm.MethodName) ∈ lw_tbl := in_4 (List.mem_of_getElem? (i := 9) rfl)
theorem wd_819 : Jvm.Cond.code ({ cls := "FarFromAnybody$King", name := "payFor", desc := "(IIII)I" } : Jvm.MethodName) prog_4_method_4_code (9 : Nat) (Option.some Jvm.ClassFile.FieldType.int) ∈ lw_tbl := in_4 (List.mem_of_getElem? (i := 10) rfl)
theorem wd_820 : Jvm.Cond.methodLink "FarFromAnybody$King" (58 : Nat) ({ cls := "FarFromAnybody$Camp", name := "waterBeside", desc := "(I)I" } : Jvm.MethodName) ∈ lw_tbl := in_4 (List.mem_of_getElem? (i := 11) rfl)
theorem wd_821 : Jvm.Cond.instanceMethod ({ cls := "FarFromAnybody$Camp", name := "waterBeside", desc := "(I)I" } : Jvm.MethodName) ∈ lw_tbl := in_4 (List.mem_of_getElem? (i := 12) rfl)
theorem wd_822 : Jvm.Cond.selects "FarFromAnybody$Camp" ({ cls := "FarFromAnybody$Camp", name := "waterBeside", desc := "(I)I" } : Jvm.MethodName) ({ cls := "FarFromAnybody$Camp", name := "waterBeside", desc := "(I)I" } : Jvm.MethodName) ∈ lw_tbl := in_4 (List.mem_of_getElem? (i := 13) rfl)
theorem wd_823 : Jvm.Cond.code ({ cls := "FarFromAnybody$Camp", name := "waterBeside", desc := "(I)I" } : Jvm.MethodName) prog_2_method_18_code (5 : Nat) (Option.some Jvm.ClassFile.FieldType.int) ∈ lw_tbl := in_4 (List.mem_of_getElem? (i := 14) rfl)
theorem wd_824 : Jvm.Cond.methodLink "FarFromAnybody$King" (69 : Nat) ({ cls := "FarFromAnybody$Law", name := "amount", desc := "([I)I" } : Jvm.MethodName) ∈ lw_tbl := in_4 (List.mem_of_getElem? (i := 15) rfl)
theorem wd_825 : Jvm.Cond.instanceMethod ({ cls := "FarFromAnybody$Law", name := "amount", desc := "([I)I" } : Jvm.MethodName) ∈ lw_tbl := in_4 (List.mem_of_getElem? (i := 16) rfl)
theorem wd_826 : Jvm.Cond.selects "FarFromAnybody$Law" ({ cls := "FarFromAnybody$Law", name := "amount", desc := "([I)I" } : Jvm.MethodName) ({ cls := "FarFromAnybody$Law", name := "amount", desc := "([I)I" } : Jvm.MethodName) ∈ lw_tbl := in_4 (List.mem_of_getElem? (i := 17) rfl)
theorem wd_827 : Jvm.Cond.code ({ cls := "FarFromAnybody$Law", name := "amount", desc := "([I)I" } : Jvm.MethodName) prog_5_method_2_code (11 : Nat) (Option.some Jvm.ClassFile.FieldType.int) ∈ lw_tbl := in_4 (List.mem_of_getElem? (i := 18) rfl)
theorem wd_828 : Jvm.Cond.constant "FarFromAnybody$Law" (23 : Nat) (65535 : Int32) ∈ lw_tbl := in_4 (List.mem_of_getElem? (i := 19) rfl)
theorem wd_829 : Jvm.Cond.methodLink "FarFromAnybody$Law" (24 : Nat) ({ cls := "FarFromAnybody$Law", name := "judged", desc := "(JIII)J" } : Jvm.MethodName) ∈ lw_tbl := in_4 (List.mem_of_getElem? (i := 20) rfl)
theorem wd_830 : Jvm.Cond.static ({ cls := "FarFromAnybody$Law", name := "judged", desc := "(JIII)J" } : Jvm.MethodName) ∈ lw_tbl := in_4 (List.mem_of_getElem? (i := 21) rfl)
theorem wd_831 : Jvm.Cond.code ({ cls := "FarFromAnybody$Law", name := "judged", desc := "(JIII)J" } : Jvm.MethodName) prog_5_method_3_code (7 : Nat) (Option.some Jvm.ClassFile.FieldType.long) ∈ lw_tbl := in_4 (List.mem_of_getElem? (i := 22) rfl)
theorem wd_832 : Jvm.Cond.constantLong "FarFromAnybody$Law" (28 : Nat) (-2 : Int64) ∈ lw_tbl := in_4 (List.mem_of_getElem? (i := 23) rfl)
theorem wd_833 : Jvm.Cond.methodLink "FarFromAnybody$Days" (73 : Nat) ({ cls := "FarFromAnybody$King", name := "payOf", desc := "(I)I" } : Jvm.MethodName) ∈ lw_tbl := in_4 (List.mem_of_getElem? (i := 24) rfl)
theorem wd_834 : Jvm.Cond.instanceMethod ({ cls := "FarFromAnybody$King", name := "payOf", desc := "(I)I" } : Jvm.MethodName) ∈ lw_tbl := in_4 (List.mem_of_getElem? (i := 25) rfl)
theorem wd_835 : Jvm.Cond.selects "FarFromAnybody$King" ({ cls := "FarFromAnybody$King", name := "payOf", desc := "(I)I" } : Jvm.MethodName) ({ cls := "FarFromAnybody$King", name := "payOf", desc := "(I)I" } : Jvm.MethodName) ∈ lw_tbl := in_4 (List.mem_of_getElem? (i := 26) rfl)
theorem wd_836 : Jvm.Cond.code ({ cls := "FarFromAnybody$King", name := "payOf", desc := "(I)I" } : Jvm.MethodName) prog_4_method_3_code (2 : Nat) (Option.some Jvm.ClassFile.FieldType.int) ∈ lw_tbl := in_4 (List.mem_of_getElem? (i := 27) rfl)
theorem wd_837 : Jvm.Cond.methodLink "FarFromAnybody" (171 : Nat) ({ cls := "FarFromAnybody$Days", name := "allAlike", desc := "()Z" } : Jvm.MethodName) ∈ lw_tbl := in_4 (List.mem_of_getElem? (i := 28) rfl)
theorem wd_838 : Jvm.Cond.instanceMethod ({ cls := "FarFromAnybody$Days", name := "allAlike", desc := "()Z" } : Jvm.MethodName) ∈ lw_tbl := in_4 (List.mem_of_getElem? (i := 29) rfl)
theorem wd_839 : Jvm.Cond.selects "FarFromAnybody$Days" ({ cls := "FarFromAnybody$Days", name := "allAlike", desc := "()Z" } : Jvm.MethodName) ({ cls := "FarFromAnybody$Days", name := "allAlike", desc := "()Z" } : Jvm.MethodName) ∈ lw_tbl := in_4 (List.mem_of_getElem? (i := 30) rfl)
theorem wd_840 : Jvm.Cond.code ({ cls := "FarFromAnybody$Days", name := "allAlike", desc := "()Z" } : Jvm.MethodName) prog_3_method_6_code (2 : Nat) (Option.some Jvm.ClassFile.FieldType.boolean) ∈ lw_tbl := in_4 (List.mem_of_getElem? (i := 31) rfl)
theorem wd_844 : Jvm.Cond.code ({ cls := "FarFromAnybody", name := "of", desc := "(II)I" } : Jvm.MethodName) prog_1_method_14_code (3 : Nat) (Option.some Jvm.ClassFile.FieldType.int) ∈ lw_tbl := in_4 (List.mem_of_getElem? (i := 35) rfl)
theorem wd_845 : Jvm.Cond.methodLink "FarFromAnybody" (193 : Nat) ({ cls := "FarFromAnybody$King", name := "farOf", desc := "(I)I" } : Jvm.MethodName) ∈ lw_tbl := in_4 (List.mem_of_getElem? (i := 36) rfl)
theorem wd_846 : Jvm.Cond.instanceMethod ({ cls := "FarFromAnybody$King", name := "farOf", desc := "(I)I" } : Jvm.MethodName) ∈ lw_tbl := in_4 (List.mem_of_getElem? (i := 37) rfl)
theorem wd_847 : Jvm.Cond.selects "FarFromAnybody$King" ({ cls := "FarFromAnybody$King", name := "farOf", desc := "(I)I" } : Jvm.MethodName) ({ cls := "FarFromAnybody$King", name := "farOf", desc := "(I)I" } : Jvm.MethodName) ∈ lw_tbl := in_4 (List.mem_of_getElem? (i := 38) rfl)
theorem wd_848 : Jvm.Cond.code ({ cls := "FarFromAnybody$King", name := "farOf", desc := "(I)I" } : Jvm.MethodName) prog_4_method_2_code (2 : Nat) (Option.some Jvm.ClassFile.FieldType.int) ∈ lw_tbl := in_4 (List.mem_of_getElem? (i := 39) rfl)
theorem wd_849 : Jvm.Cond.methodLink "FarFromAnybody" (197 : Nat) ({ cls := "FarFromAnybody$King", name := "payOf", desc := "(I)I" } : Jvm.MethodName) ∈ lw_tbl := in_4 (List.mem_of_getElem? (i := 40) rfl)
theorem wd_850 : Jvm.Cond.methodLink "FarFromAnybody" (200 : Nat) ({ cls := "FarFromAnybody$King", name := "findBest", desc := "(II)I" } : Jvm.MethodName) ∈ lw_tbl := in_4 (List.mem_of_getElem? (i := 41) rfl)
theorem wd_854 : Jvm.Cond.code ({ cls := "FarFromAnybody", name := "way", desc := "(II)I" } : Jvm.MethodName) prog_1_method_15_code (3 : Nat) (Option.some Jvm.ClassFile.FieldType.int) ∈ lw_tbl := in_4 (List.mem_of_getElem? (i := 45) rfl)
theorem wd_855 : Jvm.Cond.methodLink "FarFromAnybody" (207 : Nat) ({ cls := "FarFromAnybody$Camp", name := "canBeGoneOver", desc := "(I)Z" } : Jvm.MethodName) ∈ lw_tbl := in_4 (List.mem_of_getElem? (i := 46) rfl)
theorem wd_856 : Jvm.Cond.instanceMethod ({ cls := "FarFromAnybody$Camp", name := "canBeGoneOver", desc := "(I)Z" } : Jvm.MethodName) ∈ lw_tbl := in_4 (List.mem_of_getElem? (i := 47) rfl)
theorem wd_857 : Jvm.Cond.selects "FarFromAnybody$Camp" ({ cls := "FarFromAnybody$Camp", name := "canBeGoneOver", desc := "(I)Z" } : Jvm.MethodName) ({ cls := "FarFromAnybody$Camp", name := "canBeGoneOver", desc := "(I)Z" } : Jvm.MethodName) ∈ lw_tbl := in_4 (List.mem_of_getElem? (i := 48) rfl)
theorem wd_858 : Jvm.Cond.code ({ cls := "FarFromAnybody$Camp", name := "canBeGoneOver", desc := "(I)Z" } : Jvm.MethodName) prog_2_method_6_code (2 : Nat) (Option.some Jvm.ClassFile.FieldType.boolean) ∈ lw_tbl := in_4 (List.mem_of_getElem? (i := 49) rfl)
theorem wd_859 : Jvm.Cond.methodLink "FarFromAnybody" (210 : Nat) ({ cls := "FarFromAnybody$Ways", name := "from", desc := "(I)[B" } : Jvm.MethodName) ∈ lw_tbl := in_4 (List.mem_of_getElem? (i := 50) rfl)
theorem wd_863 : Jvm.Cond.code ({ cls := "FarFromAnybody", name := "at", desc := "(II)I" } : Jvm.MethodName) prog_1_method_16_code (3 : Nat) (Option.some Jvm.ClassFile.FieldType.int) ∈ lw_tbl := in_4 (List.mem_of_getElem? (i := 54) rfl)
theorem wd_864 : Jvm.Cond.methodLink "FarFromAnybody" (214 : Nat) ({ cls := "FarFromAnybody$Camp", name := "tentAt", desc := "(I)I" } : Jvm.MethodName) ∈ lw_tbl := in_4 (List.mem_of_getElem? (i := 55) rfl)
theorem wd_865 : Jvm.Cond.methodLink "FarFromAnybody" (217 : Nat) ({ cls := "FarFromAnybody$Camp", name := "manAt", desc := "(I)I" } : Jvm.MethodName) ∈ lw_tbl := in_4 (List.mem_of_getElem? (i := 56) rfl)
theorem wd_869 : Jvm.Cond.code ({ cls := "FarFromAnybody", name := "rest", desc := "(I)I" } : Jvm.MethodName) prog_1_method_17_code (2 : Nat) (Option.some Jvm.ClassFile.FieldType.int) ∈ lw_tbl := in_4 (List.mem_of_getElem? (i := 60) rfl)
theorem wd_870 : Jvm.Cond.methodLink "FarFromAnybody" (220 : Nat) ({ cls := "FarFromAnybody$Thought", name := "settle", desc := "()V" } : Jvm.MethodName) ∈ lw_tbl := in_4 (List.mem_of_getElem? (i := 61) rfl)
theorem wd_871 : Jvm.Cond.instanceMethod ({ cls := "FarFromAnybody$Thought", name := "settle", desc := "()V" } : Jvm.MethodName) ∈ lw_tbl := in_4 (List.mem_of_getElem? (i := 62) rfl)
theorem wd_872 : Jvm.Cond.selects "FarFromAnybody$Thought" ({ cls := "FarFromAnybody$Thought", name := "settle", desc := "()V" } : Jvm.MethodName) ({ cls := "FarFromAnybody$Thought", name := "settle", desc := "()V" } : Jvm.MethodName) ∈ lw_tbl := in_4 (List.mem_of_getElem? (i := 63) rfl)
theorem wd_873 : Jvm.Cond.code ({ cls := "FarFromAnybody$Thought", name := "settle", desc := "()V" } : Jvm.MethodName) prog_8_method_2_code (2 : Nat) (Option.none : Option Jvm.ClassFile.FieldType) ∈ lw_tbl := in_4 (List.mem_of_getElem? (i := 64) rfl)
theorem wd_874 : Jvm.Cond.methodLink "FarFromAnybody$Thought" (39 : Nat) ({ cls := "java/lang/System", name := "arraycopy", desc := "(Ljava/lang/Object;ILjava/lang/Object;II)V" } : Jvm.MethodName) ∈ lw_tbl := in_4 (List.mem_of_getElem? (i := 65) rfl)
theorem wd_875 : Jvm.Cond.methodLink "FarFromAnybody$Thought" (45 : Nat) ({ cls := "FarFromAnybody$Days", name := "noon", desc := "(Z)I" } : Jvm.MethodName) ∈ lw_tbl := in_4 (List.mem_of_getElem? (i := 66) rfl)
theorem wd_876 : Jvm.Cond.methodLink "FarFromAnybody$Thought" (51 : Nat) ({ cls := "FarFromAnybody$Thought", name := "circleUpTo", desc := "(I)I" } : Jvm.MethodName) ∈ lw_tbl := in_4 (List.mem_of_getElem? (i := 67) rfl)
theorem wd_878 : Jvm.Cond.instanceMethod ({ cls := "FarFromAnybody$Thought", name := "circleUpTo", desc := "(I)I" } : Jvm.MethodName) ∈ lw_tbl := in_4 (List.mem_of_getElem? (i := 69) rfl)
theorem wd_879 : Jvm.Cond.code ({ cls := "FarFromAnybody$Thought", name := "circleUpTo", desc := "(I)I" } : Jvm.MethodName) prog_8_method_3_code (5 : Nat) (Option.some Jvm.ClassFile.FieldType.int) ∈ lw_tbl := in_4 (List.mem_of_getElem? (i := 70) rfl)
theorem wd_883 : Jvm.Cond.code ({ cls := "FarFromAnybody", name := "placings", desc := "(II)I" } : Jvm.MethodName) prog_1_method_18_code (3 : Nat) (Option.some Jvm.ClassFile.FieldType.int) ∈ lw_tbl := in_4 (List.mem_of_getElem? (i := 74) rfl)
theorem wd_884 : Jvm.Cond.methodLink "FarFromAnybody" (237 : Nat) ({ cls := "FarFromAnybody$Camp", name := "grassCount", desc := "()I" } : Jvm.MethodName) ∈ lw_tbl := in_4 (List.mem_of_getElem? (i := 75) rfl)
theorem wd_885 : Jvm.Cond.instanceMethod ({ cls := "FarFromAnybody$Camp", name := "grassCount", desc := "()I" } : Jvm.MethodName) ∈ lw_tbl := in_4 (List.mem_of_getElem? (i := 76) rfl)
theorem wd_886 : Jvm.Cond.selects "FarFromAnybody$Camp" ({ cls := "FarFromAnybody$Camp", name := "grassCount", desc := "()I" } : Jvm.MethodName) ({ cls := "FarFromAnybody$Camp", name := "grassCount", desc := "()I" } : Jvm.MethodName) ∈ lw_tbl := in_4 (List.mem_of_getElem? (i := 77) rfl)
theorem wd_887 : Jvm.Cond.code ({ cls := "FarFromAnybody$Camp", name := "grassCount", desc := "()I" } : Jvm.MethodName) prog_2_method_7_code (3 : Nat) (Option.some Jvm.ClassFile.FieldType.int) ∈ lw_tbl := in_4 (List.mem_of_getElem? (i := 78) rfl)
theorem wd_888 : Jvm.Cond.classLink "FarFromAnybody" (229 : Nat) "FarFromAnybody$Placings" ∈ lw_tbl := in_4 (List.mem_of_getElem? (i := 79) rfl)
theorem wd_889 : Jvm.Cond.instantiable "FarFromAnybody$Placings" (7 : Nat) ∈ lw_tbl := in_4 (List.mem_of_getElem? (i := 80) rfl)
theorem wd_890 : Jvm.Cond.methodLink "FarFromAnybody" (244 : Nat) ({ cls := "FarFromAnybody$Placings", name := "<init>", desc := "(LFarFromAnybody$Camp;LFarFromAnybody$King;)V" } : Jvm.MethodName) ∈ lw_tbl := in_4 (List.mem_of_getElem? (i := 81) rfl)
theorem wd_891 : Jvm.Cond.instanceMethod ({ cls := "FarFromAnybody$Placings", name := "<init>", desc := "(LFarFromAnybody$Camp;LFarFromAnybody$King;)V" } : Jvm.MethodName) ∈ lw_tbl := in_4 (List.mem_of_getElem? (i := 82) rfl)
theorem wd_892 : Jvm.Cond.code ({ cls := "FarFromAnybody$Placings", name := "<init>", desc := "(LFarFromAnybody$Camp;LFarFromAnybody$King;)V" } : Jvm.MethodName) prog_6_method_1_code (3 : Nat) (Option.none : Option Jvm.ClassFile.FieldType) ∈ lw_tbl := in_4 (List.mem_of_getElem? (i := 83) rfl)
theorem wd_893 : Jvm.Cond.methodLink "FarFromAnybody$Placings" (5 : Nat) ({ cls := "java/lang/Object", name := "<init>", desc := "()V" } : Jvm.MethodName) ∈ lw_tbl := in_4 (List.mem_of_getElem? (i := 84) rfl)
theorem wd_894 : Jvm.Cond.fieldLink "FarFromAnybody$Placings" (19 : Nat) "FarFromAnybody$Placings" "answers" "[I" ∈ lw_tbl := in_4 (List.mem_of_getElem? (i := 85) rfl)
theorem wd_895 : Jvm.Cond.fieldLink "FarFromAnybody" (248 : Nat) "FarFromAnybody$Placings" "answers" "[I" ∈ lw_tbl := in_4 (List.mem_of_getElem? (i := 86) rfl)
theorem wd_896 : Jvm.Cond.fieldLink "FarFromAnybody$Placings" (11 : Nat) "FarFromAnybody$Placings" "camp" "LFarFromAnybody$Camp;" ∈ lw_tbl := in_4 (List.mem_of_getElem? (i := 87) rfl)
theorem wd_897 : Jvm.Cond.fieldLink "FarFromAnybody$Placings" (15 : Nat) "FarFromAnybody$Placings" "king" "LFarFromAnybody$King;" ∈ lw_tbl := in_4 (List.mem_of_getElem? (i := 88) rfl)
theorem wd_898 : Jvm.Cond.fieldLink "FarFromAnybody$Placings" (23 : Nat) "FarFromAnybody$Placings" "places" "[I" ∈ lw_tbl := in_4 (List.mem_of_getElem? (i := 89) rfl)
theorem wd_899 : Jvm.Cond.fieldLink "FarFromAnybody$Placings" (35 : Nat) "FarFromAnybody$Placings" "count" "I" ∈ lw_tbl := in_4 (List.mem_of_getElem? (i := 90) rfl)
theorem wd_900 : Jvm.Cond.fieldLink "FarFromAnybody$Placings" (26 : Nat) "FarFromAnybody$Placings" "pays" "[I" ∈ lw_tbl := in_4 (List.mem_of_getElem? (i := 91) rfl)
theorem wd_901 : Jvm.Cond.fieldLink "FarFromAnybody$Placings" (29 : Nat) "FarFromAnybody$Placings" "bests" "[I" ∈ lw_tbl := in_4 (List.mem_of_getElem? (i := 92) rfl)
theorem wd_917 : Jvm.Cond.methodLink "FarFromAnybody" (245 : Nat) ({ cls := "FarFromAnybody$Placings", name := "tryAll", desc := "(I)V" } : Jvm.MethodName) ∈ lw_tbl := in_4 (List.mem_of_getElem? (i := 108) rfl)
theorem wd_918 : Jvm.Cond.instanceMethod ({ cls := "FarFromAnybody$Placings", name := "tryAll", desc := "(I)V" } : Jvm.MethodName) ∈ lw_tbl := in_4 (List.mem_of_getElem? (i := 109) rfl)
theorem wd_919 : Jvm.Cond.selects "FarFromAnybody$Placings" ({ cls := "FarFromAnybody$Placings", name := "tryAll", desc := "(I)V" } : Jvm.MethodName) ({ cls := "FarFromAnybody$Placings", name := "tryAll", desc := "(I)V" } : Jvm.MethodName) ∈ lw_tbl := in_4 (List.mem_of_getElem? (i := 110) rfl)
theorem wd_920 : Jvm.Cond.code ({ cls := "FarFromAnybody$Placings", name := "tryAll", desc := "(I)V" } : Jvm.MethodName) prog_6_method_2_code (5 : Nat) (Option.none : Option Jvm.ClassFile.FieldType) ∈ lw_tbl := in_4 (List.mem_of_getElem? (i := 111) rfl)
theorem wd_921 : Jvm.Cond.methodLink "FarFromAnybody$Placings" (32 : Nat) ({ cls := "FarFromAnybody$Placings", name := "prepare", desc := "()V" } : Jvm.MethodName) ∈ lw_tbl := in_4 (List.mem_of_getElem? (i := 112) rfl)
theorem wd_923 : Jvm.Cond.instanceMethod ({ cls := "FarFromAnybody$Placings", name := "prepare", desc := "()V" } : Jvm.MethodName) ∈ lw_tbl := in_4 (List.mem_of_getElem? (i := 114) rfl)
theorem wd_924 : Jvm.Cond.code ({ cls := "FarFromAnybody$Placings", name := "prepare", desc := "()V" } : Jvm.MethodName) prog_6_method_3_code (2 : Nat) (Option.none : Option Jvm.ClassFile.FieldType) ∈ lw_tbl := in_4 (List.mem_of_getElem? (i := 115) rfl)
theorem wd_925 : Jvm.Cond.methodLink "FarFromAnybody$Placings" (43 : Nat) ({ cls := "java/util/Arrays", name := "fill", desc := "([II)V" } : Jvm.MethodName) ∈ lw_tbl := in_4 (List.mem_of_getElem? (i := 116) rfl)
theorem wd_926 : Jvm.Cond.methodLink "FarFromAnybody$Placings" (49 : Nat) ({ cls := "FarFromAnybody$Camp", name := "isGrass", desc := "(I)Z" } : Jvm.MethodName) ∈ lw_tbl := in_4 (List.mem_of_getElem? (i := 117) rfl)
theorem wd_927 : Jvm.Cond.methodLink "FarFromAnybody$Placings" (39 : Nat) ({ cls := "FarFromAnybody$Placings", name := "judge", desc := "(III)V" } : Jvm.MethodName) ∈ lw_tbl := in_4 (List.mem_of_getElem? (i := 118) rfl)
theorem wd_929 : Jvm.Cond.instanceMethod ({ cls := "FarFromAnybody$Placings", name := "judge", desc := "(III)V" } : Jvm.MethodName) ∈ lw_tbl := in_4 (List.mem_of_getElem? (i := 120) rfl)
theorem wd_930 : Jvm.Cond.code ({ cls := "FarFromAnybody$Placings", name := "judge", desc := "(III)V" } : Jvm.MethodName) prog_6_method_4_code (9 : Nat) (Option.none : Option Jvm.ClassFile.FieldType) ∈ lw_tbl := in_4 (List.mem_of_getElem? (i := 121) rfl)
theorem wd_931 : Jvm.Cond.methodLink "FarFromAnybody$Placings" (55 : Nat) ({ cls := "FarFromAnybody$Placings", name := "payAt", desc := "(III)I" } : Jvm.MethodName) ∈ lw_tbl := in_4 (List.mem_of_getElem? (i := 122) rfl)
theorem wd_933 : Jvm.Cond.instanceMethod ({ cls := "FarFromAnybody$Placings", name := "payAt", desc := "(III)I" } : Jvm.MethodName) ∈ lw_tbl := in_4 (List.mem_of_getElem? (i := 124) rfl)
theorem wd_934 : Jvm.Cond.code ({ cls := "FarFromAnybody$Placings", name := "payAt", desc := "(III)I" } : Jvm.MethodName) prog_6_method_7_code (11 : Nat) (Option.some Jvm.ClassFile.FieldType.int) ∈ lw_tbl := in_4 (List.mem_of_getElem? (i := 125) rfl)
theorem wd_935 : Jvm.Cond.methodLink "FarFromAnybody$Placings" (81 : Nat) ({ cls := "FarFromAnybody$Ways", name := "from", desc := "(I)[B" } : Jvm.MethodName) ∈ lw_tbl := in_4 (List.mem_of_getElem? (i := 126) rfl)
theorem wd_936 : Jvm.Cond.methodLink "FarFromAnybody$Placings" (87 : Nat) ({ cls := "java/lang/Math", name := "min", desc := "(II)I" } : Jvm.MethodName) ∈ lw_tbl := in_4 (List.mem_of_getElem? (i := 127) rfl)
theorem wd_937 : Jvm.Cond.methodLink "FarFromAnybody$Placings" (90 : Nat) ({ cls := "FarFromAnybody$King", name := "payFor", desc := "(IIII)I" } : Jvm.MethodName) ∈ lw_tbl := in_4 (List.mem_of_getElem? (i := 128) rfl)
theorem wd_938 : Jvm.Cond.methodLink "FarFromAnybody$Placings" (59 : Nat) ({ cls := "FarFromAnybody$Placings", name := "noteRow", desc := "(IIII)V" } : Jvm.MethodName) ∈ lw_tbl := in_4 (List.mem_of_getElem? (i := 129) rfl)
theorem wd_940 : Jvm.Cond.instanceMethod ({ cls := "FarFromAnybody$Placings", name := "noteRow", desc := "(IIII)V" } : Jvm.MethodName) ∈ lw_tbl := in_4 (List.mem_of_getElem? (i := 131) rfl)
theorem wd_941 : Jvm.Cond.code ({ cls := "FarFromAnybody$Placings", name := "noteRow", desc := "(IIII)V" } : Jvm.MethodName) prog_6_method_5_code (5 : Nat) (Option.none : Option Jvm.ClassFile.FieldType) ∈ lw_tbl := in_4 (List.mem_of_getElem? (i := 132) rfl)
theorem wd_942 : Jvm.Cond.methodLink "FarFromAnybody$Placings" (63 : Nat) ({ cls := "FarFromAnybody$Placings", name := "bestBy", desc := "(II)I" } : Jvm.MethodName) ∈ lw_tbl := in_4 (List.mem_of_getElem? (i := 133) rfl)
theorem wd_944 : Jvm.Cond.instanceMethod ({ cls := "FarFromAnybody$Placings", name := "bestBy", desc := "(II)I" } : Jvm.MethodName) ∈ lw_tbl := in_4 (List.mem_of_getElem? (i := 135) rfl)
theorem wd_945 : Jvm.Cond.code ({ cls := "FarFromAnybody$Placings", name := "bestBy", desc := "(II)I" } : Jvm.MethodName) prog_6_method_6_code (6 : Nat) (Option.some Jvm.ClassFile.FieldType.int) ∈ lw_tbl := in_4 (List.mem_of_getElem? (i := 136) rfl)
theorem wd_946 : Jvm.Cond.methodLink "FarFromAnybody$Placings" (70 : Nat) ({ cls := "java/lang/Math", name := "max", desc := "(II)I" } : Jvm.MethodName) ∈ lw_tbl := in_4 (List.mem_of_getElem? (i := 137) rfl)
theorem wd_950 : Jvm.Cond.code ({ cls := "FarFromAnybody", name := "saves", desc := "(I)I" } : Jvm.MethodName) prog_1_method_19_code (2 : Nat) (Option.some Jvm.ClassFile.FieldType.int) ∈ lw_tbl := in_4 (List.mem_of_getElem? (i := 141) rfl)
theorem wd_951 : Jvm.Cond.methodLink "FarFromAnybody" (251 : Nat) ({ cls := "FarFromAnybody$Thought", name := "findSaving", desc := "()V" } : Jvm.MethodName) ∈ lw_tbl := in_4 (List.mem_of_getElem? (i := 142) rfl)
theorem wd_952 : Jvm.Cond.instanceMethod ({ cls := "FarFromAnybody$Thought", name := "findSaving", desc := "()V" } : Jvm.MethodName) ∈ lw_tbl := in_4 (List.mem_of_getElem? (i := 143) rfl)
theorem wd_953 : Jvm.Cond.selects "FarFromAnybody$Thought" ({ cls := "FarFromAnybody$Thought", name := "findSaving", desc := "()V" } : Jvm.MethodName) ({ cls := "FarFromAnybody$Thought", name := "findSaving", desc := "()V" } : Jvm.MethodName) ∈ lw_tbl := in_4 (List.mem_of_getElem? (i := 144) rfl)
theorem wd_954 : Jvm.Cond.code ({ cls := "FarFromAnybody$Thought", name := "findSaving", desc := "()V" } : Jvm.MethodName) prog_8_method_4_code (4 : Nat) (Option.none : Option Jvm.ClassFile.FieldType) ∈ lw_tbl := in_4 (List.mem_of_getElem? (i := 145) rfl)
theorem wd_955 : Jvm.Cond.methodLink "FarFromAnybody$Thought" (58 : Nat) ({ cls := "FarFromAnybody$King", name := "allPays", desc := "()I" } : Jvm.MethodName) ∈ lw_tbl := in_4 (List.mem_of_getElem? (i := 146) rfl)
theorem wd_956 : Jvm.Cond.instanceMethod ({ cls := "FarFromAnybody$King", name := "allPays", desc := "()I" } : Jvm.MethodName) ∈ lw_tbl := in_4 (List.mem_of_getElem? (i := 147) rfl)
theorem wd_957 : Jvm.Cond.selects "FarFromAnybody$King" ({ cls := "FarFromAnybody$King", name := "allPays", desc := "()I" } : Jvm.MethodName) ({ cls := "FarFromAnybody$King", name := "allPays", desc := "()I" } : Jvm.MethodName) ∈ lw_tbl := in_4 (List.mem_of_getElem? (i := 148) rfl)
theorem wd_958 : Jvm.Cond.code ({ cls := "FarFromAnybody$King", name := "allPays", desc := "()I" } : Jvm.MethodName) prog_4_method_5_code (3 : Nat) (Option.some Jvm.ClassFile.FieldType.int) ∈ lw_tbl := in_4 (List.mem_of_getElem? (i := 149) rfl)
theorem wd_959 : Jvm.Cond.methodLink "FarFromAnybody$King" (85 : Nat) ({ cls := "FarFromAnybody$King", name := "payOf", desc := "(I)I" } : Jvm.MethodName) ∈ lw_tbl := in_4 (List.mem_of_getElem? (i := 150) rfl)
theorem wd_960 : Jvm.Cond.methodLink "FarFromAnybody$Thought" (70 : Nat) ({ cls := "FarFromAnybody$Camp", name := "freeForMan", desc := "(I)Z" } : Jvm.MethodName) ∈ lw_tbl := in_4 (List.mem_of_getElem? (i := 151) rfl)
theorem wd_964 : Jvm.Cond.code ({ cls := "FarFromAnybody", name := "line", desc := "()I" } : Jvm.MethodName) prog_1_method_20_code (1 : Nat) (Option.some Jvm.ClassFile.FieldType.int) ∈ lw_tbl := in_4 (List.mem_of_getElem? (i := 155) rfl)
theorem wd_965 : Jvm.Cond.methodLink "FarFromAnybody" (260 : Nat) ({ cls := "FarFromAnybody$Thought", name := "stillFine", desc := "()I" } : Jvm.MethodName) ∈ lw_tbl := in_4 (List.mem_of_getElem? (i := 156) rfl)
theorem wd_966 : Jvm.Cond.instanceMethod ({ cls := "FarFromAnybody$Thought", name := "stillFine", desc := "()I" } : Jvm.MethodName) ∈ lw_tbl := in_4 (List.mem_of_getElem? (i := 157) rfl)
theorem wd_967 : Jvm.Cond.selects "FarFromAnybody$Thought" ({ cls := "FarFromAnybody$Thought", name := "stillFine", desc := "()I" } : Jvm.MethodName) ({ cls := "FarFromAnybody$Thought", name := "stillFine", desc := "()I" } : Jvm.MethodName) ∈ lw_tbl := in_4 (List.mem_of_getElem? (i := 158) rfl)
theorem wd_968 : Jvm.Cond.code ({ cls := "FarFromAnybody$Thought", name := "stillFine", desc := "()I" } : Jvm.MethodName) prog_8_method_5_code (5 : Nat) (Option.some Jvm.ClassFile.FieldType.int) ∈ lw_tbl := in_4 (List.mem_of_getElem? (i := 159) rfl)
theorem wd_969 : Jvm.Cond.methodLink "FarFromAnybody$Thought" (83 : Nat) ({ cls := "FarFromAnybody$King", name := "findBest", desc := "(II)I" } : Jvm.MethodName) ∈ lw_tbl := in_4 (List.mem_of_getElem? (i := 160) rfl)
theorem wd_970 : Jvm.Cond.methodLink "FarFromAnybody$Thought" (87 : Nat) ({ cls := "FarFromAnybody$King", name := "payOf", desc := "(I)I" } : Jvm.MethodName) ∈ lw_tbl := in_4 (List.mem_of_getElem? (i := 161) rfl)
theorem wd_971 : Jvm.Cond.methodLink "FarFromAnybody$Thought" (90 : Nat) ({ cls := "java/lang/Math", name := "max", desc := "(II)I" } : Jvm.MethodName) ∈ lw_tbl := in_4 (List.mem_of_getElem? (i := 162) rfl)
theorem wd_975 : Jvm.Cond.code ({ cls := "FarFromAnybody", name := "rid", desc := "(II)I" } : Jvm.MethodName) prog_1_method_21_code (3 : Nat) (Option.some Jvm.ClassFile.FieldType.int) ∈ lw_tbl := in_4 (List.mem_of_getElem? (i := 166) rfl)
theorem wd_976 : Jvm.Cond.constant "FarFromAnybody" (263 : Nat) (-100000 : Int32) ∈ lw_tbl := in_4 (List.mem_of_getElem? (i := 167) rfl)
theorem wd_977 : Jvm.Cond.methodLink "FarFromAnybody" (264 : Nat) ({ cls := "FarFromAnybody$Thought", name := "gainWithout", desc := "(II)I" } : Jvm.MethodName) ∈ lw_tbl := in_4 (List.mem_of_getElem? (i := 168) rfl)
theorem wd_978 : Jvm.Cond.instanceMethod ({ cls := "FarFromAnybody$Thought", name := "gainWithout", desc := "(II)I" } : Jvm.MethodName) ∈ lw_tbl := in_4 (List.mem_of_getElem? (i := 169) rfl)
theorem wd_979 : Jvm.Cond.selects "FarFromAnybody$Thought" ({ cls := "FarFromAnybody$Thought", name := "gainWithout", desc := "(II)I" } : Jvm.MethodName) ({ cls := "FarFromAnybody$Thought", name := "gainWithout", desc := "(II)I" } : Jvm.MethodName) ∈ lw_tbl := in_4 (List.mem_of_getElem? (i := 170) rfl)
theorem wd_980 : Jvm.Cond.code ({ cls := "FarFromAnybody$Thought", name := "gainWithout", desc := "(II)I" } : Jvm.MethodName) prog_8_method_7_code (6 : Nat) (Option.some Jvm.ClassFile.FieldType.int) ∈ lw_tbl := in_4 (List.mem_of_getElem? (i := 171) rfl)
theorem wd_984 : Jvm.Cond.code ({ cls := "FarFromAnybody", name := "send", desc := "(II)I" } : Jvm.MethodName) prog_1_method_22_code (3 : Nat) (Option.some Jvm.ClassFile.FieldType.int) ∈ lw_tbl := in_4 (List.mem_of_getElem? (i := 175) rfl)
theorem wd_985 : Jvm.Cond.methodLink "FarFromAnybody" (267 : Nat) ({ cls := "FarFromAnybody$Thought", name := "findSending", desc := "(I)V" } : Jvm.MethodName) ∈ lw_tbl := in_4 (List.mem_of_getElem? (i := 176) rfl)
theorem wd_986 : Jvm.Cond.instanceMethod ({ cls := "FarFromAnybody$Thought", name := "findSending", desc := "(I)V" } : Jvm.MethodName) ∈ lw_tbl := in_4 (List.mem_of_getElem? (i := 177) rfl)
theorem wd_987 : Jvm.Cond.selects "FarFromAnybody$Thought" ({ cls := "FarFromAnybody$Thought", name := "findSending", desc := "(I)V" } : Jvm.MethodName) ({ cls := "FarFromAnybody$Thought", name := "findSending", desc := "(I)V" } : Jvm.MethodName) ∈ lw_tbl := in_4 (List.mem_of_getElem? (i := 178) rfl)
theorem wd_988 : Jvm.Cond.code ({ cls := "FarFromAnybody$Thought", name := "findSending", desc := "(I)V" } : Jvm.MethodName) prog_8_method_6_code (5 : Nat) (Option.none : Option Jvm.ClassFile.FieldType) ∈ lw_tbl := in_4 (List.mem_of_getElem? (i := 179) rfl)
theorem wd_989 : Jvm.Cond.methodLink "FarFromAnybody$Thought" (104 : Nat) ({ cls := "FarFromAnybody$Camp", name := "couldStand", desc := "(III)Z" } : Jvm.MethodName) ∈ lw_tbl := in_4 (List.mem_of_getElem? (i := 180) rfl)
theorem wd_990 : Jvm.Cond.methodLink "FarFromAnybody$Thought" (108 : Nat) ({ cls := "FarFromAnybody$King", name := "familyPays", desc := "(I)I" } : Jvm.MethodName) ∈ lw_tbl := in_4 (List.mem_of_getElem? (i := 181) rfl)
theorem wd_991 : Jvm.Cond.instanceMethod ({ cls := "FarFromAnybody$King", name := "familyPays", desc := "(I)I" } : Jvm.MethodName) ∈ lw_tbl := in_4 (List.mem_of_getElem? (i := 182) rfl)
theorem wd_992 : Jvm.Cond.selects "FarFromAnybody$King" ({ cls := "FarFromAnybody$King", name := "familyPays", desc := "(I)I" } : Jvm.MethodName) ({ cls := "FarFromAnybody$King", name := "familyPays", desc := "(I)I" } : Jvm.MethodName) ∈ lw_tbl := in_4 (List.mem_of_getElem? (i := 183) rfl)
theorem wd_993 : Jvm.Cond.code ({ cls := "FarFromAnybody$King", name := "familyPays", desc := "(I)I" } : Jvm.MethodName) prog_4_method_6_code (4 : Nat) (Option.some Jvm.ClassFile.FieldType.int) ∈ lw_tbl := in_4 (List.mem_of_getElem? (i := 184) rfl)
theorem wd_997 : Jvm.Cond.code ({ cls := "FarFromAnybody", name := "broken", desc := "(I)I" } : Jvm.MethodName) prog_1_method_23_code (2 : Nat) (Option.some Jvm.ClassFile.FieldType.int) ∈ lw_tbl := in_4 (List.mem_of_getElem? (i := 188) rfl)
theorem wd_1001 : Jvm.Cond.code ({ cls := "FarFromAnybody", name := "told", desc := "(II)Z" } : Jvm.MethodName) prog_1_method_24_code (3 : Nat) (Option.some Jvm.ClassFile.FieldType.boolean) ∈ lw_tbl := in_4 (List.mem_of_getElem? (i := 192) rfl)
theorem wd_1005 : Jvm.Cond.code ({ cls := "FarFromAnybody", name := "night", desc := "(I)I" } : Jvm.MethodName) prog_1_method_25_code (2 : Nat) (Option.some Jvm.ClassFile.FieldType.int) ∈ lw_tbl := in_4 (List.mem_of_getElem? (i := 196) rfl)
theorem wd_1006 : Jvm.Cond.methodLink "FarFromAnybody" (279 : Nat) ({ cls := "FarFromAnybody$Thought", name := "recallNight", desc := "()V" } : Jvm.MethodName) ∈ lw_tbl := in_4 (List.mem_of_getElem? (i := 197) rfl)
theorem wd_1007 : Jvm.Cond.instanceMethod ({ cls := "FarFromAnybody$Thought", name := "recallNight", desc := "()V" } : Jvm.MethodName) ∈ lw_tbl := in_4 (List.mem_of_getElem? (i := 198) rfl)
theorem wd_1008 : Jvm.Cond.selects "FarFromAnybody$Thought" ({ cls := "FarFromAnybody$Thought", name := "recallNight", desc := "()V" } : Jvm.MethodName) ({ cls := "FarFromAnybody$Thought", name := "recallNight", desc := "()V" } : Jvm.MethodName) ∈ lw_tbl := in_4 (List.mem_of_getElem? (i := 199) rfl)
theorem wd_1009 : Jvm.Cond.code ({ cls := "FarFromAnybody$Thought", name := "recallNight", desc := "()V" } : Jvm.MethodName) prog_8_method_8_code (4 : Nat) (Option.none : Option Jvm.ClassFile.FieldType) ∈ lw_tbl := in_4 (List.mem_of_getElem? (i := 200) rfl)
theorem wd_1010 : Jvm.Cond.methodLink "FarFromAnybody$Thought" (111 : Nat) ({ cls := "FarFromAnybody$Thought", name := "fitsTold", desc := "()Z" } : Jvm.MethodName) ∈ lw_tbl := in_4 (List.mem_of_getElem? (i := 201) rfl)
theorem wd_1012 : Jvm.Cond.instanceMethod ({ cls := "FarFromAnybody$Thought", name := "fitsTold", desc := "()Z" } : Jvm.MethodName) ∈ lw_tbl := in_4 (List.mem_of_getElem? (i := 203) rfl)
theorem wd_1013 : Jvm.Cond.code ({ cls := "FarFromAnybody$Thought", name := "fitsTold", desc := "()Z" } : Jvm.MethodName) prog_8_method_10_code (3 : Nat) (Option.some Jvm.ClassFile.FieldType.boolean) ∈ lw_tbl := in_4 (List.mem_of_getElem? (i := 204) rfl)
theorem wd_1014 : Jvm.Cond.methodLink "FarFromAnybody$Thought" (124 : Nat) ({ cls := "FarFromAnybody$Thought", name := "noteGoing", desc := "(II)V" } : Jvm.MethodName) ∈ lw_tbl := in_4 (List.mem_of_getElem? (i := 205) rfl)
theorem wd_1016 : Jvm.Cond.instanceMethod ({ cls := "FarFromAnybody$Thought", name := "noteGoing", desc := "(II)V" } : Jvm.MethodName) ∈ lw_tbl := in_4 (List.mem_of_getElem? (i := 207) rfl)
theorem wd_1017 : Jvm.Cond.code ({ cls := "FarFromAnybody$Thought", name := "noteGoing", desc := "(II)V" } : Jvm.MethodName) prog_8_method_9_code (3 : Nat) (Option.none : Option Jvm.ClassFile.FieldType) ∈ lw_tbl := in_4 (List.mem_of_getElem? (i := 208) rfl)
theorem wd_1021 : Jvm.Cond.code ({ cls := "FarFromAnybody", name := "image", desc := "(Z)Z" } : Jvm.MethodName) prog_1_method_26_code (2 : Nat) (Option.some Jvm.ClassFile.FieldType.boolean) ∈ lw_tbl := in_4 (List.mem_of_getElem? (i := 212) rfl)
theorem wd_1022 : Jvm.Cond.methodLink "FarFromAnybody" (294 : Nat) ({ cls := "FarFromAnybody$Camp", name := "copy", desc := "(LFarFromAnybody$Camp;)V" } : Jvm.MethodName) ∈ lw_tbl := in_4 (List.mem_of_getElem? (i := 213) rfl)
theorem wd_1023 : Jvm.Cond.instanceMethod ({ cls := "FarFromAnybody$Camp", name := "copy", desc := "(LFarFromAnybody$Camp;)V" } : Jvm.MethodName) ∈ lw_tbl := in_4 (List.mem_of_getElem? (i := 214) rfl)
theorem wd_1024 : Jvm.Cond.selects "FarFromAnybody$Camp" ({ cls := "FarFromAnybody$Camp", name := "copy", desc := "(LFarFromAnybody$Camp;)V" } : Jvm.MethodName) ({ cls := "FarFromAnybody$Camp", name := "copy", desc := "(LFarFromAnybody$Camp;)V" } : Jvm.MethodName) ∈ lw_tbl := in_4 (List.mem_of_getElem? (i := 215) rfl)
theorem wd_1025 : Jvm.Cond.code ({ cls := "FarFromAnybody$Camp", name := "copy", desc := "(LFarFromAnybody$Camp;)V" } : Jvm.MethodName) prog_2_method_3_code (2 : Nat) (Option.none : Option Jvm.ClassFile.FieldType) ∈ lw_tbl := in_4 (List.mem_of_getElem? (i := 216) rfl)
theorem wd_1026 : Jvm.Cond.methodLink "FarFromAnybody$Camp" (83 : Nat) ({ cls := "java/lang/System", name := "arraycopy", desc := "(Ljava/lang/Object;ILjava/lang/Object;II)V" } : Jvm.MethodName) ∈ lw_tbl := in_4 (List.mem_of_getElem? (i := 217) rfl)
theorem wd_1030 : Jvm.Cond.code ({ cls := "FarFromAnybody", name := "look", desc := "(I)I" } : Jvm.MethodName) prog_1_method_27_code (2 : Nat) (Option.some Jvm.ClassFile.FieldType.int) ∈ lw_tbl := in_4 (List.mem_of_getElem? (i := 221) rfl)
theorem wd_1031 : Jvm.Cond.methodLink "FarFromAnybody" (308 : Nat) ({ cls := "FarFromAnybody", name := "lookAtTold", desc := "(I)I" } : Jvm.MethodName) ∈ lw_tbl := in_4 (List.mem_of_getElem? (i := 222) rfl)
theorem wd_1033 : Jvm.Cond.instanceMethod ({ cls := "FarFromAnybody", name := "lookAtTold", desc := "(I)I" } : Jvm.MethodName) ∈ lw_tbl := in_4 (List.mem_of_getElem? (i := 224) rfl)
theorem wd_1034 : Jvm.Cond.code ({ cls := "FarFromAnybody", name := "lookAtTold", desc := "(I)I" } : Jvm.MethodName) prog_1_method_28_code (2 : Nat) (Option.some Jvm.ClassFile.FieldType.int) ∈ lw_tbl := in_4 (List.mem_of_getElem? (i := 225) rfl)
theorem wd_1039 : Jvm.Cond.code ({ cls := "FarFromAnybodyModel", name := "<init>", desc := "()V" } : Jvm.MethodName) prog_11_method_1_code (1 : Nat) (Option.none : Option Jvm.ClassFile.FieldType) ∈ lw_tbl := in_4 (List.mem_of_getElem? (i := 230) rfl)
theorem wd_1040 : Jvm.Cond.methodLink "FarFromAnybodyModel" (1 : Nat) ({ cls := "java/lang/Object", name := "<init>", desc := "()V" } : Jvm.MethodName) ∈ lw_tbl := in_4 (List.mem_of_getElem? (i := 231) rfl)
theorem wd_1041 : Jvm.Cond.methodLink "FarFromAnybodyModel" (68 : Nat) ({ cls := "FarFromAnybodyModel", name := "begins", desc := "(II)V" } : Jvm.MethodName) ∈ lw_tbl := in_4 (List.mem_of_getElem? (i := 232) rfl)
theorem wd_1043 : Jvm.Cond.instanceMethod ({ cls := "FarFromAnybodyModel", name := "begins", desc := "(II)V" } : Jvm.MethodName) ∈ lw_tbl := in_4 (List.mem_of_getElem? (i := 234) rfl)
theorem wd_1044 : Jvm.Cond.code ({ cls := "FarFromAnybodyModel", name := "begins", desc := "(II)V" } : Jvm.MethodName) prog_11_method_2_code (5 : Nat) (Option.none : Option Jvm.ClassFile.FieldType) ∈ lw_tbl := in_4 (List.mem_of_getElem? (i := 235) rfl)
theorem wd_1045 : Jvm.Cond.fieldLink "FarFromAnybodyModel" (7 : Nat) "FarFromAnybodyModel" "w" "[I" ∈ lw_tbl := in_4 (List.mem_of_getElem? (i := 236) rfl)
theorem wd_1046 : Jvm.Cond.fieldLink "FarFromAnybodyModel" (13 : Nat) "FarFromAnybodyModel" "kept" "[I" ∈ lw_tbl := in_4 (List.mem_of_getElem? (i := 237) rfl)
theorem wd_1047 : Jvm.Cond.fieldLink "FarFromAnybodyModel" (356 : Nat) "FarFromAnybodyModel" "hasImage" "Z" ∈ lw_tbl := in_4 (List.mem_of_getElem? (i := 238) rfl)
theorem wd_1048 : Jvm.Cond.fieldLink "FarFromAnybodyModel" (16 : Nat) "FarFromAnybodyModel" "freshLine" "[I" ∈ lw_tbl := in_4 (List.mem_of_getElem? (i := 239) rfl)
theorem wd_1049 : Jvm.Cond.fieldLink "FarFromAnybodyModel" (19 : Nat) "FarFromAnybodyModel" "freshStep" "[I" ∈ lw_tbl := in_5 (List.mem_of_getElem? (i := 0) rfl)
theorem wd_1050 : Jvm.Cond.fieldLink "FarFromAnybodyModel" (22 : Nat) "FarFromAnybodyModel" "tape" "[I" ∈ lw_tbl := in_5 (List.mem_of_getElem? (i := 1) rfl)
theorem wd_1051 : Jvm.Cond.fieldLink "FarFromAnybodyModel" (25 : Nat) "FarFromAnybodyModel" "pile" "[I" ∈ lw_tbl := in_5 (List.mem_of_getElem? (i := 2) rfl)
theorem wd_1052 : Jvm.Cond.fieldLink "FarFromAnybodyModel" (28 : Nat) "FarFromAnybodyModel" "facts" "[I" ∈ lw_tbl := in_5 (List.mem_of_getElem? (i := 3) rfl)
theorem wd_1053 : Jvm.Cond.fieldLink "FarFromAnybodyModel" (236 : Nat) "FarFromAnybodyModel" "lines" "I" ∈ lw_tbl := in_5 (List.mem_of_getElem? (i := 4) rfl)
theorem wd_1054 : Jvm.Cond.fieldLink "FarFromAnybodyModel" (202 : Nat) "FarFromAnybodyModel" "steps" "I" ∈ lw_tbl := in_5 (List.mem_of_getElem? (i := 5) rfl)
theorem wd_1055 : Jvm.Cond.fieldLink "FarFromAnybodyModel" (120 : Nat) "FarFromAnybodyModel" "taped" "I" ∈ lw_tbl := in_5 (List.mem_of_getElem? (i := 6) rfl)
theorem wd_1056 : Jvm.Cond.fieldLink "FarFromAnybodyModel" (123 : Nat) "FarFromAnybodyModel" "at" "I" ∈ lw_tbl := in_5 (List.mem_of_getElem? (i := 7) rfl)
theorem wd_1057 : Jvm.Cond.fieldLink "FarFromAnybodyModel" (175 : Nat) "FarFromAnybodyModel" "token" "I" ∈ lw_tbl := in_5 (List.mem_of_getElem? (i := 8) rfl)
theorem wd_1058 : Jvm.Cond.fieldLink "FarFromAnybodyModel" (126 : Nat) "FarFromAnybodyModel" "tokenAt" "I" ∈ lw_tbl := in_5 (List.mem_of_getElem? (i := 9) rfl)
theorem wd_1059 : Jvm.Cond.fieldLink "FarFromAnybodyModel" (187 : Nat) "FarFromAnybodyModel" "value" "I" ∈ lw_tbl := in_5 (List.mem_of_getElem? (i := 10) rfl)
theorem wd_1060 : Jvm.Cond.fieldLink "FarFromAnybodyModel" (190 : Nat) "FarFromAnybodyModel" "wrong" "I" ∈ lw_tbl := in_5 (List.mem_of_getElem? (i := 11) rfl)
theorem wd_1061 : Jvm.Cond.fieldLink "FarFromAnybodyModel" (193 : Nat) "FarFromAnybodyModel" "wrongAt" "I" ∈ lw_tbl := in_5 (List.mem_of_getElem? (i := 12) rfl)
theorem wd_1062 : Jvm.Cond.fieldLink "FarFromAnybodyModel" (242 : Nat) "FarFromAnybodyModel" "faultKind" "I" ∈ lw_tbl := in_5 (List.mem_of_getElem? (i := 13) rfl)
theorem wd_1063 : Jvm.Cond.fieldLink "FarFromAnybodyModel" (205 : Nat) "FarFromAnybodyModel" "depth" "I" ∈ lw_tbl := in_5 (List.mem_of_getElem? (i := 14) rfl)
theorem wd_1064 : Jvm.Cond.fieldLink "FarFromAnybodyModel" (31 : Nat) "FarFromAnybodyModel" "faultPlace" "I" ∈ lw_tbl := in_5 (List.mem_of_getElem? (i := 15) rfl)
theorem wd_1065 : Jvm.Cond.fieldLink "FarFromAnybodyModel" (35 : Nat) "FarFromAnybodyModel" "ways" "[I" ∈ lw_tbl := in_5 (List.mem_of_getElem? (i := 16) rfl)
theorem wd_1066 : Jvm.Cond.fieldLink "FarFromAnybodyModel" (38 : Nat) "FarFromAnybodyModel" "queue" "[I" ∈ lw_tbl := in_5 (List.mem_of_getElem? (i := 17) rfl)
theorem wd_1067 : Jvm.Cond.fieldLink "FarFromAnybodyModel" (72 : Nat) "FarFromAnybodyModel" "hasWays" "Z" ∈ lw_tbl := in_5 (List.mem_of_getElem? (i := 18) rfl)
theorem wd_1068 : Jvm.Cond.fieldLink "FarFromAnybodyModel" (41 : Nat) "FarFromAnybodyModel" "gone" "I" ∈ lw_tbl := in_5 (List.mem_of_getElem? (i := 19) rfl)
theorem wd_1069 : Jvm.Cond.fieldLink "FarFromAnybodyModel" (44 : Nat) "FarFromAnybodyModel" "choice" "[I" ∈ lw_tbl := in_5 (List.mem_of_getElem? (i := 20) rfl)
theorem wd_1070 : Jvm.Cond.fieldLink "FarFromAnybodyModel" (47 : Nat) "FarFromAnybodyModel" "went" "[I" ∈ lw_tbl := in_5 (List.mem_of_getElem? (i := 21) rfl)
theorem wd_1071 : Jvm.Cond.fieldLink "FarFromAnybodyModel" (50 : Nat) "FarFromAnybodyModel" "rows" "[I" ∈ lw_tbl := in_5 (List.mem_of_getElem? (i := 22) rfl)
theorem wd_1072 : Jvm.Cond.fieldLink "FarFromAnybodyModel" (53 : Nat) "FarFromAnybodyModel" "before" "[I" ∈ lw_tbl := in_5 (List.mem_of_getElem? (i := 23) rfl)
theorem wd_1073 : Jvm.Cond.fieldLink "FarFromAnybodyModel" (56 : Nat) "FarFromAnybodyModel" "placed" "[I" ∈ lw_tbl := in_5 (List.mem_of_getElem? (i := 24) rfl)
theorem wd_1074 : Jvm.Cond.fieldLink "FarFromAnybodyModel" (59 : Nat) "FarFromAnybodyModel" "firstRest" "[I" ∈ lw_tbl := in_5 (List.mem_of_getElem? (i := 25) rfl)
theorem wd_1075 : Jvm.Cond.fieldLink "FarFromAnybodyModel" (62 : Nat) "FarFromAnybodyModel" "leastRow" "[I" ∈ lw_tbl := in_5 (List.mem_of_getElem? (i := 26) rfl)
theorem wd_1076 : Jvm.Cond.fieldLink "FarFromAnybodyModel" (65 : Nat) "FarFromAnybodyModel" "mostRow" "[I" ∈ lw_tbl := in_5 (List.mem_of_getElem? (i := 27) rfl)
theorem wd_1077 : Jvm.Cond.fieldLink "FarFromAnybodyModel" (319 : Nat) "FarFromAnybodyModel" "placedMany" "I" ∈ lw_tbl := in_5 (List.mem_of_getElem? (i := 28) rfl)
theorem wd_1078 : Jvm.Cond.fieldLink "FarFromAnybodyModel" (328 : Nat) "FarFromAnybodyModel" "rests" "I" ∈ lw_tbl := in_5 (List.mem_of_getElem? (i := 29) rfl)
theorem wd_1079 : Jvm.Cond.fieldLink "FarFromAnybodyModel" (331 : Nat) "FarFromAnybodyModel" "leastSum" "I" ∈ lw_tbl := in_5 (List.mem_of_getElem? (i := 30) rfl)
theorem wd_1080 : Jvm.Cond.fieldLink "FarFromAnybodyModel" (334 : Nat) "FarFromAnybodyModel" "mostSum" "I" ∈ lw_tbl := in_5 (List.mem_of_getElem? (i := 31) rfl)
theorem wd_1157 : Jvm.Cond.code ({ cls := "FarFromAnybodyModel", name := "state", desc := "(I)I" } : Jvm.MethodName) prog_11_method_11_code (3 : Nat) (Option.some Jvm.ClassFile.FieldType.int) ∈ lw_tbl := in_5 (List.mem_of_getElem? (i := 108) rfl)
theorem wd_1161 : Jvm.Cond.code ({ cls := "FarFromAnybodyModel", name := "plain", desc := "(II)Z" } : Jvm.MethodName) prog_11_method_13_code (3 : Nat) (Option.some Jvm.ClassFile.FieldType.boolean) ∈ lw_tbl := in_5 (List.mem_of_getElem? (i := 112) rfl)
theorem wd_1162 : Jvm.Cond.methodLink "FarFromAnybodyModel" (76 : Nat) ({ cls := "FarFromAnybodyModel", name := "isIn", desc := "(III)Z" } : Jvm.MethodName) ∈ lw_tbl := in_5 (List.mem_of_getElem? (i := 113) rfl)
theorem wd_1163 : Jvm.Cond.static ({ cls := "FarFromAnybodyModel", name := "isIn", desc := "(III)Z" } : Jvm.MethodName) ∈ lw_tbl := in_5 (List.mem_of_getElem? (i := 114) rfl)
theorem wd_1164 : Jvm.Cond.code ({ cls := "FarFromAnybodyModel", name := "isIn", desc := "(III)Z" } : Jvm.MethodName) prog_11_method_3_code (3 : Nat) (Option.some Jvm.ClassFile.FieldType.boolean) ∈ lw_tbl := in_5 (List.mem_of_getElem? (i := 115) rfl)
theorem wd_1168 : Jvm.Cond.code ({ cls := "FarFromAnybodyModel", name := "yard", desc := "(II)Z" } : Jvm.MethodName) prog_11_method_16_code (3 : Nat) (Option.some Jvm.ClassFile.FieldType.boolean) ∈ lw_tbl := in_5 (List.mem_of_getElem? (i := 119) rfl)
theorem wd_1169 : Jvm.Cond.methodLink "FarFromAnybodyModel" (84 : Nat) ({ cls := "FarFromAnybodyModel", name := "isYard", desc := "(I)Z" } : Jvm.MethodName) ∈ lw_tbl := in_5 (List.mem_of_getElem? (i := 120) rfl)
theorem wd_1171 : Jvm.Cond.instanceMethod ({ cls := "FarFromAnybodyModel", name := "isYard", desc := "(I)Z" } : Jvm.MethodName) ∈ lw_tbl := in_5 (List.mem_of_getElem? (i := 122) rfl)
theorem wd_1172 : Jvm.Cond.code ({ cls := "FarFromAnybodyModel", name := "isYard", desc := "(I)Z" } : Jvm.MethodName) prog_11_method_6_code (2 : Nat) (Option.some Jvm.ClassFile.FieldType.boolean) ∈ lw_tbl := in_5 (List.mem_of_getElem? (i := 123) rfl)
theorem wd_1173 : Jvm.Cond.methodLink "FarFromAnybodyModel" (80 : Nat) ({ cls := "FarFromAnybodyModel", name := "isPlace", desc := "(II)Z" } : Jvm.MethodName) ∈ lw_tbl := in_5 (List.mem_of_getElem? (i := 124) rfl)
theorem wd_1175 : Jvm.Cond.instanceMethod ({ cls := "FarFromAnybodyModel", name := "isPlace", desc := "(II)Z" } : Jvm.MethodName) ∈ lw_tbl := in_5 (List.mem_of_getElem? (i := 126) rfl)
theorem wd_1176 : Jvm.Cond.code ({ cls := "FarFromAnybodyModel", name := "isPlace", desc := "(II)Z" } : Jvm.MethodName) prog_11_method_5_code (3 : Nat) (Option.some Jvm.ClassFile.FieldType.boolean) ∈ lw_tbl := in_5 (List.mem_of_getElem? (i := 127) rfl)
theorem wd_1177 : Jvm.Cond.methodLink "FarFromAnybodyModel" (94 : Nat) ({ cls := "FarFromAnybodyModel", name := "tentAt", desc := "(I)I" } : Jvm.MethodName) ∈ lw_tbl := in_5 (List.mem_of_getElem? (i := 128) rfl)
theorem wd_1179 : Jvm.Cond.instanceMethod ({ cls := "FarFromAnybodyModel", name := "tentAt", desc := "(I)I" } : Jvm.MethodName) ∈ lw_tbl := in_5 (List.mem_of_getElem? (i := 130) rfl)
theorem wd_1180 : Jvm.Cond.code ({ cls := "FarFromAnybodyModel", name := "tentAt", desc := "(I)I" } : Jvm.MethodName) prog_11_method_14_code (3 : Nat) (Option.some Jvm.ClassFile.FieldType.int) ∈ lw_tbl := in_5 (List.mem_of_getElem? (i := 131) rfl)
theorem wd_1181 : Jvm.Cond.methodLink "FarFromAnybodyModel" (90 : Nat) ({ cls := "FarFromAnybodyModel", name := "own", desc := "(II)I" } : Jvm.MethodName) ∈ lw_tbl := in_5 (List.mem_of_getElem? (i := 132) rfl)
theorem wd_1183 : Jvm.Cond.instanceMethod ({ cls := "FarFromAnybodyModel", name := "own", desc := "(II)I" } : Jvm.MethodName) ∈ lw_tbl := in_5 (List.mem_of_getElem? (i := 134) rfl)
theorem wd_1184 : Jvm.Cond.code ({ cls := "FarFromAnybodyModel", name := "own", desc := "(II)I" } : Jvm.MethodName) prog_11_method_9_code (3 : Nat) (Option.some Jvm.ClassFile.FieldType.int) ∈ lw_tbl := in_5 (List.mem_of_getElem? (i := 135) rfl)
theorem wd_1185 : Jvm.Cond.methodLink "FarFromAnybodyModel" (98 : Nat) ({ cls := "FarFromAnybodyModel", name := "manAt", desc := "(I)I" } : Jvm.MethodName) ∈ lw_tbl := in_5 (List.mem_of_getElem? (i := 136) rfl)
theorem wd_1187 : Jvm.Cond.instanceMethod ({ cls := "FarFromAnybodyModel", name := "manAt", desc := "(I)I" } : Jvm.MethodName) ∈ lw_tbl := in_5 (List.mem_of_getElem? (i := 138) rfl)
theorem wd_1188 : Jvm.Cond.code ({ cls := "FarFromAnybodyModel", name := "manAt", desc := "(I)I" } : Jvm.MethodName) prog_11_method_15_code (3 : Nat) (Option.some Jvm.ClassFile.FieldType.int) ∈ lw_tbl := in_5 (List.mem_of_getElem? (i := 139) rfl)
theorem wd_1192 : Jvm.Cond.code ({ cls := "FarFromAnybodyModel", name := "tent", desc := "(III)I" } : Jvm.MethodName) prog_11_method_18_code (5 : Nat) (Option.some Jvm.ClassFile.FieldType.int) ∈ lw_tbl := in_5 (List.mem_of_getElem? (i := 143) rfl)
theorem wd_1193 : Jvm.Cond.methodLink "FarFromAnybodyModel" (104 : Nat) ({ cls := "FarFromAnybodyModel", name := "couldBe", desc := "(III)Z" } : Jvm.MethodName) ∈ lw_tbl := in_5 (List.mem_of_getElem? (i := 144) rfl)
theorem wd_1195 : Jvm.Cond.instanceMethod ({ cls := "FarFromAnybodyModel", name := "couldBe", desc := "(III)Z" } : Jvm.MethodName) ∈ lw_tbl := in_5 (List.mem_of_getElem? (i := 146) rfl)
theorem wd_1196 : Jvm.Cond.code ({ cls := "FarFromAnybodyModel", name := "couldBe", desc := "(III)Z" } : Jvm.MethodName) prog_11_method_17_code (5 : Nat) (Option.some Jvm.ClassFile.FieldType.boolean) ∈ lw_tbl := in_5 (List.mem_of_getElem? (i := 147) rfl)
theorem wd_1197 : Jvm.Cond.methodLink "FarFromAnybodyModel" (101 : Nat) ({ cls := "FarFromAnybodyModel", name := "isGrass", desc := "(I)Z" } : Jvm.MethodName) ∈ lw_tbl := in_5 (List.mem_of_getElem? (i := 148) rfl)
theorem wd_1199 : Jvm.Cond.instanceMethod ({ cls := "FarFromAnybodyModel", name := "isGrass", desc := "(I)Z" } : Jvm.MethodName) ∈ lw_tbl := in_5 (List.mem_of_getElem? (i := 150) rfl)
theorem wd_1200 : Jvm.Cond.code ({ cls := "FarFromAnybodyModel", name := "isGrass", desc := "(I)Z" } : Jvm.MethodName) prog_11_method_7_code (2 : Nat) (Option.some Jvm.ClassFile.FieldType.boolean) ∈ lw_tbl := in_5 (List.mem_of_getElem? (i := 151) rfl)
theorem wd_1201 : Jvm.Cond.methodLink "FarFromAnybodyModel" (107 : Nat) ({ cls := "FarFromAnybodyModel", name := "gives", desc := "(III)V" } : Jvm.MethodName) ∈ lw_tbl := in_5 (List.mem_of_getElem? (i := 152) rfl)
theorem wd_1203 : Jvm.Cond.instanceMethod ({ cls := "FarFromAnybodyModel", name := "gives", desc := "(III)V" } : Jvm.MethodName) ∈ lw_tbl := in_5 (List.mem_of_getElem? (i := 154) rfl)
theorem wd_1204 : Jvm.Cond.code ({ cls := "FarFromAnybodyModel", name := "gives", desc := "(III)V" } : Jvm.MethodName) prog_11_method_10_code (4 : Nat) (Option.none : Option Jvm.ClassFile.FieldType) ∈ lw_tbl := in_5 (List.mem_of_getElem? (i := 155) rfl)
theorem wd_1208 : Jvm.Cond.code ({ cls := "FarFromAnybodyModel", name := "man", desc := "(I)I" } : Jvm.MethodName) prog_11_method_20_code (2 : Nat) (Option.some Jvm.ClassFile.FieldType.int) ∈ lw_tbl := in_5 (List.mem_of_getElem? (i := 159) rfl)
theorem wd_1209 : Jvm.Cond.methodLink "FarFromAnybodyModel" (111 : Nat) ({ cls := "FarFromAnybodyModel", name := "isFree", desc := "(I)Z" } : Jvm.MethodName) ∈ lw_tbl := in_5 (List.mem_of_getElem? (i := 160) rfl)
theorem wd_1211 : Jvm.Cond.instanceMethod ({ cls := "FarFromAnybodyModel", name := "isFree", desc := "(I)Z" } : Jvm.MethodName) ∈ lw_tbl := in_5 (List.mem_of_getElem? (i := 162) rfl)
theorem wd_1212 : Jvm.Cond.code ({ cls := "FarFromAnybodyModel", name := "isFree", desc := "(I)Z" } : Jvm.MethodName) prog_11_method_19_code (2 : Nat) (Option.some Jvm.ClassFile.FieldType.boolean) ∈ lw_tbl := in_5 (List.mem_of_getElem? (i := 163) rfl)
theorem wd_1216 : Jvm.Cond.code ({ cls := "FarFromAnybodyModel", name := "stranger", desc := "(I)Z" } : Jvm.MethodName) prog_11_method_21_code (2 : Nat) (Option.some Jvm.ClassFile.FieldType.boolean) ∈ lw_tbl := in_5 (List.mem_of_getElem? (i := 167) rfl)
theorem wd_1220 : Jvm.Cond.code ({ cls := "FarFromAnybodyModel", name := "set", desc := "(III)Z" } : Jvm.MethodName) prog_11_method_23_code (4 : Nat) (Option.some Jvm.ClassFile.FieldType.boolean) ∈ lw_tbl := in_5 (List.mem_of_getElem? (i := 171) rfl)
theorem wd_1221 : Jvm.Cond.methodLink "FarFromAnybodyModel" (114 : Nat) ({ cls := "FarFromAnybodyModel", name := "isTent", desc := "(I)Z" } : Jvm.MethodName) ∈ lw_tbl := in_5 (List.mem_of_getElem? (i := 172) rfl)
theorem wd_1223 : Jvm.Cond.instanceMethod ({ cls := "FarFromAnybodyModel", name := "isTent", desc := "(I)Z" } : Jvm.MethodName) ∈ lw_tbl := in_5 (List.mem_of_getElem? (i := 174) rfl)
theorem wd_1224 : Jvm.Cond.code ({ cls := "FarFromAnybodyModel", name := "isTent", desc := "(I)Z" } : Jvm.MethodName) prog_11_method_8_code (2 : Nat) (Option.some Jvm.ClassFile.FieldType.boolean) ∈ lw_tbl := in_5 (List.mem_of_getElem? (i := 175) rfl)
theorem wd_1225 : Jvm.Cond.methodLink "FarFromAnybodyModel" (117 : Nat) ({ cls := "FarFromAnybodyModel", name := "couldStand", desc := "(II)Z" } : Jvm.MethodName) ∈ lw_tbl := in_5 (List.mem_of_getElem? (i := 176) rfl)
theorem wd_1227 : Jvm.Cond.instanceMethod ({ cls := "FarFromAnybodyModel", name := "couldStand", desc := "(II)Z" } : Jvm.MethodName) ∈ lw_tbl := in_5 (List.mem_of_getElem? (i := 178) rfl)
theorem wd_1228 : Jvm.Cond.code ({ cls := "FarFromAnybodyModel", name := "couldStand", desc := "(II)Z" } : Jvm.MethodName) prog_11_method_22_code (3 : Nat) (Option.some Jvm.ClassFile.FieldType.boolean) ∈ lw_tbl := in_5 (List.mem_of_getElem? (i := 179) rfl)
theorem wd_1232 : Jvm.Cond.code ({ cls := "FarFromAnybodyModel", name := "feed", desc := "(IIIII)I" } : Jvm.MethodName) prog_11_method_24_code (8 : Nat) (Option.some Jvm.ClassFile.FieldType.int) ∈ lw_tbl := in_5 (List.mem_of_getElem? (i := 183) rfl)
theorem wd_1236 : Jvm.Cond.code ({ cls := "FarFromAnybodyModel", name := "end", desc := "(I)Z" } : Jvm.MethodName) prog_11_method_25_code (2 : Nat) (Option.some Jvm.ClassFile.FieldType.boolean) ∈ lw_tbl := in_5 (List.mem_of_getElem? (i := 187) rfl)
theorem wd_1240 : Jvm.Cond.code ({ cls := "FarFromAnybodyModel", name := "text", desc := "()I" } : Jvm.MethodName) prog_11_method_44_code (3 : Nat) (Option.some Jvm.ClassFile.FieldType.int) ∈ lw_tbl := in_5 (List.mem_of_getElem? (i := 191) rfl)
theorem wd_1241 : Jvm.Cond.methodLink "FarFromAnybodyModel" (199 : Nat) ({ cls := "FarFromAnybodyModel", name := "next0", desc := "()V" } : Jvm.MethodName) ∈ lw_tbl := in_5 (List.mem_of_getElem? (i := 192) rfl)
theorem wd_1243 : Jvm.Cond.instanceMethod ({ cls := "FarFromAnybodyModel", name := "next0", desc := "()V" } : Jvm.MethodName) ∈ lw_tbl := in_5 (List.mem_of_getElem? (i := 194) rfl)
theorem wd_1244 : Jvm.Cond.code ({ cls := "FarFromAnybodyModel", name := "next0", desc := "()V" } : Jvm.MethodName) prog_11_method_32_code (3 : Nat) (Option.none : Option Jvm.ClassFile.FieldType) ∈ lw_tbl := in_5 (List.mem_of_getElem? (i := 195) rfl)
theorem wd_1245 : Jvm.Cond.methodLink "FarFromAnybodyModel" (172 : Nat) ({ cls := "FarFromAnybodyModel", name := "see", desc := "(I)I" } : Jvm.MethodName) ∈ lw_tbl := in_5 (List.mem_of_getElem? (i := 196) rfl)
theorem wd_1247 : Jvm.Cond.instanceMethod ({ cls := "FarFromAnybodyModel", name := "see", desc := "(I)I" } : Jvm.MethodName) ∈ lw_tbl := in_5 (List.mem_of_getElem? (i := 198) rfl)
theorem wd_1248 : Jvm.Cond.code ({ cls := "FarFromAnybodyModel", name := "see", desc := "(I)I" } : Jvm.MethodName) prog_11_method_26_code (2 : Nat) (Option.some Jvm.ClassFile.FieldType.int) ∈ lw_tbl := in_5 (List.mem_of_getElem? (i := 199) rfl)
theorem wd_1249 : Jvm.Cond.methodLink "FarFromAnybodyModel" (178 : Nat) ({ cls := "FarFromAnybodyModel", name := "isLetter", desc := "(I)Z" } : Jvm.MethodName) ∈ lw_tbl := in_5 (List.mem_of_getElem? (i := 200) rfl)
theorem wd_1250 : Jvm.Cond.static ({ cls := "FarFromAnybodyModel", name := "isLetter", desc := "(I)Z" } : Jvm.MethodName) ∈ lw_tbl := in_5 (List.mem_of_getElem? (i := 201) rfl)
theorem wd_1251 : Jvm.Cond.code ({ cls := "FarFromAnybodyModel", name := "isLetter", desc := "(I)Z" } : Jvm.MethodName) prog_11_method_27_code (1 : Nat) (Option.some Jvm.ClassFile.FieldType.boolean) ∈ lw_tbl := in_5 (List.mem_of_getElem? (i := 202) rfl)
theorem wd_1252 : Jvm.Cond.methodLink "FarFromAnybodyModel" (181 : Nat) ({ cls := "FarFromAnybodyModel", name := "word", desc := "()I" } : Jvm.MethodName) ∈ lw_tbl := in_5 (List.mem_of_getElem? (i := 203) rfl)
theorem wd_1254 : Jvm.Cond.instanceMethod ({ cls := "FarFromAnybodyModel", name := "word", desc := "()I" } : Jvm.MethodName) ∈ lw_tbl := in_5 (List.mem_of_getElem? (i := 205) rfl)
theorem wd_1255 : Jvm.Cond.code ({ cls := "FarFromAnybodyModel", name := "word", desc := "()I" } : Jvm.MethodName) prog_11_method_31_code (1 : Nat) (Option.some Jvm.ClassFile.FieldType.int) ∈ lw_tbl := in_5 (List.mem_of_getElem? (i := 206) rfl)
theorem wd_1256 : Jvm.Cond.stringRef "FarFromAnybodyModel" (159 : Nat) "when" ∈ lw_tbl := in_5 (List.mem_of_getElem? (i := 207) rfl)
theorem wd_1257 : Jvm.Cond.methodLink "FarFromAnybodyModel" (141 : Nat) ({ cls := "FarFromAnybodyModel", name := "is", desc := "(Ljava/lang/String;)Z" } : Jvm.MethodName) ∈ lw_tbl := in_5 (List.mem_of_getElem? (i := 208) rfl)
theorem wd_1259 : Jvm.Cond.instanceMethod ({ cls := "FarFromAnybodyModel", name := "is", desc := "(Ljava/lang/String;)Z" } : Jvm.MethodName) ∈ lw_tbl := in_5 (List.mem_of_getElem? (i := 210) rfl)
theorem wd_1260 : Jvm.Cond.code ({ cls := "FarFromAnybodyModel", name := "is", desc := "(Ljava/lang/String;)Z" } : Jvm.MethodName) prog_11_method_29_code (4 : Nat) (Option.some Jvm.ClassFile.FieldType.boolean) ∈ lw_tbl := in_5 (List.mem_of_getElem? (i := 211) rfl)
theorem wd_1261 : Jvm.Cond.methodLink "FarFromAnybodyModel" (129 : Nat) ({ cls := "java/lang/String", name := "length", desc := "()I" } : Jvm.MethodName) ∈ lw_tbl := in_5 (List.mem_of_getElem? (i := 212) rfl)
theorem wd_1262 : Jvm.Cond.methodLink "FarFromAnybodyModel" (135 : Nat) ({ cls := "java/lang/String", name := "charAt", desc := "(I)C" } : Jvm.MethodName) ∈ lw_tbl := in_5 (List.mem_of_getElem? (i := 213) rfl)
theorem wd_1263 : Jvm.Cond.stringRef "FarFromAnybodyModel" (161 : Nat) "or" ∈ lw_tbl := in_5 (List.mem_of_getElem? (i := 214) rfl)
theorem wd_1264 : Jvm.Cond.stringRef "FarFromAnybodyModel" (163 : Nat) "and" ∈ lw_tbl := in_5 (List.mem_of_getElem? (i := 215) rfl)
theorem wd_1265 : Jvm.Cond.stringRef "FarFromAnybodyModel" (165 : Nat) "not" ∈ lw_tbl := in_5 (List.mem_of_getElem? (i := 216) rfl)
theorem wd_1266 : Jvm.Cond.stringRef "FarFromAnybodyModel" (167 : Nat) "pay" ∈ lw_tbl := in_5 (List.mem_of_getElem? (i := 217) rfl)
theorem wd_1267 : Jvm.Cond.methodLink "FarFromAnybodyModel" (169 : Nat) ({ cls := "FarFromAnybodyModel", name := "nameWord", desc := "()I" } : Jvm.MethodName) ∈ lw_tbl := in_5 (List.mem_of_getElem? (i := 218) rfl)
theorem wd_1269 : Jvm.Cond.instanceMethod ({ cls := "FarFromAnybodyModel", name := "nameWord", desc := "()I" } : Jvm.MethodName) ∈ lw_tbl := in_5 (List.mem_of_getElem? (i := 220) rfl)
theorem wd_1270 : Jvm.Cond.code ({ cls := "FarFromAnybodyModel", name := "nameWord", desc := "()I" } : Jvm.MethodName) prog_11_method_30_code (1 : Nat) (Option.some Jvm.ClassFile.FieldType.int) ∈ lw_tbl := in_5 (List.mem_of_getElem? (i := 221) rfl)
theorem wd_1271 : Jvm.Cond.stringRef "FarFromAnybodyModel" (139 : Nat) "far" ∈ lw_tbl := in_5 (List.mem_of_getElem? (i := 222) rfl)
theorem wd_1272 : Jvm.Cond.stringRef "FarFromAnybodyModel" (145 : Nat) "edge" ∈ lw_tbl := in_5 (List.mem_of_getElem? (i := 223) rfl)
theorem wd_1273 : Jvm.Cond.stringRef "FarFromAnybodyModel" (147 : Nat) "water" ∈ lw_tbl := in_5 (List.mem_of_getElem? (i := 224) rfl)
theorem wd_1274 : Jvm.Cond.stringRef "FarFromAnybodyModel" (149 : Nat) "near" ∈ lw_tbl := in_5 (List.mem_of_getElem? (i := 225) rfl)
theorem wd_1275 : Jvm.Cond.stringRef "FarFromAnybodyModel" (151 : Nat) "kin" ∈ lw_tbl := in_5 (List.mem_of_getElem? (i := 226) rfl)
theorem wd_1276 : Jvm.Cond.stringRef "FarFromAnybodyModel" (153 : Nat) "x" ∈ lw_tbl := in_5 (List.mem_of_getElem? (i := 227) rfl)
theorem wd_1277 : Jvm.Cond.stringRef "FarFromAnybodyModel" (155 : Nat) "y" ∈ lw_tbl := in_5 (List.mem_of_getElem? (i := 228) rfl)
theorem wd_1278 : Jvm.Cond.stringRef "FarFromAnybodyModel" (157 : Nat) "evening" ∈ lw_tbl := in_5 (List.mem_of_getElem? (i := 229) rfl)
theorem wd_1279 : Jvm.Cond.methodLink "FarFromAnybodyModel" (184 : Nat) ({ cls := "FarFromAnybodyModel", name := "isDigit", desc := "(I)Z" } : Jvm.MethodName) ∈ lw_tbl := in_5 (List.mem_of_getElem? (i := 230) rfl)
theorem wd_1280 : Jvm.Cond.static ({ cls := "FarFromAnybodyModel", name := "isDigit", desc := "(I)Z" } : Jvm.MethodName) ∈ lw_tbl := in_5 (List.mem_of_getElem? (i := 231) rfl)
theorem wd_1281 : Jvm.Cond.code ({ cls := "FarFromAnybodyModel", name := "isDigit", desc := "(I)Z" } : Jvm.MethodName) prog_11_method_28_code (1 : Nat) (Option.some Jvm.ClassFile.FieldType.boolean) ∈ lw_tbl := in_5 (List.mem_of_getElem? (i := 232) rfl)
theorem wd_1282 : Jvm.Cond.methodLink "FarFromAnybodyModel" (239 : Nat) ({ cls := "FarFromAnybodyModel", name := "aLine", desc := "()Z" } : Jvm.MethodName) ∈ lw_tbl := in_5 (List.mem_of_getElem? (i := 233) rfl)
theorem wd_1284 : Jvm.Cond.instanceMethod ({ cls := "FarFromAnybodyModel", name := "aLine", desc := "()Z" } : Jvm.MethodName) ∈ lw_tbl := in_5 (List.mem_of_getElem? (i := 235) rfl)
theorem wd_1285 : Jvm.Cond.code ({ cls := "FarFromAnybodyModel", name := "aLine", desc := "()Z" } : Jvm.MethodName) prog_11_method_43_code (1 : Nat) (Option.some Jvm.ClassFile.FieldType.boolean) ∈ lw_tbl := in_5 (List.mem_of_getElem? (i := 236) rfl)
theorem wd_1286 : Jvm.Cond.methodLink "FarFromAnybodyModel" (196 : Nat) ({ cls := "FarFromAnybodyModel", name := "bad", desc := "(I)Z" } : Jvm.MethodName) ∈ lw_tbl := in_5 (List.mem_of_getElem? (i := 237) rfl)
theorem wd_1288 : Jvm.Cond.instanceMethod ({ cls := "FarFromAnybodyModel", name := "bad", desc := "(I)Z" } : Jvm.MethodName) ∈ lw_tbl := in_5 (List.mem_of_getElem? (i := 239) rfl)
theorem wd_1289 : Jvm.Cond.code ({ cls := "FarFromAnybodyModel", name := "bad", desc := "(I)Z" } : Jvm.MethodName) prog_11_method_33_code (2 : Nat) (Option.some Jvm.ClassFile.FieldType.boolean) ∈ lw_tbl := in_6 (List.mem_of_getElem? (i := 0) rfl)
theorem wd_1290 : Jvm.Cond.methodLink "FarFromAnybodyModel" (233 : Nat) ({ cls := "FarFromAnybodyModel", name := "sumUp", desc := "()Z" } : Jvm.MethodName) ∈ lw_tbl := in_6 (List.mem_of_getElem? (i := 1) rfl)
theorem wd_1292 : Jvm.Cond.instanceMethod ({ cls := "FarFromAnybodyModel", name := "sumUp", desc := "()Z" } : Jvm.MethodName) ∈ lw_tbl := in_6 (List.mem_of_getElem? (i := 3) rfl)
theorem wd_1293 : Jvm.Cond.code ({ cls := "FarFromAnybodyModel", name := "sumUp", desc := "()Z" } : Jvm.MethodName) prog_11_method_37_code (2 : Nat) (Option.some Jvm.ClassFile.FieldType.boolean) ∈ lw_tbl := in_6 (List.mem_of_getElem? (i := 4) rfl)
theorem wd_1294 : Jvm.Cond.methodLink "FarFromAnybodyModel" (208 : Nat) ({ cls := "FarFromAnybodyModel", name := "product", desc := "()Z" } : Jvm.MethodName) ∈ lw_tbl := in_6 (List.mem_of_getElem? (i := 5) rfl)
theorem wd_1296 : Jvm.Cond.instanceMethod ({ cls := "FarFromAnybodyModel", name := "product", desc := "()Z" } : Jvm.MethodName) ∈ lw_tbl := in_6 (List.mem_of_getElem? (i := 7) rfl)
theorem wd_1297 : Jvm.Cond.code ({ cls := "FarFromAnybodyModel", name := "product", desc := "()Z" } : Jvm.MethodName) prog_11_method_38_code (3 : Nat) (Option.some Jvm.ClassFile.FieldType.boolean) ∈ lw_tbl := in_6 (List.mem_of_getElem? (i := 8) rfl)
theorem wd_1298 : Jvm.Cond.methodLink "FarFromAnybodyModel" (215 : Nat) ({ cls := "FarFromAnybodyModel", name := "unit", desc := "()Z" } : Jvm.MethodName) ∈ lw_tbl := in_6 (List.mem_of_getElem? (i := 9) rfl)
theorem wd_1300 : Jvm.Cond.instanceMethod ({ cls := "FarFromAnybodyModel", name := "unit", desc := "()Z" } : Jvm.MethodName) ∈ lw_tbl := in_6 (List.mem_of_getElem? (i := 11) rfl)
theorem wd_1301 : Jvm.Cond.code ({ cls := "FarFromAnybodyModel", name := "unit", desc := "()Z" } : Jvm.MethodName) prog_11_method_39_code (2 : Nat) (Option.some Jvm.ClassFile.FieldType.boolean) ∈ lw_tbl := in_6 (List.mem_of_getElem? (i := 12) rfl)
theorem wd_1302 : Jvm.Cond.methodLink "FarFromAnybodyModel" (212 : Nat) ({ cls := "FarFromAnybodyModel", name := "lay", desc := "(II)V" } : Jvm.MethodName) ∈ lw_tbl := in_6 (List.mem_of_getElem? (i := 13) rfl)
theorem wd_1304 : Jvm.Cond.instanceMethod ({ cls := "FarFromAnybodyModel", name := "lay", desc := "(II)V" } : Jvm.MethodName) ∈ lw_tbl := in_6 (List.mem_of_getElem? (i := 15) rfl)
theorem wd_1305 : Jvm.Cond.code ({ cls := "FarFromAnybodyModel", name := "lay", desc := "(II)V" } : Jvm.MethodName) prog_11_method_35_code (3 : Nat) (Option.none : Option Jvm.ClassFile.FieldType) ∈ lw_tbl := in_6 (List.mem_of_getElem? (i := 16) rfl)
theorem wd_1306 : Jvm.Cond.methodLink "FarFromAnybodyModel" (227 : Nat) ({ cls := "FarFromAnybodyModel", name := "any", desc := "()Z" } : Jvm.MethodName) ∈ lw_tbl := in_6 (List.mem_of_getElem? (i := 17) rfl)
theorem wd_1308 : Jvm.Cond.instanceMethod ({ cls := "FarFromAnybodyModel", name := "any", desc := "()Z" } : Jvm.MethodName) ∈ lw_tbl := in_6 (List.mem_of_getElem? (i := 19) rfl)
theorem wd_1309 : Jvm.Cond.code ({ cls := "FarFromAnybodyModel", name := "any", desc := "()Z" } : Jvm.MethodName) prog_11_method_40_code (1 : Nat) (Option.some Jvm.ClassFile.FieldType.boolean) ∈ lw_tbl := in_6 (List.mem_of_getElem? (i := 20) rfl)
theorem wd_1310 : Jvm.Cond.methodLink "FarFromAnybodyModel" (218 : Nat) ({ cls := "FarFromAnybodyModel", name := "every", desc := "()Z" } : Jvm.MethodName) ∈ lw_tbl := in_6 (List.mem_of_getElem? (i := 21) rfl)
theorem wd_1312 : Jvm.Cond.instanceMethod ({ cls := "FarFromAnybodyModel", name := "every", desc := "()Z" } : Jvm.MethodName) ∈ lw_tbl := in_6 (List.mem_of_getElem? (i := 23) rfl)
theorem wd_1313 : Jvm.Cond.code ({ cls := "FarFromAnybodyModel", name := "every", desc := "()Z" } : Jvm.MethodName) prog_11_method_41_code (1 : Nat) (Option.some Jvm.ClassFile.FieldType.boolean) ∈ lw_tbl := in_6 (List.mem_of_getElem? (i := 24) rfl)
theorem wd_1314 : Jvm.Cond.methodLink "FarFromAnybodyModel" (221 : Nat) ({ cls := "FarFromAnybodyModel", name := "oneTest", desc := "()Z" } : Jvm.MethodName) ∈ lw_tbl := in_6 (List.mem_of_getElem? (i := 25) rfl)
theorem wd_1316 : Jvm.Cond.instanceMethod ({ cls := "FarFromAnybodyModel", name := "oneTest", desc := "()Z" } : Jvm.MethodName) ∈ lw_tbl := in_6 (List.mem_of_getElem? (i := 27) rfl)
theorem wd_1317 : Jvm.Cond.code ({ cls := "FarFromAnybodyModel", name := "oneTest", desc := "()Z" } : Jvm.MethodName) prog_11_method_42_code (2 : Nat) (Option.some Jvm.ClassFile.FieldType.boolean) ∈ lw_tbl := in_6 (List.mem_of_getElem? (i := 28) rfl)
theorem wd_1318 : Jvm.Cond.methodLink "FarFromAnybodyModel" (224 : Nat) ({ cls := "FarFromAnybodyModel", name := "opens", desc := "()Z" } : Jvm.MethodName) ∈ lw_tbl := in_6 (List.mem_of_getElem? (i := 29) rfl)
theorem wd_1320 : Jvm.Cond.instanceMethod ({ cls := "FarFromAnybodyModel", name := "opens", desc := "()Z" } : Jvm.MethodName) ∈ lw_tbl := in_6 (List.mem_of_getElem? (i := 31) rfl)
theorem wd_1321 : Jvm.Cond.code ({ cls := "FarFromAnybodyModel", name := "opens", desc := "()Z" } : Jvm.MethodName) prog_11_method_36_code (1 : Nat) (Option.some Jvm.ClassFile.FieldType.boolean) ∈ lw_tbl := in_6 (List.mem_of_getElem? (i := 32) rfl)
theorem wd_1322 : Jvm.Cond.methodLink "FarFromAnybodyModel" (230 : Nat) ({ cls := "FarFromAnybodyModel", name := "need", desc := "(I)Z" } : Jvm.MethodName) ∈ lw_tbl := in_6 (List.mem_of_getElem? (i := 33) rfl)
theorem wd_1324 : Jvm.Cond.instanceMethod ({ cls := "FarFromAnybodyModel", name := "need", desc := "(I)Z" } : Jvm.MethodName) ∈ lw_tbl := in_6 (List.mem_of_getElem? (i := 35) rfl)
theorem wd_1325 : Jvm.Cond.code ({ cls := "FarFromAnybodyModel", name := "need", desc := "(I)Z" } : Jvm.MethodName) prog_11_method_34_code (2 : Nat) (Option.some Jvm.ClassFile.FieldType.boolean) ∈ lw_tbl := in_6 (List.mem_of_getElem? (i := 36) rfl)
theorem wd_1329 : Jvm.Cond.code ({ cls := "FarFromAnybodyModel", name := "fault", desc := "(I)I" } : Jvm.MethodName) prog_11_method_45_code (2 : Nat) (Option.some Jvm.ClassFile.FieldType.int) ∈ lw_tbl := in_6 (List.mem_of_getElem? (i := 40) rfl)
theorem wd_1333 : Jvm.Cond.code ({ cls := "FarFromAnybodyModel", name := "way", desc := "(II)I" } : Jvm.MethodName) prog_11_method_52_code (3 : Nat) (Option.some Jvm.ClassFile.FieldType.int) ∈ lw_tbl := in_6 (List.mem_of_getElem? (i := 44) rfl)
theorem wd_1334 : Jvm.Cond.methodLink "FarFromAnybodyModel" (249 : Nat) ({ cls := "FarFromAnybodyModel", name := "isDry", desc := "(I)Z" } : Jvm.MethodName) ∈ lw_tbl := in_6 (List.mem_of_getElem? (i := 45) rfl)
theorem wd_1336 : Jvm.Cond.instanceMethod ({ cls := "FarFromAnybodyModel", name := "isDry", desc := "(I)Z" } : Jvm.MethodName) ∈ lw_tbl := in_6 (List.mem_of_getElem? (i := 47) rfl)
theorem wd_1337 : Jvm.Cond.code ({ cls := "FarFromAnybodyModel", name := "isDry", desc := "(I)Z" } : Jvm.MethodName) prog_11_method_49_code (2 : Nat) (Option.some Jvm.ClassFile.FieldType.boolean) ∈ lw_tbl := in_6 (List.mem_of_getElem? (i := 48) rfl)
theorem wd_1338 : Jvm.Cond.methodLink "FarFromAnybodyModel" (259 : Nat) ({ cls := "FarFromAnybodyModel", name := "wayOf", desc := "(II)I" } : Jvm.MethodName) ∈ lw_tbl := in_6 (List.mem_of_getElem? (i := 49) rfl)
theorem wd_1340 : Jvm.Cond.instanceMethod ({ cls := "FarFromAnybodyModel", name := "wayOf", desc := "(II)I" } : Jvm.MethodName) ∈ lw_tbl := in_6 (List.mem_of_getElem? (i := 51) rfl)
theorem wd_1341 : Jvm.Cond.code ({ cls := "FarFromAnybodyModel", name := "wayOf", desc := "(II)I" } : Jvm.MethodName) prog_11_method_51_code (4 : Nat) (Option.some Jvm.ClassFile.FieldType.int) ∈ lw_tbl := in_6 (List.mem_of_getElem? (i := 52) rfl)
theorem wd_1342 : Jvm.Cond.methodLink "FarFromAnybodyModel" (255 : Nat) ({ cls := "FarFromAnybodyModel", name := "laysWays", desc := "(I)V" } : Jvm.MethodName) ∈ lw_tbl := in_6 (List.mem_of_getElem? (i := 53) rfl)
theorem wd_1344 : Jvm.Cond.instanceMethod ({ cls := "FarFromAnybodyModel", name := "laysWays", desc := "(I)V" } : Jvm.MethodName) ∈ lw_tbl := in_6 (List.mem_of_getElem? (i := 55) rfl)
theorem wd_1345 : Jvm.Cond.code ({ cls := "FarFromAnybodyModel", name := "laysWays", desc := "(I)V" } : Jvm.MethodName) prog_11_method_50_code (7 : Nat) (Option.none : Option Jvm.ClassFile.FieldType) ∈ lw_tbl := in_6 (List.mem_of_getElem? (i := 56) rfl)
theorem wd_1346 : Jvm.Cond.methodLink "FarFromAnybodyModel" (252 : Nat) ({ cls := "FarFromAnybodyModel", name := "beside", desc := "(II)I" } : Jvm.MethodName) ∈ lw_tbl := in_6 (List.mem_of_getElem? (i := 57) rfl)
theorem wd_1347 : Jvm.Cond.static ({ cls := "FarFromAnybodyModel", name := "beside", desc := "(II)I" } : Jvm.MethodName) ∈ lw_tbl := in_6 (List.mem_of_getElem? (i := 58) rfl)
theorem wd_1348 : Jvm.Cond.code ({ cls := "FarFromAnybodyModel", name := "beside", desc := "(II)I" } : Jvm.MethodName) prog_11_method_48_code (4 : Nat) (Option.some Jvm.ClassFile.FieldType.int) ∈ lw_tbl := in_6 (List.mem_of_getElem? (i := 59) rfl)
theorem wd_1352 : Jvm.Cond.code ({ cls := "FarFromAnybodyModel", name := "evenings", desc := "(I)I" } : Jvm.MethodName) prog_11_method_67_code (6 : Nat) (Option.some Jvm.ClassFile.FieldType.int) ∈ lw_tbl := in_6 (List.mem_of_getElem? (i := 63) rfl)
theorem wd_1353 : Jvm.Cond.methodLink "FarFromAnybodyModel" (312 : Nat) ({ cls := "FarFromAnybodyModel", name := "noon", desc := "(Z)I" } : Jvm.MethodName) ∈ lw_tbl := in_6 (List.mem_of_getElem? (i := 64) rfl)
theorem wd_1355 : Jvm.Cond.instanceMethod ({ cls := "FarFromAnybodyModel", name := "noon", desc := "(Z)I" } : Jvm.MethodName) ∈ lw_tbl := in_6 (List.mem_of_getElem? (i := 66) rfl)
theorem wd_1356 : Jvm.Cond.code ({ cls := "FarFromAnybodyModel", name := "noon", desc := "(Z)I" } : Jvm.MethodName) prog_11_method_66_code (5 : Nat) (Option.some Jvm.ClassFile.FieldType.int) ∈ lw_tbl := in_6 (List.mem_of_getElem? (i := 67) rfl)
theorem wd_1357 : Jvm.Cond.methodLink "FarFromAnybodyModel" (308 : Nat) ({ cls := "FarFromAnybodyModel", name := "chosen", desc := "(IZ)I" } : Jvm.MethodName) ∈ lw_tbl := in_6 (List.mem_of_getElem? (i := 68) rfl)
theorem wd_1359 : Jvm.Cond.instanceMethod ({ cls := "FarFromAnybodyModel", name := "chosen", desc := "(IZ)I" } : Jvm.MethodName) ∈ lw_tbl := in_6 (List.mem_of_getElem? (i := 70) rfl)
theorem wd_1360 : Jvm.Cond.code ({ cls := "FarFromAnybodyModel", name := "chosen", desc := "(IZ)I" } : Jvm.MethodName) prog_11_method_65_code (6 : Nat) (Option.some Jvm.ClassFile.FieldType.int) ∈ lw_tbl := in_6 (List.mem_of_getElem? (i := 71) rfl)
theorem wd_1361 : Jvm.Cond.methodLink "FarFromAnybodyModel" (299 : Nat) ({ cls := "FarFromAnybodyModel", name := "draw", desc := "(I)I" } : Jvm.MethodName) ∈ lw_tbl := in_6 (List.mem_of_getElem? (i := 72) rfl)
theorem wd_1363 : Jvm.Cond.instanceMethod ({ cls := "FarFromAnybodyModel", name := "draw", desc := "(I)I" } : Jvm.MethodName) ∈ lw_tbl := in_6 (List.mem_of_getElem? (i := 74) rfl)
theorem wd_1364 : Jvm.Cond.code ({ cls := "FarFromAnybodyModel", name := "draw", desc := "(I)I" } : Jvm.MethodName) prog_11_method_12_code (2 : Nat) (Option.some Jvm.ClassFile.FieldType.int) ∈ lw_tbl := in_6 (List.mem_of_getElem? (i := 75) rfl)
theorem wd_1365 : Jvm.Cond.constant "FarFromAnybodyModel" (88 : Nat) (1664525 : Int32) ∈ lw_tbl := in_6 (List.mem_of_getElem? (i := 76) rfl)
theorem wd_1366 : Jvm.Cond.constant "FarFromAnybodyModel" (89 : Nat) (1013904223 : Int32) ∈ lw_tbl := in_6 (List.mem_of_getElem? (i := 77) rfl)
theorem wd_1367 : Jvm.Cond.methodLink "FarFromAnybodyModel" (302 : Nat) ({ cls := "FarFromAnybodyModel", name := "where", desc := "(I)I" } : Jvm.MethodName) ∈ lw_tbl := in_6 (List.mem_of_getElem? (i := 78) rfl)
theorem wd_1369 : Jvm.Cond.instanceMethod ({ cls := "FarFromAnybodyModel", name := "where", desc := "(I)I" } : Jvm.MethodName) ∈ lw_tbl := in_6 (List.mem_of_getElem? (i := 80) rfl)
theorem wd_1370 : Jvm.Cond.code ({ cls := "FarFromAnybodyModel", name := "where", desc := "(I)I" } : Jvm.MethodName) prog_11_method_63_code (6 : Nat) (Option.some Jvm.ClassFile.FieldType.int) ∈ lw_tbl := in_6 (List.mem_of_getElem? (i := 81) rfl)
theorem wd_1371 : Jvm.Cond.methodLink "FarFromAnybodyModel" (296 : Nat) ({ cls := "FarFromAnybodyModel", name := "payAt", desc := "(II)I" } : Jvm.MethodName) ∈ lw_tbl := in_6 (List.mem_of_getElem? (i := 82) rfl)
theorem wd_1373 : Jvm.Cond.instanceMethod ({ cls := "FarFromAnybodyModel", name := "payAt", desc := "(II)I" } : Jvm.MethodName) ∈ lw_tbl := in_6 (List.mem_of_getElem? (i := 84) rfl)
theorem wd_1374 : Jvm.Cond.code ({ cls := "FarFromAnybodyModel", name := "payAt", desc := "(II)I" } : Jvm.MethodName) prog_11_method_62_code (5 : Nat) (Option.some Jvm.ClassFile.FieldType.int) ∈ lw_tbl := in_6 (List.mem_of_getElem? (i := 85) rfl)
theorem wd_1375 : Jvm.Cond.methodLink "FarFromAnybodyModel" (293 : Nat) ({ cls := "FarFromAnybodyModel", name := "payOf", desc := "(I)I" } : Jvm.MethodName) ∈ lw_tbl := in_6 (List.mem_of_getElem? (i := 86) rfl)
theorem wd_1377 : Jvm.Cond.instanceMethod ({ cls := "FarFromAnybodyModel", name := "payOf", desc := "(I)I" } : Jvm.MethodName) ∈ lw_tbl := in_6 (List.mem_of_getElem? (i := 88) rfl)
theorem wd_1378 : Jvm.Cond.code ({ cls := "FarFromAnybodyModel", name := "payOf", desc := "(I)I" } : Jvm.MethodName) prog_11_method_61_code (3 : Nat) (Option.some Jvm.ClassFile.FieldType.int) ∈ lw_tbl := in_6 (List.mem_of_getElem? (i := 89) rfl)
theorem wd_1379 : Jvm.Cond.methodLink "FarFromAnybodyModel" (280 : Nat) ({ cls := "FarFromAnybodyModel", name := "kinOf", desc := "(I)I" } : Jvm.MethodName) ∈ lw_tbl := in_6 (List.mem_of_getElem? (i := 90) rfl)
theorem wd_1381 : Jvm.Cond.instanceMethod ({ cls := "FarFromAnybodyModel", name := "kinOf", desc := "(I)I" } : Jvm.MethodName) ∈ lw_tbl := in_6 (List.mem_of_getElem? (i := 92) rfl)
theorem wd_1382 : Jvm.Cond.code ({ cls := "FarFromAnybodyModel", name := "kinOf", desc := "(I)I" } : Jvm.MethodName) prog_11_method_57_code (4 : Nat) (Option.some Jvm.ClassFile.FieldType.int) ∈ lw_tbl := in_6 (List.mem_of_getElem? (i := 93) rfl)
theorem wd_1383 : Jvm.Cond.methodLink "FarFromAnybodyModel" (265 : Nat) ({ cls := "FarFromAnybodyModel", name := "areKin", desc := "(II)Z" } : Jvm.MethodName) ∈ lw_tbl := in_6 (List.mem_of_getElem? (i := 94) rfl)
theorem wd_1385 : Jvm.Cond.instanceMethod ({ cls := "FarFromAnybodyModel", name := "areKin", desc := "(II)Z" } : Jvm.MethodName) ∈ lw_tbl := in_6 (List.mem_of_getElem? (i := 96) rfl)
theorem wd_1386 : Jvm.Cond.code ({ cls := "FarFromAnybodyModel", name := "areKin", desc := "(II)Z" } : Jvm.MethodName) prog_11_method_53_code (3 : Nat) (Option.some Jvm.ClassFile.FieldType.boolean) ∈ lw_tbl := in_6 (List.mem_of_getElem? (i := 97) rfl)
theorem wd_1387 : Jvm.Cond.methodLink "FarFromAnybodyModel" (283 : Nat) ({ cls := "FarFromAnybodyModel", name := "farOf", desc := "(I)I" } : Jvm.MethodName) ∈ lw_tbl := in_6 (List.mem_of_getElem? (i := 98) rfl)
theorem wd_1389 : Jvm.Cond.instanceMethod ({ cls := "FarFromAnybodyModel", name := "farOf", desc := "(I)I" } : Jvm.MethodName) ∈ lw_tbl := in_6 (List.mem_of_getElem? (i := 100) rfl)
theorem wd_1390 : Jvm.Cond.code ({ cls := "FarFromAnybodyModel", name := "farOf", desc := "(I)I" } : Jvm.MethodName) prog_11_method_56_code (4 : Nat) (Option.some Jvm.ClassFile.FieldType.int) ∈ lw_tbl := in_6 (List.mem_of_getElem? (i := 101) rfl)
theorem wd_1391 : Jvm.Cond.methodLink "FarFromAnybodyModel" (271 : Nat) ({ cls := "FarFromAnybodyModel", name := "farAlone", desc := "(I)I" } : Jvm.MethodName) ∈ lw_tbl := in_6 (List.mem_of_getElem? (i := 102) rfl)
theorem wd_1393 : Jvm.Cond.instanceMethod ({ cls := "FarFromAnybodyModel", name := "farAlone", desc := "(I)I" } : Jvm.MethodName) ∈ lw_tbl := in_6 (List.mem_of_getElem? (i := 104) rfl)
theorem wd_1394 : Jvm.Cond.code ({ cls := "FarFromAnybodyModel", name := "farAlone", desc := "(I)I" } : Jvm.MethodName) prog_11_method_55_code (5 : Nat) (Option.some Jvm.ClassFile.FieldType.int) ∈ lw_tbl := in_6 (List.mem_of_getElem? (i := 105) rfl)
theorem wd_1395 : Jvm.Cond.methodLink "FarFromAnybodyModel" (268 : Nat) ({ cls := "FarFromAnybodyModel", name := "nearer", desc := "(III)I" } : Jvm.MethodName) ∈ lw_tbl := in_6 (List.mem_of_getElem? (i := 106) rfl)
theorem wd_1397 : Jvm.Cond.instanceMethod ({ cls := "FarFromAnybodyModel", name := "nearer", desc := "(III)I" } : Jvm.MethodName) ∈ lw_tbl := in_6 (List.mem_of_getElem? (i := 108) rfl)
theorem wd_1398 : Jvm.Cond.code ({ cls := "FarFromAnybodyModel", name := "nearer", desc := "(III)I" } : Jvm.MethodName) prog_11_method_54_code (5 : Nat) (Option.some Jvm.ClassFile.FieldType.int) ∈ lw_tbl := in_6 (List.mem_of_getElem? (i := 109) rfl)
theorem wd_1399 : Jvm.Cond.methodLink "FarFromAnybodyModel" (262 : Nat) ({ cls := "FarFromAnybodyModel", name := "least", desc := "(II)I" } : Jvm.MethodName) ∈ lw_tbl := in_6 (List.mem_of_getElem? (i := 110) rfl)
theorem wd_1400 : Jvm.Cond.static ({ cls := "FarFromAnybodyModel", name := "least", desc := "(II)I" } : Jvm.MethodName) ∈ lw_tbl := in_6 (List.mem_of_getElem? (i := 111) rfl)
theorem wd_1401 : Jvm.Cond.code ({ cls := "FarFromAnybodyModel", name := "least", desc := "(II)I" } : Jvm.MethodName) prog_11_method_4_code (2 : Nat) (Option.some Jvm.ClassFile.FieldType.int) ∈ lw_tbl := in_6 (List.mem_of_getElem? (i := 112) rfl)
theorem wd_1402 : Jvm.Cond.methodLink "FarFromAnybodyModel" (286 : Nat) ({ cls := "FarFromAnybodyModel", name := "nearOf", desc := "(I)I" } : Jvm.MethodName) ∈ lw_tbl := in_6 (List.mem_of_getElem? (i := 113) rfl)
theorem wd_1404 : Jvm.Cond.instanceMethod ({ cls := "FarFromAnybodyModel", name := "nearOf", desc := "(I)I" } : Jvm.MethodName) ∈ lw_tbl := in_6 (List.mem_of_getElem? (i := 115) rfl)
theorem wd_1405 : Jvm.Cond.code ({ cls := "FarFromAnybodyModel", name := "nearOf", desc := "(I)I" } : Jvm.MethodName) prog_11_method_59_code (5 : Nat) (Option.some Jvm.ClassFile.FieldType.int) ∈ lw_tbl := in_6 (List.mem_of_getElem? (i := 116) rfl)
theorem wd_1406 : Jvm.Cond.methodLink "FarFromAnybodyModel" (274 : Nat) ({ cls := "FarFromAnybodyModel", name := "isNear", desc := "(II)I" } : Jvm.MethodName) ∈ lw_tbl := in_6 (List.mem_of_getElem? (i := 117) rfl)
theorem wd_1408 : Jvm.Cond.instanceMethod ({ cls := "FarFromAnybodyModel", name := "isNear", desc := "(II)I" } : Jvm.MethodName) ∈ lw_tbl := in_6 (List.mem_of_getElem? (i := 119) rfl)
theorem wd_1409 : Jvm.Cond.code ({ cls := "FarFromAnybodyModel", name := "isNear", desc := "(II)I" } : Jvm.MethodName) prog_11_method_58_code (3 : Nat) (Option.some Jvm.ClassFile.FieldType.int) ∈ lw_tbl := in_6 (List.mem_of_getElem? (i := 120) rfl)
theorem wd_1410 : Jvm.Cond.methodLink "FarFromAnybodyModel" (289 : Nat) ({ cls := "FarFromAnybodyModel", name := "lawful", desc := "(IIII)I" } : Jvm.MethodName) ∈ lw_tbl := in_6 (List.mem_of_getElem? (i := 121) rfl)
theorem wd_1412 : Jvm.Cond.instanceMethod ({ cls := "FarFromAnybodyModel", name := "lawful", desc := "(IIII)I" } : Jvm.MethodName) ∈ lw_tbl := in_6 (List.mem_of_getElem? (i := 123) rfl)
theorem wd_1413 : Jvm.Cond.code ({ cls := "FarFromAnybodyModel", name := "lawful", desc := "(IIII)I" } : Jvm.MethodName) prog_11_method_60_code (8 : Nat) (Option.some Jvm.ClassFile.FieldType.int) ∈ lw_tbl := in_6 (List.mem_of_getElem? (i := 124) rfl)
theorem wd_1414 : Jvm.Cond.methodLink "FarFromAnybodyModel" (277 : Nat) ({ cls := "FarFromAnybodyModel", name := "comesTo", desc := "(II)I" } : Jvm.MethodName) ∈ lw_tbl := in_6 (List.mem_of_getElem? (i := 125) rfl)
theorem wd_1416 : Jvm.Cond.instanceMethod ({ cls := "FarFromAnybodyModel", name := "comesTo", desc := "(II)I" } : Jvm.MethodName) ∈ lw_tbl := in_6 (List.mem_of_getElem? (i := 127) rfl)
theorem wd_1417 : Jvm.Cond.code ({ cls := "FarFromAnybodyModel", name := "comesTo", desc := "(II)I" } : Jvm.MethodName) prog_11_method_47_code (7 : Nat) (Option.some Jvm.ClassFile.FieldType.int) ∈ lw_tbl := in_6 (List.mem_of_getElem? (i := 128) rfl)
theorem wd_1418 : Jvm.Cond.methodLink "FarFromAnybodyModel" (245 : Nat) ({ cls := "FarFromAnybodyModel", name := "both", desc := "(III)I" } : Jvm.MethodName) ∈ lw_tbl := in_6 (List.mem_of_getElem? (i := 129) rfl)
theorem wd_1419 : Jvm.Cond.static ({ cls := "FarFromAnybodyModel", name := "both", desc := "(III)I" } : Jvm.MethodName) ∈ lw_tbl := in_6 (List.mem_of_getElem? (i := 130) rfl)
theorem wd_1420 : Jvm.Cond.code ({ cls := "FarFromAnybodyModel", name := "both", desc := "(III)I" } : Jvm.MethodName) prog_11_method_46_code (3 : Nat) (Option.some Jvm.ClassFile.FieldType.int) ∈ lw_tbl := in_6 (List.mem_of_getElem? (i := 131) rfl)
theorem wd_1421 : Jvm.Cond.methodLink "FarFromAnybodyModel" (305 : Nat) ({ cls := "FarFromAnybodyModel", name := "bestBeside", desc := "(I)I" } : Jvm.MethodName) ∈ lw_tbl := in_6 (List.mem_of_getElem? (i := 132) rfl)
theorem wd_1423 : Jvm.Cond.instanceMethod ({ cls := "FarFromAnybodyModel", name := "bestBeside", desc := "(I)I" } : Jvm.MethodName) ∈ lw_tbl := in_6 (List.mem_of_getElem? (i := 134) rfl)
theorem wd_1424 : Jvm.Cond.code ({ cls := "FarFromAnybodyModel", name := "bestBeside", desc := "(I)I" } : Jvm.MethodName) prog_11_method_64_code (7 : Nat) (Option.some Jvm.ClassFile.FieldType.int) ∈ lw_tbl := in_6 (List.mem_of_getElem? (i := 135) rfl)
theorem wd_1428 : Jvm.Cond.code ({ cls := "FarFromAnybodyModel", name := "of", desc := "(II)I" } : Jvm.MethodName) prog_11_method_68_code (3 : Nat) (Option.some Jvm.ClassFile.FieldType.int) ∈ lw_tbl := in_6 (List.mem_of_getElem? (i := 139) rfl)
theorem wd_1432 : Jvm.Cond.code ({ cls := "FarFromAnybodyModel", name := "at", desc := "(II)I" } : Jvm.MethodName) prog_11_method_69_code (3 : Nat) (Option.some Jvm.ClassFile.FieldType.int) ∈ lw_tbl := in_6 (List.mem_of_getElem? (i := 143) rfl)
theorem wd_1436 : Jvm.Cond.code ({ cls := "FarFromAnybodyModel", name := "rest", desc := "(I)I" } : Jvm.MethodName) prog_11_method_71_code (6 : Nat) (Option.some Jvm.ClassFile.FieldType.int) ∈ lw_tbl := in_6 (List.mem_of_getElem? (i := 147) rfl)
theorem wd_1437 : Jvm.Cond.methodLink "FarFromAnybodyModel" (316 : Nat) ({ cls := "FarFromAnybodyModel", name := "isRow", desc := "(I)Z" } : Jvm.MethodName) ∈ lw_tbl := in_6 (List.mem_of_getElem? (i := 148) rfl)
theorem wd_1439 : Jvm.Cond.instanceMethod ({ cls := "FarFromAnybodyModel", name := "isRow", desc := "(I)Z" } : Jvm.MethodName) ∈ lw_tbl := in_6 (List.mem_of_getElem? (i := 150) rfl)
theorem wd_1440 : Jvm.Cond.code ({ cls := "FarFromAnybodyModel", name := "isRow", desc := "(I)Z" } : Jvm.MethodName) prog_11_method_70_code (3 : Nat) (Option.some Jvm.ClassFile.FieldType.boolean) ∈ lw_tbl := in_6 (List.mem_of_getElem? (i := 151) rfl)
theorem wd_1444 : Jvm.Cond.code ({ cls := "FarFromAnybodyModel", name := "placings", desc := "(II)I" } : Jvm.MethodName) prog_11_method_76_code (3 : Nat) (Option.some Jvm.ClassFile.FieldType.int) ∈ lw_tbl := in_6 (List.mem_of_getElem? (i := 155) rfl)
theorem wd_1445 : Jvm.Cond.methodLink "FarFromAnybodyModel" (340 : Nat) ({ cls := "FarFromAnybodyModel", name := "places", desc := "(II)V" } : Jvm.MethodName) ∈ lw_tbl := in_6 (List.mem_of_getElem? (i := 156) rfl)
theorem wd_1447 : Jvm.Cond.instanceMethod ({ cls := "FarFromAnybodyModel", name := "places", desc := "(II)V" } : Jvm.MethodName) ∈ lw_tbl := in_6 (List.mem_of_getElem? (i := 158) rfl)
theorem wd_1448 : Jvm.Cond.code ({ cls := "FarFromAnybodyModel", name := "places", desc := "(II)V" } : Jvm.MethodName) prog_11_method_75_code (4 : Nat) (Option.none : Option Jvm.ClassFile.FieldType) ∈ lw_tbl := in_6 (List.mem_of_getElem? (i := 159) rfl)
theorem wd_1449 : Jvm.Cond.methodLink "FarFromAnybodyModel" (337 : Nat) ({ cls := "FarFromAnybodyModel", name := "judges", desc := "()V" } : Jvm.MethodName) ∈ lw_tbl := in_6 (List.mem_of_getElem? (i := 160) rfl)
theorem wd_1451 : Jvm.Cond.instanceMethod ({ cls := "FarFromAnybodyModel", name := "judges", desc := "()V" } : Jvm.MethodName) ∈ lw_tbl := in_6 (List.mem_of_getElem? (i := 162) rfl)
theorem wd_1452 : Jvm.Cond.code ({ cls := "FarFromAnybodyModel", name := "judges", desc := "()V" } : Jvm.MethodName) prog_11_method_74_code (4 : Nat) (Option.none : Option Jvm.ClassFile.FieldType) ∈ lw_tbl := in_6 (List.mem_of_getElem? (i := 163) rfl)
theorem wd_1453 : Jvm.Cond.methodLink "FarFromAnybodyModel" (322 : Nat) ({ cls := "FarFromAnybodyModel", name := "paid", desc := "(II)I" } : Jvm.MethodName) ∈ lw_tbl := in_6 (List.mem_of_getElem? (i := 164) rfl)
theorem wd_1455 : Jvm.Cond.instanceMethod ({ cls := "FarFromAnybodyModel", name := "paid", desc := "(II)I" } : Jvm.MethodName) ∈ lw_tbl := in_6 (List.mem_of_getElem? (i := 166) rfl)
theorem wd_1456 : Jvm.Cond.code ({ cls := "FarFromAnybodyModel", name := "paid", desc := "(II)I" } : Jvm.MethodName) prog_11_method_72_code (6 : Nat) (Option.some Jvm.ClassFile.FieldType.int) ∈ lw_tbl := in_6 (List.mem_of_getElem? (i := 167) rfl)
theorem wd_1457 : Jvm.Cond.methodLink "FarFromAnybodyModel" (325 : Nat) ({ cls := "FarFromAnybodyModel", name := "isAtRest", desc := "(I)Z" } : Jvm.MethodName) ∈ lw_tbl := in_6 (List.mem_of_getElem? (i := 168) rfl)
theorem wd_1459 : Jvm.Cond.instanceMethod ({ cls := "FarFromAnybodyModel", name := "isAtRest", desc := "(I)Z" } : Jvm.MethodName) ∈ lw_tbl := in_6 (List.mem_of_getElem? (i := 170) rfl)
theorem wd_1460 : Jvm.Cond.code ({ cls := "FarFromAnybodyModel", name := "isAtRest", desc := "(I)Z" } : Jvm.MethodName) prog_11_method_73_code (6 : Nat) (Option.some Jvm.ClassFile.FieldType.boolean) ∈ lw_tbl := in_6 (List.mem_of_getElem? (i := 171) rfl)
theorem wd_1464 : Jvm.Cond.code ({ cls := "FarFromAnybodyModel", name := "saves", desc := "(I)I" } : Jvm.MethodName) prog_11_method_78_code (7 : Nat) (Option.some Jvm.ClassFile.FieldType.int) ∈ lw_tbl := in_6 (List.mem_of_getElem? (i := 175) rfl)
theorem wd_1465 : Jvm.Cond.methodLink "FarFromAnybodyModel" (343 : Nat) ({ cls := "FarFromAnybodyModel", name := "allPays", desc := "()I" } : Jvm.MethodName) ∈ lw_tbl := in_6 (List.mem_of_getElem? (i := 176) rfl)
theorem wd_1467 : Jvm.Cond.instanceMethod ({ cls := "FarFromAnybodyModel", name := "allPays", desc := "()I" } : Jvm.MethodName) ∈ lw_tbl := in_6 (List.mem_of_getElem? (i := 178) rfl)
theorem wd_1468 : Jvm.Cond.code ({ cls := "FarFromAnybodyModel", name := "allPays", desc := "()I" } : Jvm.MethodName) prog_11_method_77_code (3 : Nat) (Option.some Jvm.ClassFile.FieldType.int) ∈ lw_tbl := in_6 (List.mem_of_getElem? (i := 179) rfl)
theorem wd_1472 : Jvm.Cond.code ({ cls := "FarFromAnybodyModel", name := "line", desc := "()I" } : Jvm.MethodName) prog_11_method_79_code (6 : Nat) (Option.some Jvm.ClassFile.FieldType.int) ∈ lw_tbl := in_6 (List.mem_of_getElem? (i := 183) rfl)
theorem wd_1476 : Jvm.Cond.code ({ cls := "FarFromAnybodyModel", name := "rid", desc := "(II)I" } : Jvm.MethodName) prog_11_method_80_code (5 : Nat) (Option.some Jvm.ClassFile.FieldType.int) ∈ lw_tbl := in_6 (List.mem_of_getElem? (i := 187) rfl)
theorem wd_1477 : Jvm.Cond.constant "FarFromAnybodyModel" (346 : Nat) (-100000 : Int32) ∈ lw_tbl := in_6 (List.mem_of_getElem? (i := 188) rfl)
theorem wd_1481 : Jvm.Cond.code ({ cls := "FarFromAnybodyModel", name := "send", desc := "(II)I" } : Jvm.MethodName) prog_11_method_82_code (8 : Nat) (Option.some Jvm.ClassFile.FieldType.int) ∈ lw_tbl := in_6 (List.mem_of_getElem? (i := 192) rfl)
theorem wd_1482 : Jvm.Cond.methodLink "FarFromAnybodyModel" (347 : Nat) ({ cls := "FarFromAnybodyModel", name := "pays", desc := "(I)I" } : Jvm.MethodName) ∈ lw_tbl := in_6 (List.mem_of_getElem? (i := 193) rfl)
theorem wd_1484 : Jvm.Cond.instanceMethod ({ cls := "FarFromAnybodyModel", name := "pays", desc := "(I)I" } : Jvm.MethodName) ∈ lw_tbl := in_6 (List.mem_of_getElem? (i := 195) rfl)
theorem wd_1485 : Jvm.Cond.code ({ cls := "FarFromAnybodyModel", name := "pays", desc := "(I)I" } : Jvm.MethodName) prog_11_method_81_code (4 : Nat) (Option.some Jvm.ClassFile.FieldType.int) ∈ lw_tbl := in_6 (List.mem_of_getElem? (i := 196) rfl)
theorem wd_1489 : Jvm.Cond.code ({ cls := "FarFromAnybodyModel", name := "broken", desc := "(I)I" } : Jvm.MethodName) prog_11_method_84_code (4 : Nat) (Option.some Jvm.ClassFile.FieldType.int) ∈ lw_tbl := in_6 (List.mem_of_getElem? (i := 200) rfl)
theorem wd_1490 : Jvm.Cond.methodLink "FarFromAnybodyModel" (350 : Nat) ({ cls := "FarFromAnybodyModel", name := "breaks", desc := "(II)V" } : Jvm.MethodName) ∈ lw_tbl := in_6 (List.mem_of_getElem? (i := 201) rfl)
theorem wd_1492 : Jvm.Cond.instanceMethod ({ cls := "FarFromAnybodyModel", name := "breaks", desc := "(II)V" } : Jvm.MethodName) ∈ lw_tbl := in_6 (List.mem_of_getElem? (i := 203) rfl)
theorem wd_1493 : Jvm.Cond.code ({ cls := "FarFromAnybodyModel", name := "breaks", desc := "(II)V" } : Jvm.MethodName) prog_11_method_83_code (4 : Nat) (Option.none : Option Jvm.ClassFile.FieldType) ∈ lw_tbl := in_6 (List.mem_of_getElem? (i := 204) rfl)
theorem wd_1497 : Jvm.Cond.code ({ cls := "FarFromAnybodyModel", name := "told", desc := "(II)Z" } : Jvm.MethodName) prog_11_method_85_code (3 : Nat) (Option.some Jvm.ClassFile.FieldType.boolean) ∈ lw_tbl := in_6 (List.mem_of_getElem? (i := 208) rfl)
theorem wd_1501 : Jvm.Cond.code ({ cls := "FarFromAnybodyModel", name := "night", desc := "(I)I" } : Jvm.MethodName) prog_11_method_87_code (9 : Nat) (Option.some Jvm.ClassFile.FieldType.int) ∈ lw_tbl := in_6 (List.mem_of_getElem? (i := 212) rfl)
theorem wd_1502 : Jvm.Cond.methodLink "FarFromAnybodyModel" (353 : Nat) ({ cls := "FarFromAnybodyModel", name := "goWith", desc := "()Z" } : Jvm.MethodName) ∈ lw_tbl := in_6 (List.mem_of_getElem? (i := 213) rfl)
theorem wd_1504 : Jvm.Cond.instanceMethod ({ cls := "FarFromAnybodyModel", name := "goWith", desc := "()Z" } : Jvm.MethodName) ∈ lw_tbl := in_6 (List.mem_of_getElem? (i := 215) rfl)
theorem wd_1505 : Jvm.Cond.code ({ cls := "FarFromAnybodyModel", name := "goWith", desc := "()Z" } : Jvm.MethodName) prog_11_method_86_code (2 : Nat) (Option.some Jvm.ClassFile.FieldType.boolean) ∈ lw_tbl := in_6 (List.mem_of_getElem? (i := 216) rfl)
theorem wd_1509 : Jvm.Cond.code ({ cls := "FarFromAnybodyModel", name := "image", desc := "(Z)Z" } : Jvm.MethodName) prog_11_method_88_code (3 : Nat) (Option.some Jvm.ClassFile.FieldType.boolean) ∈ lw_tbl := in_6 (List.mem_of_getElem? (i := 220) rfl)
theorem wd_1513 : Jvm.Cond.code ({ cls := "FarFromAnybodyModel", name := "look", desc := "(I)I" } : Jvm.MethodName) prog_11_method_89_code (2 : Nat) (Option.some Jvm.ClassFile.FieldType.int) ∈ lw_tbl := in_6 (List.mem_of_getElem? (i := 224) rfl)
theorem wd_1514 : Jvm.Cond.fieldLink "java/lang/String" (9 : Nat) "java/lang/String" "value" "[B" ∈ lw_tbl := in_6 (List.mem_of_getElem? (i := 225) rfl)
theorem wd_1515 : Jvm.Cond.fieldLink "java/lang/String" (15 : Nat) "java/lang/String" "coder" "B" ∈ lw_tbl := in_6 (List.mem_of_getElem? (i := 226) rfl)
theorem nh_0 : ("FarFromAnybody" : String) ≠ "java/lang/invoke/MethodHandle" ∧ ("FarFromAnybody" : String) ≠ "java/lang/invoke/VarHandle" ∧ Jvm.plainName "FarFromAnybody" = true := by decide +kernel
theorem nh_1 : ("FarFromAnybody$Camp" : String) ≠ "java/lang/invoke/MethodHandle" ∧ ("FarFromAnybody$Camp" : String) ≠ "java/lang/invoke/VarHandle" ∧ Jvm.plainName "FarFromAnybody$Camp" = true := by decide +kernel
theorem nh_2 : ("FarFromAnybody$Days" : String) ≠ "java/lang/invoke/MethodHandle" ∧ ("FarFromAnybody$Days" : String) ≠ "java/lang/invoke/VarHandle" ∧ Jvm.plainName "FarFromAnybody$Days" = true := by decide +kernel
theorem nh_3 : ("FarFromAnybody$King" : String) ≠ "java/lang/invoke/MethodHandle" ∧ ("FarFromAnybody$King" : String) ≠ "java/lang/invoke/VarHandle" ∧ Jvm.plainName "FarFromAnybody$King" = true := by decide +kernel
theorem nh_4 : ("FarFromAnybody$Law" : String) ≠ "java/lang/invoke/MethodHandle" ∧ ("FarFromAnybody$Law" : String) ≠ "java/lang/invoke/VarHandle" ∧ Jvm.plainName "FarFromAnybody$Law" = true := by decide +kernel
theorem nh_5 : ("FarFromAnybody$Placings" : String) ≠ "java/lang/invoke/MethodHandle" ∧ ("FarFromAnybody$Placings" : String) ≠ "java/lang/invoke/VarHandle" ∧ Jvm.plainName "FarFromAnybody$Placings" = true := by decide +kernel
theorem nh_6 : ("FarFromAnybody$Reader" : String) ≠ "java/lang/invoke/MethodHandle" ∧ ("FarFromAnybody$Reader" : String) ≠ "java/lang/invoke/VarHandle" ∧ Jvm.plainName "FarFromAnybody$Reader" = true := by decide +kernel
theorem nh_7 : ("FarFromAnybody$Thought" : String) ≠ "java/lang/invoke/MethodHandle" ∧ ("FarFromAnybody$Thought" : String) ≠ "java/lang/invoke/VarHandle" ∧ Jvm.plainName "FarFromAnybody$Thought" = true := by decide +kernel
theorem nh_8 : ("FarFromAnybody$Ways" : String) ≠ "java/lang/invoke/MethodHandle" ∧ ("FarFromAnybody$Ways" : String) ≠ "java/lang/invoke/VarHandle" ∧ Jvm.plainName "FarFromAnybody$Ways" = true := by decide +kernel
theorem nh_9 : ("FarFromAnybodyModel" : String) ≠ "java/lang/invoke/MethodHandle" ∧ ("FarFromAnybodyModel" : String) ≠ "java/lang/invoke/VarHandle" ∧ Jvm.plainName "FarFromAnybodyModel" = true := by decide +kernel
theorem nh_10 : ("java/lang/String" : String) ≠ "java/lang/invoke/MethodHandle" ∧ ("java/lang/String" : String) ≠ "java/lang/invoke/VarHandle" ∧ Jvm.plainName "java/lang/String" = true := by decide +kernel
theorem nh_11 : ("java/lang/StringLatin1" : String) ≠ "java/lang/invoke/MethodHandle" ∧ ("java/lang/StringLatin1" : String) ≠ "java/lang/invoke/VarHandle" ∧ Jvm.plainName "java/lang/StringLatin1" = true := by decide +kernel
theorem nh_12 : ("java/util/Arrays" : String) ≠ "java/lang/invoke/MethodHandle" ∧ ("java/util/Arrays" : String) ≠ "java/lang/invoke/VarHandle" ∧ Jvm.plainName "java/util/Arrays" = true := by decide +kernel
theorem nh_13 : ("jdk/internal/util/Preconditions" : String) ≠ "java/lang/invoke/MethodHandle" ∧ ("jdk/internal/util/Preconditions" : String) ≠ "java/lang/invoke/VarHandle" ∧ Jvm.plainName "jdk/internal/util/Preconditions" = true := by decide +kernel
theorem pd_0 : (parseMethodDescriptor "()B").map (fun d => d.parameters.length) = some 0 := by decide +kernel
theorem pd_1 : (parseMethodDescriptor "()I").map (fun d => d.parameters.length) = some 0 := by decide +kernel
theorem pd_2 : (parseMethodDescriptor "()V").map (fun d => d.parameters.length) = some 0 := by decide +kernel
theorem pd_3 : (parseMethodDescriptor "()Z").map (fun d => d.parameters.length) = some 0 := by decide +kernel
theorem pd_4 : (parseMethodDescriptor "(I)C").map (fun d => d.parameters.length) = some 1 := by decide +kernel
theorem pd_5 : (parseMethodDescriptor "(I)I").map (fun d => d.parameters.length) = some 1 := by decide +kernel
theorem pd_6 : (parseMethodDescriptor "(I)V").map (fun d => d.parameters.length) = some 1 := by decide +kernel
theorem pd_7 : (parseMethodDescriptor "(I)Z").map (fun d => d.parameters.length) = some 1 := by decide +kernel
theorem pd_8 : (parseMethodDescriptor "(I)[B").map (fun d => d.parameters.length) = some 1 := by decide +kernel
theorem pd_9 : (parseMethodDescriptor "(II)I").map (fun d => d.parameters.length) = some 2 := by decide +kernel
theorem pd_10 : (parseMethodDescriptor "(II)V").map (fun d => d.parameters.length) = some 2 := by decide +kernel
theorem pd_11 : (parseMethodDescriptor "(II)Z").map (fun d => d.parameters.length) = some 2 := by decide +kernel
theorem pd_12 : (parseMethodDescriptor "(III)I").map (fun d => d.parameters.length) = some 3 := by decide +kernel
theorem pd_13 : (parseMethodDescriptor "(III)V").map (fun d => d.parameters.length) = some 3 := by decide +kernel
theorem pd_14 : (parseMethodDescriptor "(III)Z").map (fun d => d.parameters.length) = some 3 := by decide +kernel
theorem pd_15 : (parseMethodDescriptor "(IIII)I").map (fun d => d.parameters.length) = some 4 := by decide +kernel
theorem pd_16 : (parseMethodDescriptor "(IIII)V").map (fun d => d.parameters.length) = some 4 := by decide +kernel
theorem pd_17 : (parseMethodDescriptor "(IIIII)I").map (fun d => d.parameters.length) = some 5 := by decide +kernel
theorem pd_18 : (parseMethodDescriptor "(IILjava/util/function/BiFunction;)I").map (fun d => d.parameters.length) = some 3 := by decide +kernel
theorem pd_19 : (parseMethodDescriptor "(IZ)I").map (fun d => d.parameters.length) = some 2 := by decide +kernel
theorem pd_20 : (parseMethodDescriptor "(JIII)J").map (fun d => d.parameters.length) = some 4 := by decide +kernel
theorem pd_21 : (parseMethodDescriptor "(LFarFromAnybody$Camp;)V").map (fun d => d.parameters.length) = some 1 := by decide +kernel
theorem pd_22 : (parseMethodDescriptor "(LFarFromAnybody$Camp;LFarFromAnybody$King;)V").map (fun d => d.parameters.length) = some 2 := by decide +kernel
theorem pd_23 : (parseMethodDescriptor "(LFarFromAnybody$Camp;LFarFromAnybody$King;LFarFromAnybody$Days;)V").map (fun d => d.parameters.length) = some 3 := by decide +kernel
theorem pd_24 : (parseMethodDescriptor "(LFarFromAnybody$Camp;LFarFromAnybody$Ways;)V").map (fun d => d.parameters.length) = some 2 := by decide +kernel
theorem pd_25 : (parseMethodDescriptor "(LFarFromAnybody$Camp;Z)V").map (fun d => d.parameters.length) = some 2 := by decide +kernel
theorem pd_26 : (parseMethodDescriptor "(Ljava/lang/String;)Z").map (fun d => d.parameters.length) = some 1 := by decide +kernel
theorem pd_27 : (parseMethodDescriptor "(Z)I").map (fun d => d.parameters.length) = some 1 := by decide +kernel
theorem pd_28 : (parseMethodDescriptor "(Z)Z").map (fun d => d.parameters.length) = some 1 := by decide +kernel
theorem pd_29 : (parseMethodDescriptor "([BB)V").map (fun d => d.parameters.length) = some 2 := by decide +kernel
theorem pd_30 : (parseMethodDescriptor "([BI)C").map (fun d => d.parameters.length) = some 2 := by decide +kernel
theorem pd_31 : (parseMethodDescriptor "([BI)LFarFromAnybody$Law;").map (fun d => d.parameters.length) = some 2 := by decide +kernel
theorem pd_32 : (parseMethodDescriptor "([BI)V").map (fun d => d.parameters.length) = some 2 := by decide +kernel
theorem pd_33 : (parseMethodDescriptor "([BII)I").map (fun d => d.parameters.length) = some 3 := by decide +kernel
theorem pd_34 : (parseMethodDescriptor "([BII)V").map (fun d => d.parameters.length) = some 3 := by decide +kernel
theorem pd_35 : (parseMethodDescriptor "([BIILjava/lang/String;)Z").map (fun d => d.parameters.length) = some 4 := by decide +kernel
theorem pd_36 : (parseMethodDescriptor "([I)I").map (fun d => d.parameters.length) = some 1 := by decide +kernel
theorem pd_37 : (parseMethodDescriptor "([I)Z").map (fun d => d.parameters.length) = some 1 := by decide +kernel
theorem pd_38 : (parseMethodDescriptor "([II)V").map (fun d => d.parameters.length) = some 2 := by decide +kernel
theorem pd_39 : (parseMethodDescriptor "([II)[I").map (fun d => d.parameters.length) = some 2 := by decide +kernel
theorem pd_40 : (parseMethodDescriptor "([IIZ)V").map (fun d => d.parameters.length) = some 3 := by decide +kernel
theorem mo_J0_charAt_5068e : Mok 0 := ⟨wd_627, wd_101, ⟨nh_10.1, nh_10.2.1, pd_4⟩, nh_10.2.2, Nat.le_of_ble_eq_true rfl⟩
theorem mr_J0_charAt_5068e : mR 0 = some (FieldType.char) := rfl
theorem mo_J0_checkIndex_df160 : Mok 1 := ⟨wd_637, wd_101, ⟨nh_10.1, nh_10.2.1, pd_10⟩, nh_10.2.2, Nat.le_of_ble_eq_true rfl⟩
theorem mr_J0_checkIndex_df160 : mR 1 = none := rfl
theorem mo_J0_coder_7d493 : Mok 2 := ⟨wd_621, wd_101, ⟨nh_10.1, nh_10.2.1, pd_0⟩, nh_10.2.2, Nat.le_of_ble_eq_true rfl⟩
theorem mr_J0_coder_7d493 : mR 2 = some (FieldType.byte) := rfl
theorem mo_J0_isLatin1_aae02 : Mok 3 := ⟨wd_631, wd_101, ⟨nh_10.1, nh_10.2.1, pd_3⟩, nh_10.2.2, Nat.le_of_ble_eq_true rfl⟩
theorem mr_J0_isLatin1_aae02 : mR 3 = some (FieldType.boolean) := rfl
theorem mo_J0_length_8abf5 : Mok 4 := ⟨wd_617, wd_101, ⟨nh_10.1, nh_10.2.1, pd_1⟩, nh_10.2.2, Nat.le_of_ble_eq_true rfl⟩
theorem mr_J0_length_8abf5 : mR 4 = some (FieldType.int) := rfl
theorem mo_J1_charAt_3b067 : Mok 5 := ⟨wd_634, wd_102, ⟨nh_11.1, nh_11.2.1, pd_30⟩, nh_11.2.2, Nat.le_of_ble_eq_true rfl⟩
theorem mr_J1_charAt_3b067 : mR 5 = some (FieldType.char) := rfl
theorem mo_J3_checkIndex_8e157 : Mok 6 := ⟨wd_642, wd_103, ⟨nh_13.1, nh_13.2.1, pd_18⟩, nh_13.2.2, Nat.le_of_ble_eq_true rfl⟩
theorem mr_J3_checkIndex_8e157 : mR 6 = some (FieldType.int) := rfl
theorem mo_J7_copyOf_59c91 : Mok 7 := ⟨wd_728, wd_98, ⟨nh_12.1, nh_12.2.1, pd_39⟩, nh_12.2.2, Nat.le_of_ble_eq_true rfl⟩
theorem mr_J7_copyOf_59c91 : mR 7 = some ((FieldType.array FieldType.int)) := rfl
theorem mo_J7_fill_031fb : Mok 8 := ⟨wd_799, wd_98, ⟨nh_12.1, nh_12.2.1, pd_29⟩, nh_12.2.2, Nat.le_of_ble_eq_true rfl⟩
theorem mr_J7_fill_031fb : mR 8 = none := rfl
theorem mo_J7_fill_53178 : Mok 9 := ⟨wd_445, wd_98, ⟨nh_12.1, nh_12.2.1, pd_38⟩, nh_12.2.2, Nat.le_of_ble_eq_true rfl⟩
theorem mr_J7_fill_53178 : mR 9 = none := rfl
theorem mo_X0_init : Mok 10 := ⟨wd_119, wd_91, ⟨nh_1.1, nh_1.2.1, pd_2⟩, nh_1.2.2, Nat.le_of_ble_eq_true rfl⟩
theorem mr_X0_init : mR 10 = none := rfl
theorem mo_X0_clear : Mok 11 := ⟨wd_442, wd_91, ⟨nh_1.1, nh_1.2.1, pd_10⟩, nh_1.2.2, Nat.le_of_ble_eq_true rfl⟩
theorem mr_X0_clear : mR 11 = none := rfl
theorem mo_X0_copy : Mok 12 := ⟨wd_1025, wd_91, ⟨nh_1.1, nh_1.2.1, pd_21⟩, nh_1.2.2, Nat.le_of_ble_eq_true rfl⟩
theorem mr_X0_copy : mR 12 = none := rfl
theorem mo_X0_inside : Mok 13 := ⟨wd_461, wd_91, ⟨nh_1.1, nh_1.2.1, pd_7⟩, nh_1.2.2, Nat.le_of_ble_eq_true rfl⟩
theorem mr_X0_inside : mR 13 = some (FieldType.boolean) := rfl
theorem mo_X0_isGrass : Mok 14 := ⟨wd_488, wd_91, ⟨nh_1.1, nh_1.2.1, pd_7⟩, nh_1.2.2, Nat.le_of_ble_eq_true rfl⟩
theorem mr_X0_isGrass : mR 14 = some (FieldType.boolean) := rfl
theorem mo_X0_canBeGoneOver : Mok 15 := ⟨wd_858, wd_91, ⟨nh_1.1, nh_1.2.1, pd_7⟩, nh_1.2.2, Nat.le_of_ble_eq_true rfl⟩
theorem mr_X0_canBeGoneOver : mR 15 = some (FieldType.boolean) := rfl
theorem mo_X0_grassCount : Mok 16 := ⟨wd_887, wd_91, ⟨nh_1.1, nh_1.2.1, pd_1⟩, nh_1.2.2, Nat.le_of_ble_eq_true rfl⟩
theorem mr_X0_grassCount : mR 16 = some (FieldType.int) := rfl
theorem mo_X0_isTent : Mok 17 := ⟨wd_526, wd_91, ⟨nh_1.1, nh_1.2.1, pd_7⟩, nh_1.2.2, Nat.le_of_ble_eq_true rfl⟩
theorem mr_X0_isTent : mR 17 = some (FieldType.boolean) := rfl
theorem mo_X0_tentAt : Mok 18 := ⟨wd_469, wd_91, ⟨nh_1.1, nh_1.2.1, pd_5⟩, nh_1.2.2, Nat.le_of_ble_eq_true rfl⟩
theorem mr_X0_tentAt : mR 18 = some (FieldType.int) := rfl
theorem mo_X0_manAt : Mok 19 := ⟨wd_473, wd_91, ⟨nh_1.1, nh_1.2.1, pd_5⟩, nh_1.2.2, Nat.le_of_ble_eq_true rfl⟩
theorem mr_X0_manAt : mR 19 = some (FieldType.int) := rfl
theorem mo_X0_taken : Mok 20 := ⟨wd_465, wd_91, ⟨nh_1.1, nh_1.2.1, pd_7⟩, nh_1.2.2, Nat.le_of_ble_eq_true rfl⟩
theorem mr_X0_taken : mR 20 = some (FieldType.boolean) := rfl
theorem mo_X0_freeForMan : Mok 21 := ⟨wd_501, wd_91, ⟨nh_1.1, nh_1.2.1, pd_7⟩, nh_1.2.2, Nat.le_of_ble_eq_true rfl⟩
theorem mr_X0_freeForMan : mR 21 = some (FieldType.boolean) := rfl
theorem mo_X0_couldStand : Mok 22 := ⟨wd_484, wd_91, ⟨nh_1.1, nh_1.2.1, pd_14⟩, nh_1.2.2, Nat.le_of_ble_eq_true rfl⟩
theorem mr_X0_couldStand : mR 22 = some (FieldType.boolean) := rfl
theorem mo_X0_pitch : Mok 23 := ⟨wd_493, wd_91, ⟨nh_1.1, nh_1.2.1, pd_12⟩, nh_1.2.2, Nat.le_of_ble_eq_true rfl⟩
theorem mr_X0_pitch : mR 23 = some (FieldType.int) := rfl
theorem mo_X0_bodies : Mok 24 := ⟨wd_807, wd_91, ⟨nh_1.1, nh_1.2.1, pd_1⟩, nh_1.2.2, Nat.le_of_ble_eq_true rfl⟩
theorem mr_X0_bodies : mR 24 = some (FieldType.int) := rfl
theorem mo_X0_yardOfBody : Mok 25 := ⟨wd_811, wd_91, ⟨nh_1.1, nh_1.2.1, pd_5⟩, nh_1.2.2, Nat.le_of_ble_eq_true rfl⟩
theorem mr_X0_yardOfBody : mR 25 = some (FieldType.int) := rfl
theorem mo_X0_areKin : Mok 26 := ⟨wd_788, wd_91, ⟨nh_1.1, nh_1.2.1, pd_11⟩, nh_1.2.2, Nat.le_of_ble_eq_true rfl⟩
theorem mr_X0_areKin : mR 26 = some (FieldType.boolean) := rfl
theorem mo_X0_waterBeside : Mok 27 := ⟨wd_823, wd_91, ⟨nh_1.1, nh_1.2.1, pd_5⟩, nh_1.2.2, Nat.le_of_ble_eq_true rfl⟩
theorem mr_X0_waterBeside : mR 27 = some (FieldType.int) := rfl
theorem mo_X0_draw : Mok 28 := ⟨wd_772, wd_91, ⟨nh_1.1, nh_1.2.1, pd_5⟩, nh_1.2.2, Nat.le_of_ble_eq_true rfl⟩
theorem mr_X0_draw : mR 28 = some (FieldType.int) := rfl
theorem mo_X1_init : Mok 29 := ⟨wd_313, wd_95, ⟨nh_2.1, nh_2.2.1, pd_22⟩, nh_2.2.2, Nat.le_of_ble_eq_true rfl⟩
theorem mr_X1_init : mR 29 = none := rfl
theorem mo_X1_noon : Mok 30 := ⟨wd_760, wd_95, ⟨nh_2.1, nh_2.2.1, pd_27⟩, nh_2.2.2, Nat.le_of_ble_eq_true rfl⟩
theorem mr_X1_noon : mR 30 = some (FieldType.int) := rfl
theorem mo_X1_wishOf : Mok 31 := ⟨wd_764, wd_95, ⟨nh_2.1, nh_2.2.1, pd_19⟩, nh_2.2.2, Nat.le_of_ble_eq_true rfl⟩
theorem mr_X1_wishOf : mR 31 = some (FieldType.int) := rfl
theorem mo_X1_whimOf : Mok 32 := ⟨wd_768, wd_95, ⟨nh_2.1, nh_2.2.1, pd_5⟩, nh_2.2.2, Nat.le_of_ble_eq_true rfl⟩
theorem mr_X1_whimOf : mR 32 = some (FieldType.int) := rfl
theorem mo_X1_newEvening : Mok 33 := ⟨wd_756, wd_95, ⟨nh_2.1, nh_2.2.1, pd_1⟩, nh_2.2.2, Nat.le_of_ble_eq_true rfl⟩
theorem mr_X1_newEvening : mR 33 = some (FieldType.int) := rfl
theorem mo_X1_allAlike : Mok 34 := ⟨wd_840, wd_95, ⟨nh_2.1, nh_2.2.1, pd_3⟩, nh_2.2.2, Nat.le_of_ble_eq_true rfl⟩
theorem mr_X1_allAlike : mR 34 = some (FieldType.boolean) := rfl
theorem mo_X1_sameEvening : Mok 35 := ⟨wd_752, wd_95, ⟨nh_2.1, nh_2.2.1, pd_2⟩, nh_2.2.2, Nat.le_of_ble_eq_true rfl⟩
theorem mr_X1_sameEvening : mR 35 = none := rfl
theorem mo_X2_init : Mok 36 := ⟨wd_279, wd_94, ⟨nh_3.1, nh_3.2.1, pd_24⟩, nh_3.2.2, Nat.le_of_ble_eq_true rfl⟩
theorem mr_X2_init : mR 36 = none := rfl
theorem mo_X2_farOf : Mok 37 := ⟨wd_848, wd_94, ⟨nh_3.1, nh_3.2.1, pd_5⟩, nh_3.2.2, Nat.le_of_ble_eq_true rfl⟩
theorem mr_X2_farOf : mR 37 = some (FieldType.int) := rfl
theorem mo_X2_payOf : Mok 38 := ⟨wd_836, wd_94, ⟨nh_3.1, nh_3.2.1, pd_5⟩, nh_3.2.2, Nat.le_of_ble_eq_true rfl⟩
theorem mr_X2_payOf : mR 38 = some (FieldType.int) := rfl
theorem mo_X2_payFor : Mok 39 := ⟨wd_819, wd_94, ⟨nh_3.1, nh_3.2.1, pd_15⟩, nh_3.2.2, Nat.le_of_ble_eq_true rfl⟩
theorem mr_X2_payFor : mR 39 = some (FieldType.int) := rfl
theorem mo_X2_allPays : Mok 40 := ⟨wd_958, wd_94, ⟨nh_3.1, nh_3.2.1, pd_1⟩, nh_3.2.2, Nat.le_of_ble_eq_true rfl⟩
theorem mr_X2_allPays : mR 40 = some (FieldType.int) := rfl
theorem mo_X2_familyPays : Mok 41 := ⟨wd_993, wd_94, ⟨nh_3.1, nh_3.2.1, pd_5⟩, nh_3.2.2, Nat.le_of_ble_eq_true rfl⟩
theorem mr_X2_familyPays : mR 41 = some (FieldType.int) := rfl
theorem mo_X2_findBest : Mok 42 := ⟨wd_779, wd_94, ⟨nh_3.1, nh_3.2.1, pd_9⟩, nh_3.2.2, Nat.le_of_ble_eq_true rfl⟩
theorem mr_X2_findBest : mR 42 = some (FieldType.int) := rfl
theorem mo_X2_measureKin : Mok 43 := ⟨wd_784, wd_94, ⟨nh_3.1, nh_3.2.1, pd_6⟩, nh_3.2.2, Nat.le_of_ble_eq_true rfl⟩
theorem mr_X2_measureKin : mR 43 = none := rfl
theorem mo_X2_measureAt : Mok 44 := ⟨wd_792, wd_94, ⟨nh_3.1, nh_3.2.1, pd_10⟩, nh_3.2.2, Nat.le_of_ble_eq_true rfl⟩
theorem mr_X2_measureAt : mR 44 = none := rfl
theorem mo_X3_init : Mok 45 := ⟨wd_125, wd_92, ⟨nh_4.1, nh_4.2.1, pd_40⟩, nh_4.2.2, Nat.le_of_ble_eq_true rfl⟩
theorem mr_X3_init : mR 45 = none := rfl
theorem mo_X3_amount : Mok 46 := ⟨wd_827, wd_92, ⟨nh_4.1, nh_4.2.1, pd_36⟩, nh_4.2.2, Nat.le_of_ble_eq_true rfl⟩
theorem mr_X3_amount : mR 46 = some (FieldType.int) := rfl
theorem mo_X3_judged : Mok 47 := ⟨wd_831, wd_92, ⟨nh_4.1, nh_4.2.1, pd_20⟩, nh_4.2.2, Nat.le_of_ble_eq_true rfl⟩
theorem mr_X3_judged : mR 47 = some (FieldType.long) := rfl
theorem mo_X4_init : Mok 48 := ⟨wd_892, wd_106, ⟨nh_5.1, nh_5.2.1, pd_22⟩, nh_5.2.2, Nat.le_of_ble_eq_true rfl⟩
theorem mr_X4_init : mR 48 = none := rfl
theorem mo_X4_tryAll : Mok 49 := ⟨wd_920, wd_106, ⟨nh_5.1, nh_5.2.1, pd_6⟩, nh_5.2.2, Nat.le_of_ble_eq_true rfl⟩
theorem mr_X4_tryAll : mR 49 = none := rfl
theorem mo_X4_prepare : Mok 50 := ⟨wd_924, wd_106, ⟨nh_5.1, nh_5.2.1, pd_2⟩, nh_5.2.2, Nat.le_of_ble_eq_true rfl⟩
theorem mr_X4_prepare : mR 50 = none := rfl
theorem mo_X4_judge : Mok 51 := ⟨wd_930, wd_106, ⟨nh_5.1, nh_5.2.1, pd_13⟩, nh_5.2.2, Nat.le_of_ble_eq_true rfl⟩
theorem mr_X4_judge : mR 51 = none := rfl
theorem mo_X4_noteRow : Mok 52 := ⟨wd_941, wd_106, ⟨nh_5.1, nh_5.2.1, pd_16⟩, nh_5.2.2, Nat.le_of_ble_eq_true rfl⟩
theorem mr_X4_noteRow : mR 52 = none := rfl
theorem mo_X4_bestBy : Mok 53 := ⟨wd_945, wd_106, ⟨nh_5.1, nh_5.2.1, pd_9⟩, nh_5.2.2, Nat.le_of_ble_eq_true rfl⟩
theorem mr_X4_bestBy : mR 53 = some (FieldType.int) := rfl
theorem mo_X4_payAt : Mok 54 := ⟨wd_934, wd_106, ⟨nh_5.1, nh_5.2.1, pd_12⟩, nh_5.2.2, Nat.le_of_ble_eq_true rfl⟩
theorem mr_X4_payAt : mR 54 = some (FieldType.int) := rfl
theorem mo_X5_init : Mok 55 := ⟨wd_551, wd_99, ⟨nh_6.1, nh_6.2.1, pd_2⟩, nh_6.2.2, Nat.le_of_ble_eq_true rfl⟩
theorem mr_X5_init : mR 55 = none := rfl
theorem mo_X5_read : Mok 56 := ⟨wd_592, wd_99, ⟨nh_6.1, nh_6.2.1, pd_31⟩, nh_6.2.2, Nat.le_of_ble_eq_true rfl⟩
theorem mr_X5_read : mR 56 = some ((FieldType.object "FarFromAnybody$Law")) := rfl
theorem mo_X5_split : Mok 57 := ⟨wd_599, wd_99, ⟨nh_6.1, nh_6.2.1, pd_32⟩, nh_6.2.2, Nat.le_of_ble_eq_true rfl⟩
theorem mr_X5_split : mR 57 = none := rfl
theorem mo_X5_isLetter : Mok 58 := ⟨wd_602, wd_99, ⟨nh_6.1, nh_6.2.1, pd_7⟩, nh_6.2.2, Nat.le_of_ble_eq_true rfl⟩
theorem mr_X5_isLetter : mR 58 = some (FieldType.boolean) := rfl
theorem mo_X5_isDigit : Mok 59 := ⟨wd_680, wd_99, ⟨nh_6.1, nh_6.2.1, pd_7⟩, nh_6.2.2, Nat.le_of_ble_eq_true rfl⟩
theorem mr_X5_isDigit : mR 59 = some (FieldType.boolean) := rfl
theorem mo_X5_addToken : Mok 60 := ⟨wd_672, wd_99, ⟨nh_6.1, nh_6.2.1, pd_13⟩, nh_6.2.2, Nat.le_of_ble_eq_true rfl⟩
theorem mr_X5_addToken : mR 60 = none := rfl
theorem mo_X5_addNumber : Mok 61 := ⟨wd_684, wd_99, ⟨nh_6.1, nh_6.2.1, pd_34⟩, nh_6.2.2, Nat.le_of_ble_eq_true rfl⟩
theorem mr_X5_addNumber : mR 61 = none := rfl
theorem mo_X5_addWord : Mok 62 := ⟨wd_606, wd_99, ⟨nh_6.1, nh_6.2.1, pd_34⟩, nh_6.2.2, Nat.le_of_ble_eq_true rfl⟩
theorem mr_X5_addWord : mR 62 = none := rfl
theorem mo_X5_factOf : Mok 63 := ⟨wd_609, wd_99, ⟨nh_6.1, nh_6.2.1, pd_33⟩, nh_6.2.2, Nat.le_of_ble_eq_true rfl⟩
theorem mr_X5_factOf : mR 63 = some (FieldType.int) := rfl
theorem mo_X5_isWord : Mok 64 := ⟨wd_613, wd_99, ⟨nh_6.1, nh_6.2.1, pd_35⟩, nh_6.2.2, Nat.le_of_ble_eq_true rfl⟩
theorem mr_X5_isWord : mR 64 = some (FieldType.boolean) := rfl
theorem mo_X5_refuse : Mok 65 := ⟨wd_688, wd_99, ⟨nh_6.1, nh_6.2.1, pd_7⟩, nh_6.2.2, Nat.le_of_ble_eq_true rfl⟩
theorem mr_X5_refuse : mR 65 = some (FieldType.boolean) := rfl
theorem mo_X5_goOn : Mok 66 := ⟨wd_696, wd_99, ⟨nh_6.1, nh_6.2.1, pd_2⟩, nh_6.2.2, Nat.le_of_ble_eq_true rfl⟩
theorem mr_X5_goOn : mR 66 = none := rfl
theorem mo_X5_addStep : Mok 67 := ⟨wd_708, wd_99, ⟨nh_6.1, nh_6.2.1, pd_10⟩, nh_6.2.2, Nat.le_of_ble_eq_true rfl⟩
theorem mr_X5_addStep : mR 67 = none := rfl
theorem mo_X5_readSign : Mok 68 := ⟨wd_692, wd_99, ⟨nh_6.1, nh_6.2.1, pd_7⟩, nh_6.2.2, Nat.le_of_ble_eq_true rfl⟩
theorem mr_X5_readSign : mR 68 = some (FieldType.boolean) := rfl
theorem mo_X5_readEither : Mok 69 := ⟨wd_716, wd_99, ⟨nh_6.1, nh_6.2.1, pd_7⟩, nh_6.2.2, Nat.le_of_ble_eq_true rfl⟩
theorem mr_X5_readEither : mR 69 = some (FieldType.boolean) := rfl
theorem mo_X5_readBoth : Mok 70 := ⟨wd_720, wd_99, ⟨nh_6.1, nh_6.2.1, pd_7⟩, nh_6.2.2, Nat.le_of_ble_eq_true rfl⟩
theorem mr_X5_readBoth : mR 70 = some (FieldType.boolean) := rfl
theorem mo_X5_readClaim : Mok 71 := ⟨wd_724, wd_99, ⟨nh_6.1, nh_6.2.1, pd_7⟩, nh_6.2.2, Nat.le_of_ble_eq_true rfl⟩
theorem mr_X5_readClaim : mR 71 = some (FieldType.boolean) := rfl
theorem mo_X5_readAmount : Mok 72 := ⟨wd_700, wd_99, ⟨nh_6.1, nh_6.2.1, pd_3⟩, nh_6.2.2, Nat.le_of_ble_eq_true rfl⟩
theorem mr_X5_readAmount : mR 72 = some (FieldType.boolean) := rfl
theorem mo_X5_readUnit : Mok 73 := ⟨wd_704, wd_99, ⟨nh_6.1, nh_6.2.1, pd_7⟩, nh_6.2.2, Nat.le_of_ble_eq_true rfl⟩
theorem mr_X5_readUnit : mR 73 = some (FieldType.boolean) := rfl
theorem mo_X5_readPart : Mok 74 := ⟨wd_712, wd_99, ⟨nh_6.1, nh_6.2.1, pd_3⟩, nh_6.2.2, Nat.le_of_ble_eq_true rfl⟩
theorem mr_X5_readPart : mR 74 = some (FieldType.boolean) := rfl
theorem mo_X6_init : Mok 75 := ⟨wd_336, wd_96, ⟨nh_7.1, nh_7.2.1, pd_23⟩, nh_7.2.2, Nat.le_of_ble_eq_true rfl⟩
theorem mr_X6_init : mR 75 = none := rfl
theorem mo_X6_settle : Mok 76 := ⟨wd_873, wd_96, ⟨nh_7.1, nh_7.2.1, pd_2⟩, nh_7.2.2, Nat.le_of_ble_eq_true rfl⟩
theorem mr_X6_settle : mR 76 = none := rfl
theorem mo_X6_circleUpTo : Mok 77 := ⟨wd_879, wd_96, ⟨nh_7.1, nh_7.2.1, pd_5⟩, nh_7.2.2, Nat.le_of_ble_eq_true rfl⟩
theorem mr_X6_circleUpTo : mR 77 = some (FieldType.int) := rfl
theorem mo_X6_findSaving : Mok 78 := ⟨wd_954, wd_96, ⟨nh_7.1, nh_7.2.1, pd_2⟩, nh_7.2.2, Nat.le_of_ble_eq_true rfl⟩
theorem mr_X6_findSaving : mR 78 = none := rfl
theorem mo_X6_stillFine : Mok 79 := ⟨wd_968, wd_96, ⟨nh_7.1, nh_7.2.1, pd_1⟩, nh_7.2.2, Nat.le_of_ble_eq_true rfl⟩
theorem mr_X6_stillFine : mR 79 = some (FieldType.int) := rfl
theorem mo_X6_findSending : Mok 80 := ⟨wd_988, wd_96, ⟨nh_7.1, nh_7.2.1, pd_6⟩, nh_7.2.2, Nat.le_of_ble_eq_true rfl⟩
theorem mr_X6_findSending : mR 80 = none := rfl
theorem mo_X6_gainWithout : Mok 81 := ⟨wd_980, wd_96, ⟨nh_7.1, nh_7.2.1, pd_9⟩, nh_7.2.2, Nat.le_of_ble_eq_true rfl⟩
theorem mr_X6_gainWithout : mR 81 = some (FieldType.int) := rfl
theorem mo_X6_recallNight : Mok 82 := ⟨wd_1009, wd_96, ⟨nh_7.1, nh_7.2.1, pd_2⟩, nh_7.2.2, Nat.le_of_ble_eq_true rfl⟩
theorem mr_X6_recallNight : mR 82 = none := rfl
theorem mo_X6_noteGoing : Mok 83 := ⟨wd_1017, wd_96, ⟨nh_7.1, nh_7.2.1, pd_10⟩, nh_7.2.2, Nat.le_of_ble_eq_true rfl⟩
theorem mr_X6_noteGoing : mR 83 = none := rfl
theorem mo_X6_fitsTold : Mok 84 := ⟨wd_1013, wd_96, ⟨nh_7.1, nh_7.2.1, pd_3⟩, nh_7.2.2, Nat.le_of_ble_eq_true rfl⟩
theorem mr_X6_fitsTold : mR 84 = some (FieldType.boolean) := rfl
theorem mo_X7_init : Mok 85 := ⟨wd_252, wd_93, ⟨nh_8.1, nh_8.2.1, pd_25⟩, nh_8.2.2, Nat.le_of_ble_eq_true rfl⟩
theorem mr_X7_init : mR 85 = none := rfl
theorem mo_X7_forget : Mok 86 := ⟨wd_453, wd_93, ⟨nh_8.1, nh_8.2.1, pd_2⟩, nh_8.2.2, Nat.le_of_ble_eq_true rfl⟩
theorem mr_X7_forget : mR 86 = none := rfl
theorem mo_X7_from : Mok 87 := ⟨wd_796, wd_93, ⟨nh_8.1, nh_8.2.1, pd_8⟩, nh_8.2.2, Nat.le_of_ble_eq_true rfl⟩
theorem mr_X7_from : mR 87 = some ((FieldType.array FieldType.byte)) := rfl
theorem mo_X8_init : Mok 88 := ⟨wd_111, wd_90, ⟨nh_0.1, nh_0.2.1, pd_2⟩, nh_0.2.2, Nat.le_of_ble_eq_true rfl⟩
theorem mr_X8_init : mR 88 = none := rfl
theorem mo_X8_state : Mok 89 := ⟨wd_434, wd_90, ⟨nh_0.1, nh_0.2.1, pd_5⟩, nh_0.2.2, Nat.le_of_ble_eq_true rfl⟩
theorem mr_X8_state : mR 89 = some (FieldType.int) := rfl
theorem mo_X8_plain : Mok 90 := ⟨wd_438, wd_90, ⟨nh_0.1, nh_0.2.1, pd_11⟩, nh_0.2.2, Nat.le_of_ble_eq_true rfl⟩
theorem mr_X8_plain : mR 90 = some (FieldType.boolean) := rfl
theorem mo_X8_yard : Mok 91 := ⟨wd_457, wd_90, ⟨nh_0.1, nh_0.2.1, pd_11⟩, nh_0.2.2, Nat.le_of_ble_eq_true rfl⟩
theorem mr_X8_yard : mR 91 = some (FieldType.boolean) := rfl
theorem mo_X8_tent : Mok 92 := ⟨wd_477, wd_90, ⟨nh_0.1, nh_0.2.1, pd_12⟩, nh_0.2.2, Nat.le_of_ble_eq_true rfl⟩
theorem mr_X8_tent : mR 92 = some (FieldType.int) := rfl
theorem mo_X8_man : Mok 93 := ⟨wd_497, wd_90, ⟨nh_0.1, nh_0.2.1, pd_5⟩, nh_0.2.2, Nat.le_of_ble_eq_true rfl⟩
theorem mr_X8_man : mR 93 = some (FieldType.int) := rfl
theorem mo_X8_stranger : Mok 94 := ⟨wd_505, wd_90, ⟨nh_0.1, nh_0.2.1, pd_7⟩, nh_0.2.2, Nat.le_of_ble_eq_true rfl⟩
theorem mr_X8_stranger : mR 94 = some (FieldType.boolean) := rfl
theorem mo_X8_set : Mok 95 := ⟨wd_510, wd_90, ⟨nh_0.1, nh_0.2.1, pd_14⟩, nh_0.2.2, Nat.le_of_ble_eq_true rfl⟩
theorem mr_X8_set : mR 95 = some (FieldType.boolean) := rfl
theorem mo_X8_feed : Mok 96 := ⟨wd_534, wd_90, ⟨nh_0.1, nh_0.2.1, pd_17⟩, nh_0.2.2, Nat.le_of_ble_eq_true rfl⟩
theorem mr_X8_feed : mR 96 = some (FieldType.int) := rfl
theorem mo_X8_end : Mok 97 := ⟨wd_542, wd_90, ⟨nh_0.1, nh_0.2.1, pd_7⟩, nh_0.2.2, Nat.le_of_ble_eq_true rfl⟩
theorem mr_X8_end : mR 97 = some (FieldType.boolean) := rfl
theorem mo_X8_text : Mok 98 := ⟨wd_546, wd_90, ⟨nh_0.1, nh_0.2.1, pd_1⟩, nh_0.2.2, Nat.le_of_ble_eq_true rfl⟩
theorem mr_X8_text : mR 98 = some (FieldType.int) := rfl
theorem mo_X8_fault : Mok 99 := ⟨wd_744, wd_90, ⟨nh_0.1, nh_0.2.1, pd_5⟩, nh_0.2.2, Nat.le_of_ble_eq_true rfl⟩
theorem mr_X8_fault : mR 99 = some (FieldType.int) := rfl
theorem mo_X8_evenings : Mok 100 := ⟨wd_748, wd_90, ⟨nh_0.1, nh_0.2.1, pd_5⟩, nh_0.2.2, Nat.le_of_ble_eq_true rfl⟩
theorem mr_X8_evenings : mR 100 = some (FieldType.int) := rfl
theorem mo_X8_of : Mok 101 := ⟨wd_844, wd_90, ⟨nh_0.1, nh_0.2.1, pd_9⟩, nh_0.2.2, Nat.le_of_ble_eq_true rfl⟩
theorem mr_X8_of : mR 101 = some (FieldType.int) := rfl
theorem mo_X8_way : Mok 102 := ⟨wd_854, wd_90, ⟨nh_0.1, nh_0.2.1, pd_9⟩, nh_0.2.2, Nat.le_of_ble_eq_true rfl⟩
theorem mr_X8_way : mR 102 = some (FieldType.int) := rfl
theorem mo_X8_at : Mok 103 := ⟨wd_863, wd_90, ⟨nh_0.1, nh_0.2.1, pd_9⟩, nh_0.2.2, Nat.le_of_ble_eq_true rfl⟩
theorem mr_X8_at : mR 103 = some (FieldType.int) := rfl
theorem mo_X8_rest : Mok 104 := ⟨wd_869, wd_90, ⟨nh_0.1, nh_0.2.1, pd_5⟩, nh_0.2.2, Nat.le_of_ble_eq_true rfl⟩
theorem mr_X8_rest : mR 104 = some (FieldType.int) := rfl
theorem mo_X8_placings : Mok 105 := ⟨wd_883, wd_90, ⟨nh_0.1, nh_0.2.1, pd_9⟩, nh_0.2.2, Nat.le_of_ble_eq_true rfl⟩
theorem mr_X8_placings : mR 105 = some (FieldType.int) := rfl
theorem mo_X8_saves : Mok 106 := ⟨wd_950, wd_90, ⟨nh_0.1, nh_0.2.1, pd_5⟩, nh_0.2.2, Nat.le_of_ble_eq_true rfl⟩
theorem mr_X8_saves : mR 106 = some (FieldType.int) := rfl
theorem mo_X8_line : Mok 107 := ⟨wd_964, wd_90, ⟨nh_0.1, nh_0.2.1, pd_1⟩, nh_0.2.2, Nat.le_of_ble_eq_true rfl⟩
theorem mr_X8_line : mR 107 = some (FieldType.int) := rfl
theorem mo_X8_rid : Mok 108 := ⟨wd_975, wd_90, ⟨nh_0.1, nh_0.2.1, pd_9⟩, nh_0.2.2, Nat.le_of_ble_eq_true rfl⟩
theorem mr_X8_rid : mR 108 = some (FieldType.int) := rfl
theorem mo_X8_send : Mok 109 := ⟨wd_984, wd_90, ⟨nh_0.1, nh_0.2.1, pd_9⟩, nh_0.2.2, Nat.le_of_ble_eq_true rfl⟩
theorem mr_X8_send : mR 109 = some (FieldType.int) := rfl
theorem mo_X8_broken : Mok 110 := ⟨wd_997, wd_90, ⟨nh_0.1, nh_0.2.1, pd_5⟩, nh_0.2.2, Nat.le_of_ble_eq_true rfl⟩
theorem mr_X8_broken : mR 110 = some (FieldType.int) := rfl
theorem mo_X8_told : Mok 111 := ⟨wd_1001, wd_90, ⟨nh_0.1, nh_0.2.1, pd_11⟩, nh_0.2.2, Nat.le_of_ble_eq_true rfl⟩
theorem mr_X8_told : mR 111 = some (FieldType.boolean) := rfl
theorem mo_X8_night : Mok 112 := ⟨wd_1005, wd_90, ⟨nh_0.1, nh_0.2.1, pd_5⟩, nh_0.2.2, Nat.le_of_ble_eq_true rfl⟩
theorem mr_X8_night : mR 112 = some (FieldType.int) := rfl
theorem mo_X8_image : Mok 113 := ⟨wd_1021, wd_90, ⟨nh_0.1, nh_0.2.1, pd_28⟩, nh_0.2.2, Nat.le_of_ble_eq_true rfl⟩
theorem mr_X8_image : mR 113 = some (FieldType.boolean) := rfl
theorem mo_X8_look : Mok 114 := ⟨wd_1030, wd_90, ⟨nh_0.1, nh_0.2.1, pd_5⟩, nh_0.2.2, Nat.le_of_ble_eq_true rfl⟩
theorem mr_X8_look : mR 114 = some (FieldType.int) := rfl
theorem mo_X8_lookAtTold : Mok 115 := ⟨wd_1034, wd_90, ⟨nh_0.1, nh_0.2.1, pd_5⟩, nh_0.2.2, Nat.le_of_ble_eq_true rfl⟩
theorem mr_X8_lookAtTold : mR 115 = some (FieldType.int) := rfl
theorem mo_X8_forgetWays : Mok 116 := ⟨wd_449, wd_90, ⟨nh_0.1, nh_0.2.1, pd_2⟩, nh_0.2.2, Nat.le_of_ble_eq_true rfl⟩
theorem mr_X8_forgetWays : mR 116 = none := rfl
theorem mo_X8_tapeNumber : Mok 117 := ⟨wd_538, wd_90, ⟨nh_0.1, nh_0.2.1, pd_6⟩, nh_0.2.2, Nat.le_of_ble_eq_true rfl⟩
theorem mr_X8_tapeNumber : mR 117 = none := rfl
theorem mo_X8_isMode : Mok 118 := ⟨wd_480, wd_90, ⟨nh_0.1, nh_0.2.1, pd_7⟩, nh_0.2.2, Nat.le_of_ble_eq_true rfl⟩
theorem mr_X8_isMode : mR 118 = some (FieldType.boolean) := rfl
theorem mo_X8_setFine : Mok 119 := ⟨wd_514, wd_90, ⟨nh_0.1, nh_0.2.1, pd_7⟩, nh_0.2.2, Nat.le_of_ble_eq_true rfl⟩
theorem mr_X8_setFine : mR 119 = some (FieldType.boolean) := rfl
theorem mo_X8_setAtOnce : Mok 120 := ⟨wd_518, wd_90, ⟨nh_0.1, nh_0.2.1, pd_7⟩, nh_0.2.2, Nat.le_of_ble_eq_true rfl⟩
theorem mr_X8_setAtOnce : mR 120 = some (FieldType.boolean) := rfl
theorem mo_X8_setMode : Mok 121 := ⟨wd_522, wd_90, ⟨nh_0.1, nh_0.2.1, pd_11⟩, nh_0.2.2, Nat.le_of_ble_eq_true rfl⟩
theorem mr_X8_setMode : mR 121 = some (FieldType.boolean) := rfl
theorem mo_X8_putTent : Mok 122 := ⟨wd_530, wd_90, ⟨nh_0.1, nh_0.2.1, pd_11⟩, nh_0.2.2, Nat.le_of_ble_eq_true rfl⟩
theorem mr_X8_putTent : mR 122 = some (FieldType.boolean) := rfl
theorem mo_X9_init : Mok 123 := ⟨wd_1039, wd_97, ⟨nh_9.1, nh_9.2.1, pd_2⟩, nh_9.2.2, Nat.le_of_ble_eq_true rfl⟩
theorem mr_X9_init : mR 123 = none := rfl
theorem mo_X9_begins : Mok 124 := ⟨wd_1044, wd_97, ⟨nh_9.1, nh_9.2.1, pd_10⟩, nh_9.2.2, Nat.le_of_ble_eq_true rfl⟩
theorem mr_X9_begins : mR 124 = none := rfl
theorem mo_X9_isIn : Mok 125 := ⟨wd_1164, wd_97, ⟨nh_9.1, nh_9.2.1, pd_14⟩, nh_9.2.2, Nat.le_of_ble_eq_true rfl⟩
theorem mr_X9_isIn : mR 125 = some (FieldType.boolean) := rfl
theorem mo_X9_least : Mok 126 := ⟨wd_1401, wd_97, ⟨nh_9.1, nh_9.2.1, pd_9⟩, nh_9.2.2, Nat.le_of_ble_eq_true rfl⟩
theorem mr_X9_least : mR 126 = some (FieldType.int) := rfl
theorem mo_X9_isPlace : Mok 127 := ⟨wd_1176, wd_97, ⟨nh_9.1, nh_9.2.1, pd_11⟩, nh_9.2.2, Nat.le_of_ble_eq_true rfl⟩
theorem mr_X9_isPlace : mR 127 = some (FieldType.boolean) := rfl
theorem mo_X9_isYard : Mok 128 := ⟨wd_1172, wd_97, ⟨nh_9.1, nh_9.2.1, pd_7⟩, nh_9.2.2, Nat.le_of_ble_eq_true rfl⟩
theorem mr_X9_isYard : mR 128 = some (FieldType.boolean) := rfl
theorem mo_X9_isGrass : Mok 129 := ⟨wd_1200, wd_97, ⟨nh_9.1, nh_9.2.1, pd_7⟩, nh_9.2.2, Nat.le_of_ble_eq_true rfl⟩
theorem mr_X9_isGrass : mR 129 = some (FieldType.boolean) := rfl
theorem mo_X9_isTent : Mok 130 := ⟨wd_1224, wd_97, ⟨nh_9.1, nh_9.2.1, pd_7⟩, nh_9.2.2, Nat.le_of_ble_eq_true rfl⟩
theorem mr_X9_isTent : mR 130 = some (FieldType.boolean) := rfl
theorem mo_X9_own : Mok 131 := ⟨wd_1184, wd_97, ⟨nh_9.1, nh_9.2.1, pd_9⟩, nh_9.2.2, Nat.le_of_ble_eq_true rfl⟩
theorem mr_X9_own : mR 131 = some (FieldType.int) := rfl
theorem mo_X9_gives : Mok 132 := ⟨wd_1204, wd_97, ⟨nh_9.1, nh_9.2.1, pd_13⟩, nh_9.2.2, Nat.le_of_ble_eq_true rfl⟩
theorem mr_X9_gives : mR 132 = none := rfl
theorem mo_X9_state : Mok 133 := ⟨wd_1157, wd_97, ⟨nh_9.1, nh_9.2.1, pd_5⟩, nh_9.2.2, Nat.le_of_ble_eq_true rfl⟩
theorem mr_X9_state : mR 133 = some (FieldType.int) := rfl
theorem mo_X9_draw : Mok 134 := ⟨wd_1364, wd_97, ⟨nh_9.1, nh_9.2.1, pd_5⟩, nh_9.2.2, Nat.le_of_ble_eq_true rfl⟩
theorem mr_X9_draw : mR 134 = some (FieldType.int) := rfl
theorem mo_X9_plain : Mok 135 := ⟨wd_1161, wd_97, ⟨nh_9.1, nh_9.2.1, pd_11⟩, nh_9.2.2, Nat.le_of_ble_eq_true rfl⟩
theorem mr_X9_plain : mR 135 = some (FieldType.boolean) := rfl
theorem mo_X9_tentAt : Mok 136 := ⟨wd_1180, wd_97, ⟨nh_9.1, nh_9.2.1, pd_5⟩, nh_9.2.2, Nat.le_of_ble_eq_true rfl⟩
theorem mr_X9_tentAt : mR 136 = some (FieldType.int) := rfl
theorem mo_X9_manAt : Mok 137 := ⟨wd_1188, wd_97, ⟨nh_9.1, nh_9.2.1, pd_5⟩, nh_9.2.2, Nat.le_of_ble_eq_true rfl⟩
theorem mr_X9_manAt : mR 137 = some (FieldType.int) := rfl
theorem mo_X9_yard : Mok 138 := ⟨wd_1168, wd_97, ⟨nh_9.1, nh_9.2.1, pd_11⟩, nh_9.2.2, Nat.le_of_ble_eq_true rfl⟩
theorem mr_X9_yard : mR 138 = some (FieldType.boolean) := rfl
theorem mo_X9_couldBe : Mok 139 := ⟨wd_1196, wd_97, ⟨nh_9.1, nh_9.2.1, pd_14⟩, nh_9.2.2, Nat.le_of_ble_eq_true rfl⟩
theorem mr_X9_couldBe : mR 139 = some (FieldType.boolean) := rfl
theorem mo_X9_tent : Mok 140 := ⟨wd_1192, wd_97, ⟨nh_9.1, nh_9.2.1, pd_12⟩, nh_9.2.2, Nat.le_of_ble_eq_true rfl⟩
theorem mr_X9_tent : mR 140 = some (FieldType.int) := rfl
theorem mo_X9_isFree : Mok 141 := ⟨wd_1212, wd_97, ⟨nh_9.1, nh_9.2.1, pd_7⟩, nh_9.2.2, Nat.le_of_ble_eq_true rfl⟩
theorem mr_X9_isFree : mR 141 = some (FieldType.boolean) := rfl
theorem mo_X9_man : Mok 142 := ⟨wd_1208, wd_97, ⟨nh_9.1, nh_9.2.1, pd_5⟩, nh_9.2.2, Nat.le_of_ble_eq_true rfl⟩
theorem mr_X9_man : mR 142 = some (FieldType.int) := rfl
theorem mo_X9_stranger : Mok 143 := ⟨wd_1216, wd_97, ⟨nh_9.1, nh_9.2.1, pd_7⟩, nh_9.2.2, Nat.le_of_ble_eq_true rfl⟩
theorem mr_X9_stranger : mR 143 = some (FieldType.boolean) := rfl
theorem mo_X9_couldStand : Mok 144 := ⟨wd_1228, wd_97, ⟨nh_9.1, nh_9.2.1, pd_11⟩, nh_9.2.2, Nat.le_of_ble_eq_true rfl⟩
theorem mr_X9_couldStand : mR 144 = some (FieldType.boolean) := rfl
theorem mo_X9_set : Mok 145 := ⟨wd_1220, wd_97, ⟨nh_9.1, nh_9.2.1, pd_14⟩, nh_9.2.2, Nat.le_of_ble_eq_true rfl⟩
theorem mr_X9_set : mR 145 = some (FieldType.boolean) := rfl
theorem mo_X9_feed : Mok 146 := ⟨wd_1232, wd_97, ⟨nh_9.1, nh_9.2.1, pd_17⟩, nh_9.2.2, Nat.le_of_ble_eq_true rfl⟩
theorem mr_X9_feed : mR 146 = some (FieldType.int) := rfl
theorem mo_X9_end : Mok 147 := ⟨wd_1236, wd_97, ⟨nh_9.1, nh_9.2.1, pd_7⟩, nh_9.2.2, Nat.le_of_ble_eq_true rfl⟩
theorem mr_X9_end : mR 147 = some (FieldType.boolean) := rfl
theorem mo_X9_see : Mok 148 := ⟨wd_1248, wd_97, ⟨nh_9.1, nh_9.2.1, pd_5⟩, nh_9.2.2, Nat.le_of_ble_eq_true rfl⟩
theorem mr_X9_see : mR 148 = some (FieldType.int) := rfl
theorem mo_X9_isLetter : Mok 149 := ⟨wd_1251, wd_97, ⟨nh_9.1, nh_9.2.1, pd_7⟩, nh_9.2.2, Nat.le_of_ble_eq_true rfl⟩
theorem mr_X9_isLetter : mR 149 = some (FieldType.boolean) := rfl
theorem mo_X9_isDigit : Mok 150 := ⟨wd_1281, wd_97, ⟨nh_9.1, nh_9.2.1, pd_7⟩, nh_9.2.2, Nat.le_of_ble_eq_true rfl⟩
theorem mr_X9_isDigit : mR 150 = some (FieldType.boolean) := rfl
theorem mo_X9_is : Mok 151 := ⟨wd_1260, wd_97, ⟨nh_9.1, nh_9.2.1, pd_26⟩, nh_9.2.2, Nat.le_of_ble_eq_true rfl⟩
theorem mr_X9_is : mR 151 = some (FieldType.boolean) := rfl
theorem mo_X9_nameWord : Mok 152 := ⟨wd_1270, wd_97, ⟨nh_9.1, nh_9.2.1, pd_1⟩, nh_9.2.2, Nat.le_of_ble_eq_true rfl⟩
theorem mr_X9_nameWord : mR 152 = some (FieldType.int) := rfl
theorem mo_X9_word : Mok 153 := ⟨wd_1255, wd_97, ⟨nh_9.1, nh_9.2.1, pd_1⟩, nh_9.2.2, Nat.le_of_ble_eq_true rfl⟩
theorem mr_X9_word : mR 153 = some (FieldType.int) := rfl
theorem mo_X9_next0 : Mok 154 := ⟨wd_1244, wd_97, ⟨nh_9.1, nh_9.2.1, pd_2⟩, nh_9.2.2, Nat.le_of_ble_eq_true rfl⟩
theorem mr_X9_next0 : mR 154 = none := rfl
theorem mo_X9_bad : Mok 155 := ⟨wd_1289, wd_97, ⟨nh_9.1, nh_9.2.1, pd_7⟩, nh_9.2.2, Nat.le_of_ble_eq_true rfl⟩
theorem mr_X9_bad : mR 155 = some (FieldType.boolean) := rfl
theorem mo_X9_need : Mok 156 := ⟨wd_1325, wd_97, ⟨nh_9.1, nh_9.2.1, pd_7⟩, nh_9.2.2, Nat.le_of_ble_eq_true rfl⟩
theorem mr_X9_need : mR 156 = some (FieldType.boolean) := rfl
theorem mo_X9_lay : Mok 157 := ⟨wd_1305, wd_97, ⟨nh_9.1, nh_9.2.1, pd_10⟩, nh_9.2.2, Nat.le_of_ble_eq_true rfl⟩
theorem mr_X9_lay : mR 157 = none := rfl
theorem mo_X9_opens : Mok 158 := ⟨wd_1321, wd_97, ⟨nh_9.1, nh_9.2.1, pd_3⟩, nh_9.2.2, Nat.le_of_ble_eq_true rfl⟩
theorem mr_X9_opens : mR 158 = some (FieldType.boolean) := rfl
theorem mo_X9_sumUp : Mok 159 := ⟨wd_1293, wd_97, ⟨nh_9.1, nh_9.2.1, pd_3⟩, nh_9.2.2, Nat.le_of_ble_eq_true rfl⟩
theorem mr_X9_sumUp : mR 159 = some (FieldType.boolean) := rfl
theorem mo_X9_product : Mok 160 := ⟨wd_1297, wd_97, ⟨nh_9.1, nh_9.2.1, pd_3⟩, nh_9.2.2, Nat.le_of_ble_eq_true rfl⟩
theorem mr_X9_product : mR 160 = some (FieldType.boolean) := rfl
theorem mo_X9_unit : Mok 161 := ⟨wd_1301, wd_97, ⟨nh_9.1, nh_9.2.1, pd_3⟩, nh_9.2.2, Nat.le_of_ble_eq_true rfl⟩
theorem mr_X9_unit : mR 161 = some (FieldType.boolean) := rfl
theorem mo_X9_any : Mok 162 := ⟨wd_1309, wd_97, ⟨nh_9.1, nh_9.2.1, pd_3⟩, nh_9.2.2, Nat.le_of_ble_eq_true rfl⟩
theorem mr_X9_any : mR 162 = some (FieldType.boolean) := rfl
theorem mo_X9_every : Mok 163 := ⟨wd_1313, wd_97, ⟨nh_9.1, nh_9.2.1, pd_3⟩, nh_9.2.2, Nat.le_of_ble_eq_true rfl⟩
theorem mr_X9_every : mR 163 = some (FieldType.boolean) := rfl
theorem mo_X9_oneTest : Mok 164 := ⟨wd_1317, wd_97, ⟨nh_9.1, nh_9.2.1, pd_3⟩, nh_9.2.2, Nat.le_of_ble_eq_true rfl⟩
theorem mr_X9_oneTest : mR 164 = some (FieldType.boolean) := rfl
theorem mo_X9_aLine : Mok 165 := ⟨wd_1285, wd_97, ⟨nh_9.1, nh_9.2.1, pd_3⟩, nh_9.2.2, Nat.le_of_ble_eq_true rfl⟩
theorem mr_X9_aLine : mR 165 = some (FieldType.boolean) := rfl
theorem mo_X9_text : Mok 166 := ⟨wd_1240, wd_97, ⟨nh_9.1, nh_9.2.1, pd_1⟩, nh_9.2.2, Nat.le_of_ble_eq_true rfl⟩
theorem mr_X9_text : mR 166 = some (FieldType.int) := rfl
theorem mo_X9_fault : Mok 167 := ⟨wd_1329, wd_97, ⟨nh_9.1, nh_9.2.1, pd_5⟩, nh_9.2.2, Nat.le_of_ble_eq_true rfl⟩
theorem mr_X9_fault : mR 167 = some (FieldType.int) := rfl
theorem mo_X9_both : Mok 168 := ⟨wd_1420, wd_97, ⟨nh_9.1, nh_9.2.1, pd_12⟩, nh_9.2.2, Nat.le_of_ble_eq_true rfl⟩
theorem mr_X9_both : mR 168 = some (FieldType.int) := rfl
theorem mo_X9_comesTo : Mok 169 := ⟨wd_1417, wd_97, ⟨nh_9.1, nh_9.2.1, pd_9⟩, nh_9.2.2, Nat.le_of_ble_eq_true rfl⟩
theorem mr_X9_comesTo : mR 169 = some (FieldType.int) := rfl
theorem mo_X9_beside : Mok 170 := ⟨wd_1348, wd_97, ⟨nh_9.1, nh_9.2.1, pd_9⟩, nh_9.2.2, Nat.le_of_ble_eq_true rfl⟩
theorem mr_X9_beside : mR 170 = some (FieldType.int) := rfl
theorem mo_X9_isDry : Mok 171 := ⟨wd_1337, wd_97, ⟨nh_9.1, nh_9.2.1, pd_7⟩, nh_9.2.2, Nat.le_of_ble_eq_true rfl⟩
theorem mr_X9_isDry : mR 171 = some (FieldType.boolean) := rfl
theorem mo_X9_laysWays : Mok 172 := ⟨wd_1345, wd_97, ⟨nh_9.1, nh_9.2.1, pd_6⟩, nh_9.2.2, Nat.le_of_ble_eq_true rfl⟩
theorem mr_X9_laysWays : mR 172 = none := rfl
theorem mo_X9_wayOf : Mok 173 := ⟨wd_1341, wd_97, ⟨nh_9.1, nh_9.2.1, pd_9⟩, nh_9.2.2, Nat.le_of_ble_eq_true rfl⟩
theorem mr_X9_wayOf : mR 173 = some (FieldType.int) := rfl
theorem mo_X9_way : Mok 174 := ⟨wd_1333, wd_97, ⟨nh_9.1, nh_9.2.1, pd_9⟩, nh_9.2.2, Nat.le_of_ble_eq_true rfl⟩
theorem mr_X9_way : mR 174 = some (FieldType.int) := rfl
theorem mo_X9_areKin : Mok 175 := ⟨wd_1386, wd_97, ⟨nh_9.1, nh_9.2.1, pd_11⟩, nh_9.2.2, Nat.le_of_ble_eq_true rfl⟩
theorem mr_X9_areKin : mR 175 = some (FieldType.boolean) := rfl
theorem mo_X9_nearer : Mok 176 := ⟨wd_1398, wd_97, ⟨nh_9.1, nh_9.2.1, pd_12⟩, nh_9.2.2, Nat.le_of_ble_eq_true rfl⟩
theorem mr_X9_nearer : mR 176 = some (FieldType.int) := rfl
theorem mo_X9_farAlone : Mok 177 := ⟨wd_1394, wd_97, ⟨nh_9.1, nh_9.2.1, pd_5⟩, nh_9.2.2, Nat.le_of_ble_eq_true rfl⟩
theorem mr_X9_farAlone : mR 177 = some (FieldType.int) := rfl
theorem mo_X9_farOf : Mok 178 := ⟨wd_1390, wd_97, ⟨nh_9.1, nh_9.2.1, pd_5⟩, nh_9.2.2, Nat.le_of_ble_eq_true rfl⟩
theorem mr_X9_farOf : mR 178 = some (FieldType.int) := rfl
theorem mo_X9_kinOf : Mok 179 := ⟨wd_1382, wd_97, ⟨nh_9.1, nh_9.2.1, pd_5⟩, nh_9.2.2, Nat.le_of_ble_eq_true rfl⟩
theorem mr_X9_kinOf : mR 179 = some (FieldType.int) := rfl
theorem mo_X9_isNear : Mok 180 := ⟨wd_1409, wd_97, ⟨nh_9.1, nh_9.2.1, pd_9⟩, nh_9.2.2, Nat.le_of_ble_eq_true rfl⟩
theorem mr_X9_isNear : mR 180 = some (FieldType.int) := rfl
theorem mo_X9_nearOf : Mok 181 := ⟨wd_1405, wd_97, ⟨nh_9.1, nh_9.2.1, pd_5⟩, nh_9.2.2, Nat.le_of_ble_eq_true rfl⟩
theorem mr_X9_nearOf : mR 181 = some (FieldType.int) := rfl
theorem mo_X9_lawful : Mok 182 := ⟨wd_1413, wd_97, ⟨nh_9.1, nh_9.2.1, pd_15⟩, nh_9.2.2, Nat.le_of_ble_eq_true rfl⟩
theorem mr_X9_lawful : mR 182 = some (FieldType.int) := rfl
theorem mo_X9_payOf : Mok 183 := ⟨wd_1378, wd_97, ⟨nh_9.1, nh_9.2.1, pd_5⟩, nh_9.2.2, Nat.le_of_ble_eq_true rfl⟩
theorem mr_X9_payOf : mR 183 = some (FieldType.int) := rfl
theorem mo_X9_payAt : Mok 184 := ⟨wd_1374, wd_97, ⟨nh_9.1, nh_9.2.1, pd_9⟩, nh_9.2.2, Nat.le_of_ble_eq_true rfl⟩
theorem mr_X9_payAt : mR 184 = some (FieldType.int) := rfl
theorem mo_X9_where : Mok 185 := ⟨wd_1370, wd_97, ⟨nh_9.1, nh_9.2.1, pd_5⟩, nh_9.2.2, Nat.le_of_ble_eq_true rfl⟩
theorem mr_X9_where : mR 185 = some (FieldType.int) := rfl
theorem mo_X9_bestBeside : Mok 186 := ⟨wd_1424, wd_97, ⟨nh_9.1, nh_9.2.1, pd_5⟩, nh_9.2.2, Nat.le_of_ble_eq_true rfl⟩
theorem mr_X9_bestBeside : mR 186 = some (FieldType.int) := rfl
theorem mo_X9_chosen : Mok 187 := ⟨wd_1360, wd_97, ⟨nh_9.1, nh_9.2.1, pd_19⟩, nh_9.2.2, Nat.le_of_ble_eq_true rfl⟩
theorem mr_X9_chosen : mR 187 = some (FieldType.int) := rfl
theorem mo_X9_noon : Mok 188 := ⟨wd_1356, wd_97, ⟨nh_9.1, nh_9.2.1, pd_27⟩, nh_9.2.2, Nat.le_of_ble_eq_true rfl⟩
theorem mr_X9_noon : mR 188 = some (FieldType.int) := rfl
theorem mo_X9_evenings : Mok 189 := ⟨wd_1352, wd_97, ⟨nh_9.1, nh_9.2.1, pd_5⟩, nh_9.2.2, Nat.le_of_ble_eq_true rfl⟩
theorem mr_X9_evenings : mR 189 = some (FieldType.int) := rfl
theorem mo_X9_of : Mok 190 := ⟨wd_1428, wd_97, ⟨nh_9.1, nh_9.2.1, pd_9⟩, nh_9.2.2, Nat.le_of_ble_eq_true rfl⟩
theorem mr_X9_of : mR 190 = some (FieldType.int) := rfl
theorem mo_X9_at : Mok 191 := ⟨wd_1432, wd_97, ⟨nh_9.1, nh_9.2.1, pd_9⟩, nh_9.2.2, Nat.le_of_ble_eq_true rfl⟩
theorem mr_X9_at : mR 191 = some (FieldType.int) := rfl
theorem mo_X9_isRow : Mok 192 := ⟨wd_1440, wd_97, ⟨nh_9.1, nh_9.2.1, pd_7⟩, nh_9.2.2, Nat.le_of_ble_eq_true rfl⟩
theorem mr_X9_isRow : mR 192 = some (FieldType.boolean) := rfl
theorem mo_X9_rest : Mok 193 := ⟨wd_1436, wd_97, ⟨nh_9.1, nh_9.2.1, pd_5⟩, nh_9.2.2, Nat.le_of_ble_eq_true rfl⟩
theorem mr_X9_rest : mR 193 = some (FieldType.int) := rfl
theorem mo_X9_paid : Mok 194 := ⟨wd_1456, wd_97, ⟨nh_9.1, nh_9.2.1, pd_9⟩, nh_9.2.2, Nat.le_of_ble_eq_true rfl⟩
theorem mr_X9_paid : mR 194 = some (FieldType.int) := rfl
theorem mo_X9_isAtRest : Mok 195 := ⟨wd_1460, wd_97, ⟨nh_9.1, nh_9.2.1, pd_7⟩, nh_9.2.2, Nat.le_of_ble_eq_true rfl⟩
theorem mr_X9_isAtRest : mR 195 = some (FieldType.boolean) := rfl
theorem mo_X9_judges : Mok 196 := ⟨wd_1452, wd_97, ⟨nh_9.1, nh_9.2.1, pd_2⟩, nh_9.2.2, Nat.le_of_ble_eq_true rfl⟩
theorem mr_X9_judges : mR 196 = none := rfl
theorem mo_X9_places : Mok 197 := ⟨wd_1448, wd_97, ⟨nh_9.1, nh_9.2.1, pd_10⟩, nh_9.2.2, Nat.le_of_ble_eq_true rfl⟩
theorem mr_X9_places : mR 197 = none := rfl
theorem mo_X9_placings : Mok 198 := ⟨wd_1444, wd_97, ⟨nh_9.1, nh_9.2.1, pd_9⟩, nh_9.2.2, Nat.le_of_ble_eq_true rfl⟩
theorem mr_X9_placings : mR 198 = some (FieldType.int) := rfl
theorem mo_X9_allPays : Mok 199 := ⟨wd_1468, wd_97, ⟨nh_9.1, nh_9.2.1, pd_1⟩, nh_9.2.2, Nat.le_of_ble_eq_true rfl⟩
theorem mr_X9_allPays : mR 199 = some (FieldType.int) := rfl
theorem mo_X9_saves : Mok 200 := ⟨wd_1464, wd_97, ⟨nh_9.1, nh_9.2.1, pd_5⟩, nh_9.2.2, Nat.le_of_ble_eq_true rfl⟩
theorem mr_X9_saves : mR 200 = some (FieldType.int) := rfl
theorem mo_X9_line : Mok 201 := ⟨wd_1472, wd_97, ⟨nh_9.1, nh_9.2.1, pd_1⟩, nh_9.2.2, Nat.le_of_ble_eq_true rfl⟩
theorem mr_X9_line : mR 201 = some (FieldType.int) := rfl
theorem mo_X9_rid : Mok 202 := ⟨wd_1476, wd_97, ⟨nh_9.1, nh_9.2.1, pd_9⟩, nh_9.2.2, Nat.le_of_ble_eq_true rfl⟩
theorem mr_X9_rid : mR 202 = some (FieldType.int) := rfl
theorem mo_X9_pays : Mok 203 := ⟨wd_1485, wd_97, ⟨nh_9.1, nh_9.2.1, pd_5⟩, nh_9.2.2, Nat.le_of_ble_eq_true rfl⟩
theorem mr_X9_pays : mR 203 = some (FieldType.int) := rfl
theorem mo_X9_send : Mok 204 := ⟨wd_1481, wd_97, ⟨nh_9.1, nh_9.2.1, pd_9⟩, nh_9.2.2, Nat.le_of_ble_eq_true rfl⟩
theorem mr_X9_send : mR 204 = some (FieldType.int) := rfl
theorem mo_X9_breaks : Mok 205 := ⟨wd_1493, wd_97, ⟨nh_9.1, nh_9.2.1, pd_10⟩, nh_9.2.2, Nat.le_of_ble_eq_true rfl⟩
theorem mr_X9_breaks : mR 205 = none := rfl
theorem mo_X9_broken : Mok 206 := ⟨wd_1489, wd_97, ⟨nh_9.1, nh_9.2.1, pd_5⟩, nh_9.2.2, Nat.le_of_ble_eq_true rfl⟩
theorem mr_X9_broken : mR 206 = some (FieldType.int) := rfl
theorem mo_X9_told : Mok 207 := ⟨wd_1497, wd_97, ⟨nh_9.1, nh_9.2.1, pd_11⟩, nh_9.2.2, Nat.le_of_ble_eq_true rfl⟩
theorem mr_X9_told : mR 207 = some (FieldType.boolean) := rfl
theorem mo_X9_goWith : Mok 208 := ⟨wd_1505, wd_97, ⟨nh_9.1, nh_9.2.1, pd_3⟩, nh_9.2.2, Nat.le_of_ble_eq_true rfl⟩
theorem mr_X9_goWith : mR 208 = some (FieldType.boolean) := rfl
theorem mo_X9_night : Mok 209 := ⟨wd_1501, wd_97, ⟨nh_9.1, nh_9.2.1, pd_5⟩, nh_9.2.2, Nat.le_of_ble_eq_true rfl⟩
theorem mr_X9_night : mR 209 = some (FieldType.int) := rfl
theorem mo_X9_image : Mok 210 := ⟨wd_1509, wd_97, ⟨nh_9.1, nh_9.2.1, pd_28⟩, nh_9.2.2, Nat.le_of_ble_eq_true rfl⟩
theorem mr_X9_image : mR 210 = some (FieldType.boolean) := rfl
theorem mo_X9_look : Mok 211 := ⟨wd_1513, wd_97, ⟨nh_9.1, nh_9.2.1, pd_5⟩, nh_9.2.2, Nat.le_of_ble_eq_true rfl⟩
theorem mr_X9_look : mR 211 = some (FieldType.int) := rfl
theorem mr_L_law : mR 212 = some .boolean := rfl
