-- ===== PART A: goes FIRST, ahead of the names: the tables' words, and 'selects' of the private methods out of them =====
/-- a private method of a class that the tables say can be made, by its rows of tables_1 -/
def lw_okq (q : MethodName × Nat) : Prop := (q.1.cls ≠ "java/lang/invoke/MethodHandle" ∧ q.1.cls ≠ "java/lang/invoke/VarHandle") ∧ Cond.instantiable q.1.cls q.2 ∈ tables_1 ∧ Cond.privateMethod q.1 ∈ tables_1 ∧ Cond.instanceMethod q.1 ∈ tables_1
theorem lw_p0 : lw_okq (⟨"StatueVotes$Reader", "skipBlanks", "()V"⟩, 6) := ⟨⟨by decide +kernel, by decide +kernel⟩, List.mem_of_getElem? (i := 133) (by decide +kernel), List.mem_of_getElem? (i := 366) (by decide +kernel), List.mem_of_getElem? (i := 367) (by decide +kernel)⟩
theorem lw_p1 : lw_okq (⟨"StatueVotes$Reader", "readClause", "()V"⟩, 6) := ⟨⟨by decide +kernel, by decide +kernel⟩, List.mem_of_getElem? (i := 133) (by decide +kernel), List.mem_of_getElem? (i := 370) (by decide +kernel), List.mem_of_getElem? (i := 371) (by decide +kernel)⟩
theorem lw_p2 : lw_okq (⟨"StatueVotes$Reader", "letter", "()I"⟩, 6) := ⟨⟨by decide +kernel, by decide +kernel⟩, List.mem_of_getElem? (i := 133) (by decide +kernel), List.mem_of_getElem? (i := 374) (by decide +kernel), List.mem_of_getElem? (i := 375) (by decide +kernel)⟩
theorem lw_p3 : lw_okq (⟨"StatueVotes$Reader", "faultOfWord", "(I)I"⟩, 6) := ⟨⟨by decide +kernel, by decide +kernel⟩, List.mem_of_getElem? (i := 133) (by decide +kernel), List.mem_of_getElem? (i := 378) (by decide +kernel), List.mem_of_getElem? (i := 379) (by decide +kernel)⟩
theorem lw_p4 : lw_okq (⟨"StatueVotes$Reader", "blame", "(II)V"⟩, 6) := ⟨⟨by decide +kernel, by decide +kernel⟩, List.mem_of_getElem? (i := 133) (by decide +kernel), List.mem_of_getElem? (i := 382) (by decide +kernel), List.mem_of_getElem? (i := 383) (by decide +kernel)⟩
theorem lw_p5 : lw_okq (⟨"StatueVotes$Reader", "readTerm", "()V"⟩, 6) := ⟨⟨by decide +kernel, by decide +kernel⟩, List.mem_of_getElem? (i := 133) (by decide +kernel), List.mem_of_getElem? (i := 386) (by decide +kernel), List.mem_of_getElem? (i := 387) (by decide +kernel)⟩
theorem lw_p6 : lw_okq (⟨"StatueVotes$Reader", "readNumber", "(II)I"⟩, 6) := ⟨⟨by decide +kernel, by decide +kernel⟩, List.mem_of_getElem? (i := 133) (by decide +kernel), List.mem_of_getElem? (i := 390) (by decide +kernel), List.mem_of_getElem? (i := 391) (by decide +kernel)⟩
theorem lw_p7 : lw_okq (⟨"StatueVotes$Reader", "readSemicolon", "()V"⟩, 6) := ⟨⟨by decide +kernel, by decide +kernel⟩, List.mem_of_getElem? (i := 133) (by decide +kernel), List.mem_of_getElem? (i := 397) (by decide +kernel), List.mem_of_getElem? (i := 398) (by decide +kernel)⟩
theorem lw_p8 : lw_okq (⟨"StatueVotes$Reader", "readPlinth", "()V"⟩, 6) := ⟨⟨by decide +kernel, by decide +kernel⟩, List.mem_of_getElem? (i := 133) (by decide +kernel), List.mem_of_getElem? (i := 401) (by decide +kernel), List.mem_of_getElem? (i := 402) (by decide +kernel)⟩
theorem lw_p9 : lw_okq (⟨"StatueVotes$Reader", "readStatue", "()V"⟩, 6) := ⟨⟨by decide +kernel, by decide +kernel⟩, List.mem_of_getElem? (i := 133) (by decide +kernel), List.mem_of_getElem? (i := 409) (by decide +kernel), List.mem_of_getElem? (i := 410) (by decide +kernel)⟩
theorem lw_p10 : lw_okq (⟨"StatueVotes$Reader", "readPlace", "()I"⟩, 6) := ⟨⟨by decide +kernel, by decide +kernel⟩, List.mem_of_getElem? (i := 133) (by decide +kernel), List.mem_of_getElem? (i := 413) (by decide +kernel), List.mem_of_getElem? (i := 414) (by decide +kernel)⟩
theorem lw_p11 : lw_okq (⟨"StatueVotes$Reader", "readWalker", "()V"⟩, 6) := ⟨⟨by decide +kernel, by decide +kernel⟩, List.mem_of_getElem? (i := 133) (by decide +kernel), List.mem_of_getElem? (i := 429) (by decide +kernel), List.mem_of_getElem? (i := 430) (by decide +kernel)⟩
theorem lw_p12 : lw_okq (⟨"StatueVotes$Polls", "isHadAgainstAll", "(I)Z"⟩, 2) := ⟨⟨by decide +kernel, by decide +kernel⟩, List.mem_of_getElem? (i := 164) (by decide +kernel), List.mem_of_getElem? (i := 517) (by decide +kernel), List.mem_of_getElem? (i := 518) (by decide +kernel)⟩
theorem lw_p13 : lw_okq (⟨"StatueVotes$Polls", "goesRound", "(III)Z"⟩, 2) := ⟨⟨by decide +kernel, by decide +kernel⟩, List.mem_of_getElem? (i := 164) (by decide +kernel), List.mem_of_getElem? (i := 531) (by decide +kernel), List.mem_of_getElem? (i := 532) (by decide +kernel)⟩
theorem lw_p14 : lw_okq (⟨"StatueVotes", "refusalOfYears", "(I)I"⟩, 11) := ⟨⟨by decide +kernel, by decide +kernel⟩, List.mem_of_getElem? (i := 17) (by decide +kernel), List.mem_of_getElem? (i := 566) (by decide +kernel), List.mem_of_getElem? (i := 567) (by decide +kernel)⟩
theorem lw_p15 : lw_okq (⟨"StatueVotes$State", "strain", "(I)I"⟩, 7) := ⟨⟨by decide +kernel, by decide +kernel⟩, List.mem_of_getElem? (i := 94) (by decide +kernel), List.mem_of_getElem? (i := 587) (by decide +kernel), List.mem_of_getElem? (i := 588) (by decide +kernel)⟩
def lw_privs_1 : List (MethodName × Nat) := [(⟨"StatueVotes$Reader", "skipBlanks", "()V"⟩, 6), (⟨"StatueVotes$Reader", "readClause", "()V"⟩, 6), (⟨"StatueVotes$Reader", "letter", "()I"⟩, 6), (⟨"StatueVotes$Reader", "faultOfWord", "(I)I"⟩, 6), (⟨"StatueVotes$Reader", "blame", "(II)V"⟩, 6), (⟨"StatueVotes$Reader", "readTerm", "()V"⟩, 6), (⟨"StatueVotes$Reader", "readNumber", "(II)I"⟩, 6), (⟨"StatueVotes$Reader", "readSemicolon", "()V"⟩, 6), (⟨"StatueVotes$Reader", "readPlinth", "()V"⟩, 6), (⟨"StatueVotes$Reader", "readStatue", "()V"⟩, 6), (⟨"StatueVotes$Reader", "readPlace", "()I"⟩, 6), (⟨"StatueVotes$Reader", "readWalker", "()V"⟩, 6), (⟨"StatueVotes$Polls", "isHadAgainstAll", "(I)Z"⟩, 2), (⟨"StatueVotes$Polls", "goesRound", "(III)Z"⟩, 2), (⟨"StatueVotes", "refusalOfYears", "(I)I"⟩, 11), (⟨"StatueVotes$State", "strain", "(I)I"⟩, 7)]
theorem lw_r1 : ∀ q ∈ lw_privs_1, lw_okq q := List.forall_mem_cons.mpr ⟨lw_p0, List.forall_mem_cons.mpr ⟨lw_p1, List.forall_mem_cons.mpr ⟨lw_p2, List.forall_mem_cons.mpr ⟨lw_p3, List.forall_mem_cons.mpr ⟨lw_p4, List.forall_mem_cons.mpr ⟨lw_p5, List.forall_mem_cons.mpr ⟨lw_p6, List.forall_mem_cons.mpr ⟨lw_p7, List.forall_mem_cons.mpr ⟨lw_p8, List.forall_mem_cons.mpr ⟨lw_p9, List.forall_mem_cons.mpr ⟨lw_p10, List.forall_mem_cons.mpr ⟨lw_p11, List.forall_mem_cons.mpr ⟨lw_p12, List.forall_mem_cons.mpr ⟨lw_p13, List.forall_mem_cons.mpr ⟨lw_p14, List.forall_mem_cons.mpr ⟨lw_p15, fun _ h => absurd h List.not_mem_nil⟩⟩⟩⟩⟩⟩⟩⟩⟩⟩⟩⟩⟩⟩⟩⟩
theorem lw_p16 : lw_okq (⟨"StatueVotes$State", "holdElection", "()V"⟩, 7) := ⟨⟨by decide +kernel, by decide +kernel⟩, List.mem_of_getElem? (i := 94) (by decide +kernel), List.mem_of_getElem? (i := 601) (by decide +kernel), List.mem_of_getElem? (i := 602) (by decide +kernel)⟩
theorem lw_p17 : lw_okq (⟨"StatueVotes$Draws", "draw", "(I)I"⟩, 3) := ⟨⟨by decide +kernel, by decide +kernel⟩, List.mem_of_getElem? (i := 253) (by decide +kernel), List.mem_of_getElem? (i := 647) (by decide +kernel), List.mem_of_getElem? (i := 648) (by decide +kernel)⟩
theorem lw_p18 : lw_okq (⟨"StatueVotes$Draws", "turnWalker", "()V"⟩, 3) := ⟨⟨by decide +kernel, by decide +kernel⟩, List.mem_of_getElem? (i := 253) (by decide +kernel), List.mem_of_getElem? (i := 655) (by decide +kernel), List.mem_of_getElem? (i := 656) (by decide +kernel)⟩
theorem lw_p19 : lw_okq (⟨"StatueVotes$Draws", "raiseStatue", "()V"⟩, 3) := ⟨⟨by decide +kernel, by decide +kernel⟩, List.mem_of_getElem? (i := 253) (by decide +kernel), List.mem_of_getElem? (i := 660) (by decide +kernel), List.mem_of_getElem? (i := 661) (by decide +kernel)⟩
theorem lw_p20 : lw_okq (⟨"StatueVotes$Draws", "washStatue", "()V"⟩, 3) := ⟨⟨by decide +kernel, by decide +kernel⟩, List.mem_of_getElem? (i := 253) (by decide +kernel), List.mem_of_getElem? (i := 665) (by decide +kernel), List.mem_of_getElem? (i := 666) (by decide +kernel)⟩
theorem lw_p21 : lw_okq (⟨"StatueVotes$Polls", "ordersAround", "(II)I"⟩, 2) := ⟨⟨by decide +kernel, by decide +kernel⟩, List.mem_of_getElem? (i := 164) (by decide +kernel), List.mem_of_getElem? (i := 717) (by decide +kernel), List.mem_of_getElem? (i := 718) (by decide +kernel)⟩
theorem lw_p22 : lw_okq (⟨"StatueVotes$Placer", "bestWorth", "(II)I"⟩, 4) := ⟨⟨by decide +kernel, by decide +kernel⟩, List.mem_of_getElem? (i := 177) (by decide +kernel), List.mem_of_getElem? (i := 736) (by decide +kernel), List.mem_of_getElem? (i := 737) (by decide +kernel)⟩
theorem lw_p23 : lw_okq (⟨"StatueVotes$Placer", "canHave", "(III)Z"⟩, 4) := ⟨⟨by decide +kernel, by decide +kernel⟩, List.mem_of_getElem? (i := 177) (by decide +kernel), List.mem_of_getElem? (i := 740) (by decide +kernel), List.mem_of_getElem? (i := 741) (by decide +kernel)⟩
theorem lw_p24 : lw_okq (⟨"StatueVotes$Placer", "worthOn", "(III)I"⟩, 4) := ⟨⟨by decide +kernel, by decide +kernel⟩, List.mem_of_getElem? (i := 177) (by decide +kernel), List.mem_of_getElem? (i := 746) (by decide +kernel), List.mem_of_getElem? (i := 747) (by decide +kernel)⟩
theorem lw_p25 : lw_okq (⟨"StatueVotes$Placer", "firstBest", "(II)I"⟩, 4) := ⟨⟨by decide +kernel, by decide +kernel⟩, List.mem_of_getElem? (i := 177) (by decide +kernel), List.mem_of_getElem? (i := 754) (by decide +kernel), List.mem_of_getElem? (i := 755) (by decide +kernel)⟩
theorem lw_p26 : lw_okq (⟨"StatueVotes$Placer", "bestOfAll", "()I"⟩, 4) := ⟨⟨by decide +kernel, by decide +kernel⟩, List.mem_of_getElem? (i := 177) (by decide +kernel), List.mem_of_getElem? (i := 762) (by decide +kernel), List.mem_of_getElem? (i := 763) (by decide +kernel)⟩
theorem lw_p27 : lw_okq (⟨"StatueVotes$Placer", "wouldSwap", "(II)Z"⟩, 4) := ⟨⟨by decide +kernel, by decide +kernel⟩, List.mem_of_getElem? (i := 177) (by decide +kernel), List.mem_of_getElem? (i := 778) (by decide +kernel), List.mem_of_getElem? (i := 779) (by decide +kernel)⟩
theorem lw_p28 : lw_okq (⟨"StatueVotes$Tally", "greatestPart", "(I)I"⟩, 8) := ⟨⟨by decide +kernel, by decide +kernel⟩, List.mem_of_getElem? (i := 199) (by decide +kernel), List.mem_of_getElem? (i := 824) (by decide +kernel), List.mem_of_getElem? (i := 825) (by decide +kernel)⟩
theorem lw_p29 : lw_okq (⟨"StatueVotesModel", "here", "()I"⟩, 43) := ⟨⟨by decide +kernel, by decide +kernel⟩, List.mem_of_getElem? (i := 865) (by decide +kernel), List.mem_of_getElem? (i := 1015) (by decide +kernel), List.mem_of_getElem? (i := 1016) (by decide +kernel)⟩
theorem lw_p30 : lw_okq (⟨"StatueVotesModel", "takeClause", "()I"⟩, 43) := ⟨⟨by decide +kernel, by decide +kernel⟩, List.mem_of_getElem? (i := 865) (by decide +kernel), List.mem_of_getElem? (i := 1019) (by decide +kernel), List.mem_of_getElem? (i := 1020) (by decide +kernel)⟩
theorem lw_p31 : lw_okq (⟨"StatueVotesModel", "fails", "(II)I"⟩, 43) := ⟨⟨by decide +kernel, by decide +kernel⟩, List.mem_of_getElem? (i := 865) (by decide +kernel), List.mem_of_getElem? (i := 1023) (by decide +kernel), List.mem_of_getElem? (i := 1024) (by decide +kernel)⟩
def lw_privs_2 : List (MethodName × Nat) := [(⟨"StatueVotes$State", "holdElection", "()V"⟩, 7), (⟨"StatueVotes$Draws", "draw", "(I)I"⟩, 3), (⟨"StatueVotes$Draws", "turnWalker", "()V"⟩, 3), (⟨"StatueVotes$Draws", "raiseStatue", "()V"⟩, 3), (⟨"StatueVotes$Draws", "washStatue", "()V"⟩, 3), (⟨"StatueVotes$Polls", "ordersAround", "(II)I"⟩, 2), (⟨"StatueVotes$Placer", "bestWorth", "(II)I"⟩, 4), (⟨"StatueVotes$Placer", "canHave", "(III)Z"⟩, 4), (⟨"StatueVotes$Placer", "worthOn", "(III)I"⟩, 4), (⟨"StatueVotes$Placer", "firstBest", "(II)I"⟩, 4), (⟨"StatueVotes$Placer", "bestOfAll", "()I"⟩, 4), (⟨"StatueVotes$Placer", "wouldSwap", "(II)Z"⟩, 4), (⟨"StatueVotes$Tally", "greatestPart", "(I)I"⟩, 8), (⟨"StatueVotesModel", "here", "()I"⟩, 43), (⟨"StatueVotesModel", "takeClause", "()I"⟩, 43), (⟨"StatueVotesModel", "fails", "(II)I"⟩, 43)]
theorem lw_r2 : ∀ q ∈ lw_privs_2, lw_okq q := List.forall_mem_cons.mpr ⟨lw_p16, List.forall_mem_cons.mpr ⟨lw_p17, List.forall_mem_cons.mpr ⟨lw_p18, List.forall_mem_cons.mpr ⟨lw_p19, List.forall_mem_cons.mpr ⟨lw_p20, List.forall_mem_cons.mpr ⟨lw_p21, List.forall_mem_cons.mpr ⟨lw_p22, List.forall_mem_cons.mpr ⟨lw_p23, List.forall_mem_cons.mpr ⟨lw_p24, List.forall_mem_cons.mpr ⟨lw_p25, List.forall_mem_cons.mpr ⟨lw_p26, List.forall_mem_cons.mpr ⟨lw_p27, List.forall_mem_cons.mpr ⟨lw_p28, List.forall_mem_cons.mpr ⟨lw_p29, List.forall_mem_cons.mpr ⟨lw_p30, List.forall_mem_cons.mpr ⟨lw_p31, fun _ h => absurd h List.not_mem_nil⟩⟩⟩⟩⟩⟩⟩⟩⟩⟩⟩⟩⟩⟩⟩⟩
theorem lw_p32 : lw_okq (⟨"StatueVotesModel", "isFull", "(I)Z"⟩, 43) := ⟨⟨by decide +kernel, by decide +kernel⟩, List.mem_of_getElem? (i := 865) (by decide +kernel), List.mem_of_getElem? (i := 1027) (by decide +kernel), List.mem_of_getElem? (i := 1028) (by decide +kernel)⟩
theorem lw_p33 : lw_okq (⟨"StatueVotesModel", "takeTerm", "()I"⟩, 43) := ⟨⟨by decide +kernel, by decide +kernel⟩, List.mem_of_getElem? (i := 865) (by decide +kernel), List.mem_of_getElem? (i := 1031) (by decide +kernel), List.mem_of_getElem? (i := 1032) (by decide +kernel)⟩
theorem lw_p34 : lw_okq (⟨"StatueVotesModel", "takeNumber", "(II)I"⟩, 43) := ⟨⟨by decide +kernel, by decide +kernel⟩, List.mem_of_getElem? (i := 865) (by decide +kernel), List.mem_of_getElem? (i := 1035) (by decide +kernel), List.mem_of_getElem? (i := 1036) (by decide +kernel)⟩
theorem lw_p35 : lw_okq (⟨"StatueVotesModel", "takePlinth", "()I"⟩, 43) := ⟨⟨by decide +kernel, by decide +kernel⟩, List.mem_of_getElem? (i := 865) (by decide +kernel), List.mem_of_getElem? (i := 1041) (by decide +kernel), List.mem_of_getElem? (i := 1042) (by decide +kernel)⟩
theorem lw_p36 : lw_okq (⟨"StatueVotesModel", "into", "([IIII)I"⟩, 43) := ⟨⟨by decide +kernel, by decide +kernel⟩, List.mem_of_getElem? (i := 865) (by decide +kernel), List.mem_of_getElem? (i := 1045) (by decide +kernel), List.mem_of_getElem? (i := 1046) (by decide +kernel)⟩
theorem lw_p37 : lw_okq (⟨"StatueVotesModel", "takeStatue", "()I"⟩, 43) := ⟨⟨by decide +kernel, by decide +kernel⟩, List.mem_of_getElem? (i := 865) (by decide +kernel), List.mem_of_getElem? (i := 1049) (by decide +kernel), List.mem_of_getElem? (i := 1050) (by decide +kernel)⟩
theorem lw_p38 : lw_okq (⟨"StatueVotesModel", "takePlace", "(I)I"⟩, 43) := ⟨⟨by decide +kernel, by decide +kernel⟩, List.mem_of_getElem? (i := 865) (by decide +kernel), List.mem_of_getElem? (i := 1053) (by decide +kernel), List.mem_of_getElem? (i := 1054) (by decide +kernel)⟩
theorem lw_p39 : lw_okq (⟨"StatueVotesModel", "takeWalker", "()I"⟩, 43) := ⟨⟨by decide +kernel, by decide +kernel⟩, List.mem_of_getElem? (i := 865) (by decide +kernel), List.mem_of_getElem? (i := 1057) (by decide +kernel), List.mem_of_getElem? (i := 1058) (by decide +kernel)⟩
theorem lw_p40 : lw_okq (⟨"StatueVotesModel", "takeRead", "()V"⟩, 43) := ⟨⟨by decide +kernel, by decide +kernel⟩, List.mem_of_getElem? (i := 865) (by decide +kernel), List.mem_of_getElem? (i := 1061) (by decide +kernel), List.mem_of_getElem? (i := 1062) (by decide +kernel)⟩
theorem lw_p41 : lw_okq (⟨"StatueVotesModel", "standingOnes", "()I"⟩, 43) := ⟨⟨by decide +kernel, by decide +kernel⟩, List.mem_of_getElem? (i := 865) (by decide +kernel), List.mem_of_getElem? (i := 1076) (by decide +kernel), List.mem_of_getElem? (i := 1077) (by decide +kernel)⟩
theorem lw_p42 : lw_okq (⟨"StatueVotesModel", "stands", "(I)Z"⟩, 43) := ⟨⟨by decide +kernel, by decide +kernel⟩, List.mem_of_getElem? (i := 865) (by decide +kernel), List.mem_of_getElem? (i := 1080) (by decide +kernel), List.mem_of_getElem? (i := 1081) (by decide +kernel)⟩
theorem lw_p43 : lw_okq (⟨"StatueVotesModel", "waitingOnes", "()I"⟩, 43) := ⟨⟨by decide +kernel, by decide +kernel⟩, List.mem_of_getElem? (i := 865) (by decide +kernel), List.mem_of_getElem? (i := 1084) (by decide +kernel), List.mem_of_getElem? (i := 1085) (by decide +kernel)⟩
theorem lw_p44 : lw_okq (⟨"StatueVotesModel", "whoIsOn", "(I)I"⟩, 43) := ⟨⟨by decide +kernel, by decide +kernel⟩, List.mem_of_getElem? (i := 865) (by decide +kernel), List.mem_of_getElem? (i := 1088) (by decide +kernel), List.mem_of_getElem? (i := 1089) (by decide +kernel)⟩
theorem lw_p45 : lw_okq (⟨"StatueVotesModel", "fallingOnes", "()I"⟩, 43) := ⟨⟨by decide +kernel, by decide +kernel⟩, List.mem_of_getElem? (i := 865) (by decide +kernel), List.mem_of_getElem? (i := 1092) (by decide +kernel), List.mem_of_getElem? (i := 1093) (by decide +kernel)⟩
theorem lw_p46 : lw_okq (⟨"StatueVotesModel", "marginOf", "(I)I"⟩, 43) := ⟨⟨by decide +kernel, by decide +kernel⟩, List.mem_of_getElem? (i := 865) (by decide +kernel), List.mem_of_getElem? (i := 1096) (by decide +kernel), List.mem_of_getElem? (i := 1097) (by decide +kernel)⟩
theorem lw_p47 : lw_okq (⟨"StatueVotesModel", "walkersUnder", "(I)I"⟩, 43) := ⟨⟨by decide +kernel, by decide +kernel⟩, List.mem_of_getElem? (i := 865) (by decide +kernel), List.mem_of_getElem? (i := 1100) (by decide +kernel), List.mem_of_getElem? (i := 1101) (by decide +kernel)⟩
def lw_privs_3 : List (MethodName × Nat) := [(⟨"StatueVotesModel", "isFull", "(I)Z"⟩, 43), (⟨"StatueVotesModel", "takeTerm", "()I"⟩, 43), (⟨"StatueVotesModel", "takeNumber", "(II)I"⟩, 43), (⟨"StatueVotesModel", "takePlinth", "()I"⟩, 43), (⟨"StatueVotesModel", "into", "([IIII)I"⟩, 43), (⟨"StatueVotesModel", "takeStatue", "()I"⟩, 43), (⟨"StatueVotesModel", "takePlace", "(I)I"⟩, 43), (⟨"StatueVotesModel", "takeWalker", "()I"⟩, 43), (⟨"StatueVotesModel", "takeRead", "()V"⟩, 43), (⟨"StatueVotesModel", "standingOnes", "()I"⟩, 43), (⟨"StatueVotesModel", "stands", "(I)Z"⟩, 43), (⟨"StatueVotesModel", "waitingOnes", "()I"⟩, 43), (⟨"StatueVotesModel", "whoIsOn", "(I)I"⟩, 43), (⟨"StatueVotesModel", "fallingOnes", "()I"⟩, 43), (⟨"StatueVotesModel", "marginOf", "(I)I"⟩, 43), (⟨"StatueVotesModel", "walkersUnder", "(I)I"⟩, 43)]
theorem lw_r3 : ∀ q ∈ lw_privs_3, lw_okq q := List.forall_mem_cons.mpr ⟨lw_p32, List.forall_mem_cons.mpr ⟨lw_p33, List.forall_mem_cons.mpr ⟨lw_p34, List.forall_mem_cons.mpr ⟨lw_p35, List.forall_mem_cons.mpr ⟨lw_p36, List.forall_mem_cons.mpr ⟨lw_p37, List.forall_mem_cons.mpr ⟨lw_p38, List.forall_mem_cons.mpr ⟨lw_p39, List.forall_mem_cons.mpr ⟨lw_p40, List.forall_mem_cons.mpr ⟨lw_p41, List.forall_mem_cons.mpr ⟨lw_p42, List.forall_mem_cons.mpr ⟨lw_p43, List.forall_mem_cons.mpr ⟨lw_p44, List.forall_mem_cons.mpr ⟨lw_p45, List.forall_mem_cons.mpr ⟨lw_p46, List.forall_mem_cons.mpr ⟨lw_p47, fun _ h => absurd h List.not_mem_nil⟩⟩⟩⟩⟩⟩⟩⟩⟩⟩⟩⟩⟩⟩⟩⟩
theorem lw_p48 : lw_okq (⟨"StatueVotesModel", "marginBy", "(II)I"⟩, 43) := ⟨⟨by decide +kernel, by decide +kernel⟩, List.mem_of_getElem? (i := 865) (by decide +kernel), List.mem_of_getElem? (i := 1107) (by decide +kernel), List.mem_of_getElem? (i := 1108) (by decide +kernel)⟩
theorem lw_p49 : lw_okq (⟨"StatueVotesModel", "whoLikes", "(I)I"⟩, 43) := ⟨⟨by decide +kernel, by decide +kernel⟩, List.mem_of_getElem? (i := 865) (by decide +kernel), List.mem_of_getElem? (i := 1111) (by decide +kernel), List.mem_of_getElem? (i := 1112) (by decide +kernel)⟩
theorem lw_p50 : lw_okq (⟨"StatueVotesModel", "votesOf", "(I)I"⟩, 43) := ⟨⟨by decide +kernel, by decide +kernel⟩, List.mem_of_getElem? (i := 865) (by decide +kernel), List.mem_of_getElem? (i := 1115) (by decide +kernel), List.mem_of_getElem? (i := 1116) (by decide +kernel)⟩
theorem lw_p51 : lw_okq (⟨"StatueVotesModel", "beloved", "()I"⟩, 43) := ⟨⟨by decide +kernel, by decide +kernel⟩, List.mem_of_getElem? (i := 865) (by decide +kernel), List.mem_of_getElem? (i := 1119) (by decide +kernel), List.mem_of_getElem? (i := 1120) (by decide +kernel)⟩
theorem lw_p52 : lw_okq (⟨"StatueVotesModel", "isHad", "(II)Z"⟩, 43) := ⟨⟨by decide +kernel, by decide +kernel⟩, List.mem_of_getElem? (i := 865) (by decide +kernel), List.mem_of_getElem? (i := 1123) (by decide +kernel), List.mem_of_getElem? (i := 1124) (by decide +kernel)⟩
theorem lw_p53 : lw_okq (⟨"StatueVotesModel", "rings", "()I"⟩, 43) := ⟨⟨by decide +kernel, by decide +kernel⟩, List.mem_of_getElem? (i := 865) (by decide +kernel), List.mem_of_getElem? (i := 1127) (by decide +kernel), List.mem_of_getElem? (i := 1128) (by decide +kernel)⟩
theorem lw_p54 : lw_okq (⟨"StatueVotesModel", "isPlinth", "(I)Z"⟩, 43) := ⟨⟨by decide +kernel, by decide +kernel⟩, List.mem_of_getElem? (i := 865) (by decide +kernel), List.mem_of_getElem? (i := 1135) (by decide +kernel), List.mem_of_getElem? (i := 1136) (by decide +kernel)⟩
theorem lw_p55 : lw_okq (⟨"StatueVotesModel", "isStatue", "(I)Z"⟩, 43) := ⟨⟨by decide +kernel, by decide +kernel⟩, List.mem_of_getElem? (i := 865) (by decide +kernel), List.mem_of_getElem? (i := 1144) (by decide +kernel), List.mem_of_getElem? (i := 1145) (by decide +kernel)⟩
theorem lw_p56 : lw_okq (⟨"StatueVotesModel", "isWalker", "(I)Z"⟩, 43) := ⟨⟨by decide +kernel, by decide +kernel⟩, List.mem_of_getElem? (i := 865) (by decide +kernel), List.mem_of_getElem? (i := 1152) (by decide +kernel), List.mem_of_getElem? (i := 1153) (by decide +kernel)⟩
theorem lw_p57 : lw_okq (⟨"StatueVotesModel", "yearsRefused", "(I)I"⟩, 43) := ⟨⟨by decide +kernel, by decide +kernel⟩, List.mem_of_getElem? (i := 865) (by decide +kernel), List.mem_of_getElem? (i := 1160) (by decide +kernel), List.mem_of_getElem? (i := 1161) (by decide +kernel)⟩
theorem lw_p58 : lw_okq (⟨"StatueVotesModel", "remember", "()V"⟩, 43) := ⟨⟨by decide +kernel, by decide +kernel⟩, List.mem_of_getElem? (i := 865) (by decide +kernel), List.mem_of_getElem? (i := 1166) (by decide +kernel), List.mem_of_getElem? (i := 1167) (by decide +kernel)⟩
theorem lw_p59 : lw_okq (⟨"StatueVotesModel", "pass", "()V"⟩, 43) := ⟨⟨by decide +kernel, by decide +kernel⟩, List.mem_of_getElem? (i := 865) (by decide +kernel), List.mem_of_getElem? (i := 1170) (by decide +kernel), List.mem_of_getElem? (i := 1171) (by decide +kernel)⟩
theorem lw_p60 : lw_okq (⟨"StatueVotesModel", "moreTired", "(I)I"⟩, 43) := ⟨⟨by decide +kernel, by decide +kernel⟩, List.mem_of_getElem? (i := 865) (by decide +kernel), List.mem_of_getElem? (i := 1174) (by decide +kernel), List.mem_of_getElem? (i := 1175) (by decide +kernel)⟩
theorem lw_p61 : lw_okq (⟨"StatueVotesModel", "elect", "()V"⟩, 43) := ⟨⟨by decide +kernel, by decide +kernel⟩, List.mem_of_getElem? (i := 865) (by decide +kernel), List.mem_of_getElem? (i := 1178) (by decide +kernel), List.mem_of_getElem? (i := 1179) (by decide +kernel)⟩
theorem lw_p62 : lw_okq (⟨"StatueVotesModel", "canStand", "(II)Z"⟩, 43) := ⟨⟨by decide +kernel, by decide +kernel⟩, List.mem_of_getElem? (i := 865) (by decide +kernel), List.mem_of_getElem? (i := 1186) (by decide +kernel), List.mem_of_getElem? (i := 1187) (by decide +kernel)⟩
theorem lw_p63 : lw_okq (⟨"StatueVotesModel", "chance", "()V"⟩, 43) := ⟨⟨by decide +kernel, by decide +kernel⟩, List.mem_of_getElem? (i := 865) (by decide +kernel), List.mem_of_getElem? (i := 1210) (by decide +kernel), List.mem_of_getElem? (i := 1211) (by decide +kernel)⟩
def lw_privs_4 : List (MethodName × Nat) := [(⟨"StatueVotesModel", "marginBy", "(II)I"⟩, 43), (⟨"StatueVotesModel", "whoLikes", "(I)I"⟩, 43), (⟨"StatueVotesModel", "votesOf", "(I)I"⟩, 43), (⟨"StatueVotesModel", "beloved", "()I"⟩, 43), (⟨"StatueVotesModel", "isHad", "(II)Z"⟩, 43), (⟨"StatueVotesModel", "rings", "()I"⟩, 43), (⟨"StatueVotesModel", "isPlinth", "(I)Z"⟩, 43), (⟨"StatueVotesModel", "isStatue", "(I)Z"⟩, 43), (⟨"StatueVotesModel", "isWalker", "(I)Z"⟩, 43), (⟨"StatueVotesModel", "yearsRefused", "(I)I"⟩, 43), (⟨"StatueVotesModel", "remember", "()V"⟩, 43), (⟨"StatueVotesModel", "pass", "()V"⟩, 43), (⟨"StatueVotesModel", "moreTired", "(I)I"⟩, 43), (⟨"StatueVotesModel", "elect", "()V"⟩, 43), (⟨"StatueVotesModel", "canStand", "(II)Z"⟩, 43), (⟨"StatueVotesModel", "chance", "()V"⟩, 43)]
theorem lw_r4 : ∀ q ∈ lw_privs_4, lw_okq q := List.forall_mem_cons.mpr ⟨lw_p48, List.forall_mem_cons.mpr ⟨lw_p49, List.forall_mem_cons.mpr ⟨lw_p50, List.forall_mem_cons.mpr ⟨lw_p51, List.forall_mem_cons.mpr ⟨lw_p52, List.forall_mem_cons.mpr ⟨lw_p53, List.forall_mem_cons.mpr ⟨lw_p54, List.forall_mem_cons.mpr ⟨lw_p55, List.forall_mem_cons.mpr ⟨lw_p56, List.forall_mem_cons.mpr ⟨lw_p57, List.forall_mem_cons.mpr ⟨lw_p58, List.forall_mem_cons.mpr ⟨lw_p59, List.forall_mem_cons.mpr ⟨lw_p60, List.forall_mem_cons.mpr ⟨lw_p61, List.forall_mem_cons.mpr ⟨lw_p62, List.forall_mem_cons.mpr ⟨lw_p63, fun _ h => absurd h List.not_mem_nil⟩⟩⟩⟩⟩⟩⟩⟩⟩⟩⟩⟩⟩⟩⟩⟩
theorem lw_p64 : lw_okq (⟨"StatueVotesModel", "draw", "(I)I"⟩, 43) := ⟨⟨by decide +kernel, by decide +kernel⟩, List.mem_of_getElem? (i := 865) (by decide +kernel), List.mem_of_getElem? (i := 1214) (by decide +kernel), List.mem_of_getElem? (i := 1215) (by decide +kernel)⟩
theorem lw_p65 : lw_okq (⟨"StatueVotesModel", "findPlaces", "()V"⟩, 43) := ⟨⟨by decide +kernel, by decide +kernel⟩, List.mem_of_getElem? (i := 865) (by decide +kernel), List.mem_of_getElem? (i := 1257) (by decide +kernel), List.mem_of_getElem? (i := 1258) (by decide +kernel)⟩
theorem lw_p66 : lw_okq (⟨"StatueVotesModel", "withPlace", "(III)I"⟩, 43) := ⟨⟨by decide +kernel, by decide +kernel⟩, List.mem_of_getElem? (i := 865) (by decide +kernel), List.mem_of_getElem? (i := 1261) (by decide +kernel), List.mem_of_getElem? (i := 1262) (by decide +kernel)⟩
theorem lw_p67 : lw_okq (⟨"StatueVotesModel", "placeOf", "(I)I"⟩, 43) := ⟨⟨by decide +kernel, by decide +kernel⟩, List.mem_of_getElem? (i := 865) (by decide +kernel), List.mem_of_getElem? (i := 1266) (by decide +kernel), List.mem_of_getElem? (i := 1267) (by decide +kernel)⟩
theorem lw_p68 : lw_okq (⟨"StatueVotesModel", "couldBe", "(I)Z"⟩, 43) := ⟨⟨by decide +kernel, by decide +kernel⟩, List.mem_of_getElem? (i := 865) (by decide +kernel), List.mem_of_getElem? (i := 1289) (by decide +kernel), List.mem_of_getElem? (i := 1290) (by decide +kernel)⟩
theorem lw_p69 : lw_okq (⟨"StatueVotesModel", "votesOn", "(II)I"⟩, 43) := ⟨⟨by decide +kernel, by decide +kernel⟩, List.mem_of_getElem? (i := 865) (by decide +kernel), List.mem_of_getElem? (i := 1293) (by decide +kernel), List.mem_of_getElem? (i := 1294) (by decide +kernel)⟩
theorem lw_p70 : lw_okq (⟨"StatueVotesModel", "manyThat", "()I"⟩, 43) := ⟨⟨by decide +kernel, by decide +kernel⟩, List.mem_of_getElem? (i := 865) (by decide +kernel), List.mem_of_getElem? (i := 1297) (by decide +kernel), List.mem_of_getElem? (i := 1298) (by decide +kernel)⟩
theorem lw_p71 : lw_okq (⟨"StatueVotesModel", "greatestPart", "(I)I"⟩, 43) := ⟨⟨by decide +kernel, by decide +kernel⟩, List.mem_of_getElem? (i := 865) (by decide +kernel), List.mem_of_getElem? (i := 1305) (by decide +kernel), List.mem_of_getElem? (i := 1306) (by decide +kernel)⟩
def lw_privs_5 : List (MethodName × Nat) := [(⟨"StatueVotesModel", "draw", "(I)I"⟩, 43), (⟨"StatueVotesModel", "findPlaces", "()V"⟩, 43), (⟨"StatueVotesModel", "withPlace", "(III)I"⟩, 43), (⟨"StatueVotesModel", "placeOf", "(I)I"⟩, 43), (⟨"StatueVotesModel", "couldBe", "(I)Z"⟩, 43), (⟨"StatueVotesModel", "votesOn", "(II)I"⟩, 43), (⟨"StatueVotesModel", "manyThat", "()I"⟩, 43), (⟨"StatueVotesModel", "greatestPart", "(I)I"⟩, 43)]
theorem lw_r5 : ∀ q ∈ lw_privs_5, lw_okq q := List.forall_mem_cons.mpr ⟨lw_p64, List.forall_mem_cons.mpr ⟨lw_p65, List.forall_mem_cons.mpr ⟨lw_p66, List.forall_mem_cons.mpr ⟨lw_p67, List.forall_mem_cons.mpr ⟨lw_p68, List.forall_mem_cons.mpr ⟨lw_p69, List.forall_mem_cons.mpr ⟨lw_p70, List.forall_mem_cons.mpr ⟨lw_p71, fun _ h => absurd h List.not_mem_nil⟩⟩⟩⟩⟩⟩⟩⟩
def lw_privs : List (MethodName × Nat) := lw_privs_1 ++ (lw_privs_2 ++ (lw_privs_3 ++ (lw_privs_4 ++ (lw_privs_5))))
def lw_tbl : List Cond := k2_sels lw_privs ++ tables_1
theorem lw_privs_ok : ∀ q ∈ lw_privs, lw_okq q := by
  show ∀ q ∈ lw_privs_1 ++ (lw_privs_2 ++ (lw_privs_3 ++ (lw_privs_4 ++ (lw_privs_5)))), lw_okq q
  exact List.forall_mem_append.mpr ⟨lw_r1, List.forall_mem_append.mpr ⟨lw_r2, List.forall_mem_append.mpr ⟨lw_r3, List.forall_mem_append.mpr ⟨lw_r4, lw_r5⟩⟩⟩⟩
def RX0 : String := "StatueVotes$Book"
def TX0 : u_T := fun k => match k with
  | 0 => ("StatueVotes$Book", "now", "LStatueVotes$State;", true)
  | 1 => ("StatueVotes$Book", "statues", "[I", true)
  | 2 => ("StatueVotes$Book", "plinths", "[I", true)
  | _ => ("StatueVotes$Book", "size", "I", false)
def tyX0 : Nat → FieldType := fun k => match k with
  | 0 => .object "StatueVotes$State"
  | 1 => .array .int
  | 2 => .array .int
  | _ => .int
abbrev wsX00 : List Cond := u_ws RX0 TX0 4
theorem nmX0 : ∀ a, a < 4 → ∀ b, b < 4 → a ≠ b → (TX0 a).2.1 ≠ (TX0 b).2.1 := by decide +kernel
theorem tyX0_ok : ∀ k, k < 4 → parseFieldDescriptor (TX0 k).2.2.1 = some (tyX0 k) := by decide +kernel
abbrev cX0_init : ByteArray := prog_2_method_1_code
def yX0_init : MethodName := ⟨RX0, "<init>", "(LStatueVotes$State;)V"⟩
abbrev cX0_clear : ByteArray := prog_2_method_2_code
def yX0_clear : MethodName := ⟨RX0, "clear", "()V"⟩
abbrev cX0_add : ByteArray := prog_2_method_3_code
def yX0_add : MethodName := ⟨RX0, "add", "(II)Z"⟩
abbrev cX0_firstWrong : ByteArray := prog_2_method_4_code
def yX0_firstWrong : MethodName := ⟨RX0, "firstWrong", "()I"⟩
def RX1 : String := "StatueVotes$City"
def TX1 : u_T := fun k => match k with
  | 0 => ("StatueVotes$City", "term", "I", false)
  | 1 => ("StatueVotes$City", "plinths", "I", false)
  | 2 => ("StatueVotes$City", "statues", "I", false)
  | 3 => ("StatueVotes$City", "walkers", "I", false)
  | 4 => ("StatueVotes$City", "views", "[I", true)
  | 5 => ("StatueVotes$City", "kinds", "[I", true)
  | 6 => ("StatueVotes$City", "wants", "[I", true)
  | 7 => ("StatueVotes$City", "plinthsAtFirst", "[I", true)
  | 8 => ("StatueVotes$City", "votes", "[I", true)
  | 9 => ("StatueVotes$City", "waysAtFirst", "[I", true)
  | _ => ("StatueVotes$City", "likesAtFirst", "[I", true)
def tyX1 : Nat → FieldType := fun k => match k with
  | 0 => .int
  | 1 => .int
  | 2 => .int
  | 3 => .int
  | 4 => .array .int
  | 5 => .array .int
  | 6 => .array .int
  | 7 => .array .int
  | 8 => .array .int
  | 9 => .array .int
  | _ => .array .int
abbrev wsX10 : List Cond := u_ws RX1 TX1 11
theorem nmX1 : ∀ a, a < 11 → ∀ b, b < 11 → a ≠ b → (TX1 a).2.1 ≠ (TX1 b).2.1 := by decide +kernel
theorem tyX1_ok : ∀ k, k < 11 → parseFieldDescriptor (TX1 k).2.2.1 = some (tyX1 k) := by decide +kernel
abbrev cX1_init : ByteArray := prog_3_method_1_code
def yX1_init : MethodName := ⟨RX1, "<init>", "()V"⟩
abbrev cX1_clear : ByteArray := prog_3_method_2_code
def yX1_clear : MethodName := ⟨RX1, "clear", "()V"⟩
abbrev cX1_copyFrom : ByteArray := prog_3_method_3_code
def yX1_copyFrom : MethodName := ⟨RX1, "copyFrom", "(LStatueVotes$City;)V"⟩
abbrev cX1_addPlinth : ByteArray := prog_3_method_4_code
def yX1_addPlinth : MethodName := ⟨RX1, "addPlinth", "(I)V"⟩
abbrev cX1_addStatue : ByteArray := prog_3_method_5_code
def yX1_addStatue : MethodName := ⟨RX1, "addStatue", "(III)V"⟩
abbrev cX1_addWalker : ByteArray := prog_3_method_6_code
def yX1_addWalker : MethodName := ⟨RX1, "addWalker", "(III)V"⟩
abbrev cX1_isTakenAtFirst : ByteArray := prog_3_method_7_code
def yX1_isTakenAtFirst : MethodName := ⟨RX1, "isTakenAtFirst", "(I)Z"⟩
abbrev cX1_hasPlinth : ByteArray := prog_3_method_8_code
def yX1_hasPlinth : MethodName := ⟨RX1, "hasPlinth", "(I)Z"⟩
abbrev cX1_hasStatue : ByteArray := prog_3_method_9_code
def yX1_hasStatue : MethodName := ⟨RX1, "hasStatue", "(I)Z"⟩
abbrev cX1_hasWalker : ByteArray := prog_3_method_10_code
def yX1_hasWalker : MethodName := ⟨RX1, "hasWalker", "(I)Z"⟩
abbrev cX1_isSetOfPlinths : ByteArray := prog_3_method_11_code
def yX1_isSetOfPlinths : MethodName := ⟨RX1, "isSetOfPlinths", "(I)Z"⟩
abbrev cX1_isSetOfStatues : ByteArray := prog_3_method_12_code
def yX1_isSetOfStatues : MethodName := ⟨RX1, "isSetOfStatues", "(I)Z"⟩
abbrev cX1_setsOfWalkers : ByteArray := prog_3_method_13_code
def yX1_setsOfWalkers : MethodName := ⟨RX1, "setsOfWalkers", "()I"⟩
abbrev cX1_pleases : ByteArray := prog_3_method_14_code
def yX1_pleases : MethodName := ⟨RX1, "pleases", "(II)Z"⟩
abbrev cX1_votesOf : ByteArray := prog_3_method_15_code
def yX1_votesOf : MethodName := ⟨RX1, "votesOf", "(I)I"⟩
def RX2 : String := "StatueVotes$Draws"
def TX2 : u_T := fun k => match k with
  | 0 => ("StatueVotes$Draws", "city", "LStatueVotes$City;", true)
  | 1 => ("StatueVotes$Draws", "now", "LStatueVotes$State;", true)
  | _ => ("StatueVotes$Draws", "state", "I", false)
def tyX2 : Nat → FieldType := fun k => match k with
  | 0 => .object "StatueVotes$City"
  | 1 => .object "StatueVotes$State"
  | _ => .int
abbrev wsX20 : List Cond := u_ws RX2 TX2 3
theorem nmX2 : ∀ a, a < 3 → ∀ b, b < 3 → a ≠ b → (TX2 a).2.1 ≠ (TX2 b).2.1 := by decide +kernel
theorem tyX2_ok : ∀ k, k < 3 → parseFieldDescriptor (TX2 k).2.2.1 = some (tyX2 k) := by decide +kernel
abbrev cX2_init : ByteArray := prog_4_method_1_code
def yX2_init : MethodName := ⟨RX2, "<init>", "(LStatueVotes$City;LStatueVotes$State;)V"⟩
abbrev cX2_draw : ByteArray := prog_4_method_2_code
def yX2_draw : MethodName := ⟨RX2, "draw", "(I)I"⟩
abbrev cX2_befall : ByteArray := prog_4_method_3_code
def yX2_befall : MethodName := ⟨RX2, "befall", "()V"⟩
abbrev cX2_turnWalker : ByteArray := prog_4_method_4_code
def yX2_turnWalker : MethodName := ⟨RX2, "turnWalker", "()V"⟩
abbrev cX2_raiseStatue : ByteArray := prog_4_method_5_code
def yX2_raiseStatue : MethodName := ⟨RX2, "raiseStatue", "()V"⟩
abbrev cX2_washStatue : ByteArray := prog_4_method_6_code
def yX2_washStatue : MethodName := ⟨RX2, "washStatue", "()V"⟩
def RX3 : String := "StatueVotes$History"
def TX3 : u_T := fun k => match k with
  | 0 => ("StatueVotes$History", "ring", "[LStatueVotes$State;", true)
  | 1 => ("StatueVotes$History", "next", "I", false)
  | _ => ("StatueVotes$History", "size", "I", false)
def tyX3 : Nat → FieldType := fun k => match k with
  | 0 => .array (.object "StatueVotes$State")
  | 1 => .int
  | _ => .int
abbrev wsX30 : List Cond := u_ws RX3 TX3 3
theorem nmX3 : ∀ a, a < 3 → ∀ b, b < 3 → a ≠ b → (TX3 a).2.1 ≠ (TX3 b).2.1 := by decide +kernel
theorem tyX3_ok : ∀ k, k < 3 → parseFieldDescriptor (TX3 k).2.2.1 = some (tyX3 k) := by decide +kernel
abbrev cX3_init : ByteArray := prog_5_method_1_code
def yX3_init : MethodName := ⟨RX3, "<init>", "(LStatueVotes$City;)V"⟩
abbrev cX3_clear : ByteArray := prog_5_method_2_code
def yX3_clear : MethodName := ⟨RX3, "clear", "()V"⟩
abbrev cX3_push : ByteArray := prog_5_method_3_code
def yX3_push : MethodName := ⟨RX3, "push", "(LStatueVotes$State;)V"⟩
abbrev cX3_popInto : ByteArray := prog_5_method_4_code
def yX3_popInto : MethodName := ⟨RX3, "popInto", "(LStatueVotes$State;)V"⟩
def RX4 : String := "StatueVotes$Image"
def TX4 : u_T := fun k => match k with
  | 0 => ("StatueVotes$Image", "state", "LStatueVotes$State;", true)
  | 1 => ("StatueVotes$Image", "drawn", "I", false)
  | _ => ("StatueVotes$Image", "kept", "Z", false)
def tyX4 : Nat → FieldType := fun k => match k with
  | 0 => .object "StatueVotes$State"
  | 1 => .int
  | _ => .boolean
abbrev wsX40 : List Cond := u_ws RX4 TX4 3
theorem nmX4 : ∀ a, a < 3 → ∀ b, b < 3 → a ≠ b → (TX4 a).2.1 ≠ (TX4 b).2.1 := by decide +kernel
theorem tyX4_ok : ∀ k, k < 3 → parseFieldDescriptor (TX4 k).2.2.1 = some (tyX4 k) := by decide +kernel
abbrev cX4_init : ByteArray := prog_6_method_1_code
def yX4_init : MethodName := ⟨RX4, "<init>", "(LStatueVotes$City;)V"⟩
def RX5 : String := "StatueVotes$Placer"
def TX5 : u_T := fun k => match k with
  | 0 => ("StatueVotes$Placer", "city", "LStatueVotes$City;", true)
  | 1 => ("StatueVotes$Placer", "now", "LStatueVotes$State;", true)
  | 2 => ("StatueVotes$Placer", "worth", "[[I", true)
  | _ => ("StatueVotes$Placer", "chosen", "[I", true)
def tyX5 : Nat → FieldType := fun k => match k with
  | 0 => .object "StatueVotes$City"
  | 1 => .object "StatueVotes$State"
  | 2 => .array (.array .int)
  | _ => .array .int
abbrev wsX50 : List Cond := u_ws RX5 TX5 4
theorem nmX5 : ∀ a, a < 4 → ∀ b, b < 4 → a ≠ b → (TX5 a).2.1 ≠ (TX5 b).2.1 := by decide +kernel
theorem tyX5_ok : ∀ k, k < 4 → parseFieldDescriptor (TX5 k).2.2.1 = some (tyX5 k) := by decide +kernel
abbrev cX5_init : ByteArray := prog_7_method_1_code
def yX5_init : MethodName := ⟨RX5, "<init>", "(LStatueVotes$City;LStatueVotes$State;)V"⟩
abbrev cX5_placeAll : ByteArray := prog_7_method_2_code
def yX5_placeAll : MethodName := ⟨RX5, "placeAll", "()V"⟩
abbrev cX5_placed : ByteArray := prog_7_method_3_code
def yX5_placed : MethodName := ⟨RX5, "placed", "()I"⟩
abbrev cX5_viewTogether : ByteArray := prog_7_method_4_code
def yX5_viewTogether : MethodName := ⟨RX5, "viewTogether", "()I"⟩
abbrev cX5_bestOfAll : ByteArray := prog_7_method_5_code
def yX5_bestOfAll : MethodName := ⟨RX5, "bestOfAll", "()I"⟩
abbrev cX5_bestWorth : ByteArray := prog_7_method_6_code
def yX5_bestWorth : MethodName := ⟨RX5, "bestWorth", "(II)I"⟩
abbrev cX5_firstBest : ByteArray := prog_7_method_7_code
def yX5_firstBest : MethodName := ⟨RX5, "firstBest", "(II)I"⟩
abbrev cX5_canHave : ByteArray := prog_7_method_8_code
def yX5_canHave : MethodName := ⟨RX5, "canHave", "(III)Z"⟩
abbrev cX5_worthOn : ByteArray := prog_7_method_9_code
def yX5_worthOn : MethodName := ⟨RX5, "worthOn", "(III)I"⟩
abbrev cX5_without : ByteArray := prog_7_method_10_code
def yX5_without : MethodName := ⟨RX5, "without", "(II)I"⟩
abbrev cX5_howManySwaps : ByteArray := prog_7_method_11_code
def yX5_howManySwaps : MethodName := ⟨RX5, "howManySwaps", "()I"⟩
abbrev cX5_nthSwap : ByteArray := prog_7_method_12_code
def yX5_nthSwap : MethodName := ⟨RX5, "nthSwap", "(I)I"⟩
abbrev cX5_wouldSwap : ByteArray := prog_7_method_13_code
def yX5_wouldSwap : MethodName := ⟨RX5, "wouldSwap", "(II)Z"⟩
def RX6 : String := "StatueVotes$Polls"
def TX6 : u_T := fun k => match k with
  | 0 => ("StatueVotes$Polls", "city", "LStatueVotes$City;", true)
  | _ => ("StatueVotes$Polls", "now", "LStatueVotes$State;", true)
def tyX6 : Nat → FieldType := fun k => match k with
  | 0 => .object "StatueVotes$City"
  | _ => .object "StatueVotes$State"
abbrev wsX60 : List Cond := u_ws RX6 TX6 2
theorem nmX6 : ∀ a, a < 2 → ∀ b, b < 2 → a ≠ b → (TX6 a).2.1 ≠ (TX6 b).2.1 := by decide +kernel
theorem tyX6_ok : ∀ k, k < 2 → parseFieldDescriptor (TX6 k).2.2.1 = some (tyX6 k) := by decide +kernel
abbrev cX6_init : ByteArray := prog_8_method_1_code
def yX6_init : MethodName := ⟨RX6, "<init>", "(LStatueVotes$City;LStatueVotes$State;)V"⟩
abbrev cX6_fewestChanges : ByteArray := prog_8_method_2_code
def yX6_fewestChanges : MethodName := ⟨RX6, "fewestChanges", "(IZ)I"⟩
abbrev cX6_weight : ByteArray := prog_8_method_3_code
def yX6_weight : MethodName := ⟨RX6, "weight", "(IIZ)I"⟩
abbrev cX6_ordersAround : ByteArray := prog_8_method_4_code
def yX6_ordersAround : MethodName := ⟨RX6, "ordersAround", "(II)I"⟩
abbrev cX6_isHadAgainst : ByteArray := prog_8_method_5_code
def yX6_isHadAgainst : MethodName := ⟨RX6, "isHadAgainst", "(II)Z"⟩
abbrev cX6_beloved : ByteArray := prog_8_method_6_code
def yX6_beloved : MethodName := ⟨RX6, "beloved", "()I"⟩
abbrev cX6_isHadAgainstAll : ByteArray := prog_8_method_7_code
def yX6_isHadAgainstAll : MethodName := ⟨RX6, "isHadAgainstAll", "(I)Z"⟩
abbrev cX6_rings : ByteArray := prog_8_method_8_code
def yX6_rings : MethodName := ⟨RX6, "rings", "()I"⟩
abbrev cX6_goesRound : ByteArray := prog_8_method_9_code
def yX6_goesRound : MethodName := ⟨RX6, "goesRound", "(III)Z"⟩
def RX7 : String := "StatueVotes$Reader"
def TX7 : u_T := fun k => match k with
  | 0 => ("StatueVotes$Reader", "letters", "[I", true)
  | 1 => ("StatueVotes$Reader", "at", "I", false)
  | 2 => ("StatueVotes$Reader", "length", "I", false)
  | 3 => ("StatueVotes$Reader", "fault", "I", false)
  | 4 => ("StatueVotes$Reader", "faultAt", "I", false)
  | _ => ("StatueVotes$Reader", "draft", "LStatueVotes$City;", true)
def tyX7 : Nat → FieldType := fun k => match k with
  | 0 => .array .int
  | 1 => .int
  | 2 => .int
  | 3 => .int
  | 4 => .int
  | _ => .object "StatueVotes$City"
abbrev wsX70 : List Cond := u_ws RX7 TX7 6
theorem nmX7 : ∀ a, a < 6 → ∀ b, b < 6 → a ≠ b → (TX7 a).2.1 ≠ (TX7 b).2.1 := by decide +kernel
theorem tyX7_ok : ∀ k, k < 6 → parseFieldDescriptor (TX7 k).2.2.1 = some (tyX7 k) := by decide +kernel
abbrev cX7_init : ByteArray := prog_9_method_1_code
def yX7_init : MethodName := ⟨RX7, "<init>", "()V"⟩
abbrev cX7_append : ByteArray := prog_9_method_2_code
def yX7_append : MethodName := ⟨RX7, "append", "(I)Z"⟩
abbrev cX7_readAll : ByteArray := prog_9_method_3_code
def yX7_readAll : MethodName := ⟨RX7, "readAll", "()V"⟩
abbrev cX7_letter : ByteArray := prog_9_method_4_code
def yX7_letter : MethodName := ⟨RX7, "letter", "()I"⟩
abbrev cX7_isFigure : ByteArray := prog_9_method_5_code
def yX7_isFigure : MethodName := ⟨RX7, "isFigure", "(I)Z"⟩
abbrev cX7_skipBlanks : ByteArray := prog_9_method_6_code
def yX7_skipBlanks : MethodName := ⟨RX7, "skipBlanks", "()V"⟩
abbrev cX7_blame : ByteArray := prog_9_method_7_code
def yX7_blame : MethodName := ⟨RX7, "blame", "(II)V"⟩
abbrev cX7_readClause : ByteArray := prog_9_method_8_code
def yX7_readClause : MethodName := ⟨RX7, "readClause", "()V"⟩
abbrev cX7_faultOfWord : ByteArray := prog_9_method_9_code
def yX7_faultOfWord : MethodName := ⟨RX7, "faultOfWord", "(I)I"⟩
abbrev cX7_readTerm : ByteArray := prog_9_method_10_code
def yX7_readTerm : MethodName := ⟨RX7, "readTerm", "()V"⟩
abbrev cX7_readPlinth : ByteArray := prog_9_method_11_code
def yX7_readPlinth : MethodName := ⟨RX7, "readPlinth", "()V"⟩
abbrev cX7_readStatue : ByteArray := prog_9_method_12_code
def yX7_readStatue : MethodName := ⟨RX7, "readStatue", "()V"⟩
abbrev cX7_readWalker : ByteArray := prog_9_method_13_code
def yX7_readWalker : MethodName := ⟨RX7, "readWalker", "()V"⟩
abbrev cX7_readPlace : ByteArray := prog_9_method_14_code
def yX7_readPlace : MethodName := ⟨RX7, "readPlace", "()I"⟩
abbrev cX7_readNumber : ByteArray := prog_9_method_15_code
def yX7_readNumber : MethodName := ⟨RX7, "readNumber", "(II)I"⟩
abbrev cX7_readSemicolon : ByteArray := prog_9_method_16_code
def yX7_readSemicolon : MethodName := ⟨RX7, "readSemicolon", "()V"⟩
def RX8 : String := "StatueVotes$State"
def TX8 : u_T := fun k => match k with
  | 0 => ("StatueVotes$State", "city", "LStatueVotes$City;", true)
  | 1 => ("StatueVotes$State", "years", "I", false)
  | 2 => ("StatueVotes$State", "plinthOf", "[I", true)
  | 3 => ("StatueVotes$State", "tired", "[I", true)
  | 4 => ("StatueVotes$State", "elected", "[I", true)
  | 5 => ("StatueVotes$State", "ways", "[I", true)
  | _ => ("StatueVotes$State", "likes", "[I", true)
def tyX8 : Nat → FieldType := fun k => match k with
  | 0 => .object "StatueVotes$City"
  | 1 => .int
  | 2 => .array .int
  | 3 => .array .int
  | 4 => .array .int
  | 5 => .array .int
  | _ => .array .int
abbrev wsX80 : List Cond := u_ws RX8 TX8 7
theorem nmX8 : ∀ a, a < 7 → ∀ b, b < 7 → a ≠ b → (TX8 a).2.1 ≠ (TX8 b).2.1 := by decide +kernel
theorem tyX8_ok : ∀ k, k < 7 → parseFieldDescriptor (TX8 k).2.2.1 = some (tyX8 k) := by decide +kernel
abbrev cX8_init : ByteArray := prog_10_method_1_code
def yX8_init : MethodName := ⟨RX8, "<init>", "(LStatueVotes$City;)V"⟩
abbrev cX8_begin : ByteArray := prog_10_method_2_code
def yX8_begin : MethodName := ⟨RX8, "begin", "()V"⟩
abbrev cX8_copyFrom : ByteArray := prog_10_method_3_code
def yX8_copyFrom : MethodName := ⟨RX8, "copyFrom", "(LStatueVotes$State;)V"⟩
abbrev cX8_stands : ByteArray := prog_10_method_4_code
def yX8_stands : MethodName := ⟨RX8, "stands", "(I)Z"⟩
abbrev cX8_isOn : ByteArray := prog_10_method_5_code
def yX8_isOn : MethodName := ⟨RX8, "isOn", "(II)Z"⟩
abbrev cX8_canStand : ByteArray := prog_10_method_6_code
def yX8_canStand : MethodName := ⟨RX8, "canStand", "(II)Z"⟩
abbrev cX8_whoIsOn : ByteArray := prog_10_method_7_code
def yX8_whoIsOn : MethodName := ⟨RX8, "whoIsOn", "(I)I"⟩
abbrev cX8_standers : ByteArray := prog_10_method_8_code
def yX8_standers : MethodName := ⟨RX8, "standers", "()I"⟩
abbrev cX8_emptyPlinths : ByteArray := prog_10_method_9_code
def yX8_emptyPlinths : MethodName := ⟨RX8, "emptyPlinths", "()I"⟩
abbrev cX8_walkersUnder : ByteArray := prog_10_method_10_code
def yX8_walkersUnder : MethodName := ⟨RX8, "walkersUnder", "(I)I"⟩
abbrev cX8_walkersLiking : ByteArray := prog_10_method_11_code
def yX8_walkersLiking : MethodName := ⟨RX8, "walkersLiking", "(I)I"⟩
abbrev cX8_lead : ByteArray := prog_10_method_12_code
def yX8_lead : MethodName := ⟨RX8, "lead", "(II)I"⟩
abbrev cX8_margin : ByteArray := prog_10_method_13_code
def yX8_margin : MethodName := ⟨RX8, "margin", "(I)I"⟩
abbrev cX8_outvoted : ByteArray := prog_10_method_14_code
def yX8_outvoted : MethodName := ⟨RX8, "outvoted", "()I"⟩
abbrev cX8_passYear : ByteArray := prog_10_method_15_code
def yX8_passYear : MethodName := ⟨RX8, "passYear", "()V"⟩
abbrev cX8_strain : ByteArray := prog_10_method_16_code
def yX8_strain : MethodName := ⟨RX8, "strain", "(I)I"⟩
abbrev cX8_holdElection : ByteArray := prog_10_method_17_code
def yX8_holdElection : MethodName := ⟨RX8, "holdElection", "()V"⟩
def RX9 : String := "StatueVotes$Tally"
def TX9 : u_T := fun k => match k with
  | 0 => ("StatueVotes$Tally", "city", "LStatueVotes$City;", true)
  | 1 => ("StatueVotes$Tally", "now", "LStatueVotes$State;", true)
  | 2 => ("StatueVotes$Tally", "plinths", "[I", true)
  | 3 => ("StatueVotes$Tally", "votes", "[I", true)
  | 4 => ("StatueVotes$Tally", "fits", "[Z", true)
  | 5 => ("StatueVotes$Tally", "parts", "[I", true)
  | 6 => ("StatueVotes$Tally", "size", "I", false)
  | _ => ("StatueVotes$Tally", "fitting", "I", false)
def tyX9 : Nat → FieldType := fun k => match k with
  | 0 => .object "StatueVotes$City"
  | 1 => .object "StatueVotes$State"
  | 2 => .array .int
  | 3 => .array .int
  | 4 => .array .boolean
  | 5 => .array .int
  | 6 => .int
  | _ => .int
abbrev wsX90 : List Cond := u_ws RX9 TX9 8
theorem nmX9 : ∀ a, a < 8 → ∀ b, b < 8 → a ≠ b → (TX9 a).2.1 ≠ (TX9 b).2.1 := by decide +kernel
theorem tyX9_ok : ∀ k, k < 8 → parseFieldDescriptor (TX9 k).2.2.1 = some (tyX9 k) := by decide +kernel
abbrev cX9_init : ByteArray := prog_11_method_1_code
def yX9_init : MethodName := ⟨RX9, "<init>", "(LStatueVotes$City;LStatueVotes$State;)V"⟩
abbrev cX9_clear : ByteArray := prog_11_method_2_code
def yX9_clear : MethodName := ⟨RX9, "clear", "()V"⟩
abbrev cX9_add : ByteArray := prog_11_method_3_code
def yX9_add : MethodName := ⟨RX9, "add", "(II)Z"⟩
abbrev cX9_fitAll : ByteArray := prog_11_method_4_code
def yX9_fitAll : MethodName := ⟨RX9, "fitAll", "()V"⟩
abbrev cX9_inEach : ByteArray := prog_11_method_5_code
def yX9_inEach : MethodName := ⟨RX9, "inEach", "()I"⟩
abbrev cX9_bestPlinth : ByteArray := prog_11_method_6_code
def yX9_bestPlinth : MethodName := ⟨RX9, "bestPlinth", "()I"⟩
abbrev cX9_greatestPart : ByteArray := prog_11_method_7_code
def yX9_greatestPart : MethodName := ⟨RX9, "greatestPart", "(I)I"⟩
def RX10 : String := "StatueVotes"
def TX10 : u_T := fun k => match k with
  | 0 => ("StatueVotes", "reader", "LStatueVotes$Reader;", true)
  | 1 => ("StatueVotes", "city", "LStatueVotes$City;", true)
  | 2 => ("StatueVotes", "now", "LStatueVotes$State;", true)
  | 3 => ("StatueVotes", "trial", "LStatueVotes$State;", true)
  | 4 => ("StatueVotes", "polls", "LStatueVotes$Polls;", true)
  | 5 => ("StatueVotes", "placer", "LStatueVotes$Placer;", true)
  | 6 => ("StatueVotes", "tally", "LStatueVotes$Tally;", true)
  | 7 => ("StatueVotes", "book", "LStatueVotes$Book;", true)
  | 8 => ("StatueVotes", "draws", "LStatueVotes$Draws;", true)
  | 9 => ("StatueVotes", "history", "LStatueVotes$History;", true)
  | _ => ("StatueVotes", "images", "[LStatueVotes$Image;", true)
def tyX10 : Nat → FieldType := fun k => match k with
  | 0 => .object "StatueVotes$Reader"
  | 1 => .object "StatueVotes$City"
  | 2 => .object "StatueVotes$State"
  | 3 => .object "StatueVotes$State"
  | 4 => .object "StatueVotes$Polls"
  | 5 => .object "StatueVotes$Placer"
  | 6 => .object "StatueVotes$Tally"
  | 7 => .object "StatueVotes$Book"
  | 8 => .object "StatueVotes$Draws"
  | 9 => .object "StatueVotes$History"
  | _ => .array (.object "StatueVotes$Image")
abbrev wsX100 : List Cond := u_ws RX10 TX10 11
theorem nmX10 : ∀ a, a < 11 → ∀ b, b < 11 → a ≠ b → (TX10 a).2.1 ≠ (TX10 b).2.1 := by decide +kernel
theorem tyX10_ok : ∀ k, k < 11 → parseFieldDescriptor (TX10 k).2.2.1 = some (tyX10 k) := by decide +kernel
abbrev cX10_init : ByteArray := prog_1_method_1_code
def yX10_init : MethodName := ⟨RX10, "<init>", "()V"⟩
abbrev cX10_feed : ByteArray := prog_1_method_2_code
def yX10_feed : MethodName := ⟨RX10, "feed", "(I)I"⟩
abbrev cX10_capital : ByteArray := prog_1_method_3_code
def yX10_capital : MethodName := ⟨RX10, "capital", "()I"⟩
abbrev cX10_fault : ByteArray := prog_1_method_4_code
def yX10_fault : MethodName := ⟨RX10, "fault", "()I"⟩
abbrev cX10_told : ByteArray := prog_1_method_5_code
def yX10_told : MethodName := ⟨RX10, "told", "(I)I"⟩
abbrev cX10_plinth : ByteArray := prog_1_method_6_code
def yX10_plinth : MethodName := ⟨RX10, "plinth", "(II)I"⟩
abbrev cX10_statue : ByteArray := prog_1_method_7_code
def yX10_statue : MethodName := ⟨RX10, "statue", "(II)I"⟩
abbrev cX10_walker : ByteArray := prog_1_method_8_code
def yX10_walker : MethodName := ⟨RX10, "walker", "(II)I"⟩
abbrev cX10_year : ByteArray := prog_1_method_9_code
def yX10_year : MethodName := ⟨RX10, "year", "(I)I"⟩
abbrev cX10_stand : ByteArray := prog_1_method_10_code
def yX10_stand : MethodName := ⟨RX10, "stand", "(II)I"⟩
abbrev cX10_down : ByteArray := prog_1_method_11_code
def yX10_down : MethodName := ⟨RX10, "down", "(I)I"⟩
abbrev cX10_scrub : ByteArray := prog_1_method_12_code
def yX10_scrub : MethodName := ⟨RX10, "scrub", "(I)I"⟩
abbrev cX10_walk : ByteArray := prog_1_method_13_code
def yX10_walk : MethodName := ⟨RX10, "walk", "(II)I"⟩
abbrev cX10_like : ByteArray := prog_1_method_14_code
def yX10_like : MethodName := ⟨RX10, "like", "(II)I"⟩
abbrev cX10_drift : ByteArray := prog_1_method_15_code
def yX10_drift : MethodName := ⟨RX10, "drift", "(I)I"⟩
abbrev cX10_undo : ByteArray := prog_1_method_16_code
def yX10_undo : MethodName := ⟨RX10, "undo", "()I"⟩
abbrev cX10_standing : ByteArray := prog_1_method_17_code
def yX10_standing : MethodName := ⟨RX10, "standing", "(II)I"⟩
abbrev cX10_goesDown : ByteArray := prog_1_method_18_code
def yX10_goesDown : MethodName := ⟨RX10, "goesDown", "(I)I"⟩
abbrev cX10_change : ByteArray := prog_1_method_19_code
def yX10_change : MethodName := ⟨RX10, "change", "(II)I"⟩
abbrev cX10_power : ByteArray := prog_1_method_20_code
def yX10_power : MethodName := ⟨RX10, "power", "(III)I"⟩
abbrev cX10_mostHave : ByteArray := prog_1_method_21_code
def yX10_mostHave : MethodName := ⟨RX10, "mostHave", "(II)I"⟩
abbrev cX10_places : ByteArray := prog_1_method_22_code
def yX10_places : MethodName := ⟨RX10, "places", "(I)I"⟩
abbrev cX10_swaps : ByteArray := prog_1_method_23_code
def yX10_swaps : MethodName := ⟨RX10, "swaps", "(I)I"⟩
abbrev cX10_close : ByteArray := prog_1_method_24_code
def yX10_close : MethodName := ⟨RX10, "close", "(II)I"⟩
abbrev cX10_count : ByteArray := prog_1_method_25_code
def yX10_count : MethodName := ⟨RX10, "count", "(II)I"⟩
abbrev cX10_likings : ByteArray := prog_1_method_26_code
def yX10_likings : MethodName := ⟨RX10, "likings", "(I)I"⟩
abbrev cX10_ladder : ByteArray := prog_1_method_27_code
def yX10_ladder : MethodName := ⟨RX10, "ladder", "()I"⟩
abbrev cX10_write : ByteArray := prog_1_method_28_code
def yX10_write : MethodName := ⟨RX10, "write", "(II)I"⟩
abbrev cX10_tear : ByteArray := prog_1_method_29_code
def yX10_tear : MethodName := ⟨RX10, "tear", "()I"⟩
abbrev cX10_judge : ByteArray := prog_1_method_30_code
def yX10_judge : MethodName := ⟨RX10, "judge", "()I"⟩
abbrev cX10_seed : ByteArray := prog_1_method_31_code
def yX10_seed : MethodName := ⟨RX10, "seed", "(I)I"⟩
abbrev cX10_keep : ByteArray := prog_1_method_32_code
def yX10_keep : MethodName := ⟨RX10, "keep", "(I)I"⟩
abbrev cX10_goBack : ByteArray := prog_1_method_33_code
def yX10_goBack : MethodName := ⟨RX10, "goBack", "(I)I"⟩
abbrev cX10_refusalOfYears : ByteArray := prog_1_method_34_code
def yX10_refusalOfYears : MethodName := ⟨RX10, "refusalOfYears", "(I)I"⟩
abbrev cX10_isIn : ByteArray := prog_1_method_35_code
def yX10_isIn : MethodName := ⟨RX10, "isIn", "(II)Z"⟩
def RX11 : String := "StatueVotesModel"
def TX11 : u_T := fun k => match k with
  | 0 => ("StatueVotesModel", "term", "I", false)
  | 1 => ("StatueVotesModel", "plinths", "I", false)
  | 2 => ("StatueVotesModel", "view", "[I", true)
  | 3 => ("StatueVotesModel", "statues", "I", false)
  | 4 => ("StatueVotesModel", "kind", "[I", true)
  | 5 => ("StatueVotesModel", "placeTold", "[I", true)
  | 6 => ("StatueVotesModel", "wants", "[I", true)
  | 7 => ("StatueVotesModel", "walkers", "I", false)
  | 8 => ("StatueVotesModel", "walksTold", "[I", true)
  | 9 => ("StatueVotesModel", "votes", "[I", true)
  | 10 => ("StatueVotesModel", "likesTold", "[I", true)
  | 11 => ("StatueVotesModel", "now", "[I", true)
  | 12 => ("StatueVotesModel", "seed", "I", false)
  | 13 => ("StatueVotesModel", "text", "[I", true)
  | 14 => ("StatueVotesModel", "texted", "I", false)
  | 15 => ("StatueVotesModel", "faultPlace", "I", false)
  | 16 => ("StatueVotesModel", "at0", "I", false)
  | 17 => ("StatueVotesModel", "number", "I", false)
  | 18 => ("StatueVotesModel", "numberAt", "I", false)
  | 19 => ("StatueVotesModel", "readTerm", "I", false)
  | 20 => ("StatueVotesModel", "readPlinths", "I", false)
  | 21 => ("StatueVotesModel", "readView", "[I", true)
  | 22 => ("StatueVotesModel", "readStatues", "I", false)
  | 23 => ("StatueVotesModel", "readKind", "[I", true)
  | 24 => ("StatueVotesModel", "readPlace", "[I", true)
  | 25 => ("StatueVotesModel", "readWants", "[I", true)
  | 26 => ("StatueVotesModel", "readWalkers", "I", false)
  | 27 => ("StatueVotesModel", "readWalks", "[I", true)
  | 28 => ("StatueVotesModel", "readVotes", "[I", true)
  | 29 => ("StatueVotesModel", "readLikes", "[I", true)
  | 30 => ("StatueVotesModel", "undos", "I", false)
  | 31 => ("StatueVotesModel", "past", "[I", true)
  | 32 => ("StatueVotesModel", "before", "[I", true)
  | 33 => ("StatueVotesModel", "most", "[I", true)
  | 34 => ("StatueVotesModel", "counted", "I", false)
  | 35 => ("StatueVotesModel", "countedAt", "[I", true)
  | 36 => ("StatueVotesModel", "countedIs", "[I", true)
  | 37 => ("StatueVotesModel", "parts", "[I", true)
  | 38 => ("StatueVotesModel", "booked", "I", false)
  | 39 => ("StatueVotesModel", "bookOf", "[I", true)
  | 40 => ("StatueVotesModel", "bookIs", "[I", true)
  | 41 => ("StatueVotesModel", "images", "[I", true)
  | _ => ("StatueVotesModel", "isKept", "[Z", true)
def tyX11 : Nat → FieldType := fun k => match k with
  | 0 => .int
  | 1 => .int
  | 2 => .array .int
  | 3 => .int
  | 4 => .array .int
  | 5 => .array .int
  | 6 => .array .int
  | 7 => .int
  | 8 => .array .int
  | 9 => .array .int
  | 10 => .array .int
  | 11 => .array .int
  | 12 => .int
  | 13 => .array .int
  | 14 => .int
  | 15 => .int
  | 16 => .int
  | 17 => .int
  | 18 => .int
  | 19 => .int
  | 20 => .int
  | 21 => .array .int
  | 22 => .int
  | 23 => .array .int
  | 24 => .array .int
  | 25 => .array .int
  | 26 => .int
  | 27 => .array .int
  | 28 => .array .int
  | 29 => .array .int
  | 30 => .int
  | 31 => .array .int
  | 32 => .array .int
  | 33 => .array .int
  | 34 => .int
  | 35 => .array .int
  | 36 => .array .int
  | 37 => .array .int
  | 38 => .int
  | 39 => .array .int
  | 40 => .array .int
  | 41 => .array .int
  | _ => .array .boolean
abbrev wsX110 : List Cond := u_ws RX11 TX11 43
theorem nmX11 : ∀ a, a < 43 → ∀ b, b < 43 → a ≠ b → (TX11 a).2.1 ≠ (TX11 b).2.1 := by decide +kernel
theorem tyX11_ok : ∀ k, k < 43 → parseFieldDescriptor (TX11 k).2.2.1 = some (tyX11 k) := by decide +kernel
abbrev cX11_init : ByteArray := prog_13_method_1_code
def yX11_init : MethodName := ⟨RX11, "<init>", "()V"⟩
abbrev cX11_in : ByteArray := prog_13_method_3_code
def yX11_in : MethodName := ⟨RX11, "in", "(JJJ)Z"⟩
abbrev cX11_has : ByteArray := prog_13_method_4_code
def yX11_has : MethodName := ⟨RX11, "has", "(II)Z"⟩
abbrev cX11_bits : ByteArray := prog_13_method_5_code
def yX11_bits : MethodName := ⟨RX11, "bits", "(I)I"⟩
abbrev cX11_isPlinth : ByteArray := prog_13_method_6_code
def yX11_isPlinth : MethodName := ⟨RX11, "isPlinth", "(I)Z"⟩
abbrev cX11_isStatue : ByteArray := prog_13_method_7_code
def yX11_isStatue : MethodName := ⟨RX11, "isStatue", "(I)Z"⟩
abbrev cX11_isWalker : ByteArray := prog_13_method_8_code
def yX11_isWalker : MethodName := ⟨RX11, "isWalker", "(I)Z"⟩
abbrev cX11_feed : ByteArray := prog_13_method_9_code
def yX11_feed : MethodName := ⟨RX11, "feed", "(I)I"⟩
abbrev cX11_here : ByteArray := prog_13_method_10_code
def yX11_here : MethodName := ⟨RX11, "here", "()I"⟩
abbrev cX11_fails : ByteArray := prog_13_method_11_code
def yX11_fails : MethodName := ⟨RX11, "fails", "(II)I"⟩
abbrev cX11_takeNumber : ByteArray := prog_13_method_12_code
def yX11_takeNumber : MethodName := ⟨RX11, "takeNumber", "(II)I"⟩
abbrev cX11_into : ByteArray := prog_13_method_13_code
def yX11_into : MethodName := ⟨RX11, "into", "([IIII)I"⟩
abbrev cX11_takeTerm : ByteArray := prog_13_method_14_code
def yX11_takeTerm : MethodName := ⟨RX11, "takeTerm", "()I"⟩
abbrev cX11_takePlinth : ByteArray := prog_13_method_15_code
def yX11_takePlinth : MethodName := ⟨RX11, "takePlinth", "()I"⟩
abbrev cX11_takePlace : ByteArray := prog_13_method_16_code
def yX11_takePlace : MethodName := ⟨RX11, "takePlace", "(I)I"⟩
abbrev cX11_takeStatue : ByteArray := prog_13_method_17_code
def yX11_takeStatue : MethodName := ⟨RX11, "takeStatue", "()I"⟩
abbrev cX11_takeWalker : ByteArray := prog_13_method_18_code
def yX11_takeWalker : MethodName := ⟨RX11, "takeWalker", "()I"⟩
abbrev cX11_isFull : ByteArray := prog_13_method_19_code
def yX11_isFull : MethodName := ⟨RX11, "isFull", "(I)Z"⟩
abbrev cX11_takeClause : ByteArray := prog_13_method_20_code
def yX11_takeClause : MethodName := ⟨RX11, "takeClause", "()I"⟩
abbrev cX11_copyRow : ByteArray := prog_13_method_21_code
def yX11_copyRow : MethodName := ⟨RX11, "copyRow", "([I[II)V"⟩
abbrev cX11_takeRead : ByteArray := prog_13_method_22_code
def yX11_takeRead : MethodName := ⟨RX11, "takeRead", "()V"⟩
abbrev cX11_capital : ByteArray := prog_13_method_23_code
def yX11_capital : MethodName := ⟨RX11, "capital", "()I"⟩
abbrev cX11_fault : ByteArray := prog_13_method_24_code
def yX11_fault : MethodName := ⟨RX11, "fault", "()I"⟩
abbrev cX11_stands : ByteArray := prog_13_method_25_code
def yX11_stands : MethodName := ⟨RX11, "stands", "(I)Z"⟩
abbrev cX11_whoIsOn : ByteArray := prog_13_method_26_code
def yX11_whoIsOn : MethodName := ⟨RX11, "whoIsOn", "(I)I"⟩
abbrev cX11_walkersUnder : ByteArray := prog_13_method_27_code
def yX11_walkersUnder : MethodName := ⟨RX11, "walkersUnder", "(I)I"⟩
abbrev cX11_votesOf : ByteArray := prog_13_method_28_code
def yX11_votesOf : MethodName := ⟨RX11, "votesOf", "(I)I"⟩
abbrev cX11_whoLikes : ByteArray := prog_13_method_29_code
def yX11_whoLikes : MethodName := ⟨RX11, "whoLikes", "(I)I"⟩
abbrev cX11_marginBy : ByteArray := prog_13_method_30_code
def yX11_marginBy : MethodName := ⟨RX11, "marginBy", "(II)I"⟩
abbrev cX11_marginOf : ByteArray := prog_13_method_31_code
def yX11_marginOf : MethodName := ⟨RX11, "marginOf", "(I)I"⟩
abbrev cX11_standingOnes : ByteArray := prog_13_method_32_code
def yX11_standingOnes : MethodName := ⟨RX11, "standingOnes", "()I"⟩
abbrev cX11_fallingOnes : ByteArray := prog_13_method_33_code
def yX11_fallingOnes : MethodName := ⟨RX11, "fallingOnes", "()I"⟩
abbrev cX11_waitingOnes : ByteArray := prog_13_method_34_code
def yX11_waitingOnes : MethodName := ⟨RX11, "waitingOnes", "()I"⟩
abbrev cX11_isHad : ByteArray := prog_13_method_35_code
def yX11_isHad : MethodName := ⟨RX11, "isHad", "(II)Z"⟩
abbrev cX11_beloved : ByteArray := prog_13_method_36_code
def yX11_beloved : MethodName := ⟨RX11, "beloved", "()I"⟩
abbrev cX11_rings : ByteArray := prog_13_method_37_code
def yX11_rings : MethodName := ⟨RX11, "rings", "()I"⟩
abbrev cX11_told : ByteArray := prog_13_method_38_code
def yX11_told : MethodName := ⟨RX11, "told", "(I)I"⟩
abbrev cX11_plinth : ByteArray := prog_13_method_39_code
def yX11_plinth : MethodName := ⟨RX11, "plinth", "(II)I"⟩
abbrev cX11_statue : ByteArray := prog_13_method_40_code
def yX11_statue : MethodName := ⟨RX11, "statue", "(II)I"⟩
abbrev cX11_walker : ByteArray := prog_13_method_41_code
def yX11_walker : MethodName := ⟨RX11, "walker", "(II)I"⟩
abbrev cX11_moreTired : ByteArray := prog_13_method_42_code
def yX11_moreTired : MethodName := ⟨RX11, "moreTired", "(I)I"⟩
abbrev cX11_elect : ByteArray := prog_13_method_43_code
def yX11_elect : MethodName := ⟨RX11, "elect", "()V"⟩
abbrev cX11_pass : ByteArray := prog_13_method_44_code
def yX11_pass : MethodName := ⟨RX11, "pass", "()V"⟩
abbrev cX11_remember : ByteArray := prog_13_method_45_code
def yX11_remember : MethodName := ⟨RX11, "remember", "()V"⟩
abbrev cX11_yearsRefused : ByteArray := prog_13_method_46_code
def yX11_yearsRefused : MethodName := ⟨RX11, "yearsRefused", "(I)I"⟩
abbrev cX11_year : ByteArray := prog_13_method_47_code
def yX11_year : MethodName := ⟨RX11, "year", "(I)I"⟩
abbrev cX11_canStand : ByteArray := prog_13_method_48_code
def yX11_canStand : MethodName := ⟨RX11, "canStand", "(II)Z"⟩
abbrev cX11_stand : ByteArray := prog_13_method_49_code
def yX11_stand : MethodName := ⟨RX11, "stand", "(II)I"⟩
abbrev cX11_down : ByteArray := prog_13_method_50_code
def yX11_down : MethodName := ⟨RX11, "down", "(I)I"⟩
abbrev cX11_scrub : ByteArray := prog_13_method_51_code
def yX11_scrub : MethodName := ⟨RX11, "scrub", "(I)I"⟩
abbrev cX11_walk : ByteArray := prog_13_method_52_code
def yX11_walk : MethodName := ⟨RX11, "walk", "(II)I"⟩
abbrev cX11_like : ByteArray := prog_13_method_53_code
def yX11_like : MethodName := ⟨RX11, "like", "(II)I"⟩
abbrev cX11_draw : ByteArray := prog_13_method_54_code
def yX11_draw : MethodName := ⟨RX11, "draw", "(I)I"⟩
abbrev cX11_chance : ByteArray := prog_13_method_55_code
def yX11_chance : MethodName := ⟨RX11, "chance", "()V"⟩
abbrev cX11_drift : ByteArray := prog_13_method_56_code
def yX11_drift : MethodName := ⟨RX11, "drift", "(I)I"⟩
abbrev cX11_undo : ByteArray := prog_13_method_57_code
def yX11_undo : MethodName := ⟨RX11, "undo", "()I"⟩
abbrev cX11_standing : ByteArray := prog_13_method_58_code
def yX11_standing : MethodName := ⟨RX11, "standing", "(II)I"⟩
abbrev cX11_goesDown : ByteArray := prog_13_method_59_code
def yX11_goesDown : MethodName := ⟨RX11, "goesDown", "(I)I"⟩
abbrev cX11_change : ByteArray := prog_13_method_60_code
def yX11_change : MethodName := ⟨RX11, "change", "(II)I"⟩
abbrev cX11_factorial : ByteArray := prog_13_method_61_code
def yX11_factorial : MethodName := ⟨RX11, "factorial", "(I)I"⟩
abbrev cX11_power : ByteArray := prog_13_method_62_code
def yX11_power : MethodName := ⟨RX11, "power", "(III)I"⟩
abbrev cX11_mostHave : ByteArray := prog_13_method_63_code
def yX11_mostHave : MethodName := ⟨RX11, "mostHave", "(II)I"⟩
abbrev cX11_withPlace : ByteArray := prog_13_method_64_code
def yX11_withPlace : MethodName := ⟨RX11, "withPlace", "(III)I"⟩
abbrev cX11_findPlaces : ByteArray := prog_13_method_65_code
def yX11_findPlaces : MethodName := ⟨RX11, "findPlaces", "()V"⟩
abbrev cX11_placeOf : ByteArray := prog_13_method_66_code
def yX11_placeOf : MethodName := ⟨RX11, "placeOf", "(I)I"⟩
abbrev cX11_places : ByteArray := prog_13_method_67_code
def yX11_places : MethodName := ⟨RX11, "places", "(I)I"⟩
abbrev cX11_swaps : ByteArray := prog_13_method_68_code
def yX11_swaps : MethodName := ⟨RX11, "swaps", "(I)I"⟩
abbrev cX11_close : ByteArray := prog_13_method_69_code
def yX11_close : MethodName := ⟨RX11, "close", "(II)I"⟩
abbrev cX11_count : ByteArray := prog_13_method_70_code
def yX11_count : MethodName := ⟨RX11, "count", "(II)I"⟩
abbrev cX11_votesOn : ByteArray := prog_13_method_71_code
def yX11_votesOn : MethodName := ⟨RX11, "votesOn", "(II)I"⟩
abbrev cX11_couldBe : ByteArray := prog_13_method_72_code
def yX11_couldBe : MethodName := ⟨RX11, "couldBe", "(I)Z"⟩
abbrev cX11_manyThat : ByteArray := prog_13_method_73_code
def yX11_manyThat : MethodName := ⟨RX11, "manyThat", "()I"⟩
abbrev cX11_likings : ByteArray := prog_13_method_74_code
def yX11_likings : MethodName := ⟨RX11, "likings", "(I)I"⟩
abbrev cX11_greatestPart : ByteArray := prog_13_method_75_code
def yX11_greatestPart : MethodName := ⟨RX11, "greatestPart", "(I)I"⟩
abbrev cX11_ladder : ByteArray := prog_13_method_76_code
def yX11_ladder : MethodName := ⟨RX11, "ladder", "()I"⟩
abbrev cX11_write : ByteArray := prog_13_method_77_code
def yX11_write : MethodName := ⟨RX11, "write", "(II)I"⟩
abbrev cX11_tear : ByteArray := prog_13_method_78_code
def yX11_tear : MethodName := ⟨RX11, "tear", "()I"⟩
abbrev cX11_judge : ByteArray := prog_13_method_79_code
def yX11_judge : MethodName := ⟨RX11, "judge", "()I"⟩
abbrev cX11_seed : ByteArray := prog_13_method_80_code
def yX11_seed : MethodName := ⟨RX11, "seed", "(I)I"⟩
abbrev cX11_keep : ByteArray := prog_13_method_81_code
def yX11_keep : MethodName := ⟨RX11, "keep", "(I)I"⟩
abbrev cX11_goBack : ByteArray := prog_13_method_82_code
def yX11_goBack : MethodName := ⟨RX11, "goBack", "(I)I"⟩
def RJ6 : String := "java/lang/Integer"
def TJ6 : u_T := fun k => match k with
  | _ => ("", "", "", false)
def tyJ6 : Nat → FieldType := fun k => match k with
  | _ => .int
abbrev wsJ60 : List Cond := u_ws RJ6 TJ6 0
theorem nmJ6 : ∀ a, a < 0 → ∀ b, b < 0 → a ≠ b → (TJ6 a).2.1 ≠ (TJ6 b).2.1 := by decide +kernel
theorem tyJ6_ok : ∀ k, k < 0 → parseFieldDescriptor (TJ6 k).2.2.1 = some (tyJ6 k) := by decide +kernel
abbrev cJ6_bitCount_0f7a4 : ByteArray := prog_14_method_49_code
def yJ6_bitCount_0f7a4 : MethodName := ⟨RJ6, "bitCount", "(I)I"⟩
def RJ9 : String := "java/lang/Math"
def TJ9 : u_T := fun k => match k with
  | _ => ("", "", "", false)
def tyJ9 : Nat → FieldType := fun k => match k with
  | _ => .int
abbrev wsJ90 : List Cond := u_ws RJ9 TJ9 0
theorem nmJ9 : ∀ a, a < 0 → ∀ b, b < 0 → a ≠ b → (TJ9 a).2.1 ≠ (TJ9 b).2.1 := by decide +kernel
theorem tyJ9_ok : ∀ k, k < 0 → parseFieldDescriptor (TJ9 k).2.2.1 = some (tyJ9 k) := by decide +kernel
abbrev cJ9_max_7cf53 : ByteArray := prog_15_method_65_code
def yJ9_max_7cf53 : MethodName := ⟨RJ9, "max", "(II)I"⟩
abbrev cJ9_min_7cf53 : ByteArray := prog_15_method_69_code
def yJ9_min_7cf53 : MethodName := ⟨RJ9, "min", "(II)I"⟩
def RJ10 : String := "java/lang/System"
def TJ10 : u_T := fun k => match k with
  | _ => ("", "", "", false)
def tyJ10 : Nat → FieldType := fun k => match k with
  | _ => .int
abbrev wsJ100 : List Cond := u_ws RJ10 TJ10 0
theorem nmJ10 : ∀ a, a < 0 → ∀ b, b < 0 → a ≠ b → (TJ10 a).2.1 ≠ (TJ10 b).2.1 := by decide +kernel
theorem tyJ10_ok : ∀ k, k < 0 → parseFieldDescriptor (TJ10 k).2.2.1 = some (tyJ10 k) := by decide +kernel
def RL : String := "StatueVotesLaw"
abbrev cL_law : ByteArray := code
def yL_law : MethodName := ⟨RL, "law", "([I)Z"⟩
abbrev vwCl : List vw_C := [(RX0, TX0, 4), (RX1, TX1, 11), (RX2, TX2, 3), (RX3, TX3, 3), (RX4, TX4, 3), (RX5, TX5, 4), (RX6, TX6, 2), (RX7, TX7, 6), (RX8, TX8, 7), (RX9, TX9, 8), (RX10, TX10, 11), (RX11, TX11, 43)]
