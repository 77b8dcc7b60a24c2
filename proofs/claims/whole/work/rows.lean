section
-- ===== PART A: goes FIRST, ahead of the names: the tables' words, and 'selects' of the private methods out of them =====
/-- a private method of a class that the tables say can be made, by its rows of tables_1 -/
def lw_okq (q : MethodName × Nat) : Prop := (q.1.cls ≠ "java/lang/invoke/MethodHandle" ∧ q.1.cls ≠ "java/lang/invoke/VarHandle") ∧ Cond.instantiable q.1.cls q.2 ∈ tables_1 ∧ Cond.privateMethod q.1 ∈ tables_1 ∧ Cond.instanceMethod q.1 ∈ tables_1
theorem lw_p0 : lw_okq (⟨"StatueVotes$Reader", "skipBlanks", "()V"⟩, 6) := ⟨⟨by decide +kernel, by decide +kernel⟩, List.mem_of_getElem? (i := 133) (by decide +kernel), List.mem_of_getElem? (i := 366) (by decide +kernel), List.mem_of_getElem? (i := 367) (by decide +kernel)⟩
theorem lw_p1 : lw_okq (⟨"StatueVotes$Reader", "readClause", "()V"⟩, 6) := ⟨⟨by decide +kernel, by decide +kernel⟩, List.mem_of_getElem? (i := 133) (by decide +kernel), List.mem_of_getElem? (i := 370) (by decide +kernel), List.mem_of_getElem? (i := 371) (by decide +kernel)⟩
theorem lw_p2 : lw_okq (⟨"StatueVotes$Reader", "letter", "()I"⟩, 6) := ⟨⟨by decide +kernel, by decide +kernel⟩, List.mem_of_getElem? (i := 133) (by decide +kernel), List.mem_of_getElem? (i := 374) (by decide +kernel), List.mem_of_getElem? (i := 375) (by decide +kernel)⟩
theorem lw_p3 : lw_okq (⟨"StatueVotes$Reader", "faultOfWord", "(I)I"⟩, 6) := ⟨⟨by decide +kernel, by decide +kernel⟩, List.mem_of_getElem? (i := 133) (by decide +kernel), List.mem_of_getElem? (i := 378) (by decide +kernel), List.mem_of_getElem? (i := 379) (by decide +kernel)⟩
theorem lw_p4 : lw_okq (⟨"StatueVotes$Reader", "blame", "(II)V"⟩, 6) := ⟨⟨by decide +kernel, by decide +kernel⟩, List.mem_of_getElem? (i := 133) (by decide +kernel), List.mem_of_getElem? (i := 382) (by decide +kernel), List.mem_of_getElem? (i := 383) (by decide +kernel)⟩
theorem lw_p5 : lw_okq (⟨"StatueVotes$Reader", "readTerm", "()V"⟩, 6) := ⟨⟨by decide +kernel, by decide +kernel⟩, List.mem_of_getElem? (i := 133) (by decide +kernel), List.mem_of_getElem? (i := 386) (by decide +kernel), List.mem_of_getElem? (i := 387) (by decide +kernel)⟩
theorem lw_p6 : lw_okq (⟨"StatueVotes$Reader", "readNumber", "(II)I"⟩, 6) := ⟨⟨by decide +kernel, by decide +kernel⟩, List.mem_of_getElem? (i := 133) (by decide +kernel), List.mem_of_getElem? (i := 390) (by decide +kernel), List.mem_of_getElem? (i := 391) (by decide +kernel)⟩
theorem lw_p7 : lw_okq (⟨"StatueVotes$Reader", "readSemicolon", "()V"⟩, 6) := ⟨⟨by decide +kernel, by decide +kernel⟩, List.mem_of_getElem? (i := 133) (by decide +kernel), List.mem_of_getElem? (i := 397) (by decide +kernel), List.mem_of_getElem? (i := 398) (by decide +kernel)⟩
theorem lw_p8 : lw_okq (⟨"StatueVotes$Reader", "readPlinth", "()V"⟩, 6) := ⟨⟨by decide +kernel, by decide +kernel⟩, List.mem_of_getElem? (i := 133) (by decide +kernel), List.mem_of_getElem? (i := 401) (by decide +kernel), List.mem_of_getElem? (i := 402) (by decide +kernel)⟩
theorem lw_p9 : lw_okq (⟨"StatueVotes$Reader", "readStatue", "()V"⟩, 6) := ⟨⟨by decide +kernel, by decide +kernel⟩, List.mem_of_getElem? (i := 133) (by decide +kernel), List.mem_of_getElem? (i := 409) (by decide +kernel), List.mem_of_getElem? (i := 410) (by decide +kernel)⟩
theorem lw_p10 : lw_okq (⟨"StatueVotes$Reader", "readPlace", "()I"⟩, 6) := ⟨⟨by decide +kernel, by decide +kernel⟩, List.mem_of_getElem? (i := 133) (by decide +kernel), List.mem_of_getElem? (i := 413) (by decide +kernel), List.mem_of_getElem? (i := 414) (by decide +kernel)⟩
theorem lw_p11 : lw_okq (⟨"StatueVotes$Reader", "readWalker", "()V"⟩, 6) := ⟨⟨by decide +kernel, by decide +kernel⟩, List.mem_of_getElem? (i := 133) (by decide +kernel), List.mem_of_getElem? (i := 429) (by decide +kernel), List.mem_of_getElem? (i := 430) (by decide +kernel)⟩
theorem lw_p12 : lw_okq (⟨"StatueVotes$Polls", "isHadAgainstAll", "(I)Z"⟩, 2) := ⟨⟨by decide +kernel, by decide +kernel⟩, List.mem_of_getElem? (i := 164) (by decide +kernel), List.mem_of_getElem? (i := 517) (by decide +kernel), List.mem_of_getElem? (i := 518) (by decide +kernel)⟩
theorem lw_p13 : lw_okq (⟨"StatueVotes$Polls", "goesRound", "(III)Z"⟩, 2) := ⟨⟨by decide +kernel, by decide +kernel⟩, List.mem_of_getElem? (i := 164) (by decide +kernel), List.mem_of_getElem? (i := 531) (by decide +kernel), List.mem_of_getElem? (i := 532) (by decide +kernel)⟩
theorem lw_p14 : lw_okq (⟨"StatueVotes", "refusalOfYears", "(I)I"⟩, 11) := ⟨⟨by decide +kernel, by decide +kernel⟩, List.mem_of_getElem? (i := 17) (by decide +kernel), List.mem_of_getElem? (i := 566) (by decide +kernel), List.mem_of_getElem? (i := 567) (by decide +kernel)⟩
theorem lw_p15 : lw_okq (⟨"StatueVotes$State", "strain", "(I)I"⟩, 7) := ⟨⟨by decide +kernel, by decide +kernel⟩, List.mem_of_getElem? (i := 94) (by decide +kernel), List.mem_of_getElem? (i := 587) (by decide +kernel), List.mem_of_getElem? (i := 588) (by decide +kernel)⟩
def lw_privs_1 : List (MethodName × Nat) := [(⟨"StatueVotes$Reader", "skipBlanks", "()V"⟩, 6), (⟨"StatueVotes$Reader", "readClause", "()V"⟩, 6), (⟨"StatueVotes$Reader", "letter", "()I"⟩, 6), (⟨"StatueVotes$Reader", "faultOfWord", "(I)I"⟩, 6), (⟨"StatueVotes$Reader", "blame", "(II)V"⟩, 6), (⟨"StatueVotes$Reader", "readTerm", "()V"⟩, 6), (⟨"StatueVotes$Reader", "readNumber", "(II)I"⟩, 6), (⟨"StatueVotes$Reader", "readSemicolon", "()V"⟩, 6), (⟨"StatueVotes$Reader", "readPlinth", "()V"⟩, 6), (⟨"StatueVotes$Reader", "readStatue", "()V"⟩, 6), (⟨"StatueVotes$Reader", "readPlace", "()I"⟩, 6), (⟨"StatueVotes$Reader", "readWalker", "()V"⟩, 6), (⟨"StatueVotes$Polls", "isHadAgainstAll", "(I)Z"⟩, 2), (⟨"StatueVotes$Polls", "goesRound", "(III)Z"⟩, 2), (⟨"StatueVotes", "refusalOfYears", "(I)I"⟩, 11), (⟨"StatueVotes$State", "strain", "(I)I"⟩, 7)]
theorem lw_r1 : ∀ q ∈ lw_privs_1, lw_okq q := List.forall_mem_cons.mpr ⟨lw_p0, List.forall_mem_cons.mpr ⟨lw_p1, List.forall_mem_cons.mpr ⟨lw_p2, List.forall_mem_cons.mpr ⟨lw_p3, List.forall_mem_cons.mpr ⟨lw_p4, List.forall_mem_cons.mpr ⟨lw_p5, List.forall_mem_cons.mpr ⟨lw_p6, List.forall_mem_cons.mpr ⟨lw_p7, List.forall_mem_cons.mpr ⟨lw_p8, List.forall_mem_cons.mpr ⟨lw_p9, List.forall_mem_cons.mpr ⟨lw_p10, List.forall_mem_cons.mpr ⟨lw_p11, List.forall_mem_cons.mpr ⟨lw_p12, List.forall_mem_cons.mpr ⟨lw_p13, List.forall_mem_cons.mpr ⟨lw_p14, List.forall_mem_cons.mpr ⟨lw_p15, fun _ h => absurd h List.not_mem_nil⟩⟩⟩⟩⟩⟩⟩⟩⟩⟩⟩⟩⟩⟩⟩⟩
theorem lw_p16 : lw_okq (⟨"StatueVotes$State", "holdElection", "()V"⟩, 7) := ⟨⟨by decide +kernel, by decide +kernel⟩, List.mem_of_getElem? (i := 94) (by decide +kernel), List.mem_of_getElem? (i := 601) (by decide +kernel), List.mem_of_getElem? (i := 602) (by decide +kernel)⟩
theorem lw_p17 : lw_okq (⟨"StatueVotes$Draws", "draw", "(I)I"⟩, 3) := ⟨⟨by decide +kernel, by decide +kernel⟩, List.mem_of_getElem? (i := 253) (by decide +kernel), List.mem_of_getElem? (i := 647) (by decide +kernel), List.mem_of_getElem? (i := 648) (by decide +kernel)⟩
theorem lw_p18 : lw_okq (⟨"StatueVotes$Draws", "turnWalker", "()V"⟩, 3) := ⟨⟨by decide +kernel, by decide +kernel⟩, List.mem_of_getElem? (i := 253) (by decide +kernel), List.mem_of_getElem? (i := 655) (by decide +kernel), List.mem_of_getElem? (i := 656) (by decide +kernel)⟩
theorem lw_p19 : lw_okq (⟨"StatueVotes$Draws", "raiseStatue", "()V"⟩, 3) := ⟨⟨by decide +kernel, by decide +kernel⟩, List.mem_of_getElem? (i := 253) (by decide +kernel), List.mem_of_getElem? (i := 660) (by decide +kernel), List.mem_of_getElem? (i := 661) (by decide +kernel)⟩
theorem lw_p20 : lw_okq (⟨"StatueVotes$Draws", "washStatue", "()V"⟩, 3) := ⟨⟨by decide +kernel, by decide +kernel⟩, List.mem_of_getElem? (i := 253) (by decide +kernel), List.mem_of_getElem? (i := 665) (by decide +kernel), List.mem_of_getElem? (i := 666) (by decide +kernel)⟩
theorem lw_p21 : lw_okq (⟨"StatueVotes$Polls", "ordersAround", "(II)I"⟩, 2) := ⟨⟨by decide +kernel, by decide +kernel⟩, List.mem_of_getElem? (i := 164) (by decide +kernel), List.mem_of_getElem? (i := 717) (by decide +kernel), List.mem_of_getElem? (i := 718) (by decide +kernel)⟩
theorem lw_p22 : lw_okq (⟨"StatueVotes$Placer", "bestWorth", "(II)I"⟩, 4) := ⟨⟨by decide +kernel, by decide +kernel⟩, List.mem_of_getElem? (i := 177) (by decide +kernel), List.mem_of_getElem? (i := 736) (by decide +kernel), List.mem_of_getElem? (i := 737) (by decide +kernel)⟩
theorem lw_p23 : lw_okq (⟨"StatueVotes$Placer", "canHave", "(III)Z"⟩, 4) := ⟨⟨by decide +kernel, by decide +kernel⟩, List.mem_of_getElem? (i := 177) (by decide +kernel), List.mem_of_getElem? (i := 740) (by decide +kernel), List.mem_of_getElem? (i := 741) (by decide +kernel)⟩
theorem lw_p24 : lw_okq (⟨"StatueVotes$Placer", "worthOn", "(III)I"⟩, 4) := ⟨⟨by decide +kernel, by decide +kernel⟩, List.mem_of_getElem? (i := 177) (by decide +kernel), List.mem_of_getElem? (i := 746) (by decide +kernel), List.mem_of_getElem? (i := 747) (by decide +kernel)⟩
theorem lw_p25 : lw_okq (⟨"StatueVotes$Placer", "firstBest", "(II)I"⟩, 4) := ⟨⟨by decide +kernel, by decide +kernel⟩, List.mem_of_getElem? (i := 177) (by decide +kernel), List.mem_of_getElem? (i := 754) (by decide +kernel), List.mem_of_getElem? (i := 755) (by decide +kernel)⟩
theorem lw_p26 : lw_okq (⟨"StatueVotes$Placer", "bestOfAll", "()I"⟩, 4) := ⟨⟨by decide +kernel, by decide +kernel⟩, List.mem_of_getElem? (i := 177) (by decide +kernel), List.mem_of_getElem? (i := 762) (by decide +kernel), List.mem_of_getElem? (i := 763) (by decide +kernel)⟩
theorem lw_p27 : lw_okq (⟨"StatueVotes$Placer", "wouldSwap", "(II)Z"⟩, 4) := ⟨⟨by decide +kernel, by decide +kernel⟩, List.mem_of_getElem? (i := 177) (by decide +kernel), List.mem_of_getElem? (i := 778) (by decide +kernel), List.mem_of_getElem? (i := 779) (by decide +kernel)⟩
theorem lw_p28 : lw_okq (⟨"StatueVotes$Tally", "greatestPart", "(I)I"⟩, 8) := ⟨⟨by decide +kernel, by decide +kernel⟩, List.mem_of_getElem? (i := 199) (by decide +kernel), List.mem_of_getElem? (i := 824) (by decide +kernel), List.mem_of_getElem? (i := 825) (by decide +kernel)⟩
theorem lw_p29 : lw_okq (⟨"StatueVotesModel", "here", "()I"⟩, 43) := ⟨⟨by decide +kernel, by decide +kernel⟩, List.mem_of_getElem? (i := 865) (by decide +kernel), List.mem_of_getElem? (i := 1015) (by decide +kernel), List.mem_of_getElem? (i := 1016) (by decide +kernel)⟩
theorem lw_p30 : lw_okq (⟨"StatueVotesModel", "takeClause", "()I"⟩, 43) := ⟨⟨by decide +kernel, by decide +kernel⟩, List.mem_of_getElem? (i := 865) (by decide +kernel), List.mem_of_getElem? (i := 1019) (by decide +kernel), List.mem_of_getElem? (i := 1020) (by decide +kernel)⟩
theorem lw_p31 : lw_okq (⟨"StatueVotesModel", "fails", "(II)I"⟩, 43) := ⟨⟨by decide +kernel, by decide +kernel⟩, List.mem_of_getElem? (i := 865) (by decide +kernel), List.mem_of_getElem? (i := 1023) (by decide +kernel), List.mem_of_getElem? (i := 1024) (by decide +kernel)⟩
def lw_privs_2 : List (MethodName × Nat) := [(⟨"StatueVotes$State", "holdElection", "()V"⟩, 7), (⟨"StatueVotes$Draws", "draw", "(I)I"⟩, 3), (⟨"StatueVotes$Draws", "turnWalker", "()V"⟩, 3), (⟨"StatueVotes$Draws", "raiseStatue", "()V"⟩, 3), (⟨"StatueVotes$Draws", "washStatue", "()V"⟩, 3), (⟨"StatueVotes$Polls", "ordersAround", "(II)I"⟩, 2), (⟨"StatueVotes$Placer", "bestWorth", "(II)I"⟩, 4), (⟨"StatueVotes$Placer", "canHave", "(III)Z"⟩, 4), (⟨"StatueVotes$Placer", "worthOn", "(III)I"⟩, 4), (⟨"StatueVotes$Placer", "firstBest", "(II)I"⟩, 4), (⟨"StatueVotes$Placer", "bestOfAll", "()I"⟩, 4), (⟨"StatueVotes$Placer", "wouldSwap", "(II)Z"⟩, 4), (⟨"StatueVotes$Tally", "greatestPart", "(I)I"⟩, 8), (⟨"StatueVotesModel", "here", "()I"⟩, 43), (⟨"StatueVotesModel", "takeClause", "()I"⟩, 43), (⟨"StatueVotesModel", "fails", "(II)I"⟩, 43)]
theorem lw_r2 : ∀ q ∈ lw_privs_2, lw_okq q := List.forall_mem_cons.mpr ⟨lw_p16, List.forall_mem_cons.mpr ⟨lw_p17, List.forall_mem_cons.mpr ⟨lw_p18, List.forall_mem_cons.mpr ⟨lw_p19, List.forall_mem_cons.mpr ⟨lw_p20, List.forall_mem_cons.mpr ⟨lw_p21, List.forall_mem_cons.mpr ⟨lw_p22, List.forall_mem_cons.mpr ⟨lw_p23, List.forall_mem_cons.mpr ⟨lw_p24, List.forall_mem_cons.mpr ⟨lw_p25, List.forall_mem_cons.mpr ⟨lw_p26, List.forall_mem_cons.mpr ⟨lw_p27, List.forall_mem_cons.mpr ⟨lw_p28, List.forall_mem_cons.mpr ⟨lw_p29, List.forall_mem_cons.mpr ⟨lw_p30, List.forall_mem_cons.mpr ⟨lw_p31, fun _ h => absurd h List.not_mem_nil⟩⟩⟩⟩⟩⟩⟩⟩⟩⟩⟩⟩⟩⟩⟩⟩
theorem lw_p32 : lw_okq (⟨"StatueVotesModel", "isFull", "(I)Z"⟩, 43) := ⟨⟨by decide +kernel, by decide +kernel⟩, List.mem_of_getElem? (i := 865) (by decide +kernel), List.mem_of_getElem? (i := 1027) (by decide +kernel), List.mem_of_getElem? (i := 1028) (by decide +kernel)⟩
theorem lw_p33 : lw_okq (⟨"StatueVotesModel", "takeTerm", "()I"⟩, 43) := ⟨⟨by decide +kernel, by decide +kernel⟩, List.mem_of_getElem? (i := 865) (by decide +kernel), List.mem_of_getElem? (i := 1031) (by decide +kernel), List.mem_of_getElem? (i := 1032) (by decide +kernel)⟩
theorem lw_p34 : lw_okq (⟨"StatueVotesModel", "takeNumber", "(II)I"⟩, 43) := ⟨⟨by decide +kernel, by decide +kernel⟩, List.mem_of_getElem? (i := 865) (by decide +kernel), List.mem_of_getElem? (i := 1035) (by decide +kernel), List.mem_of_getElem? (i := 1036) (by decide +kernel)⟩
theorem lw_p35 : lw_okq (⟨"StatueVotesModel", "takePlinth", "()I"⟩, 43) := ⟨⟨by decide +kernel, by decide +kernel⟩, List.mem_of_getElem? (i := 865) (by decide +kernel), List.mem_of_getElem? (i := 1041) (by decide +kernel), List.mem_of_getElem? (i := 1042) (by decide +kernel)⟩
theorem lw_p36 : lw_okq (⟨"StatueVotesModel", "into", "([IIII)I"⟩, 43) := ⟨⟨by decide +kernel, by decide +kernel⟩, List.mem_of_getElem? (i := 865) (by decide +kernel), List.mem_of_getElem? (i := 1045) (by decide +kernel), List.mem_of_getElem? (i := 1046) (by decide +kernel)⟩
theorem lw_p37 : lw_okq (⟨"StatueVotesModel", "takeStatue", "()I"⟩, 43) := ⟨⟨by decide +kernel, by decide +kernel⟩, List.mem_of_getElem? (i := 865) (by decide +kernel), List.mem_of_getElem? (i := 1049) (by decide +kernel), List.mem_of_getElem? (i := 1050) (by decide +kernel)⟩
theorem lw_p38 : lw_okq (⟨"StatueVotesModel", "takePlace", "(I)I"⟩, 43) := ⟨⟨by decide +kernel, by decide +kernel⟩, List.mem_of_getElem? (i := 865) (by decide +kernel), List.mem_of_getElem? (i := 1053) (by decide +kernel), List.mem_of_getElem? (i := 1054) (by decide +kernel)⟩
theorem lw_p39 : lw_okq (⟨"StatueVotesModel", "takeWalker", "()I"⟩, 43) := ⟨⟨by decide +kernel, by decide +kernel⟩, List.mem_of_getElem? (i := 865) (by decide +kernel), List.mem_of_getElem? (i := 1057) (by decide +kernel), List.mem_of_getElem? (i := 1058) (by decide +kernel)⟩
theorem lw_p40 : lw_okq (⟨"StatueVotesModel", "takeRead", "()V"⟩, 43) := ⟨⟨by decide +kernel, by decide +kernel⟩, List.mem_of_getElem? (i := 865) (by decide +kernel), List.mem_of_getElem? (i := 1061) (by decide +kernel), List.mem_of_getElem? (i := 1062) (by decide +kernel)⟩
theorem lw_p41 : lw_okq (⟨"StatueVotesModel", "standingOnes", "()I"⟩, 43) := ⟨⟨by decide +kernel, by decide +kernel⟩, List.mem_of_getElem? (i := 865) (by decide +kernel), List.mem_of_getElem? (i := 1076) (by decide +kernel), List.mem_of_getElem? (i := 1077) (by decide +kernel)⟩
theorem lw_p42 : lw_okq (⟨"StatueVotesModel", "stands", "(I)Z"⟩, 43) := ⟨⟨by decide +kernel, by decide +kernel⟩, List.mem_of_getElem? (i := 865) (by decide +kernel), List.mem_of_getElem? (i := 1080) (by decide +kernel), List.mem_of_getElem? (i := 1081) (by decide +kernel)⟩
theorem lw_p43 : lw_okq (⟨"StatueVotesModel", "waitingOnes", "()I"⟩, 43) := ⟨⟨by decide +kernel, by decide +kernel⟩, List.mem_of_getElem? (i := 865) (by decide +kernel), List.mem_of_getElem? (i := 1084) (by decide +kernel), List.mem_of_getElem? (i := 1085) (by decide +kernel)⟩
theorem lw_p44 : lw_okq (⟨"StatueVotesModel", "whoIsOn", "(I)I"⟩, 43) := ⟨⟨by decide +kernel, by decide +kernel⟩, List.mem_of_getElem? (i := 865) (by decide +kernel), List.mem_of_getElem? (i := 1088) (by decide +kernel), List.mem_of_getElem? (i := 1089) (by decide +kernel)⟩
theorem lw_p45 : lw_okq (⟨"StatueVotesModel", "fallingOnes", "()I"⟩, 43) := ⟨⟨by decide +kernel, by decide +kernel⟩, List.mem_of_getElem? (i := 865) (by decide +kernel), List.mem_of_getElem? (i := 1092) (by decide +kernel), List.mem_of_getElem? (i := 1093) (by decide +kernel)⟩
theorem lw_p46 : lw_okq (⟨"StatueVotesModel", "marginOf", "(I)I"⟩, 43) := ⟨⟨by decide +kernel, by decide +kernel⟩, List.mem_of_getElem? (i := 865) (by decide +kernel), List.mem_of_getElem? (i := 1096) (by decide +kernel), List.mem_of_getElem? (i := 1097) (by decide +kernel)⟩
theorem lw_p47 : lw_okq (⟨"StatueVotesModel", "walkersUnder", "(I)I"⟩, 43) := ⟨⟨by decide +kernel, by decide +kernel⟩, List.mem_of_getElem? (i := 865) (by decide +kernel), List.mem_of_getElem? (i := 1100) (by decide +kernel), List.mem_of_getElem? (i := 1101) (by decide +kernel)⟩
def lw_privs_3 : List (MethodName × Nat) := [(⟨"StatueVotesModel", "isFull", "(I)Z"⟩, 43), (⟨"StatueVotesModel", "takeTerm", "()I"⟩, 43), (⟨"StatueVotesModel", "takeNumber", "(II)I"⟩, 43), (⟨"StatueVotesModel", "takePlinth", "()I"⟩, 43), (⟨"StatueVotesModel", "into", "([IIII)I"⟩, 43), (⟨"StatueVotesModel", "takeStatue", "()I"⟩, 43), (⟨"StatueVotesModel", "takePlace", "(I)I"⟩, 43), (⟨"StatueVotesModel", "takeWalker", "()I"⟩, 43), (⟨"StatueVotesModel", "takeRead", "()V"⟩, 43), (⟨"StatueVotesModel", "standingOnes", "()I"⟩, 43), (⟨"StatueVotesModel", "stands", "(I)Z"⟩, 43), (⟨"StatueVotesModel", "waitingOnes", "()I"⟩, 43), (⟨"StatueVotesModel", "whoIsOn", "(I)I"⟩, 43), (⟨"StatueVotesModel", "fallingOnes", "()I"⟩, 43), (⟨"StatueVotesModel", "marginOf", "(I)I"⟩, 43), (⟨"StatueVotesModel", "walkersUnder", "(I)I"⟩, 43)]
theorem lw_r3 : ∀ q ∈ lw_privs_3, lw_okq q := List.forall_mem_cons.mpr ⟨lw_p32, List.forall_mem_cons.mpr ⟨lw_p33, List.forall_mem_cons.mpr ⟨lw_p34, List.forall_mem_cons.mpr ⟨lw_p35, List.forall_mem_cons.mpr ⟨lw_p36, List.forall_mem_cons.mpr ⟨lw_p37, List.forall_mem_cons.mpr ⟨lw_p38, List.forall_mem_cons.mpr ⟨lw_p39, List.forall_mem_cons.mpr ⟨lw_p40, List.forall_mem_cons.mpr ⟨lw_p41, List.forall_mem_cons.mpr ⟨lw_p42, List.forall_mem_cons.mpr ⟨lw_p43, List.forall_mem_cons.mpr ⟨lw_p44, List.forall_mem_cons.mpr ⟨lw_p45, List.forall_mem_cons.mpr ⟨lw_p46, List.forall_mem_cons.mpr ⟨lw_p47, fun _ h => absurd h List.not_mem_nil⟩⟩⟩⟩⟩⟩⟩⟩⟩⟩⟩⟩⟩⟩⟩⟩
theorem lw_p48 : lw_okq (⟨"StatueVotesModel", "marginBy", "(II)I"⟩, 43) := ⟨⟨by decide +kernel, by decide +kernel⟩, List.mem_of_getElem? (i := 865) (by decide +kernel), List.mem_of_getElem? (i := 1107) (by decide +kernel), List.mem_of_getElem? (i := 1108) (by decide +kernel)⟩
theorem lw_p49 : lw_okq (⟨"StatueVotesModel", "whoLikes", "(I)I"⟩, 43) := ⟨⟨by decide +kernel, by decide +kernel⟩, List.mem_of_getElem? (i := 865) (by decide +kernel), List.mem_of_getElem? (i := 1111) (by decide +kernel), List.mem_of_getElem? (i := 1112) (by decide +kernel)⟩
theorem lw_p50 : lw_okq (⟨"StatueVotesModel", "votesOf", "(I)I"⟩, 43) := ⟨⟨by decide +kernel, by decide +kernel⟩, List.mem_of_getElem? (i := 865) (by decide +kernel), List.mem_of_getElem? (i := 1115) (by decide +kernel), List.mem_of_getElem? (i := 1116) (by decide +kernel)⟩
theorem lw_p51 : lw_okq (⟨"StatueVotesModel", "beloved", "()I"⟩, 43) := ⟨⟨by decide +kernel, by decide +kernel⟩, List.mem_of_getElem? (i := 865) (by decide +kernel), List.mem_of_getElem? (i := 1119) (by decide +kernel), List.mem_of_getElem? (i := 1120) (by decide +kernel)⟩
theorem lw_p52 : lw_okq (⟨"StatueVotesModel", "isHad", "(II)Z"⟩, 43) := ⟨⟨by decide +kernel, by decide +kernel⟩, List.mem_of_getElem? (i := 865) (by decide +kernel), List.mem_of_getElem? (i := 1123) (by decide +kernel), List.mem_of_getElem? (i := 1124) (by decide +kernel)⟩
theorem lw_p53 : lw_okq (⟨"StatueVotesModel", "rings", "()I"⟩, 43) := ⟨⟨by decide +kernel, by decide +kernel⟩, List.mem_of_getElem? (i := 865) (by decide +kernel), List.mem_of_getElem? (i := 1127) (by decide +kernel), List.mem_of_getElem? (i := 1128) (by decide +kernel)⟩
theorem lw_p54 : lw_okq (⟨"StatueVotesModel", "isPlinth", "(I)Z"⟩, 43) := ⟨⟨by decide +kernel, by decide +kernel⟩, List.mem_of_getElem? (i := 865) (by decide +kernel), List.mem_of_getElem? (i := 1135) (by decide +kernel), List.mem_of_getElem? (i := 1136) (by decide +kernel)⟩
theorem lw_p55 : lw_okq (⟨"StatueVotesModel", "isStatue", "(I)Z"⟩, 43) := ⟨⟨by decide +kernel, by decide +kernel⟩, List.mem_of_getElem? (i := 865) (by decide +kernel), List.mem_of_getElem? (i := 1144) (by decide +kernel), List.mem_of_getElem? (i := 1145) (by decide +kernel)⟩
theorem lw_p56 : lw_okq (⟨"StatueVotesModel", "isWalker", "(I)Z"⟩, 43) := ⟨⟨by decide +kernel, by decide +kernel⟩, List.mem_of_getElem? (i := 865) (by decide +kernel), List.mem_of_getElem? (i := 1152) (by decide +kernel), List.mem_of_getElem? (i := 1153) (by decide +kernel)⟩
theorem lw_p57 : lw_okq (⟨"StatueVotesModel", "yearsRefused", "(I)I"⟩, 43) := ⟨⟨by decide +kernel, by decide +kernel⟩, List.mem_of_getElem? (i := 865) (by decide +kernel), List.mem_of_getElem? (i := 1160) (by decide +kernel), List.mem_of_getElem? (i := 1161) (by decide +kernel)⟩
theorem lw_p58 : lw_okq (⟨"StatueVotesModel", "remember", "()V"⟩, 43) := ⟨⟨by decide +kernel, by decide +kernel⟩, List.mem_of_getElem? (i := 865) (by decide +kernel), List.mem_of_getElem? (i := 1166) (by decide +kernel), List.mem_of_getElem? (i := 1167) (by decide +kernel)⟩
theorem lw_p59 : lw_okq (⟨"StatueVotesModel", "pass", "()V"⟩, 43) := ⟨⟨by decide +kernel, by decide +kernel⟩, List.mem_of_getElem? (i := 865) (by decide +kernel), List.mem_of_getElem? (i := 1170) (by decide +kernel), List.mem_of_getElem? (i := 1171) (by decide +kernel)⟩
theorem lw_p60 : lw_okq (⟨"StatueVotesModel", "moreTired", "(I)I"⟩, 43) := ⟨⟨by decide +kernel, by decide +kernel⟩, List.mem_of_getElem? (i := 865) (by decide +kernel), List.mem_of_getElem? (i := 1174) (by decide +kernel), List.mem_of_getElem? (i := 1175) (by decide +kernel)⟩
theorem lw_p61 : lw_okq (⟨"StatueVotesModel", "elect", "()V"⟩, 43) := ⟨⟨by decide +kernel, by decide +kernel⟩, List.mem_of_getElem? (i := 865) (by decide +kernel), List.mem_of_getElem? (i := 1178) (by decide +kernel), List.mem_of_getElem? (i := 1179) (by decide +kernel)⟩
theorem lw_p62 : lw_okq (⟨"StatueVotesModel", "canStand", "(II)Z"⟩, 43) := ⟨⟨by decide +kernel, by decide +kernel⟩, List.mem_of_getElem? (i := 865) (by decide +kernel), List.mem_of_getElem? (i := 1186) (by decide +kernel), List.mem_of_getElem? (i := 1187) (by decide +kernel)⟩
theorem lw_p63 : lw_okq (⟨"StatueVotesModel", "chance", "()V"⟩, 43) := ⟨⟨by decide +kernel, by decide +kernel⟩, List.mem_of_getElem? (i := 865) (by decide +kernel), List.mem_of_getElem? (i := 1210) (by decide +kernel), List.mem_of_getElem? (i := 1211) (by decide +kernel)⟩
def lw_privs_4 : List (MethodName × Nat) := [(⟨"StatueVotesModel", "marginBy", "(II)I"⟩, 43), (⟨"StatueVotesModel", "whoLikes", "(I)I"⟩, 43), (⟨"StatueVotesModel", "votesOf", "(I)I"⟩, 43), (⟨"StatueVotesModel", "beloved", "()I"⟩, 43), (⟨"StatueVotesModel", "isHad", "(II)Z"⟩, 43), (⟨"StatueVotesModel", "rings", "()I"⟩, 43), (⟨"StatueVotesModel", "isPlinth", "(I)Z"⟩, 43), (⟨"StatueVotesModel", "isStatue", "(I)Z"⟩, 43), (⟨"StatueVotesModel", "isWalker", "(I)Z"⟩, 43), (⟨"StatueVotesModel", "yearsRefused", "(I)I"⟩, 43), (⟨"StatueVotesModel", "remember", "()V"⟩, 43), (⟨"StatueVotesModel", "pass", "()V"⟩, 43), (⟨"StatueVotesModel", "moreTired", "(I)I"⟩, 43), (⟨"StatueVotesModel", "elect", "()V"⟩, 43), (⟨"StatueVotesModel", "canStand", "(II)Z"⟩, 43), (⟨"StatueVotesModel", "chance", "()V"⟩, 43)]
theorem lw_r4 : ∀ q ∈ lw_privs_4, lw_okq q := List.forall_mem_cons.mpr ⟨lw_p48, List.forall_mem_cons.mpr ⟨lw_p49, List.forall_mem_cons.mpr ⟨lw_p50, List.forall_mem_cons.mpr ⟨lw_p51, List.forall_mem_cons.mpr ⟨lw_p52, List.forall_mem_cons.mpr ⟨lw_p53, List.forall_mem_cons.mpr ⟨lw_p54, List.forall_mem_cons.mpr ⟨lw_p55, List.forall_mem_cons.mpr ⟨lw_p56, List.forall_mem_cons.mpr ⟨lw_p57, List.forall_mem_cons.mpr ⟨lw_p58, List.forall_mem_cons.mpr ⟨lw_p59, List.forall_mem_cons.mpr ⟨lw_p60, List.forall_mem_cons.mpr ⟨lw_p61, List.forall_mem_cons.mpr ⟨lw_p62, List.forall_mem_cons.mpr ⟨lw_p63, fun _ h => absurd h List.not_mem_nil⟩⟩⟩⟩⟩⟩⟩⟩⟩⟩⟩⟩⟩⟩⟩⟩
theorem lw_p64 : lw_okq (⟨"StatueVotesModel", "draw", "(I)I"⟩, 43) := ⟨⟨by decide +kernel, by decide +kernel⟩, List.mem_of_getElem? (i := 865) (by decide +kernel), List.mem_of_getElem? (i := 1214) (by decide +kernel), List.mem_of_getElem? (i := 1215) (by decide +kernel)⟩
theorem lw_p65 : lw_okq (⟨"StatueVotesModel", "findPlaces", "()V"⟩, 43) := ⟨⟨by decide +kernel, by decide +kernel⟩, List.mem_of_getElem? (i := 865) (by decide +kernel), List.mem_of_getElem? (i := 1257) (by decide +kernel), List.mem_of_getElem? (i := 1258) (by decide +kernel)⟩
theorem lw_p66 : lw_okq (⟨"StatueVotesModel", "withPlace", "(III)I"⟩, 43) := ⟨⟨by decide +kernel, by decide +kernel⟩, List.mem_of_getElem? (i := 865) (by decide +kernel), List.mem_of_getElem? (i := 1261) (by decide +kernel), List.mem_of_getElem? (i := 1262) (by decide +kernel)⟩
theorem lw_p67 : lw_okq (⟨"StatueVotesModel", "placeOf", "(I)I"⟩, 43) := ⟨⟨by decide +kernel, by decide +kernel⟩, List.mem_of_getElem? (i := 865) (by decide +kernel), List.mem_of_getElem? (i := 1266) (by decide +kernel), List.mem_of_getElem? (i := 1267) (by decide +kernel)⟩
theorem lw_p68 : lw_okq (⟨"StatueVotesModel", "couldBe", "(I)Z"⟩, 43) := ⟨⟨by decide +kernel, by decide +kernel⟩, List.mem_of_getElem? (i := 865) (by decide +kernel), List.mem_of_getElem? (i := 1289) (by decide +kernel), List.mem_of_getElem? (i := 1290) (by decide +kernel)⟩
theorem lw_p69 : lw_okq (⟨"StatueVotesModel", "votesOn", "(II)I"⟩, 43) := ⟨⟨by decide +kernel, by decide +kernel⟩, List.mem_of_getElem? (i := 865) (by decide +kernel), List.mem_of_getElem? (i := 1293) (by decide +kernel), List.mem_of_getElem? (i := 1294) (by decide +kernel)⟩
theorem lw_p70 : lw_okq (⟨"StatueVotesModel", "manyThat", "()I"⟩, 43) := ⟨⟨by decide +kernel, by decide +kernel⟩, List.mem_of_getElem? (i := 865) (by decide +kernel), List.mem_of_getElem? (i := 1297) (by decide +kernel), List.mem_of_getElem? (i := 1298) (by decide +kernel)⟩
theorem lw_p71 : lw_okq (⟨"StatueVotesModel", "greatestPart", "(I)I"⟩, 43) := ⟨⟨by decide +kernel, by decide +kernel⟩, List.mem_of_getElem? (i := 865) (by decide +kernel), List.mem_of_getElem? (i := 1305) (by decide +kernel), List.mem_of_getElem? (i := 1306) (by decide +kernel)⟩
def lw_privs_5 : List (MethodName × Nat) := [(⟨"StatueVotesModel", "draw", "(I)I"⟩, 43), (⟨"StatueVotesModel", "findPlaces", "()V"⟩, 43), (⟨"StatueVotesModel", "withPlace", "(III)I"⟩, 43), (⟨"StatueVotesModel", "placeOf", "(I)I"⟩, 43), (⟨"StatueVotesModel", "couldBe", "(I)Z"⟩, 43), (⟨"StatueVotesModel", "votesOn", "(II)I"⟩, 43), (⟨"StatueVotesModel", "manyThat", "()I"⟩, 43), (⟨"StatueVotesModel", "greatestPart", "(I)I"⟩, 43)]
theorem lw_r5 : ∀ q ∈ lw_privs_5, lw_okq q := List.forall_mem_cons.mpr ⟨lw_p64, List.forall_mem_cons.mpr ⟨lw_p65, List.forall_mem_cons.mpr ⟨lw_p66, List.forall_mem_cons.mpr ⟨lw_p67, List.forall_mem_cons.mpr ⟨lw_p68, List.forall_mem_cons.mpr ⟨lw_p69, List.forall_mem_cons.mpr ⟨lw_p70, List.forall_mem_cons.mpr ⟨lw_p71, fun _ h => absurd h List.not_mem_nil⟩⟩⟩⟩⟩⟩⟩⟩
def lw_privs : List (MethodName × Nat) := lw_privs_1 ++ (lw_privs_2 ++ (lw_privs_3 ++ (lw_privs_4 ++ (lw_privs_5))))
def lw_tbl : List Cond := k2_sels lw_privs ++ tables_1
theorem lw_privs_ok : ∀ q ∈ lw_privs, lw_okq q := by
  show ∀ q ∈ lw_privs_1 ++ (lw_privs_2 ++ (lw_privs_3 ++ (lw_privs_4 ++ (lw_privs_5)))), lw_okq q
  exact List.forall_mem_append.mpr ⟨lw_r1, List.forall_mem_append.mpr ⟨lw_r2, List.forall_mem_append.mpr ⟨lw_r3, List.forall_mem_append.mpr ⟨lw_r4, lw_r5⟩⟩⟩⟩
def RX0 : String := "StatueVotes$Book"
def TX0 : u_T := fun k => match k with
  | 0 => ("StatueVotes$Book", "now", "LStatueVotes$State;", true)
  | 1 => ("StatueVotes$Book", "statues", "[I", true)
  | 2 => ("StatueVotes$Book", "plinths", "[I", true)
  | _ => ("StatueVotes$Book", "size", "I", false)
def tyX0 : Nat → FieldType := fun k => match k with
  | 0 => .object "StatueVotes$State"
  | 1 => .array .int
  | 2 => .array .int
  | _ => .int
abbrev wsX00 : List Cond := u_ws RX0 TX0 4
theorem nmX0 : ∀ a, a < 4 → ∀ b, b < 4 → a ≠ b → (TX0 a).2.1 ≠ (TX0 b).2.1 := by decide +kernel
theorem tyX0_ok : ∀ k, k < 4 → parseFieldDescriptor (TX0 k).2.2.1 = some (tyX0 k) := by decide +kernel
abbrev cX0_init : ByteArray := prog_2_method_1_code
def yX0_init : MethodName := ⟨RX0, "<init>", "(LStatueVotes$State;)V"⟩
abbrev cX0_clear : ByteArray := prog_2_method_2_code
def yX0_clear : MethodName := ⟨RX0, "clear", "()V"⟩
abbrev cX0_add : ByteArray := prog_2_method_3_code
def yX0_add : MethodName := ⟨RX0, "add", "(II)Z"⟩
abbrev cX0_firstWrong : ByteArray := prog_2_method_4_code
def yX0_firstWrong : MethodName := ⟨RX0, "firstWrong", "()I"⟩
def RX1 : String := "StatueVotes$City"
def TX1 : u_T := fun k => match k with
  | 0 => ("StatueVotes$City", "term", "I", false)
  | 1 => ("StatueVotes$City", "plinths", "I", false)
  | 2 => ("StatueVotes$City", "statues", "I", false)
  | 3 => ("StatueVotes$City", "walkers", "I", false)
  | 4 => ("StatueVotes$City", "views", "[I", true)
  | 5 => ("StatueVotes$City", "kinds", "[I", true)
  | 6 => ("StatueVotes$City", "wants", "[I", true)
  | 7 => ("StatueVotes$City", "plinthsAtFirst", "[I", true)
  | 8 => ("StatueVotes$City", "votes", "[I", true)
  | 9 => ("StatueVotes$City", "waysAtFirst", "[I", true)
  | _ => ("StatueVotes$City", "likesAtFirst", "[I", true)
def tyX1 : Nat → FieldType := fun k => match k with
  | 0 => .int
  | 1 => .int
  | 2 => .int
  | 3 => .int
  | 4 => .array .int
  | 5 => .array .int
  | 6 => .array .int
  | 7 => .array .int
  | 8 => .array .int
  | 9 => .array .int
  | _ => .array .int
abbrev wsX10 : List Cond := u_ws RX1 TX1 11
theorem nmX1 : ∀ a, a < 11 → ∀ b, b < 11 → a ≠ b → (TX1 a).2.1 ≠ (TX1 b).2.1 := by decide +kernel
theorem tyX1_ok : ∀ k, k < 11 → parseFieldDescriptor (TX1 k).2.2.1 = some (tyX1 k) := by decide +kernel
abbrev cX1_init : ByteArray := prog_3_method_1_code
def yX1_init : MethodName := ⟨RX1, "<init>", "()V"⟩
abbrev cX1_clear : ByteArray := prog_3_method_2_code
def yX1_clear : MethodName := ⟨RX1, "clear", "()V"⟩
abbrev cX1_copyFrom : ByteArray := prog_3_method_3_code
def yX1_copyFrom : MethodName := ⟨RX1, "copyFrom", "(LStatueVotes$City;)V"⟩
abbrev cX1_addPlinth : ByteArray := prog_3_method_4_code
def yX1_addPlinth : MethodName := ⟨RX1, "addPlinth", "(I)V"⟩
abbrev cX1_addStatue : ByteArray := prog_3_method_5_code
def yX1_addStatue : MethodName := ⟨RX1, "addStatue", "(III)V"⟩
abbrev cX1_addWalker : ByteArray := prog_3_method_6_code
def yX1_addWalker : MethodName := ⟨RX1, "addWalker", "(III)V"⟩
abbrev cX1_isTakenAtFirst : ByteArray := prog_3_method_7_code
def yX1_isTakenAtFirst : MethodName := ⟨RX1, "isTakenAtFirst", "(I)Z"⟩
abbrev cX1_hasPlinth : ByteArray := prog_3_method_8_code
def yX1_hasPlinth : MethodName := ⟨RX1, "hasPlinth", "(I)Z"⟩
abbrev cX1_hasStatue : ByteArray := prog_3_method_9_code
def yX1_hasStatue : MethodName := ⟨RX1, "hasStatue", "(I)Z"⟩
abbrev cX1_hasWalker : ByteArray := prog_3_method_10_code
def yX1_hasWalker : MethodName := ⟨RX1, "hasWalker", "(I)Z"⟩
abbrev cX1_isSetOfPlinths : ByteArray := prog_3_method_11_code
def yX1_isSetOfPlinths : MethodName := ⟨RX1, "isSetOfPlinths", "(I)Z"⟩
abbrev cX1_isSetOfStatues : ByteArray := prog_3_method_12_code
def yX1_isSetOfStatues : MethodName := ⟨RX1, "isSetOfStatues", "(I)Z"⟩
abbrev cX1_setsOfWalkers : ByteArray := prog_3_method_13_code
def yX1_setsOfWalkers : MethodName := ⟨RX1, "setsOfWalkers", "()I"⟩
abbrev cX1_pleases : ByteArray := prog_3_method_14_code
def yX1_pleases : MethodName := ⟨RX1, "pleases", "(II)Z"⟩
abbrev cX1_votesOf : ByteArray := prog_3_method_15_code
def yX1_votesOf : MethodName := ⟨RX1, "votesOf", "(I)I"⟩
def RX2 : String := "StatueVotes$Draws"
def TX2 : u_T := fun k => match k with
  | 0 => ("StatueVotes$Draws", "city", "LStatueVotes$City;", true)
  | 1 => ("StatueVotes$Draws", "now", "LStatueVotes$State;", true)
  | _ => ("StatueVotes$Draws", "state", "I", false)
def tyX2 : Nat → FieldType := fun k => match k with
  | 0 => .object "StatueVotes$City"
  | 1 => .object "StatueVotes$State"
  | _ => .int
abbrev wsX20 : List Cond := u_ws RX2 TX2 3
theorem nmX2 : ∀ a, a < 3 → ∀ b, b < 3 → a ≠ b → (TX2 a).2.1 ≠ (TX2 b).2.1 := by decide +kernel
theorem tyX2_ok : ∀ k, k < 3 → parseFieldDescriptor (TX2 k).2.2.1 = some (tyX2 k) := by decide +kernel
abbrev cX2_init : ByteArray := prog_4_method_1_code
def yX2_init : MethodName := ⟨RX2, "<init>", "(LStatueVotes$City;LStatueVotes$State;)V"⟩
abbrev cX2_draw : ByteArray := prog_4_method_2_code
def yX2_draw : MethodName := ⟨RX2, "draw", "(I)I"⟩
abbrev cX2_befall : ByteArray := prog_4_method_3_code
def yX2_befall : MethodName := ⟨RX2, "befall", "()V"⟩
abbrev cX2_turnWalker : ByteArray := prog_4_method_4_code
def yX2_turnWalker : MethodName := ⟨RX2, "turnWalker", "()V"⟩
abbrev cX2_raiseStatue : ByteArray := prog_4_method_5_code
def yX2_raiseStatue : MethodName := ⟨RX2, "raiseStatue", "()V"⟩
abbrev cX2_washStatue : ByteArray := prog_4_method_6_code
def yX2_washStatue : MethodName := ⟨RX2, "washStatue", "()V"⟩
def RX3 : String := "StatueVotes$History"
def TX3 : u_T := fun k => match k with
  | 0 => ("StatueVotes$History", "ring", "[LStatueVotes$State;", true)
  | 1 => ("StatueVotes$History", "next", "I", false)
  | _ => ("StatueVotes$History", "size", "I", false)
def tyX3 : Nat → FieldType := fun k => match k with
  | 0 => .array (.object "StatueVotes$State")
  | 1 => .int
  | _ => .int
abbrev wsX30 : List Cond := u_ws RX3 TX3 3
theorem nmX3 : ∀ a, a < 3 → ∀ b, b < 3 → a ≠ b → (TX3 a).2.1 ≠ (TX3 b).2.1 := by decide +kernel
theorem tyX3_ok : ∀ k, k < 3 → parseFieldDescriptor (TX3 k).2.2.1 = some (tyX3 k) := by decide +kernel
abbrev cX3_init : ByteArray := prog_5_method_1_code
def yX3_init : MethodName := ⟨RX3, "<init>", "(LStatueVotes$City;)V"⟩
abbrev cX3_clear : ByteArray := prog_5_method_2_code
def yX3_clear : MethodName := ⟨RX3, "clear", "()V"⟩
abbrev cX3_push : ByteArray := prog_5_method_3_code
def yX3_push : MethodName := ⟨RX3, "push", "(LStatueVotes$State;)V"⟩
abbrev cX3_popInto : ByteArray := prog_5_method_4_code
def yX3_popInto : MethodName := ⟨RX3, "popInto", "(LStatueVotes$State;)V"⟩
def RX4 : String := "StatueVotes$Image"
def TX4 : u_T := fun k => match k with
  | 0 => ("StatueVotes$Image", "state", "LStatueVotes$State;", true)
  | 1 => ("StatueVotes$Image", "drawn", "I", false)
  | _ => ("StatueVotes$Image", "kept", "Z", false)
def tyX4 : Nat → FieldType := fun k => match k with
  | 0 => .object "StatueVotes$State"
  | 1 => .int
  | _ => .boolean
abbrev wsX40 : List Cond := u_ws RX4 TX4 3
theorem nmX4 : ∀ a, a < 3 → ∀ b, b < 3 → a ≠ b → (TX4 a).2.1 ≠ (TX4 b).2.1 := by decide +kernel
theorem tyX4_ok : ∀ k, k < 3 → parseFieldDescriptor (TX4 k).2.2.1 = some (tyX4 k) := by decide +kernel
abbrev cX4_init : ByteArray := prog_6_method_1_code
def yX4_init : MethodName := ⟨RX4, "<init>", "(LStatueVotes$City;)V"⟩
def RX5 : String := "StatueVotes$Placer"
def TX5 : u_T := fun k => match k with
  | 0 => ("StatueVotes$Placer", "city", "LStatueVotes$City;", true)
  | 1 => ("StatueVotes$Placer", "now", "LStatueVotes$State;", true)
  | 2 => ("StatueVotes$Placer", "worth", "[[I", true)
  | _ => ("StatueVotes$Placer", "chosen", "[I", true)
def tyX5 : Nat → FieldType := fun k => match k with
  | 0 => .object "StatueVotes$City"
  | 1 => .object "StatueVotes$State"
  | 2 => .array (.array .int)
  | _ => .array .int
abbrev wsX50 : List Cond := u_ws RX5 TX5 4
theorem nmX5 : ∀ a, a < 4 → ∀ b, b < 4 → a ≠ b → (TX5 a).2.1 ≠ (TX5 b).2.1 := by decide +kernel
theorem tyX5_ok : ∀ k, k < 4 → parseFieldDescriptor (TX5 k).2.2.1 = some (tyX5 k) := by decide +kernel
abbrev cX5_init : ByteArray := prog_7_method_1_code
def yX5_init : MethodName := ⟨RX5, "<init>", "(LStatueVotes$City;LStatueVotes$State;)V"⟩
abbrev cX5_placeAll : ByteArray := prog_7_method_2_code
def yX5_placeAll : MethodName := ⟨RX5, "placeAll", "()V"⟩
abbrev cX5_placed : ByteArray := prog_7_method_3_code
def yX5_placed : MethodName := ⟨RX5, "placed", "()I"⟩
abbrev cX5_viewTogether : ByteArray := prog_7_method_4_code
def yX5_viewTogether : MethodName := ⟨RX5, "viewTogether", "()I"⟩
abbrev cX5_bestOfAll : ByteArray := prog_7_method_5_code
def yX5_bestOfAll : MethodName := ⟨RX5, "bestOfAll", "()I"⟩
abbrev cX5_bestWorth : ByteArray := prog_7_method_6_code
def yX5_bestWorth : MethodName := ⟨RX5, "bestWorth", "(II)I"⟩
abbrev cX5_firstBest : ByteArray := prog_7_method_7_code
def yX5_firstBest : MethodName := ⟨RX5, "firstBest", "(II)I"⟩
abbrev cX5_canHave : ByteArray := prog_7_method_8_code
def yX5_canHave : MethodName := ⟨RX5, "canHave", "(III)Z"⟩
abbrev cX5_worthOn : ByteArray := prog_7_method_9_code
def yX5_worthOn : MethodName := ⟨RX5, "worthOn", "(III)I"⟩
abbrev cX5_without : ByteArray := prog_7_method_10_code
def yX5_without : MethodName := ⟨RX5, "without", "(II)I"⟩
abbrev cX5_howManySwaps : ByteArray := prog_7_method_11_code
def yX5_howManySwaps : MethodName := ⟨RX5, "howManySwaps", "()I"⟩
abbrev cX5_nthSwap : ByteArray := prog_7_method_12_code
def yX5_nthSwap : MethodName := ⟨RX5, "nthSwap", "(I)I"⟩
abbrev cX5_wouldSwap : ByteArray := prog_7_method_13_code
def yX5_wouldSwap : MethodName := ⟨RX5, "wouldSwap", "(II)Z"⟩
def RX6 : String := "StatueVotes$Polls"
def TX6 : u_T := fun k => match k with
  | 0 => ("StatueVotes$Polls", "city", "LStatueVotes$City;", true)
  | _ => ("StatueVotes$Polls", "now", "LStatueVotes$State;", true)
def tyX6 : Nat → FieldType := fun k => match k with
  | 0 => .object "StatueVotes$City"
  | _ => .object "StatueVotes$State"
abbrev wsX60 : List Cond := u_ws RX6 TX6 2
theorem nmX6 : ∀ a, a < 2 → ∀ b, b < 2 → a ≠ b → (TX6 a).2.1 ≠ (TX6 b).2.1 := by decide +kernel
theorem tyX6_ok : ∀ k, k < 2 → parseFieldDescriptor (TX6 k).2.2.1 = some (tyX6 k) := by decide +kernel
abbrev cX6_init : ByteArray := prog_8_method_1_code
def yX6_init : MethodName := ⟨RX6, "<init>", "(LStatueVotes$City;LStatueVotes$State;)V"⟩
abbrev cX6_fewestChanges : ByteArray := prog_8_method_2_code
def yX6_fewestChanges : MethodName := ⟨RX6, "fewestChanges", "(IZ)I"⟩
abbrev cX6_weight : ByteArray := prog_8_method_3_code
def yX6_weight : MethodName := ⟨RX6, "weight", "(IIZ)I"⟩
abbrev cX6_ordersAround : ByteArray := prog_8_method_4_code
def yX6_ordersAround : MethodName := ⟨RX6, "ordersAround", "(II)I"⟩
abbrev cX6_isHadAgainst : ByteArray := prog_8_method_5_code
def yX6_isHadAgainst : MethodName := ⟨RX6, "isHadAgainst", "(II)Z"⟩
abbrev cX6_beloved : ByteArray := prog_8_method_6_code
def yX6_beloved : MethodName := ⟨RX6, "beloved", "()I"⟩
abbrev cX6_isHadAgainstAll : ByteArray := prog_8_method_7_code
def yX6_isHadAgainstAll : MethodName := ⟨RX6, "isHadAgainstAll", "(I)Z"⟩
abbrev cX6_rings : ByteArray := prog_8_method_8_code
def yX6_rings : MethodName := ⟨RX6, "rings", "()I"⟩
abbrev cX6_goesRound : ByteArray := prog_8_method_9_code
def yX6_goesRound : MethodName := ⟨RX6, "goesRound", "(III)Z"⟩
def RX7 : String := "StatueVotes$Reader"
def TX7 : u_T := fun k => match k with
  | 0 => ("StatueVotes$Reader", "letters", "[I", true)
  | 1 => ("StatueVotes$Reader", "at", "I", false)
  | 2 => ("StatueVotes$Reader", "length", "I", false)
  | 3 => ("StatueVotes$Reader", "fault", "I", false)
  | 4 => ("StatueVotes$Reader", "faultAt", "I", false)
  | _ => ("StatueVotes$Reader", "draft", "LStatueVotes$City;", true)
def tyX7 : Nat → FieldType := fun k => match k with
  | 0 => .array .int
  | 1 => .int
  | 2 => .int
  | 3 => .int
  | 4 => .int
  | _ => .object "StatueVotes$City"
abbrev wsX70 : List Cond := u_ws RX7 TX7 6
theorem nmX7 : ∀ a, a < 6 → ∀ b, b < 6 → a ≠ b → (TX7 a).2.1 ≠ (TX7 b).2.1 := by decide +kernel
theorem tyX7_ok : ∀ k, k < 6 → parseFieldDescriptor (TX7 k).2.2.1 = some (tyX7 k) := by decide +kernel
abbrev cX7_init : ByteArray := prog_9_method_1_code
def yX7_init : MethodName := ⟨RX7, "<init>", "()V"⟩
abbrev cX7_append : ByteArray := prog_9_method_2_code
def yX7_append : MethodName := ⟨RX7, "append", "(I)Z"⟩
abbrev cX7_readAll : ByteArray := prog_9_method_3_code
def yX7_readAll : MethodName := ⟨RX7, "readAll", "()V"⟩
abbrev cX7_letter : ByteArray := prog_9_method_4_code
def yX7_letter : MethodName := ⟨RX7, "letter", "()I"⟩
abbrev cX7_isFigure : ByteArray := prog_9_method_5_code
def yX7_isFigure : MethodName := ⟨RX7, "isFigure", "(I)Z"⟩
abbrev cX7_skipBlanks : ByteArray := prog_9_method_6_code
def yX7_skipBlanks : MethodName := ⟨RX7, "skipBlanks", "()V"⟩
abbrev cX7_blame : ByteArray := prog_9_method_7_code
def yX7_blame : MethodName := ⟨RX7, "blame", "(II)V"⟩
abbrev cX7_readClause : ByteArray := prog_9_method_8_code
def yX7_readClause : MethodName := ⟨RX7, "readClause", "()V"⟩
abbrev cX7_faultOfWord : ByteArray := prog_9_method_9_code
def yX7_faultOfWord : MethodName := ⟨RX7, "faultOfWord", "(I)I"⟩
abbrev cX7_readTerm : ByteArray := prog_9_method_10_code
def yX7_readTerm : MethodName := ⟨RX7, "readTerm", "()V"⟩
abbrev cX7_readPlinth : ByteArray := prog_9_method_11_code
def yX7_readPlinth : MethodName := ⟨RX7, "readPlinth", "()V"⟩
abbrev cX7_readStatue : ByteArray := prog_9_method_12_code
def yX7_readStatue : MethodName := ⟨RX7, "readStatue", "()V"⟩
abbrev cX7_readWalker : ByteArray := prog_9_method_13_code
def yX7_readWalker : MethodName := ⟨RX7, "readWalker", "()V"⟩
abbrev cX7_readPlace : ByteArray := prog_9_method_14_code
def yX7_readPlace : MethodName := ⟨RX7, "readPlace", "()I"⟩
abbrev cX7_readNumber : ByteArray := prog_9_method_15_code
def yX7_readNumber : MethodName := ⟨RX7, "readNumber", "(II)I"⟩
abbrev cX7_readSemicolon : ByteArray := prog_9_method_16_code
def yX7_readSemicolon : MethodName := ⟨RX7, "readSemicolon", "()V"⟩
def RX8 : String := "StatueVotes$State"
def TX8 : u_T := fun k => match k with
  | 0 => ("StatueVotes$State", "city", "LStatueVotes$City;", true)
  | 1 => ("StatueVotes$State", "years", "I", false)
  | 2 => ("StatueVotes$State", "plinthOf", "[I", true)
  | 3 => ("StatueVotes$State", "tired", "[I", true)
  | 4 => ("StatueVotes$State", "elected", "[I", true)
  | 5 => ("StatueVotes$State", "ways", "[I", true)
  | _ => ("StatueVotes$State", "likes", "[I", true)
def tyX8 : Nat → FieldType := fun k => match k with
  | 0 => .object "StatueVotes$City"
  | 1 => .int
  | 2 => .array .int
  | 3 => .array .int
  | 4 => .array .int
  | 5 => .array .int
  | _ => .array .int
abbrev wsX80 : List Cond := u_ws RX8 TX8 7
theorem nmX8 : ∀ a, a < 7 → ∀ b, b < 7 → a ≠ b → (TX8 a).2.1 ≠ (TX8 b).2.1 := by decide +kernel
theorem tyX8_ok : ∀ k, k < 7 → parseFieldDescriptor (TX8 k).2.2.1 = some (tyX8 k) := by decide +kernel
abbrev cX8_init : ByteArray := prog_10_method_1_code
def yX8_init : MethodName := ⟨RX8, "<init>", "(LStatueVotes$City;)V"⟩
abbrev cX8_begin : ByteArray := prog_10_method_2_code
def yX8_begin : MethodName := ⟨RX8, "begin", "()V"⟩
abbrev cX8_copyFrom : ByteArray := prog_10_method_3_code
def yX8_copyFrom : MethodName := ⟨RX8, "copyFrom", "(LStatueVotes$State;)V"⟩
abbrev cX8_stands : ByteArray := prog_10_method_4_code
def yX8_stands : MethodName := ⟨RX8, "stands", "(I)Z"⟩
abbrev cX8_isOn : ByteArray := prog_10_method_5_code
def yX8_isOn : MethodName := ⟨RX8, "isOn", "(II)Z"⟩
abbrev cX8_canStand : ByteArray := prog_10_method_6_code
def yX8_canStand : MethodName := ⟨RX8, "canStand", "(II)Z"⟩
abbrev cX8_whoIsOn : ByteArray := prog_10_method_7_code
def yX8_whoIsOn : MethodName := ⟨RX8, "whoIsOn", "(I)I"⟩
abbrev cX8_standers : ByteArray := prog_10_method_8_code
def yX8_standers : MethodName := ⟨RX8, "standers", "()I"⟩
abbrev cX8_emptyPlinths : ByteArray := prog_10_method_9_code
def yX8_emptyPlinths : MethodName := ⟨RX8, "emptyPlinths", "()I"⟩
abbrev cX8_walkersUnder : ByteArray := prog_10_method_10_code
def yX8_walkersUnder : MethodName := ⟨RX8, "walkersUnder", "(I)I"⟩
abbrev cX8_walkersLiking : ByteArray := prog_10_method_11_code
def yX8_walkersLiking : MethodName := ⟨RX8, "walkersLiking", "(I)I"⟩
abbrev cX8_lead : ByteArray := prog_10_method_12_code
def yX8_lead : MethodName := ⟨RX8, "lead", "(II)I"⟩
abbrev cX8_margin : ByteArray := prog_10_method_13_code
def yX8_margin : MethodName := ⟨RX8, "margin", "(I)I"⟩
abbrev cX8_outvoted : ByteArray := prog_10_method_14_code
def yX8_outvoted : MethodName := ⟨RX8, "outvoted", "()I"⟩
abbrev cX8_passYear : ByteArray := prog_10_method_15_code
def yX8_passYear : MethodName := ⟨RX8, "passYear", "()V"⟩
abbrev cX8_strain : ByteArray := prog_10_method_16_code
def yX8_strain : MethodName := ⟨RX8, "strain", "(I)I"⟩
abbrev cX8_holdElection : ByteArray := prog_10_method_17_code
def yX8_holdElection : MethodName := ⟨RX8, "holdElection", "()V"⟩
def RX9 : String := "StatueVotes$Tally"
def TX9 : u_T := fun k => match k with
  | 0 => ("StatueVotes$Tally", "city", "LStatueVotes$City;", true)
  | 1 => ("StatueVotes$Tally", "now", "LStatueVotes$State;", true)
  | 2 => ("StatueVotes$Tally", "plinths", "[I", true)
  | 3 => ("StatueVotes$Tally", "votes", "[I", true)
  | 4 => ("StatueVotes$Tally", "fits", "[Z", true)
  | 5 => ("StatueVotes$Tally", "parts", "[I", true)
  | 6 => ("StatueVotes$Tally", "size", "I", false)
  | _ => ("StatueVotes$Tally", "fitting", "I", false)
def tyX9 : Nat → FieldType := fun k => match k with
  | 0 => .object "StatueVotes$City"
  | 1 => .object "StatueVotes$State"
  | 2 => .array .int
  | 3 => .array .int
  | 4 => .array .boolean
  | 5 => .array .int
  | 6 => .int
  | _ => .int
abbrev wsX90 : List Cond := u_ws RX9 TX9 8
theorem nmX9 : ∀ a, a < 8 → ∀ b, b < 8 → a ≠ b → (TX9 a).2.1 ≠ (TX9 b).2.1 := by decide +kernel
theorem tyX9_ok : ∀ k, k < 8 → parseFieldDescriptor (TX9 k).2.2.1 = some (tyX9 k) := by decide +kernel
abbrev cX9_init : ByteArray := prog_11_method_1_code
def yX9_init : MethodName := ⟨RX9, "<init>", "(LStatueVotes$City;LStatueVotes$State;)V"⟩
abbrev cX9_clear : ByteArray := prog_11_method_2_code
def yX9_clear : MethodName := ⟨RX9, "clear", "()V"⟩
abbrev cX9_add : ByteArray := prog_11_method_3_code
def yX9_add : MethodName := ⟨RX9, "add", "(II)Z"⟩
abbrev cX9_fitAll : ByteArray := prog_11_method_4_code
def yX9_fitAll : MethodName := ⟨RX9, "fitAll", "()V"⟩
abbrev cX9_inEach : ByteArray := prog_11_method_5_code
def yX9_inEach : MethodName := ⟨RX9, "inEach", "()I"⟩
abbrev cX9_bestPlinth : ByteArray := prog_11_method_6_code
def yX9_bestPlinth : MethodName := ⟨RX9, "bestPlinth", "()I"⟩
abbrev cX9_greatestPart : ByteArray := prog_11_method_7_code
def yX9_greatestPart : MethodName := ⟨RX9, "greatestPart", "(I)I"⟩
def RX10 : String := "StatueVotes"
def TX10 : u_T := fun k => match k with
  | 0 => ("StatueVotes", "reader", "LStatueVotes$Reader;", true)
  | 1 => ("StatueVotes", "city", "LStatueVotes$City;", true)
  | 2 => ("StatueVotes", "now", "LStatueVotes$State;", true)
  | 3 => ("StatueVotes", "trial", "LStatueVotes$State;", true)
  | 4 => ("StatueVotes", "polls", "LStatueVotes$Polls;", true)
  | 5 => ("StatueVotes", "placer", "LStatueVotes$Placer;", true)
  | 6 => ("StatueVotes", "tally", "LStatueVotes$Tally;", true)
  | 7 => ("StatueVotes", "book", "LStatueVotes$Book;", true)
  | 8 => ("StatueVotes", "draws", "LStatueVotes$Draws;", true)
  | 9 => ("StatueVotes", "history", "LStatueVotes$History;", true)
  | _ => ("StatueVotes", "images", "[LStatueVotes$Image;", true)
def tyX10 : Nat → FieldType := fun k => match k with
  | 0 => .object "StatueVotes$Reader"
  | 1 => .object "StatueVotes$City"
  | 2 => .object "StatueVotes$State"
  | 3 => .object "StatueVotes$State"
  | 4 => .object "StatueVotes$Polls"
  | 5 => .object "StatueVotes$Placer"
  | 6 => .object "StatueVotes$Tally"
  | 7 => .object "StatueVotes$Book"
  | 8 => .object "StatueVotes$Draws"
  | 9 => .object "StatueVotes$History"
  | _ => .array (.object "StatueVotes$Image")
abbrev wsX100 : List Cond := u_ws RX10 TX10 11
theorem nmX10 : ∀ a, a < 11 → ∀ b, b < 11 → a ≠ b → (TX10 a).2.1 ≠ (TX10 b).2.1 := by decide +kernel
theorem tyX10_ok : ∀ k, k < 11 → parseFieldDescriptor (TX10 k).2.2.1 = some (tyX10 k) := by decide +kernel
abbrev cX10_init : ByteArray := prog_1_method_1_code
def yX10_init : MethodName := ⟨RX10, "<init>", "()V"⟩
abbrev cX10_feed : ByteArray := prog_1_method_2_code
def yX10_feed : MethodName := ⟨RX10, "feed", "(I)I"⟩
abbrev cX10_capital : ByteArray := prog_1_method_3_code
def yX10_capital : MethodName := ⟨RX10, "capital", "()I"⟩
abbrev cX10_fault : ByteArray := prog_1_method_4_code
def yX10_fault : MethodName := ⟨RX10, "fault", "()I"⟩
abbrev cX10_told : ByteArray := prog_1_method_5_code
def yX10_told : MethodName := ⟨RX10, "told", "(I)I"⟩
abbrev cX10_plinth : ByteArray := prog_1_method_6_code
def yX10_plinth : MethodName := ⟨RX10, "plinth", "(II)I"⟩
abbrev cX10_statue : ByteArray := prog_1_method_7_code
def yX10_statue : MethodName := ⟨RX10, "statue", "(II)I"⟩
abbrev cX10_walker : ByteArray := prog_1_method_8_code
def yX10_walker : MethodName := ⟨RX10, "walker", "(II)I"⟩
abbrev cX10_year : ByteArray := prog_1_method_9_code
def yX10_year : MethodName := ⟨RX10, "year", "(I)I"⟩
abbrev cX10_stand : ByteArray := prog_1_method_10_code
def yX10_stand : MethodName := ⟨RX10, "stand", "(II)I"⟩
abbrev cX10_down : ByteArray := prog_1_method_11_code
def yX10_down : MethodName := ⟨RX10, "down", "(I)I"⟩
abbrev cX10_scrub : ByteArray := prog_1_method_12_code
def yX10_scrub : MethodName := ⟨RX10, "scrub", "(I)I"⟩
abbrev cX10_walk : ByteArray := prog_1_method_13_code
def yX10_walk : MethodName := ⟨RX10, "walk", "(II)I"⟩
abbrev cX10_like : ByteArray := prog_1_method_14_code
def yX10_like : MethodName := ⟨RX10, "like", "(II)I"⟩
abbrev cX10_drift : ByteArray := prog_1_method_15_code
def yX10_drift : MethodName := ⟨RX10, "drift", "(I)I"⟩
abbrev cX10_undo : ByteArray := prog_1_method_16_code
def yX10_undo : MethodName := ⟨RX10, "undo", "()I"⟩
abbrev cX10_standing : ByteArray := prog_1_method_17_code
def yX10_standing : MethodName := ⟨RX10, "standing", "(II)I"⟩
abbrev cX10_goesDown : ByteArray := prog_1_method_18_code
def yX10_goesDown : MethodName := ⟨RX10, "goesDown", "(I)I"⟩
abbrev cX10_change : ByteArray := prog_1_method_19_code
def yX10_change : MethodName := ⟨RX10, "change", "(II)I"⟩
abbrev cX10_power : ByteArray := prog_1_method_20_code
def yX10_power : MethodName := ⟨RX10, "power", "(III)I"⟩
abbrev cX10_mostHave : ByteArray := prog_1_method_21_code
def yX10_mostHave : MethodName := ⟨RX10, "mostHave", "(II)I"⟩
abbrev cX10_places : ByteArray := prog_1_method_22_code
def yX10_places : MethodName := ⟨RX10, "places", "(I)I"⟩
abbrev cX10_swaps : ByteArray := prog_1_method_23_code
def yX10_swaps : MethodName := ⟨RX10, "swaps", "(I)I"⟩
abbrev cX10_close : ByteArray := prog_1_method_24_code
def yX10_close : MethodName := ⟨RX10, "close", "(II)I"⟩
abbrev cX10_count : ByteArray := prog_1_method_25_code
def yX10_count : MethodName := ⟨RX10, "count", "(II)I"⟩
abbrev cX10_likings : ByteArray := prog_1_method_26_code
def yX10_likings : MethodName := ⟨RX10, "likings", "(I)I"⟩
abbrev cX10_ladder : ByteArray := prog_1_method_27_code
def yX10_ladder : MethodName := ⟨RX10, "ladder", "()I"⟩
abbrev cX10_write : ByteArray := prog_1_method_28_code
def yX10_write : MethodName := ⟨RX10, "write", "(II)I"⟩
abbrev cX10_tear : ByteArray := prog_1_method_29_code
def yX10_tear : MethodName := ⟨RX10, "tear", "()I"⟩
abbrev cX10_judge : ByteArray := prog_1_method_30_code
def yX10_judge : MethodName := ⟨RX10, "judge", "()I"⟩
abbrev cX10_seed : ByteArray := prog_1_method_31_code
def yX10_seed : MethodName := ⟨RX10, "seed", "(I)I"⟩
abbrev cX10_keep : ByteArray := prog_1_method_32_code
def yX10_keep : MethodName := ⟨RX10, "keep", "(I)I"⟩
abbrev cX10_goBack : ByteArray := prog_1_method_33_code
def yX10_goBack : MethodName := ⟨RX10, "goBack", "(I)I"⟩
abbrev cX10_refusalOfYears : ByteArray := prog_1_method_34_code
def yX10_refusalOfYears : MethodName := ⟨RX10, "refusalOfYears", "(I)I"⟩
abbrev cX10_isIn : ByteArray := prog_1_method_35_code
def yX10_isIn : MethodName := ⟨RX10, "isIn", "(II)Z"⟩
def RX11 : String := "StatueVotesModel"
def TX11 : u_T := fun k => match k with
  | 0 => ("StatueVotesModel", "term", "I", false)
  | 1 => ("StatueVotesModel", "plinths", "I", false)
  | 2 => ("StatueVotesModel", "view", "[I", true)
  | 3 => ("StatueVotesModel", "statues", "I", false)
  | 4 => ("StatueVotesModel", "kind", "[I", true)
  | 5 => ("StatueVotesModel", "placeTold", "[I", true)
  | 6 => ("StatueVotesModel", "wants", "[I", true)
  | 7 => ("StatueVotesModel", "walkers", "I", false)
  | 8 => ("StatueVotesModel", "walksTold", "[I", true)
  | 9 => ("StatueVotesModel", "votes", "[I", true)
  | 10 => ("StatueVotesModel", "likesTold", "[I", true)
  | 11 => ("StatueVotesModel", "now", "[I", true)
  | 12 => ("StatueVotesModel", "seed", "I", false)
  | 13 => ("StatueVotesModel", "text", "[I", true)
  | 14 => ("StatueVotesModel", "texted", "I", false)
  | 15 => ("StatueVotesModel", "faultPlace", "I", false)
  | 16 => ("StatueVotesModel", "at0", "I", false)
  | 17 => ("StatueVotesModel", "number", "I", false)
  | 18 => ("StatueVotesModel", "numberAt", "I", false)
  | 19 => ("StatueVotesModel", "readTerm", "I", false)
  | 20 => ("StatueVotesModel", "readPlinths", "I", false)
  | 21 => ("StatueVotesModel", "readView", "[I", true)
  | 22 => ("StatueVotesModel", "readStatues", "I", false)
  | 23 => ("StatueVotesModel", "readKind", "[I", true)
  | 24 => ("StatueVotesModel", "readPlace", "[I", true)
  | 25 => ("StatueVotesModel", "readWants", "[I", true)
  | 26 => ("StatueVotesModel", "readWalkers", "I", false)
  | 27 => ("StatueVotesModel", "readWalks", "[I", true)
  | 28 => ("StatueVotesModel", "readVotes", "[I", true)
  | 29 => ("StatueVotesModel", "readLikes", "[I", true)
  | 30 => ("StatueVotesModel", "undos", "I", false)
  | 31 => ("StatueVotesModel", "past", "[I", true)
  | 32 => ("StatueVotesModel", "before", "[I", true)
  | 33 => ("StatueVotesModel", "most", "[I", true)
  | 34 => ("StatueVotesModel", "counted", "I", false)
  | 35 => ("StatueVotesModel", "countedAt", "[I", true)
  | 36 => ("StatueVotesModel", "countedIs", "[I", true)
  | 37 => ("StatueVotesModel", "parts", "[I", true)
  | 38 => ("StatueVotesModel", "booked", "I", false)
  | 39 => ("StatueVotesModel", "bookOf", "[I", true)
  | 40 => ("StatueVotesModel", "bookIs", "[I", true)
  | 41 => ("StatueVotesModel", "images", "[I", true)
  | _ => ("StatueVotesModel", "isKept", "[Z", true)
def tyX11 : Nat → FieldType := fun k => match k with
  | 0 => .int
  | 1 => .int
  | 2 => .array .int
  | 3 => .int
  | 4 => .array .int
  | 5 => .array .int
  | 6 => .array .int
  | 7 => .int
  | 8 => .array .int
  | 9 => .array .int
  | 10 => .array .int
  | 11 => .array .int
  | 12 => .int
  | 13 => .array .int
  | 14 => .int
  | 15 => .int
  | 16 => .int
  | 17 => .int
  | 18 => .int
  | 19 => .int
  | 20 => .int
  | 21 => .array .int
  | 22 => .int
  | 23 => .array .int
  | 24 => .array .int
  | 25 => .array .int
  | 26 => .int
  | 27 => .array .int
  | 28 => .array .int
  | 29 => .array .int
  | 30 => .int
  | 31 => .array .int
  | 32 => .array .int
  | 33 => .array .int
  | 34 => .int
  | 35 => .array .int
  | 36 => .array .int
  | 37 => .array .int
  | 38 => .int
  | 39 => .array .int
  | 40 => .array .int
  | 41 => .array .int
  | _ => .array .boolean
abbrev wsX110 : List Cond := u_ws RX11 TX11 43
theorem nmX11 : ∀ a, a < 43 → ∀ b, b < 43 → a ≠ b → (TX11 a).2.1 ≠ (TX11 b).2.1 := by decide +kernel
theorem tyX11_ok : ∀ k, k < 43 → parseFieldDescriptor (TX11 k).2.2.1 = some (tyX11 k) := by decide +kernel
abbrev cX11_init : ByteArray := prog_13_method_1_code
def yX11_init : MethodName := ⟨RX11, "<init>", "()V"⟩
abbrev cX11_in : ByteArray := prog_13_method_3_code
def yX11_in : MethodName := ⟨RX11, "in", "(JJJ)Z"⟩
abbrev cX11_has : ByteArray := prog_13_method_4_code
def yX11_has : MethodName := ⟨RX11, "has", "(II)Z"⟩
abbrev cX11_bits : ByteArray := prog_13_method_5_code
def yX11_bits : MethodName := ⟨RX11, "bits", "(I)I"⟩
abbrev cX11_isPlinth : ByteArray := prog_13_method_6_code
def yX11_isPlinth : MethodName := ⟨RX11, "isPlinth", "(I)Z"⟩
abbrev cX11_isStatue : ByteArray := prog_13_method_7_code
def yX11_isStatue : MethodName := ⟨RX11, "isStatue", "(I)Z"⟩
abbrev cX11_isWalker : ByteArray := prog_13_method_8_code
def yX11_isWalker : MethodName := ⟨RX11, "isWalker", "(I)Z"⟩
abbrev cX11_feed : ByteArray := prog_13_method_9_code
def yX11_feed : MethodName := ⟨RX11, "feed", "(I)I"⟩
abbrev cX11_here : ByteArray := prog_13_method_10_code
def yX11_here : MethodName := ⟨RX11, "here", "()I"⟩
abbrev cX11_fails : ByteArray := prog_13_method_11_code
def yX11_fails : MethodName := ⟨RX11, "fails", "(II)I"⟩
abbrev cX11_takeNumber : ByteArray := prog_13_method_12_code
def yX11_takeNumber : MethodName := ⟨RX11, "takeNumber", "(II)I"⟩
abbrev cX11_into : ByteArray := prog_13_method_13_code
def yX11_into : MethodName := ⟨RX11, "into", "([IIII)I"⟩
abbrev cX11_takeTerm : ByteArray := prog_13_method_14_code
def yX11_takeTerm : MethodName := ⟨RX11, "takeTerm", "()I"⟩
abbrev cX11_takePlinth : ByteArray := prog_13_method_15_code
def yX11_takePlinth : MethodName := ⟨RX11, "takePlinth", "()I"⟩
abbrev cX11_takePlace : ByteArray := prog_13_method_16_code
def yX11_takePlace : MethodName := ⟨RX11, "takePlace", "(I)I"⟩
abbrev cX11_takeStatue : ByteArray := prog_13_method_17_code
def yX11_takeStatue : MethodName := ⟨RX11, "takeStatue", "()I"⟩
abbrev cX11_takeWalker : ByteArray := prog_13_method_18_code
def yX11_takeWalker : MethodName := ⟨RX11, "takeWalker", "()I"⟩
abbrev cX11_isFull : ByteArray := prog_13_method_19_code
def yX11_isFull : MethodName := ⟨RX11, "isFull", "(I)Z"⟩
abbrev cX11_takeClause : ByteArray := prog_13_method_20_code
def yX11_takeClause : MethodName := ⟨RX11, "takeClause", "()I"⟩
abbrev cX11_copyRow : ByteArray := prog_13_method_21_code
def yX11_copyRow : MethodName := ⟨RX11, "copyRow", "([I[II)V"⟩
abbrev cX11_takeRead : ByteArray := prog_13_method_22_code
def yX11_takeRead : MethodName := ⟨RX11, "takeRead", "()V"⟩
abbrev cX11_capital : ByteArray := prog_13_method_23_code
def yX11_capital : MethodName := ⟨RX11, "capital", "()I"⟩
abbrev cX11_fault : ByteArray := prog_13_method_24_code
def yX11_fault : MethodName := ⟨RX11, "fault", "()I"⟩
abbrev cX11_stands : ByteArray := prog_13_method_25_code
def yX11_stands : MethodName := ⟨RX11, "stands", "(I)Z"⟩
abbrev cX11_whoIsOn : ByteArray := prog_13_method_26_code
def yX11_whoIsOn : MethodName := ⟨RX11, "whoIsOn", "(I)I"⟩
abbrev cX11_walkersUnder : ByteArray := prog_13_method_27_code
def yX11_walkersUnder : MethodName := ⟨RX11, "walkersUnder", "(I)I"⟩
abbrev cX11_votesOf : ByteArray := prog_13_method_28_code
def yX11_votesOf : MethodName := ⟨RX11, "votesOf", "(I)I"⟩
abbrev cX11_whoLikes : ByteArray := prog_13_method_29_code
def yX11_whoLikes : MethodName := ⟨RX11, "whoLikes", "(I)I"⟩
abbrev cX11_marginBy : ByteArray := prog_13_method_30_code
def yX11_marginBy : MethodName := ⟨RX11, "marginBy", "(II)I"⟩
abbrev cX11_marginOf : ByteArray := prog_13_method_31_code
def yX11_marginOf : MethodName := ⟨RX11, "marginOf", "(I)I"⟩
abbrev cX11_standingOnes : ByteArray := prog_13_method_32_code
def yX11_standingOnes : MethodName := ⟨RX11, "standingOnes", "()I"⟩
abbrev cX11_fallingOnes : ByteArray := prog_13_method_33_code
def yX11_fallingOnes : MethodName := ⟨RX11, "fallingOnes", "()I"⟩
abbrev cX11_waitingOnes : ByteArray := prog_13_method_34_code
def yX11_waitingOnes : MethodName := ⟨RX11, "waitingOnes", "()I"⟩
abbrev cX11_isHad : ByteArray := prog_13_method_35_code
def yX11_isHad : MethodName := ⟨RX11, "isHad", "(II)Z"⟩
abbrev cX11_beloved : ByteArray := prog_13_method_36_code
def yX11_beloved : MethodName := ⟨RX11, "beloved", "()I"⟩
abbrev cX11_rings : ByteArray := prog_13_method_37_code
def yX11_rings : MethodName := ⟨RX11, "rings", "()I"⟩
abbrev cX11_told : ByteArray := prog_13_method_38_code
def yX11_told : MethodName := ⟨RX11, "told", "(I)I"⟩
abbrev cX11_plinth : ByteArray := prog_13_method_39_code
def yX11_plinth : MethodName := ⟨RX11, "plinth", "(II)I"⟩
abbrev cX11_statue : ByteArray := prog_13_method_40_code
def yX11_statue : MethodName := ⟨RX11, "statue", "(II)I"⟩
abbrev cX11_walker : ByteArray := prog_13_method_41_code
def yX11_walker : MethodName := ⟨RX11, "walker", "(II)I"⟩
abbrev cX11_moreTired : ByteArray := prog_13_method_42_code
def yX11_moreTired : MethodName := ⟨RX11, "moreTired", "(I)I"⟩
abbrev cX11_elect : ByteArray := prog_13_method_43_code
def yX11_elect : MethodName := ⟨RX11, "elect", "()V"⟩
abbrev cX11_pass : ByteArray := prog_13_method_44_code
def yX11_pass : MethodName := ⟨RX11, "pass", "()V"⟩
abbrev cX11_remember : ByteArray := prog_13_method_45_code
def yX11_remember : MethodName := ⟨RX11, "remember", "()V"⟩
abbrev cX11_yearsRefused : ByteArray := prog_13_method_46_code
def yX11_yearsRefused : MethodName := ⟨RX11, "yearsRefused", "(I)I"⟩
abbrev cX11_year : ByteArray := prog_13_method_47_code
def yX11_year : MethodName := ⟨RX11, "year", "(I)I"⟩
abbrev cX11_canStand : ByteArray := prog_13_method_48_code
def yX11_canStand : MethodName := ⟨RX11, "canStand", "(II)Z"⟩
abbrev cX11_stand : ByteArray := prog_13_method_49_code
def yX11_stand : MethodName := ⟨RX11, "stand", "(II)I"⟩
abbrev cX11_down : ByteArray := prog_13_method_50_code
def yX11_down : MethodName := ⟨RX11, "down", "(I)I"⟩
abbrev cX11_scrub : ByteArray := prog_13_method_51_code
def yX11_scrub : MethodName := ⟨RX11, "scrub", "(I)I"⟩
abbrev cX11_walk : ByteArray := prog_13_method_52_code
def yX11_walk : MethodName := ⟨RX11, "walk", "(II)I"⟩
abbrev cX11_like : ByteArray := prog_13_method_53_code
def yX11_like : MethodName := ⟨RX11, "like", "(II)I"⟩
abbrev cX11_draw : ByteArray := prog_13_method_54_code
def yX11_draw : MethodName := ⟨RX11, "draw", "(I)I"⟩
abbrev cX11_chance : ByteArray := prog_13_method_55_code
def yX11_chance : MethodName := ⟨RX11, "chance", "()V"⟩
abbrev cX11_drift : ByteArray := prog_13_method_56_code
def yX11_drift : MethodName := ⟨RX11, "drift", "(I)I"⟩
abbrev cX11_undo : ByteArray := prog_13_method_57_code
def yX11_undo : MethodName := ⟨RX11, "undo", "()I"⟩
abbrev cX11_standing : ByteArray := prog_13_method_58_code
def yX11_standing : MethodName := ⟨RX11, "standing", "(II)I"⟩
abbrev cX11_goesDown : ByteArray := prog_13_method_59_code
def yX11_goesDown : MethodName := ⟨RX11, "goesDown", "(I)I"⟩
abbrev cX11_change : ByteArray := prog_13_method_60_code
def yX11_change : MethodName := ⟨RX11, "change", "(II)I"⟩
abbrev cX11_factorial : ByteArray := prog_13_method_61_code
def yX11_factorial : MethodName := ⟨RX11, "factorial", "(I)I"⟩
abbrev cX11_power : ByteArray := prog_13_method_62_code
def yX11_power : MethodName := ⟨RX11, "power", "(III)I"⟩
abbrev cX11_mostHave : ByteArray := prog_13_method_63_code
def yX11_mostHave : MethodName := ⟨RX11, "mostHave", "(II)I"⟩
abbrev cX11_withPlace : ByteArray := prog_13_method_64_code
def yX11_withPlace : MethodName := ⟨RX11, "withPlace", "(III)I"⟩
abbrev cX11_findPlaces : ByteArray := prog_13_method_65_code
def yX11_findPlaces : MethodName := ⟨RX11, "findPlaces", "()V"⟩
abbrev cX11_placeOf : ByteArray := prog_13_method_66_code
def yX11_placeOf : MethodName := ⟨RX11, "placeOf", "(I)I"⟩
abbrev cX11_places : ByteArray := prog_13_method_67_code
def yX11_places : MethodName := ⟨RX11, "places", "(I)I"⟩
abbrev cX11_swaps : ByteArray := prog_13_method_68_code
def yX11_swaps : MethodName := ⟨RX11, "swaps", "(I)I"⟩
abbrev cX11_close : ByteArray := prog_13_method_69_code
def yX11_close : MethodName := ⟨RX11, "close", "(II)I"⟩
abbrev cX11_count : ByteArray := prog_13_method_70_code
def yX11_count : MethodName := ⟨RX11, "count", "(II)I"⟩
abbrev cX11_votesOn : ByteArray := prog_13_method_71_code
def yX11_votesOn : MethodName := ⟨RX11, "votesOn", "(II)I"⟩
abbrev cX11_couldBe : ByteArray := prog_13_method_72_code
def yX11_couldBe : MethodName := ⟨RX11, "couldBe", "(I)Z"⟩
abbrev cX11_manyThat : ByteArray := prog_13_method_73_code
def yX11_manyThat : MethodName := ⟨RX11, "manyThat", "()I"⟩
abbrev cX11_likings : ByteArray := prog_13_method_74_code
def yX11_likings : MethodName := ⟨RX11, "likings", "(I)I"⟩
abbrev cX11_greatestPart : ByteArray := prog_13_method_75_code
def yX11_greatestPart : MethodName := ⟨RX11, "greatestPart", "(I)I"⟩
abbrev cX11_ladder : ByteArray := prog_13_method_76_code
def yX11_ladder : MethodName := ⟨RX11, "ladder", "()I"⟩
abbrev cX11_write : ByteArray := prog_13_method_77_code
def yX11_write : MethodName := ⟨RX11, "write", "(II)I"⟩
abbrev cX11_tear : ByteArray := prog_13_method_78_code
def yX11_tear : MethodName := ⟨RX11, "tear", "()I"⟩
abbrev cX11_judge : ByteArray := prog_13_method_79_code
def yX11_judge : MethodName := ⟨RX11, "judge", "()I"⟩
abbrev cX11_seed : ByteArray := prog_13_method_80_code
def yX11_seed : MethodName := ⟨RX11, "seed", "(I)I"⟩
abbrev cX11_keep : ByteArray := prog_13_method_81_code
def yX11_keep : MethodName := ⟨RX11, "keep", "(I)I"⟩
abbrev cX11_goBack : ByteArray := prog_13_method_82_code
def yX11_goBack : MethodName := ⟨RX11, "goBack", "(I)I"⟩
def RJ6 : String := "java/lang/Integer"
def TJ6 : u_T := fun k => match k with
  | _ => ("", "", "", false)
def tyJ6 : Nat → FieldType := fun k => match k with
  | _ => .int
abbrev wsJ60 : List Cond := u_ws RJ6 TJ6 0
theorem nmJ6 : ∀ a, a < 0 → ∀ b, b < 0 → a ≠ b → (TJ6 a).2.1 ≠ (TJ6 b).2.1 := by decide +kernel
theorem tyJ6_ok : ∀ k, k < 0 → parseFieldDescriptor (TJ6 k).2.2.1 = some (tyJ6 k) := by decide +kernel
abbrev cJ6_bitCount_0f7a4 : ByteArray := prog_14_method_49_code
def yJ6_bitCount_0f7a4 : MethodName := ⟨RJ6, "bitCount", "(I)I"⟩
def RJ9 : String := "java/lang/Math"
def TJ9 : u_T := fun k => match k with
  | _ => ("", "", "", false)
def tyJ9 : Nat → FieldType := fun k => match k with
  | _ => .int
abbrev wsJ90 : List Cond := u_ws RJ9 TJ9 0
theorem nmJ9 : ∀ a, a < 0 → ∀ b, b < 0 → a ≠ b → (TJ9 a).2.1 ≠ (TJ9 b).2.1 := by decide +kernel
theorem tyJ9_ok : ∀ k, k < 0 → parseFieldDescriptor (TJ9 k).2.2.1 = some (tyJ9 k) := by decide +kernel
abbrev cJ9_max_7cf53 : ByteArray := prog_15_method_65_code
def yJ9_max_7cf53 : MethodName := ⟨RJ9, "max", "(II)I"⟩
abbrev cJ9_min_7cf53 : ByteArray := prog_15_method_69_code
def yJ9_min_7cf53 : MethodName := ⟨RJ9, "min", "(II)I"⟩
def RJ10 : String := "java/lang/System"
def TJ10 : u_T := fun k => match k with
  | _ => ("", "", "", false)
def tyJ10 : Nat → FieldType := fun k => match k with
  | _ => .int
abbrev wsJ100 : List Cond := u_ws RJ10 TJ10 0
theorem nmJ10 : ∀ a, a < 0 → ∀ b, b < 0 → a ≠ b → (TJ10 a).2.1 ≠ (TJ10 b).2.1 := by decide +kernel
theorem tyJ10_ok : ∀ k, k < 0 → parseFieldDescriptor (TJ10 k).2.2.1 = some (tyJ10 k) := by decide +kernel
def RL : String := "StatueVotesLaw"
abbrev cL_law : ByteArray := code
def yL_law : MethodName := ⟨RL, "law", "([I)Z"⟩
abbrev vwCl : List vw_C := [(RX0, TX0, 4), (RX1, TX1, 11), (RX2, TX2, 3), (RX3, TX3, 3), (RX4, TX4, 3), (RX5, TX5, 4), (RX6, TX6, 2), (RX7, TX7, 6), (RX8, TX8, 7), (RX9, TX9, 8), (RX10, TX10, 11), (RX11, TX11, 43)]
end
section
/-! ===== the flat memory: kinds of cells (0 .. 11 objects by class, 12 .. 61 arrays), instances, slots ===== -/
abbrev jw_V : Type := Int32 ⊕ (Int64 ⊕ (Nat × Nat))
abbrev vi (x : Int32) : jw_V := .inl x
abbrev vl (x : Int64) : jw_V := .inr (.inl x)
abbrev vr (k n : Nat) : jw_V := .inr (.inr (k, n))
abbrev jw_Mem : Type := Nat → Nat → Nat → Int32
/-- the launch-given numbers: class ids and slots, addresses by kind and instance, array classes, the address of ORDERS -/
abbrev jw_G : Type := va_G × (Nat → Nat → Nat) × (Nat → ClassId) × Nat
def jw_lens : List Nat := [0, 0, 0, 0, 0, 0, 0, 0, 0, 0, 0, 0, 15, 15, 5, 6, 6, 6, 7, 7, 7, 16, 7, 6, 32, 240, 6, 6, 6, 7, 7, 6, 6, 128, 64, 2, 5, 6, 6, 6, 7, 7, 7, 33, 240, 5, 6, 6, 6, 7, 7, 7, 528, 33, 224, 6, 6, 64, 15, 15, 68, 2]
def jw_tags : List Nat := [0, 0, 0, 0, 0, 0, 0, 0, 0, 0, 0, 0, 1, 1, 1, 1, 1, 1, 1, 1, 1, 4, 3, 1, 1, 1, 1, 1, 1, 1, 1, 1, 1, 2, 1, 5, 1, 1, 1, 1, 1, 1, 1, 1, 1, 1, 1, 1, 1, 1, 1, 1, 1, 1, 1, 1, 1, 1, 1, 1, 1, 2]
def jw_cnts : List Nat := [1, 2, 1, 1, 2, 1, 1, 1, 20, 1, 1, 1, 1, 1, 2, 2, 2, 2, 2, 2, 2, 1, 1, 1, 7, 1, 20, 20, 20, 20, 20, 1, 1, 1, 1, 1, 1, 1, 1, 1, 1, 1, 1, 1, 1, 1, 1, 1, 1, 1, 1, 1, 1, 1, 1, 1, 1, 1, 1, 1, 1, 1]
def jw_nfls : List Nat := [4, 11, 3, 3, 3, 4, 2, 6, 7, 8, 11, 43]
def jw_len (k : Nat) : Nat := jw_lens.getD k 0
def jw_tag (k : Nat) : Nat := jw_tags.getD k 9
def jw_cnt (k : Nat) : Nat := jw_cnts.getD k 0
def jw_nfl (k : Nat) : Nat := jw_nfls.getD k 0
def jw_sh (k n j : Nat) : Option (Nat × Nat) := match k with
  | 0 => (match j with | 0 => some (8, 0) | 1 => some (12, n) | 2 => some (13, n) | _ => none)
  | 1 => (match j with | 4 => some (14, n) | 5 => some (15, n) | 6 => some (16, n) | 7 => some (17, n) | 8 => some (18, n) | 9 => some (19, n) | 10 => some (20, n) | _ => none)
  | 2 => (match j with | 0 => some (1, 0) | 1 => some (8, 0) | _ => none)
  | 3 => (match j with | 0 => some (21, n) | _ => none)
  | 4 => (match j with | 0 => some (8, (18 + n)) | _ => none)
  | 5 => (match j with | 0 => some (1, 0) | 1 => some (8, 0) | 2 => some (22, n) | 3 => some (23, n) | _ => none)
  | 6 => (match j with | 0 => some (1, 0) | 1 => some (8, 0) | _ => none)
  | 7 => (match j with | 0 => some (25, n) | 5 => some (1, 1) | _ => none)
  | 8 => (match j with | 0 => some (1, 0) | 2 => some (26, n) | 3 => some (27, n) | 4 => some (28, n) | 5 => some (29, n) | 6 => some (30, n) | _ => none)
  | 9 => (match j with | 0 => some (1, 0) | 1 => some (8, 0) | 2 => some (31, n) | 3 => some (32, n) | 4 => some (33, n) | 5 => some (34, n) | _ => none)
  | 10 => (match j with | 0 => some (7, 0) | 1 => some (1, 0) | 2 => some (8, 0) | 3 => some (8, 1) | 4 => some (6, 0) | 5 => some (5, 0) | 6 => some (9, 0) | 7 => some (0, 0) | 8 => some (2, 0) | 9 => some (3, 0) | 10 => some (35, 0) | _ => none)
  | 11 => (match j with | 2 => some (36, n) | 4 => some (37, n) | 5 => some (38, n) | 6 => some (39, n) | 8 => some (40, n) | 9 => some (41, n) | 10 => some (42, n) | 11 => some (43, n) | 13 => some (44, n) | 21 => some (45, n) | 23 => some (46, n) | 24 => some (47, n) | 25 => some (48, n) | 27 => some (49, n) | 28 => some (50, n) | 29 => some (51, n) | 31 => some (52, n) | 32 => some (53, n) | 33 => some (54, n) | 35 => some (55, n) | 36 => some (56, n) | 37 => some (57, n) | 39 => some (58, n) | 40 => some (59, n) | 41 => some (60, n) | 42 => some (61, n) | _ => none)
  | _ => none
def jw_cells : List (Nat × Nat) := (List.range 62).flatMap (fun k => (List.range (jw_cnt k)).map (fun n => (k, n)))
def jw_rv (g : jw_G) : jw_V → Value
  | .inl x => .int x
  | .inr (.inl x) => .long x
  | .inr (.inr (k, n)) => .ref (g.2.1 k n)
def jw_fv (M : jw_Mem) (k n j : Nat) : jw_V := match jw_sh k n j with
  | none => vi (M k n j)
  | some q => vr q.1 q.2
def jw_cel (g : jw_G) (M : jw_Mem) (k n : Nat) : va_E := match jw_tag k with
  | 0 => .inr (k, (List.range (jw_nfl k)).map (fun j => jw_rv g (jw_fv M k n j)))
  | 1 => .inl (g.2.2.1 0, jw_len k, .inl (M k n))
  | 2 => .inl (g.2.2.1 1, jw_len k, .inl (M k n))
  | 3 => .inl (g.2.2.1 2, jw_len k, .inr (.inr (.inr (.inr (fun i => some (g.2.1 24 i))))))
  | 4 => .inl (g.2.2.1 3, jw_len k, .inr (.inr (.inr (.inr (fun i => some (g.2.1 8 (2 + i)))))))
  | _ => .inl (g.2.2.1 4, jw_len k, .inr (.inr (.inr (.inr (fun i => some (g.2.1 4 i))))))
def jw_ws (g : jw_G) (M : jw_Mem) : va_W := jw_cells.map (fun c => (g.2.1 c.1 c.2, jw_cel g M c.1 c.2))
def jw_A (g : jw_G) : Nat → Prop := fun q => ∃ c ∈ jw_cells, q = g.2.1 c.1 c.2
def jw_I (g : jw_G) : Prop := ∀ c ∈ jw_cells, ∀ c2 ∈ jw_cells, g.2.1 c.1 c.2 = g.2.1 c2.1 c2.2 → c = c2
def jw_tys (g : jw_G) : List (ClassId × FieldType) := [(g.2.2.1 0, .int), (g.2.2.1 1, .boolean), (g.2.2.1 2, .array .int), (g.2.2.1 3, .object "StatueVotes$State"), (g.2.2.1 4, .object "StatueVotes$Image")]
def jw_ord : Nat → Int32 := fun i => [1, 1, 2, 6, 24, 120, 720, 5040].getD i 0
def jw_nest : List Cond := [.methodLinkNest RX1 59 yX10_isIn RX10, .methodLinkNest RX5 64 yX10_isIn RX10, .methodLinkNest RX6 48 yX10_isIn RX10, .methodLinkNest RX8 75 yX10_isIn RX10]
def jw_words : List Cond := lw_tbl.filter goodWord
def jw_K (g : jw_G) (U : State) : Prop := va_K g.1 vwCl (jw_tys g) U ∧ (∀ w ∈ jw_nest, va_Nw w U) ∧ va_Z "StatueVotes$Polls" "ORDERS" "[I" (.ref g.2.2.2) (jw_A g) U U.heap ∧ va_T .int g.2.2.2 8 (fun i => .int (jw_ord i)) (jw_A g) U U.heap
/-- a method: its name, code, number of locals, return type -/
abbrev jw_Mt : Type := MethodName × ByteArray × Nat × Option FieldType
def jw_R (d : Nat) : Room := { frames := d, cells := 0, slots := 0, locals := 29 * d }
def jw_Q (g : jw_G) (ret : Option FieldType) (Q : Int32 → jw_Mem → Prop) : Array Value → State → Outcome → State → Prop := fun _ st oc t => (∃ (x : Int32) (M : jw_Mem), oc = .returned (ret.map (fun _ => Value.int x)) ∧ Q x M ∧ va_P g.1 vwCl (jw_ws g M) t.heap) ∧ va_F (jw_A g) st t
def jw_M (d : Nat) (mt : jw_Mt) (as : List jw_V) (M : jw_Mem) (Q : Int32 → jw_Mem → Prop) : Prop :=
  ∀ (l : Launch) (g : jw_G), jw_I g → Met l mt.1 (.code mt.1 mt.2.1 mt.2.2.1 mt.2.2.2 :: jw_words) (jw_R d) (va_Pc (as.map (jw_rv g)) (fun U => va_P g.1 vwCl (jw_ws g M) U.heap ∧ jw_K g U)) (jw_Q g mt.2.2.2 Q) 0 0 (jw_A g)
def jw_C (g : jw_G) (mt : jw_Mt) (p : Program) (s : State) (m : MethodId) (args : Array Value) (meth : Method) (c : Code) : Prop :=
  jw_I g ∧ p.tables.exec = Jvm.exec ∧ c.code = mt.2.1 ∧ c.maxLocals = mt.2.2.1 ∧ meth.sig.returnType = mt.2.2.2 ∧ meth.locks = false ∧ s.vm.findClass mt.1.cls = some m.cls ∧ (∀ w ∈ (.code mt.1 mt.2.1 mt.2.2.1 mt.2.2.2 :: jw_words), w.before args s = true) ∧ jw_K g s
def jw_lv (g : jw_G) (lv : List (Nat × jw_V)) : List (Nat × Value) := lv.map (fun q => (q.1, jw_rv g q.2))
def jw_J (d : Nat) (mt : jw_Mt) (pc : Nat) (lv : List (Nat × jw_V)) (st : List jw_V) (M : jw_Mem) (Q : Int32 → jw_Mem → Prop) : Prop :=
  ∀ (l : Launch) (g : jw_G) (p : Program) (e : Env) (s : State) (m : MethodId) (args : Array Value) (below : List Frame) (meth : Method) (c : Code), jw_C g mt p s m args meth c → ∀ (H : Heap) (locs : List Loc) (ls : Array Slot), va_P g.1 vwCl (jw_ws g M) H → va_S (jw_A g) s.heap H locs → lv_has ls mt.2.2.1 (jw_lv g lv) →
    W p l e (jw_R d) s m args below meth c H locs 0 0 (MQ below (jw_Q g mt.2.2.2 Q) args s 0 0 (jw_A g)) (F0 m pc ls (st.map (jw_rv g)))
/-! ===== the world's cells ===== -/
set_option maxRecDepth 20000 in
theorem jw_nodup : jw_cells.Nodup := by decide +kernel
theorem jw_inj {i j : Nat} {c : Nat × Nat} (h1 : jw_cells[i]? = some c) (h2 : jw_cells[j]? = some c) : i = j := by
  obtain ⟨hi, e1⟩ := List.getElem?_eq_some_iff.mp h1
  obtain ⟨hj, e2⟩ := List.getElem?_eq_some_iff.mp h2
  have h := List.pairwise_iff_getElem.mp jw_nodup
  rcases Nat.lt_trichotomy i j with q | q | q
  · exact absurd (e1.trans e2.symm) (h i j hi hj q)
  · exact q
  · exact absurd (e2.trans e1.symm) (h j i hj hi q)
theorem jw_mem {k n : Nat} (h : n < jw_cnt k) : (k, n) ∈ jw_cells := by
  have hk : k < 62 := by
    rcases Nat.lt_or_ge k 62 with q | q
    · exact q
    · have : jw_cnt k = 0 := by
        unfold jw_cnt
        rw [List.getD_eq_getElem?_getD, List.getElem?_eq_none (by exact q)]
        rfl
      omega
  exact List.mem_flatMap.mpr ⟨k, List.mem_range.mpr hk, List.mem_map.mpr ⟨n, List.mem_range.mpr h, rfl⟩⟩
theorem jw_at (g : jw_G) (M : jw_Mem) {k n : Nat} (h : n < jw_cnt k) : ∃ q : Nat, jw_cells[q]? = some (k, n) ∧ (jw_ws g M)[q]? = some (g.2.1 k n, jw_cel g M k n) := by
  obtain ⟨q, hq⟩ := List.getElem?_of_mem (jw_mem h)
  exact ⟨q, hq, by unfold jw_ws; rw [List.getElem?_map, hq]; rfl⟩
theorem jw_D {g : jw_G} (h : jw_I g) (M : jw_Mem) : va_D (jw_A g) (jw_ws g M) := by
  have key : ∀ (k : Nat) (q : Nat × va_E), (jw_ws g M)[k]? = some q → ∃ c, jw_cells[k]? = some c ∧ q = (g.2.1 c.1 c.2, jw_cel g M c.1 c.2) := by
    intro k q hq
    unfold jw_ws at hq
    rw [List.getElem?_map] at hq
    cases hc : jw_cells[k]? with
    | none => rw [hc] at hq; cases hq
    | some c => rw [hc] at hq; cases hq; exact ⟨c, rfl, rfl⟩
  refine ⟨fun i j x y hi hj hxy => ?_, fun k q hk => ?_⟩
  · obtain ⟨c, h1, rfl⟩ := key i x hi
    obtain ⟨c2, h2, rfl⟩ := key j y hj
    have e := h c (List.mem_of_getElem? h1) c2 (List.mem_of_getElem? h2) hxy
    subst e
    exact jw_inj h1 h2
  · obtain ⟨c, h1, rfl⟩ := key k q hk
    exact ⟨c, List.mem_of_getElem? h1, rfl⟩
/-- a cell replaced: the world of the new memory, if only that cell differs -/
theorem jw_set {g : jw_G} {M M2 : jw_Mem} {k n q : Nat} {e : va_E} (hq : jw_cells[q]? = some (k, n)) (he : jw_cel g M2 k n = e) (h : ∀ k2 n2, (k2, n2) ≠ (k, n) → jw_cel g M2 k2 n2 = jw_cel g M k2 n2) : (jw_ws g M).set q (g.2.1 k n, e) = jw_ws g M2 := by
  subst he
  apply List.ext_getElem?
  intro i
  unfold jw_ws
  rw [List.getElem?_set]
  by_cases hi : q = i
  · subst hi
    have hl : q < (jw_cells.map (fun c => (g.2.1 c.1 c.2, jw_cel g M c.1 c.2))).length := by
      rw [List.length_map]; exact (List.getElem?_eq_some_iff.mp hq).1
    rw [if_pos rfl, if_pos hl, List.getElem?_map, hq]
    rfl
  · rw [if_neg hi, List.getElem?_map, List.getElem?_map]
    cases hc : jw_cells[i]? with
    | none => rfl
    | some c =>
      have hne : (c.1, c.2) ≠ (k, n) := by
        intro e
        have : c = (k, n) := e
        subst this
        exact hi (jw_inj hq hc)
      show some (g.2.1 c.1 c.2, jw_cel g M c.1 c.2) = some (g.2.1 c.1 c.2, jw_cel g M2 c.1 c.2)
      rw [h c.1 c.2 hne]
def jw_up (M : jw_Mem) (k n j : Nat) (v : Int32) : jw_Mem := fun k2 n2 j2 => if k2 = k ∧ n2 = n ∧ j2 = j then v else M k2 n2 j2
/-- a whole row replaced -/
def jw_row (M : jw_Mem) (k n : Nat) (f : Nat → Int32) : jw_Mem := fun k2 n2 j2 => if k2 = k ∧ n2 = n then f j2 else M k2 n2 j2
theorem jw_cel_congr {g : jw_G} {M M2 : jw_Mem} {k n : Nat} (h : ∀ j, M2 k n j = M k n j) : jw_cel g M2 k n = jw_cel g M k n := by
  have e : M2 k n = M k n := funext h
  unfold jw_cel jw_fv
  rw [e]
theorem jw_up_other {g : jw_G} {M : jw_Mem} {k n j : Nat} {v : Int32} : ∀ k2 n2, (k2, n2) ≠ (k, n) → jw_cel g (jw_up M k n j v) k2 n2 = jw_cel g M k2 n2 := by
  intro k2 n2 h
  refine jw_cel_congr (fun j2 => ?_)
  unfold jw_up
  rw [if_neg]
  rintro ⟨rfl, rfl, -⟩
  exact h rfl
theorem jw_row_other {g : jw_G} {M : jw_Mem} {k n : Nat} {f : Nat → Int32} : ∀ k2 n2, (k2, n2) ≠ (k, n) → jw_cel g (jw_row M k n f) k2 n2 = jw_cel g M k2 n2 := by
  intro k2 n2 h
  refine jw_cel_congr (fun j2 => ?_)
  unfold jw_row
  rw [if_neg]
  rintro ⟨rfl, rfl⟩
  exact h rfl
theorem jw_K.go {g : jw_G} {s U : State} {H : Heap} {locs : List Loc} (h : jw_K g s) (hS : va_S (jw_A g) s.heap H locs) (hU : U.heap = H) (hW : s.WarmedH U.vm) : jw_K g U := by
  obtain ⟨h1, h2, h3, h4⟩ := h
  refine ⟨va_K.moved hW.alike h1, fun w hw => ?_, ?_, ?_⟩
  · have hw2 := h2 w hw
    unfold jw_nest at hw
    simp only [List.mem_cons, List.not_mem_nil, or_false] at hw
    rcases hw with rfl | rfl | rfl | rfl <;> exact va_Nw.warmM hW hw2
  · rw [hU]
    exact va_Z.kept (va_Z.moved hW.alike h3) (fun a ha hA => hS.2.1 a ha hA)
  · rw [hU]
    exact va_T.kept (va_T.moved hW.alike h4) (fun a ha hA => hS.2.1 a ha hA)
theorem jw_K.blind {g : jw_G} {U : State} (h : jw_K g U) (G : JFrame) (mk : MethodId) (a : Array Value) : jw_K g (U.calling G mk a) := by
  obtain ⟨h1, h2, h3, h4⟩ := h
  refine ⟨va_K.moved (u := U) (U := U.calling G mk a) (Vm.Alike.refl U.vm) h1, fun w hw => ?_, va_Z.moved (u := U) (U := U.calling G mk a) (Vm.Alike.refl U.vm) h3, va_T.moved (u := U) (U := U.calling G mk a) (Vm.Alike.refl U.vm) h4⟩
  have hw2 := h2 w hw
  unfold jw_nest at hw
  simp only [List.mem_cons, List.not_mem_nil, or_false] at hw
  rcases hw with rfl | rfl | rfl | rfl <;> exact va_Nw.same rfl rfl hw2

/-! ===== rows: one an instruction ===== -/
section JR
variable {d : Nat} {mt : jw_Mt} {pc : Nat} {lv : List (Nat × jw_V)} {st : List jw_V} {M : jw_Mem} {Q : Int32 → jw_Mem → Prop}
theorem jw_lvat {g : jw_G} {ls : Array Slot} {nL : Nat} (h : lv_has ls nL (jw_lv g lv)) (k : Nat) {i : Nat} {v : jw_V} (hk : lv[k]? = some (i, v)) : ls[i]? = some (.val (jw_rv g v)) := lv_at h k (by unfold jw_lv; rw [List.getElem?_map, hk]; rfl)
theorem jr_sub (ks : List Nat) {lv' : List (Nat × jw_V)} (hl : ks.filterMap (fun k => lv[k]?) = lv') (h : jw_J d mt pc lv' st M Q) : jw_J d mt pc lv st M Q := by
  intro l g p e s m args below meth c C H locs ls hP hS hlv
  refine h l g p e s m args below meth c C H locs ls hP hS ⟨hlv.1, hlv.2.1, fun q hq => ?_⟩
  subst hl
  unfold jw_lv at hq
  obtain ⟨q0, h0, rfl⟩ := List.mem_map.mp hq
  obtain ⟨k, -, hk⟩ := List.mem_filterMap.mp h0
  exact jw_lvat hlv k hk
theorem jr_iconst {n : Int} {v : Int32} (hd : decode mt.2.1 pc = .ok (.iconst n, 1)) (hv : Int32.ofInt n = v) (h : jw_J d mt (pc + 1) lv (vi v :: st) M Q) : jw_J d mt pc lv (st) M Q := by
  intro l g p e s m args below meth c C H locs ls hP hS hlv
  obtain ⟨hI, hx, hb, hml, hr, hlocks, hown, hts, hK⟩ := id C
  exact lv_iconst hx hb hd hv (h l g p e s m args below meth c C H locs ls hP hS hlv)
theorem jr_bipush {n : Int} {v : Int32} (hd : decode mt.2.1 pc = .ok (.bipush n, 2)) (hv : (Int8.ofInt n).toInt32 = v) (h : jw_J d mt (pc + 2) lv (vi v :: st) M Q) : jw_J d mt pc lv (st) M Q := by
  intro l g p e s m args below meth c C H locs ls hP hS hlv
  obtain ⟨hI, hx, hb, hml, hr, hlocks, hown, hts, hK⟩ := id C
  exact lv_bipush hx hb hd hv (h l g p e s m args below meth c C H locs ls hP hS hlv)
theorem jr_sipush {n : Int} {v : Int32} (hd : decode mt.2.1 pc = .ok (.sipush n, 3)) (hv : (Int16.ofInt n).toInt32 = v) (h : jw_J d mt (pc + 3) lv (vi v :: st) M Q) : jw_J d mt pc lv (st) M Q := by
  intro l g p e s m args below meth c C H locs ls hP hS hlv
  obtain ⟨hI, hx, hb, hml, hr, hlocks, hown, hts, hK⟩ := id C
  exact lv_sipush hx hb hd hv (h l g p e s m args below meth c C H locs ls hP hS hlv)
theorem jr_lconst {n : Fin 2} {v : Int64} (hd : decode mt.2.1 pc = .ok (.lconst n, 1)) (hv : Int64.ofNat (n : Nat) = v) (h : jw_J d mt (pc + 1) lv (vl v :: st) M Q) : jw_J d mt pc lv (st) M Q := by
  intro l g p e s m args below meth c C H locs ls hP hS hlv
  obtain ⟨hI, hx, hb, hml, hr, hlocks, hown, hts, hK⟩ := id C
  exact lv_lconst hx hb hd hv (h l g p e s m args below meth c C H locs ls hP hS hlv)
theorem jr_iload_n {k : Fin 4} {i : Nat} {x : Int32} (hd : decode mt.2.1 pc = .ok (.iload_n k, 1)) (hi : (k : Nat) = i) (q : Nat) (hq : lv[q]? = some (i, vi x)) (h : jw_J d mt (pc + 1) lv (vi x :: st) M Q) : jw_J d mt pc lv (st) M Q := by
  intro l g p e s m args below meth c C H locs ls hP hS hlv
  obtain ⟨hI, hx, hb, hml, hr, hlocks, hown, hts, hK⟩ := id C
  exact lv_iload_n hx hb hd hi (jw_lvat hlv q hq) (h l g p e s m args below meth c C H locs ls hP hS hlv)
theorem jr_iload {i : Nat} {x : Int32} (hd : decode mt.2.1 pc = .ok (.iload i, 2)) (q : Nat) (hq : lv[q]? = some (i, vi x)) (h : jw_J d mt (pc + 2) lv (vi x :: st) M Q) : jw_J d mt pc lv (st) M Q := by
  intro l g p e s m args below meth c C H locs ls hP hS hlv
  obtain ⟨hI, hx, hb, hml, hr, hlocks, hown, hts, hK⟩ := id C
  exact lv_iload hx hb hd (jw_lvat hlv q hq) (h l g p e s m args below meth c C H locs ls hP hS hlv)
theorem jr_lload_n {k : Fin 4} {i : Nat} {x : Int64} (hd : decode mt.2.1 pc = .ok (.lload_n k, 1)) (hi : (k : Nat) = i) (q : Nat) (hq : lv[q]? = some (i, vl x)) (h : jw_J d mt (pc + 1) lv (vl x :: st) M Q) : jw_J d mt pc lv (st) M Q := by
  intro l g p e s m args below meth c C H locs ls hP hS hlv
  obtain ⟨hI, hx, hb, hml, hr, hlocks, hown, hts, hK⟩ := id C
  exact lv_lload_n hx hb hd hi (jw_lvat hlv q hq) (h l g p e s m args below meth c C H locs ls hP hS hlv)
theorem jr_lload {i : Nat} {x : Int64} (hd : decode mt.2.1 pc = .ok (.lload i, 2)) (q : Nat) (hq : lv[q]? = some (i, vl x)) (h : jw_J d mt (pc + 2) lv (vl x :: st) M Q) : jw_J d mt pc lv (st) M Q := by
  intro l g p e s m args below meth c C H locs ls hP hS hlv
  obtain ⟨hI, hx, hb, hml, hr, hlocks, hown, hts, hK⟩ := id C
  exact lv_lload hx hb hd (jw_lvat hlv q hq) (h l g p e s m args below meth c C H locs ls hP hS hlv)
theorem jr_aload_n {k : Fin 4} {i : Nat} {k0 n0 : Nat} (hd : decode mt.2.1 pc = .ok (.aload_n k, 1)) (hi : (k : Nat) = i) (q : Nat) (hq : lv[q]? = some (i, vr k0 n0)) (h : jw_J d mt (pc + 1) lv (vr k0 n0 :: st) M Q) : jw_J d mt pc lv (st) M Q := by
  intro l g p e s m args below meth c C H locs ls hP hS hlv
  obtain ⟨hI, hx, hb, hml, hr, hlocks, hown, hts, hK⟩ := id C
  exact lv_aload_n hx hb hd hi (jw_lvat hlv q hq) (h l g p e s m args below meth c C H locs ls hP hS hlv)
theorem jr_aload {i : Nat} {k0 n0 : Nat} (hd : decode mt.2.1 pc = .ok (.aload i, 2)) (q : Nat) (hq : lv[q]? = some (i, vr k0 n0)) (h : jw_J d mt (pc + 2) lv (vr k0 n0 :: st) M Q) : jw_J d mt pc lv (st) M Q := by
  intro l g p e s m args below meth c C H locs ls hP hS hlv
  obtain ⟨hI, hx, hb, hml, hr, hlocks, hown, hts, hK⟩ := id C
  exact lv_aload hx hb hd (jw_lvat hlv q hq) (h l g p e s m args below meth c C H locs ls hP hS hlv)
theorem jr_iadd {x y : Int32} (hd : decode mt.2.1 pc = .ok (.iadd, 1)) (h : jw_J d mt (pc + 1) lv (vi (x + y) :: st) M Q) : jw_J d mt pc lv (vi y :: vi x :: st) M Q := by
  intro l g p e s m args below meth c C H locs ls hP hS hlv
  obtain ⟨hI, hx, hb, hml, hr, hlocks, hown, hts, hK⟩ := id C
  exact lv_iadd hx hb hd (h l g p e s m args below meth c C H locs ls hP hS hlv)
theorem jr_isub {x y : Int32} (hd : decode mt.2.1 pc = .ok (.isub, 1)) (h : jw_J d mt (pc + 1) lv (vi (x - y) :: st) M Q) : jw_J d mt pc lv (vi y :: vi x :: st) M Q := by
  intro l g p e s m args below meth c C H locs ls hP hS hlv
  obtain ⟨hI, hx, hb, hml, hr, hlocks, hown, hts, hK⟩ := id C
  exact lv_isub hx hb hd (h l g p e s m args below meth c C H locs ls hP hS hlv)
theorem jr_imul {x y : Int32} (hd : decode mt.2.1 pc = .ok (.imul, 1)) (h : jw_J d mt (pc + 1) lv (vi (x * y) :: st) M Q) : jw_J d mt pc lv (vi y :: vi x :: st) M Q := by
  intro l g p e s m args below meth c C H locs ls hP hS hlv
  obtain ⟨hI, hx, hb, hml, hr, hlocks, hown, hts, hK⟩ := id C
  exact lv_imul hx hb hd (h l g p e s m args below meth c C H locs ls hP hS hlv)
theorem jr_iand {x y : Int32} (hd : decode mt.2.1 pc = .ok (.iand, 1)) (h : jw_J d mt (pc + 1) lv (vi (x &&& y) :: st) M Q) : jw_J d mt pc lv (vi y :: vi x :: st) M Q := by
  intro l g p e s m args below meth c C H locs ls hP hS hlv
  obtain ⟨hI, hx, hb, hml, hr, hlocks, hown, hts, hK⟩ := id C
  exact lv_iand hx hb hd (h l g p e s m args below meth c C H locs ls hP hS hlv)
theorem jr_ior {x y : Int32} (hd : decode mt.2.1 pc = .ok (.ior, 1)) (h : jw_J d mt (pc + 1) lv (vi (x ||| y) :: st) M Q) : jw_J d mt pc lv (vi y :: vi x :: st) M Q := by
  intro l g p e s m args below meth c C H locs ls hP hS hlv
  obtain ⟨hI, hx, hb, hml, hr, hlocks, hown, hts, hK⟩ := id C
  exact lv_ior hx hb hd (h l g p e s m args below meth c C H locs ls hP hS hlv)
theorem jr_ixor {x y : Int32} (hd : decode mt.2.1 pc = .ok (.ixor, 1)) (h : jw_J d mt (pc + 1) lv (vi (x ^^^ y) :: st) M Q) : jw_J d mt pc lv (vi y :: vi x :: st) M Q := by
  intro l g p e s m args below meth c C H locs ls hP hS hlv
  obtain ⟨hI, hx, hb, hml, hr, hlocks, hown, hts, hK⟩ := id C
  exact lv_ixor hx hb hd (h l g p e s m args below meth c C H locs ls hP hS hlv)
theorem jr_ishl {x y : Int32} (hd : decode mt.2.1 pc = .ok (.ishl, 1)) (h : jw_J d mt (pc + 1) lv (vi (x <<< (y &&& 31)) :: st) M Q) : jw_J d mt pc lv (vi y :: vi x :: st) M Q := by
  intro l g p e s m args below meth c C H locs ls hP hS hlv
  obtain ⟨hI, hx, hb, hml, hr, hlocks, hown, hts, hK⟩ := id C
  exact lv_ishl hx hb hd (h l g p e s m args below meth c C H locs ls hP hS hlv)
theorem jr_ishr {x y : Int32} (hd : decode mt.2.1 pc = .ok (.ishr, 1)) (h : jw_J d mt (pc + 1) lv (vi (x >>> (y &&& 31)) :: st) M Q) : jw_J d mt pc lv (vi y :: vi x :: st) M Q := by
  intro l g p e s m args below meth c C H locs ls hP hS hlv
  obtain ⟨hI, hx, hb, hml, hr, hlocks, hown, hts, hK⟩ := id C
  exact lv_ishr hx hb hd (h l g p e s m args below meth c C H locs ls hP hS hlv)
theorem jr_iushr {x y : Int32} (hd : decode mt.2.1 pc = .ok (.iushr, 1)) (h : jw_J d mt (pc + 1) lv (vi (x.toUInt32 >>> (y.toUInt32 &&& Int32.toUInt32 31)).toInt32 :: st) M Q) : jw_J d mt pc lv (vi y :: vi x :: st) M Q := by
  intro l g p e s m args below meth c C H locs ls hP hS hlv
  obtain ⟨hI, hx, hb, hml, hr, hlocks, hown, hts, hK⟩ := id C
  exact lv_iushr hx hb hd rfl (h l g p e s m args below meth c C H locs ls hP hS hlv)
theorem jr_idiv {x y : Int32} (hd : decode mt.2.1 pc = .ok (.idiv, 1)) (hne : ¬ y = 0) (h : jw_J d mt (pc + 1) lv (vi (x / y) :: st) M Q) : jw_J d mt pc lv (vi y :: vi x :: st) M Q := by
  intro l g p e s m args below meth c C H locs ls hP hS hlv
  obtain ⟨hI, hx, hb, hml, hr, hlocks, hown, hts, hK⟩ := id C
  exact lv_idiv hx hb hd hne (h l g p e s m args below meth c C H locs ls hP hS hlv)
theorem jr_irem {x y : Int32} (hd : decode mt.2.1 pc = .ok (.irem, 1)) (hne : ¬ y = 0) (h : jw_J d mt (pc + 1) lv (vi (x - x / y * y) :: st) M Q) : jw_J d mt pc lv (vi y :: vi x :: st) M Q := by
  intro l g p e s m args below meth c C H locs ls hP hS hlv
  obtain ⟨hI, hx, hb, hml, hr, hlocks, hown, hts, hK⟩ := id C
  exact lv_irem hx hb hd hne (h l g p e s m args below meth c C H locs ls hP hS hlv)
theorem jr_ladd {x y : Int64} (hd : decode mt.2.1 pc = .ok (.ladd, 1)) (h : jw_J d mt (pc + 1) lv (vl (x + y) :: st) M Q) : jw_J d mt pc lv (vl y :: vl x :: st) M Q := by
  intro l g p e s m args below meth c C H locs ls hP hS hlv
  obtain ⟨hI, hx, hb, hml, hr, hlocks, hown, hts, hK⟩ := id C
  exact lv_ladd hx hb hd (h l g p e s m args below meth c C H locs ls hP hS hlv)
theorem jr_lmul {x y : Int64} (hd : decode mt.2.1 pc = .ok (.lmul, 1)) (h : jw_J d mt (pc + 1) lv (vl (x * y) :: st) M Q) : jw_J d mt pc lv (vl y :: vl x :: st) M Q := by
  intro l g p e s m args below meth c C H locs ls hP hS hlv
  obtain ⟨hI, hx, hb, hml, hr, hlocks, hown, hts, hK⟩ := id C
  exact lv_lmul hx hb hd (h l g p e s m args below meth c C H locs ls hP hS hlv)
theorem jr_land {x y : Int64} (hd : decode mt.2.1 pc = .ok (.land, 1)) (h : jw_J d mt (pc + 1) lv (vl (x &&& y) :: st) M Q) : jw_J d mt pc lv (vl y :: vl x :: st) M Q := by
  intro l g p e s m args below meth c C H locs ls hP hS hlv
  obtain ⟨hI, hx, hb, hml, hr, hlocks, hown, hts, hK⟩ := id C
  exact lv_land hx hb hd (h l g p e s m args below meth c C H locs ls hP hS hlv)
theorem jr_ldiv {x y : Int64} (hd : decode mt.2.1 pc = .ok (.ldiv, 1)) (hne : ¬ y = 0) (h : jw_J d mt (pc + 1) lv (vl (x / y) :: st) M Q) : jw_J d mt pc lv (vl y :: vl x :: st) M Q := by
  intro l g p e s m args below meth c C H locs ls hP hS hlv
  obtain ⟨hI, hx, hb, hml, hr, hlocks, hown, hts, hK⟩ := id C
  exact lv_ldiv hx hb hd hne (h l g p e s m args below meth c C H locs ls hP hS hlv)
theorem jr_lrem {x y : Int64} (hd : decode mt.2.1 pc = .ok (.lrem, 1)) (hne : ¬ y = 0) (h : jw_J d mt (pc + 1) lv (vl (x - x / y * y) :: st) M Q) : jw_J d mt pc lv (vl y :: vl x :: st) M Q := by
  intro l g p e s m args below meth c C H locs ls hP hS hlv
  obtain ⟨hI, hx, hb, hml, hr, hlocks, hown, hts, hK⟩ := id C
  exact lv_lrem hx hb hd hne (h l g p e s m args below meth c C H locs ls hP hS hlv)
theorem jr_lcmp {x y : Int64} (hd : decode mt.2.1 pc = .ok (.lcmp, 1)) (h : jw_J d mt (pc + 1) lv (vi (lg_cmp x y) :: st) M Q) : jw_J d mt pc lv (vl y :: vl x :: st) M Q := by
  intro l g p e s m args below meth c C H locs ls hP hS hlv
  obtain ⟨hI, hx, hb, hml, hr, hlocks, hown, hts, hK⟩ := id C
  exact W.lcmp hx hb hd (h l g p e s m args below meth c C H locs ls hP hS hlv)
theorem jr_i2l {x : Int32} (hd : decode mt.2.1 pc = .ok (.i2l, 1)) (h : jw_J d mt (pc + 1) lv (vl x.toInt64 :: st) M Q) : jw_J d mt pc lv (vi x :: st) M Q := by
  intro l g p e s m args below meth c C H locs ls hP hS hlv
  obtain ⟨hI, hx, hb, hml, hr, hlocks, hown, hts, hK⟩ := id C
  exact lv_i2l hx hb hd rfl (h l g p e s m args below meth c C H locs ls hP hS hlv)
theorem jr_l2i {x : Int64} (hd : decode mt.2.1 pc = .ok (.l2i, 1)) (h : jw_J d mt (pc + 1) lv (vi x.toInt32 :: st) M Q) : jw_J d mt pc lv (vl x :: st) M Q := by
  intro l g p e s m args below meth c C H locs ls hP hS hlv
  obtain ⟨hI, hx, hb, hml, hr, hlocks, hown, hts, hK⟩ := id C
  exact lv_l2i hx hb hd rfl (h l g p e s m args below meth c C H locs ls hP hS hlv)
theorem jr_dup_i {x : Int32} (hd : decode mt.2.1 pc = .ok (.dup, 1)) (h : jw_J d mt (pc + 1) lv (vi x :: vi x :: st) M Q) : jw_J d mt pc lv (vi x :: st) M Q := by
  intro l g p e s m args below meth c C H locs ls hP hS hlv
  obtain ⟨hI, hx, hb, hml, hr, hlocks, hown, hts, hK⟩ := id C
  exact lv_dup hx hb hd rfl (h l g p e s m args below meth c C H locs ls hP hS hlv)
theorem jr_dup_r {k0 n0 : Nat} (hd : decode mt.2.1 pc = .ok (.dup, 1)) (h : jw_J d mt (pc + 1) lv (vr k0 n0 :: vr k0 n0 :: st) M Q) : jw_J d mt pc lv (vr k0 n0 :: st) M Q := by
  intro l g p e s m args below meth c C H locs ls hP hS hlv
  obtain ⟨hI, hx, hb, hml, hr, hlocks, hown, hts, hK⟩ := id C
  exact lv_dup hx hb hd rfl (h l g p e s m args below meth c C H locs ls hP hS hlv)
theorem jr_dup2 {x : Int32} {k0 n0 : Nat} (hd : decode mt.2.1 pc = .ok (.dup2, 1)) (h : jw_J d mt (pc + 1) lv (vi x :: vr k0 n0 :: vi x :: vr k0 n0 :: st) M Q) : jw_J d mt pc lv (vi x :: vr k0 n0 :: st) M Q := by
  intro l g p e s m args below meth c C H locs ls hP hS hlv
  obtain ⟨hI, hx, hb, hml, hr, hlocks, hown, hts, hK⟩ := id C
  exact lv_dup2_11 hx hb hd rfl rfl (h l g p e s m args below meth c C H locs ls hP hS hlv)
theorem jr_pop {x : Int32} (hd : decode mt.2.1 pc = .ok (.pop, 1)) (h : jw_J d mt (pc + 1) lv (st) M Q) : jw_J d mt pc lv (vi x :: st) M Q := by
  intro l g p e s m args below meth c C H locs ls hP hS hlv
  obtain ⟨hI, hx, hb, hml, hr, hlocks, hown, hts, hK⟩ := id C
  exact lv_pop hx hb hd rfl (h l g p e s m args below meth c C H locs ls hP hS hlv)
theorem jr_goto {off : Int} {tgt : Nat} (hd : decode mt.2.1 pc = .ok (.goto off, 3)) (ht : (pc : Int) + off = (tgt : Int)) (h : jw_J d mt tgt lv st M Q) : jw_J d mt pc lv st M Q := by
  intro l g p e s m args below meth c C H locs ls hP hS hlv
  obtain ⟨hI, hx, hb, hml, hr, hlocks, hown, hts, hK⟩ := id C
  exact lv_goto hx hb hd ht (h l g p e s m args below meth c C H locs ls hP hS hlv)
theorem jr_if_eq {x : Int32} {off : Int} {tgt : Nat} (hd : decode mt.2.1 pc = .ok (.ifCond .eq off, 3)) (ht : (pc : Int) + off = (tgt : Int)) (kt : x = 0 → jw_J d mt tgt lv st M Q) (kf : ¬ x = 0 → jw_J d mt (pc + 3) lv st M Q) : jw_J d mt pc lv (vi x :: st) M Q := by
  intro l g p e s m args below meth c C H locs ls hP hS hlv
  obtain ⟨hI, hx, hb, hml, hr, hlocks, hown, hts, hK⟩ := id C
  exact lv_if_eq hx hb hd ht (fun q => kt q l g p e s m args below meth c C H locs ls hP hS hlv) (fun q => kf q l g p e s m args below meth c C H locs ls hP hS hlv)
theorem jr_icmp_eq {x y : Int32} {off : Int} {tgt : Nat} (hd : decode mt.2.1 pc = .ok (.if_icmp .eq off, 3)) (ht : (pc : Int) + off = (tgt : Int)) (kt : x = y → jw_J d mt tgt lv st M Q) (kf : ¬ x = y → jw_J d mt (pc + 3) lv st M Q) : jw_J d mt pc lv (vi y :: vi x :: st) M Q := by
  intro l g p e s m args below meth c C H locs ls hP hS hlv
  obtain ⟨hI, hx, hb, hml, hr, hlocks, hown, hts, hK⟩ := id C
  exact lv_icmp_eq hx hb hd ht (fun q => kt q l g p e s m args below meth c C H locs ls hP hS hlv) (fun q => kf q l g p e s m args below meth c C H locs ls hP hS hlv)
theorem jr_if_ne {x : Int32} {off : Int} {tgt : Nat} (hd : decode mt.2.1 pc = .ok (.ifCond .ne off, 3)) (ht : (pc : Int) + off = (tgt : Int)) (kt : ¬ x = 0 → jw_J d mt tgt lv st M Q) (kf : x = 0 → jw_J d mt (pc + 3) lv st M Q) : jw_J d mt pc lv (vi x :: st) M Q := by
  intro l g p e s m args below meth c C H locs ls hP hS hlv
  obtain ⟨hI, hx, hb, hml, hr, hlocks, hown, hts, hK⟩ := id C
  exact lv_if_ne hx hb hd ht (fun q => kt q l g p e s m args below meth c C H locs ls hP hS hlv) (fun q => kf q l g p e s m args below meth c C H locs ls hP hS hlv)
theorem jr_icmp_ne {x y : Int32} {off : Int} {tgt : Nat} (hd : decode mt.2.1 pc = .ok (.if_icmp .ne off, 3)) (ht : (pc : Int) + off = (tgt : Int)) (kt : ¬ x = y → jw_J d mt tgt lv st M Q) (kf : x = y → jw_J d mt (pc + 3) lv st M Q) : jw_J d mt pc lv (vi y :: vi x :: st) M Q := by
  intro l g p e s m args below meth c C H locs ls hP hS hlv
  obtain ⟨hI, hx, hb, hml, hr, hlocks, hown, hts, hK⟩ := id C
  exact lv_icmp_ne hx hb hd ht (fun q => kt q l g p e s m args below meth c C H locs ls hP hS hlv) (fun q => kf q l g p e s m args below meth c C H locs ls hP hS hlv)
theorem jr_if_lt {x : Int32} {off : Int} {tgt : Nat} (hd : decode mt.2.1 pc = .ok (.ifCond .lt off, 3)) (ht : (pc : Int) + off = (tgt : Int)) (kt : x < 0 → jw_J d mt tgt lv st M Q) (kf : ¬ x < 0 → jw_J d mt (pc + 3) lv st M Q) : jw_J d mt pc lv (vi x :: st) M Q := by
  intro l g p e s m args below meth c C H locs ls hP hS hlv
  obtain ⟨hI, hx, hb, hml, hr, hlocks, hown, hts, hK⟩ := id C
  exact lv_if_lt hx hb hd ht (fun q => kt q l g p e s m args below meth c C H locs ls hP hS hlv) (fun q => kf q l g p e s m args below meth c C H locs ls hP hS hlv)
theorem jr_icmp_lt {x y : Int32} {off : Int} {tgt : Nat} (hd : decode mt.2.1 pc = .ok (.if_icmp .lt off, 3)) (ht : (pc : Int) + off = (tgt : Int)) (kt : x < y → jw_J d mt tgt lv st M Q) (kf : ¬ x < y → jw_J d mt (pc + 3) lv st M Q) : jw_J d mt pc lv (vi y :: vi x :: st) M Q := by
  intro l g p e s m args below meth c C H locs ls hP hS hlv
  obtain ⟨hI, hx, hb, hml, hr, hlocks, hown, hts, hK⟩ := id C
  exact lv_icmp_lt hx hb hd ht (fun q => kt q l g p e s m args below meth c C H locs ls hP hS hlv) (fun q => kf q l g p e s m args below meth c C H locs ls hP hS hlv)
theorem jr_if_ge {x : Int32} {off : Int} {tgt : Nat} (hd : decode mt.2.1 pc = .ok (.ifCond .ge off, 3)) (ht : (pc : Int) + off = (tgt : Int)) (kt : 0 ≤ x → jw_J d mt tgt lv st M Q) (kf : ¬ 0 ≤ x → jw_J d mt (pc + 3) lv st M Q) : jw_J d mt pc lv (vi x :: st) M Q := by
  intro l g p e s m args below meth c C H locs ls hP hS hlv
  obtain ⟨hI, hx, hb, hml, hr, hlocks, hown, hts, hK⟩ := id C
  exact lv_if_ge hx hb hd ht (fun q => kt q l g p e s m args below meth c C H locs ls hP hS hlv) (fun q => kf q l g p e s m args below meth c C H locs ls hP hS hlv)
theorem jr_icmp_ge {x y : Int32} {off : Int} {tgt : Nat} (hd : decode mt.2.1 pc = .ok (.if_icmp .ge off, 3)) (ht : (pc : Int) + off = (tgt : Int)) (kt : y ≤ x → jw_J d mt tgt lv st M Q) (kf : ¬ y ≤ x → jw_J d mt (pc + 3) lv st M Q) : jw_J d mt pc lv (vi y :: vi x :: st) M Q := by
  intro l g p e s m args below meth c C H locs ls hP hS hlv
  obtain ⟨hI, hx, hb, hml, hr, hlocks, hown, hts, hK⟩ := id C
  exact lv_icmp_ge hx hb hd ht (fun q => kt q l g p e s m args below meth c C H locs ls hP hS hlv) (fun q => kf q l g p e s m args below meth c C H locs ls hP hS hlv)
theorem jr_if_gt {x : Int32} {off : Int} {tgt : Nat} (hd : decode mt.2.1 pc = .ok (.ifCond .gt off, 3)) (ht : (pc : Int) + off = (tgt : Int)) (kt : 0 < x → jw_J d mt tgt lv st M Q) (kf : ¬ 0 < x → jw_J d mt (pc + 3) lv st M Q) : jw_J d mt pc lv (vi x :: st) M Q := by
  intro l g p e s m args below meth c C H locs ls hP hS hlv
  obtain ⟨hI, hx, hb, hml, hr, hlocks, hown, hts, hK⟩ := id C
  exact lv_if_gt hx hb hd ht (fun q => kt q l g p e s m args below meth c C H locs ls hP hS hlv) (fun q => kf q l g p e s m args below meth c C H locs ls hP hS hlv)
theorem jr_icmp_gt {x y : Int32} {off : Int} {tgt : Nat} (hd : decode mt.2.1 pc = .ok (.if_icmp .gt off, 3)) (ht : (pc : Int) + off = (tgt : Int)) (kt : y < x → jw_J d mt tgt lv st M Q) (kf : ¬ y < x → jw_J d mt (pc + 3) lv st M Q) : jw_J d mt pc lv (vi y :: vi x :: st) M Q := by
  intro l g p e s m args below meth c C H locs ls hP hS hlv
  obtain ⟨hI, hx, hb, hml, hr, hlocks, hown, hts, hK⟩ := id C
  exact lv_icmp_gt hx hb hd ht (fun q => kt q l g p e s m args below meth c C H locs ls hP hS hlv) (fun q => kf q l g p e s m args below meth c C H locs ls hP hS hlv)
theorem jr_if_le {x : Int32} {off : Int} {tgt : Nat} (hd : decode mt.2.1 pc = .ok (.ifCond .le off, 3)) (ht : (pc : Int) + off = (tgt : Int)) (kt : x ≤ 0 → jw_J d mt tgt lv st M Q) (kf : ¬ x ≤ 0 → jw_J d mt (pc + 3) lv st M Q) : jw_J d mt pc lv (vi x :: st) M Q := by
  intro l g p e s m args below meth c C H locs ls hP hS hlv
  obtain ⟨hI, hx, hb, hml, hr, hlocks, hown, hts, hK⟩ := id C
  exact lv_if_le hx hb hd ht (fun q => kt q l g p e s m args below meth c C H locs ls hP hS hlv) (fun q => kf q l g p e s m args below meth c C H locs ls hP hS hlv)
theorem jr_icmp_le {x y : Int32} {off : Int} {tgt : Nat} (hd : decode mt.2.1 pc = .ok (.if_icmp .le off, 3)) (ht : (pc : Int) + off = (tgt : Int)) (kt : x ≤ y → jw_J d mt tgt lv st M Q) (kf : ¬ x ≤ y → jw_J d mt (pc + 3) lv st M Q) : jw_J d mt pc lv (vi y :: vi x :: st) M Q := by
  intro l g p e s m args below meth c C H locs ls hP hS hlv
  obtain ⟨hI, hx, hb, hml, hr, hlocks, hown, hts, hK⟩ := id C
  exact lv_icmp_le hx hb hd ht (fun q => kt q l g p e s m args below meth c C H locs ls hP hS hlv) (fun q => kf q l g p e s m args below meth c C H locs ls hP hS hlv)
def jw_st1 (lv : List (Nat × jw_V)) (i : Nat) (v : jw_V) : List (Nat × jw_V) := (i, v) :: lv.filter (fun q => !(q.1 == i) && !(q.1 + 1 == i && (match q.2 with | .inr (.inl _) => true | _ => false)))
def jw_st2 (lv : List (Nat × jw_V)) (i : Nat) (v : jw_V) : List (Nat × jw_V) := (i, v) :: lv.filter (fun q => !(q.1 == i) && (!(q.1 == i + 1) && !(q.1 + 1 == i && (match q.2 with | .inr (.inl _) => true | _ => false))))
theorem jw_cat (g : jw_G) (v : jw_V) : ((jw_rv g v).category == 2) = (match v with | .inr (.inl _) => true | _ => false) := by
  rcases v with x | x | ⟨k, n⟩ <;> rfl
theorem jw_lv1 (g : jw_G) (i : Nat) (v : jw_V) : (i, jw_rv g v) :: (jw_lv g lv).filter (fun q => !(q.1 == i) && !(q.1 + 1 == i && q.2.category == 2)) = jw_lv g (jw_st1 lv i v) := by
  unfold jw_st1 jw_lv
  rw [List.map_cons, List.filter_map]
  refine congrArg _ (congrArg _ (List.filter_congr fun q _ => ?_))
  show (!(q.1 == i) && !(q.1 + 1 == i && (jw_rv g q.2).category == 2)) = _
  rw [jw_cat]
theorem jw_lv2 (g : jw_G) (i : Nat) (v : jw_V) : (i, jw_rv g v) :: (jw_lv g lv).filter (fun q => !(q.1 == i) && (!(q.1 == i + 1) && !(q.1 + 1 == i && q.2.category == 2))) = jw_lv g (jw_st2 lv i v) := by
  unfold jw_st2 jw_lv
  rw [List.map_cons, List.filter_map]
  refine congrArg _ (congrArg _ (List.filter_congr fun q _ => ?_))
  show (!(q.1 == i) && (!(q.1 == i + 1) && !(q.1 + 1 == i && (jw_rv g q.2).category == 2))) = _
  rw [jw_cat]
theorem jr_istore_n {k : Fin 4} {i : Nat} {x : Int32} {lv' : List (Nat × jw_V)} (hd : decode mt.2.1 pc = .ok (.istore_n k, 1)) (hi : (k : Nat) = i) (hn : i < mt.2.2.1) (hl : jw_st1 lv i (vi x) = lv') (h : jw_J d mt (pc + 1) lv' st M Q) : jw_J d mt pc lv (vi x :: st) M Q := by
  intro l g p e s m args below meth c C H locs ls hP hS hlv
  obtain ⟨hI, hx, hb, hml, hr, hlocks, hown, hts, hK⟩ := id C
  subst hl
  exact lv_istore_n hx hb hd hi hlv hn (jw_lv1 g i (vi x)) (fun ls' hl' => h l g p e s m args below meth c C H locs ls' hP hS hl')
theorem jr_istore {i : Nat} {x : Int32} {lv' : List (Nat × jw_V)} (hd : decode mt.2.1 pc = .ok (.istore i, 2)) (hn : i < mt.2.2.1) (hl : jw_st1 lv i (vi x) = lv') (h : jw_J d mt (pc + 2) lv' st M Q) : jw_J d mt pc lv (vi x :: st) M Q := by
  intro l g p e s m args below meth c C H locs ls hP hS hlv
  obtain ⟨hI, hx, hb, hml, hr, hlocks, hown, hts, hK⟩ := id C
  subst hl
  exact lv_istore hx hb hd hlv hn (jw_lv1 g i (vi x)) (fun ls' hl' => h l g p e s m args below meth c C H locs ls' hP hS hl')
theorem jr_lstore_n {k : Fin 4} {i : Nat} {x : Int64} {lv' : List (Nat × jw_V)} (hd : decode mt.2.1 pc = .ok (.lstore_n k, 1)) (hi : (k : Nat) = i) (hn : i + 1 < mt.2.2.1) (hl : jw_st2 lv i (vl x) = lv') (h : jw_J d mt (pc + 1) lv' st M Q) : jw_J d mt pc lv (vl x :: st) M Q := by
  intro l g p e s m args below meth c C H locs ls hP hS hlv
  obtain ⟨hI, hx, hb, hml, hr, hlocks, hown, hts, hK⟩ := id C
  subst hl
  exact lv_lstore_n hx hb hd hi hlv hn (jw_lv2 g i (vl x)) (fun ls' hl' => h l g p e s m args below meth c C H locs ls' hP hS hl')
theorem jr_lstore {i : Nat} {x : Int64} {lv' : List (Nat × jw_V)} (hd : decode mt.2.1 pc = .ok (.lstore i, 2)) (hn : i + 1 < mt.2.2.1) (hl : jw_st2 lv i (vl x) = lv') (h : jw_J d mt (pc + 2) lv' st M Q) : jw_J d mt pc lv (vl x :: st) M Q := by
  intro l g p e s m args below meth c C H locs ls hP hS hlv
  obtain ⟨hI, hx, hb, hml, hr, hlocks, hown, hts, hK⟩ := id C
  subst hl
  exact lv_lstore hx hb hd hlv hn (jw_lv2 g i (vl x)) (fun ls' hl' => h l g p e s m args below meth c C H locs ls' hP hS hl')
theorem jr_astore_n {k : Fin 4} {i : Nat} {k0 n0 : Nat} {lv' : List (Nat × jw_V)} (hd : decode mt.2.1 pc = .ok (.astore_n k, 1)) (hi : (k : Nat) = i) (hn : i < mt.2.2.1) (hl : jw_st1 lv i (vr k0 n0) = lv') (h : jw_J d mt (pc + 1) lv' st M Q) : jw_J d mt pc lv (vr k0 n0 :: st) M Q := by
  intro l g p e s m args below meth c C H locs ls hP hS hlv
  obtain ⟨hI, hx, hb, hml, hr, hlocks, hown, hts, hK⟩ := id C
  subst hl
  exact lv_astore_n hx hb hd hi hlv hn (jw_lv1 g i (vr k0 n0)) (fun ls' hl' => h l g p e s m args below meth c C H locs ls' hP hS hl')
theorem jr_astore {i : Nat} {k0 n0 : Nat} {lv' : List (Nat × jw_V)} (hd : decode mt.2.1 pc = .ok (.astore i, 2)) (hn : i < mt.2.2.1) (hl : jw_st1 lv i (vr k0 n0) = lv') (h : jw_J d mt (pc + 2) lv' st M Q) : jw_J d mt pc lv (vr k0 n0 :: st) M Q := by
  intro l g p e s m args below meth c C H locs ls hP hS hlv
  obtain ⟨hI, hx, hb, hml, hr, hlocks, hown, hts, hK⟩ := id C
  subst hl
  exact lv_astore hx hb hd hlv hn (jw_lv1 g i (vr k0 n0)) (fun ls' hl' => h l g p e s m args below meth c C H locs ls' hP hS hl')
theorem jr_iinc {i q : Nat} {n : Int} {x v : Int32} {lv' : List (Nat × jw_V)} (hd : decode mt.2.1 pc = .ok (.iinc i n, 3)) (hq : lv[q]? = some (i, vi x)) (hv : x + Int32.ofInt n = v) (hn : i < mt.2.2.1) (hl : jw_st1 lv i (vi v) = lv') (h : jw_J d mt (pc + 3) lv' st M Q) : jw_J d mt pc lv st M Q := by
  intro l g p e s m args below meth c C H locs ls hP hS hlv
  obtain ⟨hI, hx, hb, hml, hr, hlocks, hown, hts, hK⟩ := id C
  subst hl
  exact lv_iinc hx hb hd hlv (k := q) (by unfold jw_lv; rw [List.getElem?_map, hq]; rfl) hv hn (jw_lv1 g i (vi v)) (fun ls' hl' => h l g p e s m args below meth c C H locs ls' hP hS hl')
theorem jw_in {w : Cond} {args : Array Value} {s : State} {c0 : Cond} (hts : ∀ w ∈ (c0 :: jw_words), w.before args s = true) (h : w ∈ lw_tbl) (hg : goodWord w = true) : w.before args s = true := hts w (List.mem_cons_of_mem _ (List.mem_filter.mpr ⟨h, hg⟩))
theorem jr_ldc {index : Nat} {v : Int32} (hw : Cond.constant mt.1.cls index v ∈ lw_tbl) (hd : decode mt.2.1 pc = .ok (.ldc index, 2)) (h : jw_J d mt (pc + 2) lv (vi v :: st) M Q) : jw_J d mt pc lv st M Q := by
  intro l g p e s m args below meth c C H locs ls hP hS hlv
  obtain ⟨hI, hx, hb, hml, hr, hlocks, hown, hts, hK⟩ := id C
  exact lv_ldc hx hb hown (jw_in hts hw rfl) hd (h l g p e s m args below meth c C H locs ls hP hS hlv)
theorem jr_ldcw {index : Nat} {v : Int32} (hw : Cond.constant mt.1.cls index v ∈ lw_tbl) (hd : decode mt.2.1 pc = .ok (.ldc_w index, 3)) (h : jw_J d mt (pc + 3) lv (vi v :: st) M Q) : jw_J d mt pc lv st M Q := by
  intro l g p e s m args below meth c C H locs ls hP hS hlv
  obtain ⟨hI, hx, hb, hml, hr, hlocks, hown, hts, hK⟩ := id C
  exact lv_ldcw hx hb hown (jw_in hts hw rfl) hd (h l g p e s m args below meth c C H locs ls hP hS hlv)
theorem jr_ldc2 {index : Nat} {v : Int64} (hw : Cond.constantLong mt.1.cls index v ∈ lw_tbl) (hd : decode mt.2.1 pc = .ok (.ldc2_w index, 3)) (h : jw_J d mt (pc + 3) lv (vl v :: st) M Q) : jw_J d mt pc lv st M Q := by
  intro l g p e s m args below meth c C H locs ls hP hS hlv
  obtain ⟨hI, hx, hb, hml, hr, hlocks, hown, hts, hK⟩ := id C
  exact lv_ldc2 hx hb hown (jw_in hts hw rfl) hd (h l g p e s m args below meth c C H locs ls hP hS hlv)
theorem jr_tsw {dflt lo hi : Int} {offs : Array Int} {len : Nat} {x : Int32} (hd : decode mt.2.1 pc = .ok (.tableswitch dflt lo hi offs, len)) {tgt : Nat} (ht : (pc : Int) + dflt = (tgt : Int)) (hlo : lo ≤ hi + 1) (hout : x.toInt < lo ∨ hi < x.toInt → jw_J d mt tgt lv st M Q) (hin : ∀ j : Nat, x.toInt = lo + j → lo + j ≤ hi → ∃ (off : Int) (t : Nat), offs[j]? = some off ∧ (pc : Int) + off = (t : Int) ∧ jw_J d mt t lv st M Q) : jw_J d mt pc lv (vi x :: st) M Q := by
  intro l g p e s m args below meth c C H locs ls hP hS hlv
  obtain ⟨hI, hx, hb, hml, hr, hlocks, hown, hts, hK⟩ := id C
  by_cases h1 : x.toInt < lo
  · exact lv_tableOut hx hb hd (Or.inl h1) ht (hout (Or.inl h1) l g p e s m args below meth c C H locs ls hP hS hlv)
  · by_cases h2 : hi < x.toInt
    · exact lv_tableOut hx hb hd (Or.inr h2) ht (hout (Or.inr h2) l g p e s m args below meth c C H locs ls hP hS hlv)
    · obtain ⟨off, t, ho, ht2, hJ⟩ := hin (x.toInt - lo).toNat (by omega) (by omega)
      exact lv_tableIn hx hb hd h1 h2 ho ht2 (hJ l g p e s m args below meth c C H locs ls hP hS hlv)
/-! fields -/
/-- the table's words on a field: class k, field j -/
def jw_F (own : String) (idx k j : Nat) : Prop := ∃ (C : String) (T : u_T) (N : Nat), vwCl[k]? = some (C, T, N) ∧ jw_tag k = 0 ∧ jw_nfl k = N ∧ j < N ∧ (∀ w ∈ u_ws C T N, w ∈ jw_words) ∧ Cond.fieldLink own idx (T j).1 (T j).2.1 (T j).2.2.1 ∈ lw_tbl
theorem jw_cel0 {g : jw_G} {k : Nat} (ht : jw_tag k = 0) (M : jw_Mem) (n : Nat) : jw_cel g M k n = .inr (k, (List.range (jw_nfl k)).map (fun j => jw_rv g (jw_fv M k n j))) := by unfold jw_cel; rw [ht]; rfl
theorem jr_get {k n j idx : Nat} {v : jw_V} (hF : jw_F mt.1.cls idx k j) (hn : n < jw_cnt k) (hv : jw_fv M k n j = v) (hd : decode mt.2.1 pc = .ok (.getfield idx, 3)) (h : jw_J d mt (pc + 3) lv (v :: st) M Q) : jw_J d mt pc lv (vr k n :: st) M Q := by
  intro l g p e s m args below meth c C H locs ls hP hS hlv
  obtain ⟨hI, hx, hb, hml, hr, hlocks, hown, hts, hK⟩ := id C
  obtain ⟨C0, T, N, h1, h2, h3, h4, h5, h6⟩ := hF
  obtain ⟨q, -, hq⟩ := jw_at g M hn
  rw [jw_cel0 h2] at hq
  subst hv
  exact va_get hx hb hts (fun w hw => List.mem_cons_of_mem _ (h5 w hw)) hown hK.1 hP q hq h1 j h4 (jw_in hts h6 rfl) (fun _ h9 => h9) (by rw [List.getElem?_map, List.getElem?_range (by rw [h3]; exact h4)]; rfl) hd (h l g p e s m args below meth c C H locs ls hP hS hlv)
def jw_FP (own : String) (idx k j : Nat) : Prop := jw_F own idx k j ∧ ∃ (C : String) (T : u_T) (N : Nat) (ty0 : Nat → FieldType) (ty : FieldType), vwCl[k]? = some (C, T, N) ∧ (∀ k, k < N → parseFieldDescriptor (T k).2.2.1 = some (ty0 k)) ∧ (∀ a, a < N → ∀ b, b < N → a ≠ b → (T a).2.1 ≠ (T b).2.1) ∧ (T j).2.2.2 = false ∧ parseFieldDescriptor (T j).2.2.1 = some ty ∧ (ty = .int ∨ ty = .boolean) ∧ ∀ n, jw_sh k n j = none
def jw_FI (k j : Nat) : Prop := ∃ (C : String) (T : u_T) (N : Nat), vwCl[k]? = some (C, T, N) ∧ parseFieldDescriptor (T j).2.2.1 = some .int
theorem jw_cel_upf {g : jw_G} {k n j : Nat} {v : Int32} (ht : jw_tag k = 0) (hs : jw_sh k n j = none) (hj : j < jw_nfl k) : jw_cel g (jw_up M k n j v) k n = .inr (k, ((List.range (jw_nfl k)).map (fun j => jw_rv g (jw_fv M k n j))).set j (.int v)) := by
  rw [jw_cel0 ht]
  refine congrArg (fun z => Sum.inr (k, z)) (List.ext_getElem? fun i => ?_)
  rw [List.getElem?_set, List.getElem?_map, List.getElem?_map]
  by_cases hi : j = i
  · subst hi
    rw [if_pos rfl, if_pos (by rw [List.length_map, List.length_range]; exact hj), List.getElem?_range hj]
    show some (jw_rv g (jw_fv (jw_up M k n j v) k n j)) = _
    unfold jw_fv
    rw [hs]
    show some (Value.int (jw_up M k n j v k n j)) = _
    unfold jw_up
    rw [if_pos ⟨rfl, rfl, rfl⟩]
  · rw [if_neg hi]
    cases hc : (List.range (jw_nfl k))[i]? with
    | none => rfl
    | some i' =>
      have : i' = i := by
        obtain ⟨h1, h2⟩ := List.getElem?_eq_some_iff.mp hc
        rw [List.getElem_range] at h2
        exact h2.symm
      subst this
      show some (jw_rv g (jw_fv (jw_up M k n j v) k n i')) = some (jw_rv g (jw_fv M k n i'))
      unfold jw_fv
      cases jw_sh k n i' with
      | none =>
        show some (Value.int (jw_up M k n j v k n i')) = some (Value.int (M k n i'))
        unfold jw_up
        rw [if_neg]
        rintro ⟨-, -, e⟩
        exact hi e.symm
      | some q => rfl
theorem jr_put {k n j idx : Nat} {v : Int32} (hF : jw_FP mt.1.cls idx k j) (hn : n < jw_cnt k) (hv : jw_FI k j ∨ v = 0 ∨ v = 1) (hd : decode mt.2.1 pc = .ok (.putfield idx, 3)) (h : jw_J d mt (pc + 3) lv st (jw_up M k n j v) Q) : jw_J d mt pc lv (vi v :: vr k n :: st) M Q := by
  intro l g p e s m args below meth c C H locs ls hP hS hlv
  obtain ⟨hI, hx, hb, hml, hr, hlocks, hown, hts, hK⟩ := id C
  obtain ⟨⟨C0, T, N, h1, h2, h3, h4, h5, h6⟩, C1, T1, N1, ty0, ty, g1, g2, g3, g4, g5, g6, g7⟩ := hF
  cases (Option.some.inj (h1.symm.trans g1))
  obtain ⟨q, hq0, hq⟩ := jw_at g M hn
  rw [jw_cel0 h2] at hq
  have hnar : narrow ty (.int v) = .int v ∧ fits ty (.int v) = true := by
    rcases g6 with rfl | rfl
    · exact ⟨rfl, rfl⟩
    · rcases hv with ⟨C2, T2, N2, e1, e2⟩ | rfl | rfl
      · cases (Option.some.inj (h1.symm.trans e1))
        rw [g5] at e2
        cases e2
      · exact ⟨by decide +kernel, by decide +kernel⟩
      · exact ⟨by decide +kernel, by decide +kernel⟩
  refine va_put (v := .int v) hx hb hts (fun w hw => List.mem_cons_of_mem _ (h5 w hw)) ty0 g2 g3 hown hK.1 hP (jw_D hI M) hS q hq h1 j h4 (jw_in hts h6 rfl) (fun _ h9 => h9) g4 g5 hnar.1 hnar.2 (by rw [List.length_map, List.length_range, h3]; exact h4) hd (fun H1 locs1 hP1 _ hS1 => ?_)
  rw [jw_set hq0 (jw_cel_upf (v := v) h2 (g7 n) (by rw [h3]; exact h4)) jw_up_other] at hP1
  exact h l g p e s m args below meth c C H1 locs1 ls hP1 hS1 hlv
/-! arrays -/
theorem jw_cel1 {g : jw_G} {k : Nat} (ht : jw_tag k = 1) (M : jw_Mem) (n : Nat) : jw_cel g M k n = .inl (g.2.2.1 0, jw_len k, .inl (M k n)) := by unfold jw_cel; rw [ht]; rfl
theorem jw_cel2 {g : jw_G} {k : Nat} (ht : jw_tag k = 2) (M : jw_Mem) (n : Nat) : jw_cel g M k n = .inl (g.2.2.1 1, jw_len k, .inl (M k n)) := by unfold jw_cel; rw [ht]; rfl
theorem jw_up_row (M : jw_Mem) (k n j : Nat) (v : Int32) : jw_up M k n j v k n = upd (M k n) j v := by
  funext i
  unfold jw_up upd
  by_cases h : i = j
  · simp [h]
  · simp [h]
/-- a valid int array -/
def jw_a (k n : Nat) : Prop := jw_tag k = 1 ∧ n < jw_cnt k
def jw_b (k n : Nat) : Prop := jw_tag k = 2 ∧ n < jw_cnt k
theorem jr_iald {k n : Nat} {i : Int32} (ha : jw_a k n) (hin : vp_in i (jw_len k)) (hd : decode mt.2.1 pc = .ok (.iaload, 1)) (h : jw_J d mt (pc + 1) lv (vi (M k n i.toNatClampNeg) :: st) M Q) : jw_J d mt pc lv (vi i :: vr k n :: st) M Q := by
  intro l g p e s m args below meth c C H locs ls hP hS hlv
  obtain ⟨hI, hx, hb, hml, hr, hlocks, hown, hts, hK⟩ := id C
  obtain ⟨q, -, hq⟩ := jw_at g M ha.2
  rw [jw_cel1 ha.1] at hq
  exact va_iald hx hb hK.1 hP q 0 hq rfl hin hd (h l g p e s m args below meth c C H locs ls hP hS hlv)
theorem jr_iast {k n : Nat} {i x : Int32} (ha : jw_a k n) (hin : vp_in i (jw_len k)) (hd : decode mt.2.1 pc = .ok (.iastore, 1)) (h : jw_J d mt (pc + 1) lv st (jw_up M k n i.toNatClampNeg x) Q) : jw_J d mt pc lv (vi x :: vi i :: vr k n :: st) M Q := by
  intro l g p e s m args below meth c C H locs ls hP hS hlv
  obtain ⟨hI, hx, hb, hml, hr, hlocks, hown, hts, hK⟩ := id C
  obtain ⟨q, hq0, hq⟩ := jw_at g M ha.2
  rw [jw_cel1 ha.1] at hq
  refine va_iast hx hb hK.1 hP (jw_D hI M) hS q 0 hq rfl hin hd (fun H1 locs1 hP1 _ hS1 => ?_)
  rw [jw_set (M2 := jw_up M k n i.toNatClampNeg x) hq0 (by rw [jw_cel1 ha.1, jw_up_row]) jw_up_other] at hP1
  exact h l g p e s m args below meth c C H1 locs1 ls hP1 hS1 hlv
theorem jr_zald {k n : Nat} {i : Int32} (ha : jw_b k n) (hin : vp_in i (jw_len k)) (hd : decode mt.2.1 pc = .ok (.baload, 1)) (h : jw_J d mt (pc + 1) lv (vi (M k n i.toNatClampNeg) :: st) M Q) : jw_J d mt pc lv (vi i :: vr k n :: st) M Q := by
  intro l g p e s m args below meth c C H locs ls hP hS hlv
  obtain ⟨hI, hx, hb, hml, hr, hlocks, hown, hts, hK⟩ := id C
  obtain ⟨q, -, hq⟩ := jw_at g M ha.2
  rw [jw_cel2 ha.1] at hq
  exact va_zald hx hb hK.1 hP q 1 hq rfl hin hd (h l g p e s m args below meth c C H locs ls hP hS hlv)
theorem jr_zast {k n : Nat} {i x : Int32} (ha : jw_b k n) (hin : vp_in i (jw_len k)) (hd : decode mt.2.1 pc = .ok (.bastore, 1)) (h : jw_J d mt (pc + 1) lv st (jw_up M k n i.toNatClampNeg (vp_nar .boolean x)) Q) : jw_J d mt pc lv (vi x :: vi i :: vr k n :: st) M Q := by
  intro l g p e s m args below meth c C H locs ls hP hS hlv
  obtain ⟨hI, hx, hb, hml, hr, hlocks, hown, hts, hK⟩ := id C
  obtain ⟨q, hq0, hq⟩ := jw_at g M ha.2
  rw [jw_cel2 ha.1] at hq
  refine va_zast hx hb hK.1 hP (jw_D hI M) hS q 1 hq rfl hin hd (fun H1 locs1 hP1 _ hS1 => ?_)
  rw [jw_set (M2 := jw_up M k n i.toNatClampNeg (vp_nar .boolean x)) hq0 (by rw [jw_cel2 ha.1, jw_up_row]) jw_up_other] at hP1
  exact h l g p e s m args below meth c C H1 locs1 ls hP1 hS1 hlv
theorem jr_ring {n : Nat} {i : Int32} (hn : n < jw_cnt 21) (hin : vp_in i 16) (hd : decode mt.2.1 pc = .ok (.aaload, 1)) (h : jw_J d mt (pc + 1) lv (vr 8 (2 + i.toNatClampNeg) :: st) M Q) : jw_J d mt pc lv (vi i :: vr 21 n :: st) M Q := by
  intro l g p e s m args below meth c C H locs ls hP hS hlv
  obtain ⟨hI, hx, hb, hml, hr, hlocks, hown, hts, hK⟩ := id C
  obtain ⟨q, -, hq⟩ := jw_at g M hn
  exact va_aldq hx hb hK.1 hP q 3 hq rfl hin hd (h l g p e s m args below meth c C H locs ls hP hS hlv)
theorem jr_imgs {n : Nat} {i : Int32} (hn : n < jw_cnt 35) (hin : vp_in i 2) (hd : decode mt.2.1 pc = .ok (.aaload, 1)) (h : jw_J d mt (pc + 1) lv (vr 4 i.toNatClampNeg :: st) M Q) : jw_J d mt pc lv (vi i :: vr 35 n :: st) M Q := by
  intro l g p e s m args below meth c C H locs ls hP hS hlv
  obtain ⟨hI, hx, hb, hml, hr, hlocks, hown, hts, hK⟩ := id C
  obtain ⟨q, -, hq⟩ := jw_at g M hn
  exact va_aldq hx hb hK.1 hP q 4 hq rfl hin hd (h l g p e s m args below meth c C H locs ls hP hS hlv)
theorem jr_wrth {n : Nat} {i : Int32} (hn : n < jw_cnt 22) (hin : vp_in i 7) (hd : decode mt.2.1 pc = .ok (.aaload, 1)) (h : jw_J d mt (pc + 1) lv (vr 24 i.toNatClampNeg :: st) M Q) : jw_J d mt pc lv (vi i :: vr 22 n :: st) M Q := by
  intro l g p e s m args below meth c C H locs ls hP hS hlv
  obtain ⟨hI, hx, hb, hml, hr, hlocks, hown, hts, hK⟩ := id C
  obtain ⟨q, -, hq⟩ := jw_at g M hn
  have ha : (jw_ws g M)[q]? = some (g.2.1 22 n, .inl (g.2.2.1 2, 7, .inr (.inr (.inr (.inr (fun i => some (g.2.1 24 i))))))) := hq
  have hlt : i.toNatClampNeg < 7 := Nat.not_le.mp fun q => hin (Or.inr q)
  exact W.aald (v := va_rf (some (g.2.1 24 i.toNatClampNeg))) (ty := .array .int) hx hb (hP q _ ha) ((hK.1.2 2 _ rfl).1 7 (fun j => va_rf (some (g.2.1 24 j)))) rfl (fun q => by cases q) (by show ¬ (i < 0 ∨ (arrV _ _ _).slots.size ≤ _); rw [arrV_size]; exact hin) (by show (arrV _ _ _).slots[_]? = _; rw [arrV_read _ _ hlt]) rfl rfl hd (h l g p e s m args below meth c C H locs ls hP hS hlv)
theorem jr_alen {k n : Nat} (ht : 1 ≤ jw_tag k ∧ jw_tag k ≤ 5) (hn : n < jw_cnt k) (hd : decode mt.2.1 pc = .ok (.arraylength, 1)) (h : jw_J d mt (pc + 1) lv (vi (nI (jw_len k)) :: st) M Q) : jw_J d mt pc lv (vr k n :: st) M Q := by
  intro l g p e s m args below meth c C H locs ls hP hS hlv
  obtain ⟨hI, hx, hb, hml, hr, hlocks, hown, hts, hK⟩ := id C
  obtain ⟨q, -, hq⟩ := jw_at g M hn
  have hc : ∃ (t : Nat) (x : vp_A) (ty : FieldType), jw_cel g M k n = .inl (g.2.2.1 t, x) ∧ x.1 = jw_len k ∧ (jw_tys g)[t]? = some (g.2.2.1 t, ty) := by
    have h5 : jw_tag k = 1 ∨ jw_tag k = 2 ∨ jw_tag k = 3 ∨ jw_tag k = 4 ∨ jw_tag k = 5 := by omega
    unfold jw_cel
    rcases h5 with e | e | e | e | e <;> rw [e]
    · exact ⟨0, _, .int, rfl, rfl, rfl⟩
    · exact ⟨1, _, .boolean, rfl, rfl, rfl⟩
    · exact ⟨2, _, .array .int, rfl, rfl, rfl⟩
    · exact ⟨3, _, .object "StatueVotes$State", rfl, rfl, rfl⟩
    · exact ⟨4, _, .object "StatueVotes$Image", rfl, rfl, rfl⟩
  obtain ⟨t, x, ty, e1, e2, e3⟩ := hc
  rw [e1] at hq
  exact va_alen hx hb hK.1 hP q t hq e3 (by rw [e2]; rfl) hd (h l g p e s m args below meth c C H locs ls hP hS hlv)
/-! the static ORDERS: the reference vr 62 0 -/
theorem jr_ords {idx : Nat} (hown0 : mt.1.cls = RX6) (hw : Cond.fieldLink RX6 idx "StatueVotes$Polls" "ORDERS" "[I" ∈ lw_tbl) (hd : decode mt.2.1 pc = .ok (.getstatic idx, 3)) (hd2 : decode mt.2.1 (pc + 3) = .ok (.arraylength, 1)) (h : jw_J d mt (pc + 4) lv (vi 8 :: st) M Q) : jw_J d mt pc lv st M Q := by
  intro l g p e s m args below meth c C H locs ls hP hS hlv
  obtain ⟨hI, hx, hb, hml, hr, hlocks, hown, hts, hK⟩ := id C
  rw [hown0] at hown
  refine va_gets hx hb hK.2.2.1 hS hown (jw_in hts hw rfl) (fun _ h9 => h9) hd ?_
  obtain ⟨cell, t1, t2, t3, t4, t5, t6, t7⟩ := hK.2.2.2
  exact W.alen (n := 8) hx hb (by rw [hS.2.1 _ (Array.getElem?_eq_some_iff.mp t1).1 t7]; exact t1) t2 t5 rfl rfl hd2 (h l g p e s m args below meth c C H locs ls hP hS hlv)
/-- ORDERS[i], i a local -/
theorem jr_ordi {idx i0 q : Nat} {k : Fin 4} {i : Int32} (hown0 : mt.1.cls = RX6) (hw : Cond.fieldLink RX6 idx "StatueVotes$Polls" "ORDERS" "[I" ∈ lw_tbl) (hd : decode mt.2.1 pc = .ok (.getstatic idx, 3)) (hd1 : decode mt.2.1 (pc + 3) = .ok (.iload_n k, 1)) (hi : (k : Nat) = i0) (hq : lv[q]? = some (i0, vi i)) (hin : vp_in i 8) (hd2 : decode mt.2.1 (pc + 4) = .ok (.iaload, 1)) (h : jw_J d mt (pc + 5) lv (vi (jw_ord i.toNatClampNeg) :: st) M Q) : jw_J d mt pc lv st M Q := by
  intro l g p e s m args below meth c C H locs ls hP hS hlv
  obtain ⟨hI, hx, hb, hml, hr, hlocks, hown, hts, hK⟩ := id C
  rw [hown0] at hown
  refine va_gets hx hb hK.2.2.1 hS hown (jw_in hts hw rfl) (fun _ h9 => h9) hd ?_
  refine lv_iload_n hx hb hd1 hi (jw_lvat hlv q hq) ?_
  exact va_ti hx hb hK.2.2.2 hS hin rfl hd2 (h l g p e s m args below meth c C H locs ls hP hS hlv)
/-! the JDK's own -/
theorem jr_mmax {idx : Nat} {x y : Int32} (hw : Cond.methodLink mt.1.cls idx Lib.Math.max.name ∈ lw_tbl) (hcat : (st.map fun v => (match v with | .inr (.inl _) => 2 | _ => 1)).sum ≤ 8) (h1d : 1 ≤ d) (hd : decode mt.2.1 pc = .ok (.invokestatic idx, 3)) (h : jw_J d mt (pc + 3) lv (vi (if x < y then y else x) :: st) M Q) : jw_J d mt pc lv (vi y :: vi x :: st) M Q := by
  intro l g p e s m args below meth c C H locs ls hP hS hlv
  obtain ⟨hI, hx, hb, hml, hr, hlocks, hown, hts, hK⟩ := id C
  have ec : ((st.map (jw_rv g)).map fun v => v.category) = (st.map fun v => (match v with | .inr (.inl _) => 2 | _ => 1)) := by
    rw [List.map_map]
    refine List.map_congr_left fun v _ => ?_
    rcases v with x | x | ⟨k, n⟩ <;> rfl
  exact va_mmax hx hb (by rw [hml, hlv.1]) hown (jw_in hts hw rfl) (jw_in hts (by decide +kernel) rfl) (jw_in hts (by decide +kernel) rfl) (jw_in hts (by decide +kernel) rfl) (by show 1 ≤ d; exact h1d) (by rw [ec]; show _ + 13 ≤ 29 * d; omega) (Nat.le_refl _) (Nat.le_refl _) hd (h l g p e s m args below meth c C H locs ls hP hS hlv)
theorem jr_mmin {idx : Nat} {x y : Int32} (hw : Cond.methodLink mt.1.cls idx Lib.Math.min.name ∈ lw_tbl) (hcat : (st.map fun v => (match v with | .inr (.inl _) => 2 | _ => 1)).sum ≤ 8) (h1d : 1 ≤ d) (hd : decode mt.2.1 pc = .ok (.invokestatic idx, 3)) (h : jw_J d mt (pc + 3) lv (vi (if y < x then y else x) :: st) M Q) : jw_J d mt pc lv (vi y :: vi x :: st) M Q := by
  intro l g p e s m args below meth c C H locs ls hP hS hlv
  obtain ⟨hI, hx, hb, hml, hr, hlocks, hown, hts, hK⟩ := id C
  have ec : ((st.map (jw_rv g)).map fun v => v.category) = (st.map fun v => (match v with | .inr (.inl _) => 2 | _ => 1)) := by
    rw [List.map_map]
    refine List.map_congr_left fun v _ => ?_
    rcases v with x | x | ⟨k, n⟩ <;> rfl
  exact va_mmin hx hb (by rw [hml, hlv.1]) hown (jw_in hts hw rfl) (jw_in hts (by decide +kernel) rfl) (jw_in hts (by decide +kernel) rfl) (jw_in hts (by decide +kernel) rfl) (by show 1 ≤ d; exact h1d) (by rw [ec]; show _ + 13 ≤ 29 * d; omega) (Nat.le_refl _) (Nat.le_refl _) hd (h l g p e s m args below meth c C H locs ls hP hS hlv)
theorem jr_copy {idx k0 n0 k1 n1 : Nat} {n : Int32} (ha0 : jw_a k0 n0) (ha1 : jw_a k1 n1) (hw : Cond.methodLink mt.1.cls idx arraycopyName ∈ lw_tbl) (hn : ¬ n < 0) (h4 : n.toNatClampNeg ≤ jw_len k0) (h5 : n.toNatClampNeg ≤ jw_len k1) (h1d : 1 ≤ d) (hd : decode mt.2.1 pc = .ok (.invokestatic idx, 3)) (h : jw_J d mt (pc + 3) lv [] (jw_row M k1 n1 (va_cpy (M k0 n0) (M k1 n1) 0 0 n.toNatClampNeg)) Q) : jw_J d mt pc lv [vi n, vi 0, vr k1 n1, vi 0, vr k0 n0] M Q := by
  intro l g p e s m args below meth c C H locs ls hP hS hlv
  obtain ⟨hI, hx, hb, hml, hr, hlocks, hown, hts, hK⟩ := id C
  obtain ⟨q0, hq00, hq0⟩ := jw_at g M ha0.2
  rw [jw_cel1 ha0.1] at hq0
  obtain ⟨q1, hq10, hq1⟩ := jw_at g M ha1.2
  rw [jw_cel1 ha1.1] at hq1
  have z : (0 : Int32).toNatClampNeg = 0 := by decide
  have hnw : nativeFrameWords "java/lang/System" "arraycopy" 5 ≤ 18 := by decide +kernel
  have hfr : 1 ≤ (jw_R d).frames := h1d
  have hlo : (([] : List Value).map fun v => v.category).sum + (nativeFrameWords "java/lang/System" "arraycopy" 5 + 11) ≤ (jw_R d).locals := by
    show 0 + (nativeFrameWords "java/lang/System" "arraycopy" 5 + 11) ≤ 29 * d
    omega
  have n0' : ¬ (0 : Int32) < 0 := by decide
  refine va_copyi (R := jw_R d) (rest := []) (ty := .int) (sp := 0) (dp := 0) (n := n) hx hb (by rw [hml, hlv.1]) hown (jw_in hts hw rfl) (jw_in hts (by decide +kernel) rfl) (jw_in hts (by decide +kernel) rfl) (jw_in hts (by decide +kernel) rfl) hK.1 hP (jw_D hI M) hS q0 q1 0 0 hq0 hq1 rfl rfl rfl n0' n0' hn (by rw [z]; omega) (by rw [z]; omega) (fun _ _ => rfl) hfr hlo hd (fun H1 locs1 hP1 _ hS1 => ?_)
  rw [z] at hP1
  rw [jw_set (M2 := jw_row M k1 n1 (va_cpy (M k0 n0) (M k1 n1) 0 0 n.toNatClampNeg)) hq10 (by rw [jw_cel1 ha1.1]; unfold jw_row; simp) jw_row_other] at hP1
  exact h l g p e s m args below meth c C H1 locs1 ls hP1 hS1 hlv
/-! returns -/
theorem jr_iret {x : Int32} (hr0 : mt.2.2.2 = some .int) (hd : decode mt.2.1 pc = .ok (.ireturn, 1)) (h : Q x M) : jw_J d mt pc lv [vi x] M Q := by
  intro l g p e s m args below meth c C H locs ls hP hS hlv
  obtain ⟨hI, hx, hb, hml, hr, hlocks, hown, hts, hK⟩ := id C
  rw [hr0] at hr
  exact W.iret (v := x) hx hb hr (fun t ht hW => ⟨⟨x, M, by rw [hr0]; rfl, h, by rw [ht]; exact hP⟩, hS.F ht⟩) hS.2.2 hd hlocks
theorem jr_zret {x : Int32} (hr0 : mt.2.2.2 = some .boolean) (hd : decode mt.2.1 pc = .ok (.ireturn, 1)) (hz : x = 0 ∨ x = 1) (h : Q x M) : jw_J d mt pc lv [vi x] M Q := by
  intro l g p e s m args below meth c C H locs ls hP hS hlv
  obtain ⟨hI, hx, hb, hml, hr, hlocks, hown, hts, hK⟩ := id C
  rw [hr0] at hr
  exact W.zret (v := x) (ty := .boolean) hx hb hr (by rcases hz with rfl | rfl <;> decide +kernel) (fun t ht hW => ⟨⟨x, M, by rw [hr0]; rfl, h, by rw [ht]; exact hP⟩, hS.F ht⟩) hS.2.2 hd hlocks
theorem jr_vret (hr0 : mt.2.2.2 = none) (hd : decode mt.2.1 pc = .ok (.return_, 1)) (h : Q 0 M) : jw_J d mt pc lv [] M Q := by
  intro l g p e s m args below meth c C H locs ls hP hS hlv
  obtain ⟨hI, hx, hb, hml, hr, hlocks, hown, hts, hK⟩ := id C
  rw [hr0] at hr
  exact W.vret hx hb hr (fun t ht hW => ⟨⟨0, M, by rw [hr0]; rfl, h, by rw [ht]; exact hP⟩, hS.F ht⟩) hS.2.2 hd hlocks
/-! entry and calls -/
def jw_args : Nat → List jw_V → List (Nat × jw_V)
  | _, [] => []
  | i, v :: vs => (i, v) :: jw_args (match v with | .inr (.inl _) => i + 2 | _ => i + 1) vs
def jw_words1 (vs : List jw_V) : Nat := (vs.map fun v => (match v with | .inr (.inl _) => 2 | _ => 1)).sum
theorem jw_args_rv (g : jw_G) : ∀ (vs : List jw_V) (i : Nat), lv_args i (vs.map (jw_rv g)) = jw_lv g (jw_args i vs)
  | [], _ => rfl
  | v :: vs, i => by
    rcases v with x | x | ⟨k, n⟩
    · exact congrArg (List.cons (i, Value.int x)) (jw_args_rv g vs (i + 1))
    · exact congrArg (List.cons (i, Value.long x)) (jw_args_rv g vs (i + 2))
    · exact congrArg (List.cons (i, Value.ref (g.2.1 k n))) (jw_args_rv g vs (i + 1))
theorem jw_sl_len (g : jw_G) : ∀ (vs : List jw_V), (lg_sl (vs.map (jw_rv g))).length = jw_words1 vs
  | [] => rfl
  | v :: vs => by
    have ih := jw_sl_len g vs
    unfold lg_sl jw_words1 at ih ⊢
    rw [List.map_cons, List.flatMap_cons, List.length_append, ih, List.map_cons, List.sum_cons]
    congr 1
    rcases v with x | x | ⟨k, n⟩ <;> rfl
theorem jw_M.of {as : List jw_V} (hy : plainName mt.1.cls = true) (hn : jw_words1 as ≤ mt.2.2.1) (h : jw_J d mt 0 (jw_args 0 as) [] M Q) : jw_M d mt as M Q := by
  intro l g hI
  refine Met.ofW (cc := mt.2.1) (maxL := mt.2.2.1) (ret := mt.2.2.2) hy rfl ?_
  intro p e s m args below meth c s₁ B hml hv
  obtain ⟨rfl, hP, hK⟩ := hv
  rw [lg_entry_eq]
  refine h l g p e s m _ below meth c ⟨hI, B.exec, B.bytes, hml, B.returns, B.notSynchronized, findClass_of_methodNamed B.named, atoms_spec B.pre, hK⟩ s.heap [] _ hP va_S.rf ?_
  rw [← jw_args_rv]
  exact lv_entry _ (by rw [jw_sl_len]; exact hn)
theorem jw_M.mono {as : List jw_V} {Q2 : Int32 → jw_Mem → Prop} (h : jw_M d mt as M Q) (hq : ∀ x M, Q x M → Q2 x M) : jw_M d mt as M Q2 := by
  intro l g hI p e ha hc hk s m args below hf happ hP hK
  obtain ⟨k, o, h1, h2, h3, ⟨⟨⟨x, M2, e1, e2, e3⟩, e4⟩, e5⟩⟩ := h l g hI p e ha hc hk s m args below hf happ hP hK
  exact ⟨k, o, h1, h2, h3, ⟨⟨⟨x, M2, e1, hq _ _ e2, e3⟩, e4⟩, e5⟩⟩
def jw_push (ret : Option FieldType) (x : Int32) (st : List jw_V) : List jw_V := match ret with
  | none => st
  | some _ => vi x :: st
/-- behind a call: any contract of ours -/
theorem jw_back {g : jw_G} {l : Launch} {p : Program} {e : Env} {s : State} {m : MethodId} {args : Array Value} {below : List Frame} {meth : Method} {c : Code} {H : Heap} {locs : List Loc} {ls : Array Slot} {ret : Option FieldType} {Qm : Int32 → jw_Mem → Prop} {a : Array Value} {st0 : List Value}
    (hr : va_Run p l e (jw_R d) s m args below meth c H locs 0 0 0 0 (F0 m pc ls st0) (st.map (jw_rv g)) (jw_Q g ret Qm a) (jw_A g)) (hS : va_S (jw_A g) s.heap H locs) {Z : State → Prop}
    (kk : ∀ (x : Int32) (M : jw_Mem) (H1 : Heap) (locs1 : List Loc), Qm x M → va_P g.1 vwCl (jw_ws g M) H1 → va_S (jw_A g) s.heap H1 locs1 → W p l e (jw_R d) s m args below meth c H1 locs1 0 0 Z (F0 m (pc + 3) ls ((jw_push ret x st).map (jw_rv g)))) : W p l e (jw_R d) s m args below meth c H locs 0 0 Z (F0 m pc ls st0) := by
  intro T hT X
  obtain ⟨v, st₀, t, T', L, h0, X', hL, e1, e2, ⟨⟨x, M2, hv, hq, hP⟩, hz, hk⟩, stp⟩ := hr T hT X
  rw [h0] at hz hk
  have hv : v = ret.map (fun _ => Value.int x) := by cases hv; rfl
  subst hv
  obtain ⟨t2, a1, b1⟩ := kk x M2 T'.heap (locs ++ L) hq (by rw [e1]; exact hP)
    ⟨Nat.le_trans hS.1 (by rw [e1]; exact hz), fun q h1 h2 => by rw [e1, hk q (Nat.lt_of_lt_of_le h1 hS.1) h2]; exact hS.2.1 q h1 h2, fun q hq => by
      rcases List.mem_append.mp hq with h | h
      · exact hS.2.2 q h
      · exact hL q h⟩ T' rfl X'
  refine ⟨t2, stp t2 ?_, b1⟩
  cases ret with
  | none => exact a1
  | some ty => exact a1
/-- the table's words on a call -/
def jw_CB (mt' : jw_Mt) (n : Nat) : Prop := Cond.code mt'.1 mt'.2.1 mt'.2.2.1 mt'.2.2.2 ∈ jw_words ∧ Cond.initialized mt'.1.cls ∈ lw_tbl ∧ (mt'.1.cls ≠ "java/lang/invoke/MethodHandle" ∧ mt'.1.cls ≠ "java/lang/invoke/VarHandle" ∧ (parseMethodDescriptor mt'.1.desc).map (fun d => d.parameters.length) = some n) ∧ mt'.2.2.1 ≤ 10
def jw_CV (own : String) (idx : Nat) (mt' : jw_Mt) (k n : Nat) : Prop := jw_CB mt' n ∧ Cond.methodLink own idx mt'.1 ∈ lw_tbl ∧ Cond.instanceMethod mt'.1 ∈ lw_tbl ∧ Cond.selects mt'.1.cls mt'.1 mt'.1 ∈ lw_tbl ∧ jw_tag k = 0 ∧ ∃ (T : u_T) (N : Nat), vwCl[k]? = some (mt'.1.cls, T, N)
def jw_CS (own : String) (idx : Nat) (mt' : jw_Mt) (n : Nat) : Prop := jw_CB mt' n ∧ Cond.methodLink own idx mt'.1 ∈ lw_tbl ∧ Cond.static mt'.1 ∈ lw_tbl
def jw_CN (own : String) (idx : Nat) (mt' : jw_Mt) (n : Nat) : Prop := jw_CB mt' n ∧ Cond.methodLinkNest own idx mt'.1 RX10 ∈ jw_nest ∧ Cond.static mt'.1 ∈ lw_tbl
theorem jw_goodIn {mt' : jw_Mt} {c0 : Cond} (h : Cond.code mt'.1 mt'.2.1 mt'.2.2.1 mt'.2.2.2 ∈ jw_words) : GoodIn (c0 :: jw_words) (.code mt'.1 mt'.2.1 mt'.2.2.1 mt'.2.2.2 :: jw_words) := by
  intro w hw
  have hw2 : w ∈ jw_words := by
    rcases List.mem_cons.mp hw with rfl | h2
    · exact h
    · exact h2
  exact ⟨List.mem_cons_of_mem _ hw2, good_of_word (List.mem_filter.mp hw2).2⟩
theorem jw_stcat (g : jw_G) (st : List jw_V) : ((st.map (jw_rv g)).map fun v => v.category) = (st.map fun v => (match v with | .inr (.inl _) => 2 | _ => 1)) := by
  rw [List.map_map]
  refine List.map_congr_left fun v _ => ?_
  rcases v with x | x | ⟨k, n⟩ <;> rfl
theorem jr_callV {d' idx k n : Nat} {mt' : jw_Mt} {As st0 : List jw_V} (hc : jw_CV mt.1.cls idx mt' k As.length) (hd' : d' + 1 ≤ d) (hn : n < jw_cnt k) (hcat : (st.map fun v => (match v with | .inr (.inl _) => 2 | _ => 1)).sum ≤ 8) (hst : st0 = As.reverse ++ vr k n :: st) (hd : decode mt.2.1 pc = .ok (.invokevirtual idx, 3))
    (h : jw_M d' mt' (vr k n :: As) M (fun x M2 => jw_J d mt (pc + 3) lv (jw_push mt'.2.2.2 x st) M2 Q)) : jw_J d mt pc lv st0 M Q := by
  intro l g p e s m args below meth c C H locs ls hP hS hlv
  obtain ⟨hI, hx, hb, hml, hr, hlocks, hown, hts, hK⟩ := id C
  obtain ⟨⟨hcode, hini, hdd, hle⟩, hlink, hinst, hsel, htag, T, N, hcl⟩ := hc
  obtain ⟨q, -, hq⟩ := jw_at g M hn
  rw [jw_cel0 htag] at hq
  have hM := h l g hI
  subst hst
  refine jw_back (va_runV (As := As.map (jw_rv g)) (rest := st.map (jw_rv g)) (C := mt'.1.cls) ⟨hx, hb, hml, hown, hts⟩ hM ⟨callB_of As.length hts (jw_goodIn hcode) rfl rfl rfl (jw_in hts hini rfl) (jw_in hts hlink rfl) hdd ⟨hd', by show 8 + (mt'.2.2.1 + 11) + 29 * d' ≤ 29 * d; omega⟩, jw_in hts hinst rfl, jw_in hts hsel rfl⟩ ⟨fun a U G mk hu => ⟨hu.1, hu.2.1, hu.2.2.blind G mk a⟩, va_recv hK.1 hP hcl hq, fun U hU hW => ⟨rfl, by rw [hU]; exact hP, hK.go hS hU hW⟩⟩ rfl (by rw [List.length_map]) hlv.1 (by show (List.map (jw_rv g) _) = _; rw [List.map_append, List.map_reverse]; rfl) (lv_room (by rw [jw_stcat]; exact hcat)) hd ⟨Nat.le_refl _, Nat.le_refl _⟩) hS (fun x M2 H1 locs1 hq2 hP1 hS1 => hq2 l g p e s m args below meth c C H1 locs1 ls hP1 hS1 hlv)
theorem jr_callS {d' idx : Nat} {mt' : jw_Mt} {As st0 : List jw_V} (hc : jw_CS mt.1.cls idx mt' As.length) (hd' : d' + 1 ≤ d) (hcat : (st.map fun v => (match v with | .inr (.inl _) => 2 | _ => 1)).sum ≤ 8) (hst : st0 = As.reverse ++ st) (hd : decode mt.2.1 pc = .ok (.invokestatic idx, 3))
    (h : jw_M d' mt' As M (fun x M2 => jw_J d mt (pc + 3) lv (jw_push mt'.2.2.2 x st) M2 Q)) : jw_J d mt pc lv st0 M Q := by
  intro l g p e s m args below meth c C H locs ls hP hS hlv
  obtain ⟨hI, hx, hb, hml, hr, hlocks, hown, hts, hK⟩ := id C
  obtain ⟨⟨hcode, hini, hdd, hle⟩, hlink, hstat⟩ := hc
  have hM := h l g hI
  subst hst
  refine jw_back (va_runS (As := As.map (jw_rv g)) (rest := st.map (jw_rv g)) ⟨hx, hb, hml, hown, hts⟩ hM ⟨callB_of As.length hts (jw_goodIn hcode) rfl rfl rfl (jw_in hts hini rfl) (jw_in hts hlink rfl) hdd ⟨hd', by show 8 + (mt'.2.2.1 + 11) + 29 * d' ≤ 29 * d; omega⟩, jw_in hts hstat rfl⟩ ⟨fun a U G mk hu => ⟨hu.1, hu.2.1, hu.2.2.blind G mk a⟩, fun U hU hW => ⟨rfl, by rw [hU]; exact hP, hK.go hS hU hW⟩⟩ rfl (by rw [List.length_map]) hlv.1 (by show (List.map (jw_rv g) _) = _; rw [List.map_append, List.map_reverse]) (lv_room (by rw [jw_stcat]; exact hcat)) hd ⟨Nat.le_refl _, Nat.le_refl _⟩) hS (fun x M2 H1 locs1 hq2 hP1 hS1 => hq2 l g p e s m args below meth c C H1 locs1 ls hP1 hS1 hlv)
theorem jr_callN {d' idx : Nat} {mt' : jw_Mt} {As st0 : List jw_V} (hc : jw_CN mt.1.cls idx mt' As.length) (hd' : d' + 1 ≤ d) (hcat : (st.map fun v => (match v with | .inr (.inl _) => 2 | _ => 1)).sum ≤ 8) (hst : st0 = As.reverse ++ st) (hd : decode mt.2.1 pc = .ok (.invokestatic idx, 3))
    (h : jw_M d' mt' As M (fun x M2 => jw_J d mt (pc + 3) lv (jw_push mt'.2.2.2 x st) M2 Q)) : jw_J d mt pc lv st0 M Q := by
  intro l g p e s m args below meth c C H locs ls hP hS hlv
  obtain ⟨hI, hx, hb, hml, hr, hlocks, hown, hts, hK⟩ := id C
  obtain ⟨⟨hcode, hini, hdd, hle⟩, hlink, hstat⟩ := hc
  have hM := h l g hI
  subst hst
  refine jw_back (va_runSN (As := As.map (jw_rv g)) (rest := st.map (jw_rv g)) ⟨hx, hb, hml, hown, hts⟩ hM ⟨va_cnB As.length hts (jw_goodIn hcode) rfl rfl rfl (hK.2.1 _ hlink) (jw_in hts hini rfl) hdd ⟨hd', by show 8 + (mt'.2.2.1 + 11) + 29 * d' ≤ 29 * d; omega⟩, jw_in hts hstat rfl, trivial⟩ ⟨fun a U G mk hu => ⟨hu.1, hu.2.1, hu.2.2.blind G mk a⟩, fun U hU hW => ⟨rfl, by rw [hU]; exact hP, hK.go hS hU hW⟩⟩ rfl (by rw [List.length_map]) hlv.1 (by show (List.map (jw_rv g) _) = _; rw [List.map_append, List.map_reverse]) (lv_room (by rw [jw_stcat]; exact hcat)) hd ⟨Nat.le_refl _, Nat.le_refl _⟩) hS (fun x M2 H1 locs1 hq2 hP1 hS1 => hq2 l g p e s m args below meth c C H1 locs1 ls hP1 hS1 hlv)
end JR
end
