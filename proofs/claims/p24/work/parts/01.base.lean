-- ===== PART A: goes FIRST, ahead of the names: the tables' words, and 'selects' of the private methods out of them =====
/-- a private method of a class that the tables say can be made, by its rows of tables_1 -/
def lw_okq (q : MethodName × Nat) : Prop := (q.1.cls ≠ "java/lang/invoke/MethodHandle" ∧ q.1.cls ≠ "java/lang/invoke/VarHandle") ∧ Cond.instantiable q.1.cls q.2 ∈ tables_1 ∧ Cond.privateMethod q.1 ∈ tables_1 ∧ Cond.instanceMethod q.1 ∈ tables_1
theorem lw_p0 : lw_okq (⟨"ColdBox$Reader", "begin", "()V"⟩, 10) := ⟨⟨by decide +kernel, by decide +kernel⟩, List.mem_of_getElem? (i := 29) (by decide +kernel), List.mem_of_getElem? (i := 412) (by decide +kernel), List.mem_of_getElem? (i := 413) (by decide +kernel)⟩
theorem lw_p1 : lw_okq (⟨"ColdBox$Reader", "skipBlanks", "()V"⟩, 10) := ⟨⟨by decide +kernel, by decide +kernel⟩, List.mem_of_getElem? (i := 29) (by decide +kernel), List.mem_of_getElem? (i := 416) (by decide +kernel), List.mem_of_getElem? (i := 417) (by decide +kernel)⟩
theorem lw_p2 : lw_okq (⟨"ColdBox$Reader", "readClause", "()V"⟩, 10) := ⟨⟨by decide +kernel, by decide +kernel⟩, List.mem_of_getElem? (i := 29) (by decide +kernel), List.mem_of_getElem? (i := 422) (by decide +kernel), List.mem_of_getElem? (i := 423) (by decide +kernel)⟩
theorem lw_p3 : lw_okq (⟨"ColdBox$Reader", "readWord", "()V"⟩, 10) := ⟨⟨by decide +kernel, by decide +kernel⟩, List.mem_of_getElem? (i := 29) (by decide +kernel), List.mem_of_getElem? (i := 426) (by decide +kernel), List.mem_of_getElem? (i := 427) (by decide +kernel)⟩
theorem lw_p4 : lw_okq (⟨"ColdBox$Reader", "clauseFrom", "(I)I"⟩, 10) := ⟨⟨by decide +kernel, by decide +kernel⟩, List.mem_of_getElem? (i := 29) (by decide +kernel), List.mem_of_getElem? (i := 433) (by decide +kernel), List.mem_of_getElem? (i := 434) (by decide +kernel)⟩
theorem lw_p5 : lw_okq (⟨"ColdBox$Reader", "isWord", "(Ljava/lang/String;I)Z"⟩, 10) := ⟨⟨by decide +kernel, by decide +kernel⟩, List.mem_of_getElem? (i := 29) (by decide +kernel), List.mem_of_getElem? (i := 453) (by decide +kernel), List.mem_of_getElem? (i := 454) (by decide +kernel)⟩
theorem lw_p6 : lw_okq (⟨"ColdBox$Reader", "faultAt", "(II)V"⟩, 10) := ⟨⟨by decide +kernel, by decide +kernel⟩, List.mem_of_getElem? (i := 29) (by decide +kernel), List.mem_of_getElem? (i := 505) (by decide +kernel), List.mem_of_getElem? (i := 506) (by decide +kernel)⟩
theorem lw_p7 : lw_okq (⟨"ColdBox$Reader", "readClauseNumbers", "(I)V"⟩, 10) := ⟨⟨by decide +kernel, by decide +kernel⟩, List.mem_of_getElem? (i := 29) (by decide +kernel), List.mem_of_getElem? (i := 509) (by decide +kernel), List.mem_of_getElem? (i := 510) (by decide +kernel)⟩
theorem lw_p8 : lw_okq (⟨"ColdBox$Reader", "readNumber", "(II)I"⟩, 10) := ⟨⟨by decide +kernel, by decide +kernel⟩, List.mem_of_getElem? (i := 29) (by decide +kernel), List.mem_of_getElem? (i := 517) (by decide +kernel), List.mem_of_getElem? (i := 518) (by decide +kernel)⟩
theorem lw_p9 : lw_okq (⟨"ColdBox$Reader", "readClauseEnd", "()V"⟩, 10) := ⟨⟨by decide +kernel, by decide +kernel⟩, List.mem_of_getElem? (i := 29) (by decide +kernel), List.mem_of_getElem? (i := 524) (by decide +kernel), List.mem_of_getElem? (i := 525) (by decide +kernel)⟩
theorem lw_p10 : lw_okq (⟨"ColdBox$Reader", "readOpening", "()V"⟩, 10) := ⟨⟨by decide +kernel, by decide +kernel⟩, List.mem_of_getElem? (i := 29) (by decide +kernel), List.mem_of_getElem? (i := 546) (by decide +kernel), List.mem_of_getElem? (i := 547) (by decide +kernel)⟩
theorem lw_p11 : lw_okq (⟨"ColdBox$Ticker", "lookAtWarmths", "(LColdBox$State;)V"⟩, 4) := ⟨⟨by decide +kernel, by decide +kernel⟩, List.mem_of_getElem? (i := 117) (by decide +kernel), List.mem_of_getElem? (i := 658) (by decide +kernel), List.mem_of_getElem? (i := 659) (by decide +kernel)⟩
theorem lw_p12 : lw_okq (⟨"ColdBox$Ticker", "switchMachine", "(LColdBox$State;II)V"⟩, 4) := ⟨⟨by decide +kernel, by decide +kernel⟩, List.mem_of_getElem? (i := 117) (by decide +kernel), List.mem_of_getElem? (i := 673) (by decide +kernel), List.mem_of_getElem? (i := 674) (by decide +kernel)⟩
theorem lw_p13 : lw_okq (⟨"ColdBox$Ticker", "exchange", "(LColdBox$State;II)V"⟩, 4) := ⟨⟨by decide +kernel, by decide +kernel⟩, List.mem_of_getElem? (i := 117) (by decide +kernel), List.mem_of_getElem? (i := 678) (by decide +kernel), List.mem_of_getElem? (i := 679) (by decide +kernel)⟩
theorem lw_p14 : lw_okq (⟨"ColdBox$Ticker", "flow", "(IIII)V"⟩, 4) := ⟨⟨by decide +kernel, by decide +kernel⟩, List.mem_of_getElem? (i := 117) (by decide +kernel), List.mem_of_getElem? (i := 684) (by decide +kernel), List.mem_of_getElem? (i := 685) (by decide +kernel)⟩
theorem lw_p15 : lw_okq (⟨"ColdBox$Ticker", "giveLight", "(LColdBox$State;)V"⟩, 4) := ⟨⟨by decide +kernel, by decide +kernel⟩, List.mem_of_getElem? (i := 117) (by decide +kernel), List.mem_of_getElem? (i := 689) (by decide +kernel), List.mem_of_getElem? (i := 690) (by decide +kernel)⟩
def lw_privs_1 : List (MethodName × Nat) := [(⟨"ColdBox$Reader", "begin", "()V"⟩, 10), (⟨"ColdBox$Reader", "skipBlanks", "()V"⟩, 10), (⟨"ColdBox$Reader", "readClause", "()V"⟩, 10), (⟨"ColdBox$Reader", "readWord", "()V"⟩, 10), (⟨"ColdBox$Reader", "clauseFrom", "(I)I"⟩, 10), (⟨"ColdBox$Reader", "isWord", "(Ljava/lang/String;I)Z"⟩, 10), (⟨"ColdBox$Reader", "faultAt", "(II)V"⟩, 10), (⟨"ColdBox$Reader", "readClauseNumbers", "(I)V"⟩, 10), (⟨"ColdBox$Reader", "readNumber", "(II)I"⟩, 10), (⟨"ColdBox$Reader", "readClauseEnd", "()V"⟩, 10), (⟨"ColdBox$Reader", "readOpening", "()V"⟩, 10), (⟨"ColdBox$Ticker", "lookAtWarmths", "(LColdBox$State;)V"⟩, 4), (⟨"ColdBox$Ticker", "switchMachine", "(LColdBox$State;II)V"⟩, 4), (⟨"ColdBox$Ticker", "exchange", "(LColdBox$State;II)V"⟩, 4), (⟨"ColdBox$Ticker", "flow", "(IIII)V"⟩, 4), (⟨"ColdBox$Ticker", "giveLight", "(LColdBox$State;)V"⟩, 4)]
theorem lw_r1 : ∀ q ∈ lw_privs_1, lw_okq q := List.forall_mem_cons.mpr ⟨lw_p0, List.forall_mem_cons.mpr ⟨lw_p1, List.forall_mem_cons.mpr ⟨lw_p2, List.forall_mem_cons.mpr ⟨lw_p3, List.forall_mem_cons.mpr ⟨lw_p4, List.forall_mem_cons.mpr ⟨lw_p5, List.forall_mem_cons.mpr ⟨lw_p6, List.forall_mem_cons.mpr ⟨lw_p7, List.forall_mem_cons.mpr ⟨lw_p8, List.forall_mem_cons.mpr ⟨lw_p9, List.forall_mem_cons.mpr ⟨lw_p10, List.forall_mem_cons.mpr ⟨lw_p11, List.forall_mem_cons.mpr ⟨lw_p12, List.forall_mem_cons.mpr ⟨lw_p13, List.forall_mem_cons.mpr ⟨lw_p14, List.forall_mem_cons.mpr ⟨lw_p15, fun _ h => absurd h List.not_mem_nil⟩⟩⟩⟩⟩⟩⟩⟩⟩⟩⟩⟩⟩⟩⟩⟩
theorem lw_p16 : lw_okq (⟨"ColdBox$Ticker", "moveOut", "(LColdBox$State;I)V"⟩, 4) := ⟨⟨by decide +kernel, by decide +kernel⟩, List.mem_of_getElem? (i := 117) (by decide +kernel), List.mem_of_getElem? (i := 698) (by decide +kernel), List.mem_of_getElem? (i := 699) (by decide +kernel)⟩
theorem lw_p17 : lw_okq (⟨"ColdBox$Ticker", "takeWet", "(LColdBox$State;I)V"⟩, 4) := ⟨⟨by decide +kernel, by decide +kernel⟩, List.mem_of_getElem? (i := 117) (by decide +kernel), List.mem_of_getElem? (i := 703) (by decide +kernel), List.mem_of_getElem? (i := 704) (by decide +kernel)⟩
theorem lw_p18 : lw_okq (⟨"ColdBox", "drawDoor", "(I)V"⟩, 13) := ⟨⟨by decide +kernel, by decide +kernel⟩, List.mem_of_getElem? (i := 21) (by decide +kernel), List.mem_of_getElem? (i := 715) (by decide +kernel), List.mem_of_getElem? (i := 716) (by decide +kernel)⟩
theorem lw_p19 : lw_okq (⟨"ColdBox$FreshRuns", "begin", "(IZ)V"⟩, 4) := ⟨⟨by decide +kernel, by decide +kernel⟩, List.mem_of_getElem? (i := 217) (by decide +kernel), List.mem_of_getElem? (i := 774) (by decide +kernel), List.mem_of_getElem? (i := 775) (by decide +kernel)⟩
theorem lw_p20 : lw_okq (⟨"ColdBox$Guess", "weighAll", "(I)J"⟩, 8) := ⟨⟨by decide +kernel, by decide +kernel⟩, List.mem_of_getElem? (i := 238) (by decide +kernel), List.mem_of_getElem? (i := 834) (by decide +kernel), List.mem_of_getElem? (i := 835) (by decide +kernel)⟩
theorem lw_p21 : lw_okq (⟨"ColdBox$Guess", "weightOf", "(II)J"⟩, 8) := ⟨⟨by decide +kernel, by decide +kernel⟩, List.mem_of_getElem? (i := 238) (by decide +kernel), List.mem_of_getElem? (i := 838) (by decide +kernel), List.mem_of_getElem? (i := 839) (by decide +kernel)⟩
theorem lw_p22 : lw_okq (⟨"ColdBox$Guess", "halvings", "(III)I"⟩, 8) := ⟨⟨by decide +kernel, by decide +kernel⟩, List.mem_of_getElem? (i := 238) (by decide +kernel), List.mem_of_getElem? (i := 844) (by decide +kernel), List.mem_of_getElem? (i := 845) (by decide +kernel)⟩
theorem lw_p23 : lw_okq (⟨"ColdBox$Guess", "exactOf", "(I)I"⟩, 8) := ⟨⟨by decide +kernel, by decide +kernel⟩, List.mem_of_getElem? (i := 238) (by decide +kernel), List.mem_of_getElem? (i := 852) (by decide +kernel), List.mem_of_getElem? (i := 853) (by decide +kernel)⟩
theorem lw_p24 : lw_okq (⟨"ColdBox$Guess", "share", "(IJ)I"⟩, 8) := ⟨⟨by decide +kernel, by decide +kernel⟩, List.mem_of_getElem? (i := 238) (by decide +kernel), List.mem_of_getElem? (i := 857) (by decide +kernel), List.mem_of_getElem? (i := 858) (by decide +kernel)⟩
theorem lw_p25 : lw_okq (⟨"ColdBox$Guess", "tellingBy", "(IIJ)I"⟩, 8) := ⟨⟨by decide +kernel, by decide +kernel⟩, List.mem_of_getElem? (i := 238) (by decide +kernel), List.mem_of_getElem? (i := 877) (by decide +kernel), List.mem_of_getElem? (i := 878) (by decide +kernel)⟩
theorem lw_p26 : lw_okq (⟨"ColdBox$Guess", "isFirstOfClass", "(I)Z"⟩, 8) := ⟨⟨by decide +kernel, by decide +kernel⟩, List.mem_of_getElem? (i := 238) (by decide +kernel), List.mem_of_getElem? (i := 881) (by decide +kernel), List.mem_of_getElem? (i := 882) (by decide +kernel)⟩
theorem lw_p27 : lw_okq (⟨"ColdBox$Guess", "weightOfClass", "(I)J"⟩, 8) := ⟨⟨by decide +kernel, by decide +kernel⟩, List.mem_of_getElem? (i := 238) (by decide +kernel), List.mem_of_getElem? (i := 885) (by decide +kernel), List.mem_of_getElem? (i := 886) (by decide +kernel)⟩
theorem lw_p28 : lw_okq (⟨"ColdBox$Purse", "yearByUse", "(I)I"⟩, 3) := ⟨⟨by decide +kernel, by decide +kernel⟩, List.mem_of_getElem? (i := 279) (by decide +kernel), List.mem_of_getElem? (i := 925) (by decide +kernel), List.mem_of_getElem? (i := 926) (by decide +kernel)⟩
theorem lw_p29 : lw_okq (⟨"ColdBox$Trials", "layByRow", "(I[I)V"⟩, 9) := ⟨⟨by decide +kernel, by decide +kernel⟩, List.mem_of_getElem? (i := 298) (by decide +kernel), List.mem_of_getElem? (i := 999) (by decide +kernel), List.mem_of_getElem? (i := 1000) (by decide +kernel)⟩
theorem lw_p30 : lw_okq (⟨"ColdBox$Trials", "boxBulb", "()I"⟩, 9) := ⟨⟨by decide +kernel, by decide +kernel⟩, List.mem_of_getElem? (i := 298) (by decide +kernel), List.mem_of_getElem? (i := 1003) (by decide +kernel), List.mem_of_getElem? (i := 1004) (by decide +kernel)⟩
theorem lw_p31 : lw_okq (⟨"ColdBox$Trials", "withinOnSecondDay", "(I)I"⟩, 9) := ⟨⟨by decide +kernel, by decide +kernel⟩, List.mem_of_getElem? (i := 298) (by decide +kernel), List.mem_of_getElem? (i := 1007) (by decide +kernel), List.mem_of_getElem? (i := 1008) (by decide +kernel)⟩
def lw_privs_2 : List (MethodName × Nat) := [(⟨"ColdBox$Ticker", "moveOut", "(LColdBox$State;I)V"⟩, 4), (⟨"ColdBox$Ticker", "takeWet", "(LColdBox$State;I)V"⟩, 4), (⟨"ColdBox", "drawDoor", "(I)V"⟩, 13), (⟨"ColdBox$FreshRuns", "begin", "(IZ)V"⟩, 4), (⟨"ColdBox$Guess", "weighAll", "(I)J"⟩, 8), (⟨"ColdBox$Guess", "weightOf", "(II)J"⟩, 8), (⟨"ColdBox$Guess", "halvings", "(III)I"⟩, 8), (⟨"ColdBox$Guess", "exactOf", "(I)I"⟩, 8), (⟨"ColdBox$Guess", "share", "(IJ)I"⟩, 8), (⟨"ColdBox$Guess", "tellingBy", "(IIJ)I"⟩, 8), (⟨"ColdBox$Guess", "isFirstOfClass", "(I)Z"⟩, 8), (⟨"ColdBox$Guess", "weightOfClass", "(I)J"⟩, 8), (⟨"ColdBox$Purse", "yearByUse", "(I)I"⟩, 3), (⟨"ColdBox$Trials", "layByRow", "(I[I)V"⟩, 9), (⟨"ColdBox$Trials", "boxBulb", "()I"⟩, 9), (⟨"ColdBox$Trials", "withinOnSecondDay", "(I)I"⟩, 9)]
theorem lw_r2 : ∀ q ∈ lw_privs_2, lw_okq q := List.forall_mem_cons.mpr ⟨lw_p16, List.forall_mem_cons.mpr ⟨lw_p17, List.forall_mem_cons.mpr ⟨lw_p18, List.forall_mem_cons.mpr ⟨lw_p19, List.forall_mem_cons.mpr ⟨lw_p20, List.forall_mem_cons.mpr ⟨lw_p21, List.forall_mem_cons.mpr ⟨lw_p22, List.forall_mem_cons.mpr ⟨lw_p23, List.forall_mem_cons.mpr ⟨lw_p24, List.forall_mem_cons.mpr ⟨lw_p25, List.forall_mem_cons.mpr ⟨lw_p26, List.forall_mem_cons.mpr ⟨lw_p27, List.forall_mem_cons.mpr ⟨lw_p28, List.forall_mem_cons.mpr ⟨lw_p29, List.forall_mem_cons.mpr ⟨lw_p30, List.forall_mem_cons.mpr ⟨lw_p31, fun _ h => absurd h List.not_mem_nil⟩⟩⟩⟩⟩⟩⟩⟩⟩⟩⟩⟩⟩⟩⟩⟩
theorem lw_p32 : lw_okq (⟨"ColdBox$Trials", "takeIfMore", "(II)V"⟩, 9) := ⟨⟨by decide +kernel, by decide +kernel⟩, List.mem_of_getElem? (i := 298) (by decide +kernel), List.mem_of_getElem? (i := 1017) (by decide +kernel), List.mem_of_getElem? (i := 1018) (by decide +kernel)⟩
theorem lw_p33 : lw_okq (⟨"ColdBox$Trials", "paidStoring", "(III)I"⟩, 9) := ⟨⟨by decide +kernel, by decide +kernel⟩, List.mem_of_getElem? (i := 298) (by decide +kernel), List.mem_of_getElem? (i := 1054) (by decide +kernel), List.mem_of_getElem? (i := 1055) (by decide +kernel)⟩
theorem lw_p34 : lw_okq (⟨"ColdBox$Trials", "isCheapHour", "(I)Z"⟩, 9) := ⟨⟨by decide +kernel, by decide +kernel⟩, List.mem_of_getElem? (i := 298) (by decide +kernel), List.mem_of_getElem? (i := 1059) (by decide +kernel), List.mem_of_getElem? (i := 1060) (by decide +kernel)⟩
theorem lw_p35 : lw_okq (⟨"ColdBox", "imageOf", "(I)LColdBox$State;"⟩, 13) := ⟨⟨by decide +kernel, by decide +kernel⟩, List.mem_of_getElem? (i := 21) (by decide +kernel), List.mem_of_getElem? (i := 1074) (by decide +kernel), List.mem_of_getElem? (i := 1075) (by decide +kernel)⟩
theorem lw_p36 : lw_okq (⟨"ColdBoxModel", "begin", "()V"⟩, 34) := ⟨⟨by decide +kernel, by decide +kernel⟩, List.mem_of_getElem? (i := 1083) (by decide +kernel), List.mem_of_getElem? (i := 1207) (by decide +kernel), List.mem_of_getElem? (i := 1208) (by decide +kernel)⟩
theorem lw_p37 : lw_okq (⟨"ColdBoxModel", "freshen", "(I)V"⟩, 34) := ⟨⟨by decide +kernel, by decide +kernel⟩, List.mem_of_getElem? (i := 1083) (by decide +kernel), List.mem_of_getElem? (i := 1214) (by decide +kernel), List.mem_of_getElem? (i := 1215) (by decide +kernel)⟩
theorem lw_p38 : lw_okq (⟨"ColdBoxModel", "beginReading", "()V"⟩, 34) := ⟨⟨by decide +kernel, by decide +kernel⟩, List.mem_of_getElem? (i := 1083) (by decide +kernel), List.mem_of_getElem? (i := 1225) (by decide +kernel), List.mem_of_getElem? (i := 1226) (by decide +kernel)⟩
theorem lw_p39 : lw_okq (⟨"ColdBoxModel", "here", "()I"⟩, 34) := ⟨⟨by decide +kernel, by decide +kernel⟩, List.mem_of_getElem? (i := 1083) (by decide +kernel), List.mem_of_getElem? (i := 1229) (by decide +kernel), List.mem_of_getElem? (i := 1230) (by decide +kernel)⟩
theorem lw_p40 : lw_okq (⟨"ColdBoxModel", "takeClause", "()V"⟩, 34) := ⟨⟨by decide +kernel, by decide +kernel⟩, List.mem_of_getElem? (i := 1083) (by decide +kernel), List.mem_of_getElem? (i := 1233) (by decide +kernel), List.mem_of_getElem? (i := 1234) (by decide +kernel)⟩
theorem lw_p41 : lw_okq (⟨"ColdBoxModel", "takeWord", "()V"⟩, 34) := ⟨⟨by decide +kernel, by decide +kernel⟩, List.mem_of_getElem? (i := 1083) (by decide +kernel), List.mem_of_getElem? (i := 1237) (by decide +kernel), List.mem_of_getElem? (i := 1238) (by decide +kernel)⟩
theorem lw_p42 : lw_okq (⟨"ColdBoxModel", "kindHere", "()I"⟩, 34) := ⟨⟨by decide +kernel, by decide +kernel⟩, List.mem_of_getElem? (i := 1083) (by decide +kernel), List.mem_of_getElem? (i := 1243) (by decide +kernel), List.mem_of_getElem? (i := 1244) (by decide +kernel)⟩
theorem lw_p43 : lw_okq (⟨"ColdBoxModel", "isWord", "(IIIIII)Z"⟩, 34) := ⟨⟨by decide +kernel, by decide +kernel⟩, List.mem_of_getElem? (i := 1083) (by decide +kernel), List.mem_of_getElem? (i := 1247) (by decide +kernel), List.mem_of_getElem? (i := 1248) (by decide +kernel)⟩
theorem lw_p44 : lw_okq (⟨"ColdBoxModel", "want", "(ZII)Z"⟩, 34) := ⟨⟨by decide +kernel, by decide +kernel⟩, List.mem_of_getElem? (i := 1083) (by decide +kernel), List.mem_of_getElem? (i := 1251) (by decide +kernel), List.mem_of_getElem? (i := 1252) (by decide +kernel)⟩
theorem lw_p45 : lw_okq (⟨"ColdBoxModel", "takeNumber", "(II)I"⟩, 34) := ⟨⟨by decide +kernel, by decide +kernel⟩, List.mem_of_getElem? (i := 1083) (by decide +kernel), List.mem_of_getElem? (i := 1255) (by decide +kernel), List.mem_of_getElem? (i := 1256) (by decide +kernel)⟩
theorem lw_p46 : lw_okq (⟨"ColdBoxModel", "takeEnd", "()V"⟩, 34) := ⟨⟨by decide +kernel, by decide +kernel⟩, List.mem_of_getElem? (i := 1083) (by decide +kernel), List.mem_of_getElem? (i := 1268) (by decide +kernel), List.mem_of_getElem? (i := 1269) (by decide +kernel)⟩
theorem lw_p47 : lw_okq (⟨"ColdBoxModel", "isFood", "(I)Z"⟩, 34) := ⟨⟨by decide +kernel, by decide +kernel⟩, List.mem_of_getElem? (i := 1083) (by decide +kernel), List.mem_of_getElem? (i := 1331) (by decide +kernel), List.mem_of_getElem? (i := 1332) (by decide +kernel)⟩
def lw_privs_3 : List (MethodName × Nat) := [(⟨"ColdBox$Trials", "takeIfMore", "(II)V"⟩, 9), (⟨"ColdBox$Trials", "paidStoring", "(III)I"⟩, 9), (⟨"ColdBox$Trials", "isCheapHour", "(I)Z"⟩, 9), (⟨"ColdBox", "imageOf", "(I)LColdBox$State;"⟩, 13), (⟨"ColdBoxModel", "begin", "()V"⟩, 34), (⟨"ColdBoxModel", "freshen", "(I)V"⟩, 34), (⟨"ColdBoxModel", "beginReading", "()V"⟩, 34), (⟨"ColdBoxModel", "here", "()I"⟩, 34), (⟨"ColdBoxModel", "takeClause", "()V"⟩, 34), (⟨"ColdBoxModel", "takeWord", "()V"⟩, 34), (⟨"ColdBoxModel", "kindHere", "()I"⟩, 34), (⟨"ColdBoxModel", "isWord", "(IIIIII)Z"⟩, 34), (⟨"ColdBoxModel", "want", "(ZII)Z"⟩, 34), (⟨"ColdBoxModel", "takeNumber", "(II)I"⟩, 34), (⟨"ColdBoxModel", "takeEnd", "()V"⟩, 34), (⟨"ColdBoxModel", "isFood", "(I)Z"⟩, 34)]
theorem lw_r3 : ∀ q ∈ lw_privs_3, lw_okq q := List.forall_mem_cons.mpr ⟨lw_p32, List.forall_mem_cons.mpr ⟨lw_p33, List.forall_mem_cons.mpr ⟨lw_p34, List.forall_mem_cons.mpr ⟨lw_p35, List.forall_mem_cons.mpr ⟨lw_p36, List.forall_mem_cons.mpr ⟨lw_p37, List.forall_mem_cons.mpr ⟨lw_p38, List.forall_mem_cons.mpr ⟨lw_p39, List.forall_mem_cons.mpr ⟨lw_p40, List.forall_mem_cons.mpr ⟨lw_p41, List.forall_mem_cons.mpr ⟨lw_p42, List.forall_mem_cons.mpr ⟨lw_p43, List.forall_mem_cons.mpr ⟨lw_p44, List.forall_mem_cons.mpr ⟨lw_p45, List.forall_mem_cons.mpr ⟨lw_p46, List.forall_mem_cons.mpr ⟨lw_p47, fun _ h => absurd h List.not_mem_nil⟩⟩⟩⟩⟩⟩⟩⟩⟩⟩⟩⟩⟩⟩⟩⟩
theorem lw_p48 : lw_okq (⟨"ColdBoxModel", "warm", "(II)J"⟩, 34) := ⟨⟨by decide +kernel, by decide +kernel⟩, List.mem_of_getElem? (i := 1083) (by decide +kernel), List.mem_of_getElem? (i := 1336) (by decide +kernel), List.mem_of_getElem? (i := 1337) (by decide +kernel)⟩
theorem lw_p49 : lw_okq (⟨"ColdBoxModel", "capOf", "(II)J"⟩, 34) := ⟨⟨by decide +kernel, by decide +kernel⟩, List.mem_of_getElem? (i := 1083) (by decide +kernel), List.mem_of_getElem? (i := 1340) (by decide +kernel), List.mem_of_getElem? (i := 1341) (by decide +kernel)⟩
theorem lw_p50 : lw_okq (⟨"ColdBoxModel", "isWithin", "(II)Z"⟩, 34) := ⟨⟨by decide +kernel, by decide +kernel⟩, List.mem_of_getElem? (i := 1083) (by decide +kernel), List.mem_of_getElem? (i := 1354) (by decide +kernel), List.mem_of_getElem? (i := 1355) (by decide +kernel)⟩
theorem lw_p51 : lw_okq (⟨"ColdBoxModel", "go", "(II)V"⟩, 34) := ⟨⟨by decide +kernel, by decide +kernel⟩, List.mem_of_getElem? (i := 1083) (by decide +kernel), List.mem_of_getElem? (i := 1363) (by decide +kernel), List.mem_of_getElem? (i := 1364) (by decide +kernel)⟩
theorem lw_p52 : lw_okq (⟨"ColdBoxModel", "isOpen", "(J)Z"⟩, 34) := ⟨⟨by decide +kernel, by decide +kernel⟩, List.mem_of_getElem? (i := 1083) (by decide +kernel), List.mem_of_getElem? (i := 1367) (by decide +kernel), List.mem_of_getElem? (i := 1368) (by decide +kernel)⟩
theorem lw_p53 : lw_okq (⟨"ColdBoxModel", "tick", "(IZII)V"⟩, 34) := ⟨⟨by decide +kernel, by decide +kernel⟩, List.mem_of_getElem? (i := 1083) (by decide +kernel), List.mem_of_getElem? (i := 1372) (by decide +kernel), List.mem_of_getElem? (i := 1373) (by decide +kernel)⟩
theorem lw_p54 : lw_okq (⟨"ColdBoxModel", "readBulb", "(III)V"⟩, 34) := ⟨⟨by decide +kernel, by decide +kernel⟩, List.mem_of_getElem? (i := 1083) (by decide +kernel), List.mem_of_getElem? (i := 1382) (by decide +kernel), List.mem_of_getElem? (i := 1383) (by decide +kernel)⟩
theorem lw_p55 : lw_okq (⟨"ColdBoxModel", "findFlows", "(IJJ)V"⟩, 34) := ⟨⟨by decide +kernel, by decide +kernel⟩, List.mem_of_getElem? (i := 1083) (by decide +kernel), List.mem_of_getElem? (i := 1388) (by decide +kernel), List.mem_of_getElem? (i := 1389) (by decide +kernel)⟩
theorem lw_p56 : lw_okq (⟨"ColdBoxModel", "moves", "(IJ)J"⟩, 34) := ⟨⟨by decide +kernel, by decide +kernel⟩, List.mem_of_getElem? (i := 1083) (by decide +kernel), List.mem_of_getElem? (i := 1394) (by decide +kernel), List.mem_of_getElem? (i := 1395) (by decide +kernel)⟩
theorem lw_p57 : lw_okq (⟨"ColdBoxModel", "wet", "(IJ)V"⟩, 34) := ⟨⟨by decide +kernel, by decide +kernel⟩, List.mem_of_getElem? (i := 1083) (by decide +kernel), List.mem_of_getElem? (i := 1401) (by decide +kernel), List.mem_of_getElem? (i := 1402) (by decide +kernel)⟩
theorem lw_p58 : lw_okq (⟨"ColdBoxModel", "drawDay", "(I)V"⟩, 34) := ⟨⟨by decide +kernel, by decide +kernel⟩, List.mem_of_getElem? (i := 1083) (by decide +kernel), List.mem_of_getElem? (i := 1410) (by decide +kernel), List.mem_of_getElem? (i := 1411) (by decide +kernel)⟩
theorem lw_p59 : lw_okq (⟨"ColdBoxModel", "draw", "(I)I"⟩, 34) := ⟨⟨by decide +kernel, by decide +kernel⟩, List.mem_of_getElem? (i := 1083) (by decide +kernel), List.mem_of_getElem? (i := 1414) (by decide +kernel), List.mem_of_getElem? (i := 1415) (by decide +kernel)⟩
theorem lw_p60 : lw_okq (⟨"ColdBoxModel", "foods", "()I"⟩, 34) := ⟨⟨by decide +kernel, by decide +kernel⟩, List.mem_of_getElem? (i := 1083) (by decide +kernel), List.mem_of_getElem? (i := 1436) (by decide +kernel), List.mem_of_getElem? (i := 1437) (by decide +kernel)⟩
theorem lw_p61 : lw_okq (⟨"ColdBoxModel", "melt", "(I)I"⟩, 34) := ⟨⟨by decide +kernel, by decide +kernel⟩, List.mem_of_getElem? (i := 1083) (by decide +kernel), List.mem_of_getElem? (i := 1444) (by decide +kernel), List.mem_of_getElem? (i := 1445) (by decide +kernel)⟩
theorem lw_p62 : lw_okq (⟨"ColdBoxModel", "findSigns", "(II)V"⟩, 34) := ⟨⟨by decide +kernel, by decide +kernel⟩, List.mem_of_getElem? (i := 1083) (by decide +kernel), List.mem_of_getElem? (i := 1459) (by decide +kernel), List.mem_of_getElem? (i := 1460) (by decide +kernel)⟩
theorem lw_p63 : lw_okq (⟨"ColdBoxModel", "tryFresh", "(I)V"⟩, 34) := ⟨⟨by decide +kernel, by decide +kernel⟩, List.mem_of_getElem? (i := 1083) (by decide +kernel), List.mem_of_getElem? (i := 1463) (by decide +kernel), List.mem_of_getElem? (i := 1464) (by decide +kernel)⟩
def lw_privs_4 : List (MethodName × Nat) := [(⟨"ColdBoxModel", "warm", "(II)J"⟩, 34), (⟨"ColdBoxModel", "capOf", "(II)J"⟩, 34), (⟨"ColdBoxModel", "isWithin", "(II)Z"⟩, 34), (⟨"ColdBoxModel", "go", "(II)V"⟩, 34), (⟨"ColdBoxModel", "isOpen", "(J)Z"⟩, 34), (⟨"ColdBoxModel", "tick", "(IZII)V"⟩, 34), (⟨"ColdBoxModel", "readBulb", "(III)V"⟩, 34), (⟨"ColdBoxModel", "findFlows", "(IJJ)V"⟩, 34), (⟨"ColdBoxModel", "moves", "(IJ)J"⟩, 34), (⟨"ColdBoxModel", "wet", "(IJ)V"⟩, 34), (⟨"ColdBoxModel", "drawDay", "(I)V"⟩, 34), (⟨"ColdBoxModel", "draw", "(I)I"⟩, 34), (⟨"ColdBoxModel", "foods", "()I"⟩, 34), (⟨"ColdBoxModel", "melt", "(I)I"⟩, 34), (⟨"ColdBoxModel", "findSigns", "(II)V"⟩, 34), (⟨"ColdBoxModel", "tryFresh", "(I)V"⟩, 34)]
theorem lw_r4 : ∀ q ∈ lw_privs_4, lw_okq q := List.forall_mem_cons.mpr ⟨lw_p48, List.forall_mem_cons.mpr ⟨lw_p49, List.forall_mem_cons.mpr ⟨lw_p50, List.forall_mem_cons.mpr ⟨lw_p51, List.forall_mem_cons.mpr ⟨lw_p52, List.forall_mem_cons.mpr ⟨lw_p53, List.forall_mem_cons.mpr ⟨lw_p54, List.forall_mem_cons.mpr ⟨lw_p55, List.forall_mem_cons.mpr ⟨lw_p56, List.forall_mem_cons.mpr ⟨lw_p57, List.forall_mem_cons.mpr ⟨lw_p58, List.forall_mem_cons.mpr ⟨lw_p59, List.forall_mem_cons.mpr ⟨lw_p60, List.forall_mem_cons.mpr ⟨lw_p61, List.forall_mem_cons.mpr ⟨lw_p62, List.forall_mem_cons.mpr ⟨lw_p63, fun _ h => absurd h List.not_mem_nil⟩⟩⟩⟩⟩⟩⟩⟩⟩⟩⟩⟩⟩⟩⟩⟩
theorem lw_p64 : lw_okq (⟨"ColdBoxModel", "signOf", "(I)I"⟩, 34) := ⟨⟨by decide +kernel, by decide +kernel⟩, List.mem_of_getElem? (i := 1083) (by decide +kernel), List.mem_of_getElem? (i := 1467) (by decide +kernel), List.mem_of_getElem? (i := 1468) (by decide +kernel)⟩
theorem lw_p65 : lw_okq (⟨"ColdBoxModel", "seens", "()I"⟩, 34) := ⟨⟨by decide +kernel, by decide +kernel⟩, List.mem_of_getElem? (i := 1083) (by decide +kernel), List.mem_of_getElem? (i := 1478) (by decide +kernel), List.mem_of_getElem? (i := 1479) (by decide +kernel)⟩
theorem lw_p66 : lw_okq (⟨"ColdBoxModel", "weigh", "(I)V"⟩, 34) := ⟨⟨by decide +kernel, by decide +kernel⟩, List.mem_of_getElem? (i := 1083) (by decide +kernel), List.mem_of_getElem? (i := 1507) (by decide +kernel), List.mem_of_getElem? (i := 1508) (by decide +kernel)⟩
theorem lw_p67 : lw_okq (⟨"ColdBoxModel", "weightOf", "(I)J"⟩, 34) := ⟨⟨by decide +kernel, by decide +kernel⟩, List.mem_of_getElem? (i := 1083) (by decide +kernel), List.mem_of_getElem? (i := 1511) (by decide +kernel), List.mem_of_getElem? (i := 1512) (by decide +kernel)⟩
theorem lw_p68 : lw_okq (⟨"ColdBoxModel", "oddsOf", "(I)I"⟩, 34) := ⟨⟨by decide +kernel, by decide +kernel⟩, List.mem_of_getElem? (i := 1083) (by decide +kernel), List.mem_of_getElem? (i := 1516) (by decide +kernel), List.mem_of_getElem? (i := 1517) (by decide +kernel)⟩
theorem lw_p69 : lw_okq (⟨"ColdBoxModel", "tellsOf", "(I)I"⟩, 34) := ⟨⟨by decide +kernel, by decide +kernel⟩, List.mem_of_getElem? (i := 1083) (by decide +kernel), List.mem_of_getElem? (i := 1528) (by decide +kernel), List.mem_of_getElem? (i := 1529) (by decide +kernel)⟩
theorem lw_p70 : lw_okq (⟨"ColdBoxModel", "yearOf", "(I)I"⟩, 34) := ⟨⟨by decide +kernel, by decide +kernel⟩, List.mem_of_getElem? (i := 1083) (by decide +kernel), List.mem_of_getElem? (i := 1552) (by decide +kernel), List.mem_of_getElem? (i := 1553) (by decide +kernel)⟩
theorem lw_p71 : lw_okq (⟨"ColdBoxModel", "iceOf", "(IIII)J"⟩, 34) := ⟨⟨by decide +kernel, by decide +kernel⟩, List.mem_of_getElem? (i := 1083) (by decide +kernel), List.mem_of_getElem? (i := 1574) (by decide +kernel), List.mem_of_getElem? (i := 1575) (by decide +kernel)⟩
theorem lw_p72 : lw_okq (⟨"ColdBoxModel", "copy", "(II)V"⟩, 34) := ⟨⟨by decide +kernel, by decide +kernel⟩, List.mem_of_getElem? (i := 1083) (by decide +kernel), List.mem_of_getElem? (i := 1585) (by decide +kernel), List.mem_of_getElem? (i := 1586) (by decide +kernel)⟩
theorem lw_p73 : lw_okq (⟨"ColdBoxModel", "placeOf", "(I)I"⟩, 34) := ⟨⟨by decide +kernel, by decide +kernel⟩, List.mem_of_getElem? (i := 1083) (by decide +kernel), List.mem_of_getElem? (i := 1589) (by decide +kernel), List.mem_of_getElem? (i := 1590) (by decide +kernel)⟩
theorem lw_p74 : lw_okq (⟨"ColdBoxModel", "within", "(I)I"⟩, 34) := ⟨⟨by decide +kernel, by decide +kernel⟩, List.mem_of_getElem? (i := 1083) (by decide +kernel), List.mem_of_getElem? (i := 1596) (by decide +kernel), List.mem_of_getElem? (i := 1597) (by decide +kernel)⟩
theorem lw_p75 : lw_okq (⟨"ColdBoxModel", "paid", "(II)J"⟩, 34) := ⟨⟨by decide +kernel, by decide +kernel⟩, List.mem_of_getElem? (i := 1083) (by decide +kernel), List.mem_of_getElem? (i := 1618) (by decide +kernel), List.mem_of_getElem? (i := 1619) (by decide +kernel)⟩
def lw_privs_5 : List (MethodName × Nat) := [(⟨"ColdBoxModel", "signOf", "(I)I"⟩, 34), (⟨"ColdBoxModel", "seens", "()I"⟩, 34), (⟨"ColdBoxModel", "weigh", "(I)V"⟩, 34), (⟨"ColdBoxModel", "weightOf", "(I)J"⟩, 34), (⟨"ColdBoxModel", "oddsOf", "(I)I"⟩, 34), (⟨"ColdBoxModel", "tellsOf", "(I)I"⟩, 34), (⟨"ColdBoxModel", "yearOf", "(I)I"⟩, 34), (⟨"ColdBoxModel", "iceOf", "(IIII)J"⟩, 34), (⟨"ColdBoxModel", "copy", "(II)V"⟩, 34), (⟨"ColdBoxModel", "placeOf", "(I)I"⟩, 34), (⟨"ColdBoxModel", "within", "(I)I"⟩, 34), (⟨"ColdBoxModel", "paid", "(II)J"⟩, 34)]
theorem lw_r5 : ∀ q ∈ lw_privs_5, lw_okq q := List.forall_mem_cons.mpr ⟨lw_p64, List.forall_mem_cons.mpr ⟨lw_p65, List.forall_mem_cons.mpr ⟨lw_p66, List.forall_mem_cons.mpr ⟨lw_p67, List.forall_mem_cons.mpr ⟨lw_p68, List.forall_mem_cons.mpr ⟨lw_p69, List.forall_mem_cons.mpr ⟨lw_p70, List.forall_mem_cons.mpr ⟨lw_p71, List.forall_mem_cons.mpr ⟨lw_p72, List.forall_mem_cons.mpr ⟨lw_p73, List.forall_mem_cons.mpr ⟨lw_p74, List.forall_mem_cons.mpr ⟨lw_p75, fun _ h => absurd h List.not_mem_nil⟩⟩⟩⟩⟩⟩⟩⟩⟩⟩⟩⟩
def lw_privs : List (MethodName × Nat) := lw_privs_1 ++ (lw_privs_2 ++ (lw_privs_3 ++ (lw_privs_4 ++ (lw_privs_5))))
def lw_tbl : List Cond := k2_sels lw_privs ++ tables_1
theorem lw_privs_ok : ∀ q ∈ lw_privs, lw_okq q := by
  show ∀ q ∈ lw_privs_1 ++ (lw_privs_2 ++ (lw_privs_3 ++ (lw_privs_4 ++ (lw_privs_5)))), lw_okq q
  exact List.forall_mem_append.mpr ⟨lw_r1, List.forall_mem_append.mpr ⟨lw_r2, List.forall_mem_append.mpr ⟨lw_r3, List.forall_mem_append.mpr ⟨lw_r4, lw_r5⟩⟩⟩⟩
def RX0 : String := "ColdBox$Build"
def TX0 : u_T := fun k => match k with
  | _ => ("ColdBox$Build", "numbers", "[I", true)
def tyX0 : Nat → FieldType := fun k => match k with
  | _ => .array .int
abbrev wsX00 : List Cond := u_ws RX0 TX0 1
theorem nmX0 : ∀ a, a < 1 → ∀ b, b < 1 → a ≠ b → (TX0 a).2.1 ≠ (TX0 b).2.1 := by decide +kernel
theorem tyX0_ok : ∀ k, k < 1 → parseFieldDescriptor (TX0 k).2.2.1 = some (tyX0 k) := by decide +kernel
abbrev cX0_init : ByteArray := prog_2_method_1_code
def yX0_init : MethodName := ⟨RX0, "<init>", "()V"⟩
abbrev cX0_copyFrom : ByteArray := prog_2_method_2_code
def yX0_copyFrom : MethodName := ⟨RX0, "copyFrom", "([I)V"⟩
abbrev cX0_sealOf : ByteArray := prog_2_method_3_code
def yX0_sealOf : MethodName := ⟨RX0, "sealOf", "(LColdBox$State;)I"⟩
abbrev cX0_powerOf : ByteArray := prog_2_method_4_code
def yX0_powerOf : MethodName := ⟨RX0, "powerOf", "(LColdBox$State;)I"⟩
abbrev cX0_roomOf : ByteArray := prog_2_method_5_code
def yX0_roomOf : MethodName := ⟨RX0, "roomOf", "(LColdBox$State;)I"⟩
def RX1 : String := "ColdBox$FreshRuns"
def TX1 : u_T := fun k => match k with
  | 0 => ("ColdBox$FreshRuns", "ticker", "LColdBox$Ticker;", true)
  | 1 => ("ColdBox$FreshRuns", "tried", "LColdBox$State;", true)
  | 2 => ("ColdBox$FreshRuns", "daysKnown", "[I", true)
  | _ => ("ColdBox$FreshRuns", "signs", "[I", true)
def tyX1 : Nat → FieldType := fun k => match k with
  | 0 => .object "ColdBox$Ticker"
  | 1 => .object "ColdBox$State"
  | 2 => .array .int
  | _ => .array .int
abbrev wsX10 : List Cond := u_ws RX1 TX1 4
theorem nmX1 : ∀ a, a < 4 → ∀ b, b < 4 → a ≠ b → (TX1 a).2.1 ≠ (TX1 b).2.1 := by decide +kernel
theorem tyX1_ok : ∀ k, k < 4 → parseFieldDescriptor (TX1 k).2.2.1 = some (tyX1 k) := by decide +kernel
abbrev cX1_init : ByteArray := prog_3_method_1_code
def yX1_init : MethodName := ⟨RX1, "<init>", "(LColdBox$Ticker;)V"⟩
abbrev cX1_forgetSigns : ByteArray := prog_3_method_2_code
def yX1_forgetSigns : MethodName := ⟨RX1, "forgetSigns", "()V"⟩
abbrev cX1_signOf : ByteArray := prog_3_method_3_code
def yX1_signOf : MethodName := ⟨RX1, "signOf", "(III)I"⟩
abbrev cX1_learnCouldBe : ByteArray := prog_3_method_4_code
def yX1_learnCouldBe : MethodName := ⟨RX1, "learnCouldBe", "(I)V"⟩
abbrev cX1_learnParts : ByteArray := prog_3_method_5_code
def yX1_learnParts : MethodName := ⟨RX1, "learnParts", "(II)V"⟩
abbrev cX1_learn : ByteArray := prog_3_method_6_code
def yX1_learn : MethodName := ⟨RX1, "learn", "(II)V"⟩
abbrev cX1_placeOf : ByteArray := prog_3_method_7_code
def yX1_placeOf : MethodName := ⟨RX1, "placeOf", "(II)I"⟩
abbrev cX1_firstDay : ByteArray := prog_3_method_8_code
def yX1_firstDay : MethodName := ⟨RX1, "firstDay", "(IZZ)I"⟩
abbrev cX1_usedThawing : ByteArray := prog_3_method_9_code
def yX1_usedThawing : MethodName := ⟨RX1, "usedThawing", "(IIIZ)I"⟩
abbrev cX1_begin : ByteArray := prog_3_method_10_code
def yX1_begin : MethodName := ⟨RX1, "begin", "(IZ)V"⟩
def RX2 : String := "ColdBox$Guess"
def TX2 : u_T := fun k => match k with
  | 0 => ("ColdBox$Guess", "runs", "LColdBox$FreshRuns;", true)
  | 1 => ("ColdBox$Guess", "isSeen", "[Z", true)
  | 2 => ("ColdBox$Guess", "values", "[I", true)
  | 3 => ("ColdBox$Guess", "exact", "[I", true)
  | 4 => ("ColdBox$Guess", "priors", "[I", true)
  | 5 => ("ColdBox$Guess", "bothers", "[I", true)
  | 6 => ("ColdBox$Guess", "weights", "[J", true)
  | _ => ("ColdBox$Guess", "classes", "[I", true)
def tyX2 : Nat → FieldType := fun k => match k with
  | 0 => .object "ColdBox$FreshRuns"
  | 1 => .array .boolean
  | 2 => .array .int
  | 3 => .array .int
  | 4 => .array .int
  | 5 => .array .int
  | 6 => .array .long
  | _ => .array .int
abbrev wsX20 : List Cond := u_ws RX2 TX2 8
theorem nmX2 : ∀ a, a < 8 → ∀ b, b < 8 → a ≠ b → (TX2 a).2.1 ≠ (TX2 b).2.1 := by decide +kernel
theorem tyX2_ok : ∀ k, k < 8 → parseFieldDescriptor (TX2 k).2.2.1 = some (tyX2 k) := by decide +kernel
abbrev cX2_init : ByteArray := prog_4_method_1_code
def yX2_init : MethodName := ⟨RX2, "<init>", "(LColdBox$FreshRuns;)V"⟩
abbrev cX2_howManySeen : ByteArray := prog_4_method_2_code
def yX2_howManySeen : MethodName := ⟨RX2, "howManySeen", "()I"⟩
abbrev cX2_oddsOf : ByteArray := prog_4_method_3_code
def yX2_oddsOf : MethodName := ⟨RX2, "oddsOf", "(II)I"⟩
abbrev cX2_oddsWith : ByteArray := prog_4_method_4_code
def yX2_oddsWith : MethodName := ⟨RX2, "oddsWith", "(II)I"⟩
abbrev cX2_howMuchTells : ByteArray := prog_4_method_5_code
def yX2_howMuchTells : MethodName := ⟨RX2, "howMuchTells", "(II)I"⟩
abbrev cX2_nextSign : ByteArray := prog_4_method_6_code
def yX2_nextSign : MethodName := ⟨RX2, "nextSign", "(I)I"⟩
abbrev cX2_share : ByteArray := prog_4_method_7_code
def yX2_share : MethodName := ⟨RX2, "share", "(IJ)I"⟩
abbrev cX2_weighAll : ByteArray := prog_4_method_8_code
def yX2_weighAll : MethodName := ⟨RX2, "weighAll", "(I)J"⟩
abbrev cX2_weightOf : ByteArray := prog_4_method_9_code
def yX2_weightOf : MethodName := ⟨RX2, "weightOf", "(II)J"⟩
abbrev cX2_halvings : ByteArray := prog_4_method_10_code
def yX2_halvings : MethodName := ⟨RX2, "halvings", "(III)I"⟩
abbrev cX2_exactOf : ByteArray := prog_4_method_11_code
def yX2_exactOf : MethodName := ⟨RX2, "exactOf", "(I)I"⟩
abbrev cX2_tellingBy : ByteArray := prog_4_method_12_code
def yX2_tellingBy : MethodName := ⟨RX2, "tellingBy", "(IIJ)I"⟩
abbrev cX2_isFirstOfClass : ByteArray := prog_4_method_13_code
def yX2_isFirstOfClass : MethodName := ⟨RX2, "isFirstOfClass", "(I)Z"⟩
abbrev cX2_weightOfClass : ByteArray := prog_4_method_14_code
def yX2_weightOfClass : MethodName := ⟨RX2, "weightOfClass", "(I)J"⟩
def RX3 : String := "ColdBox$Openings"
def TX3 : u_T := fun k => match k with
  | 0 => ("ColdBox$Openings", "size", "I", false)
  | 1 => ("ColdBox$Openings", "from", "[I", true)
  | 2 => ("ColdBox$Openings", "lasting", "[I", true)
  | _ => ("ColdBox$Openings", "open", "[Z", true)
def tyX3 : Nat → FieldType := fun k => match k with
  | 0 => .int
  | 1 => .array .int
  | 2 => .array .int
  | _ => .array .boolean
abbrev wsX30 : List Cond := u_ws RX3 TX3 4
theorem nmX3 : ∀ a, a < 4 → ∀ b, b < 4 → a ≠ b → (TX3 a).2.1 ≠ (TX3 b).2.1 := by decide +kernel
theorem tyX3_ok : ∀ k, k < 4 → parseFieldDescriptor (TX3 k).2.2.1 = some (tyX3 k) := by decide +kernel
abbrev cX3_init : ByteArray := prog_5_method_1_code
def yX3_init : MethodName := ⟨RX3, "<init>", "()V"⟩
abbrev cX3_copyFrom : ByteArray := prog_5_method_2_code
def yX3_copyFrom : MethodName := ⟨RX3, "copyFrom", "(I[I[I)V"⟩
abbrev cX3_isOpenIn : ByteArray := prog_5_method_3_code
def yX3_isOpenIn : MethodName := ⟨RX3, "isOpenIn", "(I)Z"⟩
def RX4 : String := "ColdBox$Purse"
def TX4 : u_T := fun k => match k with
  | 0 => ("ColdBox$Purse", "runs", "LColdBox$FreshRuns;", true)
  | 1 => ("ColdBox$Purse", "costs", "[I", true)
  | _ => ("ColdBox$Purse", "coins", "I", false)
def tyX4 : Nat → FieldType := fun k => match k with
  | 0 => .object "ColdBox$FreshRuns"
  | 1 => .array .int
  | _ => .int
abbrev wsX40 : List Cond := u_ws RX4 TX4 3
theorem nmX4 : ∀ a, a < 3 → ∀ b, b < 3 → a ≠ b → (TX4 a).2.1 ≠ (TX4 b).2.1 := by decide +kernel
theorem tyX4_ok : ∀ k, k < 3 → parseFieldDescriptor (TX4 k).2.2.1 = some (tyX4 k) := by decide +kernel
abbrev cX4_init : ByteArray := prog_6_method_1_code
def yX4_init : MethodName := ⟨RX4, "<init>", "(LColdBox$FreshRuns;)V"⟩
abbrev cX4_yearOf : ByteArray := prog_6_method_2_code
def yX4_yearOf : MethodName := ⟨RX4, "yearOf", "(IZ)I"⟩
abbrev cX4_yearByUse : ByteArray := prog_6_method_3_code
def yX4_yearByUse : MethodName := ⟨RX4, "yearByUse", "(I)I"⟩
abbrev cX4_saved : ByteArray := prog_6_method_4_code
def yX4_saved : MethodName := ⟨RX4, "saved", "(IIZ)I"⟩
abbrev cX4_costOf : ByteArray := prog_6_method_5_code
def yX4_costOf : MethodName := ⟨RX4, "costOf", "(I)I"⟩
abbrev cX4_bestPart : ByteArray := prog_6_method_6_code
def yX4_bestPart : MethodName := ⟨RX4, "bestPart", "(IIZ)I"⟩
abbrev cX4_yearsToPay : ByteArray := prog_6_method_7_code
def yX4_yearsToPay : MethodName := ⟨RX4, "yearsToPay", "(IIIZ)I"⟩
abbrev cX4_bestThawing : ByteArray := prog_6_method_8_code
def yX4_bestThawing : MethodName := ⟨RX4, "bestThawing", "(IIIZ)I"⟩
def RX5 : String := "ColdBox$Reader"
def TX5 : u_T := fun k => match k with
  | 0 => ("ColdBox$Reader", "text", "[C", true)
  | 1 => ("ColdBox$Reader", "length", "I", false)
  | 2 => ("ColdBox$Reader", "at", "I", false)
  | 3 => ("ColdBox$Reader", "fault", "I", false)
  | 4 => ("ColdBox$Reader", "place", "I", false)
  | 5 => ("ColdBox$Reader", "clauses", "I", false)
  | 6 => ("ColdBox$Reader", "isTold", "[Z", true)
  | 7 => ("ColdBox$Reader", "numbers", "[I", true)
  | 8 => ("ColdBox$Reader", "from", "[I", true)
  | _ => ("ColdBox$Reader", "lasting", "[I", true)
def tyX5 : Nat → FieldType := fun k => match k with
  | 0 => .array .char
  | 1 => .int
  | 2 => .int
  | 3 => .int
  | 4 => .int
  | 5 => .int
  | 6 => .array .boolean
  | 7 => .array .int
  | 8 => .array .int
  | _ => .array .int
abbrev wsX50 : List Cond := u_ws RX5 TX5 10
theorem nmX5 : ∀ a, a < 10 → ∀ b, b < 10 → a ≠ b → (TX5 a).2.1 ≠ (TX5 b).2.1 := by decide +kernel
theorem tyX5_ok : ∀ k, k < 10 → parseFieldDescriptor (TX5 k).2.2.1 = some (tyX5 k) := by decide +kernel
abbrev cX5_init : ByteArray := prog_7_method_1_code
def yX5_init : MethodName := ⟨RX5, "<init>", "()V"⟩
abbrev cX5_append : ByteArray := prog_7_method_2_code
def yX5_append : MethodName := ⟨RX5, "append", "(IJ)Z"⟩
abbrev cX5_readBox : ByteArray := prog_7_method_3_code
def yX5_readBox : MethodName := ⟨RX5, "readBox", "()V"⟩
abbrev cX5_readDay : ByteArray := prog_7_method_4_code
def yX5_readDay : MethodName := ⟨RX5, "readDay", "()V"⟩
abbrev cX5_begin : ByteArray := prog_7_method_5_code
def yX5_begin : MethodName := ⟨RX5, "begin", "()V"⟩
abbrev cX5_readClause : ByteArray := prog_7_method_6_code
def yX5_readClause : MethodName := ⟨RX5, "readClause", "()V"⟩
abbrev cX5_readClauseNumbers : ByteArray := prog_7_method_7_code
def yX5_readClauseNumbers : MethodName := ⟨RX5, "readClauseNumbers", "(I)V"⟩
abbrev cX5_readOpening : ByteArray := prog_7_method_8_code
def yX5_readOpening : MethodName := ⟨RX5, "readOpening", "()V"⟩
abbrev cX5_readClauseEnd : ByteArray := prog_7_method_9_code
def yX5_readClauseEnd : MethodName := ⟨RX5, "readClauseEnd", "()V"⟩
abbrev cX5_readNumber : ByteArray := prog_7_method_10_code
def yX5_readNumber : MethodName := ⟨RX5, "readNumber", "(II)I"⟩
abbrev cX5_readWord : ByteArray := prog_7_method_11_code
def yX5_readWord : MethodName := ⟨RX5, "readWord", "()V"⟩
abbrev cX5_skipBlanks : ByteArray := prog_7_method_12_code
def yX5_skipBlanks : MethodName := ⟨RX5, "skipBlanks", "()V"⟩
abbrev cX5_clauseFrom : ByteArray := prog_7_method_13_code
def yX5_clauseFrom : MethodName := ⟨RX5, "clauseFrom", "(I)I"⟩
abbrev cX5_isWord : ByteArray := prog_7_method_14_code
def yX5_isWord : MethodName := ⟨RX5, "isWord", "(Ljava/lang/String;I)Z"⟩
abbrev cX5_faultAt : ByteArray := prog_7_method_15_code
def yX5_faultAt : MethodName := ⟨RX5, "faultAt", "(II)V"⟩
abbrev cX5_isFigure : ByteArray := prog_7_method_16_code
def yX5_isFigure : MethodName := ⟨RX5, "isFigure", "(C)Z"⟩
abbrev cX5_isLetter : ByteArray := prog_7_method_17_code
def yX5_isLetter : MethodName := ⟨RX5, "isLetter", "(C)Z"⟩
abbrev cX5_wordOf : ByteArray := prog_7_method_18_code
def yX5_wordOf : MethodName := ⟨RX5, "wordOf", "(I)Ljava/lang/String;"⟩
def RX6 : String := "ColdBox$State"
def TX6 : u_T := fun k => match k with
  | 0 => ("ColdBox$State", "heats", "[J", true)
  | 1 => ("ColdBox$State", "caps", "[I", true)
  | 2 => ("ColdBox$State", "there", "[Z", true)
  | 3 => ("ColdBox$State", "shelves", "[I", true)
  | 4 => ("ColdBox$State", "lowest", "[I", true)
  | 5 => ("ColdBox$State", "highest", "[I", true)
  | 6 => ("ColdBox$State", "flowed", "[J", true)
  | 7 => ("ColdBox$State", "counts", "[I", true)
  | 8 => ("ColdBox$State", "troubles", "I", false)
  | 9 => ("ColdBox$State", "reading", "I", false)
  | 10 => ("ColdBox$State", "on", "Z", false)
  | 11 => ("ColdBox$State", "covered", "Z", false)
  | 12 => ("ColdBox$State", "current", "Z", false)
  | _ => ("ColdBox$State", "seedNow", "I", false)
def tyX6 : Nat → FieldType := fun k => match k with
  | 0 => .array .long
  | 1 => .array .int
  | 2 => .array .boolean
  | 3 => .array .int
  | 4 => .array .int
  | 5 => .array .int
  | 6 => .array .long
  | 7 => .array .int
  | 8 => .int
  | 9 => .int
  | 10 => .boolean
  | 11 => .boolean
  | 12 => .boolean
  | _ => .int
abbrev wsX60 : List Cond := u_ws RX6 TX6 14
theorem nmX6 : ∀ a, a < 14 → ∀ b, b < 14 → a ≠ b → (TX6 a).2.1 ≠ (TX6 b).2.1 := by decide +kernel
theorem tyX6_ok : ∀ k, k < 14 → parseFieldDescriptor (TX6 k).2.2.1 = some (tyX6 k) := by decide +kernel
abbrev cX6_init : ByteArray := prog_8_method_1_code
def yX6_init : MethodName := ⟨RX6, "<init>", "()V"⟩
abbrev cX6_becomeFresh : ByteArray := prog_8_method_2_code
def yX6_becomeFresh : MethodName := ⟨RX6, "becomeFresh", "()V"⟩
abbrev cX6_copyFrom : ByteArray := prog_8_method_3_code
def yX6_copyFrom : MethodName := ⟨RX6, "copyFrom", "(LColdBox$State;)V"⟩
abbrev cX6_has : ByteArray := prog_8_method_4_code
def yX6_has : MethodName := ⟨RX6, "has", "(I)Z"⟩
abbrev cX6_warmthOf : ByteArray := prog_8_method_5_code
def yX6_warmthOf : MethodName := ⟨RX6, "warmthOf", "(I)I"⟩
abbrev cX6_tickOfDay : ByteArray := prog_8_method_6_code
def yX6_tickOfDay : MethodName := ⟨RX6, "tickOfDay", "()I"⟩
abbrev cX6_allHeat : ByteArray := prog_8_method_7_code
def yX6_allHeat : MethodName := ⟨RX6, "allHeat", "()J"⟩
abbrev cX6_hasFood : ByteArray := prog_8_method_8_code
def yX6_hasFood : MethodName := ⟨RX6, "hasFood", "(I)Z"⟩
abbrev cX6_firstNotThere : ByteArray := prog_8_method_9_code
def yX6_firstNotThere : MethodName := ⟨RX6, "firstNotThere", "()I"⟩
abbrev cX6_foodsThere : ByteArray := prog_8_method_10_code
def yX6_foodsThere : MethodName := ⟨RX6, "foodsThere", "()I"⟩
abbrev cX6_addFood : ByteArray := prog_8_method_11_code
def yX6_addFood : MethodName := ⟨RX6, "addFood", "(IIII)V"⟩
abbrev cX6_removeFood : ByteArray := prog_8_method_12_code
def yX6_removeFood : MethodName := ⟨RX6, "removeFood", "(I)V"⟩
abbrev cX6_isWithin : ByteArray := prog_8_method_13_code
def yX6_isWithin : MethodName := ⟨RX6, "isWithin", "(I)Z"⟩
abbrev cX6_foodsWithin : ByteArray := prog_8_method_14_code
def yX6_foodsWithin : MethodName := ⟨RX6, "foodsWithin", "()I"⟩
abbrev cX6_letOffIce : ByteArray := prog_8_method_15_code
def yX6_letOffIce : MethodName := ⟨RX6, "letOffIce", "()I"⟩
abbrev cX6_draw : ByteArray := prog_8_method_16_code
def yX6_draw : MethodName := ⟨RX6, "draw", "(I)I"⟩
def RX7 : String := "ColdBox$Ticker"
def TX7 : u_T := fun k => match k with
  | 0 => ("ColdBox$Ticker", "build", "LColdBox$Build;", true)
  | 1 => ("ColdBox$Ticker", "openings", "LColdBox$Openings;", true)
  | 2 => ("ColdBox$Ticker", "warms", "[I", true)
  | _ => ("ColdBox$Ticker", "gains", "[J", true)
def tyX7 : Nat → FieldType := fun k => match k with
  | 0 => .object "ColdBox$Build"
  | 1 => .object "ColdBox$Openings"
  | 2 => .array .int
  | _ => .array .long
abbrev wsX70 : List Cond := u_ws RX7 TX7 4
theorem nmX7 : ∀ a, a < 4 → ∀ b, b < 4 → a ≠ b → (TX7 a).2.1 ≠ (TX7 b).2.1 := by decide +kernel
theorem tyX7_ok : ∀ k, k < 4 → parseFieldDescriptor (TX7 k).2.2.1 = some (tyX7 k) := by decide +kernel
abbrev cX7_init : ByteArray := prog_9_method_1_code
def yX7_init : MethodName := ⟨RX7, "<init>", "(LColdBox$Build;LColdBox$Openings;)V"⟩
abbrev cX7_passByDay : ByteArray := prog_9_method_2_code
def yX7_passByDay : MethodName := ⟨RX7, "passByDay", "(LColdBox$State;II)V"⟩
abbrev cX7_pass : ByteArray := prog_9_method_3_code
def yX7_pass : MethodName := ⟨RX7, "pass", "(LColdBox$State;ZII)V"⟩
abbrev cX7_lookAtWarmths : ByteArray := prog_9_method_4_code
def yX7_lookAtWarmths : MethodName := ⟨RX7, "lookAtWarmths", "(LColdBox$State;)V"⟩
abbrev cX7_switchMachine : ByteArray := prog_9_method_5_code
def yX7_switchMachine : MethodName := ⟨RX7, "switchMachine", "(LColdBox$State;II)V"⟩
abbrev cX7_exchange : ByteArray := prog_9_method_6_code
def yX7_exchange : MethodName := ⟨RX7, "exchange", "(LColdBox$State;II)V"⟩
abbrev cX7_flow : ByteArray := prog_9_method_7_code
def yX7_flow : MethodName := ⟨RX7, "flow", "(IIII)V"⟩
abbrev cX7_giveLight : ByteArray := prog_9_method_8_code
def yX7_giveLight : MethodName := ⟨RX7, "giveLight", "(LColdBox$State;)V"⟩
abbrev cX7_moveOut : ByteArray := prog_9_method_9_code
def yX7_moveOut : MethodName := ⟨RX7, "moveOut", "(LColdBox$State;I)V"⟩
abbrev cX7_takeWet : ByteArray := prog_9_method_10_code
def yX7_takeWet : MethodName := ⟨RX7, "takeWet", "(LColdBox$State;I)V"⟩
def RX8 : String := "ColdBox$Trials"
def TX8 : u_T := fun k => match k with
  | 0 => ("ColdBox$Trials", "ticker", "LColdBox$Ticker;", true)
  | 1 => ("ColdBox$Trials", "now", "LColdBox$State;", true)
  | 2 => ("ColdBox$Trials", "tried", "LColdBox$State;", true)
  | 3 => ("ColdBox$Trials", "row", "[I", true)
  | 4 => ("ColdBox$Trials", "cheapFrom", "I", false)
  | 5 => ("ColdBox$Trials", "cheapTo", "I", false)
  | 6 => ("ColdBox$Trials", "cheapPrice", "I", false)
  | 7 => ("ColdBox$Trials", "bestChoice", "I", false)
  | _ => ("ColdBox$Trials", "most", "I", false)
def tyX8 : Nat → FieldType := fun k => match k with
  | 0 => .object "ColdBox$Ticker"
  | 1 => .object "ColdBox$State"
  | 2 => .object "ColdBox$State"
  | 3 => .array .int
  | 4 => .int
  | 5 => .int
  | 6 => .int
  | 7 => .int
  | _ => .int
abbrev wsX80 : List Cond := u_ws RX8 TX8 9
theorem nmX8 : ∀ a, a < 9 → ∀ b, b < 9 → a ≠ b → (TX8 a).2.1 ≠ (TX8 b).2.1 := by decide +kernel
theorem tyX8_ok : ∀ k, k < 9 → parseFieldDescriptor (TX8 k).2.2.1 = some (tyX8 k) := by decide +kernel
abbrev cX8_init : ByteArray := prog_10_method_1_code
def yX8_init : MethodName := ⟨RX8, "<init>", "(LColdBox$Ticker;LColdBox$State;)V"⟩
abbrev cX8_findBestRow : ByteArray := prog_10_method_2_code
def yX8_findBestRow : MethodName := ⟨RX8, "findBestRow", "()V"⟩
abbrev cX8_shelfInBestRow : ByteArray := prog_10_method_3_code
def yX8_shelfInBestRow : MethodName := ⟨RX8, "shelfInBestRow", "(I)I"⟩
abbrev cX8_layByRow : ByteArray := prog_10_method_4_code
def yX8_layByRow : MethodName := ⟨RX8, "layByRow", "(I[I)V"⟩
abbrev cX8_findBestBulb : ByteArray := prog_10_method_5_code
def yX8_findBestBulb : MethodName := ⟨RX8, "findBestBulb", "()V"⟩
abbrev cX8_takeIfMore : ByteArray := prog_10_method_6_code
def yX8_takeIfMore : MethodName := ⟨RX8, "takeIfMore", "(II)V"⟩
abbrev cX8_withinOnSecondDay : ByteArray := prog_10_method_7_code
def yX8_withinOnSecondDay : MethodName := ⟨RX8, "withinOnSecondDay", "(I)I"⟩
abbrev cX8_ticksWithoutCurrent : ByteArray := prog_10_method_8_code
def yX8_ticksWithoutCurrent : MethodName := ⟨RX8, "ticksWithoutCurrent", "(I)I"⟩
abbrev cX8_findBestStore : ByteArray := prog_10_method_9_code
def yX8_findBestStore : MethodName := ⟨RX8, "findBestStore", "(II)V"⟩
abbrev cX8_paidStoring : ByteArray := prog_10_method_10_code
def yX8_paidStoring : MethodName := ⟨RX8, "paidStoring", "(III)I"⟩
abbrev cX8_isCheapHour : ByteArray := prog_10_method_11_code
def yX8_isCheapHour : MethodName := ⟨RX8, "isCheapHour", "(I)Z"⟩
abbrev cX8_boxBulb : ByteArray := prog_10_method_12_code
def yX8_boxBulb : MethodName := ⟨RX8, "boxBulb", "()I"⟩
def RX9 : String := "ColdBox"
def TX9 : u_T := fun k => match k with
  | 0 => ("ColdBox", "reader", "LColdBox$Reader;", true)
  | 1 => ("ColdBox", "build", "LColdBox$Build;", true)
  | 2 => ("ColdBox", "openings", "LColdBox$Openings;", true)
  | 3 => ("ColdBox", "ticker", "LColdBox$Ticker;", true)
  | 4 => ("ColdBox", "now", "LColdBox$State;", true)
  | 5 => ("ColdBox", "image0", "LColdBox$State;", true)
  | 6 => ("ColdBox", "image1", "LColdBox$State;", true)
  | 7 => ("ColdBox", "kept", "[Z", true)
  | 8 => ("ColdBox", "drawnDoor", "[Z", true)
  | 9 => ("ColdBox", "freshRuns", "LColdBox$FreshRuns;", true)
  | 10 => ("ColdBox", "guess", "LColdBox$Guess;", true)
  | 11 => ("ColdBox", "purse", "LColdBox$Purse;", true)
  | _ => ("ColdBox", "trials", "LColdBox$Trials;", true)
def tyX9 : Nat → FieldType := fun k => match k with
  | 0 => .object "ColdBox$Reader"
  | 1 => .object "ColdBox$Build"
  | 2 => .object "ColdBox$Openings"
  | 3 => .object "ColdBox$Ticker"
  | 4 => .object "ColdBox$State"
  | 5 => .object "ColdBox$State"
  | 6 => .object "ColdBox$State"
  | 7 => .array .boolean
  | 8 => .array .boolean
  | 9 => .object "ColdBox$FreshRuns"
  | 10 => .object "ColdBox$Guess"
  | 11 => .object "ColdBox$Purse"
  | _ => .object "ColdBox$Trials"
abbrev wsX90 : List Cond := u_ws RX9 TX9 13
theorem nmX9 : ∀ a, a < 13 → ∀ b, b < 13 → a ≠ b → (TX9 a).2.1 ≠ (TX9 b).2.1 := by decide +kernel
theorem tyX9_ok : ∀ k, k < 13 → parseFieldDescriptor (TX9 k).2.2.1 = some (tyX9 k) := by decide +kernel
abbrev cX9_init : ByteArray := prog_1_method_1_code
def yX9_init : MethodName := ⟨RX9, "<init>", "()V"⟩
abbrev cX9_feed : ByteArray := prog_1_method_2_code
def yX9_feed : MethodName := ⟨RX9, "feed", "(IJ)I"⟩
abbrev cX9_box : ByteArray := prog_1_method_3_code
def yX9_box : MethodName := ⟨RX9, "box", "()I"⟩
abbrev cX9_day : ByteArray := prog_1_method_4_code
def yX9_day : MethodName := ⟨RX9, "day", "()I"⟩
abbrev cX9_fault : ByteArray := prog_1_method_5_code
def yX9_fault : MethodName := ⟨RX9, "fault", "()I"⟩
abbrev cX9_told : ByteArray := prog_1_method_6_code
def yX9_told : MethodName := ⟨RX9, "told", "(I)I"⟩
abbrev cX9_opening : ByteArray := prog_1_method_7_code
def yX9_opening : MethodName := ⟨RX9, "opening", "(II)I"⟩
abbrev cX9_trouble : ByteArray := prog_1_method_8_code
def yX9_trouble : MethodName := ⟨RX9, "trouble", "(I)I"⟩
abbrev cX9_fresh : ByteArray := prog_1_method_9_code
def yX9_fresh : MethodName := ⟨RX9, "fresh", "()I"⟩
abbrev cX9_current : ByteArray := prog_1_method_10_code
def yX9_current : MethodName := ⟨RX9, "current", "(Z)I"⟩
abbrev cX9_cover : ByteArray := prog_1_method_11_code
def yX9_cover : MethodName := ⟨RX9, "cover", "(Z)I"⟩
abbrev cX9_put : ByteArray := prog_1_method_12_code
def yX9_put : MethodName := ⟨RX9, "put", "(IIIII)I"⟩
abbrev cX9_take : ByteArray := prog_1_method_13_code
def yX9_take : MethodName := ⟨RX9, "take", "(I)I"⟩
abbrev cX9_lay : ByteArray := prog_1_method_14_code
def yX9_lay : MethodName := ⟨RX9, "lay", "(II)I"⟩
abbrev cX9_food : ByteArray := prog_1_method_15_code
def yX9_food : MethodName := ⟨RX9, "food", "(II)I"⟩
abbrev cX9_run : ByteArray := prog_1_method_16_code
def yX9_run : MethodName := ⟨RX9, "run", "(I)I"⟩
abbrev cX9_drawn : ByteArray := prog_1_method_17_code
def yX9_drawn : MethodName := ⟨RX9, "drawn", "(II)I"⟩
abbrev cX9_warmth : ByteArray := prog_1_method_18_code
def yX9_warmth : MethodName := ⟨RX9, "warmth", "(I)I"⟩
abbrev cX9_heat : ByteArray := prog_1_method_19_code
def yX9_heat : MethodName := ⟨RX9, "heat", "(I)J"⟩
abbrev cX9_count : ByteArray := prog_1_method_20_code
def yX9_count : MethodName := ⟨RX9, "count", "(I)I"⟩
abbrev cX9_thaw : ByteArray := prog_1_method_21_code
def yX9_thaw : MethodName := ⟨RX9, "thaw", "()I"⟩
abbrev cX9_sign : ByteArray := prog_1_method_22_code
def yX9_sign : MethodName := ⟨RX9, "sign", "(III)I"⟩
abbrev cX9_seen : ByteArray := prog_1_method_23_code
def yX9_seen : MethodName := ⟨RX9, "seen", "(III)I"⟩
abbrev cX9_forget : ByteArray := prog_1_method_24_code
def yX9_forget : MethodName := ⟨RX9, "forget", "()I"⟩
abbrev cX9_prior : ByteArray := prog_1_method_25_code
def yX9_prior : MethodName := ⟨RX9, "prior", "(II)I"⟩
abbrev cX9_bother : ByteArray := prog_1_method_26_code
def yX9_bother : MethodName := ⟨RX9, "bother", "(II)I"⟩
abbrev cX9_odds : ByteArray := prog_1_method_27_code
def yX9_odds : MethodName := ⟨RX9, "odds", "(II)I"⟩
abbrev cX9_each : ByteArray := prog_1_method_28_code
def yX9_each : MethodName := ⟨RX9, "each", "(II)I"⟩
abbrev cX9_tells : ByteArray := prog_1_method_29_code
def yX9_tells : MethodName := ⟨RX9, "tells", "(II)I"⟩
abbrev cX9_next : ByteArray := prog_1_method_30_code
def yX9_next : MethodName := ⟨RX9, "next", "(I)I"⟩
abbrev cX9_makes : ByteArray := prog_1_method_31_code
def yX9_makes : MethodName := ⟨RX9, "makes", "(II)I"⟩
abbrev cX9_mending : ByteArray := prog_1_method_32_code
def yX9_mending : MethodName := ⟨RX9, "mending", "(II)I"⟩
abbrev cX9_price : ByteArray := prog_1_method_33_code
def yX9_price : MethodName := ⟨RX9, "price", "(I)I"⟩
abbrev cX9_year : ByteArray := prog_1_method_34_code
def yX9_year : MethodName := ⟨RX9, "year", "(I)I"⟩
abbrev cX9_saves : ByteArray := prog_1_method_35_code
def yX9_saves : MethodName := ⟨RX9, "saves", "(II)I"⟩
abbrev cX9_best : ByteArray := prog_1_method_36_code
def yX9_best : MethodName := ⟨RX9, "best", "(III)I"⟩
abbrev cX9_pays : ByteArray := prog_1_method_37_code
def yX9_pays : MethodName := ⟨RX9, "pays", "(III)I"⟩
abbrev cX9_ice : ByteArray := prog_1_method_38_code
def yX9_ice : MethodName := ⟨RX9, "ice", "(III)I"⟩
abbrev cX9_lying : ByteArray := prog_1_method_39_code
def yX9_lying : MethodName := ⟨RX9, "lying", "(I)I"⟩
abbrev cX9_bulb : ByteArray := prog_1_method_40_code
def yX9_bulb : MethodName := ⟨RX9, "bulb", "(I)I"⟩
abbrev cX9_without : ByteArray := prog_1_method_41_code
def yX9_without : MethodName := ⟨RX9, "without", "(I)I"⟩
abbrev cX9_cheap : ByteArray := prog_1_method_42_code
def yX9_cheap : MethodName := ⟨RX9, "cheap", "(III)I"⟩
abbrev cX9_store : ByteArray := prog_1_method_43_code
def yX9_store : MethodName := ⟨RX9, "store", "(II)I"⟩
abbrev cX9_seed : ByteArray := prog_1_method_44_code
def yX9_seed : MethodName := ⟨RX9, "seed", "(I)I"⟩
abbrev cX9_keep : ByteArray := prog_1_method_45_code
def yX9_keep : MethodName := ⟨RX9, "keep", "(I)I"⟩
abbrev cX9_goBack : ByteArray := prog_1_method_46_code
def yX9_goBack : MethodName := ⟨RX9, "goBack", "(I)I"⟩
abbrev cX9_imageOf : ByteArray := prog_1_method_47_code
def yX9_imageOf : MethodName := ⟨RX9, "imageOf", "(I)LColdBox$State;"⟩
abbrev cX9_drawDoor : ByteArray := prog_1_method_48_code
def yX9_drawDoor : MethodName := ⟨RX9, "drawDoor", "(I)V"⟩
abbrev cX9_isSet : ByteArray := prog_1_method_49_code
def yX9_isSet : MethodName := ⟨RX9, "isSet", "(I)Z"⟩
abbrev cX9_isPart : ByteArray := prog_1_method_50_code
def yX9_isPart : MethodName := ⟨RX9, "isPart", "(II)Z"⟩
abbrev cX9_isTrouble : ByteArray := prog_1_method_51_code
def yX9_isTrouble : MethodName := ⟨RX9, "isTrouble", "(I)Z"⟩
abbrev cX9_isSign : ByteArray := prog_1_method_52_code
def yX9_isSign : MethodName := ⟨RX9, "isSign", "(I)Z"⟩
abbrev cX9_isShelf : ByteArray := prog_1_method_53_code
def yX9_isShelf : MethodName := ⟨RX9, "isShelf", "(I)Z"⟩
abbrev cX9_isPrice : ByteArray := prog_1_method_54_code
def yX9_isPrice : MethodName := ⟨RX9, "isPrice", "(I)Z"⟩
abbrev cX9_canBeWarmth : ByteArray := prog_1_method_55_code
def yX9_canBeWarmth : MethodName := ⟨RX9, "canBeWarmth", "(I)Z"⟩
abbrev cX9_areSignDays : ByteArray := prog_1_method_56_code
def yX9_areSignDays : MethodName := ⟨RX9, "areSignDays", "(I)Z"⟩
def RX10 : String := "ColdBoxModel"
def TX10 : u_T := fun k => match k with
  | 0 => ("ColdBoxModel", "w", "[J", true)
  | 1 => ("ColdBoxModel", "isKept", "[Z", true)
  | 2 => ("ColdBoxModel", "isBegun", "Z", false)
  | 3 => ("ColdBoxModel", "box", "[I", true)
  | 4 => ("ColdBoxModel", "read", "[I", true)
  | 5 => ("ColdBoxModel", "openings", "I", false)
  | 6 => ("ColdBoxModel", "opens", "[I", true)
  | 7 => ("ColdBoxModel", "lasts", "[I", true)
  | 8 => ("ColdBoxModel", "readOpens", "[I", true)
  | 9 => ("ColdBoxModel", "readLasts", "[I", true)
  | 10 => ("ColdBoxModel", "text", "[I", true)
  | 11 => ("ColdBoxModel", "textSize", "I", false)
  | 12 => ("ColdBoxModel", "at", "I", false)
  | 13 => ("ColdBoxModel", "first", "I", false)
  | 14 => ("ColdBoxModel", "length", "I", false)
  | 15 => ("ColdBoxModel", "faultOf", "I", false)
  | 16 => ("ColdBoxModel", "fault", "I", false)
  | 17 => ("ColdBoxModel", "seenKinds", "I", false)
  | 18 => ("ColdBoxModel", "flow", "[J", true)
  | 19 => ("ColdBoxModel", "isDrawn", "[Z", true)
  | 20 => ("ColdBoxModel", "shown", "[I", true)
  | 21 => ("ColdBoxModel", "isSeen", "[Z", true)
  | 22 => ("ColdBoxModel", "seenAs", "[I", true)
  | 23 => ("ColdBoxModel", "seenBy", "[I", true)
  | 24 => ("ColdBoxModel", "priors", "[I", true)
  | 25 => ("ColdBoxModel", "bothers", "[I", true)
  | 26 => ("ColdBoxModel", "weight", "[J", true)
  | 27 => ("ColdBoxModel", "shows", "[I", true)
  | 28 => ("ColdBoxModel", "allWeight", "J", false)
  | 29 => ("ColdBoxModel", "mends", "[I", true)
  | 30 => ("ColdBoxModel", "price", "I", false)
  | 31 => ("ColdBoxModel", "cheapFrom", "I", false)
  | 32 => ("ColdBoxModel", "cheapTill", "I", false)
  | _ => ("ColdBoxModel", "cheapPrice", "I", false)
def tyX10 : Nat → FieldType := fun k => match k with
  | 0 => .array .long
  | 1 => .array .boolean
  | 2 => .boolean
  | 3 => .array .int
  | 4 => .array .int
  | 5 => .int
  | 6 => .array .int
  | 7 => .array .int
  | 8 => .array .int
  | 9 => .array .int
  | 10 => .array .int
  | 11 => .int
  | 12 => .int
  | 13 => .int
  | 14 => .int
  | 15 => .int
  | 16 => .int
  | 17 => .int
  | 18 => .array .long
  | 19 => .array .boolean
  | 20 => .array .int
  | 21 => .array .boolean
  | 22 => .array .int
  | 23 => .array .int
  | 24 => .array .int
  | 25 => .array .int
  | 26 => .array .long
  | 27 => .array .int
  | 28 => .long
  | 29 => .array .int
  | 30 => .int
  | 31 => .int
  | 32 => .int
  | _ => .int
abbrev wsX100 : List Cond := u_ws RX10 TX10 34
theorem nmX10 : ∀ a, a < 34 → ∀ b, b < 34 → a ≠ b → (TX10 a).2.1 ≠ (TX10 b).2.1 := by decide +kernel
theorem tyX10_ok : ∀ k, k < 34 → parseFieldDescriptor (TX10 k).2.2.1 = some (tyX10 k) := by decide +kernel
abbrev cX10_init : ByteArray := prog_12_method_1_code
def yX10_init : MethodName := ⟨RX10, "<init>", "()V"⟩
abbrev cX10_in : ByteArray := prog_12_method_3_code
def yX10_in : MethodName := ⟨RX10, "in", "(JJJ)Z"⟩
abbrev cX10_one : ByteArray := prog_12_method_4_code
def yX10_one : MethodName := ⟨RX10, "one", "(Z)I"⟩
abbrev cX10_has : ByteArray := prog_12_method_5_code
def yX10_has : MethodName := ⟨RX10, "has", "(JI)Z"⟩
abbrev cX10_ones : ByteArray := prog_12_method_6_code
def yX10_ones : MethodName := ⟨RX10, "ones", "(I)I"⟩
abbrev cX10_untold : ByteArray := prog_12_method_7_code
def yX10_untold : MethodName := ⟨RX10, "untold", "(I)I"⟩
abbrev cX10_begin : ByteArray := prog_12_method_8_code
def yX10_begin : MethodName := ⟨RX10, "begin", "()V"⟩
abbrev cX10_feed : ByteArray := prog_12_method_9_code
def yX10_feed : MethodName := ⟨RX10, "feed", "(IJ)I"⟩
abbrev cX10_here : ByteArray := prog_12_method_10_code
def yX10_here : MethodName := ⟨RX10, "here", "()I"⟩
abbrev cX10_want : ByteArray := prog_12_method_11_code
def yX10_want : MethodName := ⟨RX10, "want", "(ZII)Z"⟩
abbrev cX10_takeWord : ByteArray := prog_12_method_12_code
def yX10_takeWord : MethodName := ⟨RX10, "takeWord", "()V"⟩
abbrev cX10_isWord : ByteArray := prog_12_method_13_code
def yX10_isWord : MethodName := ⟨RX10, "isWord", "(IIIIII)Z"⟩
abbrev cX10_takeNumber : ByteArray := prog_12_method_14_code
def yX10_takeNumber : MethodName := ⟨RX10, "takeNumber", "(II)I"⟩
abbrev cX10_kindHere : ByteArray := prog_12_method_15_code
def yX10_kindHere : MethodName := ⟨RX10, "kindHere", "()I"⟩
abbrev cX10_leastOf : ByteArray := prog_12_method_16_code
def yX10_leastOf : MethodName := ⟨RX10, "leastOf", "(I)I"⟩
abbrev cX10_mostOf : ByteArray := prog_12_method_17_code
def yX10_mostOf : MethodName := ⟨RX10, "mostOf", "(I)I"⟩
abbrev cX10_takeClause : ByteArray := prog_12_method_18_code
def yX10_takeClause : MethodName := ⟨RX10, "takeClause", "()V"⟩
abbrev cX10_takeEnd : ByteArray := prog_12_method_19_code
def yX10_takeEnd : MethodName := ⟨RX10, "takeEnd", "()V"⟩
abbrev cX10_beginReading : ByteArray := prog_12_method_20_code
def yX10_beginReading : MethodName := ⟨RX10, "beginReading", "()V"⟩
abbrev cX10_box : ByteArray := prog_12_method_21_code
def yX10_box : MethodName := ⟨RX10, "box", "()I"⟩
abbrev cX10_day : ByteArray := prog_12_method_22_code
def yX10_day : MethodName := ⟨RX10, "day", "()I"⟩
abbrev cX10_fault : ByteArray := prog_12_method_23_code
def yX10_fault : MethodName := ⟨RX10, "fault", "()I"⟩
abbrev cX10_told : ByteArray := prog_12_method_24_code
def yX10_told : MethodName := ⟨RX10, "told", "(I)I"⟩
abbrev cX10_opening : ByteArray := prog_12_method_25_code
def yX10_opening : MethodName := ⟨RX10, "opening", "(II)I"⟩
abbrev cX10_copy : ByteArray := prog_12_method_26_code
def yX10_copy : MethodName := ⟨RX10, "copy", "(II)V"⟩
abbrev cX10_freshen : ByteArray := prog_12_method_27_code
def yX10_freshen : MethodName := ⟨RX10, "freshen", "(I)V"⟩
abbrev cX10_tryFresh : ByteArray := prog_12_method_28_code
def yX10_tryFresh : MethodName := ⟨RX10, "tryFresh", "(I)V"⟩
abbrev cX10_capOf : ByteArray := prog_12_method_29_code
def yX10_capOf : MethodName := ⟨RX10, "capOf", "(II)J"⟩
abbrev cX10_warm : ByteArray := prog_12_method_30_code
def yX10_warm : MethodName := ⟨RX10, "warm", "(II)J"⟩
abbrev cX10_isOpen : ByteArray := prog_12_method_31_code
def yX10_isOpen : MethodName := ⟨RX10, "isOpen", "(J)Z"⟩
abbrev cX10_isHour : ByteArray := prog_12_method_32_code
def yX10_isHour : MethodName := ⟨RX10, "isHour", "(JII)Z"⟩
abbrev cX10_findFlows : ByteArray := prog_12_method_33_code
def yX10_findFlows : MethodName := ⟨RX10, "findFlows", "(IJJ)V"⟩
abbrev cX10_wet : ByteArray := prog_12_method_34_code
def yX10_wet : MethodName := ⟨RX10, "wet", "(IJ)V"⟩
abbrev cX10_readBulb : ByteArray := prog_12_method_35_code
def yX10_readBulb : MethodName := ⟨RX10, "readBulb", "(III)V"⟩
abbrev cX10_moves : ByteArray := prog_12_method_36_code
def yX10_moves : MethodName := ⟨RX10, "moves", "(IJ)J"⟩
abbrev cX10_tick : ByteArray := prog_12_method_37_code
def yX10_tick : MethodName := ⟨RX10, "tick", "(IZII)V"⟩
abbrev cX10_go : ByteArray := prog_12_method_38_code
def yX10_go : MethodName := ⟨RX10, "go", "(II)V"⟩
abbrev cX10_isSet : ByteArray := prog_12_method_39_code
def yX10_isSet : MethodName := ⟨RX10, "isSet", "(I)Z"⟩
abbrev cX10_isTrouble : ByteArray := prog_12_method_40_code
def yX10_isTrouble : MethodName := ⟨RX10, "isTrouble", "(I)Z"⟩
abbrev cX10_trouble : ByteArray := prog_12_method_41_code
def yX10_trouble : MethodName := ⟨RX10, "trouble", "(I)I"⟩
abbrev cX10_fresh : ByteArray := prog_12_method_42_code
def yX10_fresh : MethodName := ⟨RX10, "fresh", "()I"⟩
abbrev cX10_current : ByteArray := prog_12_method_43_code
def yX10_current : MethodName := ⟨RX10, "current", "(Z)I"⟩
abbrev cX10_cover : ByteArray := prog_12_method_44_code
def yX10_cover : MethodName := ⟨RX10, "cover", "(Z)I"⟩
abbrev cX10_isShelf : ByteArray := prog_12_method_45_code
def yX10_isShelf : MethodName := ⟨RX10, "isShelf", "(I)Z"⟩
abbrev cX10_isFood : ByteArray := prog_12_method_46_code
def yX10_isFood : MethodName := ⟨RX10, "isFood", "(I)Z"⟩
abbrev cX10_foods : ByteArray := prog_12_method_47_code
def yX10_foods : MethodName := ⟨RX10, "foods", "()I"⟩
abbrev cX10_isDegree : ByteArray := prog_12_method_48_code
def yX10_isDegree : MethodName := ⟨RX10, "isDegree", "(I)Z"⟩
abbrev cX10_put : ByteArray := prog_12_method_49_code
def yX10_put : MethodName := ⟨RX10, "put", "(IIIII)I"⟩
abbrev cX10_take : ByteArray := prog_12_method_50_code
def yX10_take : MethodName := ⟨RX10, "take", "(I)I"⟩
abbrev cX10_lay : ByteArray := prog_12_method_51_code
def yX10_lay : MethodName := ⟨RX10, "lay", "(II)I"⟩
abbrev cX10_isWithin : ByteArray := prog_12_method_52_code
def yX10_isWithin : MethodName := ⟨RX10, "isWithin", "(II)Z"⟩
abbrev cX10_food : ByteArray := prog_12_method_53_code
def yX10_food : MethodName := ⟨RX10, "food", "(II)I"⟩
abbrev cX10_run : ByteArray := prog_12_method_54_code
def yX10_run : MethodName := ⟨RX10, "run", "(I)I"⟩
abbrev cX10_draw : ByteArray := prog_12_method_55_code
def yX10_draw : MethodName := ⟨RX10, "draw", "(I)I"⟩
abbrev cX10_drawDay : ByteArray := prog_12_method_56_code
def yX10_drawDay : MethodName := ⟨RX10, "drawDay", "(I)V"⟩
abbrev cX10_drawn : ByteArray := prog_12_method_57_code
def yX10_drawn : MethodName := ⟨RX10, "drawn", "(II)I"⟩
abbrev cX10_warmth : ByteArray := prog_12_method_58_code
def yX10_warmth : MethodName := ⟨RX10, "warmth", "(I)I"⟩
abbrev cX10_heat : ByteArray := prog_12_method_59_code
def yX10_heat : MethodName := ⟨RX10, "heat", "(I)J"⟩
abbrev cX10_count : ByteArray := prog_12_method_60_code
def yX10_count : MethodName := ⟨RX10, "count", "(I)I"⟩
abbrev cX10_melt : ByteArray := prog_12_method_61_code
def yX10_melt : MethodName := ⟨RX10, "melt", "(I)I"⟩
abbrev cX10_thaw : ByteArray := prog_12_method_62_code
def yX10_thaw : MethodName := ⟨RX10, "thaw", "()I"⟩
abbrev cX10_signOf : ByteArray := prog_12_method_63_code
def yX10_signOf : MethodName := ⟨RX10, "signOf", "(I)I"⟩
abbrev cX10_findSigns : ByteArray := prog_12_method_64_code
def yX10_findSigns : MethodName := ⟨RX10, "findSigns", "(II)V"⟩
abbrev cX10_isSign : ByteArray := prog_12_method_65_code
def yX10_isSign : MethodName := ⟨RX10, "isSign", "(I)Z"⟩
abbrev cX10_areDays : ByteArray := prog_12_method_66_code
def yX10_areDays : MethodName := ⟨RX10, "areDays", "(I)Z"⟩
abbrev cX10_sign : ByteArray := prog_12_method_67_code
def yX10_sign : MethodName := ⟨RX10, "sign", "(III)I"⟩
abbrev cX10_seens : ByteArray := prog_12_method_68_code
def yX10_seens : MethodName := ⟨RX10, "seens", "()I"⟩
abbrev cX10_seen : ByteArray := prog_12_method_69_code
def yX10_seen : MethodName := ⟨RX10, "seen", "(III)I"⟩
abbrev cX10_forget : ByteArray := prog_12_method_70_code
def yX10_forget : MethodName := ⟨RX10, "forget", "()I"⟩
abbrev cX10_prior : ByteArray := prog_12_method_71_code
def yX10_prior : MethodName := ⟨RX10, "prior", "(II)I"⟩
abbrev cX10_bother : ByteArray := prog_12_method_72_code
def yX10_bother : MethodName := ⟨RX10, "bother", "(II)I"⟩
abbrev cX10_couldBe : ByteArray := prog_12_method_73_code
def yX10_couldBe : MethodName := ⟨RX10, "couldBe", "(I)Z"⟩
abbrev cX10_weightOf : ByteArray := prog_12_method_74_code
def yX10_weightOf : MethodName := ⟨RX10, "weightOf", "(I)J"⟩
abbrev cX10_weigh : ByteArray := prog_12_method_75_code
def yX10_weigh : MethodName := ⟨RX10, "weigh", "(I)V"⟩
abbrev cX10_oddsOf : ByteArray := prog_12_method_76_code
def yX10_oddsOf : MethodName := ⟨RX10, "oddsOf", "(I)I"⟩
abbrev cX10_odds : ByteArray := prog_12_method_77_code
def yX10_odds : MethodName := ⟨RX10, "odds", "(II)I"⟩
abbrev cX10_each : ByteArray := prog_12_method_78_code
def yX10_each : MethodName := ⟨RX10, "each", "(II)I"⟩
abbrev cX10_tellsOf : ByteArray := prog_12_method_79_code
def yX10_tellsOf : MethodName := ⟨RX10, "tellsOf", "(I)I"⟩
abbrev cX10_tells : ByteArray := prog_12_method_80_code
def yX10_tells : MethodName := ⟨RX10, "tells", "(II)I"⟩
abbrev cX10_next : ByteArray := prog_12_method_81_code
def yX10_next : MethodName := ⟨RX10, "next", "(I)I"⟩
abbrev cX10_makes : ByteArray := prog_12_method_82_code
def yX10_makes : MethodName := ⟨RX10, "makes", "(II)I"⟩
abbrev cX10_mending : ByteArray := prog_12_method_83_code
def yX10_mending : MethodName := ⟨RX10, "mending", "(II)I"⟩
abbrev cX10_price : ByteArray := prog_12_method_84_code
def yX10_price : MethodName := ⟨RX10, "price", "(I)I"⟩
abbrev cX10_yearOf : ByteArray := prog_12_method_85_code
def yX10_yearOf : MethodName := ⟨RX10, "yearOf", "(I)I"⟩
abbrev cX10_year : ByteArray := prog_12_method_86_code
def yX10_year : MethodName := ⟨RX10, "year", "(I)I"⟩
abbrev cX10_saves : ByteArray := prog_12_method_87_code
def yX10_saves : MethodName := ⟨RX10, "saves", "(II)I"⟩
abbrev cX10_best : ByteArray := prog_12_method_88_code
def yX10_best : MethodName := ⟨RX10, "best", "(III)I"⟩
abbrev cX10_pays : ByteArray := prog_12_method_89_code
def yX10_pays : MethodName := ⟨RX10, "pays", "(III)I"⟩
abbrev cX10_iceOf : ByteArray := prog_12_method_90_code
def yX10_iceOf : MethodName := ⟨RX10, "iceOf", "(IIII)J"⟩
abbrev cX10_ice : ByteArray := prog_12_method_91_code
def yX10_ice : MethodName := ⟨RX10, "ice", "(III)I"⟩
abbrev cX10_within : ByteArray := prog_12_method_92_code
def yX10_within : MethodName := ⟨RX10, "within", "(I)I"⟩
abbrev cX10_powerOf3 : ByteArray := prog_12_method_93_code
def yX10_powerOf3 : MethodName := ⟨RX10, "powerOf3", "(I)I"⟩
abbrev cX10_rowAt : ByteArray := prog_12_method_94_code
def yX10_rowAt : MethodName := ⟨RX10, "rowAt", "(III)I"⟩
abbrev cX10_placeOf : ByteArray := prog_12_method_95_code
def yX10_placeOf : MethodName := ⟨RX10, "placeOf", "(I)I"⟩
abbrev cX10_lying : ByteArray := prog_12_method_96_code
def yX10_lying : MethodName := ⟨RX10, "lying", "(I)I"⟩
abbrev cX10_bulb : ByteArray := prog_12_method_97_code
def yX10_bulb : MethodName := ⟨RX10, "bulb", "(I)I"⟩
abbrev cX10_without : ByteArray := prog_12_method_98_code
def yX10_without : MethodName := ⟨RX10, "without", "(I)I"⟩
abbrev cX10_cheap : ByteArray := prog_12_method_99_code
def yX10_cheap : MethodName := ⟨RX10, "cheap", "(III)I"⟩
abbrev cX10_paid : ByteArray := prog_12_method_100_code
def yX10_paid : MethodName := ⟨RX10, "paid", "(II)J"⟩
abbrev cX10_store : ByteArray := prog_12_method_101_code
def yX10_store : MethodName := ⟨RX10, "store", "(II)I"⟩
abbrev cX10_seed : ByteArray := prog_12_method_102_code
def yX10_seed : MethodName := ⟨RX10, "seed", "(I)I"⟩
abbrev cX10_keep : ByteArray := prog_12_method_103_code
def yX10_keep : MethodName := ⟨RX10, "keep", "(I)I"⟩
abbrev cX10_goBack : ByteArray := prog_12_method_104_code
def yX10_goBack : MethodName := ⟨RX10, "goBack", "(I)I"⟩
def RJ6 : String := "java/lang/Integer"
abbrev cJ6_bitCount_0f7a4 : ByteArray := prog_13_method_49_code
def yJ6_bitCount_0f7a4 : MethodName := ⟨RJ6, "bitCount", "(I)I"⟩
def RJ9 : String := "java/lang/Math"
abbrev cJ9_abs_0f7a4 : ByteArray := prog_14_method_59_code
def yJ9_abs_0f7a4 : MethodName := ⟨RJ9, "abs", "(I)I"⟩
abbrev cJ9_max_7cf53 : ByteArray := prog_14_method_65_code
def yJ9_max_7cf53 : MethodName := ⟨RJ9, "max", "(II)I"⟩
abbrev cJ9_min_7cf53 : ByteArray := prog_14_method_69_code
def yJ9_min_7cf53 : MethodName := ⟨RJ9, "min", "(II)I"⟩
def RJ0 : String := "java/lang/String"
abbrev cJ0_length_8abf5 : ByteArray := prog_15_method_54_code
def yJ0_length_8abf5 : MethodName := ⟨RJ0, "length", "()I"⟩
abbrev cJ0_charAt_5068e : ByteArray := prog_15_method_56_code
def yJ0_charAt_5068e : MethodName := ⟨RJ0, "charAt", "(I)C"⟩
abbrev cJ0_coder_7d493 : ByteArray := prog_15_method_152_code
def yJ0_coder_7d493 : MethodName := ⟨RJ0, "coder", "()B"⟩
abbrev cJ0_isLatin1_aae02 : ByteArray := prog_15_method_154_code
def yJ0_isLatin1_aae02 : MethodName := ⟨RJ0, "isLatin1", "()Z"⟩
abbrev cJ0_checkIndex_df160 : ByteArray := prog_15_method_155_code
def yJ0_checkIndex_df160 : MethodName := ⟨RJ0, "checkIndex", "(II)V"⟩
def RJ1 : String := "java/lang/StringLatin1"
abbrev cJ1_charAt_3b067 : ByteArray := prog_16_method_2_code
def yJ1_charAt_3b067 : MethodName := ⟨RJ1, "charAt", "([BI)C"⟩
def RJ2 : String := "java/lang/StringUTF16"
abbrev cJ2_getChar_3b067 : ByteArray := prog_17_method_5_code
def yJ2_getChar_3b067 : MethodName := ⟨RJ2, "getChar", "([BI)C"⟩
abbrev cJ2_length_9d52b : ByteArray := prog_17_method_6_code
def yJ2_length_9d52b : MethodName := ⟨RJ2, "length", "([B)I"⟩
abbrev cJ2_charAt_3b067 : ByteArray := prog_17_method_83_code
def yJ2_charAt_3b067 : MethodName := ⟨RJ2, "charAt", "([BI)C"⟩
abbrev cJ2_checkIndex_2214a : ByteArray := prog_17_method_91_code
def yJ2_checkIndex_2214a : MethodName := ⟨RJ2, "checkIndex", "(I[B)V"⟩
def RJ10 : String := "java/lang/System"
def RJ7 : String := "java/util/Arrays"
abbrev cJ7_fill_d0a16 : ByteArray := prog_19_method_101_code
def yJ7_fill_d0a16 : MethodName := ⟨RJ7, "fill", "([JJ)V"⟩
abbrev cJ7_fill_53178 : ByteArray := prog_19_method_103_code
def yJ7_fill_53178 : MethodName := ⟨RJ7, "fill", "([II)V"⟩
def RJ3 : String := "jdk/internal/util/Preconditions"
abbrev cJ3_checkIndex_8e157 : ByteArray := prog_20_method_11_code
def yJ3_checkIndex_8e157 : MethodName := ⟨RJ3, "checkIndex", "(IILjava/util/function/BiFunction;)I"⟩
def RL : String := "ColdBoxLaw"
abbrev cL_law : ByteArray := code
def yL_law : MethodName := ⟨RL, "law", "([I)Z"⟩
abbrev vwCl : List vw_C := [(RX0, TX0, 1), (RX1, TX1, 4), (RX2, TX2, 8), (RX3, TX3, 4), (RX4, TX4, 3), (RX5, TX5, 10), (RX6, TX6, 14), (RX7, TX7, 4), (RX8, TX8, 9), (RX9, TX9, 13), (RX10, TX10, 34)]
