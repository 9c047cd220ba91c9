section
-- ===== PART A: goes FIRST, ahead of the names: the tables' words, and 'selects' of the private methods out of them =====
/-- a private method of a class that the tables say can be made, by its rows of tables_1 -/
def lw_okq (q : MethodName × Nat) : Prop := (q.1.cls ≠ "java/lang/invoke/MethodHandle" ∧ q.1.cls ≠ "java/lang/invoke/VarHandle") ∧ Cond.instantiable q.1.cls q.2 ∈ tables_1 ∧ Cond.privateMethod q.1 ∈ tables_1 ∧ Cond.instanceMethod q.1 ∈ tables_1
theorem lw_p0 : lw_okq (⟨"ColdBox$Reader", "begin", "()V"⟩, 10) := ⟨⟨by decide +kernel, by decide +kernel⟩, List.mem_of_getElem? (i := 29) (by decide +kernel), List.mem_of_getElem? (i := 412) (by decide +kernel), List.mem_of_getElem? (i := 413) (by decide +kernel)⟩
theorem lw_p1 : lw_okq (⟨"ColdBox$Reader", "skipBlanks", "()V"⟩, 10) := ⟨⟨by decide +kernel, by decide +kernel⟩, List.mem_of_getElem? (i := 29) (by decide +kernel), List.mem_of_getElem? (i := 416) (by decide +kernel), List.mem_of_getElem? (i := 417) (by decide +kernel)⟩
theorem lw_p2 : lw_okq (⟨"ColdBox$Reader", "readClause", "()V"⟩, 10) := ⟨⟨by decide +kernel, by decide +kernel⟩, List.mem_of_getElem? (i := 29) (by decide +kernel), List.mem_of_getElem? (i := 422) (by decide +kernel), List.mem_of_getElem? (i := 423) (by decide +kernel)⟩
theorem lw_p3 : lw_okq (⟨"ColdBox$Reader", "readWord", "()V"⟩, 10) := ⟨⟨by decide +kernel, by decide +kernel⟩, List.mem_of_getElem? (i := 29) (by decide +kernel), List.mem_of_getElem? (i := 426) (by decide +kernel), List.mem_of_getElem? (i := 427) (by decide +kernel)⟩
theorem lw_p4 : lw_okq (⟨"ColdBox$Reader", "clauseFrom", "(I)I"⟩, 10) := ⟨⟨by decide +kernel, by decide +kernel⟩, List.mem_of_getElem? (i := 29) (by decide +kernel), List.mem_of_getElem? (i := 433) (by decide +kernel), List.mem_of_getElem? (i := 434) (by decide +kernel)⟩
theorem lw_p5 : lw_okq (⟨"ColdBox$Reader", "isWord", "(Ljava/lang/String;I)Z"⟩, 10) := ⟨⟨by decide +kernel, by decide +kernel⟩, List.mem_of_getElem? (i := 29) (by decide +kernel), List.mem_of_getElem? (i := 453) (by decide +kernel), List.mem_of_getElem? (i := 454) (by decide +kernel)⟩
theorem lw_p6 : lw_okq (⟨"ColdBox$Reader", "faultAt", "(II)V"⟩, 10) := ⟨⟨by decide +kernel, by decide +kernel⟩, List.mem_of_getElem? (i := 29) (by decide +kernel), List.mem_of_getElem? (i := 505) (by decide +kernel), List.mem_of_getElem? (i := 506) (by decide +kernel)⟩
theorem lw_p7 : lw_okq (⟨"ColdBox$Reader", "readClauseNumbers", "(I)V"⟩, 10) := ⟨⟨by decide +kernel, by decide +kernel⟩, List.mem_of_getElem? (i := 29) (by decide +kernel), List.mem_of_getElem? (i := 509) (by decide +kernel), List.mem_of_getElem? (i := 510) (by decide +kernel)⟩
theorem lw_p8 : lw_okq (⟨"ColdBox$Reader", "readNumber", "(II)I"⟩, 10) := ⟨⟨by decide +kernel, by decide +kernel⟩, List.mem_of_getElem? (i := 29) (by decide +kernel), List.mem_of_getElem? (i := 517) (by decide +kernel), List.mem_of_getElem? (i := 518) (by decide +kernel)⟩
theorem lw_p9 : lw_okq (⟨"ColdBox$Reader", "readClauseEnd", "()V"⟩, 10) := ⟨⟨by decide +kernel, by decide +kernel⟩, List.mem_of_getElem? (i := 29) (by decide +kernel), List.mem_of_getElem? (i := 524) (by decide +kernel), List.mem_of_getElem? (i := 525) (by decide +kernel)⟩
theorem lw_p10 : lw_okq (⟨"ColdBox$Reader", "readOpening", "()V"⟩, 10) := ⟨⟨by decide +kernel, by decide +kernel⟩, List.mem_of_getElem? (i := 29) (by decide +kernel), List.mem_of_getElem? (i := 546) (by decide +kernel), List.mem_of_getElem? (i := 547) (by decide +kernel)⟩
theorem lw_p11 : lw_okq (⟨"ColdBox$Ticker", "lookAtWarmths", "(LColdBox$State;)V"⟩, 4) := ⟨⟨by decide +kernel, by decide +kernel⟩, List.mem_of_getElem? (i := 117) (by decide +kernel), List.mem_of_getElem? (i := 658) (by decide +kernel), List.mem_of_getElem? (i := 659) (by decide +kernel)⟩
theorem lw_p12 : lw_okq (⟨"ColdBox$Ticker", "switchMachine", "(LColdBox$State;II)V"⟩, 4) := ⟨⟨by decide +kernel, by decide +kernel⟩, List.mem_of_getElem? (i := 117) (by decide +kernel), List.mem_of_getElem? (i := 673) (by decide +kernel), List.mem_of_getElem? (i := 674) (by decide +kernel)⟩
theorem lw_p13 : lw_okq (⟨"ColdBox$Ticker", "exchange", "(LColdBox$State;II)V"⟩, 4) := ⟨⟨by decide +kernel, by decide +kernel⟩, List.mem_of_getElem? (i := 117) (by decide +kernel), List.mem_of_getElem? (i := 678) (by decide +kernel), List.mem_of_getElem? (i := 679) (by decide +kernel)⟩
theorem lw_p14 : lw_okq (⟨"ColdBox$Ticker", "flow", "(IIII)V"⟩, 4) := ⟨⟨by decide +kernel, by decide +kernel⟩, List.mem_of_getElem? (i := 117) (by decide +kernel), List.mem_of_getElem? (i := 684) (by decide +kernel), List.mem_of_getElem? (i := 685) (by decide +kernel)⟩
theorem lw_p15 : lw_okq (⟨"ColdBox$Ticker", "giveLight", "(LColdBox$State;)V"⟩, 4) := ⟨⟨by decide +kernel, by decide +kernel⟩, List.mem_of_getElem? (i := 117) (by decide +kernel), List.mem_of_getElem? (i := 689) (by decide +kernel), List.mem_of_getElem? (i := 690) (by decide +kernel)⟩
def lw_privs_1 : List (MethodName × Nat) := [(⟨"ColdBox$Reader", "begin", "()V"⟩, 10), (⟨"ColdBox$Reader", "skipBlanks", "()V"⟩, 10), (⟨"ColdBox$Reader", "readClause", "()V"⟩, 10), (⟨"ColdBox$Reader", "readWord", "()V"⟩, 10), (⟨"ColdBox$Reader", "clauseFrom", "(I)I"⟩, 10), (⟨"ColdBox$Reader", "isWord", "(Ljava/lang/String;I)Z"⟩, 10), (⟨"ColdBox$Reader", "faultAt", "(II)V"⟩, 10), (⟨"ColdBox$Reader", "readClauseNumbers", "(I)V"⟩, 10), (⟨"ColdBox$Reader", "readNumber", "(II)I"⟩, 10), (⟨"ColdBox$Reader", "readClauseEnd", "()V"⟩, 10), (⟨"ColdBox$Reader", "readOpening", "()V"⟩, 10), (⟨"ColdBox$Ticker", "lookAtWarmths", "(LColdBox$State;)V"⟩, 4), (⟨"ColdBox$Ticker", "switchMachine", "(LColdBox$State;II)V"⟩, 4), (⟨"ColdBox$Ticker", "exchange", "(LColdBox$State;II)V"⟩, 4), (⟨"ColdBox$Ticker", "flow", "(IIII)V"⟩, 4), (⟨"ColdBox$Ticker", "giveLight", "(LColdBox$State;)V"⟩, 4)]
theorem lw_r1 : ∀ q ∈ lw_privs_1, lw_okq q := List.forall_mem_cons.mpr ⟨lw_p0, List.forall_mem_cons.mpr ⟨lw_p1, List.forall_mem_cons.mpr ⟨lw_p2, List.forall_mem_cons.mpr ⟨lw_p3, List.forall_mem_cons.mpr ⟨lw_p4, List.forall_mem_cons.mpr ⟨lw_p5, List.forall_mem_cons.mpr ⟨lw_p6, List.forall_mem_cons.mpr ⟨lw_p7, List.forall_mem_cons.mpr ⟨lw_p8, List.forall_mem_cons.mpr ⟨lw_p9, List.forall_mem_cons.mpr ⟨lw_p10, List.forall_mem_cons.mpr ⟨lw_p11, List.forall_mem_cons.mpr ⟨lw_p12, List.forall_mem_cons.mpr ⟨lw_p13, List.forall_mem_cons.mpr ⟨lw_p14, List.forall_mem_cons.mpr ⟨lw_p15, fun _ h => absurd h List.not_mem_nil⟩⟩⟩⟩⟩⟩⟩⟩⟩⟩⟩⟩⟩⟩⟩⟩
theorem lw_p16 : lw_okq (⟨"ColdBox$Ticker", "moveOut", "(LColdBox$State;I)V"⟩, 4) := ⟨⟨by decide +kernel, by decide +kernel⟩, List.mem_of_getElem? (i := 117) (by decide +kernel), List.mem_of_getElem? (i := 698) (by decide +kernel), List.mem_of_getElem? (i := 699) (by decide +kernel)⟩
theorem lw_p17 : lw_okq (⟨"ColdBox$Ticker", "takeWet", "(LColdBox$State;I)V"⟩, 4) := ⟨⟨by decide +kernel, by decide +kernel⟩, List.mem_of_getElem? (i := 117) (by decide +kernel), List.mem_of_getElem? (i := 703) (by decide +kernel), List.mem_of_getElem? (i := 704) (by decide +kernel)⟩
theorem lw_p18 : lw_okq (⟨"ColdBox", "drawDoor", "(I)V"⟩, 13) := ⟨⟨by decide +kernel, by decide +kernel⟩, List.mem_of_getElem? (i := 21) (by decide +kernel), List.mem_of_getElem? (i := 715) (by decide +kernel), List.mem_of_getElem? (i := 716) (by decide +kernel)⟩
theorem lw_p19 : lw_okq (⟨"ColdBox$FreshRuns", "begin", "(IZ)V"⟩, 4) := ⟨⟨by decide +kernel, by decide +kernel⟩, List.mem_of_getElem? (i := 217) (by decide +kernel), List.mem_of_getElem? (i := 774) (by decide +kernel), List.mem_of_getElem? (i := 775) (by decide +kernel)⟩
theorem lw_p20 : lw_okq (⟨"ColdBox$Guess", "weighAll", "(I)J"⟩, 8) := ⟨⟨by decide +kernel, by decide +kernel⟩, List.mem_of_getElem? (i := 238) (by decide +kernel), List.mem_of_getElem? (i := 834) (by decide +kernel), List.mem_of_getElem? (i := 835) (by decide +kernel)⟩
theorem lw_p21 : lw_okq (⟨"ColdBox$Guess", "weightOf", "(II)J"⟩, 8) := ⟨⟨by decide +kernel, by decide +kernel⟩, List.mem_of_getElem? (i := 238) (by decide +kernel), List.mem_of_getElem? (i := 838) (by decide +kernel), List.mem_of_getElem? (i := 839) (by decide +kernel)⟩
theorem lw_p22 : lw_okq (⟨"ColdBox$Guess", "halvings", "(III)I"⟩, 8) := ⟨⟨by decide +kernel, by decide +kernel⟩, List.mem_of_getElem? (i := 238) (by decide +kernel), List.mem_of_getElem? (i := 844) (by decide +kernel), List.mem_of_getElem? (i := 845) (by decide +kernel)⟩
theorem lw_p23 : lw_okq (⟨"ColdBox$Guess", "exactOf", "(I)I"⟩, 8) := ⟨⟨by decide +kernel, by decide +kernel⟩, List.mem_of_getElem? (i := 238) (by decide +kernel), List.mem_of_getElem? (i := 852) (by decide +kernel), List.mem_of_getElem? (i := 853) (by decide +kernel)⟩
theorem lw_p24 : lw_okq (⟨"ColdBox$Guess", "share", "(IJ)I"⟩, 8) := ⟨⟨by decide +kernel, by decide +kernel⟩, List.mem_of_getElem? (i := 238) (by decide +kernel), List.mem_of_getElem? (i := 857) (by decide +kernel), List.mem_of_getElem? (i := 858) (by decide +kernel)⟩
theorem lw_p25 : lw_okq (⟨"ColdBox$Guess", "tellingBy", "(IIJ)I"⟩, 8) := ⟨⟨by decide +kernel, by decide +kernel⟩, List.mem_of_getElem? (i := 238) (by decide +kernel), List.mem_of_getElem? (i := 877) (by decide +kernel), List.mem_of_getElem? (i := 878) (by decide +kernel)⟩
theorem lw_p26 : lw_okq (⟨"ColdBox$Guess", "isFirstOfClass", "(I)Z"⟩, 8) := ⟨⟨by decide +kernel, by decide +kernel⟩, List.mem_of_getElem? (i := 238) (by decide +kernel), List.mem_of_getElem? (i := 881) (by decide +kernel), List.mem_of_getElem? (i := 882) (by decide +kernel)⟩
theorem lw_p27 : lw_okq (⟨"ColdBox$Guess", "weightOfClass", "(I)J"⟩, 8) := ⟨⟨by decide +kernel, by decide +kernel⟩, List.mem_of_getElem? (i := 238) (by decide +kernel), List.mem_of_getElem? (i := 885) (by decide +kernel), List.mem_of_getElem? (i := 886) (by decide +kernel)⟩
theorem lw_p28 : lw_okq (⟨"ColdBox$Purse", "yearByUse", "(I)I"⟩, 3) := ⟨⟨by decide +kernel, by decide +kernel⟩, List.mem_of_getElem? (i := 279) (by decide +kernel), List.mem_of_getElem? (i := 925) (by decide +kernel), List.mem_of_getElem? (i := 926) (by decide +kernel)⟩
theorem lw_p29 : lw_okq (⟨"ColdBox$Trials", "layByRow", "(I[I)V"⟩, 9) := ⟨⟨by decide +kernel, by decide +kernel⟩, List.mem_of_getElem? (i := 298) (by decide +kernel), List.mem_of_getElem? (i := 999) (by decide +kernel), List.mem_of_getElem? (i := 1000) (by decide +kernel)⟩
theorem lw_p30 : lw_okq (⟨"ColdBox$Trials", "boxBulb", "()I"⟩, 9) := ⟨⟨by decide +kernel, by decide +kernel⟩, List.mem_of_getElem? (i := 298) (by decide +kernel), List.mem_of_getElem? (i := 1003) (by decide +kernel), List.mem_of_getElem? (i := 1004) (by decide +kernel)⟩
theorem lw_p31 : lw_okq (⟨"ColdBox$Trials", "withinOnSecondDay", "(I)I"⟩, 9) := ⟨⟨by decide +kernel, by decide +kernel⟩, List.mem_of_getElem? (i := 298) (by decide +kernel), List.mem_of_getElem? (i := 1007) (by decide +kernel), List.mem_of_getElem? (i := 1008) (by decide +kernel)⟩
def lw_privs_2 : List (MethodName × Nat) := [(⟨"ColdBox$Ticker", "moveOut", "(LColdBox$State;I)V"⟩, 4), (⟨"ColdBox$Ticker", "takeWet", "(LColdBox$State;I)V"⟩, 4), (⟨"ColdBox", "drawDoor", "(I)V"⟩, 13), (⟨"ColdBox$FreshRuns", "begin", "(IZ)V"⟩, 4), (⟨"ColdBox$Guess", "weighAll", "(I)J"⟩, 8), (⟨"ColdBox$Guess", "weightOf", "(II)J"⟩, 8), (⟨"ColdBox$Guess", "halvings", "(III)I"⟩, 8), (⟨"ColdBox$Guess", "exactOf", "(I)I"⟩, 8), (⟨"ColdBox$Guess", "share", "(IJ)I"⟩, 8), (⟨"ColdBox$Guess", "tellingBy", "(IIJ)I"⟩, 8), (⟨"ColdBox$Guess", "isFirstOfClass", "(I)Z"⟩, 8), (⟨"ColdBox$Guess", "weightOfClass", "(I)J"⟩, 8), (⟨"ColdBox$Purse", "yearByUse", "(I)I"⟩, 3), (⟨"ColdBox$Trials", "layByRow", "(I[I)V"⟩, 9), (⟨"ColdBox$Trials", "boxBulb", "()I"⟩, 9), (⟨"ColdBox$Trials", "withinOnSecondDay", "(I)I"⟩, 9)]
theorem lw_r2 : ∀ q ∈ lw_privs_2, lw_okq q := List.forall_mem_cons.mpr ⟨lw_p16, List.forall_mem_cons.mpr ⟨lw_p17, List.forall_mem_cons.mpr ⟨lw_p18, List.forall_mem_cons.mpr ⟨lw_p19, List.forall_mem_cons.mpr ⟨lw_p20, List.forall_mem_cons.mpr ⟨lw_p21, List.forall_mem_cons.mpr ⟨lw_p22, List.forall_mem_cons.mpr ⟨lw_p23, List.forall_mem_cons.mpr ⟨lw_p24, List.forall_mem_cons.mpr ⟨lw_p25, List.forall_mem_cons.mpr ⟨lw_p26, List.forall_mem_cons.mpr ⟨lw_p27, List.forall_mem_cons.mpr ⟨lw_p28, List.forall_mem_cons.mpr ⟨lw_p29, List.forall_mem_cons.mpr ⟨lw_p30, List.forall_mem_cons.mpr ⟨lw_p31, fun _ h => absurd h List.not_mem_nil⟩⟩⟩⟩⟩⟩⟩⟩⟩⟩⟩⟩⟩⟩⟩⟩
theorem lw_p32 : lw_okq (⟨"ColdBox$Trials", "takeIfMore", "(II)V"⟩, 9) := ⟨⟨by decide +kernel, by decide +kernel⟩, List.mem_of_getElem? (i := 298) (by decide +kernel), List.mem_of_getElem? (i := 1017) (by decide +kernel), List.mem_of_getElem? (i := 1018) (by decide +kernel)⟩
theorem lw_p33 : lw_okq (⟨"ColdBox$Trials", "paidStoring", "(III)I"⟩, 9) := ⟨⟨by decide +kernel, by decide +kernel⟩, List.mem_of_getElem? (i := 298) (by decide +kernel), List.mem_of_getElem? (i := 1054) (by decide +kernel), List.mem_of_getElem? (i := 1055) (by decide +kernel)⟩
theorem lw_p34 : lw_okq (⟨"ColdBox$Trials", "isCheapHour", "(I)Z"⟩, 9) := ⟨⟨by decide +kernel, by decide +kernel⟩, List.mem_of_getElem? (i := 298) (by decide +kernel), List.mem_of_getElem? (i := 1059) (by decide +kernel), List.mem_of_getElem? (i := 1060) (by decide +kernel)⟩
theorem lw_p35 : lw_okq (⟨"ColdBox", "imageOf", "(I)LColdBox$State;"⟩, 13) := ⟨⟨by decide +kernel, by decide +kernel⟩, List.mem_of_getElem? (i := 21) (by decide +kernel), List.mem_of_getElem? (i := 1074) (by decide +kernel), List.mem_of_getElem? (i := 1075) (by decide +kernel)⟩
theorem lw_p36 : lw_okq (⟨"ColdBoxModel", "begin", "()V"⟩, 34) := ⟨⟨by decide +kernel, by decide +kernel⟩, List.mem_of_getElem? (i := 1083) (by decide +kernel), List.mem_of_getElem? (i := 1207) (by decide +kernel), List.mem_of_getElem? (i := 1208) (by decide +kernel)⟩
theorem lw_p37 : lw_okq (⟨"ColdBoxModel", "freshen", "(I)V"⟩, 34) := ⟨⟨by decide +kernel, by decide +kernel⟩, List.mem_of_getElem? (i := 1083) (by decide +kernel), List.mem_of_getElem? (i := 1214) (by decide +kernel), List.mem_of_getElem? (i := 1215) (by decide +kernel)⟩
theorem lw_p38 : lw_okq (⟨"ColdBoxModel", "beginReading", "()V"⟩, 34) := ⟨⟨by decide +kernel, by decide +kernel⟩, List.mem_of_getElem? (i := 1083) (by decide +kernel), List.mem_of_getElem? (i := 1225) (by decide +kernel), List.mem_of_getElem? (i := 1226) (by decide +kernel)⟩
theorem lw_p39 : lw_okq (⟨"ColdBoxModel", "here", "()I"⟩, 34) := ⟨⟨by decide +kernel, by decide +kernel⟩, List.mem_of_getElem? (i := 1083) (by decide +kernel), List.mem_of_getElem? (i := 1229) (by decide +kernel), List.mem_of_getElem? (i := 1230) (by decide +kernel)⟩
theorem lw_p40 : lw_okq (⟨"ColdBoxModel", "takeClause", "()V"⟩, 34) := ⟨⟨by decide +kernel, by decide +kernel⟩, List.mem_of_getElem? (i := 1083) (by decide +kernel), List.mem_of_getElem? (i := 1233) (by decide +kernel), List.mem_of_getElem? (i := 1234) (by decide +kernel)⟩
theorem lw_p41 : lw_okq (⟨"ColdBoxModel", "takeWord", "()V"⟩, 34) := ⟨⟨by decide +kernel, by decide +kernel⟩, List.mem_of_getElem? (i := 1083) (by decide +kernel), List.mem_of_getElem? (i := 1237) (by decide +kernel), List.mem_of_getElem? (i := 1238) (by decide +kernel)⟩
theorem lw_p42 : lw_okq (⟨"ColdBoxModel", "kindHere", "()I"⟩, 34) := ⟨⟨by decide +kernel, by decide +kernel⟩, List.mem_of_getElem? (i := 1083) (by decide +kernel), List.mem_of_getElem? (i := 1243) (by decide +kernel), List.mem_of_getElem? (i := 1244) (by decide +kernel)⟩
theorem lw_p43 : lw_okq (⟨"ColdBoxModel", "isWord", "(IIIIII)Z"⟩, 34) := ⟨⟨by decide +kernel, by decide +kernel⟩, List.mem_of_getElem? (i := 1083) (by decide +kernel), List.mem_of_getElem? (i := 1247) (by decide +kernel), List.mem_of_getElem? (i := 1248) (by decide +kernel)⟩
theorem lw_p44 : lw_okq (⟨"ColdBoxModel", "want", "(ZII)Z"⟩, 34) := ⟨⟨by decide +kernel, by decide +kernel⟩, List.mem_of_getElem? (i := 1083) (by decide +kernel), List.mem_of_getElem? (i := 1251) (by decide +kernel), List.mem_of_getElem? (i := 1252) (by decide +kernel)⟩
theorem lw_p45 : lw_okq (⟨"ColdBoxModel", "takeNumber", "(II)I"⟩, 34) := ⟨⟨by decide +kernel, by decide +kernel⟩, List.mem_of_getElem? (i := 1083) (by decide +kernel), List.mem_of_getElem? (i := 1255) (by decide +kernel), List.mem_of_getElem? (i := 1256) (by decide +kernel)⟩
theorem lw_p46 : lw_okq (⟨"ColdBoxModel", "takeEnd", "()V"⟩, 34) := ⟨⟨by decide +kernel, by decide +kernel⟩, List.mem_of_getElem? (i := 1083) (by decide +kernel), List.mem_of_getElem? (i := 1268) (by decide +kernel), List.mem_of_getElem? (i := 1269) (by decide +kernel)⟩
theorem lw_p47 : lw_okq (⟨"ColdBoxModel", "isFood", "(I)Z"⟩, 34) := ⟨⟨by decide +kernel, by decide +kernel⟩, List.mem_of_getElem? (i := 1083) (by decide +kernel), List.mem_of_getElem? (i := 1331) (by decide +kernel), List.mem_of_getElem? (i := 1332) (by decide +kernel)⟩
def lw_privs_3 : List (MethodName × Nat) := [(⟨"ColdBox$Trials", "takeIfMore", "(II)V"⟩, 9), (⟨"ColdBox$Trials", "paidStoring", "(III)I"⟩, 9), (⟨"ColdBox$Trials", "isCheapHour", "(I)Z"⟩, 9), (⟨"ColdBox", "imageOf", "(I)LColdBox$State;"⟩, 13), (⟨"ColdBoxModel", "begin", "()V"⟩, 34), (⟨"ColdBoxModel", "freshen", "(I)V"⟩, 34), (⟨"ColdBoxModel", "beginReading", "()V"⟩, 34), (⟨"ColdBoxModel", "here", "()I"⟩, 34), (⟨"ColdBoxModel", "takeClause", "()V"⟩, 34), (⟨"ColdBoxModel", "takeWord", "()V"⟩, 34), (⟨"ColdBoxModel", "kindHere", "()I"⟩, 34), (⟨"ColdBoxModel", "isWord", "(IIIIII)Z"⟩, 34), (⟨"ColdBoxModel", "want", "(ZII)Z"⟩, 34), (⟨"ColdBoxModel", "takeNumber", "(II)I"⟩, 34), (⟨"ColdBoxModel", "takeEnd", "()V"⟩, 34), (⟨"ColdBoxModel", "isFood", "(I)Z"⟩, 34)]
theorem lw_r3 : ∀ q ∈ lw_privs_3, lw_okq q := List.forall_mem_cons.mpr ⟨lw_p32, List.forall_mem_cons.mpr ⟨lw_p33, List.forall_mem_cons.mpr ⟨lw_p34, List.forall_mem_cons.mpr ⟨lw_p35, List.forall_mem_cons.mpr ⟨lw_p36, List.forall_mem_cons.mpr ⟨lw_p37, List.forall_mem_cons.mpr ⟨lw_p38, List.forall_mem_cons.mpr ⟨lw_p39, List.forall_mem_cons.mpr ⟨lw_p40, List.forall_mem_cons.mpr ⟨lw_p41, List.forall_mem_cons.mpr ⟨lw_p42, List.forall_mem_cons.mpr ⟨lw_p43, List.forall_mem_cons.mpr ⟨lw_p44, List.forall_mem_cons.mpr ⟨lw_p45, List.forall_mem_cons.mpr ⟨lw_p46, List.forall_mem_cons.mpr ⟨lw_p47, fun _ h => absurd h List.not_mem_nil⟩⟩⟩⟩⟩⟩⟩⟩⟩⟩⟩⟩⟩⟩⟩⟩
theorem lw_p48 : lw_okq (⟨"ColdBoxModel", "warm", "(II)J"⟩, 34) := ⟨⟨by decide +kernel, by decide +kernel⟩, List.mem_of_getElem? (i := 1083) (by decide +kernel), List.mem_of_getElem? (i := 1336) (by decide +kernel), List.mem_of_getElem? (i := 1337) (by decide +kernel)⟩
theorem lw_p49 : lw_okq (⟨"ColdBoxModel", "capOf", "(II)J"⟩, 34) := ⟨⟨by decide +kernel, by decide +kernel⟩, List.mem_of_getElem? (i := 1083) (by decide +kernel), List.mem_of_getElem? (i := 1340) (by decide +kernel), List.mem_of_getElem? (i := 1341) (by decide +kernel)⟩
theorem lw_p50 : lw_okq (⟨"ColdBoxModel", "isWithin", "(II)Z"⟩, 34) := ⟨⟨by decide +kernel, by decide +kernel⟩, List.mem_of_getElem? (i := 1083) (by decide +kernel), List.mem_of_getElem? (i := 1354) (by decide +kernel), List.mem_of_getElem? (i := 1355) (by decide +kernel)⟩
theorem lw_p51 : lw_okq (⟨"ColdBoxModel", "go", "(II)V"⟩, 34) := ⟨⟨by decide +kernel, by decide +kernel⟩, List.mem_of_getElem? (i := 1083) (by decide +kernel), List.mem_of_getElem? (i := 1363) (by decide +kernel), List.mem_of_getElem? (i := 1364) (by decide +kernel)⟩
theorem lw_p52 : lw_okq (⟨"ColdBoxModel", "isOpen", "(J)Z"⟩, 34) := ⟨⟨by decide +kernel, by decide +kernel⟩, List.mem_of_getElem? (i := 1083) (by decide +kernel), List.mem_of_getElem? (i := 1367) (by decide +kernel), List.mem_of_getElem? (i := 1368) (by decide +kernel)⟩
theorem lw_p53 : lw_okq (⟨"ColdBoxModel", "tick", "(IZII)V"⟩, 34) := ⟨⟨by decide +kernel, by decide +kernel⟩, List.mem_of_getElem? (i := 1083) (by decide +kernel), List.mem_of_getElem? (i := 1372) (by decide +kernel), List.mem_of_getElem? (i := 1373) (by decide +kernel)⟩
theorem lw_p54 : lw_okq (⟨"ColdBoxModel", "readBulb", "(III)V"⟩, 34) := ⟨⟨by decide +kernel, by decide +kernel⟩, List.mem_of_getElem? (i := 1083) (by decide +kernel), List.mem_of_getElem? (i := 1382) (by decide +kernel), List.mem_of_getElem? (i := 1383) (by decide +kernel)⟩
theorem lw_p55 : lw_okq (⟨"ColdBoxModel", "findFlows", "(IJJ)V"⟩, 34) := ⟨⟨by decide +kernel, by decide +kernel⟩, List.mem_of_getElem? (i := 1083) (by decide +kernel), List.mem_of_getElem? (i := 1388) (by decide +kernel), List.mem_of_getElem? (i := 1389) (by decide +kernel)⟩
theorem lw_p56 : lw_okq (⟨"ColdBoxModel", "moves", "(IJ)J"⟩, 34) := ⟨⟨by decide +kernel, by decide +kernel⟩, List.mem_of_getElem? (i := 1083) (by decide +kernel), List.mem_of_getElem? (i := 1394) (by decide +kernel), List.mem_of_getElem? (i := 1395) (by decide +kernel)⟩
theorem lw_p57 : lw_okq (⟨"ColdBoxModel", "wet", "(IJ)V"⟩, 34) := ⟨⟨by decide +kernel, by decide +kernel⟩, List.mem_of_getElem? (i := 1083) (by decide +kernel), List.mem_of_getElem? (i := 1401) (by decide +kernel), List.mem_of_getElem? (i := 1402) (by decide +kernel)⟩
theorem lw_p58 : lw_okq (⟨"ColdBoxModel", "drawDay", "(I)V"⟩, 34) := ⟨⟨by decide +kernel, by decide +kernel⟩, List.mem_of_getElem? (i := 1083) (by decide +kernel), List.mem_of_getElem? (i := 1410) (by decide +kernel), List.mem_of_getElem? (i := 1411) (by decide +kernel)⟩
theorem lw_p59 : lw_okq (⟨"ColdBoxModel", "draw", "(I)I"⟩, 34) := ⟨⟨by decide +kernel, by decide +kernel⟩, List.mem_of_getElem? (i := 1083) (by decide +kernel), List.mem_of_getElem? (i := 1414) (by decide +kernel), List.mem_of_getElem? (i := 1415) (by decide +kernel)⟩
theorem lw_p60 : lw_okq (⟨"ColdBoxModel", "foods", "()I"⟩, 34) := ⟨⟨by decide +kernel, by decide +kernel⟩, List.mem_of_getElem? (i := 1083) (by decide +kernel), List.mem_of_getElem? (i := 1436) (by decide +kernel), List.mem_of_getElem? (i := 1437) (by decide +kernel)⟩
theorem lw_p61 : lw_okq (⟨"ColdBoxModel", "melt", "(I)I"⟩, 34) := ⟨⟨by decide +kernel, by decide +kernel⟩, List.mem_of_getElem? (i := 1083) (by decide +kernel), List.mem_of_getElem? (i := 1444) (by decide +kernel), List.mem_of_getElem? (i := 1445) (by decide +kernel)⟩
theorem lw_p62 : lw_okq (⟨"ColdBoxModel", "findSigns", "(II)V"⟩, 34) := ⟨⟨by decide +kernel, by decide +kernel⟩, List.mem_of_getElem? (i := 1083) (by decide +kernel), List.mem_of_getElem? (i := 1459) (by decide +kernel), List.mem_of_getElem? (i := 1460) (by decide +kernel)⟩
theorem lw_p63 : lw_okq (⟨"ColdBoxModel", "tryFresh", "(I)V"⟩, 34) := ⟨⟨by decide +kernel, by decide +kernel⟩, List.mem_of_getElem? (i := 1083) (by decide +kernel), List.mem_of_getElem? (i := 1463) (by decide +kernel), List.mem_of_getElem? (i := 1464) (by decide +kernel)⟩
def lw_privs_4 : List (MethodName × Nat) := [(⟨"ColdBoxModel", "warm", "(II)J"⟩, 34), (⟨"ColdBoxModel", "capOf", "(II)J"⟩, 34), (⟨"ColdBoxModel", "isWithin", "(II)Z"⟩, 34), (⟨"ColdBoxModel", "go", "(II)V"⟩, 34), (⟨"ColdBoxModel", "isOpen", "(J)Z"⟩, 34), (⟨"ColdBoxModel", "tick", "(IZII)V"⟩, 34), (⟨"ColdBoxModel", "readBulb", "(III)V"⟩, 34), (⟨"ColdBoxModel", "findFlows", "(IJJ)V"⟩, 34), (⟨"ColdBoxModel", "moves", "(IJ)J"⟩, 34), (⟨"ColdBoxModel", "wet", "(IJ)V"⟩, 34), (⟨"ColdBoxModel", "drawDay", "(I)V"⟩, 34), (⟨"ColdBoxModel", "draw", "(I)I"⟩, 34), (⟨"ColdBoxModel", "foods", "()I"⟩, 34), (⟨"ColdBoxModel", "melt", "(I)I"⟩, 34), (⟨"ColdBoxModel", "findSigns", "(II)V"⟩, 34), (⟨"ColdBoxModel", "tryFresh", "(I)V"⟩, 34)]
theorem lw_r4 : ∀ q ∈ lw_privs_4, lw_okq q := List.forall_mem_cons.mpr ⟨lw_p48, List.forall_mem_cons.mpr ⟨lw_p49, List.forall_mem_cons.mpr ⟨lw_p50, List.forall_mem_cons.mpr ⟨lw_p51, List.forall_mem_cons.mpr ⟨lw_p52, List.forall_mem_cons.mpr ⟨lw_p53, List.forall_mem_cons.mpr ⟨lw_p54, List.forall_mem_cons.mpr ⟨lw_p55, List.forall_mem_cons.mpr ⟨lw_p56, List.forall_mem_cons.mpr ⟨lw_p57, List.forall_mem_cons.mpr ⟨lw_p58, List.forall_mem_cons.mpr ⟨lw_p59, List.forall_mem_cons.mpr ⟨lw_p60, List.forall_mem_cons.mpr ⟨lw_p61, List.forall_mem_cons.mpr ⟨lw_p62, List.forall_mem_cons.mpr ⟨lw_p63, fun _ h => absurd h List.not_mem_nil⟩⟩⟩⟩⟩⟩⟩⟩⟩⟩⟩⟩⟩⟩⟩⟩
theorem lw_p64 : lw_okq (⟨"ColdBoxModel", "signOf", "(I)I"⟩, 34) := ⟨⟨by decide +kernel, by decide +kernel⟩, List.mem_of_getElem? (i := 1083) (by decide +kernel), List.mem_of_getElem? (i := 1467) (by decide +kernel), List.mem_of_getElem? (i := 1468) (by decide +kernel)⟩
theorem lw_p65 : lw_okq (⟨"ColdBoxModel", "seens", "()I"⟩, 34) := ⟨⟨by decide +kernel, by decide +kernel⟩, List.mem_of_getElem? (i := 1083) (by decide +kernel), List.mem_of_getElem? (i := 1478) (by decide +kernel), List.mem_of_getElem? (i := 1479) (by decide +kernel)⟩
theorem lw_p66 : lw_okq (⟨"ColdBoxModel", "weigh", "(I)V"⟩, 34) := ⟨⟨by decide +kernel, by decide +kernel⟩, List.mem_of_getElem? (i := 1083) (by decide +kernel), List.mem_of_getElem? (i := 1507) (by decide +kernel), List.mem_of_getElem? (i := 1508) (by decide +kernel)⟩
theorem lw_p67 : lw_okq (⟨"ColdBoxModel", "weightOf", "(I)J"⟩, 34) := ⟨⟨by decide +kernel, by decide +kernel⟩, List.mem_of_getElem? (i := 1083) (by decide +kernel), List.mem_of_getElem? (i := 1511) (by decide +kernel), List.mem_of_getElem? (i := 1512) (by decide +kernel)⟩
theorem lw_p68 : lw_okq (⟨"ColdBoxModel", "oddsOf", "(I)I"⟩, 34) := ⟨⟨by decide +kernel, by decide +kernel⟩, List.mem_of_getElem? (i := 1083) (by decide +kernel), List.mem_of_getElem? (i := 1516) (by decide +kernel), List.mem_of_getElem? (i := 1517) (by decide +kernel)⟩
theorem lw_p69 : lw_okq (⟨"ColdBoxModel", "tellsOf", "(I)I"⟩, 34) := ⟨⟨by decide +kernel, by decide +kernel⟩, List.mem_of_getElem? (i := 1083) (by decide +kernel), List.mem_of_getElem? (i := 1528) (by decide +kernel), List.mem_of_getElem? (i := 1529) (by decide +kernel)⟩
theorem lw_p70 : lw_okq (⟨"ColdBoxModel", "yearOf", "(I)I"⟩, 34) := ⟨⟨by decide +kernel, by decide +kernel⟩, List.mem_of_getElem? (i := 1083) (by decide +kernel), List.mem_of_getElem? (i := 1552) (by decide +kernel), List.mem_of_getElem? (i := 1553) (by decide +kernel)⟩
theorem lw_p71 : lw_okq (⟨"ColdBoxModel", "iceOf", "(IIII)J"⟩, 34) := ⟨⟨by decide +kernel, by decide +kernel⟩, List.mem_of_getElem? (i := 1083) (by decide +kernel), List.mem_of_getElem? (i := 1574) (by decide +kernel), List.mem_of_getElem? (i := 1575) (by decide +kernel)⟩
theorem lw_p72 : lw_okq (⟨"ColdBoxModel", "copy", "(II)V"⟩, 34) := ⟨⟨by decide +kernel, by decide +kernel⟩, List.mem_of_getElem? (i := 1083) (by decide +kernel), List.mem_of_getElem? (i := 1585) (by decide +kernel), List.mem_of_getElem? (i := 1586) (by decide +kernel)⟩
theorem lw_p73 : lw_okq (⟨"ColdBoxModel", "placeOf", "(I)I"⟩, 34) := ⟨⟨by decide +kernel, by decide +kernel⟩, List.mem_of_getElem? (i := 1083) (by decide +kernel), List.mem_of_getElem? (i := 1589) (by decide +kernel), List.mem_of_getElem? (i := 1590) (by decide +kernel)⟩
theorem lw_p74 : lw_okq (⟨"ColdBoxModel", "within", "(I)I"⟩, 34) := ⟨⟨by decide +kernel, by decide +kernel⟩, List.mem_of_getElem? (i := 1083) (by decide +kernel), List.mem_of_getElem? (i := 1596) (by decide +kernel), List.mem_of_getElem? (i := 1597) (by decide +kernel)⟩
theorem lw_p75 : lw_okq (⟨"ColdBoxModel", "paid", "(II)J"⟩, 34) := ⟨⟨by decide +kernel, by decide +kernel⟩, List.mem_of_getElem? (i := 1083) (by decide +kernel), List.mem_of_getElem? (i := 1618) (by decide +kernel), List.mem_of_getElem? (i := 1619) (by decide +kernel)⟩
def lw_privs_5 : List (MethodName × Nat) := [(⟨"ColdBoxModel", "signOf", "(I)I"⟩, 34), (⟨"ColdBoxModel", "seens", "()I"⟩, 34), (⟨"ColdBoxModel", "weigh", "(I)V"⟩, 34), (⟨"ColdBoxModel", "weightOf", "(I)J"⟩, 34), (⟨"ColdBoxModel", "oddsOf", "(I)I"⟩, 34), (⟨"ColdBoxModel", "tellsOf", "(I)I"⟩, 34), (⟨"ColdBoxModel", "yearOf", "(I)I"⟩, 34), (⟨"ColdBoxModel", "iceOf", "(IIII)J"⟩, 34), (⟨"ColdBoxModel", "copy", "(II)V"⟩, 34), (⟨"ColdBoxModel", "placeOf", "(I)I"⟩, 34), (⟨"ColdBoxModel", "within", "(I)I"⟩, 34), (⟨"ColdBoxModel", "paid", "(II)J"⟩, 34)]
theorem lw_r5 : ∀ q ∈ lw_privs_5, lw_okq q := List.forall_mem_cons.mpr ⟨lw_p64, List.forall_mem_cons.mpr ⟨lw_p65, List.forall_mem_cons.mpr ⟨lw_p66, List.forall_mem_cons.mpr ⟨lw_p67, List.forall_mem_cons.mpr ⟨lw_p68, List.forall_mem_cons.mpr ⟨lw_p69, List.forall_mem_cons.mpr ⟨lw_p70, List.forall_mem_cons.mpr ⟨lw_p71, List.forall_mem_cons.mpr ⟨lw_p72, List.forall_mem_cons.mpr ⟨lw_p73, List.forall_mem_cons.mpr ⟨lw_p74, List.forall_mem_cons.mpr ⟨lw_p75, fun _ h => absurd h List.not_mem_nil⟩⟩⟩⟩⟩⟩⟩⟩⟩⟩⟩⟩
def lw_privs : List (MethodName × Nat) := lw_privs_1 ++ (lw_privs_2 ++ (lw_privs_3 ++ (lw_privs_4 ++ (lw_privs_5))))
def lw_tbl : List Cond := k2_sels lw_privs ++ tables_1
theorem lw_privs_ok : ∀ q ∈ lw_privs, lw_okq q := by
  show ∀ q ∈ lw_privs_1 ++ (lw_privs_2 ++ (lw_privs_3 ++ (lw_privs_4 ++ (lw_privs_5)))), lw_okq q
  exact List.forall_mem_append.mpr ⟨lw_r1, List.forall_mem_append.mpr ⟨lw_r2, List.forall_mem_append.mpr ⟨lw_r3, List.forall_mem_append.mpr ⟨lw_r4, lw_r5⟩⟩⟩⟩
def RX0 : String := "ColdBox$Build"
def TX0 : u_T := fun k => match k with
  | _ => ("ColdBox$Build", "numbers", "[I", true)
def tyX0 : Nat → FieldType := fun k => match k with
  | _ => .array .int
abbrev wsX00 : List Cond := u_ws RX0 TX0 1
theorem nmX0 : ∀ a, a < 1 → ∀ b, b < 1 → a ≠ b → (TX0 a).2.1 ≠ (TX0 b).2.1 := by decide +kernel
theorem tyX0_ok : ∀ k, k < 1 → parseFieldDescriptor (TX0 k).2.2.1 = some (tyX0 k) := by decide +kernel
abbrev cX0_init : ByteArray := prog_2_method_1_code
def yX0_init : MethodName := ⟨RX0, "<init>", "()V"⟩
abbrev cX0_copyFrom : ByteArray := prog_2_method_2_code
def yX0_copyFrom : MethodName := ⟨RX0, "copyFrom", "([I)V"⟩
abbrev cX0_sealOf : ByteArray := prog_2_method_3_code
def yX0_sealOf : MethodName := ⟨RX0, "sealOf", "(LColdBox$State;)I"⟩
abbrev cX0_powerOf : ByteArray := prog_2_method_4_code
def yX0_powerOf : MethodName := ⟨RX0, "powerOf", "(LColdBox$State;)I"⟩
abbrev cX0_roomOf : ByteArray := prog_2_method_5_code
def yX0_roomOf : MethodName := ⟨RX0, "roomOf", "(LColdBox$State;)I"⟩
def RX1 : String := "ColdBox$FreshRuns"
def TX1 : u_T := fun k => match k with
  | 0 => ("ColdBox$FreshRuns", "ticker", "LColdBox$Ticker;", true)
  | 1 => ("ColdBox$FreshRuns", "tried", "LColdBox$State;", true)
  | 2 => ("ColdBox$FreshRuns", "daysKnown", "[I", true)
  | _ => ("ColdBox$FreshRuns", "signs", "[I", true)
def tyX1 : Nat → FieldType := fun k => match k with
  | 0 => .object "ColdBox$Ticker"
  | 1 => .object "ColdBox$State"
  | 2 => .array .int
  | _ => .array .int
abbrev wsX10 : List Cond := u_ws RX1 TX1 4
theorem nmX1 : ∀ a, a < 4 → ∀ b, b < 4 → a ≠ b → (TX1 a).2.1 ≠ (TX1 b).2.1 := by decide +kernel
theorem tyX1_ok : ∀ k, k < 4 → parseFieldDescriptor (TX1 k).2.2.1 = some (tyX1 k) := by decide +kernel
abbrev cX1_init : ByteArray := prog_3_method_1_code
def yX1_init : MethodName := ⟨RX1, "<init>", "(LColdBox$Ticker;)V"⟩
abbrev cX1_forgetSigns : ByteArray := prog_3_method_2_code
def yX1_forgetSigns : MethodName := ⟨RX1, "forgetSigns", "()V"⟩
abbrev cX1_signOf : ByteArray := prog_3_method_3_code
def yX1_signOf : MethodName := ⟨RX1, "signOf", "(III)I"⟩
abbrev cX1_learnCouldBe : ByteArray := prog_3_method_4_code
def yX1_learnCouldBe : MethodName := ⟨RX1, "learnCouldBe", "(I)V"⟩
abbrev cX1_learnParts : ByteArray := prog_3_method_5_code
def yX1_learnParts : MethodName := ⟨RX1, "learnParts", "(II)V"⟩
abbrev cX1_learn : ByteArray := prog_3_method_6_code
def yX1_learn : MethodName := ⟨RX1, "learn", "(II)V"⟩
abbrev cX1_placeOf : ByteArray := prog_3_method_7_code
def yX1_placeOf : MethodName := ⟨RX1, "placeOf", "(II)I"⟩
abbrev cX1_firstDay : ByteArray := prog_3_method_8_code
def yX1_firstDay : MethodName := ⟨RX1, "firstDay", "(IZZ)I"⟩
abbrev cX1_usedThawing : ByteArray := prog_3_method_9_code
def yX1_usedThawing : MethodName := ⟨RX1, "usedThawing", "(IIIZ)I"⟩
abbrev cX1_begin : ByteArray := prog_3_method_10_code
def yX1_begin : MethodName := ⟨RX1, "begin", "(IZ)V"⟩
def RX2 : String := "ColdBox$Guess"
def TX2 : u_T := fun k => match k with
  | 0 => ("ColdBox$Guess", "runs", "LColdBox$FreshRuns;", true)
  | 1 => ("ColdBox$Guess", "isSeen", "[Z", true)
  | 2 => ("ColdBox$Guess", "values", "[I", true)
  | 3 => ("ColdBox$Guess", "exact", "[I", true)
  | 4 => ("ColdBox$Guess", "priors", "[I", true)
  | 5 => ("ColdBox$Guess", "bothers", "[I", true)
  | 6 => ("ColdBox$Guess", "weights", "[J", true)
  | _ => ("ColdBox$Guess", "classes", "[I", true)
def tyX2 : Nat → FieldType := fun k => match k with
  | 0 => .object "ColdBox$FreshRuns"
  | 1 => .array .boolean
  | 2 => .array .int
  | 3 => .array .int
  | 4 => .array .int
  | 5 => .array .int
  | 6 => .array .long
  | _ => .array .int
abbrev wsX20 : List Cond := u_ws RX2 TX2 8
theorem nmX2 : ∀ a, a < 8 → ∀ b, b < 8 → a ≠ b → (TX2 a).2.1 ≠ (TX2 b).2.1 := by decide +kernel
theorem tyX2_ok : ∀ k, k < 8 → parseFieldDescriptor (TX2 k).2.2.1 = some (tyX2 k) := by decide +kernel
abbrev cX2_init : ByteArray := prog_4_method_1_code
def yX2_init : MethodName := ⟨RX2, "<init>", "(LColdBox$FreshRuns;)V"⟩
abbrev cX2_howManySeen : ByteArray := prog_4_method_2_code
def yX2_howManySeen : MethodName := ⟨RX2, "howManySeen", "()I"⟩
abbrev cX2_oddsOf : ByteArray := prog_4_method_3_code
def yX2_oddsOf : MethodName := ⟨RX2, "oddsOf", "(II)I"⟩
abbrev cX2_oddsWith : ByteArray := prog_4_method_4_code
def yX2_oddsWith : MethodName := ⟨RX2, "oddsWith", "(II)I"⟩
abbrev cX2_howMuchTells : ByteArray := prog_4_method_5_code
def yX2_howMuchTells : MethodName := ⟨RX2, "howMuchTells", "(II)I"⟩
abbrev cX2_nextSign : ByteArray := prog_4_method_6_code
def yX2_nextSign : MethodName := ⟨RX2, "nextSign", "(I)I"⟩
abbrev cX2_share : ByteArray := prog_4_method_7_code
def yX2_share : MethodName := ⟨RX2, "share", "(IJ)I"⟩
abbrev cX2_weighAll : ByteArray := prog_4_method_8_code
def yX2_weighAll : MethodName := ⟨RX2, "weighAll", "(I)J"⟩
abbrev cX2_weightOf : ByteArray := prog_4_method_9_code
def yX2_weightOf : MethodName := ⟨RX2, "weightOf", "(II)J"⟩
abbrev cX2_halvings : ByteArray := prog_4_method_10_code
def yX2_halvings : MethodName := ⟨RX2, "halvings", "(III)I"⟩
abbrev cX2_exactOf : ByteArray := prog_4_method_11_code
def yX2_exactOf : MethodName := ⟨RX2, "exactOf", "(I)I"⟩
abbrev cX2_tellingBy : ByteArray := prog_4_method_12_code
def yX2_tellingBy : MethodName := ⟨RX2, "tellingBy", "(IIJ)I"⟩
abbrev cX2_isFirstOfClass : ByteArray := prog_4_method_13_code
def yX2_isFirstOfClass : MethodName := ⟨RX2, "isFirstOfClass", "(I)Z"⟩
abbrev cX2_weightOfClass : ByteArray := prog_4_method_14_code
def yX2_weightOfClass : MethodName := ⟨RX2, "weightOfClass", "(I)J"⟩
def RX3 : String := "ColdBox$Openings"
def TX3 : u_T := fun k => match k with
  | 0 => ("ColdBox$Openings", "size", "I", false)
  | 1 => ("ColdBox$Openings", "from", "[I", true)
  | 2 => ("ColdBox$Openings", "lasting", "[I", true)
  | _ => ("ColdBox$Openings", "open", "[Z", true)
def tyX3 : Nat → FieldType := fun k => match k with
  | 0 => .int
  | 1 => .array .int
  | 2 => .array .int
  | _ => .array .boolean
abbrev wsX30 : List Cond := u_ws RX3 TX3 4
theorem nmX3 : ∀ a, a < 4 → ∀ b, b < 4 → a ≠ b → (TX3 a).2.1 ≠ (TX3 b).2.1 := by decide +kernel
theorem tyX3_ok : ∀ k, k < 4 → parseFieldDescriptor (TX3 k).2.2.1 = some (tyX3 k) := by decide +kernel
abbrev cX3_init : ByteArray := prog_5_method_1_code
def yX3_init : MethodName := ⟨RX3, "<init>", "()V"⟩
abbrev cX3_copyFrom : ByteArray := prog_5_method_2_code
def yX3_copyFrom : MethodName := ⟨RX3, "copyFrom", "(I[I[I)V"⟩
abbrev cX3_isOpenIn : ByteArray := prog_5_method_3_code
def yX3_isOpenIn : MethodName := ⟨RX3, "isOpenIn", "(I)Z"⟩
def RX4 : String := "ColdBox$Purse"
def TX4 : u_T := fun k => match k with
  | 0 => ("ColdBox$Purse", "runs", "LColdBox$FreshRuns;", true)
  | 1 => ("ColdBox$Purse", "costs", "[I", true)
  | _ => ("ColdBox$Purse", "coins", "I", false)
def tyX4 : Nat → FieldType := fun k => match k with
  | 0 => .object "ColdBox$FreshRuns"
  | 1 => .array .int
  | _ => .int
abbrev wsX40 : List Cond := u_ws RX4 TX4 3
theorem nmX4 : ∀ a, a < 3 → ∀ b, b < 3 → a ≠ b → (TX4 a).2.1 ≠ (TX4 b).2.1 := by decide +kernel
theorem tyX4_ok : ∀ k, k < 3 → parseFieldDescriptor (TX4 k).2.2.1 = some (tyX4 k) := by decide +kernel
abbrev cX4_init : ByteArray := prog_6_method_1_code
def yX4_init : MethodName := ⟨RX4, "<init>", "(LColdBox$FreshRuns;)V"⟩
abbrev cX4_yearOf : ByteArray := prog_6_method_2_code
def yX4_yearOf : MethodName := ⟨RX4, "yearOf", "(IZ)I"⟩
abbrev cX4_yearByUse : ByteArray := prog_6_method_3_code
def yX4_yearByUse : MethodName := ⟨RX4, "yearByUse", "(I)I"⟩
abbrev cX4_saved : ByteArray := prog_6_method_4_code
def yX4_saved : MethodName := ⟨RX4, "saved", "(IIZ)I"⟩
abbrev cX4_costOf : ByteArray := prog_6_method_5_code
def yX4_costOf : MethodName := ⟨RX4, "costOf", "(I)I"⟩
abbrev cX4_bestPart : ByteArray := prog_6_method_6_code
def yX4_bestPart : MethodName := ⟨RX4, "bestPart", "(IIZ)I"⟩
abbrev cX4_yearsToPay : ByteArray := prog_6_method_7_code
def yX4_yearsToPay : MethodName := ⟨RX4, "yearsToPay", "(IIIZ)I"⟩
abbrev cX4_bestThawing : ByteArray := prog_6_method_8_code
def yX4_bestThawing : MethodName := ⟨RX4, "bestThawing", "(IIIZ)I"⟩
def RX5 : String := "ColdBox$Reader"
def TX5 : u_T := fun k => match k with
  | 0 => ("ColdBox$Reader", "text", "[C", true)
  | 1 => ("ColdBox$Reader", "length", "I", false)
  | 2 => ("ColdBox$Reader", "at", "I", false)
  | 3 => ("ColdBox$Reader", "fault", "I", false)
  | 4 => ("ColdBox$Reader", "place", "I", false)
  | 5 => ("ColdBox$Reader", "clauses", "I", false)
  | 6 => ("ColdBox$Reader", "isTold", "[Z", true)
  | 7 => ("ColdBox$Reader", "numbers", "[I", true)
  | 8 => ("ColdBox$Reader", "from", "[I", true)
  | _ => ("ColdBox$Reader", "lasting", "[I", true)
def tyX5 : Nat → FieldType := fun k => match k with
  | 0 => .array .char
  | 1 => .int
  | 2 => .int
  | 3 => .int
  | 4 => .int
  | 5 => .int
  | 6 => .array .boolean
  | 7 => .array .int
  | 8 => .array .int
  | _ => .array .int
abbrev wsX50 : List Cond := u_ws RX5 TX5 10
theorem nmX5 : ∀ a, a < 10 → ∀ b, b < 10 → a ≠ b → (TX5 a).2.1 ≠ (TX5 b).2.1 := by decide +kernel
theorem tyX5_ok : ∀ k, k < 10 → parseFieldDescriptor (TX5 k).2.2.1 = some (tyX5 k) := by decide +kernel
abbrev cX5_init : ByteArray := prog_7_method_1_code
def yX5_init : MethodName := ⟨RX5, "<init>", "()V"⟩
abbrev cX5_append : ByteArray := prog_7_method_2_code
def yX5_append : MethodName := ⟨RX5, "append", "(IJ)Z"⟩
abbrev cX5_readBox : ByteArray := prog_7_method_3_code
def yX5_readBox : MethodName := ⟨RX5, "readBox", "()V"⟩
abbrev cX5_readDay : ByteArray := prog_7_method_4_code
def yX5_readDay : MethodName := ⟨RX5, "readDay", "()V"⟩
abbrev cX5_begin : ByteArray := prog_7_method_5_code
def yX5_begin : MethodName := ⟨RX5, "begin", "()V"⟩
abbrev cX5_readClause : ByteArray := prog_7_method_6_code
def yX5_readClause : MethodName := ⟨RX5, "readClause", "()V"⟩
abbrev cX5_readClauseNumbers : ByteArray := prog_7_method_7_code
def yX5_readClauseNumbers : MethodName := ⟨RX5, "readClauseNumbers", "(I)V"⟩
abbrev cX5_readOpening : ByteArray := prog_7_method_8_code
def yX5_readOpening : MethodName := ⟨RX5, "readOpening", "()V"⟩
abbrev cX5_readClauseEnd : ByteArray := prog_7_method_9_code
def yX5_readClauseEnd : MethodName := ⟨RX5, "readClauseEnd", "()V"⟩
abbrev cX5_readNumber : ByteArray := prog_7_method_10_code
def yX5_readNumber : MethodName := ⟨RX5, "readNumber", "(II)I"⟩
abbrev cX5_readWord : ByteArray := prog_7_method_11_code
def yX5_readWord : MethodName := ⟨RX5, "readWord", "()V"⟩
abbrev cX5_skipBlanks : ByteArray := prog_7_method_12_code
def yX5_skipBlanks : MethodName := ⟨RX5, "skipBlanks", "()V"⟩
abbrev cX5_clauseFrom : ByteArray := prog_7_method_13_code
def yX5_clauseFrom : MethodName := ⟨RX5, "clauseFrom", "(I)I"⟩
abbrev cX5_isWord : ByteArray := prog_7_method_14_code
def yX5_isWord : MethodName := ⟨RX5, "isWord", "(Ljava/lang/String;I)Z"⟩
abbrev cX5_faultAt : ByteArray := prog_7_method_15_code
def yX5_faultAt : MethodName := ⟨RX5, "faultAt", "(II)V"⟩
abbrev cX5_isFigure : ByteArray := prog_7_method_16_code
def yX5_isFigure : MethodName := ⟨RX5, "isFigure", "(C)Z"⟩
abbrev cX5_isLetter : ByteArray := prog_7_method_17_code
def yX5_isLetter : MethodName := ⟨RX5, "isLetter", "(C)Z"⟩
abbrev cX5_wordOf : ByteArray := prog_7_method_18_code
def yX5_wordOf : MethodName := ⟨RX5, "wordOf", "(I)Ljava/lang/String;"⟩
def RX6 : String := "ColdBox$State"
def TX6 : u_T := fun k => match k with
  | 0 => ("ColdBox$State", "heats", "[J", true)
  | 1 => ("ColdBox$State", "caps", "[I", true)
  | 2 => ("ColdBox$State", "there", "[Z", true)
  | 3 => ("ColdBox$State", "shelves", "[I", true)
  | 4 => ("ColdBox$State", "lowest", "[I", true)
  | 5 => ("ColdBox$State", "highest", "[I", true)
  | 6 => ("ColdBox$State", "flowed", "[J", true)
  | 7 => ("ColdBox$State", "counts", "[I", true)
  | 8 => ("ColdBox$State", "troubles", "I", false)
  | 9 => ("ColdBox$State", "reading", "I", false)
  | 10 => ("ColdBox$State", "on", "Z", false)
  | 11 => ("ColdBox$State", "covered", "Z", false)
  | 12 => ("ColdBox$State", "current", "Z", false)
  | _ => ("ColdBox$State", "seedNow", "I", false)
def tyX6 : Nat → FieldType := fun k => match k with
  | 0 => .array .long
  | 1 => .array .int
  | 2 => .array .boolean
  | 3 => .array .int
  | 4 => .array .int
  | 5 => .array .int
  | 6 => .array .long
  | 7 => .array .int
  | 8 => .int
  | 9 => .int
  | 10 => .boolean
  | 11 => .boolean
  | 12 => .boolean
  | _ => .int
abbrev wsX60 : List Cond := u_ws RX6 TX6 14
theorem nmX6 : ∀ a, a < 14 → ∀ b, b < 14 → a ≠ b → (TX6 a).2.1 ≠ (TX6 b).2.1 := by decide +kernel
theorem tyX6_ok : ∀ k, k < 14 → parseFieldDescriptor (TX6 k).2.2.1 = some (tyX6 k) := by decide +kernel
abbrev cX6_init : ByteArray := prog_8_method_1_code
def yX6_init : MethodName := ⟨RX6, "<init>", "()V"⟩
abbrev cX6_becomeFresh : ByteArray := prog_8_method_2_code
def yX6_becomeFresh : MethodName := ⟨RX6, "becomeFresh", "()V"⟩
abbrev cX6_copyFrom : ByteArray := prog_8_method_3_code
def yX6_copyFrom : MethodName := ⟨RX6, "copyFrom", "(LColdBox$State;)V"⟩
abbrev cX6_has : ByteArray := prog_8_method_4_code
def yX6_has : MethodName := ⟨RX6, "has", "(I)Z"⟩
abbrev cX6_warmthOf : ByteArray := prog_8_method_5_code
def yX6_warmthOf : MethodName := ⟨RX6, "warmthOf", "(I)I"⟩
abbrev cX6_tickOfDay : ByteArray := prog_8_method_6_code
def yX6_tickOfDay : MethodName := ⟨RX6, "tickOfDay", "()I"⟩
abbrev cX6_allHeat : ByteArray := prog_8_method_7_code
def yX6_allHeat : MethodName := ⟨RX6, "allHeat", "()J"⟩
abbrev cX6_hasFood : ByteArray := prog_8_method_8_code
def yX6_hasFood : MethodName := ⟨RX6, "hasFood", "(I)Z"⟩
abbrev cX6_firstNotThere : ByteArray := prog_8_method_9_code
def yX6_firstNotThere : MethodName := ⟨RX6, "firstNotThere", "()I"⟩
abbrev cX6_foodsThere : ByteArray := prog_8_method_10_code
def yX6_foodsThere : MethodName := ⟨RX6, "foodsThere", "()I"⟩
abbrev cX6_addFood : ByteArray := prog_8_method_11_code
def yX6_addFood : MethodName := ⟨RX6, "addFood", "(IIII)V"⟩
abbrev cX6_removeFood : ByteArray := prog_8_method_12_code
def yX6_removeFood : MethodName := ⟨RX6, "removeFood", "(I)V"⟩
abbrev cX6_isWithin : ByteArray := prog_8_method_13_code
def yX6_isWithin : MethodName := ⟨RX6, "isWithin", "(I)Z"⟩
abbrev cX6_foodsWithin : ByteArray := prog_8_method_14_code
def yX6_foodsWithin : MethodName := ⟨RX6, "foodsWithin", "()I"⟩
abbrev cX6_letOffIce : ByteArray := prog_8_method_15_code
def yX6_letOffIce : MethodName := ⟨RX6, "letOffIce", "()I"⟩
abbrev cX6_draw : ByteArray := prog_8_method_16_code
def yX6_draw : MethodName := ⟨RX6, "draw", "(I)I"⟩
def RX7 : String := "ColdBox$Ticker"
def TX7 : u_T := fun k => match k with
  | 0 => ("ColdBox$Ticker", "build", "LColdBox$Build;", true)
  | 1 => ("ColdBox$Ticker", "openings", "LColdBox$Openings;", true)
  | 2 => ("ColdBox$Ticker", "warms", "[I", true)
  | _ => ("ColdBox$Ticker", "gains", "[J", true)
def tyX7 : Nat → FieldType := fun k => match k with
  | 0 => .object "ColdBox$Build"
  | 1 => .object "ColdBox$Openings"
  | 2 => .array .int
  | _ => .array .long
abbrev wsX70 : List Cond := u_ws RX7 TX7 4
theorem nmX7 : ∀ a, a < 4 → ∀ b, b < 4 → a ≠ b → (TX7 a).2.1 ≠ (TX7 b).2.1 := by decide +kernel
theorem tyX7_ok : ∀ k, k < 4 → parseFieldDescriptor (TX7 k).2.2.1 = some (tyX7 k) := by decide +kernel
abbrev cX7_init : ByteArray := prog_9_method_1_code
def yX7_init : MethodName := ⟨RX7, "<init>", "(LColdBox$Build;LColdBox$Openings;)V"⟩
abbrev cX7_passByDay : ByteArray := prog_9_method_2_code
def yX7_passByDay : MethodName := ⟨RX7, "passByDay", "(LColdBox$State;II)V"⟩
abbrev cX7_pass : ByteArray := prog_9_method_3_code
def yX7_pass : MethodName := ⟨RX7, "pass", "(LColdBox$State;ZII)V"⟩
abbrev cX7_lookAtWarmths : ByteArray := prog_9_method_4_code
def yX7_lookAtWarmths : MethodName := ⟨RX7, "lookAtWarmths", "(LColdBox$State;)V"⟩
abbrev cX7_switchMachine : ByteArray := prog_9_method_5_code
def yX7_switchMachine : MethodName := ⟨RX7, "switchMachine", "(LColdBox$State;II)V"⟩
abbrev cX7_exchange : ByteArray := prog_9_method_6_code
def yX7_exchange : MethodName := ⟨RX7, "exchange", "(LColdBox$State;II)V"⟩
abbrev cX7_flow : ByteArray := prog_9_method_7_code
def yX7_flow : MethodName := ⟨RX7, "flow", "(IIII)V"⟩
abbrev cX7_giveLight : ByteArray := prog_9_method_8_code
def yX7_giveLight : MethodName := ⟨RX7, "giveLight", "(LColdBox$State;)V"⟩
abbrev cX7_moveOut : ByteArray := prog_9_method_9_code
def yX7_moveOut : MethodName := ⟨RX7, "moveOut", "(LColdBox$State;I)V"⟩
abbrev cX7_takeWet : ByteArray := prog_9_method_10_code
def yX7_takeWet : MethodName := ⟨RX7, "takeWet", "(LColdBox$State;I)V"⟩
def RX8 : String := "ColdBox$Trials"
def TX8 : u_T := fun k => match k with
  | 0 => ("ColdBox$Trials", "ticker", "LColdBox$Ticker;", true)
  | 1 => ("ColdBox$Trials", "now", "LColdBox$State;", true)
  | 2 => ("ColdBox$Trials", "tried", "LColdBox$State;", true)
  | 3 => ("ColdBox$Trials", "row", "[I", true)
  | 4 => ("ColdBox$Trials", "cheapFrom", "I", false)
  | 5 => ("ColdBox$Trials", "cheapTo", "I", false)
  | 6 => ("ColdBox$Trials", "cheapPrice", "I", false)
  | 7 => ("ColdBox$Trials", "bestChoice", "I", false)
  | _ => ("ColdBox$Trials", "most", "I", false)
def tyX8 : Nat → FieldType := fun k => match k with
  | 0 => .object "ColdBox$Ticker"
  | 1 => .object "ColdBox$State"
  | 2 => .object "ColdBox$State"
  | 3 => .array .int
  | 4 => .int
  | 5 => .int
  | 6 => .int
  | 7 => .int
  | _ => .int
abbrev wsX80 : List Cond := u_ws RX8 TX8 9
theorem nmX8 : ∀ a, a < 9 → ∀ b, b < 9 → a ≠ b → (TX8 a).2.1 ≠ (TX8 b).2.1 := by decide +kernel
theorem tyX8_ok : ∀ k, k < 9 → parseFieldDescriptor (TX8 k).2.2.1 = some (tyX8 k) := by decide +kernel
abbrev cX8_init : ByteArray := prog_10_method_1_code
def yX8_init : MethodName := ⟨RX8, "<init>", "(LColdBox$Ticker;LColdBox$State;)V"⟩
abbrev cX8_findBestRow : ByteArray := prog_10_method_2_code
def yX8_findBestRow : MethodName := ⟨RX8, "findBestRow", "()V"⟩
abbrev cX8_shelfInBestRow : ByteArray := prog_10_method_3_code
def yX8_shelfInBestRow : MethodName := ⟨RX8, "shelfInBestRow", "(I)I"⟩
abbrev cX8_layByRow : ByteArray := prog_10_method_4_code
def yX8_layByRow : MethodName := ⟨RX8, "layByRow", "(I[I)V"⟩
abbrev cX8_findBestBulb : ByteArray := prog_10_method_5_code
def yX8_findBestBulb : MethodName := ⟨RX8, "findBestBulb", "()V"⟩
abbrev cX8_takeIfMore : ByteArray := prog_10_method_6_code
def yX8_takeIfMore : MethodName := ⟨RX8, "takeIfMore", "(II)V"⟩
abbrev cX8_withinOnSecondDay : ByteArray := prog_10_method_7_code
def yX8_withinOnSecondDay : MethodName := ⟨RX8, "withinOnSecondDay", "(I)I"⟩
abbrev cX8_ticksWithoutCurrent : ByteArray := prog_10_method_8_code
def yX8_ticksWithoutCurrent : MethodName := ⟨RX8, "ticksWithoutCurrent", "(I)I"⟩
abbrev cX8_findBestStore : ByteArray := prog_10_method_9_code
def yX8_findBestStore : MethodName := ⟨RX8, "findBestStore", "(II)V"⟩
abbrev cX8_paidStoring : ByteArray := prog_10_method_10_code
def yX8_paidStoring : MethodName := ⟨RX8, "paidStoring", "(III)I"⟩
abbrev cX8_isCheapHour : ByteArray := prog_10_method_11_code
def yX8_isCheapHour : MethodName := ⟨RX8, "isCheapHour", "(I)Z"⟩
abbrev cX8_boxBulb : ByteArray := prog_10_method_12_code
def yX8_boxBulb : MethodName := ⟨RX8, "boxBulb", "()I"⟩
def RX9 : String := "ColdBox"
def TX9 : u_T := fun k => match k with
  | 0 => ("ColdBox", "reader", "LColdBox$Reader;", true)
  | 1 => ("ColdBox", "build", "LColdBox$Build;", true)
  | 2 => ("ColdBox", "openings", "LColdBox$Openings;", true)
  | 3 => ("ColdBox", "ticker", "LColdBox$Ticker;", true)
  | 4 => ("ColdBox", "now", "LColdBox$State;", true)
  | 5 => ("ColdBox", "image0", "LColdBox$State;", true)
  | 6 => ("ColdBox", "image1", "LColdBox$State;", true)
  | 7 => ("ColdBox", "kept", "[Z", true)
  | 8 => ("ColdBox", "drawnDoor", "[Z", true)
  | 9 => ("ColdBox", "freshRuns", "LColdBox$FreshRuns;", true)
  | 10 => ("ColdBox", "guess", "LColdBox$Guess;", true)
  | 11 => ("ColdBox", "purse", "LColdBox$Purse;", true)
  | _ => ("ColdBox", "trials", "LColdBox$Trials;", true)
def tyX9 : Nat → FieldType := fun k => match k with
  | 0 => .object "ColdBox$Reader"
  | 1 => .object "ColdBox$Build"
  | 2 => .object "ColdBox$Openings"
  | 3 => .object "ColdBox$Ticker"
  | 4 => .object "ColdBox$State"
  | 5 => .object "ColdBox$State"
  | 6 => .object "ColdBox$State"
  | 7 => .array .boolean
  | 8 => .array .boolean
  | 9 => .object "ColdBox$FreshRuns"
  | 10 => .object "ColdBox$Guess"
  | 11 => .object "ColdBox$Purse"
  | _ => .object "ColdBox$Trials"
abbrev wsX90 : List Cond := u_ws RX9 TX9 13
theorem nmX9 : ∀ a, a < 13 → ∀ b, b < 13 → a ≠ b → (TX9 a).2.1 ≠ (TX9 b).2.1 := by decide +kernel
theorem tyX9_ok : ∀ k, k < 13 → parseFieldDescriptor (TX9 k).2.2.1 = some (tyX9 k) := by decide +kernel
abbrev cX9_init : ByteArray := prog_1_method_1_code
def yX9_init : MethodName := ⟨RX9, "<init>", "()V"⟩
abbrev cX9_feed : ByteArray := prog_1_method_2_code
def yX9_feed : MethodName := ⟨RX9, "feed", "(IJ)I"⟩
abbrev cX9_box : ByteArray := prog_1_method_3_code
def yX9_box : MethodName := ⟨RX9, "box", "()I"⟩
abbrev cX9_day : ByteArray := prog_1_method_4_code
def yX9_day : MethodName := ⟨RX9, "day", "()I"⟩
abbrev cX9_fault : ByteArray := prog_1_method_5_code
def yX9_fault : MethodName := ⟨RX9, "fault", "()I"⟩
abbrev cX9_told : ByteArray := prog_1_method_6_code
def yX9_told : MethodName := ⟨RX9, "told", "(I)I"⟩
abbrev cX9_opening : ByteArray := prog_1_method_7_code
def yX9_opening : MethodName := ⟨RX9, "opening", "(II)I"⟩
abbrev cX9_trouble : ByteArray := prog_1_method_8_code
def yX9_trouble : MethodName := ⟨RX9, "trouble", "(I)I"⟩
abbrev cX9_fresh : ByteArray := prog_1_method_9_code
def yX9_fresh : MethodName := ⟨RX9, "fresh", "()I"⟩
abbrev cX9_current : ByteArray := prog_1_method_10_code
def yX9_current : MethodName := ⟨RX9, "current", "(Z)I"⟩
abbrev cX9_cover : ByteArray := prog_1_method_11_code
def yX9_cover : MethodName := ⟨RX9, "cover", "(Z)I"⟩
abbrev cX9_put : ByteArray := prog_1_method_12_code
def yX9_put : MethodName := ⟨RX9, "put", "(IIIII)I"⟩
abbrev cX9_take : ByteArray := prog_1_method_13_code
def yX9_take : MethodName := ⟨RX9, "take", "(I)I"⟩
abbrev cX9_lay : ByteArray := prog_1_method_14_code
def yX9_lay : MethodName := ⟨RX9, "lay", "(II)I"⟩
abbrev cX9_food : ByteArray := prog_1_method_15_code
def yX9_food : MethodName := ⟨RX9, "food", "(II)I"⟩
abbrev cX9_run : ByteArray := prog_1_method_16_code
def yX9_run : MethodName := ⟨RX9, "run", "(I)I"⟩
abbrev cX9_drawn : ByteArray := prog_1_method_17_code
def yX9_drawn : MethodName := ⟨RX9, "drawn", "(II)I"⟩
abbrev cX9_warmth : ByteArray := prog_1_method_18_code
def yX9_warmth : MethodName := ⟨RX9, "warmth", "(I)I"⟩
abbrev cX9_heat : ByteArray := prog_1_method_19_code
def yX9_heat : MethodName := ⟨RX9, "heat", "(I)J"⟩
abbrev cX9_count : ByteArray := prog_1_method_20_code
def yX9_count : MethodName := ⟨RX9, "count", "(I)I"⟩
abbrev cX9_thaw : ByteArray := prog_1_method_21_code
def yX9_thaw : MethodName := ⟨RX9, "thaw", "()I"⟩
abbrev cX9_sign : ByteArray := prog_1_method_22_code
def yX9_sign : MethodName := ⟨RX9, "sign", "(III)I"⟩
abbrev cX9_seen : ByteArray := prog_1_method_23_code
def yX9_seen : MethodName := ⟨RX9, "seen", "(III)I"⟩
abbrev cX9_forget : ByteArray := prog_1_method_24_code
def yX9_forget : MethodName := ⟨RX9, "forget", "()I"⟩
abbrev cX9_prior : ByteArray := prog_1_method_25_code
def yX9_prior : MethodName := ⟨RX9, "prior", "(II)I"⟩
abbrev cX9_bother : ByteArray := prog_1_method_26_code
def yX9_bother : MethodName := ⟨RX9, "bother", "(II)I"⟩
abbrev cX9_odds : ByteArray := prog_1_method_27_code
def yX9_odds : MethodName := ⟨RX9, "odds", "(II)I"⟩
abbrev cX9_each : ByteArray := prog_1_method_28_code
def yX9_each : MethodName := ⟨RX9, "each", "(II)I"⟩
abbrev cX9_tells : ByteArray := prog_1_method_29_code
def yX9_tells : MethodName := ⟨RX9, "tells", "(II)I"⟩
abbrev cX9_next : ByteArray := prog_1_method_30_code
def yX9_next : MethodName := ⟨RX9, "next", "(I)I"⟩
abbrev cX9_makes : ByteArray := prog_1_method_31_code
def yX9_makes : MethodName := ⟨RX9, "makes", "(II)I"⟩
abbrev cX9_mending : ByteArray := prog_1_method_32_code
def yX9_mending : MethodName := ⟨RX9, "mending", "(II)I"⟩
abbrev cX9_price : ByteArray := prog_1_method_33_code
def yX9_price : MethodName := ⟨RX9, "price", "(I)I"⟩
abbrev cX9_year : ByteArray := prog_1_method_34_code
def yX9_year : MethodName := ⟨RX9, "year", "(I)I"⟩
abbrev cX9_saves : ByteArray := prog_1_method_35_code
def yX9_saves : MethodName := ⟨RX9, "saves", "(II)I"⟩
abbrev cX9_best : ByteArray := prog_1_method_36_code
def yX9_best : MethodName := ⟨RX9, "best", "(III)I"⟩
abbrev cX9_pays : ByteArray := prog_1_method_37_code
def yX9_pays : MethodName := ⟨RX9, "pays", "(III)I"⟩
abbrev cX9_ice : ByteArray := prog_1_method_38_code
def yX9_ice : MethodName := ⟨RX9, "ice", "(III)I"⟩
abbrev cX9_lying : ByteArray := prog_1_method_39_code
def yX9_lying : MethodName := ⟨RX9, "lying", "(I)I"⟩
abbrev cX9_bulb : ByteArray := prog_1_method_40_code
def yX9_bulb : MethodName := ⟨RX9, "bulb", "(I)I"⟩
abbrev cX9_without : ByteArray := prog_1_method_41_code
def yX9_without : MethodName := ⟨RX9, "without", "(I)I"⟩
abbrev cX9_cheap : ByteArray := prog_1_method_42_code
def yX9_cheap : MethodName := ⟨RX9, "cheap", "(III)I"⟩
abbrev cX9_store : ByteArray := prog_1_method_43_code
def yX9_store : MethodName := ⟨RX9, "store", "(II)I"⟩
abbrev cX9_seed : ByteArray := prog_1_method_44_code
def yX9_seed : MethodName := ⟨RX9, "seed", "(I)I"⟩
abbrev cX9_keep : ByteArray := prog_1_method_45_code
def yX9_keep : MethodName := ⟨RX9, "keep", "(I)I"⟩
abbrev cX9_goBack : ByteArray := prog_1_method_46_code
def yX9_goBack : MethodName := ⟨RX9, "goBack", "(I)I"⟩
abbrev cX9_imageOf : ByteArray := prog_1_method_47_code
def yX9_imageOf : MethodName := ⟨RX9, "imageOf", "(I)LColdBox$State;"⟩
abbrev cX9_drawDoor : ByteArray := prog_1_method_48_code
def yX9_drawDoor : MethodName := ⟨RX9, "drawDoor", "(I)V"⟩
abbrev cX9_isSet : ByteArray := prog_1_method_49_code
def yX9_isSet : MethodName := ⟨RX9, "isSet", "(I)Z"⟩
abbrev cX9_isPart : ByteArray := prog_1_method_50_code
def yX9_isPart : MethodName := ⟨RX9, "isPart", "(II)Z"⟩
abbrev cX9_isTrouble : ByteArray := prog_1_method_51_code
def yX9_isTrouble : MethodName := ⟨RX9, "isTrouble", "(I)Z"⟩
abbrev cX9_isSign : ByteArray := prog_1_method_52_code
def yX9_isSign : MethodName := ⟨RX9, "isSign", "(I)Z"⟩
abbrev cX9_isShelf : ByteArray := prog_1_method_53_code
def yX9_isShelf : MethodName := ⟨RX9, "isShelf", "(I)Z"⟩
abbrev cX9_isPrice : ByteArray := prog_1_method_54_code
def yX9_isPrice : MethodName := ⟨RX9, "isPrice", "(I)Z"⟩
abbrev cX9_canBeWarmth : ByteArray := prog_1_method_55_code
def yX9_canBeWarmth : MethodName := ⟨RX9, "canBeWarmth", "(I)Z"⟩
abbrev cX9_areSignDays : ByteArray := prog_1_method_56_code
def yX9_areSignDays : MethodName := ⟨RX9, "areSignDays", "(I)Z"⟩
def RX10 : String := "ColdBoxModel"
def TX10 : u_T := fun k => match k with
  | 0 => ("ColdBoxModel", "w", "[J", true)
  | 1 => ("ColdBoxModel", "isKept", "[Z", true)
  | 2 => ("ColdBoxModel", "isBegun", "Z", false)
  | 3 => ("ColdBoxModel", "box", "[I", true)
  | 4 => ("ColdBoxModel", "read", "[I", true)
  | 5 => ("ColdBoxModel", "openings", "I", false)
  | 6 => ("ColdBoxModel", "opens", "[I", true)
  | 7 => ("ColdBoxModel", "lasts", "[I", true)
  | 8 => ("ColdBoxModel", "readOpens", "[I", true)
  | 9 => ("ColdBoxModel", "readLasts", "[I", true)
  | 10 => ("ColdBoxModel", "text", "[I", true)
  | 11 => ("ColdBoxModel", "textSize", "I", false)
  | 12 => ("ColdBoxModel", "at", "I", false)
  | 13 => ("ColdBoxModel", "first", "I", false)
  | 14 => ("ColdBoxModel", "length", "I", false)
  | 15 => ("ColdBoxModel", "faultOf", "I", false)
  | 16 => ("ColdBoxModel", "fault", "I", false)
  | 17 => ("ColdBoxModel", "seenKinds", "I", false)
  | 18 => ("ColdBoxModel", "flow", "[J", true)
  | 19 => ("ColdBoxModel", "isDrawn", "[Z", true)
  | 20 => ("ColdBoxModel", "shown", "[I", true)
  | 21 => ("ColdBoxModel", "isSeen", "[Z", true)
  | 22 => ("ColdBoxModel", "seenAs", "[I", true)
  | 23 => ("ColdBoxModel", "seenBy", "[I", true)
  | 24 => ("ColdBoxModel", "priors", "[I", true)
  | 25 => ("ColdBoxModel", "bothers", "[I", true)
  | 26 => ("ColdBoxModel", "weight", "[J", true)
  | 27 => ("ColdBoxModel", "shows", "[I", true)
  | 28 => ("ColdBoxModel", "allWeight", "J", false)
  | 29 => ("ColdBoxModel", "mends", "[I", true)
  | 30 => ("ColdBoxModel", "price", "I", false)
  | 31 => ("ColdBoxModel", "cheapFrom", "I", false)
  | 32 => ("ColdBoxModel", "cheapTill", "I", false)
  | _ => ("ColdBoxModel", "cheapPrice", "I", false)
def tyX10 : Nat → FieldType := fun k => match k with
  | 0 => .array .long
  | 1 => .array .boolean
  | 2 => .boolean
  | 3 => .array .int
  | 4 => .array .int
  | 5 => .int
  | 6 => .array .int
  | 7 => .array .int
  | 8 => .array .int
  | 9 => .array .int
  | 10 => .array .int
  | 11 => .int
  | 12 => .int
  | 13 => .int
  | 14 => .int
  | 15 => .int
  | 16 => .int
  | 17 => .int
  | 18 => .array .long
  | 19 => .array .boolean
  | 20 => .array .int
  | 21 => .array .boolean
  | 22 => .array .int
  | 23 => .array .int
  | 24 => .array .int
  | 25 => .array .int
  | 26 => .array .long
  | 27 => .array .int
  | 28 => .long
  | 29 => .array .int
  | 30 => .int
  | 31 => .int
  | 32 => .int
  | _ => .int
abbrev wsX100 : List Cond := u_ws RX10 TX10 34
theorem nmX10 : ∀ a, a < 34 → ∀ b, b < 34 → a ≠ b → (TX10 a).2.1 ≠ (TX10 b).2.1 := by decide +kernel
theorem tyX10_ok : ∀ k, k < 34 → parseFieldDescriptor (TX10 k).2.2.1 = some (tyX10 k) := by decide +kernel
abbrev cX10_init : ByteArray := prog_12_method_1_code
def yX10_init : MethodName := ⟨RX10, "<init>", "()V"⟩
abbrev cX10_in : ByteArray := prog_12_method_3_code
def yX10_in : MethodName := ⟨RX10, "in", "(JJJ)Z"⟩
abbrev cX10_one : ByteArray := prog_12_method_4_code
def yX10_one : MethodName := ⟨RX10, "one", "(Z)I"⟩
abbrev cX10_has : ByteArray := prog_12_method_5_code
def yX10_has : MethodName := ⟨RX10, "has", "(JI)Z"⟩
abbrev cX10_ones : ByteArray := prog_12_method_6_code
def yX10_ones : MethodName := ⟨RX10, "ones", "(I)I"⟩
abbrev cX10_untold : ByteArray := prog_12_method_7_code
def yX10_untold : MethodName := ⟨RX10, "untold", "(I)I"⟩
abbrev cX10_begin : ByteArray := prog_12_method_8_code
def yX10_begin : MethodName := ⟨RX10, "begin", "()V"⟩
abbrev cX10_feed : ByteArray := prog_12_method_9_code
def yX10_feed : MethodName := ⟨RX10, "feed", "(IJ)I"⟩
abbrev cX10_here : ByteArray := prog_12_method_10_code
def yX10_here : MethodName := ⟨RX10, "here", "()I"⟩
abbrev cX10_want : ByteArray := prog_12_method_11_code
def yX10_want : MethodName := ⟨RX10, "want", "(ZII)Z"⟩
abbrev cX10_takeWord : ByteArray := prog_12_method_12_code
def yX10_takeWord : MethodName := ⟨RX10, "takeWord", "()V"⟩
abbrev cX10_isWord : ByteArray := prog_12_method_13_code
def yX10_isWord : MethodName := ⟨RX10, "isWord", "(IIIIII)Z"⟩
abbrev cX10_takeNumber : ByteArray := prog_12_method_14_code
def yX10_takeNumber : MethodName := ⟨RX10, "takeNumber", "(II)I"⟩
abbrev cX10_kindHere : ByteArray := prog_12_method_15_code
def yX10_kindHere : MethodName := ⟨RX10, "kindHere", "()I"⟩
abbrev cX10_leastOf : ByteArray := prog_12_method_16_code
def yX10_leastOf : MethodName := ⟨RX10, "leastOf", "(I)I"⟩
abbrev cX10_mostOf : ByteArray := prog_12_method_17_code
def yX10_mostOf : MethodName := ⟨RX10, "mostOf", "(I)I"⟩
abbrev cX10_takeClause : ByteArray := prog_12_method_18_code
def yX10_takeClause : MethodName := ⟨RX10, "takeClause", "()V"⟩
abbrev cX10_takeEnd : ByteArray := prog_12_method_19_code
def yX10_takeEnd : MethodName := ⟨RX10, "takeEnd", "()V"⟩
abbrev cX10_beginReading : ByteArray := prog_12_method_20_code
def yX10_beginReading : MethodName := ⟨RX10, "beginReading", "()V"⟩
abbrev cX10_box : ByteArray := prog_12_method_21_code
def yX10_box : MethodName := ⟨RX10, "box", "()I"⟩
abbrev cX10_day : ByteArray := prog_12_method_22_code
def yX10_day : MethodName := ⟨RX10, "day", "()I"⟩
abbrev cX10_fault : ByteArray := prog_12_method_23_code
def yX10_fault : MethodName := ⟨RX10, "fault", "()I"⟩
abbrev cX10_told : ByteArray := prog_12_method_24_code
def yX10_told : MethodName := ⟨RX10, "told", "(I)I"⟩
abbrev cX10_opening : ByteArray := prog_12_method_25_code
def yX10_opening : MethodName := ⟨RX10, "opening", "(II)I"⟩
abbrev cX10_copy : ByteArray := prog_12_method_26_code
def yX10_copy : MethodName := ⟨RX10, "copy", "(II)V"⟩
abbrev cX10_freshen : ByteArray := prog_12_method_27_code
def yX10_freshen : MethodName := ⟨RX10, "freshen", "(I)V"⟩
abbrev cX10_tryFresh : ByteArray := prog_12_method_28_code
def yX10_tryFresh : MethodName := ⟨RX10, "tryFresh", "(I)V"⟩
abbrev cX10_capOf : ByteArray := prog_12_method_29_code
def yX10_capOf : MethodName := ⟨RX10, "capOf", "(II)J"⟩
abbrev cX10_warm : ByteArray := prog_12_method_30_code
def yX10_warm : MethodName := ⟨RX10, "warm", "(II)J"⟩
abbrev cX10_isOpen : ByteArray := prog_12_method_31_code
def yX10_isOpen : MethodName := ⟨RX10, "isOpen", "(J)Z"⟩
abbrev cX10_isHour : ByteArray := prog_12_method_32_code
def yX10_isHour : MethodName := ⟨RX10, "isHour", "(JII)Z"⟩
abbrev cX10_findFlows : ByteArray := prog_12_method_33_code
def yX10_findFlows : MethodName := ⟨RX10, "findFlows", "(IJJ)V"⟩
abbrev cX10_wet : ByteArray := prog_12_method_34_code
def yX10_wet : MethodName := ⟨RX10, "wet", "(IJ)V"⟩
abbrev cX10_readBulb : ByteArray := prog_12_method_35_code
def yX10_readBulb : MethodName := ⟨RX10, "readBulb", "(III)V"⟩
abbrev cX10_moves : ByteArray := prog_12_method_36_code
def yX10_moves : MethodName := ⟨RX10, "moves", "(IJ)J"⟩
abbrev cX10_tick : ByteArray := prog_12_method_37_code
def yX10_tick : MethodName := ⟨RX10, "tick", "(IZII)V"⟩
abbrev cX10_go : ByteArray := prog_12_method_38_code
def yX10_go : MethodName := ⟨RX10, "go", "(II)V"⟩
abbrev cX10_isSet : ByteArray := prog_12_method_39_code
def yX10_isSet : MethodName := ⟨RX10, "isSet", "(I)Z"⟩
abbrev cX10_isTrouble : ByteArray := prog_12_method_40_code
def yX10_isTrouble : MethodName := ⟨RX10, "isTrouble", "(I)Z"⟩
abbrev cX10_trouble : ByteArray := prog_12_method_41_code
def yX10_trouble : MethodName := ⟨RX10, "trouble", "(I)I"⟩
abbrev cX10_fresh : ByteArray := prog_12_method_42_code
def yX10_fresh : MethodName := ⟨RX10, "fresh", "()I"⟩
abbrev cX10_current : ByteArray := prog_12_method_43_code
def yX10_current : MethodName := ⟨RX10, "current", "(Z)I"⟩
abbrev cX10_cover : ByteArray := prog_12_method_44_code
def yX10_cover : MethodName := ⟨RX10, "cover", "(Z)I"⟩
abbrev cX10_isShelf : ByteArray := prog_12_method_45_code
def yX10_isShelf : MethodName := ⟨RX10, "isShelf", "(I)Z"⟩
abbrev cX10_isFood : ByteArray := prog_12_method_46_code
def yX10_isFood : MethodName := ⟨RX10, "isFood", "(I)Z"⟩
abbrev cX10_foods : ByteArray := prog_12_method_47_code
def yX10_foods : MethodName := ⟨RX10, "foods", "()I"⟩
abbrev cX10_isDegree : ByteArray := prog_12_method_48_code
def yX10_isDegree : MethodName := ⟨RX10, "isDegree", "(I)Z"⟩
abbrev cX10_put : ByteArray := prog_12_method_49_code
def yX10_put : MethodName := ⟨RX10, "put", "(IIIII)I"⟩
abbrev cX10_take : ByteArray := prog_12_method_50_code
def yX10_take : MethodName := ⟨RX10, "take", "(I)I"⟩
abbrev cX10_lay : ByteArray := prog_12_method_51_code
def yX10_lay : MethodName := ⟨RX10, "lay", "(II)I"⟩
abbrev cX10_isWithin : ByteArray := prog_12_method_52_code
def yX10_isWithin : MethodName := ⟨RX10, "isWithin", "(II)Z"⟩
abbrev cX10_food : ByteArray := prog_12_method_53_code
def yX10_food : MethodName := ⟨RX10, "food", "(II)I"⟩
abbrev cX10_run : ByteArray := prog_12_method_54_code
def yX10_run : MethodName := ⟨RX10, "run", "(I)I"⟩
abbrev cX10_draw : ByteArray := prog_12_method_55_code
def yX10_draw : MethodName := ⟨RX10, "draw", "(I)I"⟩
abbrev cX10_drawDay : ByteArray := prog_12_method_56_code
def yX10_drawDay : MethodName := ⟨RX10, "drawDay", "(I)V"⟩
abbrev cX10_drawn : ByteArray := prog_12_method_57_code
def yX10_drawn : MethodName := ⟨RX10, "drawn", "(II)I"⟩
abbrev cX10_warmth : ByteArray := prog_12_method_58_code
def yX10_warmth : MethodName := ⟨RX10, "warmth", "(I)I"⟩
abbrev cX10_heat : ByteArray := prog_12_method_59_code
def yX10_heat : MethodName := ⟨RX10, "heat", "(I)J"⟩
abbrev cX10_count : ByteArray := prog_12_method_60_code
def yX10_count : MethodName := ⟨RX10, "count", "(I)I"⟩
abbrev cX10_melt : ByteArray := prog_12_method_61_code
def yX10_melt : MethodName := ⟨RX10, "melt", "(I)I"⟩
abbrev cX10_thaw : ByteArray := prog_12_method_62_code
def yX10_thaw : MethodName := ⟨RX10, "thaw", "()I"⟩
abbrev cX10_signOf : ByteArray := prog_12_method_63_code
def yX10_signOf : MethodName := ⟨RX10, "signOf", "(I)I"⟩
abbrev cX10_findSigns : ByteArray := prog_12_method_64_code
def yX10_findSigns : MethodName := ⟨RX10, "findSigns", "(II)V"⟩
abbrev cX10_isSign : ByteArray := prog_12_method_65_code
def yX10_isSign : MethodName := ⟨RX10, "isSign", "(I)Z"⟩
abbrev cX10_areDays : ByteArray := prog_12_method_66_code
def yX10_areDays : MethodName := ⟨RX10, "areDays", "(I)Z"⟩
abbrev cX10_sign : ByteArray := prog_12_method_67_code
def yX10_sign : MethodName := ⟨RX10, "sign", "(III)I"⟩
abbrev cX10_seens : ByteArray := prog_12_method_68_code
def yX10_seens : MethodName := ⟨RX10, "seens", "()I"⟩
abbrev cX10_seen : ByteArray := prog_12_method_69_code
def yX10_seen : MethodName := ⟨RX10, "seen", "(III)I"⟩
abbrev cX10_forget : ByteArray := prog_12_method_70_code
def yX10_forget : MethodName := ⟨RX10, "forget", "()I"⟩
abbrev cX10_prior : ByteArray := prog_12_method_71_code
def yX10_prior : MethodName := ⟨RX10, "prior", "(II)I"⟩
abbrev cX10_bother : ByteArray := prog_12_method_72_code
def yX10_bother : MethodName := ⟨RX10, "bother", "(II)I"⟩
abbrev cX10_couldBe : ByteArray := prog_12_method_73_code
def yX10_couldBe : MethodName := ⟨RX10, "couldBe", "(I)Z"⟩
abbrev cX10_weightOf : ByteArray := prog_12_method_74_code
def yX10_weightOf : MethodName := ⟨RX10, "weightOf", "(I)J"⟩
abbrev cX10_weigh : ByteArray := prog_12_method_75_code
def yX10_weigh : MethodName := ⟨RX10, "weigh", "(I)V"⟩
abbrev cX10_oddsOf : ByteArray := prog_12_method_76_code
def yX10_oddsOf : MethodName := ⟨RX10, "oddsOf", "(I)I"⟩
abbrev cX10_odds : ByteArray := prog_12_method_77_code
def yX10_odds : MethodName := ⟨RX10, "odds", "(II)I"⟩
abbrev cX10_each : ByteArray := prog_12_method_78_code
def yX10_each : MethodName := ⟨RX10, "each", "(II)I"⟩
abbrev cX10_tellsOf : ByteArray := prog_12_method_79_code
def yX10_tellsOf : MethodName := ⟨RX10, "tellsOf", "(I)I"⟩
abbrev cX10_tells : ByteArray := prog_12_method_80_code
def yX10_tells : MethodName := ⟨RX10, "tells", "(II)I"⟩
abbrev cX10_next : ByteArray := prog_12_method_81_code
def yX10_next : MethodName := ⟨RX10, "next", "(I)I"⟩
abbrev cX10_makes : ByteArray := prog_12_method_82_code
def yX10_makes : MethodName := ⟨RX10, "makes", "(II)I"⟩
abbrev cX10_mending : ByteArray := prog_12_method_83_code
def yX10_mending : MethodName := ⟨RX10, "mending", "(II)I"⟩
abbrev cX10_price : ByteArray := prog_12_method_84_code
def yX10_price : MethodName := ⟨RX10, "price", "(I)I"⟩
abbrev cX10_yearOf : ByteArray := prog_12_method_85_code
def yX10_yearOf : MethodName := ⟨RX10, "yearOf", "(I)I"⟩
abbrev cX10_year : ByteArray := prog_12_method_86_code
def yX10_year : MethodName := ⟨RX10, "year", "(I)I"⟩
abbrev cX10_saves : ByteArray := prog_12_method_87_code
def yX10_saves : MethodName := ⟨RX10, "saves", "(II)I"⟩
abbrev cX10_best : ByteArray := prog_12_method_88_code
def yX10_best : MethodName := ⟨RX10, "best", "(III)I"⟩
abbrev cX10_pays : ByteArray := prog_12_method_89_code
def yX10_pays : MethodName := ⟨RX10, "pays", "(III)I"⟩
abbrev cX10_iceOf : ByteArray := prog_12_method_90_code
def yX10_iceOf : MethodName := ⟨RX10, "iceOf", "(IIII)J"⟩
abbrev cX10_ice : ByteArray := prog_12_method_91_code
def yX10_ice : MethodName := ⟨RX10, "ice", "(III)I"⟩
abbrev cX10_within : ByteArray := prog_12_method_92_code
def yX10_within : MethodName := ⟨RX10, "within", "(I)I"⟩
abbrev cX10_powerOf3 : ByteArray := prog_12_method_93_code
def yX10_powerOf3 : MethodName := ⟨RX10, "powerOf3", "(I)I"⟩
abbrev cX10_rowAt : ByteArray := prog_12_method_94_code
def yX10_rowAt : MethodName := ⟨RX10, "rowAt", "(III)I"⟩
abbrev cX10_placeOf : ByteArray := prog_12_method_95_code
def yX10_placeOf : MethodName := ⟨RX10, "placeOf", "(I)I"⟩
abbrev cX10_lying : ByteArray := prog_12_method_96_code
def yX10_lying : MethodName := ⟨RX10, "lying", "(I)I"⟩
abbrev cX10_bulb : ByteArray := prog_12_method_97_code
def yX10_bulb : MethodName := ⟨RX10, "bulb", "(I)I"⟩
abbrev cX10_without : ByteArray := prog_12_method_98_code
def yX10_without : MethodName := ⟨RX10, "without", "(I)I"⟩
abbrev cX10_cheap : ByteArray := prog_12_method_99_code
def yX10_cheap : MethodName := ⟨RX10, "cheap", "(III)I"⟩
abbrev cX10_paid : ByteArray := prog_12_method_100_code
def yX10_paid : MethodName := ⟨RX10, "paid", "(II)J"⟩
abbrev cX10_store : ByteArray := prog_12_method_101_code
def yX10_store : MethodName := ⟨RX10, "store", "(II)I"⟩
abbrev cX10_seed : ByteArray := prog_12_method_102_code
def yX10_seed : MethodName := ⟨RX10, "seed", "(I)I"⟩
abbrev cX10_keep : ByteArray := prog_12_method_103_code
def yX10_keep : MethodName := ⟨RX10, "keep", "(I)I"⟩
abbrev cX10_goBack : ByteArray := prog_12_method_104_code
def yX10_goBack : MethodName := ⟨RX10, "goBack", "(I)I"⟩
def RJ6 : String := "java/lang/Integer"
abbrev cJ6_bitCount_0f7a4 : ByteArray := prog_13_method_49_code
def yJ6_bitCount_0f7a4 : MethodName := ⟨RJ6, "bitCount", "(I)I"⟩
def RJ9 : String := "java/lang/Math"
abbrev cJ9_abs_0f7a4 : ByteArray := prog_14_method_59_code
def yJ9_abs_0f7a4 : MethodName := ⟨RJ9, "abs", "(I)I"⟩
abbrev cJ9_max_7cf53 : ByteArray := prog_14_method_65_code
def yJ9_max_7cf53 : MethodName := ⟨RJ9, "max", "(II)I"⟩
abbrev cJ9_min_7cf53 : ByteArray := prog_14_method_69_code
def yJ9_min_7cf53 : MethodName := ⟨RJ9, "min", "(II)I"⟩
def RJ0 : String := "java/lang/String"
abbrev cJ0_length_8abf5 : ByteArray := prog_15_method_54_code
def yJ0_length_8abf5 : MethodName := ⟨RJ0, "length", "()I"⟩
abbrev cJ0_charAt_5068e : ByteArray := prog_15_method_56_code
def yJ0_charAt_5068e : MethodName := ⟨RJ0, "charAt", "(I)C"⟩
abbrev cJ0_coder_7d493 : ByteArray := prog_15_method_152_code
def yJ0_coder_7d493 : MethodName := ⟨RJ0, "coder", "()B"⟩
abbrev cJ0_isLatin1_aae02 : ByteArray := prog_15_method_154_code
def yJ0_isLatin1_aae02 : MethodName := ⟨RJ0, "isLatin1", "()Z"⟩
abbrev cJ0_checkIndex_df160 : ByteArray := prog_15_method_155_code
def yJ0_checkIndex_df160 : MethodName := ⟨RJ0, "checkIndex", "(II)V"⟩
def RJ1 : String := "java/lang/StringLatin1"
abbrev cJ1_charAt_3b067 : ByteArray := prog_16_method_2_code
def yJ1_charAt_3b067 : MethodName := ⟨RJ1, "charAt", "([BI)C"⟩
def RJ2 : String := "java/lang/StringUTF16"
abbrev cJ2_getChar_3b067 : ByteArray := prog_17_method_5_code
def yJ2_getChar_3b067 : MethodName := ⟨RJ2, "getChar", "([BI)C"⟩
abbrev cJ2_length_9d52b : ByteArray := prog_17_method_6_code
def yJ2_length_9d52b : MethodName := ⟨RJ2, "length", "([B)I"⟩
abbrev cJ2_charAt_3b067 : ByteArray := prog_17_method_83_code
def yJ2_charAt_3b067 : MethodName := ⟨RJ2, "charAt", "([BI)C"⟩
abbrev cJ2_checkIndex_2214a : ByteArray := prog_17_method_91_code
def yJ2_checkIndex_2214a : MethodName := ⟨RJ2, "checkIndex", "(I[B)V"⟩
def RJ10 : String := "java/lang/System"
def RJ7 : String := "java/util/Arrays"
abbrev cJ7_fill_d0a16 : ByteArray := prog_19_method_101_code
def yJ7_fill_d0a16 : MethodName := ⟨RJ7, "fill", "([JJ)V"⟩
abbrev cJ7_fill_53178 : ByteArray := prog_19_method_103_code
def yJ7_fill_53178 : MethodName := ⟨RJ7, "fill", "([II)V"⟩
def RJ3 : String := "jdk/internal/util/Preconditions"
abbrev cJ3_checkIndex_8e157 : ByteArray := prog_20_method_11_code
def yJ3_checkIndex_8e157 : MethodName := ⟨RJ3, "checkIndex", "(IILjava/util/function/BiFunction;)I"⟩
def RL : String := "ColdBoxLaw"
abbrev cL_law : ByteArray := code
def yL_law : MethodName := ⟨RL, "law", "([I)Z"⟩
abbrev vwCl : List vw_C := [(RX0, TX0, 1), (RX1, TX1, 4), (RX2, TX2, 8), (RX3, TX3, 4), (RX4, TX4, 3), (RX5, TX5, 10), (RX6, TX6, 14), (RX7, TX7, 4), (RX8, TX8, 9), (RX9, TX9, 13), (RX10, TX10, 34)]
end
section
/-! ===== CORE: worlds by numbers from one base on; a method's walk over (shapes, ints, longs) ===== -/
abbrev Mr : Type := MethodName × ByteArray × Nat × Option FieldType × Room
abbrev yn (y : Mr) : MethodName := y.1
abbrev yc (y : Mr) : ByteArray := y.2.1
abbrev yl (y : Mr) : Nat := y.2.2.1
abbrev yr (y : Mr) : Option FieldType := y.2.2.2.1
abbrev yR (y : Mr) : Room := y.2.2.2.2
def isNst : Cond → Bool
  | .fieldLinkNest .. => true
  | .methodLinkNest .. => true
  | _ => false
def TB : List Cond := lw_tbl.filter goodWord
def NB : List Cond := tables_1.filter isNst
theorem tb_of {w : Cond} (h : w ∈ lw_tbl) (g : goodWord w = true) : w ∈ TB := List.mem_filter.mpr ⟨h, g⟩
theorem tb_at {w : Cond} (i : Nat) (h : tables_1[i]? = some w) (g : goodWord w = true) : w ∈ TB := tb_of (List.mem_append_right _ (List.mem_of_getElem? h)) g
theorem tb_sel {w : Cond} (i : Nat) (h : (k2_sels lw_privs)[i]? = some w) (g : goodWord w = true) : w ∈ TB := tb_of (List.mem_append_left _ (List.mem_of_getElem? h)) g
theorem nb_at {w : Cond} (i : Nat) (h : tables_1[i]? = some w) (g : isNst w = true) : w ∈ NB := List.mem_filter.mpr ⟨List.mem_of_getElem? h, g⟩
def wsA (y : Mr) : List Cond := Cond.code (yn y) (yc y) (yl y) (yr y) :: TB
theorem good_ws {y z : Mr} (h : Cond.code (yn z) (yc z) (yl z) (yr z) ∈ TB) : GoodIn (wsA y) (wsA z) := by
  intro w hw
  rcases List.mem_cons.mp hw with rfl | hw
  · exact ⟨List.mem_cons_of_mem _ h, good_of_word (List.mem_filter.mp h).2⟩
  · exact ⟨List.mem_cons_of_mem _ hw, good_of_word (List.mem_filter.mp hw).2⟩
theorem good_TB {z : Mr} (h : Cond.code (yn z) (yc z) (yl z) (yr z) ∈ TB) : GoodIn TB (wsA z) := by
  intro w hw
  rcases List.mem_cons.mp hw with rfl | hw
  · exact ⟨h, good_of_word (List.mem_filter.mp h).2⟩
  · exact ⟨hw, good_of_word (List.mem_filter.mp hw).2⟩
/-- a value at its real address -/
def rl (ad : Nat → Nat) : Value → Value
  | .ref a => .ref (ad a)
  | v => v
/-- the shape of a cell: an array of a type and a length, or an object of a class, by fields: a reference (or null), or a number of a type -/
abbrev Sc : Type := (FieldType × Nat) ⊕ (Nat × List (Option Nat ⊕ FieldType))
abbrev Shp : Type := List Sc
abbrev Iv : Type := Nat → Nat → Int32
abbrev Jv : Type := Nat → Nat → Int64
def fv (ad : Nat → Nat) (x : Option Nat ⊕ FieldType) (i : Int32) (j : Int64) : Value := match x with
  | .inl none => .null
  | .inl (some r) => .ref (ad r)
  | .inr .long => .long j
  | .inr _ => .int i
def fl (ad : Nat → Nat) (f : Nat → Int32) (g : Nat → Int64) : Nat → List (Option Nat ⊕ FieldType) → List Value
  | _, [] => []
  | k, x :: xs => fv ad x (f k) (g k) :: fl ad f g (k + 1) xs
def cE (ad : Nat → Nat) (ca : FieldType → ClassId) (c : Sc) (f : Nat → Int32) (g : Nat → Int64) : va_E := match c with
  | .inl (.long, n) => .inl (ca .long, n, .inr (.inl g))
  | .inl (ty, n) => .inl (ca ty, n, .inl f)
  | .inr (ci, fs) => .inr (ci, fl ad f g 0 fs)
def wlf (ad : Nat → Nat) (ca : FieldType → ClassId) (I : Iv) (J : Jv) : Nat → Shp → va_W
  | _, [] => []
  | k, c :: cs => (ad k, cE ad ca c (I k) (J k)) :: wlf ad ca I J (k + 1) cs
abbrev wl (ad : Nat → Nat) (ca : FieldType → ClassId) (S : Shp) (I : Iv) (J : Jv) : va_W := wlf ad ca I J 0 S
theorem fl_at {ad : Nat → Nat} {f : Nat → Int32} {g : Nat → Int64} : ∀ (fs : List (Option Nat ⊕ FieldType)) (k j : Nat) (x : Option Nat ⊕ FieldType), fs[j]? = some x → (fl ad f g k fs)[j]? = some (fv ad x (f (k + j)) (g (k + j)))
  | [], _, _, _, h => by simp at h
  | y :: ys, k, 0, x, h => by
    simp only [List.getElem?_cons_zero, Option.some.injEq] at h
    subst h
    simp [fl]
  | y :: ys, k, j + 1, x, h => by
    simp only [List.getElem?_cons_succ] at h
    have := fl_at (ad := ad) (f := f) (g := g) ys (k + 1) j x h
    simp only [fl, List.getElem?_cons_succ, this]
    rw [show k + 1 + j = k + (j + 1) by omega]
theorem fl_len {ad : Nat → Nat} {f : Nat → Int32} {g : Nat → Int64} : ∀ (fs : List (Option Nat ⊕ FieldType)) (k : Nat), (fl ad f g k fs).length = fs.length
  | [], _ => rfl
  | y :: ys, k => by simp [fl, fl_len ys (k + 1)]
theorem wlf_at {ad : Nat → Nat} {ca : FieldType → ClassId} {I : Iv} {J : Jv} : ∀ (S : Shp) (k j : Nat) (c : Sc), S[j]? = some c → (wlf ad ca I J k S)[j]? = some (ad (k + j), cE ad ca c (I (k + j)) (J (k + j)))
  | [], _, _, _, h => by simp at h
  | y :: ys, k, 0, x, h => by
    simp only [List.getElem?_cons_zero, Option.some.injEq] at h
    subst h
    simp [wlf]
  | y :: ys, k, j + 1, x, h => by
    simp only [List.getElem?_cons_succ] at h
    have := wlf_at (ad := ad) (ca := ca) (I := I) (J := J) ys (k + 1) j x h
    simp only [wlf, List.getElem?_cons_succ, this]
    rw [show k + 1 + j = k + (j + 1) by omega]
theorem wlf_len {ad : Nat → Nat} {ca : FieldType → ClassId} {I : Iv} {J : Jv} : ∀ (S : Shp) (k : Nat), (wlf ad ca I J k S).length = S.length
  | [], _ => rfl
  | y :: ys, k => by simp [wlf, wlf_len ys (k + 1)]
theorem wl_at {ad : Nat → Nat} {ca : FieldType → ClassId} {S : Shp} {I : Iv} {J : Jv} {j : Nat} {c : Sc} (h : S[j]? = some c) : (wl ad ca S I J)[j]? = some (ad j, cE ad ca c (I j) (J j)) := by
  have := wlf_at (ad := ad) (ca := ca) (I := I) (J := J) S 0 j c h
  simpa using this
/-- one number stored -/
def wI (I : Iv) (a i : Nat) (v : Int32) : Iv := fun b j => if b = a ∧ j = i then v else I b j
def wJ (J : Jv) (a i : Nat) (v : Int64) : Jv := fun b j => if b = a ∧ j = i then v else J b j
theorem wI_self {I : Iv} {a i : Nat} {v : Int32} : wI I a i v a i = v := by simp [wI]
theorem wJ_self {J : Jv} {a i : Nat} {v : Int64} : wJ J a i v a i = v := by simp [wJ]
theorem wI_ne {I : Iv} {a i b j : Nat} {v : Int32} (h : b ≠ a ∨ j ≠ i) : wI I a i v b j = I b j := by
  simp only [wI]; rw [if_neg]; rintro ⟨h1, h2⟩; rcases h with h | h <;> contradiction
theorem wJ_ne {J : Jv} {a i b j : Nat} {v : Int64} (h : b ≠ a ∨ j ≠ i) : wJ J a i v b j = J b j := by
  simp only [wJ]; rw [if_neg]; rintro ⟨h1, h2⟩; rcases h with h | h <;> contradiction
theorem wI_row {I : Iv} {a i b : Nat} {v : Int32} (h : b ≠ a) : wI I a i v b = I b := by
  funext j; exact wI_ne (Or.inl h)
theorem wJ_row {J : Jv} {a i b : Nat} {v : Int64} (h : b ≠ a) : wJ J a i v b = J b := by
  funext j; exact wJ_ne (Or.inl h)
/-- the world's list with one cell set -/
theorem wlf_set {ad : Nat → Nat} {ca : FieldType → ClassId} {I I' : Iv} {J J' : Jv} {c' : Sc} : ∀ (S : Shp) (k j : Nat), (∀ b, b ≠ k + j → I' b = I b) → (∀ b, b ≠ k + j → J' b = J b) →
    (wlf ad ca I J k S).set j (ad (k + j), cE ad ca c' (I' (k + j)) (J' (k + j))) = wlf ad ca I' J' k (S.set j c')
  | [], _, _, _, _ => rfl
  | y :: ys, k, 0, h1, h2 => by
    simp only [wlf, List.set_cons_zero, Nat.add_zero]
    congr 1
    have go : ∀ (S : Shp) (m : Nat), k < m → wlf ad ca I J m S = wlf ad ca I' J' m S := by
      intro S
      induction S with
      | nil => intro m _; rfl
      | cons z zs ih =>
        intro m hm
        simp only [wlf]
        rw [h1 m (by omega), h2 m (by omega), ih (m + 1) (by omega)]
    exact go ys (k + 1) (by omega)
  | y :: ys, k, j + 1, h1, h2 => by
    simp only [wlf, List.set_cons_succ]
    have e : k + (j + 1) = k + 1 + j := by omega
    rw [h1 k (by omega), h2 k (by omega), e, wlf_set ys (k + 1) j (fun b hb => h1 b (by omega)) (fun b hb => h2 b (by omega))]
theorem wl_set {ad : Nat → Nat} {ca : FieldType → ClassId} {S : Shp} {I I' : Iv} {J J' : Jv} {j : Nat} {c' : Sc} (h1 : ∀ b, b ≠ j → I' b = I b) (h2 : ∀ b, b ≠ j → J' b = J b) :
    (wl ad ca S I J).set j (ad j, cE ad ca c' (I' j) (J' j)) = wl ad ca (S.set j c') I' J' := by
  have := wlf_set (ad := ad) (ca := ca) (I := I) (I' := I') (J := J) (J' := J') (c' := c') S 0 j (by simpa using h1) (by simpa using h2)
  simpa using this
theorem list_set_same {α : Type} {S : List α} {j : Nat} {c : α} (h : S[j]? = some c) : S.set j c = S := by
  apply List.ext_getElem?
  intro i
  by_cases hi : i = j
  · subst hi
    rw [List.getElem?_set_self (List.getElem?_eq_some_iff.mp h).1, h]
  · rw [List.getElem?_set_ne (Ne.symm hi)]
theorem wl_push {ad : Nat → Nat} {ca : FieldType → ClassId} {I : Iv} {J : Jv} {c : Sc} : ∀ (S : Shp) (k : Nat), wlf ad ca I J k (S ++ [c]) = wlf ad ca I J k S ++ [(ad (k + S.length), cE ad ca c (I (k + S.length)) (J (k + S.length)))]
  | [], k => by simp [wlf]
  | y :: ys, k => by
    simp only [List.cons_append, wlf, wl_push ys (k + 1), List.length_cons]
    rw [show k + 1 + ys.length = k + (ys.length + 1) by omega]
theorem wlf_tail {ad : Nat → Nat} {ca : FieldType → ClassId} {I I' : Iv} {J J' : Jv} : ∀ (S : Shp) (k : Nat), (∀ b, k ≤ b → b < k + S.length → I' b = I b ∧ J' b = J b) → wlf ad ca I' J' k S = wlf ad ca I J k S
  | [], _, _ => rfl
  | y :: ys, k, h => by
    simp only [wlf]
    have h0 := h k (Nat.le_refl k) (by simp)
    rw [h0.1, h0.2, wlf_tail ys (k + 1) (fun b h1 h2 => h b (by omega) (by simp at h2 ⊢; omega))]
/-- addresses: from ad 0 on, one behind the other -/
def adC (ad : Nat → Nat) : Prop := ∀ k, k < 1000000 → ad k = ad 0 + k
theorem wlf_addr {ad : Nat → Nat} {ca : FieldType → ClassId} {I : Iv} {J : Jv} : ∀ (S : Shp) (k j : Nat) (q : Nat × va_E), (wlf ad ca I J k S)[j]? = some q → q.1 = ad (k + j) ∧ j < S.length
  | [], _, _, _, h => by simp [wlf] at h
  | y :: ys, k, 0, q, h => by
    simp only [wlf, List.getElem?_cons_zero, Option.some.injEq] at h
    subst h
    simp
  | y :: ys, k, j + 1, q, h => by
    simp only [wlf, List.getElem?_cons_succ] at h
    have := wlf_addr ys (k + 1) j q h
    rw [show k + (j + 1) = k + 1 + j by omega]
    simp
    exact this
theorem wl_D {ad : Nat → Nat} {ca : FieldType → ClassId} {S : Shp} {I : Iv} {J : Jv} (hc : adC ad) (hS : S.length ≤ 1000000) : va_D (fun q => ad 0 ≤ q) (wl ad ca S I J) := by
  refine ⟨fun i j p q hi hj h => ?_, fun k q hq => ?_⟩
  · have h1 := wlf_addr S 0 i p hi
    have h2 := wlf_addr S 0 j q hj
    simp only [Nat.zero_add] at h1 h2
    have e1 := hc i (by omega)
    have e2 := hc j (by omega)
    omega
  · have h1 := wlf_addr S 0 k q hq
    simp only [Nat.zero_add] at h1
    have e1 := hc k (by omega)
    show ad 0 ≤ q.1
    omega
/-- the types of arrays that there are -/
def tyl (ca : FieldType → ClassId) : List (ClassId × FieldType) := [(ca .int, .int), (ca .long, .long), (ca .boolean, .boolean), (ca .char, .char)]
/-- numbers that fit their types -/
def wbC (c : Sc) (f : Nat → Int32) : Prop := match c with
  | .inl (.boolean, _) => ∀ j, f j = 0 ∨ f j = 1
  | .inl (.char, _) => ∀ j, fits .char (.int (f j)) = true
  | .inr (_, fs) => ∀ k, fs[k]? = some (.inr .boolean) → f k = 0 ∨ f k = 1
  | _ => True
def wb (S : Shp) (I : Iv) : Prop := ∀ a c, S[a]? = some c → wbC c (I a)
end
section
/-! ===== statics and Strings that nobody writes; a method's context; its walk; its contract ===== -/
abbrev aA (ad : Nat → Nat) : Nat → Prop := fun q => ad 0 ≤ q
def stI : List (String × List Int32) := [("UNTOLD", [900, 4, 3, 40, 60, 10, 70, 30, 1, 10, 4, 200, -1, -1, 0]), ("LEAST", [1, 0, 0, 0, 0, 1, 0, 0, 0, 1, 0, 0, 0, 0, 0]), ("MOST", [999, 99, 99, 99, 99, 99, 200, 200, 2, 99, 99, 400, 24, 24, 200]), ("COULD_BE", [0, 1, 2, 4, 8, 16, 32, 64, 3, 5, 9, 17, 33, 65, 6, 10, 18, 34, 66, 12, 20, 36, 68, 24, 40, 72, 48, 80, 96])]
def stS : List (Nat × String × List Int32) := [(122, "power", [112, 111, 119, 101, 114]), (124, "wall", [119, 97, 108, 108]), (126, "seal", [115, 101, 97, 108]), (128, "mix", [109, 105, 120]), (130, "cold", [99, 111, 108, 100]), (132, "food", [102, 111, 111, 100]), (134, "on", [111, 110]), (136, "off", [111, 102, 102]), (138, "bulb", [98, 117, 108, 98]), (140, "use", [117, 115, 101]), (142, "lamp", [108, 97, 109, 112]), (144, "room", [114, 111, 111, 109]), (146, "stove", [115, 116, 111, 118, 101]), (96, "open", [111, 112, 101, 110])]
def Stt (ad : Nat → Nat) (s : State) (H : Heap) : Prop :=
  (∀ j nm vs, stI[j]? = some (nm, vs) → va_Z "ColdBox" nm "[I" (.ref (ad (1000000 + j))) (aA ad) s H ∧ va_T .int (ad (1000000 + j)) vs.length (fun i => .int (vs.getD i 0)) (aA ad) s H) ∧
  vk_S 14 (stS.map fun q => q.2.2.length) (stS.map fun q => q.2.2) (fun i => ad (2000000 + i)) (fun i => ad (3000000 + i)) (aA ad) s H ∧
  (∀ j idx tx b, stS[j]? = some (idx, tx, b) → vk_R "ColdBox$Reader" idx tx (ad (2000000 + j)) s) ∧
  va_Z "java/lang/String" "COMPACT_STRINGS" "Z" (.int 1) (aA ad) s H ∧
  (va_Z "jdk/internal/util/Preconditions" "SIOOBE_FORMATTER" "Ljava/util/function/BiFunction;" .null (aA ad) s H ∨ va_Z "jdk/internal/util/Preconditions" "SIOOBE_FORMATTER" "Ljava/util/function/BiFunction;" (.ref (ad 4000000)) (aA ad) s H)
theorem Stt.warm {ad : Nat → Nat} {s U : State} {H : Heap} (hW : s.WarmedH U.vm) (h : Stt ad s H) : Stt ad U H := by
  obtain ⟨h1, h2, h3, h4, h5⟩ := h
  have hv := hW.alike
  refine ⟨fun j nm vs hj => ⟨va_Z.moved hv (h1 j nm vs hj).1, va_T.moved hv (h1 j nm vs hj).2⟩, vk_S.moved hv h2, fun j idx tx b hj => vk_R.warm hW (h3 j idx tx b hj), va_Z.moved hv h4, ?_⟩
  rcases h5 with h5 | h5
  · exact Or.inl (va_Z.moved hv h5)
  · exact Or.inr (va_Z.moved hv h5)
theorem Stt.kept {ad : Nat → Nat} {s : State} {H H1 : Heap} (h : Stt ad s H) (hq : ∀ a : Nat, a < H.size → ¬ aA ad a → H1[a]? = H[a]?) : Stt ad s H1 := by
  obtain ⟨h1, h2, h3, h4, h5⟩ := h
  refine ⟨fun j nm vs hj => ⟨(h1 j nm vs hj).1.kept hq, (h1 j nm vs hj).2.kept hq⟩, h2.kept hq, h3, h4.kept hq, ?_⟩
  rcases h5 with h5 | h5
  · exact Or.inl (h5.kept hq)
  · exact Or.inr (h5.kept hq)
theorem nb_warm {s U : State} (hW : s.WarmedH U.vm) (h : ∀ w ∈ NB, va_Nw w s) : ∀ w ∈ NB, va_Nw w U := by
  intro w hw
  have h1 := h w hw
  have h2 := (List.mem_filter.mp hw).2
  cases w <;> first | exact va_Nw.warmF hW h1 | exact va_Nw.warmM hW h1 | (simp [isNst] at h2)
def Cx (y : Mr) (p : Program) (s : State) (m : MethodId) (args : Array Value) (meth : Method) (c : Code) (D : va_G) (ca : FieldType → ClassId) (ad : Nat → Nat) : Prop :=
  p.tables.exec = Jvm.exec ∧ c.code = yc y ∧ c.maxLocals = yl y ∧ meth.sig.returnType = yr y ∧ s.vm.findClass (yn y).cls = some m.cls ∧ (∀ w ∈ TB, w.before args s = true) ∧ (∀ w ∈ NB, va_Nw w s) ∧ meth.locks = false ∧ ((yn y).name = "<init>" → meth.name = "<init>") ∧ va_K D vwCl (tyl ca) s ∧ Stt ad s s.heap ∧ adC ad ∧ ad 0 ≤ s.heap.size
def Rp (ad : Nat → Nat) (ca : FieldType → ClassId) (D : va_G) (s : State) (S : Shp) (I : Iv) (J : Jv) (H : Heap) (locs : List Loc) : Prop :=
  H.size = ad 0 + S.length ∧ S.length ≤ 1000000 ∧ va_P D vwCl (wl ad ca S I J) H ∧ va_S (aA ad) s.heap H locs ∧ wb S I
def Bb (D : va_G) (ca : FieldType → ClassId) (ad : Nat → Nat) (S : Shp) (I : Iv) (J : Jv) (U : State) : Prop :=
  U.heap.size = ad 0 + S.length ∧ S.length ≤ 1000000 ∧ va_P D vwCl (wl ad ca S I J) U.heap ∧ va_K D vwCl (tyl ca) U ∧ Stt ad U U.heap ∧ (∀ w ∈ NB, va_Nw w U) ∧ wb S I
theorem Bb.of {y : Mr} {p : Program} {s : State} {m : MethodId} {args : Array Value} {meth : Method} {c : Code} {D : va_G} {ca : FieldType → ClassId} {ad : Nat → Nat} {S : Shp} {I : Iv} {J : Jv} {H : Heap} {locs : List Loc}
    (C : Cx y p s m args meth c D ca ad) (R : Rp ad ca D s S I J H locs) {t : State} (ht : t.heap = H) (hW : s.WarmedH t.vm) : Bb D ca ad S I J t := by
  obtain ⟨-, -, -, -, -, -, hnb, -, -, hK, hSt, -, -⟩ := C
  obtain ⟨h1, h2, h3, h4, h5⟩ := R
  exact ⟨by rw [ht]; exact h1, h2, by rw [ht]; exact h3, va_K.moved hW.alike hK, by rw [ht]; exact (hSt.warm hW).kept h4.2.1, nb_warm hW hnb, h5⟩
abbrev RQt : Type := va_G → (FieldType → ClassId) → (Nat → Nat) → List Frame → Array Value → State → State → Prop
def lpr (ad : Nat → Nat) : Nat → List (Option Value) → List (Nat × Value)
  | _, [] => []
  | k, none :: r => lpr ad (k + 1) r
  | k, some v :: r => (k, rl ad v) :: lpr ad (k + 1) r
def G (y : Mr) (RQ : RQt) (nc ns pc : Nat) (L : List (Option Value)) (st : List Value) (S : Shp) (I : Iv) (J : Jv) : Prop :=
  ∀ (p : Program) (l : Launch) (e : Env) (s : State) (m : MethodId) (args : Array Value) (below : List Frame) (meth : Method) (c : Code) (D : va_G) (ca : FieldType → ClassId) (ad : Nat → Nat) (H : Heap) (locs : List Loc) (ls : Array Slot),
    Cx y p s m args meth c D ca ad → Rp ad ca D s S I J H locs → lv_has ls (yl y) (lpr ad 0 L) → W p l e (yR y) s m args below meth c H locs nc ns (RQ D ca ad below args s) (F0 m pc ls (st.map (rl ad)))
abbrev Post : Type := Option Value → Shp → Iv → Jv → Prop
def Qcx (D : va_G) (ca : FieldType → ClassId) (ad : Nat → Nat) (Q : Post) : Array Value → State → Outcome → State → Prop := fun _ st oc t =>
  (∃ (r : Option Value) (S' : Shp) (I' : Iv) (J' : Jv), oc = .returned (r.map (rl ad)) ∧ Q r S' I' J' ∧ Bb D ca ad S' I' J' t) ∧ va_F (aA ad) st t
def rq (y : Mr) (Q : Post) : RQt := fun D ca ad below args s => MQ below (Qcx D ca ad Q) args s (yR y).cells (yR y).slots (aA ad)
/-- the contract: from the world (S, I, J), with these arguments, y returns, and Q holds of what it answers and of the world then -/
def Ct (y : Mr) (av : List Value) (S : Shp) (I : Iv) (J : Jv) (Q : Post) : Prop :=
  ∀ (l : Launch) (D : va_G) (ca : FieldType → ClassId) (ad : Nat → Nat), adC ad → Met l (yn y) (wsA y) (yR y) (va_Pc (av.map (rl ad)) (Bb D ca ad S I J)) (Qcx D ca ad Q) (yR y).cells (yR y).slots (aA ad)
theorem lpr_mem {ad : Nat → Nat} : ∀ (L : List (Option Value)) (k : Nat) (q : Nat × Value), q ∈ lpr ad k L ↔ ∃ (j : Nat) (v : Value), q.1 = k + j ∧ L[j]? = some (some v) ∧ q.2 = rl ad v
  | [], k, q => by simp [lpr]
  | none :: r, k, q => by
    rw [lpr, lpr_mem r (k + 1) q]
    constructor
    · rintro ⟨j, v, h1, h2, h3⟩
      exact ⟨j + 1, v, by omega, by simpa using h2, h3⟩
    · rintro ⟨j, v, h1, h2, h3⟩
      cases j with
      | zero => simp at h2
      | succ j => exact ⟨j, v, by omega, by simpa using h2, h3⟩
  | some w :: r, k, q => by
    rw [lpr, List.mem_cons, lpr_mem r (k + 1) q]
    constructor
    · rintro (rfl | ⟨j, v, h1, h2, h3⟩)
      · exact ⟨0, w, by simp, by simp, rfl⟩
      · exact ⟨j + 1, v, by omega, by simpa using h2, h3⟩
    · rintro ⟨j, v, h1, h2, h3⟩
      cases j with
      | zero =>
        simp at h2
        subst h2
        left
        exact Prod.ext (by simpa using h1) h3
      | succ j => exact Or.inr ⟨j, v, by omega, by simpa using h2, h3⟩
theorem lp_at {ad : Nat → Nat} {ls : Array Slot} {nL : Nat} {L : List (Option Value)} (h : lv_has ls nL (lpr ad 0 L)) {i : Nat} {v : Value} (hi : L[i]? = some (some v)) : ls[i]? = some (.val (rl ad v)) :=
  h.2.2 (i, rl ad v) ((lpr_mem L 0 _).mpr ⟨i, v, by simp, hi, rfl⟩)
theorem rl_cat (ad : Nat → Nat) (v : Value) : (rl ad v).category = v.category := by cases v <;> rfl
theorem rl_cats (ad : Nat → Nat) (st : List Value) : ((st.map (rl ad)).map fun v => v.category).sum = (st.map fun v => v.category).sum := by
  induction st with
  | nil => rfl
  | cons x xs ih => simp only [List.map_cons, List.sum_cons, ih, rl_cat]
/-- locals behind a store -/
def kl2 (L : List (Option Value)) (i : Nat) : List (Option Value) := match i with
  | 0 => L
  | j + 1 => match L[j]? with
    | some (some w) => if w.category = 2 then L.set j none else L
    | _ => L
def ls1 (L : List (Option Value)) (i : Nat) (v : Value) : List (Option Value) := (kl2 L i).set i (some v)
def ls2 (L : List (Option Value)) (i : Nat) (v : Value) : List (Option Value) := ((kl2 L i).set (i + 1) none).set i (some v)
theorem kl2_at {L : List (Option Value)} {i j : Nat} {w : Value} (h : (kl2 L i)[j]? = some (some w)) : L[j]? = some (some w) ∧ ¬ (j + 1 = i ∧ w.category = 2) := by
  cases i with
  | zero => exact ⟨h, by omega⟩
  | succ i =>
    simp only [kl2] at h
    split at h
    next w' hw' =>
      split at h
      next hc =>
        by_cases hj : j = i
        · subst hj
          rw [List.getElem?_set_self (List.getElem?_eq_some_iff.mp hw').1] at h
          simp at h
        · rw [List.getElem?_set_ne (Ne.symm hj)] at h
          exact ⟨h, fun q => hj (by omega)⟩
      next hc =>
        refine ⟨h, fun q => ?_⟩
        have : j = i := by omega
        subst this
        rw [hw'] at h
        simp at h
        subst h
        exact hc q.2
    next hx =>
      refine ⟨h, fun q => ?_⟩
      have : j = i := by omega
      subst this
      exact hx _ h
theorem lp_st1 {ad : Nat → Nat} {ls' : Array Slot} {nL i : Nat} {L : List (Option Value)} {v : Value} (h : lv_has ls' nL ((i, rl ad v) :: (lpr ad 0 L).filter (fun q => !(q.1 == i) && !(q.1 + 1 == i && q.2.category == 2)))) : lv_has ls' nL (lpr ad 0 (ls1 L i v)) := by
  refine ⟨h.1, h.2.1, fun q hq => h.2.2 q ?_⟩
  obtain ⟨j, w, h1, h2, h3⟩ := (lpr_mem _ 0 q).mp hq
  simp only [Nat.zero_add] at h1
  by_cases hj : j = i
  · subst hj
    have hlt : j < (ls1 L j v).length := (List.getElem?_eq_some_iff.mp h2).1
    rw [ls1, List.getElem?_set_self (by simpa [ls1] using hlt)] at h2
    simp at h2
    subst h2
    exact List.mem_cons.mpr (Or.inl (Prod.ext h1 h3))
  · rw [ls1, List.getElem?_set_ne (Ne.symm hj)] at h2
    obtain ⟨h4, h5⟩ := kl2_at h2
    refine List.mem_cons_of_mem _ (List.mem_filter.mpr ⟨(lpr_mem L 0 q).mpr ⟨j, w, by simpa using h1, h4, h3⟩, ?_⟩)
    have hc : q.2.category = w.category := by rw [h3, rl_cat]
    simp only [h1, hc, Bool.and_eq_true, Bool.not_eq_true', beq_eq_false_iff_ne, ne_eq, Bool.and_eq_false_iff]
    refine ⟨hj, ?_⟩
    by_cases h6 : j + 1 = i
    · exact Or.inr (fun h7 => h5 ⟨h6, h7⟩)
    · exact Or.inl h6
theorem lp_st2 {ad : Nat → Nat} {ls' : Array Slot} {nL i : Nat} {L : List (Option Value)} {v : Value} (h : lv_has ls' nL ((i, rl ad v) :: (lpr ad 0 L).filter (fun q => !(q.1 == i) && (!(q.1 == i + 1) && !(q.1 + 1 == i && q.2.category == 2))))) : lv_has ls' nL (lpr ad 0 (ls2 L i v)) := by
  refine ⟨h.1, h.2.1, fun q hq => h.2.2 q ?_⟩
  obtain ⟨j, w, h1, h2, h3⟩ := (lpr_mem _ 0 q).mp hq
  simp only [Nat.zero_add] at h1
  by_cases hj : j = i
  · subst hj
    have hlt : j < (ls2 L j v).length := (List.getElem?_eq_some_iff.mp h2).1
    rw [ls2, List.getElem?_set_self (by simpa [ls2] using hlt)] at h2
    simp at h2
    subst h2
    exact List.mem_cons.mpr (Or.inl (Prod.ext h1 h3))
  · rw [ls2, List.getElem?_set_ne (Ne.symm hj)] at h2
    by_cases hj1 : j = i + 1
    · subst hj1
      rw [List.getElem?_set] at h2
      simp at h2
    · rw [List.getElem?_set_ne (Ne.symm hj1)] at h2
      obtain ⟨h4, h5⟩ := kl2_at h2
      refine List.mem_cons_of_mem _ (List.mem_filter.mpr ⟨(lpr_mem L 0 q).mpr ⟨j, w, by simpa using h1, h4, h3⟩, ?_⟩)
      have hc : q.2.category = w.category := by rw [h3, rl_cat]
      simp only [h1, hc, Bool.and_eq_true, Bool.not_eq_true', beq_eq_false_iff_ne, ne_eq, Bool.and_eq_false_iff]
      refine ⟨hj, hj1, ?_⟩
      by_cases h6 : j + 1 = i
      · exact Or.inr (fun h7 => h5 ⟨h6, h7⟩)
      · exact Or.inl h6
theorem lp_sub {ad : Nat → Nat} {ls : Array Slot} {nL : Nat} {L L' : List (Option Value)} (h : lv_has ls nL (lpr ad 0 L)) (hs : ∀ (j : Nat) (v : Value), L'[j]? = some (some v) → L[j]? = some (some v)) : lv_has ls nL (lpr ad 0 L') := by
  refine ⟨h.1, h.2.1, fun q hq => h.2.2 q ?_⟩
  obtain ⟨j, w, h1, h2, h3⟩ := (lpr_mem _ 0 q).mp hq
  exact (lpr_mem L 0 q).mpr ⟨j, w, h1, hs j w h2, h3⟩
end
section
abbrev Dc (c : ByteArray) (pc : Nat) (i : Instr) (n pc1 : Nat) : Prop := decode c pc = .ok (i, n) ∧ pc + n = pc1
abbrev Dj (c : ByteArray) (pc : Nat) (i : Instr) (n pc1 : Nat) (off : Int) (tg : Nat) : Prop := decode c pc = .ok (i, n) ∧ pc + n = pc1 ∧ (pc : Int) + off = (tg : Int)
theorem g_iconst {y : Mr} {RQ : RQt} {nc ns pc pc1 : Nat} {L : List (Option Value)} {st : List Value} {S : Shp} {I : Iv} {J : Jv} {n : Int} {v : Int32} (hd : Dc (yc y) pc (.iconst n) 1 pc1) (hv : Int32.ofInt n = v) (k : G y RQ nc ns pc1 L (.int v :: st) S I J) : G y RQ nc ns pc L (st) S I J := by
  obtain ⟨hd, rfl⟩ := hd
  intro p l e s m args below meth c D ca ad H locs ls C R hl
  exact lv_iconst C.1 C.2.1 hd hv (k p l e s m args below meth c D ca ad H locs ls C R hl)
theorem g_bipush {y : Mr} {RQ : RQt} {nc ns pc pc1 : Nat} {L : List (Option Value)} {st : List Value} {S : Shp} {I : Iv} {J : Jv} {n : Int} {v : Int32} (hd : Dc (yc y) pc (.bipush n) 2 pc1) (hv : (Int8.ofInt n).toInt32 = v) (k : G y RQ nc ns pc1 L (.int v :: st) S I J) : G y RQ nc ns pc L (st) S I J := by
  obtain ⟨hd, rfl⟩ := hd
  intro p l e s m args below meth c D ca ad H locs ls C R hl
  exact lv_bipush C.1 C.2.1 hd hv (k p l e s m args below meth c D ca ad H locs ls C R hl)
theorem g_sipush {y : Mr} {RQ : RQt} {nc ns pc pc1 : Nat} {L : List (Option Value)} {st : List Value} {S : Shp} {I : Iv} {J : Jv} {n : Int} {v : Int32} (hd : Dc (yc y) pc (.sipush n) 3 pc1) (hv : (Int16.ofInt n).toInt32 = v) (k : G y RQ nc ns pc1 L (.int v :: st) S I J) : G y RQ nc ns pc L (st) S I J := by
  obtain ⟨hd, rfl⟩ := hd
  intro p l e s m args below meth c D ca ad H locs ls C R hl
  exact lv_sipush C.1 C.2.1 hd hv (k p l e s m args below meth c D ca ad H locs ls C R hl)
theorem g_lconst {y : Mr} {RQ : RQt} {nc ns pc pc1 : Nat} {L : List (Option Value)} {st : List Value} {S : Shp} {I : Iv} {J : Jv} {n : Fin 2} {v : Int64} (hd : Dc (yc y) pc (.lconst n) 1 pc1) (hv : Int64.ofNat (n : Nat) = v) (k : G y RQ nc ns pc1 L (.long v :: st) S I J) : G y RQ nc ns pc L (st) S I J := by
  obtain ⟨hd, rfl⟩ := hd
  intro p l e s m args below meth c D ca ad H locs ls C R hl
  exact lv_lconst C.1 C.2.1 hd hv (k p l e s m args below meth c D ca ad H locs ls C R hl)
theorem g_iload {y : Mr} {RQ : RQt} {nc ns pc pc1 : Nat} {L : List (Option Value)} {st : List Value} {S : Shp} {I : Iv} {J : Jv} {i : Nat} {x : Int32} (hd : Dc (yc y) pc (.iload i) 2 pc1) (hL : L[i]? = some (some (.int x))) (k : G y RQ nc ns pc1 L (.int x :: st) S I J) : G y RQ nc ns pc L (st) S I J := by
  obtain ⟨hd, rfl⟩ := hd
  intro p l e s m args below meth c D ca ad H locs ls C R hl
  exact lv_iload C.1 C.2.1 hd (lp_at hl hL) (k p l e s m args below meth c D ca ad H locs ls C R hl)
theorem g_iload_n {y : Mr} {RQ : RQt} {nc ns pc pc1 : Nat} {L : List (Option Value)} {st : List Value} {S : Shp} {I : Iv} {J : Jv} {i : Fin 4} {x : Int32} (hd : Dc (yc y) pc (.iload_n i) 1 pc1) (hL : L[(i : Nat)]? = some (some (.int x))) (k : G y RQ nc ns pc1 L (.int x :: st) S I J) : G y RQ nc ns pc L (st) S I J := by
  obtain ⟨hd, rfl⟩ := hd
  intro p l e s m args below meth c D ca ad H locs ls C R hl
  exact lv_iload_n C.1 C.2.1 hd rfl (lp_at hl hL) (k p l e s m args below meth c D ca ad H locs ls C R hl)
theorem g_lload {y : Mr} {RQ : RQt} {nc ns pc pc1 : Nat} {L : List (Option Value)} {st : List Value} {S : Shp} {I : Iv} {J : Jv} {i : Nat} {x : Int64} (hd : Dc (yc y) pc (.lload i) 2 pc1) (hL : L[i]? = some (some (.long x))) (k : G y RQ nc ns pc1 L (.long x :: st) S I J) : G y RQ nc ns pc L (st) S I J := by
  obtain ⟨hd, rfl⟩ := hd
  intro p l e s m args below meth c D ca ad H locs ls C R hl
  exact lv_lload C.1 C.2.1 hd (lp_at hl hL) (k p l e s m args below meth c D ca ad H locs ls C R hl)
theorem g_lload_n {y : Mr} {RQ : RQt} {nc ns pc pc1 : Nat} {L : List (Option Value)} {st : List Value} {S : Shp} {I : Iv} {J : Jv} {i : Fin 4} {x : Int64} (hd : Dc (yc y) pc (.lload_n i) 1 pc1) (hL : L[(i : Nat)]? = some (some (.long x))) (k : G y RQ nc ns pc1 L (.long x :: st) S I J) : G y RQ nc ns pc L (st) S I J := by
  obtain ⟨hd, rfl⟩ := hd
  intro p l e s m args below meth c D ca ad H locs ls C R hl
  exact lv_lload_n C.1 C.2.1 hd rfl (lp_at hl hL) (k p l e s m args below meth c D ca ad H locs ls C R hl)
theorem g_aload {y : Mr} {RQ : RQt} {nc ns pc pc1 : Nat} {L : List (Option Value)} {st : List Value} {S : Shp} {I : Iv} {J : Jv} {i : Nat} {x : Nat} (hd : Dc (yc y) pc (.aload i) 2 pc1) (hL : L[i]? = some (some (.ref x))) (k : G y RQ nc ns pc1 L (.ref x :: st) S I J) : G y RQ nc ns pc L (st) S I J := by
  obtain ⟨hd, rfl⟩ := hd
  intro p l e s m args below meth c D ca ad H locs ls C R hl
  exact lv_aload C.1 C.2.1 hd (lp_at hl hL) (k p l e s m args below meth c D ca ad H locs ls C R hl)
theorem g_aload_n {y : Mr} {RQ : RQt} {nc ns pc pc1 : Nat} {L : List (Option Value)} {st : List Value} {S : Shp} {I : Iv} {J : Jv} {i : Fin 4} {x : Nat} (hd : Dc (yc y) pc (.aload_n i) 1 pc1) (hL : L[(i : Nat)]? = some (some (.ref x))) (k : G y RQ nc ns pc1 L (.ref x :: st) S I J) : G y RQ nc ns pc L (st) S I J := by
  obtain ⟨hd, rfl⟩ := hd
  intro p l e s m args below meth c D ca ad H locs ls C R hl
  exact lv_aload_n C.1 C.2.1 hd rfl (lp_at hl hL) (k p l e s m args below meth c D ca ad H locs ls C R hl)
theorem g_istore {y : Mr} {RQ : RQt} {nc ns pc pc1 : Nat} {L : List (Option Value)} {st : List Value} {S : Shp} {I : Iv} {J : Jv} {i : Nat} {x : Int32} {L' : List (Option Value)} (hd : Dc (yc y) pc (.istore i) 2 pc1) (hn : i < yl y) (hL : ls1 L i (.int x) = L') (k : G y RQ nc ns pc1 L' st S I J) : G y RQ nc ns pc L (.int x :: st) S I J := by
  obtain ⟨hd, rfl⟩ := hd
  subst hL
  intro p l e s m args below meth c D ca ad H locs ls C R hl
  exact lv_istore C.1 C.2.1 hd hl hn rfl (fun ls' h' => k p l e s m args below meth c D ca ad H locs ls' C R (lp_st1 h'))
theorem g_istore_n {y : Mr} {RQ : RQt} {nc ns pc pc1 : Nat} {L : List (Option Value)} {st : List Value} {S : Shp} {I : Iv} {J : Jv} {i : Fin 4} {x : Int32} {L' : List (Option Value)} (hd : Dc (yc y) pc (.istore_n i) 1 pc1) (hn : (i : Nat) < yl y) (hL : ls1 L (i : Nat) (.int x) = L') (k : G y RQ nc ns pc1 L' st S I J) : G y RQ nc ns pc L (.int x :: st) S I J := by
  obtain ⟨hd, rfl⟩ := hd
  subst hL
  intro p l e s m args below meth c D ca ad H locs ls C R hl
  exact lv_istore_n C.1 C.2.1 hd rfl hl hn rfl (fun ls' h' => k p l e s m args below meth c D ca ad H locs ls' C R (lp_st1 h'))
theorem g_lstore {y : Mr} {RQ : RQt} {nc ns pc pc1 : Nat} {L : List (Option Value)} {st : List Value} {S : Shp} {I : Iv} {J : Jv} {i : Nat} {x : Int64} {L' : List (Option Value)} (hd : Dc (yc y) pc (.lstore i) 2 pc1) (hn : i + 1 < yl y) (hL : ls2 L i (.long x) = L') (k : G y RQ nc ns pc1 L' st S I J) : G y RQ nc ns pc L (.long x :: st) S I J := by
  obtain ⟨hd, rfl⟩ := hd
  subst hL
  intro p l e s m args below meth c D ca ad H locs ls C R hl
  exact lv_lstore C.1 C.2.1 hd hl hn rfl (fun ls' h' => k p l e s m args below meth c D ca ad H locs ls' C R (lp_st2 h'))
theorem g_lstore_n {y : Mr} {RQ : RQt} {nc ns pc pc1 : Nat} {L : List (Option Value)} {st : List Value} {S : Shp} {I : Iv} {J : Jv} {i : Fin 4} {x : Int64} {L' : List (Option Value)} (hd : Dc (yc y) pc (.lstore_n i) 1 pc1) (hn : (i : Nat) + 1 < yl y) (hL : ls2 L (i : Nat) (.long x) = L') (k : G y RQ nc ns pc1 L' st S I J) : G y RQ nc ns pc L (.long x :: st) S I J := by
  obtain ⟨hd, rfl⟩ := hd
  subst hL
  intro p l e s m args below meth c D ca ad H locs ls C R hl
  exact lv_lstore_n C.1 C.2.1 hd rfl hl hn rfl (fun ls' h' => k p l e s m args below meth c D ca ad H locs ls' C R (lp_st2 h'))
theorem g_astore {y : Mr} {RQ : RQt} {nc ns pc pc1 : Nat} {L : List (Option Value)} {st : List Value} {S : Shp} {I : Iv} {J : Jv} {i : Nat} {x : Nat} {L' : List (Option Value)} (hd : Dc (yc y) pc (.astore i) 2 pc1) (hn : i < yl y) (hL : ls1 L i (.ref x) = L') (k : G y RQ nc ns pc1 L' st S I J) : G y RQ nc ns pc L (.ref x :: st) S I J := by
  obtain ⟨hd, rfl⟩ := hd
  subst hL
  intro p l e s m args below meth c D ca ad H locs ls C R hl
  exact lv_astore C.1 C.2.1 hd hl hn rfl (fun ls' h' => k p l e s m args below meth c D ca ad H locs ls' C R (lp_st1 h'))
theorem g_astore_n {y : Mr} {RQ : RQt} {nc ns pc pc1 : Nat} {L : List (Option Value)} {st : List Value} {S : Shp} {I : Iv} {J : Jv} {i : Fin 4} {x : Nat} {L' : List (Option Value)} (hd : Dc (yc y) pc (.astore_n i) 1 pc1) (hn : (i : Nat) < yl y) (hL : ls1 L (i : Nat) (.ref x) = L') (k : G y RQ nc ns pc1 L' st S I J) : G y RQ nc ns pc L (.ref x :: st) S I J := by
  obtain ⟨hd, rfl⟩ := hd
  subst hL
  intro p l e s m args below meth c D ca ad H locs ls C R hl
  exact lv_astore_n C.1 C.2.1 hd rfl hl hn rfl (fun ls' h' => k p l e s m args below meth c D ca ad H locs ls' C R (lp_st1 h'))
theorem g_iinc {y : Mr} {RQ : RQt} {nc ns pc pc1 : Nat} {L : List (Option Value)} {st : List Value} {S : Shp} {I : Iv} {J : Jv} {i : Nat} {n : Int} {x v : Int32} {L' : List (Option Value)} (hd : Dc (yc y) pc (.iinc i n) 3 pc1) (hx : L[i]? = some (some (.int x))) (hv : x + Int32.ofInt n = v) (hn : i < yl y) (hL : ls1 L i (.int v) = L') (k : G y RQ nc ns pc1 L' st S I J) : G y RQ nc ns pc L st S I J := by
  obtain ⟨hd, rfl⟩ := hd
  subst hL
  intro p l e s m args below meth c D ca ad H locs ls C R hl
  obtain ⟨kk, hk⟩ := List.getElem?_of_mem ((lpr_mem L 0 (i, .int x)).mpr ⟨i, .int x, by simp, hx, rfl⟩)
  exact lv_iinc C.1 C.2.1 hd hl hk hv hn rfl (fun ls' h' => k p l e s m args below meth c D ca ad H locs ls' C R (lp_st1 h'))
theorem g_iadd {y : Mr} {RQ : RQt} {nc ns pc pc1 : Nat} {L : List (Option Value)} {st : List Value} {S : Shp} {I : Iv} {J : Jv} {a b : Int32} (hd : Dc (yc y) pc (.iadd) 1 pc1)  (k : G y RQ nc ns pc1 L (.int (a + b) :: st) S I J) : G y RQ nc ns pc L (.int b :: .int a :: st) S I J := by
  obtain ⟨hd, rfl⟩ := hd
  intro p l e s m args below meth c D ca ad H locs ls C R hl
  exact lv_iadd C.1 C.2.1 hd  (k p l e s m args below meth c D ca ad H locs ls C R hl)
theorem g_isub {y : Mr} {RQ : RQt} {nc ns pc pc1 : Nat} {L : List (Option Value)} {st : List Value} {S : Shp} {I : Iv} {J : Jv} {a b : Int32} (hd : Dc (yc y) pc (.isub) 1 pc1)  (k : G y RQ nc ns pc1 L (.int (a - b) :: st) S I J) : G y RQ nc ns pc L (.int b :: .int a :: st) S I J := by
  obtain ⟨hd, rfl⟩ := hd
  intro p l e s m args below meth c D ca ad H locs ls C R hl
  exact lv_isub C.1 C.2.1 hd  (k p l e s m args below meth c D ca ad H locs ls C R hl)
theorem g_imul {y : Mr} {RQ : RQt} {nc ns pc pc1 : Nat} {L : List (Option Value)} {st : List Value} {S : Shp} {I : Iv} {J : Jv} {a b : Int32} (hd : Dc (yc y) pc (.imul) 1 pc1)  (k : G y RQ nc ns pc1 L (.int (a * b) :: st) S I J) : G y RQ nc ns pc L (.int b :: .int a :: st) S I J := by
  obtain ⟨hd, rfl⟩ := hd
  intro p l e s m args below meth c D ca ad H locs ls C R hl
  exact lv_imul C.1 C.2.1 hd  (k p l e s m args below meth c D ca ad H locs ls C R hl)
theorem g_iand {y : Mr} {RQ : RQt} {nc ns pc pc1 : Nat} {L : List (Option Value)} {st : List Value} {S : Shp} {I : Iv} {J : Jv} {a b : Int32} (hd : Dc (yc y) pc (.iand) 1 pc1)  (k : G y RQ nc ns pc1 L (.int (a &&& b) :: st) S I J) : G y RQ nc ns pc L (.int b :: .int a :: st) S I J := by
  obtain ⟨hd, rfl⟩ := hd
  intro p l e s m args below meth c D ca ad H locs ls C R hl
  exact lv_iand C.1 C.2.1 hd  (k p l e s m args below meth c D ca ad H locs ls C R hl)
theorem g_ior {y : Mr} {RQ : RQt} {nc ns pc pc1 : Nat} {L : List (Option Value)} {st : List Value} {S : Shp} {I : Iv} {J : Jv} {a b : Int32} (hd : Dc (yc y) pc (.ior) 1 pc1)  (k : G y RQ nc ns pc1 L (.int (a ||| b) :: st) S I J) : G y RQ nc ns pc L (.int b :: .int a :: st) S I J := by
  obtain ⟨hd, rfl⟩ := hd
  intro p l e s m args below meth c D ca ad H locs ls C R hl
  exact lv_ior C.1 C.2.1 hd  (k p l e s m args below meth c D ca ad H locs ls C R hl)
theorem g_ixor {y : Mr} {RQ : RQt} {nc ns pc pc1 : Nat} {L : List (Option Value)} {st : List Value} {S : Shp} {I : Iv} {J : Jv} {a b : Int32} (hd : Dc (yc y) pc (.ixor) 1 pc1)  (k : G y RQ nc ns pc1 L (.int (a ^^^ b) :: st) S I J) : G y RQ nc ns pc L (.int b :: .int a :: st) S I J := by
  obtain ⟨hd, rfl⟩ := hd
  intro p l e s m args below meth c D ca ad H locs ls C R hl
  exact lv_ixor C.1 C.2.1 hd  (k p l e s m args below meth c D ca ad H locs ls C R hl)
theorem g_ladd {y : Mr} {RQ : RQt} {nc ns pc pc1 : Nat} {L : List (Option Value)} {st : List Value} {S : Shp} {I : Iv} {J : Jv} {a b : Int64} (hd : Dc (yc y) pc (.ladd) 1 pc1)  (k : G y RQ nc ns pc1 L (.long (a + b) :: st) S I J) : G y RQ nc ns pc L (.long b :: .long a :: st) S I J := by
  obtain ⟨hd, rfl⟩ := hd
  intro p l e s m args below meth c D ca ad H locs ls C R hl
  exact lv_ladd C.1 C.2.1 hd  (k p l e s m args below meth c D ca ad H locs ls C R hl)
theorem g_lsub {y : Mr} {RQ : RQt} {nc ns pc pc1 : Nat} {L : List (Option Value)} {st : List Value} {S : Shp} {I : Iv} {J : Jv} {a b : Int64} (hd : Dc (yc y) pc (.lsub) 1 pc1)  (k : G y RQ nc ns pc1 L (.long (a - b) :: st) S I J) : G y RQ nc ns pc L (.long b :: .long a :: st) S I J := by
  obtain ⟨hd, rfl⟩ := hd
  intro p l e s m args below meth c D ca ad H locs ls C R hl
  exact lv_lsub C.1 C.2.1 hd  (k p l e s m args below meth c D ca ad H locs ls C R hl)
theorem g_lmul {y : Mr} {RQ : RQt} {nc ns pc pc1 : Nat} {L : List (Option Value)} {st : List Value} {S : Shp} {I : Iv} {J : Jv} {a b : Int64} (hd : Dc (yc y) pc (.lmul) 1 pc1)  (k : G y RQ nc ns pc1 L (.long (a * b) :: st) S I J) : G y RQ nc ns pc L (.long b :: .long a :: st) S I J := by
  obtain ⟨hd, rfl⟩ := hd
  intro p l e s m args below meth c D ca ad H locs ls C R hl
  exact lv_lmul C.1 C.2.1 hd  (k p l e s m args below meth c D ca ad H locs ls C R hl)
theorem g_land {y : Mr} {RQ : RQt} {nc ns pc pc1 : Nat} {L : List (Option Value)} {st : List Value} {S : Shp} {I : Iv} {J : Jv} {a b : Int64} (hd : Dc (yc y) pc (.land) 1 pc1)  (k : G y RQ nc ns pc1 L (.long (a &&& b) :: st) S I J) : G y RQ nc ns pc L (.long b :: .long a :: st) S I J := by
  obtain ⟨hd, rfl⟩ := hd
  intro p l e s m args below meth c D ca ad H locs ls C R hl
  exact lv_land C.1 C.2.1 hd  (k p l e s m args below meth c D ca ad H locs ls C R hl)
theorem g_lor {y : Mr} {RQ : RQt} {nc ns pc pc1 : Nat} {L : List (Option Value)} {st : List Value} {S : Shp} {I : Iv} {J : Jv} {a b : Int64} (hd : Dc (yc y) pc (.lor) 1 pc1)  (k : G y RQ nc ns pc1 L (.long (a ||| b) :: st) S I J) : G y RQ nc ns pc L (.long b :: .long a :: st) S I J := by
  obtain ⟨hd, rfl⟩ := hd
  intro p l e s m args below meth c D ca ad H locs ls C R hl
  exact lv_lor C.1 C.2.1 hd  (k p l e s m args below meth c D ca ad H locs ls C R hl)
theorem g_lxor {y : Mr} {RQ : RQt} {nc ns pc pc1 : Nat} {L : List (Option Value)} {st : List Value} {S : Shp} {I : Iv} {J : Jv} {a b : Int64} (hd : Dc (yc y) pc (.lxor) 1 pc1)  (k : G y RQ nc ns pc1 L (.long (a ^^^ b) :: st) S I J) : G y RQ nc ns pc L (.long b :: .long a :: st) S I J := by
  obtain ⟨hd, rfl⟩ := hd
  intro p l e s m args below meth c D ca ad H locs ls C R hl
  exact lv_lxor C.1 C.2.1 hd  (k p l e s m args below meth c D ca ad H locs ls C R hl)
theorem g_idiv {y : Mr} {RQ : RQt} {nc ns pc pc1 : Nat} {L : List (Option Value)} {st : List Value} {S : Shp} {I : Iv} {J : Jv} {a b : Int32} (hd : Dc (yc y) pc (.idiv) 1 pc1) (hb : ¬ b = 0) (k : G y RQ nc ns pc1 L (.int (a / b) :: st) S I J) : G y RQ nc ns pc L (.int b :: .int a :: st) S I J := by
  obtain ⟨hd, rfl⟩ := hd
  intro p l e s m args below meth c D ca ad H locs ls C R hl
  exact lv_idiv C.1 C.2.1 hd hb (k p l e s m args below meth c D ca ad H locs ls C R hl)
theorem g_ldiv {y : Mr} {RQ : RQt} {nc ns pc pc1 : Nat} {L : List (Option Value)} {st : List Value} {S : Shp} {I : Iv} {J : Jv} {a b : Int64} (hd : Dc (yc y) pc (.ldiv) 1 pc1) (hb : ¬ b = 0) (k : G y RQ nc ns pc1 L (.long (a / b) :: st) S I J) : G y RQ nc ns pc L (.long b :: .long a :: st) S I J := by
  obtain ⟨hd, rfl⟩ := hd
  intro p l e s m args below meth c D ca ad H locs ls C R hl
  exact lv_ldiv C.1 C.2.1 hd hb (k p l e s m args below meth c D ca ad H locs ls C R hl)
theorem g_irem {y : Mr} {RQ : RQt} {nc ns pc pc1 : Nat} {L : List (Option Value)} {st : List Value} {S : Shp} {I : Iv} {J : Jv} {a b : Int32} (hd : Dc (yc y) pc (.irem) 1 pc1) (hb : ¬ b = 0) (k : G y RQ nc ns pc1 L (.int (a - a / b * b) :: st) S I J) : G y RQ nc ns pc L (.int b :: .int a :: st) S I J := by
  obtain ⟨hd, rfl⟩ := hd
  intro p l e s m args below meth c D ca ad H locs ls C R hl
  exact lv_irem C.1 C.2.1 hd hb (k p l e s m args below meth c D ca ad H locs ls C R hl)
theorem g_lrem {y : Mr} {RQ : RQt} {nc ns pc pc1 : Nat} {L : List (Option Value)} {st : List Value} {S : Shp} {I : Iv} {J : Jv} {a b : Int64} (hd : Dc (yc y) pc (.lrem) 1 pc1) (hb : ¬ b = 0) (k : G y RQ nc ns pc1 L (.long (a - a / b * b) :: st) S I J) : G y RQ nc ns pc L (.long b :: .long a :: st) S I J := by
  obtain ⟨hd, rfl⟩ := hd
  intro p l e s m args below meth c D ca ad H locs ls C R hl
  exact lv_lrem C.1 C.2.1 hd hb (k p l e s m args below meth c D ca ad H locs ls C R hl)
theorem g_ineg {y : Mr} {RQ : RQt} {nc ns pc pc1 : Nat} {L : List (Option Value)} {st : List Value} {S : Shp} {I : Iv} {J : Jv} {a : Int32} (hd : Dc (yc y) pc (.ineg) 1 pc1)  (k : G y RQ nc ns pc1 L (.int (-a) :: st) S I J) : G y RQ nc ns pc L (.int a :: st) S I J := by
  obtain ⟨hd, rfl⟩ := hd
  intro p l e s m args below meth c D ca ad H locs ls C R hl
  exact lv_ineg C.1 C.2.1 hd  (k p l e s m args below meth c D ca ad H locs ls C R hl)
theorem g_lneg {y : Mr} {RQ : RQt} {nc ns pc pc1 : Nat} {L : List (Option Value)} {st : List Value} {S : Shp} {I : Iv} {J : Jv} {a : Int64} (hd : Dc (yc y) pc (.lneg) 1 pc1)  (k : G y RQ nc ns pc1 L (.long (-a) :: st) S I J) : G y RQ nc ns pc L (.long a :: st) S I J := by
  obtain ⟨hd, rfl⟩ := hd
  intro p l e s m args below meth c D ca ad H locs ls C R hl
  exact lv_lneg C.1 C.2.1 hd  (k p l e s m args below meth c D ca ad H locs ls C R hl)
theorem g_ishl {y : Mr} {RQ : RQt} {nc ns pc pc1 : Nat} {L : List (Option Value)} {st : List Value} {S : Shp} {I : Iv} {J : Jv} {a b : Int32} (hd : Dc (yc y) pc (.ishl) 1 pc1)  (k : G y RQ nc ns pc1 L (.int (a <<< (b &&& 31)) :: st) S I J) : G y RQ nc ns pc L (.int b :: .int a :: st) S I J := by
  obtain ⟨hd, rfl⟩ := hd
  intro p l e s m args below meth c D ca ad H locs ls C R hl
  exact lv_ishl C.1 C.2.1 hd  (k p l e s m args below meth c D ca ad H locs ls C R hl)
theorem g_ishr {y : Mr} {RQ : RQt} {nc ns pc pc1 : Nat} {L : List (Option Value)} {st : List Value} {S : Shp} {I : Iv} {J : Jv} {a b : Int32} (hd : Dc (yc y) pc (.ishr) 1 pc1)  (k : G y RQ nc ns pc1 L (.int (a >>> (b &&& 31)) :: st) S I J) : G y RQ nc ns pc L (.int b :: .int a :: st) S I J := by
  obtain ⟨hd, rfl⟩ := hd
  intro p l e s m args below meth c D ca ad H locs ls C R hl
  exact lv_ishr C.1 C.2.1 hd  (k p l e s m args below meth c D ca ad H locs ls C R hl)
theorem g_iushr {y : Mr} {RQ : RQt} {nc ns pc pc1 : Nat} {L : List (Option Value)} {st : List Value} {S : Shp} {I : Iv} {J : Jv} {a b : Int32} (hd : Dc (yc y) pc (.iushr) 1 pc1)  (k : G y RQ nc ns pc1 L (.int (a.toUInt32 >>> (b.toUInt32 &&& Int32.toUInt32 31)).toInt32 :: st) S I J) : G y RQ nc ns pc L (.int b :: .int a :: st) S I J := by
  obtain ⟨hd, rfl⟩ := hd
  intro p l e s m args below meth c D ca ad H locs ls C R hl
  exact lv_iushr C.1 C.2.1 hd rfl (k p l e s m args below meth c D ca ad H locs ls C R hl)
theorem g_lshl {y : Mr} {RQ : RQt} {nc ns pc pc1 : Nat} {L : List (Option Value)} {st : List Value} {S : Shp} {I : Iv} {J : Jv} {a : Int64} {b : Int32} (hd : Dc (yc y) pc (.lshl) 1 pc1)  (k : G y RQ nc ns pc1 L (.long (a <<< (b.toInt64 &&& 63)) :: st) S I J) : G y RQ nc ns pc L (.int b :: .long a :: st) S I J := by
  obtain ⟨hd, rfl⟩ := hd
  intro p l e s m args below meth c D ca ad H locs ls C R hl
  exact lv_lshl C.1 C.2.1 hd rfl (k p l e s m args below meth c D ca ad H locs ls C R hl)
theorem g_lshr {y : Mr} {RQ : RQt} {nc ns pc pc1 : Nat} {L : List (Option Value)} {st : List Value} {S : Shp} {I : Iv} {J : Jv} {a : Int64} {b : Int32} (hd : Dc (yc y) pc (.lshr) 1 pc1)  (k : G y RQ nc ns pc1 L (.long (a >>> (b.toInt64 &&& 63)) :: st) S I J) : G y RQ nc ns pc L (.int b :: .long a :: st) S I J := by
  obtain ⟨hd, rfl⟩ := hd
  intro p l e s m args below meth c D ca ad H locs ls C R hl
  exact lv_lshr C.1 C.2.1 hd rfl (k p l e s m args below meth c D ca ad H locs ls C R hl)
theorem g_lushr {y : Mr} {RQ : RQt} {nc ns pc pc1 : Nat} {L : List (Option Value)} {st : List Value} {S : Shp} {I : Iv} {J : Jv} {a : Int64} {b : Int32} (hd : Dc (yc y) pc (.lushr) 1 pc1)  (k : G y RQ nc ns pc1 L (.long (a.toUInt64 >>> (b.toInt64.toUInt64 &&& Int64.toUInt64 63)).toInt64 :: st) S I J) : G y RQ nc ns pc L (.int b :: .long a :: st) S I J := by
  obtain ⟨hd, rfl⟩ := hd
  intro p l e s m args below meth c D ca ad H locs ls C R hl
  exact lv_lushr C.1 C.2.1 hd rfl (k p l e s m args below meth c D ca ad H locs ls C R hl)
theorem g_i2l {y : Mr} {RQ : RQt} {nc ns pc pc1 : Nat} {L : List (Option Value)} {st : List Value} {S : Shp} {I : Iv} {J : Jv} {a : Int32} (hd : Dc (yc y) pc (.i2l) 1 pc1)  (k : G y RQ nc ns pc1 L (.long a.toInt64 :: st) S I J) : G y RQ nc ns pc L (.int a :: st) S I J := by
  obtain ⟨hd, rfl⟩ := hd
  intro p l e s m args below meth c D ca ad H locs ls C R hl
  exact lv_i2l C.1 C.2.1 hd rfl (k p l e s m args below meth c D ca ad H locs ls C R hl)
theorem g_l2i {y : Mr} {RQ : RQt} {nc ns pc pc1 : Nat} {L : List (Option Value)} {st : List Value} {S : Shp} {I : Iv} {J : Jv} {a : Int64} (hd : Dc (yc y) pc (.l2i) 1 pc1)  (k : G y RQ nc ns pc1 L (.int a.toInt32 :: st) S I J) : G y RQ nc ns pc L (.long a :: st) S I J := by
  obtain ⟨hd, rfl⟩ := hd
  intro p l e s m args below meth c D ca ad H locs ls C R hl
  exact lv_l2i C.1 C.2.1 hd rfl (k p l e s m args below meth c D ca ad H locs ls C R hl)
theorem g_i2b {y : Mr} {RQ : RQt} {nc ns pc pc1 : Nat} {L : List (Option Value)} {st : List Value} {S : Shp} {I : Iv} {J : Jv} {a : Int32} (hd : Dc (yc y) pc (.i2b) 1 pc1)  (k : G y RQ nc ns pc1 L (.int a.toInt8.toInt32 :: st) S I J) : G y RQ nc ns pc L (.int a :: st) S I J := by
  obtain ⟨hd, rfl⟩ := hd
  intro p l e s m args below meth c D ca ad H locs ls C R hl
  exact lv_i2b C.1 C.2.1 hd rfl (k p l e s m args below meth c D ca ad H locs ls C R hl)
theorem g_i2c {y : Mr} {RQ : RQt} {nc ns pc pc1 : Nat} {L : List (Option Value)} {st : List Value} {S : Shp} {I : Iv} {J : Jv} {a : Int32} (hd : Dc (yc y) pc (.i2c) 1 pc1)  (k : G y RQ nc ns pc1 L (.int (a.toUInt32 % 65536).toInt32 :: st) S I J) : G y RQ nc ns pc L (.int a :: st) S I J := by
  obtain ⟨hd, rfl⟩ := hd
  intro p l e s m args below meth c D ca ad H locs ls C R hl
  exact lv_i2c C.1 C.2.1 hd rfl (k p l e s m args below meth c D ca ad H locs ls C R hl)
theorem g_dup {y : Mr} {RQ : RQt} {nc ns pc pc1 : Nat} {L : List (Option Value)} {st : List Value} {S : Shp} {I : Iv} {J : Jv} {v : Value} (hd : Dc (yc y) pc (.dup) 1 pc1) (hv : v.category = 1) (k : G y RQ nc ns pc1 L (v :: v :: st) S I J) : G y RQ nc ns pc L (v :: st) S I J := by
  obtain ⟨hd, rfl⟩ := hd
  intro p l e s m args below meth c D ca ad H locs ls C R hl
  exact lv_dup C.1 C.2.1 hd ((rl_cat ad v).trans hv) (k p l e s m args below meth c D ca ad H locs ls C R hl)
theorem g_pop {y : Mr} {RQ : RQt} {nc ns pc pc1 : Nat} {L : List (Option Value)} {st : List Value} {S : Shp} {I : Iv} {J : Jv} {v : Value} (hd : Dc (yc y) pc (.pop) 1 pc1) (hv : v.category = 1) (k : G y RQ nc ns pc1 L (st) S I J) : G y RQ nc ns pc L (v :: st) S I J := by
  obtain ⟨hd, rfl⟩ := hd
  intro p l e s m args below meth c D ca ad H locs ls C R hl
  exact lv_pop C.1 C.2.1 hd ((rl_cat ad v).trans hv) (k p l e s m args below meth c D ca ad H locs ls C R hl)
theorem g_pop2 {y : Mr} {RQ : RQt} {nc ns pc pc1 : Nat} {L : List (Option Value)} {st : List Value} {S : Shp} {I : Iv} {J : Jv} {v : Value} (hd : Dc (yc y) pc (.pop2) 1 pc1) (hv : v.category = 2) (k : G y RQ nc ns pc1 L (st) S I J) : G y RQ nc ns pc L (v :: st) S I J := by
  obtain ⟨hd, rfl⟩ := hd
  intro p l e s m args below meth c D ca ad H locs ls C R hl
  exact lv_pop2_2 C.1 C.2.1 hd ((rl_cat ad v).trans hv) (k p l e s m args below meth c D ca ad H locs ls C R hl)
theorem g_dup_x1 {y : Mr} {RQ : RQt} {nc ns pc pc1 : Nat} {L : List (Option Value)} {st : List Value} {S : Shp} {I : Iv} {J : Jv} {v w : Value} (hd : Dc (yc y) pc (.dup_x1) 1 pc1) (hv : v.category = 1) (hw : w.category = 1) (k : G y RQ nc ns pc1 L (v :: w :: v :: st) S I J) : G y RQ nc ns pc L (v :: w :: st) S I J := by
  obtain ⟨hd, rfl⟩ := hd
  intro p l e s m args below meth c D ca ad H locs ls C R hl
  exact lv_dup_x1 C.1 C.2.1 hd ((rl_cat ad v).trans hv) ((rl_cat ad w).trans hw) (k p l e s m args below meth c D ca ad H locs ls C R hl)
theorem g_dup2 {y : Mr} {RQ : RQt} {nc ns pc pc1 : Nat} {L : List (Option Value)} {st : List Value} {S : Shp} {I : Iv} {J : Jv} {v w : Value} (hd : Dc (yc y) pc (.dup2) 1 pc1) (hv : v.category = 1) (hw : w.category = 1) (k : G y RQ nc ns pc1 L (v :: w :: v :: w :: st) S I J) : G y RQ nc ns pc L (v :: w :: st) S I J := by
  obtain ⟨hd, rfl⟩ := hd
  intro p l e s m args below meth c D ca ad H locs ls C R hl
  exact lv_dup2_11 C.1 C.2.1 hd ((rl_cat ad v).trans hv) ((rl_cat ad w).trans hw) (k p l e s m args below meth c D ca ad H locs ls C R hl)
theorem g_dup2_2 {y : Mr} {RQ : RQt} {nc ns pc pc1 : Nat} {L : List (Option Value)} {st : List Value} {S : Shp} {I : Iv} {J : Jv} {v : Value} (hd : Dc (yc y) pc (.dup2) 1 pc1) (hv : v.category = 2) (k : G y RQ nc ns pc1 L (v :: v :: st) S I J) : G y RQ nc ns pc L (v :: st) S I J := by
  obtain ⟨hd, rfl⟩ := hd
  intro p l e s m args below meth c D ca ad H locs ls C R hl
  exact lv_dup2_2 C.1 C.2.1 hd ((rl_cat ad v).trans hv) (k p l e s m args below meth c D ca ad H locs ls C R hl)
def lcm (a b : Int64) : Int32 := if a > b then 1 else if a = b then 0 else -1
theorem g_if_eq {y : Mr} {RQ : RQt} {nc ns pc pc1 : Nat} {L : List (Option Value)} {st : List Value} {S : Shp} {I : Iv} {J : Jv} {off : Int} {tg : Nat} {a : Int32} (hd : Dj (yc y) pc (.ifCond .eq off) 3 pc1 off tg) (kt : a = 0 → G y RQ nc ns tg L st S I J) (kf : ¬ a = 0 → G y RQ nc ns pc1 L st S I J) : G y RQ nc ns pc L (.int a :: st) S I J := by
  obtain ⟨hd, rfl, ht⟩ := hd
  intro p l e s m args below meth c D ca ad H locs ls C R hl
  exact lv_if_eq C.1 C.2.1 hd ht (fun h => kt h p l e s m args below meth c D ca ad H locs ls C R hl) (fun h => kf h p l e s m args below meth c D ca ad H locs ls C R hl)
theorem g_icmp_eq {y : Mr} {RQ : RQt} {nc ns pc pc1 : Nat} {L : List (Option Value)} {st : List Value} {S : Shp} {I : Iv} {J : Jv} {off : Int} {tg : Nat} {a b : Int32} (hd : Dj (yc y) pc (.if_icmp .eq off) 3 pc1 off tg) (kt : a = b → G y RQ nc ns tg L st S I J) (kf : ¬ a = b → G y RQ nc ns pc1 L st S I J) : G y RQ nc ns pc L (.int b :: .int a :: st) S I J := by
  obtain ⟨hd, rfl, ht⟩ := hd
  intro p l e s m args below meth c D ca ad H locs ls C R hl
  exact lv_icmp_eq C.1 C.2.1 hd ht (fun h => kt h p l e s m args below meth c D ca ad H locs ls C R hl) (fun h => kf h p l e s m args below meth c D ca ad H locs ls C R hl)
theorem g_if_ne {y : Mr} {RQ : RQt} {nc ns pc pc1 : Nat} {L : List (Option Value)} {st : List Value} {S : Shp} {I : Iv} {J : Jv} {off : Int} {tg : Nat} {a : Int32} (hd : Dj (yc y) pc (.ifCond .ne off) 3 pc1 off tg) (kt : ¬ a = 0 → G y RQ nc ns tg L st S I J) (kf : a = 0 → G y RQ nc ns pc1 L st S I J) : G y RQ nc ns pc L (.int a :: st) S I J := by
  obtain ⟨hd, rfl, ht⟩ := hd
  intro p l e s m args below meth c D ca ad H locs ls C R hl
  exact lv_if_ne C.1 C.2.1 hd ht (fun h => kt h p l e s m args below meth c D ca ad H locs ls C R hl) (fun h => kf h p l e s m args below meth c D ca ad H locs ls C R hl)
theorem g_icmp_ne {y : Mr} {RQ : RQt} {nc ns pc pc1 : Nat} {L : List (Option Value)} {st : List Value} {S : Shp} {I : Iv} {J : Jv} {off : Int} {tg : Nat} {a b : Int32} (hd : Dj (yc y) pc (.if_icmp .ne off) 3 pc1 off tg) (kt : ¬ a = b → G y RQ nc ns tg L st S I J) (kf : a = b → G y RQ nc ns pc1 L st S I J) : G y RQ nc ns pc L (.int b :: .int a :: st) S I J := by
  obtain ⟨hd, rfl, ht⟩ := hd
  intro p l e s m args below meth c D ca ad H locs ls C R hl
  exact lv_icmp_ne C.1 C.2.1 hd ht (fun h => kt h p l e s m args below meth c D ca ad H locs ls C R hl) (fun h => kf h p l e s m args below meth c D ca ad H locs ls C R hl)
theorem g_if_lt {y : Mr} {RQ : RQt} {nc ns pc pc1 : Nat} {L : List (Option Value)} {st : List Value} {S : Shp} {I : Iv} {J : Jv} {off : Int} {tg : Nat} {a : Int32} (hd : Dj (yc y) pc (.ifCond .lt off) 3 pc1 off tg) (kt : a < 0 → G y RQ nc ns tg L st S I J) (kf : ¬ a < 0 → G y RQ nc ns pc1 L st S I J) : G y RQ nc ns pc L (.int a :: st) S I J := by
  obtain ⟨hd, rfl, ht⟩ := hd
  intro p l e s m args below meth c D ca ad H locs ls C R hl
  exact lv_if_lt C.1 C.2.1 hd ht (fun h => kt h p l e s m args below meth c D ca ad H locs ls C R hl) (fun h => kf h p l e s m args below meth c D ca ad H locs ls C R hl)
theorem g_icmp_lt {y : Mr} {RQ : RQt} {nc ns pc pc1 : Nat} {L : List (Option Value)} {st : List Value} {S : Shp} {I : Iv} {J : Jv} {off : Int} {tg : Nat} {a b : Int32} (hd : Dj (yc y) pc (.if_icmp .lt off) 3 pc1 off tg) (kt : a < b → G y RQ nc ns tg L st S I J) (kf : ¬ a < b → G y RQ nc ns pc1 L st S I J) : G y RQ nc ns pc L (.int b :: .int a :: st) S I J := by
  obtain ⟨hd, rfl, ht⟩ := hd
  intro p l e s m args below meth c D ca ad H locs ls C R hl
  exact lv_icmp_lt C.1 C.2.1 hd ht (fun h => kt h p l e s m args below meth c D ca ad H locs ls C R hl) (fun h => kf h p l e s m args below meth c D ca ad H locs ls C R hl)
theorem g_if_ge {y : Mr} {RQ : RQt} {nc ns pc pc1 : Nat} {L : List (Option Value)} {st : List Value} {S : Shp} {I : Iv} {J : Jv} {off : Int} {tg : Nat} {a : Int32} (hd : Dj (yc y) pc (.ifCond .ge off) 3 pc1 off tg) (kt : 0 ≤ a → G y RQ nc ns tg L st S I J) (kf : ¬ 0 ≤ a → G y RQ nc ns pc1 L st S I J) : G y RQ nc ns pc L (.int a :: st) S I J := by
  obtain ⟨hd, rfl, ht⟩ := hd
  intro p l e s m args below meth c D ca ad H locs ls C R hl
  exact lv_if_ge C.1 C.2.1 hd ht (fun h => kt h p l e s m args below meth c D ca ad H locs ls C R hl) (fun h => kf h p l e s m args below meth c D ca ad H locs ls C R hl)
theorem g_icmp_ge {y : Mr} {RQ : RQt} {nc ns pc pc1 : Nat} {L : List (Option Value)} {st : List Value} {S : Shp} {I : Iv} {J : Jv} {off : Int} {tg : Nat} {a b : Int32} (hd : Dj (yc y) pc (.if_icmp .ge off) 3 pc1 off tg) (kt : b ≤ a → G y RQ nc ns tg L st S I J) (kf : ¬ b ≤ a → G y RQ nc ns pc1 L st S I J) : G y RQ nc ns pc L (.int b :: .int a :: st) S I J := by
  obtain ⟨hd, rfl, ht⟩ := hd
  intro p l e s m args below meth c D ca ad H locs ls C R hl
  exact lv_icmp_ge C.1 C.2.1 hd ht (fun h => kt h p l e s m args below meth c D ca ad H locs ls C R hl) (fun h => kf h p l e s m args below meth c D ca ad H locs ls C R hl)
theorem g_if_gt {y : Mr} {RQ : RQt} {nc ns pc pc1 : Nat} {L : List (Option Value)} {st : List Value} {S : Shp} {I : Iv} {J : Jv} {off : Int} {tg : Nat} {a : Int32} (hd : Dj (yc y) pc (.ifCond .gt off) 3 pc1 off tg) (kt : 0 < a → G y RQ nc ns tg L st S I J) (kf : ¬ 0 < a → G y RQ nc ns pc1 L st S I J) : G y RQ nc ns pc L (.int a :: st) S I J := by
  obtain ⟨hd, rfl, ht⟩ := hd
  intro p l e s m args below meth c D ca ad H locs ls C R hl
  exact lv_if_gt C.1 C.2.1 hd ht (fun h => kt h p l e s m args below meth c D ca ad H locs ls C R hl) (fun h => kf h p l e s m args below meth c D ca ad H locs ls C R hl)
theorem g_icmp_gt {y : Mr} {RQ : RQt} {nc ns pc pc1 : Nat} {L : List (Option Value)} {st : List Value} {S : Shp} {I : Iv} {J : Jv} {off : Int} {tg : Nat} {a b : Int32} (hd : Dj (yc y) pc (.if_icmp .gt off) 3 pc1 off tg) (kt : b < a → G y RQ nc ns tg L st S I J) (kf : ¬ b < a → G y RQ nc ns pc1 L st S I J) : G y RQ nc ns pc L (.int b :: .int a :: st) S I J := by
  obtain ⟨hd, rfl, ht⟩ := hd
  intro p l e s m args below meth c D ca ad H locs ls C R hl
  exact lv_icmp_gt C.1 C.2.1 hd ht (fun h => kt h p l e s m args below meth c D ca ad H locs ls C R hl) (fun h => kf h p l e s m args below meth c D ca ad H locs ls C R hl)
theorem g_if_le {y : Mr} {RQ : RQt} {nc ns pc pc1 : Nat} {L : List (Option Value)} {st : List Value} {S : Shp} {I : Iv} {J : Jv} {off : Int} {tg : Nat} {a : Int32} (hd : Dj (yc y) pc (.ifCond .le off) 3 pc1 off tg) (kt : a ≤ 0 → G y RQ nc ns tg L st S I J) (kf : ¬ a ≤ 0 → G y RQ nc ns pc1 L st S I J) : G y RQ nc ns pc L (.int a :: st) S I J := by
  obtain ⟨hd, rfl, ht⟩ := hd
  intro p l e s m args below meth c D ca ad H locs ls C R hl
  exact lv_if_le C.1 C.2.1 hd ht (fun h => kt h p l e s m args below meth c D ca ad H locs ls C R hl) (fun h => kf h p l e s m args below meth c D ca ad H locs ls C R hl)
theorem g_icmp_le {y : Mr} {RQ : RQt} {nc ns pc pc1 : Nat} {L : List (Option Value)} {st : List Value} {S : Shp} {I : Iv} {J : Jv} {off : Int} {tg : Nat} {a b : Int32} (hd : Dj (yc y) pc (.if_icmp .le off) 3 pc1 off tg) (kt : a ≤ b → G y RQ nc ns tg L st S I J) (kf : ¬ a ≤ b → G y RQ nc ns pc1 L st S I J) : G y RQ nc ns pc L (.int b :: .int a :: st) S I J := by
  obtain ⟨hd, rfl, ht⟩ := hd
  intro p l e s m args below meth c D ca ad H locs ls C R hl
  exact lv_icmp_le C.1 C.2.1 hd ht (fun h => kt h p l e s m args below meth c D ca ad H locs ls C R hl) (fun h => kf h p l e s m args below meth c D ca ad H locs ls C R hl)
theorem g_goto {y : Mr} {RQ : RQt} {nc ns pc pc1 : Nat} {L : List (Option Value)} {st : List Value} {S : Shp} {I : Iv} {J : Jv} {off : Int} {tg : Nat} (hd : Dj (yc y) pc (.goto off) 3 pc1 off tg) (k : G y RQ nc ns tg L st S I J) : G y RQ nc ns pc L st S I J := by
  obtain ⟨hd, rfl, ht⟩ := hd
  intro p l e s m args below meth c D ca ad H locs ls C R hl
  exact lv_goto C.1 C.2.1 hd ht (k p l e s m args below meth c D ca ad H locs ls C R hl)
end
section
theorem lg_lt {a b : Int64} : lg_cmp a b < 0 ↔ a < b := by
  unfold lg_cmp; split
  · rename_i h; constructor
    · intro q; exact absurd q (by decide)
    · intro q; exact absurd (Int64.lt_trans h q) Int64.lt_irrefl
  · rename_i h; split
    · rename_i h2; subst h2; constructor
      · intro q; exact absurd q (by decide)
      · intro q; exact absurd q h
    · rename_i h2; constructor
      · intro _
        rcases Int64.lt_or_le a b with q | q
        · exact q
        · exact absurd (Int64.le_antisymm q (Int64.not_lt.mp h)) (fun z => h2 z.symm)
      · intro _; decide
theorem lg_gt {a b : Int64} : 0 < lg_cmp a b ↔ b < a := by
  unfold lg_cmp; split
  · rename_i h; exact ⟨fun _ => h, fun _ => by decide⟩
  · rename_i h; split
    · exact ⟨fun q => absurd q (by decide), fun q => absurd q h⟩
    · exact ⟨fun q => absurd q (by decide), fun q => absurd q h⟩
theorem lg_eq {a b : Int64} : lg_cmp a b = 0 ↔ a = b := by
  unfold lg_cmp; split
  · rename_i h; constructor
    · intro q; exact absurd q (by decide)
    · intro q; subst q; exact absurd h Int64.lt_irrefl
  · rename_i h; split
    · rename_i h2; exact ⟨fun _ => h2, fun _ => rfl⟩
    · rename_i h2; exact ⟨fun q => absurd q (by decide), fun q => absurd q h2⟩
theorem lg_le {a b : Int64} : lg_cmp a b ≤ 0 ↔ a ≤ b := by
  rw [← Int32.not_lt, lg_gt, Int64.not_lt]
theorem lg_ge {a b : Int64} : 0 ≤ lg_cmp a b ↔ b ≤ a := by
  rw [← Int32.not_lt, lg_lt, Int64.not_lt]
theorem g_lcmp_eq {y : Mr} {RQ : RQt} {nc ns pc pc1 : Nat} {L : List (Option Value)} {st : List Value} {S : Shp} {I : Iv} {J : Jv} {pc2 : Nat} {off : Int} {tg : Nat} {a b : Int64} (h1 : Dc (yc y) pc .lcmp 1 pc2) (hd : Dj (yc y) pc2 (.ifCond .eq off) 3 pc1 off tg) (kt : a = b → G y RQ nc ns tg L st S I J) (kf : ¬ a = b → G y RQ nc ns pc1 L st S I J) : G y RQ nc ns pc L (.long b :: .long a :: st) S I J := by
  have k2 : G y RQ nc ns pc2 L (.int (lg_cmp a b) :: st) S I J := g_if_eq hd (fun h => kt (lg_eq.mp h)) (fun h => kf (fun q => h (lg_eq.mpr q)))
  obtain ⟨h1, rfl⟩ := h1
  intro p l e s m args below meth c D ca ad H locs ls C R hl
  exact W.lcmp C.1 C.2.1 h1 (k2 p l e s m args below meth c D ca ad H locs ls C R hl)
theorem g_lcmp_ne {y : Mr} {RQ : RQt} {nc ns pc pc1 : Nat} {L : List (Option Value)} {st : List Value} {S : Shp} {I : Iv} {J : Jv} {pc2 : Nat} {off : Int} {tg : Nat} {a b : Int64} (h1 : Dc (yc y) pc .lcmp 1 pc2) (hd : Dj (yc y) pc2 (.ifCond .ne off) 3 pc1 off tg) (kt : ¬ a = b → G y RQ nc ns tg L st S I J) (kf : a = b → G y RQ nc ns pc1 L st S I J) : G y RQ nc ns pc L (.long b :: .long a :: st) S I J := by
  have k2 : G y RQ nc ns pc2 L (.int (lg_cmp a b) :: st) S I J := g_if_ne hd (fun h => kt (fun q => h (lg_eq.mpr q))) (fun h => kf (lg_eq.mp h))
  obtain ⟨h1, rfl⟩ := h1
  intro p l e s m args below meth c D ca ad H locs ls C R hl
  exact W.lcmp C.1 C.2.1 h1 (k2 p l e s m args below meth c D ca ad H locs ls C R hl)
theorem g_lcmp_lt {y : Mr} {RQ : RQt} {nc ns pc pc1 : Nat} {L : List (Option Value)} {st : List Value} {S : Shp} {I : Iv} {J : Jv} {pc2 : Nat} {off : Int} {tg : Nat} {a b : Int64} (h1 : Dc (yc y) pc .lcmp 1 pc2) (hd : Dj (yc y) pc2 (.ifCond .lt off) 3 pc1 off tg) (kt : a < b → G y RQ nc ns tg L st S I J) (kf : ¬ a < b → G y RQ nc ns pc1 L st S I J) : G y RQ nc ns pc L (.long b :: .long a :: st) S I J := by
  have k2 : G y RQ nc ns pc2 L (.int (lg_cmp a b) :: st) S I J := g_if_lt hd (fun h => kt (lg_lt.mp h)) (fun h => kf (fun q => h (lg_lt.mpr q)))
  obtain ⟨h1, rfl⟩ := h1
  intro p l e s m args below meth c D ca ad H locs ls C R hl
  exact W.lcmp C.1 C.2.1 h1 (k2 p l e s m args below meth c D ca ad H locs ls C R hl)
theorem g_lcmp_ge {y : Mr} {RQ : RQt} {nc ns pc pc1 : Nat} {L : List (Option Value)} {st : List Value} {S : Shp} {I : Iv} {J : Jv} {pc2 : Nat} {off : Int} {tg : Nat} {a b : Int64} (h1 : Dc (yc y) pc .lcmp 1 pc2) (hd : Dj (yc y) pc2 (.ifCond .ge off) 3 pc1 off tg) (kt : b ≤ a → G y RQ nc ns tg L st S I J) (kf : ¬ b ≤ a → G y RQ nc ns pc1 L st S I J) : G y RQ nc ns pc L (.long b :: .long a :: st) S I J := by
  have k2 : G y RQ nc ns pc2 L (.int (lg_cmp a b) :: st) S I J := g_if_ge hd (fun h => kt (lg_ge.mp h)) (fun h => kf (fun q => h (lg_ge.mpr q)))
  obtain ⟨h1, rfl⟩ := h1
  intro p l e s m args below meth c D ca ad H locs ls C R hl
  exact W.lcmp C.1 C.2.1 h1 (k2 p l e s m args below meth c D ca ad H locs ls C R hl)
theorem g_lcmp_gt {y : Mr} {RQ : RQt} {nc ns pc pc1 : Nat} {L : List (Option Value)} {st : List Value} {S : Shp} {I : Iv} {J : Jv} {pc2 : Nat} {off : Int} {tg : Nat} {a b : Int64} (h1 : Dc (yc y) pc .lcmp 1 pc2) (hd : Dj (yc y) pc2 (.ifCond .gt off) 3 pc1 off tg) (kt : b < a → G y RQ nc ns tg L st S I J) (kf : ¬ b < a → G y RQ nc ns pc1 L st S I J) : G y RQ nc ns pc L (.long b :: .long a :: st) S I J := by
  have k2 : G y RQ nc ns pc2 L (.int (lg_cmp a b) :: st) S I J := g_if_gt hd (fun h => kt (lg_gt.mp h)) (fun h => kf (fun q => h (lg_gt.mpr q)))
  obtain ⟨h1, rfl⟩ := h1
  intro p l e s m args below meth c D ca ad H locs ls C R hl
  exact W.lcmp C.1 C.2.1 h1 (k2 p l e s m args below meth c D ca ad H locs ls C R hl)
theorem g_lcmp_le {y : Mr} {RQ : RQt} {nc ns pc pc1 : Nat} {L : List (Option Value)} {st : List Value} {S : Shp} {I : Iv} {J : Jv} {pc2 : Nat} {off : Int} {tg : Nat} {a b : Int64} (h1 : Dc (yc y) pc .lcmp 1 pc2) (hd : Dj (yc y) pc2 (.ifCond .le off) 3 pc1 off tg) (kt : a ≤ b → G y RQ nc ns tg L st S I J) (kf : ¬ a ≤ b → G y RQ nc ns pc1 L st S I J) : G y RQ nc ns pc L (.long b :: .long a :: st) S I J := by
  have k2 : G y RQ nc ns pc2 L (.int (lg_cmp a b) :: st) S I J := g_if_le hd (fun h => kt (lg_le.mp h)) (fun h => kf (fun q => h (lg_le.mpr q)))
  obtain ⟨h1, rfl⟩ := h1
  intro p l e s m args below meth c D ca ad H locs ls C R hl
  exact W.lcmp C.1 C.2.1 h1 (k2 p l e s m args below meth c D ca ad H locs ls C R hl)
abbrev Fq (own : String) (idx ci k : Nat) (ty : FieldType) (fin : Bool) : Prop :=
  ∃ (Cn : String) (T : u_T) (N : Nat), vwCl[ci]? = some (Cn, T, N) ∧ k < N ∧ (T k).1 = Cn ∧ (T k).2.2.2 = fin ∧ parseFieldDescriptor (T k).2.2.1 = some ty ∧ (Cond.fieldLink own idx Cn (T k).2.1 (T k).2.2.1 ∈ TB ∨ ∃ h : String, Cond.fieldLinkNest own idx Cn (T k).2.1 (T k).2.2.1 h ∈ NB)
abbrev ClOK : Prop := ∀ (ci : Nat) (Cn : String) (T : u_T) (N : Nat), vwCl[ci]? = some (Cn, T, N) → (∀ w ∈ u_ws Cn T N, w ∈ TB) ∧ ∃ ty : Nat → FieldType, (∀ k, k < N → parseFieldDescriptor (T k).2.2.1 = some (ty k)) ∧ ∀ a, a < N → ∀ b, b < N → a ≠ b → (T a).2.1 ≠ (T b).2.1
theorem cl_ok : ClOK := by
  intro ci Cn T N h
  have key : ∀ w : Cond, w ∈ lw_tbl ∧ goodWord w = true → w ∈ TB := fun w q => tb_of q.1 q.2
  match ci, h with
  | 0, h => cases h; exact ⟨fun w hw => key w ((by decide +kernel : ∀ w ∈ wsX00, w ∈ lw_tbl ∧ goodWord w = true) w hw), tyX0, tyX0_ok, nmX0⟩
  | 1, h => cases h; exact ⟨fun w hw => key w ((by decide +kernel : ∀ w ∈ wsX10, w ∈ lw_tbl ∧ goodWord w = true) w hw), tyX1, tyX1_ok, nmX1⟩
  | 2, h => cases h; exact ⟨fun w hw => key w ((by decide +kernel : ∀ w ∈ wsX20, w ∈ lw_tbl ∧ goodWord w = true) w hw), tyX2, tyX2_ok, nmX2⟩
  | 3, h => cases h; exact ⟨fun w hw => key w ((by decide +kernel : ∀ w ∈ wsX30, w ∈ lw_tbl ∧ goodWord w = true) w hw), tyX3, tyX3_ok, nmX3⟩
  | 4, h => cases h; exact ⟨fun w hw => key w ((by decide +kernel : ∀ w ∈ wsX40, w ∈ lw_tbl ∧ goodWord w = true) w hw), tyX4, tyX4_ok, nmX4⟩
  | 5, h => cases h; exact ⟨fun w hw => key w ((by decide +kernel : ∀ w ∈ wsX50, w ∈ lw_tbl ∧ goodWord w = true) w hw), tyX5, tyX5_ok, nmX5⟩
  | 6, h => cases h; exact ⟨fun w hw => key w ((by decide +kernel : ∀ w ∈ wsX60, w ∈ lw_tbl ∧ goodWord w = true) w hw), tyX6, tyX6_ok, nmX6⟩
  | 7, h => cases h; exact ⟨fun w hw => key w ((by decide +kernel : ∀ w ∈ wsX70, w ∈ lw_tbl ∧ goodWord w = true) w hw), tyX7, tyX7_ok, nmX7⟩
  | 8, h => cases h; exact ⟨fun w hw => key w ((by decide +kernel : ∀ w ∈ wsX80, w ∈ lw_tbl ∧ goodWord w = true) w hw), tyX8, tyX8_ok, nmX8⟩
  | 9, h => cases h; exact ⟨fun w hw => key w ((by decide +kernel : ∀ w ∈ wsX90, w ∈ lw_tbl ∧ goodWord w = true) w hw), tyX9, tyX9_ok, nmX9⟩
  | 10, h => cases h; exact ⟨fun w hw => key w ((by decide +kernel : ∀ w ∈ wsX100, w ∈ lw_tbl ∧ goodWord w = true) w hw), tyX10, tyX10_ok, nmX10⟩
  | n + 11, h => simp [vwCl] at h
theorem g_getv {y : Mr} {RQ : RQt} {nc ns pc pc1 : Nat} {L : List (Option Value)} {st : List Value} {S : Shp} {I : Iv} {J : Jv} {idx ci k a : Nat} {fs : List (Option Nat ⊕ FieldType)} {x : Option Nat ⊕ FieldType} {ty : FieldType} {fin : Bool} {v : Value} (hd : Dc (yc y) pc (.getfield idx) 3 pc1) (hf : Fq (yn y).cls idx ci k ty fin) (hS : S[a]? = some (.inr (ci, fs))) (hk : fs[k]? = some x) (hv : ∀ ad, rl ad v = fv ad x (I a k) (J a k)) (kk : G y RQ nc ns pc1 L (v :: st) S I J) : G y RQ nc ns pc L (.ref a :: st) S I J := by
  obtain ⟨hd, rfl⟩ := hd
  intro p l e s m args below meth c D ca ad H locs ls C R hl
  have kk := kk p l e s m args below meth c D ca ad H locs ls C R hl
  obtain ⟨hx, hb, -, -, hown, hts, hnb, -, -, hK, -, -, -⟩ := id C
  obtain ⟨Cn, T, N, hc, hkN, hself, -, -, hlink⟩ := hf
  have he := wl_at (ad := ad) (ca := ca) (I := I) (J := J) hS
  have hvv : (fl ad (I a) (J a) 0 fs)[k]? = some (rl ad v) := by
    rw [fl_at fs 0 k x hk, Nat.zero_add, hv ad]
  rcases hlink with hlink | ⟨h, hlink⟩
  · exact va_get hx hb hts (cl_ok ci Cn T N hc).1 hown hK R.2.2.1 a he hc k hkN (hts _ hlink) (fun x q => by rw [hself] at q; exact q) hvv hd kk
  · exact va_getN hx hb hts (cl_ok ci Cn T N hc).1 hown hK R.2.2.1 a he hc k hkN ((hnb _ hlink).use rfl) (fun x q => by rw [hself] at q; exact q) hvv hd kk
theorem g_getI {y : Mr} {RQ : RQt} {nc ns pc pc1 : Nat} {L : List (Option Value)} {st : List Value} {S : Shp} {I : Iv} {J : Jv} {idx ci k a : Nat} {fs : List (Option Nat ⊕ FieldType)} {fin : Bool} (hd : Dc (yc y) pc (.getfield idx) 3 pc1) (hf : Fq (yn y).cls idx ci k .int fin) (hS : S[a]? = some (.inr (ci, fs))) (hk : fs[k]? = some (.inr .int)) (kk : G y RQ nc ns pc1 L (.int (I a k) :: st) S I J) : G y RQ nc ns pc L (.ref a :: st) S I J :=
  g_getv hd hf hS hk (fun _ => rfl) kk
theorem g_getJ {y : Mr} {RQ : RQt} {nc ns pc pc1 : Nat} {L : List (Option Value)} {st : List Value} {S : Shp} {I : Iv} {J : Jv} {idx ci k a : Nat} {fs : List (Option Nat ⊕ FieldType)} {fin : Bool} (hd : Dc (yc y) pc (.getfield idx) 3 pc1) (hf : Fq (yn y).cls idx ci k .long fin) (hS : S[a]? = some (.inr (ci, fs))) (hk : fs[k]? = some (.inr .long)) (kk : G y RQ nc ns pc1 L (.long (J a k) :: st) S I J) : G y RQ nc ns pc L (.ref a :: st) S I J :=
  g_getv hd hf hS hk (fun _ => rfl) kk
theorem g_wb {y : Mr} {RQ : RQt} {nc ns pc : Nat} {L : List (Option Value)} {st : List Value} {S : Shp} {I : Iv} {J : Jv} (kk : wb S I → G y RQ nc ns pc L st S I J) : G y RQ nc ns pc L st S I J := by
  intro p l e s m args below meth c D ca ad H locs ls C R hl
  exact kk R.2.2.2.2 p l e s m args below meth c D ca ad H locs ls C R hl
theorem g_getZ {y : Mr} {RQ : RQt} {nc ns pc pc1 : Nat} {L : List (Option Value)} {st : List Value} {S : Shp} {I : Iv} {J : Jv} {idx ci k a : Nat} {fs : List (Option Nat ⊕ FieldType)} {fin : Bool} (hd : Dc (yc y) pc (.getfield idx) 3 pc1) (hf : Fq (yn y).cls idx ci k .boolean fin) (hS : S[a]? = some (.inr (ci, fs))) (hk : fs[k]? = some (.inr .boolean)) (kk : (I a k = 0 ∨ I a k = 1) → G y RQ nc ns pc1 L (.int (I a k) :: st) S I J) : G y RQ nc ns pc L (.ref a :: st) S I J :=
  g_wb (fun hw => g_getv hd hf hS hk (fun _ => rfl) (kk (hw a _ hS k hk)))
theorem g_getR {y : Mr} {RQ : RQt} {nc ns pc pc1 : Nat} {L : List (Option Value)} {st : List Value} {S : Shp} {I : Iv} {J : Jv} {idx ci k a r : Nat} {fs : List (Option Nat ⊕ FieldType)} {ty : FieldType} {fin : Bool} (hd : Dc (yc y) pc (.getfield idx) 3 pc1) (hf : Fq (yn y).cls idx ci k ty fin) (hS : S[a]? = some (.inr (ci, fs))) (hk : fs[k]? = some (.inl (some r))) (kk : G y RQ nc ns pc1 L (.ref r :: st) S I J) : G y RQ nc ns pc L (.ref a :: st) S I J :=
  g_getv hd hf hS hk (fun _ => rfl) kk
theorem fl_set {ad : Nat → Nat} {f f' : Nat → Int32} {g g' : Nat → Int64} {x' : Option Nat ⊕ FieldType} : ∀ (fs : List (Option Nat ⊕ FieldType)) (k j : Nat), (∀ b, b ≠ k + j → f' b = f b) → (∀ b, b ≠ k + j → g' b = g b) →
    (fl ad f g k fs).set j (fv ad x' (f' (k + j)) (g' (k + j))) = fl ad f' g' k (fs.set j x')
  | [], _, _, _, _ => rfl
  | y :: ys, k, 0, h1, h2 => by
    simp only [fl, List.set_cons_zero, Nat.add_zero]
    congr 1
    have go : ∀ (S : List (Option Nat ⊕ FieldType)) (m : Nat), k < m → fl ad f g m S = fl ad f' g' m S := by
      intro S
      induction S with
      | nil => intro m _; rfl
      | cons z zs ih =>
        intro m hm
        simp only [fl]
        rw [h1 m (by omega), h2 m (by omega), ih (m + 1) (by omega)]
    exact go ys (k + 1) (by omega)
  | y :: ys, k, j + 1, h1, h2 => by
    simp only [fl, List.set_cons_succ]
    have e : k + (j + 1) = k + 1 + j := by omega
    rw [h1 k (by omega), h2 k (by omega), e, fl_set ys (k + 1) j (fun b hb => h1 b (by omega)) (fun b hb => h2 b (by omega))]
theorem Rp.put {ad : Nat → Nat} {ca : FieldType → ClassId} {D : va_G} {s : State} {S S' : Shp} {I I' : Iv} {J J' : Jv} {H H1 : Heap} {locs locs1 : List Loc} {a : Nat} {c' : Sc} (R : Rp ad ca D s S I J H locs) (hS' : S.set a c' = S') (h1 : ∀ b, b ≠ a → I' b = I b) (h2 : ∀ b, b ≠ a → J' b = J b) (hz : H1.size = H.size) (hP : va_P D vwCl ((wl ad ca S I J).set a (ad a, cE ad ca c' (I' a) (J' a))) H1) (hSt : va_S (aA ad) s.heap H1 locs1) (hw : wb S' I') : Rp ad ca D s S' I' J' H1 locs1 := by
  subst hS'
  rw [wl_set h1 h2] at hP
  exact ⟨by rw [hz, R.1]; simp, by simpa using R.2.1, hP, hSt, hw⟩
theorem g_putv {y : Mr} {RQ : RQt} {nc ns pc pc1 : Nat} {L : List (Option Value)} {st : List Value} {S : Shp} {I : Iv} {J : Jv} {idx ci k a : Nat} {fs : List (Option Nat ⊕ FieldType)} {x' : Option Nat ⊕ FieldType} {ty : FieldType} {fin : Bool} {v : Value} {S' : Shp} {I' : Iv} {J' : Jv} (hd : Dc (yc y) pc (.putfield idx) 3 pc1) (hf : Fq (yn y).cls idx ci k ty fin) (hfin : fin = false ∨ (yn y).name = "<init>" ∧ ∃ Cn T N, vwCl[ci]? = some (Cn, T, N) ∧ Cn = (yn y).cls) (hS : S[a]? = some (.inr (ci, fs))) (hk : k < fs.length) (hS' : S.set a (.inr (ci, fs.set k x')) = S')
    (h1 : ∀ b j, (b ≠ a ∨ j ≠ k) → I' b j = I b j) (h2 : ∀ b j, (b ≠ a ∨ j ≠ k) → J' b j = J b j) (hv : ∀ ad, rl ad v = fv ad x' (I' a k) (J' a k)) (hn : ∀ ad, narrow ty (rl ad v) = rl ad v) (hfit : ∀ ad, fits ty (rl ad v) = true) (hw : wb S I → wb S' I')
    (kk : G y RQ nc ns pc1 L st S' I' J') : G y RQ nc ns pc L (v :: .ref a :: st) S I J := by
  obtain ⟨hd, rfl⟩ := hd
  intro p l e s m args below meth c D ca ad H locs ls C R hl
  obtain ⟨hx, hb, -, -, hown, hts, hnb, -, hini, hK, -, hac, -⟩ := id C
  obtain ⟨Cn, T, N, hc, hkN, hself, hfn, hpar, hlink⟩ := hf
  obtain ⟨hin, tyf, hty, hnm⟩ := cl_ok ci Cn T N hc
  have he := wl_at (ad := ad) (ca := ca) (I := I) (J := J) hS
  have hap := va_apart (own := (yn y).cls) hts hin tyf hty hnm hK hc
  have hP := R.2.2.1
  have hD := wl_D (ca := ca) (I := I) (J := J) hac R.2.1
  obtain ⟨r, g1, cell, q1, q2, q3, q4⟩ := hP a _ he
  have hr : r = (Cn, T, N) := Option.some.inj (g1.symm.trans hc)
  subst hr
  obtain ⟨hSl, hfc, kC, hkC, hkind⟩ := hK.1 ci _ hc
  obtain ⟨cf, kf, fi, f, hi, hsl⟩ := hSl k hkN
  have hst := (u_facts hfc hkC (u_lays hts hin hkN) hi).1
  have hlen : k < (fl ad (I a) (J a) 0 fs).length := by rw [fl_len]; exact hk
  have fin' : ∀ (H' : Heap) (locs1 : List Loc), H'[ad a]? = some (cell.setSlot f.slot (rl ad v)) → H'.size = H.size → (∀ q, q ≠ ad a → H'[q]? = H[q]?) → va_S (aA ad) s.heap H' locs1 → W p l e (yR y) s m args below meth c H' locs1 nc ns (RQ D ca ad below args s) (F0 m (pc + 3) ls (st.map (rl ad))) := by
    intro H' locs1 e1 e2 e3 e4
    rw [hsl] at e1
    have hset : (fl ad (I a) (J a) 0 fs).set k (rl ad v) = fl ad (I' a) (J' a) 0 (fs.set k x') := by
      have := fl_set (ad := ad) (f := I a) (f' := I' a) (g := J a) (g' := J' a) (x' := x') fs 0 k (fun b hb => h1 a b (Or.inr (by omega))) (fun b hb => h2 a b (Or.inr (by omega)))
      rw [Nat.zero_add] at this
      rw [← this, hv ad]
    have hP1 := hP.set hD he (e := .inr (ci, (fl ad (I a) (J a) 0 fs).set k (rl ad v))) ⟨_, hc, t_OB.to (V := updV (vp_V (fl ad (I a) (J a) 0 fs)) k (rl ad v)) ⟨_, e1, q2, q3, t_set q4 hap hkN (rl ad v)⟩ (fun j _ => vp_updV_set hlen (rl ad v) j)⟩ e3
    rw [hset] at hP1
    exact kk p l e s m args below meth c D ca ad H' locs1 ls C (R.put hS' (fun b hb => funext fun j => h1 b j (Or.inl hb)) (fun b hb => funext fun j => h2 b j (Or.inl hb)) e2 hP1 e4 (hw R.2.2.2.2)) hl
  have hAa : aA ad (ad a) := hD.2 a _ he
  have hlay := hts _ (hin _ (u_in_lay hkN))
  unfold u_lay at hlay
  rcases hfin with hfin | ⟨hi1, Cn', T', N', hc', hCn⟩
  · rw [if_neg (by rw [hfn, hfin]; decide)] at hlay
    have h6 := u_store hfc hkC hkind hlay hi hpar (hn ad) (hfit ad)
    rcases hlink with hlink | ⟨h, hlink⟩
    · exact W.putK hx hb (f := f) ⟨hown, hts _ hlink, ⟨_, _, _, by rw [hself] at hi; exact hi⟩, hst⟩ (by rw [q2]; exact h6) q1 q3 (by rw [hsl]; exact k2_hasslot (q4 k hkN)) rfl rfl hd fun H' e1 e2 e3 => fin' H' _ e1 e2 e3 (R.2.2.2.1.put e2 e3 hAa)
    · exact va_WputK hx hb (f := f) hown ((hnb _ hlink).use rfl) (by rw [hself] at hi; exact hi) hst (by rw [q2]; exact h6) q1 q3 (by rw [hsl]; exact k2_hasslot (q4 k hkN)) rfl rfl hd fun H' e1 e2 e3 => fin' H' _ e1 e2 e3 (R.2.2.2.1.put e2 e3 hAa)
  · cases hfnn : (T k).2.2.2 with
    | false =>
      rw [if_neg (by rw [hfnn]; decide)] at hlay
      have h6 := u_store hfc hkC hkind hlay hi hpar (hn ad) (hfit ad)
      rcases hlink with hlink | ⟨h, hlink⟩
      · exact W.putK hx hb (f := f) ⟨hown, hts _ hlink, ⟨_, _, _, by rw [hself] at hi; exact hi⟩, hst⟩ (by rw [q2]; exact h6) q1 q3 (by rw [hsl]; exact k2_hasslot (q4 k hkN)) rfl rfl hd fun H' e1 e2 e3 => fin' H' _ e1 e2 e3 (R.2.2.2.1.put e2 e3 hAa)
      · exact va_WputK hx hb (f := f) hown ((hnb _ hlink).use rfl) (by rw [hself] at hi; exact hi) hst (by rw [q2]; exact h6) q1 q3 (by rw [hsl]; exact k2_hasslot (q4 k hkN)) rfl rfl hd fun H' e1 e2 e3 => fin' H' _ e1 e2 e3 (R.2.2.2.1.put e2 e3 hAa)
    | true =>
      rw [if_pos hfnn] at hlay
      rw [hc] at hc'
      cases hc'
      have hcf : m.cls = cf := by
        obtain ⟨_, _, c', _, _, _, -, -, hf', -, -, -, hown2, -⟩ := Cond.laysFinal_spec hlay
        have e1 : c' = cf := by have := hi.symm.trans hf'; simp at this; exact this.1.symm
        rw [hself, hCn] at hown2
        rw [← e1]; exact Option.some.inj (hown.symm.trans hown2)
      have h6 := u_fits hfc hkC hkind (Or.inr hlay) hi hpar (hn ad) (hfit ad)
      rcases hlink with hlink | ⟨h, hlink⟩
      · exact W.putFinK hx hb hown (hts _ hlink) (by rw [hself] at hi; exact hi) hst hcf (hini hi1) (by rw [q2]; exact h6) q1 q3 (by rw [hsl]; exact k2_hasslot (q4 k hkN)) rfl rfl hd fun H' e1 e2 e3 => fin' H' _ e1 e2 e3 (R.2.2.2.1.put e2 e3 hAa)
      · have ha : ad a < H.size := (Array.getElem?_eq_some_iff.mp q1).1
        refine va_Wputf hx hb hown ((hnb _ hlink).use rfl) (by rw [hself] at hi; exact hi) hst (Or.inr ⟨hcf, hini hi1⟩) q1 (by rw [q3]; exact fun h => by cases h) (by rw [hsl]; exact k2_hasslot (q4 k hkN)) h6.1 (by rw [q3, q2]; exact h6.2) rfl rfl hd ?_
        have e3 : ∀ q, q ≠ ad a → (H.setIfInBounds (ad a) (cell.setSlot f.slot (rl ad v)))[q]? = H[q]? := fun q hq => by simp [Array.getElem?_setIfInBounds, Ne.symm hq]
        exact fin' _ _ (by simp [Array.getElem?_setIfInBounds, ha]) (by simp) e3 (R.2.2.2.1.put (by simp) e3 hAa)
end
section
theorem vin {i N : Int32} {n : Nat} (hN : N.toInt = (n : Int)) (h : 0 ≤ i ∧ i < N) : vp_in i n := by
  intro q
  have h0 : (0 : Int) ≤ i.toInt := by simpa using Int32.le_iff_toInt_le.mp h.1
  have h1 := Int32.lt_iff_toInt_lt.mp h.2
  rcases q with q | q
  · have := Int32.lt_iff_toInt_lt.mp q
    simp at this
    omega
  · have e : i.toNatClampNeg = i.toInt.toNat := rfl
    omega
theorem wb_set {S : Shp} {I I' : Iv} {a : Nat} {c' : Sc} (h : wb S I) (h1 : ∀ b, b ≠ a → I' b = I b) (h2 : wbC c' (I' a)) : wb (S.set a c') I' := by
  intro b c hb
  by_cases hba : b = a
  · subst hba
    rw [List.getElem?_set_self (by simpa using (List.getElem?_eq_some_iff.mp hb).1)] at hb
    cases hb
    exact h2
  · rw [List.getElem?_set_ne (Ne.symm hba)] at hb
    rw [h1 b hba]
    exact h b c hb
theorem wI_off {I : Iv} {a i : Nat} {v : Int32} (b : Nat) (h : b ≠ a) : wI I a i v b = I b := wI_row h
theorem wJ_off {J : Jv} {a i : Nat} {v : Int64} (b : Nat) (h : b ≠ a) : wJ J a i v b = J b := wJ_row h
theorem g_putI {y : Mr} {RQ : RQt} {nc ns pc pc1 : Nat} {L : List (Option Value)} {st : List Value} {S : Shp} {I : Iv} {J : Jv} {idx ci k a : Nat} {fs : List (Option Nat ⊕ FieldType)} {v : Int32} (hd : Dc (yc y) pc (.putfield idx) 3 pc1) (hf : Fq (yn y).cls idx ci k .int false) (hS : S[a]? = some (.inr (ci, fs))) (hk : fs[k]? = some (.inr .int))  (kk : G y RQ nc ns pc1 L st S (wI I a k v) J) : G y RQ nc ns pc L (.int v :: .ref a :: st) S I J := by
  have hkl := (List.getElem?_eq_some_iff.mp hk).1
  have e1 : fs.set k (.inr .int) = fs := list_set_same hk
  refine g_putv (x' := .inr .int) (S' := S) (I' := (wI I a k v)) (J' := J) hd hf (Or.inl rfl) hS hkl (by rw [e1]; exact list_set_same hS) ?_ ?_ (fun ad => ?_) (fun ad => ?_) (fun ad => ?_) ?_ kk
  · intro b j h; exact wI_ne h
  · intro b j h; rfl
  · show Value.int _ = Value.int _; rw [wI_self]
  · rfl
  · rfl
  · intro hw
    rw [← list_set_same hS]
    refine wb_set hw (fun b hb => wI_row hb) ?_
    intro j hj
    have := hw a _ hS j hj
    by_cases hjk : j = k
    · subst hjk; rw [hk] at hj; cases hj
    · rw [wI_ne (Or.inr hjk)]; exact this
theorem g_putZ {y : Mr} {RQ : RQt} {nc ns pc pc1 : Nat} {L : List (Option Value)} {st : List Value} {S : Shp} {I : Iv} {J : Jv} {idx ci k a : Nat} {fs : List (Option Nat ⊕ FieldType)} {v : Int32} (hd : Dc (yc y) pc (.putfield idx) 3 pc1) (hf : Fq (yn y).cls idx ci k .boolean false) (hS : S[a]? = some (.inr (ci, fs))) (hk : fs[k]? = some (.inr .boolean)) (hv : v = 0 ∨ v = 1) (kk : G y RQ nc ns pc1 L st S (wI I a k v) J) : G y RQ nc ns pc L (.int v :: .ref a :: st) S I J := by
  have hkl := (List.getElem?_eq_some_iff.mp hk).1
  have e1 : fs.set k (.inr .boolean) = fs := list_set_same hk
  refine g_putv (x' := .inr .boolean) (S' := S) (I' := (wI I a k v)) (J' := J) hd hf (Or.inl rfl) hS hkl (by rw [e1]; exact list_set_same hS) ?_ ?_ (fun ad => ?_) (fun ad => ?_) (fun ad => ?_) ?_ kk
  · intro b j h; exact wI_ne h
  · intro b j h; rfl
  · show Value.int _ = Value.int _; rw [wI_self]
  · rcases hv with rfl | rfl <;> rfl
  · rcases hv with rfl | rfl <;> rfl
  · intro hw
    rw [← list_set_same hS]
    refine wb_set hw (fun b hb => wI_row hb) ?_
    intro j hj
    have := hw a _ hS j hj
    by_cases hjk : j = k
    · subst hjk; rw [wI_self]; exact hv
    · rw [wI_ne (Or.inr hjk)]; exact this
theorem g_putJ {y : Mr} {RQ : RQt} {nc ns pc pc1 : Nat} {L : List (Option Value)} {st : List Value} {S : Shp} {I : Iv} {J : Jv} {idx ci k a : Nat} {fs : List (Option Nat ⊕ FieldType)} {v : Int64} (hd : Dc (yc y) pc (.putfield idx) 3 pc1) (hf : Fq (yn y).cls idx ci k .long false) (hS : S[a]? = some (.inr (ci, fs))) (hk : fs[k]? = some (.inr .long))  (kk : G y RQ nc ns pc1 L st S I (wJ J a k v)) : G y RQ nc ns pc L (.long v :: .ref a :: st) S I J := by
  have hkl := (List.getElem?_eq_some_iff.mp hk).1
  have e1 : fs.set k (.inr .long) = fs := list_set_same hk
  refine g_putv (x' := .inr .long) (S' := S) (I' := I) (J' := (wJ J a k v)) hd hf (Or.inl rfl) hS hkl (by rw [e1]; exact list_set_same hS) ?_ ?_ (fun ad => ?_) (fun ad => ?_) (fun ad => ?_) ?_ kk
  · intro b j h; rfl
  · intro b j h; exact wJ_ne h
  · show Value.long _ = Value.long _; rw [wJ_self]
  · rfl
  · rfl
  · exact fun hw => hw
theorem g_putR {y : Mr} {RQ : RQt} {nc ns pc pc1 : Nat} {L : List (Option Value)} {st : List Value} {S : Shp} {I : Iv} {J : Jv} {idx ci k a r : Nat} {fs fs' : List (Option Nat ⊕ FieldType)} {ty : FieldType} {fin : Bool} {z : Option Nat} {S' : Shp} (hd : Dc (yc y) pc (.putfield idx) 3 pc1) (hf : Fq (yn y).cls idx ci k ty fin) (hfin : fin = false ∨ (yn y).name = "<init>" ∧ ∃ Cn T N, vwCl[ci]? = some (Cn, T, N) ∧ Cn = (yn y).cls) (hS : S[a]? = some (.inr (ci, fs))) (hk : fs[k]? = some (.inl z)) (hty : (∃ n, ty = .object n) ∨ ∃ t, ty = .array t) (hfs : fs.set k (.inl (some r)) = fs') (hS' : S.set a (.inr (ci, fs')) = S') (kk : G y RQ nc ns pc1 L st S' I J) : G y RQ nc ns pc L (.ref r :: .ref a :: st) S I J := by
  subst hfs
  have hkl := (List.getElem?_eq_some_iff.mp hk).1
  refine g_putv (x' := .inl (some r)) (S' := S') (I' := I) (J' := J) hd hf hfin hS hkl hS' (fun _ _ _ => rfl) (fun _ _ _ => rfl) (fun ad => rfl) (fun ad => ?_) (fun ad => ?_) ?_ kk
  · rcases hty with ⟨n, rfl⟩ | ⟨t, rfl⟩ <;> rfl
  · rcases hty with ⟨n, rfl⟩ | ⟨t, rfl⟩ <;> rfl
  · intro hw
    subst hS'
    refine wb_set hw (fun b hb => rfl) ?_
    intro j hj
    by_cases hjk : j = k
    · subst hjk; rw [List.getElem?_set_self hkl] at hj; cases hj
    · rw [List.getElem?_set_ne (Ne.symm hjk)] at hj; exact hw a _ hS j hj
theorem g_iaload {y : Mr} {RQ : RQt} {nc ns pc pc1 : Nat} {L : List (Option Value)} {st : List Value} {S : Shp} {I : Iv} {J : Jv} {a n j : Nat} {i N : Int32} (hd : Dc (yc y) pc .iaload 1 pc1) (hS : S[a]? = some (.inl (.int, n))) (hN : N.toInt = (n : Int)) (hi : 0 ≤ i ∧ i < N) (hj : i.toNatClampNeg = j) (kk : (G y RQ nc ns pc1 L (.int (I a j) :: st) S I J)) : G y RQ nc ns pc L (.int i :: .ref a :: st) S I J := by
  obtain ⟨hd, rfl⟩ := hd
  subst hj
  intro p l e s m args below meth c D ca ad H locs ls C R hl
  have he := wl_at (ad := ad) (ca := ca) (I := I) (J := J) hS
  exact va_iald C.1 C.2.1 C.2.2.2.2.2.2.2.2.2.1 R.2.2.1 a 0 he rfl (vin hN hi) hd (kk p l e s m args below meth c D ca ad H locs ls C R hl)
theorem g_laload {y : Mr} {RQ : RQt} {nc ns pc pc1 : Nat} {L : List (Option Value)} {st : List Value} {S : Shp} {I : Iv} {J : Jv} {a n j : Nat} {i N : Int32} (hd : Dc (yc y) pc .laload 1 pc1) (hS : S[a]? = some (.inl (.long, n))) (hN : N.toInt = (n : Int)) (hi : 0 ≤ i ∧ i < N) (hj : i.toNatClampNeg = j) (kk : (G y RQ nc ns pc1 L (.long (J a j) :: st) S I J)) : G y RQ nc ns pc L (.int i :: .ref a :: st) S I J := by
  obtain ⟨hd, rfl⟩ := hd
  subst hj
  intro p l e s m args below meth c D ca ad H locs ls C R hl
  have he := wl_at (ad := ad) (ca := ca) (I := I) (J := J) hS
  exact va_lald C.1 C.2.1 C.2.2.2.2.2.2.2.2.2.1 R.2.2.1 a 1 he rfl (vin hN hi) hd (kk p l e s m args below meth c D ca ad H locs ls C R hl)
theorem g_baload {y : Mr} {RQ : RQt} {nc ns pc pc1 : Nat} {L : List (Option Value)} {st : List Value} {S : Shp} {I : Iv} {J : Jv} {a n j : Nat} {i N : Int32} (hd : Dc (yc y) pc .baload 1 pc1) (hS : S[a]? = some (.inl (.boolean, n))) (hN : N.toInt = (n : Int)) (hi : 0 ≤ i ∧ i < N) (hj : i.toNatClampNeg = j) (kk : ((I a j = 0 ∨ I a j = 1) → G y RQ nc ns pc1 L (.int (I a j) :: st) S I J)) : G y RQ nc ns pc L (.int i :: .ref a :: st) S I J := by
  obtain ⟨hd, rfl⟩ := hd
  subst hj
  intro p l e s m args below meth c D ca ad H locs ls C R hl
  have kk := kk (R.2.2.2.2 a _ hS i.toNatClampNeg)
  have he := wl_at (ad := ad) (ca := ca) (I := I) (J := J) hS
  exact va_zald C.1 C.2.1 C.2.2.2.2.2.2.2.2.2.1 R.2.2.1 a 2 he rfl (vin hN hi) hd (kk p l e s m args below meth c D ca ad H locs ls C R hl)
theorem g_caload {y : Mr} {RQ : RQt} {nc ns pc pc1 : Nat} {L : List (Option Value)} {st : List Value} {S : Shp} {I : Iv} {J : Jv} {a n j : Nat} {i N : Int32} (hd : Dc (yc y) pc .caload 1 pc1) (hS : S[a]? = some (.inl (.char, n))) (hN : N.toInt = (n : Int)) (hi : 0 ≤ i ∧ i < N) (hj : i.toNatClampNeg = j) (kk : (G y RQ nc ns pc1 L (.int (I a j) :: st) S I J)) : G y RQ nc ns pc L (.int i :: .ref a :: st) S I J := by
  obtain ⟨hd, rfl⟩ := hd
  subst hj
  intro p l e s m args below meth c D ca ad H locs ls C R hl
  have he := wl_at (ad := ad) (ca := ca) (I := I) (J := J) hS
  exact va_cald C.1 C.2.1 C.2.2.2.2.2.2.2.2.2.1 R.2.2.1 a 3 he rfl (vin hN hi) hd (kk p l e s m args below meth c D ca ad H locs ls C R hl)
theorem g_iastore {y : Mr} {RQ : RQt} {nc ns pc pc1 : Nat} {L : List (Option Value)} {st : List Value} {S : Shp} {I : Iv} {J : Jv} {a n j : Nat} {i N : Int32} {v : Int32} (hd : Dc (yc y) pc .iastore 1 pc1) (hS : S[a]? = some (.inl (.int, n))) (hN : N.toInt = (n : Int)) (hi : 0 ≤ i ∧ i < N) (hj : i.toNatClampNeg = j)  (kk : G y RQ nc ns pc1 L st S (wI I a j v) J) : G y RQ nc ns pc L (.int v :: .int i :: .ref a :: st) S I J := by
  obtain ⟨hd, rfl⟩ := hd
  subst hj
  intro p l e s m args below meth c D ca ad H locs ls C R hl
  have he := wl_at (ad := ad) (ca := ca) (I := I) (J := J) hS
  have hD := wl_D (ca := ca) (I := I) (J := J) C.2.2.2.2.2.2.2.2.2.2.2.1 R.2.1
  have hAa : aA ad (ad a) := hD.2 a _ he
  have hcell := R.2.2.1 a _ he
  refine W.iast C.1 C.2.1 hcell ((C.2.2.2.2.2.2.2.2.2.1.2 0 _ rfl).1 n (fun z => .int (I a z))) (fun q => by cases q) (by show ¬ (i < 0 ∨ (arrV _ _ _).slots.size ≤ _); rw [arrV_size]; exact vin hN hi) rfl rfl hd fun H1 e1 z oq => ?_
  refine kk p l e s m args below meth c D ca ad H1 _ ls C (R.put (c' := .inl (.int, n)) (list_set_same hS) (fun b hb => wI_row hb) (fun b hb => rfl) z (R.2.2.1.set hD he ?_ oq) (R.2.2.2.1.put z oq hAa) ?_) hl
  · show H1[ad a]? = some (vp_cell _ _)
    rw [e1]
    dsimp only
    rw [vp_cell_i, vp_cell_i, arrV_store]
    congr 2
    funext q
    by_cases hq : q = i.toNatClampNeg
    · subst hq; simp [updV, wI]
    · simp [updV, wI, hq]
  · rw [← list_set_same hS]; exact wb_set R.2.2.2.2 (fun b hb => wI_row hb) trivial
theorem g_lastore {y : Mr} {RQ : RQt} {nc ns pc pc1 : Nat} {L : List (Option Value)} {st : List Value} {S : Shp} {I : Iv} {J : Jv} {a n j : Nat} {i N : Int32} {v : Int64} (hd : Dc (yc y) pc .lastore 1 pc1) (hS : S[a]? = some (.inl (.long, n))) (hN : N.toInt = (n : Int)) (hi : 0 ≤ i ∧ i < N) (hj : i.toNatClampNeg = j)  (kk : G y RQ nc ns pc1 L st S I (wJ J a j v)) : G y RQ nc ns pc L (.long v :: .int i :: .ref a :: st) S I J := by
  obtain ⟨hd, rfl⟩ := hd
  subst hj
  intro p l e s m args below meth c D ca ad H locs ls C R hl
  have he := wl_at (ad := ad) (ca := ca) (I := I) (J := J) hS
  have hD := wl_D (ca := ca) (I := I) (J := J) C.2.2.2.2.2.2.2.2.2.2.2.1 R.2.1
  have hAa : aA ad (ad a) := hD.2 a _ he
  have hcell := R.2.2.1 a _ he
  refine W.last C.1 C.2.1 hcell ((C.2.2.2.2.2.2.2.2.2.1.2 1 _ rfl).1 n (fun z => .long (J a z))) (fun q => by cases q) (by show ¬ (i < 0 ∨ (arrV _ _ _).slots.size ≤ _); rw [arrV_size]; exact vin hN hi) rfl rfl hd fun H1 e1 z oq => ?_
  refine kk p l e s m args below meth c D ca ad H1 _ ls C (R.put (c' := .inl (.long, n)) (list_set_same hS) (fun b hb => rfl) (fun b hb => wJ_row hb) z (R.2.2.1.set hD he ?_ oq) (R.2.2.2.1.put z oq hAa) ?_) hl
  · show H1[ad a]? = some (vp_cell _ _)
    rw [e1]
    dsimp only
    rw [vp_cell_l, vp_cell_l, arrV_store]
    congr 2
    funext q
    by_cases hq : q = i.toNatClampNeg
    · subst hq; simp [updV, wJ]
    · simp [updV, wJ, hq]
  · exact R.2.2.2.2
theorem g_bastore {y : Mr} {RQ : RQt} {nc ns pc pc1 : Nat} {L : List (Option Value)} {st : List Value} {S : Shp} {I : Iv} {J : Jv} {a n j : Nat} {i N : Int32} {v : Int32} (hd : Dc (yc y) pc .bastore 1 pc1) (hS : S[a]? = some (.inl (.boolean, n))) (hN : N.toInt = (n : Int)) (hi : 0 ≤ i ∧ i < N) (hj : i.toNatClampNeg = j) (hv : v = 0 ∨ v = 1) (kk : G y RQ nc ns pc1 L st S (wI I a j v) J) : G y RQ nc ns pc L (.int v :: .int i :: .ref a :: st) S I J := by
  obtain ⟨hd, rfl⟩ := hd
  subst hj
  intro p l e s m args below meth c D ca ad H locs ls C R hl
  have he := wl_at (ad := ad) (ca := ca) (I := I) (J := J) hS
  have hD := wl_D (ca := ca) (I := I) (J := J) C.2.2.2.2.2.2.2.2.2.2.2.1 R.2.1
  have hAa : aA ad (ad a) := hD.2 a _ he
  have hcell := R.2.2.1 a _ he
  refine W.zast C.1 C.2.1 hcell ((C.2.2.2.2.2.2.2.2.2.1.2 2 _ rfl).1 n (fun z => .int (I a z))) (fun q => by cases q) (by show ¬ (i < 0 ∨ (arrV _ _ _).slots.size ≤ _); rw [arrV_size]; exact vin hN hi) rfl rfl hd fun H1 e1 z oq => ?_
  refine kk p l e s m args below meth c D ca ad H1 _ ls C (R.put (c' := .inl (.boolean, n)) (list_set_same hS) (fun b hb => wI_row hb) (fun b hb => rfl) z (R.2.2.1.set hD he ?_ oq) (R.2.2.2.1.put z oq hAa) ?_) hl
  · show H1[ad a]? = some (vp_cell _ _)
    rw [e1, show narrow .boolean (.int v) = .int v by rcases hv with rfl | rfl <;> rfl]
    dsimp only
    rw [vp_cell_i, vp_cell_i, arrV_store]
    congr 2
    funext q
    by_cases hq : q = i.toNatClampNeg
    · subst hq; simp [updV, wI]
    · simp [updV, wI, hq]
  · rw [← list_set_same hS]
    refine wb_set R.2.2.2.2 (fun b hb => wI_row hb) ?_
    intro q
    by_cases hq : q = i.toNatClampNeg
    · subst hq; rw [wI_self]; exact hv
    · rw [wI_ne (Or.inr hq)]; exact R.2.2.2.2 a _ hS q
theorem g_castore {y : Mr} {RQ : RQt} {nc ns pc pc1 : Nat} {L : List (Option Value)} {st : List Value} {S : Shp} {I : Iv} {J : Jv} {a n j : Nat} {i N : Int32} {v : Int32} (hd : Dc (yc y) pc .castore 1 pc1) (hS : S[a]? = some (.inl (.char, n))) (hN : N.toInt = (n : Int)) (hi : 0 ≤ i ∧ i < N) (hj : i.toNatClampNeg = j) (hv : narrow .char (.int v) = .int v) (hv2 : fits .char (.int v) = true) (kk : G y RQ nc ns pc1 L st S (wI I a j v) J) : G y RQ nc ns pc L (.int v :: .int i :: .ref a :: st) S I J := by
  obtain ⟨hd, rfl⟩ := hd
  subst hj
  intro p l e s m args below meth c D ca ad H locs ls C R hl
  have he := wl_at (ad := ad) (ca := ca) (I := I) (J := J) hS
  have hD := wl_D (ca := ca) (I := I) (J := J) C.2.2.2.2.2.2.2.2.2.2.2.1 R.2.1
  have hAa : aA ad (ad a) := hD.2 a _ he
  have hcell := R.2.2.1 a _ he
  refine W.cast C.1 C.2.1 hcell ((C.2.2.2.2.2.2.2.2.2.1.2 3 _ rfl).1 n (fun z => .int (I a z))) (fun q => by cases q) (by show ¬ (i < 0 ∨ (arrV _ _ _).slots.size ≤ _); rw [arrV_size]; exact vin hN hi) rfl rfl hd fun H1 e1 z oq => ?_
  refine kk p l e s m args below meth c D ca ad H1 _ ls C (R.put (c' := .inl (.char, n)) (list_set_same hS) (fun b hb => wI_row hb) (fun b hb => rfl) z (R.2.2.1.set hD he ?_ oq) (R.2.2.2.1.put z oq hAa) ?_) hl
  · show H1[ad a]? = some (vp_cell _ _)
    rw [e1, hv]
    dsimp only
    rw [vp_cell_i, vp_cell_i, arrV_store]
    congr 2
    funext q
    by_cases hq : q = i.toNatClampNeg
    · subst hq; simp [updV, wI]
    · simp [updV, wI, hq]
  · rw [← list_set_same hS]
    refine wb_set R.2.2.2.2 (fun b hb => wI_row hb) ?_
    intro q
    by_cases hq : q = i.toNatClampNeg
    · subst hq; rw [wI_self]; exact hv2
    · rw [wI_ne (Or.inr hq)]; exact R.2.2.2.2 a _ hS q
theorem g_alen {y : Mr} {RQ : RQt} {nc ns pc pc1 : Nat} {L : List (Option Value)} {st : List Value} {S : Shp} {I : Iv} {J : Jv} {a n : Nat} {ty : FieldType} {v : Int32} (hd : Dc (yc y) pc .arraylength 1 pc1) (hS : S[a]? = some (.inl (ty, n))) (hty : ty = .int ∨ ty = .long ∨ ty = .boolean ∨ ty = .char) (hv : Int32.ofNat n = v) (kk : G y RQ nc ns pc1 L (.int v :: st) S I J) : G y RQ nc ns pc L (.ref a :: st) S I J := by
  obtain ⟨hd, rfl⟩ := hd
  intro p l e s m args below meth c D ca ad H locs ls C R hl
  have he := wl_at (ad := ad) (ca := ca) (I := I) (J := J) hS
  have kk := kk p l e s m args below meth c D ca ad H locs ls C R hl
  rcases hty with rfl | rfl | rfl | rfl
  · exact va_alen C.1 C.2.1 C.2.2.2.2.2.2.2.2.2.1 R.2.2.1 a 0 he rfl hv hd kk
  · exact va_alen C.1 C.2.1 C.2.2.2.2.2.2.2.2.2.1 R.2.2.1 a 1 he rfl hv hd kk
  · exact va_alen C.1 C.2.1 C.2.2.2.2.2.2.2.2.2.1 R.2.2.1 a 2 he rfl hv hd kk
  · exact va_alen C.1 C.2.1 C.2.2.2.2.2.2.2.2.2.1 R.2.2.1 a 3 he rfl hv hd kk
theorem g_gets {y : Mr} {RQ : RQt} {nc ns pc pc1 : Nat} {L : List (Option Value)} {st : List Value} {S : Shp} {I : Iv} {J : Jv} {idx j : Nat} {nm : String} {vs : List Int32} (hd : Dc (yc y) pc (.getstatic idx) 3 pc1) (hj : stI[j]? = some (nm, vs)) (hlink : Cond.fieldLinkNest (yn y).cls idx "ColdBox" nm "[I" "ColdBox" ∈ NB) (kk : G y RQ nc ns pc1 L (.ref (1000000 + j) :: st) S I J) : G y RQ nc ns pc L st S I J := by
  obtain ⟨hd, rfl⟩ := hd
  intro p l e s m args below meth c D ca ad H locs ls C R hl
  have kk := kk p l e s m args below meth c D ca ad H locs ls C R hl
  obtain ⟨hx, hb, -, -, hown, hts, hnb, -, -, hK, hSt, -, -⟩ := id C
  exact va_getsN hx hb (hSt.1 j nm vs hj).1 R.2.2.2.1 hown (hnb _ hlink) (fun x q => q) hd kk
theorem g_tload {y : Mr} {RQ : RQt} {nc ns pc pc1 : Nat} {L : List (Option Value)} {st : List Value} {S : Shp} {I : Iv} {J : Jv} {j q : Nat} {nm : String} {vs : List Int32} {i N : Int32} (hd : Dc (yc y) pc .iaload 1 pc1) (hj : stI[j]? = some (nm, vs)) (hN : N.toInt = (vs.length : Int)) (hi : 0 ≤ i ∧ i < N) (hq : i.toNatClampNeg = q) (kk : G y RQ nc ns pc1 L (.int (vs.getD q 0) :: st) S I J) : G y RQ nc ns pc L (.int i :: .ref (1000000 + j) :: st) S I J := by
  obtain ⟨hd, rfl⟩ := hd
  subst hq
  intro p l e s m args below meth c D ca ad H locs ls C R hl
  have kk := kk p l e s m args below meth c D ca ad H locs ls C R hl
  exact va_ti C.1 C.2.1 (C.2.2.2.2.2.2.2.2.2.2.1.1 j nm vs hj).2 R.2.2.2.1 (vin hN hi) rfl hd kk
theorem g_tlen {y : Mr} {RQ : RQt} {nc ns pc pc1 : Nat} {L : List (Option Value)} {st : List Value} {S : Shp} {I : Iv} {J : Jv} {j : Nat} {nm : String} {vs : List Int32} {v : Int32} (hd : Dc (yc y) pc .arraylength 1 pc1) (hj : stI[j]? = some (nm, vs)) (hv : Int32.ofNat vs.length = v) (kk : G y RQ nc ns pc1 L (.int v :: st) S I J) : G y RQ nc ns pc L (.ref (1000000 + j) :: st) S I J := by
  obtain ⟨hd, rfl⟩ := hd
  intro p l e s m args below meth c D ca ad H locs ls C R hl
  have kk := kk p l e s m args below meth c D ca ad H locs ls C R hl
  exact va_tlen C.1 C.2.1 (C.2.2.2.2.2.2.2.2.2.2.1.1 j nm vs hj).2 R.2.2.2.1 hv hd kk
theorem g_ldc {y : Mr} {RQ : RQt} {nc ns pc pc1 : Nat} {L : List (Option Value)} {st : List Value} {S : Shp} {I : Iv} {J : Jv} {idx : Nat} {v : Int32} (hd : Dc (yc y) pc (.ldc idx) 2 pc1) (hw : Cond.constant (yn y).cls idx v ∈ TB) (kk : G y RQ nc ns pc1 L (.int v :: st) S I J) : G y RQ nc ns pc L st S I J := by
  obtain ⟨hd, rfl⟩ := hd
  intro p l e s m args below meth c D ca ad H locs ls C R hl
  exact lv_ldc C.1 C.2.1 C.2.2.2.2.1 (C.2.2.2.2.2.1 _ hw) hd (kk p l e s m args below meth c D ca ad H locs ls C R hl)
theorem g_ldcw {y : Mr} {RQ : RQt} {nc ns pc pc1 : Nat} {L : List (Option Value)} {st : List Value} {S : Shp} {I : Iv} {J : Jv} {idx : Nat} {v : Int32} (hd : Dc (yc y) pc (.ldc_w idx) 3 pc1) (hw : Cond.constant (yn y).cls idx v ∈ TB) (kk : G y RQ nc ns pc1 L (.int v :: st) S I J) : G y RQ nc ns pc L st S I J := by
  obtain ⟨hd, rfl⟩ := hd
  intro p l e s m args below meth c D ca ad H locs ls C R hl
  exact lv_ldcw C.1 C.2.1 C.2.2.2.2.1 (C.2.2.2.2.2.1 _ hw) hd (kk p l e s m args below meth c D ca ad H locs ls C R hl)
theorem g_ldc2 {y : Mr} {RQ : RQt} {nc ns pc pc1 : Nat} {L : List (Option Value)} {st : List Value} {S : Shp} {I : Iv} {J : Jv} {idx : Nat} {v : Int64} (hd : Dc (yc y) pc (.ldc2_w idx) 3 pc1) (hw : Cond.constantLong (yn y).cls idx v ∈ TB) (kk : G y RQ nc ns pc1 L (.long v :: st) S I J) : G y RQ nc ns pc L st S I J := by
  obtain ⟨hd, rfl⟩ := hd
  intro p l e s m args below meth c D ca ad H locs ls C R hl
  exact lv_ldc2 C.1 C.2.1 C.2.2.2.2.1 (C.2.2.2.2.2.1 _ hw) hd (kk p l e s m args below meth c D ca ad H locs ls C R hl)
theorem g_ldcS {y : Mr} {RQ : RQt} {nc ns pc pc1 : Nat} {L : List (Option Value)} {st : List Value} {S : Shp} {I : Iv} {J : Jv} {idx j : Nat} {tx : String} {b : List Int32} (hd : Dc (yc y) pc (.ldc idx) 2 pc1) (hy : (yn y).cls = "ColdBox$Reader") (hj : stS[j]? = some (idx, tx, b)) (kk : G y RQ nc ns pc1 L (.ref (2000000 + j) :: st) S I J) : G y RQ nc ns pc L st S I J := by
  obtain ⟨hd, rfl⟩ := hd
  intro p l e s m args below meth c D ca ad H locs ls C R hl
  have kk := kk p l e s m args below meth c D ca ad H locs ls C R hl
  have hown := C.2.2.2.2.1
  rw [hy] at hown
  exact va_ldcS C.1 C.2.1 hown (C.2.2.2.2.2.2.2.2.2.2.1.2.2.1 j idx tx b hj) hd kk
theorem g_swOut {y : Mr} {RQ : RQt} {nc ns pc pc1 : Nat} {L : List (Option Value)} {st : List Value} {S : Shp} {I : Iv} {J : Jv} {dflt lo hi : Int} {offs : Array Int} {len tg : Nat} {x : Int32} (hd : Dj (yc y) pc (.tableswitch dflt lo hi offs) len pc1 dflt tg) (h : x.toInt < lo ∨ hi < x.toInt) (kk : G y RQ nc ns tg L st S I J) : G y RQ nc ns pc L (.int x :: st) S I J := by
  obtain ⟨hd, rfl, ht⟩ := hd
  intro p l e s m args below meth c D ca ad H locs ls C R hl
  exact lv_tableOut C.1 C.2.1 hd h ht (kk p l e s m args below meth c D ca ad H locs ls C R hl)
theorem g_swIn {y : Mr} {RQ : RQt} {nc ns pc pc1 : Nat} {L : List (Option Value)} {st : List Value} {S : Shp} {I : Iv} {J : Jv} {dflt lo hi off : Int} {offs : Array Int} {len tg : Nat} {x : Int32} (hd : Dj (yc y) pc (.tableswitch dflt lo hi offs) len pc1 off tg) (h1 : ¬ x.toInt < lo) (h2 : ¬ hi < x.toInt) (ho : offs[(x.toInt - lo).toNat]? = some off) (kk : G y RQ nc ns tg L st S I J) : G y RQ nc ns pc L (.int x :: st) S I J := by
  obtain ⟨hd, rfl, ht⟩ := hd
  intro p l e s m args below meth c D ca ad H locs ls C R hl
  exact lv_tableIn C.1 C.2.1 hd h1 h2 ho ht (kk p l e s m args below meth c D ca ad H locs ls C R hl)
theorem g_lookup {y : Mr} {RQ : RQt} {nc ns pc pc1 : Nat} {L : List (Option Value)} {st : List Value} {S : Shp} {I : Iv} {J : Jv} {dflt off : Int} {ps : Array (Int × Int)} {len tg : Nat} {x : Int32} (hd : Dj (yc y) pc (.lookupswitch dflt ps) len pc1 off tg) (hp : (ps.toList.zip (ps.toList.drop 1)).all (fun (a, next) => a.1 < next.1) = true) (ho : Op.lookupswitch.offset ps.toList dflt x.toInt = off) (kk : G y RQ nc ns tg L st S I J) : G y RQ nc ns pc L (.int x :: st) S I J := by
  obtain ⟨hd, rfl, ht⟩ := hd
  intro p l e s m args below meth c D ca ad H locs ls C R hl
  exact lv_lookup C.1 C.2.1 hd hp ho ht (kk p l e s m args below meth c D ca ad H locs ls C R hl)
end
section
theorem g_ireturn {y : Mr} {Q : Post} {nc ns pc pc1 : Nat} {L : List (Option Value)} {S : Shp} {I : Iv} {J : Jv} {ty : FieldType} {v : Int32} (hd : Dc (yc y) pc .ireturn 1 pc1) (hc : nc = (yR y).cells) (hs : ns = (yR y).slots) (hr : yr y = some ty) (hn : narrow ty (.int v) = .int v) (hQ : Q (some (.int v)) S I J) : G y (rq y Q) nc ns pc L [.int v] S I J := by
  obtain ⟨hd, rfl⟩ := hd
  subst hc; subst hs
  intro p l e s m args below meth c D ca ad H locs ls C R hl
  have hq : ∀ t : State, t.heap = H → s.WarmedH t.vm → Qcx D ca ad Q args s (.returned ((some (.int v) : Option Value).map (rl ad))) t := fun t ht hW => ⟨⟨_, S, I, J, rfl, hQ, Bb.of C R ht hW⟩, R.2.2.2.1.F ht⟩
  exact W.zret C.1 C.2.1 (C.2.2.2.1.trans hr) hn hq R.2.2.2.1.2.2 hd C.2.2.2.2.2.2.2.1
theorem g_lreturn {y : Mr} {Q : Post} {nc ns pc pc1 : Nat} {L : List (Option Value)} {S : Shp} {I : Iv} {J : Jv} {v : Int64} (hd : Dc (yc y) pc .lreturn 1 pc1) (hc : nc = (yR y).cells) (hs : ns = (yR y).slots) (hr : yr y = some .long) (hQ : Q (some (.long v)) S I J) : G y (rq y Q) nc ns pc L [.long v] S I J := by
  obtain ⟨hd, rfl⟩ := hd
  subst hc; subst hs
  intro p l e s m args below meth c D ca ad H locs ls C R hl
  have hq : ∀ t : State, t.heap = H → s.WarmedH t.vm → Qcx D ca ad Q args s (.returned ((some (.long v) : Option Value).map (rl ad))) t := fun t ht hW => ⟨⟨_, S, I, J, rfl, hQ, Bb.of C R ht hW⟩, R.2.2.2.1.F ht⟩
  exact W.lret C.1 C.2.1 (C.2.2.2.1.trans hr) hq R.2.2.2.1.2.2 hd C.2.2.2.2.2.2.2.1
theorem g_return {y : Mr} {Q : Post} {nc ns pc pc1 : Nat} {L : List (Option Value)} {S : Shp} {I : Iv} {J : Jv}  (hd : Dc (yc y) pc .return_ 1 pc1) (hc : nc = (yR y).cells) (hs : ns = (yR y).slots) (hr : yr y = none) (hQ : Q (none) S I J) : G y (rq y Q) nc ns pc L [] S I J := by
  obtain ⟨hd, rfl⟩ := hd
  subst hc; subst hs
  intro p l e s m args below meth c D ca ad H locs ls C R hl
  have hq : ∀ t : State, t.heap = H → s.WarmedH t.vm → Qcx D ca ad Q args s (.returned ((none : Option Value).map (rl ad))) t := fun t ht hW => ⟨⟨_, S, I, J, rfl, hQ, Bb.of C R ht hW⟩, R.2.2.2.1.F ht⟩
  exact W.vret C.1 C.2.1 (C.2.2.2.1.trans hr) hq R.2.2.2.1.2.2 hd C.2.2.2.2.2.2.2.1
theorem g_areturn {y : Mr} {Q : Post} {nc ns pc pc1 : Nat} {L : List (Option Value)} {S : Shp} {I : Iv} {J : Jv} {rt : FieldType} {r : Nat} (hd : Dc (yc y) pc .areturn 1 pc1) (hc : nc = (yR y).cells) (hs : ns = (yR y).slots) (hr : yr y = some rt) (hrt : (∃ n, rt = .object n) ∨ ∃ t, rt = .array t) (hQ : Q (some (.ref r)) S I J) : G y (rq y Q) nc ns pc L [.ref r] S I J := by
  obtain ⟨hd, rfl⟩ := hd
  subst hc; subst hs
  intro p l e s m args below meth c D ca ad H locs ls C R hl
  have hq : ∀ t : State, t.heap = H → s.WarmedH t.vm → Qcx D ca ad Q args s (.returned ((some (.ref r) : Option Value).map (rl ad))) t := fun t ht hW => ⟨⟨_, S, I, J, rfl, hQ, Bb.of C R ht hW⟩, R.2.2.2.1.F ht⟩
  exact W.aret C.1 C.2.1 (C.2.2.2.1.trans hr) hrt (Or.inr ⟨ad r, rfl⟩) hq R.2.2.2.1.2.2 hd C.2.2.2.2.2.2.2.1
theorem g_widen {y : Mr} {RQ : RQt} {nc ns nc' ns' pc : Nat} {L : List (Option Value)} {st : List Value} {S : Shp} {I : Iv} {J : Jv} (h1 : nc ≤ nc') (h2 : ns ≤ ns') (k : G y RQ nc' ns' pc L st S I J) : G y RQ nc ns pc L st S I J := by
  intro p l e s m args below meth c D ca ad H locs ls C R hl
  exact W.widen h1 h2 (k p l e s m args below meth c D ca ad H locs ls C R hl)
theorem g_sub {y : Mr} {RQ : RQt} {nc ns pc : Nat} {L : List (Option Value)} (L' : List (Option Value)) {st : List Value} {S : Shp} {I : Iv} {J : Jv} (hs : ∀ (j : Nat) (v : Value), L'[j]? = some (some v) → L[j]? = some (some v)) (k : G y RQ nc ns pc L' st S I J) : G y RQ nc ns pc L st S I J := by
  intro p l e s m args below meth c D ca ad H locs ls C R hl
  exact k p l e s m args below meth c D ca ad H locs ls C R (lp_sub hl hs)
def enL : List Value → List (Option Value)
  | [] => []
  | v :: vs => if v.category = 2 then some v :: none :: enL vs else some v :: enL vs
theorem enL_args {ad : Nat → Nat} : ∀ (av : List Value) (k : Nat), lpr ad k (enL av) = lv_args k (av.map (rl ad))
  | [], _ => rfl
  | v :: vs, k => by
    by_cases h : v.category = 2
    · simp only [enL, if_pos h, lpr, List.map_cons, lv_args, rl_cat, enL_args vs (k + 1 + 1)]
    · simp only [enL, if_neg h, lpr, List.map_cons, lv_args, rl_cat, enL_args vs (k + 1)]
theorem enL_len {ad : Nat → Nat} : ∀ (av : List Value), (lg_sl (av.map (rl ad))).length = (enL av).length
  | [] => rfl
  | v :: vs => by
    have := enL_len (ad := ad) vs
    by_cases h : v.category = 2
    · simp only [enL, if_pos h, List.map_cons, lg_sl, List.flatMap_cons, rl_cat, List.length_append, List.length_cons, List.length_nil] at this ⊢
      omega
    · simp only [enL, if_neg h, List.map_cons, lg_sl, List.flatMap_cons, rl_cat, List.length_append, List.length_cons, List.length_nil] at this ⊢
      omega
theorem lpr_none {ad : Nat → Nat} : ∀ (k n : Nat), lpr ad k (List.replicate n none) = []
  | _, 0 => rfl
  | k, n + 1 => by simp only [List.replicate_succ, lpr, lpr_none (k + 1) n]
theorem lpr_app {ad : Nat → Nat} : ∀ (A B : List (Option Value)) (k : Nat), lpr ad k (A ++ B) = lpr ad k A ++ lpr ad (k + A.length) B
  | [], B, k => by simp [lpr]
  | none :: A, B, k => by simp only [List.cons_append, lpr, lpr_app A B (k + 1), List.length_cons]; rw [show k + 1 + A.length = k + (A.length + 1) by omega]
  | some v :: A, B, k => by simp only [List.cons_append, lpr, lpr_app A B (k + 1), List.length_cons]; rw [show k + 1 + A.length = k + (A.length + 1) by omega]
theorem ct_of {y : Mr} {av : List Value} {S : Shp} {I : Iv} {J : Jv} {Q : Post} {L : List (Option Value)} (k : Nat) (hpl : plainName (yn y).cls = true) (hL : enL av ++ List.replicate k none = L) (hk : L.length = yl y) (h : G y (rq y Q) 0 0 0 L [] S I J) : Ct y av S I J Q := by
  intro l D ca ad hac
  refine Met.ofW (cc := yc y) (maxL := yl y) (ret := yr y) hpl rfl ?_
  intro p e s m args below meth c s₁ B hml hv
  obtain ⟨rfl, hz, hlen, hP, hK, hSt, hnb, hw⟩ := hv
  have hts0 := atoms_spec (ws := wsA y) B.pre
  have hlk : (enL av).length ≤ yl y := by rw [← hk, ← hL]; simp
  have hl := lv_entry (av.map (rl ad)) (n := yl y) (by rw [enL_len]; exact hlk)
  rw [lg_entry_eq]
  generalize (lg_sl (av.map (rl ad)) ++ List.replicate (yl y - (lg_sl (av.map (rl ad))).length) Slot.unset).toArray = ls at hl ⊢
  have hl2 : lv_has ls (yl y) (lpr ad 0 L) := by
    rw [← hL, lpr_app, lpr_none, List.append_nil, enL_args]
    exact hl
  exact h p l e s m _ below meth c D ca ad s.heap [] ls ⟨B.exec, B.bytes, hml, B.returns, findClass_of_methodNamed B.named, fun w hw => hts0 w (List.mem_cons_of_mem _ hw), hnb, B.notSynchronized, fun hi => (name_of_methodNamed B.named B.method).1.trans hi, hK, hSt, hac, by rw [hz]; omega⟩ ⟨hz, hlen, hP, va_S.rf, hw⟩ hl2
theorem Ct.mono {y : Mr} {av : List Value} {S : Shp} {I : Iv} {J : Jv} {Q Q' : Post} (h : Ct y av S I J Q) (hq : ∀ r S' I' J', Q r S' I' J' → Q' r S' I' J') : Ct y av S I J Q' := by
  intro l D ca ad hac
  have := h l D ca ad hac
  intro p e ha hc hk s m args below hf hp hP hT
  obtain ⟨k, o, h1, h2, h3, ⟨⟨⟨r, S', I', J', q1, q2, q3⟩, q4⟩, q5⟩⟩ := this p e ha hc hk s m args below hf hp hP hT
  exact ⟨k, o, h1, h2, h3, ⟨⟨⟨r, S', I', J', q1, hq _ _ _ _ q2, q3⟩, q4⟩, q5⟩⟩
abbrev Cs (y z : Mr) (n : Nat) : Prop := Cond.code (yn z) (yc z) (yl z) (yr z) ∈ TB ∧ Cond.initialized (yn z).cls ∈ TB ∧ ((yn z).cls ≠ "java/lang/invoke/MethodHandle" ∧ (yn z).cls ≠ "java/lang/invoke/VarHandle" ∧ (parseMethodDescriptor (yn z).desc).map (fun d => d.parameters.length) = some n) ∧ ((yR z).frames + 1 ≤ (yR y).frames ∧ 8 + (yl z + 11) + (yR z).locals ≤ (yR y).locals)
abbrev Lk (own : String) (idx : Nat) (x : MethodName) : Prop := Cond.methodLink own idx x ∈ TB ∨ ∃ h : String, Cond.methodLinkNest own idx x h ∈ NB
theorem bb_blind {D : va_G} {ca : FieldType → ClassId} {ad : Nat → Nat} {S : Shp} {I : Iv} {J : Jv} {av : List Value} : FrameBlind (va_Pc av (Bb D ca ad S I J)) := by
  intro a U g mk hq
  obtain ⟨h1, h2, h3, h4, h5, h6, h7, h8⟩ := hq
  exact ⟨h1, h2, h3, h4, va_K.moved (u := U) (U := U.calling g mk a) (Vm.Alike.refl U.vm) h5, Stt.warm (s := U) (U := U.calling g mk a) (State.WarmedH.refl U) h6, nb_warm (s := U) (U := U.calling g mk a) (State.WarmedH.refl U) h7, h8⟩
theorem map_toList {f : Value → Value} (r : Option Value) (st : List Value) : (r.map f).toList ++ st.map f = (r.toList ++ st).map f := by
  cases r <;> rfl
theorem after_call {y : Mr} {RQ : RQt} {nc ns mc ms pc : Nat} {L : List (Option Value)} {st0 : List Value} {st : List Value} {S : Shp} {I : Iv} {J : Jv} {Q : Post} {a : Array Value}
    {p : Program} {l : Launch} {e : Env} {s : State} {m : MethodId} {args : Array Value} {below : List Frame} {meth : Method} {c : Code} {D : va_G} {ca : FieldType → ClassId} {ad : Nat → Nat} {H : Heap} {locs : List Loc} {ls : Array Slot}
    (C : Cx y p s m args meth c D ca ad) (R : Rp ad ca D s S I J H locs) (hl : lv_has ls (yl y) (lpr ad 0 L))
    (hr : va_Run p l e (yR y) s m args below meth c H locs nc ns mc ms (F0 m pc ls st0) (st.map (rl ad)) (Qcx D ca ad Q a) (aA ad))
    (k : ∀ r S' I' J', Q r S' I' J' → G y RQ (nc + mc) (ns + ms) (pc + 3) L (r.toList ++ st) S' I' J') : W p l e (yR y) s m args below meth c H locs nc ns (RQ D ca ad below args s) (F0 m pc ls st0) := by
  intro T hT X
  obtain ⟨v, st₀, t, T', L', h0, X', hL, e1, e2, ⟨⟨r, S', I', J', hv, hq, hB⟩, hF⟩, stp⟩ := hr T hT X
  have hv := Outcome.returned.inj hv
  subst hv
  subst h0
  have hR : Rp ad ca D s S' I' J' T'.heap (locs ++ L') := by
    refine ⟨by rw [e1]; exact hB.1, hB.2.1, by rw [e1]; exact hB.2.2.1, ⟨Nat.le_trans R.2.2.2.1.1 (by rw [e1]; exact hF.1), fun q h1 h2 => ?_, fun q hq => ?_⟩, hB.2.2.2.2.2.2⟩
    · rw [e1, hF.2 q (Nat.lt_of_lt_of_le h1 R.2.2.2.1.1) h2]
      exact R.2.2.2.1.2.1 q h1 h2
    · rcases List.mem_append.mp hq with h | h
      · exact R.2.2.2.1.2.2 q h
      · exact hL q h
  have kk := k r S' I' J' hq p l e s m args below meth c D ca ad T'.heap (locs ++ L') ls C hR hl
  obtain ⟨t2, a1, b1⟩ := kk T' rfl X'
  refine ⟨t2, stp t2 ?_, b1⟩
  rw [map_toList]
  exact a1
theorem g_callV {y : Mr} {RQ : RQt} {nc ns pc pc1 : Nat} {L : List (Option Value)} {st : List Value} {S : Shp} {I : Iv} {J : Jv} {z : Mr} {idx n o ci : Nat} {fs : List (Option Nat ⊕ FieldType)} {q : vw_C} {Q : Post} (As : List Value) (hd : Dc (yc y) pc (.invokevirtual idx) 3 pc1) (cs : Cs y z n) (hlk : Lk (yn y).cls idx (yn z)) (hin : Cond.instanceMethod (yn z) ∈ TB) (hse : Cond.selects (yn z).cls (yn z) (yn z) ∈ TB) (hS : S[o]? = some (.inr (ci, fs))) (hc : vwCl[ci]? = some q) (hcn : q.1 = (yn z).cls)
    (hC : Ct z (.ref o :: As) S I J Q) (hn : As.length = n) (hcat : (st.map fun v => v.category).sum ≤ 8) (hroom : nc + (yR z).cells ≤ (yR y).cells ∧ ns + (yR z).slots ≤ (yR y).slots) (k : ∀ r S' I' J', Q r S' I' J' → G y RQ (nc + (yR z).cells) (ns + (yR z).slots) pc1 L (r.toList ++ st) S' I' J') : G y RQ nc ns pc L (As.reverse ++ .ref o :: st) S I J := by
  obtain ⟨hd, rfl⟩ := hd
  intro p l e s m args below meth c D ca ad H locs ls C R hl
  obtain ⟨hx, hb, hml, -, hown, hts, hnb, -, -, hK, hSt, hac, -⟩ := id C
  obtain ⟨hcode, hini, hdd, hR⟩ := cs
  have hM := hC l D ca ad hac
  have he := wl_at (ad := ad) (ca := ca) (I := I) (J := J) hS
  have hpre : PreV s H (yn z).cls (ad o) (va_Pc ((Value.ref o :: As).map (rl ad)) (Bb D ca ad S I J)) (As.map (rl ad)) := by
    refine ⟨bb_blind, ?_, fun U hU hW => ⟨rfl, Bb.of C R hU hW⟩⟩
    rw [← hcn]
    exact va_recv hK R.2.2.1 hc he
  have hstk : (F0 m pc ls ((As.reverse ++ .ref o :: st).map (rl ad))).stack = (As.map (rl ad)).reverse ++ .ref (ad o) :: st.map (rl ad) := by
    show (As.reverse ++ .ref o :: st).map (rl ad) = _
    rw [List.map_append, List.map_reverse]; rfl
  have hW8 : 2 * (F0 m pc ls ((As.reverse ++ .ref o :: st).map (rl ad))).monitorRoom + ((st.map (rl ad)).map fun v => v.category).sum ≤ 8 := by
    rw [rl_cats]; show 2 * 0 + _ ≤ 8; omega
  rcases hlk with hlk | ⟨h, hlk⟩
  · exact after_call C R hl (va_runV ⟨hx, hb, hml, hown, hts⟩ hM ⟨callB_of n hts (good_TB hcode) rfl rfl rfl (hts _ hini) (hts _ hlk) hdd hR, hts _ hin, hts _ hse⟩ hpre rfl (by rw [List.length_map]; exact hn) hl.1 hstk hW8 hd hroom) k
  · exact after_call C R hl (va_runVN ⟨hx, hb, hml, hown, hts⟩ hM ⟨va_cnB n hts (good_TB hcode) rfl rfl rfl (hnb _ hlk) (hts _ hini) hdd hR, hts _ hin, hts _ hse⟩ hpre rfl (by rw [List.length_map]; exact hn) hl.1 hstk hW8 hd hroom) k
theorem g_callI {y : Mr} {RQ : RQt} {nc ns pc pc1 : Nat} {L : List (Option Value)} {st : List Value} {S : Shp} {I : Iv} {J : Jv} {z : Mr} {idx n o : Nat} {Q : Post} (As : List Value) (hd : Dc (yc y) pc (.invokespecial idx) 3 pc1) (cs : Cs y z n) (hz : (yn z).name = "<init>" ∧ yr z = none) (hlk : Lk (yn y).cls idx (yn z)) (hin : Cond.instanceMethod (yn z) ∈ TB)
    (hC : Ct z (.ref o :: As) S I J Q) (hn : As.length = n) (hcat : (st.map fun v => v.category).sum ≤ 8) (hroom : nc + (yR z).cells ≤ (yR y).cells ∧ ns + (yR z).slots ≤ (yR y).slots) (k : ∀ r S' I' J', Q r S' I' J' → G y RQ (nc + (yR z).cells) (ns + (yR z).slots) pc1 L (r.toList ++ st) S' I' J') : G y RQ nc ns pc L (As.reverse ++ .ref o :: st) S I J := by
  obtain ⟨hd, rfl⟩ := hd
  intro p l e s m args below meth c D ca ad H locs ls C R hl
  obtain ⟨hx, hb, hml, -, hown, hts, hnb, -, -, hK, hSt, hac, -⟩ := id C
  obtain ⟨hcode, hini, hdd, hR⟩ := cs
  have hg := good_TB hcode
  rw [hz.2] at hcode
  have hM := hC l D ca ad hac
  have hpre : PreS s H (va_Pc ((Value.ref o :: As).map (rl ad)) (Bb D ca ad S I J)) (.ref (ad o) :: As.map (rl ad)) := ⟨bb_blind, fun U hU hW => ⟨rfl, Bb.of C R hU hW⟩⟩
  have hstk : (F0 m pc ls ((As.reverse ++ .ref o :: st).map (rl ad))).stack = (As.map (rl ad)).reverse ++ .ref (ad o) :: st.map (rl ad) := by
    show (As.reverse ++ .ref o :: st).map (rl ad) = _
    rw [List.map_append, List.map_reverse]; rfl
  have hW8 : 2 * (F0 m pc ls ((As.reverse ++ .ref o :: st).map (rl ad))).monitorRoom + ((st.map (rl ad)).map fun v => v.category).sum ≤ 8 := by
    rw [rl_cats]; show 2 * 0 + _ ≤ 8; omega
  have hws : wsA z = Cond.code (yn z) (yc z) (yl z) none :: TB := by unfold wsA; rw [hz.2]
  rcases hlk with hlk | ⟨h, hlk⟩
  · exact after_call C R hl (va_runI ⟨hx, hb, hml, hown, hts⟩ hM ⟨callB_of n hts hg hws rfl rfl (hts _ hini) (hts _ hlk) hdd hR, hz.1, hts _ hin⟩ hpre rfl (by rw [List.length_map]; exact hn) hl.1 hstk hW8 hd hroom) k
  · exact after_call C R hl (va_runIN ⟨hx, hb, hml, hown, hts⟩ hM ⟨va_cnB n hts hg hws rfl rfl (hnb _ hlk) (hts _ hini) hdd hR, hz.1, hts _ hin⟩ hpre rfl (by rw [List.length_map]; exact hn) hl.1 hstk hW8 hd hroom) k
theorem g_callS {y : Mr} {RQ : RQt} {nc ns pc pc1 : Nat} {L : List (Option Value)} {st : List Value} {S : Shp} {I : Iv} {J : Jv} {z : Mr} {idx n : Nat} {Q : Post} (As : List Value) (hd : Dc (yc y) pc (.invokestatic idx) 3 pc1) (cs : Cs y z n) (hlk : Lk (yn y).cls idx (yn z)) (hstt : Cond.static (yn z) ∈ TB)
    (hC : Ct z As S I J Q) (hn : As.length = n) (hcat : (st.map fun v => v.category).sum ≤ 8) (hroom : nc + (yR z).cells ≤ (yR y).cells ∧ ns + (yR z).slots ≤ (yR y).slots) (k : ∀ r S' I' J', Q r S' I' J' → G y RQ (nc + (yR z).cells) (ns + (yR z).slots) pc1 L (r.toList ++ st) S' I' J') : G y RQ nc ns pc L (As.reverse ++ st) S I J := by
  obtain ⟨hd, rfl⟩ := hd
  intro p l e s m args below meth c D ca ad H locs ls C R hl
  obtain ⟨hx, hb, hml, -, hown, hts, hnb, -, -, hK, hSt, hac, -⟩ := id C
  obtain ⟨hcode, hini, hdd, hR⟩ := cs
  have hM := hC l D ca ad hac
  have hpre : PreS s H (va_Pc (As.map (rl ad)) (Bb D ca ad S I J)) (As.map (rl ad)) := ⟨bb_blind, fun U hU hW => ⟨rfl, Bb.of C R hU hW⟩⟩
  have hstk : (F0 m pc ls ((As.reverse ++ st).map (rl ad))).stack = (As.map (rl ad)).reverse ++ st.map (rl ad) := by
    show (As.reverse ++ st).map (rl ad) = _
    rw [List.map_append, List.map_reverse]
  have hW8 : 2 * (F0 m pc ls ((As.reverse ++ st).map (rl ad))).monitorRoom + ((st.map (rl ad)).map fun v => v.category).sum ≤ 8 := by
    rw [rl_cats]; show 2 * 0 + _ ≤ 8; omega
  rcases hlk with hlk | ⟨h, hlk⟩
  · exact after_call C R hl (va_runS ⟨hx, hb, hml, hown, hts⟩ hM ⟨callB_of n hts (good_TB hcode) rfl rfl rfl (hts _ hini) (hts _ hlk) hdd hR, hts _ hstt⟩ hpre rfl (by rw [List.length_map]; exact hn) hl.1 hstk hW8 hd hroom) k
  · exact after_call C R hl (va_runSN ⟨hx, hb, hml, hown, hts⟩ hM ⟨va_cnB n hts (good_TB hcode) rfl rfl rfl (hnb _ hlk) (hts _ hini) hdd hR, hts _ hstt, trivial⟩ hpre rfl (by rw [List.length_map]; exact hn) hl.1 hstk hW8 hd hroom) k
theorem g_V0 {y : Mr} {RQ : RQt} {nc ns pc pc1 : Nat} {L : List (Option Value)} {st : List Value} {S : Shp} {I : Iv} {J : Jv} {z : Mr} {idx o ci : Nat}  {fs : List (Option Nat ⊕ FieldType)} {q : vw_C} {Q : Post} (hd : Dc (yc y) pc (.invokevirtual idx) 3 pc1) (cs : Cs y z 0) (hlk : Lk (yn y).cls idx (yn z)) (hin : Cond.instanceMethod (yn z) ∈ TB) (hse : Cond.selects (yn z).cls (yn z) (yn z) ∈ TB) (hS : S[o]? = some (.inr (ci, fs))) (hc : vwCl[ci]? = some q) (hcn : q.1 = (yn z).cls) (hcat : (st.map fun v => v.category).sum ≤ 8) (hz0 : (yR z).cells = 0 ∧ (yR z).slots = 0) (hroom : nc ≤ (yR y).cells ∧ ns ≤ (yR y).slots) (hC : Ct z (.ref o :: []) S I J Q) (k : ∀ r S' I' J', Q r S' I' J' → G y RQ nc ns pc1 L (r.toList ++ st) S' I' J') : G y RQ nc ns pc L (.ref o :: st) S I J :=
  g_callV [] hd cs hlk hin hse hS hc hcn hC rfl hcat (by rw [hz0.1, hz0.2]; exact hroom) (by rw [hz0.1, hz0.2]; exact k)
theorem g_V1 {y : Mr} {RQ : RQt} {nc ns pc pc1 : Nat} {L : List (Option Value)} {st : List Value} {S : Shp} {I : Iv} {J : Jv} {z : Mr} {idx o ci : Nat} {x1 : Value} {fs : List (Option Nat ⊕ FieldType)} {q : vw_C} {Q : Post} (hd : Dc (yc y) pc (.invokevirtual idx) 3 pc1) (cs : Cs y z 1) (hlk : Lk (yn y).cls idx (yn z)) (hin : Cond.instanceMethod (yn z) ∈ TB) (hse : Cond.selects (yn z).cls (yn z) (yn z) ∈ TB) (hS : S[o]? = some (.inr (ci, fs))) (hc : vwCl[ci]? = some q) (hcn : q.1 = (yn z).cls) (hcat : (st.map fun v => v.category).sum ≤ 8) (hz0 : (yR z).cells = 0 ∧ (yR z).slots = 0) (hroom : nc ≤ (yR y).cells ∧ ns ≤ (yR y).slots) (hC : Ct z (.ref o :: [x1]) S I J Q) (k : ∀ r S' I' J', Q r S' I' J' → G y RQ nc ns pc1 L (r.toList ++ st) S' I' J') : G y RQ nc ns pc L (x1 :: .ref o :: st) S I J :=
  g_callV [x1] hd cs hlk hin hse hS hc hcn hC rfl hcat (by rw [hz0.1, hz0.2]; exact hroom) (by rw [hz0.1, hz0.2]; exact k)
theorem g_V2 {y : Mr} {RQ : RQt} {nc ns pc pc1 : Nat} {L : List (Option Value)} {st : List Value} {S : Shp} {I : Iv} {J : Jv} {z : Mr} {idx o ci : Nat} {x1 x2 : Value} {fs : List (Option Nat ⊕ FieldType)} {q : vw_C} {Q : Post} (hd : Dc (yc y) pc (.invokevirtual idx) 3 pc1) (cs : Cs y z 2) (hlk : Lk (yn y).cls idx (yn z)) (hin : Cond.instanceMethod (yn z) ∈ TB) (hse : Cond.selects (yn z).cls (yn z) (yn z) ∈ TB) (hS : S[o]? = some (.inr (ci, fs))) (hc : vwCl[ci]? = some q) (hcn : q.1 = (yn z).cls) (hcat : (st.map fun v => v.category).sum ≤ 8) (hz0 : (yR z).cells = 0 ∧ (yR z).slots = 0) (hroom : nc ≤ (yR y).cells ∧ ns ≤ (yR y).slots) (hC : Ct z (.ref o :: [x1, x2]) S I J Q) (k : ∀ r S' I' J', Q r S' I' J' → G y RQ nc ns pc1 L (r.toList ++ st) S' I' J') : G y RQ nc ns pc L (x2 :: x1 :: .ref o :: st) S I J :=
  g_callV [x1, x2] hd cs hlk hin hse hS hc hcn hC rfl hcat (by rw [hz0.1, hz0.2]; exact hroom) (by rw [hz0.1, hz0.2]; exact k)
theorem g_V3 {y : Mr} {RQ : RQt} {nc ns pc pc1 : Nat} {L : List (Option Value)} {st : List Value} {S : Shp} {I : Iv} {J : Jv} {z : Mr} {idx o ci : Nat} {x1 x2 x3 : Value} {fs : List (Option Nat ⊕ FieldType)} {q : vw_C} {Q : Post} (hd : Dc (yc y) pc (.invokevirtual idx) 3 pc1) (cs : Cs y z 3) (hlk : Lk (yn y).cls idx (yn z)) (hin : Cond.instanceMethod (yn z) ∈ TB) (hse : Cond.selects (yn z).cls (yn z) (yn z) ∈ TB) (hS : S[o]? = some (.inr (ci, fs))) (hc : vwCl[ci]? = some q) (hcn : q.1 = (yn z).cls) (hcat : (st.map fun v => v.category).sum ≤ 8) (hz0 : (yR z).cells = 0 ∧ (yR z).slots = 0) (hroom : nc ≤ (yR y).cells ∧ ns ≤ (yR y).slots) (hC : Ct z (.ref o :: [x1, x2, x3]) S I J Q) (k : ∀ r S' I' J', Q r S' I' J' → G y RQ nc ns pc1 L (r.toList ++ st) S' I' J') : G y RQ nc ns pc L (x3 :: x2 :: x1 :: .ref o :: st) S I J :=
  g_callV [x1, x2, x3] hd cs hlk hin hse hS hc hcn hC rfl hcat (by rw [hz0.1, hz0.2]; exact hroom) (by rw [hz0.1, hz0.2]; exact k)
theorem g_V4 {y : Mr} {RQ : RQt} {nc ns pc pc1 : Nat} {L : List (Option Value)} {st : List Value} {S : Shp} {I : Iv} {J : Jv} {z : Mr} {idx o ci : Nat} {x1 x2 x3 x4 : Value} {fs : List (Option Nat ⊕ FieldType)} {q : vw_C} {Q : Post} (hd : Dc (yc y) pc (.invokevirtual idx) 3 pc1) (cs : Cs y z 4) (hlk : Lk (yn y).cls idx (yn z)) (hin : Cond.instanceMethod (yn z) ∈ TB) (hse : Cond.selects (yn z).cls (yn z) (yn z) ∈ TB) (hS : S[o]? = some (.inr (ci, fs))) (hc : vwCl[ci]? = some q) (hcn : q.1 = (yn z).cls) (hcat : (st.map fun v => v.category).sum ≤ 8) (hz0 : (yR z).cells = 0 ∧ (yR z).slots = 0) (hroom : nc ≤ (yR y).cells ∧ ns ≤ (yR y).slots) (hC : Ct z (.ref o :: [x1, x2, x3, x4]) S I J Q) (k : ∀ r S' I' J', Q r S' I' J' → G y RQ nc ns pc1 L (r.toList ++ st) S' I' J') : G y RQ nc ns pc L (x4 :: x3 :: x2 :: x1 :: .ref o :: st) S I J :=
  g_callV [x1, x2, x3, x4] hd cs hlk hin hse hS hc hcn hC rfl hcat (by rw [hz0.1, hz0.2]; exact hroom) (by rw [hz0.1, hz0.2]; exact k)
theorem g_V5 {y : Mr} {RQ : RQt} {nc ns pc pc1 : Nat} {L : List (Option Value)} {st : List Value} {S : Shp} {I : Iv} {J : Jv} {z : Mr} {idx o ci : Nat} {x1 x2 x3 x4 x5 : Value} {fs : List (Option Nat ⊕ FieldType)} {q : vw_C} {Q : Post} (hd : Dc (yc y) pc (.invokevirtual idx) 3 pc1) (cs : Cs y z 5) (hlk : Lk (yn y).cls idx (yn z)) (hin : Cond.instanceMethod (yn z) ∈ TB) (hse : Cond.selects (yn z).cls (yn z) (yn z) ∈ TB) (hS : S[o]? = some (.inr (ci, fs))) (hc : vwCl[ci]? = some q) (hcn : q.1 = (yn z).cls) (hcat : (st.map fun v => v.category).sum ≤ 8) (hz0 : (yR z).cells = 0 ∧ (yR z).slots = 0) (hroom : nc ≤ (yR y).cells ∧ ns ≤ (yR y).slots) (hC : Ct z (.ref o :: [x1, x2, x3, x4, x5]) S I J Q) (k : ∀ r S' I' J', Q r S' I' J' → G y RQ nc ns pc1 L (r.toList ++ st) S' I' J') : G y RQ nc ns pc L (x5 :: x4 :: x3 :: x2 :: x1 :: .ref o :: st) S I J :=
  g_callV [x1, x2, x3, x4, x5] hd cs hlk hin hse hS hc hcn hC rfl hcat (by rw [hz0.1, hz0.2]; exact hroom) (by rw [hz0.1, hz0.2]; exact k)
theorem g_V6 {y : Mr} {RQ : RQt} {nc ns pc pc1 : Nat} {L : List (Option Value)} {st : List Value} {S : Shp} {I : Iv} {J : Jv} {z : Mr} {idx o ci : Nat} {x1 x2 x3 x4 x5 x6 : Value} {fs : List (Option Nat ⊕ FieldType)} {q : vw_C} {Q : Post} (hd : Dc (yc y) pc (.invokevirtual idx) 3 pc1) (cs : Cs y z 6) (hlk : Lk (yn y).cls idx (yn z)) (hin : Cond.instanceMethod (yn z) ∈ TB) (hse : Cond.selects (yn z).cls (yn z) (yn z) ∈ TB) (hS : S[o]? = some (.inr (ci, fs))) (hc : vwCl[ci]? = some q) (hcn : q.1 = (yn z).cls) (hcat : (st.map fun v => v.category).sum ≤ 8) (hz0 : (yR z).cells = 0 ∧ (yR z).slots = 0) (hroom : nc ≤ (yR y).cells ∧ ns ≤ (yR y).slots) (hC : Ct z (.ref o :: [x1, x2, x3, x4, x5, x6]) S I J Q) (k : ∀ r S' I' J', Q r S' I' J' → G y RQ nc ns pc1 L (r.toList ++ st) S' I' J') : G y RQ nc ns pc L (x6 :: x5 :: x4 :: x3 :: x2 :: x1 :: .ref o :: st) S I J :=
  g_callV [x1, x2, x3, x4, x5, x6] hd cs hlk hin hse hS hc hcn hC rfl hcat (by rw [hz0.1, hz0.2]; exact hroom) (by rw [hz0.1, hz0.2]; exact k)
theorem g_S0 {y : Mr} {RQ : RQt} {nc ns pc pc1 : Nat} {L : List (Option Value)} {st : List Value} {S : Shp} {I : Iv} {J : Jv} {z : Mr} {idx : Nat}  {Q : Post} (hd : Dc (yc y) pc (.invokestatic idx) 3 pc1) (cs : Cs y z 0) (hlk : Lk (yn y).cls idx (yn z)) (hstt : Cond.static (yn z) ∈ TB) (hcat : (st.map fun v => v.category).sum ≤ 8) (hz0 : (yR z).cells = 0 ∧ (yR z).slots = 0) (hroom : nc ≤ (yR y).cells ∧ ns ≤ (yR y).slots) (hC : Ct z [] S I J Q) (k : ∀ r S' I' J', Q r S' I' J' → G y RQ nc ns pc1 L (r.toList ++ st) S' I' J') : G y RQ nc ns pc L (st) S I J :=
  g_callS [] hd cs hlk hstt hC rfl hcat (by rw [hz0.1, hz0.2]; exact hroom) (by rw [hz0.1, hz0.2]; exact k)
theorem g_S1 {y : Mr} {RQ : RQt} {nc ns pc pc1 : Nat} {L : List (Option Value)} {st : List Value} {S : Shp} {I : Iv} {J : Jv} {z : Mr} {idx : Nat} {x1 : Value} {Q : Post} (hd : Dc (yc y) pc (.invokestatic idx) 3 pc1) (cs : Cs y z 1) (hlk : Lk (yn y).cls idx (yn z)) (hstt : Cond.static (yn z) ∈ TB) (hcat : (st.map fun v => v.category).sum ≤ 8) (hz0 : (yR z).cells = 0 ∧ (yR z).slots = 0) (hroom : nc ≤ (yR y).cells ∧ ns ≤ (yR y).slots) (hC : Ct z [x1] S I J Q) (k : ∀ r S' I' J', Q r S' I' J' → G y RQ nc ns pc1 L (r.toList ++ st) S' I' J') : G y RQ nc ns pc L (x1 :: st) S I J :=
  g_callS [x1] hd cs hlk hstt hC rfl hcat (by rw [hz0.1, hz0.2]; exact hroom) (by rw [hz0.1, hz0.2]; exact k)
theorem g_S2 {y : Mr} {RQ : RQt} {nc ns pc pc1 : Nat} {L : List (Option Value)} {st : List Value} {S : Shp} {I : Iv} {J : Jv} {z : Mr} {idx : Nat} {x1 x2 : Value} {Q : Post} (hd : Dc (yc y) pc (.invokestatic idx) 3 pc1) (cs : Cs y z 2) (hlk : Lk (yn y).cls idx (yn z)) (hstt : Cond.static (yn z) ∈ TB) (hcat : (st.map fun v => v.category).sum ≤ 8) (hz0 : (yR z).cells = 0 ∧ (yR z).slots = 0) (hroom : nc ≤ (yR y).cells ∧ ns ≤ (yR y).slots) (hC : Ct z [x1, x2] S I J Q) (k : ∀ r S' I' J', Q r S' I' J' → G y RQ nc ns pc1 L (r.toList ++ st) S' I' J') : G y RQ nc ns pc L (x2 :: x1 :: st) S I J :=
  g_callS [x1, x2] hd cs hlk hstt hC rfl hcat (by rw [hz0.1, hz0.2]; exact hroom) (by rw [hz0.1, hz0.2]; exact k)
theorem g_S3 {y : Mr} {RQ : RQt} {nc ns pc pc1 : Nat} {L : List (Option Value)} {st : List Value} {S : Shp} {I : Iv} {J : Jv} {z : Mr} {idx : Nat} {x1 x2 x3 : Value} {Q : Post} (hd : Dc (yc y) pc (.invokestatic idx) 3 pc1) (cs : Cs y z 3) (hlk : Lk (yn y).cls idx (yn z)) (hstt : Cond.static (yn z) ∈ TB) (hcat : (st.map fun v => v.category).sum ≤ 8) (hz0 : (yR z).cells = 0 ∧ (yR z).slots = 0) (hroom : nc ≤ (yR y).cells ∧ ns ≤ (yR y).slots) (hC : Ct z [x1, x2, x3] S I J Q) (k : ∀ r S' I' J', Q r S' I' J' → G y RQ nc ns pc1 L (r.toList ++ st) S' I' J') : G y RQ nc ns pc L (x3 :: x2 :: x1 :: st) S I J :=
  g_callS [x1, x2, x3] hd cs hlk hstt hC rfl hcat (by rw [hz0.1, hz0.2]; exact hroom) (by rw [hz0.1, hz0.2]; exact k)
theorem g_S4 {y : Mr} {RQ : RQt} {nc ns pc pc1 : Nat} {L : List (Option Value)} {st : List Value} {S : Shp} {I : Iv} {J : Jv} {z : Mr} {idx : Nat} {x1 x2 x3 x4 : Value} {Q : Post} (hd : Dc (yc y) pc (.invokestatic idx) 3 pc1) (cs : Cs y z 4) (hlk : Lk (yn y).cls idx (yn z)) (hstt : Cond.static (yn z) ∈ TB) (hcat : (st.map fun v => v.category).sum ≤ 8) (hz0 : (yR z).cells = 0 ∧ (yR z).slots = 0) (hroom : nc ≤ (yR y).cells ∧ ns ≤ (yR y).slots) (hC : Ct z [x1, x2, x3, x4] S I J Q) (k : ∀ r S' I' J', Q r S' I' J' → G y RQ nc ns pc1 L (r.toList ++ st) S' I' J') : G y RQ nc ns pc L (x4 :: x3 :: x2 :: x1 :: st) S I J :=
  g_callS [x1, x2, x3, x4] hd cs hlk hstt hC rfl hcat (by rw [hz0.1, hz0.2]; exact hroom) (by rw [hz0.1, hz0.2]; exact k)
theorem g_S5 {y : Mr} {RQ : RQt} {nc ns pc pc1 : Nat} {L : List (Option Value)} {st : List Value} {S : Shp} {I : Iv} {J : Jv} {z : Mr} {idx : Nat} {x1 x2 x3 x4 x5 : Value} {Q : Post} (hd : Dc (yc y) pc (.invokestatic idx) 3 pc1) (cs : Cs y z 5) (hlk : Lk (yn y).cls idx (yn z)) (hstt : Cond.static (yn z) ∈ TB) (hcat : (st.map fun v => v.category).sum ≤ 8) (hz0 : (yR z).cells = 0 ∧ (yR z).slots = 0) (hroom : nc ≤ (yR y).cells ∧ ns ≤ (yR y).slots) (hC : Ct z [x1, x2, x3, x4, x5] S I J Q) (k : ∀ r S' I' J', Q r S' I' J' → G y RQ nc ns pc1 L (r.toList ++ st) S' I' J') : G y RQ nc ns pc L (x5 :: x4 :: x3 :: x2 :: x1 :: st) S I J :=
  g_callS [x1, x2, x3, x4, x5] hd cs hlk hstt hC rfl hcat (by rw [hz0.1, hz0.2]; exact hroom) (by rw [hz0.1, hz0.2]; exact k)
theorem g_I0 {y : Mr} {RQ : RQt} {nc ns pc pc1 : Nat} {L : List (Option Value)} {st : List Value} {S : Shp} {I : Iv} {J : Jv} {z : Mr} {idx o nc1 ns1 : Nat}  {Q : Post} (hd : Dc (yc y) pc (.invokespecial idx) 3 pc1) (cs : Cs y z 0) (hz : (yn z).name = "<init>" ∧ yr z = none) (hlk : Lk (yn y).cls idx (yn z)) (hin : Cond.instanceMethod (yn z) ∈ TB) (hcat : (st.map fun v => v.category).sum ≤ 8) (hz0 : nc + (yR z).cells = nc1 ∧ ns + (yR z).slots = ns1) (hroom : nc1 ≤ (yR y).cells ∧ ns1 ≤ (yR y).slots) (hC : Ct z (.ref o :: []) S I J Q) (k : ∀ r S' I' J', Q r S' I' J' → G y RQ nc1 ns1 pc1 L (r.toList ++ st) S' I' J') : G y RQ nc ns pc L (.ref o :: st) S I J :=
  g_callI [] hd cs hz hlk hin hC rfl hcat (by rw [hz0.1, hz0.2]; exact hroom) (by rw [hz0.1, hz0.2]; exact k)
theorem g_I1 {y : Mr} {RQ : RQt} {nc ns pc pc1 : Nat} {L : List (Option Value)} {st : List Value} {S : Shp} {I : Iv} {J : Jv} {z : Mr} {idx o nc1 ns1 : Nat} {x1 : Value} {Q : Post} (hd : Dc (yc y) pc (.invokespecial idx) 3 pc1) (cs : Cs y z 1) (hz : (yn z).name = "<init>" ∧ yr z = none) (hlk : Lk (yn y).cls idx (yn z)) (hin : Cond.instanceMethod (yn z) ∈ TB) (hcat : (st.map fun v => v.category).sum ≤ 8) (hz0 : nc + (yR z).cells = nc1 ∧ ns + (yR z).slots = ns1) (hroom : nc1 ≤ (yR y).cells ∧ ns1 ≤ (yR y).slots) (hC : Ct z (.ref o :: [x1]) S I J Q) (k : ∀ r S' I' J', Q r S' I' J' → G y RQ nc1 ns1 pc1 L (r.toList ++ st) S' I' J') : G y RQ nc ns pc L (x1 :: .ref o :: st) S I J :=
  g_callI [x1] hd cs hz hlk hin hC rfl hcat (by rw [hz0.1, hz0.2]; exact hroom) (by rw [hz0.1, hz0.2]; exact k)
theorem g_I2 {y : Mr} {RQ : RQt} {nc ns pc pc1 : Nat} {L : List (Option Value)} {st : List Value} {S : Shp} {I : Iv} {J : Jv} {z : Mr} {idx o nc1 ns1 : Nat} {x1 x2 : Value} {Q : Post} (hd : Dc (yc y) pc (.invokespecial idx) 3 pc1) (cs : Cs y z 2) (hz : (yn z).name = "<init>" ∧ yr z = none) (hlk : Lk (yn y).cls idx (yn z)) (hin : Cond.instanceMethod (yn z) ∈ TB) (hcat : (st.map fun v => v.category).sum ≤ 8) (hz0 : nc + (yR z).cells = nc1 ∧ ns + (yR z).slots = ns1) (hroom : nc1 ≤ (yR y).cells ∧ ns1 ≤ (yR y).slots) (hC : Ct z (.ref o :: [x1, x2]) S I J Q) (k : ∀ r S' I' J', Q r S' I' J' → G y RQ nc1 ns1 pc1 L (r.toList ++ st) S' I' J') : G y RQ nc ns pc L (x2 :: x1 :: .ref o :: st) S I J :=
  g_callI [x1, x2] hd cs hz hlk hin hC rfl hcat (by rw [hz0.1, hz0.2]; exact hroom) (by rw [hz0.1, hz0.2]; exact k)
end
section
theorem g_mmax {y : Mr} {RQ : RQt} {nc ns pc pc1 : Nat} {L : List (Option Value)} {st : List Value} {S : Shp} {I : Iv} {J : Jv} {idx : Nat} {a b : Int32} (hd : Dc (yc y) pc (.invokestatic idx) 3 pc1) (hlk : Cond.methodLink (yn y).cls idx Lib.Math.max.name ∈ TB) (hstt : Cond.static Lib.Math.max.name ∈ TB) (hini : Cond.initialized "java/lang/Math" ∈ TB) (hcode : Cond.code Lib.Math.max.name Lib.Math.max.code 2 (some .int) ∈ TB) (hfr : 1 ≤ (yR y).frames ∧ 21 ≤ (yR y).locals) (hroom : nc ≤ (yR y).cells ∧ ns ≤ (yR y).slots) (hcat : (st.map fun v => v.category).sum ≤ 8) (kk : G y RQ nc ns pc1 L (.int (if a < b then b else a) :: st) S I J) : G y RQ nc ns pc L (.int b :: .int a :: st) S I J := by
  obtain ⟨hd, rfl⟩ := hd
  intro p l e s m args below meth c D ca ad H locs ls C R hl
  obtain ⟨hx, hb, hml, -, hown, hts, -⟩ := id C
  exact va_mmax hx hb (hml.trans hl.1.symm) hown (hts _ hlk) (hts _ hstt) (hts _ hini) (hts _ hcode) hfr.1 (by rw [rl_cats]; omega) hroom.1 hroom.2 hd (kk p l e s m args below meth c D ca ad H locs ls C R hl)
theorem g_mmin {y : Mr} {RQ : RQt} {nc ns pc pc1 : Nat} {L : List (Option Value)} {st : List Value} {S : Shp} {I : Iv} {J : Jv} {idx : Nat} {a b : Int32} (hd : Dc (yc y) pc (.invokestatic idx) 3 pc1) (hlk : Cond.methodLink (yn y).cls idx Lib.Math.min.name ∈ TB) (hstt : Cond.static Lib.Math.min.name ∈ TB) (hini : Cond.initialized "java/lang/Math" ∈ TB) (hcode : Cond.code Lib.Math.min.name Lib.Math.min.code 2 (some .int) ∈ TB) (hfr : 1 ≤ (yR y).frames ∧ 21 ≤ (yR y).locals) (hroom : nc ≤ (yR y).cells ∧ ns ≤ (yR y).slots) (hcat : (st.map fun v => v.category).sum ≤ 8) (kk : G y RQ nc ns pc1 L (.int (if b < a then b else a) :: st) S I J) : G y RQ nc ns pc L (.int b :: .int a :: st) S I J := by
  obtain ⟨hd, rfl⟩ := hd
  intro p l e s m args below meth c D ca ad H locs ls C R hl
  obtain ⟨hx, hb, hml, -, hown, hts, -⟩ := id C
  exact va_mmin hx hb (hml.trans hl.1.symm) hown (hts _ hlk) (hts _ hstt) (hts _ hini) (hts _ hcode) hfr.1 (by rw [rl_cats]; omega) hroom.1 hroom.2 hd (kk p l e s m args below meth c D ca ad H locs ls C R hl)
theorem g_mabs {y : Mr} {RQ : RQt} {nc ns pc pc1 : Nat} {L : List (Option Value)} {st : List Value} {S : Shp} {I : Iv} {J : Jv} {idx : Nat} {a : Int32} (hd : Dc (yc y) pc (.invokestatic idx) 3 pc1) (hlk : Cond.methodLink (yn y).cls idx Lib.Math.abs.name ∈ TB) (hstt : Cond.static Lib.Math.abs.name ∈ TB) (hini : Cond.initialized "java/lang/Math" ∈ TB) (hcode : Cond.code Lib.Math.abs.name Lib.Math.abs.code 1 (some .int) ∈ TB) (hfr : 1 ≤ (yR y).frames ∧ 21 ≤ (yR y).locals) (hroom : nc ≤ (yR y).cells ∧ ns ≤ (yR y).slots) (hcat : (st.map fun v => v.category).sum ≤ 8) (kk : G y RQ nc ns pc1 L (.int (if 0 ≤ a then a else 0 - a) :: st) S I J) : G y RQ nc ns pc L (.int a :: st) S I J := by
  obtain ⟨hd, rfl⟩ := hd
  intro p l e s m args below meth c D ca ad H locs ls C R hl
  obtain ⟨hx, hb, hml, -, hown, hts, -⟩ := id C
  exact va_mabs hx hb (hml.trans hl.1.symm) hown (hts _ hlk) (hts _ hstt) (hts _ hini) (hts _ hcode) hfr.1 (by rw [rl_cats]; omega) hroom.1 hroom.2 hd (kk p l e s m args below meth c D ca ad H locs ls C R hl)
theorem g_oinit {y : Mr} {RQ : RQt} {nc ns pc pc1 : Nat} {L : List (Option Value)} {st : List Value} {S : Shp} {I : Iv} {J : Jv} {idx o : Nat} (hd : Dc (yc y) pc (.invokespecial idx) 3 pc1) (hlk : Cond.methodLink (yn y).cls idx Lib.objectInit ∈ TB) (hin : Cond.instanceMethod Lib.objectInit ∈ TB) (hcode : Cond.code Lib.objectInit ⟨#[0xb1]⟩ 1 none ∈ TB) (hfr : 1 ≤ (yR y).frames ∧ 20 ≤ (yR y).locals) (hcat : (st.map fun v => v.category).sum ≤ 8) (kk : G y RQ nc ns pc1 L st S I J) : G y RQ nc ns pc L (.ref o :: st) S I J := by
  obtain ⟨hd, rfl⟩ := hd
  intro p l e s m args below meth c D ca ad H locs ls C R hl
  obtain ⟨hx, hb, hml, -, hown, hts, -⟩ := id C
  exact W.objInit hx hb hown (hts _ hlk) (hts _ hin) (hts _ hcode) rfl (hl.1.trans hml.symm) (a := ad o) (rest := st.map (rl ad)) rfl hd hfr.1 (by rw [rl_cats]; show 2 * 0 + _ + 12 ≤ _; omega) (kk p l e s m args below meth c D ca ad H locs ls C R hl)
def zI (I : Iv) (a : Nat) : Iv := fun b j => if b = a then 0 else I b j
def zJ (J : Jv) (a : Nat) : Jv := fun b j => if b = a then 0 else J b j
theorem zI_row {I : Iv} {a b : Nat} (h : b ≠ a) : zI I a b = I b := by funext j; simp [zI, h]
theorem zJ_row {J : Jv} {a b : Nat} (h : b ≠ a) : zJ J a b = J b := by funext j; simp [zJ, h]
theorem zI_self {I : Iv} {a : Nat} : zI I a a = fun _ => 0 := by funext j; simp [zI]
theorem zJ_self {J : Jv} {a : Nat} : zJ J a a = fun _ => 0 := by funext j; simp [zJ]
theorem wl_grow {ad : Nat → Nat} {ca : FieldType → ClassId} {S : Shp} {I : Iv} {J : Jv} {c : Sc} : wl ad ca (S ++ [c]) (zI I S.length) (zJ J S.length) = wl ad ca S I J ++ [(ad S.length, cE ad ca c (fun _ => 0) (fun _ => 0))] := by
  show wlf _ _ _ _ 0 _ = _
  rw [wl_push S 0]
  simp only [Nat.zero_add, zI_self, zJ_self]
  congr 1
  exact wlf_tail S 0 (fun b _ hb => ⟨zI_row (by omega), zJ_row (by omega)⟩)
theorem wb_grow {S : Shp} {I : Iv} {c : Sc} (h : wb S I) : wb (S ++ [c]) (zI I S.length) := by
  intro b d hb
  by_cases hl : b < S.length
  · rw [List.getElem?_append_left hl] at hb
    rw [zI_row (by omega)]
    exact h b d hb
  · rw [List.getElem?_append_right (by omega)] at hb
    have hz : b - S.length < 1 := (List.getElem?_eq_some_iff.mp hb).1
    rw [show b = S.length by omega, zI_self]
    cases d with
    | inl q => obtain ⟨ty, n⟩ := q; cases ty <;> first | trivial | exact fun _ => Or.inl rfl | exact fun _ => rfl
    | inr q => exact fun _ _ => Or.inl rfl
theorem Rp.grow {ad : Nat → Nat} {ca : FieldType → ClassId} {D : va_G} {s : State} {S : Shp} {I : Iv} {J : Jv} {H H1 : Heap} {locs : List Loc} {c : Sc} (hac : adC ad) (hs : ad 0 ≤ s.heap.size) (R : Rp ad ca D s S I J H locs) (hlen : S.length < 999999) (hz : H1.size = H.size + 1) (hk : ∀ q, q < H.size → H1[q]? = H[q]?) (hn : va_at D vwCl (ad S.length, cE ad ca c (fun _ => 0) (fun _ => 0)) H1) : Rp ad ca D s (S ++ [c]) (zI I S.length) (zJ J S.length) H1 locs := by
  refine ⟨by rw [hz, R.1]; simp; omega, by simp; omega, ?_, ⟨Nat.le_trans R.2.2.2.1.1 (by omega), fun q h1 h2 => (hk q (Nat.lt_of_lt_of_le h1 R.2.2.2.1.1)).trans (R.2.2.2.1.2.1 q h1 h2), R.2.2.2.1.2.2⟩, wb_grow R.2.2.2.2⟩
  rw [wl_grow]
  refine (R.2.2.1.kept fun k x hx => hk x.1 (R.2.2.1 k x hx).lt).app (fun k x hx => ?_)
  have hz : k < 1 := (List.getElem?_eq_some_iff.mp hx).1
  rw [show k = 0 by omega] at hx
  cases hx
  exact hn
theorem g_new {y : Mr} {RQ : RQt} {nc ns pc pc1 : Nat} {L : List (Option Value)} {st : List Value} {S : Shp} {I : Iv} {J : Jv} {idx ci N nc1 ns1 k : Nat} {Cn : String} {T : u_T} {fs : List (Option Nat ⊕ FieldType)} {S' : Shp} (hd : Dc (yc y) pc (.new idx) 3 pc1) (hc : vwCl[ci]? = some (Cn, T, N)) (hcl : Cond.classLink (yn y).cls idx Cn ∈ TB) (hins : Cond.instantiable Cn N ∈ TB) (hini : Cond.initialized Cn ∈ TB) (hfs : ∀ (ad : Nat → Nat) (ty : Nat → FieldType), (∀ k, k < N → parseFieldDescriptor (T k).2.2.1 = some (ty k)) → ∀ j, j < N → defaultValue (ty j) = vp_V (fl ad (fun _ => 0) (fun _ => 0) 0 fs) j) (hk : S.length = k) (hS' : S ++ [.inr (ci, fs)] = S') (hlen : k < 999999) (h1 : nc + 1 = nc1 ∧ ns + N = ns1) (h2 : nc1 ≤ (yR y).cells ∧ ns1 ≤ (yR y).slots) (kk : G y RQ nc1 ns1 pc1 L (.ref k :: st) S' (zI I k) (zJ J k)) : G y RQ nc ns pc L st S I J := by
  obtain ⟨hd, rfl⟩ := hd
  obtain ⟨rfl, rfl⟩ := h1
  subst hk; subst hS'
  intro p l e s m args below meth c D ca ad H locs ls C R hl
  obtain ⟨hx, hb, hml, -, hown, hts, hnb, -, -, hK, hSt, hac, hs0⟩ := id C
  obtain ⟨hin, tyf, hty, hnm⟩ := cl_ok ci Cn T N hc
  have hKn := hK.1 ci _ hc
  have hadk : H.size = ad S.length := R.1.trans (hac _ (by omega)).symm
  refine W.newcK hx hb hown (hts _ hcl) (hts _ hins) (hts _ hini) rfl hd h2.1 h2.2 hKn.2.1 rfl fun H1 kC hkC e1 z1 o1 => ?_
  rw [hadk] at e1 ⊢
  refine kk p l e s m args below meth c D ca ad H1 locs ls C (R.grow hac hs0 hlen z1 o1 ⟨_, hc, (u_born tyf hts hin hKn hkC e1 hty).to (hfs ad tyf hty)⟩) hl
theorem g_newa {y : Mr} {RQ : RQt} {nc ns pc pc1 : Nat} {L : List (Option Value)} {st : List Value} {S : Shp} {I : Iv} {J : Jv} {k N nc1 ns1 : Nat} {n : Int32} {at_ : ArrayType} {ty : FieldType} {S' : Shp} (hd : Dc (yc y) pc (.newarray at_) 2 pc1) (hty : newarray.typeOf at_ = ty) (ht4 : ty = .int ∨ ty = .long ∨ ty = .boolean ∨ ty = .char) (harr : Cond.arrayClass ty ∈ TB) (hn : ¬ n < 0) (hN : n.toNatClampNeg = N) (hbytes : N * componentBytes ty ≤ 536870912) (hk : S.length = k) (hS' : S ++ [.inl (ty, N)] = S') (hlen : k < 999999) (h1 : nc + 1 = nc1 ∧ ns + N = ns1) (h2 : nc1 ≤ (yR y).cells ∧ ns1 ≤ (yR y).slots) (kk : G y RQ nc1 ns1 pc1 L (.ref k :: st) S' (zI I k) (zJ J k)) : G y RQ nc ns pc L (.int n :: st) S I J := by
  obtain ⟨hd, rfl⟩ := hd
  obtain ⟨rfl, rfl⟩ := h1
  subst hk; subst hS'; subst hty
  intro p l e s m args below meth c D ca ad H locs ls C R hl
  obtain ⟨hx, hb, hml, -, hown, hts, hnb, -, -, hK, hSt, hac, hs0⟩ := id C
  have hadk : H.size = ad S.length := R.1.trans (hac _ (by omega)).symm
  refine va_newaK hx hb (hts _ harr) rfl hd rfl hn hN hbytes h2.1 h2.2 rfl fun H1 cA e1 z1 o1 hAr hNm => ?_
  rw [hadk] at e1 ⊢
  refine kk p l e s m args below meth c D ca ad H1 locs ls C (R.grow hac hs0 hlen z1 o1 ?_) hl
  generalize newarray.typeOf at_ = ty at *
  rcases ht4 with rfl | rfl | rfl | rfl
  · have h3 : s.vm.findClass ("[" ++ FieldType.int.toString) = some (ca .int) := (hK.2 0 (ca .int, .int) rfl).2
    cases hNm.symm.trans h3; exact e1
  · have h3 : s.vm.findClass ("[" ++ FieldType.long.toString) = some (ca .long) := (hK.2 1 (ca .long, .long) rfl).2
    cases hNm.symm.trans h3; exact e1
  · have h3 : s.vm.findClass ("[" ++ FieldType.boolean.toString) = some (ca .boolean) := (hK.2 2 (ca .boolean, .boolean) rfl).2
    cases hNm.symm.trans h3; exact e1
  · have h3 : s.vm.findClass ("[" ++ FieldType.char.toString) = some (ca .char) := (hK.2 3 (ca .char, .char) rfl).2
    cases hNm.symm.trans h3; exact e1
def cI (I : Iv) (a n : Nat) (f : Nat → Int32) : Iv := fun b j => if b = a ∧ j < n then f j else I b j
def cJ (J : Jv) (a n : Nat) (f : Nat → Int64) : Jv := fun b j => if b = a ∧ j < n then f j else J b j
theorem cI_row {I : Iv} {a n b : Nat} {f : Nat → Int32} (h : b ≠ a) : cI I a n f b = I b := by funext j; simp [cI, h]
theorem cJ_row {J : Jv} {a n b : Nat} {f : Nat → Int64} (h : b ≠ a) : cJ J a n f b = J b := by funext j; simp [cJ, h]
theorem nn_of {z : Int32} (hz : ¬ z < 0) : z.toInt = (z.toNatClampNeg : Int) := by
  have hz0 : (0 : Int) ≤ z.toInt := by
    have := Int32.not_lt.mp hz
    simpa using Int32.le_iff_toInt_le.mp this
  show z.toInt = ((z.toInt.toNat : Nat) : Int)
  omega
abbrev CpH (y : Mr) (idx : Nat) : Prop := Cond.methodLink (yn y).cls idx arraycopyName ∈ TB ∧ Cond.native arraycopyName ∈ TB ∧ Cond.static arraycopyName ∈ TB ∧ Cond.initialized "java/lang/System" ∈ TB ∧ 1 ≤ (yR y).frames ∧ 8 + (nativeFrameWords "java/lang/System" "arraycopy" 5 + 11) ≤ (yR y).locals
theorem g_copyI {y : Mr} {RQ : RQt} {nc ns pc pc1 : Nat} {L : List (Option Value)} {st : List Value} {S : Shp} {I : Iv} {J : Jv} {idx a a0 n0 j : Nat} {ty : FieldType} {sp dp n : Int32} {f : Nat → Int32} (hd : Dc (yc y) pc (.invokestatic idx) 3 pc1) (hh : CpH y idx) (hS0 : S[a0]? = some (.inl (ty, n0))) (hf : I a0 = f) (hS1 : S[a]? = some (.inl (ty, n0))) (hty : ty = .int ∨ ty = .boolean) (h1 : sp.toNatClampNeg = 0 ∧ ¬ sp < 0) (h2 : dp.toNatClampNeg = 0 ∧ ¬ dp < 0) (h3 : n.toNatClampNeg = n0 ∧ ¬ n < 0) (hcat : (st.map fun v => v.category).sum ≤ 8) (kk : G y RQ nc ns pc1 L st S (cI I a n0 f) J) : G y RQ nc ns pc L (.int n :: .int dp :: .ref a :: .int sp :: .ref a0 :: st) S I J := by
  obtain ⟨hd, rfl⟩ := hd
  intro p l e s m args below meth c D ca ad H locs ls C R hl
  obtain ⟨hx, hb, hml, -, hown, hts, hnb, -, -, hK, hSt, hac, hs0⟩ := id C
  obtain ⟨g1, g2, g3, g4, g5, g6⟩ := hh
  have hD := wl_D (ca := ca) (I := I) (J := J) hac R.2.1
  have he1 := wl_at (ad := ad) (ca := ca) (I := I) (J := J) hS1
  have hAa : aA ad (ad a) := hD.2 a _ he1
  have hce1 : cE ad ca (.inl (ty, n0)) (I a) (J a) = .inl (ca ty, n0, .inl (I a)) := by
    rcases hty with rfl | rfl <;> rfl
  rw [hce1] at he1
  have hc1 : H[ad a]? = some (vp_cell (ca ty) (n0, .inl (I a))) := R.2.2.1 a _ he1
  have hAr : ArrOfT s (ca ty) ty := by
    rcases hty with rfl | rfl; exact (hK.2 0 _ rfl).1; exact (hK.2 2 _ rfl).1
  have hprim : refKind ty = false := by
    rcases hty with rfl | rfl <;> rfl
  obtain ⟨-, k1, hk1, cm1, hkk1⟩ := hAr n0 (fun q => .int (I a q))
  have he0 := wl_at (ad := ad) (ca := ca) (I := I) (J := J) hS0
  have hce0 : cE ad ca (.inl (ty, n0)) (I a0) (J a0) = .inl (ca ty, n0, .inl f) := by
    subst hf
    rcases hty with rfl | rfl <;> rfl
  rw [hce0] at he0
  have hc0 : H[ad a0]? = some (vp_cell (ca ty) (n0, .inl f)) := R.2.2.1 a0 _ he0
  have hnst : ∀ q, (vp_cell (ca ty) (n0, .inl f)).vm ≠ .statics q := fun _ h => by cases h
  have hnun : (vp_cell (ca ty) (n0, .inl f)).vm ≠ .unknown := fun h => by cases h
  have hsz : (vp_cell (ca ty) (n0, .inl f)).slots.size = n0 := by show (arrV _ _ _).slots.size = _; rw [arrV_size]
  have hrd : ∀ i : Nat, i < n0 → (vp_cell (ca ty) (n0, .inl f)).slots[i]? = some (.int (f i)) := fun i hi => by show (arrV _ _ _).slots[_]? = _; rw [arrV_read _ _ hi]
  obtain ⟨-, k0, hk0, cm0, hkk0⟩ := hAr n0 (fun q => .int (f q))
  have hfit : ∀ i : Nat, i < n0 → fits ty (.int (f i)) = true := by
    subst hf
    intro i _
    rcases hty with rfl | rfl
    · rfl
    · have := R.2.2.2.2 a0 _ hS0 i
      rcases this with h | h <;> rw [h] <;> rfl
  have hk0 : s.vm.classes[(vp_cell (ca ty) (n0, .inl f)).cls]? = some k0 := hk0
  generalize vp_cell (ca ty) (n0, .inl f) = scr at hc0 hnst hnun hsz hrd hk0
  intro T hT X
  obtain ⟨vm', X', step⟩ := X.arraycopy hx hown (hts _ g1) (hts _ g2) (hts _ g3) (hts _ g4) (src := ad a0) (dst := ad a) (cs := scr) (cd := vp_cell (ca ty) (n0, .inl (I a))) (srcPos := sp) (destPos := dp) (n := n) (by rw [hT]; exact hc0) (by rw [hT]; exact hc1)
    hnst (fun _ h => by cases h) hnun (fun h => by cases h) hk0 hk1 hkk0 hkk1 (by simp [hprim]) h1.2 h2.2 h3.2
    (by rw [nn_of h1.2, nn_of h3.2, h1.1, h3.1]; omega)
    (by rw [nn_of h2.2, nn_of h3.2, h2.1, h3.1]; show ¬ _ > ((arrV (ca ty) n0 (fun q => .int (I a q))).slots.size : Int); rw [arrV_size]; omega)
    (fun vm₁ _ i hi => by
      rw [h3.1] at hi
      have ez : scr.slots.getD (sp.toNatClampNeg + i) .null = .int (f i) := by
        rw [Array.getD_eq_getD_getElem?, h1.1, Nat.zero_add, hrd _ hi]
        rfl
      refine ⟨?_, ?_⟩
      · rw [ez]
        exact hfit i hi
      · rw [ez]
        exact trivial)
    (g := F0 m pc ls ((.int n :: .int dp :: .ref a :: .int sp :: .ref a0 :: st).map (rl ad))) rfl (by rw [hml]; exact hl.1) (rest := st.map (rl ad)) rfl (by rw [hb]; exact hd) g5 (by rw [rl_cats]; show 2 * 0 + _ + _ ≤ _; omega)
  have e0 : copied scr (vp_cell (ca ty) (n0, .inl (I a))) sp dp n = vp_cell (ca ty) (n0, .inl (va_cpy f (I a) sp.toNatClampNeg dp.toNatClampNeg n.toNatClampNeg)) := va_copiedX (fun z => .int z) scr (ca ty) f (I a) hrd (by rw [h1.1, h3.1]; omega)
  have ec : va_cpy f (I a) sp.toNatClampNeg dp.toNatClampNeg n.toNatClampNeg = (fun q => if q < n0 then f q else I a q) := by
    funext q
    simp only [va_cpy, h1.1, h2.1, h3.1, Nat.zero_le, true_and, Nat.zero_add, Nat.sub_zero]
  rw [e0, ec] at X' step
  have hll : ad a < H.size := (Array.getElem?_eq_some_iff.mp hc1).1
  generalize hnew : vp_cell (ca ty) (n0, .inl (fun q => if q < n0 then f q else I a q)) = nw at X' step
  have hheap : ((T.setVm vm').setCell (ad a) nw).heap = H.setIfInBounds (ad a) nw := by rw [← hT]; rfl
  have oq : ∀ q : Nat, q ≠ ad a → (H.setIfInBounds (ad a) nw)[q]? = H[q]? := fun q hq => by simp [Array.getElem?_setIfInBounds, Ne.symm hq]
  have hsame : S.set a (.inl (ty, n0)) = S := list_set_same hS1
  have hcel : cE ad ca (.inl (ty, n0)) ((cI I a n0 f) a) (J a) = .inl (ca ty, n0, .inl (fun q => if q < n0 then f q else I a q)) := by
    have : cI I a n0 f a = (fun q => if q < n0 then f q else I a q) := by funext q; simp [cI]
    rw [this]
    rcases hty with rfl | rfl <;> rfl
  have hPn : va_P D vwCl ((wl ad ca S I J).set a (ad a, cE ad ca (.inl (ty, n0)) ((cI I a n0 f) a) (J a))) (H.setIfInBounds (ad a) nw) := by
    rw [hcel]
    refine R.2.2.1.set hD he1 ?_ oq
    show (H.setIfInBounds (ad a) nw)[ad a]? = some (vp_cell _ _)
    rw [hnew]
    simp [Array.getElem?_setIfInBounds, hll]
  have hwb : wb S (cI I a n0 f) := by
    rw [← hsame]
    refine wb_set R.2.2.2.2 (fun b hb => cI_row hb) ?_
    subst hf
    rcases hty with rfl | rfl
    · trivial
    · intro q
      have z1 := R.2.2.2.2 a0 _ hS0 q
      have z2 := R.2.2.2.2 a _ hS1 q
      simp only [cI, true_and]
      split
      · exact z1
      · exact z2
  obtain ⟨t, a1, b1⟩ := kk p l e s m args below meth c D ca ad _ _ ls C (R.put (c' := .inl (ty, n0)) hsame (fun b hb => cI_row hb) (fun b hb => rfl) (by simp) hPn ⟨by simp; exact R.2.2.2.1.1, fun q z1 z2 => by
      rw [oq q (fun e => z2 (by rw [e]; exact hAa))]
      exact R.2.2.2.1.2.1 q z1 z2, fun q hq => by
      rcases List.mem_append.mp hq with h | h
      · exact R.2.2.2.1.2.2 q h
      · obtain ⟨z, -, hz⟩ := List.mem_map.mp h
        rw [← hz]
        exact hAa⟩ hwb) hl _ hheap X'
  exact ⟨t, step t a1, b1⟩
theorem g_copyJ {y : Mr} {RQ : RQt} {nc ns pc pc1 : Nat} {L : List (Option Value)} {st : List Value} {S : Shp} {I : Iv} {J : Jv} {idx a a0 n0 j : Nat} {ty : FieldType} {sp dp n : Int32} {f : Nat → Int64} (hd : Dc (yc y) pc (.invokestatic idx) 3 pc1) (hh : CpH y idx) (hS0 : S[a0]? = some (.inl (ty, n0))) (hf : J a0 = f) (hS1 : S[a]? = some (.inl (ty, n0))) (hty : ty = .long) (h1 : sp.toNatClampNeg = 0 ∧ ¬ sp < 0) (h2 : dp.toNatClampNeg = 0 ∧ ¬ dp < 0) (h3 : n.toNatClampNeg = n0 ∧ ¬ n < 0) (hcat : (st.map fun v => v.category).sum ≤ 8) (kk : G y RQ nc ns pc1 L st S I (cJ J a n0 f)) : G y RQ nc ns pc L (.int n :: .int dp :: .ref a :: .int sp :: .ref a0 :: st) S I J := by
  obtain ⟨hd, rfl⟩ := hd
  intro p l e s m args below meth c D ca ad H locs ls C R hl
  obtain ⟨hx, hb, hml, -, hown, hts, hnb, -, -, hK, hSt, hac, hs0⟩ := id C
  obtain ⟨g1, g2, g3, g4, g5, g6⟩ := hh
  have hD := wl_D (ca := ca) (I := I) (J := J) hac R.2.1
  have he1 := wl_at (ad := ad) (ca := ca) (I := I) (J := J) hS1
  have hAa : aA ad (ad a) := hD.2 a _ he1
  have hce1 : cE ad ca (.inl (ty, n0)) (I a) (J a) = .inl (ca ty, n0, .inr (.inl (J a))) := by
    subst hty; rfl
  rw [hce1] at he1
  have hc1 : H[ad a]? = some (vp_cell (ca ty) (n0, .inr (.inl (J a)))) := R.2.2.1 a _ he1
  have hAr : ArrOfT s (ca ty) ty := by
    subst hty; exact (hK.2 1 _ rfl).1
  have hprim : refKind ty = false := by
    subst hty; rfl
  obtain ⟨-, k1, hk1, cm1, hkk1⟩ := hAr n0 (fun q => .long (J a q))
  have he0 := wl_at (ad := ad) (ca := ca) (I := I) (J := J) hS0
  have hce0 : cE ad ca (.inl (ty, n0)) (I a0) (J a0) = .inl (ca ty, n0, .inr (.inl f)) := by
    subst hf
    subst hty; rfl
  rw [hce0] at he0
  have hc0 : H[ad a0]? = some (vp_cell (ca ty) (n0, .inr (.inl f))) := R.2.2.1 a0 _ he0
  have hnst : ∀ q, (vp_cell (ca ty) (n0, .inr (.inl f))).vm ≠ .statics q := fun _ h => by cases h
  have hnun : (vp_cell (ca ty) (n0, .inr (.inl f))).vm ≠ .unknown := fun h => by cases h
  have hsz : (vp_cell (ca ty) (n0, .inr (.inl f))).slots.size = n0 := by show (arrV _ _ _).slots.size = _; rw [arrV_size]
  have hrd : ∀ i : Nat, i < n0 → (vp_cell (ca ty) (n0, .inr (.inl f))).slots[i]? = some (.long (f i)) := fun i hi => by show (arrV _ _ _).slots[_]? = _; rw [arrV_read _ _ hi]
  obtain ⟨-, k0, hk0, cm0, hkk0⟩ := hAr n0 (fun q => .long (f q))
  have hfit : ∀ i : Nat, i < n0 → fits ty (.long (f i)) = true := by
    subst hf
    intro i _
    subst hty; rfl
  have hk0 : s.vm.classes[(vp_cell (ca ty) (n0, .inr (.inl f))).cls]? = some k0 := hk0
  generalize vp_cell (ca ty) (n0, .inr (.inl f)) = scr at hc0 hnst hnun hsz hrd hk0
  intro T hT X
  obtain ⟨vm', X', step⟩ := X.arraycopy hx hown (hts _ g1) (hts _ g2) (hts _ g3) (hts _ g4) (src := ad a0) (dst := ad a) (cs := scr) (cd := vp_cell (ca ty) (n0, .inr (.inl (J a)))) (srcPos := sp) (destPos := dp) (n := n) (by rw [hT]; exact hc0) (by rw [hT]; exact hc1)
    hnst (fun _ h => by cases h) hnun (fun h => by cases h) hk0 hk1 hkk0 hkk1 (by simp [hprim]) h1.2 h2.2 h3.2
    (by rw [nn_of h1.2, nn_of h3.2, h1.1, h3.1]; omega)
    (by rw [nn_of h2.2, nn_of h3.2, h2.1, h3.1]; show ¬ _ > ((arrV (ca ty) n0 (fun q => .long (J a q))).slots.size : Int); rw [arrV_size]; omega)
    (fun vm₁ _ i hi => by
      rw [h3.1] at hi
      have ez : scr.slots.getD (sp.toNatClampNeg + i) .null = .long (f i) := by
        rw [Array.getD_eq_getD_getElem?, h1.1, Nat.zero_add, hrd _ hi]
        rfl
      refine ⟨?_, ?_⟩
      · rw [ez]
        exact hfit i hi
      · rw [ez]
        exact trivial)
    (g := F0 m pc ls ((.int n :: .int dp :: .ref a :: .int sp :: .ref a0 :: st).map (rl ad))) rfl (by rw [hml]; exact hl.1) (rest := st.map (rl ad)) rfl (by rw [hb]; exact hd) g5 (by rw [rl_cats]; show 2 * 0 + _ + _ ≤ _; omega)
  have e0 : copied scr (vp_cell (ca ty) (n0, .inr (.inl (J a)))) sp dp n = vp_cell (ca ty) (n0, .inr (.inl (va_cpy f (J a) sp.toNatClampNeg dp.toNatClampNeg n.toNatClampNeg))) := va_copiedX (fun z => .long z) scr (ca ty) f (J a) hrd (by rw [h1.1, h3.1]; omega)
  have ec : va_cpy f (J a) sp.toNatClampNeg dp.toNatClampNeg n.toNatClampNeg = (fun q => if q < n0 then f q else J a q) := by
    funext q
    simp only [va_cpy, h1.1, h2.1, h3.1, Nat.zero_le, true_and, Nat.zero_add, Nat.sub_zero]
  rw [e0, ec] at X' step
  have hll : ad a < H.size := (Array.getElem?_eq_some_iff.mp hc1).1
  generalize hnew : vp_cell (ca ty) (n0, .inr (.inl (fun q => if q < n0 then f q else J a q))) = nw at X' step
  have hheap : ((T.setVm vm').setCell (ad a) nw).heap = H.setIfInBounds (ad a) nw := by rw [← hT]; rfl
  have oq : ∀ q : Nat, q ≠ ad a → (H.setIfInBounds (ad a) nw)[q]? = H[q]? := fun q hq => by simp [Array.getElem?_setIfInBounds, Ne.symm hq]
  have hsame : S.set a (.inl (ty, n0)) = S := list_set_same hS1
  have hcel : cE ad ca (.inl (ty, n0)) (I a) ((cJ J a n0 f) a) = .inl (ca ty, n0, .inr (.inl (fun q => if q < n0 then f q else J a q))) := by
    have : cJ J a n0 f a = (fun q => if q < n0 then f q else J a q) := by funext q; simp [cJ]
    rw [this]
    subst hty; rfl
  have hPn : va_P D vwCl ((wl ad ca S I J).set a (ad a, cE ad ca (.inl (ty, n0)) (I a) ((cJ J a n0 f) a))) (H.setIfInBounds (ad a) nw) := by
    rw [hcel]
    refine R.2.2.1.set hD he1 ?_ oq
    show (H.setIfInBounds (ad a) nw)[ad a]? = some (vp_cell _ _)
    rw [hnew]
    simp [Array.getElem?_setIfInBounds, hll]
  have hwb : wb S I := by
    exact R.2.2.2.2
  obtain ⟨t, a1, b1⟩ := kk p l e s m args below meth c D ca ad _ _ ls C (R.put (c' := .inl (ty, n0)) hsame (fun b hb => rfl) (fun b hb => cJ_row hb) (by simp) hPn ⟨by simp; exact R.2.2.2.1.1, fun q z1 z2 => by
      rw [oq q (fun e => z2 (by rw [e]; exact hAa))]
      exact R.2.2.2.1.2.1 q z1 z2, fun q hq => by
      rcases List.mem_append.mp hq with h | h
      · exact R.2.2.2.1.2.2 q h
      · obtain ⟨z, -, hz⟩ := List.mem_map.mp h
        rw [← hz]
        exact hAa⟩ hwb) hl _ hheap X'
  exact ⟨t, step t a1, b1⟩
theorem g_copyT {y : Mr} {RQ : RQt} {nc ns pc pc1 : Nat} {L : List (Option Value)} {st : List Value} {S : Shp} {I : Iv} {J : Jv} {idx a a0 n0 j : Nat} {ty : FieldType} {sp dp n : Int32} {f : Nat → Int32} (hd : Dc (yc y) pc (.invokestatic idx) 3 pc1) (hh : CpH y idx) {nm : String} {vs : List Int32} (hj : stI[j]? = some (nm, vs)) (hvs : vs.length = n0) (hf : (fun i => vs.getD i 0) = f) (hS1 : S[a]? = some (.inl (ty, n0))) (hty : ty = .int) (h1 : sp.toNatClampNeg = 0 ∧ ¬ sp < 0) (h2 : dp.toNatClampNeg = 0 ∧ ¬ dp < 0) (h3 : n.toNatClampNeg = n0 ∧ ¬ n < 0) (hcat : (st.map fun v => v.category).sum ≤ 8) (kk : G y RQ nc ns pc1 L st S (cI I a n0 f) J) : G y RQ nc ns pc L (.int n :: .int dp :: .ref a :: .int sp :: .ref (1000000 + j) :: st) S I J := by
  obtain ⟨hd, rfl⟩ := hd
  subst hty
  intro p l e s m args below meth c D ca ad H locs ls C R hl
  obtain ⟨hx, hb, hml, -, hown, hts, hnb, -, -, hK, hSt, hac, hs0⟩ := id C
  obtain ⟨g1, g2, g3, g4, g5, g6⟩ := hh
  have hD := wl_D (ca := ca) (I := I) (J := J) hac R.2.1
  have he1 := wl_at (ad := ad) (ca := ca) (I := I) (J := J) hS1
  have hAa : aA ad (ad a) := hD.2 a _ he1
  have hce1 : cE ad ca (.inl (FieldType.int, n0)) (I a) (J a) = .inl (ca FieldType.int, n0, .inl (I a)) := by
    rfl
  rw [hce1] at he1
  have hc1 : H[ad a]? = some (vp_cell (ca FieldType.int) (n0, .inl (I a))) := R.2.2.1 a _ he1
  have hAr : ArrOfT s (ca FieldType.int) FieldType.int := by
    exact (hK.2 0 _ rfl).1
  have hprim : refKind FieldType.int = false := by
    rfl
  obtain ⟨-, k1, hk1, cm1, hkk1⟩ := hAr n0 (fun q => .int (I a q))
  obtain ⟨scr, hs1, hs2, hs3, -, hs4, hs5, hs7⟩ := (hSt.1 j nm vs hj).2
  obtain ⟨hnst, k0, hk0, cm0, hkk0⟩ := hs2
  have hc0 : H[ad (1000000 + j)]? = some scr := by rw [R.2.2.2.1.2.1 _ (Array.getElem?_eq_some_iff.mp hs1).1 hs7]; exact hs1
  have hnun := hs3
  have hrd : ∀ i : Nat, i < n0 → scr.slots[i]? = some (.int (f i)) := by subst hf; subst hvs; exact hs5
  have hsz : n0 ≤ scr.slots.size := by
    cases n0 with
    | zero => exact Nat.zero_le _
    | succ q => exact (Array.getElem?_eq_some_iff.mp (hrd q (Nat.lt_succ_self q))).1
  have hfit : ∀ i : Nat, i < n0 → fits .int (.int (f i)) = true := fun _ _ => rfl
  intro T hT X
  obtain ⟨vm', X', step⟩ := X.arraycopy hx hown (hts _ g1) (hts _ g2) (hts _ g3) (hts _ g4) (src := ad (1000000 + j)) (dst := ad a) (cs := scr) (cd := vp_cell (ca FieldType.int) (n0, .inl (I a))) (srcPos := sp) (destPos := dp) (n := n) (by rw [hT]; exact hc0) (by rw [hT]; exact hc1)
    hnst (fun _ h => by cases h) hnun (fun h => by cases h) hk0 hk1 hkk0 hkk1 (by simp [hprim]) h1.2 h2.2 h3.2
    (by rw [nn_of h1.2, nn_of h3.2, h1.1, h3.1]; omega)
    (by rw [nn_of h2.2, nn_of h3.2, h2.1, h3.1]; show ¬ _ > ((arrV (ca FieldType.int) n0 (fun q => .int (I a q))).slots.size : Int); rw [arrV_size]; omega)
    (fun vm₁ _ i hi => by
      rw [h3.1] at hi
      have ez : scr.slots.getD (sp.toNatClampNeg + i) .null = .int (f i) := by
        rw [Array.getD_eq_getD_getElem?, h1.1, Nat.zero_add, hrd _ hi]
        rfl
      refine ⟨?_, ?_⟩
      · rw [ez]
        exact hfit i hi
      · rw [ez]
        exact trivial)
    (g := F0 m pc ls ((.int n :: .int dp :: .ref a :: .int sp :: .ref (1000000 + j) :: st).map (rl ad))) rfl (by rw [hml]; exact hl.1) (rest := st.map (rl ad)) rfl (by rw [hb]; exact hd) g5 (by rw [rl_cats]; show 2 * 0 + _ + _ ≤ _; omega)
  have e0 : copied scr (vp_cell (ca FieldType.int) (n0, .inl (I a))) sp dp n = vp_cell (ca FieldType.int) (n0, .inl (va_cpy f (I a) sp.toNatClampNeg dp.toNatClampNeg n.toNatClampNeg)) := va_copiedX (fun z => .int z) scr (ca FieldType.int) f (I a) hrd (by rw [h1.1, h3.1]; omega)
  have ec : va_cpy f (I a) sp.toNatClampNeg dp.toNatClampNeg n.toNatClampNeg = (fun q => if q < n0 then f q else I a q) := by
    funext q
    simp only [va_cpy, h1.1, h2.1, h3.1, Nat.zero_le, true_and, Nat.zero_add, Nat.sub_zero]
  rw [e0, ec] at X' step
  have hll : ad a < H.size := (Array.getElem?_eq_some_iff.mp hc1).1
  generalize hnew : vp_cell (ca FieldType.int) (n0, .inl (fun q => if q < n0 then f q else I a q)) = nw at X' step
  have hheap : ((T.setVm vm').setCell (ad a) nw).heap = H.setIfInBounds (ad a) nw := by rw [← hT]; rfl
  have oq : ∀ q : Nat, q ≠ ad a → (H.setIfInBounds (ad a) nw)[q]? = H[q]? := fun q hq => by simp [Array.getElem?_setIfInBounds, Ne.symm hq]
  have hsame : S.set a (.inl (FieldType.int, n0)) = S := list_set_same hS1
  have hcel : cE ad ca (.inl (FieldType.int, n0)) ((cI I a n0 f) a) (J a) = .inl (ca FieldType.int, n0, .inl (fun q => if q < n0 then f q else I a q)) := by
    have : cI I a n0 f a = (fun q => if q < n0 then f q else I a q) := by funext q; simp [cI]
    rw [this]
    rfl
  have hPn : va_P D vwCl ((wl ad ca S I J).set a (ad a, cE ad ca (.inl (FieldType.int, n0)) ((cI I a n0 f) a) (J a))) (H.setIfInBounds (ad a) nw) := by
    rw [hcel]
    refine R.2.2.1.set hD he1 ?_ oq
    show (H.setIfInBounds (ad a) nw)[ad a]? = some (vp_cell _ _)
    rw [hnew]
    simp [Array.getElem?_setIfInBounds, hll]
  have hwb : wb S (cI I a n0 f) := by
    rw [← hsame]
    exact wb_set R.2.2.2.2 (fun b hb => cI_row hb) trivial
  obtain ⟨t, a1, b1⟩ := kk p l e s m args below meth c D ca ad _ _ ls C (R.put (c' := .inl (FieldType.int, n0)) hsame (fun b hb => cI_row hb) (fun b hb => rfl) (by simp) hPn ⟨by simp; exact R.2.2.2.1.1, fun q z1 z2 => by
      rw [oq q (fun e => z2 (by rw [e]; exact hAa))]
      exact R.2.2.2.1.2.1 q z1 z2, fun q hq => by
      rcases List.mem_append.mp hq with h | h
      · exact R.2.2.2.1.2.2 q h
      · obtain ⟨z, -, hz⟩ := List.mem_map.mp h
        rw [← hz]
        exact hAa⟩ hwb) hl _ hheap X'
  exact ⟨t, step t a1, b1⟩
end
section
theorem i_vc : Claimed_1_1 ∧ Claimed_1_2 := sorry
end
