theorem tw_80 : (Cond.methodLink "ColdBox$Build" (3 : Nat) ({ cls := "java/lang/Object", name := "<init>", desc := "()V" } : MethodName)) ∈ TB := tzc_1 80 (by first | rfl | decide +kernel) rfl
theorem tw_83 : (Cond.methodLink "ColdBox$Build" (18 : Nat) ({ cls := "java/lang/System", name := "arraycopy", desc := "(Ljava/lang/Object;ILjava/lang/Object;II)V" } : MethodName)) ∈ TB := tzc_1 83 (by first | rfl | decide +kernel) rfl
theorem lk_RX0_24 : Lk RX0 24 (yn m_X6_has) := Or.inl (tzc_3 187 (by first | rfl | decide +kernel) rfl)
theorem zn_RX6 : RX6 ≠ "java/lang/invoke/MethodHandle" ∧ RX6 ≠ "java/lang/invoke/VarHandle" := by decide +kernel
theorem cz_X6_has : (yn m_X6_has).cls ≠ "java/lang/invoke/MethodHandle" ∧ (yn m_X6_has).cls ≠ "java/lang/invoke/VarHandle" ∧ (parseMethodDescriptor (yn m_X6_has).desc).map (fun d => d.parameters.length) = some 1 := ⟨zn_RX6.1, zn_RX6.2, by decide +kernel⟩
theorem cs_X0_sealOf_X6_has : Cs m_X0_sealOf m_X6_has 1 := ⟨cw_X6_has, in_X6_has, cz_X6_has, Nat.le_of_ble_eq_true rfl, Nat.le_of_ble_eq_true rfl⟩
theorem cs_X0_powerOf_X6_has : Cs m_X0_powerOf m_X6_has 1 := ⟨cw_X6_has, in_X6_has, cz_X6_has, Nat.le_of_ble_eq_true rfl, Nat.le_of_ble_eq_true rfl⟩
theorem lk_RX0_30 : Lk RX0 30 (yn m_X6_tickOfDay) := Or.inl (tzc_3 186 (by first | rfl | decide +kernel) rfl)
theorem cz_X6_tickOfDay : (yn m_X6_tickOfDay).cls ≠ "java/lang/invoke/MethodHandle" ∧ (yn m_X6_tickOfDay).cls ≠ "java/lang/invoke/VarHandle" ∧ (parseMethodDescriptor (yn m_X6_tickOfDay).desc).map (fun d => d.parameters.length) = some 0 := ⟨zn_RX6.1, zn_RX6.2, by decide +kernel⟩
theorem cs_X0_roomOf_X6_tickOfDay : Cs m_X0_roomOf m_X6_tickOfDay 0 := ⟨cw_X6_tickOfDay, in_X6_tickOfDay, cz_X6_tickOfDay, Nat.le_of_ble_eq_true rfl, Nat.le_of_ble_eq_true rfl⟩
theorem cs_X0_roomOf_X6_has : Cs m_X0_roomOf m_X6_has 1 := ⟨cw_X6_has, in_X6_has, cz_X6_has, Nat.le_of_ble_eq_true rfl, Nat.le_of_ble_eq_true rfl⟩
theorem tw_221 : (Cond.methodLink "ColdBox$FreshRuns" (3 : Nat) ({ cls := "java/lang/Object", name := "<init>", desc := "()V" } : MethodName)) ∈ TB := tzc_1 221 (by first | rfl | decide +kernel) rfl
theorem lk_RX1_11 : Lk RX1 11 (yn m_X6_init) := Or.inr ⟨"ColdBox", tzn_1 223 (by first | rfl | decide +kernel) rfl⟩
theorem cz_X6_init : (yn m_X6_init).cls ≠ "java/lang/invoke/MethodHandle" ∧ (yn m_X6_init).cls ≠ "java/lang/invoke/VarHandle" ∧ (parseMethodDescriptor (yn m_X6_init).desc).map (fun d => d.parameters.length) = some 0 := ⟨zn_RX6.1, zn_RX6.2, by decide +kernel⟩
theorem cs_X1_init_X6_init : Cs m_X1_init m_X6_init 0 := ⟨cw_X6_init, in_X6_init, cz_X6_init, Nat.le_of_ble_eq_true rfl, Nat.le_of_ble_eq_true rfl⟩
theorem lk_RX1_29 : Lk RX1 29 (yn m_J7_fill_53178) := Or.inl (tzc_3 55 (by first | rfl | decide +kernel) rfl)
theorem zn_RJ7 : RJ7 ≠ "java/lang/invoke/MethodHandle" ∧ RJ7 ≠ "java/lang/invoke/VarHandle" := by decide +kernel
theorem cz_J7_fill_53178 : (yn m_J7_fill_53178).cls ≠ "java/lang/invoke/MethodHandle" ∧ (yn m_J7_fill_53178).cls ≠ "java/lang/invoke/VarHandle" ∧ (parseMethodDescriptor (yn m_J7_fill_53178).desc).map (fun d => d.parameters.length) = some 2 := ⟨zn_RJ7.1, zn_RJ7.2, by decide +kernel⟩
theorem cs_X1_forgetSigns_J7_fill_53178 : Cs m_X1_forgetSigns m_J7_fill_53178 2 := ⟨cw_J7_fill_53178, in_J7_fill_53178, cz_J7_fill_53178, Nat.le_of_ble_eq_true rfl, Nat.le_of_ble_eq_true rfl⟩
theorem lk_RX1_35 : Lk RX1 35 (yn m_X9_isSet) := Or.inr ⟨"ColdBox", tzn_4 51 (by first | rfl | decide +kernel) rfl⟩
theorem zn_RX9 : RX9 ≠ "java/lang/invoke/MethodHandle" ∧ RX9 ≠ "java/lang/invoke/VarHandle" := by decide +kernel
theorem cz_X9_isSet : (yn m_X9_isSet).cls ≠ "java/lang/invoke/MethodHandle" ∧ (yn m_X9_isSet).cls ≠ "java/lang/invoke/VarHandle" ∧ (parseMethodDescriptor (yn m_X9_isSet).desc).map (fun d => d.parameters.length) = some 1 := ⟨zn_RX9.1, zn_RX9.2, by decide +kernel⟩
theorem cs_X1_signOf_X9_isSet : Cs m_X1_signOf m_X9_isSet 1 := ⟨cw_X9_isSet, in_X9_isSet, cz_X9_isSet, Nat.le_of_ble_eq_true rfl, Nat.le_of_ble_eq_true rfl⟩
theorem lk_RX1_39 : Lk RX1 39 (yn m_X9_areSignDays) := Or.inr ⟨"ColdBox", tzn_4 52 (by first | rfl | decide +kernel) rfl⟩
theorem cz_X9_areSignDays : (yn m_X9_areSignDays).cls ≠ "java/lang/invoke/MethodHandle" ∧ (yn m_X9_areSignDays).cls ≠ "java/lang/invoke/VarHandle" ∧ (parseMethodDescriptor (yn m_X9_areSignDays).desc).map (fun d => d.parameters.length) = some 1 := ⟨zn_RX9.1, zn_RX9.2, by decide +kernel⟩
theorem cs_X1_signOf_X9_areSignDays : Cs m_X1_signOf m_X9_areSignDays 1 := ⟨cw_X9_areSignDays, in_X9_areSignDays, cz_X9_areSignDays, Nat.le_of_ble_eq_true rfl, Nat.le_of_ble_eq_true rfl⟩
theorem lk_RX1_42 : Lk RX1 42 (yn m_X9_isSign) := Or.inr ⟨"ColdBox", tzn_4 67 (by first | rfl | decide +kernel) rfl⟩
theorem cz_X9_isSign : (yn m_X9_isSign).cls ≠ "java/lang/invoke/MethodHandle" ∧ (yn m_X9_isSign).cls ≠ "java/lang/invoke/VarHandle" ∧ (parseMethodDescriptor (yn m_X9_isSign).desc).map (fun d => d.parameters.length) = some 1 := ⟨zn_RX9.1, zn_RX9.2, by decide +kernel⟩
theorem cs_X1_signOf_X9_isSign : Cs m_X1_signOf m_X9_isSign 1 := ⟨cw_X9_isSign, in_X9_isSign, cz_X9_isSign, Nat.le_of_ble_eq_true rfl, Nat.le_of_ble_eq_true rfl⟩
theorem lk_RX1_45 : Lk RX1 45 (yn m_X1_placeOf) := Or.inl (tzc_4 59 (by first | rfl | decide +kernel) rfl)
theorem zn_RX1 : RX1 ≠ "java/lang/invoke/MethodHandle" ∧ RX1 ≠ "java/lang/invoke/VarHandle" := by decide +kernel
theorem cz_X1_placeOf : (yn m_X1_placeOf).cls ≠ "java/lang/invoke/MethodHandle" ∧ (yn m_X1_placeOf).cls ≠ "java/lang/invoke/VarHandle" ∧ (parseMethodDescriptor (yn m_X1_placeOf).desc).map (fun d => d.parameters.length) = some 2 := ⟨zn_RX1.1, zn_RX1.2, by decide +kernel⟩
theorem cs_X1_signOf_X1_placeOf : Cs m_X1_signOf m_X1_placeOf 2 := ⟨cw_X1_placeOf, in_X1_placeOf, cz_X1_placeOf, Nat.le_of_ble_eq_true rfl, Nat.le_of_ble_eq_true rfl⟩
theorem lk_RX1_52 : Lk RX1 52 (yn m_X1_learn) := Or.inl (tzc_4 108 (by first | rfl | decide +kernel) rfl)
theorem cz_X1_learn : (yn m_X1_learn).cls ≠ "java/lang/invoke/MethodHandle" ∧ (yn m_X1_learn).cls ≠ "java/lang/invoke/VarHandle" ∧ (parseMethodDescriptor (yn m_X1_learn).desc).map (fun d => d.parameters.length) = some 2 := ⟨zn_RX1.1, zn_RX1.2, by decide +kernel⟩
theorem cs_X1_learnCouldBe_X1_learn : Cs m_X1_learnCouldBe m_X1_learn 2 := ⟨cw_X1_learn, in_X1_learn, cz_X1_learn, Nat.le_of_ble_eq_true rfl, Nat.le_of_ble_eq_true rfl⟩
theorem lk_RX1_56 : Lk RX1 56 (yn m_X9_isPart) := Or.inr ⟨"ColdBox", tzn_4 231 (by first | rfl | decide +kernel) rfl⟩
theorem cz_X9_isPart : (yn m_X9_isPart).cls ≠ "java/lang/invoke/MethodHandle" ∧ (yn m_X9_isPart).cls ≠ "java/lang/invoke/VarHandle" ∧ (parseMethodDescriptor (yn m_X9_isPart).desc).map (fun d => d.parameters.length) = some 2 := ⟨zn_RX9.1, zn_RX9.2, by decide +kernel⟩
theorem cs_X1_learnParts_X9_isPart : Cs m_X1_learnParts m_X9_isPart 2 := ⟨cw_X9_isPart, in_X9_isPart, cz_X9_isPart, Nat.le_of_ble_eq_true rfl, Nat.le_of_ble_eq_true rfl⟩
theorem cs_X1_learnParts_X1_learn : Cs m_X1_learnParts m_X1_learn 2 := ⟨cw_X1_learn, in_X1_learn, cz_X1_learn, Nat.le_of_ble_eq_true rfl, Nat.le_of_ble_eq_true rfl⟩
theorem cs_X1_learn_X9_isSet : Cs m_X1_learn m_X9_isSet 1 := ⟨cw_X9_isSet, in_X9_isSet, cz_X9_isSet, Nat.le_of_ble_eq_true rfl, Nat.le_of_ble_eq_true rfl⟩
theorem cs_X1_learn_X9_areSignDays : Cs m_X1_learn m_X9_areSignDays 1 := ⟨cw_X9_areSignDays, in_X9_areSignDays, cz_X9_areSignDays, Nat.le_of_ble_eq_true rfl, Nat.le_of_ble_eq_true rfl⟩
theorem lk_RX1_60 : Lk RX1 60 (yn m_X1_begin) := Or.inl (tzc_4 53 (by first | rfl | decide +kernel) rfl)
theorem cz_X1_begin : (yn m_X1_begin).cls ≠ "java/lang/invoke/MethodHandle" ∧ (yn m_X1_begin).cls ≠ "java/lang/invoke/VarHandle" ∧ (parseMethodDescriptor (yn m_X1_begin).desc).map (fun d => d.parameters.length) = some 2 := ⟨zn_RX1.1, zn_RX1.2, by decide +kernel⟩
theorem cs_X1_learn_X1_begin : Cs m_X1_learn m_X1_begin 2 := ⟨cw_X1_begin, in_X1_begin, cz_X1_begin, Nat.le_of_ble_eq_true rfl, Nat.le_of_ble_eq_true rfl⟩
theorem lk_RX1_78 : Lk RX1 78 (yn m_X7_passByDay) := Or.inl (tzc_4 58 (by first | rfl | decide +kernel) rfl)
theorem zn_RX7 : RX7 ≠ "java/lang/invoke/MethodHandle" ∧ RX7 ≠ "java/lang/invoke/VarHandle" := by decide +kernel
theorem cz_X7_passByDay : (yn m_X7_passByDay).cls ≠ "java/lang/invoke/MethodHandle" ∧ (yn m_X7_passByDay).cls ≠ "java/lang/invoke/VarHandle" ∧ (parseMethodDescriptor (yn m_X7_passByDay).desc).map (fun d => d.parameters.length) = some 3 := ⟨zn_RX7.1, zn_RX7.2, by decide +kernel⟩
theorem cs_X1_learn_X7_passByDay : Cs m_X1_learn m_X7_passByDay 3 := ⟨cw_X7_passByDay, in_X7_passByDay, cz_X7_passByDay, Nat.le_of_ble_eq_true rfl, Nat.le_of_ble_eq_true rfl⟩
theorem cs_X1_learn_X1_placeOf : Cs m_X1_learn m_X1_placeOf 2 := ⟨cw_X1_placeOf, in_X1_placeOf, cz_X1_placeOf, Nat.le_of_ble_eq_true rfl, Nat.le_of_ble_eq_true rfl⟩
theorem lk_RX1_82 : Lk RX1 82 (yn m_X6_warmthOf) := Or.inl (tzc_4 62 (by first | rfl | decide +kernel) rfl)
theorem cz_X6_warmthOf : (yn m_X6_warmthOf).cls ≠ "java/lang/invoke/MethodHandle" ∧ (yn m_X6_warmthOf).cls ≠ "java/lang/invoke/VarHandle" ∧ (parseMethodDescriptor (yn m_X6_warmthOf).desc).map (fun d => d.parameters.length) = some 1 := ⟨zn_RX6.1, zn_RX6.2, by decide +kernel⟩
theorem cs_X1_learn_X6_warmthOf : Cs m_X1_learn m_X6_warmthOf 1 := ⟨cw_X6_warmthOf, in_X6_warmthOf, cz_X6_warmthOf, Nat.le_of_ble_eq_true rfl, Nat.le_of_ble_eq_true rfl⟩
theorem cs_X1_firstDay_X1_begin : Cs m_X1_firstDay m_X1_begin 2 := ⟨cw_X1_begin, in_X1_begin, cz_X1_begin, Nat.le_of_ble_eq_true rfl, Nat.le_of_ble_eq_true rfl⟩
theorem cs_X1_firstDay_X7_passByDay : Cs m_X1_firstDay m_X7_passByDay 3 := ⟨cw_X7_passByDay, in_X7_passByDay, cz_X7_passByDay, Nat.le_of_ble_eq_true rfl, Nat.le_of_ble_eq_true rfl⟩
theorem cs_X1_usedThawing_X1_begin : Cs m_X1_usedThawing m_X1_begin 2 := ⟨cw_X1_begin, in_X1_begin, cz_X1_begin, Nat.le_of_ble_eq_true rfl, Nat.le_of_ble_eq_true rfl⟩
theorem lk_RX1_86 : Lk RX1 86 (yn m_X6_letOffIce) := Or.inl (tzc_5 23 (by first | rfl | decide +kernel) rfl)
theorem cz_X6_letOffIce : (yn m_X6_letOffIce).cls ≠ "java/lang/invoke/MethodHandle" ∧ (yn m_X6_letOffIce).cls ≠ "java/lang/invoke/VarHandle" ∧ (parseMethodDescriptor (yn m_X6_letOffIce).desc).map (fun d => d.parameters.length) = some 0 := ⟨zn_RX6.1, zn_RX6.2, by decide +kernel⟩
theorem cs_X1_usedThawing_X6_letOffIce : Cs m_X1_usedThawing m_X6_letOffIce 0 := ⟨cw_X6_letOffIce, in_X6_letOffIce, cz_X6_letOffIce, Nat.le_of_ble_eq_true rfl, Nat.le_of_ble_eq_true rfl⟩
theorem cs_X1_usedThawing_X7_passByDay : Cs m_X1_usedThawing m_X7_passByDay 3 := ⟨cw_X7_passByDay, in_X7_passByDay, cz_X7_passByDay, Nat.le_of_ble_eq_true rfl, Nat.le_of_ble_eq_true rfl⟩
theorem lk_RX1_98 : Lk RX1 98 (yn m_X6_becomeFresh) := Or.inl (tzc_4 57 (by first | rfl | decide +kernel) rfl)
theorem cz_X6_becomeFresh : (yn m_X6_becomeFresh).cls ≠ "java/lang/invoke/MethodHandle" ∧ (yn m_X6_becomeFresh).cls ≠ "java/lang/invoke/VarHandle" ∧ (parseMethodDescriptor (yn m_X6_becomeFresh).desc).map (fun d => d.parameters.length) = some 0 := ⟨zn_RX6.1, zn_RX6.2, by decide +kernel⟩
theorem cs_X1_begin_X6_becomeFresh : Cs m_X1_begin m_X6_becomeFresh 0 := ⟨cw_X6_becomeFresh, in_X6_becomeFresh, cz_X6_becomeFresh, Nat.le_of_ble_eq_true rfl, Nat.le_of_ble_eq_true rfl⟩
theorem tw_242 : (Cond.methodLink "ColdBox$Guess" (3 : Nat) ({ cls := "java/lang/Object", name := "<init>", desc := "()V" } : MethodName)) ∈ TB := tzc_2 2 (by first | rfl | decide +kernel) rfl
theorem lk_RX2_42 : Lk RX2 42 (yn m_J7_fill_53178) := Or.inl (tzc_2 5 (by first | rfl | decide +kernel) rfl)
theorem cs_X2_init_J7_fill_53178 : Cs m_X2_init m_J7_fill_53178 2 := ⟨cw_J7_fill_53178, in_J7_fill_53178, cz_J7_fill_53178, Nat.le_of_ble_eq_true rfl, Nat.le_of_ble_eq_true rfl⟩
theorem lk_RX2_48 : Lk RX2 48 (yn m_X2_weighAll) := Or.inl (tzc_4 113 (by first | rfl | decide +kernel) rfl)
theorem zn_RX2 : RX2 ≠ "java/lang/invoke/MethodHandle" ∧ RX2 ≠ "java/lang/invoke/VarHandle" := by decide +kernel
theorem cz_X2_weighAll : (yn m_X2_weighAll).cls ≠ "java/lang/invoke/MethodHandle" ∧ (yn m_X2_weighAll).cls ≠ "java/lang/invoke/VarHandle" ∧ (parseMethodDescriptor (yn m_X2_weighAll).desc).map (fun d => d.parameters.length) = some 1 := ⟨zn_RX2.1, zn_RX2.2, by decide +kernel⟩
theorem cs_X2_oddsOf_X2_weighAll : Cs m_X2_oddsOf m_X2_weighAll 1 := ⟨cw_X2_weighAll, in_X2_weighAll, cz_X2_weighAll, Nat.le_of_ble_eq_true rfl, Nat.le_of_ble_eq_true rfl⟩
theorem lk_RX2_52 : Lk RX2 52 (yn m_X2_share) := Or.inl (tzc_4 136 (by first | rfl | decide +kernel) rfl)
theorem cz_X2_share : (yn m_X2_share).cls ≠ "java/lang/invoke/MethodHandle" ∧ (yn m_X2_share).cls ≠ "java/lang/invoke/VarHandle" ∧ (parseMethodDescriptor (yn m_X2_share).desc).map (fun d => d.parameters.length) = some 2 := ⟨zn_RX2.1, zn_RX2.2, by decide +kernel⟩
theorem cs_X2_oddsOf_X2_share : Cs m_X2_oddsOf m_X2_share 2 := ⟨cw_X2_share, in_X2_share, cz_X2_share, Nat.le_of_ble_eq_true rfl, Nat.le_of_ble_eq_true rfl⟩
theorem cs_X2_oddsWith_X2_weighAll : Cs m_X2_oddsWith m_X2_weighAll 1 := ⟨cw_X2_weighAll, in_X2_weighAll, cz_X2_weighAll, Nat.le_of_ble_eq_true rfl, Nat.le_of_ble_eq_true rfl⟩
theorem cs_X2_oddsWith_X2_share : Cs m_X2_oddsWith m_X2_share 2 := ⟨cw_X2_share, in_X2_share, cz_X2_share, Nat.le_of_ble_eq_true rfl, Nat.le_of_ble_eq_true rfl⟩
theorem cs_X2_howMuchTells_X2_weighAll : Cs m_X2_howMuchTells m_X2_weighAll 1 := ⟨cw_X2_weighAll, in_X2_weighAll, cz_X2_weighAll, Nat.le_of_ble_eq_true rfl, Nat.le_of_ble_eq_true rfl⟩
theorem lk_RX2_56 : Lk RX2 56 (yn m_X2_tellingBy) := Or.inl (tzc_4 156 (by first | rfl | decide +kernel) rfl)
theorem cz_X2_tellingBy : (yn m_X2_tellingBy).cls ≠ "java/lang/invoke/MethodHandle" ∧ (yn m_X2_tellingBy).cls ≠ "java/lang/invoke/VarHandle" ∧ (parseMethodDescriptor (yn m_X2_tellingBy).desc).map (fun d => d.parameters.length) = some 3 := ⟨zn_RX2.1, zn_RX2.2, by decide +kernel⟩
theorem cs_X2_howMuchTells_X2_tellingBy : Cs m_X2_howMuchTells m_X2_tellingBy 3 := ⟨cw_X2_tellingBy, in_X2_tellingBy, cz_X2_tellingBy, Nat.le_of_ble_eq_true rfl, Nat.le_of_ble_eq_true rfl⟩
theorem cs_X2_nextSign_X2_weighAll : Cs m_X2_nextSign m_X2_weighAll 1 := ⟨cw_X2_weighAll, in_X2_weighAll, cz_X2_weighAll, Nat.le_of_ble_eq_true rfl, Nat.le_of_ble_eq_true rfl⟩
theorem cs_X2_nextSign_X2_tellingBy : Cs m_X2_nextSign m_X2_tellingBy 3 := ⟨cw_X2_tellingBy, in_X2_tellingBy, cz_X2_tellingBy, Nat.le_of_ble_eq_true rfl, Nat.le_of_ble_eq_true rfl⟩
theorem lk_RX2_62 : Lk RX2 62 (yn m_X2_weightOf) := Or.inl (tzc_4 117 (by first | rfl | decide +kernel) rfl)
theorem cz_X2_weightOf : (yn m_X2_weightOf).cls ≠ "java/lang/invoke/MethodHandle" ∧ (yn m_X2_weightOf).cls ≠ "java/lang/invoke/VarHandle" ∧ (parseMethodDescriptor (yn m_X2_weightOf).desc).map (fun d => d.parameters.length) = some 2 := ⟨zn_RX2.1, zn_RX2.2, by decide +kernel⟩
theorem cs_X2_weighAll_X2_weightOf : Cs m_X2_weighAll m_X2_weightOf 2 := ⟨cw_X2_weightOf, in_X2_weightOf, cz_X2_weightOf, Nat.le_of_ble_eq_true rfl, Nat.le_of_ble_eq_true rfl⟩
theorem lk_RX2_68 : Lk RX2 68 (yn m_X2_halvings) := Or.inl (tzc_4 123 (by first | rfl | decide +kernel) rfl)
theorem cz_X2_halvings : (yn m_X2_halvings).cls ≠ "java/lang/invoke/MethodHandle" ∧ (yn m_X2_halvings).cls ≠ "java/lang/invoke/VarHandle" ∧ (parseMethodDescriptor (yn m_X2_halvings).desc).map (fun d => d.parameters.length) = some 3 := ⟨zn_RX2.1, zn_RX2.2, by decide +kernel⟩
theorem cs_X2_weightOf_X2_halvings : Cs m_X2_weightOf m_X2_halvings 3 := ⟨cw_X2_halvings, in_X2_halvings, cz_X2_halvings, Nat.le_of_ble_eq_true rfl, Nat.le_of_ble_eq_true rfl⟩
theorem lk_RX2_72 : Lk RX2 72 (yn m_X1_signOf) := Or.inl (tzc_4 127 (by first | rfl | decide +kernel) rfl)
theorem cz_X1_signOf : (yn m_X1_signOf).cls ≠ "java/lang/invoke/MethodHandle" ∧ (yn m_X1_signOf).cls ≠ "java/lang/invoke/VarHandle" ∧ (parseMethodDescriptor (yn m_X1_signOf).desc).map (fun d => d.parameters.length) = some 3 := ⟨zn_RX1.1, zn_RX1.2, by decide +kernel⟩
theorem cs_X2_halvings_X1_signOf : Cs m_X2_halvings m_X1_signOf 3 := ⟨cw_X1_signOf, in_X1_signOf, cz_X1_signOf, Nat.le_of_ble_eq_true rfl, Nat.le_of_ble_eq_true rfl⟩
theorem tw_848 : (Cond.methodLink "ColdBox$Guess" (77 : Nat) ({ cls := "java/lang/Math", name := "abs", desc := "(I)I" } : MethodName)) ∈ TB := tzc_4 128 (by first | rfl | decide +kernel) rfl
theorem lk_RX2_83 : Lk RX2 83 (yn m_X2_exactOf) := Or.inl (tzc_4 131 (by first | rfl | decide +kernel) rfl)
theorem cz_X2_exactOf : (yn m_X2_exactOf).cls ≠ "java/lang/invoke/MethodHandle" ∧ (yn m_X2_exactOf).cls ≠ "java/lang/invoke/VarHandle" ∧ (parseMethodDescriptor (yn m_X2_exactOf).desc).map (fun d => d.parameters.length) = some 1 := ⟨zn_RX2.1, zn_RX2.2, by decide +kernel⟩
theorem cs_X2_halvings_X2_exactOf : Cs m_X2_halvings m_X2_exactOf 1 := ⟨cw_X2_exactOf, in_X2_exactOf, cz_X2_exactOf, Nat.le_of_ble_eq_true rfl, Nat.le_of_ble_eq_true rfl⟩
theorem tw_855 : (Cond.methodLink "ColdBox$Guess" (86 : Nat) ({ cls := "java/lang/Math", name := "min", desc := "(II)I" } : MethodName)) ∈ TB := tzc_4 135 (by first | rfl | decide +kernel) rfl
theorem cs_X2_tellingBy_X1_signOf : Cs m_X2_tellingBy m_X1_signOf 3 := ⟨cw_X1_signOf, in_X1_signOf, cz_X1_signOf, Nat.le_of_ble_eq_true rfl, Nat.le_of_ble_eq_true rfl⟩
theorem cs_X2_tellingBy_X2_exactOf : Cs m_X2_tellingBy m_X2_exactOf 1 := ⟨cw_X2_exactOf, in_X2_exactOf, cz_X2_exactOf, Nat.le_of_ble_eq_true rfl, Nat.le_of_ble_eq_true rfl⟩
theorem lk_RX2_90 : Lk RX2 90 (yn m_X2_isFirstOfClass) := Or.inl (tzc_4 160 (by first | rfl | decide +kernel) rfl)
theorem cz_X2_isFirstOfClass : (yn m_X2_isFirstOfClass).cls ≠ "java/lang/invoke/MethodHandle" ∧ (yn m_X2_isFirstOfClass).cls ≠ "java/lang/invoke/VarHandle" ∧ (parseMethodDescriptor (yn m_X2_isFirstOfClass).desc).map (fun d => d.parameters.length) = some 1 := ⟨zn_RX2.1, zn_RX2.2, by decide +kernel⟩
theorem cs_X2_tellingBy_X2_isFirstOfClass : Cs m_X2_tellingBy m_X2_isFirstOfClass 1 := ⟨cw_X2_isFirstOfClass, in_X2_isFirstOfClass, cz_X2_isFirstOfClass, Nat.le_of_ble_eq_true rfl, Nat.le_of_ble_eq_true rfl⟩
theorem lk_RX2_94 : Lk RX2 94 (yn m_X2_weightOfClass) := Or.inl (tzc_4 164 (by first | rfl | decide +kernel) rfl)
theorem cz_X2_weightOfClass : (yn m_X2_weightOfClass).cls ≠ "java/lang/invoke/MethodHandle" ∧ (yn m_X2_weightOfClass).cls ≠ "java/lang/invoke/VarHandle" ∧ (parseMethodDescriptor (yn m_X2_weightOfClass).desc).map (fun d => d.parameters.length) = some 1 := ⟨zn_RX2.1, zn_RX2.2, by decide +kernel⟩
theorem cs_X2_tellingBy_X2_weightOfClass : Cs m_X2_tellingBy m_X2_weightOfClass 1 := ⟨cw_X2_weightOfClass, in_X2_weightOfClass, cz_X2_weightOfClass, Nat.le_of_ble_eq_true rfl, Nat.le_of_ble_eq_true rfl⟩
theorem tw_99 : (Cond.methodLink "ColdBox$Openings" (3 : Nat) ({ cls := "java/lang/Object", name := "<init>", desc := "()V" } : MethodName)) ∈ TB := tzc_1 99 (by first | rfl | decide +kernel) rfl
theorem tw_554 : (Cond.methodLink "ColdBox$Openings" (26 : Nat) ({ cls := "java/lang/Math", name := "max", desc := "(II)I" } : MethodName)) ∈ TB := tzc_3 74 (by first | rfl | decide +kernel) rfl
theorem tw_283 : (Cond.methodLink "ColdBox$Purse" (3 : Nat) ({ cls := "java/lang/Object", name := "<init>", desc := "()V" } : MethodName)) ∈ TB := tzc_2 43 (by first | rfl | decide +kernel) rfl
theorem lk_RX4_23 : Lk RX4 23 (yn m_J7_fill_53178) := Or.inl (tzc_2 44 (by first | rfl | decide +kernel) rfl)
theorem cs_X4_init_J7_fill_53178 : Cs m_X4_init m_J7_fill_53178 2 := ⟨cw_J7_fill_53178, in_J7_fill_53178, cz_J7_fill_53178, Nat.le_of_ble_eq_true rfl, Nat.le_of_ble_eq_true rfl⟩
theorem lk_RX4_29 : Lk RX4 29 (yn m_X1_signOf) := Or.inl (tzc_4 203 (by first | rfl | decide +kernel) rfl)
theorem cs_X4_yearOf_X1_signOf : Cs m_X4_yearOf m_X1_signOf 3 := ⟨cw_X1_signOf, in_X1_signOf, cz_X1_signOf, Nat.le_of_ble_eq_true rfl, Nat.le_of_ble_eq_true rfl⟩
theorem lk_RX4_35 : Lk RX4 35 (yn m_X4_yearByUse) := Or.inl (tzc_4 204 (by first | rfl | decide +kernel) rfl)
theorem zn_RX4 : RX4 ≠ "java/lang/invoke/MethodHandle" ∧ RX4 ≠ "java/lang/invoke/VarHandle" := by decide +kernel
theorem cz_X4_yearByUse : (yn m_X4_yearByUse).cls ≠ "java/lang/invoke/MethodHandle" ∧ (yn m_X4_yearByUse).cls ≠ "java/lang/invoke/VarHandle" ∧ (parseMethodDescriptor (yn m_X4_yearByUse).desc).map (fun d => d.parameters.length) = some 1 := ⟨zn_RX4.1, zn_RX4.2, by decide +kernel⟩
theorem cs_X4_yearOf_X4_yearByUse : Cs m_X4_yearOf m_X4_yearByUse 1 := ⟨cw_X4_yearByUse, in_X4_yearByUse, cz_X4_yearByUse, Nat.le_of_ble_eq_true rfl, Nat.le_of_ble_eq_true rfl⟩
theorem lk_RX4_43 : Lk RX4 43 (yn m_X4_yearOf) := Or.inl (tzc_4 222 (by first | rfl | decide +kernel) rfl)
theorem cz_X4_yearOf : (yn m_X4_yearOf).cls ≠ "java/lang/invoke/MethodHandle" ∧ (yn m_X4_yearOf).cls ≠ "java/lang/invoke/VarHandle" ∧ (parseMethodDescriptor (yn m_X4_yearOf).desc).map (fun d => d.parameters.length) = some 2 := ⟨zn_RX4.1, zn_RX4.2, by decide +kernel⟩
theorem cs_X4_saved_X4_yearOf : Cs m_X4_saved m_X4_yearOf 2 := ⟨cw_X4_yearOf, in_X4_yearOf, cz_X4_yearOf, Nat.le_of_ble_eq_true rfl, Nat.le_of_ble_eq_true rfl⟩
theorem lk_RX4_47 : Lk RX4 47 (yn m_X4_costOf) := Or.inl (tzc_4 236 (by first | rfl | decide +kernel) rfl)
theorem cz_X4_costOf : (yn m_X4_costOf).cls ≠ "java/lang/invoke/MethodHandle" ∧ (yn m_X4_costOf).cls ≠ "java/lang/invoke/VarHandle" ∧ (parseMethodDescriptor (yn m_X4_costOf).desc).map (fun d => d.parameters.length) = some 1 := ⟨zn_RX4.1, zn_RX4.2, by decide +kernel⟩
theorem cs_X4_bestPart_X4_costOf : Cs m_X4_bestPart m_X4_costOf 1 := ⟨cw_X4_costOf, in_X4_costOf, cz_X4_costOf, Nat.le_of_ble_eq_true rfl, Nat.le_of_ble_eq_true rfl⟩
theorem lk_RX4_50 : Lk RX4 50 (yn m_X9_isPart) := Or.inr ⟨"ColdBox", tzn_5 0 (by first | rfl | decide +kernel) rfl⟩
theorem cs_X4_bestPart_X9_isPart : Cs m_X4_bestPart m_X9_isPart 2 := ⟨cw_X9_isPart, in_X9_isPart, cz_X9_isPart, Nat.le_of_ble_eq_true rfl, Nat.le_of_ble_eq_true rfl⟩
theorem lk_RX4_54 : Lk RX4 54 (yn m_X4_saved) := Or.inl (tzc_5 1 (by first | rfl | decide +kernel) rfl)
theorem cz_X4_saved : (yn m_X4_saved).cls ≠ "java/lang/invoke/MethodHandle" ∧ (yn m_X4_saved).cls ≠ "java/lang/invoke/VarHandle" ∧ (parseMethodDescriptor (yn m_X4_saved).desc).map (fun d => d.parameters.length) = some 3 := ⟨zn_RX4.1, zn_RX4.2, by decide +kernel⟩
theorem cs_X4_bestPart_X4_saved : Cs m_X4_bestPart m_X4_saved 3 := ⟨cw_X4_saved, in_X4_saved, cz_X4_saved, Nat.le_of_ble_eq_true rfl, Nat.le_of_ble_eq_true rfl⟩
theorem cs_X4_yearsToPay_X4_yearOf : Cs m_X4_yearsToPay m_X4_yearOf 2 := ⟨cw_X4_yearOf, in_X4_yearOf, cz_X4_yearOf, Nat.le_of_ble_eq_true rfl, Nat.le_of_ble_eq_true rfl⟩
theorem cs_X4_yearsToPay_X4_yearByUse : Cs m_X4_yearsToPay m_X4_yearByUse 1 := ⟨cw_X4_yearByUse, in_X4_yearByUse, cz_X4_yearByUse, Nat.le_of_ble_eq_true rfl, Nat.le_of_ble_eq_true rfl⟩
theorem lk_RX4_58 : Lk RX4 58 (yn m_X1_usedThawing) := Or.inl (tzc_5 19 (by first | rfl | decide +kernel) rfl)
theorem cz_X1_usedThawing : (yn m_X1_usedThawing).cls ≠ "java/lang/invoke/MethodHandle" ∧ (yn m_X1_usedThawing).cls ≠ "java/lang/invoke/VarHandle" ∧ (parseMethodDescriptor (yn m_X1_usedThawing).desc).map (fun d => d.parameters.length) = some 4 := ⟨zn_RX1.1, zn_RX1.2, by decide +kernel⟩
theorem cs_X4_bestThawing_X1_usedThawing : Cs m_X4_bestThawing m_X1_usedThawing 4 := ⟨cw_X1_usedThawing, in_X1_usedThawing, cz_X1_usedThawing, Nat.le_of_ble_eq_true rfl, Nat.le_of_ble_eq_true rfl⟩
theorem tw_33 : (Cond.methodLink "ColdBox$Reader" (3 : Nat) ({ cls := "java/lang/Object", name := "<init>", desc := "()V" } : MethodName)) ∈ TB := tzc_1 33 (by first | rfl | decide +kernel) rfl
theorem lk_RX5_38 : Lk RX5 38 (yn m_X5_begin) := Or.inl (tzc_2 171 (by first | rfl | decide +kernel) rfl)
theorem zn_RX5 : RX5 ≠ "java/lang/invoke/MethodHandle" ∧ RX5 ≠ "java/lang/invoke/VarHandle" := by decide +kernel
theorem cz_X5_begin : (yn m_X5_begin).cls ≠ "java/lang/invoke/MethodHandle" ∧ (yn m_X5_begin).cls ≠ "java/lang/invoke/VarHandle" ∧ (parseMethodDescriptor (yn m_X5_begin).desc).map (fun d => d.parameters.length) = some 0 := ⟨zn_RX5.1, zn_RX5.2, by decide +kernel⟩
theorem cs_X5_readBox_X5_begin : Cs m_X5_readBox m_X5_begin 0 := ⟨cw_X5_begin, in_X5_begin, cz_X5_begin, Nat.le_of_ble_eq_true rfl, Nat.le_of_ble_eq_true rfl⟩
theorem tw_420 : (Cond.methodLink "ColdBox$Reader" (44 : Nat) ({ cls := "java/lang/System", name := "arraycopy", desc := "(Ljava/lang/Object;ILjava/lang/Object;II)V" } : MethodName)) ∈ TB := tzc_2 180 (by first | rfl | decide +kernel) rfl
theorem lk_RX5_56 : Lk RX5 56 (yn m_X5_readClause) := Or.inl (tzc_2 181 (by first | rfl | decide +kernel) rfl)
theorem cz_X5_readClause : (yn m_X5_readClause).cls ≠ "java/lang/invoke/MethodHandle" ∧ (yn m_X5_readClause).cls ≠ "java/lang/invoke/VarHandle" ∧ (parseMethodDescriptor (yn m_X5_readClause).desc).map (fun d => d.parameters.length) = some 0 := ⟨zn_RX5.1, zn_RX5.2, by decide +kernel⟩
theorem cs_X5_readBox_X5_readClause : Cs m_X5_readBox m_X5_readClause 0 := ⟨cw_X5_readClause, in_X5_readClause, cz_X5_readClause, Nat.le_of_ble_eq_true rfl, Nat.le_of_ble_eq_true rfl⟩
theorem lk_RX5_59 : Lk RX5 59 (yn m_X5_skipBlanks) := Or.inl (tzc_2 175 (by first | rfl | decide +kernel) rfl)
theorem cz_X5_skipBlanks : (yn m_X5_skipBlanks).cls ≠ "java/lang/invoke/MethodHandle" ∧ (yn m_X5_skipBlanks).cls ≠ "java/lang/invoke/VarHandle" ∧ (parseMethodDescriptor (yn m_X5_skipBlanks).desc).map (fun d => d.parameters.length) = some 0 := ⟨zn_RX5.1, zn_RX5.2, by decide +kernel⟩
theorem cs_X5_readBox_X5_skipBlanks : Cs m_X5_readBox m_X5_skipBlanks 0 := ⟨cw_X5_skipBlanks, in_X5_skipBlanks, cz_X5_skipBlanks, Nat.le_of_ble_eq_true rfl, Nat.le_of_ble_eq_true rfl⟩
theorem lk_RX5_62 : Lk RX5 62 (yn m_X5_faultAt) := Or.inl (tzc_3 24 (by first | rfl | decide +kernel) rfl)
theorem cz_X5_faultAt : (yn m_X5_faultAt).cls ≠ "java/lang/invoke/MethodHandle" ∧ (yn m_X5_faultAt).cls ≠ "java/lang/invoke/VarHandle" ∧ (parseMethodDescriptor (yn m_X5_faultAt).desc).map (fun d => d.parameters.length) = some 2 := ⟨zn_RX5.1, zn_RX5.2, by decide +kernel⟩
theorem cs_X5_readBox_X5_faultAt : Cs m_X5_readBox m_X5_faultAt 2 := ⟨cw_X5_faultAt, in_X5_faultAt, cz_X5_faultAt, Nat.le_of_ble_eq_true rfl, Nat.le_of_ble_eq_true rfl⟩
theorem cs_X5_readDay_X5_begin : Cs m_X5_readDay m_X5_begin 0 := ⟨cw_X5_begin, in_X5_begin, cz_X5_begin, Nat.le_of_ble_eq_true rfl, Nat.le_of_ble_eq_true rfl⟩
theorem lk_RX5_66 : Lk RX5 66 (yn m_X5_readOpening) := Or.inl (tzc_3 65 (by first | rfl | decide +kernel) rfl)
theorem cz_X5_readOpening : (yn m_X5_readOpening).cls ≠ "java/lang/invoke/MethodHandle" ∧ (yn m_X5_readOpening).cls ≠ "java/lang/invoke/VarHandle" ∧ (parseMethodDescriptor (yn m_X5_readOpening).desc).map (fun d => d.parameters.length) = some 0 := ⟨zn_RX5.1, zn_RX5.2, by decide +kernel⟩
theorem cs_X5_readDay_X5_readOpening : Cs m_X5_readDay m_X5_readOpening 0 := ⟨cw_X5_readOpening, in_X5_readOpening, cz_X5_readOpening, Nat.le_of_ble_eq_true rfl, Nat.le_of_ble_eq_true rfl⟩
theorem cs_X5_readDay_X5_skipBlanks : Cs m_X5_readDay m_X5_skipBlanks 0 := ⟨cw_X5_skipBlanks, in_X5_skipBlanks, cz_X5_skipBlanks, Nat.le_of_ble_eq_true rfl, Nat.le_of_ble_eq_true rfl⟩
theorem cs_X5_begin_X5_skipBlanks : Cs m_X5_begin m_X5_skipBlanks 0 := ⟨cw_X5_skipBlanks, in_X5_skipBlanks, cz_X5_skipBlanks, Nat.le_of_ble_eq_true rfl, Nat.le_of_ble_eq_true rfl⟩
theorem lk_RX5_72 : Lk RX5 72 (yn m_X5_readWord) := Or.inl (tzc_2 185 (by first | rfl | decide +kernel) rfl)
theorem cz_X5_readWord : (yn m_X5_readWord).cls ≠ "java/lang/invoke/MethodHandle" ∧ (yn m_X5_readWord).cls ≠ "java/lang/invoke/VarHandle" ∧ (parseMethodDescriptor (yn m_X5_readWord).desc).map (fun d => d.parameters.length) = some 0 := ⟨zn_RX5.1, zn_RX5.2, by decide +kernel⟩
theorem cs_X5_readClause_X5_readWord : Cs m_X5_readClause m_X5_readWord 0 := ⟨cw_X5_readWord, in_X5_readWord, cz_X5_readWord, Nat.le_of_ble_eq_true rfl, Nat.le_of_ble_eq_true rfl⟩
theorem lk_RX5_75 : Lk RX5 75 (yn m_X5_clauseFrom) := Or.inl (tzc_2 192 (by first | rfl | decide +kernel) rfl)
theorem cz_X5_clauseFrom : (yn m_X5_clauseFrom).cls ≠ "java/lang/invoke/MethodHandle" ∧ (yn m_X5_clauseFrom).cls ≠ "java/lang/invoke/VarHandle" ∧ (parseMethodDescriptor (yn m_X5_clauseFrom).desc).map (fun d => d.parameters.length) = some 1 := ⟨zn_RX5.1, zn_RX5.2, by decide +kernel⟩
theorem cs_X5_readClause_X5_clauseFrom : Cs m_X5_readClause m_X5_clauseFrom 1 := ⟨cw_X5_clauseFrom, in_X5_clauseFrom, cz_X5_clauseFrom, Nat.le_of_ble_eq_true rfl, Nat.le_of_ble_eq_true rfl⟩
theorem cs_X5_readClause_X5_faultAt : Cs m_X5_readClause m_X5_faultAt 2 := ⟨cw_X5_faultAt, in_X5_faultAt, cz_X5_faultAt, Nat.le_of_ble_eq_true rfl, Nat.le_of_ble_eq_true rfl⟩
theorem lk_RX5_79 : Lk RX5 79 (yn m_X5_readClauseNumbers) := Or.inl (tzc_3 28 (by first | rfl | decide +kernel) rfl)
theorem cz_X5_readClauseNumbers : (yn m_X5_readClauseNumbers).cls ≠ "java/lang/invoke/MethodHandle" ∧ (yn m_X5_readClauseNumbers).cls ≠ "java/lang/invoke/VarHandle" ∧ (parseMethodDescriptor (yn m_X5_readClauseNumbers).desc).map (fun d => d.parameters.length) = some 1 := ⟨zn_RX5.1, zn_RX5.2, by decide +kernel⟩
theorem cs_X5_readClause_X5_readClauseNumbers : Cs m_X5_readClause m_X5_readClauseNumbers 1 := ⟨cw_X5_readClauseNumbers, in_X5_readClauseNumbers, cz_X5_readClauseNumbers, Nat.le_of_ble_eq_true rfl, Nat.le_of_ble_eq_true rfl⟩
theorem lk_RX5_83 : Lk RX5 83 (yn m_X5_readClauseEnd) := Or.inl (tzc_3 43 (by first | rfl | decide +kernel) rfl)
theorem cz_X5_readClauseEnd : (yn m_X5_readClauseEnd).cls ≠ "java/lang/invoke/MethodHandle" ∧ (yn m_X5_readClauseEnd).cls ≠ "java/lang/invoke/VarHandle" ∧ (parseMethodDescriptor (yn m_X5_readClauseEnd).desc).map (fun d => d.parameters.length) = some 0 := ⟨zn_RX5.1, zn_RX5.2, by decide +kernel⟩
theorem cs_X5_readClause_X5_readClauseEnd : Cs m_X5_readClause m_X5_readClauseEnd 0 := ⟨cw_X5_readClauseEnd, in_X5_readClauseEnd, cz_X5_readClauseEnd, Nat.le_of_ble_eq_true rfl, Nat.le_of_ble_eq_true rfl⟩
theorem lk_RX5_92 : Lk RX5 92 (yn m_X5_readNumber) := Or.inl (tzc_3 36 (by first | rfl | decide +kernel) rfl)
theorem cz_X5_readNumber : (yn m_X5_readNumber).cls ≠ "java/lang/invoke/MethodHandle" ∧ (yn m_X5_readNumber).cls ≠ "java/lang/invoke/VarHandle" ∧ (parseMethodDescriptor (yn m_X5_readNumber).desc).map (fun d => d.parameters.length) = some 2 := ⟨zn_RX5.1, zn_RX5.2, by decide +kernel⟩
theorem cs_X5_readClauseNumbers_X5_readNumber : Cs m_X5_readClauseNumbers m_X5_readNumber 2 := ⟨cw_X5_readNumber, in_X5_readNumber, cz_X5_readNumber, Nat.le_of_ble_eq_true rfl, Nat.le_of_ble_eq_true rfl⟩
theorem cs_X5_readOpening_X5_readWord : Cs m_X5_readOpening m_X5_readWord 0 := ⟨cw_X5_readWord, in_X5_readWord, cz_X5_readWord, Nat.le_of_ble_eq_true rfl, Nat.le_of_ble_eq_true rfl⟩
theorem lk_RX5_98 : Lk RX5 98 (yn m_X5_isWord) := Or.inl (tzc_2 212 (by first | rfl | decide +kernel) rfl)
theorem cz_X5_isWord : (yn m_X5_isWord).cls ≠ "java/lang/invoke/MethodHandle" ∧ (yn m_X5_isWord).cls ≠ "java/lang/invoke/VarHandle" ∧ (parseMethodDescriptor (yn m_X5_isWord).desc).map (fun d => d.parameters.length) = some 2 := ⟨zn_RX5.1, zn_RX5.2, by decide +kernel⟩
theorem cs_X5_readOpening_X5_isWord : Cs m_X5_readOpening m_X5_isWord 2 := ⟨cw_X5_isWord, in_X5_isWord, cz_X5_isWord, Nat.le_of_ble_eq_true rfl, Nat.le_of_ble_eq_true rfl⟩
theorem cs_X5_readOpening_X5_faultAt : Cs m_X5_readOpening m_X5_faultAt 2 := ⟨cw_X5_faultAt, in_X5_faultAt, cz_X5_faultAt, Nat.le_of_ble_eq_true rfl, Nat.le_of_ble_eq_true rfl⟩
theorem cs_X5_readOpening_X5_readNumber : Cs m_X5_readOpening m_X5_readNumber 2 := ⟨cw_X5_readNumber, in_X5_readNumber, cz_X5_readNumber, Nat.le_of_ble_eq_true rfl, Nat.le_of_ble_eq_true rfl⟩
theorem cs_X5_readOpening_X5_readClauseEnd : Cs m_X5_readOpening m_X5_readClauseEnd 0 := ⟨cw_X5_readClauseEnd, in_X5_readClauseEnd, cz_X5_readClauseEnd, Nat.le_of_ble_eq_true rfl, Nat.le_of_ble_eq_true rfl⟩
theorem cs_X5_readClauseEnd_X5_skipBlanks : Cs m_X5_readClauseEnd m_X5_skipBlanks 0 := ⟨cw_X5_skipBlanks, in_X5_skipBlanks, cz_X5_skipBlanks, Nat.le_of_ble_eq_true rfl, Nat.le_of_ble_eq_true rfl⟩
theorem cs_X5_readClauseEnd_X5_faultAt : Cs m_X5_readClauseEnd m_X5_faultAt 2 := ⟨cw_X5_faultAt, in_X5_faultAt, cz_X5_faultAt, Nat.le_of_ble_eq_true rfl, Nat.le_of_ble_eq_true rfl⟩
theorem cs_X5_readNumber_X5_skipBlanks : Cs m_X5_readNumber m_X5_skipBlanks 0 := ⟨cw_X5_skipBlanks, in_X5_skipBlanks, cz_X5_skipBlanks, Nat.le_of_ble_eq_true rfl, Nat.le_of_ble_eq_true rfl⟩
theorem lk_RX5_102 : Lk RX5 102 (yn m_X5_isFigure) := Or.inl (tzc_3 40 (by first | rfl | decide +kernel) rfl)
theorem cz_X5_isFigure : (yn m_X5_isFigure).cls ≠ "java/lang/invoke/MethodHandle" ∧ (yn m_X5_isFigure).cls ≠ "java/lang/invoke/VarHandle" ∧ (parseMethodDescriptor (yn m_X5_isFigure).desc).map (fun d => d.parameters.length) = some 1 := ⟨zn_RX5.1, zn_RX5.2, by decide +kernel⟩
theorem cs_X5_readNumber_X5_isFigure : Cs m_X5_readNumber m_X5_isFigure 1 := ⟨cw_X5_isFigure, in_X5_isFigure, cz_X5_isFigure, Nat.le_of_ble_eq_true rfl, Nat.le_of_ble_eq_true rfl⟩
theorem cs_X5_readNumber_X5_faultAt : Cs m_X5_readNumber m_X5_faultAt 2 := ⟨cw_X5_faultAt, in_X5_faultAt, cz_X5_faultAt, Nat.le_of_ble_eq_true rfl, Nat.le_of_ble_eq_true rfl⟩
theorem lk_RX5_106 : Lk RX5 106 (yn m_X5_isLetter) := Or.inl (tzc_2 189 (by first | rfl | decide +kernel) rfl)
theorem cz_X5_isLetter : (yn m_X5_isLetter).cls ≠ "java/lang/invoke/MethodHandle" ∧ (yn m_X5_isLetter).cls ≠ "java/lang/invoke/VarHandle" ∧ (parseMethodDescriptor (yn m_X5_isLetter).desc).map (fun d => d.parameters.length) = some 1 := ⟨zn_RX5.1, zn_RX5.2, by decide +kernel⟩
theorem cs_X5_readWord_X5_isLetter : Cs m_X5_readWord m_X5_isLetter 1 := ⟨cw_X5_isLetter, in_X5_isLetter, cz_X5_isLetter, Nat.le_of_ble_eq_true rfl, Nat.le_of_ble_eq_true rfl⟩
theorem lk_RX5_109 : Lk RX5 109 (yn m_X5_wordOf) := Or.inl (tzc_2 196 (by first | rfl | decide +kernel) rfl)
theorem cz_X5_wordOf : (yn m_X5_wordOf).cls ≠ "java/lang/invoke/MethodHandle" ∧ (yn m_X5_wordOf).cls ≠ "java/lang/invoke/VarHandle" ∧ (parseMethodDescriptor (yn m_X5_wordOf).desc).map (fun d => d.parameters.length) = some 1 := ⟨zn_RX5.1, zn_RX5.2, by decide +kernel⟩
theorem cs_X5_clauseFrom_X5_wordOf : Cs m_X5_clauseFrom m_X5_wordOf 1 := ⟨cw_X5_wordOf, in_X5_wordOf, cz_X5_wordOf, Nat.le_of_ble_eq_true rfl, Nat.le_of_ble_eq_true rfl⟩
theorem cs_X5_clauseFrom_X5_isWord : Cs m_X5_clauseFrom m_X5_isWord 2 := ⟨cw_X5_isWord, in_X5_isWord, cz_X5_isWord, Nat.le_of_ble_eq_true rfl, Nat.le_of_ble_eq_true rfl⟩
theorem lk_RX5_113 : Lk RX5 113 (yn m_J0_length_8abf5) := Or.inl (tzc_2 216 (by first | rfl | decide +kernel) rfl)
theorem zn_RJ0 : RJ0 ≠ "java/lang/invoke/MethodHandle" ∧ RJ0 ≠ "java/lang/invoke/VarHandle" := by decide +kernel
theorem cz_J0_length_8abf5 : (yn m_J0_length_8abf5).cls ≠ "java/lang/invoke/MethodHandle" ∧ (yn m_J0_length_8abf5).cls ≠ "java/lang/invoke/VarHandle" ∧ (parseMethodDescriptor (yn m_J0_length_8abf5).desc).map (fun d => d.parameters.length) = some 0 := ⟨zn_RJ0.1, zn_RJ0.2, by decide +kernel⟩
theorem cs_X5_isWord_J0_length_8abf5 : Cs m_X5_isWord m_J0_length_8abf5 0 := ⟨cw_J0_length_8abf5, in_J0_length_8abf5, cz_J0_length_8abf5, Nat.le_of_ble_eq_true rfl, Nat.le_of_ble_eq_true rfl⟩
theorem lk_RX5_118 : Lk RX5 118 (yn m_J0_charAt_5068e) := Or.inl (tzc_2 226 (by first | rfl | decide +kernel) rfl)
theorem cz_J0_charAt_5068e : (yn m_J0_charAt_5068e).cls ≠ "java/lang/invoke/MethodHandle" ∧ (yn m_J0_charAt_5068e).cls ≠ "java/lang/invoke/VarHandle" ∧ (parseMethodDescriptor (yn m_J0_charAt_5068e).desc).map (fun d => d.parameters.length) = some 1 := ⟨zn_RJ0.1, zn_RJ0.2, by decide +kernel⟩
theorem cs_X5_isWord_J0_charAt_5068e : Cs m_X5_isWord m_J0_charAt_5068e 1 := ⟨cw_J0_charAt_5068e, in_J0_charAt_5068e, cz_J0_charAt_5068e, Nat.le_of_ble_eq_true rfl, Nat.le_of_ble_eq_true rfl⟩
theorem tw_144 : (Cond.methodLink "ColdBox$State" (3 : Nat) ({ cls := "java/lang/Object", name := "<init>", desc := "()V" } : MethodName)) ∈ TB := tzc_1 144 (by first | rfl | decide +kernel) rfl
theorem lk_RX6_42 : Lk RX6 42 (yn m_J7_fill_d0a16) := Or.inl (tzc_2 104 (by first | rfl | decide +kernel) rfl)
theorem cz_J7_fill_d0a16 : (yn m_J7_fill_d0a16).cls ≠ "java/lang/invoke/MethodHandle" ∧ (yn m_J7_fill_d0a16).cls ≠ "java/lang/invoke/VarHandle" ∧ (parseMethodDescriptor (yn m_J7_fill_d0a16).desc).map (fun d => d.parameters.length) = some 2 := ⟨zn_RJ7.1, zn_RJ7.2, by decide +kernel⟩
theorem cs_X6_becomeFresh_J7_fill_d0a16 : Cs m_X6_becomeFresh m_J7_fill_d0a16 2 := ⟨cw_J7_fill_d0a16, in_J7_fill_d0a16, cz_J7_fill_d0a16, Nat.le_of_ble_eq_true rfl, Nat.le_of_ble_eq_true rfl⟩
theorem lk_RX6_48 : Lk RX6 48 (yn m_J7_fill_53178) := Or.inl (tzc_2 107 (by first | rfl | decide +kernel) rfl)
theorem cs_X6_becomeFresh_J7_fill_53178 : Cs m_X6_becomeFresh m_J7_fill_53178 2 := ⟨cw_J7_fill_53178, in_J7_fill_53178, cz_J7_fill_53178, Nat.le_of_ble_eq_true rfl, Nat.le_of_ble_eq_true rfl⟩
theorem lk_RX6_51 : Lk RX6 51 (yn m_X6_has) := Or.inl (tzc_2 108 (by first | rfl | decide +kernel) rfl)
theorem cs_X6_becomeFresh_X6_has : Cs m_X6_becomeFresh m_X6_has 1 := ⟨cw_X6_has, in_X6_has, cz_X6_has, Nat.le_of_ble_eq_true rfl, Nat.le_of_ble_eq_true rfl⟩
theorem tw_997 : (Cond.methodLink "ColdBox$State" (66 : Nat) ({ cls := "java/lang/System", name := "arraycopy", desc := "(Ljava/lang/Object;ILjava/lang/Object;II)V" } : MethodName)) ∈ TB := tzc_5 37 (by first | rfl | decide +kernel) rfl
theorem lk_RX6_81 : Lk RX6 81 (yn m_X6_warmthOf) := Or.inl (tzc_3 156 (by first | rfl | decide +kernel) rfl)
theorem cs_X6_isWithin_X6_warmthOf : Cs m_X6_isWithin m_X6_warmthOf 1 := ⟨cw_X6_warmthOf, in_X6_warmthOf, cz_X6_warmthOf, Nat.le_of_ble_eq_true rfl, Nat.le_of_ble_eq_true rfl⟩
theorem lk_RX6_85 : Lk RX6 85 (yn m_X6_isWithin) := Or.inl (tzc_5 55 (by first | rfl | decide +kernel) rfl)
theorem cz_X6_isWithin : (yn m_X6_isWithin).cls ≠ "java/lang/invoke/MethodHandle" ∧ (yn m_X6_isWithin).cls ≠ "java/lang/invoke/VarHandle" ∧ (parseMethodDescriptor (yn m_X6_isWithin).desc).map (fun d => d.parameters.length) = some 1 := ⟨zn_RX6.1, zn_RX6.2, by decide +kernel⟩
theorem cs_X6_foodsWithin_X6_isWithin : Cs m_X6_foodsWithin m_X6_isWithin 1 := ⟨cw_X6_isWithin, in_X6_isWithin, cz_X6_isWithin, Nat.le_of_ble_eq_true rfl, Nat.le_of_ble_eq_true rfl⟩
theorem cs_X6_letOffIce_X6_warmthOf : Cs m_X6_letOffIce m_X6_warmthOf 1 := ⟨cw_X6_warmthOf, in_X6_warmthOf, cz_X6_warmthOf, Nat.le_of_ble_eq_true rfl, Nat.le_of_ble_eq_true rfl⟩
theorem tw_121 : (Cond.methodLink "ColdBox$Ticker" (3 : Nat) ({ cls := "java/lang/Object", name := "<init>", desc := "()V" } : MethodName)) ∈ TB := tzc_1 121 (by first | rfl | decide +kernel) rfl
theorem lk_RX7_27 : Lk RX7 27 (yn m_X6_tickOfDay) := Or.inl (tzc_3 165 (by first | rfl | decide +kernel) rfl)
theorem cs_X7_passByDay_X6_tickOfDay : Cs m_X7_passByDay m_X6_tickOfDay 0 := ⟨cw_X6_tickOfDay, in_X6_tickOfDay, cz_X6_tickOfDay, Nat.le_of_ble_eq_true rfl, Nat.le_of_ble_eq_true rfl⟩
theorem lk_RX7_33 : Lk RX7 33 (yn m_X3_isOpenIn) := Or.inl (tzc_3 169 (by first | rfl | decide +kernel) rfl)
theorem zn_RX3 : RX3 ≠ "java/lang/invoke/MethodHandle" ∧ RX3 ≠ "java/lang/invoke/VarHandle" := by decide +kernel
theorem cz_X3_isOpenIn : (yn m_X3_isOpenIn).cls ≠ "java/lang/invoke/MethodHandle" ∧ (yn m_X3_isOpenIn).cls ≠ "java/lang/invoke/VarHandle" ∧ (parseMethodDescriptor (yn m_X3_isOpenIn).desc).map (fun d => d.parameters.length) = some 1 := ⟨zn_RX3.1, zn_RX3.2, by decide +kernel⟩
theorem cs_X7_passByDay_X3_isOpenIn : Cs m_X7_passByDay m_X3_isOpenIn 1 := ⟨cw_X3_isOpenIn, in_X3_isOpenIn, cz_X3_isOpenIn, Nat.le_of_ble_eq_true rfl, Nat.le_of_ble_eq_true rfl⟩
theorem lk_RX7_39 : Lk RX7 39 (yn m_X7_pass) := Or.inl (tzc_3 173 (by first | rfl | decide +kernel) rfl)
theorem cz_X7_pass : (yn m_X7_pass).cls ≠ "java/lang/invoke/MethodHandle" ∧ (yn m_X7_pass).cls ≠ "java/lang/invoke/VarHandle" ∧ (parseMethodDescriptor (yn m_X7_pass).desc).map (fun d => d.parameters.length) = some 4 := ⟨zn_RX7.1, zn_RX7.2, by decide +kernel⟩
theorem cs_X7_passByDay_X7_pass : Cs m_X7_passByDay m_X7_pass 4 := ⟨cw_X7_pass, in_X7_pass, cz_X7_pass, Nat.le_of_ble_eq_true rfl, Nat.le_of_ble_eq_true rfl⟩
theorem lk_RX7_43 : Lk RX7 43 (yn m_X7_lookAtWarmths) := Or.inl (tzc_3 177 (by first | rfl | decide +kernel) rfl)
theorem cz_X7_lookAtWarmths : (yn m_X7_lookAtWarmths).cls ≠ "java/lang/invoke/MethodHandle" ∧ (yn m_X7_lookAtWarmths).cls ≠ "java/lang/invoke/VarHandle" ∧ (parseMethodDescriptor (yn m_X7_lookAtWarmths).desc).map (fun d => d.parameters.length) = some 1 := ⟨zn_RX7.1, zn_RX7.2, by decide +kernel⟩
theorem cs_X7_pass_X7_lookAtWarmths : Cs m_X7_pass m_X7_lookAtWarmths 1 := ⟨cw_X7_lookAtWarmths, in_X7_lookAtWarmths, cz_X7_lookAtWarmths, Nat.le_of_ble_eq_true rfl, Nat.le_of_ble_eq_true rfl⟩
theorem lk_RX7_47 : Lk RX7 47 (yn m_X0_roomOf) := Or.inl (tzc_3 182 (by first | rfl | decide +kernel) rfl)
theorem zn_RX0 : RX0 ≠ "java/lang/invoke/MethodHandle" ∧ RX0 ≠ "java/lang/invoke/VarHandle" := by decide +kernel
theorem cz_X0_roomOf : (yn m_X0_roomOf).cls ≠ "java/lang/invoke/MethodHandle" ∧ (yn m_X0_roomOf).cls ≠ "java/lang/invoke/VarHandle" ∧ (parseMethodDescriptor (yn m_X0_roomOf).desc).map (fun d => d.parameters.length) = some 1 := ⟨zn_RX0.1, zn_RX0.2, by decide +kernel⟩
theorem cs_X7_pass_X0_roomOf : Cs m_X7_pass m_X0_roomOf 1 := ⟨cw_X0_roomOf, in_X0_roomOf, cz_X0_roomOf, Nat.le_of_ble_eq_true rfl, Nat.le_of_ble_eq_true rfl⟩
theorem lk_RX7_53 : Lk RX7 53 (yn m_X0_sealOf) := Or.inl (tzc_3 188 (by first | rfl | decide +kernel) rfl)
theorem cz_X0_sealOf : (yn m_X0_sealOf).cls ≠ "java/lang/invoke/MethodHandle" ∧ (yn m_X0_sealOf).cls ≠ "java/lang/invoke/VarHandle" ∧ (parseMethodDescriptor (yn m_X0_sealOf).desc).map (fun d => d.parameters.length) = some 1 := ⟨zn_RX0.1, zn_RX0.2, by decide +kernel⟩
theorem cs_X7_pass_X0_sealOf : Cs m_X7_pass m_X0_sealOf 1 := ⟨cw_X0_sealOf, in_X0_sealOf, cz_X0_sealOf, Nat.le_of_ble_eq_true rfl, Nat.le_of_ble_eq_true rfl⟩
theorem lk_RX7_56 : Lk RX7 56 (yn m_X7_switchMachine) := Or.inl (tzc_3 192 (by first | rfl | decide +kernel) rfl)
theorem cz_X7_switchMachine : (yn m_X7_switchMachine).cls ≠ "java/lang/invoke/MethodHandle" ∧ (yn m_X7_switchMachine).cls ≠ "java/lang/invoke/VarHandle" ∧ (parseMethodDescriptor (yn m_X7_switchMachine).desc).map (fun d => d.parameters.length) = some 3 := ⟨zn_RX7.1, zn_RX7.2, by decide +kernel⟩
theorem cs_X7_pass_X7_switchMachine : Cs m_X7_pass m_X7_switchMachine 3 := ⟨cw_X7_switchMachine, in_X7_switchMachine, cz_X7_switchMachine, Nat.le_of_ble_eq_true rfl, Nat.le_of_ble_eq_true rfl⟩
theorem lk_RX7_63 : Lk RX7 63 (yn m_X7_exchange) := Or.inl (tzc_3 197 (by first | rfl | decide +kernel) rfl)
theorem cz_X7_exchange : (yn m_X7_exchange).cls ≠ "java/lang/invoke/MethodHandle" ∧ (yn m_X7_exchange).cls ≠ "java/lang/invoke/VarHandle" ∧ (parseMethodDescriptor (yn m_X7_exchange).desc).map (fun d => d.parameters.length) = some 3 := ⟨zn_RX7.1, zn_RX7.2, by decide +kernel⟩
theorem cs_X7_pass_X7_exchange : Cs m_X7_pass m_X7_exchange 3 := ⟨cw_X7_exchange, in_X7_exchange, cz_X7_exchange, Nat.le_of_ble_eq_true rfl, Nat.le_of_ble_eq_true rfl⟩
theorem lk_RX7_70 : Lk RX7 70 (yn m_X6_has) := Or.inl (tzc_3 196 (by first | rfl | decide +kernel) rfl)
theorem cs_X7_pass_X6_has : Cs m_X7_pass m_X6_has 1 := ⟨cw_X6_has, in_X6_has, cz_X6_has, Nat.le_of_ble_eq_true rfl, Nat.le_of_ble_eq_true rfl⟩
theorem lk_RX7_73 : Lk RX7 73 (yn m_X7_giveLight) := Or.inl (tzc_3 208 (by first | rfl | decide +kernel) rfl)
theorem cz_X7_giveLight : (yn m_X7_giveLight).cls ≠ "java/lang/invoke/MethodHandle" ∧ (yn m_X7_giveLight).cls ≠ "java/lang/invoke/VarHandle" ∧ (parseMethodDescriptor (yn m_X7_giveLight).desc).map (fun d => d.parameters.length) = some 1 := ⟨zn_RX7.1, zn_RX7.2, by decide +kernel⟩
theorem cs_X7_pass_X7_giveLight : Cs m_X7_pass m_X7_giveLight 1 := ⟨cw_X7_giveLight, in_X7_giveLight, cz_X7_giveLight, Nat.le_of_ble_eq_true rfl, Nat.le_of_ble_eq_true rfl⟩
theorem lk_RX7_79 : Lk RX7 79 (yn m_X0_powerOf) := Or.inl (tzc_3 213 (by first | rfl | decide +kernel) rfl)
theorem cz_X0_powerOf : (yn m_X0_powerOf).cls ≠ "java/lang/invoke/MethodHandle" ∧ (yn m_X0_powerOf).cls ≠ "java/lang/invoke/VarHandle" ∧ (parseMethodDescriptor (yn m_X0_powerOf).desc).map (fun d => d.parameters.length) = some 1 := ⟨zn_RX0.1, zn_RX0.2, by decide +kernel⟩
theorem cs_X7_pass_X0_powerOf : Cs m_X7_pass m_X0_powerOf 1 := ⟨cw_X0_powerOf, in_X0_powerOf, cz_X0_powerOf, Nat.le_of_ble_eq_true rfl, Nat.le_of_ble_eq_true rfl⟩
theorem lk_RX7_82 : Lk RX7 82 (yn m_X7_moveOut) := Or.inl (tzc_3 217 (by first | rfl | decide +kernel) rfl)
theorem cz_X7_moveOut : (yn m_X7_moveOut).cls ≠ "java/lang/invoke/MethodHandle" ∧ (yn m_X7_moveOut).cls ≠ "java/lang/invoke/VarHandle" ∧ (parseMethodDescriptor (yn m_X7_moveOut).desc).map (fun d => d.parameters.length) = some 2 := ⟨zn_RX7.1, zn_RX7.2, by decide +kernel⟩
theorem cs_X7_pass_X7_moveOut : Cs m_X7_pass m_X7_moveOut 2 := ⟨cw_X7_moveOut, in_X7_moveOut, cz_X7_moveOut, Nat.le_of_ble_eq_true rfl, Nat.le_of_ble_eq_true rfl⟩
theorem lk_RX7_86 : Lk RX7 86 (yn m_X7_takeWet) := Or.inl (tzc_3 222 (by first | rfl | decide +kernel) rfl)
theorem cz_X7_takeWet : (yn m_X7_takeWet).cls ≠ "java/lang/invoke/MethodHandle" ∧ (yn m_X7_takeWet).cls ≠ "java/lang/invoke/VarHandle" ∧ (parseMethodDescriptor (yn m_X7_takeWet).desc).map (fun d => d.parameters.length) = some 2 := ⟨zn_RX7.1, zn_RX7.2, by decide +kernel⟩
theorem cs_X7_pass_X7_takeWet : Cs m_X7_pass m_X7_takeWet 2 := ⟨cw_X7_takeWet, in_X7_takeWet, cz_X7_takeWet, Nat.le_of_ble_eq_true rfl, Nat.le_of_ble_eq_true rfl⟩
theorem lk_RX7_92 : Lk RX7 92 (yn m_X6_warmthOf) := Or.inl (tzc_3 181 (by first | rfl | decide +kernel) rfl)
theorem cs_X7_lookAtWarmths_X6_warmthOf : Cs m_X7_lookAtWarmths m_X6_warmthOf 1 := ⟨cw_X6_warmthOf, in_X6_warmthOf, cz_X6_warmthOf, Nat.le_of_ble_eq_true rfl, Nat.le_of_ble_eq_true rfl⟩
theorem cs_X7_switchMachine_X6_has : Cs m_X7_switchMachine m_X6_has 1 := ⟨cw_X6_has, in_X6_has, cz_X6_has, Nat.le_of_ble_eq_true rfl, Nat.le_of_ble_eq_true rfl⟩
theorem lk_RX7_103 : Lk RX7 103 (yn m_J7_fill_d0a16) := Or.inl (tzc_3 201 (by first | rfl | decide +kernel) rfl)
theorem cs_X7_exchange_J7_fill_d0a16 : Cs m_X7_exchange m_J7_fill_d0a16 2 := ⟨cw_J7_fill_d0a16, in_J7_fill_d0a16, cz_J7_fill_d0a16, Nat.le_of_ble_eq_true rfl, Nat.le_of_ble_eq_true rfl⟩
theorem lk_RX7_114 : Lk RX7 114 (yn m_X7_flow) := Or.inl (tzc_3 203 (by first | rfl | decide +kernel) rfl)
theorem cz_X7_flow : (yn m_X7_flow).cls ≠ "java/lang/invoke/MethodHandle" ∧ (yn m_X7_flow).cls ≠ "java/lang/invoke/VarHandle" ∧ (parseMethodDescriptor (yn m_X7_flow).desc).map (fun d => d.parameters.length) = some 4 := ⟨zn_RX7.1, zn_RX7.2, by decide +kernel⟩
theorem cs_X7_exchange_X7_flow : Cs m_X7_exchange m_X7_flow 4 := ⟨cw_X7_flow, in_X7_flow, cz_X7_flow, Nat.le_of_ble_eq_true rfl, Nat.le_of_ble_eq_true rfl⟩
theorem tw_701 : (Cond.methodLink "ColdBox$Ticker" (132 : Nat) ({ cls := "java/lang/Math", name := "max", desc := "(II)I" } : MethodName)) ∈ TB := tzc_3 221 (by first | rfl | decide +kernel) rfl
theorem cs_X7_takeWet_X6_warmthOf : Cs m_X7_takeWet m_X6_warmthOf 1 := ⟨cw_X6_warmthOf, in_X6_warmthOf, cz_X6_warmthOf, Nat.le_of_ble_eq_true rfl, Nat.le_of_ble_eq_true rfl⟩
theorem tw_706 : (Cond.methodLink "ColdBox$Ticker" (138 : Nat) ({ cls := "java/lang/Math", name := "min", desc := "(II)I" } : MethodName)) ∈ TB := tzc_3 226 (by first | rfl | decide +kernel) rfl
theorem tw_302 : (Cond.methodLink "ColdBox$Trials" (3 : Nat) ({ cls := "java/lang/Object", name := "<init>", desc := "()V" } : MethodName)) ∈ TB := tzc_2 62 (by first | rfl | decide +kernel) rfl
theorem lk_RX8_11 : Lk RX8 11 (yn m_X6_init) := Or.inr ⟨"ColdBox", tzn_2 64 (by first | rfl | decide +kernel) rfl⟩
theorem cs_X8_init_X6_init : Cs m_X8_init m_X6_init 0 := ⟨cw_X6_init, in_X6_init, cz_X6_init, Nat.le_of_ble_eq_true rfl, Nat.le_of_ble_eq_true rfl⟩
theorem lk_RX8_36 : Lk RX8 36 (yn m_X6_foodsThere) := Or.inl (tzc_5 32 (by first | rfl | decide +kernel) rfl)
theorem cz_X6_foodsThere : (yn m_X6_foodsThere).cls ≠ "java/lang/invoke/MethodHandle" ∧ (yn m_X6_foodsThere).cls ≠ "java/lang/invoke/VarHandle" ∧ (parseMethodDescriptor (yn m_X6_foodsThere).desc).map (fun d => d.parameters.length) = some 0 := ⟨zn_RX6.1, zn_RX6.2, by decide +kernel⟩
theorem cs_X8_findBestRow_X6_foodsThere : Cs m_X8_findBestRow m_X6_foodsThere 0 := ⟨cw_X6_foodsThere, in_X6_foodsThere, cz_X6_foodsThere, Nat.le_of_ble_eq_true rfl, Nat.le_of_ble_eq_true rfl⟩
theorem lk_RX8_46 : Lk RX8 46 (yn m_X6_copyFrom) := Or.inl (tzc_5 33 (by first | rfl | decide +kernel) rfl)
theorem cz_X6_copyFrom : (yn m_X6_copyFrom).cls ≠ "java/lang/invoke/MethodHandle" ∧ (yn m_X6_copyFrom).cls ≠ "java/lang/invoke/VarHandle" ∧ (parseMethodDescriptor (yn m_X6_copyFrom).desc).map (fun d => d.parameters.length) = some 1 := ⟨zn_RX6.1, zn_RX6.2, by decide +kernel⟩
theorem cs_X8_findBestRow_X6_copyFrom : Cs m_X8_findBestRow m_X6_copyFrom 1 := ⟨cw_X6_copyFrom, in_X6_copyFrom, cz_X6_copyFrom, Nat.le_of_ble_eq_true rfl, Nat.le_of_ble_eq_true rfl⟩
theorem lk_RX8_53 : Lk RX8 53 (yn m_X8_layByRow) := Or.inl (tzc_5 38 (by first | rfl | decide +kernel) rfl)
theorem zn_RX8 : RX8 ≠ "java/lang/invoke/MethodHandle" ∧ RX8 ≠ "java/lang/invoke/VarHandle" := by decide +kernel
theorem cz_X8_layByRow : (yn m_X8_layByRow).cls ≠ "java/lang/invoke/MethodHandle" ∧ (yn m_X8_layByRow).cls ≠ "java/lang/invoke/VarHandle" ∧ (parseMethodDescriptor (yn m_X8_layByRow).desc).map (fun d => d.parameters.length) = some 2 := ⟨zn_RX8.1, zn_RX8.2, by decide +kernel⟩
theorem cs_X8_findBestRow_X8_layByRow : Cs m_X8_findBestRow m_X8_layByRow 2 := ⟨cw_X8_layByRow, in_X8_layByRow, cz_X8_layByRow, Nat.le_of_ble_eq_true rfl, Nat.le_of_ble_eq_true rfl⟩
theorem lk_RX8_57 : Lk RX8 57 (yn m_X8_boxBulb) := Or.inl (tzc_5 42 (by first | rfl | decide +kernel) rfl)
theorem cz_X8_boxBulb : (yn m_X8_boxBulb).cls ≠ "java/lang/invoke/MethodHandle" ∧ (yn m_X8_boxBulb).cls ≠ "java/lang/invoke/VarHandle" ∧ (parseMethodDescriptor (yn m_X8_boxBulb).desc).map (fun d => d.parameters.length) = some 0 := ⟨zn_RX8.1, zn_RX8.2, by decide +kernel⟩
theorem cs_X8_findBestRow_X8_boxBulb : Cs m_X8_findBestRow m_X8_boxBulb 0 := ⟨cw_X8_boxBulb, in_X8_boxBulb, cz_X8_boxBulb, Nat.le_of_ble_eq_true rfl, Nat.le_of_ble_eq_true rfl⟩
theorem lk_RX8_60 : Lk RX8 60 (yn m_X8_withinOnSecondDay) := Or.inl (tzc_5 46 (by first | rfl | decide +kernel) rfl)
theorem cz_X8_withinOnSecondDay : (yn m_X8_withinOnSecondDay).cls ≠ "java/lang/invoke/MethodHandle" ∧ (yn m_X8_withinOnSecondDay).cls ≠ "java/lang/invoke/VarHandle" ∧ (parseMethodDescriptor (yn m_X8_withinOnSecondDay).desc).map (fun d => d.parameters.length) = some 1 := ⟨zn_RX8.1, zn_RX8.2, by decide +kernel⟩
theorem cs_X8_findBestRow_X8_withinOnSecondDay : Cs m_X8_findBestRow m_X8_withinOnSecondDay 1 := ⟨cw_X8_withinOnSecondDay, in_X8_withinOnSecondDay, cz_X8_withinOnSecondDay, Nat.le_of_ble_eq_true rfl, Nat.le_of_ble_eq_true rfl⟩
theorem lk_RX8_64 : Lk RX8 64 (yn m_X8_takeIfMore) := Or.inl (tzc_5 56 (by first | rfl | decide +kernel) rfl)
theorem cz_X8_takeIfMore : (yn m_X8_takeIfMore).cls ≠ "java/lang/invoke/MethodHandle" ∧ (yn m_X8_takeIfMore).cls ≠ "java/lang/invoke/VarHandle" ∧ (parseMethodDescriptor (yn m_X8_takeIfMore).desc).map (fun d => d.parameters.length) = some 2 := ⟨zn_RX8.1, zn_RX8.2, by decide +kernel⟩
theorem cs_X8_findBestRow_X8_takeIfMore : Cs m_X8_findBestRow m_X8_takeIfMore 2 := ⟨cw_X8_takeIfMore, in_X8_takeIfMore, cz_X8_takeIfMore, Nat.le_of_ble_eq_true rfl, Nat.le_of_ble_eq_true rfl⟩
theorem cs_X8_shelfInBestRow_X8_layByRow : Cs m_X8_shelfInBestRow m_X8_layByRow 2 := ⟨cw_X8_layByRow, in_X8_layByRow, cz_X8_layByRow, Nat.le_of_ble_eq_true rfl, Nat.le_of_ble_eq_true rfl⟩
theorem cs_X8_findBestBulb_X6_copyFrom : Cs m_X8_findBestBulb m_X6_copyFrom 1 := ⟨cw_X6_copyFrom, in_X6_copyFrom, cz_X6_copyFrom, Nat.le_of_ble_eq_true rfl, Nat.le_of_ble_eq_true rfl⟩
theorem cs_X8_findBestBulb_X8_withinOnSecondDay : Cs m_X8_findBestBulb m_X8_withinOnSecondDay 1 := ⟨cw_X8_withinOnSecondDay, in_X8_withinOnSecondDay, cz_X8_withinOnSecondDay, Nat.le_of_ble_eq_true rfl, Nat.le_of_ble_eq_true rfl⟩
theorem cs_X8_findBestBulb_X8_takeIfMore : Cs m_X8_findBestBulb m_X8_takeIfMore 2 := ⟨cw_X8_takeIfMore, in_X8_takeIfMore, cz_X8_takeIfMore, Nat.le_of_ble_eq_true rfl, Nat.le_of_ble_eq_true rfl⟩
theorem lk_RX8_72 : Lk RX8 72 (yn m_X7_passByDay) := Or.inl (tzc_5 50 (by first | rfl | decide +kernel) rfl)
theorem cs_X8_withinOnSecondDay_X7_passByDay : Cs m_X8_withinOnSecondDay m_X7_passByDay 3 := ⟨cw_X7_passByDay, in_X7_passByDay, cz_X7_passByDay, Nat.le_of_ble_eq_true rfl, Nat.le_of_ble_eq_true rfl⟩
theorem lk_RX8_78 : Lk RX8 78 (yn m_X6_foodsWithin) := Or.inl (tzc_5 51 (by first | rfl | decide +kernel) rfl)
theorem cz_X6_foodsWithin : (yn m_X6_foodsWithin).cls ≠ "java/lang/invoke/MethodHandle" ∧ (yn m_X6_foodsWithin).cls ≠ "java/lang/invoke/VarHandle" ∧ (parseMethodDescriptor (yn m_X6_foodsWithin).desc).map (fun d => d.parameters.length) = some 0 := ⟨zn_RX6.1, zn_RX6.2, by decide +kernel⟩
theorem cs_X8_withinOnSecondDay_X6_foodsWithin : Cs m_X8_withinOnSecondDay m_X6_foodsWithin 0 := ⟨cw_X6_foodsWithin, in_X6_foodsWithin, cz_X6_foodsWithin, Nat.le_of_ble_eq_true rfl, Nat.le_of_ble_eq_true rfl⟩
theorem cs_X8_ticksWithoutCurrent_X6_copyFrom : Cs m_X8_ticksWithoutCurrent m_X6_copyFrom 1 := ⟨cw_X6_copyFrom, in_X6_copyFrom, cz_X6_copyFrom, Nat.le_of_ble_eq_true rfl, Nat.le_of_ble_eq_true rfl⟩
theorem cs_X8_ticksWithoutCurrent_X8_boxBulb : Cs m_X8_ticksWithoutCurrent m_X8_boxBulb 0 := ⟨cw_X8_boxBulb, in_X8_boxBulb, cz_X8_boxBulb, Nat.le_of_ble_eq_true rfl, Nat.le_of_ble_eq_true rfl⟩
theorem cs_X8_ticksWithoutCurrent_X7_passByDay : Cs m_X8_ticksWithoutCurrent m_X7_passByDay 3 := ⟨cw_X7_passByDay, in_X7_passByDay, cz_X7_passByDay, Nat.le_of_ble_eq_true rfl, Nat.le_of_ble_eq_true rfl⟩
theorem lk_RX8_85 : Lk RX8 85 (yn m_X6_isWithin) := Or.inl (tzc_5 80 (by first | rfl | decide +kernel) rfl)
theorem cs_X8_ticksWithoutCurrent_X6_isWithin : Cs m_X8_ticksWithoutCurrent m_X6_isWithin 1 := ⟨cw_X6_isWithin, in_X6_isWithin, cz_X6_isWithin, Nat.le_of_ble_eq_true rfl, Nat.le_of_ble_eq_true rfl⟩
theorem lk_RX8_89 : Lk RX8 89 (yn m_X8_paidStoring) := Or.inl (tzc_5 93 (by first | rfl | decide +kernel) rfl)
theorem cz_X8_paidStoring : (yn m_X8_paidStoring).cls ≠ "java/lang/invoke/MethodHandle" ∧ (yn m_X8_paidStoring).cls ≠ "java/lang/invoke/VarHandle" ∧ (parseMethodDescriptor (yn m_X8_paidStoring).desc).map (fun d => d.parameters.length) = some 3 := ⟨zn_RX8.1, zn_RX8.2, by decide +kernel⟩
theorem cs_X8_findBestStore_X8_paidStoring : Cs m_X8_findBestStore m_X8_paidStoring 3 := ⟨cw_X8_paidStoring, in_X8_paidStoring, cz_X8_paidStoring, Nat.le_of_ble_eq_true rfl, Nat.le_of_ble_eq_true rfl⟩
theorem cs_X8_paidStoring_X6_foodsThere : Cs m_X8_paidStoring m_X6_foodsThere 0 := ⟨cw_X6_foodsThere, in_X6_foodsThere, cz_X6_foodsThere, Nat.le_of_ble_eq_true rfl, Nat.le_of_ble_eq_true rfl⟩
theorem cs_X8_paidStoring_X6_copyFrom : Cs m_X8_paidStoring m_X6_copyFrom 1 := ⟨cw_X6_copyFrom, in_X6_copyFrom, cz_X6_copyFrom, Nat.le_of_ble_eq_true rfl, Nat.le_of_ble_eq_true rfl⟩
theorem lk_RX8_93 : Lk RX8 93 (yn m_X6_tickOfDay) := Or.inl (tzc_5 97 (by first | rfl | decide +kernel) rfl)
theorem cs_X8_paidStoring_X6_tickOfDay : Cs m_X8_paidStoring m_X6_tickOfDay 0 := ⟨cw_X6_tickOfDay, in_X6_tickOfDay, cz_X6_tickOfDay, Nat.le_of_ble_eq_true rfl, Nat.le_of_ble_eq_true rfl⟩
theorem lk_RX8_96 : Lk RX8 96 (yn m_X8_isCheapHour) := Or.inl (tzc_5 98 (by first | rfl | decide +kernel) rfl)
theorem cz_X8_isCheapHour : (yn m_X8_isCheapHour).cls ≠ "java/lang/invoke/MethodHandle" ∧ (yn m_X8_isCheapHour).cls ≠ "java/lang/invoke/VarHandle" ∧ (parseMethodDescriptor (yn m_X8_isCheapHour).desc).map (fun d => d.parameters.length) = some 1 := ⟨zn_RX8.1, zn_RX8.2, by decide +kernel⟩
theorem cs_X8_paidStoring_X8_isCheapHour : Cs m_X8_paidStoring m_X8_isCheapHour 1 := ⟨cw_X8_isCheapHour, in_X8_isCheapHour, cz_X8_isCheapHour, Nat.le_of_ble_eq_true rfl, Nat.le_of_ble_eq_true rfl⟩
theorem lk_RX8_106 : Lk RX8 106 (yn m_X3_isOpenIn) := Or.inl (tzc_5 102 (by first | rfl | decide +kernel) rfl)
theorem cs_X8_paidStoring_X3_isOpenIn : Cs m_X8_paidStoring m_X3_isOpenIn 1 := ⟨cw_X3_isOpenIn, in_X3_isOpenIn, cz_X3_isOpenIn, Nat.le_of_ble_eq_true rfl, Nat.le_of_ble_eq_true rfl⟩
theorem cs_X8_paidStoring_X8_boxBulb : Cs m_X8_paidStoring m_X8_boxBulb 0 := ⟨cw_X8_boxBulb, in_X8_boxBulb, cz_X8_boxBulb, Nat.le_of_ble_eq_true rfl, Nat.le_of_ble_eq_true rfl⟩
theorem lk_RX8_111 : Lk RX8 111 (yn m_X7_pass) := Or.inl (tzc_5 103 (by first | rfl | decide +kernel) rfl)
theorem cs_X8_paidStoring_X7_pass : Cs m_X8_paidStoring m_X7_pass 4 := ⟨cw_X7_pass, in_X7_pass, cz_X7_pass, Nat.le_of_ble_eq_true rfl, Nat.le_of_ble_eq_true rfl⟩
theorem cs_X8_paidStoring_X6_foodsWithin : Cs m_X8_paidStoring m_X6_foodsWithin 0 := ⟨cw_X6_foodsWithin, in_X6_foodsWithin, cz_X6_foodsWithin, Nat.le_of_ble_eq_true rfl, Nat.le_of_ble_eq_true rfl⟩
theorem tw_25 : (Cond.methodLink "ColdBox" (1 : Nat) ({ cls := "java/lang/Object", name := "<init>", desc := "()V" } : MethodName)) ∈ TB := tzc_1 25 (by first | rfl | decide +kernel) rfl
theorem lk_RX9_9 : Lk RX9 9 (yn m_X5_init) := Or.inr ⟨"ColdBox", tzn_1 30 (by first | rfl | decide +kernel) rfl⟩
theorem cz_X5_init : (yn m_X5_init).cls ≠ "java/lang/invoke/MethodHandle" ∧ (yn m_X5_init).cls ≠ "java/lang/invoke/VarHandle" ∧ (parseMethodDescriptor (yn m_X5_init).desc).map (fun d => d.parameters.length) = some 0 := ⟨zn_RX5.1, zn_RX5.2, by decide +kernel⟩
theorem cs_X9_init_X5_init : Cs m_X9_init m_X5_init 0 := ⟨cw_X5_init, in_X5_init, cz_X5_init, Nat.le_of_ble_eq_true rfl, Nat.le_of_ble_eq_true rfl⟩
theorem lk_RX9_18 : Lk RX9 18 (yn m_X0_init) := Or.inl (tzc_1 77 (by first | rfl | decide +kernel) rfl)
theorem cz_X0_init : (yn m_X0_init).cls ≠ "java/lang/invoke/MethodHandle" ∧ (yn m_X0_init).cls ≠ "java/lang/invoke/VarHandle" ∧ (parseMethodDescriptor (yn m_X0_init).desc).map (fun d => d.parameters.length) = some 0 := ⟨zn_RX0.1, zn_RX0.2, by decide +kernel⟩
theorem cs_X9_init_X0_init : Cs m_X9_init m_X0_init 0 := ⟨cw_X0_init, in_X0_init, cz_X0_init, Nat.le_of_ble_eq_true rfl, Nat.le_of_ble_eq_true rfl⟩
theorem lk_RX9_25 : Lk RX9 25 (yn m_X3_init) := Or.inr ⟨"ColdBox", tzn_1 96 (by first | rfl | decide +kernel) rfl⟩
theorem cz_X3_init : (yn m_X3_init).cls ≠ "java/lang/invoke/MethodHandle" ∧ (yn m_X3_init).cls ≠ "java/lang/invoke/VarHandle" ∧ (parseMethodDescriptor (yn m_X3_init).desc).map (fun d => d.parameters.length) = some 0 := ⟨zn_RX3.1, zn_RX3.2, by decide +kernel⟩
theorem cs_X9_init_X3_init : Cs m_X9_init m_X3_init 0 := ⟨cw_X3_init, in_X3_init, cz_X3_init, Nat.le_of_ble_eq_true rfl, Nat.le_of_ble_eq_true rfl⟩
theorem lk_RX9_32 : Lk RX9 32 (yn m_X7_init) := Or.inl (tzc_1 118 (by first | rfl | decide +kernel) rfl)
theorem cz_X7_init : (yn m_X7_init).cls ≠ "java/lang/invoke/MethodHandle" ∧ (yn m_X7_init).cls ≠ "java/lang/invoke/VarHandle" ∧ (parseMethodDescriptor (yn m_X7_init).desc).map (fun d => d.parameters.length) = some 2 := ⟨zn_RX7.1, zn_RX7.2, by decide +kernel⟩
theorem cs_X9_init_X7_init : Cs m_X9_init m_X7_init 2 := ⟨cw_X7_init, in_X7_init, cz_X7_init, Nat.le_of_ble_eq_true rfl, Nat.le_of_ble_eq_true rfl⟩
theorem lk_RX9_41 : Lk RX9 41 (yn m_X6_init) := Or.inr ⟨"ColdBox", tzn_1 141 (by first | rfl | decide +kernel) rfl⟩
theorem cs_X9_init_X6_init : Cs m_X9_init m_X6_init 0 := ⟨cw_X6_init, in_X6_init, cz_X6_init, Nat.le_of_ble_eq_true rfl, Nat.le_of_ble_eq_true rfl⟩
theorem lk_RX9_61 : Lk RX9 61 (yn m_X1_init) := Or.inl (tzc_1 218 (by first | rfl | decide +kernel) rfl)
theorem cz_X1_init : (yn m_X1_init).cls ≠ "java/lang/invoke/MethodHandle" ∧ (yn m_X1_init).cls ≠ "java/lang/invoke/VarHandle" ∧ (parseMethodDescriptor (yn m_X1_init).desc).map (fun d => d.parameters.length) = some 1 := ⟨zn_RX1.1, zn_RX1.2, by decide +kernel⟩
theorem cs_X9_init_X1_init : Cs m_X9_init m_X1_init 1 := ⟨cw_X1_init, in_X1_init, cz_X1_init, Nat.le_of_ble_eq_true rfl, Nat.le_of_ble_eq_true rfl⟩
theorem lk_RX9_70 : Lk RX9 70 (yn m_X2_init) := Or.inl (tzc_1 239 (by first | rfl | decide +kernel) rfl)
theorem cz_X2_init : (yn m_X2_init).cls ≠ "java/lang/invoke/MethodHandle" ∧ (yn m_X2_init).cls ≠ "java/lang/invoke/VarHandle" ∧ (parseMethodDescriptor (yn m_X2_init).desc).map (fun d => d.parameters.length) = some 1 := ⟨zn_RX2.1, zn_RX2.2, by decide +kernel⟩
theorem cs_X9_init_X2_init : Cs m_X9_init m_X2_init 1 := ⟨cw_X2_init, in_X2_init, cz_X2_init, Nat.le_of_ble_eq_true rfl, Nat.le_of_ble_eq_true rfl⟩
theorem lk_RX9_79 : Lk RX9 79 (yn m_X4_init) := Or.inl (tzc_2 40 (by first | rfl | decide +kernel) rfl)
theorem cz_X4_init : (yn m_X4_init).cls ≠ "java/lang/invoke/MethodHandle" ∧ (yn m_X4_init).cls ≠ "java/lang/invoke/VarHandle" ∧ (parseMethodDescriptor (yn m_X4_init).desc).map (fun d => d.parameters.length) = some 1 := ⟨zn_RX4.1, zn_RX4.2, by decide +kernel⟩
theorem cs_X9_init_X4_init : Cs m_X9_init m_X4_init 1 := ⟨cw_X4_init, in_X4_init, cz_X4_init, Nat.le_of_ble_eq_true rfl, Nat.le_of_ble_eq_true rfl⟩
theorem lk_RX9_86 : Lk RX9 86 (yn m_X8_init) := Or.inl (tzc_2 59 (by first | rfl | decide +kernel) rfl)
theorem cz_X8_init : (yn m_X8_init).cls ≠ "java/lang/invoke/MethodHandle" ∧ (yn m_X8_init).cls ≠ "java/lang/invoke/VarHandle" ∧ (parseMethodDescriptor (yn m_X8_init).desc).map (fun d => d.parameters.length) = some 2 := ⟨zn_RX8.1, zn_RX8.2, by decide +kernel⟩
theorem cs_X9_init_X8_init : Cs m_X9_init m_X8_init 2 := ⟨cw_X8_init, in_X8_init, cz_X8_init, Nat.le_of_ble_eq_true rfl, Nat.le_of_ble_eq_true rfl⟩
theorem lk_RX9_97 : Lk RX9 97 (yn m_X6_becomeFresh) := Or.inl (tzc_2 98 (by first | rfl | decide +kernel) rfl)
theorem cs_X9_init_X6_becomeFresh : Cs m_X9_init m_X6_becomeFresh 0 := ⟨cw_X6_becomeFresh, in_X6_becomeFresh, cz_X6_becomeFresh, Nat.le_of_ble_eq_true rfl, Nat.le_of_ble_eq_true rfl⟩
theorem lk_RX9_101 : Lk RX9 101 (yn m_X5_append) := Or.inl (tzc_2 157 (by first | rfl | decide +kernel) rfl)
theorem cz_X5_append : (yn m_X5_append).cls ≠ "java/lang/invoke/MethodHandle" ∧ (yn m_X5_append).cls ≠ "java/lang/invoke/VarHandle" ∧ (parseMethodDescriptor (yn m_X5_append).desc).map (fun d => d.parameters.length) = some 2 := ⟨zn_RX5.1, zn_RX5.2, by decide +kernel⟩
theorem cs_X9_feed_X5_append : Cs m_X9_feed m_X5_append 2 := ⟨cw_X5_append, in_X5_append, cz_X5_append, Nat.le_of_ble_eq_true rfl, Nat.le_of_ble_eq_true rfl⟩
theorem lk_RX9_110 : Lk RX9 110 (yn m_X5_readBox) := Or.inl (tzc_2 167 (by first | rfl | decide +kernel) rfl)
theorem cz_X5_readBox : (yn m_X5_readBox).cls ≠ "java/lang/invoke/MethodHandle" ∧ (yn m_X5_readBox).cls ≠ "java/lang/invoke/VarHandle" ∧ (parseMethodDescriptor (yn m_X5_readBox).desc).map (fun d => d.parameters.length) = some 0 := ⟨zn_RX5.1, zn_RX5.2, by decide +kernel⟩
theorem cs_X9_box_X5_readBox : Cs m_X9_box m_X5_readBox 0 := ⟨cw_X5_readBox, in_X5_readBox, cz_X5_readBox, Nat.le_of_ble_eq_true rfl, Nat.le_of_ble_eq_true rfl⟩
theorem lk_RX9_120 : Lk RX9 120 (yn m_X0_copyFrom) := Or.inl (tzc_3 47 (by first | rfl | decide +kernel) rfl)
theorem cz_X0_copyFrom : (yn m_X0_copyFrom).cls ≠ "java/lang/invoke/MethodHandle" ∧ (yn m_X0_copyFrom).cls ≠ "java/lang/invoke/VarHandle" ∧ (parseMethodDescriptor (yn m_X0_copyFrom).desc).map (fun d => d.parameters.length) = some 1 := ⟨zn_RX0.1, zn_RX0.2, by decide +kernel⟩
theorem cs_X9_box_X0_copyFrom : Cs m_X9_box m_X0_copyFrom 1 := ⟨cw_X0_copyFrom, in_X0_copyFrom, cz_X0_copyFrom, Nat.le_of_ble_eq_true rfl, Nat.le_of_ble_eq_true rfl⟩
theorem cs_X9_box_X6_becomeFresh : Cs m_X9_box m_X6_becomeFresh 0 := ⟨cw_X6_becomeFresh, in_X6_becomeFresh, cz_X6_becomeFresh, Nat.le_of_ble_eq_true rfl, Nat.le_of_ble_eq_true rfl⟩
theorem lk_RX9_124 : Lk RX9 124 (yn m_X1_forgetSigns) := Or.inl (tzc_3 51 (by first | rfl | decide +kernel) rfl)
theorem cz_X1_forgetSigns : (yn m_X1_forgetSigns).cls ≠ "java/lang/invoke/MethodHandle" ∧ (yn m_X1_forgetSigns).cls ≠ "java/lang/invoke/VarHandle" ∧ (parseMethodDescriptor (yn m_X1_forgetSigns).desc).map (fun d => d.parameters.length) = some 0 := ⟨zn_RX1.1, zn_RX1.2, by decide +kernel⟩
theorem cs_X9_box_X1_forgetSigns : Cs m_X9_box m_X1_forgetSigns 0 := ⟨cw_X1_forgetSigns, in_X1_forgetSigns, cz_X1_forgetSigns, Nat.le_of_ble_eq_true rfl, Nat.le_of_ble_eq_true rfl⟩
theorem lk_RX9_130 : Lk RX9 130 (yn m_X5_readDay) := Or.inl (tzc_3 61 (by first | rfl | decide +kernel) rfl)
theorem cz_X5_readDay : (yn m_X5_readDay).cls ≠ "java/lang/invoke/MethodHandle" ∧ (yn m_X5_readDay).cls ≠ "java/lang/invoke/VarHandle" ∧ (parseMethodDescriptor (yn m_X5_readDay).desc).map (fun d => d.parameters.length) = some 0 := ⟨zn_RX5.1, zn_RX5.2, by decide +kernel⟩
theorem cs_X9_day_X5_readDay : Cs m_X9_day m_X5_readDay 0 := ⟨cw_X5_readDay, in_X5_readDay, cz_X5_readDay, Nat.le_of_ble_eq_true rfl, Nat.le_of_ble_eq_true rfl⟩
theorem lk_RX9_139 : Lk RX9 139 (yn m_X3_copyFrom) := Or.inl (tzc_3 70 (by first | rfl | decide +kernel) rfl)
theorem cz_X3_copyFrom : (yn m_X3_copyFrom).cls ≠ "java/lang/invoke/MethodHandle" ∧ (yn m_X3_copyFrom).cls ≠ "java/lang/invoke/VarHandle" ∧ (parseMethodDescriptor (yn m_X3_copyFrom).desc).map (fun d => d.parameters.length) = some 3 := ⟨zn_RX3.1, zn_RX3.2, by decide +kernel⟩
theorem cs_X9_day_X3_copyFrom : Cs m_X9_day m_X3_copyFrom 3 := ⟨cw_X3_copyFrom, in_X3_copyFrom, cz_X3_copyFrom, Nat.le_of_ble_eq_true rfl, Nat.le_of_ble_eq_true rfl⟩
theorem cs_X9_day_X1_forgetSigns : Cs m_X9_day m_X1_forgetSigns 0 := ⟨cw_X1_forgetSigns, in_X1_forgetSigns, cz_X1_forgetSigns, Nat.le_of_ble_eq_true rfl, Nat.le_of_ble_eq_true rfl⟩
theorem lk_RX9_151 : Lk RX9 151 (yn m_X9_isSet) := Or.inl (tzc_3 93 (by first | rfl | decide +kernel) rfl)
theorem cs_X9_trouble_X9_isSet : Cs m_X9_trouble m_X9_isSet 1 := ⟨cw_X9_isSet, in_X9_isSet, cz_X9_isSet, Nat.le_of_ble_eq_true rfl, Nat.le_of_ble_eq_true rfl⟩
theorem tw_577 : (Cond.methodLink "ColdBox" (162 : Nat) ({ cls := "java/lang/Math", name := "max", desc := "(II)I" } : MethodName)) ∈ TB := tzc_3 97 (by first | rfl | decide +kernel) rfl
theorem cs_X9_fresh_X6_becomeFresh : Cs m_X9_fresh m_X6_becomeFresh 0 := ⟨cw_X6_becomeFresh, in_X6_becomeFresh, cz_X6_becomeFresh, Nat.le_of_ble_eq_true rfl, Nat.le_of_ble_eq_true rfl⟩
theorem lk_RX9_171 : Lk RX9 171 (yn m_X9_isShelf) := Or.inl (tzc_3 114 (by first | rfl | decide +kernel) rfl)
theorem cz_X9_isShelf : (yn m_X9_isShelf).cls ≠ "java/lang/invoke/MethodHandle" ∧ (yn m_X9_isShelf).cls ≠ "java/lang/invoke/VarHandle" ∧ (parseMethodDescriptor (yn m_X9_isShelf).desc).map (fun d => d.parameters.length) = some 1 := ⟨zn_RX9.1, zn_RX9.2, by decide +kernel⟩
theorem cs_X9_put_X9_isShelf : Cs m_X9_put m_X9_isShelf 1 := ⟨cw_X9_isShelf, in_X9_isShelf, cz_X9_isShelf, Nat.le_of_ble_eq_true rfl, Nat.le_of_ble_eq_true rfl⟩
theorem lk_RX9_174 : Lk RX9 174 (yn m_X9_canBeWarmth) := Or.inl (tzc_3 117 (by first | rfl | decide +kernel) rfl)
theorem cz_X9_canBeWarmth : (yn m_X9_canBeWarmth).cls ≠ "java/lang/invoke/MethodHandle" ∧ (yn m_X9_canBeWarmth).cls ≠ "java/lang/invoke/VarHandle" ∧ (parseMethodDescriptor (yn m_X9_canBeWarmth).desc).map (fun d => d.parameters.length) = some 1 := ⟨zn_RX9.1, zn_RX9.2, by decide +kernel⟩
theorem cs_X9_put_X9_canBeWarmth : Cs m_X9_put m_X9_canBeWarmth 1 := ⟨cw_X9_canBeWarmth, in_X9_canBeWarmth, cz_X9_canBeWarmth, Nat.le_of_ble_eq_true rfl, Nat.le_of_ble_eq_true rfl⟩
theorem lk_RX9_177 : Lk RX9 177 (yn m_X6_firstNotThere) := Or.inl (tzc_3 120 (by first | rfl | decide +kernel) rfl)
theorem cz_X6_firstNotThere : (yn m_X6_firstNotThere).cls ≠ "java/lang/invoke/MethodHandle" ∧ (yn m_X6_firstNotThere).cls ≠ "java/lang/invoke/VarHandle" ∧ (parseMethodDescriptor (yn m_X6_firstNotThere).desc).map (fun d => d.parameters.length) = some 0 := ⟨zn_RX6.1, zn_RX6.2, by decide +kernel⟩
theorem cs_X9_put_X6_firstNotThere : Cs m_X9_put m_X6_firstNotThere 0 := ⟨cw_X6_firstNotThere, in_X6_firstNotThere, cz_X6_firstNotThere, Nat.le_of_ble_eq_true rfl, Nat.le_of_ble_eq_true rfl⟩
theorem lk_RX9_187 : Lk RX9 187 (yn m_X6_addFood) := Or.inl (tzc_3 124 (by first | rfl | decide +kernel) rfl)
theorem cz_X6_addFood : (yn m_X6_addFood).cls ≠ "java/lang/invoke/MethodHandle" ∧ (yn m_X6_addFood).cls ≠ "java/lang/invoke/VarHandle" ∧ (parseMethodDescriptor (yn m_X6_addFood).desc).map (fun d => d.parameters.length) = some 4 := ⟨zn_RX6.1, zn_RX6.2, by decide +kernel⟩
theorem cs_X9_put_X6_addFood : Cs m_X9_put m_X6_addFood 4 := ⟨cw_X6_addFood, in_X6_addFood, cz_X6_addFood, Nat.le_of_ble_eq_true rfl, Nat.le_of_ble_eq_true rfl⟩
theorem lk_RX9_191 : Lk RX9 191 (yn m_X6_hasFood) := Or.inl (tzc_3 132 (by first | rfl | decide +kernel) rfl)
theorem cz_X6_hasFood : (yn m_X6_hasFood).cls ≠ "java/lang/invoke/MethodHandle" ∧ (yn m_X6_hasFood).cls ≠ "java/lang/invoke/VarHandle" ∧ (parseMethodDescriptor (yn m_X6_hasFood).desc).map (fun d => d.parameters.length) = some 1 := ⟨zn_RX6.1, zn_RX6.2, by decide +kernel⟩
theorem cs_X9_take_X6_hasFood : Cs m_X9_take m_X6_hasFood 1 := ⟨cw_X6_hasFood, in_X6_hasFood, cz_X6_hasFood, Nat.le_of_ble_eq_true rfl, Nat.le_of_ble_eq_true rfl⟩
theorem lk_RX9_194 : Lk RX9 194 (yn m_X6_warmthOf) := Or.inl (tzc_3 136 (by first | rfl | decide +kernel) rfl)
theorem cs_X9_take_X6_warmthOf : Cs m_X9_take m_X6_warmthOf 1 := ⟨cw_X6_warmthOf, in_X6_warmthOf, cz_X6_warmthOf, Nat.le_of_ble_eq_true rfl, Nat.le_of_ble_eq_true rfl⟩
theorem lk_RX9_198 : Lk RX9 198 (yn m_X6_removeFood) := Or.inl (tzc_3 140 (by first | rfl | decide +kernel) rfl)
theorem cz_X6_removeFood : (yn m_X6_removeFood).cls ≠ "java/lang/invoke/MethodHandle" ∧ (yn m_X6_removeFood).cls ≠ "java/lang/invoke/VarHandle" ∧ (parseMethodDescriptor (yn m_X6_removeFood).desc).map (fun d => d.parameters.length) = some 1 := ⟨zn_RX6.1, zn_RX6.2, by decide +kernel⟩
theorem cs_X9_take_X6_removeFood : Cs m_X9_take m_X6_removeFood 1 := ⟨cw_X6_removeFood, in_X6_removeFood, cz_X6_removeFood, Nat.le_of_ble_eq_true rfl, Nat.le_of_ble_eq_true rfl⟩
theorem cs_X9_lay_X6_hasFood : Cs m_X9_lay m_X6_hasFood 1 := ⟨cw_X6_hasFood, in_X6_hasFood, cz_X6_hasFood, Nat.le_of_ble_eq_true rfl, Nat.le_of_ble_eq_true rfl⟩
theorem cs_X9_lay_X9_isShelf : Cs m_X9_lay m_X9_isShelf 1 := ⟨cw_X9_isShelf, in_X9_isShelf, cz_X9_isShelf, Nat.le_of_ble_eq_true rfl, Nat.le_of_ble_eq_true rfl⟩
theorem cs_X9_food_X6_hasFood : Cs m_X9_food m_X6_hasFood 1 := ⟨cw_X6_hasFood, in_X6_hasFood, cz_X6_hasFood, Nat.le_of_ble_eq_true rfl, Nat.le_of_ble_eq_true rfl⟩
theorem cs_X9_food_X6_warmthOf : Cs m_X9_food m_X6_warmthOf 1 := ⟨cw_X6_warmthOf, in_X6_warmthOf, cz_X6_warmthOf, Nat.le_of_ble_eq_true rfl, Nat.le_of_ble_eq_true rfl⟩
theorem lk_RX9_208 : Lk RX9 208 (yn m_X6_isWithin) := Or.inl (tzc_3 152 (by first | rfl | decide +kernel) rfl)
theorem cs_X9_food_X6_isWithin : Cs m_X9_food m_X6_isWithin 1 := ⟨cw_X6_isWithin, in_X6_isWithin, cz_X6_isWithin, Nat.le_of_ble_eq_true rfl, Nat.le_of_ble_eq_true rfl⟩
theorem lk_RX9_211 : Lk RX9 211 (yn m_X7_passByDay) := Or.inl (tzc_3 161 (by first | rfl | decide +kernel) rfl)
theorem cs_X9_run_X7_passByDay : Cs m_X9_run m_X7_passByDay 3 := ⟨cw_X7_passByDay, in_X7_passByDay, cz_X7_passByDay, Nat.le_of_ble_eq_true rfl, Nat.le_of_ble_eq_true rfl⟩
theorem lk_RX9_215 : Lk RX9 215 (yn m_X6_tickOfDay) := Or.inl (tzc_3 233 (by first | rfl | decide +kernel) rfl)
theorem cs_X9_drawn_X6_tickOfDay : Cs m_X9_drawn m_X6_tickOfDay 0 := ⟨cw_X6_tickOfDay, in_X6_tickOfDay, cz_X6_tickOfDay, Nat.le_of_ble_eq_true rfl, Nat.le_of_ble_eq_true rfl⟩
theorem lk_RX9_218 : Lk RX9 218 (yn m_X9_drawDoor) := Or.inl (tzc_3 234 (by first | rfl | decide +kernel) rfl)
theorem cz_X9_drawDoor : (yn m_X9_drawDoor).cls ≠ "java/lang/invoke/MethodHandle" ∧ (yn m_X9_drawDoor).cls ≠ "java/lang/invoke/VarHandle" ∧ (parseMethodDescriptor (yn m_X9_drawDoor).desc).map (fun d => d.parameters.length) = some 1 := ⟨zn_RX9.1, zn_RX9.2, by decide +kernel⟩
theorem cs_X9_drawn_X9_drawDoor : Cs m_X9_drawn m_X9_drawDoor 1 := ⟨cw_X9_drawDoor, in_X9_drawDoor, cz_X9_drawDoor, Nat.le_of_ble_eq_true rfl, Nat.le_of_ble_eq_true rfl⟩
theorem lk_RX9_221 : Lk RX9 221 (yn m_X7_pass) := Or.inl (tzc_4 6 (by first | rfl | decide +kernel) rfl)
theorem cs_X9_drawn_X7_pass : Cs m_X9_drawn m_X7_pass 4 := ⟨cw_X7_pass, in_X7_pass, cz_X7_pass, Nat.le_of_ble_eq_true rfl, Nat.le_of_ble_eq_true rfl⟩
theorem cs_X9_warmth_X6_warmthOf : Cs m_X9_warmth m_X6_warmthOf 1 := ⟨cw_X6_warmthOf, in_X6_warmthOf, cz_X6_warmthOf, Nat.le_of_ble_eq_true rfl, Nat.le_of_ble_eq_true rfl⟩
theorem lk_RX9_227 : Lk RX9 227 (yn m_X6_allHeat) := Or.inl (tzc_4 16 (by first | rfl | decide +kernel) rfl)
theorem cz_X6_allHeat : (yn m_X6_allHeat).cls ≠ "java/lang/invoke/MethodHandle" ∧ (yn m_X6_allHeat).cls ≠ "java/lang/invoke/VarHandle" ∧ (parseMethodDescriptor (yn m_X6_allHeat).desc).map (fun d => d.parameters.length) = some 0 := ⟨zn_RX6.1, zn_RX6.2, by decide +kernel⟩
theorem cs_X9_heat_X6_allHeat : Cs m_X9_heat m_X6_allHeat 0 := ⟨cw_X6_allHeat, in_X6_allHeat, cz_X6_allHeat, Nat.le_of_ble_eq_true rfl, Nat.le_of_ble_eq_true rfl⟩
theorem lk_RX9_241 : Lk RX9 241 (yn m_X6_foodsThere) := Or.inl (tzc_4 24 (by first | rfl | decide +kernel) rfl)
theorem cs_X9_count_X6_foodsThere : Cs m_X9_count m_X6_foodsThere 0 := ⟨cw_X6_foodsThere, in_X6_foodsThere, cz_X6_foodsThere, Nat.le_of_ble_eq_true rfl, Nat.le_of_ble_eq_true rfl⟩
theorem lk_RX9_244 : Lk RX9 244 (yn m_X6_letOffIce) := Or.inl (tzc_4 32 (by first | rfl | decide +kernel) rfl)
theorem cs_X9_thaw_X6_letOffIce : Cs m_X9_thaw m_X6_letOffIce 0 := ⟨cw_X6_letOffIce, in_X6_letOffIce, cz_X6_letOffIce, Nat.le_of_ble_eq_true rfl, Nat.le_of_ble_eq_true rfl⟩
theorem cs_X9_sign_X9_isSet : Cs m_X9_sign m_X9_isSet 1 := ⟨cw_X9_isSet, in_X9_isSet, cz_X9_isSet, Nat.le_of_ble_eq_true rfl, Nat.le_of_ble_eq_true rfl⟩
theorem lk_RX9_247 : Lk RX9 247 (yn m_X9_isSign) := Or.inl (tzc_4 41 (by first | rfl | decide +kernel) rfl)
theorem cs_X9_sign_X9_isSign : Cs m_X9_sign m_X9_isSign 1 := ⟨cw_X9_isSign, in_X9_isSign, cz_X9_isSign, Nat.le_of_ble_eq_true rfl, Nat.le_of_ble_eq_true rfl⟩
theorem lk_RX9_250 : Lk RX9 250 (yn m_X9_areSignDays) := Or.inl (tzc_4 44 (by first | rfl | decide +kernel) rfl)
theorem cs_X9_sign_X9_areSignDays : Cs m_X9_sign m_X9_areSignDays 1 := ⟨cw_X9_areSignDays, in_X9_areSignDays, cz_X9_areSignDays, Nat.le_of_ble_eq_true rfl, Nat.le_of_ble_eq_true rfl⟩
theorem lk_RX9_253 : Lk RX9 253 (yn m_X1_learn) := Or.inl (tzc_4 47 (by first | rfl | decide +kernel) rfl)
theorem cs_X9_sign_X1_learn : Cs m_X9_sign m_X1_learn 2 := ⟨cw_X1_learn, in_X1_learn, cz_X1_learn, Nat.le_of_ble_eq_true rfl, Nat.le_of_ble_eq_true rfl⟩
theorem lk_RX9_257 : Lk RX9 257 (yn m_X1_signOf) := Or.inl (tzc_4 63 (by first | rfl | decide +kernel) rfl)
theorem cs_X9_sign_X1_signOf : Cs m_X9_sign m_X1_signOf 3 := ⟨cw_X1_signOf, in_X1_signOf, cz_X1_signOf, Nat.le_of_ble_eq_true rfl, Nat.le_of_ble_eq_true rfl⟩
theorem cs_X9_seen_X9_isSign : Cs m_X9_seen m_X9_isSign 1 := ⟨cw_X9_isSign, in_X9_isSign, cz_X9_isSign, Nat.le_of_ble_eq_true rfl, Nat.le_of_ble_eq_true rfl⟩
theorem lk_RX9_272 : Lk RX9 272 (yn m_X2_howManySeen) := Or.inl (tzc_4 74 (by first | rfl | decide +kernel) rfl)
theorem cz_X2_howManySeen : (yn m_X2_howManySeen).cls ≠ "java/lang/invoke/MethodHandle" ∧ (yn m_X2_howManySeen).cls ≠ "java/lang/invoke/VarHandle" ∧ (parseMethodDescriptor (yn m_X2_howManySeen).desc).map (fun d => d.parameters.length) = some 0 := ⟨zn_RX2.1, zn_RX2.2, by decide +kernel⟩
theorem cs_X9_seen_X2_howManySeen : Cs m_X9_seen m_X2_howManySeen 0 := ⟨cw_X2_howManySeen, in_X2_howManySeen, cz_X2_howManySeen, Nat.le_of_ble_eq_true rfl, Nat.le_of_ble_eq_true rfl⟩
theorem cs_X9_forget_X2_howManySeen : Cs m_X9_forget m_X2_howManySeen 0 := ⟨cw_X2_howManySeen, in_X2_howManySeen, cz_X2_howManySeen, Nat.le_of_ble_eq_true rfl, Nat.le_of_ble_eq_true rfl⟩
theorem lk_RX9_275 : Lk RX9 275 (yn m_X9_isTrouble) := Or.inl (tzc_4 86 (by first | rfl | decide +kernel) rfl)
theorem cz_X9_isTrouble : (yn m_X9_isTrouble).cls ≠ "java/lang/invoke/MethodHandle" ∧ (yn m_X9_isTrouble).cls ≠ "java/lang/invoke/VarHandle" ∧ (parseMethodDescriptor (yn m_X9_isTrouble).desc).map (fun d => d.parameters.length) = some 1 := ⟨zn_RX9.1, zn_RX9.2, by decide +kernel⟩
theorem cs_X9_prior_X9_isTrouble : Cs m_X9_prior m_X9_isTrouble 1 := ⟨cw_X9_isTrouble, in_X9_isTrouble, cz_X9_isTrouble, Nat.le_of_ble_eq_true rfl, Nat.le_of_ble_eq_true rfl⟩
theorem cs_X9_bother_X9_isSign : Cs m_X9_bother m_X9_isSign 1 := ⟨cw_X9_isSign, in_X9_isSign, cz_X9_isSign, Nat.le_of_ble_eq_true rfl, Nat.le_of_ble_eq_true rfl⟩
theorem cs_X9_odds_X9_isSet : Cs m_X9_odds m_X9_isSet 1 := ⟨cw_X9_isSet, in_X9_isSet, cz_X9_isSet, Nat.le_of_ble_eq_true rfl, Nat.le_of_ble_eq_true rfl⟩
theorem lk_RX9_284 : Lk RX9 284 (yn m_J6_bitCount_0f7a4) := Or.inl (tzc_4 97 (by first | rfl | decide +kernel) rfl)
theorem zn_RJ6 : RJ6 ≠ "java/lang/invoke/MethodHandle" ∧ RJ6 ≠ "java/lang/invoke/VarHandle" := by decide +kernel
theorem cz_J6_bitCount_0f7a4 : (yn m_J6_bitCount_0f7a4).cls ≠ "java/lang/invoke/MethodHandle" ∧ (yn m_J6_bitCount_0f7a4).cls ≠ "java/lang/invoke/VarHandle" ∧ (parseMethodDescriptor (yn m_J6_bitCount_0f7a4).desc).map (fun d => d.parameters.length) = some 1 := ⟨zn_RJ6.1, zn_RJ6.2, by decide +kernel⟩
theorem cs_X9_odds_J6_bitCount_0f7a4 : Cs m_X9_odds m_J6_bitCount_0f7a4 1 := ⟨cw_J6_bitCount_0f7a4, in_J6_bitCount_0f7a4, cz_J6_bitCount_0f7a4, Nat.le_of_ble_eq_true rfl, Nat.le_of_ble_eq_true rfl⟩
theorem cs_X9_odds_X9_areSignDays : Cs m_X9_odds m_X9_areSignDays 1 := ⟨cw_X9_areSignDays, in_X9_areSignDays, cz_X9_areSignDays, Nat.le_of_ble_eq_true rfl, Nat.le_of_ble_eq_true rfl⟩
theorem lk_RX9_289 : Lk RX9 289 (yn m_X1_learnCouldBe) := Or.inl (tzc_4 103 (by first | rfl | decide +kernel) rfl)
theorem cz_X1_learnCouldBe : (yn m_X1_learnCouldBe).cls ≠ "java/lang/invoke/MethodHandle" ∧ (yn m_X1_learnCouldBe).cls ≠ "java/lang/invoke/VarHandle" ∧ (parseMethodDescriptor (yn m_X1_learnCouldBe).desc).map (fun d => d.parameters.length) = some 1 := ⟨zn_RX1.1, zn_RX1.2, by decide +kernel⟩
theorem cs_X9_odds_X1_learnCouldBe : Cs m_X9_odds m_X1_learnCouldBe 1 := ⟨cw_X1_learnCouldBe, in_X1_learnCouldBe, cz_X1_learnCouldBe, Nat.le_of_ble_eq_true rfl, Nat.le_of_ble_eq_true rfl⟩
theorem lk_RX9_292 : Lk RX9 292 (yn m_X2_oddsOf) := Or.inl (tzc_4 109 (by first | rfl | decide +kernel) rfl)
theorem cz_X2_oddsOf : (yn m_X2_oddsOf).cls ≠ "java/lang/invoke/MethodHandle" ∧ (yn m_X2_oddsOf).cls ≠ "java/lang/invoke/VarHandle" ∧ (parseMethodDescriptor (yn m_X2_oddsOf).desc).map (fun d => d.parameters.length) = some 2 := ⟨zn_RX2.1, zn_RX2.2, by decide +kernel⟩
theorem cs_X9_odds_X2_oddsOf : Cs m_X9_odds m_X2_oddsOf 2 := ⟨cw_X2_oddsOf, in_X2_oddsOf, cz_X2_oddsOf, Nat.le_of_ble_eq_true rfl, Nat.le_of_ble_eq_true rfl⟩
theorem cs_X9_each_X9_isTrouble : Cs m_X9_each m_X9_isTrouble 1 := ⟨cw_X9_isTrouble, in_X9_isTrouble, cz_X9_isTrouble, Nat.le_of_ble_eq_true rfl, Nat.le_of_ble_eq_true rfl⟩
theorem cs_X9_each_X9_areSignDays : Cs m_X9_each m_X9_areSignDays 1 := ⟨cw_X9_areSignDays, in_X9_areSignDays, cz_X9_areSignDays, Nat.le_of_ble_eq_true rfl, Nat.le_of_ble_eq_true rfl⟩
theorem cs_X9_each_X1_learnCouldBe : Cs m_X9_each m_X1_learnCouldBe 1 := ⟨cw_X1_learnCouldBe, in_X1_learnCouldBe, cz_X1_learnCouldBe, Nat.le_of_ble_eq_true rfl, Nat.le_of_ble_eq_true rfl⟩
theorem lk_RX9_295 : Lk RX9 295 (yn m_X2_oddsWith) := Or.inl (tzc_4 144 (by first | rfl | decide +kernel) rfl)
theorem cz_X2_oddsWith : (yn m_X2_oddsWith).cls ≠ "java/lang/invoke/MethodHandle" ∧ (yn m_X2_oddsWith).cls ≠ "java/lang/invoke/VarHandle" ∧ (parseMethodDescriptor (yn m_X2_oddsWith).desc).map (fun d => d.parameters.length) = some 2 := ⟨zn_RX2.1, zn_RX2.2, by decide +kernel⟩
theorem cs_X9_each_X2_oddsWith : Cs m_X9_each m_X2_oddsWith 2 := ⟨cw_X2_oddsWith, in_X2_oddsWith, cz_X2_oddsWith, Nat.le_of_ble_eq_true rfl, Nat.le_of_ble_eq_true rfl⟩
theorem cs_X9_tells_X9_isSign : Cs m_X9_tells m_X9_isSign 1 := ⟨cw_X9_isSign, in_X9_isSign, cz_X9_isSign, Nat.le_of_ble_eq_true rfl, Nat.le_of_ble_eq_true rfl⟩
theorem cs_X9_tells_X9_areSignDays : Cs m_X9_tells m_X9_areSignDays 1 := ⟨cw_X9_areSignDays, in_X9_areSignDays, cz_X9_areSignDays, Nat.le_of_ble_eq_true rfl, Nat.le_of_ble_eq_true rfl⟩
theorem cs_X9_tells_X1_learnCouldBe : Cs m_X9_tells m_X1_learnCouldBe 1 := ⟨cw_X1_learnCouldBe, in_X1_learnCouldBe, cz_X1_learnCouldBe, Nat.le_of_ble_eq_true rfl, Nat.le_of_ble_eq_true rfl⟩
theorem lk_RX9_298 : Lk RX9 298 (yn m_X2_howMuchTells) := Or.inl (tzc_4 152 (by first | rfl | decide +kernel) rfl)
theorem cz_X2_howMuchTells : (yn m_X2_howMuchTells).cls ≠ "java/lang/invoke/MethodHandle" ∧ (yn m_X2_howMuchTells).cls ≠ "java/lang/invoke/VarHandle" ∧ (parseMethodDescriptor (yn m_X2_howMuchTells).desc).map (fun d => d.parameters.length) = some 2 := ⟨zn_RX2.1, zn_RX2.2, by decide +kernel⟩
theorem cs_X9_tells_X2_howMuchTells : Cs m_X9_tells m_X2_howMuchTells 2 := ⟨cw_X2_howMuchTells, in_X2_howMuchTells, cz_X2_howMuchTells, Nat.le_of_ble_eq_true rfl, Nat.le_of_ble_eq_true rfl⟩
theorem cs_X9_next_X9_areSignDays : Cs m_X9_next m_X9_areSignDays 1 := ⟨cw_X9_areSignDays, in_X9_areSignDays, cz_X9_areSignDays, Nat.le_of_ble_eq_true rfl, Nat.le_of_ble_eq_true rfl⟩
theorem cs_X9_next_X1_learnCouldBe : Cs m_X9_next m_X1_learnCouldBe 1 := ⟨cw_X1_learnCouldBe, in_X1_learnCouldBe, cz_X1_learnCouldBe, Nat.le_of_ble_eq_true rfl, Nat.le_of_ble_eq_true rfl⟩
theorem lk_RX9_301 : Lk RX9 301 (yn m_X2_nextSign) := Or.inl (tzc_4 172 (by first | rfl | decide +kernel) rfl)
theorem cz_X2_nextSign : (yn m_X2_nextSign).cls ≠ "java/lang/invoke/MethodHandle" ∧ (yn m_X2_nextSign).cls ≠ "java/lang/invoke/VarHandle" ∧ (parseMethodDescriptor (yn m_X2_nextSign).desc).map (fun d => d.parameters.length) = some 1 := ⟨zn_RX2.1, zn_RX2.2, by decide +kernel⟩
theorem cs_X9_next_X2_nextSign : Cs m_X9_next m_X2_nextSign 1 := ⟨cw_X2_nextSign, in_X2_nextSign, cz_X2_nextSign, Nat.le_of_ble_eq_true rfl, Nat.le_of_ble_eq_true rfl⟩
theorem cs_X9_makes_X9_isSet : Cs m_X9_makes m_X9_isSet 1 := ⟨cw_X9_isSet, in_X9_isSet, cz_X9_isSet, Nat.le_of_ble_eq_true rfl, Nat.le_of_ble_eq_true rfl⟩
theorem lk_RX9_304 : Lk RX9 304 (yn m_X1_firstDay) := Or.inl (tzc_4 180 (by first | rfl | decide +kernel) rfl)
theorem cz_X1_firstDay : (yn m_X1_firstDay).cls ≠ "java/lang/invoke/MethodHandle" ∧ (yn m_X1_firstDay).cls ≠ "java/lang/invoke/VarHandle" ∧ (parseMethodDescriptor (yn m_X1_firstDay).desc).map (fun d => d.parameters.length) = some 3 := ⟨zn_RX1.1, zn_RX1.2, by decide +kernel⟩
theorem cs_X9_makes_X1_firstDay : Cs m_X9_makes m_X1_firstDay 3 := ⟨cw_X1_firstDay, in_X1_firstDay, cz_X1_firstDay, Nat.le_of_ble_eq_true rfl, Nat.le_of_ble_eq_true rfl⟩
theorem cs_X9_mending_X9_isTrouble : Cs m_X9_mending m_X9_isTrouble 1 := ⟨cw_X9_isTrouble, in_X9_isTrouble, cz_X9_isTrouble, Nat.le_of_ble_eq_true rfl, Nat.le_of_ble_eq_true rfl⟩
theorem lk_RX9_311 : Lk RX9 311 (yn m_X9_isPrice) := Or.inl (tzc_4 192 (by first | rfl | decide +kernel) rfl)
theorem cz_X9_isPrice : (yn m_X9_isPrice).cls ≠ "java/lang/invoke/MethodHandle" ∧ (yn m_X9_isPrice).cls ≠ "java/lang/invoke/VarHandle" ∧ (parseMethodDescriptor (yn m_X9_isPrice).desc).map (fun d => d.parameters.length) = some 1 := ⟨zn_RX9.1, zn_RX9.2, by decide +kernel⟩
theorem cs_X9_price_X9_isPrice : Cs m_X9_price m_X9_isPrice 1 := ⟨cw_X9_isPrice, in_X9_isPrice, cz_X9_isPrice, Nat.le_of_ble_eq_true rfl, Nat.le_of_ble_eq_true rfl⟩
theorem cs_X9_year_X9_isSet : Cs m_X9_year m_X9_isSet 1 := ⟨cw_X9_isSet, in_X9_isSet, cz_X9_isSet, Nat.le_of_ble_eq_true rfl, Nat.le_of_ble_eq_true rfl⟩
theorem cs_X9_year_X1_learn : Cs m_X9_year m_X1_learn 2 := ⟨cw_X1_learn, in_X1_learn, cz_X1_learn, Nat.le_of_ble_eq_true rfl, Nat.le_of_ble_eq_true rfl⟩
theorem lk_RX9_317 : Lk RX9 317 (yn m_X4_yearOf) := Or.inl (tzc_4 199 (by first | rfl | decide +kernel) rfl)
theorem cs_X9_year_X4_yearOf : Cs m_X9_year m_X4_yearOf 2 := ⟨cw_X4_yearOf, in_X4_yearOf, cz_X4_yearOf, Nat.le_of_ble_eq_true rfl, Nat.le_of_ble_eq_true rfl⟩
theorem cs_X9_saves_X9_isSet : Cs m_X9_saves m_X9_isSet 1 := ⟨cw_X9_isSet, in_X9_isSet, cz_X9_isSet, Nat.le_of_ble_eq_true rfl, Nat.le_of_ble_eq_true rfl⟩
theorem lk_RX9_321 : Lk RX9 321 (yn m_X9_isPart) := Or.inl (tzc_4 214 (by first | rfl | decide +kernel) rfl)
theorem cs_X9_saves_X9_isPart : Cs m_X9_saves m_X9_isPart 2 := ⟨cw_X9_isPart, in_X9_isPart, cz_X9_isPart, Nat.le_of_ble_eq_true rfl, Nat.le_of_ble_eq_true rfl⟩
theorem cs_X9_saves_X1_learn : Cs m_X9_saves m_X1_learn 2 := ⟨cw_X1_learn, in_X1_learn, cz_X1_learn, Nat.le_of_ble_eq_true rfl, Nat.le_of_ble_eq_true rfl⟩
theorem lk_RX9_326 : Lk RX9 326 (yn m_X4_saved) := Or.inl (tzc_4 218 (by first | rfl | decide +kernel) rfl)
theorem cs_X9_saves_X4_saved : Cs m_X9_saves m_X4_saved 3 := ⟨cw_X4_saved, in_X4_saved, cz_X4_saved, Nat.le_of_ble_eq_true rfl, Nat.le_of_ble_eq_true rfl⟩
theorem cs_X9_best_X9_isSet : Cs m_X9_best m_X9_isSet 1 := ⟨cw_X9_isSet, in_X9_isSet, cz_X9_isSet, Nat.le_of_ble_eq_true rfl, Nat.le_of_ble_eq_true rfl⟩
theorem lk_RX9_330 : Lk RX9 330 (yn m_X1_learnParts) := Or.inl (tzc_4 227 (by first | rfl | decide +kernel) rfl)
theorem cz_X1_learnParts : (yn m_X1_learnParts).cls ≠ "java/lang/invoke/MethodHandle" ∧ (yn m_X1_learnParts).cls ≠ "java/lang/invoke/VarHandle" ∧ (parseMethodDescriptor (yn m_X1_learnParts).desc).map (fun d => d.parameters.length) = some 2 := ⟨zn_RX1.1, zn_RX1.2, by decide +kernel⟩
theorem cs_X9_best_X1_learnParts : Cs m_X9_best m_X1_learnParts 2 := ⟨cw_X1_learnParts, in_X1_learnParts, cz_X1_learnParts, Nat.le_of_ble_eq_true rfl, Nat.le_of_ble_eq_true rfl⟩
theorem lk_RX9_333 : Lk RX9 333 (yn m_X4_bestPart) := Or.inl (tzc_4 232 (by first | rfl | decide +kernel) rfl)
theorem cz_X4_bestPart : (yn m_X4_bestPart).cls ≠ "java/lang/invoke/MethodHandle" ∧ (yn m_X4_bestPart).cls ≠ "java/lang/invoke/VarHandle" ∧ (parseMethodDescriptor (yn m_X4_bestPart).desc).map (fun d => d.parameters.length) = some 3 := ⟨zn_RX4.1, zn_RX4.2, by decide +kernel⟩
theorem cs_X9_best_X4_bestPart : Cs m_X9_best m_X4_bestPart 3 := ⟨cw_X4_bestPart, in_X4_bestPart, cz_X4_bestPart, Nat.le_of_ble_eq_true rfl, Nat.le_of_ble_eq_true rfl⟩
theorem cs_X9_best_X4_saved : Cs m_X9_best m_X4_saved 3 := ⟨cw_X4_saved, in_X4_saved, cz_X4_saved, Nat.le_of_ble_eq_true rfl, Nat.le_of_ble_eq_true rfl⟩
theorem lk_RX9_336 : Lk RX9 336 (yn m_X4_costOf) := Or.inl (tzc_5 2 (by first | rfl | decide +kernel) rfl)
theorem cs_X9_best_X4_costOf : Cs m_X9_best m_X4_costOf 1 := ⟨cw_X4_costOf, in_X4_costOf, cz_X4_costOf, Nat.le_of_ble_eq_true rfl, Nat.le_of_ble_eq_true rfl⟩
theorem cs_X9_pays_X9_isSet : Cs m_X9_pays m_X9_isSet 1 := ⟨cw_X9_isSet, in_X9_isSet, cz_X9_isSet, Nat.le_of_ble_eq_true rfl, Nat.le_of_ble_eq_true rfl⟩
theorem cs_X9_pays_X1_learn : Cs m_X9_pays m_X1_learn 2 := ⟨cw_X1_learn, in_X1_learn, cz_X1_learn, Nat.le_of_ble_eq_true rfl, Nat.le_of_ble_eq_true rfl⟩
theorem lk_RX9_339 : Lk RX9 339 (yn m_X4_yearsToPay) := Or.inl (tzc_5 7 (by first | rfl | decide +kernel) rfl)
theorem cz_X4_yearsToPay : (yn m_X4_yearsToPay).cls ≠ "java/lang/invoke/MethodHandle" ∧ (yn m_X4_yearsToPay).cls ≠ "java/lang/invoke/VarHandle" ∧ (parseMethodDescriptor (yn m_X4_yearsToPay).desc).map (fun d => d.parameters.length) = some 4 := ⟨zn_RX4.1, zn_RX4.2, by decide +kernel⟩
theorem cs_X9_pays_X4_yearsToPay : Cs m_X9_pays m_X4_yearsToPay 4 := ⟨cw_X4_yearsToPay, in_X4_yearsToPay, cz_X4_yearsToPay, Nat.le_of_ble_eq_true rfl, Nat.le_of_ble_eq_true rfl⟩
theorem cs_X9_ice_X9_isSet : Cs m_X9_ice m_X9_isSet 1 := ⟨cw_X9_isSet, in_X9_isSet, cz_X9_isSet, Nat.le_of_ble_eq_true rfl, Nat.le_of_ble_eq_true rfl⟩
theorem lk_RX9_343 : Lk RX9 343 (yn m_X4_bestThawing) := Or.inl (tzc_5 15 (by first | rfl | decide +kernel) rfl)
theorem cz_X4_bestThawing : (yn m_X4_bestThawing).cls ≠ "java/lang/invoke/MethodHandle" ∧ (yn m_X4_bestThawing).cls ≠ "java/lang/invoke/VarHandle" ∧ (parseMethodDescriptor (yn m_X4_bestThawing).desc).map (fun d => d.parameters.length) = some 4 := ⟨zn_RX4.1, zn_RX4.2, by decide +kernel⟩
theorem cs_X9_ice_X4_bestThawing : Cs m_X9_ice m_X4_bestThawing 4 := ⟨cw_X4_bestThawing, in_X4_bestThawing, cz_X4_bestThawing, Nat.le_of_ble_eq_true rfl, Nat.le_of_ble_eq_true rfl⟩
theorem cs_X9_lying_X6_hasFood : Cs m_X9_lying m_X6_hasFood 1 := ⟨cw_X6_hasFood, in_X6_hasFood, cz_X6_hasFood, Nat.le_of_ble_eq_true rfl, Nat.le_of_ble_eq_true rfl⟩
theorem cs_X9_lying_X6_foodsThere : Cs m_X9_lying m_X6_foodsThere 0 := ⟨cw_X6_foodsThere, in_X6_foodsThere, cz_X6_foodsThere, Nat.le_of_ble_eq_true rfl, Nat.le_of_ble_eq_true rfl⟩
theorem lk_RX9_346 : Lk RX9 346 (yn m_X8_findBestRow) := Or.inl (tzc_5 28 (by first | rfl | decide +kernel) rfl)
theorem cz_X8_findBestRow : (yn m_X8_findBestRow).cls ≠ "java/lang/invoke/MethodHandle" ∧ (yn m_X8_findBestRow).cls ≠ "java/lang/invoke/VarHandle" ∧ (parseMethodDescriptor (yn m_X8_findBestRow).desc).map (fun d => d.parameters.length) = some 0 := ⟨zn_RX8.1, zn_RX8.2, by decide +kernel⟩
theorem cs_X9_lying_X8_findBestRow : Cs m_X9_lying m_X8_findBestRow 0 := ⟨cw_X8_findBestRow, in_X8_findBestRow, cz_X8_findBestRow, Nat.le_of_ble_eq_true rfl, Nat.le_of_ble_eq_true rfl⟩
theorem lk_RX9_352 : Lk RX9 352 (yn m_X8_shelfInBestRow) := Or.inl (tzc_5 60 (by first | rfl | decide +kernel) rfl)
theorem cz_X8_shelfInBestRow : (yn m_X8_shelfInBestRow).cls ≠ "java/lang/invoke/MethodHandle" ∧ (yn m_X8_shelfInBestRow).cls ≠ "java/lang/invoke/VarHandle" ∧ (parseMethodDescriptor (yn m_X8_shelfInBestRow).desc).map (fun d => d.parameters.length) = some 1 := ⟨zn_RX8.1, zn_RX8.2, by decide +kernel⟩
theorem cs_X9_lying_X8_shelfInBestRow : Cs m_X9_lying m_X8_shelfInBestRow 1 := ⟨cw_X8_shelfInBestRow, in_X8_shelfInBestRow, cz_X8_shelfInBestRow, Nat.le_of_ble_eq_true rfl, Nat.le_of_ble_eq_true rfl⟩
theorem lk_RX9_355 : Lk RX9 355 (yn m_X8_findBestBulb) := Or.inl (tzc_5 68 (by first | rfl | decide +kernel) rfl)
theorem cz_X8_findBestBulb : (yn m_X8_findBestBulb).cls ≠ "java/lang/invoke/MethodHandle" ∧ (yn m_X8_findBestBulb).cls ≠ "java/lang/invoke/VarHandle" ∧ (parseMethodDescriptor (yn m_X8_findBestBulb).desc).map (fun d => d.parameters.length) = some 0 := ⟨zn_RX8.1, zn_RX8.2, by decide +kernel⟩
theorem cs_X9_bulb_X8_findBestBulb : Cs m_X9_bulb m_X8_findBestBulb 0 := ⟨cw_X8_findBestBulb, in_X8_findBestBulb, cz_X8_findBestBulb, Nat.le_of_ble_eq_true rfl, Nat.le_of_ble_eq_true rfl⟩
theorem cs_X9_without_X6_hasFood : Cs m_X9_without m_X6_hasFood 1 := ⟨cw_X6_hasFood, in_X6_hasFood, cz_X6_hasFood, Nat.le_of_ble_eq_true rfl, Nat.le_of_ble_eq_true rfl⟩
theorem lk_RX9_361 : Lk RX9 361 (yn m_X8_ticksWithoutCurrent) := Or.inl (tzc_5 76 (by first | rfl | decide +kernel) rfl)
theorem cz_X8_ticksWithoutCurrent : (yn m_X8_ticksWithoutCurrent).cls ≠ "java/lang/invoke/MethodHandle" ∧ (yn m_X8_ticksWithoutCurrent).cls ≠ "java/lang/invoke/VarHandle" ∧ (parseMethodDescriptor (yn m_X8_ticksWithoutCurrent).desc).map (fun d => d.parameters.length) = some 1 := ⟨zn_RX8.1, zn_RX8.2, by decide +kernel⟩
theorem cs_X9_without_X8_ticksWithoutCurrent : Cs m_X9_without m_X8_ticksWithoutCurrent 1 := ⟨cw_X8_ticksWithoutCurrent, in_X8_ticksWithoutCurrent, cz_X8_ticksWithoutCurrent, Nat.le_of_ble_eq_true rfl, Nat.le_of_ble_eq_true rfl⟩
theorem cs_X9_cheap_X9_isPrice : Cs m_X9_cheap m_X9_isPrice 1 := ⟨cw_X9_isPrice, in_X9_isPrice, cz_X9_isPrice, Nat.le_of_ble_eq_true rfl, Nat.le_of_ble_eq_true rfl⟩
theorem lk_RX9_373 : Lk RX9 373 (yn m_X8_findBestStore) := Or.inl (tzc_5 89 (by first | rfl | decide +kernel) rfl)
theorem cz_X8_findBestStore : (yn m_X8_findBestStore).cls ≠ "java/lang/invoke/MethodHandle" ∧ (yn m_X8_findBestStore).cls ≠ "java/lang/invoke/VarHandle" ∧ (parseMethodDescriptor (yn m_X8_findBestStore).desc).map (fun d => d.parameters.length) = some 2 := ⟨zn_RX8.1, zn_RX8.2, by decide +kernel⟩
theorem cs_X9_store_X8_findBestStore : Cs m_X9_store m_X8_findBestStore 2 := ⟨cw_X8_findBestStore, in_X8_findBestStore, cz_X8_findBestStore, Nat.le_of_ble_eq_true rfl, Nat.le_of_ble_eq_true rfl⟩
theorem lk_RX9_379 : Lk RX9 379 (yn m_X9_imageOf) := Or.inl (tzc_5 113 (by first | rfl | decide +kernel) rfl)
theorem cz_X9_imageOf : (yn m_X9_imageOf).cls ≠ "java/lang/invoke/MethodHandle" ∧ (yn m_X9_imageOf).cls ≠ "java/lang/invoke/VarHandle" ∧ (parseMethodDescriptor (yn m_X9_imageOf).desc).map (fun d => d.parameters.length) = some 1 := ⟨zn_RX9.1, zn_RX9.2, by decide +kernel⟩
theorem cs_X9_keep_X9_imageOf : Cs m_X9_keep m_X9_imageOf 1 := ⟨cw_X9_imageOf, in_X9_imageOf, cz_X9_imageOf, Nat.le_of_ble_eq_true rfl, Nat.le_of_ble_eq_true rfl⟩
theorem lk_RX9_383 : Lk RX9 383 (yn m_X6_copyFrom) := Or.inl (tzc_5 117 (by first | rfl | decide +kernel) rfl)
theorem cs_X9_keep_X6_copyFrom : Cs m_X9_keep m_X6_copyFrom 1 := ⟨cw_X6_copyFrom, in_X6_copyFrom, cz_X6_copyFrom, Nat.le_of_ble_eq_true rfl, Nat.le_of_ble_eq_true rfl⟩
theorem cs_X9_goBack_X9_imageOf : Cs m_X9_goBack m_X9_imageOf 1 := ⟨cw_X9_imageOf, in_X9_imageOf, cz_X9_imageOf, Nat.le_of_ble_eq_true rfl, Nat.le_of_ble_eq_true rfl⟩
theorem cs_X9_goBack_X6_copyFrom : Cs m_X9_goBack m_X6_copyFrom 1 := ⟨cw_X6_copyFrom, in_X6_copyFrom, cz_X6_copyFrom, Nat.le_of_ble_eq_true rfl, Nat.le_of_ble_eq_true rfl⟩
theorem lk_RX9_386 : Lk RX9 386 (yn m_X6_draw) := Or.inl (tzc_3 238 (by first | rfl | decide +kernel) rfl)
theorem cz_X6_draw : (yn m_X6_draw).cls ≠ "java/lang/invoke/MethodHandle" ∧ (yn m_X6_draw).cls ≠ "java/lang/invoke/VarHandle" ∧ (parseMethodDescriptor (yn m_X6_draw).desc).map (fun d => d.parameters.length) = some 1 := ⟨zn_RX6.1, zn_RX6.2, by decide +kernel⟩
theorem cs_X9_drawDoor_X6_draw : Cs m_X9_drawDoor m_X6_draw 1 := ⟨cw_X6_draw, in_X6_draw, cz_X6_draw, Nat.le_of_ble_eq_true rfl, Nat.le_of_ble_eq_true rfl⟩
theorem tw_1087 : (Cond.methodLink "ColdBoxModel" (1 : Nat) ({ cls := "java/lang/Object", name := "<init>", desc := "()V" } : MethodName)) ∈ TB := tzc_5 127 (by first | rfl | decide +kernel) rfl
theorem lk_RX10_80 : Lk RX10 80 (yn m_X10_untold) := Or.inl (tzc_6 10 (by first | rfl | decide +kernel) rfl)
theorem zn_RX10 : RX10 ≠ "java/lang/invoke/MethodHandle" ∧ RX10 ≠ "java/lang/invoke/VarHandle" := by decide +kernel
theorem cz_X10_untold : (yn m_X10_untold).cls ≠ "java/lang/invoke/MethodHandle" ∧ (yn m_X10_untold).cls ≠ "java/lang/invoke/VarHandle" ∧ (parseMethodDescriptor (yn m_X10_untold).desc).map (fun d => d.parameters.length) = some 1 := ⟨zn_RX10.1, zn_RX10.2, by decide +kernel⟩
theorem cs_X10_begin_X10_untold : Cs m_X10_begin m_X10_untold 1 := ⟨cw_X10_untold, in_X10_untold, cz_X10_untold, Nat.le_of_ble_eq_true rfl, Nat.le_of_ble_eq_true rfl⟩
theorem lk_RX10_84 : Lk RX10 84 (yn m_X10_freshen) := Or.inl (tzc_6 13 (by first | rfl | decide +kernel) rfl)
theorem cz_X10_freshen : (yn m_X10_freshen).cls ≠ "java/lang/invoke/MethodHandle" ∧ (yn m_X10_freshen).cls ≠ "java/lang/invoke/VarHandle" ∧ (parseMethodDescriptor (yn m_X10_freshen).desc).map (fun d => d.parameters.length) = some 1 := ⟨zn_RX10.1, zn_RX10.2, by decide +kernel⟩
theorem cs_X10_begin_X10_freshen : Cs m_X10_begin m_X10_freshen 1 := ⟨cw_X10_freshen, in_X10_freshen, cz_X10_freshen, Nat.le_of_ble_eq_true rfl, Nat.le_of_ble_eq_true rfl⟩
theorem lk_RX10_96 : Lk RX10 96 (yn m_X10_in) := Or.inl (tzc_5 236 (by first | rfl | decide +kernel) rfl)
theorem cz_X10_in : (yn m_X10_in).cls ≠ "java/lang/invoke/MethodHandle" ∧ (yn m_X10_in).cls ≠ "java/lang/invoke/VarHandle" ∧ (parseMethodDescriptor (yn m_X10_in).desc).map (fun d => d.parameters.length) = some 3 := ⟨zn_RX10.1, zn_RX10.2, by decide +kernel⟩
theorem cs_X10_feed_X10_in : Cs m_X10_feed m_X10_in 3 := ⟨cw_X10_in, in_X10_in, cz_X10_in, Nat.le_of_ble_eq_true rfl, Nat.le_of_ble_eq_true rfl⟩
theorem lk_RX10_113 : Lk RX10 113 (yn m_X10_here) := Or.inl (tzc_6 28 (by first | rfl | decide +kernel) rfl)
theorem cz_X10_here : (yn m_X10_here).cls ≠ "java/lang/invoke/MethodHandle" ∧ (yn m_X10_here).cls ≠ "java/lang/invoke/VarHandle" ∧ (parseMethodDescriptor (yn m_X10_here).desc).map (fun d => d.parameters.length) = some 0 := ⟨zn_RX10.1, zn_RX10.2, by decide +kernel⟩
theorem cs_X10_takeWord_X10_here : Cs m_X10_takeWord m_X10_here 0 := ⟨cw_X10_here, in_X10_here, cz_X10_here, Nat.le_of_ble_eq_true rfl, Nat.le_of_ble_eq_true rfl⟩
theorem cs_X10_takeWord_X10_in : Cs m_X10_takeWord m_X10_in 3 := ⟨cw_X10_in, in_X10_in, cz_X10_in, Nat.le_of_ble_eq_true rfl, Nat.le_of_ble_eq_true rfl⟩
theorem cs_X10_takeNumber_X10_here : Cs m_X10_takeNumber m_X10_here 0 := ⟨cw_X10_here, in_X10_here, cz_X10_here, Nat.le_of_ble_eq_true rfl, Nat.le_of_ble_eq_true rfl⟩
theorem cs_X10_takeNumber_X10_in : Cs m_X10_takeNumber m_X10_in 3 := ⟨cw_X10_in, in_X10_in, cz_X10_in, Nat.le_of_ble_eq_true rfl, Nat.le_of_ble_eq_true rfl⟩
theorem lk_RX10_131 : Lk RX10 131 (yn m_X10_want) := Or.inl (tzc_6 50 (by first | rfl | decide +kernel) rfl)
theorem cz_X10_want : (yn m_X10_want).cls ≠ "java/lang/invoke/MethodHandle" ∧ (yn m_X10_want).cls ≠ "java/lang/invoke/VarHandle" ∧ (parseMethodDescriptor (yn m_X10_want).desc).map (fun d => d.parameters.length) = some 3 := ⟨zn_RX10.1, zn_RX10.2, by decide +kernel⟩
theorem cs_X10_takeNumber_X10_want : Cs m_X10_takeNumber m_X10_want 3 := ⟨cw_X10_want, in_X10_want, cz_X10_want, Nat.le_of_ble_eq_true rfl, Nat.le_of_ble_eq_true rfl⟩
theorem lk_RX10_136 : Lk RX10 136 (yn m_X10_isWord) := Or.inl (tzc_6 46 (by first | rfl | decide +kernel) rfl)
theorem cz_X10_isWord : (yn m_X10_isWord).cls ≠ "java/lang/invoke/MethodHandle" ∧ (yn m_X10_isWord).cls ≠ "java/lang/invoke/VarHandle" ∧ (parseMethodDescriptor (yn m_X10_isWord).desc).map (fun d => d.parameters.length) = some 6 := ⟨zn_RX10.1, zn_RX10.2, by decide +kernel⟩
theorem cs_X10_kindHere_X10_isWord : Cs m_X10_kindHere m_X10_isWord 6 := ⟨cw_X10_isWord, in_X10_isWord, cz_X10_isWord, Nat.le_of_ble_eq_true rfl, Nat.le_of_ble_eq_true rfl⟩
theorem lk_RX10_140 : Lk RX10 140 (yn m_X10_takeWord) := Or.inl (tzc_6 36 (by first | rfl | decide +kernel) rfl)
theorem cz_X10_takeWord : (yn m_X10_takeWord).cls ≠ "java/lang/invoke/MethodHandle" ∧ (yn m_X10_takeWord).cls ≠ "java/lang/invoke/VarHandle" ∧ (parseMethodDescriptor (yn m_X10_takeWord).desc).map (fun d => d.parameters.length) = some 0 := ⟨zn_RX10.1, zn_RX10.2, by decide +kernel⟩
theorem cs_X10_takeClause_X10_takeWord : Cs m_X10_takeClause m_X10_takeWord 0 := ⟨cw_X10_takeWord, in_X10_takeWord, cz_X10_takeWord, Nat.le_of_ble_eq_true rfl, Nat.le_of_ble_eq_true rfl⟩
theorem lk_RX10_143 : Lk RX10 143 (yn m_X10_kindHere) := Or.inl (tzc_6 42 (by first | rfl | decide +kernel) rfl)
theorem cz_X10_kindHere : (yn m_X10_kindHere).cls ≠ "java/lang/invoke/MethodHandle" ∧ (yn m_X10_kindHere).cls ≠ "java/lang/invoke/VarHandle" ∧ (parseMethodDescriptor (yn m_X10_kindHere).desc).map (fun d => d.parameters.length) = some 0 := ⟨zn_RX10.1, zn_RX10.2, by decide +kernel⟩
theorem cs_X10_takeClause_X10_kindHere : Cs m_X10_takeClause m_X10_kindHere 0 := ⟨cw_X10_kindHere, in_X10_kindHere, cz_X10_kindHere, Nat.le_of_ble_eq_true rfl, Nat.le_of_ble_eq_true rfl⟩
theorem cs_X10_takeClause_X10_want : Cs m_X10_takeClause m_X10_want 3 := ⟨cw_X10_want, in_X10_want, cz_X10_want, Nat.le_of_ble_eq_true rfl, Nat.le_of_ble_eq_true rfl⟩
theorem lk_RX10_149 : Lk RX10 149 (yn m_X10_has) := Or.inl (tzc_6 19 (by first | rfl | decide +kernel) rfl)
theorem cz_X10_has : (yn m_X10_has).cls ≠ "java/lang/invoke/MethodHandle" ∧ (yn m_X10_has).cls ≠ "java/lang/invoke/VarHandle" ∧ (parseMethodDescriptor (yn m_X10_has).desc).map (fun d => d.parameters.length) = some 2 := ⟨zn_RX10.1, zn_RX10.2, by decide +kernel⟩
theorem cs_X10_takeClause_X10_has : Cs m_X10_takeClause m_X10_has 2 := ⟨cw_X10_has, in_X10_has, cz_X10_has, Nat.le_of_ble_eq_true rfl, Nat.le_of_ble_eq_true rfl⟩
theorem lk_RX10_153 : Lk RX10 153 (yn m_X10_takeNumber) := Or.inl (tzc_6 54 (by first | rfl | decide +kernel) rfl)
theorem cz_X10_takeNumber : (yn m_X10_takeNumber).cls ≠ "java/lang/invoke/MethodHandle" ∧ (yn m_X10_takeNumber).cls ≠ "java/lang/invoke/VarHandle" ∧ (parseMethodDescriptor (yn m_X10_takeNumber).desc).map (fun d => d.parameters.length) = some 2 := ⟨zn_RX10.1, zn_RX10.2, by decide +kernel⟩
theorem cs_X10_takeClause_X10_takeNumber : Cs m_X10_takeClause m_X10_takeNumber 2 := ⟨cw_X10_takeNumber, in_X10_takeNumber, cz_X10_takeNumber, Nat.le_of_ble_eq_true rfl, Nat.le_of_ble_eq_true rfl⟩
theorem lk_RX10_157 : Lk RX10 157 (yn m_X10_leastOf) := Or.inl (tzc_6 61 (by first | rfl | decide +kernel) rfl)
theorem cz_X10_leastOf : (yn m_X10_leastOf).cls ≠ "java/lang/invoke/MethodHandle" ∧ (yn m_X10_leastOf).cls ≠ "java/lang/invoke/VarHandle" ∧ (parseMethodDescriptor (yn m_X10_leastOf).desc).map (fun d => d.parameters.length) = some 1 := ⟨zn_RX10.1, zn_RX10.2, by decide +kernel⟩
theorem cs_X10_takeClause_X10_leastOf : Cs m_X10_takeClause m_X10_leastOf 1 := ⟨cw_X10_leastOf, in_X10_leastOf, cz_X10_leastOf, Nat.le_of_ble_eq_true rfl, Nat.le_of_ble_eq_true rfl⟩
theorem lk_RX10_160 : Lk RX10 160 (yn m_X10_mostOf) := Or.inl (tzc_6 64 (by first | rfl | decide +kernel) rfl)
theorem cz_X10_mostOf : (yn m_X10_mostOf).cls ≠ "java/lang/invoke/MethodHandle" ∧ (yn m_X10_mostOf).cls ≠ "java/lang/invoke/VarHandle" ∧ (parseMethodDescriptor (yn m_X10_mostOf).desc).map (fun d => d.parameters.length) = some 1 := ⟨zn_RX10.1, zn_RX10.2, by decide +kernel⟩
theorem cs_X10_takeClause_X10_mostOf : Cs m_X10_takeClause m_X10_mostOf 1 := ⟨cw_X10_mostOf, in_X10_mostOf, cz_X10_mostOf, Nat.le_of_ble_eq_true rfl, Nat.le_of_ble_eq_true rfl⟩
theorem lk_RX10_163 : Lk RX10 163 (yn m_X10_takeEnd) := Or.inl (tzc_6 67 (by first | rfl | decide +kernel) rfl)
theorem cz_X10_takeEnd : (yn m_X10_takeEnd).cls ≠ "java/lang/invoke/MethodHandle" ∧ (yn m_X10_takeEnd).cls ≠ "java/lang/invoke/VarHandle" ∧ (parseMethodDescriptor (yn m_X10_takeEnd).desc).map (fun d => d.parameters.length) = some 0 := ⟨zn_RX10.1, zn_RX10.2, by decide +kernel⟩
theorem cs_X10_takeClause_X10_takeEnd : Cs m_X10_takeClause m_X10_takeEnd 0 := ⟨cw_X10_takeEnd, in_X10_takeEnd, cz_X10_takeEnd, Nat.le_of_ble_eq_true rfl, Nat.le_of_ble_eq_true rfl⟩
theorem cs_X10_takeEnd_X10_here : Cs m_X10_takeEnd m_X10_here 0 := ⟨cw_X10_here, in_X10_here, cz_X10_here, Nat.le_of_ble_eq_true rfl, Nat.le_of_ble_eq_true rfl⟩
theorem cs_X10_takeEnd_X10_want : Cs m_X10_takeEnd m_X10_want 3 := ⟨cw_X10_want, in_X10_want, cz_X10_want, Nat.le_of_ble_eq_true rfl, Nat.le_of_ble_eq_true rfl⟩
theorem lk_RX10_166 : Lk RX10 166 (yn m_X10_begin) := Or.inl (tzc_6 6 (by first | rfl | decide +kernel) rfl)
theorem cz_X10_begin : (yn m_X10_begin).cls ≠ "java/lang/invoke/MethodHandle" ∧ (yn m_X10_begin).cls ≠ "java/lang/invoke/VarHandle" ∧ (parseMethodDescriptor (yn m_X10_begin).desc).map (fun d => d.parameters.length) = some 0 := ⟨zn_RX10.1, zn_RX10.2, by decide +kernel⟩
theorem cs_X10_box_X10_begin : Cs m_X10_box m_X10_begin 0 := ⟨cw_X10_begin, in_X10_begin, cz_X10_begin, Nat.le_of_ble_eq_true rfl, Nat.le_of_ble_eq_true rfl⟩
theorem lk_RX10_169 : Lk RX10 169 (yn m_X10_beginReading) := Or.inl (tzc_6 24 (by first | rfl | decide +kernel) rfl)
theorem cz_X10_beginReading : (yn m_X10_beginReading).cls ≠ "java/lang/invoke/MethodHandle" ∧ (yn m_X10_beginReading).cls ≠ "java/lang/invoke/VarHandle" ∧ (parseMethodDescriptor (yn m_X10_beginReading).desc).map (fun d => d.parameters.length) = some 0 := ⟨zn_RX10.1, zn_RX10.2, by decide +kernel⟩
theorem cs_X10_box_X10_beginReading : Cs m_X10_box m_X10_beginReading 0 := ⟨cw_X10_beginReading, in_X10_beginReading, cz_X10_beginReading, Nat.le_of_ble_eq_true rfl, Nat.le_of_ble_eq_true rfl⟩
theorem cs_X10_box_X10_untold : Cs m_X10_box m_X10_untold 1 := ⟨cw_X10_untold, in_X10_untold, cz_X10_untold, Nat.le_of_ble_eq_true rfl, Nat.le_of_ble_eq_true rfl⟩
theorem cs_X10_box_X10_here : Cs m_X10_box m_X10_here 0 := ⟨cw_X10_here, in_X10_here, cz_X10_here, Nat.le_of_ble_eq_true rfl, Nat.le_of_ble_eq_true rfl⟩
theorem lk_RX10_172 : Lk RX10 172 (yn m_X10_takeClause) := Or.inl (tzc_6 32 (by first | rfl | decide +kernel) rfl)
theorem cz_X10_takeClause : (yn m_X10_takeClause).cls ≠ "java/lang/invoke/MethodHandle" ∧ (yn m_X10_takeClause).cls ≠ "java/lang/invoke/VarHandle" ∧ (parseMethodDescriptor (yn m_X10_takeClause).desc).map (fun d => d.parameters.length) = some 0 := ⟨zn_RX10.1, zn_RX10.2, by decide +kernel⟩
theorem cs_X10_box_X10_takeClause : Cs m_X10_box m_X10_takeClause 0 := ⟨cw_X10_takeClause, in_X10_takeClause, cz_X10_takeClause, Nat.le_of_ble_eq_true rfl, Nat.le_of_ble_eq_true rfl⟩
theorem cs_X10_box_X10_want : Cs m_X10_box m_X10_want 3 := ⟨cw_X10_want, in_X10_want, cz_X10_want, Nat.le_of_ble_eq_true rfl, Nat.le_of_ble_eq_true rfl⟩
theorem cs_X10_box_X10_freshen : Cs m_X10_box m_X10_freshen 1 := ⟨cw_X10_freshen, in_X10_freshen, cz_X10_freshen, Nat.le_of_ble_eq_true rfl, Nat.le_of_ble_eq_true rfl⟩
theorem cs_X10_day_X10_begin : Cs m_X10_day m_X10_begin 0 := ⟨cw_X10_begin, in_X10_begin, cz_X10_begin, Nat.le_of_ble_eq_true rfl, Nat.le_of_ble_eq_true rfl⟩
theorem cs_X10_day_X10_beginReading : Cs m_X10_day m_X10_beginReading 0 := ⟨cw_X10_beginReading, in_X10_beginReading, cz_X10_beginReading, Nat.le_of_ble_eq_true rfl, Nat.le_of_ble_eq_true rfl⟩
theorem cs_X10_day_X10_here : Cs m_X10_day m_X10_here 0 := ⟨cw_X10_here, in_X10_here, cz_X10_here, Nat.le_of_ble_eq_true rfl, Nat.le_of_ble_eq_true rfl⟩
theorem cs_X10_day_X10_takeWord : Cs m_X10_day m_X10_takeWord 0 := ⟨cw_X10_takeWord, in_X10_takeWord, cz_X10_takeWord, Nat.le_of_ble_eq_true rfl, Nat.le_of_ble_eq_true rfl⟩
theorem cs_X10_day_X10_isWord : Cs m_X10_day m_X10_isWord 6 := ⟨cw_X10_isWord, in_X10_isWord, cz_X10_isWord, Nat.le_of_ble_eq_true rfl, Nat.le_of_ble_eq_true rfl⟩
theorem cs_X10_day_X10_want : Cs m_X10_day m_X10_want 3 := ⟨cw_X10_want, in_X10_want, cz_X10_want, Nat.le_of_ble_eq_true rfl, Nat.le_of_ble_eq_true rfl⟩
theorem cs_X10_day_X10_takeNumber : Cs m_X10_day m_X10_takeNumber 2 := ⟨cw_X10_takeNumber, in_X10_takeNumber, cz_X10_takeNumber, Nat.le_of_ble_eq_true rfl, Nat.le_of_ble_eq_true rfl⟩
theorem cs_X10_day_X10_takeEnd : Cs m_X10_day m_X10_takeEnd 0 := ⟨cw_X10_takeEnd, in_X10_takeEnd, cz_X10_takeEnd, Nat.le_of_ble_eq_true rfl, Nat.le_of_ble_eq_true rfl⟩
theorem cs_X10_told_X10_begin : Cs m_X10_told m_X10_begin 0 := ⟨cw_X10_begin, in_X10_begin, cz_X10_begin, Nat.le_of_ble_eq_true rfl, Nat.le_of_ble_eq_true rfl⟩
theorem cs_X10_told_X10_in : Cs m_X10_told m_X10_in 3 := ⟨cw_X10_in, in_X10_in, cz_X10_in, Nat.le_of_ble_eq_true rfl, Nat.le_of_ble_eq_true rfl⟩
theorem cs_X10_opening_X10_in : Cs m_X10_opening m_X10_in 3 := ⟨cw_X10_in, in_X10_in, cz_X10_in, Nat.le_of_ble_eq_true rfl, Nat.le_of_ble_eq_true rfl⟩
theorem cs_X10_freshen_X10_has : Cs m_X10_freshen m_X10_has 2 := ⟨cw_X10_has, in_X10_has, cz_X10_has, Nat.le_of_ble_eq_true rfl, Nat.le_of_ble_eq_true rfl⟩
theorem cs_X10_tryFresh_X10_freshen : Cs m_X10_tryFresh m_X10_freshen 1 := ⟨cw_X10_freshen, in_X10_freshen, cz_X10_freshen, Nat.le_of_ble_eq_true rfl, Nat.le_of_ble_eq_true rfl⟩
theorem lk_RX10_192 : Lk RX10 192 (yn m_X10_capOf) := Or.inl (tzc_6 139 (by first | rfl | decide +kernel) rfl)
theorem cz_X10_capOf : (yn m_X10_capOf).cls ≠ "java/lang/invoke/MethodHandle" ∧ (yn m_X10_capOf).cls ≠ "java/lang/invoke/VarHandle" ∧ (parseMethodDescriptor (yn m_X10_capOf).desc).map (fun d => d.parameters.length) = some 2 := ⟨zn_RX10.1, zn_RX10.2, by decide +kernel⟩
theorem cs_X10_warm_X10_capOf : Cs m_X10_warm m_X10_capOf 2 := ⟨cw_X10_capOf, in_X10_capOf, cz_X10_capOf, Nat.le_of_ble_eq_true rfl, Nat.le_of_ble_eq_true rfl⟩
theorem cs_X10_isOpen_X10_in : Cs m_X10_isOpen m_X10_in 3 := ⟨cw_X10_in, in_X10_in, cz_X10_in, Nat.le_of_ble_eq_true rfl, Nat.le_of_ble_eq_true rfl⟩
theorem lk_RX10_200 : Lk RX10 200 (yn m_X10_warm) := Or.inl (tzc_6 135 (by first | rfl | decide +kernel) rfl)
theorem cz_X10_warm : (yn m_X10_warm).cls ≠ "java/lang/invoke/MethodHandle" ∧ (yn m_X10_warm).cls ≠ "java/lang/invoke/VarHandle" ∧ (parseMethodDescriptor (yn m_X10_warm).desc).map (fun d => d.parameters.length) = some 2 := ⟨zn_RX10.1, zn_RX10.2, by decide +kernel⟩
theorem cs_X10_findFlows_X10_warm : Cs m_X10_findFlows m_X10_warm 2 := ⟨cw_X10_warm, in_X10_warm, cz_X10_warm, Nat.le_of_ble_eq_true rfl, Nat.le_of_ble_eq_true rfl⟩
theorem cs_X10_wet_X10_warm : Cs m_X10_wet m_X10_warm 2 := ⟨cw_X10_warm, in_X10_warm, cz_X10_warm, Nat.le_of_ble_eq_true rfl, Nat.le_of_ble_eq_true rfl⟩
theorem cs_X10_readBulb_X10_warm : Cs m_X10_readBulb m_X10_warm 2 := ⟨cw_X10_warm, in_X10_warm, cz_X10_warm, Nat.le_of_ble_eq_true rfl, Nat.le_of_ble_eq_true rfl⟩
theorem cs_X10_readBulb_X10_has : Cs m_X10_readBulb m_X10_has 2 := ⟨cw_X10_has, in_X10_has, cz_X10_has, Nat.le_of_ble_eq_true rfl, Nat.le_of_ble_eq_true rfl⟩
theorem lk_RX10_211 : Lk RX10 211 (yn m_X10_one) := Or.inl (tzc_6 105 (by first | rfl | decide +kernel) rfl)
theorem cz_X10_one : (yn m_X10_one).cls ≠ "java/lang/invoke/MethodHandle" ∧ (yn m_X10_one).cls ≠ "java/lang/invoke/VarHandle" ∧ (parseMethodDescriptor (yn m_X10_one).desc).map (fun d => d.parameters.length) = some 1 := ⟨zn_RX10.1, zn_RX10.2, by decide +kernel⟩
theorem cs_X10_readBulb_X10_one : Cs m_X10_readBulb m_X10_one 1 := ⟨cw_X10_one, in_X10_one, cz_X10_one, Nat.le_of_ble_eq_true rfl, Nat.le_of_ble_eq_true rfl⟩
theorem cs_X10_moves_X10_has : Cs m_X10_moves m_X10_has 2 := ⟨cw_X10_has, in_X10_has, cz_X10_has, Nat.le_of_ble_eq_true rfl, Nat.le_of_ble_eq_true rfl⟩
theorem cs_X10_moves_X10_warm : Cs m_X10_moves m_X10_warm 2 := ⟨cw_X10_warm, in_X10_warm, cz_X10_warm, Nat.le_of_ble_eq_true rfl, Nat.le_of_ble_eq_true rfl⟩
theorem lk_RX10_219 : Lk RX10 219 (yn m_X10_isHour) := Or.inl (tzc_6 176 (by first | rfl | decide +kernel) rfl)
theorem cz_X10_isHour : (yn m_X10_isHour).cls ≠ "java/lang/invoke/MethodHandle" ∧ (yn m_X10_isHour).cls ≠ "java/lang/invoke/VarHandle" ∧ (parseMethodDescriptor (yn m_X10_isHour).desc).map (fun d => d.parameters.length) = some 3 := ⟨zn_RX10.1, zn_RX10.2, by decide +kernel⟩
theorem cs_X10_tick_X10_isHour : Cs m_X10_tick m_X10_isHour 3 := ⟨cw_X10_isHour, in_X10_isHour, cz_X10_isHour, Nat.le_of_ble_eq_true rfl, Nat.le_of_ble_eq_true rfl⟩
theorem cs_X10_tick_X10_has : Cs m_X10_tick m_X10_has 2 := ⟨cw_X10_has, in_X10_has, cz_X10_has, Nat.le_of_ble_eq_true rfl, Nat.le_of_ble_eq_true rfl⟩
theorem lk_RX10_225 : Lk RX10 225 (yn m_X10_readBulb) := Or.inl (tzc_6 181 (by first | rfl | decide +kernel) rfl)
theorem cz_X10_readBulb : (yn m_X10_readBulb).cls ≠ "java/lang/invoke/MethodHandle" ∧ (yn m_X10_readBulb).cls ≠ "java/lang/invoke/VarHandle" ∧ (parseMethodDescriptor (yn m_X10_readBulb).desc).map (fun d => d.parameters.length) = some 3 := ⟨zn_RX10.1, zn_RX10.2, by decide +kernel⟩
theorem cs_X10_tick_X10_readBulb : Cs m_X10_tick m_X10_readBulb 3 := ⟨cw_X10_readBulb, in_X10_readBulb, cz_X10_readBulb, Nat.le_of_ble_eq_true rfl, Nat.le_of_ble_eq_true rfl⟩
theorem lk_RX10_233 : Lk RX10 233 (yn m_X10_findFlows) := Or.inl (tzc_6 187 (by first | rfl | decide +kernel) rfl)
theorem cz_X10_findFlows : (yn m_X10_findFlows).cls ≠ "java/lang/invoke/MethodHandle" ∧ (yn m_X10_findFlows).cls ≠ "java/lang/invoke/VarHandle" ∧ (parseMethodDescriptor (yn m_X10_findFlows).desc).map (fun d => d.parameters.length) = some 3 := ⟨zn_RX10.1, zn_RX10.2, by decide +kernel⟩
theorem cs_X10_tick_X10_findFlows : Cs m_X10_tick m_X10_findFlows 3 := ⟨cw_X10_findFlows, in_X10_findFlows, cz_X10_findFlows, Nat.le_of_ble_eq_true rfl, Nat.le_of_ble_eq_true rfl⟩
theorem lk_RX10_237 : Lk RX10 237 (yn m_X10_moves) := Or.inl (tzc_6 193 (by first | rfl | decide +kernel) rfl)
theorem cz_X10_moves : (yn m_X10_moves).cls ≠ "java/lang/invoke/MethodHandle" ∧ (yn m_X10_moves).cls ≠ "java/lang/invoke/VarHandle" ∧ (parseMethodDescriptor (yn m_X10_moves).desc).map (fun d => d.parameters.length) = some 2 := ⟨zn_RX10.1, zn_RX10.2, by decide +kernel⟩
theorem cs_X10_tick_X10_moves : Cs m_X10_tick m_X10_moves 2 := ⟨cw_X10_moves, in_X10_moves, cz_X10_moves, Nat.le_of_ble_eq_true rfl, Nat.le_of_ble_eq_true rfl⟩
theorem lk_RX10_243 : Lk RX10 243 (yn m_X10_wet) := Or.inl (tzc_6 200 (by first | rfl | decide +kernel) rfl)
theorem cz_X10_wet : (yn m_X10_wet).cls ≠ "java/lang/invoke/MethodHandle" ∧ (yn m_X10_wet).cls ≠ "java/lang/invoke/VarHandle" ∧ (parseMethodDescriptor (yn m_X10_wet).desc).map (fun d => d.parameters.length) = some 2 := ⟨zn_RX10.1, zn_RX10.2, by decide +kernel⟩
theorem cs_X10_tick_X10_wet : Cs m_X10_tick m_X10_wet 2 := ⟨cw_X10_wet, in_X10_wet, cz_X10_wet, Nat.le_of_ble_eq_true rfl, Nat.le_of_ble_eq_true rfl⟩
theorem lk_RX10_247 : Lk RX10 247 (yn m_X10_isOpen) := Or.inl (tzc_6 166 (by first | rfl | decide +kernel) rfl)
theorem cz_X10_isOpen : (yn m_X10_isOpen).cls ≠ "java/lang/invoke/MethodHandle" ∧ (yn m_X10_isOpen).cls ≠ "java/lang/invoke/VarHandle" ∧ (parseMethodDescriptor (yn m_X10_isOpen).desc).map (fun d => d.parameters.length) = some 1 := ⟨zn_RX10.1, zn_RX10.2, by decide +kernel⟩
theorem cs_X10_go_X10_isOpen : Cs m_X10_go m_X10_isOpen 1 := ⟨cw_X10_isOpen, in_X10_isOpen, cz_X10_isOpen, Nat.le_of_ble_eq_true rfl, Nat.le_of_ble_eq_true rfl⟩
theorem lk_RX10_251 : Lk RX10 251 (yn m_X10_tick) := Or.inl (tzc_6 171 (by first | rfl | decide +kernel) rfl)
theorem cz_X10_tick : (yn m_X10_tick).cls ≠ "java/lang/invoke/MethodHandle" ∧ (yn m_X10_tick).cls ≠ "java/lang/invoke/VarHandle" ∧ (parseMethodDescriptor (yn m_X10_tick).desc).map (fun d => d.parameters.length) = some 4 := ⟨zn_RX10.1, zn_RX10.2, by decide +kernel⟩
theorem cs_X10_go_X10_tick : Cs m_X10_go m_X10_tick 4 := ⟨cw_X10_tick, in_X10_tick, cz_X10_tick, Nat.le_of_ble_eq_true rfl, Nat.le_of_ble_eq_true rfl⟩
theorem cs_X10_isSet_X10_in : Cs m_X10_isSet m_X10_in 3 := ⟨cw_X10_in, in_X10_in, cz_X10_in, Nat.le_of_ble_eq_true rfl, Nat.le_of_ble_eq_true rfl⟩
theorem cs_X10_isTrouble_X10_in : Cs m_X10_isTrouble m_X10_in 3 := ⟨cw_X10_in, in_X10_in, cz_X10_in, Nat.le_of_ble_eq_true rfl, Nat.le_of_ble_eq_true rfl⟩
theorem cs_X10_trouble_X10_begin : Cs m_X10_trouble m_X10_begin 0 := ⟨cw_X10_begin, in_X10_begin, cz_X10_begin, Nat.le_of_ble_eq_true rfl, Nat.le_of_ble_eq_true rfl⟩
theorem lk_RX10_259 : Lk RX10 259 (yn m_X10_isSet) := Or.inl (tzc_6 92 (by first | rfl | decide +kernel) rfl)
theorem cz_X10_isSet : (yn m_X10_isSet).cls ≠ "java/lang/invoke/MethodHandle" ∧ (yn m_X10_isSet).cls ≠ "java/lang/invoke/VarHandle" ∧ (parseMethodDescriptor (yn m_X10_isSet).desc).map (fun d => d.parameters.length) = some 1 := ⟨zn_RX10.1, zn_RX10.2, by decide +kernel⟩
theorem cs_X10_trouble_X10_isSet : Cs m_X10_trouble m_X10_isSet 1 := ⟨cw_X10_isSet, in_X10_isSet, cz_X10_isSet, Nat.le_of_ble_eq_true rfl, Nat.le_of_ble_eq_true rfl⟩
theorem cs_X10_trouble_X10_has : Cs m_X10_trouble m_X10_has 2 := ⟨cw_X10_has, in_X10_has, cz_X10_has, Nat.le_of_ble_eq_true rfl, Nat.le_of_ble_eq_true rfl⟩
theorem cs_X10_fresh_X10_begin : Cs m_X10_fresh m_X10_begin 0 := ⟨cw_X10_begin, in_X10_begin, cz_X10_begin, Nat.le_of_ble_eq_true rfl, Nat.le_of_ble_eq_true rfl⟩
theorem cs_X10_fresh_X10_freshen : Cs m_X10_fresh m_X10_freshen 1 := ⟨cw_X10_freshen, in_X10_freshen, cz_X10_freshen, Nat.le_of_ble_eq_true rfl, Nat.le_of_ble_eq_true rfl⟩
theorem cs_X10_current_X10_begin : Cs m_X10_current m_X10_begin 0 := ⟨cw_X10_begin, in_X10_begin, cz_X10_begin, Nat.le_of_ble_eq_true rfl, Nat.le_of_ble_eq_true rfl⟩
theorem cs_X10_current_X10_one : Cs m_X10_current m_X10_one 1 := ⟨cw_X10_one, in_X10_one, cz_X10_one, Nat.le_of_ble_eq_true rfl, Nat.le_of_ble_eq_true rfl⟩
theorem cs_X10_cover_X10_begin : Cs m_X10_cover m_X10_begin 0 := ⟨cw_X10_begin, in_X10_begin, cz_X10_begin, Nat.le_of_ble_eq_true rfl, Nat.le_of_ble_eq_true rfl⟩
theorem cs_X10_cover_X10_one : Cs m_X10_cover m_X10_one 1 := ⟨cw_X10_one, in_X10_one, cz_X10_one, Nat.le_of_ble_eq_true rfl, Nat.le_of_ble_eq_true rfl⟩
theorem cs_X10_isShelf_X10_in : Cs m_X10_isShelf m_X10_in 3 := ⟨cw_X10_in, in_X10_in, cz_X10_in, Nat.le_of_ble_eq_true rfl, Nat.le_of_ble_eq_true rfl⟩
theorem cs_X10_isFood_X10_in : Cs m_X10_isFood m_X10_in 3 := ⟨cw_X10_in, in_X10_in, cz_X10_in, Nat.le_of_ble_eq_true rfl, Nat.le_of_ble_eq_true rfl⟩
theorem cs_X10_isDegree_X10_in : Cs m_X10_isDegree m_X10_in 3 := ⟨cw_X10_in, in_X10_in, cz_X10_in, Nat.le_of_ble_eq_true rfl, Nat.le_of_ble_eq_true rfl⟩
theorem cs_X10_put_X10_begin : Cs m_X10_put m_X10_begin 0 := ⟨cw_X10_begin, in_X10_begin, cz_X10_begin, Nat.le_of_ble_eq_true rfl, Nat.le_of_ble_eq_true rfl⟩
theorem lk_RX10_272 : Lk RX10 272 (yn m_X10_isShelf) := Or.inl (tzc_6 116 (by first | rfl | decide +kernel) rfl)
theorem cz_X10_isShelf : (yn m_X10_isShelf).cls ≠ "java/lang/invoke/MethodHandle" ∧ (yn m_X10_isShelf).cls ≠ "java/lang/invoke/VarHandle" ∧ (parseMethodDescriptor (yn m_X10_isShelf).desc).map (fun d => d.parameters.length) = some 1 := ⟨zn_RX10.1, zn_RX10.2, by decide +kernel⟩
theorem cs_X10_put_X10_isShelf : Cs m_X10_put m_X10_isShelf 1 := ⟨cw_X10_isShelf, in_X10_isShelf, cz_X10_isShelf, Nat.le_of_ble_eq_true rfl, Nat.le_of_ble_eq_true rfl⟩
theorem lk_RX10_275 : Lk RX10 275 (yn m_X10_isDegree) := Or.inl (tzc_6 120 (by first | rfl | decide +kernel) rfl)
theorem cz_X10_isDegree : (yn m_X10_isDegree).cls ≠ "java/lang/invoke/MethodHandle" ∧ (yn m_X10_isDegree).cls ≠ "java/lang/invoke/VarHandle" ∧ (parseMethodDescriptor (yn m_X10_isDegree).desc).map (fun d => d.parameters.length) = some 1 := ⟨zn_RX10.1, zn_RX10.2, by decide +kernel⟩
theorem cs_X10_put_X10_isDegree : Cs m_X10_put m_X10_isDegree 1 := ⟨cw_X10_isDegree, in_X10_isDegree, cz_X10_isDegree, Nat.le_of_ble_eq_true rfl, Nat.le_of_ble_eq_true rfl⟩
theorem cs_X10_put_X10_in : Cs m_X10_put m_X10_in 3 := ⟨cw_X10_in, in_X10_in, cz_X10_in, Nat.le_of_ble_eq_true rfl, Nat.le_of_ble_eq_true rfl⟩
theorem cs_X10_take_X10_begin : Cs m_X10_take m_X10_begin 0 := ⟨cw_X10_begin, in_X10_begin, cz_X10_begin, Nat.le_of_ble_eq_true rfl, Nat.le_of_ble_eq_true rfl⟩
theorem lk_RX10_280 : Lk RX10 280 (yn m_X10_isFood) := Or.inl (tzc_6 130 (by first | rfl | decide +kernel) rfl)
theorem cz_X10_isFood : (yn m_X10_isFood).cls ≠ "java/lang/invoke/MethodHandle" ∧ (yn m_X10_isFood).cls ≠ "java/lang/invoke/VarHandle" ∧ (parseMethodDescriptor (yn m_X10_isFood).desc).map (fun d => d.parameters.length) = some 1 := ⟨zn_RX10.1, zn_RX10.2, by decide +kernel⟩
theorem cs_X10_take_X10_isFood : Cs m_X10_take m_X10_isFood 1 := ⟨cw_X10_isFood, in_X10_isFood, cz_X10_isFood, Nat.le_of_ble_eq_true rfl, Nat.le_of_ble_eq_true rfl⟩
theorem cs_X10_take_X10_warm : Cs m_X10_take m_X10_warm 2 := ⟨cw_X10_warm, in_X10_warm, cz_X10_warm, Nat.le_of_ble_eq_true rfl, Nat.le_of_ble_eq_true rfl⟩
theorem cs_X10_lay_X10_begin : Cs m_X10_lay m_X10_begin 0 := ⟨cw_X10_begin, in_X10_begin, cz_X10_begin, Nat.le_of_ble_eq_true rfl, Nat.le_of_ble_eq_true rfl⟩
theorem cs_X10_lay_X10_isFood : Cs m_X10_lay m_X10_isFood 1 := ⟨cw_X10_isFood, in_X10_isFood, cz_X10_isFood, Nat.le_of_ble_eq_true rfl, Nat.le_of_ble_eq_true rfl⟩
theorem cs_X10_lay_X10_isShelf : Cs m_X10_lay m_X10_isShelf 1 := ⟨cw_X10_isShelf, in_X10_isShelf, cz_X10_isShelf, Nat.le_of_ble_eq_true rfl, Nat.le_of_ble_eq_true rfl⟩
theorem cs_X10_isWithin_X10_warm : Cs m_X10_isWithin m_X10_warm 2 := ⟨cw_X10_warm, in_X10_warm, cz_X10_warm, Nat.le_of_ble_eq_true rfl, Nat.le_of_ble_eq_true rfl⟩
theorem cs_X10_isWithin_X10_in : Cs m_X10_isWithin m_X10_in 3 := ⟨cw_X10_in, in_X10_in, cz_X10_in, Nat.le_of_ble_eq_true rfl, Nat.le_of_ble_eq_true rfl⟩
theorem cs_X10_food_X10_begin : Cs m_X10_food m_X10_begin 0 := ⟨cw_X10_begin, in_X10_begin, cz_X10_begin, Nat.le_of_ble_eq_true rfl, Nat.le_of_ble_eq_true rfl⟩
theorem cs_X10_food_X10_isFood : Cs m_X10_food m_X10_isFood 1 := ⟨cw_X10_isFood, in_X10_isFood, cz_X10_isFood, Nat.le_of_ble_eq_true rfl, Nat.le_of_ble_eq_true rfl⟩
theorem cs_X10_food_X10_warm : Cs m_X10_food m_X10_warm 2 := ⟨cw_X10_warm, in_X10_warm, cz_X10_warm, Nat.le_of_ble_eq_true rfl, Nat.le_of_ble_eq_true rfl⟩
theorem lk_RX10_283 : Lk RX10 283 (yn m_X10_isWithin) := Or.inl (tzc_6 153 (by first | rfl | decide +kernel) rfl)
theorem cz_X10_isWithin : (yn m_X10_isWithin).cls ≠ "java/lang/invoke/MethodHandle" ∧ (yn m_X10_isWithin).cls ≠ "java/lang/invoke/VarHandle" ∧ (parseMethodDescriptor (yn m_X10_isWithin).desc).map (fun d => d.parameters.length) = some 2 := ⟨zn_RX10.1, zn_RX10.2, by decide +kernel⟩
theorem cs_X10_food_X10_isWithin : Cs m_X10_food m_X10_isWithin 2 := ⟨cw_X10_isWithin, in_X10_isWithin, cz_X10_isWithin, Nat.le_of_ble_eq_true rfl, Nat.le_of_ble_eq_true rfl⟩
theorem cs_X10_food_X10_one : Cs m_X10_food m_X10_one 1 := ⟨cw_X10_one, in_X10_one, cz_X10_one, Nat.le_of_ble_eq_true rfl, Nat.le_of_ble_eq_true rfl⟩
theorem cs_X10_run_X10_begin : Cs m_X10_run m_X10_begin 0 := ⟨cw_X10_begin, in_X10_begin, cz_X10_begin, Nat.le_of_ble_eq_true rfl, Nat.le_of_ble_eq_true rfl⟩
theorem cs_X10_run_X10_in : Cs m_X10_run m_X10_in 3 := ⟨cw_X10_in, in_X10_in, cz_X10_in, Nat.le_of_ble_eq_true rfl, Nat.le_of_ble_eq_true rfl⟩
theorem lk_RX10_289 : Lk RX10 289 (yn m_X10_go) := Or.inl (tzc_6 162 (by first | rfl | decide +kernel) rfl)
theorem cz_X10_go : (yn m_X10_go).cls ≠ "java/lang/invoke/MethodHandle" ∧ (yn m_X10_go).cls ≠ "java/lang/invoke/VarHandle" ∧ (parseMethodDescriptor (yn m_X10_go).desc).map (fun d => d.parameters.length) = some 2 := ⟨zn_RX10.1, zn_RX10.2, by decide +kernel⟩
theorem cs_X10_run_X10_go : Cs m_X10_run m_X10_go 2 := ⟨cw_X10_go, in_X10_go, cz_X10_go, Nat.le_of_ble_eq_true rfl, Nat.le_of_ble_eq_true rfl⟩
theorem lk_RX10_301 : Lk RX10 301 (yn m_X10_draw) := Or.inl (tzc_6 213 (by first | rfl | decide +kernel) rfl)
theorem cz_X10_draw : (yn m_X10_draw).cls ≠ "java/lang/invoke/MethodHandle" ∧ (yn m_X10_draw).cls ≠ "java/lang/invoke/VarHandle" ∧ (parseMethodDescriptor (yn m_X10_draw).desc).map (fun d => d.parameters.length) = some 1 := ⟨zn_RX10.1, zn_RX10.2, by decide +kernel⟩
theorem cs_X10_drawDay_X10_draw : Cs m_X10_drawDay m_X10_draw 1 := ⟨cw_X10_draw, in_X10_draw, cz_X10_draw, Nat.le_of_ble_eq_true rfl, Nat.le_of_ble_eq_true rfl⟩
theorem cs_X10_drawn_X10_begin : Cs m_X10_drawn m_X10_begin 0 := ⟨cw_X10_begin, in_X10_begin, cz_X10_begin, Nat.le_of_ble_eq_true rfl, Nat.le_of_ble_eq_true rfl⟩
theorem cs_X10_drawn_X10_in : Cs m_X10_drawn m_X10_in 3 := ⟨cw_X10_in, in_X10_in, cz_X10_in, Nat.le_of_ble_eq_true rfl, Nat.le_of_ble_eq_true rfl⟩
theorem lk_RX10_304 : Lk RX10 304 (yn m_X10_drawDay) := Or.inl (tzc_6 209 (by first | rfl | decide +kernel) rfl)
theorem cz_X10_drawDay : (yn m_X10_drawDay).cls ≠ "java/lang/invoke/MethodHandle" ∧ (yn m_X10_drawDay).cls ≠ "java/lang/invoke/VarHandle" ∧ (parseMethodDescriptor (yn m_X10_drawDay).desc).map (fun d => d.parameters.length) = some 1 := ⟨zn_RX10.1, zn_RX10.2, by decide +kernel⟩
theorem cs_X10_drawn_X10_drawDay : Cs m_X10_drawn m_X10_drawDay 1 := ⟨cw_X10_drawDay, in_X10_drawDay, cz_X10_drawDay, Nat.le_of_ble_eq_true rfl, Nat.le_of_ble_eq_true rfl⟩
theorem cs_X10_drawn_X10_tick : Cs m_X10_drawn m_X10_tick 4 := ⟨cw_X10_tick, in_X10_tick, cz_X10_tick, Nat.le_of_ble_eq_true rfl, Nat.le_of_ble_eq_true rfl⟩
theorem cs_X10_warmth_X10_begin : Cs m_X10_warmth m_X10_begin 0 := ⟨cw_X10_begin, in_X10_begin, cz_X10_begin, Nat.le_of_ble_eq_true rfl, Nat.le_of_ble_eq_true rfl⟩
theorem cs_X10_warmth_X10_in : Cs m_X10_warmth m_X10_in 3 := ⟨cw_X10_in, in_X10_in, cz_X10_in, Nat.le_of_ble_eq_true rfl, Nat.le_of_ble_eq_true rfl⟩
theorem cs_X10_warmth_X10_warm : Cs m_X10_warmth m_X10_warm 2 := ⟨cw_X10_warm, in_X10_warm, cz_X10_warm, Nat.le_of_ble_eq_true rfl, Nat.le_of_ble_eq_true rfl⟩
theorem cs_X10_heat_X10_begin : Cs m_X10_heat m_X10_begin 0 := ⟨cw_X10_begin, in_X10_begin, cz_X10_begin, Nat.le_of_ble_eq_true rfl, Nat.le_of_ble_eq_true rfl⟩
theorem cs_X10_heat_X10_in : Cs m_X10_heat m_X10_in 3 := ⟨cw_X10_in, in_X10_in, cz_X10_in, Nat.le_of_ble_eq_true rfl, Nat.le_of_ble_eq_true rfl⟩
theorem cs_X10_count_X10_begin : Cs m_X10_count m_X10_begin 0 := ⟨cw_X10_begin, in_X10_begin, cz_X10_begin, Nat.le_of_ble_eq_true rfl, Nat.le_of_ble_eq_true rfl⟩
theorem lk_RX10_311 : Lk RX10 311 (yn m_X10_foods) := Or.inl (tzc_6 235 (by first | rfl | decide +kernel) rfl)
theorem cz_X10_foods : (yn m_X10_foods).cls ≠ "java/lang/invoke/MethodHandle" ∧ (yn m_X10_foods).cls ≠ "java/lang/invoke/VarHandle" ∧ (parseMethodDescriptor (yn m_X10_foods).desc).map (fun d => d.parameters.length) = some 0 := ⟨zn_RX10.1, zn_RX10.2, by decide +kernel⟩
theorem cs_X10_count_X10_foods : Cs m_X10_count m_X10_foods 0 := ⟨cw_X10_foods, in_X10_foods, cz_X10_foods, Nat.le_of_ble_eq_true rfl, Nat.le_of_ble_eq_true rfl⟩
theorem cs_X10_melt_X10_capOf : Cs m_X10_melt m_X10_capOf 2 := ⟨cw_X10_capOf, in_X10_capOf, cz_X10_capOf, Nat.le_of_ble_eq_true rfl, Nat.le_of_ble_eq_true rfl⟩
theorem cs_X10_melt_X10_warm : Cs m_X10_melt m_X10_warm 2 := ⟨cw_X10_warm, in_X10_warm, cz_X10_warm, Nat.le_of_ble_eq_true rfl, Nat.le_of_ble_eq_true rfl⟩
theorem cs_X10_thaw_X10_begin : Cs m_X10_thaw m_X10_begin 0 := ⟨cw_X10_begin, in_X10_begin, cz_X10_begin, Nat.le_of_ble_eq_true rfl, Nat.le_of_ble_eq_true rfl⟩
theorem lk_RX10_314 : Lk RX10 314 (yn m_X10_melt) := Or.inl (tzc_7 3 (by first | rfl | decide +kernel) rfl)
theorem cz_X10_melt : (yn m_X10_melt).cls ≠ "java/lang/invoke/MethodHandle" ∧ (yn m_X10_melt).cls ≠ "java/lang/invoke/VarHandle" ∧ (parseMethodDescriptor (yn m_X10_melt).desc).map (fun d => d.parameters.length) = some 1 := ⟨zn_RX10.1, zn_RX10.2, by decide +kernel⟩
theorem cs_X10_thaw_X10_melt : Cs m_X10_thaw m_X10_melt 1 := ⟨cw_X10_melt, in_X10_melt, cz_X10_melt, Nat.le_of_ble_eq_true rfl, Nat.le_of_ble_eq_true rfl⟩
theorem cs_X10_signOf_X10_warm : Cs m_X10_signOf m_X10_warm 2 := ⟨cw_X10_warm, in_X10_warm, cz_X10_warm, Nat.le_of_ble_eq_true rfl, Nat.le_of_ble_eq_true rfl⟩
theorem lk_RX10_317 : Lk RX10 317 (yn m_X10_tryFresh) := Or.inl (tzc_7 22 (by first | rfl | decide +kernel) rfl)
theorem cz_X10_tryFresh : (yn m_X10_tryFresh).cls ≠ "java/lang/invoke/MethodHandle" ∧ (yn m_X10_tryFresh).cls ≠ "java/lang/invoke/VarHandle" ∧ (parseMethodDescriptor (yn m_X10_tryFresh).desc).map (fun d => d.parameters.length) = some 1 := ⟨zn_RX10.1, zn_RX10.2, by decide +kernel⟩
theorem cs_X10_findSigns_X10_tryFresh : Cs m_X10_findSigns m_X10_tryFresh 1 := ⟨cw_X10_tryFresh, in_X10_tryFresh, cz_X10_tryFresh, Nat.le_of_ble_eq_true rfl, Nat.le_of_ble_eq_true rfl⟩
theorem cs_X10_findSigns_X10_go : Cs m_X10_findSigns m_X10_go 2 := ⟨cw_X10_go, in_X10_go, cz_X10_go, Nat.le_of_ble_eq_true rfl, Nat.le_of_ble_eq_true rfl⟩
theorem lk_RX10_320 : Lk RX10 320 (yn m_X10_signOf) := Or.inl (tzc_7 26 (by first | rfl | decide +kernel) rfl)
theorem cz_X10_signOf : (yn m_X10_signOf).cls ≠ "java/lang/invoke/MethodHandle" ∧ (yn m_X10_signOf).cls ≠ "java/lang/invoke/VarHandle" ∧ (parseMethodDescriptor (yn m_X10_signOf).desc).map (fun d => d.parameters.length) = some 1 := ⟨zn_RX10.1, zn_RX10.2, by decide +kernel⟩
theorem cs_X10_findSigns_X10_signOf : Cs m_X10_findSigns m_X10_signOf 1 := ⟨cw_X10_signOf, in_X10_signOf, cz_X10_signOf, Nat.le_of_ble_eq_true rfl, Nat.le_of_ble_eq_true rfl⟩
theorem cs_X10_isSign_X10_in : Cs m_X10_isSign m_X10_in 3 := ⟨cw_X10_in, in_X10_in, cz_X10_in, Nat.le_of_ble_eq_true rfl, Nat.le_of_ble_eq_true rfl⟩
theorem cs_X10_areDays_X10_in : Cs m_X10_areDays m_X10_in 3 := ⟨cw_X10_in, in_X10_in, cz_X10_in, Nat.le_of_ble_eq_true rfl, Nat.le_of_ble_eq_true rfl⟩
theorem cs_X10_sign_X10_begin : Cs m_X10_sign m_X10_begin 0 := ⟨cw_X10_begin, in_X10_begin, cz_X10_begin, Nat.le_of_ble_eq_true rfl, Nat.le_of_ble_eq_true rfl⟩
theorem cs_X10_sign_X10_isSet : Cs m_X10_sign m_X10_isSet 1 := ⟨cw_X10_isSet, in_X10_isSet, cz_X10_isSet, Nat.le_of_ble_eq_true rfl, Nat.le_of_ble_eq_true rfl⟩
theorem lk_RX10_323 : Lk RX10 323 (yn m_X10_isSign) := Or.inl (tzc_7 11 (by first | rfl | decide +kernel) rfl)
theorem cz_X10_isSign : (yn m_X10_isSign).cls ≠ "java/lang/invoke/MethodHandle" ∧ (yn m_X10_isSign).cls ≠ "java/lang/invoke/VarHandle" ∧ (parseMethodDescriptor (yn m_X10_isSign).desc).map (fun d => d.parameters.length) = some 1 := ⟨zn_RX10.1, zn_RX10.2, by decide +kernel⟩
theorem cs_X10_sign_X10_isSign : Cs m_X10_sign m_X10_isSign 1 := ⟨cw_X10_isSign, in_X10_isSign, cz_X10_isSign, Nat.le_of_ble_eq_true rfl, Nat.le_of_ble_eq_true rfl⟩
theorem lk_RX10_326 : Lk RX10 326 (yn m_X10_areDays) := Or.inl (tzc_7 15 (by first | rfl | decide +kernel) rfl)
theorem cz_X10_areDays : (yn m_X10_areDays).cls ≠ "java/lang/invoke/MethodHandle" ∧ (yn m_X10_areDays).cls ≠ "java/lang/invoke/VarHandle" ∧ (parseMethodDescriptor (yn m_X10_areDays).desc).map (fun d => d.parameters.length) = some 1 := ⟨zn_RX10.1, zn_RX10.2, by decide +kernel⟩
theorem cs_X10_sign_X10_areDays : Cs m_X10_sign m_X10_areDays 1 := ⟨cw_X10_areDays, in_X10_areDays, cz_X10_areDays, Nat.le_of_ble_eq_true rfl, Nat.le_of_ble_eq_true rfl⟩
theorem lk_RX10_329 : Lk RX10 329 (yn m_X10_findSigns) := Or.inl (tzc_7 18 (by first | rfl | decide +kernel) rfl)
theorem cz_X10_findSigns : (yn m_X10_findSigns).cls ≠ "java/lang/invoke/MethodHandle" ∧ (yn m_X10_findSigns).cls ≠ "java/lang/invoke/VarHandle" ∧ (parseMethodDescriptor (yn m_X10_findSigns).desc).map (fun d => d.parameters.length) = some 2 := ⟨zn_RX10.1, zn_RX10.2, by decide +kernel⟩
theorem cs_X10_sign_X10_findSigns : Cs m_X10_sign m_X10_findSigns 2 := ⟨cw_X10_findSigns, in_X10_findSigns, cz_X10_findSigns, Nat.le_of_ble_eq_true rfl, Nat.le_of_ble_eq_true rfl⟩
theorem cs_X10_seens_X10_one : Cs m_X10_seens m_X10_one 1 := ⟨cw_X10_one, in_X10_one, cz_X10_one, Nat.le_of_ble_eq_true rfl, Nat.le_of_ble_eq_true rfl⟩
theorem cs_X10_seen_X10_isSign : Cs m_X10_seen m_X10_isSign 1 := ⟨cw_X10_isSign, in_X10_isSign, cz_X10_isSign, Nat.le_of_ble_eq_true rfl, Nat.le_of_ble_eq_true rfl⟩
theorem cs_X10_seen_X10_in : Cs m_X10_seen m_X10_in 3 := ⟨cw_X10_in, in_X10_in, cz_X10_in, Nat.le_of_ble_eq_true rfl, Nat.le_of_ble_eq_true rfl⟩
theorem lk_RX10_338 : Lk RX10 338 (yn m_X10_seens) := Or.inl (tzc_7 37 (by first | rfl | decide +kernel) rfl)
theorem cz_X10_seens : (yn m_X10_seens).cls ≠ "java/lang/invoke/MethodHandle" ∧ (yn m_X10_seens).cls ≠ "java/lang/invoke/VarHandle" ∧ (parseMethodDescriptor (yn m_X10_seens).desc).map (fun d => d.parameters.length) = some 0 := ⟨zn_RX10.1, zn_RX10.2, by decide +kernel⟩
theorem cs_X10_seen_X10_seens : Cs m_X10_seen m_X10_seens 0 := ⟨cw_X10_seens, in_X10_seens, cz_X10_seens, Nat.le_of_ble_eq_true rfl, Nat.le_of_ble_eq_true rfl⟩
theorem cs_X10_forget_X10_seens : Cs m_X10_forget m_X10_seens 0 := ⟨cw_X10_seens, in_X10_seens, cz_X10_seens, Nat.le_of_ble_eq_true rfl, Nat.le_of_ble_eq_true rfl⟩
theorem cs_X10_prior_X10_begin : Cs m_X10_prior m_X10_begin 0 := ⟨cw_X10_begin, in_X10_begin, cz_X10_begin, Nat.le_of_ble_eq_true rfl, Nat.le_of_ble_eq_true rfl⟩
theorem lk_RX10_341 : Lk RX10 341 (yn m_X10_isTrouble) := Or.inl (tzc_7 49 (by first | rfl | decide +kernel) rfl)
theorem cz_X10_isTrouble : (yn m_X10_isTrouble).cls ≠ "java/lang/invoke/MethodHandle" ∧ (yn m_X10_isTrouble).cls ≠ "java/lang/invoke/VarHandle" ∧ (parseMethodDescriptor (yn m_X10_isTrouble).desc).map (fun d => d.parameters.length) = some 1 := ⟨zn_RX10.1, zn_RX10.2, by decide +kernel⟩
theorem cs_X10_prior_X10_isTrouble : Cs m_X10_prior m_X10_isTrouble 1 := ⟨cw_X10_isTrouble, in_X10_isTrouble, cz_X10_isTrouble, Nat.le_of_ble_eq_true rfl, Nat.le_of_ble_eq_true rfl⟩
theorem cs_X10_prior_X10_in : Cs m_X10_prior m_X10_in 3 := ⟨cw_X10_in, in_X10_in, cz_X10_in, Nat.le_of_ble_eq_true rfl, Nat.le_of_ble_eq_true rfl⟩
theorem cs_X10_bother_X10_isSign : Cs m_X10_bother m_X10_isSign 1 := ⟨cw_X10_isSign, in_X10_isSign, cz_X10_isSign, Nat.le_of_ble_eq_true rfl, Nat.le_of_ble_eq_true rfl⟩
theorem cs_X10_bother_X10_in : Cs m_X10_bother m_X10_in 3 := ⟨cw_X10_in, in_X10_in, cz_X10_in, Nat.le_of_ble_eq_true rfl, Nat.le_of_ble_eq_true rfl⟩
theorem lk_RX10_344 : Lk RX10 344 (yn m_X10_ones) := Or.inl (tzc_7 63 (by first | rfl | decide +kernel) rfl)
theorem cz_X10_ones : (yn m_X10_ones).cls ≠ "java/lang/invoke/MethodHandle" ∧ (yn m_X10_ones).cls ≠ "java/lang/invoke/VarHandle" ∧ (parseMethodDescriptor (yn m_X10_ones).desc).map (fun d => d.parameters.length) = some 1 := ⟨zn_RX10.1, zn_RX10.2, by decide +kernel⟩
theorem cs_X10_couldBe_X10_ones : Cs m_X10_couldBe m_X10_ones 1 := ⟨cw_X10_ones, in_X10_ones, cz_X10_ones, Nat.le_of_ble_eq_true rfl, Nat.le_of_ble_eq_true rfl⟩
theorem cs_X10_weightOf_X10_has : Cs m_X10_weightOf m_X10_has 2 := ⟨cw_X10_has, in_X10_has, cz_X10_has, Nat.le_of_ble_eq_true rfl, Nat.le_of_ble_eq_true rfl⟩
theorem lk_RX10_353 : Lk RX10 353 (yn m_X10_couldBe) := Or.inl (tzc_7 60 (by first | rfl | decide +kernel) rfl)
theorem cz_X10_couldBe : (yn m_X10_couldBe).cls ≠ "java/lang/invoke/MethodHandle" ∧ (yn m_X10_couldBe).cls ≠ "java/lang/invoke/VarHandle" ∧ (parseMethodDescriptor (yn m_X10_couldBe).desc).map (fun d => d.parameters.length) = some 1 := ⟨zn_RX10.1, zn_RX10.2, by decide +kernel⟩
theorem cs_X10_weigh_X10_couldBe : Cs m_X10_weigh m_X10_couldBe 1 := ⟨cw_X10_couldBe, in_X10_couldBe, cz_X10_couldBe, Nat.le_of_ble_eq_true rfl, Nat.le_of_ble_eq_true rfl⟩
theorem cs_X10_weigh_X10_findSigns : Cs m_X10_weigh m_X10_findSigns 2 := ⟨cw_X10_findSigns, in_X10_findSigns, cz_X10_findSigns, Nat.le_of_ble_eq_true rfl, Nat.le_of_ble_eq_true rfl⟩
theorem lk_RX10_356 : Lk RX10 356 (yn m_X10_weightOf) := Or.inl (tzc_7 70 (by first | rfl | decide +kernel) rfl)
theorem cz_X10_weightOf : (yn m_X10_weightOf).cls ≠ "java/lang/invoke/MethodHandle" ∧ (yn m_X10_weightOf).cls ≠ "java/lang/invoke/VarHandle" ∧ (parseMethodDescriptor (yn m_X10_weightOf).desc).map (fun d => d.parameters.length) = some 1 := ⟨zn_RX10.1, zn_RX10.2, by decide +kernel⟩
theorem cs_X10_weigh_X10_weightOf : Cs m_X10_weigh m_X10_weightOf 1 := ⟨cw_X10_weightOf, in_X10_weightOf, cz_X10_weightOf, Nat.le_of_ble_eq_true rfl, Nat.le_of_ble_eq_true rfl⟩
theorem cs_X10_odds_X10_begin : Cs m_X10_odds m_X10_begin 0 := ⟨cw_X10_begin, in_X10_begin, cz_X10_begin, Nat.le_of_ble_eq_true rfl, Nat.le_of_ble_eq_true rfl⟩
theorem cs_X10_odds_X10_isSet : Cs m_X10_odds m_X10_isSet 1 := ⟨cw_X10_isSet, in_X10_isSet, cz_X10_isSet, Nat.le_of_ble_eq_true rfl, Nat.le_of_ble_eq_true rfl⟩
theorem cs_X10_odds_X10_couldBe : Cs m_X10_odds m_X10_couldBe 1 := ⟨cw_X10_couldBe, in_X10_couldBe, cz_X10_couldBe, Nat.le_of_ble_eq_true rfl, Nat.le_of_ble_eq_true rfl⟩
theorem cs_X10_odds_X10_areDays : Cs m_X10_odds m_X10_areDays 1 := ⟨cw_X10_areDays, in_X10_areDays, cz_X10_areDays, Nat.le_of_ble_eq_true rfl, Nat.le_of_ble_eq_true rfl⟩
theorem lk_RX10_360 : Lk RX10 360 (yn m_X10_weigh) := Or.inl (tzc_7 66 (by first | rfl | decide +kernel) rfl)
theorem cz_X10_weigh : (yn m_X10_weigh).cls ≠ "java/lang/invoke/MethodHandle" ∧ (yn m_X10_weigh).cls ≠ "java/lang/invoke/VarHandle" ∧ (parseMethodDescriptor (yn m_X10_weigh).desc).map (fun d => d.parameters.length) = some 1 := ⟨zn_RX10.1, zn_RX10.2, by decide +kernel⟩
theorem cs_X10_odds_X10_weigh : Cs m_X10_odds m_X10_weigh 1 := ⟨cw_X10_weigh, in_X10_weigh, cz_X10_weigh, Nat.le_of_ble_eq_true rfl, Nat.le_of_ble_eq_true rfl⟩
theorem lk_RX10_363 : Lk RX10 363 (yn m_X10_oddsOf) := Or.inl (tzc_7 75 (by first | rfl | decide +kernel) rfl)
theorem cz_X10_oddsOf : (yn m_X10_oddsOf).cls ≠ "java/lang/invoke/MethodHandle" ∧ (yn m_X10_oddsOf).cls ≠ "java/lang/invoke/VarHandle" ∧ (parseMethodDescriptor (yn m_X10_oddsOf).desc).map (fun d => d.parameters.length) = some 1 := ⟨zn_RX10.1, zn_RX10.2, by decide +kernel⟩
theorem cs_X10_odds_X10_oddsOf : Cs m_X10_odds m_X10_oddsOf 1 := ⟨cw_X10_oddsOf, in_X10_oddsOf, cz_X10_oddsOf, Nat.le_of_ble_eq_true rfl, Nat.le_of_ble_eq_true rfl⟩
theorem cs_X10_each_X10_begin : Cs m_X10_each m_X10_begin 0 := ⟨cw_X10_begin, in_X10_begin, cz_X10_begin, Nat.le_of_ble_eq_true rfl, Nat.le_of_ble_eq_true rfl⟩
theorem cs_X10_each_X10_isTrouble : Cs m_X10_each m_X10_isTrouble 1 := ⟨cw_X10_isTrouble, in_X10_isTrouble, cz_X10_isTrouble, Nat.le_of_ble_eq_true rfl, Nat.le_of_ble_eq_true rfl⟩
theorem cs_X10_each_X10_areDays : Cs m_X10_each m_X10_areDays 1 := ⟨cw_X10_areDays, in_X10_areDays, cz_X10_areDays, Nat.le_of_ble_eq_true rfl, Nat.le_of_ble_eq_true rfl⟩
theorem cs_X10_each_X10_weigh : Cs m_X10_each m_X10_weigh 1 := ⟨cw_X10_weigh, in_X10_weigh, cz_X10_weigh, Nat.le_of_ble_eq_true rfl, Nat.le_of_ble_eq_true rfl⟩
theorem cs_X10_each_X10_couldBe : Cs m_X10_each m_X10_couldBe 1 := ⟨cw_X10_couldBe, in_X10_couldBe, cz_X10_couldBe, Nat.le_of_ble_eq_true rfl, Nat.le_of_ble_eq_true rfl⟩
theorem cs_X10_each_X10_has : Cs m_X10_each m_X10_has 2 := ⟨cw_X10_has, in_X10_has, cz_X10_has, Nat.le_of_ble_eq_true rfl, Nat.le_of_ble_eq_true rfl⟩
theorem cs_X10_each_X10_oddsOf : Cs m_X10_each m_X10_oddsOf 1 := ⟨cw_X10_oddsOf, in_X10_oddsOf, cz_X10_oddsOf, Nat.le_of_ble_eq_true rfl, Nat.le_of_ble_eq_true rfl⟩
theorem cs_X10_tellsOf_X10_couldBe : Cs m_X10_tellsOf m_X10_couldBe 1 := ⟨cw_X10_couldBe, in_X10_couldBe, cz_X10_couldBe, Nat.le_of_ble_eq_true rfl, Nat.le_of_ble_eq_true rfl⟩
theorem cs_X10_tells_X10_begin : Cs m_X10_tells m_X10_begin 0 := ⟨cw_X10_begin, in_X10_begin, cz_X10_begin, Nat.le_of_ble_eq_true rfl, Nat.le_of_ble_eq_true rfl⟩
theorem cs_X10_tells_X10_isSign : Cs m_X10_tells m_X10_isSign 1 := ⟨cw_X10_isSign, in_X10_isSign, cz_X10_isSign, Nat.le_of_ble_eq_true rfl, Nat.le_of_ble_eq_true rfl⟩
theorem cs_X10_tells_X10_areDays : Cs m_X10_tells m_X10_areDays 1 := ⟨cw_X10_areDays, in_X10_areDays, cz_X10_areDays, Nat.le_of_ble_eq_true rfl, Nat.le_of_ble_eq_true rfl⟩
theorem cs_X10_tells_X10_weigh : Cs m_X10_tells m_X10_weigh 1 := ⟨cw_X10_weigh, in_X10_weigh, cz_X10_weigh, Nat.le_of_ble_eq_true rfl, Nat.le_of_ble_eq_true rfl⟩
theorem lk_RX10_366 : Lk RX10 366 (yn m_X10_tellsOf) := Or.inl (tzc_7 87 (by first | rfl | decide +kernel) rfl)
theorem cz_X10_tellsOf : (yn m_X10_tellsOf).cls ≠ "java/lang/invoke/MethodHandle" ∧ (yn m_X10_tellsOf).cls ≠ "java/lang/invoke/VarHandle" ∧ (parseMethodDescriptor (yn m_X10_tellsOf).desc).map (fun d => d.parameters.length) = some 1 := ⟨zn_RX10.1, zn_RX10.2, by decide +kernel⟩
theorem cs_X10_tells_X10_tellsOf : Cs m_X10_tells m_X10_tellsOf 1 := ⟨cw_X10_tellsOf, in_X10_tellsOf, cz_X10_tellsOf, Nat.le_of_ble_eq_true rfl, Nat.le_of_ble_eq_true rfl⟩
theorem cs_X10_next_X10_begin : Cs m_X10_next m_X10_begin 0 := ⟨cw_X10_begin, in_X10_begin, cz_X10_begin, Nat.le_of_ble_eq_true rfl, Nat.le_of_ble_eq_true rfl⟩
theorem cs_X10_next_X10_areDays : Cs m_X10_next m_X10_areDays 1 := ⟨cw_X10_areDays, in_X10_areDays, cz_X10_areDays, Nat.le_of_ble_eq_true rfl, Nat.le_of_ble_eq_true rfl⟩
theorem cs_X10_next_X10_weigh : Cs m_X10_next m_X10_weigh 1 := ⟨cw_X10_weigh, in_X10_weigh, cz_X10_weigh, Nat.le_of_ble_eq_true rfl, Nat.le_of_ble_eq_true rfl⟩
theorem cs_X10_next_X10_tellsOf : Cs m_X10_next m_X10_tellsOf 1 := ⟨cw_X10_tellsOf, in_X10_tellsOf, cz_X10_tellsOf, Nat.le_of_ble_eq_true rfl, Nat.le_of_ble_eq_true rfl⟩
theorem cs_X10_makes_X10_begin : Cs m_X10_makes m_X10_begin 0 := ⟨cw_X10_begin, in_X10_begin, cz_X10_begin, Nat.le_of_ble_eq_true rfl, Nat.le_of_ble_eq_true rfl⟩
theorem cs_X10_makes_X10_isSet : Cs m_X10_makes m_X10_isSet 1 := ⟨cw_X10_isSet, in_X10_isSet, cz_X10_isSet, Nat.le_of_ble_eq_true rfl, Nat.le_of_ble_eq_true rfl⟩
theorem cs_X10_makes_X10_in : Cs m_X10_makes m_X10_in 3 := ⟨cw_X10_in, in_X10_in, cz_X10_in, Nat.le_of_ble_eq_true rfl, Nat.le_of_ble_eq_true rfl⟩
theorem cs_X10_makes_X10_tryFresh : Cs m_X10_makes m_X10_tryFresh 1 := ⟨cw_X10_tryFresh, in_X10_tryFresh, cz_X10_tryFresh, Nat.le_of_ble_eq_true rfl, Nat.le_of_ble_eq_true rfl⟩
theorem cs_X10_makes_X10_go : Cs m_X10_makes m_X10_go 2 := ⟨cw_X10_go, in_X10_go, cz_X10_go, Nat.le_of_ble_eq_true rfl, Nat.le_of_ble_eq_true rfl⟩
theorem cs_X10_mending_X10_begin : Cs m_X10_mending m_X10_begin 0 := ⟨cw_X10_begin, in_X10_begin, cz_X10_begin, Nat.le_of_ble_eq_true rfl, Nat.le_of_ble_eq_true rfl⟩
theorem cs_X10_mending_X10_isTrouble : Cs m_X10_mending m_X10_isTrouble 1 := ⟨cw_X10_isTrouble, in_X10_isTrouble, cz_X10_isTrouble, Nat.le_of_ble_eq_true rfl, Nat.le_of_ble_eq_true rfl⟩
theorem cs_X10_mending_X10_in : Cs m_X10_mending m_X10_in 3 := ⟨cw_X10_in, in_X10_in, cz_X10_in, Nat.le_of_ble_eq_true rfl, Nat.le_of_ble_eq_true rfl⟩
theorem cs_X10_price_X10_begin : Cs m_X10_price m_X10_begin 0 := ⟨cw_X10_begin, in_X10_begin, cz_X10_begin, Nat.le_of_ble_eq_true rfl, Nat.le_of_ble_eq_true rfl⟩
theorem cs_X10_price_X10_in : Cs m_X10_price m_X10_in 3 := ⟨cw_X10_in, in_X10_in, cz_X10_in, Nat.le_of_ble_eq_true rfl, Nat.le_of_ble_eq_true rfl⟩
theorem cs_X10_yearOf_X10_findSigns : Cs m_X10_yearOf m_X10_findSigns 2 := ⟨cw_X10_findSigns, in_X10_findSigns, cz_X10_findSigns, Nat.le_of_ble_eq_true rfl, Nat.le_of_ble_eq_true rfl⟩
theorem cs_X10_year_X10_begin : Cs m_X10_year m_X10_begin 0 := ⟨cw_X10_begin, in_X10_begin, cz_X10_begin, Nat.le_of_ble_eq_true rfl, Nat.le_of_ble_eq_true rfl⟩
theorem cs_X10_year_X10_isSet : Cs m_X10_year m_X10_isSet 1 := ⟨cw_X10_isSet, in_X10_isSet, cz_X10_isSet, Nat.le_of_ble_eq_true rfl, Nat.le_of_ble_eq_true rfl⟩
theorem lk_RX10_371 : Lk RX10 371 (yn m_X10_yearOf) := Or.inl (tzc_7 111 (by first | rfl | decide +kernel) rfl)
theorem cz_X10_yearOf : (yn m_X10_yearOf).cls ≠ "java/lang/invoke/MethodHandle" ∧ (yn m_X10_yearOf).cls ≠ "java/lang/invoke/VarHandle" ∧ (parseMethodDescriptor (yn m_X10_yearOf).desc).map (fun d => d.parameters.length) = some 1 := ⟨zn_RX10.1, zn_RX10.2, by decide +kernel⟩
theorem cs_X10_year_X10_yearOf : Cs m_X10_year m_X10_yearOf 1 := ⟨cw_X10_yearOf, in_X10_yearOf, cz_X10_yearOf, Nat.le_of_ble_eq_true rfl, Nat.le_of_ble_eq_true rfl⟩
theorem cs_X10_saves_X10_begin : Cs m_X10_saves m_X10_begin 0 := ⟨cw_X10_begin, in_X10_begin, cz_X10_begin, Nat.le_of_ble_eq_true rfl, Nat.le_of_ble_eq_true rfl⟩
theorem cs_X10_saves_X10_isSet : Cs m_X10_saves m_X10_isSet 1 := ⟨cw_X10_isSet, in_X10_isSet, cz_X10_isSet, Nat.le_of_ble_eq_true rfl, Nat.le_of_ble_eq_true rfl⟩
theorem cs_X10_saves_X10_yearOf : Cs m_X10_saves m_X10_yearOf 1 := ⟨cw_X10_yearOf, in_X10_yearOf, cz_X10_yearOf, Nat.le_of_ble_eq_true rfl, Nat.le_of_ble_eq_true rfl⟩
theorem cs_X10_best_X10_begin : Cs m_X10_best m_X10_begin 0 := ⟨cw_X10_begin, in_X10_begin, cz_X10_begin, Nat.le_of_ble_eq_true rfl, Nat.le_of_ble_eq_true rfl⟩
theorem cs_X10_best_X10_isSet : Cs m_X10_best m_X10_isSet 1 := ⟨cw_X10_isSet, in_X10_isSet, cz_X10_isSet, Nat.le_of_ble_eq_true rfl, Nat.le_of_ble_eq_true rfl⟩
theorem cs_X10_best_X10_in : Cs m_X10_best m_X10_in 3 := ⟨cw_X10_in, in_X10_in, cz_X10_in, Nat.le_of_ble_eq_true rfl, Nat.le_of_ble_eq_true rfl⟩
theorem cs_X10_best_X10_yearOf : Cs m_X10_best m_X10_yearOf 1 := ⟨cw_X10_yearOf, in_X10_yearOf, cz_X10_yearOf, Nat.le_of_ble_eq_true rfl, Nat.le_of_ble_eq_true rfl⟩
theorem cs_X10_best_X10_has : Cs m_X10_best m_X10_has 2 := ⟨cw_X10_has, in_X10_has, cz_X10_has, Nat.le_of_ble_eq_true rfl, Nat.le_of_ble_eq_true rfl⟩
theorem cs_X10_pays_X10_begin : Cs m_X10_pays m_X10_begin 0 := ⟨cw_X10_begin, in_X10_begin, cz_X10_begin, Nat.le_of_ble_eq_true rfl, Nat.le_of_ble_eq_true rfl⟩
theorem cs_X10_pays_X10_isSet : Cs m_X10_pays m_X10_isSet 1 := ⟨cw_X10_isSet, in_X10_isSet, cz_X10_isSet, Nat.le_of_ble_eq_true rfl, Nat.le_of_ble_eq_true rfl⟩
theorem cs_X10_pays_X10_in : Cs m_X10_pays m_X10_in 3 := ⟨cw_X10_in, in_X10_in, cz_X10_in, Nat.le_of_ble_eq_true rfl, Nat.le_of_ble_eq_true rfl⟩
theorem cs_X10_pays_X10_yearOf : Cs m_X10_pays m_X10_yearOf 1 := ⟨cw_X10_yearOf, in_X10_yearOf, cz_X10_yearOf, Nat.le_of_ble_eq_true rfl, Nat.le_of_ble_eq_true rfl⟩
theorem cs_X10_iceOf_X10_tryFresh : Cs m_X10_iceOf m_X10_tryFresh 1 := ⟨cw_X10_tryFresh, in_X10_tryFresh, cz_X10_tryFresh, Nat.le_of_ble_eq_true rfl, Nat.le_of_ble_eq_true rfl⟩
theorem cs_X10_iceOf_X10_melt : Cs m_X10_iceOf m_X10_melt 1 := ⟨cw_X10_melt, in_X10_melt, cz_X10_melt, Nat.le_of_ble_eq_true rfl, Nat.le_of_ble_eq_true rfl⟩
theorem cs_X10_iceOf_X10_go : Cs m_X10_iceOf m_X10_go 2 := ⟨cw_X10_go, in_X10_go, cz_X10_go, Nat.le_of_ble_eq_true rfl, Nat.le_of_ble_eq_true rfl⟩
theorem cs_X10_ice_X10_begin : Cs m_X10_ice m_X10_begin 0 := ⟨cw_X10_begin, in_X10_begin, cz_X10_begin, Nat.le_of_ble_eq_true rfl, Nat.le_of_ble_eq_true rfl⟩
theorem cs_X10_ice_X10_isSet : Cs m_X10_ice m_X10_isSet 1 := ⟨cw_X10_isSet, in_X10_isSet, cz_X10_isSet, Nat.le_of_ble_eq_true rfl, Nat.le_of_ble_eq_true rfl⟩
theorem cs_X10_ice_X10_in : Cs m_X10_ice m_X10_in 3 := ⟨cw_X10_in, in_X10_in, cz_X10_in, Nat.le_of_ble_eq_true rfl, Nat.le_of_ble_eq_true rfl⟩
theorem lk_RX10_375 : Lk RX10 375 (yn m_X10_iceOf) := Or.inl (tzc_7 133 (by first | rfl | decide +kernel) rfl)
theorem cz_X10_iceOf : (yn m_X10_iceOf).cls ≠ "java/lang/invoke/MethodHandle" ∧ (yn m_X10_iceOf).cls ≠ "java/lang/invoke/VarHandle" ∧ (parseMethodDescriptor (yn m_X10_iceOf).desc).map (fun d => d.parameters.length) = some 4 := ⟨zn_RX10.1, zn_RX10.2, by decide +kernel⟩
theorem cs_X10_ice_X10_iceOf : Cs m_X10_ice m_X10_iceOf 4 := ⟨cw_X10_iceOf, in_X10_iceOf, cz_X10_iceOf, Nat.le_of_ble_eq_true rfl, Nat.le_of_ble_eq_true rfl⟩
theorem cs_X10_within_X10_isOpen : Cs m_X10_within m_X10_isOpen 1 := ⟨cw_X10_isOpen, in_X10_isOpen, cz_X10_isOpen, Nat.le_of_ble_eq_true rfl, Nat.le_of_ble_eq_true rfl⟩
theorem cs_X10_within_X10_tick : Cs m_X10_within m_X10_tick 4 := ⟨cw_X10_tick, in_X10_tick, cz_X10_tick, Nat.le_of_ble_eq_true rfl, Nat.le_of_ble_eq_true rfl⟩
theorem cs_X10_within_X10_isWithin : Cs m_X10_within m_X10_isWithin 2 := ⟨cw_X10_isWithin, in_X10_isWithin, cz_X10_isWithin, Nat.le_of_ble_eq_true rfl, Nat.le_of_ble_eq_true rfl⟩
theorem cs_X10_within_X10_one : Cs m_X10_within m_X10_one 1 := ⟨cw_X10_one, in_X10_one, cz_X10_one, Nat.le_of_ble_eq_true rfl, Nat.le_of_ble_eq_true rfl⟩
theorem lk_RX10_379 : Lk RX10 379 (yn m_X10_powerOf3) := Or.inl (tzc_7 141 (by first | rfl | decide +kernel) rfl)
theorem cz_X10_powerOf3 : (yn m_X10_powerOf3).cls ≠ "java/lang/invoke/MethodHandle" ∧ (yn m_X10_powerOf3).cls ≠ "java/lang/invoke/VarHandle" ∧ (parseMethodDescriptor (yn m_X10_powerOf3).desc).map (fun d => d.parameters.length) = some 1 := ⟨zn_RX10.1, zn_RX10.2, by decide +kernel⟩
theorem cs_X10_rowAt_X10_powerOf3 : Cs m_X10_rowAt m_X10_powerOf3 1 := ⟨cw_X10_powerOf3, in_X10_powerOf3, cz_X10_powerOf3, Nat.le_of_ble_eq_true rfl, Nat.le_of_ble_eq_true rfl⟩
theorem cs_X10_lying_X10_begin : Cs m_X10_lying m_X10_begin 0 := ⟨cw_X10_begin, in_X10_begin, cz_X10_begin, Nat.le_of_ble_eq_true rfl, Nat.le_of_ble_eq_true rfl⟩
theorem cs_X10_lying_X10_isFood : Cs m_X10_lying m_X10_isFood 1 := ⟨cw_X10_isFood, in_X10_isFood, cz_X10_isFood, Nat.le_of_ble_eq_true rfl, Nat.le_of_ble_eq_true rfl⟩
theorem cs_X10_lying_X10_foods : Cs m_X10_lying m_X10_foods 0 := ⟨cw_X10_foods, in_X10_foods, cz_X10_foods, Nat.le_of_ble_eq_true rfl, Nat.le_of_ble_eq_true rfl⟩
theorem cs_X10_lying_X10_powerOf3 : Cs m_X10_lying m_X10_powerOf3 1 := ⟨cw_X10_powerOf3, in_X10_powerOf3, cz_X10_powerOf3, Nat.le_of_ble_eq_true rfl, Nat.le_of_ble_eq_true rfl⟩
theorem lk_RX10_382 : Lk RX10 382 (yn m_X10_copy) := Or.inl (tzc_7 144 (by first | rfl | decide +kernel) rfl)
theorem cz_X10_copy : (yn m_X10_copy).cls ≠ "java/lang/invoke/MethodHandle" ∧ (yn m_X10_copy).cls ≠ "java/lang/invoke/VarHandle" ∧ (parseMethodDescriptor (yn m_X10_copy).desc).map (fun d => d.parameters.length) = some 2 := ⟨zn_RX10.1, zn_RX10.2, by decide +kernel⟩
theorem cs_X10_lying_X10_copy : Cs m_X10_lying m_X10_copy 2 := ⟨cw_X10_copy, in_X10_copy, cz_X10_copy, Nat.le_of_ble_eq_true rfl, Nat.le_of_ble_eq_true rfl⟩
theorem lk_RX10_385 : Lk RX10 385 (yn m_X10_placeOf) := Or.inl (tzc_7 148 (by first | rfl | decide +kernel) rfl)
theorem cz_X10_placeOf : (yn m_X10_placeOf).cls ≠ "java/lang/invoke/MethodHandle" ∧ (yn m_X10_placeOf).cls ≠ "java/lang/invoke/VarHandle" ∧ (parseMethodDescriptor (yn m_X10_placeOf).desc).map (fun d => d.parameters.length) = some 1 := ⟨zn_RX10.1, zn_RX10.2, by decide +kernel⟩
theorem cs_X10_lying_X10_placeOf : Cs m_X10_lying m_X10_placeOf 1 := ⟨cw_X10_placeOf, in_X10_placeOf, cz_X10_placeOf, Nat.le_of_ble_eq_true rfl, Nat.le_of_ble_eq_true rfl⟩
theorem lk_RX10_388 : Lk RX10 388 (yn m_X10_rowAt) := Or.inl (tzc_7 152 (by first | rfl | decide +kernel) rfl)
theorem cz_X10_rowAt : (yn m_X10_rowAt).cls ≠ "java/lang/invoke/MethodHandle" ∧ (yn m_X10_rowAt).cls ≠ "java/lang/invoke/VarHandle" ∧ (parseMethodDescriptor (yn m_X10_rowAt).desc).map (fun d => d.parameters.length) = some 3 := ⟨zn_RX10.1, zn_RX10.2, by decide +kernel⟩
theorem cs_X10_lying_X10_rowAt : Cs m_X10_lying m_X10_rowAt 3 := ⟨cw_X10_rowAt, in_X10_rowAt, cz_X10_rowAt, Nat.le_of_ble_eq_true rfl, Nat.le_of_ble_eq_true rfl⟩
theorem lk_RX10_392 : Lk RX10 392 (yn m_X10_within) := Or.inl (tzc_7 155 (by first | rfl | decide +kernel) rfl)
theorem cz_X10_within : (yn m_X10_within).cls ≠ "java/lang/invoke/MethodHandle" ∧ (yn m_X10_within).cls ≠ "java/lang/invoke/VarHandle" ∧ (parseMethodDescriptor (yn m_X10_within).desc).map (fun d => d.parameters.length) = some 1 := ⟨zn_RX10.1, zn_RX10.2, by decide +kernel⟩
theorem cs_X10_lying_X10_within : Cs m_X10_lying m_X10_within 1 := ⟨cw_X10_within, in_X10_within, cz_X10_within, Nat.le_of_ble_eq_true rfl, Nat.le_of_ble_eq_true rfl⟩
theorem cs_X10_bulb_X10_begin : Cs m_X10_bulb m_X10_begin 0 := ⟨cw_X10_begin, in_X10_begin, cz_X10_begin, Nat.le_of_ble_eq_true rfl, Nat.le_of_ble_eq_true rfl⟩
theorem cs_X10_bulb_X10_in : Cs m_X10_bulb m_X10_in 3 := ⟨cw_X10_in, in_X10_in, cz_X10_in, Nat.le_of_ble_eq_true rfl, Nat.le_of_ble_eq_true rfl⟩
theorem cs_X10_bulb_X10_copy : Cs m_X10_bulb m_X10_copy 2 := ⟨cw_X10_copy, in_X10_copy, cz_X10_copy, Nat.le_of_ble_eq_true rfl, Nat.le_of_ble_eq_true rfl⟩
theorem cs_X10_bulb_X10_within : Cs m_X10_bulb m_X10_within 1 := ⟨cw_X10_within, in_X10_within, cz_X10_within, Nat.le_of_ble_eq_true rfl, Nat.le_of_ble_eq_true rfl⟩
theorem cs_X10_without_X10_begin : Cs m_X10_without m_X10_begin 0 := ⟨cw_X10_begin, in_X10_begin, cz_X10_begin, Nat.le_of_ble_eq_true rfl, Nat.le_of_ble_eq_true rfl⟩
theorem cs_X10_without_X10_isFood : Cs m_X10_without m_X10_isFood 1 := ⟨cw_X10_isFood, in_X10_isFood, cz_X10_isFood, Nat.le_of_ble_eq_true rfl, Nat.le_of_ble_eq_true rfl⟩
theorem cs_X10_without_X10_copy : Cs m_X10_without m_X10_copy 2 := ⟨cw_X10_copy, in_X10_copy, cz_X10_copy, Nat.le_of_ble_eq_true rfl, Nat.le_of_ble_eq_true rfl⟩
theorem cs_X10_without_X10_go : Cs m_X10_without m_X10_go 2 := ⟨cw_X10_go, in_X10_go, cz_X10_go, Nat.le_of_ble_eq_true rfl, Nat.le_of_ble_eq_true rfl⟩
theorem cs_X10_without_X10_isWithin : Cs m_X10_without m_X10_isWithin 2 := ⟨cw_X10_isWithin, in_X10_isWithin, cz_X10_isWithin, Nat.le_of_ble_eq_true rfl, Nat.le_of_ble_eq_true rfl⟩
theorem cs_X10_cheap_X10_begin : Cs m_X10_cheap m_X10_begin 0 := ⟨cw_X10_begin, in_X10_begin, cz_X10_begin, Nat.le_of_ble_eq_true rfl, Nat.le_of_ble_eq_true rfl⟩
theorem cs_X10_cheap_X10_in : Cs m_X10_cheap m_X10_in 3 := ⟨cw_X10_in, in_X10_in, cz_X10_in, Nat.le_of_ble_eq_true rfl, Nat.le_of_ble_eq_true rfl⟩
theorem cs_X10_paid_X10_copy : Cs m_X10_paid m_X10_copy 2 := ⟨cw_X10_copy, in_X10_copy, cz_X10_copy, Nat.le_of_ble_eq_true rfl, Nat.le_of_ble_eq_true rfl⟩
theorem cs_X10_paid_X10_isHour : Cs m_X10_paid m_X10_isHour 3 := ⟨cw_X10_isHour, in_X10_isHour, cz_X10_isHour, Nat.le_of_ble_eq_true rfl, Nat.le_of_ble_eq_true rfl⟩
theorem cs_X10_paid_X10_isOpen : Cs m_X10_paid m_X10_isOpen 1 := ⟨cw_X10_isOpen, in_X10_isOpen, cz_X10_isOpen, Nat.le_of_ble_eq_true rfl, Nat.le_of_ble_eq_true rfl⟩
theorem cs_X10_paid_X10_tick : Cs m_X10_paid m_X10_tick 4 := ⟨cw_X10_tick, in_X10_tick, cz_X10_tick, Nat.le_of_ble_eq_true rfl, Nat.le_of_ble_eq_true rfl⟩
theorem cs_X10_paid_X10_isWithin : Cs m_X10_paid m_X10_isWithin 2 := ⟨cw_X10_isWithin, in_X10_isWithin, cz_X10_isWithin, Nat.le_of_ble_eq_true rfl, Nat.le_of_ble_eq_true rfl⟩
theorem cs_X10_store_X10_begin : Cs m_X10_store m_X10_begin 0 := ⟨cw_X10_begin, in_X10_begin, cz_X10_begin, Nat.le_of_ble_eq_true rfl, Nat.le_of_ble_eq_true rfl⟩
theorem cs_X10_store_X10_areDays : Cs m_X10_store m_X10_areDays 1 := ⟨cw_X10_areDays, in_X10_areDays, cz_X10_areDays, Nat.le_of_ble_eq_true rfl, Nat.le_of_ble_eq_true rfl⟩
theorem cs_X10_store_X10_in : Cs m_X10_store m_X10_in 3 := ⟨cw_X10_in, in_X10_in, cz_X10_in, Nat.le_of_ble_eq_true rfl, Nat.le_of_ble_eq_true rfl⟩
theorem lk_RX10_405 : Lk RX10 405 (yn m_X10_paid) := Or.inl (tzc_7 177 (by first | rfl | decide +kernel) rfl)
theorem cz_X10_paid : (yn m_X10_paid).cls ≠ "java/lang/invoke/MethodHandle" ∧ (yn m_X10_paid).cls ≠ "java/lang/invoke/VarHandle" ∧ (parseMethodDescriptor (yn m_X10_paid).desc).map (fun d => d.parameters.length) = some 2 := ⟨zn_RX10.1, zn_RX10.2, by decide +kernel⟩
theorem cs_X10_store_X10_paid : Cs m_X10_store m_X10_paid 2 := ⟨cw_X10_paid, in_X10_paid, cz_X10_paid, Nat.le_of_ble_eq_true rfl, Nat.le_of_ble_eq_true rfl⟩
theorem cs_X10_seed_X10_begin : Cs m_X10_seed m_X10_begin 0 := ⟨cw_X10_begin, in_X10_begin, cz_X10_begin, Nat.le_of_ble_eq_true rfl, Nat.le_of_ble_eq_true rfl⟩
theorem cs_X10_keep_X10_begin : Cs m_X10_keep m_X10_begin 0 := ⟨cw_X10_begin, in_X10_begin, cz_X10_begin, Nat.le_of_ble_eq_true rfl, Nat.le_of_ble_eq_true rfl⟩
theorem cs_X10_keep_X10_in : Cs m_X10_keep m_X10_in 3 := ⟨cw_X10_in, in_X10_in, cz_X10_in, Nat.le_of_ble_eq_true rfl, Nat.le_of_ble_eq_true rfl⟩
theorem cs_X10_keep_X10_copy : Cs m_X10_keep m_X10_copy 2 := ⟨cw_X10_copy, in_X10_copy, cz_X10_copy, Nat.le_of_ble_eq_true rfl, Nat.le_of_ble_eq_true rfl⟩
theorem cs_X10_goBack_X10_begin : Cs m_X10_goBack m_X10_begin 0 := ⟨cw_X10_begin, in_X10_begin, cz_X10_begin, Nat.le_of_ble_eq_true rfl, Nat.le_of_ble_eq_true rfl⟩
theorem cs_X10_goBack_X10_in : Cs m_X10_goBack m_X10_in 3 := ⟨cw_X10_in, in_X10_in, cz_X10_in, Nat.le_of_ble_eq_true rfl, Nat.le_of_ble_eq_true rfl⟩
theorem cs_X10_goBack_X10_copy : Cs m_X10_goBack m_X10_copy 2 := ⟨cw_X10_copy, in_X10_copy, cz_X10_copy, Nat.le_of_ble_eq_true rfl, Nat.le_of_ble_eq_true rfl⟩
theorem lk_RJ0_335 : Lk RJ0 335 (yn m_J0_coder_7d493) := Or.inl (tzc_2 220 (by first | rfl | decide +kernel) rfl)
theorem cz_J0_coder_7d493 : (yn m_J0_coder_7d493).cls ≠ "java/lang/invoke/MethodHandle" ∧ (yn m_J0_coder_7d493).cls ≠ "java/lang/invoke/VarHandle" ∧ (parseMethodDescriptor (yn m_J0_coder_7d493).desc).map (fun d => d.parameters.length) = some 0 := ⟨zn_RJ0.1, zn_RJ0.2, by decide +kernel⟩
theorem cs_J0_length_8abf5_J0_coder_7d493 : Cs m_J0_length_8abf5 m_J0_coder_7d493 0 := ⟨cw_J0_coder_7d493, in_J0_coder_7d493, cz_J0_coder_7d493, Nat.le_of_ble_eq_true rfl, Nat.le_of_ble_eq_true rfl⟩
theorem lk_RJ0_492 : Lk RJ0 492 (yn m_J0_isLatin1_aae02) := Or.inl (tzc_2 230 (by first | rfl | decide +kernel) rfl)
theorem cz_J0_isLatin1_aae02 : (yn m_J0_isLatin1_aae02).cls ≠ "java/lang/invoke/MethodHandle" ∧ (yn m_J0_isLatin1_aae02).cls ≠ "java/lang/invoke/VarHandle" ∧ (parseMethodDescriptor (yn m_J0_isLatin1_aae02).desc).map (fun d => d.parameters.length) = some 0 := ⟨zn_RJ0.1, zn_RJ0.2, by decide +kernel⟩
theorem cs_J0_charAt_5068e_J0_isLatin1_aae02 : Cs m_J0_charAt_5068e m_J0_isLatin1_aae02 0 := ⟨cw_J0_isLatin1_aae02, in_J0_isLatin1_aae02, cz_J0_isLatin1_aae02, Nat.le_of_ble_eq_true rfl, Nat.le_of_ble_eq_true rfl⟩
theorem lk_RJ0_495 : Lk RJ0 495 (yn m_J1_charAt_3b067) := Or.inl (tzc_2 234 (by first | rfl | decide +kernel) rfl)
theorem zn_RJ1 : RJ1 ≠ "java/lang/invoke/MethodHandle" ∧ RJ1 ≠ "java/lang/invoke/VarHandle" := by decide +kernel
theorem cz_J1_charAt_3b067 : (yn m_J1_charAt_3b067).cls ≠ "java/lang/invoke/MethodHandle" ∧ (yn m_J1_charAt_3b067).cls ≠ "java/lang/invoke/VarHandle" ∧ (parseMethodDescriptor (yn m_J1_charAt_3b067).desc).map (fun d => d.parameters.length) = some 2 := ⟨zn_RJ1.1, zn_RJ1.2, by decide +kernel⟩
theorem cs_J0_charAt_5068e_J1_charAt_3b067 : Cs m_J0_charAt_5068e m_J1_charAt_3b067 2 := ⟨cw_J1_charAt_3b067, in_J1_charAt_3b067, cz_J1_charAt_3b067, Nat.le_of_ble_eq_true rfl, Nat.le_of_ble_eq_true rfl⟩
theorem lk_RJ0_1059 : Lk RJ0 1059 (yn m_J3_checkIndex_8e157) := Or.inl (tzc_3 2 (by first | rfl | decide +kernel) rfl)
theorem zn_RJ3 : RJ3 ≠ "java/lang/invoke/MethodHandle" ∧ RJ3 ≠ "java/lang/invoke/VarHandle" := by decide +kernel
theorem cz_J3_checkIndex_8e157 : (yn m_J3_checkIndex_8e157).cls ≠ "java/lang/invoke/MethodHandle" ∧ (yn m_J3_checkIndex_8e157).cls ≠ "java/lang/invoke/VarHandle" ∧ (parseMethodDescriptor (yn m_J3_checkIndex_8e157).desc).map (fun d => d.parameters.length) = some 3 := ⟨zn_RJ3.1, zn_RJ3.2, by decide +kernel⟩
theorem cs_J0_checkIndex_df160_J3_checkIndex_8e157 : Cs m_J0_checkIndex_df160 m_J3_checkIndex_8e157 3 := ⟨cw_J3_checkIndex_8e157, in_J3_checkIndex_8e157, cz_J3_checkIndex_8e157, Nat.le_of_ble_eq_true rfl, Nat.le_of_ble_eq_true rfl⟩
theorem lk_RJ1_9 : Lk RJ1 9 (yn m_J0_checkIndex_df160) := Or.inl (tzc_2 237 (by first | rfl | decide +kernel) rfl)
theorem cz_J0_checkIndex_df160 : (yn m_J0_checkIndex_df160).cls ≠ "java/lang/invoke/MethodHandle" ∧ (yn m_J0_checkIndex_df160).cls ≠ "java/lang/invoke/VarHandle" ∧ (parseMethodDescriptor (yn m_J0_checkIndex_df160).desc).map (fun d => d.parameters.length) = some 2 := ⟨zn_RJ0.1, zn_RJ0.2, by decide +kernel⟩
theorem cs_J1_charAt_3b067_J0_checkIndex_df160 : Cs m_J1_charAt_3b067 m_J0_checkIndex_df160 2 := ⟨cw_J0_checkIndex_df160, in_J0_checkIndex_df160, cz_J0_checkIndex_df160, Nat.le_of_ble_eq_true rfl, Nat.le_of_ble_eq_true rfl⟩
theorem lk_RL_9 : Lk RL 9 (yn m_X9_init) := Or.inl (tzc_1 22 (by first | rfl | decide +kernel) rfl)
theorem cz_X9_init : (yn m_X9_init).cls ≠ "java/lang/invoke/MethodHandle" ∧ (yn m_X9_init).cls ≠ "java/lang/invoke/VarHandle" ∧ (parseMethodDescriptor (yn m_X9_init).desc).map (fun d => d.parameters.length) = some 0 := ⟨zn_RX9.1, zn_RX9.2, by decide +kernel⟩
theorem cs_L_law_X9_init : Cs m_L_law m_X9_init 0 := ⟨cw_X9_init, in_X9_init, cz_X9_init, Nat.le_of_ble_eq_true rfl, Nat.le_of_ble_eq_true rfl⟩
theorem lk_RL_12 : Lk RL 12 (yn m_X10_init) := Or.inl (tzc_5 124 (by first | rfl | decide +kernel) rfl)
theorem cz_X10_init : (yn m_X10_init).cls ≠ "java/lang/invoke/MethodHandle" ∧ (yn m_X10_init).cls ≠ "java/lang/invoke/VarHandle" ∧ (parseMethodDescriptor (yn m_X10_init).desc).map (fun d => d.parameters.length) = some 0 := ⟨zn_RX10.1, zn_RX10.2, by decide +kernel⟩
theorem cs_L_law_X10_init : Cs m_L_law m_X10_init 0 := ⟨cw_X10_init, in_X10_init, cz_X10_init, Nat.le_of_ble_eq_true rfl, Nat.le_of_ble_eq_true rfl⟩
theorem lk_RL_15 : Lk RL 15 (yn m_X9_feed) := Or.inl (tzc_2 152 (by first | rfl | decide +kernel) rfl)
theorem cz_X9_feed : (yn m_X9_feed).cls ≠ "java/lang/invoke/MethodHandle" ∧ (yn m_X9_feed).cls ≠ "java/lang/invoke/VarHandle" ∧ (parseMethodDescriptor (yn m_X9_feed).desc).map (fun d => d.parameters.length) = some 2 := ⟨zn_RX9.1, zn_RX9.2, by decide +kernel⟩
theorem cs_L_law_X9_feed : Cs m_L_law m_X9_feed 2 := ⟨cw_X9_feed, in_X9_feed, cz_X9_feed, Nat.le_of_ble_eq_true rfl, Nat.le_of_ble_eq_true rfl⟩
theorem lk_RL_19 : Lk RL 19 (yn m_X10_feed) := Or.inl (tzc_5 231 (by first | rfl | decide +kernel) rfl)
theorem cz_X10_feed : (yn m_X10_feed).cls ≠ "java/lang/invoke/MethodHandle" ∧ (yn m_X10_feed).cls ≠ "java/lang/invoke/VarHandle" ∧ (parseMethodDescriptor (yn m_X10_feed).desc).map (fun d => d.parameters.length) = some 2 := ⟨zn_RX10.1, zn_RX10.2, by decide +kernel⟩
theorem cs_L_law_X10_feed : Cs m_L_law m_X10_feed 2 := ⟨cw_X10_feed, in_X10_feed, cz_X10_feed, Nat.le_of_ble_eq_true rfl, Nat.le_of_ble_eq_true rfl⟩
theorem lk_RL_20 : Lk RL 20 (yn m_X9_box) := Or.inl (tzc_2 163 (by first | rfl | decide +kernel) rfl)
theorem cz_X9_box : (yn m_X9_box).cls ≠ "java/lang/invoke/MethodHandle" ∧ (yn m_X9_box).cls ≠ "java/lang/invoke/VarHandle" ∧ (parseMethodDescriptor (yn m_X9_box).desc).map (fun d => d.parameters.length) = some 0 := ⟨zn_RX9.1, zn_RX9.2, by decide +kernel⟩
theorem cs_L_law_X9_box : Cs m_L_law m_X9_box 0 := ⟨cw_X9_box, in_X9_box, cz_X9_box, Nat.le_of_ble_eq_true rfl, Nat.le_of_ble_eq_true rfl⟩
theorem lk_RL_24 : Lk RL 24 (yn m_X10_box) := Or.inl (tzc_6 2 (by first | rfl | decide +kernel) rfl)
theorem cz_X10_box : (yn m_X10_box).cls ≠ "java/lang/invoke/MethodHandle" ∧ (yn m_X10_box).cls ≠ "java/lang/invoke/VarHandle" ∧ (parseMethodDescriptor (yn m_X10_box).desc).map (fun d => d.parameters.length) = some 0 := ⟨zn_RX10.1, zn_RX10.2, by decide +kernel⟩
theorem cs_L_law_X10_box : Cs m_L_law m_X10_box 0 := ⟨cw_X10_box, in_X10_box, cz_X10_box, Nat.le_of_ble_eq_true rfl, Nat.le_of_ble_eq_true rfl⟩
theorem lk_RL_25 : Lk RL 25 (yn m_X9_day) := Or.inl (tzc_3 57 (by first | rfl | decide +kernel) rfl)
theorem cz_X9_day : (yn m_X9_day).cls ≠ "java/lang/invoke/MethodHandle" ∧ (yn m_X9_day).cls ≠ "java/lang/invoke/VarHandle" ∧ (parseMethodDescriptor (yn m_X9_day).desc).map (fun d => d.parameters.length) = some 0 := ⟨zn_RX9.1, zn_RX9.2, by decide +kernel⟩
theorem cs_L_law_X9_day : Cs m_L_law m_X9_day 0 := ⟨cw_X9_day, in_X9_day, cz_X9_day, Nat.le_of_ble_eq_true rfl, Nat.le_of_ble_eq_true rfl⟩
theorem lk_RL_28 : Lk RL 28 (yn m_X10_day) := Or.inl (tzc_6 71 (by first | rfl | decide +kernel) rfl)
theorem cz_X10_day : (yn m_X10_day).cls ≠ "java/lang/invoke/MethodHandle" ∧ (yn m_X10_day).cls ≠ "java/lang/invoke/VarHandle" ∧ (parseMethodDescriptor (yn m_X10_day).desc).map (fun d => d.parameters.length) = some 0 := ⟨zn_RX10.1, zn_RX10.2, by decide +kernel⟩
theorem cs_L_law_X10_day : Cs m_L_law m_X10_day 0 := ⟨cw_X10_day, in_X10_day, cz_X10_day, Nat.le_of_ble_eq_true rfl, Nat.le_of_ble_eq_true rfl⟩
theorem lk_RL_29 : Lk RL 29 (yn m_X9_fault) := Or.inl (tzc_3 77 (by first | rfl | decide +kernel) rfl)
theorem cz_X9_fault : (yn m_X9_fault).cls ≠ "java/lang/invoke/MethodHandle" ∧ (yn m_X9_fault).cls ≠ "java/lang/invoke/VarHandle" ∧ (parseMethodDescriptor (yn m_X9_fault).desc).map (fun d => d.parameters.length) = some 0 := ⟨zn_RX9.1, zn_RX9.2, by decide +kernel⟩
theorem cs_L_law_X9_fault : Cs m_L_law m_X9_fault 0 := ⟨cw_X9_fault, in_X9_fault, cz_X9_fault, Nat.le_of_ble_eq_true rfl, Nat.le_of_ble_eq_true rfl⟩
theorem lk_RL_32 : Lk RL 32 (yn m_X10_fault) := Or.inl (tzc_6 75 (by first | rfl | decide +kernel) rfl)
theorem cz_X10_fault : (yn m_X10_fault).cls ≠ "java/lang/invoke/MethodHandle" ∧ (yn m_X10_fault).cls ≠ "java/lang/invoke/VarHandle" ∧ (parseMethodDescriptor (yn m_X10_fault).desc).map (fun d => d.parameters.length) = some 0 := ⟨zn_RX10.1, zn_RX10.2, by decide +kernel⟩
theorem cs_L_law_X10_fault : Cs m_L_law m_X10_fault 0 := ⟨cw_X10_fault, in_X10_fault, cz_X10_fault, Nat.le_of_ble_eq_true rfl, Nat.le_of_ble_eq_true rfl⟩
theorem lk_RL_33 : Lk RL 33 (yn m_X9_told) := Or.inl (tzc_3 81 (by first | rfl | decide +kernel) rfl)
theorem cz_X9_told : (yn m_X9_told).cls ≠ "java/lang/invoke/MethodHandle" ∧ (yn m_X9_told).cls ≠ "java/lang/invoke/VarHandle" ∧ (parseMethodDescriptor (yn m_X9_told).desc).map (fun d => d.parameters.length) = some 1 := ⟨zn_RX9.1, zn_RX9.2, by decide +kernel⟩
theorem cs_L_law_X9_told : Cs m_L_law m_X9_told 1 := ⟨cw_X9_told, in_X9_told, cz_X9_told, Nat.le_of_ble_eq_true rfl, Nat.le_of_ble_eq_true rfl⟩
theorem lk_RL_37 : Lk RL 37 (yn m_X10_told) := Or.inl (tzc_6 79 (by first | rfl | decide +kernel) rfl)
theorem cz_X10_told : (yn m_X10_told).cls ≠ "java/lang/invoke/MethodHandle" ∧ (yn m_X10_told).cls ≠ "java/lang/invoke/VarHandle" ∧ (parseMethodDescriptor (yn m_X10_told).desc).map (fun d => d.parameters.length) = some 1 := ⟨zn_RX10.1, zn_RX10.2, by decide +kernel⟩
theorem cs_L_law_X10_told : Cs m_L_law m_X10_told 1 := ⟨cw_X10_told, in_X10_told, cz_X10_told, Nat.le_of_ble_eq_true rfl, Nat.le_of_ble_eq_true rfl⟩
theorem lk_RL_38 : Lk RL 38 (yn m_X9_opening) := Or.inl (tzc_3 85 (by first | rfl | decide +kernel) rfl)
theorem cz_X9_opening : (yn m_X9_opening).cls ≠ "java/lang/invoke/MethodHandle" ∧ (yn m_X9_opening).cls ≠ "java/lang/invoke/VarHandle" ∧ (parseMethodDescriptor (yn m_X9_opening).desc).map (fun d => d.parameters.length) = some 2 := ⟨zn_RX9.1, zn_RX9.2, by decide +kernel⟩
theorem cs_L_law_X9_opening : Cs m_L_law m_X9_opening 2 := ⟨cw_X9_opening, in_X9_opening, cz_X9_opening, Nat.le_of_ble_eq_true rfl, Nat.le_of_ble_eq_true rfl⟩
theorem lk_RL_42 : Lk RL 42 (yn m_X10_opening) := Or.inl (tzc_6 84 (by first | rfl | decide +kernel) rfl)
theorem cz_X10_opening : (yn m_X10_opening).cls ≠ "java/lang/invoke/MethodHandle" ∧ (yn m_X10_opening).cls ≠ "java/lang/invoke/VarHandle" ∧ (parseMethodDescriptor (yn m_X10_opening).desc).map (fun d => d.parameters.length) = some 2 := ⟨zn_RX10.1, zn_RX10.2, by decide +kernel⟩
theorem cs_L_law_X10_opening : Cs m_L_law m_X10_opening 2 := ⟨cw_X10_opening, in_X10_opening, cz_X10_opening, Nat.le_of_ble_eq_true rfl, Nat.le_of_ble_eq_true rfl⟩
theorem lk_RL_43 : Lk RL 43 (yn m_X9_trouble) := Or.inl (tzc_3 89 (by first | rfl | decide +kernel) rfl)
theorem cz_X9_trouble : (yn m_X9_trouble).cls ≠ "java/lang/invoke/MethodHandle" ∧ (yn m_X9_trouble).cls ≠ "java/lang/invoke/VarHandle" ∧ (parseMethodDescriptor (yn m_X9_trouble).desc).map (fun d => d.parameters.length) = some 1 := ⟨zn_RX9.1, zn_RX9.2, by decide +kernel⟩
theorem cs_L_law_X9_trouble : Cs m_L_law m_X9_trouble 1 := ⟨cw_X9_trouble, in_X9_trouble, cz_X9_trouble, Nat.le_of_ble_eq_true rfl, Nat.le_of_ble_eq_true rfl⟩
theorem lk_RL_46 : Lk RL 46 (yn m_X10_trouble) := Or.inl (tzc_6 88 (by first | rfl | decide +kernel) rfl)
theorem cz_X10_trouble : (yn m_X10_trouble).cls ≠ "java/lang/invoke/MethodHandle" ∧ (yn m_X10_trouble).cls ≠ "java/lang/invoke/VarHandle" ∧ (parseMethodDescriptor (yn m_X10_trouble).desc).map (fun d => d.parameters.length) = some 1 := ⟨zn_RX10.1, zn_RX10.2, by decide +kernel⟩
theorem cs_L_law_X10_trouble : Cs m_L_law m_X10_trouble 1 := ⟨cw_X10_trouble, in_X10_trouble, cz_X10_trouble, Nat.le_of_ble_eq_true rfl, Nat.le_of_ble_eq_true rfl⟩
theorem lk_RL_47 : Lk RL 47 (yn m_X9_fresh) := Or.inl (tzc_3 98 (by first | rfl | decide +kernel) rfl)
theorem cz_X9_fresh : (yn m_X9_fresh).cls ≠ "java/lang/invoke/MethodHandle" ∧ (yn m_X9_fresh).cls ≠ "java/lang/invoke/VarHandle" ∧ (parseMethodDescriptor (yn m_X9_fresh).desc).map (fun d => d.parameters.length) = some 0 := ⟨zn_RX9.1, zn_RX9.2, by decide +kernel⟩
theorem cs_L_law_X9_fresh : Cs m_L_law m_X9_fresh 0 := ⟨cw_X9_fresh, in_X9_fresh, cz_X9_fresh, Nat.le_of_ble_eq_true rfl, Nat.le_of_ble_eq_true rfl⟩
theorem lk_RL_50 : Lk RL 50 (yn m_X10_fresh) := Or.inl (tzc_6 97 (by first | rfl | decide +kernel) rfl)
theorem cz_X10_fresh : (yn m_X10_fresh).cls ≠ "java/lang/invoke/MethodHandle" ∧ (yn m_X10_fresh).cls ≠ "java/lang/invoke/VarHandle" ∧ (parseMethodDescriptor (yn m_X10_fresh).desc).map (fun d => d.parameters.length) = some 0 := ⟨zn_RX10.1, zn_RX10.2, by decide +kernel⟩
theorem cs_L_law_X10_fresh : Cs m_L_law m_X10_fresh 0 := ⟨cw_X10_fresh, in_X10_fresh, cz_X10_fresh, Nat.le_of_ble_eq_true rfl, Nat.le_of_ble_eq_true rfl⟩
theorem lk_RL_51 : Lk RL 51 (yn m_X9_current) := Or.inl (tzc_3 102 (by first | rfl | decide +kernel) rfl)
theorem cz_X9_current : (yn m_X9_current).cls ≠ "java/lang/invoke/MethodHandle" ∧ (yn m_X9_current).cls ≠ "java/lang/invoke/VarHandle" ∧ (parseMethodDescriptor (yn m_X9_current).desc).map (fun d => d.parameters.length) = some 1 := ⟨zn_RX9.1, zn_RX9.2, by decide +kernel⟩
theorem cs_L_law_X9_current : Cs m_L_law m_X9_current 1 := ⟨cw_X9_current, in_X9_current, cz_X9_current, Nat.le_of_ble_eq_true rfl, Nat.le_of_ble_eq_true rfl⟩
theorem lk_RL_55 : Lk RL 55 (yn m_X10_current) := Or.inl (tzc_6 101 (by first | rfl | decide +kernel) rfl)
theorem cz_X10_current : (yn m_X10_current).cls ≠ "java/lang/invoke/MethodHandle" ∧ (yn m_X10_current).cls ≠ "java/lang/invoke/VarHandle" ∧ (parseMethodDescriptor (yn m_X10_current).desc).map (fun d => d.parameters.length) = some 1 := ⟨zn_RX10.1, zn_RX10.2, by decide +kernel⟩
theorem cs_L_law_X10_current : Cs m_L_law m_X10_current 1 := ⟨cw_X10_current, in_X10_current, cz_X10_current, Nat.le_of_ble_eq_true rfl, Nat.le_of_ble_eq_true rfl⟩
theorem lk_RL_56 : Lk RL 56 (yn m_X9_cover) := Or.inl (tzc_3 106 (by first | rfl | decide +kernel) rfl)
theorem cz_X9_cover : (yn m_X9_cover).cls ≠ "java/lang/invoke/MethodHandle" ∧ (yn m_X9_cover).cls ≠ "java/lang/invoke/VarHandle" ∧ (parseMethodDescriptor (yn m_X9_cover).desc).map (fun d => d.parameters.length) = some 1 := ⟨zn_RX9.1, zn_RX9.2, by decide +kernel⟩
theorem cs_L_law_X9_cover : Cs m_L_law m_X9_cover 1 := ⟨cw_X9_cover, in_X9_cover, cz_X9_cover, Nat.le_of_ble_eq_true rfl, Nat.le_of_ble_eq_true rfl⟩
theorem lk_RL_59 : Lk RL 59 (yn m_X10_cover) := Or.inl (tzc_6 108 (by first | rfl | decide +kernel) rfl)
theorem cz_X10_cover : (yn m_X10_cover).cls ≠ "java/lang/invoke/MethodHandle" ∧ (yn m_X10_cover).cls ≠ "java/lang/invoke/VarHandle" ∧ (parseMethodDescriptor (yn m_X10_cover).desc).map (fun d => d.parameters.length) = some 1 := ⟨zn_RX10.1, zn_RX10.2, by decide +kernel⟩
theorem cs_L_law_X10_cover : Cs m_L_law m_X10_cover 1 := ⟨cw_X10_cover, in_X10_cover, cz_X10_cover, Nat.le_of_ble_eq_true rfl, Nat.le_of_ble_eq_true rfl⟩
theorem lk_RL_60 : Lk RL 60 (yn m_X9_put) := Or.inl (tzc_3 110 (by first | rfl | decide +kernel) rfl)
theorem cz_X9_put : (yn m_X9_put).cls ≠ "java/lang/invoke/MethodHandle" ∧ (yn m_X9_put).cls ≠ "java/lang/invoke/VarHandle" ∧ (parseMethodDescriptor (yn m_X9_put).desc).map (fun d => d.parameters.length) = some 5 := ⟨zn_RX9.1, zn_RX9.2, by decide +kernel⟩
theorem cs_L_law_X9_put : Cs m_L_law m_X9_put 5 := ⟨cw_X9_put, in_X9_put, cz_X9_put, Nat.le_of_ble_eq_true rfl, Nat.le_of_ble_eq_true rfl⟩
theorem lk_RL_64 : Lk RL 64 (yn m_X10_put) := Or.inl (tzc_6 112 (by first | rfl | decide +kernel) rfl)
theorem cz_X10_put : (yn m_X10_put).cls ≠ "java/lang/invoke/MethodHandle" ∧ (yn m_X10_put).cls ≠ "java/lang/invoke/VarHandle" ∧ (parseMethodDescriptor (yn m_X10_put).desc).map (fun d => d.parameters.length) = some 5 := ⟨zn_RX10.1, zn_RX10.2, by decide +kernel⟩
theorem cs_L_law_X10_put : Cs m_L_law m_X10_put 5 := ⟨cw_X10_put, in_X10_put, cz_X10_put, Nat.le_of_ble_eq_true rfl, Nat.le_of_ble_eq_true rfl⟩
theorem lk_RL_65 : Lk RL 65 (yn m_X9_take) := Or.inl (tzc_3 128 (by first | rfl | decide +kernel) rfl)
theorem cz_X9_take : (yn m_X9_take).cls ≠ "java/lang/invoke/MethodHandle" ∧ (yn m_X9_take).cls ≠ "java/lang/invoke/VarHandle" ∧ (parseMethodDescriptor (yn m_X9_take).desc).map (fun d => d.parameters.length) = some 1 := ⟨zn_RX9.1, zn_RX9.2, by decide +kernel⟩
theorem cs_L_law_X9_take : Cs m_L_law m_X9_take 1 := ⟨cw_X9_take, in_X9_take, cz_X9_take, Nat.le_of_ble_eq_true rfl, Nat.le_of_ble_eq_true rfl⟩
theorem lk_RL_68 : Lk RL 68 (yn m_X10_take) := Or.inl (tzc_6 126 (by first | rfl | decide +kernel) rfl)
theorem cz_X10_take : (yn m_X10_take).cls ≠ "java/lang/invoke/MethodHandle" ∧ (yn m_X10_take).cls ≠ "java/lang/invoke/VarHandle" ∧ (parseMethodDescriptor (yn m_X10_take).desc).map (fun d => d.parameters.length) = some 1 := ⟨zn_RX10.1, zn_RX10.2, by decide +kernel⟩
theorem cs_L_law_X10_take : Cs m_L_law m_X10_take 1 := ⟨cw_X10_take, in_X10_take, cz_X10_take, Nat.le_of_ble_eq_true rfl, Nat.le_of_ble_eq_true rfl⟩
theorem lk_RL_69 : Lk RL 69 (yn m_X9_lay) := Or.inl (tzc_3 144 (by first | rfl | decide +kernel) rfl)
theorem cz_X9_lay : (yn m_X9_lay).cls ≠ "java/lang/invoke/MethodHandle" ∧ (yn m_X9_lay).cls ≠ "java/lang/invoke/VarHandle" ∧ (parseMethodDescriptor (yn m_X9_lay).desc).map (fun d => d.parameters.length) = some 2 := ⟨zn_RX9.1, zn_RX9.2, by decide +kernel⟩
theorem cs_L_law_X9_lay : Cs m_L_law m_X9_lay 2 := ⟨cw_X9_lay, in_X9_lay, cz_X9_lay, Nat.le_of_ble_eq_true rfl, Nat.le_of_ble_eq_true rfl⟩
theorem lk_RL_72 : Lk RL 72 (yn m_X10_lay) := Or.inl (tzc_6 145 (by first | rfl | decide +kernel) rfl)
theorem cz_X10_lay : (yn m_X10_lay).cls ≠ "java/lang/invoke/MethodHandle" ∧ (yn m_X10_lay).cls ≠ "java/lang/invoke/VarHandle" ∧ (parseMethodDescriptor (yn m_X10_lay).desc).map (fun d => d.parameters.length) = some 2 := ⟨zn_RX10.1, zn_RX10.2, by decide +kernel⟩
theorem cs_L_law_X10_lay : Cs m_L_law m_X10_lay 2 := ⟨cw_X10_lay, in_X10_lay, cz_X10_lay, Nat.le_of_ble_eq_true rfl, Nat.le_of_ble_eq_true rfl⟩
theorem lk_RL_73 : Lk RL 73 (yn m_X9_food) := Or.inl (tzc_3 148 (by first | rfl | decide +kernel) rfl)
theorem cz_X9_food : (yn m_X9_food).cls ≠ "java/lang/invoke/MethodHandle" ∧ (yn m_X9_food).cls ≠ "java/lang/invoke/VarHandle" ∧ (parseMethodDescriptor (yn m_X9_food).desc).map (fun d => d.parameters.length) = some 2 := ⟨zn_RX9.1, zn_RX9.2, by decide +kernel⟩
theorem cs_L_law_X9_food : Cs m_L_law m_X9_food 2 := ⟨cw_X9_food, in_X9_food, cz_X9_food, Nat.le_of_ble_eq_true rfl, Nat.le_of_ble_eq_true rfl⟩
theorem lk_RL_76 : Lk RL 76 (yn m_X10_food) := Or.inl (tzc_6 149 (by first | rfl | decide +kernel) rfl)
theorem cz_X10_food : (yn m_X10_food).cls ≠ "java/lang/invoke/MethodHandle" ∧ (yn m_X10_food).cls ≠ "java/lang/invoke/VarHandle" ∧ (parseMethodDescriptor (yn m_X10_food).desc).map (fun d => d.parameters.length) = some 2 := ⟨zn_RX10.1, zn_RX10.2, by decide +kernel⟩
theorem cs_L_law_X10_food : Cs m_L_law m_X10_food 2 := ⟨cw_X10_food, in_X10_food, cz_X10_food, Nat.le_of_ble_eq_true rfl, Nat.le_of_ble_eq_true rfl⟩
theorem lk_RL_77 : Lk RL 77 (yn m_X9_run) := Or.inl (tzc_3 157 (by first | rfl | decide +kernel) rfl)
theorem cz_X9_run : (yn m_X9_run).cls ≠ "java/lang/invoke/MethodHandle" ∧ (yn m_X9_run).cls ≠ "java/lang/invoke/VarHandle" ∧ (parseMethodDescriptor (yn m_X9_run).desc).map (fun d => d.parameters.length) = some 1 := ⟨zn_RX9.1, zn_RX9.2, by decide +kernel⟩
theorem cs_L_law_X9_run : Cs m_L_law m_X9_run 1 := ⟨cw_X9_run, in_X9_run, cz_X9_run, Nat.le_of_ble_eq_true rfl, Nat.le_of_ble_eq_true rfl⟩
theorem lk_RL_80 : Lk RL 80 (yn m_X10_run) := Or.inl (tzc_6 157 (by first | rfl | decide +kernel) rfl)
theorem cz_X10_run : (yn m_X10_run).cls ≠ "java/lang/invoke/MethodHandle" ∧ (yn m_X10_run).cls ≠ "java/lang/invoke/VarHandle" ∧ (parseMethodDescriptor (yn m_X10_run).desc).map (fun d => d.parameters.length) = some 1 := ⟨zn_RX10.1, zn_RX10.2, by decide +kernel⟩
theorem cs_L_law_X10_run : Cs m_L_law m_X10_run 1 := ⟨cw_X10_run, in_X10_run, cz_X10_run, Nat.le_of_ble_eq_true rfl, Nat.le_of_ble_eq_true rfl⟩
theorem lk_RL_81 : Lk RL 81 (yn m_X9_drawn) := Or.inl (tzc_3 229 (by first | rfl | decide +kernel) rfl)
theorem cz_X9_drawn : (yn m_X9_drawn).cls ≠ "java/lang/invoke/MethodHandle" ∧ (yn m_X9_drawn).cls ≠ "java/lang/invoke/VarHandle" ∧ (parseMethodDescriptor (yn m_X9_drawn).desc).map (fun d => d.parameters.length) = some 2 := ⟨zn_RX9.1, zn_RX9.2, by decide +kernel⟩
theorem cs_L_law_X9_drawn : Cs m_L_law m_X9_drawn 2 := ⟨cw_X9_drawn, in_X9_drawn, cz_X9_drawn, Nat.le_of_ble_eq_true rfl, Nat.le_of_ble_eq_true rfl⟩
theorem lk_RL_84 : Lk RL 84 (yn m_X10_drawn) := Or.inl (tzc_6 205 (by first | rfl | decide +kernel) rfl)
theorem cz_X10_drawn : (yn m_X10_drawn).cls ≠ "java/lang/invoke/MethodHandle" ∧ (yn m_X10_drawn).cls ≠ "java/lang/invoke/VarHandle" ∧ (parseMethodDescriptor (yn m_X10_drawn).desc).map (fun d => d.parameters.length) = some 2 := ⟨zn_RX10.1, zn_RX10.2, by decide +kernel⟩
theorem cs_L_law_X10_drawn : Cs m_L_law m_X10_drawn 2 := ⟨cw_X10_drawn, in_X10_drawn, cz_X10_drawn, Nat.le_of_ble_eq_true rfl, Nat.le_of_ble_eq_true rfl⟩
theorem lk_RL_85 : Lk RL 85 (yn m_X9_warmth) := Or.inl (tzc_4 7 (by first | rfl | decide +kernel) rfl)
theorem cz_X9_warmth : (yn m_X9_warmth).cls ≠ "java/lang/invoke/MethodHandle" ∧ (yn m_X9_warmth).cls ≠ "java/lang/invoke/VarHandle" ∧ (parseMethodDescriptor (yn m_X9_warmth).desc).map (fun d => d.parameters.length) = some 1 := ⟨zn_RX9.1, zn_RX9.2, by decide +kernel⟩
theorem cs_L_law_X9_warmth : Cs m_L_law m_X9_warmth 1 := ⟨cw_X9_warmth, in_X9_warmth, cz_X9_warmth, Nat.le_of_ble_eq_true rfl, Nat.le_of_ble_eq_true rfl⟩
theorem lk_RL_88 : Lk RL 88 (yn m_X10_warmth) := Or.inl (tzc_6 221 (by first | rfl | decide +kernel) rfl)
theorem cz_X10_warmth : (yn m_X10_warmth).cls ≠ "java/lang/invoke/MethodHandle" ∧ (yn m_X10_warmth).cls ≠ "java/lang/invoke/VarHandle" ∧ (parseMethodDescriptor (yn m_X10_warmth).desc).map (fun d => d.parameters.length) = some 1 := ⟨zn_RX10.1, zn_RX10.2, by decide +kernel⟩
theorem cs_L_law_X10_warmth : Cs m_L_law m_X10_warmth 1 := ⟨cw_X10_warmth, in_X10_warmth, cz_X10_warmth, Nat.le_of_ble_eq_true rfl, Nat.le_of_ble_eq_true rfl⟩
theorem lk_RL_89 : Lk RL 89 (yn m_X9_heat) := Or.inl (tzc_4 11 (by first | rfl | decide +kernel) rfl)
theorem cz_X9_heat : (yn m_X9_heat).cls ≠ "java/lang/invoke/MethodHandle" ∧ (yn m_X9_heat).cls ≠ "java/lang/invoke/VarHandle" ∧ (parseMethodDescriptor (yn m_X9_heat).desc).map (fun d => d.parameters.length) = some 1 := ⟨zn_RX9.1, zn_RX9.2, by decide +kernel⟩
theorem cs_L_law_X9_heat : Cs m_L_law m_X9_heat 1 := ⟨cw_X9_heat, in_X9_heat, cz_X9_heat, Nat.le_of_ble_eq_true rfl, Nat.le_of_ble_eq_true rfl⟩
theorem lk_RL_93 : Lk RL 93 (yn m_X10_heat) := Or.inl (tzc_6 226 (by first | rfl | decide +kernel) rfl)
theorem cz_X10_heat : (yn m_X10_heat).cls ≠ "java/lang/invoke/MethodHandle" ∧ (yn m_X10_heat).cls ≠ "java/lang/invoke/VarHandle" ∧ (parseMethodDescriptor (yn m_X10_heat).desc).map (fun d => d.parameters.length) = some 1 := ⟨zn_RX10.1, zn_RX10.2, by decide +kernel⟩
theorem cs_L_law_X10_heat : Cs m_L_law m_X10_heat 1 := ⟨cw_X10_heat, in_X10_heat, cz_X10_heat, Nat.le_of_ble_eq_true rfl, Nat.le_of_ble_eq_true rfl⟩
theorem lk_RL_94 : Lk RL 94 (yn m_X9_count) := Or.inl (tzc_4 20 (by first | rfl | decide +kernel) rfl)
theorem cz_X9_count : (yn m_X9_count).cls ≠ "java/lang/invoke/MethodHandle" ∧ (yn m_X9_count).cls ≠ "java/lang/invoke/VarHandle" ∧ (parseMethodDescriptor (yn m_X9_count).desc).map (fun d => d.parameters.length) = some 1 := ⟨zn_RX9.1, zn_RX9.2, by decide +kernel⟩
theorem cs_L_law_X9_count : Cs m_L_law m_X9_count 1 := ⟨cw_X9_count, in_X9_count, cz_X9_count, Nat.le_of_ble_eq_true rfl, Nat.le_of_ble_eq_true rfl⟩
theorem lk_RL_97 : Lk RL 97 (yn m_X10_count) := Or.inl (tzc_6 231 (by first | rfl | decide +kernel) rfl)
theorem cz_X10_count : (yn m_X10_count).cls ≠ "java/lang/invoke/MethodHandle" ∧ (yn m_X10_count).cls ≠ "java/lang/invoke/VarHandle" ∧ (parseMethodDescriptor (yn m_X10_count).desc).map (fun d => d.parameters.length) = some 1 := ⟨zn_RX10.1, zn_RX10.2, by decide +kernel⟩
theorem cs_L_law_X10_count : Cs m_L_law m_X10_count 1 := ⟨cw_X10_count, in_X10_count, cz_X10_count, Nat.le_of_ble_eq_true rfl, Nat.le_of_ble_eq_true rfl⟩
theorem lk_RL_98 : Lk RL 98 (yn m_X9_thaw) := Or.inl (tzc_4 28 (by first | rfl | decide +kernel) rfl)
theorem cz_X9_thaw : (yn m_X9_thaw).cls ≠ "java/lang/invoke/MethodHandle" ∧ (yn m_X9_thaw).cls ≠ "java/lang/invoke/VarHandle" ∧ (parseMethodDescriptor (yn m_X9_thaw).desc).map (fun d => d.parameters.length) = some 0 := ⟨zn_RX9.1, zn_RX9.2, by decide +kernel⟩
theorem cs_L_law_X9_thaw : Cs m_L_law m_X9_thaw 0 := ⟨cw_X9_thaw, in_X9_thaw, cz_X9_thaw, Nat.le_of_ble_eq_true rfl, Nat.le_of_ble_eq_true rfl⟩
theorem lk_RL_101 : Lk RL 101 (yn m_X10_thaw) := Or.inl (tzc_6 239 (by first | rfl | decide +kernel) rfl)
theorem cz_X10_thaw : (yn m_X10_thaw).cls ≠ "java/lang/invoke/MethodHandle" ∧ (yn m_X10_thaw).cls ≠ "java/lang/invoke/VarHandle" ∧ (parseMethodDescriptor (yn m_X10_thaw).desc).map (fun d => d.parameters.length) = some 0 := ⟨zn_RX10.1, zn_RX10.2, by decide +kernel⟩
theorem cs_L_law_X10_thaw : Cs m_L_law m_X10_thaw 0 := ⟨cw_X10_thaw, in_X10_thaw, cz_X10_thaw, Nat.le_of_ble_eq_true rfl, Nat.le_of_ble_eq_true rfl⟩
theorem lk_RL_102 : Lk RL 102 (yn m_X9_sign) := Or.inl (tzc_4 37 (by first | rfl | decide +kernel) rfl)
theorem cz_X9_sign : (yn m_X9_sign).cls ≠ "java/lang/invoke/MethodHandle" ∧ (yn m_X9_sign).cls ≠ "java/lang/invoke/VarHandle" ∧ (parseMethodDescriptor (yn m_X9_sign).desc).map (fun d => d.parameters.length) = some 3 := ⟨zn_RX9.1, zn_RX9.2, by decide +kernel⟩
theorem cs_L_law_X9_sign : Cs m_L_law m_X9_sign 3 := ⟨cw_X9_sign, in_X9_sign, cz_X9_sign, Nat.le_of_ble_eq_true rfl, Nat.le_of_ble_eq_true rfl⟩
theorem lk_RL_106 : Lk RL 106 (yn m_X10_sign) := Or.inl (tzc_7 7 (by first | rfl | decide +kernel) rfl)
theorem cz_X10_sign : (yn m_X10_sign).cls ≠ "java/lang/invoke/MethodHandle" ∧ (yn m_X10_sign).cls ≠ "java/lang/invoke/VarHandle" ∧ (parseMethodDescriptor (yn m_X10_sign).desc).map (fun d => d.parameters.length) = some 3 := ⟨zn_RX10.1, zn_RX10.2, by decide +kernel⟩
theorem cs_L_law_X10_sign : Cs m_L_law m_X10_sign 3 := ⟨cw_X10_sign, in_X10_sign, cz_X10_sign, Nat.le_of_ble_eq_true rfl, Nat.le_of_ble_eq_true rfl⟩
theorem lk_RL_107 : Lk RL 107 (yn m_X9_seen) := Or.inl (tzc_4 68 (by first | rfl | decide +kernel) rfl)
theorem cz_X9_seen : (yn m_X9_seen).cls ≠ "java/lang/invoke/MethodHandle" ∧ (yn m_X9_seen).cls ≠ "java/lang/invoke/VarHandle" ∧ (parseMethodDescriptor (yn m_X9_seen).desc).map (fun d => d.parameters.length) = some 3 := ⟨zn_RX9.1, zn_RX9.2, by decide +kernel⟩
theorem cs_L_law_X9_seen : Cs m_L_law m_X9_seen 3 := ⟨cw_X9_seen, in_X9_seen, cz_X9_seen, Nat.le_of_ble_eq_true rfl, Nat.le_of_ble_eq_true rfl⟩
theorem lk_RL_110 : Lk RL 110 (yn m_X10_seen) := Or.inl (tzc_7 30 (by first | rfl | decide +kernel) rfl)
theorem cz_X10_seen : (yn m_X10_seen).cls ≠ "java/lang/invoke/MethodHandle" ∧ (yn m_X10_seen).cls ≠ "java/lang/invoke/VarHandle" ∧ (parseMethodDescriptor (yn m_X10_seen).desc).map (fun d => d.parameters.length) = some 3 := ⟨zn_RX10.1, zn_RX10.2, by decide +kernel⟩
theorem cs_L_law_X10_seen : Cs m_L_law m_X10_seen 3 := ⟨cw_X10_seen, in_X10_seen, cz_X10_seen, Nat.le_of_ble_eq_true rfl, Nat.le_of_ble_eq_true rfl⟩
theorem lk_RL_111 : Lk RL 111 (yn m_X9_forget) := Or.inl (tzc_4 78 (by first | rfl | decide +kernel) rfl)
theorem cz_X9_forget : (yn m_X9_forget).cls ≠ "java/lang/invoke/MethodHandle" ∧ (yn m_X9_forget).cls ≠ "java/lang/invoke/VarHandle" ∧ (parseMethodDescriptor (yn m_X9_forget).desc).map (fun d => d.parameters.length) = some 0 := ⟨zn_RX9.1, zn_RX9.2, by decide +kernel⟩
theorem cs_L_law_X9_forget : Cs m_L_law m_X9_forget 0 := ⟨cw_X9_forget, in_X9_forget, cz_X9_forget, Nat.le_of_ble_eq_true rfl, Nat.le_of_ble_eq_true rfl⟩
theorem lk_RL_114 : Lk RL 114 (yn m_X10_forget) := Or.inl (tzc_7 41 (by first | rfl | decide +kernel) rfl)
theorem cz_X10_forget : (yn m_X10_forget).cls ≠ "java/lang/invoke/MethodHandle" ∧ (yn m_X10_forget).cls ≠ "java/lang/invoke/VarHandle" ∧ (parseMethodDescriptor (yn m_X10_forget).desc).map (fun d => d.parameters.length) = some 0 := ⟨zn_RX10.1, zn_RX10.2, by decide +kernel⟩
theorem cs_L_law_X10_forget : Cs m_L_law m_X10_forget 0 := ⟨cw_X10_forget, in_X10_forget, cz_X10_forget, Nat.le_of_ble_eq_true rfl, Nat.le_of_ble_eq_true rfl⟩
theorem lk_RL_115 : Lk RL 115 (yn m_X9_prior) := Or.inl (tzc_4 82 (by first | rfl | decide +kernel) rfl)
theorem cz_X9_prior : (yn m_X9_prior).cls ≠ "java/lang/invoke/MethodHandle" ∧ (yn m_X9_prior).cls ≠ "java/lang/invoke/VarHandle" ∧ (parseMethodDescriptor (yn m_X9_prior).desc).map (fun d => d.parameters.length) = some 2 := ⟨zn_RX9.1, zn_RX9.2, by decide +kernel⟩
theorem cs_L_law_X9_prior : Cs m_L_law m_X9_prior 2 := ⟨cw_X9_prior, in_X9_prior, cz_X9_prior, Nat.le_of_ble_eq_true rfl, Nat.le_of_ble_eq_true rfl⟩
theorem lk_RL_118 : Lk RL 118 (yn m_X10_prior) := Or.inl (tzc_7 45 (by first | rfl | decide +kernel) rfl)
theorem cz_X10_prior : (yn m_X10_prior).cls ≠ "java/lang/invoke/MethodHandle" ∧ (yn m_X10_prior).cls ≠ "java/lang/invoke/VarHandle" ∧ (parseMethodDescriptor (yn m_X10_prior).desc).map (fun d => d.parameters.length) = some 2 := ⟨zn_RX10.1, zn_RX10.2, by decide +kernel⟩
theorem cs_L_law_X10_prior : Cs m_L_law m_X10_prior 2 := ⟨cw_X10_prior, in_X10_prior, cz_X10_prior, Nat.le_of_ble_eq_true rfl, Nat.le_of_ble_eq_true rfl⟩
theorem lk_RL_119 : Lk RL 119 (yn m_X9_bother) := Or.inl (tzc_4 89 (by first | rfl | decide +kernel) rfl)
theorem cz_X9_bother : (yn m_X9_bother).cls ≠ "java/lang/invoke/MethodHandle" ∧ (yn m_X9_bother).cls ≠ "java/lang/invoke/VarHandle" ∧ (parseMethodDescriptor (yn m_X9_bother).desc).map (fun d => d.parameters.length) = some 2 := ⟨zn_RX9.1, zn_RX9.2, by decide +kernel⟩
theorem cs_L_law_X9_bother : Cs m_L_law m_X9_bother 2 := ⟨cw_X9_bother, in_X9_bother, cz_X9_bother, Nat.le_of_ble_eq_true rfl, Nat.le_of_ble_eq_true rfl⟩
theorem lk_RL_122 : Lk RL 122 (yn m_X10_bother) := Or.inl (tzc_7 52 (by first | rfl | decide +kernel) rfl)
theorem cz_X10_bother : (yn m_X10_bother).cls ≠ "java/lang/invoke/MethodHandle" ∧ (yn m_X10_bother).cls ≠ "java/lang/invoke/VarHandle" ∧ (parseMethodDescriptor (yn m_X10_bother).desc).map (fun d => d.parameters.length) = some 2 := ⟨zn_RX10.1, zn_RX10.2, by decide +kernel⟩
theorem cs_L_law_X10_bother : Cs m_L_law m_X10_bother 2 := ⟨cw_X10_bother, in_X10_bother, cz_X10_bother, Nat.le_of_ble_eq_true rfl, Nat.le_of_ble_eq_true rfl⟩
theorem lk_RL_123 : Lk RL 123 (yn m_X9_odds) := Or.inl (tzc_4 93 (by first | rfl | decide +kernel) rfl)
theorem cz_X9_odds : (yn m_X9_odds).cls ≠ "java/lang/invoke/MethodHandle" ∧ (yn m_X9_odds).cls ≠ "java/lang/invoke/VarHandle" ∧ (parseMethodDescriptor (yn m_X9_odds).desc).map (fun d => d.parameters.length) = some 2 := ⟨zn_RX9.1, zn_RX9.2, by decide +kernel⟩
theorem cs_L_law_X9_odds : Cs m_L_law m_X9_odds 2 := ⟨cw_X9_odds, in_X9_odds, cz_X9_odds, Nat.le_of_ble_eq_true rfl, Nat.le_of_ble_eq_true rfl⟩
theorem lk_RL_126 : Lk RL 126 (yn m_X10_odds) := Or.inl (tzc_7 56 (by first | rfl | decide +kernel) rfl)
theorem cz_X10_odds : (yn m_X10_odds).cls ≠ "java/lang/invoke/MethodHandle" ∧ (yn m_X10_odds).cls ≠ "java/lang/invoke/VarHandle" ∧ (parseMethodDescriptor (yn m_X10_odds).desc).map (fun d => d.parameters.length) = some 2 := ⟨zn_RX10.1, zn_RX10.2, by decide +kernel⟩
theorem cs_L_law_X10_odds : Cs m_L_law m_X10_odds 2 := ⟨cw_X10_odds, in_X10_odds, cz_X10_odds, Nat.le_of_ble_eq_true rfl, Nat.le_of_ble_eq_true rfl⟩
theorem lk_RL_127 : Lk RL 127 (yn m_X9_each) := Or.inl (tzc_4 140 (by first | rfl | decide +kernel) rfl)
theorem cz_X9_each : (yn m_X9_each).cls ≠ "java/lang/invoke/MethodHandle" ∧ (yn m_X9_each).cls ≠ "java/lang/invoke/VarHandle" ∧ (parseMethodDescriptor (yn m_X9_each).desc).map (fun d => d.parameters.length) = some 2 := ⟨zn_RX9.1, zn_RX9.2, by decide +kernel⟩
theorem cs_L_law_X9_each : Cs m_L_law m_X9_each 2 := ⟨cw_X9_each, in_X9_each, cz_X9_each, Nat.le_of_ble_eq_true rfl, Nat.le_of_ble_eq_true rfl⟩
theorem lk_RL_130 : Lk RL 130 (yn m_X10_each) := Or.inl (tzc_7 79 (by first | rfl | decide +kernel) rfl)
theorem cz_X10_each : (yn m_X10_each).cls ≠ "java/lang/invoke/MethodHandle" ∧ (yn m_X10_each).cls ≠ "java/lang/invoke/VarHandle" ∧ (parseMethodDescriptor (yn m_X10_each).desc).map (fun d => d.parameters.length) = some 2 := ⟨zn_RX10.1, zn_RX10.2, by decide +kernel⟩
theorem cs_L_law_X10_each : Cs m_L_law m_X10_each 2 := ⟨cw_X10_each, in_X10_each, cz_X10_each, Nat.le_of_ble_eq_true rfl, Nat.le_of_ble_eq_true rfl⟩
theorem lk_RL_131 : Lk RL 131 (yn m_X9_tells) := Or.inl (tzc_4 148 (by first | rfl | decide +kernel) rfl)
theorem cz_X9_tells : (yn m_X9_tells).cls ≠ "java/lang/invoke/MethodHandle" ∧ (yn m_X9_tells).cls ≠ "java/lang/invoke/VarHandle" ∧ (parseMethodDescriptor (yn m_X9_tells).desc).map (fun d => d.parameters.length) = some 2 := ⟨zn_RX9.1, zn_RX9.2, by decide +kernel⟩
theorem cs_L_law_X9_tells : Cs m_L_law m_X9_tells 2 := ⟨cw_X9_tells, in_X9_tells, cz_X9_tells, Nat.le_of_ble_eq_true rfl, Nat.le_of_ble_eq_true rfl⟩
theorem lk_RL_134 : Lk RL 134 (yn m_X10_tells) := Or.inl (tzc_7 83 (by first | rfl | decide +kernel) rfl)
theorem cz_X10_tells : (yn m_X10_tells).cls ≠ "java/lang/invoke/MethodHandle" ∧ (yn m_X10_tells).cls ≠ "java/lang/invoke/VarHandle" ∧ (parseMethodDescriptor (yn m_X10_tells).desc).map (fun d => d.parameters.length) = some 2 := ⟨zn_RX10.1, zn_RX10.2, by decide +kernel⟩
theorem cs_L_law_X10_tells : Cs m_L_law m_X10_tells 2 := ⟨cw_X10_tells, in_X10_tells, cz_X10_tells, Nat.le_of_ble_eq_true rfl, Nat.le_of_ble_eq_true rfl⟩
theorem lk_RL_135 : Lk RL 135 (yn m_X9_next) := Or.inl (tzc_4 168 (by first | rfl | decide +kernel) rfl)
theorem cz_X9_next : (yn m_X9_next).cls ≠ "java/lang/invoke/MethodHandle" ∧ (yn m_X9_next).cls ≠ "java/lang/invoke/VarHandle" ∧ (parseMethodDescriptor (yn m_X9_next).desc).map (fun d => d.parameters.length) = some 1 := ⟨zn_RX9.1, zn_RX9.2, by decide +kernel⟩
theorem cs_L_law_X9_next : Cs m_L_law m_X9_next 1 := ⟨cw_X9_next, in_X9_next, cz_X9_next, Nat.le_of_ble_eq_true rfl, Nat.le_of_ble_eq_true rfl⟩
theorem lk_RL_138 : Lk RL 138 (yn m_X10_next) := Or.inl (tzc_7 91 (by first | rfl | decide +kernel) rfl)
theorem cz_X10_next : (yn m_X10_next).cls ≠ "java/lang/invoke/MethodHandle" ∧ (yn m_X10_next).cls ≠ "java/lang/invoke/VarHandle" ∧ (parseMethodDescriptor (yn m_X10_next).desc).map (fun d => d.parameters.length) = some 1 := ⟨zn_RX10.1, zn_RX10.2, by decide +kernel⟩
theorem cs_L_law_X10_next : Cs m_L_law m_X10_next 1 := ⟨cw_X10_next, in_X10_next, cz_X10_next, Nat.le_of_ble_eq_true rfl, Nat.le_of_ble_eq_true rfl⟩
theorem lk_RL_139 : Lk RL 139 (yn m_X9_makes) := Or.inl (tzc_4 176 (by first | rfl | decide +kernel) rfl)
theorem cz_X9_makes : (yn m_X9_makes).cls ≠ "java/lang/invoke/MethodHandle" ∧ (yn m_X9_makes).cls ≠ "java/lang/invoke/VarHandle" ∧ (parseMethodDescriptor (yn m_X9_makes).desc).map (fun d => d.parameters.length) = some 2 := ⟨zn_RX9.1, zn_RX9.2, by decide +kernel⟩
theorem cs_L_law_X9_makes : Cs m_L_law m_X9_makes 2 := ⟨cw_X9_makes, in_X9_makes, cz_X9_makes, Nat.le_of_ble_eq_true rfl, Nat.le_of_ble_eq_true rfl⟩
theorem lk_RL_142 : Lk RL 142 (yn m_X10_makes) := Or.inl (tzc_7 95 (by first | rfl | decide +kernel) rfl)
theorem cz_X10_makes : (yn m_X10_makes).cls ≠ "java/lang/invoke/MethodHandle" ∧ (yn m_X10_makes).cls ≠ "java/lang/invoke/VarHandle" ∧ (parseMethodDescriptor (yn m_X10_makes).desc).map (fun d => d.parameters.length) = some 2 := ⟨zn_RX10.1, zn_RX10.2, by decide +kernel⟩
theorem cs_L_law_X10_makes : Cs m_L_law m_X10_makes 2 := ⟨cw_X10_makes, in_X10_makes, cz_X10_makes, Nat.le_of_ble_eq_true rfl, Nat.le_of_ble_eq_true rfl⟩
theorem lk_RL_143 : Lk RL 143 (yn m_X9_mending) := Or.inl (tzc_4 184 (by first | rfl | decide +kernel) rfl)
theorem cz_X9_mending : (yn m_X9_mending).cls ≠ "java/lang/invoke/MethodHandle" ∧ (yn m_X9_mending).cls ≠ "java/lang/invoke/VarHandle" ∧ (parseMethodDescriptor (yn m_X9_mending).desc).map (fun d => d.parameters.length) = some 2 := ⟨zn_RX9.1, zn_RX9.2, by decide +kernel⟩
theorem cs_L_law_X9_mending : Cs m_L_law m_X9_mending 2 := ⟨cw_X9_mending, in_X9_mending, cz_X9_mending, Nat.le_of_ble_eq_true rfl, Nat.le_of_ble_eq_true rfl⟩
theorem lk_RL_146 : Lk RL 146 (yn m_X10_mending) := Or.inl (tzc_7 99 (by first | rfl | decide +kernel) rfl)
theorem cz_X10_mending : (yn m_X10_mending).cls ≠ "java/lang/invoke/MethodHandle" ∧ (yn m_X10_mending).cls ≠ "java/lang/invoke/VarHandle" ∧ (parseMethodDescriptor (yn m_X10_mending).desc).map (fun d => d.parameters.length) = some 2 := ⟨zn_RX10.1, zn_RX10.2, by decide +kernel⟩
theorem cs_L_law_X10_mending : Cs m_L_law m_X10_mending 2 := ⟨cw_X10_mending, in_X10_mending, cz_X10_mending, Nat.le_of_ble_eq_true rfl, Nat.le_of_ble_eq_true rfl⟩
theorem lk_RL_147 : Lk RL 147 (yn m_X9_price) := Or.inl (tzc_4 188 (by first | rfl | decide +kernel) rfl)
theorem cz_X9_price : (yn m_X9_price).cls ≠ "java/lang/invoke/MethodHandle" ∧ (yn m_X9_price).cls ≠ "java/lang/invoke/VarHandle" ∧ (parseMethodDescriptor (yn m_X9_price).desc).map (fun d => d.parameters.length) = some 1 := ⟨zn_RX9.1, zn_RX9.2, by decide +kernel⟩
theorem cs_L_law_X9_price : Cs m_L_law m_X9_price 1 := ⟨cw_X9_price, in_X9_price, cz_X9_price, Nat.le_of_ble_eq_true rfl, Nat.le_of_ble_eq_true rfl⟩
theorem lk_RL_150 : Lk RL 150 (yn m_X10_price) := Or.inl (tzc_7 103 (by first | rfl | decide +kernel) rfl)
theorem cz_X10_price : (yn m_X10_price).cls ≠ "java/lang/invoke/MethodHandle" ∧ (yn m_X10_price).cls ≠ "java/lang/invoke/VarHandle" ∧ (parseMethodDescriptor (yn m_X10_price).desc).map (fun d => d.parameters.length) = some 1 := ⟨zn_RX10.1, zn_RX10.2, by decide +kernel⟩
theorem cs_L_law_X10_price : Cs m_L_law m_X10_price 1 := ⟨cw_X10_price, in_X10_price, cz_X10_price, Nat.le_of_ble_eq_true rfl, Nat.le_of_ble_eq_true rfl⟩
theorem lk_RL_151 : Lk RL 151 (yn m_X9_year) := Or.inl (tzc_4 195 (by first | rfl | decide +kernel) rfl)
theorem cz_X9_year : (yn m_X9_year).cls ≠ "java/lang/invoke/MethodHandle" ∧ (yn m_X9_year).cls ≠ "java/lang/invoke/VarHandle" ∧ (parseMethodDescriptor (yn m_X9_year).desc).map (fun d => d.parameters.length) = some 1 := ⟨zn_RX9.1, zn_RX9.2, by decide +kernel⟩
theorem cs_L_law_X9_year : Cs m_L_law m_X9_year 1 := ⟨cw_X9_year, in_X9_year, cz_X9_year, Nat.le_of_ble_eq_true rfl, Nat.le_of_ble_eq_true rfl⟩
theorem lk_RL_154 : Lk RL 154 (yn m_X10_year) := Or.inl (tzc_7 107 (by first | rfl | decide +kernel) rfl)
theorem cz_X10_year : (yn m_X10_year).cls ≠ "java/lang/invoke/MethodHandle" ∧ (yn m_X10_year).cls ≠ "java/lang/invoke/VarHandle" ∧ (parseMethodDescriptor (yn m_X10_year).desc).map (fun d => d.parameters.length) = some 1 := ⟨zn_RX10.1, zn_RX10.2, by decide +kernel⟩
theorem cs_L_law_X10_year : Cs m_L_law m_X10_year 1 := ⟨cw_X10_year, in_X10_year, cz_X10_year, Nat.le_of_ble_eq_true rfl, Nat.le_of_ble_eq_true rfl⟩
theorem lk_RL_155 : Lk RL 155 (yn m_X9_saves) := Or.inl (tzc_4 210 (by first | rfl | decide +kernel) rfl)
theorem cz_X9_saves : (yn m_X9_saves).cls ≠ "java/lang/invoke/MethodHandle" ∧ (yn m_X9_saves).cls ≠ "java/lang/invoke/VarHandle" ∧ (parseMethodDescriptor (yn m_X9_saves).desc).map (fun d => d.parameters.length) = some 2 := ⟨zn_RX9.1, zn_RX9.2, by decide +kernel⟩
theorem cs_L_law_X9_saves : Cs m_L_law m_X9_saves 2 := ⟨cw_X9_saves, in_X9_saves, cz_X9_saves, Nat.le_of_ble_eq_true rfl, Nat.le_of_ble_eq_true rfl⟩
theorem lk_RL_158 : Lk RL 158 (yn m_X10_saves) := Or.inl (tzc_7 116 (by first | rfl | decide +kernel) rfl)
theorem cz_X10_saves : (yn m_X10_saves).cls ≠ "java/lang/invoke/MethodHandle" ∧ (yn m_X10_saves).cls ≠ "java/lang/invoke/VarHandle" ∧ (parseMethodDescriptor (yn m_X10_saves).desc).map (fun d => d.parameters.length) = some 2 := ⟨zn_RX10.1, zn_RX10.2, by decide +kernel⟩
theorem cs_L_law_X10_saves : Cs m_L_law m_X10_saves 2 := ⟨cw_X10_saves, in_X10_saves, cz_X10_saves, Nat.le_of_ble_eq_true rfl, Nat.le_of_ble_eq_true rfl⟩
theorem lk_RL_159 : Lk RL 159 (yn m_X9_best) := Or.inl (tzc_4 223 (by first | rfl | decide +kernel) rfl)
theorem cz_X9_best : (yn m_X9_best).cls ≠ "java/lang/invoke/MethodHandle" ∧ (yn m_X9_best).cls ≠ "java/lang/invoke/VarHandle" ∧ (parseMethodDescriptor (yn m_X9_best).desc).map (fun d => d.parameters.length) = some 3 := ⟨zn_RX9.1, zn_RX9.2, by decide +kernel⟩
theorem cs_L_law_X9_best : Cs m_L_law m_X9_best 3 := ⟨cw_X9_best, in_X9_best, cz_X9_best, Nat.le_of_ble_eq_true rfl, Nat.le_of_ble_eq_true rfl⟩
theorem lk_RL_162 : Lk RL 162 (yn m_X10_best) := Or.inl (tzc_7 121 (by first | rfl | decide +kernel) rfl)
theorem cz_X10_best : (yn m_X10_best).cls ≠ "java/lang/invoke/MethodHandle" ∧ (yn m_X10_best).cls ≠ "java/lang/invoke/VarHandle" ∧ (parseMethodDescriptor (yn m_X10_best).desc).map (fun d => d.parameters.length) = some 3 := ⟨zn_RX10.1, zn_RX10.2, by decide +kernel⟩
theorem cs_L_law_X10_best : Cs m_L_law m_X10_best 3 := ⟨cw_X10_best, in_X10_best, cz_X10_best, Nat.le_of_ble_eq_true rfl, Nat.le_of_ble_eq_true rfl⟩
theorem lk_RL_163 : Lk RL 163 (yn m_X9_pays) := Or.inl (tzc_5 3 (by first | rfl | decide +kernel) rfl)
theorem cz_X9_pays : (yn m_X9_pays).cls ≠ "java/lang/invoke/MethodHandle" ∧ (yn m_X9_pays).cls ≠ "java/lang/invoke/VarHandle" ∧ (parseMethodDescriptor (yn m_X9_pays).desc).map (fun d => d.parameters.length) = some 3 := ⟨zn_RX9.1, zn_RX9.2, by decide +kernel⟩
theorem cs_L_law_X9_pays : Cs m_L_law m_X9_pays 3 := ⟨cw_X9_pays, in_X9_pays, cz_X9_pays, Nat.le_of_ble_eq_true rfl, Nat.le_of_ble_eq_true rfl⟩
theorem lk_RL_166 : Lk RL 166 (yn m_X10_pays) := Or.inl (tzc_7 125 (by first | rfl | decide +kernel) rfl)
theorem cz_X10_pays : (yn m_X10_pays).cls ≠ "java/lang/invoke/MethodHandle" ∧ (yn m_X10_pays).cls ≠ "java/lang/invoke/VarHandle" ∧ (parseMethodDescriptor (yn m_X10_pays).desc).map (fun d => d.parameters.length) = some 3 := ⟨zn_RX10.1, zn_RX10.2, by decide +kernel⟩
theorem cs_L_law_X10_pays : Cs m_L_law m_X10_pays 3 := ⟨cw_X10_pays, in_X10_pays, cz_X10_pays, Nat.le_of_ble_eq_true rfl, Nat.le_of_ble_eq_true rfl⟩
theorem lk_RL_167 : Lk RL 167 (yn m_X9_ice) := Or.inl (tzc_5 11 (by first | rfl | decide +kernel) rfl)
theorem cz_X9_ice : (yn m_X9_ice).cls ≠ "java/lang/invoke/MethodHandle" ∧ (yn m_X9_ice).cls ≠ "java/lang/invoke/VarHandle" ∧ (parseMethodDescriptor (yn m_X9_ice).desc).map (fun d => d.parameters.length) = some 3 := ⟨zn_RX9.1, zn_RX9.2, by decide +kernel⟩
theorem cs_L_law_X9_ice : Cs m_L_law m_X9_ice 3 := ⟨cw_X9_ice, in_X9_ice, cz_X9_ice, Nat.le_of_ble_eq_true rfl, Nat.le_of_ble_eq_true rfl⟩
theorem lk_RL_170 : Lk RL 170 (yn m_X10_ice) := Or.inl (tzc_7 129 (by first | rfl | decide +kernel) rfl)
theorem cz_X10_ice : (yn m_X10_ice).cls ≠ "java/lang/invoke/MethodHandle" ∧ (yn m_X10_ice).cls ≠ "java/lang/invoke/VarHandle" ∧ (parseMethodDescriptor (yn m_X10_ice).desc).map (fun d => d.parameters.length) = some 3 := ⟨zn_RX10.1, zn_RX10.2, by decide +kernel⟩
theorem cs_L_law_X10_ice : Cs m_L_law m_X10_ice 3 := ⟨cw_X10_ice, in_X10_ice, cz_X10_ice, Nat.le_of_ble_eq_true rfl, Nat.le_of_ble_eq_true rfl⟩
theorem lk_RL_171 : Lk RL 171 (yn m_X9_lying) := Or.inl (tzc_5 24 (by first | rfl | decide +kernel) rfl)
theorem cz_X9_lying : (yn m_X9_lying).cls ≠ "java/lang/invoke/MethodHandle" ∧ (yn m_X9_lying).cls ≠ "java/lang/invoke/VarHandle" ∧ (parseMethodDescriptor (yn m_X9_lying).desc).map (fun d => d.parameters.length) = some 1 := ⟨zn_RX9.1, zn_RX9.2, by decide +kernel⟩
theorem cs_L_law_X9_lying : Cs m_L_law m_X9_lying 1 := ⟨cw_X9_lying, in_X9_lying, cz_X9_lying, Nat.le_of_ble_eq_true rfl, Nat.le_of_ble_eq_true rfl⟩
theorem lk_RL_174 : Lk RL 174 (yn m_X10_lying) := Or.inl (tzc_7 137 (by first | rfl | decide +kernel) rfl)
theorem cz_X10_lying : (yn m_X10_lying).cls ≠ "java/lang/invoke/MethodHandle" ∧ (yn m_X10_lying).cls ≠ "java/lang/invoke/VarHandle" ∧ (parseMethodDescriptor (yn m_X10_lying).desc).map (fun d => d.parameters.length) = some 1 := ⟨zn_RX10.1, zn_RX10.2, by decide +kernel⟩
theorem cs_L_law_X10_lying : Cs m_L_law m_X10_lying 1 := ⟨cw_X10_lying, in_X10_lying, cz_X10_lying, Nat.le_of_ble_eq_true rfl, Nat.le_of_ble_eq_true rfl⟩
theorem lk_RL_175 : Lk RL 175 (yn m_X9_bulb) := Or.inl (tzc_5 64 (by first | rfl | decide +kernel) rfl)
theorem cz_X9_bulb : (yn m_X9_bulb).cls ≠ "java/lang/invoke/MethodHandle" ∧ (yn m_X9_bulb).cls ≠ "java/lang/invoke/VarHandle" ∧ (parseMethodDescriptor (yn m_X9_bulb).desc).map (fun d => d.parameters.length) = some 1 := ⟨zn_RX9.1, zn_RX9.2, by decide +kernel⟩
theorem cs_L_law_X9_bulb : Cs m_L_law m_X9_bulb 1 := ⟨cw_X9_bulb, in_X9_bulb, cz_X9_bulb, Nat.le_of_ble_eq_true rfl, Nat.le_of_ble_eq_true rfl⟩
theorem lk_RL_178 : Lk RL 178 (yn m_X10_bulb) := Or.inl (tzc_7 159 (by first | rfl | decide +kernel) rfl)
theorem cz_X10_bulb : (yn m_X10_bulb).cls ≠ "java/lang/invoke/MethodHandle" ∧ (yn m_X10_bulb).cls ≠ "java/lang/invoke/VarHandle" ∧ (parseMethodDescriptor (yn m_X10_bulb).desc).map (fun d => d.parameters.length) = some 1 := ⟨zn_RX10.1, zn_RX10.2, by decide +kernel⟩
theorem cs_L_law_X10_bulb : Cs m_L_law m_X10_bulb 1 := ⟨cw_X10_bulb, in_X10_bulb, cz_X10_bulb, Nat.le_of_ble_eq_true rfl, Nat.le_of_ble_eq_true rfl⟩
theorem lk_RL_179 : Lk RL 179 (yn m_X9_without) := Or.inl (tzc_5 72 (by first | rfl | decide +kernel) rfl)
theorem cz_X9_without : (yn m_X9_without).cls ≠ "java/lang/invoke/MethodHandle" ∧ (yn m_X9_without).cls ≠ "java/lang/invoke/VarHandle" ∧ (parseMethodDescriptor (yn m_X9_without).desc).map (fun d => d.parameters.length) = some 1 := ⟨zn_RX9.1, zn_RX9.2, by decide +kernel⟩
theorem cs_L_law_X9_without : Cs m_L_law m_X9_without 1 := ⟨cw_X9_without, in_X9_without, cz_X9_without, Nat.le_of_ble_eq_true rfl, Nat.le_of_ble_eq_true rfl⟩
theorem lk_RL_182 : Lk RL 182 (yn m_X10_without) := Or.inl (tzc_7 163 (by first | rfl | decide +kernel) rfl)
theorem cz_X10_without : (yn m_X10_without).cls ≠ "java/lang/invoke/MethodHandle" ∧ (yn m_X10_without).cls ≠ "java/lang/invoke/VarHandle" ∧ (parseMethodDescriptor (yn m_X10_without).desc).map (fun d => d.parameters.length) = some 1 := ⟨zn_RX10.1, zn_RX10.2, by decide +kernel⟩
theorem cs_L_law_X10_without : Cs m_L_law m_X10_without 1 := ⟨cw_X10_without, in_X10_without, cz_X10_without, Nat.le_of_ble_eq_true rfl, Nat.le_of_ble_eq_true rfl⟩
theorem lk_RL_183 : Lk RL 183 (yn m_X9_cheap) := Or.inl (tzc_5 81 (by first | rfl | decide +kernel) rfl)
theorem cz_X9_cheap : (yn m_X9_cheap).cls ≠ "java/lang/invoke/MethodHandle" ∧ (yn m_X9_cheap).cls ≠ "java/lang/invoke/VarHandle" ∧ (parseMethodDescriptor (yn m_X9_cheap).desc).map (fun d => d.parameters.length) = some 3 := ⟨zn_RX9.1, zn_RX9.2, by decide +kernel⟩
theorem cs_L_law_X9_cheap : Cs m_L_law m_X9_cheap 3 := ⟨cw_X9_cheap, in_X9_cheap, cz_X9_cheap, Nat.le_of_ble_eq_true rfl, Nat.le_of_ble_eq_true rfl⟩
theorem lk_RL_186 : Lk RL 186 (yn m_X10_cheap) := Or.inl (tzc_7 167 (by first | rfl | decide +kernel) rfl)
theorem cz_X10_cheap : (yn m_X10_cheap).cls ≠ "java/lang/invoke/MethodHandle" ∧ (yn m_X10_cheap).cls ≠ "java/lang/invoke/VarHandle" ∧ (parseMethodDescriptor (yn m_X10_cheap).desc).map (fun d => d.parameters.length) = some 3 := ⟨zn_RX10.1, zn_RX10.2, by decide +kernel⟩
theorem cs_L_law_X10_cheap : Cs m_L_law m_X10_cheap 3 := ⟨cw_X10_cheap, in_X10_cheap, cz_X10_cheap, Nat.le_of_ble_eq_true rfl, Nat.le_of_ble_eq_true rfl⟩
theorem lk_RL_187 : Lk RL 187 (yn m_X9_store) := Or.inl (tzc_5 85 (by first | rfl | decide +kernel) rfl)
theorem cz_X9_store : (yn m_X9_store).cls ≠ "java/lang/invoke/MethodHandle" ∧ (yn m_X9_store).cls ≠ "java/lang/invoke/VarHandle" ∧ (parseMethodDescriptor (yn m_X9_store).desc).map (fun d => d.parameters.length) = some 2 := ⟨zn_RX9.1, zn_RX9.2, by decide +kernel⟩
theorem cs_L_law_X9_store : Cs m_L_law m_X9_store 2 := ⟨cw_X9_store, in_X9_store, cz_X9_store, Nat.le_of_ble_eq_true rfl, Nat.le_of_ble_eq_true rfl⟩
theorem lk_RL_190 : Lk RL 190 (yn m_X10_store) := Or.inl (tzc_7 172 (by first | rfl | decide +kernel) rfl)
theorem cz_X10_store : (yn m_X10_store).cls ≠ "java/lang/invoke/MethodHandle" ∧ (yn m_X10_store).cls ≠ "java/lang/invoke/VarHandle" ∧ (parseMethodDescriptor (yn m_X10_store).desc).map (fun d => d.parameters.length) = some 2 := ⟨zn_RX10.1, zn_RX10.2, by decide +kernel⟩
theorem cs_L_law_X10_store : Cs m_L_law m_X10_store 2 := ⟨cw_X10_store, in_X10_store, cz_X10_store, Nat.le_of_ble_eq_true rfl, Nat.le_of_ble_eq_true rfl⟩
theorem lk_RL_191 : Lk RL 191 (yn m_X9_seed) := Or.inl (tzc_5 105 (by first | rfl | decide +kernel) rfl)
theorem cz_X9_seed : (yn m_X9_seed).cls ≠ "java/lang/invoke/MethodHandle" ∧ (yn m_X9_seed).cls ≠ "java/lang/invoke/VarHandle" ∧ (parseMethodDescriptor (yn m_X9_seed).desc).map (fun d => d.parameters.length) = some 1 := ⟨zn_RX9.1, zn_RX9.2, by decide +kernel⟩
theorem cs_L_law_X9_seed : Cs m_L_law m_X9_seed 1 := ⟨cw_X9_seed, in_X9_seed, cz_X9_seed, Nat.le_of_ble_eq_true rfl, Nat.le_of_ble_eq_true rfl⟩
theorem lk_RL_194 : Lk RL 194 (yn m_X10_seed) := Or.inl (tzc_7 181 (by first | rfl | decide +kernel) rfl)
theorem cz_X10_seed : (yn m_X10_seed).cls ≠ "java/lang/invoke/MethodHandle" ∧ (yn m_X10_seed).cls ≠ "java/lang/invoke/VarHandle" ∧ (parseMethodDescriptor (yn m_X10_seed).desc).map (fun d => d.parameters.length) = some 1 := ⟨zn_RX10.1, zn_RX10.2, by decide +kernel⟩
theorem cs_L_law_X10_seed : Cs m_L_law m_X10_seed 1 := ⟨cw_X10_seed, in_X10_seed, cz_X10_seed, Nat.le_of_ble_eq_true rfl, Nat.le_of_ble_eq_true rfl⟩
theorem lk_RL_195 : Lk RL 195 (yn m_X9_keep) := Or.inl (tzc_5 109 (by first | rfl | decide +kernel) rfl)
theorem cz_X9_keep : (yn m_X9_keep).cls ≠ "java/lang/invoke/MethodHandle" ∧ (yn m_X9_keep).cls ≠ "java/lang/invoke/VarHandle" ∧ (parseMethodDescriptor (yn m_X9_keep).desc).map (fun d => d.parameters.length) = some 1 := ⟨zn_RX9.1, zn_RX9.2, by decide +kernel⟩
theorem cs_L_law_X9_keep : Cs m_L_law m_X9_keep 1 := ⟨cw_X9_keep, in_X9_keep, cz_X9_keep, Nat.le_of_ble_eq_true rfl, Nat.le_of_ble_eq_true rfl⟩
theorem lk_RL_198 : Lk RL 198 (yn m_X10_keep) := Or.inl (tzc_7 185 (by first | rfl | decide +kernel) rfl)
theorem cz_X10_keep : (yn m_X10_keep).cls ≠ "java/lang/invoke/MethodHandle" ∧ (yn m_X10_keep).cls ≠ "java/lang/invoke/VarHandle" ∧ (parseMethodDescriptor (yn m_X10_keep).desc).map (fun d => d.parameters.length) = some 1 := ⟨zn_RX10.1, zn_RX10.2, by decide +kernel⟩
theorem cs_L_law_X10_keep : Cs m_L_law m_X10_keep 1 := ⟨cw_X10_keep, in_X10_keep, cz_X10_keep, Nat.le_of_ble_eq_true rfl, Nat.le_of_ble_eq_true rfl⟩
theorem lk_RL_199 : Lk RL 199 (yn m_X9_goBack) := Or.inl (tzc_5 118 (by first | rfl | decide +kernel) rfl)
theorem cz_X9_goBack : (yn m_X9_goBack).cls ≠ "java/lang/invoke/MethodHandle" ∧ (yn m_X9_goBack).cls ≠ "java/lang/invoke/VarHandle" ∧ (parseMethodDescriptor (yn m_X9_goBack).desc).map (fun d => d.parameters.length) = some 1 := ⟨zn_RX9.1, zn_RX9.2, by decide +kernel⟩
theorem cs_L_law_X9_goBack : Cs m_L_law m_X9_goBack 1 := ⟨cw_X9_goBack, in_X9_goBack, cz_X9_goBack, Nat.le_of_ble_eq_true rfl, Nat.le_of_ble_eq_true rfl⟩
theorem lk_RL_202 : Lk RL 202 (yn m_X10_goBack) := Or.inl (tzc_7 189 (by first | rfl | decide +kernel) rfl)
theorem cz_X10_goBack : (yn m_X10_goBack).cls ≠ "java/lang/invoke/MethodHandle" ∧ (yn m_X10_goBack).cls ≠ "java/lang/invoke/VarHandle" ∧ (parseMethodDescriptor (yn m_X10_goBack).desc).map (fun d => d.parameters.length) = some 1 := ⟨zn_RX10.1, zn_RX10.2, by decide +kernel⟩
theorem cs_L_law_X10_goBack : Cs m_L_law m_X10_goBack 1 := ⟨cw_X10_goBack, in_X10_goBack, cz_X10_goBack, Nat.le_of_ble_eq_true rfl, Nat.le_of_ble_eq_true rfl⟩
