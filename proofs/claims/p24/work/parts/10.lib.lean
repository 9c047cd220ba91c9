theorem tzm_1 {w : Cond} (h : w ∈ tables_1_1) : w ∈ tables_1 := by
  show w ∈ tables_1_1 ++ (tables_1_2 ++ (tables_1_3 ++ (tables_1_4 ++ (tables_1_5 ++ (tables_1_6 ++ tables_1_7)))))
  simp only [List.mem_append]
  exact (Or.inl h)
theorem tzc_1 {w : Cond} (i : Nat) (h : tables_1_1[i]? = some w) (g : goodWord w = true) : w ∈ TB := tb_of (List.mem_append_right _ (tzm_1 (List.mem_of_getElem? h))) g
theorem tzn_1 {w : Cond} (i : Nat) (h : tables_1_1[i]? = some w) (g : isNst w = true) : w ∈ NB := List.mem_filter.mpr ⟨tzm_1 (List.mem_of_getElem? h), g⟩
theorem tzm_2 {w : Cond} (h : w ∈ tables_1_2) : w ∈ tables_1 := by
  show w ∈ tables_1_1 ++ (tables_1_2 ++ (tables_1_3 ++ (tables_1_4 ++ (tables_1_5 ++ (tables_1_6 ++ tables_1_7)))))
  simp only [List.mem_append]
  exact (Or.inr (Or.inl h))
theorem tzc_2 {w : Cond} (i : Nat) (h : tables_1_2[i]? = some w) (g : goodWord w = true) : w ∈ TB := tb_of (List.mem_append_right _ (tzm_2 (List.mem_of_getElem? h))) g
theorem tzn_2 {w : Cond} (i : Nat) (h : tables_1_2[i]? = some w) (g : isNst w = true) : w ∈ NB := List.mem_filter.mpr ⟨tzm_2 (List.mem_of_getElem? h), g⟩
theorem tzm_3 {w : Cond} (h : w ∈ tables_1_3) : w ∈ tables_1 := by
  show w ∈ tables_1_1 ++ (tables_1_2 ++ (tables_1_3 ++ (tables_1_4 ++ (tables_1_5 ++ (tables_1_6 ++ tables_1_7)))))
  simp only [List.mem_append]
  exact (Or.inr (Or.inr (Or.inl h)))
theorem tzc_3 {w : Cond} (i : Nat) (h : tables_1_3[i]? = some w) (g : goodWord w = true) : w ∈ TB := tb_of (List.mem_append_right _ (tzm_3 (List.mem_of_getElem? h))) g
theorem tzn_3 {w : Cond} (i : Nat) (h : tables_1_3[i]? = some w) (g : isNst w = true) : w ∈ NB := List.mem_filter.mpr ⟨tzm_3 (List.mem_of_getElem? h), g⟩
theorem tzm_4 {w : Cond} (h : w ∈ tables_1_4) : w ∈ tables_1 := by
  show w ∈ tables_1_1 ++ (tables_1_2 ++ (tables_1_3 ++ (tables_1_4 ++ (tables_1_5 ++ (tables_1_6 ++ tables_1_7)))))
  simp only [List.mem_append]
  exact (Or.inr (Or.inr (Or.inr (Or.inl h))))
theorem tzc_4 {w : Cond} (i : Nat) (h : tables_1_4[i]? = some w) (g : goodWord w = true) : w ∈ TB := tb_of (List.mem_append_right _ (tzm_4 (List.mem_of_getElem? h))) g
theorem tzn_4 {w : Cond} (i : Nat) (h : tables_1_4[i]? = some w) (g : isNst w = true) : w ∈ NB := List.mem_filter.mpr ⟨tzm_4 (List.mem_of_getElem? h), g⟩
theorem tzm_5 {w : Cond} (h : w ∈ tables_1_5) : w ∈ tables_1 := by
  show w ∈ tables_1_1 ++ (tables_1_2 ++ (tables_1_3 ++ (tables_1_4 ++ (tables_1_5 ++ (tables_1_6 ++ tables_1_7)))))
  simp only [List.mem_append]
  exact (Or.inr (Or.inr (Or.inr (Or.inr (Or.inl h)))))
theorem tzc_5 {w : Cond} (i : Nat) (h : tables_1_5[i]? = some w) (g : goodWord w = true) : w ∈ TB := tb_of (List.mem_append_right _ (tzm_5 (List.mem_of_getElem? h))) g
theorem tzn_5 {w : Cond} (i : Nat) (h : tables_1_5[i]? = some w) (g : isNst w = true) : w ∈ NB := List.mem_filter.mpr ⟨tzm_5 (List.mem_of_getElem? h), g⟩
theorem tzm_6 {w : Cond} (h : w ∈ tables_1_6) : w ∈ tables_1 := by
  show w ∈ tables_1_1 ++ (tables_1_2 ++ (tables_1_3 ++ (tables_1_4 ++ (tables_1_5 ++ (tables_1_6 ++ tables_1_7)))))
  simp only [List.mem_append]
  exact (Or.inr (Or.inr (Or.inr (Or.inr (Or.inr (Or.inl h))))))
theorem tzc_6 {w : Cond} (i : Nat) (h : tables_1_6[i]? = some w) (g : goodWord w = true) : w ∈ TB := tb_of (List.mem_append_right _ (tzm_6 (List.mem_of_getElem? h))) g
theorem tzn_6 {w : Cond} (i : Nat) (h : tables_1_6[i]? = some w) (g : isNst w = true) : w ∈ NB := List.mem_filter.mpr ⟨tzm_6 (List.mem_of_getElem? h), g⟩
theorem tzm_7 {w : Cond} (h : w ∈ tables_1_7) : w ∈ tables_1 := by
  show w ∈ tables_1_1 ++ (tables_1_2 ++ (tables_1_3 ++ (tables_1_4 ++ (tables_1_5 ++ (tables_1_6 ++ tables_1_7)))))
  simp only [List.mem_append]
  exact (Or.inr (Or.inr (Or.inr (Or.inr (Or.inr (Or.inr h))))))
theorem tzc_7 {w : Cond} (i : Nat) (h : tables_1_7[i]? = some w) (g : goodWord w = true) : w ∈ TB := tb_of (List.mem_append_right _ (tzm_7 (List.mem_of_getElem? h))) g
theorem tzn_7 {w : Cond} (i : Nat) (h : tables_1_7[i]? = some w) (g : isNst w = true) : w ∈ NB := List.mem_filter.mpr ⟨tzm_7 (List.mem_of_getElem? h), g⟩
def m_X0_init : Mr := (yX0_init, cX0_init, 1, none, { frames := 1, cells := 1, slots := 15, locals := 26 })
def m_X0_copyFrom : Mr := (yX0_copyFrom, cX0_copyFrom, 2, none, { frames := 1, cells := 0, slots := 0, locals := 26 })
def m_X0_sealOf : Mr := (yX0_sealOf, cX0_sealOf, 2, (some FieldType.int), { frames := 1, cells := 0, slots := 0, locals := 21 })
def m_X0_powerOf : Mr := (yX0_powerOf, cX0_powerOf, 3, (some FieldType.int), { frames := 1, cells := 0, slots := 0, locals := 21 })
def m_X0_roomOf : Mr := (yX0_roomOf, cX0_roomOf, 5, (some FieldType.int), { frames := 1, cells := 0, slots := 0, locals := 21 })
def m_X1_init : Mr := (yX1_init, cX1_init, 2, none, { frames := 2, cells := 11, slots := 5588, locals := 40 })
def m_X1_forgetSigns : Mr := (yX1_forgetSigns, cX1_forgetSigns, 1, none, { frames := 1, cells := 0, slots := 0, locals := 23 })
def m_X1_signOf : Mr := (yX1_signOf, cX1_signOf, 4, (some FieldType.int), { frames := 1, cells := 0, slots := 0, locals := 21 })
def m_X1_learnCouldBe : Mr := (yX1_learnCouldBe, cX1_learnCouldBe, 3, none, { frames := 5, cells := 0, slots := 0, locals := 132 })
def m_X1_learnParts : Mr := (yX1_learnParts, cX1_learnParts, 4, none, { frames := 5, cells := 0, slots := 0, locals := 132 })
def m_X1_learn : Mr := (yX1_learn, cX1_learn, 9, none, { frames := 4, cells := 0, slots := 0, locals := 104 })
def m_X1_placeOf : Mr := (yX1_placeOf, cX1_placeOf, 2, (some FieldType.int), { frames := 0, cells := 0, slots := 0, locals := 0 })
def m_X1_firstDay : Mr := (yX1_firstDay, cX1_firstDay, 7, (some FieldType.int), { frames := 4, cells := 0, slots := 0, locals := 104 })
def m_X1_usedThawing : Mr := (yX1_usedThawing, cX1_usedThawing, 6, (some FieldType.int), { frames := 4, cells := 0, slots := 0, locals := 104 })
def m_X1_begin : Mr := (yX1_begin, cX1_begin, 3, none, { frames := 2, cells := 0, slots := 0, locals := 45 })
def m_X2_init : Mr := (yX2_init, cX2_init, 2, none, { frames := 1, cells := 7, slots := 93, locals := 23 })
def m_X2_howManySeen : Mr := (yX2_howManySeen, cX2_howManySeen, 3, (some FieldType.int), { frames := 0, cells := 0, slots := 0, locals := 0 })
def m_X2_oddsOf : Mr := (yX2_oddsOf, cX2_oddsOf, 6, (some FieldType.int), { frames := 5, cells := 0, slots := 0, locals := 117 })
def m_X2_oddsWith : Mr := (yX2_oddsWith, cX2_oddsWith, 7, (some FieldType.int), { frames := 5, cells := 0, slots := 0, locals := 117 })
def m_X2_howMuchTells : Mr := (yX2_howMuchTells, cX2_howMuchTells, 3, (some FieldType.int), { frames := 5, cells := 0, slots := 0, locals := 117 })
def m_X2_nextSign : Mr := (yX2_nextSign, cX2_nextSign, 8, (some FieldType.int), { frames := 5, cells := 0, slots := 0, locals := 117 })
def m_X2_share : Mr := (yX2_share, cX2_share, 4, (some FieldType.int), { frames := 0, cells := 0, slots := 0, locals := 0 })
def m_X2_weighAll : Mr := (yX2_weighAll, cX2_weighAll, 5, (some FieldType.long), { frames := 4, cells := 0, slots := 0, locals := 93 })
def m_X2_weightOf : Mr := (yX2_weightOf, cX2_weightOf, 6, (some FieldType.long), { frames := 3, cells := 0, slots := 0, locals := 68 })
def m_X2_halvings : Mr := (yX2_halvings, cX2_halvings, 5, (some FieldType.int), { frames := 2, cells := 0, slots := 0, locals := 44 })
def m_X2_exactOf : Mr := (yX2_exactOf, cX2_exactOf, 2, (some FieldType.int), { frames := 0, cells := 0, slots := 0, locals := 0 })
def m_X2_tellingBy : Mr := (yX2_tellingBy, cX2_tellingBy, 10, (some FieldType.int), { frames := 2, cells := 0, slots := 0, locals := 44 })
def m_X2_isFirstOfClass : Mr := (yX2_isFirstOfClass, cX2_isFirstOfClass, 3, (some FieldType.boolean), { frames := 0, cells := 0, slots := 0, locals := 0 })
def m_X2_weightOfClass : Mr := (yX2_weightOfClass, cX2_weightOfClass, 5, (some FieldType.long), { frames := 0, cells := 0, slots := 0, locals := 0 })
def m_X3_init : Mr := (yX3_init, cX3_init, 1, none, { frames := 1, cells := 3, slots := 312, locals := 20 })
def m_X3_copyFrom : Mr := (yX3_copyFrom, cX3_copyFrom, 6, none, { frames := 1, cells := 0, slots := 0, locals := 21 })
def m_X3_isOpenIn : Mr := (yX3_isOpenIn, cX3_isOpenIn, 2, (some FieldType.boolean), { frames := 0, cells := 0, slots := 0, locals := 0 })
def m_X4_init : Mr := (yX4_init, cX4_init, 2, none, { frames := 1, cells := 1, slots := 7, locals := 23 })
def m_X4_yearOf : Mr := (yX4_yearOf, cX4_yearOf, 3, (some FieldType.int), { frames := 2, cells := 0, slots := 0, locals := 44 })
def m_X4_yearByUse : Mr := (yX4_yearByUse, cX4_yearByUse, 2, (some FieldType.int), { frames := 0, cells := 0, slots := 0, locals := 0 })
def m_X4_saved : Mr := (yX4_saved, cX4_saved, 4, (some FieldType.int), { frames := 3, cells := 0, slots := 0, locals := 66 })
def m_X4_costOf : Mr := (yX4_costOf, cX4_costOf, 4, (some FieldType.int), { frames := 0, cells := 0, slots := 0, locals := 0 })
def m_X4_bestPart : Mr := (yX4_bestPart, cX4_bestPart, 10, (some FieldType.int), { frames := 4, cells := 0, slots := 0, locals := 89 })
def m_X4_yearsToPay : Mr := (yX4_yearsToPay, cX4_yearsToPay, 8, (some FieldType.int), { frames := 3, cells := 0, slots := 0, locals := 66 })
def m_X4_bestThawing : Mr := (yX4_bestThawing, cX4_bestThawing, 14, (some FieldType.int), { frames := 5, cells := 0, slots := 0, locals := 129 })
def m_X5_init : Mr := (yX5_init, cX5_init, 1, none, { frames := 1, cells := 5, slots := 352, locals := 20 })
def m_X5_append : Mr := (yX5_append, cX5_append, 5, (some FieldType.boolean), { frames := 0, cells := 0, slots := 0, locals := 0 })
def m_X5_readBox : Mr := (yX5_readBox, cX5_readBox, 2, none, { frames := 7, cells := 0, slots := 0, locals := 152 })
def m_X5_readDay : Mr := (yX5_readDay, cX5_readDay, 2, none, { frames := 6, cells := 0, slots := 0, locals := 131 })
def m_X5_begin : Mr := (yX5_begin, cX5_begin, 1, none, { frames := 1, cells := 0, slots := 0, locals := 20 })
def m_X5_readClause : Mr := (yX5_readClause, cX5_readClause, 3, none, { frames := 6, cells := 0, slots := 0, locals := 130 })
def m_X5_readClauseNumbers : Mr := (yX5_readClauseNumbers, cX5_readClauseNumbers, 2, none, { frames := 2, cells := 0, slots := 0, locals := 46 })
def m_X5_readOpening : Mr := (yX5_readOpening, cX5_readOpening, 4, none, { frames := 5, cells := 0, slots := 0, locals := 108 })
def m_X5_readClauseEnd : Mr := (yX5_readClauseEnd, cX5_readClauseEnd, 1, none, { frames := 1, cells := 0, slots := 0, locals := 22 })
def m_X5_readNumber : Mr := (yX5_readNumber, cX5_readNumber, 5, (some FieldType.int), { frames := 1, cells := 0, slots := 0, locals := 22 })
def m_X5_readWord : Mr := (yX5_readWord, cX5_readWord, 1, none, { frames := 1, cells := 0, slots := 0, locals := 20 })
def m_X5_skipBlanks : Mr := (yX5_skipBlanks, cX5_skipBlanks, 1, none, { frames := 0, cells := 0, slots := 0, locals := 0 })
def m_X5_clauseFrom : Mr := (yX5_clauseFrom, cX5_clauseFrom, 3, (some FieldType.int), { frames := 5, cells := 0, slots := 0, locals := 108 })
def m_X5_isWord : Mr := (yX5_isWord, cX5_isWord, 4, (some FieldType.boolean), { frames := 4, cells := 0, slots := 0, locals := 85 })
def m_X5_faultAt : Mr := (yX5_faultAt, cX5_faultAt, 3, none, { frames := 0, cells := 0, slots := 0, locals := 0 })
def m_X5_isFigure : Mr := (yX5_isFigure, cX5_isFigure, 1, (some FieldType.boolean), { frames := 0, cells := 0, slots := 0, locals := 0 })
def m_X5_isLetter : Mr := (yX5_isLetter, cX5_isLetter, 1, (some FieldType.boolean), { frames := 0, cells := 0, slots := 0, locals := 0 })
def m_X5_wordOf : Mr := (yX5_wordOf, cX5_wordOf, 1, (some (FieldType.object "java/lang/String")), { frames := 0, cells := 0, slots := 0, locals := 0 })
def m_X6_init : Mr := (yX6_init, cX6_init, 1, none, { frames := 1, cells := 8, slots := 70, locals := 20 })
def m_X6_becomeFresh : Mr := (yX6_becomeFresh, cX6_becomeFresh, 2, none, { frames := 1, cells := 0, slots := 0, locals := 24 })
def m_X6_copyFrom : Mr := (yX6_copyFrom, cX6_copyFrom, 2, none, { frames := 1, cells := 0, slots := 0, locals := 26 })
def m_X6_has : Mr := (yX6_has, cX6_has, 2, (some FieldType.boolean), { frames := 0, cells := 0, slots := 0, locals := 0 })
def m_X6_warmthOf : Mr := (yX6_warmthOf, cX6_warmthOf, 2, (some FieldType.int), { frames := 0, cells := 0, slots := 0, locals := 0 })
def m_X6_tickOfDay : Mr := (yX6_tickOfDay, cX6_tickOfDay, 1, (some FieldType.int), { frames := 0, cells := 0, slots := 0, locals := 0 })
def m_X6_allHeat : Mr := (yX6_allHeat, cX6_allHeat, 4, (some FieldType.long), { frames := 0, cells := 0, slots := 0, locals := 0 })
def m_X6_hasFood : Mr := (yX6_hasFood, cX6_hasFood, 2, (some FieldType.boolean), { frames := 0, cells := 0, slots := 0, locals := 0 })
def m_X6_firstNotThere : Mr := (yX6_firstNotThere, cX6_firstNotThere, 2, (some FieldType.int), { frames := 0, cells := 0, slots := 0, locals := 0 })
def m_X6_foodsThere : Mr := (yX6_foodsThere, cX6_foodsThere, 3, (some FieldType.int), { frames := 0, cells := 0, slots := 0, locals := 0 })
def m_X6_addFood : Mr := (yX6_addFood, cX6_addFood, 5, none, { frames := 0, cells := 0, slots := 0, locals := 0 })
def m_X6_removeFood : Mr := (yX6_removeFood, cX6_removeFood, 2, none, { frames := 0, cells := 0, slots := 0, locals := 0 })
def m_X6_isWithin : Mr := (yX6_isWithin, cX6_isWithin, 3, (some FieldType.boolean), { frames := 1, cells := 0, slots := 0, locals := 21 })
def m_X6_foodsWithin : Mr := (yX6_foodsWithin, cX6_foodsWithin, 3, (some FieldType.int), { frames := 2, cells := 0, slots := 0, locals := 43 })
def m_X6_letOffIce : Mr := (yX6_letOffIce, cX6_letOffIce, 5, (some FieldType.int), { frames := 1, cells := 0, slots := 0, locals := 21 })
def m_X6_draw : Mr := (yX6_draw, cX6_draw, 2, (some FieldType.int), { frames := 0, cells := 0, slots := 0, locals := 0 })
def m_X7_init : Mr := (yX7_init, cX7_init, 3, none, { frames := 1, cells := 2, slots := 24, locals := 20 })
def m_X7_passByDay : Mr := (yX7_passByDay, cX7_passByDay, 5, none, { frames := 3, cells := 0, slots := 0, locals := 80 })
def m_X7_pass : Mr := (yX7_pass, cX7_pass, 7, none, { frames := 2, cells := 0, slots := 0, locals := 54 })
def m_X7_lookAtWarmths : Mr := (yX7_lookAtWarmths, cX7_lookAtWarmths, 3, none, { frames := 1, cells := 0, slots := 0, locals := 21 })
def m_X7_switchMachine : Mr := (yX7_switchMachine, cX7_switchMachine, 6, none, { frames := 1, cells := 0, slots := 0, locals := 21 })
def m_X7_exchange : Mr := (yX7_exchange, cX7_exchange, 7, none, { frames := 1, cells := 0, slots := 0, locals := 28 })
def m_X7_flow : Mr := (yX7_flow, cX7_flow, 9, none, { frames := 0, cells := 0, slots := 0, locals := 0 })
def m_X7_giveLight : Mr := (yX7_giveLight, cX7_giveLight, 4, none, { frames := 0, cells := 0, slots := 0, locals := 0 })
def m_X7_moveOut : Mr := (yX7_moveOut, cX7_moveOut, 4, none, { frames := 1, cells := 0, slots := 0, locals := 21 })
def m_X7_takeWet : Mr := (yX7_takeWet, cX7_takeWet, 5, none, { frames := 1, cells := 0, slots := 0, locals := 21 })
def m_X8_init : Mr := (yX8_init, cX8_init, 3, none, { frames := 2, cells := 10, slots := 92, locals := 40 })
def m_X8_findBestRow : Mr := (yX8_findBestRow, cX8_findBestRow, 4, none, { frames := 5, cells := 0, slots := 0, locals := 127 })
def m_X8_shelfInBestRow : Mr := (yX8_shelfInBestRow, cX8_shelfInBestRow, 2, (some FieldType.int), { frames := 1, cells := 0, slots := 0, locals := 24 })
def m_X8_layByRow : Mr := (yX8_layByRow, cX8_layByRow, 5, none, { frames := 0, cells := 0, slots := 0, locals := 0 })
def m_X8_findBestBulb : Mr := (yX8_findBestBulb, cX8_findBestBulb, 2, none, { frames := 5, cells := 0, slots := 0, locals := 127 })
def m_X8_takeIfMore : Mr := (yX8_takeIfMore, cX8_takeIfMore, 3, none, { frames := 0, cells := 0, slots := 0, locals := 0 })
def m_X8_withinOnSecondDay : Mr := (yX8_withinOnSecondDay, cX8_withinOnSecondDay, 4, (some FieldType.int), { frames := 4, cells := 0, slots := 0, locals := 104 })
def m_X8_ticksWithoutCurrent : Mr := (yX8_ticksWithoutCurrent, cX8_ticksWithoutCurrent, 3, (some FieldType.int), { frames := 4, cells := 0, slots := 0, locals := 104 })
def m_X8_findBestStore : Mr := (yX8_findBestStore, cX8_findBestStore, 5, none, { frames := 4, cells := 0, slots := 0, locals := 110 })
def m_X8_paidStoring : Mr := (yX8_paidStoring, cX8_paidStoring, 11, (some FieldType.int), { frames := 3, cells := 0, slots := 0, locals := 80 })
def m_X8_isCheapHour : Mr := (yX8_isCheapHour, cX8_isCheapHour, 2, (some FieldType.boolean), { frames := 0, cells := 0, slots := 0, locals := 0 })
def m_X8_boxBulb : Mr := (yX8_boxBulb, cX8_boxBulb, 1, (some FieldType.int), { frames := 0, cells := 0, slots := 0, locals := 0 })
def m_X9_init : Mr := (yX9_init, cX9_init, 1, none, { frames := 3, cells := 77, slots := 7068, locals := 62 })
def m_X9_feed : Mr := (yX9_feed, cX9_feed, 4, (some FieldType.int), { frames := 1, cells := 0, slots := 0, locals := 24 })
def m_X9_box : Mr := (yX9_box, cX9_box, 1, (some FieldType.int), { frames := 8, cells := 0, slots := 0, locals := 173 })
def m_X9_day : Mr := (yX9_day, cX9_day, 1, (some FieldType.int), { frames := 7, cells := 0, slots := 0, locals := 152 })
def m_X9_fault : Mr := (yX9_fault, cX9_fault, 1, (some FieldType.int), { frames := 0, cells := 0, slots := 0, locals := 0 })
def m_X9_told : Mr := (yX9_told, cX9_told, 2, (some FieldType.int), { frames := 0, cells := 0, slots := 0, locals := 0 })
def m_X9_opening : Mr := (yX9_opening, cX9_opening, 3, (some FieldType.int), { frames := 0, cells := 0, slots := 0, locals := 0 })
def m_X9_trouble : Mr := (yX9_trouble, cX9_trouble, 3, (some FieldType.int), { frames := 1, cells := 0, slots := 0, locals := 21 })
def m_X9_fresh : Mr := (yX9_fresh, cX9_fresh, 2, (some FieldType.int), { frames := 2, cells := 0, slots := 0, locals := 45 })
def m_X9_current : Mr := (yX9_current, cX9_current, 3, (some FieldType.int), { frames := 0, cells := 0, slots := 0, locals := 0 })
def m_X9_cover : Mr := (yX9_cover, cX9_cover, 3, (some FieldType.int), { frames := 0, cells := 0, slots := 0, locals := 0 })
def m_X9_put : Mr := (yX9_put, cX9_put, 7, (some FieldType.int), { frames := 1, cells := 0, slots := 0, locals := 24 })
def m_X9_take : Mr := (yX9_take, cX9_take, 3, (some FieldType.int), { frames := 1, cells := 0, slots := 0, locals := 21 })
def m_X9_lay : Mr := (yX9_lay, cX9_lay, 4, (some FieldType.int), { frames := 1, cells := 0, slots := 0, locals := 21 })
def m_X9_food : Mr := (yX9_food, cX9_food, 3, (some FieldType.int), { frames := 2, cells := 0, slots := 0, locals := 43 })
def m_X9_run : Mr := (yX9_run, cX9_run, 3, (some FieldType.int), { frames := 4, cells := 0, slots := 0, locals := 104 })
def m_X9_drawn : Mr := (yX9_drawn, cX9_drawn, 6, (some FieldType.int), { frames := 3, cells := 0, slots := 0, locals := 80 })
def m_X9_warmth : Mr := (yX9_warmth, cX9_warmth, 2, (some FieldType.int), { frames := 1, cells := 0, slots := 0, locals := 21 })
def m_X9_heat : Mr := (yX9_heat, cX9_heat, 2, (some FieldType.long), { frames := 1, cells := 0, slots := 0, locals := 23 })
def m_X9_count : Mr := (yX9_count, cX9_count, 2, (some FieldType.int), { frames := 1, cells := 0, slots := 0, locals := 22 })
def m_X9_thaw : Mr := (yX9_thaw, cX9_thaw, 1, (some FieldType.int), { frames := 2, cells := 0, slots := 0, locals := 45 })
def m_X9_sign : Mr := (yX9_sign, cX9_sign, 4, (some FieldType.int), { frames := 5, cells := 0, slots := 0, locals := 132 })
def m_X9_seen : Mr := (yX9_seen, cX9_seen, 4, (some FieldType.int), { frames := 1, cells := 0, slots := 0, locals := 22 })
def m_X9_forget : Mr := (yX9_forget, cX9_forget, 3, (some FieldType.int), { frames := 1, cells := 0, slots := 0, locals := 22 })
def m_X9_prior : Mr := (yX9_prior, cX9_prior, 4, (some FieldType.int), { frames := 1, cells := 0, slots := 0, locals := 20 })
def m_X9_bother : Mr := (yX9_bother, cX9_bother, 4, (some FieldType.int), { frames := 1, cells := 0, slots := 0, locals := 20 })
def m_X9_odds : Mr := (yX9_odds, cX9_odds, 3, (some FieldType.int), { frames := 6, cells := 0, slots := 0, locals := 154 })
def m_X9_each : Mr := (yX9_each, cX9_each, 3, (some FieldType.int), { frames := 6, cells := 0, slots := 0, locals := 154 })
def m_X9_tells : Mr := (yX9_tells, cX9_tells, 3, (some FieldType.int), { frames := 6, cells := 0, slots := 0, locals := 154 })
def m_X9_next : Mr := (yX9_next, cX9_next, 2, (some FieldType.int), { frames := 6, cells := 0, slots := 0, locals := 154 })
def m_X9_makes : Mr := (yX9_makes, cX9_makes, 3, (some FieldType.int), { frames := 5, cells := 0, slots := 0, locals := 130 })
def m_X9_mending : Mr := (yX9_mending, cX9_mending, 4, (some FieldType.int), { frames := 1, cells := 0, slots := 0, locals := 20 })
def m_X9_price : Mr := (yX9_price, cX9_price, 3, (some FieldType.int), { frames := 1, cells := 0, slots := 0, locals := 20 })
def m_X9_year : Mr := (yX9_year, cX9_year, 2, (some FieldType.int), { frames := 5, cells := 0, slots := 0, locals := 132 })
def m_X9_saves : Mr := (yX9_saves, cX9_saves, 3, (some FieldType.int), { frames := 5, cells := 0, slots := 0, locals := 132 })
def m_X9_best : Mr := (yX9_best, cX9_best, 5, (some FieldType.int), { frames := 6, cells := 0, slots := 0, locals := 155 })
def m_X9_pays : Mr := (yX9_pays, cX9_pays, 4, (some FieldType.int), { frames := 5, cells := 0, slots := 0, locals := 132 })
def m_X9_ice : Mr := (yX9_ice, cX9_ice, 4, (some FieldType.int), { frames := 6, cells := 0, slots := 0, locals := 162 })
def m_X9_lying : Mr := (yX9_lying, cX9_lying, 2, (some FieldType.int), { frames := 6, cells := 0, slots := 0, locals := 150 })
def m_X9_bulb : Mr := (yX9_bulb, cX9_bulb, 2, (some FieldType.int), { frames := 6, cells := 0, slots := 0, locals := 148 })
def m_X9_without : Mr := (yX9_without, cX9_without, 2, (some FieldType.int), { frames := 5, cells := 0, slots := 0, locals := 126 })
def m_X9_cheap : Mr := (yX9_cheap, cX9_cheap, 4, (some FieldType.int), { frames := 1, cells := 0, slots := 0, locals := 20 })
def m_X9_store : Mr := (yX9_store, cX9_store, 3, (some FieldType.int), { frames := 5, cells := 0, slots := 0, locals := 134 })
def m_X9_seed : Mr := (yX9_seed, cX9_seed, 3, (some FieldType.int), { frames := 0, cells := 0, slots := 0, locals := 0 })
def m_X9_keep : Mr := (yX9_keep, cX9_keep, 2, (some FieldType.int), { frames := 2, cells := 0, slots := 0, locals := 47 })
def m_X9_goBack : Mr := (yX9_goBack, cX9_goBack, 2, (some FieldType.int), { frames := 2, cells := 0, slots := 0, locals := 47 })
def m_X9_imageOf : Mr := (yX9_imageOf, cX9_imageOf, 2, (some (FieldType.object "ColdBox$State")), { frames := 0, cells := 0, slots := 0, locals := 0 })
def m_X9_drawDoor : Mr := (yX9_drawDoor, cX9_drawDoor, 4, none, { frames := 1, cells := 0, slots := 0, locals := 21 })
def m_X9_isSet : Mr := (yX9_isSet, cX9_isSet, 1, (some FieldType.boolean), { frames := 0, cells := 0, slots := 0, locals := 0 })
def m_X9_isPart : Mr := (yX9_isPart, cX9_isPart, 2, (some FieldType.boolean), { frames := 0, cells := 0, slots := 0, locals := 0 })
def m_X9_isTrouble : Mr := (yX9_isTrouble, cX9_isTrouble, 1, (some FieldType.boolean), { frames := 0, cells := 0, slots := 0, locals := 0 })
def m_X9_isSign : Mr := (yX9_isSign, cX9_isSign, 1, (some FieldType.boolean), { frames := 0, cells := 0, slots := 0, locals := 0 })
def m_X9_isShelf : Mr := (yX9_isShelf, cX9_isShelf, 1, (some FieldType.boolean), { frames := 0, cells := 0, slots := 0, locals := 0 })
def m_X9_isPrice : Mr := (yX9_isPrice, cX9_isPrice, 1, (some FieldType.boolean), { frames := 0, cells := 0, slots := 0, locals := 0 })
def m_X9_canBeWarmth : Mr := (yX9_canBeWarmth, cX9_canBeWarmth, 1, (some FieldType.boolean), { frames := 0, cells := 0, slots := 0, locals := 0 })
def m_X9_areSignDays : Mr := (yX9_areSignDays, cX9_areSignDays, 1, (some FieldType.boolean), { frames := 0, cells := 0, slots := 0, locals := 0 })
def m_X10_init : Mr := (yX10_init, cX10_init, 1, none, { frames := 1, cells := 20, slots := 2073, locals := 20 })
def m_X10_in : Mr := (yX10_in, cX10_in, 6, (some FieldType.boolean), { frames := 0, cells := 0, slots := 0, locals := 0 })
def m_X10_one : Mr := (yX10_one, cX10_one, 1, (some FieldType.int), { frames := 0, cells := 0, slots := 0, locals := 0 })
def m_X10_has : Mr := (yX10_has, cX10_has, 3, (some FieldType.boolean), { frames := 0, cells := 0, slots := 0, locals := 0 })
def m_X10_ones : Mr := (yX10_ones, cX10_ones, 3, (some FieldType.int), { frames := 0, cells := 0, slots := 0, locals := 0 })
def m_X10_untold : Mr := (yX10_untold, cX10_untold, 1, (some FieldType.int), { frames := 0, cells := 0, slots := 0, locals := 0 })
def m_X10_begin : Mr := (yX10_begin, cX10_begin, 2, none, { frames := 2, cells := 0, slots := 0, locals := 50 })
def m_X10_feed : Mr := (yX10_feed, cX10_feed, 5, (some FieldType.int), { frames := 1, cells := 0, slots := 0, locals := 25 })
def m_X10_here : Mr := (yX10_here, cX10_here, 1, (some FieldType.int), { frames := 0, cells := 0, slots := 0, locals := 0 })
def m_X10_want : Mr := (yX10_want, cX10_want, 4, (some FieldType.boolean), { frames := 0, cells := 0, slots := 0, locals := 0 })
def m_X10_takeWord : Mr := (yX10_takeWord, cX10_takeWord, 2, none, { frames := 1, cells := 0, slots := 0, locals := 25 })
def m_X10_isWord : Mr := (yX10_isWord, cX10_isWord, 9, (some FieldType.boolean), { frames := 0, cells := 0, slots := 0, locals := 0 })
def m_X10_takeNumber : Mr := (yX10_takeNumber, cX10_takeNumber, 6, (some FieldType.int), { frames := 1, cells := 0, slots := 0, locals := 25 })
def m_X10_kindHere : Mr := (yX10_kindHere, cX10_kindHere, 1, (some FieldType.int), { frames := 1, cells := 0, slots := 0, locals := 28 })
def m_X10_leastOf : Mr := (yX10_leastOf, cX10_leastOf, 1, (some FieldType.int), { frames := 0, cells := 0, slots := 0, locals := 0 })
def m_X10_mostOf : Mr := (yX10_mostOf, cX10_mostOf, 1, (some FieldType.int), { frames := 0, cells := 0, slots := 0, locals := 0 })
def m_X10_takeClause : Mr := (yX10_takeClause, cX10_takeClause, 2, none, { frames := 2, cells := 0, slots := 0, locals := 50 })
def m_X10_takeEnd : Mr := (yX10_takeEnd, cX10_takeEnd, 1, none, { frames := 1, cells := 0, slots := 0, locals := 23 })
def m_X10_beginReading : Mr := (yX10_beginReading, cX10_beginReading, 1, none, { frames := 0, cells := 0, slots := 0, locals := 0 })
def m_X10_box : Mr := (yX10_box, cX10_box, 4, (some FieldType.int), { frames := 3, cells := 0, slots := 0, locals := 71 })
def m_X10_day : Mr := (yX10_day, cX10_day, 3, (some FieldType.int), { frames := 3, cells := 0, slots := 0, locals := 71 })
def m_X10_fault : Mr := (yX10_fault, cX10_fault, 1, (some FieldType.int), { frames := 0, cells := 0, slots := 0, locals := 0 })
def m_X10_told : Mr := (yX10_told, cX10_told, 2, (some FieldType.int), { frames := 3, cells := 0, slots := 0, locals := 71 })
def m_X10_opening : Mr := (yX10_opening, cX10_opening, 3, (some FieldType.int), { frames := 1, cells := 0, slots := 0, locals := 25 })
def m_X10_copy : Mr := (yX10_copy, cX10_copy, 4, none, { frames := 0, cells := 0, slots := 0, locals := 0 })
def m_X10_freshen : Mr := (yX10_freshen, cX10_freshen, 9, none, { frames := 1, cells := 0, slots := 0, locals := 22 })
def m_X10_tryFresh : Mr := (yX10_tryFresh, cX10_tryFresh, 2, none, { frames := 2, cells := 0, slots := 0, locals := 50 })
def m_X10_capOf : Mr := (yX10_capOf, cX10_capOf, 3, (some FieldType.long), { frames := 0, cells := 0, slots := 0, locals := 0 })
def m_X10_warm : Mr := (yX10_warm, cX10_warm, 3, (some FieldType.long), { frames := 1, cells := 0, slots := 0, locals := 22 })
def m_X10_isOpen : Mr := (yX10_isOpen, cX10_isOpen, 7, (some FieldType.boolean), { frames := 1, cells := 0, slots := 0, locals := 25 })
def m_X10_isHour : Mr := (yX10_isHour, cX10_isHour, 6, (some FieldType.boolean), { frames := 0, cells := 0, slots := 0, locals := 0 })
def m_X10_findFlows : Mr := (yX10_findFlows, cX10_findFlows, 12, none, { frames := 2, cells := 0, slots := 0, locals := 44 })
def m_X10_wet : Mr := (yX10_wet, cX10_wet, 10, none, { frames := 2, cells := 0, slots := 0, locals := 44 })
def m_X10_readBulb : Mr := (yX10_readBulb, cX10_readBulb, 15, none, { frames := 2, cells := 0, slots := 0, locals := 44 })
def m_X10_moves : Mr := (yX10_moves, cX10_moves, 6, (some FieldType.long), { frames := 2, cells := 0, slots := 0, locals := 44 })
def m_X10_tick : Mr := (yX10_tick, cX10_tick, 17, none, { frames := 3, cells := 0, slots := 0, locals := 78 })
def m_X10_go : Mr := (yX10_go, cX10_go, 4, none, { frames := 4, cells := 0, slots := 0, locals := 114 })
def m_X10_isSet : Mr := (yX10_isSet, cX10_isSet, 1, (some FieldType.boolean), { frames := 1, cells := 0, slots := 0, locals := 25 })
def m_X10_isTrouble : Mr := (yX10_isTrouble, cX10_isTrouble, 1, (some FieldType.boolean), { frames := 1, cells := 0, slots := 0, locals := 25 })
def m_X10_trouble : Mr := (yX10_trouble, cX10_trouble, 3, (some FieldType.int), { frames := 3, cells := 0, slots := 0, locals := 71 })
def m_X10_fresh : Mr := (yX10_fresh, cX10_fresh, 2, (some FieldType.int), { frames := 3, cells := 0, slots := 0, locals := 71 })
def m_X10_current : Mr := (yX10_current, cX10_current, 3, (some FieldType.int), { frames := 3, cells := 0, slots := 0, locals := 71 })
def m_X10_cover : Mr := (yX10_cover, cX10_cover, 3, (some FieldType.int), { frames := 3, cells := 0, slots := 0, locals := 71 })
def m_X10_isShelf : Mr := (yX10_isShelf, cX10_isShelf, 1, (some FieldType.boolean), { frames := 1, cells := 0, slots := 0, locals := 25 })
def m_X10_isFood : Mr := (yX10_isFood, cX10_isFood, 2, (some FieldType.boolean), { frames := 1, cells := 0, slots := 0, locals := 25 })
def m_X10_foods : Mr := (yX10_foods, cX10_foods, 3, (some FieldType.int), { frames := 0, cells := 0, slots := 0, locals := 0 })
def m_X10_isDegree : Mr := (yX10_isDegree, cX10_isDegree, 1, (some FieldType.boolean), { frames := 1, cells := 0, slots := 0, locals := 25 })
def m_X10_put : Mr := (yX10_put, cX10_put, 7, (some FieldType.int), { frames := 3, cells := 0, slots := 0, locals := 71 })
def m_X10_take : Mr := (yX10_take, cX10_take, 3, (some FieldType.int), { frames := 3, cells := 0, slots := 0, locals := 71 })
def m_X10_lay : Mr := (yX10_lay, cX10_lay, 4, (some FieldType.int), { frames := 3, cells := 0, slots := 0, locals := 71 })
def m_X10_isWithin : Mr := (yX10_isWithin, cX10_isWithin, 3, (some FieldType.boolean), { frames := 2, cells := 0, slots := 0, locals := 44 })
def m_X10_food : Mr := (yX10_food, cX10_food, 3, (some FieldType.int), { frames := 3, cells := 0, slots := 0, locals := 71 })
def m_X10_run : Mr := (yX10_run, cX10_run, 4, (some FieldType.int), { frames := 5, cells := 0, slots := 0, locals := 137 })
def m_X10_draw : Mr := (yX10_draw, cX10_draw, 2, (some FieldType.int), { frames := 0, cells := 0, slots := 0, locals := 0 })
def m_X10_drawDay : Mr := (yX10_drawDay, cX10_drawDay, 3, none, { frames := 1, cells := 0, slots := 0, locals := 21 })
def m_X10_drawn : Mr := (yX10_drawn, cX10_drawn, 7, (some FieldType.int), { frames := 4, cells := 0, slots := 0, locals := 114 })
def m_X10_warmth : Mr := (yX10_warmth, cX10_warmth, 2, (some FieldType.int), { frames := 3, cells := 0, slots := 0, locals := 71 })
def m_X10_heat : Mr := (yX10_heat, cX10_heat, 5, (some FieldType.long), { frames := 3, cells := 0, slots := 0, locals := 71 })
def m_X10_count : Mr := (yX10_count, cX10_count, 2, (some FieldType.int), { frames := 3, cells := 0, slots := 0, locals := 71 })
def m_X10_melt : Mr := (yX10_melt, cX10_melt, 7, (some FieldType.int), { frames := 2, cells := 0, slots := 0, locals := 44 })
def m_X10_thaw : Mr := (yX10_thaw, cX10_thaw, 1, (some FieldType.int), { frames := 3, cells := 0, slots := 0, locals := 71 })
def m_X10_signOf : Mr := (yX10_signOf, cX10_signOf, 2, (some FieldType.int), { frames := 2, cells := 0, slots := 0, locals := 44 })
def m_X10_findSigns : Mr := (yX10_findSigns, cX10_findSigns, 7, none, { frames := 5, cells := 0, slots := 0, locals := 137 })
def m_X10_isSign : Mr := (yX10_isSign, cX10_isSign, 1, (some FieldType.boolean), { frames := 1, cells := 0, slots := 0, locals := 25 })
def m_X10_areDays : Mr := (yX10_areDays, cX10_areDays, 1, (some FieldType.boolean), { frames := 1, cells := 0, slots := 0, locals := 25 })
def m_X10_sign : Mr := (yX10_sign, cX10_sign, 4, (some FieldType.int), { frames := 6, cells := 0, slots := 0, locals := 163 })
def m_X10_seens : Mr := (yX10_seens, cX10_seens, 3, (some FieldType.int), { frames := 1, cells := 0, slots := 0, locals := 20 })
def m_X10_seen : Mr := (yX10_seen, cX10_seen, 4, (some FieldType.int), { frames := 2, cells := 0, slots := 0, locals := 45 })
def m_X10_forget : Mr := (yX10_forget, cX10_forget, 3, (some FieldType.int), { frames := 2, cells := 0, slots := 0, locals := 42 })
def m_X10_prior : Mr := (yX10_prior, cX10_prior, 4, (some FieldType.int), { frames := 3, cells := 0, slots := 0, locals := 71 })
def m_X10_bother : Mr := (yX10_bother, cX10_bother, 4, (some FieldType.int), { frames := 2, cells := 0, slots := 0, locals := 45 })
def m_X10_couldBe : Mr := (yX10_couldBe, cX10_couldBe, 1, (some FieldType.boolean), { frames := 1, cells := 0, slots := 0, locals := 22 })
def m_X10_weightOf : Mr := (yX10_weightOf, cX10_weightOf, 8, (some FieldType.long), { frames := 1, cells := 0, slots := 0, locals := 22 })
def m_X10_weigh : Mr := (yX10_weigh, cX10_weigh, 4, none, { frames := 6, cells := 0, slots := 0, locals := 163 })
def m_X10_oddsOf : Mr := (yX10_oddsOf, cX10_oddsOf, 2, (some FieldType.int), { frames := 0, cells := 0, slots := 0, locals := 0 })
def m_X10_odds : Mr := (yX10_odds, cX10_odds, 3, (some FieldType.int), { frames := 7, cells := 0, slots := 0, locals := 186 })
def m_X10_each : Mr := (yX10_each, cX10_each, 5, (some FieldType.int), { frames := 7, cells := 0, slots := 0, locals := 186 })
def m_X10_tellsOf : Mr := (yX10_tellsOf, cX10_tellsOf, 9, (some FieldType.int), { frames := 2, cells := 0, slots := 0, locals := 42 })
def m_X10_tells : Mr := (yX10_tells, cX10_tells, 3, (some FieldType.int), { frames := 7, cells := 0, slots := 0, locals := 186 })
def m_X10_next : Mr := (yX10_next, cX10_next, 6, (some FieldType.int), { frames := 7, cells := 0, slots := 0, locals := 186 })
def m_X10_makes : Mr := (yX10_makes, cX10_makes, 6, (some FieldType.int), { frames := 5, cells := 0, slots := 0, locals := 137 })
def m_X10_mending : Mr := (yX10_mending, cX10_mending, 4, (some FieldType.int), { frames := 3, cells := 0, slots := 0, locals := 71 })
def m_X10_price : Mr := (yX10_price, cX10_price, 3, (some FieldType.int), { frames := 3, cells := 0, slots := 0, locals := 71 })
def m_X10_yearOf : Mr := (yX10_yearOf, cX10_yearOf, 2, (some FieldType.int), { frames := 6, cells := 0, slots := 0, locals := 163 })
def m_X10_year : Mr := (yX10_year, cX10_year, 2, (some FieldType.int), { frames := 7, cells := 0, slots := 0, locals := 184 })
def m_X10_saves : Mr := (yX10_saves, cX10_saves, 3, (some FieldType.int), { frames := 7, cells := 0, slots := 0, locals := 184 })
def m_X10_best : Mr := (yX10_best, cX10_best, 11, (some FieldType.int), { frames := 7, cells := 0, slots := 0, locals := 184 })
def m_X10_pays : Mr := (yX10_pays, cX10_pays, 7, (some FieldType.int), { frames := 7, cells := 0, slots := 0, locals := 184 })
def m_X10_iceOf : Mr := (yX10_iceOf, cX10_iceOf, 8, (some FieldType.long), { frames := 5, cells := 0, slots := 0, locals := 137 })
def m_X10_ice : Mr := (yX10_ice, cX10_ice, 10, (some FieldType.int), { frames := 6, cells := 0, slots := 0, locals := 164 })
def m_X10_within : Mr := (yX10_within, cX10_within, 5, (some FieldType.int), { frames := 4, cells := 0, slots := 0, locals := 114 })
def m_X10_powerOf3 : Mr := (yX10_powerOf3, cX10_powerOf3, 3, (some FieldType.int), { frames := 0, cells := 0, slots := 0, locals := 0 })
def m_X10_rowAt : Mr := (yX10_rowAt, cX10_rowAt, 3, (some FieldType.int), { frames := 1, cells := 0, slots := 0, locals := 22 })
def m_X10_placeOf : Mr := (yX10_placeOf, cX10_placeOf, 4, (some FieldType.int), { frames := 0, cells := 0, slots := 0, locals := 0 })
def m_X10_lying : Mr := (yX10_lying, cX10_lying, 7, (some FieldType.int), { frames := 5, cells := 0, slots := 0, locals := 138 })
def m_X10_bulb : Mr := (yX10_bulb, cX10_bulb, 6, (some FieldType.int), { frames := 5, cells := 0, slots := 0, locals := 138 })
def m_X10_without : Mr := (yX10_without, cX10_without, 3, (some FieldType.int), { frames := 5, cells := 0, slots := 0, locals := 137 })
def m_X10_cheap : Mr := (yX10_cheap, cX10_cheap, 4, (some FieldType.int), { frames := 3, cells := 0, slots := 0, locals := 71 })
def m_X10_paid : Mr := (yX10_paid, cX10_paid, 12, (some FieldType.long), { frames := 4, cells := 0, slots := 0, locals := 114 })
def m_X10_store : Mr := (yX10_store, cX10_store, 9, (some FieldType.int), { frames := 5, cells := 0, slots := 0, locals := 145 })
def m_X10_seed : Mr := (yX10_seed, cX10_seed, 3, (some FieldType.int), { frames := 3, cells := 0, slots := 0, locals := 71 })
def m_X10_keep : Mr := (yX10_keep, cX10_keep, 2, (some FieldType.int), { frames := 3, cells := 0, slots := 0, locals := 71 })
def m_X10_goBack : Mr := (yX10_goBack, cX10_goBack, 2, (some FieldType.int), { frames := 3, cells := 0, slots := 0, locals := 71 })
def m_J6_bitCount_0f7a4 : Mr := (yJ6_bitCount_0f7a4, cJ6_bitCount_0f7a4, 1, (some FieldType.int), { frames := 0, cells := 0, slots := 0, locals := 0 })
def m_J0_length_8abf5 : Mr := (yJ0_length_8abf5, cJ0_length_8abf5, 1, (some FieldType.int), { frames := 1, cells := 0, slots := 0, locals := 20 })
def m_J0_charAt_5068e : Mr := (yJ0_charAt_5068e, cJ0_charAt_5068e, 2, (some FieldType.char), { frames := 3, cells := 0, slots := 0, locals := 64 })
def m_J0_coder_7d493 : Mr := (yJ0_coder_7d493, cJ0_coder_7d493, 1, (some FieldType.byte), { frames := 0, cells := 0, slots := 0, locals := 0 })
def m_J0_isLatin1_aae02 : Mr := (yJ0_isLatin1_aae02, cJ0_isLatin1_aae02, 1, (some FieldType.boolean), { frames := 0, cells := 0, slots := 0, locals := 0 })
def m_J0_checkIndex_df160 : Mr := (yJ0_checkIndex_df160, cJ0_checkIndex_df160, 2, none, { frames := 1, cells := 0, slots := 0, locals := 22 })
def m_J1_charAt_3b067 : Mr := (yJ1_charAt_3b067, cJ1_charAt_3b067, 2, (some FieldType.char), { frames := 2, cells := 0, slots := 0, locals := 43 })
def m_J7_fill_d0a16 : Mr := (yJ7_fill_d0a16, cJ7_fill_d0a16, 5, none, { frames := 0, cells := 0, slots := 0, locals := 0 })
def m_J7_fill_53178 : Mr := (yJ7_fill_53178, cJ7_fill_53178, 4, none, { frames := 0, cells := 0, slots := 0, locals := 0 })
def m_J3_checkIndex_8e157 : Mr := (yJ3_checkIndex_8e157, cJ3_checkIndex_8e157, 3, (some FieldType.int), { frames := 0, cells := 0, slots := 0, locals := 0 })
def m_L_law : Mr := (yL_law, cL_law, maxLocals, ret, room_1)
theorem cw_X0_init : Cond.code (yn m_X0_init) (yc m_X0_init) (yl m_X0_init) (yr m_X0_init) ∈ TB := tzc_1 79 (by first | rfl | decide +kernel) rfl
theorem tw_3 : (Cond.initialized "ColdBox$Build") ∈ TB := tzc_1 3 (by first | rfl | decide +kernel) rfl
theorem im_X0_init : Cond.instanceMethod (yn m_X0_init) ∈ TB := tzc_1 78 (by first | rfl | decide +kernel) rfl
theorem in_X0_init : Cond.initialized (yn m_X0_init).cls ∈ TB := tw_3
theorem cw_X0_copyFrom : Cond.code (yn m_X0_copyFrom) (yc m_X0_copyFrom) (yl m_X0_copyFrom) (yr m_X0_copyFrom) ∈ TB := tzc_3 50 (by first | rfl | decide +kernel) rfl
theorem im_X0_copyFrom : Cond.instanceMethod (yn m_X0_copyFrom) ∈ TB := tzc_3 48 (by first | rfl | decide +kernel) rfl
theorem se_X0_copyFrom : Cond.selects (yn m_X0_copyFrom).cls (yn m_X0_copyFrom) (yn m_X0_copyFrom) ∈ TB := tzc_3 49 (by first | rfl | decide +kernel) rfl
theorem in_X0_copyFrom : Cond.initialized (yn m_X0_copyFrom).cls ∈ TB := tw_3
theorem cw_X0_sealOf : Cond.code (yn m_X0_sealOf) (yc m_X0_sealOf) (yl m_X0_sealOf) (yr m_X0_sealOf) ∈ TB := tzc_3 191 (by first | rfl | decide +kernel) rfl
theorem im_X0_sealOf : Cond.instanceMethod (yn m_X0_sealOf) ∈ TB := tzc_3 189 (by first | rfl | decide +kernel) rfl
theorem se_X0_sealOf : Cond.selects (yn m_X0_sealOf).cls (yn m_X0_sealOf) (yn m_X0_sealOf) ∈ TB := tzc_3 190 (by first | rfl | decide +kernel) rfl
theorem in_X0_sealOf : Cond.initialized (yn m_X0_sealOf).cls ∈ TB := tw_3
theorem cw_X0_powerOf : Cond.code (yn m_X0_powerOf) (yc m_X0_powerOf) (yl m_X0_powerOf) (yr m_X0_powerOf) ∈ TB := tzc_3 216 (by first | rfl | decide +kernel) rfl
theorem im_X0_powerOf : Cond.instanceMethod (yn m_X0_powerOf) ∈ TB := tzc_3 214 (by first | rfl | decide +kernel) rfl
theorem se_X0_powerOf : Cond.selects (yn m_X0_powerOf).cls (yn m_X0_powerOf) (yn m_X0_powerOf) ∈ TB := tzc_3 215 (by first | rfl | decide +kernel) rfl
theorem in_X0_powerOf : Cond.initialized (yn m_X0_powerOf).cls ∈ TB := tw_3
theorem cw_X0_roomOf : Cond.code (yn m_X0_roomOf) (yc m_X0_roomOf) (yl m_X0_roomOf) (yr m_X0_roomOf) ∈ TB := tzc_3 185 (by first | rfl | decide +kernel) rfl
theorem im_X0_roomOf : Cond.instanceMethod (yn m_X0_roomOf) ∈ TB := tzc_3 183 (by first | rfl | decide +kernel) rfl
theorem se_X0_roomOf : Cond.selects (yn m_X0_roomOf).cls (yn m_X0_roomOf) (yn m_X0_roomOf) ∈ TB := tzc_3 184 (by first | rfl | decide +kernel) rfl
theorem in_X0_roomOf : Cond.initialized (yn m_X0_roomOf).cls ∈ TB := tw_3
theorem cw_X1_init : Cond.code (yn m_X1_init) (yc m_X1_init) (yl m_X1_init) (yr m_X1_init) ∈ TB := tzc_1 220 (by first | rfl | decide +kernel) rfl
theorem tw_8 : (Cond.initialized "ColdBox$FreshRuns") ∈ TB := tzc_1 8 (by first | rfl | decide +kernel) rfl
theorem im_X1_init : Cond.instanceMethod (yn m_X1_init) ∈ TB := tzc_1 219 (by first | rfl | decide +kernel) rfl
theorem in_X1_init : Cond.initialized (yn m_X1_init).cls ∈ TB := tw_8
theorem cw_X1_forgetSigns : Cond.code (yn m_X1_forgetSigns) (yc m_X1_forgetSigns) (yl m_X1_forgetSigns) (yr m_X1_forgetSigns) ∈ TB := tzc_3 54 (by first | rfl | decide +kernel) rfl
theorem im_X1_forgetSigns : Cond.instanceMethod (yn m_X1_forgetSigns) ∈ TB := tzc_3 52 (by first | rfl | decide +kernel) rfl
theorem se_X1_forgetSigns : Cond.selects (yn m_X1_forgetSigns).cls (yn m_X1_forgetSigns) (yn m_X1_forgetSigns) ∈ TB := tzc_3 53 (by first | rfl | decide +kernel) rfl
theorem in_X1_forgetSigns : Cond.initialized (yn m_X1_forgetSigns).cls ∈ TB := tw_8
theorem cw_X1_signOf : Cond.code (yn m_X1_signOf) (yc m_X1_signOf) (yl m_X1_signOf) (yr m_X1_signOf) ∈ TB := tzc_4 66 (by first | rfl | decide +kernel) rfl
theorem im_X1_signOf : Cond.instanceMethod (yn m_X1_signOf) ∈ TB := tzc_4 64 (by first | rfl | decide +kernel) rfl
theorem se_X1_signOf : Cond.selects (yn m_X1_signOf).cls (yn m_X1_signOf) (yn m_X1_signOf) ∈ TB := tzc_4 65 (by first | rfl | decide +kernel) rfl
theorem in_X1_signOf : Cond.initialized (yn m_X1_signOf).cls ∈ TB := tw_8
theorem cw_X1_learnCouldBe : Cond.code (yn m_X1_learnCouldBe) (yc m_X1_learnCouldBe) (yl m_X1_learnCouldBe) (yr m_X1_learnCouldBe) ∈ TB := tzc_4 106 (by first | rfl | decide +kernel) rfl
theorem im_X1_learnCouldBe : Cond.instanceMethod (yn m_X1_learnCouldBe) ∈ TB := tzc_4 104 (by first | rfl | decide +kernel) rfl
theorem se_X1_learnCouldBe : Cond.selects (yn m_X1_learnCouldBe).cls (yn m_X1_learnCouldBe) (yn m_X1_learnCouldBe) ∈ TB := tzc_4 105 (by first | rfl | decide +kernel) rfl
theorem in_X1_learnCouldBe : Cond.initialized (yn m_X1_learnCouldBe).cls ∈ TB := tw_8
theorem cw_X1_learnParts : Cond.code (yn m_X1_learnParts) (yc m_X1_learnParts) (yl m_X1_learnParts) (yr m_X1_learnParts) ∈ TB := tzc_4 230 (by first | rfl | decide +kernel) rfl
theorem im_X1_learnParts : Cond.instanceMethod (yn m_X1_learnParts) ∈ TB := tzc_4 228 (by first | rfl | decide +kernel) rfl
theorem se_X1_learnParts : Cond.selects (yn m_X1_learnParts).cls (yn m_X1_learnParts) (yn m_X1_learnParts) ∈ TB := tzc_4 229 (by first | rfl | decide +kernel) rfl
theorem in_X1_learnParts : Cond.initialized (yn m_X1_learnParts).cls ∈ TB := tw_8
theorem cw_X1_learn : Cond.code (yn m_X1_learn) (yc m_X1_learn) (yl m_X1_learn) (yr m_X1_learn) ∈ TB := tzc_4 50 (by first | rfl | decide +kernel) rfl
theorem im_X1_learn : Cond.instanceMethod (yn m_X1_learn) ∈ TB := tzc_4 48 (by first | rfl | decide +kernel) rfl
theorem se_X1_learn : Cond.selects (yn m_X1_learn).cls (yn m_X1_learn) (yn m_X1_learn) ∈ TB := tzc_4 49 (by first | rfl | decide +kernel) rfl
theorem in_X1_learn : Cond.initialized (yn m_X1_learn).cls ∈ TB := tw_8
theorem cw_X1_placeOf : Cond.code (yn m_X1_placeOf) (yc m_X1_placeOf) (yl m_X1_placeOf) (yr m_X1_placeOf) ∈ TB := tzc_4 61 (by first | rfl | decide +kernel) rfl
theorem im_X1_placeOf : Cond.static (yn m_X1_placeOf) ∈ TB := tzc_4 60 (by first | rfl | decide +kernel) rfl
theorem in_X1_placeOf : Cond.initialized (yn m_X1_placeOf).cls ∈ TB := tw_8
theorem cw_X1_firstDay : Cond.code (yn m_X1_firstDay) (yc m_X1_firstDay) (yl m_X1_firstDay) (yr m_X1_firstDay) ∈ TB := tzc_4 183 (by first | rfl | decide +kernel) rfl
theorem im_X1_firstDay : Cond.instanceMethod (yn m_X1_firstDay) ∈ TB := tzc_4 181 (by first | rfl | decide +kernel) rfl
theorem se_X1_firstDay : Cond.selects (yn m_X1_firstDay).cls (yn m_X1_firstDay) (yn m_X1_firstDay) ∈ TB := tzc_4 182 (by first | rfl | decide +kernel) rfl
theorem in_X1_firstDay : Cond.initialized (yn m_X1_firstDay).cls ∈ TB := tw_8
theorem cw_X1_usedThawing : Cond.code (yn m_X1_usedThawing) (yc m_X1_usedThawing) (yl m_X1_usedThawing) (yr m_X1_usedThawing) ∈ TB := tzc_5 22 (by first | rfl | decide +kernel) rfl
theorem im_X1_usedThawing : Cond.instanceMethod (yn m_X1_usedThawing) ∈ TB := tzc_5 20 (by first | rfl | decide +kernel) rfl
theorem se_X1_usedThawing : Cond.selects (yn m_X1_usedThawing).cls (yn m_X1_usedThawing) (yn m_X1_usedThawing) ∈ TB := tzc_5 21 (by first | rfl | decide +kernel) rfl
theorem in_X1_usedThawing : Cond.initialized (yn m_X1_usedThawing).cls ∈ TB := tw_8
theorem cw_X1_begin : Cond.code (yn m_X1_begin) (yc m_X1_begin) (yl m_X1_begin) (yr m_X1_begin) ∈ TB := tzc_4 56 (by first | rfl | decide +kernel) rfl
theorem im_X1_begin : Cond.instanceMethod (yn m_X1_begin) ∈ TB := tzc_4 55 (by first | rfl | decide +kernel) rfl
theorem se_X1_begin : Cond.selects (yn m_X1_begin).cls (yn m_X1_begin) (yn m_X1_begin) ∈ TB := tb_sel 19 (by first | rfl | decide +kernel) rfl
theorem in_X1_begin : Cond.initialized (yn m_X1_begin).cls ∈ TB := tw_8
theorem cw_X2_init : Cond.code (yn m_X2_init) (yc m_X2_init) (yl m_X2_init) (yr m_X2_init) ∈ TB := tzc_2 1 (by first | rfl | decide +kernel) rfl
theorem tw_9 : (Cond.initialized "ColdBox$Guess") ∈ TB := tzc_1 9 (by first | rfl | decide +kernel) rfl
theorem im_X2_init : Cond.instanceMethod (yn m_X2_init) ∈ TB := tzc_2 0 (by first | rfl | decide +kernel) rfl
theorem in_X2_init : Cond.initialized (yn m_X2_init).cls ∈ TB := tw_9
theorem cw_X2_howManySeen : Cond.code (yn m_X2_howManySeen) (yc m_X2_howManySeen) (yl m_X2_howManySeen) (yr m_X2_howManySeen) ∈ TB := tzc_4 77 (by first | rfl | decide +kernel) rfl
theorem im_X2_howManySeen : Cond.instanceMethod (yn m_X2_howManySeen) ∈ TB := tzc_4 75 (by first | rfl | decide +kernel) rfl
theorem se_X2_howManySeen : Cond.selects (yn m_X2_howManySeen).cls (yn m_X2_howManySeen) (yn m_X2_howManySeen) ∈ TB := tzc_4 76 (by first | rfl | decide +kernel) rfl
theorem in_X2_howManySeen : Cond.initialized (yn m_X2_howManySeen).cls ∈ TB := tw_9
theorem cw_X2_oddsOf : Cond.code (yn m_X2_oddsOf) (yc m_X2_oddsOf) (yl m_X2_oddsOf) (yr m_X2_oddsOf) ∈ TB := tzc_4 112 (by first | rfl | decide +kernel) rfl
theorem im_X2_oddsOf : Cond.instanceMethod (yn m_X2_oddsOf) ∈ TB := tzc_4 110 (by first | rfl | decide +kernel) rfl
theorem se_X2_oddsOf : Cond.selects (yn m_X2_oddsOf).cls (yn m_X2_oddsOf) (yn m_X2_oddsOf) ∈ TB := tzc_4 111 (by first | rfl | decide +kernel) rfl
theorem in_X2_oddsOf : Cond.initialized (yn m_X2_oddsOf).cls ∈ TB := tw_9
theorem cw_X2_oddsWith : Cond.code (yn m_X2_oddsWith) (yc m_X2_oddsWith) (yl m_X2_oddsWith) (yr m_X2_oddsWith) ∈ TB := tzc_4 147 (by first | rfl | decide +kernel) rfl
theorem im_X2_oddsWith : Cond.instanceMethod (yn m_X2_oddsWith) ∈ TB := tzc_4 145 (by first | rfl | decide +kernel) rfl
theorem se_X2_oddsWith : Cond.selects (yn m_X2_oddsWith).cls (yn m_X2_oddsWith) (yn m_X2_oddsWith) ∈ TB := tzc_4 146 (by first | rfl | decide +kernel) rfl
theorem in_X2_oddsWith : Cond.initialized (yn m_X2_oddsWith).cls ∈ TB := tw_9
theorem cw_X2_howMuchTells : Cond.code (yn m_X2_howMuchTells) (yc m_X2_howMuchTells) (yl m_X2_howMuchTells) (yr m_X2_howMuchTells) ∈ TB := tzc_4 155 (by first | rfl | decide +kernel) rfl
theorem im_X2_howMuchTells : Cond.instanceMethod (yn m_X2_howMuchTells) ∈ TB := tzc_4 153 (by first | rfl | decide +kernel) rfl
theorem se_X2_howMuchTells : Cond.selects (yn m_X2_howMuchTells).cls (yn m_X2_howMuchTells) (yn m_X2_howMuchTells) ∈ TB := tzc_4 154 (by first | rfl | decide +kernel) rfl
theorem in_X2_howMuchTells : Cond.initialized (yn m_X2_howMuchTells).cls ∈ TB := tw_9
theorem cw_X2_nextSign : Cond.code (yn m_X2_nextSign) (yc m_X2_nextSign) (yl m_X2_nextSign) (yr m_X2_nextSign) ∈ TB := tzc_4 175 (by first | rfl | decide +kernel) rfl
theorem im_X2_nextSign : Cond.instanceMethod (yn m_X2_nextSign) ∈ TB := tzc_4 173 (by first | rfl | decide +kernel) rfl
theorem se_X2_nextSign : Cond.selects (yn m_X2_nextSign).cls (yn m_X2_nextSign) (yn m_X2_nextSign) ∈ TB := tzc_4 174 (by first | rfl | decide +kernel) rfl
theorem in_X2_nextSign : Cond.initialized (yn m_X2_nextSign).cls ∈ TB := tw_9
theorem cw_X2_share : Cond.code (yn m_X2_share) (yc m_X2_share) (yl m_X2_share) (yr m_X2_share) ∈ TB := tzc_4 139 (by first | rfl | decide +kernel) rfl
theorem im_X2_share : Cond.instanceMethod (yn m_X2_share) ∈ TB := tzc_4 138 (by first | rfl | decide +kernel) rfl
theorem se_X2_share : Cond.selects (yn m_X2_share).cls (yn m_X2_share) (yn m_X2_share) ∈ TB := tb_sel 24 (by first | rfl | decide +kernel) rfl
theorem in_X2_share : Cond.initialized (yn m_X2_share).cls ∈ TB := tw_9
theorem cw_X2_weighAll : Cond.code (yn m_X2_weighAll) (yc m_X2_weighAll) (yl m_X2_weighAll) (yr m_X2_weighAll) ∈ TB := tzc_4 116 (by first | rfl | decide +kernel) rfl
theorem im_X2_weighAll : Cond.instanceMethod (yn m_X2_weighAll) ∈ TB := tzc_4 115 (by first | rfl | decide +kernel) rfl
theorem se_X2_weighAll : Cond.selects (yn m_X2_weighAll).cls (yn m_X2_weighAll) (yn m_X2_weighAll) ∈ TB := tb_sel 20 (by first | rfl | decide +kernel) rfl
theorem in_X2_weighAll : Cond.initialized (yn m_X2_weighAll).cls ∈ TB := tw_9
theorem cw_X2_weightOf : Cond.code (yn m_X2_weightOf) (yc m_X2_weightOf) (yl m_X2_weightOf) (yr m_X2_weightOf) ∈ TB := tzc_4 120 (by first | rfl | decide +kernel) rfl
theorem im_X2_weightOf : Cond.instanceMethod (yn m_X2_weightOf) ∈ TB := tzc_4 119 (by first | rfl | decide +kernel) rfl
theorem se_X2_weightOf : Cond.selects (yn m_X2_weightOf).cls (yn m_X2_weightOf) (yn m_X2_weightOf) ∈ TB := tb_sel 21 (by first | rfl | decide +kernel) rfl
theorem in_X2_weightOf : Cond.initialized (yn m_X2_weightOf).cls ∈ TB := tw_9
theorem cw_X2_halvings : Cond.code (yn m_X2_halvings) (yc m_X2_halvings) (yl m_X2_halvings) (yr m_X2_halvings) ∈ TB := tzc_4 126 (by first | rfl | decide +kernel) rfl
theorem im_X2_halvings : Cond.instanceMethod (yn m_X2_halvings) ∈ TB := tzc_4 125 (by first | rfl | decide +kernel) rfl
theorem se_X2_halvings : Cond.selects (yn m_X2_halvings).cls (yn m_X2_halvings) (yn m_X2_halvings) ∈ TB := tb_sel 22 (by first | rfl | decide +kernel) rfl
theorem in_X2_halvings : Cond.initialized (yn m_X2_halvings).cls ∈ TB := tw_9
theorem cw_X2_exactOf : Cond.code (yn m_X2_exactOf) (yc m_X2_exactOf) (yl m_X2_exactOf) (yr m_X2_exactOf) ∈ TB := tzc_4 134 (by first | rfl | decide +kernel) rfl
theorem im_X2_exactOf : Cond.instanceMethod (yn m_X2_exactOf) ∈ TB := tzc_4 133 (by first | rfl | decide +kernel) rfl
theorem se_X2_exactOf : Cond.selects (yn m_X2_exactOf).cls (yn m_X2_exactOf) (yn m_X2_exactOf) ∈ TB := tb_sel 23 (by first | rfl | decide +kernel) rfl
theorem in_X2_exactOf : Cond.initialized (yn m_X2_exactOf).cls ∈ TB := tw_9
theorem cw_X2_tellingBy : Cond.code (yn m_X2_tellingBy) (yc m_X2_tellingBy) (yl m_X2_tellingBy) (yr m_X2_tellingBy) ∈ TB := tzc_4 159 (by first | rfl | decide +kernel) rfl
theorem im_X2_tellingBy : Cond.instanceMethod (yn m_X2_tellingBy) ∈ TB := tzc_4 158 (by first | rfl | decide +kernel) rfl
theorem se_X2_tellingBy : Cond.selects (yn m_X2_tellingBy).cls (yn m_X2_tellingBy) (yn m_X2_tellingBy) ∈ TB := tb_sel 25 (by first | rfl | decide +kernel) rfl
theorem in_X2_tellingBy : Cond.initialized (yn m_X2_tellingBy).cls ∈ TB := tw_9
theorem cw_X2_isFirstOfClass : Cond.code (yn m_X2_isFirstOfClass) (yc m_X2_isFirstOfClass) (yl m_X2_isFirstOfClass) (yr m_X2_isFirstOfClass) ∈ TB := tzc_4 163 (by first | rfl | decide +kernel) rfl
theorem im_X2_isFirstOfClass : Cond.instanceMethod (yn m_X2_isFirstOfClass) ∈ TB := tzc_4 162 (by first | rfl | decide +kernel) rfl
theorem se_X2_isFirstOfClass : Cond.selects (yn m_X2_isFirstOfClass).cls (yn m_X2_isFirstOfClass) (yn m_X2_isFirstOfClass) ∈ TB := tb_sel 26 (by first | rfl | decide +kernel) rfl
theorem in_X2_isFirstOfClass : Cond.initialized (yn m_X2_isFirstOfClass).cls ∈ TB := tw_9
theorem cw_X2_weightOfClass : Cond.code (yn m_X2_weightOfClass) (yc m_X2_weightOfClass) (yl m_X2_weightOfClass) (yr m_X2_weightOfClass) ∈ TB := tzc_4 167 (by first | rfl | decide +kernel) rfl
theorem im_X2_weightOfClass : Cond.instanceMethod (yn m_X2_weightOfClass) ∈ TB := tzc_4 166 (by first | rfl | decide +kernel) rfl
theorem se_X2_weightOfClass : Cond.selects (yn m_X2_weightOfClass).cls (yn m_X2_weightOfClass) (yn m_X2_weightOfClass) ∈ TB := tb_sel 27 (by first | rfl | decide +kernel) rfl
theorem in_X2_weightOfClass : Cond.initialized (yn m_X2_weightOfClass).cls ∈ TB := tw_9
theorem cw_X3_init : Cond.code (yn m_X3_init) (yc m_X3_init) (yl m_X3_init) (yr m_X3_init) ∈ TB := tzc_1 98 (by first | rfl | decide +kernel) rfl
theorem tw_5 : (Cond.initialized "ColdBox$Openings") ∈ TB := tzc_1 5 (by first | rfl | decide +kernel) rfl
theorem im_X3_init : Cond.instanceMethod (yn m_X3_init) ∈ TB := tzc_1 97 (by first | rfl | decide +kernel) rfl
theorem in_X3_init : Cond.initialized (yn m_X3_init).cls ∈ TB := tw_5
theorem cw_X3_copyFrom : Cond.code (yn m_X3_copyFrom) (yc m_X3_copyFrom) (yl m_X3_copyFrom) (yr m_X3_copyFrom) ∈ TB := tzc_3 73 (by first | rfl | decide +kernel) rfl
theorem im_X3_copyFrom : Cond.instanceMethod (yn m_X3_copyFrom) ∈ TB := tzc_3 71 (by first | rfl | decide +kernel) rfl
theorem se_X3_copyFrom : Cond.selects (yn m_X3_copyFrom).cls (yn m_X3_copyFrom) (yn m_X3_copyFrom) ∈ TB := tzc_3 72 (by first | rfl | decide +kernel) rfl
theorem in_X3_copyFrom : Cond.initialized (yn m_X3_copyFrom).cls ∈ TB := tw_5
theorem cw_X3_isOpenIn : Cond.code (yn m_X3_isOpenIn) (yc m_X3_isOpenIn) (yl m_X3_isOpenIn) (yr m_X3_isOpenIn) ∈ TB := tzc_3 172 (by first | rfl | decide +kernel) rfl
theorem im_X3_isOpenIn : Cond.instanceMethod (yn m_X3_isOpenIn) ∈ TB := tzc_3 170 (by first | rfl | decide +kernel) rfl
theorem se_X3_isOpenIn : Cond.selects (yn m_X3_isOpenIn).cls (yn m_X3_isOpenIn) (yn m_X3_isOpenIn) ∈ TB := tzc_3 171 (by first | rfl | decide +kernel) rfl
theorem in_X3_isOpenIn : Cond.initialized (yn m_X3_isOpenIn).cls ∈ TB := tw_5
theorem cw_X4_init : Cond.code (yn m_X4_init) (yc m_X4_init) (yl m_X4_init) (yr m_X4_init) ∈ TB := tzc_2 42 (by first | rfl | decide +kernel) rfl
theorem tw_11 : (Cond.initialized "ColdBox$Purse") ∈ TB := tzc_1 11 (by first | rfl | decide +kernel) rfl
theorem im_X4_init : Cond.instanceMethod (yn m_X4_init) ∈ TB := tzc_2 41 (by first | rfl | decide +kernel) rfl
theorem in_X4_init : Cond.initialized (yn m_X4_init).cls ∈ TB := tw_11
theorem cw_X4_yearOf : Cond.code (yn m_X4_yearOf) (yc m_X4_yearOf) (yl m_X4_yearOf) (yr m_X4_yearOf) ∈ TB := tzc_4 202 (by first | rfl | decide +kernel) rfl
theorem im_X4_yearOf : Cond.instanceMethod (yn m_X4_yearOf) ∈ TB := tzc_4 200 (by first | rfl | decide +kernel) rfl
theorem se_X4_yearOf : Cond.selects (yn m_X4_yearOf).cls (yn m_X4_yearOf) (yn m_X4_yearOf) ∈ TB := tzc_4 201 (by first | rfl | decide +kernel) rfl
theorem in_X4_yearOf : Cond.initialized (yn m_X4_yearOf).cls ∈ TB := tw_11
theorem cw_X4_yearByUse : Cond.code (yn m_X4_yearByUse) (yc m_X4_yearByUse) (yl m_X4_yearByUse) (yr m_X4_yearByUse) ∈ TB := tzc_4 207 (by first | rfl | decide +kernel) rfl
theorem im_X4_yearByUse : Cond.instanceMethod (yn m_X4_yearByUse) ∈ TB := tzc_4 206 (by first | rfl | decide +kernel) rfl
theorem se_X4_yearByUse : Cond.selects (yn m_X4_yearByUse).cls (yn m_X4_yearByUse) (yn m_X4_yearByUse) ∈ TB := tb_sel 28 (by first | rfl | decide +kernel) rfl
theorem in_X4_yearByUse : Cond.initialized (yn m_X4_yearByUse).cls ∈ TB := tw_11
theorem cw_X4_saved : Cond.code (yn m_X4_saved) (yc m_X4_saved) (yl m_X4_saved) (yr m_X4_saved) ∈ TB := tzc_4 221 (by first | rfl | decide +kernel) rfl
theorem im_X4_saved : Cond.instanceMethod (yn m_X4_saved) ∈ TB := tzc_4 219 (by first | rfl | decide +kernel) rfl
theorem se_X4_saved : Cond.selects (yn m_X4_saved).cls (yn m_X4_saved) (yn m_X4_saved) ∈ TB := tzc_4 220 (by first | rfl | decide +kernel) rfl
theorem in_X4_saved : Cond.initialized (yn m_X4_saved).cls ∈ TB := tw_11
theorem cw_X4_costOf : Cond.code (yn m_X4_costOf) (yc m_X4_costOf) (yl m_X4_costOf) (yr m_X4_costOf) ∈ TB := tzc_4 239 (by first | rfl | decide +kernel) rfl
theorem im_X4_costOf : Cond.instanceMethod (yn m_X4_costOf) ∈ TB := tzc_4 237 (by first | rfl | decide +kernel) rfl
theorem se_X4_costOf : Cond.selects (yn m_X4_costOf).cls (yn m_X4_costOf) (yn m_X4_costOf) ∈ TB := tzc_4 238 (by first | rfl | decide +kernel) rfl
theorem in_X4_costOf : Cond.initialized (yn m_X4_costOf).cls ∈ TB := tw_11
theorem cw_X4_bestPart : Cond.code (yn m_X4_bestPart) (yc m_X4_bestPart) (yl m_X4_bestPart) (yr m_X4_bestPart) ∈ TB := tzc_4 235 (by first | rfl | decide +kernel) rfl
theorem im_X4_bestPart : Cond.instanceMethod (yn m_X4_bestPart) ∈ TB := tzc_4 233 (by first | rfl | decide +kernel) rfl
theorem se_X4_bestPart : Cond.selects (yn m_X4_bestPart).cls (yn m_X4_bestPart) (yn m_X4_bestPart) ∈ TB := tzc_4 234 (by first | rfl | decide +kernel) rfl
theorem in_X4_bestPart : Cond.initialized (yn m_X4_bestPart).cls ∈ TB := tw_11
theorem cw_X4_yearsToPay : Cond.code (yn m_X4_yearsToPay) (yc m_X4_yearsToPay) (yl m_X4_yearsToPay) (yr m_X4_yearsToPay) ∈ TB := tzc_5 10 (by first | rfl | decide +kernel) rfl
theorem im_X4_yearsToPay : Cond.instanceMethod (yn m_X4_yearsToPay) ∈ TB := tzc_5 8 (by first | rfl | decide +kernel) rfl
theorem se_X4_yearsToPay : Cond.selects (yn m_X4_yearsToPay).cls (yn m_X4_yearsToPay) (yn m_X4_yearsToPay) ∈ TB := tzc_5 9 (by first | rfl | decide +kernel) rfl
theorem in_X4_yearsToPay : Cond.initialized (yn m_X4_yearsToPay).cls ∈ TB := tw_11
theorem cw_X4_bestThawing : Cond.code (yn m_X4_bestThawing) (yc m_X4_bestThawing) (yl m_X4_bestThawing) (yr m_X4_bestThawing) ∈ TB := tzc_5 18 (by first | rfl | decide +kernel) rfl
theorem im_X4_bestThawing : Cond.instanceMethod (yn m_X4_bestThawing) ∈ TB := tzc_5 16 (by first | rfl | decide +kernel) rfl
theorem se_X4_bestThawing : Cond.selects (yn m_X4_bestThawing).cls (yn m_X4_bestThawing) (yn m_X4_bestThawing) ∈ TB := tzc_5 17 (by first | rfl | decide +kernel) rfl
theorem in_X4_bestThawing : Cond.initialized (yn m_X4_bestThawing).cls ∈ TB := tw_11
theorem cw_X5_init : Cond.code (yn m_X5_init) (yc m_X5_init) (yl m_X5_init) (yr m_X5_init) ∈ TB := tzc_1 32 (by first | rfl | decide +kernel) rfl
theorem tw_2 : (Cond.initialized "ColdBox$Reader") ∈ TB := tzc_1 2 (by first | rfl | decide +kernel) rfl
theorem im_X5_init : Cond.instanceMethod (yn m_X5_init) ∈ TB := tzc_1 31 (by first | rfl | decide +kernel) rfl
theorem in_X5_init : Cond.initialized (yn m_X5_init).cls ∈ TB := tw_2
theorem cw_X5_append : Cond.code (yn m_X5_append) (yc m_X5_append) (yl m_X5_append) (yr m_X5_append) ∈ TB := tzc_2 160 (by first | rfl | decide +kernel) rfl
theorem im_X5_append : Cond.instanceMethod (yn m_X5_append) ∈ TB := tzc_2 158 (by first | rfl | decide +kernel) rfl
theorem se_X5_append : Cond.selects (yn m_X5_append).cls (yn m_X5_append) (yn m_X5_append) ∈ TB := tzc_2 159 (by first | rfl | decide +kernel) rfl
theorem in_X5_append : Cond.initialized (yn m_X5_append).cls ∈ TB := tw_2
theorem cw_X5_readBox : Cond.code (yn m_X5_readBox) (yc m_X5_readBox) (yl m_X5_readBox) (yr m_X5_readBox) ∈ TB := tzc_2 170 (by first | rfl | decide +kernel) rfl
theorem im_X5_readBox : Cond.instanceMethod (yn m_X5_readBox) ∈ TB := tzc_2 168 (by first | rfl | decide +kernel) rfl
theorem se_X5_readBox : Cond.selects (yn m_X5_readBox).cls (yn m_X5_readBox) (yn m_X5_readBox) ∈ TB := tzc_2 169 (by first | rfl | decide +kernel) rfl
theorem in_X5_readBox : Cond.initialized (yn m_X5_readBox).cls ∈ TB := tw_2
theorem cw_X5_readDay : Cond.code (yn m_X5_readDay) (yc m_X5_readDay) (yl m_X5_readDay) (yr m_X5_readDay) ∈ TB := tzc_3 64 (by first | rfl | decide +kernel) rfl
theorem im_X5_readDay : Cond.instanceMethod (yn m_X5_readDay) ∈ TB := tzc_3 62 (by first | rfl | decide +kernel) rfl
theorem se_X5_readDay : Cond.selects (yn m_X5_readDay).cls (yn m_X5_readDay) (yn m_X5_readDay) ∈ TB := tzc_3 63 (by first | rfl | decide +kernel) rfl
theorem in_X5_readDay : Cond.initialized (yn m_X5_readDay).cls ∈ TB := tw_2
theorem cw_X5_begin : Cond.code (yn m_X5_begin) (yc m_X5_begin) (yl m_X5_begin) (yr m_X5_begin) ∈ TB := tzc_2 174 (by first | rfl | decide +kernel) rfl
theorem im_X5_begin : Cond.instanceMethod (yn m_X5_begin) ∈ TB := tzc_2 173 (by first | rfl | decide +kernel) rfl
theorem se_X5_begin : Cond.selects (yn m_X5_begin).cls (yn m_X5_begin) (yn m_X5_begin) ∈ TB := tb_sel 0 (by first | rfl | decide +kernel) rfl
theorem in_X5_begin : Cond.initialized (yn m_X5_begin).cls ∈ TB := tw_2
theorem cw_X5_readClause : Cond.code (yn m_X5_readClause) (yc m_X5_readClause) (yl m_X5_readClause) (yr m_X5_readClause) ∈ TB := tzc_2 184 (by first | rfl | decide +kernel) rfl
theorem im_X5_readClause : Cond.instanceMethod (yn m_X5_readClause) ∈ TB := tzc_2 183 (by first | rfl | decide +kernel) rfl
theorem se_X5_readClause : Cond.selects (yn m_X5_readClause).cls (yn m_X5_readClause) (yn m_X5_readClause) ∈ TB := tb_sel 2 (by first | rfl | decide +kernel) rfl
theorem in_X5_readClause : Cond.initialized (yn m_X5_readClause).cls ∈ TB := tw_2
theorem cw_X5_readClauseNumbers : Cond.code (yn m_X5_readClauseNumbers) (yc m_X5_readClauseNumbers) (yl m_X5_readClauseNumbers) (yr m_X5_readClauseNumbers) ∈ TB := tzc_3 31 (by first | rfl | decide +kernel) rfl
theorem im_X5_readClauseNumbers : Cond.instanceMethod (yn m_X5_readClauseNumbers) ∈ TB := tzc_3 30 (by first | rfl | decide +kernel) rfl
theorem se_X5_readClauseNumbers : Cond.selects (yn m_X5_readClauseNumbers).cls (yn m_X5_readClauseNumbers) (yn m_X5_readClauseNumbers) ∈ TB := tb_sel 7 (by first | rfl | decide +kernel) rfl
theorem in_X5_readClauseNumbers : Cond.initialized (yn m_X5_readClauseNumbers).cls ∈ TB := tw_2
theorem cw_X5_readOpening : Cond.code (yn m_X5_readOpening) (yc m_X5_readOpening) (yl m_X5_readOpening) (yr m_X5_readOpening) ∈ TB := tzc_3 68 (by first | rfl | decide +kernel) rfl
theorem im_X5_readOpening : Cond.instanceMethod (yn m_X5_readOpening) ∈ TB := tzc_3 67 (by first | rfl | decide +kernel) rfl
theorem se_X5_readOpening : Cond.selects (yn m_X5_readOpening).cls (yn m_X5_readOpening) (yn m_X5_readOpening) ∈ TB := tb_sel 10 (by first | rfl | decide +kernel) rfl
theorem in_X5_readOpening : Cond.initialized (yn m_X5_readOpening).cls ∈ TB := tw_2
theorem cw_X5_readClauseEnd : Cond.code (yn m_X5_readClauseEnd) (yc m_X5_readClauseEnd) (yl m_X5_readClauseEnd) (yr m_X5_readClauseEnd) ∈ TB := tzc_3 46 (by first | rfl | decide +kernel) rfl
theorem im_X5_readClauseEnd : Cond.instanceMethod (yn m_X5_readClauseEnd) ∈ TB := tzc_3 45 (by first | rfl | decide +kernel) rfl
theorem se_X5_readClauseEnd : Cond.selects (yn m_X5_readClauseEnd).cls (yn m_X5_readClauseEnd) (yn m_X5_readClauseEnd) ∈ TB := tb_sel 9 (by first | rfl | decide +kernel) rfl
theorem in_X5_readClauseEnd : Cond.initialized (yn m_X5_readClauseEnd).cls ∈ TB := tw_2
theorem cw_X5_readNumber : Cond.code (yn m_X5_readNumber) (yc m_X5_readNumber) (yl m_X5_readNumber) (yr m_X5_readNumber) ∈ TB := tzc_3 39 (by first | rfl | decide +kernel) rfl
theorem im_X5_readNumber : Cond.instanceMethod (yn m_X5_readNumber) ∈ TB := tzc_3 38 (by first | rfl | decide +kernel) rfl
theorem se_X5_readNumber : Cond.selects (yn m_X5_readNumber).cls (yn m_X5_readNumber) (yn m_X5_readNumber) ∈ TB := tb_sel 8 (by first | rfl | decide +kernel) rfl
theorem in_X5_readNumber : Cond.initialized (yn m_X5_readNumber).cls ∈ TB := tw_2
theorem cw_X5_readWord : Cond.code (yn m_X5_readWord) (yc m_X5_readWord) (yl m_X5_readWord) (yr m_X5_readWord) ∈ TB := tzc_2 188 (by first | rfl | decide +kernel) rfl
theorem im_X5_readWord : Cond.instanceMethod (yn m_X5_readWord) ∈ TB := tzc_2 187 (by first | rfl | decide +kernel) rfl
theorem se_X5_readWord : Cond.selects (yn m_X5_readWord).cls (yn m_X5_readWord) (yn m_X5_readWord) ∈ TB := tb_sel 3 (by first | rfl | decide +kernel) rfl
theorem in_X5_readWord : Cond.initialized (yn m_X5_readWord).cls ∈ TB := tw_2
theorem cw_X5_skipBlanks : Cond.code (yn m_X5_skipBlanks) (yc m_X5_skipBlanks) (yl m_X5_skipBlanks) (yr m_X5_skipBlanks) ∈ TB := tzc_2 178 (by first | rfl | decide +kernel) rfl
theorem im_X5_skipBlanks : Cond.instanceMethod (yn m_X5_skipBlanks) ∈ TB := tzc_2 177 (by first | rfl | decide +kernel) rfl
theorem se_X5_skipBlanks : Cond.selects (yn m_X5_skipBlanks).cls (yn m_X5_skipBlanks) (yn m_X5_skipBlanks) ∈ TB := tb_sel 1 (by first | rfl | decide +kernel) rfl
theorem in_X5_skipBlanks : Cond.initialized (yn m_X5_skipBlanks).cls ∈ TB := tw_2
theorem cw_X5_clauseFrom : Cond.code (yn m_X5_clauseFrom) (yc m_X5_clauseFrom) (yl m_X5_clauseFrom) (yr m_X5_clauseFrom) ∈ TB := tzc_2 195 (by first | rfl | decide +kernel) rfl
theorem im_X5_clauseFrom : Cond.instanceMethod (yn m_X5_clauseFrom) ∈ TB := tzc_2 194 (by first | rfl | decide +kernel) rfl
theorem se_X5_clauseFrom : Cond.selects (yn m_X5_clauseFrom).cls (yn m_X5_clauseFrom) (yn m_X5_clauseFrom) ∈ TB := tb_sel 4 (by first | rfl | decide +kernel) rfl
theorem in_X5_clauseFrom : Cond.initialized (yn m_X5_clauseFrom).cls ∈ TB := tw_2
theorem cw_X5_isWord : Cond.code (yn m_X5_isWord) (yc m_X5_isWord) (yl m_X5_isWord) (yr m_X5_isWord) ∈ TB := tzc_2 215 (by first | rfl | decide +kernel) rfl
theorem im_X5_isWord : Cond.instanceMethod (yn m_X5_isWord) ∈ TB := tzc_2 214 (by first | rfl | decide +kernel) rfl
theorem se_X5_isWord : Cond.selects (yn m_X5_isWord).cls (yn m_X5_isWord) (yn m_X5_isWord) ∈ TB := tb_sel 5 (by first | rfl | decide +kernel) rfl
theorem in_X5_isWord : Cond.initialized (yn m_X5_isWord).cls ∈ TB := tw_2
theorem cw_X5_faultAt : Cond.code (yn m_X5_faultAt) (yc m_X5_faultAt) (yl m_X5_faultAt) (yr m_X5_faultAt) ∈ TB := tzc_3 27 (by first | rfl | decide +kernel) rfl
theorem im_X5_faultAt : Cond.instanceMethod (yn m_X5_faultAt) ∈ TB := tzc_3 26 (by first | rfl | decide +kernel) rfl
theorem se_X5_faultAt : Cond.selects (yn m_X5_faultAt).cls (yn m_X5_faultAt) (yn m_X5_faultAt) ∈ TB := tb_sel 6 (by first | rfl | decide +kernel) rfl
theorem in_X5_faultAt : Cond.initialized (yn m_X5_faultAt).cls ∈ TB := tw_2
theorem cw_X5_isFigure : Cond.code (yn m_X5_isFigure) (yc m_X5_isFigure) (yl m_X5_isFigure) (yr m_X5_isFigure) ∈ TB := tzc_3 42 (by first | rfl | decide +kernel) rfl
theorem im_X5_isFigure : Cond.static (yn m_X5_isFigure) ∈ TB := tzc_3 41 (by first | rfl | decide +kernel) rfl
theorem in_X5_isFigure : Cond.initialized (yn m_X5_isFigure).cls ∈ TB := tw_2
theorem cw_X5_isLetter : Cond.code (yn m_X5_isLetter) (yc m_X5_isLetter) (yl m_X5_isLetter) (yr m_X5_isLetter) ∈ TB := tzc_2 191 (by first | rfl | decide +kernel) rfl
theorem im_X5_isLetter : Cond.static (yn m_X5_isLetter) ∈ TB := tzc_2 190 (by first | rfl | decide +kernel) rfl
theorem in_X5_isLetter : Cond.initialized (yn m_X5_isLetter).cls ∈ TB := tw_2
theorem cw_X5_wordOf : Cond.code (yn m_X5_wordOf) (yc m_X5_wordOf) (yl m_X5_wordOf) (yr m_X5_wordOf) ∈ TB := tzc_2 198 (by first | rfl | decide +kernel) rfl
theorem im_X5_wordOf : Cond.static (yn m_X5_wordOf) ∈ TB := tzc_2 197 (by first | rfl | decide +kernel) rfl
theorem in_X5_wordOf : Cond.initialized (yn m_X5_wordOf).cls ∈ TB := tw_2
theorem cw_X6_init : Cond.code (yn m_X6_init) (yc m_X6_init) (yl m_X6_init) (yr m_X6_init) ∈ TB := tzc_1 143 (by first | rfl | decide +kernel) rfl
theorem tw_7 : (Cond.initialized "ColdBox$State") ∈ TB := tzc_1 7 (by first | rfl | decide +kernel) rfl
theorem im_X6_init : Cond.instanceMethod (yn m_X6_init) ∈ TB := tzc_1 142 (by first | rfl | decide +kernel) rfl
theorem in_X6_init : Cond.initialized (yn m_X6_init).cls ∈ TB := tw_7
theorem cw_X6_becomeFresh : Cond.code (yn m_X6_becomeFresh) (yc m_X6_becomeFresh) (yl m_X6_becomeFresh) (yr m_X6_becomeFresh) ∈ TB := tzc_2 101 (by first | rfl | decide +kernel) rfl
theorem im_X6_becomeFresh : Cond.instanceMethod (yn m_X6_becomeFresh) ∈ TB := tzc_2 99 (by first | rfl | decide +kernel) rfl
theorem se_X6_becomeFresh : Cond.selects (yn m_X6_becomeFresh).cls (yn m_X6_becomeFresh) (yn m_X6_becomeFresh) ∈ TB := tzc_2 100 (by first | rfl | decide +kernel) rfl
theorem in_X6_becomeFresh : Cond.initialized (yn m_X6_becomeFresh).cls ∈ TB := tw_7
theorem cw_X6_copyFrom : Cond.code (yn m_X6_copyFrom) (yc m_X6_copyFrom) (yl m_X6_copyFrom) (yr m_X6_copyFrom) ∈ TB := tzc_5 36 (by first | rfl | decide +kernel) rfl
theorem im_X6_copyFrom : Cond.instanceMethod (yn m_X6_copyFrom) ∈ TB := tzc_5 34 (by first | rfl | decide +kernel) rfl
theorem se_X6_copyFrom : Cond.selects (yn m_X6_copyFrom).cls (yn m_X6_copyFrom) (yn m_X6_copyFrom) ∈ TB := tzc_5 35 (by first | rfl | decide +kernel) rfl
theorem in_X6_copyFrom : Cond.initialized (yn m_X6_copyFrom).cls ∈ TB := tw_7
theorem cw_X6_has : Cond.code (yn m_X6_has) (yc m_X6_has) (yl m_X6_has) (yr m_X6_has) ∈ TB := tzc_2 111 (by first | rfl | decide +kernel) rfl
theorem im_X6_has : Cond.instanceMethod (yn m_X6_has) ∈ TB := tzc_2 109 (by first | rfl | decide +kernel) rfl
theorem se_X6_has : Cond.selects (yn m_X6_has).cls (yn m_X6_has) (yn m_X6_has) ∈ TB := tzc_2 110 (by first | rfl | decide +kernel) rfl
theorem in_X6_has : Cond.initialized (yn m_X6_has).cls ∈ TB := tw_7
theorem cw_X6_warmthOf : Cond.code (yn m_X6_warmthOf) (yc m_X6_warmthOf) (yl m_X6_warmthOf) (yr m_X6_warmthOf) ∈ TB := tzc_3 139 (by first | rfl | decide +kernel) rfl
theorem im_X6_warmthOf : Cond.instanceMethod (yn m_X6_warmthOf) ∈ TB := tzc_3 137 (by first | rfl | decide +kernel) rfl
theorem se_X6_warmthOf : Cond.selects (yn m_X6_warmthOf).cls (yn m_X6_warmthOf) (yn m_X6_warmthOf) ∈ TB := tzc_3 138 (by first | rfl | decide +kernel) rfl
theorem in_X6_warmthOf : Cond.initialized (yn m_X6_warmthOf).cls ∈ TB := tw_7
theorem cw_X6_tickOfDay : Cond.code (yn m_X6_tickOfDay) (yc m_X6_tickOfDay) (yl m_X6_tickOfDay) (yr m_X6_tickOfDay) ∈ TB := tzc_3 168 (by first | rfl | decide +kernel) rfl
theorem im_X6_tickOfDay : Cond.instanceMethod (yn m_X6_tickOfDay) ∈ TB := tzc_3 166 (by first | rfl | decide +kernel) rfl
theorem se_X6_tickOfDay : Cond.selects (yn m_X6_tickOfDay).cls (yn m_X6_tickOfDay) (yn m_X6_tickOfDay) ∈ TB := tzc_3 167 (by first | rfl | decide +kernel) rfl
theorem in_X6_tickOfDay : Cond.initialized (yn m_X6_tickOfDay).cls ∈ TB := tw_7
theorem cw_X6_allHeat : Cond.code (yn m_X6_allHeat) (yc m_X6_allHeat) (yl m_X6_allHeat) (yr m_X6_allHeat) ∈ TB := tzc_4 19 (by first | rfl | decide +kernel) rfl
theorem im_X6_allHeat : Cond.instanceMethod (yn m_X6_allHeat) ∈ TB := tzc_4 17 (by first | rfl | decide +kernel) rfl
theorem se_X6_allHeat : Cond.selects (yn m_X6_allHeat).cls (yn m_X6_allHeat) (yn m_X6_allHeat) ∈ TB := tzc_4 18 (by first | rfl | decide +kernel) rfl
theorem in_X6_allHeat : Cond.initialized (yn m_X6_allHeat).cls ∈ TB := tw_7
theorem cw_X6_hasFood : Cond.code (yn m_X6_hasFood) (yc m_X6_hasFood) (yl m_X6_hasFood) (yr m_X6_hasFood) ∈ TB := tzc_3 135 (by first | rfl | decide +kernel) rfl
theorem im_X6_hasFood : Cond.instanceMethod (yn m_X6_hasFood) ∈ TB := tzc_3 133 (by first | rfl | decide +kernel) rfl
theorem se_X6_hasFood : Cond.selects (yn m_X6_hasFood).cls (yn m_X6_hasFood) (yn m_X6_hasFood) ∈ TB := tzc_3 134 (by first | rfl | decide +kernel) rfl
theorem in_X6_hasFood : Cond.initialized (yn m_X6_hasFood).cls ∈ TB := tw_7
theorem cw_X6_firstNotThere : Cond.code (yn m_X6_firstNotThere) (yc m_X6_firstNotThere) (yl m_X6_firstNotThere) (yr m_X6_firstNotThere) ∈ TB := tzc_3 123 (by first | rfl | decide +kernel) rfl
theorem im_X6_firstNotThere : Cond.instanceMethod (yn m_X6_firstNotThere) ∈ TB := tzc_3 121 (by first | rfl | decide +kernel) rfl
theorem se_X6_firstNotThere : Cond.selects (yn m_X6_firstNotThere).cls (yn m_X6_firstNotThere) (yn m_X6_firstNotThere) ∈ TB := tzc_3 122 (by first | rfl | decide +kernel) rfl
theorem in_X6_firstNotThere : Cond.initialized (yn m_X6_firstNotThere).cls ∈ TB := tw_7
theorem cw_X6_foodsThere : Cond.code (yn m_X6_foodsThere) (yc m_X6_foodsThere) (yl m_X6_foodsThere) (yr m_X6_foodsThere) ∈ TB := tzc_4 27 (by first | rfl | decide +kernel) rfl
theorem im_X6_foodsThere : Cond.instanceMethod (yn m_X6_foodsThere) ∈ TB := tzc_4 25 (by first | rfl | decide +kernel) rfl
theorem se_X6_foodsThere : Cond.selects (yn m_X6_foodsThere).cls (yn m_X6_foodsThere) (yn m_X6_foodsThere) ∈ TB := tzc_4 26 (by first | rfl | decide +kernel) rfl
theorem in_X6_foodsThere : Cond.initialized (yn m_X6_foodsThere).cls ∈ TB := tw_7
theorem cw_X6_addFood : Cond.code (yn m_X6_addFood) (yc m_X6_addFood) (yl m_X6_addFood) (yr m_X6_addFood) ∈ TB := tzc_3 127 (by first | rfl | decide +kernel) rfl
theorem im_X6_addFood : Cond.instanceMethod (yn m_X6_addFood) ∈ TB := tzc_3 125 (by first | rfl | decide +kernel) rfl
theorem se_X6_addFood : Cond.selects (yn m_X6_addFood).cls (yn m_X6_addFood) (yn m_X6_addFood) ∈ TB := tzc_3 126 (by first | rfl | decide +kernel) rfl
theorem in_X6_addFood : Cond.initialized (yn m_X6_addFood).cls ∈ TB := tw_7
theorem cw_X6_removeFood : Cond.code (yn m_X6_removeFood) (yc m_X6_removeFood) (yl m_X6_removeFood) (yr m_X6_removeFood) ∈ TB := tzc_3 143 (by first | rfl | decide +kernel) rfl
theorem im_X6_removeFood : Cond.instanceMethod (yn m_X6_removeFood) ∈ TB := tzc_3 141 (by first | rfl | decide +kernel) rfl
theorem se_X6_removeFood : Cond.selects (yn m_X6_removeFood).cls (yn m_X6_removeFood) (yn m_X6_removeFood) ∈ TB := tzc_3 142 (by first | rfl | decide +kernel) rfl
theorem in_X6_removeFood : Cond.initialized (yn m_X6_removeFood).cls ∈ TB := tw_7
theorem cw_X6_isWithin : Cond.code (yn m_X6_isWithin) (yc m_X6_isWithin) (yl m_X6_isWithin) (yr m_X6_isWithin) ∈ TB := tzc_3 155 (by first | rfl | decide +kernel) rfl
theorem im_X6_isWithin : Cond.instanceMethod (yn m_X6_isWithin) ∈ TB := tzc_3 153 (by first | rfl | decide +kernel) rfl
theorem se_X6_isWithin : Cond.selects (yn m_X6_isWithin).cls (yn m_X6_isWithin) (yn m_X6_isWithin) ∈ TB := tzc_3 154 (by first | rfl | decide +kernel) rfl
theorem in_X6_isWithin : Cond.initialized (yn m_X6_isWithin).cls ∈ TB := tw_7
theorem cw_X6_foodsWithin : Cond.code (yn m_X6_foodsWithin) (yc m_X6_foodsWithin) (yl m_X6_foodsWithin) (yr m_X6_foodsWithin) ∈ TB := tzc_5 54 (by first | rfl | decide +kernel) rfl
theorem im_X6_foodsWithin : Cond.instanceMethod (yn m_X6_foodsWithin) ∈ TB := tzc_5 52 (by first | rfl | decide +kernel) rfl
theorem se_X6_foodsWithin : Cond.selects (yn m_X6_foodsWithin).cls (yn m_X6_foodsWithin) (yn m_X6_foodsWithin) ∈ TB := tzc_5 53 (by first | rfl | decide +kernel) rfl
theorem in_X6_foodsWithin : Cond.initialized (yn m_X6_foodsWithin).cls ∈ TB := tw_7
theorem cw_X6_letOffIce : Cond.code (yn m_X6_letOffIce) (yc m_X6_letOffIce) (yl m_X6_letOffIce) (yr m_X6_letOffIce) ∈ TB := tzc_4 35 (by first | rfl | decide +kernel) rfl
theorem im_X6_letOffIce : Cond.instanceMethod (yn m_X6_letOffIce) ∈ TB := tzc_4 33 (by first | rfl | decide +kernel) rfl
theorem se_X6_letOffIce : Cond.selects (yn m_X6_letOffIce).cls (yn m_X6_letOffIce) (yn m_X6_letOffIce) ∈ TB := tzc_4 34 (by first | rfl | decide +kernel) rfl
theorem in_X6_letOffIce : Cond.initialized (yn m_X6_letOffIce).cls ∈ TB := tw_7
theorem cw_X6_draw : Cond.code (yn m_X6_draw) (yc m_X6_draw) (yl m_X6_draw) (yr m_X6_draw) ∈ TB := tzc_4 1 (by first | rfl | decide +kernel) rfl
theorem im_X6_draw : Cond.instanceMethod (yn m_X6_draw) ∈ TB := tzc_3 239 (by first | rfl | decide +kernel) rfl
theorem se_X6_draw : Cond.selects (yn m_X6_draw).cls (yn m_X6_draw) (yn m_X6_draw) ∈ TB := tzc_4 0 (by first | rfl | decide +kernel) rfl
theorem in_X6_draw : Cond.initialized (yn m_X6_draw).cls ∈ TB := tw_7
theorem cw_X7_init : Cond.code (yn m_X7_init) (yc m_X7_init) (yl m_X7_init) (yr m_X7_init) ∈ TB := tzc_1 120 (by first | rfl | decide +kernel) rfl
theorem tw_6 : (Cond.initialized "ColdBox$Ticker") ∈ TB := tzc_1 6 (by first | rfl | decide +kernel) rfl
theorem im_X7_init : Cond.instanceMethod (yn m_X7_init) ∈ TB := tzc_1 119 (by first | rfl | decide +kernel) rfl
theorem in_X7_init : Cond.initialized (yn m_X7_init).cls ∈ TB := tw_6
theorem cw_X7_passByDay : Cond.code (yn m_X7_passByDay) (yc m_X7_passByDay) (yl m_X7_passByDay) (yr m_X7_passByDay) ∈ TB := tzc_3 164 (by first | rfl | decide +kernel) rfl
theorem im_X7_passByDay : Cond.instanceMethod (yn m_X7_passByDay) ∈ TB := tzc_3 162 (by first | rfl | decide +kernel) rfl
theorem se_X7_passByDay : Cond.selects (yn m_X7_passByDay).cls (yn m_X7_passByDay) (yn m_X7_passByDay) ∈ TB := tzc_3 163 (by first | rfl | decide +kernel) rfl
theorem in_X7_passByDay : Cond.initialized (yn m_X7_passByDay).cls ∈ TB := tw_6
theorem cw_X7_pass : Cond.code (yn m_X7_pass) (yc m_X7_pass) (yl m_X7_pass) (yr m_X7_pass) ∈ TB := tzc_3 176 (by first | rfl | decide +kernel) rfl
theorem im_X7_pass : Cond.instanceMethod (yn m_X7_pass) ∈ TB := tzc_3 174 (by first | rfl | decide +kernel) rfl
theorem se_X7_pass : Cond.selects (yn m_X7_pass).cls (yn m_X7_pass) (yn m_X7_pass) ∈ TB := tzc_3 175 (by first | rfl | decide +kernel) rfl
theorem in_X7_pass : Cond.initialized (yn m_X7_pass).cls ∈ TB := tw_6
theorem cw_X7_lookAtWarmths : Cond.code (yn m_X7_lookAtWarmths) (yc m_X7_lookAtWarmths) (yl m_X7_lookAtWarmths) (yr m_X7_lookAtWarmths) ∈ TB := tzc_3 180 (by first | rfl | decide +kernel) rfl
theorem im_X7_lookAtWarmths : Cond.instanceMethod (yn m_X7_lookAtWarmths) ∈ TB := tzc_3 179 (by first | rfl | decide +kernel) rfl
theorem se_X7_lookAtWarmths : Cond.selects (yn m_X7_lookAtWarmths).cls (yn m_X7_lookAtWarmths) (yn m_X7_lookAtWarmths) ∈ TB := tb_sel 11 (by first | rfl | decide +kernel) rfl
theorem in_X7_lookAtWarmths : Cond.initialized (yn m_X7_lookAtWarmths).cls ∈ TB := tw_6
theorem cw_X7_switchMachine : Cond.code (yn m_X7_switchMachine) (yc m_X7_switchMachine) (yl m_X7_switchMachine) (yr m_X7_switchMachine) ∈ TB := tzc_3 195 (by first | rfl | decide +kernel) rfl
theorem im_X7_switchMachine : Cond.instanceMethod (yn m_X7_switchMachine) ∈ TB := tzc_3 194 (by first | rfl | decide +kernel) rfl
theorem se_X7_switchMachine : Cond.selects (yn m_X7_switchMachine).cls (yn m_X7_switchMachine) (yn m_X7_switchMachine) ∈ TB := tb_sel 12 (by first | rfl | decide +kernel) rfl
theorem in_X7_switchMachine : Cond.initialized (yn m_X7_switchMachine).cls ∈ TB := tw_6
theorem cw_X7_exchange : Cond.code (yn m_X7_exchange) (yc m_X7_exchange) (yl m_X7_exchange) (yr m_X7_exchange) ∈ TB := tzc_3 200 (by first | rfl | decide +kernel) rfl
theorem im_X7_exchange : Cond.instanceMethod (yn m_X7_exchange) ∈ TB := tzc_3 199 (by first | rfl | decide +kernel) rfl
theorem se_X7_exchange : Cond.selects (yn m_X7_exchange).cls (yn m_X7_exchange) (yn m_X7_exchange) ∈ TB := tb_sel 13 (by first | rfl | decide +kernel) rfl
theorem in_X7_exchange : Cond.initialized (yn m_X7_exchange).cls ∈ TB := tw_6
theorem cw_X7_flow : Cond.code (yn m_X7_flow) (yc m_X7_flow) (yl m_X7_flow) (yr m_X7_flow) ∈ TB := tzc_3 206 (by first | rfl | decide +kernel) rfl
theorem im_X7_flow : Cond.instanceMethod (yn m_X7_flow) ∈ TB := tzc_3 205 (by first | rfl | decide +kernel) rfl
theorem se_X7_flow : Cond.selects (yn m_X7_flow).cls (yn m_X7_flow) (yn m_X7_flow) ∈ TB := tb_sel 14 (by first | rfl | decide +kernel) rfl
theorem in_X7_flow : Cond.initialized (yn m_X7_flow).cls ∈ TB := tw_6
theorem cw_X7_giveLight : Cond.code (yn m_X7_giveLight) (yc m_X7_giveLight) (yl m_X7_giveLight) (yr m_X7_giveLight) ∈ TB := tzc_3 211 (by first | rfl | decide +kernel) rfl
theorem im_X7_giveLight : Cond.instanceMethod (yn m_X7_giveLight) ∈ TB := tzc_3 210 (by first | rfl | decide +kernel) rfl
theorem se_X7_giveLight : Cond.selects (yn m_X7_giveLight).cls (yn m_X7_giveLight) (yn m_X7_giveLight) ∈ TB := tb_sel 15 (by first | rfl | decide +kernel) rfl
theorem in_X7_giveLight : Cond.initialized (yn m_X7_giveLight).cls ∈ TB := tw_6
theorem cw_X7_moveOut : Cond.code (yn m_X7_moveOut) (yc m_X7_moveOut) (yl m_X7_moveOut) (yr m_X7_moveOut) ∈ TB := tzc_3 220 (by first | rfl | decide +kernel) rfl
theorem im_X7_moveOut : Cond.instanceMethod (yn m_X7_moveOut) ∈ TB := tzc_3 219 (by first | rfl | decide +kernel) rfl
theorem se_X7_moveOut : Cond.selects (yn m_X7_moveOut).cls (yn m_X7_moveOut) (yn m_X7_moveOut) ∈ TB := tb_sel 16 (by first | rfl | decide +kernel) rfl
theorem in_X7_moveOut : Cond.initialized (yn m_X7_moveOut).cls ∈ TB := tw_6
theorem cw_X7_takeWet : Cond.code (yn m_X7_takeWet) (yc m_X7_takeWet) (yl m_X7_takeWet) (yr m_X7_takeWet) ∈ TB := tzc_3 225 (by first | rfl | decide +kernel) rfl
theorem im_X7_takeWet : Cond.instanceMethod (yn m_X7_takeWet) ∈ TB := tzc_3 224 (by first | rfl | decide +kernel) rfl
theorem se_X7_takeWet : Cond.selects (yn m_X7_takeWet).cls (yn m_X7_takeWet) (yn m_X7_takeWet) ∈ TB := tb_sel 17 (by first | rfl | decide +kernel) rfl
theorem in_X7_takeWet : Cond.initialized (yn m_X7_takeWet).cls ∈ TB := tw_6
theorem cw_X8_init : Cond.code (yn m_X8_init) (yc m_X8_init) (yl m_X8_init) (yr m_X8_init) ∈ TB := tzc_2 61 (by first | rfl | decide +kernel) rfl
theorem tw_12 : (Cond.initialized "ColdBox$Trials") ∈ TB := tzc_1 12 (by first | rfl | decide +kernel) rfl
theorem im_X8_init : Cond.instanceMethod (yn m_X8_init) ∈ TB := tzc_2 60 (by first | rfl | decide +kernel) rfl
theorem in_X8_init : Cond.initialized (yn m_X8_init).cls ∈ TB := tw_12
theorem cw_X8_findBestRow : Cond.code (yn m_X8_findBestRow) (yc m_X8_findBestRow) (yl m_X8_findBestRow) (yr m_X8_findBestRow) ∈ TB := tzc_5 31 (by first | rfl | decide +kernel) rfl
theorem im_X8_findBestRow : Cond.instanceMethod (yn m_X8_findBestRow) ∈ TB := tzc_5 29 (by first | rfl | decide +kernel) rfl
theorem se_X8_findBestRow : Cond.selects (yn m_X8_findBestRow).cls (yn m_X8_findBestRow) (yn m_X8_findBestRow) ∈ TB := tzc_5 30 (by first | rfl | decide +kernel) rfl
theorem in_X8_findBestRow : Cond.initialized (yn m_X8_findBestRow).cls ∈ TB := tw_12
theorem cw_X8_shelfInBestRow : Cond.code (yn m_X8_shelfInBestRow) (yc m_X8_shelfInBestRow) (yl m_X8_shelfInBestRow) (yr m_X8_shelfInBestRow) ∈ TB := tzc_5 63 (by first | rfl | decide +kernel) rfl
theorem im_X8_shelfInBestRow : Cond.instanceMethod (yn m_X8_shelfInBestRow) ∈ TB := tzc_5 61 (by first | rfl | decide +kernel) rfl
theorem se_X8_shelfInBestRow : Cond.selects (yn m_X8_shelfInBestRow).cls (yn m_X8_shelfInBestRow) (yn m_X8_shelfInBestRow) ∈ TB := tzc_5 62 (by first | rfl | decide +kernel) rfl
theorem in_X8_shelfInBestRow : Cond.initialized (yn m_X8_shelfInBestRow).cls ∈ TB := tw_12
theorem cw_X8_layByRow : Cond.code (yn m_X8_layByRow) (yc m_X8_layByRow) (yl m_X8_layByRow) (yr m_X8_layByRow) ∈ TB := tzc_5 41 (by first | rfl | decide +kernel) rfl
theorem im_X8_layByRow : Cond.instanceMethod (yn m_X8_layByRow) ∈ TB := tzc_5 40 (by first | rfl | decide +kernel) rfl
theorem se_X8_layByRow : Cond.selects (yn m_X8_layByRow).cls (yn m_X8_layByRow) (yn m_X8_layByRow) ∈ TB := tb_sel 29 (by first | rfl | decide +kernel) rfl
theorem in_X8_layByRow : Cond.initialized (yn m_X8_layByRow).cls ∈ TB := tw_12
theorem cw_X8_findBestBulb : Cond.code (yn m_X8_findBestBulb) (yc m_X8_findBestBulb) (yl m_X8_findBestBulb) (yr m_X8_findBestBulb) ∈ TB := tzc_5 71 (by first | rfl | decide +kernel) rfl
theorem im_X8_findBestBulb : Cond.instanceMethod (yn m_X8_findBestBulb) ∈ TB := tzc_5 69 (by first | rfl | decide +kernel) rfl
theorem se_X8_findBestBulb : Cond.selects (yn m_X8_findBestBulb).cls (yn m_X8_findBestBulb) (yn m_X8_findBestBulb) ∈ TB := tzc_5 70 (by first | rfl | decide +kernel) rfl
theorem in_X8_findBestBulb : Cond.initialized (yn m_X8_findBestBulb).cls ∈ TB := tw_12
theorem cw_X8_takeIfMore : Cond.code (yn m_X8_takeIfMore) (yc m_X8_takeIfMore) (yl m_X8_takeIfMore) (yr m_X8_takeIfMore) ∈ TB := tzc_5 59 (by first | rfl | decide +kernel) rfl
theorem im_X8_takeIfMore : Cond.instanceMethod (yn m_X8_takeIfMore) ∈ TB := tzc_5 58 (by first | rfl | decide +kernel) rfl
theorem se_X8_takeIfMore : Cond.selects (yn m_X8_takeIfMore).cls (yn m_X8_takeIfMore) (yn m_X8_takeIfMore) ∈ TB := tb_sel 32 (by first | rfl | decide +kernel) rfl
theorem in_X8_takeIfMore : Cond.initialized (yn m_X8_takeIfMore).cls ∈ TB := tw_12
theorem cw_X8_withinOnSecondDay : Cond.code (yn m_X8_withinOnSecondDay) (yc m_X8_withinOnSecondDay) (yl m_X8_withinOnSecondDay) (yr m_X8_withinOnSecondDay) ∈ TB := tzc_5 49 (by first | rfl | decide +kernel) rfl
theorem im_X8_withinOnSecondDay : Cond.instanceMethod (yn m_X8_withinOnSecondDay) ∈ TB := tzc_5 48 (by first | rfl | decide +kernel) rfl
theorem se_X8_withinOnSecondDay : Cond.selects (yn m_X8_withinOnSecondDay).cls (yn m_X8_withinOnSecondDay) (yn m_X8_withinOnSecondDay) ∈ TB := tb_sel 31 (by first | rfl | decide +kernel) rfl
theorem in_X8_withinOnSecondDay : Cond.initialized (yn m_X8_withinOnSecondDay).cls ∈ TB := tw_12
theorem cw_X8_ticksWithoutCurrent : Cond.code (yn m_X8_ticksWithoutCurrent) (yc m_X8_ticksWithoutCurrent) (yl m_X8_ticksWithoutCurrent) (yr m_X8_ticksWithoutCurrent) ∈ TB := tzc_5 79 (by first | rfl | decide +kernel) rfl
theorem im_X8_ticksWithoutCurrent : Cond.instanceMethod (yn m_X8_ticksWithoutCurrent) ∈ TB := tzc_5 77 (by first | rfl | decide +kernel) rfl
theorem se_X8_ticksWithoutCurrent : Cond.selects (yn m_X8_ticksWithoutCurrent).cls (yn m_X8_ticksWithoutCurrent) (yn m_X8_ticksWithoutCurrent) ∈ TB := tzc_5 78 (by first | rfl | decide +kernel) rfl
theorem in_X8_ticksWithoutCurrent : Cond.initialized (yn m_X8_ticksWithoutCurrent).cls ∈ TB := tw_12
theorem cw_X8_findBestStore : Cond.code (yn m_X8_findBestStore) (yc m_X8_findBestStore) (yl m_X8_findBestStore) (yr m_X8_findBestStore) ∈ TB := tzc_5 92 (by first | rfl | decide +kernel) rfl
theorem im_X8_findBestStore : Cond.instanceMethod (yn m_X8_findBestStore) ∈ TB := tzc_5 90 (by first | rfl | decide +kernel) rfl
theorem se_X8_findBestStore : Cond.selects (yn m_X8_findBestStore).cls (yn m_X8_findBestStore) (yn m_X8_findBestStore) ∈ TB := tzc_5 91 (by first | rfl | decide +kernel) rfl
theorem in_X8_findBestStore : Cond.initialized (yn m_X8_findBestStore).cls ∈ TB := tw_12
theorem cw_X8_paidStoring : Cond.code (yn m_X8_paidStoring) (yc m_X8_paidStoring) (yl m_X8_paidStoring) (yr m_X8_paidStoring) ∈ TB := tzc_5 96 (by first | rfl | decide +kernel) rfl
theorem im_X8_paidStoring : Cond.instanceMethod (yn m_X8_paidStoring) ∈ TB := tzc_5 95 (by first | rfl | decide +kernel) rfl
theorem se_X8_paidStoring : Cond.selects (yn m_X8_paidStoring).cls (yn m_X8_paidStoring) (yn m_X8_paidStoring) ∈ TB := tb_sel 33 (by first | rfl | decide +kernel) rfl
theorem in_X8_paidStoring : Cond.initialized (yn m_X8_paidStoring).cls ∈ TB := tw_12
theorem cw_X8_isCheapHour : Cond.code (yn m_X8_isCheapHour) (yc m_X8_isCheapHour) (yl m_X8_isCheapHour) (yr m_X8_isCheapHour) ∈ TB := tzc_5 101 (by first | rfl | decide +kernel) rfl
theorem im_X8_isCheapHour : Cond.instanceMethod (yn m_X8_isCheapHour) ∈ TB := tzc_5 100 (by first | rfl | decide +kernel) rfl
theorem se_X8_isCheapHour : Cond.selects (yn m_X8_isCheapHour).cls (yn m_X8_isCheapHour) (yn m_X8_isCheapHour) ∈ TB := tb_sel 34 (by first | rfl | decide +kernel) rfl
theorem in_X8_isCheapHour : Cond.initialized (yn m_X8_isCheapHour).cls ∈ TB := tw_12
theorem cw_X8_boxBulb : Cond.code (yn m_X8_boxBulb) (yc m_X8_boxBulb) (yl m_X8_boxBulb) (yr m_X8_boxBulb) ∈ TB := tzc_5 45 (by first | rfl | decide +kernel) rfl
theorem im_X8_boxBulb : Cond.instanceMethod (yn m_X8_boxBulb) ∈ TB := tzc_5 44 (by first | rfl | decide +kernel) rfl
theorem se_X8_boxBulb : Cond.selects (yn m_X8_boxBulb).cls (yn m_X8_boxBulb) (yn m_X8_boxBulb) ∈ TB := tb_sel 30 (by first | rfl | decide +kernel) rfl
theorem in_X8_boxBulb : Cond.initialized (yn m_X8_boxBulb).cls ∈ TB := tw_12
theorem cw_X9_init : Cond.code (yn m_X9_init) (yc m_X9_init) (yl m_X9_init) (yr m_X9_init) ∈ TB := tzc_1 24 (by first | rfl | decide +kernel) rfl
theorem tw_1 : (Cond.initialized "ColdBox") ∈ TB := tzc_1 1 (by first | rfl | decide +kernel) rfl
theorem im_X9_init : Cond.instanceMethod (yn m_X9_init) ∈ TB := tzc_1 23 (by first | rfl | decide +kernel) rfl
theorem in_X9_init : Cond.initialized (yn m_X9_init).cls ∈ TB := tw_1
theorem cw_X9_feed : Cond.code (yn m_X9_feed) (yc m_X9_feed) (yl m_X9_feed) (yr m_X9_feed) ∈ TB := tzc_2 155 (by first | rfl | decide +kernel) rfl
theorem im_X9_feed : Cond.instanceMethod (yn m_X9_feed) ∈ TB := tzc_2 153 (by first | rfl | decide +kernel) rfl
theorem se_X9_feed : Cond.selects (yn m_X9_feed).cls (yn m_X9_feed) (yn m_X9_feed) ∈ TB := tzc_2 154 (by first | rfl | decide +kernel) rfl
theorem in_X9_feed : Cond.initialized (yn m_X9_feed).cls ∈ TB := tw_1
theorem cw_X9_box : Cond.code (yn m_X9_box) (yc m_X9_box) (yl m_X9_box) (yr m_X9_box) ∈ TB := tzc_2 166 (by first | rfl | decide +kernel) rfl
theorem im_X9_box : Cond.instanceMethod (yn m_X9_box) ∈ TB := tzc_2 164 (by first | rfl | decide +kernel) rfl
theorem se_X9_box : Cond.selects (yn m_X9_box).cls (yn m_X9_box) (yn m_X9_box) ∈ TB := tzc_2 165 (by first | rfl | decide +kernel) rfl
theorem in_X9_box : Cond.initialized (yn m_X9_box).cls ∈ TB := tw_1
theorem cw_X9_day : Cond.code (yn m_X9_day) (yc m_X9_day) (yl m_X9_day) (yr m_X9_day) ∈ TB := tzc_3 60 (by first | rfl | decide +kernel) rfl
theorem im_X9_day : Cond.instanceMethod (yn m_X9_day) ∈ TB := tzc_3 58 (by first | rfl | decide +kernel) rfl
theorem se_X9_day : Cond.selects (yn m_X9_day).cls (yn m_X9_day) (yn m_X9_day) ∈ TB := tzc_3 59 (by first | rfl | decide +kernel) rfl
theorem in_X9_day : Cond.initialized (yn m_X9_day).cls ∈ TB := tw_1
theorem cw_X9_fault : Cond.code (yn m_X9_fault) (yc m_X9_fault) (yl m_X9_fault) (yr m_X9_fault) ∈ TB := tzc_3 80 (by first | rfl | decide +kernel) rfl
theorem im_X9_fault : Cond.instanceMethod (yn m_X9_fault) ∈ TB := tzc_3 78 (by first | rfl | decide +kernel) rfl
theorem se_X9_fault : Cond.selects (yn m_X9_fault).cls (yn m_X9_fault) (yn m_X9_fault) ∈ TB := tzc_3 79 (by first | rfl | decide +kernel) rfl
theorem in_X9_fault : Cond.initialized (yn m_X9_fault).cls ∈ TB := tw_1
theorem cw_X9_told : Cond.code (yn m_X9_told) (yc m_X9_told) (yl m_X9_told) (yr m_X9_told) ∈ TB := tzc_3 84 (by first | rfl | decide +kernel) rfl
theorem im_X9_told : Cond.instanceMethod (yn m_X9_told) ∈ TB := tzc_3 82 (by first | rfl | decide +kernel) rfl
theorem se_X9_told : Cond.selects (yn m_X9_told).cls (yn m_X9_told) (yn m_X9_told) ∈ TB := tzc_3 83 (by first | rfl | decide +kernel) rfl
theorem in_X9_told : Cond.initialized (yn m_X9_told).cls ∈ TB := tw_1
theorem cw_X9_opening : Cond.code (yn m_X9_opening) (yc m_X9_opening) (yl m_X9_opening) (yr m_X9_opening) ∈ TB := tzc_3 88 (by first | rfl | decide +kernel) rfl
theorem im_X9_opening : Cond.instanceMethod (yn m_X9_opening) ∈ TB := tzc_3 86 (by first | rfl | decide +kernel) rfl
theorem se_X9_opening : Cond.selects (yn m_X9_opening).cls (yn m_X9_opening) (yn m_X9_opening) ∈ TB := tzc_3 87 (by first | rfl | decide +kernel) rfl
theorem in_X9_opening : Cond.initialized (yn m_X9_opening).cls ∈ TB := tw_1
theorem cw_X9_trouble : Cond.code (yn m_X9_trouble) (yc m_X9_trouble) (yl m_X9_trouble) (yr m_X9_trouble) ∈ TB := tzc_3 92 (by first | rfl | decide +kernel) rfl
theorem im_X9_trouble : Cond.instanceMethod (yn m_X9_trouble) ∈ TB := tzc_3 90 (by first | rfl | decide +kernel) rfl
theorem se_X9_trouble : Cond.selects (yn m_X9_trouble).cls (yn m_X9_trouble) (yn m_X9_trouble) ∈ TB := tzc_3 91 (by first | rfl | decide +kernel) rfl
theorem in_X9_trouble : Cond.initialized (yn m_X9_trouble).cls ∈ TB := tw_1
theorem cw_X9_fresh : Cond.code (yn m_X9_fresh) (yc m_X9_fresh) (yl m_X9_fresh) (yr m_X9_fresh) ∈ TB := tzc_3 101 (by first | rfl | decide +kernel) rfl
theorem im_X9_fresh : Cond.instanceMethod (yn m_X9_fresh) ∈ TB := tzc_3 99 (by first | rfl | decide +kernel) rfl
theorem se_X9_fresh : Cond.selects (yn m_X9_fresh).cls (yn m_X9_fresh) (yn m_X9_fresh) ∈ TB := tzc_3 100 (by first | rfl | decide +kernel) rfl
theorem in_X9_fresh : Cond.initialized (yn m_X9_fresh).cls ∈ TB := tw_1
theorem cw_X9_current : Cond.code (yn m_X9_current) (yc m_X9_current) (yl m_X9_current) (yr m_X9_current) ∈ TB := tzc_3 105 (by first | rfl | decide +kernel) rfl
theorem im_X9_current : Cond.instanceMethod (yn m_X9_current) ∈ TB := tzc_3 103 (by first | rfl | decide +kernel) rfl
theorem se_X9_current : Cond.selects (yn m_X9_current).cls (yn m_X9_current) (yn m_X9_current) ∈ TB := tzc_3 104 (by first | rfl | decide +kernel) rfl
theorem in_X9_current : Cond.initialized (yn m_X9_current).cls ∈ TB := tw_1
theorem cw_X9_cover : Cond.code (yn m_X9_cover) (yc m_X9_cover) (yl m_X9_cover) (yr m_X9_cover) ∈ TB := tzc_3 109 (by first | rfl | decide +kernel) rfl
theorem im_X9_cover : Cond.instanceMethod (yn m_X9_cover) ∈ TB := tzc_3 107 (by first | rfl | decide +kernel) rfl
theorem se_X9_cover : Cond.selects (yn m_X9_cover).cls (yn m_X9_cover) (yn m_X9_cover) ∈ TB := tzc_3 108 (by first | rfl | decide +kernel) rfl
theorem in_X9_cover : Cond.initialized (yn m_X9_cover).cls ∈ TB := tw_1
theorem cw_X9_put : Cond.code (yn m_X9_put) (yc m_X9_put) (yl m_X9_put) (yr m_X9_put) ∈ TB := tzc_3 113 (by first | rfl | decide +kernel) rfl
theorem im_X9_put : Cond.instanceMethod (yn m_X9_put) ∈ TB := tzc_3 111 (by first | rfl | decide +kernel) rfl
theorem se_X9_put : Cond.selects (yn m_X9_put).cls (yn m_X9_put) (yn m_X9_put) ∈ TB := tzc_3 112 (by first | rfl | decide +kernel) rfl
theorem in_X9_put : Cond.initialized (yn m_X9_put).cls ∈ TB := tw_1
theorem cw_X9_take : Cond.code (yn m_X9_take) (yc m_X9_take) (yl m_X9_take) (yr m_X9_take) ∈ TB := tzc_3 131 (by first | rfl | decide +kernel) rfl
theorem im_X9_take : Cond.instanceMethod (yn m_X9_take) ∈ TB := tzc_3 129 (by first | rfl | decide +kernel) rfl
theorem se_X9_take : Cond.selects (yn m_X9_take).cls (yn m_X9_take) (yn m_X9_take) ∈ TB := tzc_3 130 (by first | rfl | decide +kernel) rfl
theorem in_X9_take : Cond.initialized (yn m_X9_take).cls ∈ TB := tw_1
theorem cw_X9_lay : Cond.code (yn m_X9_lay) (yc m_X9_lay) (yl m_X9_lay) (yr m_X9_lay) ∈ TB := tzc_3 147 (by first | rfl | decide +kernel) rfl
theorem im_X9_lay : Cond.instanceMethod (yn m_X9_lay) ∈ TB := tzc_3 145 (by first | rfl | decide +kernel) rfl
theorem se_X9_lay : Cond.selects (yn m_X9_lay).cls (yn m_X9_lay) (yn m_X9_lay) ∈ TB := tzc_3 146 (by first | rfl | decide +kernel) rfl
theorem in_X9_lay : Cond.initialized (yn m_X9_lay).cls ∈ TB := tw_1
theorem cw_X9_food : Cond.code (yn m_X9_food) (yc m_X9_food) (yl m_X9_food) (yr m_X9_food) ∈ TB := tzc_3 151 (by first | rfl | decide +kernel) rfl
theorem im_X9_food : Cond.instanceMethod (yn m_X9_food) ∈ TB := tzc_3 149 (by first | rfl | decide +kernel) rfl
theorem se_X9_food : Cond.selects (yn m_X9_food).cls (yn m_X9_food) (yn m_X9_food) ∈ TB := tzc_3 150 (by first | rfl | decide +kernel) rfl
theorem in_X9_food : Cond.initialized (yn m_X9_food).cls ∈ TB := tw_1
theorem cw_X9_run : Cond.code (yn m_X9_run) (yc m_X9_run) (yl m_X9_run) (yr m_X9_run) ∈ TB := tzc_3 160 (by first | rfl | decide +kernel) rfl
theorem im_X9_run : Cond.instanceMethod (yn m_X9_run) ∈ TB := tzc_3 158 (by first | rfl | decide +kernel) rfl
theorem se_X9_run : Cond.selects (yn m_X9_run).cls (yn m_X9_run) (yn m_X9_run) ∈ TB := tzc_3 159 (by first | rfl | decide +kernel) rfl
theorem in_X9_run : Cond.initialized (yn m_X9_run).cls ∈ TB := tw_1
theorem cw_X9_drawn : Cond.code (yn m_X9_drawn) (yc m_X9_drawn) (yl m_X9_drawn) (yr m_X9_drawn) ∈ TB := tzc_3 232 (by first | rfl | decide +kernel) rfl
theorem im_X9_drawn : Cond.instanceMethod (yn m_X9_drawn) ∈ TB := tzc_3 230 (by first | rfl | decide +kernel) rfl
theorem se_X9_drawn : Cond.selects (yn m_X9_drawn).cls (yn m_X9_drawn) (yn m_X9_drawn) ∈ TB := tzc_3 231 (by first | rfl | decide +kernel) rfl
theorem in_X9_drawn : Cond.initialized (yn m_X9_drawn).cls ∈ TB := tw_1
theorem cw_X9_warmth : Cond.code (yn m_X9_warmth) (yc m_X9_warmth) (yl m_X9_warmth) (yr m_X9_warmth) ∈ TB := tzc_4 10 (by first | rfl | decide +kernel) rfl
theorem im_X9_warmth : Cond.instanceMethod (yn m_X9_warmth) ∈ TB := tzc_4 8 (by first | rfl | decide +kernel) rfl
theorem se_X9_warmth : Cond.selects (yn m_X9_warmth).cls (yn m_X9_warmth) (yn m_X9_warmth) ∈ TB := tzc_4 9 (by first | rfl | decide +kernel) rfl
theorem in_X9_warmth : Cond.initialized (yn m_X9_warmth).cls ∈ TB := tw_1
theorem cw_X9_heat : Cond.code (yn m_X9_heat) (yc m_X9_heat) (yl m_X9_heat) (yr m_X9_heat) ∈ TB := tzc_4 14 (by first | rfl | decide +kernel) rfl
theorem im_X9_heat : Cond.instanceMethod (yn m_X9_heat) ∈ TB := tzc_4 12 (by first | rfl | decide +kernel) rfl
theorem se_X9_heat : Cond.selects (yn m_X9_heat).cls (yn m_X9_heat) (yn m_X9_heat) ∈ TB := tzc_4 13 (by first | rfl | decide +kernel) rfl
theorem in_X9_heat : Cond.initialized (yn m_X9_heat).cls ∈ TB := tw_1
theorem cw_X9_count : Cond.code (yn m_X9_count) (yc m_X9_count) (yl m_X9_count) (yr m_X9_count) ∈ TB := tzc_4 23 (by first | rfl | decide +kernel) rfl
theorem im_X9_count : Cond.instanceMethod (yn m_X9_count) ∈ TB := tzc_4 21 (by first | rfl | decide +kernel) rfl
theorem se_X9_count : Cond.selects (yn m_X9_count).cls (yn m_X9_count) (yn m_X9_count) ∈ TB := tzc_4 22 (by first | rfl | decide +kernel) rfl
theorem in_X9_count : Cond.initialized (yn m_X9_count).cls ∈ TB := tw_1
theorem cw_X9_thaw : Cond.code (yn m_X9_thaw) (yc m_X9_thaw) (yl m_X9_thaw) (yr m_X9_thaw) ∈ TB := tzc_4 31 (by first | rfl | decide +kernel) rfl
theorem im_X9_thaw : Cond.instanceMethod (yn m_X9_thaw) ∈ TB := tzc_4 29 (by first | rfl | decide +kernel) rfl
theorem se_X9_thaw : Cond.selects (yn m_X9_thaw).cls (yn m_X9_thaw) (yn m_X9_thaw) ∈ TB := tzc_4 30 (by first | rfl | decide +kernel) rfl
theorem in_X9_thaw : Cond.initialized (yn m_X9_thaw).cls ∈ TB := tw_1
theorem cw_X9_sign : Cond.code (yn m_X9_sign) (yc m_X9_sign) (yl m_X9_sign) (yr m_X9_sign) ∈ TB := tzc_4 40 (by first | rfl | decide +kernel) rfl
theorem im_X9_sign : Cond.instanceMethod (yn m_X9_sign) ∈ TB := tzc_4 38 (by first | rfl | decide +kernel) rfl
theorem se_X9_sign : Cond.selects (yn m_X9_sign).cls (yn m_X9_sign) (yn m_X9_sign) ∈ TB := tzc_4 39 (by first | rfl | decide +kernel) rfl
theorem in_X9_sign : Cond.initialized (yn m_X9_sign).cls ∈ TB := tw_1
theorem cw_X9_seen : Cond.code (yn m_X9_seen) (yc m_X9_seen) (yl m_X9_seen) (yr m_X9_seen) ∈ TB := tzc_4 71 (by first | rfl | decide +kernel) rfl
theorem im_X9_seen : Cond.instanceMethod (yn m_X9_seen) ∈ TB := tzc_4 69 (by first | rfl | decide +kernel) rfl
theorem se_X9_seen : Cond.selects (yn m_X9_seen).cls (yn m_X9_seen) (yn m_X9_seen) ∈ TB := tzc_4 70 (by first | rfl | decide +kernel) rfl
theorem in_X9_seen : Cond.initialized (yn m_X9_seen).cls ∈ TB := tw_1
theorem cw_X9_forget : Cond.code (yn m_X9_forget) (yc m_X9_forget) (yl m_X9_forget) (yr m_X9_forget) ∈ TB := tzc_4 81 (by first | rfl | decide +kernel) rfl
theorem im_X9_forget : Cond.instanceMethod (yn m_X9_forget) ∈ TB := tzc_4 79 (by first | rfl | decide +kernel) rfl
theorem se_X9_forget : Cond.selects (yn m_X9_forget).cls (yn m_X9_forget) (yn m_X9_forget) ∈ TB := tzc_4 80 (by first | rfl | decide +kernel) rfl
theorem in_X9_forget : Cond.initialized (yn m_X9_forget).cls ∈ TB := tw_1
theorem cw_X9_prior : Cond.code (yn m_X9_prior) (yc m_X9_prior) (yl m_X9_prior) (yr m_X9_prior) ∈ TB := tzc_4 85 (by first | rfl | decide +kernel) rfl
theorem im_X9_prior : Cond.instanceMethod (yn m_X9_prior) ∈ TB := tzc_4 83 (by first | rfl | decide +kernel) rfl
theorem se_X9_prior : Cond.selects (yn m_X9_prior).cls (yn m_X9_prior) (yn m_X9_prior) ∈ TB := tzc_4 84 (by first | rfl | decide +kernel) rfl
theorem in_X9_prior : Cond.initialized (yn m_X9_prior).cls ∈ TB := tw_1
theorem cw_X9_bother : Cond.code (yn m_X9_bother) (yc m_X9_bother) (yl m_X9_bother) (yr m_X9_bother) ∈ TB := tzc_4 92 (by first | rfl | decide +kernel) rfl
theorem im_X9_bother : Cond.instanceMethod (yn m_X9_bother) ∈ TB := tzc_4 90 (by first | rfl | decide +kernel) rfl
theorem se_X9_bother : Cond.selects (yn m_X9_bother).cls (yn m_X9_bother) (yn m_X9_bother) ∈ TB := tzc_4 91 (by first | rfl | decide +kernel) rfl
theorem in_X9_bother : Cond.initialized (yn m_X9_bother).cls ∈ TB := tw_1
theorem cw_X9_odds : Cond.code (yn m_X9_odds) (yc m_X9_odds) (yl m_X9_odds) (yr m_X9_odds) ∈ TB := tzc_4 96 (by first | rfl | decide +kernel) rfl
theorem im_X9_odds : Cond.instanceMethod (yn m_X9_odds) ∈ TB := tzc_4 94 (by first | rfl | decide +kernel) rfl
theorem se_X9_odds : Cond.selects (yn m_X9_odds).cls (yn m_X9_odds) (yn m_X9_odds) ∈ TB := tzc_4 95 (by first | rfl | decide +kernel) rfl
theorem in_X9_odds : Cond.initialized (yn m_X9_odds).cls ∈ TB := tw_1
theorem cw_X9_each : Cond.code (yn m_X9_each) (yc m_X9_each) (yl m_X9_each) (yr m_X9_each) ∈ TB := tzc_4 143 (by first | rfl | decide +kernel) rfl
theorem im_X9_each : Cond.instanceMethod (yn m_X9_each) ∈ TB := tzc_4 141 (by first | rfl | decide +kernel) rfl
theorem se_X9_each : Cond.selects (yn m_X9_each).cls (yn m_X9_each) (yn m_X9_each) ∈ TB := tzc_4 142 (by first | rfl | decide +kernel) rfl
theorem in_X9_each : Cond.initialized (yn m_X9_each).cls ∈ TB := tw_1
theorem cw_X9_tells : Cond.code (yn m_X9_tells) (yc m_X9_tells) (yl m_X9_tells) (yr m_X9_tells) ∈ TB := tzc_4 151 (by first | rfl | decide +kernel) rfl
theorem im_X9_tells : Cond.instanceMethod (yn m_X9_tells) ∈ TB := tzc_4 149 (by first | rfl | decide +kernel) rfl
theorem se_X9_tells : Cond.selects (yn m_X9_tells).cls (yn m_X9_tells) (yn m_X9_tells) ∈ TB := tzc_4 150 (by first | rfl | decide +kernel) rfl
theorem in_X9_tells : Cond.initialized (yn m_X9_tells).cls ∈ TB := tw_1
theorem cw_X9_next : Cond.code (yn m_X9_next) (yc m_X9_next) (yl m_X9_next) (yr m_X9_next) ∈ TB := tzc_4 171 (by first | rfl | decide +kernel) rfl
theorem im_X9_next : Cond.instanceMethod (yn m_X9_next) ∈ TB := tzc_4 169 (by first | rfl | decide +kernel) rfl
theorem se_X9_next : Cond.selects (yn m_X9_next).cls (yn m_X9_next) (yn m_X9_next) ∈ TB := tzc_4 170 (by first | rfl | decide +kernel) rfl
theorem in_X9_next : Cond.initialized (yn m_X9_next).cls ∈ TB := tw_1
theorem cw_X9_makes : Cond.code (yn m_X9_makes) (yc m_X9_makes) (yl m_X9_makes) (yr m_X9_makes) ∈ TB := tzc_4 179 (by first | rfl | decide +kernel) rfl
theorem im_X9_makes : Cond.instanceMethod (yn m_X9_makes) ∈ TB := tzc_4 177 (by first | rfl | decide +kernel) rfl
theorem se_X9_makes : Cond.selects (yn m_X9_makes).cls (yn m_X9_makes) (yn m_X9_makes) ∈ TB := tzc_4 178 (by first | rfl | decide +kernel) rfl
theorem in_X9_makes : Cond.initialized (yn m_X9_makes).cls ∈ TB := tw_1
theorem cw_X9_mending : Cond.code (yn m_X9_mending) (yc m_X9_mending) (yl m_X9_mending) (yr m_X9_mending) ∈ TB := tzc_4 187 (by first | rfl | decide +kernel) rfl
theorem im_X9_mending : Cond.instanceMethod (yn m_X9_mending) ∈ TB := tzc_4 185 (by first | rfl | decide +kernel) rfl
theorem se_X9_mending : Cond.selects (yn m_X9_mending).cls (yn m_X9_mending) (yn m_X9_mending) ∈ TB := tzc_4 186 (by first | rfl | decide +kernel) rfl
theorem in_X9_mending : Cond.initialized (yn m_X9_mending).cls ∈ TB := tw_1
theorem cw_X9_price : Cond.code (yn m_X9_price) (yc m_X9_price) (yl m_X9_price) (yr m_X9_price) ∈ TB := tzc_4 191 (by first | rfl | decide +kernel) rfl
theorem im_X9_price : Cond.instanceMethod (yn m_X9_price) ∈ TB := tzc_4 189 (by first | rfl | decide +kernel) rfl
theorem se_X9_price : Cond.selects (yn m_X9_price).cls (yn m_X9_price) (yn m_X9_price) ∈ TB := tzc_4 190 (by first | rfl | decide +kernel) rfl
theorem in_X9_price : Cond.initialized (yn m_X9_price).cls ∈ TB := tw_1
theorem cw_X9_year : Cond.code (yn m_X9_year) (yc m_X9_year) (yl m_X9_year) (yr m_X9_year) ∈ TB := tzc_4 198 (by first | rfl | decide +kernel) rfl
theorem im_X9_year : Cond.instanceMethod (yn m_X9_year) ∈ TB := tzc_4 196 (by first | rfl | decide +kernel) rfl
theorem se_X9_year : Cond.selects (yn m_X9_year).cls (yn m_X9_year) (yn m_X9_year) ∈ TB := tzc_4 197 (by first | rfl | decide +kernel) rfl
theorem in_X9_year : Cond.initialized (yn m_X9_year).cls ∈ TB := tw_1
theorem cw_X9_saves : Cond.code (yn m_X9_saves) (yc m_X9_saves) (yl m_X9_saves) (yr m_X9_saves) ∈ TB := tzc_4 213 (by first | rfl | decide +kernel) rfl
theorem im_X9_saves : Cond.instanceMethod (yn m_X9_saves) ∈ TB := tzc_4 211 (by first | rfl | decide +kernel) rfl
theorem se_X9_saves : Cond.selects (yn m_X9_saves).cls (yn m_X9_saves) (yn m_X9_saves) ∈ TB := tzc_4 212 (by first | rfl | decide +kernel) rfl
theorem in_X9_saves : Cond.initialized (yn m_X9_saves).cls ∈ TB := tw_1
theorem cw_X9_best : Cond.code (yn m_X9_best) (yc m_X9_best) (yl m_X9_best) (yr m_X9_best) ∈ TB := tzc_4 226 (by first | rfl | decide +kernel) rfl
theorem im_X9_best : Cond.instanceMethod (yn m_X9_best) ∈ TB := tzc_4 224 (by first | rfl | decide +kernel) rfl
theorem se_X9_best : Cond.selects (yn m_X9_best).cls (yn m_X9_best) (yn m_X9_best) ∈ TB := tzc_4 225 (by first | rfl | decide +kernel) rfl
theorem in_X9_best : Cond.initialized (yn m_X9_best).cls ∈ TB := tw_1
theorem cw_X9_pays : Cond.code (yn m_X9_pays) (yc m_X9_pays) (yl m_X9_pays) (yr m_X9_pays) ∈ TB := tzc_5 6 (by first | rfl | decide +kernel) rfl
theorem im_X9_pays : Cond.instanceMethod (yn m_X9_pays) ∈ TB := tzc_5 4 (by first | rfl | decide +kernel) rfl
theorem se_X9_pays : Cond.selects (yn m_X9_pays).cls (yn m_X9_pays) (yn m_X9_pays) ∈ TB := tzc_5 5 (by first | rfl | decide +kernel) rfl
theorem in_X9_pays : Cond.initialized (yn m_X9_pays).cls ∈ TB := tw_1
theorem cw_X9_ice : Cond.code (yn m_X9_ice) (yc m_X9_ice) (yl m_X9_ice) (yr m_X9_ice) ∈ TB := tzc_5 14 (by first | rfl | decide +kernel) rfl
theorem im_X9_ice : Cond.instanceMethod (yn m_X9_ice) ∈ TB := tzc_5 12 (by first | rfl | decide +kernel) rfl
theorem se_X9_ice : Cond.selects (yn m_X9_ice).cls (yn m_X9_ice) (yn m_X9_ice) ∈ TB := tzc_5 13 (by first | rfl | decide +kernel) rfl
theorem in_X9_ice : Cond.initialized (yn m_X9_ice).cls ∈ TB := tw_1
theorem cw_X9_lying : Cond.code (yn m_X9_lying) (yc m_X9_lying) (yl m_X9_lying) (yr m_X9_lying) ∈ TB := tzc_5 27 (by first | rfl | decide +kernel) rfl
theorem im_X9_lying : Cond.instanceMethod (yn m_X9_lying) ∈ TB := tzc_5 25 (by first | rfl | decide +kernel) rfl
theorem se_X9_lying : Cond.selects (yn m_X9_lying).cls (yn m_X9_lying) (yn m_X9_lying) ∈ TB := tzc_5 26 (by first | rfl | decide +kernel) rfl
theorem in_X9_lying : Cond.initialized (yn m_X9_lying).cls ∈ TB := tw_1
theorem cw_X9_bulb : Cond.code (yn m_X9_bulb) (yc m_X9_bulb) (yl m_X9_bulb) (yr m_X9_bulb) ∈ TB := tzc_5 67 (by first | rfl | decide +kernel) rfl
theorem im_X9_bulb : Cond.instanceMethod (yn m_X9_bulb) ∈ TB := tzc_5 65 (by first | rfl | decide +kernel) rfl
theorem se_X9_bulb : Cond.selects (yn m_X9_bulb).cls (yn m_X9_bulb) (yn m_X9_bulb) ∈ TB := tzc_5 66 (by first | rfl | decide +kernel) rfl
theorem in_X9_bulb : Cond.initialized (yn m_X9_bulb).cls ∈ TB := tw_1
theorem cw_X9_without : Cond.code (yn m_X9_without) (yc m_X9_without) (yl m_X9_without) (yr m_X9_without) ∈ TB := tzc_5 75 (by first | rfl | decide +kernel) rfl
theorem im_X9_without : Cond.instanceMethod (yn m_X9_without) ∈ TB := tzc_5 73 (by first | rfl | decide +kernel) rfl
theorem se_X9_without : Cond.selects (yn m_X9_without).cls (yn m_X9_without) (yn m_X9_without) ∈ TB := tzc_5 74 (by first | rfl | decide +kernel) rfl
theorem in_X9_without : Cond.initialized (yn m_X9_without).cls ∈ TB := tw_1
theorem cw_X9_cheap : Cond.code (yn m_X9_cheap) (yc m_X9_cheap) (yl m_X9_cheap) (yr m_X9_cheap) ∈ TB := tzc_5 84 (by first | rfl | decide +kernel) rfl
theorem im_X9_cheap : Cond.instanceMethod (yn m_X9_cheap) ∈ TB := tzc_5 82 (by first | rfl | decide +kernel) rfl
theorem se_X9_cheap : Cond.selects (yn m_X9_cheap).cls (yn m_X9_cheap) (yn m_X9_cheap) ∈ TB := tzc_5 83 (by first | rfl | decide +kernel) rfl
theorem in_X9_cheap : Cond.initialized (yn m_X9_cheap).cls ∈ TB := tw_1
theorem cw_X9_store : Cond.code (yn m_X9_store) (yc m_X9_store) (yl m_X9_store) (yr m_X9_store) ∈ TB := tzc_5 88 (by first | rfl | decide +kernel) rfl
theorem im_X9_store : Cond.instanceMethod (yn m_X9_store) ∈ TB := tzc_5 86 (by first | rfl | decide +kernel) rfl
theorem se_X9_store : Cond.selects (yn m_X9_store).cls (yn m_X9_store) (yn m_X9_store) ∈ TB := tzc_5 87 (by first | rfl | decide +kernel) rfl
theorem in_X9_store : Cond.initialized (yn m_X9_store).cls ∈ TB := tw_1
theorem cw_X9_seed : Cond.code (yn m_X9_seed) (yc m_X9_seed) (yl m_X9_seed) (yr m_X9_seed) ∈ TB := tzc_5 108 (by first | rfl | decide +kernel) rfl
theorem im_X9_seed : Cond.instanceMethod (yn m_X9_seed) ∈ TB := tzc_5 106 (by first | rfl | decide +kernel) rfl
theorem se_X9_seed : Cond.selects (yn m_X9_seed).cls (yn m_X9_seed) (yn m_X9_seed) ∈ TB := tzc_5 107 (by first | rfl | decide +kernel) rfl
theorem in_X9_seed : Cond.initialized (yn m_X9_seed).cls ∈ TB := tw_1
theorem cw_X9_keep : Cond.code (yn m_X9_keep) (yc m_X9_keep) (yl m_X9_keep) (yr m_X9_keep) ∈ TB := tzc_5 112 (by first | rfl | decide +kernel) rfl
theorem im_X9_keep : Cond.instanceMethod (yn m_X9_keep) ∈ TB := tzc_5 110 (by first | rfl | decide +kernel) rfl
theorem se_X9_keep : Cond.selects (yn m_X9_keep).cls (yn m_X9_keep) (yn m_X9_keep) ∈ TB := tzc_5 111 (by first | rfl | decide +kernel) rfl
theorem in_X9_keep : Cond.initialized (yn m_X9_keep).cls ∈ TB := tw_1
theorem cw_X9_goBack : Cond.code (yn m_X9_goBack) (yc m_X9_goBack) (yl m_X9_goBack) (yr m_X9_goBack) ∈ TB := tzc_5 121 (by first | rfl | decide +kernel) rfl
theorem im_X9_goBack : Cond.instanceMethod (yn m_X9_goBack) ∈ TB := tzc_5 119 (by first | rfl | decide +kernel) rfl
theorem se_X9_goBack : Cond.selects (yn m_X9_goBack).cls (yn m_X9_goBack) (yn m_X9_goBack) ∈ TB := tzc_5 120 (by first | rfl | decide +kernel) rfl
theorem in_X9_goBack : Cond.initialized (yn m_X9_goBack).cls ∈ TB := tw_1
theorem cw_X9_imageOf : Cond.code (yn m_X9_imageOf) (yc m_X9_imageOf) (yl m_X9_imageOf) (yr m_X9_imageOf) ∈ TB := tzc_5 116 (by first | rfl | decide +kernel) rfl
theorem im_X9_imageOf : Cond.instanceMethod (yn m_X9_imageOf) ∈ TB := tzc_5 115 (by first | rfl | decide +kernel) rfl
theorem se_X9_imageOf : Cond.selects (yn m_X9_imageOf).cls (yn m_X9_imageOf) (yn m_X9_imageOf) ∈ TB := tb_sel 35 (by first | rfl | decide +kernel) rfl
theorem in_X9_imageOf : Cond.initialized (yn m_X9_imageOf).cls ∈ TB := tw_1
theorem cw_X9_drawDoor : Cond.code (yn m_X9_drawDoor) (yc m_X9_drawDoor) (yl m_X9_drawDoor) (yr m_X9_drawDoor) ∈ TB := tzc_3 237 (by first | rfl | decide +kernel) rfl
theorem im_X9_drawDoor : Cond.instanceMethod (yn m_X9_drawDoor) ∈ TB := tzc_3 236 (by first | rfl | decide +kernel) rfl
theorem se_X9_drawDoor : Cond.selects (yn m_X9_drawDoor).cls (yn m_X9_drawDoor) (yn m_X9_drawDoor) ∈ TB := tb_sel 18 (by first | rfl | decide +kernel) rfl
theorem in_X9_drawDoor : Cond.initialized (yn m_X9_drawDoor).cls ∈ TB := tw_1
theorem cw_X9_isSet : Cond.code (yn m_X9_isSet) (yc m_X9_isSet) (yl m_X9_isSet) (yr m_X9_isSet) ∈ TB := tzc_3 95 (by first | rfl | decide +kernel) rfl
theorem im_X9_isSet : Cond.static (yn m_X9_isSet) ∈ TB := tzc_3 94 (by first | rfl | decide +kernel) rfl
theorem in_X9_isSet : Cond.initialized (yn m_X9_isSet).cls ∈ TB := tw_1
theorem cw_X9_isPart : Cond.code (yn m_X9_isPart) (yc m_X9_isPart) (yl m_X9_isPart) (yr m_X9_isPart) ∈ TB := tzc_4 216 (by first | rfl | decide +kernel) rfl
theorem im_X9_isPart : Cond.static (yn m_X9_isPart) ∈ TB := tzc_4 215 (by first | rfl | decide +kernel) rfl
theorem in_X9_isPart : Cond.initialized (yn m_X9_isPart).cls ∈ TB := tw_1
theorem cw_X9_isTrouble : Cond.code (yn m_X9_isTrouble) (yc m_X9_isTrouble) (yl m_X9_isTrouble) (yr m_X9_isTrouble) ∈ TB := tzc_4 88 (by first | rfl | decide +kernel) rfl
theorem im_X9_isTrouble : Cond.static (yn m_X9_isTrouble) ∈ TB := tzc_4 87 (by first | rfl | decide +kernel) rfl
theorem in_X9_isTrouble : Cond.initialized (yn m_X9_isTrouble).cls ∈ TB := tw_1
theorem cw_X9_isSign : Cond.code (yn m_X9_isSign) (yc m_X9_isSign) (yl m_X9_isSign) (yr m_X9_isSign) ∈ TB := tzc_4 43 (by first | rfl | decide +kernel) rfl
theorem im_X9_isSign : Cond.static (yn m_X9_isSign) ∈ TB := tzc_4 42 (by first | rfl | decide +kernel) rfl
theorem in_X9_isSign : Cond.initialized (yn m_X9_isSign).cls ∈ TB := tw_1
theorem cw_X9_isShelf : Cond.code (yn m_X9_isShelf) (yc m_X9_isShelf) (yl m_X9_isShelf) (yr m_X9_isShelf) ∈ TB := tzc_3 116 (by first | rfl | decide +kernel) rfl
theorem im_X9_isShelf : Cond.static (yn m_X9_isShelf) ∈ TB := tzc_3 115 (by first | rfl | decide +kernel) rfl
theorem in_X9_isShelf : Cond.initialized (yn m_X9_isShelf).cls ∈ TB := tw_1
theorem cw_X9_isPrice : Cond.code (yn m_X9_isPrice) (yc m_X9_isPrice) (yl m_X9_isPrice) (yr m_X9_isPrice) ∈ TB := tzc_4 194 (by first | rfl | decide +kernel) rfl
theorem im_X9_isPrice : Cond.static (yn m_X9_isPrice) ∈ TB := tzc_4 193 (by first | rfl | decide +kernel) rfl
theorem in_X9_isPrice : Cond.initialized (yn m_X9_isPrice).cls ∈ TB := tw_1
theorem cw_X9_canBeWarmth : Cond.code (yn m_X9_canBeWarmth) (yc m_X9_canBeWarmth) (yl m_X9_canBeWarmth) (yr m_X9_canBeWarmth) ∈ TB := tzc_3 119 (by first | rfl | decide +kernel) rfl
theorem im_X9_canBeWarmth : Cond.static (yn m_X9_canBeWarmth) ∈ TB := tzc_3 118 (by first | rfl | decide +kernel) rfl
theorem in_X9_canBeWarmth : Cond.initialized (yn m_X9_canBeWarmth).cls ∈ TB := tw_1
theorem cw_X9_areSignDays : Cond.code (yn m_X9_areSignDays) (yc m_X9_areSignDays) (yl m_X9_areSignDays) (yr m_X9_areSignDays) ∈ TB := tzc_4 46 (by first | rfl | decide +kernel) rfl
theorem im_X9_areSignDays : Cond.static (yn m_X9_areSignDays) ∈ TB := tzc_4 45 (by first | rfl | decide +kernel) rfl
theorem in_X9_areSignDays : Cond.initialized (yn m_X9_areSignDays).cls ∈ TB := tw_1
theorem cw_X10_init : Cond.code (yn m_X10_init) (yc m_X10_init) (yl m_X10_init) (yr m_X10_init) ∈ TB := tzc_5 126 (by first | rfl | decide +kernel) rfl
theorem tw_13 : (Cond.initialized "ColdBoxModel") ∈ TB := tzc_1 13 (by first | rfl | decide +kernel) rfl
theorem im_X10_init : Cond.instanceMethod (yn m_X10_init) ∈ TB := tzc_5 125 (by first | rfl | decide +kernel) rfl
theorem in_X10_init : Cond.initialized (yn m_X10_init).cls ∈ TB := tw_13
theorem cw_X10_in : Cond.code (yn m_X10_in) (yc m_X10_in) (yl m_X10_in) (yr m_X10_in) ∈ TB := tzc_5 238 (by first | rfl | decide +kernel) rfl
theorem im_X10_in : Cond.static (yn m_X10_in) ∈ TB := tzc_5 237 (by first | rfl | decide +kernel) rfl
theorem in_X10_in : Cond.initialized (yn m_X10_in).cls ∈ TB := tw_13
theorem cw_X10_one : Cond.code (yn m_X10_one) (yc m_X10_one) (yl m_X10_one) (yr m_X10_one) ∈ TB := tzc_6 107 (by first | rfl | decide +kernel) rfl
theorem im_X10_one : Cond.static (yn m_X10_one) ∈ TB := tzc_6 106 (by first | rfl | decide +kernel) rfl
theorem in_X10_one : Cond.initialized (yn m_X10_one).cls ∈ TB := tw_13
theorem cw_X10_has : Cond.code (yn m_X10_has) (yc m_X10_has) (yl m_X10_has) (yr m_X10_has) ∈ TB := tzc_6 21 (by first | rfl | decide +kernel) rfl
theorem im_X10_has : Cond.static (yn m_X10_has) ∈ TB := tzc_6 20 (by first | rfl | decide +kernel) rfl
theorem in_X10_has : Cond.initialized (yn m_X10_has).cls ∈ TB := tw_13
theorem cw_X10_ones : Cond.code (yn m_X10_ones) (yc m_X10_ones) (yl m_X10_ones) (yr m_X10_ones) ∈ TB := tzc_7 65 (by first | rfl | decide +kernel) rfl
theorem im_X10_ones : Cond.static (yn m_X10_ones) ∈ TB := tzc_7 64 (by first | rfl | decide +kernel) rfl
theorem in_X10_ones : Cond.initialized (yn m_X10_ones).cls ∈ TB := tw_13
theorem cw_X10_untold : Cond.code (yn m_X10_untold) (yc m_X10_untold) (yl m_X10_untold) (yr m_X10_untold) ∈ TB := tzc_6 12 (by first | rfl | decide +kernel) rfl
theorem im_X10_untold : Cond.static (yn m_X10_untold) ∈ TB := tzc_6 11 (by first | rfl | decide +kernel) rfl
theorem in_X10_untold : Cond.initialized (yn m_X10_untold).cls ∈ TB := tw_13
theorem cw_X10_begin : Cond.code (yn m_X10_begin) (yc m_X10_begin) (yl m_X10_begin) (yr m_X10_begin) ∈ TB := tzc_6 9 (by first | rfl | decide +kernel) rfl
theorem im_X10_begin : Cond.instanceMethod (yn m_X10_begin) ∈ TB := tzc_6 8 (by first | rfl | decide +kernel) rfl
theorem se_X10_begin : Cond.selects (yn m_X10_begin).cls (yn m_X10_begin) (yn m_X10_begin) ∈ TB := tb_sel 36 (by first | rfl | decide +kernel) rfl
theorem in_X10_begin : Cond.initialized (yn m_X10_begin).cls ∈ TB := tw_13
theorem cw_X10_feed : Cond.code (yn m_X10_feed) (yc m_X10_feed) (yl m_X10_feed) (yr m_X10_feed) ∈ TB := tzc_5 234 (by first | rfl | decide +kernel) rfl
theorem im_X10_feed : Cond.instanceMethod (yn m_X10_feed) ∈ TB := tzc_5 232 (by first | rfl | decide +kernel) rfl
theorem se_X10_feed : Cond.selects (yn m_X10_feed).cls (yn m_X10_feed) (yn m_X10_feed) ∈ TB := tzc_5 233 (by first | rfl | decide +kernel) rfl
theorem in_X10_feed : Cond.initialized (yn m_X10_feed).cls ∈ TB := tw_13
theorem cw_X10_here : Cond.code (yn m_X10_here) (yc m_X10_here) (yl m_X10_here) (yr m_X10_here) ∈ TB := tzc_6 31 (by first | rfl | decide +kernel) rfl
theorem im_X10_here : Cond.instanceMethod (yn m_X10_here) ∈ TB := tzc_6 30 (by first | rfl | decide +kernel) rfl
theorem se_X10_here : Cond.selects (yn m_X10_here).cls (yn m_X10_here) (yn m_X10_here) ∈ TB := tb_sel 39 (by first | rfl | decide +kernel) rfl
theorem in_X10_here : Cond.initialized (yn m_X10_here).cls ∈ TB := tw_13
theorem cw_X10_want : Cond.code (yn m_X10_want) (yc m_X10_want) (yl m_X10_want) (yr m_X10_want) ∈ TB := tzc_6 53 (by first | rfl | decide +kernel) rfl
theorem im_X10_want : Cond.instanceMethod (yn m_X10_want) ∈ TB := tzc_6 52 (by first | rfl | decide +kernel) rfl
theorem se_X10_want : Cond.selects (yn m_X10_want).cls (yn m_X10_want) (yn m_X10_want) ∈ TB := tb_sel 44 (by first | rfl | decide +kernel) rfl
theorem in_X10_want : Cond.initialized (yn m_X10_want).cls ∈ TB := tw_13
theorem cw_X10_takeWord : Cond.code (yn m_X10_takeWord) (yc m_X10_takeWord) (yl m_X10_takeWord) (yr m_X10_takeWord) ∈ TB := tzc_6 39 (by first | rfl | decide +kernel) rfl
theorem im_X10_takeWord : Cond.instanceMethod (yn m_X10_takeWord) ∈ TB := tzc_6 38 (by first | rfl | decide +kernel) rfl
theorem se_X10_takeWord : Cond.selects (yn m_X10_takeWord).cls (yn m_X10_takeWord) (yn m_X10_takeWord) ∈ TB := tb_sel 41 (by first | rfl | decide +kernel) rfl
theorem in_X10_takeWord : Cond.initialized (yn m_X10_takeWord).cls ∈ TB := tw_13
theorem cw_X10_isWord : Cond.code (yn m_X10_isWord) (yc m_X10_isWord) (yl m_X10_isWord) (yr m_X10_isWord) ∈ TB := tzc_6 49 (by first | rfl | decide +kernel) rfl
theorem im_X10_isWord : Cond.instanceMethod (yn m_X10_isWord) ∈ TB := tzc_6 48 (by first | rfl | decide +kernel) rfl
theorem se_X10_isWord : Cond.selects (yn m_X10_isWord).cls (yn m_X10_isWord) (yn m_X10_isWord) ∈ TB := tb_sel 43 (by first | rfl | decide +kernel) rfl
theorem in_X10_isWord : Cond.initialized (yn m_X10_isWord).cls ∈ TB := tw_13
theorem cw_X10_takeNumber : Cond.code (yn m_X10_takeNumber) (yc m_X10_takeNumber) (yl m_X10_takeNumber) (yr m_X10_takeNumber) ∈ TB := tzc_6 57 (by first | rfl | decide +kernel) rfl
theorem im_X10_takeNumber : Cond.instanceMethod (yn m_X10_takeNumber) ∈ TB := tzc_6 56 (by first | rfl | decide +kernel) rfl
theorem se_X10_takeNumber : Cond.selects (yn m_X10_takeNumber).cls (yn m_X10_takeNumber) (yn m_X10_takeNumber) ∈ TB := tb_sel 45 (by first | rfl | decide +kernel) rfl
theorem in_X10_takeNumber : Cond.initialized (yn m_X10_takeNumber).cls ∈ TB := tw_13
theorem cw_X10_kindHere : Cond.code (yn m_X10_kindHere) (yc m_X10_kindHere) (yl m_X10_kindHere) (yr m_X10_kindHere) ∈ TB := tzc_6 45 (by first | rfl | decide +kernel) rfl
theorem im_X10_kindHere : Cond.instanceMethod (yn m_X10_kindHere) ∈ TB := tzc_6 44 (by first | rfl | decide +kernel) rfl
theorem se_X10_kindHere : Cond.selects (yn m_X10_kindHere).cls (yn m_X10_kindHere) (yn m_X10_kindHere) ∈ TB := tb_sel 42 (by first | rfl | decide +kernel) rfl
theorem in_X10_kindHere : Cond.initialized (yn m_X10_kindHere).cls ∈ TB := tw_13
theorem cw_X10_leastOf : Cond.code (yn m_X10_leastOf) (yc m_X10_leastOf) (yl m_X10_leastOf) (yr m_X10_leastOf) ∈ TB := tzc_6 63 (by first | rfl | decide +kernel) rfl
theorem im_X10_leastOf : Cond.static (yn m_X10_leastOf) ∈ TB := tzc_6 62 (by first | rfl | decide +kernel) rfl
theorem in_X10_leastOf : Cond.initialized (yn m_X10_leastOf).cls ∈ TB := tw_13
theorem cw_X10_mostOf : Cond.code (yn m_X10_mostOf) (yc m_X10_mostOf) (yl m_X10_mostOf) (yr m_X10_mostOf) ∈ TB := tzc_6 66 (by first | rfl | decide +kernel) rfl
theorem im_X10_mostOf : Cond.static (yn m_X10_mostOf) ∈ TB := tzc_6 65 (by first | rfl | decide +kernel) rfl
theorem in_X10_mostOf : Cond.initialized (yn m_X10_mostOf).cls ∈ TB := tw_13
theorem cw_X10_takeClause : Cond.code (yn m_X10_takeClause) (yc m_X10_takeClause) (yl m_X10_takeClause) (yr m_X10_takeClause) ∈ TB := tzc_6 35 (by first | rfl | decide +kernel) rfl
theorem im_X10_takeClause : Cond.instanceMethod (yn m_X10_takeClause) ∈ TB := tzc_6 34 (by first | rfl | decide +kernel) rfl
theorem se_X10_takeClause : Cond.selects (yn m_X10_takeClause).cls (yn m_X10_takeClause) (yn m_X10_takeClause) ∈ TB := tb_sel 40 (by first | rfl | decide +kernel) rfl
theorem in_X10_takeClause : Cond.initialized (yn m_X10_takeClause).cls ∈ TB := tw_13
theorem cw_X10_takeEnd : Cond.code (yn m_X10_takeEnd) (yc m_X10_takeEnd) (yl m_X10_takeEnd) (yr m_X10_takeEnd) ∈ TB := tzc_6 70 (by first | rfl | decide +kernel) rfl
theorem im_X10_takeEnd : Cond.instanceMethod (yn m_X10_takeEnd) ∈ TB := tzc_6 69 (by first | rfl | decide +kernel) rfl
theorem se_X10_takeEnd : Cond.selects (yn m_X10_takeEnd).cls (yn m_X10_takeEnd) (yn m_X10_takeEnd) ∈ TB := tb_sel 46 (by first | rfl | decide +kernel) rfl
theorem in_X10_takeEnd : Cond.initialized (yn m_X10_takeEnd).cls ∈ TB := tw_13
theorem cw_X10_beginReading : Cond.code (yn m_X10_beginReading) (yc m_X10_beginReading) (yl m_X10_beginReading) (yr m_X10_beginReading) ∈ TB := tzc_6 27 (by first | rfl | decide +kernel) rfl
theorem im_X10_beginReading : Cond.instanceMethod (yn m_X10_beginReading) ∈ TB := tzc_6 26 (by first | rfl | decide +kernel) rfl
theorem se_X10_beginReading : Cond.selects (yn m_X10_beginReading).cls (yn m_X10_beginReading) (yn m_X10_beginReading) ∈ TB := tb_sel 38 (by first | rfl | decide +kernel) rfl
theorem in_X10_beginReading : Cond.initialized (yn m_X10_beginReading).cls ∈ TB := tw_13
theorem cw_X10_box : Cond.code (yn m_X10_box) (yc m_X10_box) (yl m_X10_box) (yr m_X10_box) ∈ TB := tzc_6 5 (by first | rfl | decide +kernel) rfl
theorem im_X10_box : Cond.instanceMethod (yn m_X10_box) ∈ TB := tzc_6 3 (by first | rfl | decide +kernel) rfl
theorem se_X10_box : Cond.selects (yn m_X10_box).cls (yn m_X10_box) (yn m_X10_box) ∈ TB := tzc_6 4 (by first | rfl | decide +kernel) rfl
theorem in_X10_box : Cond.initialized (yn m_X10_box).cls ∈ TB := tw_13
theorem cw_X10_day : Cond.code (yn m_X10_day) (yc m_X10_day) (yl m_X10_day) (yr m_X10_day) ∈ TB := tzc_6 74 (by first | rfl | decide +kernel) rfl
theorem im_X10_day : Cond.instanceMethod (yn m_X10_day) ∈ TB := tzc_6 72 (by first | rfl | decide +kernel) rfl
theorem se_X10_day : Cond.selects (yn m_X10_day).cls (yn m_X10_day) (yn m_X10_day) ∈ TB := tzc_6 73 (by first | rfl | decide +kernel) rfl
theorem in_X10_day : Cond.initialized (yn m_X10_day).cls ∈ TB := tw_13
theorem cw_X10_fault : Cond.code (yn m_X10_fault) (yc m_X10_fault) (yl m_X10_fault) (yr m_X10_fault) ∈ TB := tzc_6 78 (by first | rfl | decide +kernel) rfl
theorem im_X10_fault : Cond.instanceMethod (yn m_X10_fault) ∈ TB := tzc_6 76 (by first | rfl | decide +kernel) rfl
theorem se_X10_fault : Cond.selects (yn m_X10_fault).cls (yn m_X10_fault) (yn m_X10_fault) ∈ TB := tzc_6 77 (by first | rfl | decide +kernel) rfl
theorem in_X10_fault : Cond.initialized (yn m_X10_fault).cls ∈ TB := tw_13
theorem cw_X10_told : Cond.code (yn m_X10_told) (yc m_X10_told) (yl m_X10_told) (yr m_X10_told) ∈ TB := tzc_6 82 (by first | rfl | decide +kernel) rfl
theorem im_X10_told : Cond.instanceMethod (yn m_X10_told) ∈ TB := tzc_6 80 (by first | rfl | decide +kernel) rfl
theorem se_X10_told : Cond.selects (yn m_X10_told).cls (yn m_X10_told) (yn m_X10_told) ∈ TB := tzc_6 81 (by first | rfl | decide +kernel) rfl
theorem in_X10_told : Cond.initialized (yn m_X10_told).cls ∈ TB := tw_13
theorem cw_X10_opening : Cond.code (yn m_X10_opening) (yc m_X10_opening) (yl m_X10_opening) (yr m_X10_opening) ∈ TB := tzc_6 87 (by first | rfl | decide +kernel) rfl
theorem im_X10_opening : Cond.instanceMethod (yn m_X10_opening) ∈ TB := tzc_6 85 (by first | rfl | decide +kernel) rfl
theorem se_X10_opening : Cond.selects (yn m_X10_opening).cls (yn m_X10_opening) (yn m_X10_opening) ∈ TB := tzc_6 86 (by first | rfl | decide +kernel) rfl
theorem in_X10_opening : Cond.initialized (yn m_X10_opening).cls ∈ TB := tw_13
theorem cw_X10_copy : Cond.code (yn m_X10_copy) (yc m_X10_copy) (yl m_X10_copy) (yr m_X10_copy) ∈ TB := tzc_7 147 (by first | rfl | decide +kernel) rfl
theorem im_X10_copy : Cond.instanceMethod (yn m_X10_copy) ∈ TB := tzc_7 146 (by first | rfl | decide +kernel) rfl
theorem se_X10_copy : Cond.selects (yn m_X10_copy).cls (yn m_X10_copy) (yn m_X10_copy) ∈ TB := tb_sel 72 (by first | rfl | decide +kernel) rfl
theorem in_X10_copy : Cond.initialized (yn m_X10_copy).cls ∈ TB := tw_13
theorem cw_X10_freshen : Cond.code (yn m_X10_freshen) (yc m_X10_freshen) (yl m_X10_freshen) (yr m_X10_freshen) ∈ TB := tzc_6 16 (by first | rfl | decide +kernel) rfl
theorem im_X10_freshen : Cond.instanceMethod (yn m_X10_freshen) ∈ TB := tzc_6 15 (by first | rfl | decide +kernel) rfl
theorem se_X10_freshen : Cond.selects (yn m_X10_freshen).cls (yn m_X10_freshen) (yn m_X10_freshen) ∈ TB := tb_sel 37 (by first | rfl | decide +kernel) rfl
theorem in_X10_freshen : Cond.initialized (yn m_X10_freshen).cls ∈ TB := tw_13
theorem cw_X10_tryFresh : Cond.code (yn m_X10_tryFresh) (yc m_X10_tryFresh) (yl m_X10_tryFresh) (yr m_X10_tryFresh) ∈ TB := tzc_7 25 (by first | rfl | decide +kernel) rfl
theorem im_X10_tryFresh : Cond.instanceMethod (yn m_X10_tryFresh) ∈ TB := tzc_7 24 (by first | rfl | decide +kernel) rfl
theorem se_X10_tryFresh : Cond.selects (yn m_X10_tryFresh).cls (yn m_X10_tryFresh) (yn m_X10_tryFresh) ∈ TB := tb_sel 63 (by first | rfl | decide +kernel) rfl
theorem in_X10_tryFresh : Cond.initialized (yn m_X10_tryFresh).cls ∈ TB := tw_13
theorem cw_X10_capOf : Cond.code (yn m_X10_capOf) (yc m_X10_capOf) (yl m_X10_capOf) (yr m_X10_capOf) ∈ TB := tzc_6 142 (by first | rfl | decide +kernel) rfl
theorem im_X10_capOf : Cond.instanceMethod (yn m_X10_capOf) ∈ TB := tzc_6 141 (by first | rfl | decide +kernel) rfl
theorem se_X10_capOf : Cond.selects (yn m_X10_capOf).cls (yn m_X10_capOf) (yn m_X10_capOf) ∈ TB := tb_sel 49 (by first | rfl | decide +kernel) rfl
theorem in_X10_capOf : Cond.initialized (yn m_X10_capOf).cls ∈ TB := tw_13
theorem cw_X10_warm : Cond.code (yn m_X10_warm) (yc m_X10_warm) (yl m_X10_warm) (yr m_X10_warm) ∈ TB := tzc_6 138 (by first | rfl | decide +kernel) rfl
theorem im_X10_warm : Cond.instanceMethod (yn m_X10_warm) ∈ TB := tzc_6 137 (by first | rfl | decide +kernel) rfl
theorem se_X10_warm : Cond.selects (yn m_X10_warm).cls (yn m_X10_warm) (yn m_X10_warm) ∈ TB := tb_sel 48 (by first | rfl | decide +kernel) rfl
theorem in_X10_warm : Cond.initialized (yn m_X10_warm).cls ∈ TB := tw_13
theorem cw_X10_isOpen : Cond.code (yn m_X10_isOpen) (yc m_X10_isOpen) (yl m_X10_isOpen) (yr m_X10_isOpen) ∈ TB := tzc_6 169 (by first | rfl | decide +kernel) rfl
theorem im_X10_isOpen : Cond.instanceMethod (yn m_X10_isOpen) ∈ TB := tzc_6 168 (by first | rfl | decide +kernel) rfl
theorem se_X10_isOpen : Cond.selects (yn m_X10_isOpen).cls (yn m_X10_isOpen) (yn m_X10_isOpen) ∈ TB := tb_sel 52 (by first | rfl | decide +kernel) rfl
theorem in_X10_isOpen : Cond.initialized (yn m_X10_isOpen).cls ∈ TB := tw_13
theorem cw_X10_isHour : Cond.code (yn m_X10_isHour) (yc m_X10_isHour) (yl m_X10_isHour) (yr m_X10_isHour) ∈ TB := tzc_6 178 (by first | rfl | decide +kernel) rfl
theorem im_X10_isHour : Cond.static (yn m_X10_isHour) ∈ TB := tzc_6 177 (by first | rfl | decide +kernel) rfl
theorem in_X10_isHour : Cond.initialized (yn m_X10_isHour).cls ∈ TB := tw_13
theorem cw_X10_findFlows : Cond.code (yn m_X10_findFlows) (yc m_X10_findFlows) (yl m_X10_findFlows) (yr m_X10_findFlows) ∈ TB := tzc_6 190 (by first | rfl | decide +kernel) rfl
theorem im_X10_findFlows : Cond.instanceMethod (yn m_X10_findFlows) ∈ TB := tzc_6 189 (by first | rfl | decide +kernel) rfl
theorem se_X10_findFlows : Cond.selects (yn m_X10_findFlows).cls (yn m_X10_findFlows) (yn m_X10_findFlows) ∈ TB := tb_sel 55 (by first | rfl | decide +kernel) rfl
theorem in_X10_findFlows : Cond.initialized (yn m_X10_findFlows).cls ∈ TB := tw_13
theorem cw_X10_wet : Cond.code (yn m_X10_wet) (yc m_X10_wet) (yl m_X10_wet) (yr m_X10_wet) ∈ TB := tzc_6 203 (by first | rfl | decide +kernel) rfl
theorem im_X10_wet : Cond.instanceMethod (yn m_X10_wet) ∈ TB := tzc_6 202 (by first | rfl | decide +kernel) rfl
theorem se_X10_wet : Cond.selects (yn m_X10_wet).cls (yn m_X10_wet) (yn m_X10_wet) ∈ TB := tb_sel 57 (by first | rfl | decide +kernel) rfl
theorem in_X10_wet : Cond.initialized (yn m_X10_wet).cls ∈ TB := tw_13
theorem cw_X10_readBulb : Cond.code (yn m_X10_readBulb) (yc m_X10_readBulb) (yl m_X10_readBulb) (yr m_X10_readBulb) ∈ TB := tzc_6 184 (by first | rfl | decide +kernel) rfl
theorem im_X10_readBulb : Cond.instanceMethod (yn m_X10_readBulb) ∈ TB := tzc_6 183 (by first | rfl | decide +kernel) rfl
theorem se_X10_readBulb : Cond.selects (yn m_X10_readBulb).cls (yn m_X10_readBulb) (yn m_X10_readBulb) ∈ TB := tb_sel 54 (by first | rfl | decide +kernel) rfl
theorem in_X10_readBulb : Cond.initialized (yn m_X10_readBulb).cls ∈ TB := tw_13
theorem cw_X10_moves : Cond.code (yn m_X10_moves) (yc m_X10_moves) (yl m_X10_moves) (yr m_X10_moves) ∈ TB := tzc_6 196 (by first | rfl | decide +kernel) rfl
theorem im_X10_moves : Cond.instanceMethod (yn m_X10_moves) ∈ TB := tzc_6 195 (by first | rfl | decide +kernel) rfl
theorem se_X10_moves : Cond.selects (yn m_X10_moves).cls (yn m_X10_moves) (yn m_X10_moves) ∈ TB := tb_sel 56 (by first | rfl | decide +kernel) rfl
theorem in_X10_moves : Cond.initialized (yn m_X10_moves).cls ∈ TB := tw_13
theorem cw_X10_tick : Cond.code (yn m_X10_tick) (yc m_X10_tick) (yl m_X10_tick) (yr m_X10_tick) ∈ TB := tzc_6 174 (by first | rfl | decide +kernel) rfl
theorem im_X10_tick : Cond.instanceMethod (yn m_X10_tick) ∈ TB := tzc_6 173 (by first | rfl | decide +kernel) rfl
theorem se_X10_tick : Cond.selects (yn m_X10_tick).cls (yn m_X10_tick) (yn m_X10_tick) ∈ TB := tb_sel 53 (by first | rfl | decide +kernel) rfl
theorem in_X10_tick : Cond.initialized (yn m_X10_tick).cls ∈ TB := tw_13
theorem cw_X10_go : Cond.code (yn m_X10_go) (yc m_X10_go) (yl m_X10_go) (yr m_X10_go) ∈ TB := tzc_6 165 (by first | rfl | decide +kernel) rfl
theorem im_X10_go : Cond.instanceMethod (yn m_X10_go) ∈ TB := tzc_6 164 (by first | rfl | decide +kernel) rfl
theorem se_X10_go : Cond.selects (yn m_X10_go).cls (yn m_X10_go) (yn m_X10_go) ∈ TB := tb_sel 51 (by first | rfl | decide +kernel) rfl
theorem in_X10_go : Cond.initialized (yn m_X10_go).cls ∈ TB := tw_13
theorem cw_X10_isSet : Cond.code (yn m_X10_isSet) (yc m_X10_isSet) (yl m_X10_isSet) (yr m_X10_isSet) ∈ TB := tzc_6 94 (by first | rfl | decide +kernel) rfl
theorem im_X10_isSet : Cond.static (yn m_X10_isSet) ∈ TB := tzc_6 93 (by first | rfl | decide +kernel) rfl
theorem in_X10_isSet : Cond.initialized (yn m_X10_isSet).cls ∈ TB := tw_13
theorem cw_X10_isTrouble : Cond.code (yn m_X10_isTrouble) (yc m_X10_isTrouble) (yl m_X10_isTrouble) (yr m_X10_isTrouble) ∈ TB := tzc_7 51 (by first | rfl | decide +kernel) rfl
theorem im_X10_isTrouble : Cond.static (yn m_X10_isTrouble) ∈ TB := tzc_7 50 (by first | rfl | decide +kernel) rfl
theorem in_X10_isTrouble : Cond.initialized (yn m_X10_isTrouble).cls ∈ TB := tw_13
theorem cw_X10_trouble : Cond.code (yn m_X10_trouble) (yc m_X10_trouble) (yl m_X10_trouble) (yr m_X10_trouble) ∈ TB := tzc_6 91 (by first | rfl | decide +kernel) rfl
theorem im_X10_trouble : Cond.instanceMethod (yn m_X10_trouble) ∈ TB := tzc_6 89 (by first | rfl | decide +kernel) rfl
theorem se_X10_trouble : Cond.selects (yn m_X10_trouble).cls (yn m_X10_trouble) (yn m_X10_trouble) ∈ TB := tzc_6 90 (by first | rfl | decide +kernel) rfl
theorem in_X10_trouble : Cond.initialized (yn m_X10_trouble).cls ∈ TB := tw_13
theorem cw_X10_fresh : Cond.code (yn m_X10_fresh) (yc m_X10_fresh) (yl m_X10_fresh) (yr m_X10_fresh) ∈ TB := tzc_6 100 (by first | rfl | decide +kernel) rfl
theorem im_X10_fresh : Cond.instanceMethod (yn m_X10_fresh) ∈ TB := tzc_6 98 (by first | rfl | decide +kernel) rfl
theorem se_X10_fresh : Cond.selects (yn m_X10_fresh).cls (yn m_X10_fresh) (yn m_X10_fresh) ∈ TB := tzc_6 99 (by first | rfl | decide +kernel) rfl
theorem in_X10_fresh : Cond.initialized (yn m_X10_fresh).cls ∈ TB := tw_13
theorem cw_X10_current : Cond.code (yn m_X10_current) (yc m_X10_current) (yl m_X10_current) (yr m_X10_current) ∈ TB := tzc_6 104 (by first | rfl | decide +kernel) rfl
theorem im_X10_current : Cond.instanceMethod (yn m_X10_current) ∈ TB := tzc_6 102 (by first | rfl | decide +kernel) rfl
theorem se_X10_current : Cond.selects (yn m_X10_current).cls (yn m_X10_current) (yn m_X10_current) ∈ TB := tzc_6 103 (by first | rfl | decide +kernel) rfl
theorem in_X10_current : Cond.initialized (yn m_X10_current).cls ∈ TB := tw_13
theorem cw_X10_cover : Cond.code (yn m_X10_cover) (yc m_X10_cover) (yl m_X10_cover) (yr m_X10_cover) ∈ TB := tzc_6 111 (by first | rfl | decide +kernel) rfl
theorem im_X10_cover : Cond.instanceMethod (yn m_X10_cover) ∈ TB := tzc_6 109 (by first | rfl | decide +kernel) rfl
theorem se_X10_cover : Cond.selects (yn m_X10_cover).cls (yn m_X10_cover) (yn m_X10_cover) ∈ TB := tzc_6 110 (by first | rfl | decide +kernel) rfl
theorem in_X10_cover : Cond.initialized (yn m_X10_cover).cls ∈ TB := tw_13
theorem cw_X10_isShelf : Cond.code (yn m_X10_isShelf) (yc m_X10_isShelf) (yl m_X10_isShelf) (yr m_X10_isShelf) ∈ TB := tzc_6 118 (by first | rfl | decide +kernel) rfl
theorem im_X10_isShelf : Cond.static (yn m_X10_isShelf) ∈ TB := tzc_6 117 (by first | rfl | decide +kernel) rfl
theorem in_X10_isShelf : Cond.initialized (yn m_X10_isShelf).cls ∈ TB := tw_13
theorem cw_X10_isFood : Cond.code (yn m_X10_isFood) (yc m_X10_isFood) (yl m_X10_isFood) (yr m_X10_isFood) ∈ TB := tzc_6 133 (by first | rfl | decide +kernel) rfl
theorem im_X10_isFood : Cond.instanceMethod (yn m_X10_isFood) ∈ TB := tzc_6 132 (by first | rfl | decide +kernel) rfl
theorem se_X10_isFood : Cond.selects (yn m_X10_isFood).cls (yn m_X10_isFood) (yn m_X10_isFood) ∈ TB := tb_sel 47 (by first | rfl | decide +kernel) rfl
theorem in_X10_isFood : Cond.initialized (yn m_X10_isFood).cls ∈ TB := tw_13
theorem cw_X10_foods : Cond.code (yn m_X10_foods) (yc m_X10_foods) (yl m_X10_foods) (yr m_X10_foods) ∈ TB := tzc_6 238 (by first | rfl | decide +kernel) rfl
theorem im_X10_foods : Cond.instanceMethod (yn m_X10_foods) ∈ TB := tzc_6 237 (by first | rfl | decide +kernel) rfl
theorem se_X10_foods : Cond.selects (yn m_X10_foods).cls (yn m_X10_foods) (yn m_X10_foods) ∈ TB := tb_sel 60 (by first | rfl | decide +kernel) rfl
theorem in_X10_foods : Cond.initialized (yn m_X10_foods).cls ∈ TB := tw_13
theorem cw_X10_isDegree : Cond.code (yn m_X10_isDegree) (yc m_X10_isDegree) (yl m_X10_isDegree) (yr m_X10_isDegree) ∈ TB := tzc_6 122 (by first | rfl | decide +kernel) rfl
theorem im_X10_isDegree : Cond.static (yn m_X10_isDegree) ∈ TB := tzc_6 121 (by first | rfl | decide +kernel) rfl
theorem in_X10_isDegree : Cond.initialized (yn m_X10_isDegree).cls ∈ TB := tw_13
theorem cw_X10_put : Cond.code (yn m_X10_put) (yc m_X10_put) (yl m_X10_put) (yr m_X10_put) ∈ TB := tzc_6 115 (by first | rfl | decide +kernel) rfl
theorem im_X10_put : Cond.instanceMethod (yn m_X10_put) ∈ TB := tzc_6 113 (by first | rfl | decide +kernel) rfl
theorem se_X10_put : Cond.selects (yn m_X10_put).cls (yn m_X10_put) (yn m_X10_put) ∈ TB := tzc_6 114 (by first | rfl | decide +kernel) rfl
theorem in_X10_put : Cond.initialized (yn m_X10_put).cls ∈ TB := tw_13
theorem cw_X10_take : Cond.code (yn m_X10_take) (yc m_X10_take) (yl m_X10_take) (yr m_X10_take) ∈ TB := tzc_6 129 (by first | rfl | decide +kernel) rfl
theorem im_X10_take : Cond.instanceMethod (yn m_X10_take) ∈ TB := tzc_6 127 (by first | rfl | decide +kernel) rfl
theorem se_X10_take : Cond.selects (yn m_X10_take).cls (yn m_X10_take) (yn m_X10_take) ∈ TB := tzc_6 128 (by first | rfl | decide +kernel) rfl
theorem in_X10_take : Cond.initialized (yn m_X10_take).cls ∈ TB := tw_13
theorem cw_X10_lay : Cond.code (yn m_X10_lay) (yc m_X10_lay) (yl m_X10_lay) (yr m_X10_lay) ∈ TB := tzc_6 148 (by first | rfl | decide +kernel) rfl
theorem im_X10_lay : Cond.instanceMethod (yn m_X10_lay) ∈ TB := tzc_6 146 (by first | rfl | decide +kernel) rfl
theorem se_X10_lay : Cond.selects (yn m_X10_lay).cls (yn m_X10_lay) (yn m_X10_lay) ∈ TB := tzc_6 147 (by first | rfl | decide +kernel) rfl
theorem in_X10_lay : Cond.initialized (yn m_X10_lay).cls ∈ TB := tw_13
theorem cw_X10_isWithin : Cond.code (yn m_X10_isWithin) (yc m_X10_isWithin) (yl m_X10_isWithin) (yr m_X10_isWithin) ∈ TB := tzc_6 156 (by first | rfl | decide +kernel) rfl
theorem im_X10_isWithin : Cond.instanceMethod (yn m_X10_isWithin) ∈ TB := tzc_6 155 (by first | rfl | decide +kernel) rfl
theorem se_X10_isWithin : Cond.selects (yn m_X10_isWithin).cls (yn m_X10_isWithin) (yn m_X10_isWithin) ∈ TB := tb_sel 50 (by first | rfl | decide +kernel) rfl
theorem in_X10_isWithin : Cond.initialized (yn m_X10_isWithin).cls ∈ TB := tw_13
theorem cw_X10_food : Cond.code (yn m_X10_food) (yc m_X10_food) (yl m_X10_food) (yr m_X10_food) ∈ TB := tzc_6 152 (by first | rfl | decide +kernel) rfl
theorem im_X10_food : Cond.instanceMethod (yn m_X10_food) ∈ TB := tzc_6 150 (by first | rfl | decide +kernel) rfl
theorem se_X10_food : Cond.selects (yn m_X10_food).cls (yn m_X10_food) (yn m_X10_food) ∈ TB := tzc_6 151 (by first | rfl | decide +kernel) rfl
theorem in_X10_food : Cond.initialized (yn m_X10_food).cls ∈ TB := tw_13
theorem cw_X10_run : Cond.code (yn m_X10_run) (yc m_X10_run) (yl m_X10_run) (yr m_X10_run) ∈ TB := tzc_6 160 (by first | rfl | decide +kernel) rfl
theorem im_X10_run : Cond.instanceMethod (yn m_X10_run) ∈ TB := tzc_6 158 (by first | rfl | decide +kernel) rfl
theorem se_X10_run : Cond.selects (yn m_X10_run).cls (yn m_X10_run) (yn m_X10_run) ∈ TB := tzc_6 159 (by first | rfl | decide +kernel) rfl
theorem in_X10_run : Cond.initialized (yn m_X10_run).cls ∈ TB := tw_13
theorem cw_X10_draw : Cond.code (yn m_X10_draw) (yc m_X10_draw) (yl m_X10_draw) (yr m_X10_draw) ∈ TB := tzc_6 216 (by first | rfl | decide +kernel) rfl
theorem im_X10_draw : Cond.instanceMethod (yn m_X10_draw) ∈ TB := tzc_6 215 (by first | rfl | decide +kernel) rfl
theorem se_X10_draw : Cond.selects (yn m_X10_draw).cls (yn m_X10_draw) (yn m_X10_draw) ∈ TB := tb_sel 59 (by first | rfl | decide +kernel) rfl
theorem in_X10_draw : Cond.initialized (yn m_X10_draw).cls ∈ TB := tw_13
theorem cw_X10_drawDay : Cond.code (yn m_X10_drawDay) (yc m_X10_drawDay) (yl m_X10_drawDay) (yr m_X10_drawDay) ∈ TB := tzc_6 212 (by first | rfl | decide +kernel) rfl
theorem im_X10_drawDay : Cond.instanceMethod (yn m_X10_drawDay) ∈ TB := tzc_6 211 (by first | rfl | decide +kernel) rfl
theorem se_X10_drawDay : Cond.selects (yn m_X10_drawDay).cls (yn m_X10_drawDay) (yn m_X10_drawDay) ∈ TB := tb_sel 58 (by first | rfl | decide +kernel) rfl
theorem in_X10_drawDay : Cond.initialized (yn m_X10_drawDay).cls ∈ TB := tw_13
theorem cw_X10_drawn : Cond.code (yn m_X10_drawn) (yc m_X10_drawn) (yl m_X10_drawn) (yr m_X10_drawn) ∈ TB := tzc_6 208 (by first | rfl | decide +kernel) rfl
theorem im_X10_drawn : Cond.instanceMethod (yn m_X10_drawn) ∈ TB := tzc_6 206 (by first | rfl | decide +kernel) rfl
theorem se_X10_drawn : Cond.selects (yn m_X10_drawn).cls (yn m_X10_drawn) (yn m_X10_drawn) ∈ TB := tzc_6 207 (by first | rfl | decide +kernel) rfl
theorem in_X10_drawn : Cond.initialized (yn m_X10_drawn).cls ∈ TB := tw_13
theorem cw_X10_warmth : Cond.code (yn m_X10_warmth) (yc m_X10_warmth) (yl m_X10_warmth) (yr m_X10_warmth) ∈ TB := tzc_6 224 (by first | rfl | decide +kernel) rfl
theorem im_X10_warmth : Cond.instanceMethod (yn m_X10_warmth) ∈ TB := tzc_6 222 (by first | rfl | decide +kernel) rfl
theorem se_X10_warmth : Cond.selects (yn m_X10_warmth).cls (yn m_X10_warmth) (yn m_X10_warmth) ∈ TB := tzc_6 223 (by first | rfl | decide +kernel) rfl
theorem in_X10_warmth : Cond.initialized (yn m_X10_warmth).cls ∈ TB := tw_13
theorem cw_X10_heat : Cond.code (yn m_X10_heat) (yc m_X10_heat) (yl m_X10_heat) (yr m_X10_heat) ∈ TB := tzc_6 229 (by first | rfl | decide +kernel) rfl
theorem im_X10_heat : Cond.instanceMethod (yn m_X10_heat) ∈ TB := tzc_6 227 (by first | rfl | decide +kernel) rfl
theorem se_X10_heat : Cond.selects (yn m_X10_heat).cls (yn m_X10_heat) (yn m_X10_heat) ∈ TB := tzc_6 228 (by first | rfl | decide +kernel) rfl
theorem in_X10_heat : Cond.initialized (yn m_X10_heat).cls ∈ TB := tw_13
theorem cw_X10_count : Cond.code (yn m_X10_count) (yc m_X10_count) (yl m_X10_count) (yr m_X10_count) ∈ TB := tzc_6 234 (by first | rfl | decide +kernel) rfl
theorem im_X10_count : Cond.instanceMethod (yn m_X10_count) ∈ TB := tzc_6 232 (by first | rfl | decide +kernel) rfl
theorem se_X10_count : Cond.selects (yn m_X10_count).cls (yn m_X10_count) (yn m_X10_count) ∈ TB := tzc_6 233 (by first | rfl | decide +kernel) rfl
theorem in_X10_count : Cond.initialized (yn m_X10_count).cls ∈ TB := tw_13
theorem cw_X10_melt : Cond.code (yn m_X10_melt) (yc m_X10_melt) (yl m_X10_melt) (yr m_X10_melt) ∈ TB := tzc_7 6 (by first | rfl | decide +kernel) rfl
theorem im_X10_melt : Cond.instanceMethod (yn m_X10_melt) ∈ TB := tzc_7 5 (by first | rfl | decide +kernel) rfl
theorem se_X10_melt : Cond.selects (yn m_X10_melt).cls (yn m_X10_melt) (yn m_X10_melt) ∈ TB := tb_sel 61 (by first | rfl | decide +kernel) rfl
theorem in_X10_melt : Cond.initialized (yn m_X10_melt).cls ∈ TB := tw_13
theorem cw_X10_thaw : Cond.code (yn m_X10_thaw) (yc m_X10_thaw) (yl m_X10_thaw) (yr m_X10_thaw) ∈ TB := tzc_7 2 (by first | rfl | decide +kernel) rfl
theorem im_X10_thaw : Cond.instanceMethod (yn m_X10_thaw) ∈ TB := tzc_7 0 (by first | rfl | decide +kernel) rfl
theorem se_X10_thaw : Cond.selects (yn m_X10_thaw).cls (yn m_X10_thaw) (yn m_X10_thaw) ∈ TB := tzc_7 1 (by first | rfl | decide +kernel) rfl
theorem in_X10_thaw : Cond.initialized (yn m_X10_thaw).cls ∈ TB := tw_13
theorem cw_X10_signOf : Cond.code (yn m_X10_signOf) (yc m_X10_signOf) (yl m_X10_signOf) (yr m_X10_signOf) ∈ TB := tzc_7 29 (by first | rfl | decide +kernel) rfl
theorem im_X10_signOf : Cond.instanceMethod (yn m_X10_signOf) ∈ TB := tzc_7 28 (by first | rfl | decide +kernel) rfl
theorem se_X10_signOf : Cond.selects (yn m_X10_signOf).cls (yn m_X10_signOf) (yn m_X10_signOf) ∈ TB := tb_sel 64 (by first | rfl | decide +kernel) rfl
theorem in_X10_signOf : Cond.initialized (yn m_X10_signOf).cls ∈ TB := tw_13
theorem cw_X10_findSigns : Cond.code (yn m_X10_findSigns) (yc m_X10_findSigns) (yl m_X10_findSigns) (yr m_X10_findSigns) ∈ TB := tzc_7 21 (by first | rfl | decide +kernel) rfl
theorem im_X10_findSigns : Cond.instanceMethod (yn m_X10_findSigns) ∈ TB := tzc_7 20 (by first | rfl | decide +kernel) rfl
theorem se_X10_findSigns : Cond.selects (yn m_X10_findSigns).cls (yn m_X10_findSigns) (yn m_X10_findSigns) ∈ TB := tb_sel 62 (by first | rfl | decide +kernel) rfl
theorem in_X10_findSigns : Cond.initialized (yn m_X10_findSigns).cls ∈ TB := tw_13
theorem cw_X10_isSign : Cond.code (yn m_X10_isSign) (yc m_X10_isSign) (yl m_X10_isSign) (yr m_X10_isSign) ∈ TB := tzc_7 13 (by first | rfl | decide +kernel) rfl
theorem im_X10_isSign : Cond.static (yn m_X10_isSign) ∈ TB := tzc_7 12 (by first | rfl | decide +kernel) rfl
theorem in_X10_isSign : Cond.initialized (yn m_X10_isSign).cls ∈ TB := tw_13
theorem cw_X10_areDays : Cond.code (yn m_X10_areDays) (yc m_X10_areDays) (yl m_X10_areDays) (yr m_X10_areDays) ∈ TB := tzc_7 17 (by first | rfl | decide +kernel) rfl
theorem im_X10_areDays : Cond.static (yn m_X10_areDays) ∈ TB := tzc_7 16 (by first | rfl | decide +kernel) rfl
theorem in_X10_areDays : Cond.initialized (yn m_X10_areDays).cls ∈ TB := tw_13
theorem cw_X10_sign : Cond.code (yn m_X10_sign) (yc m_X10_sign) (yl m_X10_sign) (yr m_X10_sign) ∈ TB := tzc_7 10 (by first | rfl | decide +kernel) rfl
theorem im_X10_sign : Cond.instanceMethod (yn m_X10_sign) ∈ TB := tzc_7 8 (by first | rfl | decide +kernel) rfl
theorem se_X10_sign : Cond.selects (yn m_X10_sign).cls (yn m_X10_sign) (yn m_X10_sign) ∈ TB := tzc_7 9 (by first | rfl | decide +kernel) rfl
theorem in_X10_sign : Cond.initialized (yn m_X10_sign).cls ∈ TB := tw_13
theorem cw_X10_seens : Cond.code (yn m_X10_seens) (yc m_X10_seens) (yl m_X10_seens) (yr m_X10_seens) ∈ TB := tzc_7 40 (by first | rfl | decide +kernel) rfl
theorem im_X10_seens : Cond.instanceMethod (yn m_X10_seens) ∈ TB := tzc_7 39 (by first | rfl | decide +kernel) rfl
theorem se_X10_seens : Cond.selects (yn m_X10_seens).cls (yn m_X10_seens) (yn m_X10_seens) ∈ TB := tb_sel 65 (by first | rfl | decide +kernel) rfl
theorem in_X10_seens : Cond.initialized (yn m_X10_seens).cls ∈ TB := tw_13
theorem cw_X10_seen : Cond.code (yn m_X10_seen) (yc m_X10_seen) (yl m_X10_seen) (yr m_X10_seen) ∈ TB := tzc_7 33 (by first | rfl | decide +kernel) rfl
theorem im_X10_seen : Cond.instanceMethod (yn m_X10_seen) ∈ TB := tzc_7 31 (by first | rfl | decide +kernel) rfl
theorem se_X10_seen : Cond.selects (yn m_X10_seen).cls (yn m_X10_seen) (yn m_X10_seen) ∈ TB := tzc_7 32 (by first | rfl | decide +kernel) rfl
theorem in_X10_seen : Cond.initialized (yn m_X10_seen).cls ∈ TB := tw_13
theorem cw_X10_forget : Cond.code (yn m_X10_forget) (yc m_X10_forget) (yl m_X10_forget) (yr m_X10_forget) ∈ TB := tzc_7 44 (by first | rfl | decide +kernel) rfl
theorem im_X10_forget : Cond.instanceMethod (yn m_X10_forget) ∈ TB := tzc_7 42 (by first | rfl | decide +kernel) rfl
theorem se_X10_forget : Cond.selects (yn m_X10_forget).cls (yn m_X10_forget) (yn m_X10_forget) ∈ TB := tzc_7 43 (by first | rfl | decide +kernel) rfl
theorem in_X10_forget : Cond.initialized (yn m_X10_forget).cls ∈ TB := tw_13
theorem cw_X10_prior : Cond.code (yn m_X10_prior) (yc m_X10_prior) (yl m_X10_prior) (yr m_X10_prior) ∈ TB := tzc_7 48 (by first | rfl | decide +kernel) rfl
theorem im_X10_prior : Cond.instanceMethod (yn m_X10_prior) ∈ TB := tzc_7 46 (by first | rfl | decide +kernel) rfl
theorem se_X10_prior : Cond.selects (yn m_X10_prior).cls (yn m_X10_prior) (yn m_X10_prior) ∈ TB := tzc_7 47 (by first | rfl | decide +kernel) rfl
theorem in_X10_prior : Cond.initialized (yn m_X10_prior).cls ∈ TB := tw_13
theorem cw_X10_bother : Cond.code (yn m_X10_bother) (yc m_X10_bother) (yl m_X10_bother) (yr m_X10_bother) ∈ TB := tzc_7 55 (by first | rfl | decide +kernel) rfl
theorem im_X10_bother : Cond.instanceMethod (yn m_X10_bother) ∈ TB := tzc_7 53 (by first | rfl | decide +kernel) rfl
theorem se_X10_bother : Cond.selects (yn m_X10_bother).cls (yn m_X10_bother) (yn m_X10_bother) ∈ TB := tzc_7 54 (by first | rfl | decide +kernel) rfl
theorem in_X10_bother : Cond.initialized (yn m_X10_bother).cls ∈ TB := tw_13
theorem cw_X10_couldBe : Cond.code (yn m_X10_couldBe) (yc m_X10_couldBe) (yl m_X10_couldBe) (yr m_X10_couldBe) ∈ TB := tzc_7 62 (by first | rfl | decide +kernel) rfl
theorem im_X10_couldBe : Cond.static (yn m_X10_couldBe) ∈ TB := tzc_7 61 (by first | rfl | decide +kernel) rfl
theorem in_X10_couldBe : Cond.initialized (yn m_X10_couldBe).cls ∈ TB := tw_13
theorem cw_X10_weightOf : Cond.code (yn m_X10_weightOf) (yc m_X10_weightOf) (yl m_X10_weightOf) (yr m_X10_weightOf) ∈ TB := tzc_7 73 (by first | rfl | decide +kernel) rfl
theorem im_X10_weightOf : Cond.instanceMethod (yn m_X10_weightOf) ∈ TB := tzc_7 72 (by first | rfl | decide +kernel) rfl
theorem se_X10_weightOf : Cond.selects (yn m_X10_weightOf).cls (yn m_X10_weightOf) (yn m_X10_weightOf) ∈ TB := tb_sel 67 (by first | rfl | decide +kernel) rfl
theorem in_X10_weightOf : Cond.initialized (yn m_X10_weightOf).cls ∈ TB := tw_13
theorem cw_X10_weigh : Cond.code (yn m_X10_weigh) (yc m_X10_weigh) (yl m_X10_weigh) (yr m_X10_weigh) ∈ TB := tzc_7 69 (by first | rfl | decide +kernel) rfl
theorem im_X10_weigh : Cond.instanceMethod (yn m_X10_weigh) ∈ TB := tzc_7 68 (by first | rfl | decide +kernel) rfl
theorem se_X10_weigh : Cond.selects (yn m_X10_weigh).cls (yn m_X10_weigh) (yn m_X10_weigh) ∈ TB := tb_sel 66 (by first | rfl | decide +kernel) rfl
theorem in_X10_weigh : Cond.initialized (yn m_X10_weigh).cls ∈ TB := tw_13
theorem cw_X10_oddsOf : Cond.code (yn m_X10_oddsOf) (yc m_X10_oddsOf) (yl m_X10_oddsOf) (yr m_X10_oddsOf) ∈ TB := tzc_7 78 (by first | rfl | decide +kernel) rfl
theorem im_X10_oddsOf : Cond.instanceMethod (yn m_X10_oddsOf) ∈ TB := tzc_7 77 (by first | rfl | decide +kernel) rfl
theorem se_X10_oddsOf : Cond.selects (yn m_X10_oddsOf).cls (yn m_X10_oddsOf) (yn m_X10_oddsOf) ∈ TB := tb_sel 68 (by first | rfl | decide +kernel) rfl
theorem in_X10_oddsOf : Cond.initialized (yn m_X10_oddsOf).cls ∈ TB := tw_13
theorem cw_X10_odds : Cond.code (yn m_X10_odds) (yc m_X10_odds) (yl m_X10_odds) (yr m_X10_odds) ∈ TB := tzc_7 59 (by first | rfl | decide +kernel) rfl
theorem im_X10_odds : Cond.instanceMethod (yn m_X10_odds) ∈ TB := tzc_7 57 (by first | rfl | decide +kernel) rfl
theorem se_X10_odds : Cond.selects (yn m_X10_odds).cls (yn m_X10_odds) (yn m_X10_odds) ∈ TB := tzc_7 58 (by first | rfl | decide +kernel) rfl
theorem in_X10_odds : Cond.initialized (yn m_X10_odds).cls ∈ TB := tw_13
theorem cw_X10_each : Cond.code (yn m_X10_each) (yc m_X10_each) (yl m_X10_each) (yr m_X10_each) ∈ TB := tzc_7 82 (by first | rfl | decide +kernel) rfl
theorem im_X10_each : Cond.instanceMethod (yn m_X10_each) ∈ TB := tzc_7 80 (by first | rfl | decide +kernel) rfl
theorem se_X10_each : Cond.selects (yn m_X10_each).cls (yn m_X10_each) (yn m_X10_each) ∈ TB := tzc_7 81 (by first | rfl | decide +kernel) rfl
theorem in_X10_each : Cond.initialized (yn m_X10_each).cls ∈ TB := tw_13
theorem cw_X10_tellsOf : Cond.code (yn m_X10_tellsOf) (yc m_X10_tellsOf) (yl m_X10_tellsOf) (yr m_X10_tellsOf) ∈ TB := tzc_7 90 (by first | rfl | decide +kernel) rfl
theorem im_X10_tellsOf : Cond.instanceMethod (yn m_X10_tellsOf) ∈ TB := tzc_7 89 (by first | rfl | decide +kernel) rfl
theorem se_X10_tellsOf : Cond.selects (yn m_X10_tellsOf).cls (yn m_X10_tellsOf) (yn m_X10_tellsOf) ∈ TB := tb_sel 69 (by first | rfl | decide +kernel) rfl
theorem in_X10_tellsOf : Cond.initialized (yn m_X10_tellsOf).cls ∈ TB := tw_13
theorem cw_X10_tells : Cond.code (yn m_X10_tells) (yc m_X10_tells) (yl m_X10_tells) (yr m_X10_tells) ∈ TB := tzc_7 86 (by first | rfl | decide +kernel) rfl
theorem im_X10_tells : Cond.instanceMethod (yn m_X10_tells) ∈ TB := tzc_7 84 (by first | rfl | decide +kernel) rfl
theorem se_X10_tells : Cond.selects (yn m_X10_tells).cls (yn m_X10_tells) (yn m_X10_tells) ∈ TB := tzc_7 85 (by first | rfl | decide +kernel) rfl
theorem in_X10_tells : Cond.initialized (yn m_X10_tells).cls ∈ TB := tw_13
theorem cw_X10_next : Cond.code (yn m_X10_next) (yc m_X10_next) (yl m_X10_next) (yr m_X10_next) ∈ TB := tzc_7 94 (by first | rfl | decide +kernel) rfl
theorem im_X10_next : Cond.instanceMethod (yn m_X10_next) ∈ TB := tzc_7 92 (by first | rfl | decide +kernel) rfl
theorem se_X10_next : Cond.selects (yn m_X10_next).cls (yn m_X10_next) (yn m_X10_next) ∈ TB := tzc_7 93 (by first | rfl | decide +kernel) rfl
theorem in_X10_next : Cond.initialized (yn m_X10_next).cls ∈ TB := tw_13
theorem cw_X10_makes : Cond.code (yn m_X10_makes) (yc m_X10_makes) (yl m_X10_makes) (yr m_X10_makes) ∈ TB := tzc_7 98 (by first | rfl | decide +kernel) rfl
theorem im_X10_makes : Cond.instanceMethod (yn m_X10_makes) ∈ TB := tzc_7 96 (by first | rfl | decide +kernel) rfl
theorem se_X10_makes : Cond.selects (yn m_X10_makes).cls (yn m_X10_makes) (yn m_X10_makes) ∈ TB := tzc_7 97 (by first | rfl | decide +kernel) rfl
theorem in_X10_makes : Cond.initialized (yn m_X10_makes).cls ∈ TB := tw_13
theorem cw_X10_mending : Cond.code (yn m_X10_mending) (yc m_X10_mending) (yl m_X10_mending) (yr m_X10_mending) ∈ TB := tzc_7 102 (by first | rfl | decide +kernel) rfl
theorem im_X10_mending : Cond.instanceMethod (yn m_X10_mending) ∈ TB := tzc_7 100 (by first | rfl | decide +kernel) rfl
theorem se_X10_mending : Cond.selects (yn m_X10_mending).cls (yn m_X10_mending) (yn m_X10_mending) ∈ TB := tzc_7 101 (by first | rfl | decide +kernel) rfl
theorem in_X10_mending : Cond.initialized (yn m_X10_mending).cls ∈ TB := tw_13
theorem cw_X10_price : Cond.code (yn m_X10_price) (yc m_X10_price) (yl m_X10_price) (yr m_X10_price) ∈ TB := tzc_7 106 (by first | rfl | decide +kernel) rfl
theorem im_X10_price : Cond.instanceMethod (yn m_X10_price) ∈ TB := tzc_7 104 (by first | rfl | decide +kernel) rfl
theorem se_X10_price : Cond.selects (yn m_X10_price).cls (yn m_X10_price) (yn m_X10_price) ∈ TB := tzc_7 105 (by first | rfl | decide +kernel) rfl
theorem in_X10_price : Cond.initialized (yn m_X10_price).cls ∈ TB := tw_13
theorem cw_X10_yearOf : Cond.code (yn m_X10_yearOf) (yc m_X10_yearOf) (yl m_X10_yearOf) (yr m_X10_yearOf) ∈ TB := tzc_7 114 (by first | rfl | decide +kernel) rfl
theorem im_X10_yearOf : Cond.instanceMethod (yn m_X10_yearOf) ∈ TB := tzc_7 113 (by first | rfl | decide +kernel) rfl
theorem se_X10_yearOf : Cond.selects (yn m_X10_yearOf).cls (yn m_X10_yearOf) (yn m_X10_yearOf) ∈ TB := tb_sel 70 (by first | rfl | decide +kernel) rfl
theorem in_X10_yearOf : Cond.initialized (yn m_X10_yearOf).cls ∈ TB := tw_13
theorem cw_X10_year : Cond.code (yn m_X10_year) (yc m_X10_year) (yl m_X10_year) (yr m_X10_year) ∈ TB := tzc_7 110 (by first | rfl | decide +kernel) rfl
theorem im_X10_year : Cond.instanceMethod (yn m_X10_year) ∈ TB := tzc_7 108 (by first | rfl | decide +kernel) rfl
theorem se_X10_year : Cond.selects (yn m_X10_year).cls (yn m_X10_year) (yn m_X10_year) ∈ TB := tzc_7 109 (by first | rfl | decide +kernel) rfl
theorem in_X10_year : Cond.initialized (yn m_X10_year).cls ∈ TB := tw_13
theorem cw_X10_saves : Cond.code (yn m_X10_saves) (yc m_X10_saves) (yl m_X10_saves) (yr m_X10_saves) ∈ TB := tzc_7 119 (by first | rfl | decide +kernel) rfl
theorem im_X10_saves : Cond.instanceMethod (yn m_X10_saves) ∈ TB := tzc_7 117 (by first | rfl | decide +kernel) rfl
theorem se_X10_saves : Cond.selects (yn m_X10_saves).cls (yn m_X10_saves) (yn m_X10_saves) ∈ TB := tzc_7 118 (by first | rfl | decide +kernel) rfl
theorem in_X10_saves : Cond.initialized (yn m_X10_saves).cls ∈ TB := tw_13
theorem cw_X10_best : Cond.code (yn m_X10_best) (yc m_X10_best) (yl m_X10_best) (yr m_X10_best) ∈ TB := tzc_7 124 (by first | rfl | decide +kernel) rfl
theorem im_X10_best : Cond.instanceMethod (yn m_X10_best) ∈ TB := tzc_7 122 (by first | rfl | decide +kernel) rfl
theorem se_X10_best : Cond.selects (yn m_X10_best).cls (yn m_X10_best) (yn m_X10_best) ∈ TB := tzc_7 123 (by first | rfl | decide +kernel) rfl
theorem in_X10_best : Cond.initialized (yn m_X10_best).cls ∈ TB := tw_13
theorem cw_X10_pays : Cond.code (yn m_X10_pays) (yc m_X10_pays) (yl m_X10_pays) (yr m_X10_pays) ∈ TB := tzc_7 128 (by first | rfl | decide +kernel) rfl
theorem im_X10_pays : Cond.instanceMethod (yn m_X10_pays) ∈ TB := tzc_7 126 (by first | rfl | decide +kernel) rfl
theorem se_X10_pays : Cond.selects (yn m_X10_pays).cls (yn m_X10_pays) (yn m_X10_pays) ∈ TB := tzc_7 127 (by first | rfl | decide +kernel) rfl
theorem in_X10_pays : Cond.initialized (yn m_X10_pays).cls ∈ TB := tw_13
theorem cw_X10_iceOf : Cond.code (yn m_X10_iceOf) (yc m_X10_iceOf) (yl m_X10_iceOf) (yr m_X10_iceOf) ∈ TB := tzc_7 136 (by first | rfl | decide +kernel) rfl
theorem im_X10_iceOf : Cond.instanceMethod (yn m_X10_iceOf) ∈ TB := tzc_7 135 (by first | rfl | decide +kernel) rfl
theorem se_X10_iceOf : Cond.selects (yn m_X10_iceOf).cls (yn m_X10_iceOf) (yn m_X10_iceOf) ∈ TB := tb_sel 71 (by first | rfl | decide +kernel) rfl
theorem in_X10_iceOf : Cond.initialized (yn m_X10_iceOf).cls ∈ TB := tw_13
theorem cw_X10_ice : Cond.code (yn m_X10_ice) (yc m_X10_ice) (yl m_X10_ice) (yr m_X10_ice) ∈ TB := tzc_7 132 (by first | rfl | decide +kernel) rfl
theorem im_X10_ice : Cond.instanceMethod (yn m_X10_ice) ∈ TB := tzc_7 130 (by first | rfl | decide +kernel) rfl
theorem se_X10_ice : Cond.selects (yn m_X10_ice).cls (yn m_X10_ice) (yn m_X10_ice) ∈ TB := tzc_7 131 (by first | rfl | decide +kernel) rfl
theorem in_X10_ice : Cond.initialized (yn m_X10_ice).cls ∈ TB := tw_13
theorem cw_X10_within : Cond.code (yn m_X10_within) (yc m_X10_within) (yl m_X10_within) (yr m_X10_within) ∈ TB := tzc_7 158 (by first | rfl | decide +kernel) rfl
theorem im_X10_within : Cond.instanceMethod (yn m_X10_within) ∈ TB := tzc_7 157 (by first | rfl | decide +kernel) rfl
theorem se_X10_within : Cond.selects (yn m_X10_within).cls (yn m_X10_within) (yn m_X10_within) ∈ TB := tb_sel 74 (by first | rfl | decide +kernel) rfl
theorem in_X10_within : Cond.initialized (yn m_X10_within).cls ∈ TB := tw_13
theorem cw_X10_powerOf3 : Cond.code (yn m_X10_powerOf3) (yc m_X10_powerOf3) (yl m_X10_powerOf3) (yr m_X10_powerOf3) ∈ TB := tzc_7 143 (by first | rfl | decide +kernel) rfl
theorem im_X10_powerOf3 : Cond.static (yn m_X10_powerOf3) ∈ TB := tzc_7 142 (by first | rfl | decide +kernel) rfl
theorem in_X10_powerOf3 : Cond.initialized (yn m_X10_powerOf3).cls ∈ TB := tw_13
theorem cw_X10_rowAt : Cond.code (yn m_X10_rowAt) (yc m_X10_rowAt) (yl m_X10_rowAt) (yr m_X10_rowAt) ∈ TB := tzc_7 154 (by first | rfl | decide +kernel) rfl
theorem im_X10_rowAt : Cond.static (yn m_X10_rowAt) ∈ TB := tzc_7 153 (by first | rfl | decide +kernel) rfl
theorem in_X10_rowAt : Cond.initialized (yn m_X10_rowAt).cls ∈ TB := tw_13
theorem cw_X10_placeOf : Cond.code (yn m_X10_placeOf) (yc m_X10_placeOf) (yl m_X10_placeOf) (yr m_X10_placeOf) ∈ TB := tzc_7 151 (by first | rfl | decide +kernel) rfl
theorem im_X10_placeOf : Cond.instanceMethod (yn m_X10_placeOf) ∈ TB := tzc_7 150 (by first | rfl | decide +kernel) rfl
theorem se_X10_placeOf : Cond.selects (yn m_X10_placeOf).cls (yn m_X10_placeOf) (yn m_X10_placeOf) ∈ TB := tb_sel 73 (by first | rfl | decide +kernel) rfl
theorem in_X10_placeOf : Cond.initialized (yn m_X10_placeOf).cls ∈ TB := tw_13
theorem cw_X10_lying : Cond.code (yn m_X10_lying) (yc m_X10_lying) (yl m_X10_lying) (yr m_X10_lying) ∈ TB := tzc_7 140 (by first | rfl | decide +kernel) rfl
theorem im_X10_lying : Cond.instanceMethod (yn m_X10_lying) ∈ TB := tzc_7 138 (by first | rfl | decide +kernel) rfl
theorem se_X10_lying : Cond.selects (yn m_X10_lying).cls (yn m_X10_lying) (yn m_X10_lying) ∈ TB := tzc_7 139 (by first | rfl | decide +kernel) rfl
theorem in_X10_lying : Cond.initialized (yn m_X10_lying).cls ∈ TB := tw_13
theorem cw_X10_bulb : Cond.code (yn m_X10_bulb) (yc m_X10_bulb) (yl m_X10_bulb) (yr m_X10_bulb) ∈ TB := tzc_7 162 (by first | rfl | decide +kernel) rfl
theorem im_X10_bulb : Cond.instanceMethod (yn m_X10_bulb) ∈ TB := tzc_7 160 (by first | rfl | decide +kernel) rfl
theorem se_X10_bulb : Cond.selects (yn m_X10_bulb).cls (yn m_X10_bulb) (yn m_X10_bulb) ∈ TB := tzc_7 161 (by first | rfl | decide +kernel) rfl
theorem in_X10_bulb : Cond.initialized (yn m_X10_bulb).cls ∈ TB := tw_13
theorem cw_X10_without : Cond.code (yn m_X10_without) (yc m_X10_without) (yl m_X10_without) (yr m_X10_without) ∈ TB := tzc_7 166 (by first | rfl | decide +kernel) rfl
theorem im_X10_without : Cond.instanceMethod (yn m_X10_without) ∈ TB := tzc_7 164 (by first | rfl | decide +kernel) rfl
theorem se_X10_without : Cond.selects (yn m_X10_without).cls (yn m_X10_without) (yn m_X10_without) ∈ TB := tzc_7 165 (by first | rfl | decide +kernel) rfl
theorem in_X10_without : Cond.initialized (yn m_X10_without).cls ∈ TB := tw_13
theorem cw_X10_cheap : Cond.code (yn m_X10_cheap) (yc m_X10_cheap) (yl m_X10_cheap) (yr m_X10_cheap) ∈ TB := tzc_7 170 (by first | rfl | decide +kernel) rfl
theorem im_X10_cheap : Cond.instanceMethod (yn m_X10_cheap) ∈ TB := tzc_7 168 (by first | rfl | decide +kernel) rfl
theorem se_X10_cheap : Cond.selects (yn m_X10_cheap).cls (yn m_X10_cheap) (yn m_X10_cheap) ∈ TB := tzc_7 169 (by first | rfl | decide +kernel) rfl
theorem in_X10_cheap : Cond.initialized (yn m_X10_cheap).cls ∈ TB := tw_13
theorem cw_X10_paid : Cond.code (yn m_X10_paid) (yc m_X10_paid) (yl m_X10_paid) (yr m_X10_paid) ∈ TB := tzc_7 180 (by first | rfl | decide +kernel) rfl
theorem im_X10_paid : Cond.instanceMethod (yn m_X10_paid) ∈ TB := tzc_7 179 (by first | rfl | decide +kernel) rfl
theorem se_X10_paid : Cond.selects (yn m_X10_paid).cls (yn m_X10_paid) (yn m_X10_paid) ∈ TB := tb_sel 75 (by first | rfl | decide +kernel) rfl
theorem in_X10_paid : Cond.initialized (yn m_X10_paid).cls ∈ TB := tw_13
theorem cw_X10_store : Cond.code (yn m_X10_store) (yc m_X10_store) (yl m_X10_store) (yr m_X10_store) ∈ TB := tzc_7 175 (by first | rfl | decide +kernel) rfl
theorem im_X10_store : Cond.instanceMethod (yn m_X10_store) ∈ TB := tzc_7 173 (by first | rfl | decide +kernel) rfl
theorem se_X10_store : Cond.selects (yn m_X10_store).cls (yn m_X10_store) (yn m_X10_store) ∈ TB := tzc_7 174 (by first | rfl | decide +kernel) rfl
theorem in_X10_store : Cond.initialized (yn m_X10_store).cls ∈ TB := tw_13
theorem cw_X10_seed : Cond.code (yn m_X10_seed) (yc m_X10_seed) (yl m_X10_seed) (yr m_X10_seed) ∈ TB := tzc_7 184 (by first | rfl | decide +kernel) rfl
theorem im_X10_seed : Cond.instanceMethod (yn m_X10_seed) ∈ TB := tzc_7 182 (by first | rfl | decide +kernel) rfl
theorem se_X10_seed : Cond.selects (yn m_X10_seed).cls (yn m_X10_seed) (yn m_X10_seed) ∈ TB := tzc_7 183 (by first | rfl | decide +kernel) rfl
theorem in_X10_seed : Cond.initialized (yn m_X10_seed).cls ∈ TB := tw_13
theorem cw_X10_keep : Cond.code (yn m_X10_keep) (yc m_X10_keep) (yl m_X10_keep) (yr m_X10_keep) ∈ TB := tzc_7 188 (by first | rfl | decide +kernel) rfl
theorem im_X10_keep : Cond.instanceMethod (yn m_X10_keep) ∈ TB := tzc_7 186 (by first | rfl | decide +kernel) rfl
theorem se_X10_keep : Cond.selects (yn m_X10_keep).cls (yn m_X10_keep) (yn m_X10_keep) ∈ TB := tzc_7 187 (by first | rfl | decide +kernel) rfl
theorem in_X10_keep : Cond.initialized (yn m_X10_keep).cls ∈ TB := tw_13
theorem cw_X10_goBack : Cond.code (yn m_X10_goBack) (yc m_X10_goBack) (yl m_X10_goBack) (yr m_X10_goBack) ∈ TB := tzc_7 192 (by first | rfl | decide +kernel) rfl
theorem im_X10_goBack : Cond.instanceMethod (yn m_X10_goBack) ∈ TB := tzc_7 190 (by first | rfl | decide +kernel) rfl
theorem se_X10_goBack : Cond.selects (yn m_X10_goBack).cls (yn m_X10_goBack) (yn m_X10_goBack) ∈ TB := tzc_7 191 (by first | rfl | decide +kernel) rfl
theorem in_X10_goBack : Cond.initialized (yn m_X10_goBack).cls ∈ TB := tw_13
theorem cw_J6_bitCount_0f7a4 : Cond.code (yn m_J6_bitCount_0f7a4) (yc m_J6_bitCount_0f7a4) (yl m_J6_bitCount_0f7a4) (yr m_J6_bitCount_0f7a4) ∈ TB := tzc_4 99 (by first | rfl | decide +kernel) rfl
theorem tw_19 : (Cond.initialized "java/lang/Integer") ∈ TB := tzc_1 19 (by first | rfl | decide +kernel) rfl
theorem im_J6_bitCount_0f7a4 : Cond.static (yn m_J6_bitCount_0f7a4) ∈ TB := tzc_4 98 (by first | rfl | decide +kernel) rfl
theorem in_J6_bitCount_0f7a4 : Cond.initialized (yn m_J6_bitCount_0f7a4).cls ∈ TB := tw_19
theorem cw_J0_length_8abf5 : Cond.code (yn m_J0_length_8abf5) (yc m_J0_length_8abf5) (yl m_J0_length_8abf5) (yr m_J0_length_8abf5) ∈ TB := tzc_2 219 (by first | rfl | decide +kernel) rfl
theorem tw_14 : (Cond.initialized "java/lang/String") ∈ TB := tzc_1 14 (by first | rfl | decide +kernel) rfl
theorem im_J0_length_8abf5 : Cond.instanceMethod (yn m_J0_length_8abf5) ∈ TB := tzc_2 217 (by first | rfl | decide +kernel) rfl
theorem se_J0_length_8abf5 : Cond.selects (yn m_J0_length_8abf5).cls (yn m_J0_length_8abf5) (yn m_J0_length_8abf5) ∈ TB := tzc_2 218 (by first | rfl | decide +kernel) rfl
theorem in_J0_length_8abf5 : Cond.initialized (yn m_J0_length_8abf5).cls ∈ TB := tw_14
theorem cw_J0_charAt_5068e : Cond.code (yn m_J0_charAt_5068e) (yc m_J0_charAt_5068e) (yl m_J0_charAt_5068e) (yr m_J0_charAt_5068e) ∈ TB := tzc_2 229 (by first | rfl | decide +kernel) rfl
theorem im_J0_charAt_5068e : Cond.instanceMethod (yn m_J0_charAt_5068e) ∈ TB := tzc_2 227 (by first | rfl | decide +kernel) rfl
theorem se_J0_charAt_5068e : Cond.selects (yn m_J0_charAt_5068e).cls (yn m_J0_charAt_5068e) (yn m_J0_charAt_5068e) ∈ TB := tzc_2 228 (by first | rfl | decide +kernel) rfl
theorem in_J0_charAt_5068e : Cond.initialized (yn m_J0_charAt_5068e).cls ∈ TB := tw_14
theorem cw_J0_coder_7d493 : Cond.code (yn m_J0_coder_7d493) (yc m_J0_coder_7d493) (yl m_J0_coder_7d493) (yr m_J0_coder_7d493) ∈ TB := tzc_2 223 (by first | rfl | decide +kernel) rfl
theorem im_J0_coder_7d493 : Cond.instanceMethod (yn m_J0_coder_7d493) ∈ TB := tzc_2 221 (by first | rfl | decide +kernel) rfl
theorem se_J0_coder_7d493 : Cond.selects (yn m_J0_coder_7d493).cls (yn m_J0_coder_7d493) (yn m_J0_coder_7d493) ∈ TB := tzc_2 222 (by first | rfl | decide +kernel) rfl
theorem in_J0_coder_7d493 : Cond.initialized (yn m_J0_coder_7d493).cls ∈ TB := tw_14
theorem cw_J0_isLatin1_aae02 : Cond.code (yn m_J0_isLatin1_aae02) (yc m_J0_isLatin1_aae02) (yl m_J0_isLatin1_aae02) (yr m_J0_isLatin1_aae02) ∈ TB := tzc_2 233 (by first | rfl | decide +kernel) rfl
theorem im_J0_isLatin1_aae02 : Cond.instanceMethod (yn m_J0_isLatin1_aae02) ∈ TB := tzc_2 231 (by first | rfl | decide +kernel) rfl
theorem se_J0_isLatin1_aae02 : Cond.selects (yn m_J0_isLatin1_aae02).cls (yn m_J0_isLatin1_aae02) (yn m_J0_isLatin1_aae02) ∈ TB := tzc_2 232 (by first | rfl | decide +kernel) rfl
theorem in_J0_isLatin1_aae02 : Cond.initialized (yn m_J0_isLatin1_aae02).cls ∈ TB := tw_14
theorem cw_J0_checkIndex_df160 : Cond.code (yn m_J0_checkIndex_df160) (yc m_J0_checkIndex_df160) (yl m_J0_checkIndex_df160) (yr m_J0_checkIndex_df160) ∈ TB := tzc_2 239 (by first | rfl | decide +kernel) rfl
theorem im_J0_checkIndex_df160 : Cond.static (yn m_J0_checkIndex_df160) ∈ TB := tzc_2 238 (by first | rfl | decide +kernel) rfl
theorem in_J0_checkIndex_df160 : Cond.initialized (yn m_J0_checkIndex_df160).cls ∈ TB := tw_14
theorem cw_J1_charAt_3b067 : Cond.code (yn m_J1_charAt_3b067) (yc m_J1_charAt_3b067) (yl m_J1_charAt_3b067) (yr m_J1_charAt_3b067) ∈ TB := tzc_2 236 (by first | rfl | decide +kernel) rfl
theorem tw_15 : (Cond.initialized "java/lang/StringLatin1") ∈ TB := tzc_1 15 (by first | rfl | decide +kernel) rfl
theorem im_J1_charAt_3b067 : Cond.static (yn m_J1_charAt_3b067) ∈ TB := tzc_2 235 (by first | rfl | decide +kernel) rfl
theorem in_J1_charAt_3b067 : Cond.initialized (yn m_J1_charAt_3b067).cls ∈ TB := tw_15
theorem cw_J7_fill_d0a16 : Cond.code (yn m_J7_fill_d0a16) (yc m_J7_fill_d0a16) (yl m_J7_fill_d0a16) (yr m_J7_fill_d0a16) ∈ TB := tzc_2 106 (by first | rfl | decide +kernel) rfl
theorem tw_10 : (Cond.initialized "java/util/Arrays") ∈ TB := tzc_1 10 (by first | rfl | decide +kernel) rfl
theorem im_J7_fill_d0a16 : Cond.static (yn m_J7_fill_d0a16) ∈ TB := tzc_2 105 (by first | rfl | decide +kernel) rfl
theorem in_J7_fill_d0a16 : Cond.initialized (yn m_J7_fill_d0a16).cls ∈ TB := tw_10
theorem cw_J7_fill_53178 : Cond.code (yn m_J7_fill_53178) (yc m_J7_fill_53178) (yl m_J7_fill_53178) (yr m_J7_fill_53178) ∈ TB := tzc_2 7 (by first | rfl | decide +kernel) rfl
theorem im_J7_fill_53178 : Cond.static (yn m_J7_fill_53178) ∈ TB := tzc_2 6 (by first | rfl | decide +kernel) rfl
theorem in_J7_fill_53178 : Cond.initialized (yn m_J7_fill_53178).cls ∈ TB := tw_10
theorem cw_J3_checkIndex_8e157 : Cond.code (yn m_J3_checkIndex_8e157) (yc m_J3_checkIndex_8e157) (yl m_J3_checkIndex_8e157) (yr m_J3_checkIndex_8e157) ∈ TB := tzc_3 4 (by first | rfl | decide +kernel) rfl
theorem tw_16 : (Cond.initialized "jdk/internal/util/Preconditions") ∈ TB := tzc_1 16 (by first | rfl | decide +kernel) rfl
theorem im_J3_checkIndex_8e157 : Cond.static (yn m_J3_checkIndex_8e157) ∈ TB := tzc_3 3 (by first | rfl | decide +kernel) rfl
theorem in_J3_checkIndex_8e157 : Cond.initialized (yn m_J3_checkIndex_8e157).cls ∈ TB := tw_16
