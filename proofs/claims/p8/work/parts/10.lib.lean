theorem tzm_1 {w : Cond} (h : w ∈ tables_1_1) : w ∈ tables_1 := by
  show w ∈ tables_1_1 ++ (tables_1_2 ++ (tables_1_3 ++ (tables_1_4 ++ (tables_1_5 ++ (tables_1_6 ++ tables_1_7)))))
  simp only [List.mem_append]
  exact (Or.inl h)
theorem tzc_1 {w : Cond} (i : Nat) (h : tables_1_1[i]? = some w) (g : goodWord w = true) : w ∈ TB := tb_of (List.mem_append_right _ (tzm_1 (List.mem_of_getElem? h))) g
theorem tzn_1 {w : Cond} (i : Nat) (h : tables_1_1[i]? = some w) (g : isNst w = true) : w ∈ NB := List.mem_filter.mpr ⟨tzm_1 (List.mem_of_getElem? h), g⟩
theorem tzm_2 {w : Cond} (h : w ∈ tables_1_2) : w ∈ tables_1 := by
  show w ∈ tables_1_1 ++ (tables_1_2 ++ (tables_1_3 ++ (tables_1_4 ++ (tables_1_5 ++ (tables_1_6 ++ tables_1_7)))))
  simp only [List.mem_append]
  exact (Or.inr (Or.inl h))
theorem tzc_2 {w : Cond} (i : Nat) (h : tables_1_2[i]? = some w) (g : goodWord w = true) : w ∈ TB := tb_of (List.mem_append_right _ (tzm_2 (List.mem_of_getElem? h))) g
theorem tzn_2 {w : Cond} (i : Nat) (h : tables_1_2[i]? = some w) (g : isNst w = true) : w ∈ NB := List.mem_filter.mpr ⟨tzm_2 (List.mem_of_getElem? h), g⟩
theorem tzm_3 {w : Cond} (h : w ∈ tables_1_3) : w ∈ tables_1 := by
  show w ∈ tables_1_1 ++ (tables_1_2 ++ (tables_1_3 ++ (tables_1_4 ++ (tables_1_5 ++ (tables_1_6 ++ tables_1_7)))))
  simp only [List.mem_append]
  exact (Or.inr (Or.inr (Or.inl h)))
theorem tzc_3 {w : Cond} (i : Nat) (h : tables_1_3[i]? = some w) (g : goodWord w = true) : w ∈ TB := tb_of (List.mem_append_right _ (tzm_3 (List.mem_of_getElem? h))) g
theorem tzn_3 {w : Cond} (i : Nat) (h : tables_1_3[i]? = some w) (g : isNst w = true) : w ∈ NB := List.mem_filter.mpr ⟨tzm_3 (List.mem_of_getElem? h), g⟩
theorem tzm_4 {w : Cond} (h : w ∈ tables_1_4) : w ∈ tables_1 := by
  show w ∈ tables_1_1 ++ (tables_1_2 ++ (tables_1_3 ++ (tables_1_4 ++ (tables_1_5 ++ (tables_1_6 ++ tables_1_7)))))
  simp only [List.mem_append]
  exact (Or.inr (Or.inr (Or.inr (Or.inl h))))
theorem tzc_4 {w : Cond} (i : Nat) (h : tables_1_4[i]? = some w) (g : goodWord w = true) : w ∈ TB := tb_of (List.mem_append_right _ (tzm_4 (List.mem_of_getElem? h))) g
theorem tzn_4 {w : Cond} (i : Nat) (h : tables_1_4[i]? = some w) (g : isNst w = true) : w ∈ NB := List.mem_filter.mpr ⟨tzm_4 (List.mem_of_getElem? h), g⟩
theorem tzm_5 {w : Cond} (h : w ∈ tables_1_5) : w ∈ tables_1 := by
  show w ∈ tables_1_1 ++ (tables_1_2 ++ (tables_1_3 ++ (tables_1_4 ++ (tables_1_5 ++ (tables_1_6 ++ tables_1_7)))))
  simp only [List.mem_append]
  exact (Or.inr (Or.inr (Or.inr (Or.inr (Or.inl h)))))
theorem tzc_5 {w : Cond} (i : Nat) (h : tables_1_5[i]? = some w) (g : goodWord w = true) : w ∈ TB := tb_of (List.mem_append_right _ (tzm_5 (List.mem_of_getElem? h))) g
theorem tzn_5 {w : Cond} (i : Nat) (h : tables_1_5[i]? = some w) (g : isNst w = true) : w ∈ NB := List.mem_filter.mpr ⟨tzm_5 (List.mem_of_getElem? h), g⟩
theorem tzm_6 {w : Cond} (h : w ∈ tables_1_6) : w ∈ tables_1 := by
  show w ∈ tables_1_1 ++ (tables_1_2 ++ (tables_1_3 ++ (tables_1_4 ++ (tables_1_5 ++ (tables_1_6 ++ tables_1_7)))))
  simp only [List.mem_append]
  exact (Or.inr (Or.inr (Or.inr (Or.inr (Or.inr (Or.inl h))))))
theorem tzc_6 {w : Cond} (i : Nat) (h : tables_1_6[i]? = some w) (g : goodWord w = true) : w ∈ TB := tb_of (List.mem_append_right _ (tzm_6 (List.mem_of_getElem? h))) g
theorem tzn_6 {w : Cond} (i : Nat) (h : tables_1_6[i]? = some w) (g : isNst w = true) : w ∈ NB := List.mem_filter.mpr ⟨tzm_6 (List.mem_of_getElem? h), g⟩
theorem tzm_7 {w : Cond} (h : w ∈ tables_1_7) : w ∈ tables_1 := by
  show w ∈ tables_1_1 ++ (tables_1_2 ++ (tables_1_3 ++ (tables_1_4 ++ (tables_1_5 ++ (tables_1_6 ++ tables_1_7)))))
  simp only [List.mem_append]
  exact (Or.inr (Or.inr (Or.inr (Or.inr (Or.inr (Or.inr h))))))
theorem tzc_7 {w : Cond} (i : Nat) (h : tables_1_7[i]? = some w) (g : goodWord w = true) : w ∈ TB := tb_of (List.mem_append_right _ (tzm_7 (List.mem_of_getElem? h))) g
theorem tzn_7 {w : Cond} (i : Nat) (h : tables_1_7[i]? = some w) (g : isNst w = true) : w ∈ NB := List.mem_filter.mpr ⟨tzm_7 (List.mem_of_getElem? h), g⟩
def m_X0_init : Mr := (yX0_init, cX0_init, 1, none, { frames := 1, cells := 1, slots := 15, locals := 26 })
def m_X0_copyFrom : Mr := (yX0_copyFrom, cX0_copyFrom, 2, none, { frames := 1, cells := 0, slots := 0, locals := 26 })
def m_X0_sealOf : Mr := (yX0_sealOf, cX0_sealOf, 2, (some FieldType.int), { frames := 1, cells := 0, slots := 0, locals := 21 })
def m_X0_powerOf : Mr := (yX0_powerOf, cX0_powerOf, 3, (some FieldType.int), { frames := 1, cells := 0, slots := 0, locals := 21 })
def m_X0_roomOf : Mr := (yX0_roomOf, cX0_roomOf, 5, (some FieldType.int), { frames := 1, cells := 0, slots := 0, locals := 21 })
def m_X1_init : Mr := (yX1_init, cX1_init, 2, none, { frames := 2, cells := 11, slots := 5588, locals := 40 })
def m_X1_forgetSigns : Mr := (yX1_forgetSigns, cX1_forgetSigns, 1, none, { frames := 1, cells := 0, slots := 0, locals := 23 })
def m_X1_signOf : Mr := (yX1_signOf, cX1_signOf, 4, (some FieldType.int), { frames := 1, cells := 0, slots := 0, locals := 21 })
def m_X1_learnCouldBe : Mr := (yX1_learnCouldBe, cX1_learnCouldBe, 3, none, { frames := 5, cells := 0, slots := 0, locals := 132 })
def m_X1_learnParts : Mr := (yX1_learnParts, cX1_learnParts, 4, none, { frames := 5, cells := 0, slots := 0, locals := 132 })
def m_X1_learn : Mr := (yX1_learn, cX1_learn, 9, none, { frames := 4, cells := 0, slots := 0, locals := 104 })
def m_X1_placeOf : Mr := (yX1_placeOf, cX1_placeOf, 2, (some FieldType.int), { frames := 0, cells := 0, slots := 0, locals := 0 })
def m_X1_firstDay : Mr := (yX1_firstDay, cX1_firstDay, 7, (some FieldType.int), { frames := 4, cells := 0, slots := 0, locals := 104 })
def m_X1_usedThawing : Mr := (yX1_usedThawing, cX1_usedThawing, 6, (some FieldType.int), { frames := 4, cells := 0, slots := 0, locals := 104 })
def m_X1_begin : Mr := (yX1_begin, cX1_begin, 3, none, { frames := 2, cells := 0, slots := 0, locals := 45 })
def m_X2_init : Mr := (yX2_init, cX2_init, 2, none, { frames := 1, cells := 7, slots := 93, locals := 23 })
def m_X2_howManySeen : Mr := (yX2_howManySeen, cX2_howManySeen, 3, (some FieldType.int), { frames := 0, cells := 0, slots := 0, locals := 0 })
def m_X2_oddsOf : Mr := (yX2_oddsOf, cX2_oddsOf, 6, (some FieldType.int), { frames := 5, cells := 0, slots := 0, locals := 117 })
def m_X2_oddsWith : Mr := (yX2_oddsWith, cX2_oddsWith, 7, (some FieldType.int), { frames := 5, cells := 0, slots := 0, locals := 117 })
def m_X2_howMuchTells : Mr := (yX2_howMuchTells, cX2_howMuchTells, 3, (some FieldType.int), { frames := 5, cells := 0, slots := 0, locals := 117 })
def m_X2_nextSign : Mr := (yX2_nextSign, cX2_nextSign, 8, (some FieldType.int), { frames := 5, cells := 0, slots := 0, locals := 117 })
def m_X2_share : Mr := (yX2_share, cX2_share, 4, (some FieldType.int), { frames := 0, cells := 0, slots := 0, locals := 0 })
def m_X2_weighAll : Mr := (yX2_weighAll, cX2_weighAll, 5, (some FieldType.long), { frames := 4, cells := 0, slots := 0, locals := 93 })
def m_X2_weightOf : Mr := (yX2_weightOf, cX2_weightOf, 6, (some FieldType.long), { frames := 3, cells := 0, slots := 0, locals := 68 })
def m_X2_halvings : Mr := (yX2_halvings, cX2_halvings, 5, (some FieldType.int), { frames := 2, cells := 0, slots := 0, locals := 44 })
def m_X2_exactOf : Mr := (yX2_exactOf, cX2_exactOf, 2, (some FieldType.int), { frames := 0, cells := 0, slots := 0, locals := 0 })
def m_X2_tellingBy : Mr := (yX2_tellingBy, cX2_tellingBy, 10, (some FieldType.int), { frames := 2, cells := 0, slots := 0, locals := 44 })
def m_X2_isFirstOfClass : Mr := (yX2_isFirstOfClass, cX2_isFirstOfClass, 3, (some FieldType.boolean), { frames := 0, cells := 0, slots := 0, locals := 0 })
def m_X2_weightOfClass : Mr := (yX2_weightOfClass, cX2_weightOfClass, 5, (some FieldType.long), { frames := 0, cells := 0, slots := 0, locals := 0 })
def m_X3_init : Mr := (yX3_init, cX3_init, 1, none, { frames := 1, cells := 3, slots := 312, locals := 20 })
def m_X3_copyFrom : Mr := (yX3_copyFrom, cX3_copyFrom, 6, none, { frames := 1, cells := 0, slots := 0, locals := 21 })
def m_X3_isOpenIn : Mr := (yX3_isOpenIn, cX3_isOpenIn, 2, (some FieldType.boolean), { frames := 0, cells := 0, slots := 0, locals := 0 })
def m_X4_init : Mr := (yX4_init, cX4_init, 2, none, { frames := 1, cells := 1, slots := 7, locals := 23 })
def m_X4_yearOf : Mr := (yX4_yearOf, cX4_yearOf, 3, (some FieldType.int), { frames := 2, cells := 0, slots := 0, locals := 44 })
def m_X4_yearByUse : Mr := (yX4_yearByUse, cX4_yearByUse, 2, (some FieldType.int), { frames := 0, cells := 0, slots := 0, locals := 0 })
def m_X4_saved : Mr := (yX4_saved, cX4_saved, 4, (some FieldType.int), { frames := 3, cells := 0, slots := 0, locals := 66 })
def m_X4_costOf : Mr := (yX4_costOf, cX4_costOf, 4, (some FieldType.int), { frames := 0, cells := 0, slots := 0, locals := 0 })
def m_X4_bestPart : Mr := (yX4_bestPart, cX4_bestPart, 10, (some FieldType.int), { frames := 4, cells := 0, slots := 0, locals := 89 })
def m_X4_yearsToPay : Mr := (yX4_yearsToPay, cX4_yearsToPay, 8, (some FieldType.int), { frames := 3, cells := 0, slots := 0, locals := 66 })
def m_X4_bestThawing : Mr := (yX4_bestThawing, cX4_bestThawing, 14, (some FieldType.int), { frames := 5, cells := 0, slots := 0, locals := 129 })
def m_X5_init : Mr := (yX5_init, cX5_init, 1, none, { frames := 1, cells := 5, slots := 352, locals := 20 })
def m_X5_append : Mr := (yX5_append, cX5_append, 5, (some FieldType.boolean), { frames := 0, cells := 0, slots := 0, locals := 0 })
def m_X5_readBox : Mr := (yX5_readBox, cX5_readBox, 2, none, { frames := 7, cells := 0, slots := 0, locals := 152 })
def m_X5_readDay : Mr := (yX5_readDay, cX5_readDay, 2, none, { frames := 6, cells := 0, slots := 0, locals := 131 })
def m_X5_begin : Mr := (yX5_begin, cX5_begin, 1, none, { frames := 1, cells := 0, slots := 0, locals := 20 })
def m_X5_readClause : Mr := (yX5_readClause, cX5_readClause, 3, none, { frames := 6, cells := 0, slots := 0, locals := 130 })
def m_X5_readClauseNumbers : Mr := (yX5_readClauseNumbers, cX5_readClauseNumbers, 2, none, { frames := 2, cells := 0, slots := 0, locals := 46 })
def m_X5_readOpening : Mr := (yX5_readOpening, cX5_readOpening, 4, none, { frames := 5, cells := 0, slots := 0, locals := 108 })
def m_X5_readClauseEnd : Mr := (yX5_readClauseEnd, cX5_readClauseEnd, 1, none, { frames := 1, cells := 0, slots := 0, locals := 22 })
def m_X5_readNumber : Mr := (yX5_readNumber, cX5_readNumber, 5, (some FieldType.int), { frames := 1, cells := 0, slots := 0, locals := 22 })
def m_X5_readWord : Mr := (yX5_readWord, cX5_readWord, 1, none, { frames := 1, cells := 0, slots := 0, locals := 20 })
def m_X5_skipBlanks : Mr := (yX5_skipBlanks, cX5_skipBlanks, 1, none, { frames := 0, cells := 0, slots := 0, locals := 0 })
def m_X5_clauseFrom : Mr := (yX5_clauseFrom, cX5_clauseFrom, 3, (some FieldType.int), { frames := 5, cells := 0, slots := 0, locals := 108 })
def m_X5_isWord : Mr := (yX5_isWord, cX5_isWord, 4, (some FieldType.boolean), { frames := 4, cells := 0, slots := 0, locals := 85 })
def m_X5_faultAt : Mr := (yX5_faultAt, cX5_faultAt, 3, none, { frames := 0, cells := 0, slots := 0, locals := 0 })
def m_X5_isFigure : Mr := (yX5_isFigure, cX5_isFigure, 1, (some FieldType.boolean), { frames := 0, cells := 0, slots := 0, locals := 0 })
def m_X5_isLetter : Mr := (yX5_isLetter, cX5_isLetter, 1, (some FieldType.boolean), { frames := 0, cells := 0, slots := 0, locals := 0 })
def m_X5_wordOf : Mr := (yX5_wordOf, cX5_wordOf, 1, (some (FieldType.object "java/lang/String")), { frames := 0, cells := 0, slots := 0, locals := 0 })
def m_X6_init : Mr := (yX6_init, cX6_init, 1, none, { frames := 1, cells := 8, slots := 70, locals := 20 })
def m_X6_becomeFresh : Mr := (yX6_becomeFresh, cX6_becomeFresh, 2, none, { frames := 1, cells := 0, slots := 0, locals := 24 })
def m_X6_copyFrom : Mr := (yX6_copyFrom, cX6_copyFrom, 2, none, { frames := 1, cells := 0, slots := 0, locals := 26 })
def m_X6_has : Mr := (yX6_has, cX6_has, 2, (some FieldType.boolean), { frames := 0, cells := 0, slots := 0, locals := 0 })
def m_X6_warmthOf : Mr := (yX6_warmthOf, cX6_warmthOf, 2, (some FieldType.int), { frames := 0, cells := 0, slots := 0, locals := 0 })
def m_X6_tickOfDay : Mr := (yX6_tickOfDay, cX6_tickOfDay, 1, (some FieldType.int), { frames := 0, cells := 0, slots := 0, locals := 0 })
def m_X6_allHeat : Mr := (yX6_allHeat, cX6_allHeat, 4, (some FieldType.long), { frames := 0, cells := 0, slots := 0, locals := 0 })
def m_X6_hasFood : Mr := (yX6_hasFood, cX6_hasFood, 2, (some FieldType.boolean), { frames := 0, cells := 0, slots := 0, locals := 0 })
def m_X6_firstNotThere : Mr := (yX6_firstNotThere, cX6_firstNotThere, 2, (some FieldType.int), { frames := 0, cells := 0, slots := 0, locals := 0 })
def m_X6_foodsThere : Mr := (yX6_foodsThere, cX6_foodsThere, 3, (some FieldType.int), { frames := 0, cells := 0, slots := 0, locals := 0 })
def m_X6_addFood : Mr := (yX6_addFood, cX6_addFood, 5, none, { frames := 0, cells := 0, slots := 0, locals := 0 })
def m_X6_removeFood : Mr := (yX6_removeFood, cX6_removeFood, 2, none, { frames := 0, cells := 0, slots := 0, locals := 0 })
def m_X6_isWithin : Mr := (yX6_isWithin, cX6_isWithin, 3, (some FieldType.boolean), { frames := 1, cells := 0, slots := 0, locals := 21 })
def m_X6_foodsWithin : Mr := (yX6_foodsWithin, cX6_foodsWithin, 3, (some FieldType.int), { frames := 2, cells := 0, slots := 0, locals := 43 })
def m_X6_letOffIce : Mr := (yX6_letOffIce, cX6_letOffIce, 5, (some FieldType.int), { frames := 1, cells := 0, slots := 0, locals := 21 })
def m_X6_draw : Mr := (yX6_draw, cX6_draw, 2, (some FieldType.int), { frames := 0, cells := 0, slots := 0, locals := 0 })
def m_X7_init : Mr := (yX7_init, cX7_init, 3, none, { frames := 1, cells := 2, slots := 24, locals := 20 })
def m_X7_passByDay : Mr := (yX7_passByDay, cX7_passByDay, 5, none, { frames := 3, cells := 0, slots := 0, locals := 80 })
def m_X7_pass : Mr := (yX7_pass, cX7_pass, 7, none, { frames := 2, cells := 0, slots := 0, locals := 54 })
def m_X7_lookAtWarmths : Mr := (yX7_lookAtWarmths, cX7_lookAtWarmths, 3, none, { frames := 1, cells := 0, slots := 0, locals := 21 })
def m_X7_switchMachine : Mr := (yX7_switchMachine, cX7_switchMachine, 6, none, { frames := 1, cells := 0, slots := 0, locals := 21 })
def m_X7_exchange : Mr := (yX7_exchange, cX7_exchange, 7, none, { frames := 1, cells := 0, slots := 0, locals := 28 })
def m_X7_flow : Mr := (yX7_flow, cX7_flow, 9, none, { frames := 0, cells := 0, slots := 0, locals := 0 })
def m_X7_giveLight : Mr := (yX7_giveLight, cX7_giveLight, 4, none, { frames := 0, cells := 0, slots := 0, locals := 0 })
def m_X7_moveOut : Mr := (yX7_moveOut, cX7_moveOut, 4, none, { frames := 1, cells := 0, slots := 0, locals := 21 })
def m_X7_takeWet : Mr := (yX7_takeWet, cX7_takeWet, 5, none, { frames := 1, cells := 0, slots := 0, locals := 21 })
def m_X8_init : Mr := (yX8_init, cX8_init, 3, none, { frames := 2, cells := 10, slots := 92, locals := 40 })
def m_X8_findBestRow : Mr := (yX8_findBestRow, cX8_findBestRow, 4, none, { frames := 5, cells := 0, slots := 0, locals := 127 })
def m_X8_shelfInBestRow : Mr := (yX8_shelfInBestRow, cX8_shelfInBestRow, 2, (some FieldType.int), { frames := 1, cells := 0, slots := 0, locals := 24 })
def m_X8_layByRow : Mr := (yX8_layByRow, cX8_layByRow, 5, none, { frames := 0, cells := 0, slots := 0, locals := 0 })
def m_X8_findBestBulb : Mr := (yX8_findBestBulb, cX8_findBestBulb, 2, none, { frames := 5, cells := 0, slots := 0, locals := 127 })
def m_X8_takeIfMore : Mr := (yX8_takeIfMore, cX8_takeIfMore, 3, none, { frames := 0, cells := 0, slots := 0, locals := 0 })
def m_X8_withinOnSecondDay : Mr := (yX8_withinOnSecondDay, cX8_withinOnSecondDay, 4, (some FieldType.int), { frames := 4, cells := 0, slots := 0, locals := 104 })
def m_X8_ticksWithoutCurrent : Mr := (yX8_ticksWithoutCurrent, cX8_ticksWithoutCurrent, 3, (some FieldType.int), { frames := 4, cells := 0, slots := 0, locals := 104 })
def m_X8_findBestStore : Mr := (yX8_findBestStore, cX8_findBestStore, 5, none, { frames := 4, cells := 0, slots := 0, locals := 110 })
def m_X8_paidStoring : Mr := (yX8_paidStoring, cX8_paidStoring, 11, (some FieldType.int), { frames := 3, cells := 0, slots := 0, locals := 80 })
def m_X8_isCheapHour : Mr := (yX8_isCheapHour, cX8_isCheapHour, 2, (some FieldType.boolean), { frames := 0, cells := 0, slots := 0, locals := 0 })
def m_X8_boxBulb : Mr := (yX8_boxBulb, cX8_boxBulb, 1, (some FieldType.int), { frames := 0, cells := 0, slots := 0, locals := 0 })
def m_X9_init : Mr := (yX9_init, cX9_init, 1, none, { frames := 3, cells := 77, slots := 7068, locals := 62 })
def m_X9_feed : Mr := (yX9_feed, cX9_feed, 4, (some FieldType.int), { frames := 1, cells := 0, slots := 0, locals := 24 })
def m_X9_box : Mr := (yX9_box, cX9_box, 1, (some FieldType.int), { frames := 8, cells := 0, slots := 0, locals := 173 })
def m_X9_day : Mr := (yX9_day, cX9_day, 1, (some FieldType.int), { frames := 7, cells := 0, slots := 0, locals := 152 })
def m_X9_fault : Mr := (yX9_fault, cX9_fault, 1, (some FieldType.int), { frames := 0, cells := 0, slots := 0, locals := 0 })
def m_X9_told : Mr := (yX9_told, cX9_told, 2, (some FieldType.int), { frames := 0, cells := 0, slots := 0, locals := 0 })
def m_X9_opening : Mr := (yX9_opening, cX9_opening, 3, (some FieldType.int), { frames := 0, cells := 0, slots := 0, locals := 0 })
def m_X9_trouble : Mr := (yX9_trouble, cX9_trouble, 3, (some FieldType.int), { frames := 1, cells := 0, slots := 0, locals := 21 })
def m_X9_fresh : Mr := (yX9_fresh, cX9_fresh, 2, (some FieldType.int), { frames := 2, cells := 0, slots := 0, locals := 45 })
def m_X9_current : Mr := (yX9_current, cX9_current, 3, (some FieldType.int), { frames := 0, cells := 0, slots := 0, locals := 0 })
def m_X9_cover : Mr := (yX9_cover, cX9_cover, 3, (some FieldType.int), { frames := 0, cells := 0, slots := 0, locals := 0 })
def m_X9_put : Mr := (yX9_put, cX9_put, 7, (some FieldType.int), { frames := 1, cells := 0, slots := 0, locals := 24 })
def m_X9_take : Mr := (yX9_take, cX9_take, 3, (some FieldType.int), { frames := 1, cells := 0, slots := 0, locals := 21 })
def m_X9_lay : Mr := (yX9_lay, cX9_lay, 4, (some FieldType.int), { frames := 1, cells := 0, slots := 0, locals := 21 })
def m_X9_food : Mr := (yX9_food, cX9_food, 3, (some FieldType.int), { frames := 2, cells := 0, slots := 0, locals := 43 })
def m_X9_run : Mr := (yX9_run, cX9_run, 3, (some FieldType.int), { frames := 4, cells := 0, slots := 0, locals := 104 })
def m_X9_drawn : Mr := (yX9_drawn, cX9_drawn, 6, (some FieldType.int), { frames := 3, cells := 0, slots := 0, locals := 80 })
def m_X9_warmth : Mr := (yX9_warmth, cX9_warmth, 2, (some FieldType.int), { frames := 1, cells := 0, slots := 0, locals := 21 })
def m_X9_heat : Mr := (yX9_heat, cX9_heat, 2, (some FieldType.long), { frames := 1, cells := 0, slots := 0, locals := 23 })
def m_X9_count : Mr := (yX9_count, cX9_count, 2, (some FieldType.int), { frames := 1, cells := 0, slots := 0, locals := 22 })
def m_X9_thaw : Mr := (yX9_thaw, cX9_thaw, 1, (some FieldType.int), { frames := 2, cells := 0, slots := 0, locals := 45 })
def m_X9_sign : Mr := (yX9_sign, cX9_sign, 4, (some FieldType.int), { frames := 5, cells := 0, slots := 0, locals := 132 })
def m_X9_seen : Mr := (yX9_seen, cX9_seen, 4, (some FieldType.int), { frames := 1, cells := 0, slots := 0, locals := 22 })
def m_X9_forget : Mr := (yX9_forget, cX9_forget, 3, (some FieldType.int), { frames := 1, cells := 0, slots := 0, locals := 22 })
def m_X9_prior : Mr := (yX9_prior, cX9_prior, 4, (some FieldType.int), { frames := 1, cells := 0, slots := 0, locals := 20 })
def m_X9_bother : Mr := (yX9_bother, cX9_bother, 4, (some FieldType.int), { frames := 1, cells := 0, slots := 0, locals := 20 })
def m_X9_odds : Mr := (yX9_odds, cX9_odds, 3, (some FieldType.int), { frames := 6, cells := 0, slots := 0, locals := 154 })
def m_X9_each : Mr := (yX9_each, cX9_each, 3, (some FieldType.int), { frames := 6, cells := 0, slots := 0, locals := 154 })
def m_X9_tells : Mr := (yX9_tells, cX9_tells, 3, (some FieldType.int), { frames := 6, cells := 0, slots := 0, locals := 154 })
def m_X9_next : Mr := (yX9_next, cX9_next, 2, (some FieldType.int), { frames := 6, cells := 0, slots := 0, locals := 154 })
def m_X9_makes : Mr := (yX9_makes, cX9_makes, 3, (some FieldType.int), { frames := 5, cells := 0, slots := 0, locals := 130 })
def m_X9_mending : Mr := (yX9_mending, cX9_mending, 4, (some FieldType.int), { frames := 1, cells := 0, slots := 0, locals := 20 })
def m_X9_price : Mr := (yX9_price, cX9_price, 3, (some FieldType.int), { frames := 1, cells := 0, slots := 0, locals := 20 })
def m_X9_year : Mr := (yX9_year, cX9_year, 2, (some FieldType.int), { frames := 5, cells := 0, slots := 0, locals := 132 })
def m_X9_saves : Mr := (yX9_saves, cX9_saves, 3, (some FieldType.int), { frames := 5, cells := 0, slots := 0, locals := 132 })
def m_X9_best : Mr := (yX9_best, cX9_best, 5, (some FieldType.int), { frames := 6, cells := 0, slots := 0, locals := 155 })
def m_X9_pays : Mr := (yX9_pays, cX9_pays, 4, (some FieldType.int), { frames := 5, cells := 0, slots := 0, locals := 132 })
def m_X9_ice : Mr := (yX9_ice, cX9_ice, 4, (some FieldType.int), { frames := 6, cells := 0, slots := 0, locals := 162 })
def m_X9_lying : Mr := (yX9_lying, cX9_lying, 2, (some FieldType.int), { frames := 6, cells := 0, slots := 0, locals := 150 })
def m_X9_bulb : Mr := (yX9_bulb, cX9_bulb, 2, (some FieldType.int), { frames := 6, cells := 0, slots := 0, locals := 148 })
def m_X9_without : Mr := (yX9_without, cX9_without, 2, (some FieldType.int), { frames := 5, cells := 0, slots := 0, locals := 126 })
def m_X9_cheap : Mr := (yX9_cheap, cX9_cheap, 4, (some FieldType.int), { frames := 1, cells := 0, slots := 0, locals := 20 })
def m_X9_store : Mr := (yX9_store, cX9_store, 3, (some FieldType.int), { frames := 5, cells := 0, slots := 0, locals := 134 })
def m_X9_seed : Mr := (yX9_seed, cX9_seed, 3, (some FieldType.int), { frames := 0, cells := 0, slots := 0, locals := 0 })
def m_X9_keep : Mr := (yX9_keep, cX9_keep, 2, (some FieldType.int), { frames := 2, cells := 0, slots := 0, locals := 47 })
def m_X9_goBack : Mr := (yX9_goBack, cX9_goBack, 2, (some FieldType.int), { frames := 2, cells := 0, slots := 0, locals := 47 })
def m_X9_imageOf : Mr := (yX9_imageOf, cX9_imageOf, 2, (some (FieldType.object "ColdBox$State")), { frames := 0, cells := 0, slots := 0, locals := 0 })
def m_X9_drawDoor : Mr := (yX9_drawDoor, cX9_drawDoor, 4, none, { frames := 1, cells := 0, slots := 0, locals := 21 })
def m_X9_isSet : Mr := (yX9_isSet, cX9_isSet, 1, (some FieldType.boolean), { frames := 0, cells := 0, slots := 0, locals := 0 })
def m_X9_isPart : Mr := (yX9_isPart, cX9_isPart, 2, (some FieldType.boolean), { frames := 0, cells := 0, slots := 0, locals := 0 })
def m_X9_isTrouble : Mr := (yX9_isTrouble, cX9_isTrouble, 1, (some FieldType.boolean), { frames := 0, cells := 0, slots := 0, locals := 0 })
def m_X9_isSign : Mr := (yX9_isSign, cX9_isSign, 1, (some FieldType.boolean), { frames := 0, cells := 0, slots := 0, locals := 0 })
def m_X9_isShelf : Mr := (yX9_isShelf, cX9_isShelf, 1, (some FieldType.boolean), { frames := 0, cells := 0, slots := 0, locals := 0 })
def m_X9_isPrice : Mr := (yX9_isPrice, cX9_isPrice, 1, (some FieldType.boolean), { frames := 0, cells := 0, slots := 0, locals := 0 })
def m_X9_canBeWarmth : Mr := (yX9_canBeWarmth, cX9_canBeWarmth, 1, (some FieldType.boolean), { frames := 0, cells := 0, slots := 0, locals := 0 })
def m_X9_areSignDays : Mr := (yX9_areSignDays, cX9_areSignDays, 1, (some FieldType.boolean), { frames := 0, cells := 0, slots := 0, locals := 0 })
def m_X10_init : Mr := (yX10_init, cX10_init, 1, none, { frames := 1, cells := 20, slots := 2073, locals := 20 })
def m_X10_in : Mr := (yX10_in, cX10_in, 6, (some FieldType.boolean), { frames := 0, cells := 0, slots := 0, locals := 0 })
def m_X10_one : Mr := (yX10_one, cX10_one, 1, (some FieldType.int), { frames := 0, cells := 0, slots := 0, locals := 0 })
def m_X10_has : Mr := (yX10_has, cX10_has, 3, (some FieldType.boolean), { frames := 0, cells := 0, slots := 0, locals := 0 })
def m_X10_ones : Mr := (yX10_ones, cX10_ones, 3, (some FieldType.int), { frames := 0, cells := 0, slots := 0, locals := 0 })
def m_X10_untold : Mr := (yX10_untold, cX10_untold, 1, (some FieldType.int), { frames := 0, cells := 0, slots := 0, locals := 0 })
def m_X10_begin : Mr := (yX10_begin, cX10_begin, 2, none, { frames := 2, cells := 0, slots := 0, locals := 50 })
def m_X10_feed : Mr := (yX10_feed, cX10_feed, 5, (some FieldType.int), { frames := 1, cells := 0, slots := 0, locals := 25 })
def m_X10_here : Mr := (yX10_here, cX10_here, 1, (some FieldType.int), { frames := 0, cells := 0, slots := 0, locals := 0 })
def m_X10_want : Mr := (yX10_want, cX10_want, 4, (some FieldType.boolean), { frames := 0, cells := 0, slots := 0, locals := 0 })
def m_X10_takeWord : Mr := (yX10_takeWord, cX10_takeWord, 2, none, { frames := 1, cells := 0, slots := 0, locals := 25 })
def m_X10_isWord : Mr := (yX10_isWord, cX10_isWord, 9, (some FieldType.boolean), { frames := 0, cells := 0, slots := 0, locals := 0 })
def m_X10_takeNumber : Mr := (yX10_takeNumber, cX10_takeNumber, 6, (some FieldType.int), { frames := 1, cells := 0, slots := 0, locals := 25 })
def m_X10_kindHere : Mr := (yX10_kindHere, cX10_kindHere, 1, (some FieldType.int), { frames := 1, cells := 0, slots := 0, locals := 28 })
def m_X10_leastOf : Mr := (yX10_leastOf, cX10_leastOf, 1, (some FieldType.int), { frames := 0, cells := 0, slots := 0, locals := 0 })
def m_X10_mostOf : Mr := (yX10_mostOf, cX10_mostOf, 1, (some FieldType.int), { frames := 0, cells := 0, slots := 0, locals := 0 })
def m_X10_takeClause : Mr := (yX10_takeClause, cX10_takeClause, 2, none, { frames := 2, cells := 0, slots := 0, locals := 50 })
def m_X10_takeEnd : Mr := (yX10_takeEnd, cX10_takeEnd, 1, none, { frames := 1, cells := 0, slots := 0, locals := 23 })
def m_X10_beginReading : Mr := (yX10_beginReading, cX10_beginReading, 1, none, { frames := 0, cells := 0, slots := 0, locals := 0 })
def m_X10_box : Mr := (yX10_box, cX10_box, 4, (some FieldType.int), { frames := 3, cells := 0, slots := 0, locals := 71 })
def m_X10_day : Mr := (yX10_day, cX10_day, 3, (some FieldType.int), { frames := 3, cells := 0, slots := 0, locals := 71 })
def m_X10_fault : Mr := (yX10_fault, cX10_fault, 1, (some FieldType.int), { frames := 0, cells := 0, slots := 0, locals := 0 })
def m_X10_told : Mr := (yX10_told, cX10_told, 2, (some FieldType.int), { frames := 3, cells := 0, slots := 0, locals := 71 })
def m_X10_opening : Mr := (yX10_opening, cX10_opening, 3, (some FieldType.int), { frames := 1, cells := 0, slots := 0, locals := 25 })
def m_X10_copy : Mr := (yX10_copy, cX10_copy, 4, none, { frames := 0, cells := 0, slots := 0, locals := 0 })
def m_X10_freshen : Mr := (yX10_freshen, cX10_freshen, 9, none, { frames := 1, cells := 0, slots := 0, locals := 22 })
def m_X10_tryFresh : Mr := (yX10_tryFresh, cX10_tryFresh, 2, none, { frames := 2, cells := 0, slots := 0, locals := 50 })
def m_X10_capOf : Mr := (yX10_capOf, cX10_capOf, 3, (some FieldType.long), { frames := 0, cells := 0, slots := 0, locals := 0 })
def m_X10_warm : Mr := (yX10_warm, cX10_warm, 3, (some FieldType.long), { frames := 1, cells := 0, slots := 0, locals := 22 })
def m_X10_isOpen : Mr := (yX10_isOpen, cX10_isOpen, 7, (some FieldType.boolean), { frames := 1, cells := 0, slots := 0, locals := 25 })
def m_X10_isHour : Mr := (yX10_isHour, cX10_isHour, 6, (some FieldType.boolean), { frames := 0, cells := 0, slots := 0, locals := 0 })
def m_X10_findFlows : Mr := (yX10_findFlows, cX10_findFlows, 12, none, { frames := 2, cells := 0, slots := 0, locals := 44 })
def m_X10_wet : Mr := (yX10_wet, cX10_wet, 10, none, { frames := 2, cells := 0, slots := 0, locals := 44 })
def m_X10_readBulb : Mr := (yX10_readBulb, cX10_readBulb, 15, none, { frames := 2, cells := 0, slots := 0, locals := 44 })
def m_X10_moves : Mr := (yX10_moves, cX10_moves, 6, (some FieldType.long), { frames := 2, cells := 0, slots := 0, locals := 44 })
def m_X10_tick : Mr := (yX10_tick, cX10_tick, 17, none, { frames := 3, cells := 0, slots := 0, locals := 78 })
def m_X10_go : Mr := (yX10_go, cX10_go, 4, none, { frames := 4, cells := 0, slots := 0, locals := 114 })
def m_X10_isSet : Mr := (yX10_isSet, cX10_isSet, 1, (some FieldType.boolean), { frames := 1, cells := 0, slots := 0, locals := 25 })
def m_X10_isTrouble : Mr := (yX10_isTrouble, cX10_isTrouble, 1, (some FieldType.boolean), { frames := 1, cells := 0, slots := 0, locals := 25 })
def m_X10_trouble : Mr := (yX10_trouble, cX10_trouble, 3, (some FieldType.int), { frames := 3, cells := 0, slots := 0, locals := 71 })
def m_X10_fresh : Mr := (yX10_fresh, cX10_fresh, 2, (some FieldType.int), { frames := 3, cells := 0, slots := 0, locals := 71 })
def m_X10_current : Mr := (yX10_current, cX10_current, 3, (some FieldType.int), { frames := 3, cells := 0, slots := 0, locals := 71 })
def m_X10_cover : Mr := (yX10_cover, cX10_cover, 3, (some FieldType.int), { frames := 3, cells := 0, slots := 0, locals := 71 })
def m_X10_isShelf : Mr := (yX10_isShelf, cX10_isShelf, 1, (some FieldType.boolean), { frames := 1, cells := 0, slots := 0, locals := 25 })
def m_X10_isFood : Mr := (yX10_isFood, cX10_isFood, 2, (some FieldType.boolean), { frames := 1, cells := 0, slots := 0, locals := 25 })
def m_X10_foods : Mr := (yX10_foods, cX10_foods, 3, (some FieldType.int), { frames := 0, cells := 0, slots := 0, locals := 0 })
def m_X10_isDegree : Mr := (yX10_isDegree, cX10_isDegree, 1, (some FieldType.boolean), { frames := 1, cells := 0, slots := 0, locals := 25 })
def m_X10_put : Mr := (yX10_put, cX10_put, 7, (some FieldType.int), { frames := 3, cells := 0, slots := 0, locals := 71 })
def m_X10_take : Mr := (yX10_take, cX10_take, 3, (some FieldType.int), { frames := 3, cells := 0, slots := 0, locals := 71 })
def m_X10_lay : Mr := (yX10_lay, cX10_lay, 4, (some FieldType.int), { frames := 3, cells := 0, slots := 0, locals := 71 })
def m_X10_isWithin : Mr := (yX10_isWithin, cX10_isWithin, 3, (some FieldType.boolean), { frames := 2, cells := 0, slots := 0, locals := 44 })
def m_X10_food : Mr := (yX10_food, cX10_food, 3, (some FieldType.int), { frames := 3, cells := 0, slots := 0, locals := 71 })
def m_X10_run : Mr := (yX10_run, cX10_run, 4, (some FieldType.int), { frames := 5, cells := 0, slots := 0, locals := 137 })
def m_X10_draw : Mr := (yX10_draw, cX10_draw, 2, (some FieldType.int), { frames := 0, cells := 0, slots := 0, locals := 0 })
def m_X10_drawDay : Mr := (yX10_drawDay, cX10_drawDay, 3, none, { frames := 1, cells := 0, slots := 0, locals := 21 })
def m_X10_drawn : Mr := (yX10_drawn, cX10_drawn, 7, (some FieldType.int), { frames := 4, cells := 0, slots := 0, locals := 114 })
def m_X10_warmth : Mr := (yX10_warmth, cX10_warmth, 2, (some FieldType.int), { frames := 3, cells := 0, slots := 0, locals := 71 })
def m_X10_heat : Mr := (yX10_heat, cX10_heat, 5, (some FieldType.long), { frames := 3, cells := 0, slots := 0, locals := 71 })
def m_X10_count : Mr := (yX10_count, cX10_count, 2, (some FieldType.int), { frames := 3, cells := 0, slots := 0, locals := 71 })
def m_X10_melt : Mr := (yX10_melt, cX10_melt, 7, (some FieldType.int), { frames := 2, cells := 0, slots := 0, locals := 44 })
def m_X10_thaw : Mr := (yX10_thaw, cX10_thaw, 1, (some FieldType.int), { frames := 3, cells := 0, slots := 0, locals := 71 })
def m_X10_signOf : Mr := (yX10_signOf, cX10_signOf, 2, (some FieldType.int), { frames := 2, cells := 0, slots := 0, locals := 44 })
def m_X10_findSigns : Mr := (yX10_findSigns, cX10_findSigns, 7, none, { frames := 5, cells := 0, slots := 0, locals := 137 })
def m_X10_isSign : Mr := (yX10_isSign, cX10_isSign, 1, (some FieldType.boolean), { frames := 1, cells := 0, slots := 0, locals := 25 })
def m_X10_areDays : Mr := (yX10_areDays, cX10_areDays, 1, (some FieldType.boolean), { frames := 1, cells := 0, slots := 0, locals := 25 })
def m_X10_sign : Mr := (yX10_sign, cX10_sign, 4, (some FieldType.int), { frames := 6, cells := 0, slots := 0, locals := 163 })
def m_X10_seens : Mr := (yX10_seens, cX10_seens, 3, (some FieldType.int), { frames := 1, cells := 0, slots := 0, locals := 20 })
def m_X10_seen : Mr := (yX10_seen, cX10_seen, 4, (some FieldType.int), { frames := 2, cells := 0, slots := 0, locals := 45 })
def m_X10_forget : Mr := (yX10_forget, cX10_forget, 3, (some FieldType.int), { frames := 2, cells := 0, slots := 0, locals := 42 })
def m_X10_prior : Mr := (yX10_prior, cX10_prior, 4, (some FieldType.int), { frames := 3, cells := 0, slots := 0, locals := 71 })
def m_X10_bother : Mr := (yX10_bother, cX10_bother, 4, (some FieldType.int), { frames := 2, cells := 0, slots := 0, locals := 45 })
def m_X10_couldBe : Mr := (yX10_couldBe, cX10_couldBe, 1, (some FieldType.boolean), { frames := 1, cells := 0, slots := 0, locals := 22 })
def m_X10_weightOf : Mr := (yX10_weightOf, cX10_weightOf, 8, (some FieldType.long), { frames := 1, cells := 0, slots := 0, locals := 22 })
def m_X10_weigh : Mr := (yX10_weigh, cX10_weigh, 4, none, { frames := 6, cells := 0, slots := 0, locals := 163 })
def m_X10_oddsOf : Mr := (yX10_oddsOf, cX10_oddsOf, 2, (some FieldType.int), { frames := 0, cells := 0, slots := 0, locals := 0 })
def m_X10_odds : Mr := (yX10_odds, cX10_odds, 3, (some FieldType.int), { frames := 7, cells := 0, slots := 0, locals := 186 })
def m_X10_each : Mr := (yX10_each, cX10_each, 5, (some FieldType.int), { frames := 7, cells := 0, slots := 0, locals := 186 })
def m_X10_tellsOf : Mr := (yX10_tellsOf, cX10_tellsOf, 9, (some FieldType.int), { frames := 2, cells := 0, slots := 0, locals := 42 })
def m_X10_tells : Mr := (yX10_tells, cX10_tells, 3, (some FieldType.int), { frames := 7, cells := 0, slots := 0, locals := 186 })
def m_X10_next : Mr := (yX10_next, cX10_next, 6, (some FieldType.int), { frames := 7, cells := 0, slots := 0, locals := 186 })
def m_X10_makes : Mr := (yX10_makes, cX10_makes, 6, (some FieldType.int), { frames := 5, cells := 0, slots := 0, locals := 137 })
def m_X10_mending : Mr := (yX10_mending, cX10_mending, 4, (some FieldType.int), { frames := 3, cells := 0, slots := 0, locals := 71 })
def m_X10_price : Mr := (yX10_price, cX10_price, 3, (some FieldType.int), { frames := 3, cells := 0, slots := 0, locals := 71 })
def m_X10_yearOf : Mr := (yX10_yearOf, cX10_yearOf, 2, (some FieldType.int), { frames := 6, cells := 0, slots := 0, locals := 163 })
def m_X10_year : Mr := (yX10_year, cX10_year, 2, (some FieldType.int), { frames := 7, cells := 0, slots := 0, locals := 184 })
def m_X10_saves : Mr := (yX10_saves, cX10_saves, 3, (some FieldType.int), { frames := 7, cells := 0, slots := 0, locals := 184 })
def m_X10_best : Mr := (yX10_best, cX10_best, 11, (some FieldType.int), { frames := 7, cells := 0, slots := 0, locals := 184 })
def m_X10_pays : Mr := (yX10_pays, cX10_pays, 7, (some FieldType.int), { frames := 7, cells := 0, slots := 0, locals := 184 })
def m_X10_iceOf : Mr := (yX10_iceOf, cX10_iceOf, 8, (some FieldType.long), { frames := 5, cells := 0, slots := 0, locals := 137 })
def m_X10_ice : Mr := (yX10_ice, cX10_ice, 10, (some FieldType.int), { frames := 6, cells := 0, slots := 0, locals := 164 })
def m_X10_within : Mr := (yX10_within, cX10_within, 5, (some FieldType.int), { frames := 4, cells := 0, slots := 0, locals := 114 })
def m_X10_powerOf3 : Mr := (yX10_powerOf3, cX10_powerOf3, 3, (some FieldType.int), { frames := 0, cells := 0, slots := 0, locals := 0 })
def m_X10_rowAt : Mr := (yX10_rowAt, cX10_rowAt, 3, (some FieldType.int), { frames := 1, cells := 0, slots := 0, locals := 22 })
def m_X10_placeOf : Mr := (yX10_placeOf, cX10_placeOf, 4, (some FieldType.int), { frames := 0, cells := 0, slots := 0, locals := 0 })
def m_X10_lying : Mr := (yX10_lying, cX10_lying, 7, (some FieldType.int), { frames := 5, cells := 0, slots := 0, locals := 138 })
def m_X10_bulb : Mr := (yX10_bulb, cX10_bulb, 6, (some FieldType.int), { frames := 5, cells := 0, slots := 0, locals := 138 })
def m_X10_without : Mr := (yX10_without, cX10_without, 3, (some FieldType.int), { frames := 5, cells := 0, slots := 0, locals := 137 })
def m_X10_cheap : Mr := (yX10_cheap, cX10_cheap, 4, (some FieldType.int), { frames := 3, cells := 0, slots := 0, locals := 71 })
def m_X10_paid : Mr := (yX10_paid, cX10_paid, 12, (some FieldType.long), { frames := 4, cells := 0, slots := 0, locals := 114 })
def m_X10_store : Mr := (yX10_store, cX10_store, 9, (some FieldType.int), { frames := 5, cells := 0, slots := 0, locals := 145 })
def m_X10_seed : Mr := (yX10_seed, cX10_seed, 3, (some FieldType.int), { frames := 3, cells := 0, slots := 0, locals := 71 })
def m_X10_keep : Mr := (yX10_keep, cX10_keep, 2, (some FieldType.int), { frames := 3, cells := 0, slots := 0, locals := 71 })
def m_X10_goBack : Mr := (yX10_goBack, cX10_goBack, 2, (some FieldType.int), { frames := 3, cells := 0, slots := 0, locals := 71 })
def m_J6_bitCount_0f7a4 : Mr := (yJ6_bitCount_0f7a4, cJ6_bitCount_0f7a4, 1, (some FieldType.int), { frames := 0, cells := 0, slots := 0, locals := 0 })
def m_J0_length_8abf5 : Mr := (yJ0_length_8abf5, cJ0_length_8abf5, 1, (some FieldType.int), { frames := 1, cells := 0, slots := 0, locals := 20 })
def m_J0_charAt_5068e : Mr := (yJ0_charAt_5068e, cJ0_charAt_5068e, 2, (some FieldType.char), { frames := 3, cells := 0, slots := 0, locals := 64 })
def m_J0_coder_7d493 : Mr := (yJ0_coder_7d493, cJ0_coder_7d493, 1, (some FieldType.byte), { frames := 0, cells := 0, slots := 0, locals := 0 })
def m_J0_isLatin1_aae02 : Mr := (yJ0_isLatin1_aae02, cJ0_isLatin1_aae02, 1, (some FieldType.boolean), { frames := 0, cells := 0, slots := 0, locals := 0 })
def m_J0_checkIndex_df160 : Mr := (yJ0_checkIndex_df160, cJ0_checkIndex_df160, 2, none, { frames := 1, cells := 0, slots := 0, locals := 22 })
def m_J1_charAt_3b067 : Mr := (yJ1_charAt_3b067, cJ1_charAt_3b067, 2, (some FieldType.char), { frames := 2, cells := 0, slots := 0, locals := 43 })
def m_J7_fill_d0a16 : Mr := (yJ7_fill_d0a16, cJ7_fill_d0a16, 5, none, { frames := 0, cells := 0, slots := 0, locals := 0 })
def m_J7_fill_53178 : Mr := (yJ7_fill_53178, cJ7_fill_53178, 4, none, { frames := 0, cells := 0, slots := 0, locals := 0 })
def m_J3_checkIndex_8e157 : Mr := (yJ3_checkIndex_8e157, cJ3_checkIndex_8e157, 3, (some FieldType.int), { frames := 0, cells := 0, slots := 0, locals := 0 })
def m_L_law : Mr := (yL_law, cL_law, maxLocals, ret, room_1)
theorem cw_X0_init : Cond.code (yn m_X0_init) (yc m_X0_init) (yl m_X0_init) (yr m_X0_init) ∈ TB := tzc_1 79 (by decide +kernel) rfl
theorem tw_3 : (Cond.initialized "ColdBox$Build") ∈ TB := tzc_1 3 (by decide +kernel) rfl
theorem im_X0_init : Cond.instanceMethod (yn m_X0_init) ∈ TB := tzc_1 78 (by decide +kernel) rfl
theorem in_X0_init : Cond.initialized (yn m_X0_init).cls ∈ TB := tw_3
theorem cw_X0_copyFrom : Cond.code (yn m_X0_copyFrom) (yc m_X0_copyFrom) (yl m_X0_copyFrom) (yr m_X0_copyFrom) ∈ TB := tzc_3 50 (by decide +kernel) rfl
theorem im_X0_copyFrom : Cond.instanceMethod (yn m_X0_copyFrom) ∈ TB := tzc_3 48 (by decide +kernel) rfl
theorem se_X0_copyFrom : Cond.selects (yn m_X0_copyFrom).cls (yn m_X0_copyFrom) (yn m_X0_copyFrom) ∈ TB := tzc_3 49 (by decide +kernel) rfl
theorem in_X0_copyFrom : Cond.initialized (yn m_X0_copyFrom).cls ∈ TB := tw_3
theorem cw_X0_sealOf : Cond.code (yn m_X0_sealOf) (yc m_X0_sealOf) (yl m_X0_sealOf) (yr m_X0_sealOf) ∈ TB := tzc_3 191 (by decide +kernel) rfl
theorem im_X0_sealOf : Cond.instanceMethod (yn m_X0_sealOf) ∈ TB := tzc_3 189 (by decide +kernel) rfl
theorem se_X0_sealOf : Cond.selects (yn m_X0_sealOf).cls (yn m_X0_sealOf) (yn m_X0_sealOf) ∈ TB := tzc_3 190 (by decide +kernel) rfl
theorem in_X0_sealOf : Cond.initialized (yn m_X0_sealOf).cls ∈ TB := tw_3
theorem cw_X0_powerOf : Cond.code (yn m_X0_powerOf) (yc m_X0_powerOf) (yl m_X0_powerOf) (yr m_X0_powerOf) ∈ TB := tzc_3 216 (by decide +kernel) rfl
theorem im_X0_powerOf : Cond.instanceMethod (yn m_X0_powerOf) ∈ TB := tzc_3 214 (by decide +kernel) rfl
theorem se_X0_powerOf : Cond.selects (yn m_X0_powerOf).cls (yn m_X0_powerOf) (yn m_X0_powerOf) ∈ TB := tzc_3 215 (by decide +kernel) rfl
theorem in_X0_powerOf : Cond.initialized (yn m_X0_powerOf).cls ∈ TB := tw_3
theorem cw_X0_roomOf : Cond.code (yn m_X0_roomOf) (yc m_X0_roomOf) (yl m_X0_roomOf) (yr m_X0_roomOf) ∈ TB := tzc_3 185 (by decide +kernel) rfl
theorem im_X0_roomOf : Cond.instanceMethod (yn m_X0_roomOf) ∈ TB := tzc_3 183 (by decide +kernel) rfl
theorem se_X0_roomOf : Cond.selects (yn m_X0_roomOf).cls (yn m_X0_roomOf) (yn m_X0_roomOf) ∈ TB := tzc_3 184 (by decide +kernel) rfl
theorem in_X0_roomOf : Cond.initialized (yn m_X0_roomOf).cls ∈ TB := tw_3
theorem cw_X1_init : Cond.code (yn m_X1_init) (yc m_X1_init) (yl m_X1_init) (yr m_X1_init) ∈ TB := tzc_1 220 (by decide +kernel) rfl
theorem tw_8 : (Cond.initialized "ColdBox$FreshRuns") ∈ TB := tzc_1 8 (by decide +kernel) rfl
theorem im_X1_init : Cond.instanceMethod (yn m_X1_init) ∈ TB := tzc_1 219 (by decide +kernel) rfl
theorem in_X1_init : Cond.initialized (yn m_X1_init).cls ∈ TB := tw_8
theorem cw_X1_forgetSigns : Cond.code (yn m_X1_forgetSigns) (yc m_X1_forgetSigns) (yl m_X1_forgetSigns) (yr m_X1_forgetSigns) ∈ TB := tzc_3 54 (by decide +kernel) rfl
theorem im_X1_forgetSigns : Cond.instanceMethod (yn m_X1_forgetSigns) ∈ TB := tzc_3 52 (by decide +kernel) rfl
theorem se_X1_forgetSigns : Cond.selects (yn m_X1_forgetSigns).cls (yn m_X1_forgetSigns) (yn m_X1_forgetSigns) ∈ TB := tzc_3 53 (by decide +kernel) rfl
theorem in_X1_forgetSigns : Cond.initialized (yn m_X1_forgetSigns).cls ∈ TB := tw_8
theorem cw_X1_signOf : Cond.code (yn m_X1_signOf) (yc m_X1_signOf) (yl m_X1_signOf) (yr m_X1_signOf) ∈ TB := tzc_4 66 (by decide +kernel) rfl
theorem im_X1_signOf : Cond.instanceMethod (yn m_X1_signOf) ∈ TB := tzc_4 64 (by decide +kernel) rfl
theorem se_X1_signOf : Cond.selects (yn m_X1_signOf).cls (yn m_X1_signOf) (yn m_X1_signOf) ∈ TB := tzc_4 65 (by decide +kernel) rfl
theorem in_X1_signOf : Cond.initialized (yn m_X1_signOf).cls ∈ TB := tw_8
theorem cw_X1_learnCouldBe : Cond.code (yn m_X1_learnCouldBe) (yc m_X1_learnCouldBe) (yl m_X1_learnCouldBe) (yr m_X1_learnCouldBe) ∈ TB := tzc_4 106 (by decide +kernel) rfl
theorem im_X1_learnCouldBe : Cond.instanceMethod (yn m_X1_learnCouldBe) ∈ TB := tzc_4 104 (by decide +kernel) rfl
theorem se_X1_learnCouldBe : Cond.selects (yn m_X1_learnCouldBe).cls (yn m_X1_learnCouldBe) (yn m_X1_learnCouldBe) ∈ TB := tzc_4 105 (by decide +kernel) rfl
theorem in_X1_learnCouldBe : Cond.initialized (yn m_X1_learnCouldBe).cls ∈ TB := tw_8
theorem cw_X1_learnParts : Cond.code (yn m_X1_learnParts) (yc m_X1_learnParts) (yl m_X1_learnParts) (yr m_X1_learnParts) ∈ TB := tzc_4 230 (by decide +kernel) rfl
theorem im_X1_learnParts : Cond.instanceMethod (yn m_X1_learnParts) ∈ TB := tzc_4 228 (by decide +kernel) rfl
theorem se_X1_learnParts : Cond.selects (yn m_X1_learnParts).cls (yn m_X1_learnParts) (yn m_X1_learnParts) ∈ TB := tzc_4 229 (by decide +kernel) rfl
theorem in_X1_learnParts : Cond.initialized (yn m_X1_learnParts).cls ∈ TB := tw_8
theorem cw_X1_learn : Cond.code (yn m_X1_learn) (yc m_X1_learn) (yl m_X1_learn) (yr m_X1_learn) ∈ TB := tzc_4 50 (by decide +kernel) rfl
theorem im_X1_learn : Cond.instanceMethod (yn m_X1_learn) ∈ TB := tzc_4 48 (by decide +kernel) rfl
theorem se_X1_learn : Cond.selects (yn m_X1_learn).cls (yn m_X1_learn) (yn m_X1_learn) ∈ TB := tzc_4 49 (by decide +kernel) rfl
theorem in_X1_learn : Cond.initialized (yn m_X1_learn).cls ∈ TB := tw_8
theorem cw_X1_placeOf : Cond.code (yn m_X1_placeOf) (yc m_X1_placeOf) (yl m_X1_placeOf) (yr m_X1_placeOf) ∈ TB := tzc_4 61 (by decide +kernel) rfl
theorem im_X1_placeOf : Cond.static (yn m_X1_placeOf) ∈ TB := tzc_4 60 (by decide +kernel) rfl
theorem in_X1_placeOf : Cond.initialized (yn m_X1_placeOf).cls ∈ TB := tw_8
theorem cw_X1_firstDay : Cond.code (yn m_X1_firstDay) (yc m_X1_firstDay) (yl m_X1_firstDay) (yr m_X1_firstDay) ∈ TB := tzc_4 183 (by decide +kernel) rfl
theorem im_X1_firstDay : Cond.instanceMethod (yn m_X1_firstDay) ∈ TB := tzc_4 181 (by decide +kernel) rfl
theorem se_X1_firstDay : Cond.selects (yn m_X1_firstDay).cls (yn m_X1_firstDay) (yn m_X1_firstDay) ∈ TB := tzc_4 182 (by decide +kernel) rfl
theorem in_X1_firstDay : Cond.initialized (yn m_X1_firstDay).cls ∈ TB := tw_8
theorem cw_X1_usedThawing : Cond.code (yn m_X1_usedThawing) (yc m_X1_usedThawing) (yl m_X1_usedThawing) (yr m_X1_usedThawing) ∈ TB := tzc_5 22 (by decide +kernel) rfl
theorem im_X1_usedThawing : Cond.instanceMethod (yn m_X1_usedThawing) ∈ TB := tzc_5 20 (by decide +kernel) rfl
theorem se_X1_usedThawing : Cond.selects (yn m_X1_usedThawing).cls (yn m_X1_usedThawing) (yn m_X1_usedThawing) ∈ TB := tzc_5 21 (by decide +kernel) rfl
theorem in_X1_usedThawing : Cond.initialized (yn m_X1_usedThawing).cls ∈ TB := tw_8
theorem cw_X1_begin : Cond.code (yn m_X1_begin) (yc m_X1_begin) (yl m_X1_begin) (yr m_X1_begin) ∈ TB := tzc_4 56 (by decide +kernel) rfl
theorem im_X1_begin : Cond.instanceMethod (yn m_X1_begin) ∈ TB := tzc_4 55 (by decide +kernel) rfl
theorem se_X1_begin : Cond.selects (yn m_X1_begin).cls (yn m_X1_begin) (yn m_X1_begin) ∈ TB := tb_sel 19 (by decide +kernel) rfl
theorem in_X1_begin : Cond.initialized (yn m_X1_begin).cls ∈ TB := tw_8
theorem cw_X2_init : Cond.code (yn m_X2_init) (yc m_X2_init) (yl m_X2_init) (yr m_X2_init) ∈ TB := tzc_2 1 (by decide +kernel) rfl
theorem tw_9 : (Cond.initialized "ColdBox$Guess") ∈ TB := tzc_1 9 (by decide +kernel) rfl
theorem im_X2_init : Cond.instanceMethod (yn m_X2_init) ∈ TB := tzc_2 0 (by decide +kernel) rfl
theorem in_X2_init : Cond.initialized (yn m_X2_init).cls ∈ TB := tw_9
theorem cw_X2_howManySeen : Cond.code (yn m_X2_howManySeen) (yc m_X2_howManySeen) (yl m_X2_howManySeen) (yr m_X2_howManySeen) ∈ TB := tzc_4 77 (by decide +kernel) rfl
theorem im_X2_howManySeen : Cond.instanceMethod (yn m_X2_howManySeen) ∈ TB := tzc_4 75 (by decide +kernel) rfl
theorem se_X2_howManySeen : Cond.selects (yn m_X2_howManySeen).cls (yn m_X2_howManySeen) (yn m_X2_howManySeen) ∈ TB := tzc_4 76 (by decide +kernel) rfl
theorem in_X2_howManySeen : Cond.initialized (yn m_X2_howManySeen).cls ∈ TB := tw_9
theorem cw_X2_oddsOf : Cond.code (yn m_X2_oddsOf) (yc m_X2_oddsOf) (yl m_X2_oddsOf) (yr m_X2_oddsOf) ∈ TB := tzc_4 112 (by decide +kernel) rfl
theorem im_X2_oddsOf : Cond.instanceMethod (yn m_X2_oddsOf) ∈ TB := tzc_4 110 (by decide +kernel) rfl
theorem se_X2_oddsOf : Cond.selects (yn m_X2_oddsOf).cls (yn m_X2_oddsOf) (yn m_X2_oddsOf) ∈ TB := tzc_4 111 (by decide +kernel) rfl
theorem in_X2_oddsOf : Cond.initialized (yn m_X2_oddsOf).cls ∈ TB := tw_9
theorem cw_X2_oddsWith : Cond.code (yn m_X2_oddsWith) (yc m_X2_oddsWith) (yl m_X2_oddsWith) (yr m_X2_oddsWith) ∈ TB := tzc_4 147 (by decide +kernel) rfl
theorem im_X2_oddsWith : Cond.instanceMethod (yn m_X2_oddsWith) ∈ TB := tzc_4 145 (by decide +kernel) rfl
theorem se_X2_oddsWith : Cond.selects (yn m_X2_oddsWith).cls (yn m_X2_oddsWith) (yn m_X2_oddsWith) ∈ TB := tzc_4 146 (by decide +kernel) rfl
theorem in_X2_oddsWith : Cond.initialized (yn m_X2_oddsWith).cls ∈ TB := tw_9
theorem cw_X2_howMuchTells : Cond.code (yn m_X2_howMuchTells) (yc m_X2_howMuchTells) (yl m_X2_howMuchTells) (yr m_X2_howMuchTells) ∈ TB := tzc_4 155 (by decide +kernel) rfl
theorem im_X2_howMuchTells : Cond.instanceMethod (yn m_X2_howMuchTells) ∈ TB := tzc_4 153 (by decide +kernel) rfl
theorem se_X2_howMuchTells : Cond.selects (yn m_X2_howMuchTells).cls (yn m_X2_howMuchTells) (yn m_X2_howMuchTells) ∈ TB := tzc_4 154 (by decide +kernel) rfl
theorem in_X2_howMuchTells : Cond.initialized (yn m_X2_howMuchTells).cls ∈ TB := tw_9
theorem cw_X2_nextSign : Cond.code (yn m_X2_nextSign) (yc m_X2_nextSign) (yl m_X2_nextSign) (yr m_X2_nextSign) ∈ TB := tzc_4 175 (by decide +kernel) rfl
theorem im_X2_nextSign : Cond.instanceMethod (yn m_X2_nextSign) ∈ TB := tzc_4 173 (by decide +kernel) rfl
theorem se_X2_nextSign : Cond.selects (yn m_X2_nextSign).cls (yn m_X2_nextSign) (yn m_X2_nextSign) ∈ TB := tzc_4 174 (by decide +kernel) rfl
theorem in_X2_nextSign : Cond.initialized (yn m_X2_nextSign).cls ∈ TB := tw_9
theorem cw_X2_share : Cond.code (yn m_X2_share) (yc m_X2_share) (yl m_X2_share) (yr m_X2_share) ∈ TB := tzc_4 139 (by decide +kernel) rfl
theorem im_X2_share : Cond.instanceMethod (yn m_X2_share) ∈ TB := tzc_4 138 (by decide +kernel) rfl
theorem se_X2_share : Cond.selects (yn m_X2_share).cls (yn m_X2_share) (yn m_X2_share) ∈ TB := tb_sel 24 (by decide +kernel) rfl
theorem in_X2_share : Cond.initialized (yn m_X2_share).cls ∈ TB := tw_9
theorem cw_X2_weighAll : Cond.code (yn m_X2_weighAll) (yc m_X2_weighAll) (yl m_X2_weighAll) (yr m_X2_weighAll) ∈ TB := tzc_4 116 (by decide +kernel) rfl
theorem im_X2_weighAll : Cond.instanceMethod (yn m_X2_weighAll) ∈ TB := tzc_4 115 (by decide +kernel) rfl
theorem se_X2_weighAll : Cond.selects (yn m_X2_weighAll).cls (yn m_X2_weighAll) (yn m_X2_weighAll) ∈ TB := tb_sel 20 (by decide +kernel) rfl
theorem in_X2_weighAll : Cond.initialized (yn m_X2_weighAll).cls ∈ TB := tw_9
theorem cw_X2_weightOf : Cond.code (yn m_X2_weightOf) (yc m_X2_weightOf) (yl m_X2_weightOf) (yr m_X2_weightOf) ∈ TB := tzc_4 120 (by decide +kernel) rfl
theorem im_X2_weightOf : Cond.instanceMethod (yn m_X2_weightOf) ∈ TB := tzc_4 119 (by decide +kernel) rfl
theorem se_X2_weightOf : Cond.selects (yn m_X2_weightOf).cls (yn m_X2_weightOf) (yn m_X2_weightOf) ∈ TB := tb_sel 21 (by decide +kernel) rfl
theorem in_X2_weightOf : Cond.initialized (yn m_X2_weightOf).cls ∈ TB := tw_9
theorem cw_X2_halvings : Cond.code (yn m_X2_halvings) (yc m_X2_halvings) (yl m_X2_halvings) (yr m_X2_halvings) ∈ TB := tzc_4 126 (by decide +kernel) rfl
theorem im_X2_halvings : Cond.instanceMethod (yn m_X2_halvings) ∈ TB := tzc_4 125 (by decide +kernel) rfl
theorem se_X2_halvings : Cond.selects (yn m_X2_halvings).cls (yn m_X2_halvings) (yn m_X2_halvings) ∈ TB := tb_sel 22 (by decide +kernel) rfl
theorem in_X2_halvings : Cond.initialized (yn m_X2_halvings).cls ∈ TB := tw_9
theorem cw_X2_exactOf : Cond.code (yn m_X2_exactOf) (yc m_X2_exactOf) (yl m_X2_exactOf) (yr m_X2_exactOf) ∈ TB := tzc_4 134 (by decide +kernel) rfl
theorem im_X2_exactOf : Cond.instanceMethod (yn m_X2_exactOf) ∈ TB := tzc_4 133 (by decide +kernel) rfl
theorem se_X2_exactOf : Cond.selects (yn m_X2_exactOf).cls (yn m_X2_exactOf) (yn m_X2_exactOf) ∈ TB := tb_sel 23 (by decide +kernel) rfl
theorem in_X2_exactOf : Cond.initialized (yn m_X2_exactOf).cls ∈ TB := tw_9
theorem cw_X2_tellingBy : Cond.code (yn m_X2_tellingBy) (yc m_X2_tellingBy) (yl m_X2_tellingBy) (yr m_X2_tellingBy) ∈ TB := tzc_4 159 (by decide +kernel) rfl
theorem im_X2_tellingBy : Cond.instanceMethod (yn m_X2_tellingBy) ∈ TB := tzc_4 158 (by decide +kernel) rfl
theorem se_X2_tellingBy : Cond.selects (yn m_X2_tellingBy).cls (yn m_X2_tellingBy) (yn m_X2_tellingBy) ∈ TB := tb_sel 25 (by decide +kernel) rfl
theorem in_X2_tellingBy : Cond.initialized (yn m_X2_tellingBy).cls ∈ TB := tw_9
theorem cw_X2_isFirstOfClass : Cond.code (yn m_X2_isFirstOfClass) (yc m_X2_isFirstOfClass) (yl m_X2_isFirstOfClass) (yr m_X2_isFirstOfClass) ∈ TB := tzc_4 163 (by decide +kernel) rfl
theorem im_X2_isFirstOfClass : Cond.instanceMethod (yn m_X2_isFirstOfClass) ∈ TB := tzc_4 162 (by decide +kernel) rfl
theorem se_X2_isFirstOfClass : Cond.selects (yn m_X2_isFirstOfClass).cls (yn m_X2_isFirstOfClass) (yn m_X2_isFirstOfClass) ∈ TB := tb_sel 26 (by decide +kernel) rfl
theorem in_X2_isFirstOfClass : Cond.initialized (yn m_X2_isFirstOfClass).cls ∈ TB := tw_9
theorem cw_X2_weightOfClass : Cond.code (yn m_X2_weightOfClass) (yc m_X2_weightOfClass) (yl m_X2_weightOfClass) (yr m_X2_weightOfClass) ∈ TB := tzc_4 167 (by decide +kernel) rfl
theorem im_X2_weightOfClass : Cond.instanceMethod (yn m_X2_weightOfClass) ∈ TB := tzc_4 166 (by decide +kernel) rfl
theorem se_X2_weightOfClass : Cond.selects (yn m_X2_weightOfClass).cls (yn m_X2_weightOfClass) (yn m_X2_weightOfClass) ∈ TB := tb_sel 27 (by decide +kernel) rfl
theorem in_X2_weightOfClass : Cond.initialized (yn m_X2_weightOfClass).cls ∈ TB := tw_9
theorem cw_X3_init : Cond.code (yn m_X3_init) (yc m_X3_init) (yl m_X3_init) (yr m_X3_init) ∈ TB := tzc_1 98 (by decide +kernel) rfl
theorem tw_5 : (Cond.initialized "ColdBox$Openings") ∈ TB := tzc_1 5 (by decide +kernel) rfl
theorem im_X3_init : Cond.instanceMethod (yn m_X3_init) ∈ TB := tzc_1 97 (by decide +kernel) rfl
theorem in_X3_init : Cond.initialized (yn m_X3_init).cls ∈ TB := tw_5
theorem cw_X3_copyFrom : Cond.code (yn m_X3_copyFrom) (yc m_X3_copyFrom) (yl m_X3_copyFrom) (yr m_X3_copyFrom) ∈ TB := tzc_3 73 (by decide +kernel) rfl
theorem im_X3_copyFrom : Cond.instanceMethod (yn m_X3_copyFrom) ∈ TB := tzc_3 71 (by decide +kernel) rfl
theorem se_X3_copyFrom : Cond.selects (yn m_X3_copyFrom).cls (yn m_X3_copyFrom) (yn m_X3_copyFrom) ∈ TB := tzc_3 72 (by decide +kernel) rfl
theorem in_X3_copyFrom : Cond.initialized (yn m_X3_copyFrom).cls ∈ TB := tw_5
theorem cw_X3_isOpenIn : Cond.code (yn m_X3_isOpenIn) (yc m_X3_isOpenIn) (yl m_X3_isOpenIn) (yr m_X3_isOpenIn) ∈ TB := tzc_3 172 (by decide +kernel) rfl
theorem im_X3_isOpenIn : Cond.instanceMethod (yn m_X3_isOpenIn) ∈ TB := tzc_3 170 (by decide +kernel) rfl
theorem se_X3_isOpenIn : Cond.selects (yn m_X3_isOpenIn).cls (yn m_X3_isOpenIn) (yn m_X3_isOpenIn) ∈ TB := tzc_3 171 (by decide +kernel) rfl
theorem in_X3_isOpenIn : Cond.initialized (yn m_X3_isOpenIn).cls ∈ TB := tw_5
theorem cw_X4_init : Cond.code (yn m_X4_init) (yc m_X4_init) (yl m_X4_init) (yr m_X4_init) ∈ TB := tzc_2 42 (by decide +kernel) rfl
theorem tw_11 : (Cond.initialized "ColdBox$Purse") ∈ TB := tzc_1 11 (by decide +kernel) rfl
theorem im_X4_init : Cond.instanceMethod (yn m_X4_init) ∈ TB := tzc_2 41 (by decide +kernel) rfl
theorem in_X4_init : Cond.initialized (yn m_X4_init).cls ∈ TB := tw_11
theorem cw_X4_yearOf : Cond.code (yn m_X4_yearOf) (yc m_X4_yearOf) (yl m_X4_yearOf) (yr m_X4_yearOf) ∈ TB := tzc_4 202 (by decide +kernel) rfl
theorem im_X4_yearOf : Cond.instanceMethod (yn m_X4_yearOf) ∈ TB := tzc_4 200 (by decide +kernel) rfl
theorem se_X4_yearOf : Cond.selects (yn m_X4_yearOf).cls (yn m_X4_yearOf) (yn m_X4_yearOf) ∈ TB := tzc_4 201 (by decide +kernel) rfl
theorem in_X4_yearOf : Cond.initialized (yn m_X4_yearOf).cls ∈ TB := tw_11
theorem cw_X4_yearByUse : Cond.code (yn m_X4_yearByUse) (yc m_X4_yearByUse) (yl m_X4_yearByUse) (yr m_X4_yearByUse) ∈ TB := tzc_4 207 (by decide +kernel) rfl
theorem im_X4_yearByUse : Cond.instanceMethod (yn m_X4_yearByUse) ∈ TB := tzc_4 206 (by decide +kernel) rfl
theorem se_X4_yearByUse : Cond.selects (yn m_X4_yearByUse).cls (yn m_X4_yearByUse) (yn m_X4_yearByUse) ∈ TB := tb_sel 28 (by decide +kernel) rfl
theorem in_X4_yearByUse : Cond.initialized (yn m_X4_yearByUse).cls ∈ TB := tw_11
theorem cw_X4_saved : Cond.code (yn m_X4_saved) (yc m_X4_saved) (yl m_X4_saved) (yr m_X4_saved) ∈ TB := tzc_4 221 (by decide +kernel) rfl
theorem im_X4_saved : Cond.instanceMethod (yn m_X4_saved) ∈ TB := tzc_4 219 (by decide +kernel) rfl
theorem se_X4_saved : Cond.selects (yn m_X4_saved).cls (yn m_X4_saved) (yn m_X4_saved) ∈ TB := tzc_4 220 (by decide +kernel) rfl
theorem in_X4_saved : Cond.initialized (yn m_X4_saved).cls ∈ TB := tw_11
theorem cw_X4_costOf : Cond.code (yn m_X4_costOf) (yc m_X4_costOf) (yl m_X4_costOf) (yr m_X4_costOf) ∈ TB := tzc_4 239 (by decide +kernel) rfl
theorem im_X4_costOf : Cond.instanceMethod (yn m_X4_costOf) ∈ TB := tzc_4 237 (by decide +kernel) rfl
theorem se_X4_costOf : Cond.selects (yn m_X4_costOf).cls (yn m_X4_costOf) (yn m_X4_costOf) ∈ TB := tzc_4 238 (by decide +kernel) rfl
theorem in_X4_costOf : Cond.initialized (yn m_X4_costOf).cls ∈ TB := tw_11
theorem cw_X4_bestPart : Cond.code (yn m_X4_bestPart) (yc m_X4_bestPart) (yl m_X4_bestPart) (yr m_X4_bestPart) ∈ TB := tzc_4 235 (by decide +kernel) rfl
theorem im_X4_bestPart : Cond.instanceMethod (yn m_X4_bestPart) ∈ TB := tzc_4 233 (by decide +kernel) rfl
theorem se_X4_bestPart : Cond.selects (yn m_X4_bestPart).cls (yn m_X4_bestPart) (yn m_X4_bestPart) ∈ TB := tzc_4 234 (by decide +kernel) rfl
theorem in_X4_bestPart : Cond.initialized (yn m_X4_bestPart).cls ∈ TB := tw_11
theorem cw_X4_yearsToPay : Cond.code (yn m_X4_yearsToPay) (yc m_X4_yearsToPay) (yl m_X4_yearsToPay) (yr m_X4_yearsToPay) ∈ TB := tzc_5 10 (by decide +kernel) rfl
theorem im_X4_yearsToPay : Cond.instanceMethod (yn m_X4_yearsToPay) ∈ TB := tzc_5 8 (by decide +kernel) rfl
theorem se_X4_yearsToPay : Cond.selects (yn m_X4_yearsToPay).cls (yn m_X4_yearsToPay) (yn m_X4_yearsToPay) ∈ TB := tzc_5 9 (by decide +kernel) rfl
theorem in_X4_yearsToPay : Cond.initialized (yn m_X4_yearsToPay).cls ∈ TB := tw_11
theorem cw_X4_bestThawing : Cond.code (yn m_X4_bestThawing) (yc m_X4_bestThawing) (yl m_X4_bestThawing) (yr m_X4_bestThawing) ∈ TB := tzc_5 18 (by decide +kernel) rfl
theorem im_X4_bestThawing : Cond.instanceMethod (yn m_X4_bestThawing) ∈ TB := tzc_5 16 (by decide +kernel) rfl
theorem se_X4_bestThawing : Cond.selects (yn m_X4_bestThawing).cls (yn m_X4_bestThawing) (yn m_X4_bestThawing) ∈ TB := tzc_5 17 (by decide +kernel) rfl
theorem in_X4_bestThawing : Cond.initialized (yn m_X4_bestThawing).cls ∈ TB := tw_11
theorem cw_X5_init : Cond.code (yn m_X5_init) (yc m_X5_init) (yl m_X5_init) (yr m_X5_init) ∈ TB := tzc_1 32 (by decide +kernel) rfl
theorem tw_2 : (Cond.initialized "ColdBox$Reader") ∈ TB := tzc_1 2 (by decide +kernel) rfl
theorem im_X5_init : Cond.instanceMethod (yn m_X5_init) ∈ TB := tzc_1 31 (by decide +kernel) rfl
theorem in_X5_init : Cond.initialized (yn m_X5_init).cls ∈ TB := tw_2
theorem cw_X5_append : Cond.code (yn m_X5_append) (yc m_X5_append) (yl m_X5_append) (yr m_X5_append) ∈ TB := tzc_2 160 (by decide +kernel) rfl
theorem im_X5_append : Cond.instanceMethod (yn m_X5_append) ∈ TB := tzc_2 158 (by decide +kernel) rfl
theorem se_X5_append : Cond.selects (yn m_X5_append).cls (yn m_X5_append) (yn m_X5_append) ∈ TB := tzc_2 159 (by decide +kernel) rfl
theorem in_X5_append : Cond.initialized (yn m_X5_append).cls ∈ TB := tw_2
theorem cw_X5_readBox : Cond.code (yn m_X5_readBox) (yc m_X5_readBox) (yl m_X5_readBox) (yr m_X5_readBox) ∈ TB := tzc_2 170 (by decide +kernel) rfl
theorem im_X5_readBox : Cond.instanceMethod (yn m_X5_readBox) ∈ TB := tzc_2 168 (by decide +kernel) rfl
theorem se_X5_readBox : Cond.selects (yn m_X5_readBox).cls (yn m_X5_readBox) (yn m_X5_readBox) ∈ TB := tzc_2 169 (by decide +kernel) rfl
theorem in_X5_readBox : Cond.initialized (yn m_X5_readBox).cls ∈ TB := tw_2
theorem cw_X5_readDay : Cond.code (yn m_X5_readDay) (yc m_X5_readDay) (yl m_X5_readDay) (yr m_X5_readDay) ∈ TB := tzc_3 64 (by decide +kernel) rfl
theorem im_X5_readDay : Cond.instanceMethod (yn m_X5_readDay) ∈ TB := tzc_3 62 (by decide +kernel) rfl
theorem se_X5_readDay : Cond.selects (yn m_X5_readDay).cls (yn m_X5_readDay) (yn m_X5_readDay) ∈ TB := tzc_3 63 (by decide +kernel) rfl
theorem in_X5_readDay : Cond.initialized (yn m_X5_readDay).cls ∈ TB := tw_2
theorem cw_X5_begin : Cond.code (yn m_X5_begin) (yc m_X5_begin) (yl m_X5_begin) (yr m_X5_begin) ∈ TB := tzc_2 174 (by decide +kernel) rfl
theorem im_X5_begin : Cond.instanceMethod (yn m_X5_begin) ∈ TB := tzc_2 173 (by decide +kernel) rfl
theorem se_X5_begin : Cond.selects (yn m_X5_begin).cls (yn m_X5_begin) (yn m_X5_begin) ∈ TB := tb_sel 0 (by decide +kernel) rfl
theorem in_X5_begin : Cond.initialized (yn m_X5_begin).cls ∈ TB := tw_2
theorem cw_X5_readClause : Cond.code (yn m_X5_readClause) (yc m_X5_readClause) (yl m_X5_readClause) (yr m_X5_readClause) ∈ TB := tzc_2 184 (by decide +kernel) rfl
theorem im_X5_readClause : Cond.instanceMethod (yn m_X5_readClause) ∈ TB := tzc_2 183 (by decide +kernel) rfl
theorem se_X5_readClause : Cond.selects (yn m_X5_readClause).cls (yn m_X5_readClause) (yn m_X5_readClause) ∈ TB := tb_sel 2 (by decide +kernel) rfl
theorem in_X5_readClause : Cond.initialized (yn m_X5_readClause).cls ∈ TB := tw_2
theorem cw_X5_readClauseNumbers : Cond.code (yn m_X5_readClauseNumbers) (yc m_X5_readClauseNumbers) (yl m_X5_readClauseNumbers) (yr m_X5_readClauseNumbers) ∈ TB := tzc_3 31 (by decide +kernel) rfl
theorem im_X5_readClauseNumbers : Cond.instanceMethod (yn m_X5_readClauseNumbers) ∈ TB := tzc_3 30 (by decide +kernel) rfl
theorem se_X5_readClauseNumbers : Cond.selects (yn m_X5_readClauseNumbers).cls (yn m_X5_readClauseNumbers) (yn m_X5_readClauseNumbers) ∈ TB := tb_sel 7 (by decide +kernel) rfl
theorem in_X5_readClauseNumbers : Cond.initialized (yn m_X5_readClauseNumbers).cls ∈ TB := tw_2
theorem cw_X5_readOpening : Cond.code (yn m_X5_readOpening) (yc m_X5_readOpening) (yl m_X5_readOpening) (yr m_X5_readOpening) ∈ TB := tzc_3 68 (by decide +kernel) rfl
theorem im_X5_readOpening : Cond.instanceMethod (yn m_X5_readOpening) ∈ TB := tzc_3 67 (by decide +kernel) rfl
theorem se_X5_readOpening : Cond.selects (yn m_X5_readOpening).cls (yn m_X5_readOpening) (yn m_X5_readOpening) ∈ TB := tb_sel 10 (by decide +kernel) rfl
theorem in_X5_readOpening : Cond.initialized (yn m_X5_readOpening).cls ∈ TB := tw_2
theorem cw_X5_readClauseEnd : Cond.code (yn m_X5_readClauseEnd) (yc m_X5_readClauseEnd) (yl m_X5_readClauseEnd) (yr m_X5_readClauseEnd) ∈ TB := tzc_3 46 (by decide +kernel) rfl
theorem im_X5_readClauseEnd : Cond.instanceMethod (yn m_X5_readClauseEnd) ∈ TB := tzc_3 45 (by decide +kernel) rfl
theorem se_X5_readClauseEnd : Cond.selects (yn m_X5_readClauseEnd).cls (yn m_X5_readClauseEnd) (yn m_X5_readClauseEnd) ∈ TB := tb_sel 9 (by decide +kernel) rfl
theorem in_X5_readClauseEnd : Cond.initialized (yn m_X5_readClauseEnd).cls ∈ TB := tw_2
theorem cw_X5_readNumber : Cond.code (yn m_X5_readNumber) (yc m_X5_readNumber) (yl m_X5_readNumber) (yr m_X5_readNumber) ∈ TB := tzc_3 39 (by decide +kernel) rfl
theorem im_X5_readNumber : Cond.instanceMethod (yn m_X5_readNumber) ∈ TB := tzc_3 38 (by decide +kernel) rfl
theorem se_X5_readNumber : Cond.selects (yn m_X5_readNumber).cls (yn m_X5_readNumber) (yn m_X5_readNumber) ∈ TB := tb_sel 8 (by decide +kernel) rfl
theorem in_X5_readNumber : Cond.initialized (yn m_X5_readNumber).cls ∈ TB := tw_2
theorem cw_X5_readWord : Cond.code (yn m_X5_readWord) (yc m_X5_readWord) (yl m_X5_readWord) (yr m_X5_readWord) ∈ TB := tzc_2 188 (by decide +kernel) rfl
theorem im_X5_readWord : Cond.instanceMethod (yn m_X5_readWord) ∈ TB := tzc_2 187 (by decide +kernel) rfl
theorem se_X5_readWord : Cond.selects (yn m_X5_readWord).cls (yn m_X5_readWord) (yn m_X5_readWord) ∈ TB := tb_sel 3 (by decide +kernel) rfl
theorem in_X5_readWord : Cond.initialized (yn m_X5_readWord).cls ∈ TB := tw_2
theorem cw_X5_skipBlanks : Cond.code (yn m_X5_skipBlanks) (yc m_X5_skipBlanks) (yl m_X5_skipBlanks) (yr m_X5_skipBlanks) ∈ TB := tzc_2 178 (by decide +kernel) rfl
theorem im_X5_skipBlanks : Cond.instanceMethod (yn m_X5_skipBlanks) ∈ TB := tzc_2 177 (by decide +kernel) rfl
theorem se_X5_skipBlanks : Cond.selects (yn m_X5_skipBlanks).cls (yn m_X5_skipBlanks) (yn m_X5_skipBlanks) ∈ TB := tb_sel 1 (by decide +kernel) rfl
theorem in_X5_skipBlanks : Cond.initialized (yn m_X5_skipBlanks).cls ∈ TB := tw_2
theorem cw_X5_clauseFrom : Cond.code (yn m_X5_clauseFrom) (yc m_X5_clauseFrom) (yl m_X5_clauseFrom) (yr m_X5_clauseFrom) ∈ TB := tzc_2 195 (by decide +kernel) rfl
theorem im_X5_clauseFrom : Cond.instanceMethod (yn m_X5_clauseFrom) ∈ TB := tzc_2 194 (by decide +kernel) rfl
theorem se_X5_clauseFrom : Cond.selects (yn m_X5_clauseFrom).cls (yn m_X5_clauseFrom) (yn m_X5_clauseFrom) ∈ TB := tb_sel 4 (by decide +kernel) rfl
theorem in_X5_clauseFrom : Cond.initialized (yn m_X5_clauseFrom).cls ∈ TB := tw_2
theorem cw_X5_isWord : Cond.code (yn m_X5_isWord) (yc m_X5_isWord) (yl m_X5_isWord) (yr m_X5_isWord) ∈ TB := tzc_2 215 (by decide +kernel) rfl
theorem im_X5_isWord : Cond.instanceMethod (yn m_X5_isWord) ∈ TB := tzc_2 214 (by decide +kernel) rfl
theorem se_X5_isWord : Cond.selects (yn m_X5_isWord).cls (yn m_X5_isWord) (yn m_X5_isWord) ∈ TB := tb_sel 5 (by decide +kernel) rfl
theorem in_X5_isWord : Cond.initialized (yn m_X5_isWord).cls ∈ TB := tw_2
theorem cw_X5_faultAt : Cond.code (yn m_X5_faultAt) (yc m_X5_faultAt) (yl m_X5_faultAt) (yr m_X5_faultAt) ∈ TB := tzc_3 27 (by decide +kernel) rfl
theorem im_X5_faultAt : Cond.instanceMethod (yn m_X5_faultAt) ∈ TB := tzc_3 26 (by decide +kernel) rfl
theorem se_X5_faultAt : Cond.selects (yn m_X5_faultAt).cls (yn m_X5_faultAt) (yn m_X5_faultAt) ∈ TB := tb_sel 6 (by decide +kernel) rfl
theorem in_X5_faultAt : Cond.initialized (yn m_X5_faultAt).cls ∈ TB := tw_2
theorem cw_X5_isFigure : Cond.code (yn m_X5_isFigure) (yc m_X5_isFigure) (yl m_X5_isFigure) (yr m_X5_isFigure) ∈ TB := tzc_3 42 (by decide +kernel) rfl
theorem im_X5_isFigure : Cond.static (yn m_X5_isFigure) ∈ TB := tzc_3 41 (by decide +kernel) rfl
theorem in_X5_isFigure : Cond.initialized (yn m_X5_isFigure).cls ∈ TB := tw_2
theorem cw_X5_isLetter : Cond.code (yn m_X5_isLetter) (yc m_X5_isLetter) (yl m_X5_isLetter) (yr m_X5_isLetter) ∈ TB := tzc_2 191 (by decide +kernel) rfl
theorem im_X5_isLetter : Cond.static (yn m_X5_isLetter) ∈ TB := tzc_2 190 (by decide +kernel) rfl
theorem in_X5_isLetter : Cond.initialized (yn m_X5_isLetter).cls ∈ TB := tw_2
theorem cw_X5_wordOf : Cond.code (yn m_X5_wordOf) (yc m_X5_wordOf) (yl m_X5_wordOf) (yr m_X5_wordOf) ∈ TB := tzc_2 198 (by decide +kernel) rfl
theorem im_X5_wordOf : Cond.static (yn m_X5_wordOf) ∈ TB := tzc_2 197 (by decide +kernel) rfl
theorem in_X5_wordOf : Cond.initialized (yn m_X5_wordOf).cls ∈ TB := tw_2
theorem cw_X6_init : Cond.code (yn m_X6_init) (yc m_X6_init) (yl m_X6_init) (yr m_X6_init) ∈ TB := tzc_1 143 (by decide +kernel) rfl
theorem tw_7 : (Cond.initialized "ColdBox$State") ∈ TB := tzc_1 7 (by decide +kernel) rfl
theorem im_X6_init : Cond.instanceMethod (yn m_X6_init) ∈ TB := tzc_1 142 (by decide +kernel) rfl
theorem in_X6_init : Cond.initialized (yn m_X6_init).cls ∈ TB := tw_7
theorem cw_X6_becomeFresh : Cond.code (yn m_X6_becomeFresh) (yc m_X6_becomeFresh) (yl m_X6_becomeFresh) (yr m_X6_becomeFresh) ∈ TB := tzc_2 101 (by decide +kernel) rfl
theorem im_X6_becomeFresh : Cond.instanceMethod (yn m_X6_becomeFresh) ∈ TB := tzc_2 99 (by decide +kernel) rfl
theorem se_X6_becomeFresh : Cond.selects (yn m_X6_becomeFresh).cls (yn m_X6_becomeFresh) (yn m_X6_becomeFresh) ∈ TB := tzc_2 100 (by decide +kernel) rfl
theorem in_X6_becomeFresh : Cond.initialized (yn m_X6_becomeFresh).cls ∈ TB := tw_7
theorem cw_X6_copyFrom : Cond.code (yn m_X6_copyFrom) (yc m_X6_copyFrom) (yl m_X6_copyFrom) (yr m_X6_copyFrom) ∈ TB := tzc_5 36 (by decide +kernel) rfl
theorem im_X6_copyFrom : Cond.instanceMethod (yn m_X6_copyFrom) ∈ TB := tzc_5 34 (by decide +kernel) rfl
theorem se_X6_copyFrom : Cond.selects (yn m_X6_copyFrom).cls (yn m_X6_copyFrom) (yn m_X6_copyFrom) ∈ TB := tzc_5 35 (by decide +kernel) rfl
theorem in_X6_copyFrom : Cond.initialized (yn m_X6_copyFrom).cls ∈ TB := tw_7
theorem cw_X6_has : Cond.code (yn m_X6_has) (yc m_X6_has) (yl m_X6_has) (yr m_X6_has) ∈ TB := tzc_2 111 (by decide +kernel) rfl
theorem im_X6_has : Cond.instanceMethod (yn m_X6_has) ∈ TB := tzc_2 109 (by decide +kernel) rfl
theorem se_X6_has : Cond.selects (yn m_X6_has).cls (yn m_X6_has) (yn m_X6_has) ∈ TB := tzc_2 110 (by decide +kernel) rfl
theorem in_X6_has : Cond.initialized (yn m_X6_has).cls ∈ TB := tw_7
theorem cw_X6_warmthOf : Cond.code (yn m_X6_warmthOf) (yc m_X6_warmthOf) (yl m_X6_warmthOf) (yr m_X6_warmthOf) ∈ TB := tzc_3 139 (by decide +kernel) rfl
theorem im_X6_warmthOf : Cond.instanceMethod (yn m_X6_warmthOf) ∈ TB := tzc_3 137 (by decide +kernel) rfl
theorem se_X6_warmthOf : Cond.selects (yn m_X6_warmthOf).cls (yn m_X6_warmthOf) (yn m_X6_warmthOf) ∈ TB := tzc_3 138 (by decide +kernel) rfl
theorem in_X6_warmthOf : Cond.initialized (yn m_X6_warmthOf).cls ∈ TB := tw_7
theorem cw_X6_tickOfDay : Cond.code (yn m_X6_tickOfDay) (yc m_X6_tickOfDay) (yl m_X6_tickOfDay) (yr m_X6_tickOfDay) ∈ TB := tzc_3 168 (by decide +kernel) rfl
theorem im_X6_tickOfDay : Cond.instanceMethod (yn m_X6_tickOfDay) ∈ TB := tzc_3 166 (by decide +kernel) rfl
theorem se_X6_tickOfDay : Cond.selects (yn m_X6_tickOfDay).cls (yn m_X6_tickOfDay) (yn m_X6_tickOfDay) ∈ TB := tzc_3 167 (by decide +kernel) rfl
theorem in_X6_tickOfDay : Cond.initialized (yn m_X6_tickOfDay).cls ∈ TB := tw_7
theorem cw_X6_allHeat : Cond.code (yn m_X6_allHeat) (yc m_X6_allHeat) (yl m_X6_allHeat) (yr m_X6_allHeat) ∈ TB := tzc_4 19 (by decide +kernel) rfl
theorem im_X6_allHeat : Cond.instanceMethod (yn m_X6_allHeat) ∈ TB := tzc_4 17 (by decide +kernel) rfl
theorem se_X6_allHeat : Cond.selects (yn m_X6_allHeat).cls (yn m_X6_allHeat) (yn m_X6_allHeat) ∈ TB := tzc_4 18 (by decide +kernel) rfl
theorem in_X6_allHeat : Cond.initialized (yn m_X6_allHeat).cls ∈ TB := tw_7
theorem cw_X6_hasFood : Cond.code (yn m_X6_hasFood) (yc m_X6_hasFood) (yl m_X6_hasFood) (yr m_X6_hasFood) ∈ TB := tzc_3 135 (by decide +kernel) rfl
theorem im_X6_hasFood : Cond.instanceMethod (yn m_X6_hasFood) ∈ TB := tzc_3 133 (by decide +kernel) rfl
theorem se_X6_hasFood : Cond.selects (yn m_X6_hasFood).cls (yn m_X6_hasFood) (yn m_X6_hasFood) ∈ TB := tzc_3 134 (by decide +kernel) rfl
theorem in_X6_hasFood : Cond.initialized (yn m_X6_hasFood).cls ∈ TB := tw_7
theorem cw_X6_firstNotThere : Cond.code (yn m_X6_firstNotThere) (yc m_X6_firstNotThere) (yl m_X6_firstNotThere) (yr m_X6_firstNotThere) ∈ TB := tzc_3 123 (by decide +kernel) rfl
theorem im_X6_firstNotThere : Cond.instanceMethod (yn m_X6_firstNotThere) ∈ TB := tzc_3 121 (by decide +kernel) rfl
theorem se_X6_firstNotThere : Cond.selects (yn m_X6_firstNotThere).cls (yn m_X6_firstNotThere) (yn m_X6_firstNotThere) ∈ TB := tzc_3 122 (by decide +kernel) rfl
theorem in_X6_firstNotThere : Cond.initialized (yn m_X6_firstNotThere).cls ∈ TB := tw_7
theorem cw_X6_foodsThere : Cond.code (yn m_X6_foodsThere) (yc m_X6_foodsThere) (yl m_X6_foodsThere) (yr m_X6_foodsThere) ∈ TB := tzc_4 27 (by decide +kernel) rfl
theorem im_X6_foodsThere : Cond.instanceMethod (yn m_X6_foodsThere) ∈ TB := tzc_4 25 (by decide +kernel) rfl
theorem se_X6_foodsThere : Cond.selects (yn m_X6_foodsThere).cls (yn m_X6_foodsThere) (yn m_X6_foodsThere) ∈ TB := tzc_4 26 (by decide +kernel) rfl
theorem in_X6_foodsThere : Cond.initialized (yn m_X6_foodsThere).cls ∈ TB := tw_7
theorem cw_X6_addFood : Cond.code (yn m_X6_addFood) (yc m_X6_addFood) (yl m_X6_addFood) (yr m_X6_addFood) ∈ TB := tzc_3 127 (by decide +kernel) rfl
theorem im_X6_addFood : Cond.instanceMethod (yn m_X6_addFood) ∈ TB := tzc_3 125 (by decide +kernel) rfl
theorem se_X6_addFood : Cond.selects (yn m_X6_addFood).cls (yn m_X6_addFood) (yn m_X6_addFood) ∈ TB := tzc_3 126 (by decide +kernel) rfl
theorem in_X6_addFood : Cond.initialized (yn m_X6_addFood).cls ∈ TB := tw_7
theorem cw_X6_removeFood : Cond.code (yn m_X6_removeFood) (yc m_X6_removeFood) (yl m_X6_removeFood) (yr m_X6_removeFood) ∈ TB := tzc_3 143 (by decide +kernel) rfl
theorem im_X6_removeFood : Cond.instanceMethod (yn m_X6_removeFood) ∈ TB := tzc_3 141 (by decide +kernel) rfl
theorem se_X6_removeFood : Cond.selects (yn m_X6_removeFood).cls (yn m_X6_removeFood) (yn m_X6_removeFood) ∈ TB := tzc_3 142 (by decide +kernel) rfl
theorem in_X6_removeFood : Cond.initialized (yn m_X6_removeFood).cls ∈ TB := tw_7
theorem cw_X6_isWithin : Cond.code (yn m_X6_isWithin) (yc m_X6_isWithin) (yl m_X6_isWithin) (yr m_X6_isWithin) ∈ TB := tzc_3 155 (by decide +kernel) rfl
theorem im_X6_isWithin : Cond.instanceMethod (yn m_X6_isWithin) ∈ TB := tzc_3 153 (by decide +kernel) rfl
theorem se_X6_isWithin : Cond.selects (yn m_X6_isWithin).cls (yn m_X6_isWithin) (yn m_X6_isWithin) ∈ TB := tzc_3 154 (by decide +kernel) rfl
theorem in_X6_isWithin : Cond.initialized (yn m_X6_isWithin).cls ∈ TB := tw_7
theorem cw_X6_foodsWithin : Cond.code (yn m_X6_foodsWithin) (yc m_X6_foodsWithin) (yl m_X6_foodsWithin) (yr m_X6_foodsWithin) ∈ TB := tzc_5 54 (by decide +kernel) rfl
theorem im_X6_foodsWithin : Cond.instanceMethod (yn m_X6_foodsWithin) ∈ TB := tzc_5 52 (by decide +kernel) rfl
theorem se_X6_foodsWithin : Cond.selects (yn m_X6_foodsWithin).cls (yn m_X6_foodsWithin) (yn m_X6_foodsWithin) ∈ TB := tzc_5 53 (by decide +kernel) rfl
theorem in_X6_foodsWithin : Cond.initialized (yn m_X6_foodsWithin).cls ∈ TB := tw_7
theorem cw_X6_letOffIce : Cond.code (yn m_X6_letOffIce) (yc m_X6_letOffIce) (yl m_X6_letOffIce) (yr m_X6_letOffIce) ∈ TB := tzc_4 35 (by decide +kernel) rfl
theorem im_X6_letOffIce : Cond.instanceMethod (yn m_X6_letOffIce) ∈ TB := tzc_4 33 (by decide +kernel) rfl
theorem se_X6_letOffIce : Cond.selects (yn m_X6_letOffIce).cls (yn m_X6_letOffIce) (yn m_X6_letOffIce) ∈ TB := tzc_4 34 (by decide +kernel) rfl
theorem in_X6_letOffIce : Cond.initialized (yn m_X6_letOffIce).cls ∈ TB := tw_7
theorem cw_X6_draw : Cond.code (yn m_X6_draw) (yc m_X6_draw) (yl m_X6_draw) (yr m_X6_draw) ∈ TB := tzc_4 1 (by decide +kernel) rfl
theorem im_X6_draw : Cond.instanceMethod (yn m_X6_draw) ∈ TB := tzc_3 239 (by decide +kernel) rfl
theorem se_X6_draw : Cond.selects (yn m_X6_draw).cls (yn m_X6_draw) (yn m_X6_draw) ∈ TB := tzc_4 0 (by decide +kernel) rfl
theorem in_X6_draw : Cond.initialized (yn m_X6_draw).cls ∈ TB := tw_7
theorem cw_X7_init : Cond.code (yn m_X7_init) (yc m_X7_init) (yl m_X7_init) (yr m_X7_init) ∈ TB := tzc_1 120 (by decide +kernel) rfl
theorem tw_6 : (Cond.initialized "ColdBox$Ticker") ∈ TB := tzc_1 6 (by decide +kernel) rfl
theorem im_X7_init : Cond.instanceMethod (yn m_X7_init) ∈ TB := tzc_1 119 (by decide +kernel) rfl
theorem in_X7_init : Cond.initialized (yn m_X7_init).cls ∈ TB := tw_6
theorem cw_X7_passByDay : Cond.code (yn m_X7_passByDay) (yc m_X7_passByDay) (yl m_X7_passByDay) (yr m_X7_passByDay) ∈ TB := tzc_3 164 (by decide +kernel) rfl
theorem im_X7_passByDay : Cond.instanceMethod (yn m_X7_passByDay) ∈ TB := tzc_3 162 (by decide +kernel) rfl
theorem se_X7_passByDay : Cond.selects (yn m_X7_passByDay).cls (yn m_X7_passByDay) (yn m_X7_passByDay) ∈ TB := tzc_3 163 (by decide +kernel) rfl
theorem in_X7_passByDay : Cond.initialized (yn m_X7_passByDay).cls ∈ TB := tw_6
theorem cw_X7_pass : Cond.code (yn m_X7_pass) (yc m_X7_pass) (yl m_X7_pass) (yr m_X7_pass) ∈ TB := tzc_3 176 (by decide +kernel) rfl
theorem im_X7_pass : Cond.instanceMethod (yn m_X7_pass) ∈ TB := tzc_3 174 (by decide +kernel) rfl
theorem se_X7_pass : Cond.selects (yn m_X7_pass).cls (yn m_X7_pass) (yn m_X7_pass) ∈ TB := tzc_3 175 (by decide +kernel) rfl
theorem in_X7_pass : Cond.initialized (yn m_X7_pass).cls ∈ TB := tw_6
theorem cw_X7_lookAtWarmths : Cond.code (yn m_X7_lookAtWarmths) (yc m_X7_lookAtWarmths) (yl m_X7_lookAtWarmths) (yr m_X7_lookAtWarmths) ∈ TB := tzc_3 180 (by decide +kernel) rfl
theorem im_X7_lookAtWarmths : Cond.instanceMethod (yn m_X7_lookAtWarmths) ∈ TB := tzc_3 179 (by decide +kernel) rfl
theorem se_X7_lookAtWarmths : Cond.selects (yn m_X7_lookAtWarmths).cls (yn m_X7_lookAtWarmths) (yn m_X7_lookAtWarmths) ∈ TB := tb_sel 11 (by decide +kernel) rfl
theorem in_X7_lookAtWarmths : Cond.initialized (yn m_X7_lookAtWarmths).cls ∈ TB := tw_6
theorem cw_X7_switchMachine : Cond.code (yn m_X7_switchMachine) (yc m_X7_switchMachine) (yl m_X7_switchMachine) (yr m_X7_switchMachine) ∈ TB := tzc_3 195 (by decide +kernel) rfl
theorem im_X7_switchMachine : Cond.instanceMethod (yn m_X7_switchMachine) ∈ TB := tzc_3 194 (by decide +kernel) rfl
theorem se_X7_switchMachine : Cond.selects (yn m_X7_switchMachine).cls (yn m_X7_switchMachine) (yn m_X7_switchMachine) ∈ TB := tb_sel 12 (by decide +kernel) rfl
theorem in_X7_switchMachine : Cond.initialized (yn m_X7_switchMachine).cls ∈ TB := tw_6
theorem cw_X7_exchange : Cond.code (yn m_X7_exchange) (yc m_X7_exchange) (yl m_X7_exchange) (yr m_X7_exchange) ∈ TB := tzc_3 200 (by decide +kernel) rfl
theorem im_X7_exchange : Cond.instanceMethod (yn m_X7_exchange) ∈ TB := tzc_3 199 (by decide +kernel) rfl
theorem se_X7_exchange : Cond.selects (yn m_X7_exchange).cls (yn m_X7_exchange) (yn m_X7_exchange) ∈ TB := tb_sel 13 (by decide +kernel) rfl
theorem in_X7_exchange : Cond.initialized (yn m_X7_exchange).cls ∈ TB := tw_6
theorem cw_X7_flow : Cond.code (yn m_X7_flow) (yc m_X7_flow) (yl m_X7_flow) (yr m_X7_flow) ∈ TB := tzc_3 206 (by decide +kernel) rfl
theorem im_X7_flow : Cond.instanceMethod (yn m_X7_flow) ∈ TB := tzc_3 205 (by decide +kernel) rfl
theorem se_X7_flow : Cond.selects (yn m_X7_flow).cls (yn m_X7_flow) (yn m_X7_flow) ∈ TB := tb_sel 14 (by decide +kernel) rfl
theorem in_X7_flow : Cond.initialized (yn m_X7_flow).cls ∈ TB := tw_6
theorem cw_X7_giveLight : Cond.code (yn m_X7_giveLight) (yc m_X7_giveLight) (yl m_X7_giveLight) (yr m_X7_giveLight) ∈ TB := tzc_3 211 (by decide +kernel) rfl
theorem im_X7_giveLight : Cond.instanceMethod (yn m_X7_giveLight) ∈ TB := tzc_3 210 (by decide +kernel) rfl
theorem se_X7_giveLight : Cond.selects (yn m_X7_giveLight).cls (yn m_X7_giveLight) (yn m_X7_giveLight) ∈ TB := tb_sel 15 (by decide +kernel) rfl
theorem in_X7_giveLight : Cond.initialized (yn m_X7_giveLight).cls ∈ TB := tw_6
theorem cw_X7_moveOut : Cond.code (yn m_X7_moveOut) (yc m_X7_moveOut) (yl m_X7_moveOut) (yr m_X7_moveOut) ∈ TB := tzc_3 220 (by decide +kernel) rfl
theorem im_X7_moveOut : Cond.instanceMethod (yn m_X7_moveOut) ∈ TB := tzc_3 219 (by decide +kernel) rfl
theorem se_X7_moveOut : Cond.selects (yn m_X7_moveOut).cls (yn m_X7_moveOut) (yn m_X7_moveOut) ∈ TB := tb_sel 16 (by decide +kernel) rfl
theorem in_X7_moveOut : Cond.initialized (yn m_X7_moveOut).cls ∈ TB := tw_6
theorem cw_X7_takeWet : Cond.code (yn m_X7_takeWet) (yc m_X7_takeWet) (yl m_X7_takeWet) (yr m_X7_takeWet) ∈ TB := tzc_3 225 (by decide +kernel) rfl
theorem im_X7_takeWet : Cond.instanceMethod (yn m_X7_takeWet) ∈ TB := tzc_3 224 (by decide +kernel) rfl
theorem se_X7_takeWet : Cond.selects (yn m_X7_takeWet).cls (yn m_X7_takeWet) (yn m_X7_takeWet) ∈ TB := tb_sel 17 (by decide +kernel) rfl
theorem in_X7_takeWet : Cond.initialized (yn m_X7_takeWet).cls ∈ TB := tw_6
theorem cw_X8_init : Cond.code (yn m_X8_init) (yc m_X8_init) (yl m_X8_init) (yr m_X8_init) ∈ TB := tzc_2 61 (by decide +kernel) rfl
theorem tw_12 : (Cond.initialized "ColdBox$Trials") ∈ TB := tzc_1 12 (by decide +kernel) rfl
theorem im_X8_init : Cond.instanceMethod (yn m_X8_init) ∈ TB := tzc_2 60 (by decide +kernel) rfl
theorem in_X8_init : Cond.initialized (yn m_X8_init).cls ∈ TB := tw_12
theorem cw_X8_findBestRow : Cond.code (yn m_X8_findBestRow) (yc m_X8_findBestRow) (yl m_X8_findBestRow) (yr m_X8_findBestRow) ∈ TB := tzc_5 31 (by decide +kernel) rfl
theorem im_X8_findBestRow : Cond.instanceMethod (yn m_X8_findBestRow) ∈ TB := tzc_5 29 (by decide +kernel) rfl
theorem se_X8_findBestRow : Cond.selects (yn m_X8_findBestRow).cls (yn m_X8_findBestRow) (yn m_X8_findBestRow) ∈ TB := tzc_5 30 (by decide +kernel) rfl
theorem in_X8_findBestRow : Cond.initialized (yn m_X8_findBestRow).cls ∈ TB := tw_12
theorem cw_X8_shelfInBestRow : Cond.code (yn m_X8_shelfInBestRow) (yc m_X8_shelfInBestRow) (yl m_X8_shelfInBestRow) (yr m_X8_shelfInBestRow) ∈ TB := tzc_5 63 (by decide +kernel) rfl
theorem im_X8_shelfInBestRow : Cond.instanceMethod (yn m_X8_shelfInBestRow) ∈ TB := tzc_5 61 (by decide +kernel) rfl
theorem se_X8_shelfInBestRow : Cond.selects (yn m_X8_shelfInBestRow).cls (yn m_X8_shelfInBestRow) (yn m_X8_shelfInBestRow) ∈ TB := tzc_5 62 (by decide +kernel) rfl
theorem in_X8_shelfInBestRow : Cond.initialized (yn m_X8_shelfInBestRow).cls ∈ TB := tw_12
theorem cw_X8_layByRow : Cond.code (yn m_X8_layByRow) (yc m_X8_layByRow) (yl m_X8_layByRow) (yr m_X8_layByRow) ∈ TB := tzc_5 41 (by decide +kernel) rfl
theorem im_X8_layByRow : Cond.instanceMethod (yn m_X8_layByRow) ∈ TB := tzc_5 40 (by decide +kernel) rfl
theorem se_X8_layByRow : Cond.selects (yn m_X8_layByRow).cls (yn m_X8_layByRow) (yn m_X8_layByRow) ∈ TB := tb_sel 29 (by decide +kernel) rfl
theorem in_X8_layByRow : Cond.initialized (yn m_X8_layByRow).cls ∈ TB := tw_12
theorem cw_X8_findBestBulb : Cond.code (yn m_X8_findBestBulb) (yc m_X8_findBestBulb) (yl m_X8_findBestBulb) (yr m_X8_findBestBulb) ∈ TB := tzc_5 71 (by decide +kernel) rfl
theorem im_X8_findBestBulb : Cond.instanceMethod (yn m_X8_findBestBulb) ∈ TB := tzc_5 69 (by decide +kernel) rfl
theorem se_X8_findBestBulb : Cond.selects (yn m_X8_findBestBulb).cls (yn m_X8_findBestBulb) (yn m_X8_findBestBulb) ∈ TB := tzc_5 70 (by decide +kernel) rfl
theorem in_X8_findBestBulb : Cond.initialized (yn m_X8_findBestBulb).cls ∈ TB := tw_12
theorem cw_X8_takeIfMore : Cond.code (yn m_X8_takeIfMore) (yc m_X8_takeIfMore) (yl m_X8_takeIfMore) (yr m_X8_takeIfMore) ∈ TB := tzc_5 59 (by decide +kernel) rfl
theorem im_X8_takeIfMore : Cond.instanceMethod (yn m_X8_takeIfMore) ∈ TB := tzc_5 58 (by decide +kernel) rfl
theorem se_X8_takeIfMore : Cond.selects (yn m_X8_takeIfMore).cls (yn m_X8_takeIfMore) (yn m_X8_takeIfMore) ∈ TB := tb_sel 32 (by decide +kernel) rfl
theorem in_X8_takeIfMore : Cond.initialized (yn m_X8_takeIfMore).cls ∈ TB := tw_12
theorem cw_X8_withinOnSecondDay : Cond.code (yn m_X8_withinOnSecondDay) (yc m_X8_withinOnSecondDay) (yl m_X8_withinOnSecondDay) (yr m_X8_withinOnSecondDay) ∈ TB := tzc_5 49 (by decide +kernel) rfl
theorem im_X8_withinOnSecondDay : Cond.instanceMethod (yn m_X8_withinOnSecondDay) ∈ TB := tzc_5 48 (by decide +kernel) rfl
theorem se_X8_withinOnSecondDay : Cond.selects (yn m_X8_withinOnSecondDay).cls (yn m_X8_withinOnSecondDay) (yn m_X8_withinOnSecondDay) ∈ TB := tb_sel 31 (by decide +kernel) rfl
theorem in_X8_withinOnSecondDay : Cond.initialized (yn m_X8_withinOnSecondDay).cls ∈ TB := tw_12
theorem cw_X8_ticksWithoutCurrent : Cond.code (yn m_X8_ticksWithoutCurrent) (yc m_X8_ticksWithoutCurrent) (yl m_X8_ticksWithoutCurrent) (yr m_X8_ticksWithoutCurrent) ∈ TB := tzc_5 79 (by decide +kernel) rfl
theorem im_X8_ticksWithoutCurrent : Cond.instanceMethod (yn m_X8_ticksWithoutCurrent) ∈ TB := tzc_5 77 (by decide +kernel) rfl
theorem se_X8_ticksWithoutCurrent : Cond.selects (yn m_X8_ticksWithoutCurrent).cls (yn m_X8_ticksWithoutCurrent) (yn m_X8_ticksWithoutCurrent) ∈ TB := tzc_5 78 (by decide +kernel) rfl
theorem in_X8_ticksWithoutCurrent : Cond.initialized (yn m_X8_ticksWithoutCurrent).cls ∈ TB := tw_12
theorem cw_X8_findBestStore : Cond.code (yn m_X8_findBestStore) (yc m_X8_findBestStore) (yl m_X8_findBestStore) (yr m_X8_findBestStore) ∈ TB := tzc_5 92 (by decide +kernel) rfl
theorem im_X8_findBestStore : Cond.instanceMethod (yn m_X8_findBestStore) ∈ TB := tzc_5 90 (by decide +kernel) rfl
theorem se_X8_findBestStore : Cond.selects (yn m_X8_findBestStore).cls (yn m_X8_findBestStore) (yn m_X8_findBestStore) ∈ TB := tzc_5 91 (by decide +kernel) rfl
theorem in_X8_findBestStore : Cond.initialized (yn m_X8_findBestStore).cls ∈ TB := tw_12
theorem cw_X8_paidStoring : Cond.code (yn m_X8_paidStoring) (yc m_X8_paidStoring) (yl m_X8_paidStoring) (yr m_X8_paidStoring) ∈ TB := tzc_5 96 (by decide +kernel) rfl
theorem im_X8_paidStoring : Cond.instanceMethod (yn m_X8_paidStoring) ∈ TB := tzc_5 95 (by decide +kernel) rfl
theorem se_X8_paidStoring : Cond.selects (yn m_X8_paidStoring).cls (yn m_X8_paidStoring) (yn m_X8_paidStoring) ∈ TB := tb_sel 33 (by decide +kernel) rfl
theorem in_X8_paidStoring : Cond.initialized (yn m_X8_paidStoring).cls ∈ TB := tw_12
theorem cw_X8_isCheapHour : Cond.code (yn m_X8_isCheapHour) (yc m_X8_isCheapHour) (yl m_X8_isCheapHour) (yr m_X8_isCheapHour) ∈ TB := tzc_5 101 (by decide +kernel) rfl
theorem im_X8_isCheapHour : Cond.instanceMethod (yn m_X8_isCheapHour) ∈ TB := tzc_5 100 (by decide +kernel) rfl
theorem se_X8_isCheapHour : Cond.selects (yn m_X8_isCheapHour).cls (yn m_X8_isCheapHour) (yn m_X8_isCheapHour) ∈ TB := tb_sel 34 (by decide +kernel) rfl
theorem in_X8_isCheapHour : Cond.initialized (yn m_X8_isCheapHour).cls ∈ TB := tw_12
theorem cw_X8_boxBulb : Cond.code (yn m_X8_boxBulb) (yc m_X8_boxBulb) (yl m_X8_boxBulb) (yr m_X8_boxBulb) ∈ TB := tzc_5 45 (by decide +kernel) rfl
theorem im_X8_boxBulb : Cond.instanceMethod (yn m_X8_boxBulb) ∈ TB := tzc_5 44 (by decide +kernel) rfl
theorem se_X8_boxBulb : Cond.selects (yn m_X8_boxBulb).cls (yn m_X8_boxBulb) (yn m_X8_boxBulb) ∈ TB := tb_sel 30 (by decide +kernel) rfl
theorem in_X8_boxBulb : Cond.initialized (yn m_X8_boxBulb).cls ∈ TB := tw_12
theorem cw_X9_init : Cond.code (yn m_X9_init) (yc m_X9_init) (yl m_X9_init) (yr m_X9_init) ∈ TB := tzc_1 24 (by decide +kernel) rfl
theorem tw_1 : (Cond.initialized "ColdBox") ∈ TB := tzc_1 1 (by decide +kernel) rfl
theorem im_X9_init : Cond.instanceMethod (yn m_X9_init) ∈ TB := tzc_1 23 (by decide +kernel) rfl
theorem in_X9_init : Cond.initialized (yn m_X9_init).cls ∈ TB := tw_1
theorem cw_X9_feed : Cond.code (yn m_X9_feed) (yc m_X9_feed) (yl m_X9_feed) (yr m_X9_feed) ∈ TB := tzc_2 155 (by decide +kernel) rfl
theorem im_X9_feed : Cond.instanceMethod (yn m_X9_feed) ∈ TB := tzc_2 153 (by decide +kernel) rfl
theorem se_X9_feed : Cond.selects (yn m_X9_feed).cls (yn m_X9_feed) (yn m_X9_feed) ∈ TB := tzc_2 154 (by decide +kernel) rfl
theorem in_X9_feed : Cond.initialized (yn m_X9_feed).cls ∈ TB := tw_1
theorem cw_X9_box : Cond.code (yn m_X9_box) (yc m_X9_box) (yl m_X9_box) (yr m_X9_box) ∈ TB := tzc_2 166 (by decide +kernel) rfl
theorem im_X9_box : Cond.instanceMethod (yn m_X9_box) ∈ TB := tzc_2 164 (by decide +kernel) rfl
theorem se_X9_box : Cond.selects (yn m_X9_box).cls (yn m_X9_box) (yn m_X9_box) ∈ TB := tzc_2 165 (by decide +kernel) rfl
theorem in_X9_box : Cond.initialized (yn m_X9_box).cls ∈ TB := tw_1
theorem cw_X9_day : Cond.code (yn m_X9_day) (yc m_X9_day) (yl m_X9_day) (yr m_X9_day) ∈ TB := tzc_3 60 (by decide +kernel) rfl
theorem im_X9_day : Cond.instanceMethod (yn m_X9_day) ∈ TB := tzc_3 58 (by decide +kernel) rfl
theorem se_X9_day : Cond.selects (yn m_X9_day).cls (yn m_X9_day) (yn m_X9_day) ∈ TB := tzc_3 59 (by decide +kernel) rfl
theorem in_X9_day : Cond.initialized (yn m_X9_day).cls ∈ TB := tw_1
theorem cw_X9_fault : Cond.code (yn m_X9_fault) (yc m_X9_fault) (yl m_X9_fault) (yr m_X9_fault) ∈ TB := tzc_3 80 (by decide +kernel) rfl
theorem im_X9_fault : Cond.instanceMethod (yn m_X9_fault) ∈ TB := tzc_3 78 (by decide +kernel) rfl
theorem se_X9_fault : Cond.selects (yn m_X9_fault).cls (yn m_X9_fault) (yn m_X9_fault) ∈ TB := tzc_3 79 (by decide +kernel) rfl
theorem in_X9_fault : Cond.initialized (yn m_X9_fault).cls ∈ TB := tw_1
theorem cw_X9_told : Cond.code (yn m_X9_told) (yc m_X9_told) (yl m_X9_told) (yr m_X9_told) ∈ TB := tzc_3 84 (by decide +kernel) rfl
theorem im_X9_told : Cond.instanceMethod (yn m_X9_told) ∈ TB := tzc_3 82 (by decide +kernel) rfl
theorem se_X9_told : Cond.selects (yn m_X9_told).cls (yn m_X9_told) (yn m_X9_told) ∈ TB := tzc_3 83 (by decide +kernel) rfl
theorem in_X9_told : Cond.initialized (yn m_X9_told).cls ∈ TB := tw_1
theorem cw_X9_opening : Cond.code (yn m_X9_opening) (yc m_X9_opening) (yl m_X9_opening) (yr m_X9_opening) ∈ TB := tzc_3 88 (by decide +kernel) rfl
theorem im_X9_opening : Cond.instanceMethod (yn m_X9_opening) ∈ TB := tzc_3 86 (by decide +kernel) rfl
theorem se_X9_opening : Cond.selects (yn m_X9_opening).cls (yn m_X9_opening) (yn m_X9_opening) ∈ TB := tzc_3 87 (by decide +kernel) rfl
theorem in_X9_opening : Cond.initialized (yn m_X9_opening).cls ∈ TB := tw_1
theorem cw_X9_trouble : Cond.code (yn m_X9_trouble) (yc m_X9_trouble) (yl m_X9_trouble) (yr m_X9_trouble) ∈ TB := tzc_3 92 (by decide +kernel) rfl
theorem im_X9_trouble : Cond.instanceMethod (yn m_X9_trouble) ∈ TB := tzc_3 90 (by decide +kernel) rfl
theorem se_X9_trouble : Cond.selects (yn m_X9_trouble).cls (yn m_X9_trouble) (yn m_X9_trouble) ∈ TB := tzc_3 91 (by decide +kernel) rfl
theorem in_X9_trouble : Cond.initialized (yn m_X9_trouble).cls ∈ TB := tw_1
theorem cw_X9_fresh : Cond.code (yn m_X9_fresh) (yc m_X9_fresh) (yl m_X9_fresh) (yr m_X9_fresh) ∈ TB := tzc_3 101 (by decide +kernel) rfl
theorem im_X9_fresh : Cond.instanceMethod (yn m_X9_fresh) ∈ TB := tzc_3 99 (by decide +kernel) rfl
theorem se_X9_fresh : Cond.selects (yn m_X9_fresh).cls (yn m_X9_fresh) (yn m_X9_fresh) ∈ TB := tzc_3 100 (by decide +kernel) rfl
theorem in_X9_fresh : Cond.initialized (yn m_X9_fresh).cls ∈ TB := tw_1
theorem cw_X9_current : Cond.code (yn m_X9_current) (yc m_X9_current) (yl m_X9_current) (yr m_X9_current) ∈ TB := tzc_3 105 (by decide +kernel) rfl
theorem im_X9_current : Cond.instanceMethod (yn m_X9_current) ∈ TB := tzc_3 103 (by decide +kernel) rfl
theorem se_X9_current : Cond.selects (yn m_X9_current).cls (yn m_X9_current) (yn m_X9_current) ∈ TB := tzc_3 104 (by decide +kernel) rfl
theorem in_X9_current : Cond.initialized (yn m_X9_current).cls ∈ TB := tw_1
theorem cw_X9_cover : Cond.code (yn m_X9_cover) (yc m_X9_cover) (yl m_X9_cover) (yr m_X9_cover) ∈ TB := tzc_3 109 (by decide +kernel) rfl
theorem im_X9_cover : Cond.instanceMethod (yn m_X9_cover) ∈ TB := tzc_3 107 (by decide +kernel) rfl
theorem se_X9_cover : Cond.selects (yn m_X9_cover).cls (yn m_X9_cover) (yn m_X9_cover) ∈ TB := tzc_3 108 (by decide +kernel) rfl
theorem in_X9_cover : Cond.initialized (yn m_X9_cover).cls ∈ TB := tw_1
theorem cw_X9_put : Cond.code (yn m_X9_put) (yc m_X9_put) (yl m_X9_put) (yr m_X9_put) ∈ TB := tzc_3 113 (by decide +kernel) rfl
theorem im_X9_put : Cond.instanceMethod (yn m_X9_put) ∈ TB := tzc_3 111 (by decide +kernel) rfl
theorem se_X9_put : Cond.selects (yn m_X9_put).cls (yn m_X9_put) (yn m_X9_put) ∈ TB := tzc_3 112 (by decide +kernel) rfl
theorem in_X9_put : Cond.initialized (yn m_X9_put).cls ∈ TB := tw_1
theorem cw_X9_take : Cond.code (yn m_X9_take) (yc m_X9_take) (yl m_X9_take) (yr m_X9_take) ∈ TB := tzc_3 131 (by decide +kernel) rfl
theorem im_X9_take : Cond.instanceMethod (yn m_X9_take) ∈ TB := tzc_3 129 (by decide +kernel) rfl
theorem se_X9_take : Cond.selects (yn m_X9_take).cls (yn m_X9_take) (yn m_X9_take) ∈ TB := tzc_3 130 (by decide +kernel) rfl
theorem in_X9_take : Cond.initialized (yn m_X9_take).cls ∈ TB := tw_1
theorem cw_X9_lay : Cond.code (yn m_X9_lay) (yc m_X9_lay) (yl m_X9_lay) (yr m_X9_lay) ∈ TB := tzc_3 147 (by decide +kernel) rfl
theorem im_X9_lay : Cond.instanceMethod (yn m_X9_lay) ∈ TB := tzc_3 145 (by decide +kernel) rfl
theorem se_X9_lay : Cond.selects (yn m_X9_lay).cls (yn m_X9_lay) (yn m_X9_lay) ∈ TB := tzc_3 146 (by decide +kernel) rfl
theorem in_X9_lay : Cond.initialized (yn m_X9_lay).cls ∈ TB := tw_1
theorem cw_X9_food : Cond.code (yn m_X9_food) (yc m_X9_food) (yl m_X9_food) (yr m_X9_food) ∈ TB := tzc_3 151 (by decide +kernel) rfl
theorem im_X9_food : Cond.instanceMethod (yn m_X9_food) ∈ TB := tzc_3 149 (by decide +kernel) rfl
theorem se_X9_food : Cond.selects (yn m_X9_food).cls (yn m_X9_food) (yn m_X9_food) ∈ TB := tzc_3 150 (by decide +kernel) rfl
theorem in_X9_food : Cond.initialized (yn m_X9_food).cls ∈ TB := tw_1
theorem cw_X9_run : Cond.code (yn m_X9_run) (yc m_X9_run) (yl m_X9_run) (yr m_X9_run) ∈ TB := tzc_3 160 (by decide +kernel) rfl
theorem im_X9_run : Cond.instanceMethod (yn m_X9_run) ∈ TB := tzc_3 158 (by decide +kernel) rfl
theorem se_X9_run : Cond.selects (yn m_X9_run).cls (yn m_X9_run) (yn m_X9_run) ∈ TB := tzc_3 159 (by decide +kernel) rfl
theorem in_X9_run : Cond.initialized (yn m_X9_run).cls ∈ TB := tw_1
theorem cw_X9_drawn : Cond.code (yn m_X9_drawn) (yc m_X9_drawn) (yl m_X9_drawn) (yr m_X9_drawn) ∈ TB := tzc_3 232 (by decide +kernel) rfl
theorem im_X9_drawn : Cond.instanceMethod (yn m_X9_drawn) ∈ TB := tzc_3 230 (by decide +kernel) rfl
theorem se_X9_drawn : Cond.selects (yn m_X9_drawn).cls (yn m_X9_drawn) (yn m_X9_drawn) ∈ TB := tzc_3 231 (by decide +kernel) rfl
theorem in_X9_drawn : Cond.initialized (yn m_X9_drawn).cls ∈ TB := tw_1
theorem cw_X9_warmth : Cond.code (yn m_X9_warmth) (yc m_X9_warmth) (yl m_X9_warmth) (yr m_X9_warmth) ∈ TB := tzc_4 10 (by decide +kernel) rfl
theorem im_X9_warmth : Cond.instanceMethod (yn m_X9_warmth) ∈ TB := tzc_4 8 (by decide +kernel) rfl
theorem se_X9_warmth : Cond.selects (yn m_X9_warmth).cls (yn m_X9_warmth) (yn m_X9_warmth) ∈ TB := tzc_4 9 (by decide +kernel) rfl
theorem in_X9_warmth : Cond.initialized (yn m_X9_warmth).cls ∈ TB := tw_1
theorem cw_X9_heat : Cond.code (yn m_X9_heat) (yc m_X9_heat) (yl m_X9_heat) (yr m_X9_heat) ∈ TB := tzc_4 14 (by decide +kernel) rfl
theorem im_X9_heat : Cond.instanceMethod (yn m_X9_heat) ∈ TB := tzc_4 12 (by decide +kernel) rfl
theorem se_X9_heat : Cond.selects (yn m_X9_heat).cls (yn m_X9_heat) (yn m_X9_heat) ∈ TB := tzc_4 13 (by decide +kernel) rfl
theorem in_X9_heat : Cond.initialized (yn m_X9_heat).cls ∈ TB := tw_1
theorem cw_X9_count : Cond.code (yn m_X9_count) (yc m_X9_count) (yl m_X9_count) (yr m_X9_count) ∈ TB := tzc_4 23 (by decide +kernel) rfl
theorem im_X9_count : Cond.instanceMethod (yn m_X9_count) ∈ TB := tzc_4 21 (by decide +kernel) rfl
theorem se_X9_count : Cond.selects (yn m_X9_count).cls (yn m_X9_count) (yn m_X9_count) ∈ TB := tzc_4 22 (by decide +kernel) rfl
theorem in_X9_count : Cond.initialized (yn m_X9_count).cls ∈ TB := tw_1
theorem cw_X9_thaw : Cond.code (yn m_X9_thaw) (yc m_X9_thaw) (yl m_X9_thaw) (yr m_X9_thaw) ∈ TB := tzc_4 31 (by decide +kernel) rfl
theorem im_X9_thaw : Cond.instanceMethod (yn m_X9_thaw) ∈ TB := tzc_4 29 (by decide +kernel) rfl
theorem se_X9_thaw : Cond.selects (yn m_X9_thaw).cls (yn m_X9_thaw) (yn m_X9_thaw) ∈ TB := tzc_4 30 (by decide +kernel) rfl
theorem in_X9_thaw : Cond.initialized (yn m_X9_thaw).cls ∈ TB := tw_1
theorem cw_X9_sign : Cond.code (yn m_X9_sign) (yc m_X9_sign) (yl m_X9_sign) (yr m_X9_sign) ∈ TB := tzc_4 40 (by decide +kernel) rfl
theorem im_X9_sign : Cond.instanceMethod (yn m_X9_sign) ∈ TB := tzc_4 38 (by decide +kernel) rfl
theorem se_X9_sign : Cond.selects (yn m_X9_sign).cls (yn m_X9_sign) (yn m_X9_sign) ∈ TB := tzc_4 39 (by decide +kernel) rfl
theorem in_X9_sign : Cond.initialized (yn m_X9_sign).cls ∈ TB := tw_1
theorem cw_X9_seen : Cond.code (yn m_X9_seen) (yc m_X9_seen) (yl m_X9_seen) (yr m_X9_seen) ∈ TB := tzc_4 71 (by decide +kernel) rfl
theorem im_X9_seen : Cond.instanceMethod (yn m_X9_seen) ∈ TB := tzc_4 69 (by decide +kernel) rfl
theorem se_X9_seen : Cond.selects (yn m_X9_seen).cls (yn m_X9_seen) (yn m_X9_seen) ∈ TB := tzc_4 70 (by decide +kernel) rfl
theorem in_X9_seen : Cond.initialized (yn m_X9_seen).cls ∈ TB := tw_1
theorem cw_X9_forget : Cond.code (yn m_X9_forget) (yc m_X9_forget) (yl m_X9_forget) (yr m_X9_forget) ∈ TB := tzc_4 81 (by decide +kernel) rfl
theorem im_X9_forget : Cond.instanceMethod (yn m_X9_forget) ∈ TB := tzc_4 79 (by decide +kernel) rfl
theorem se_X9_forget : Cond.selects (yn m_X9_forget).cls (yn m_X9_forget) (yn m_X9_forget) ∈ TB := tzc_4 80 (by decide +kernel) rfl
theorem in_X9_forget : Cond.initialized (yn m_X9_forget).cls ∈ TB := tw_1
theorem cw_X9_prior : Cond.code (yn m_X9_prior) (yc m_X9_prior) (yl m_X9_prior) (yr m_X9_prior) ∈ TB := tzc_4 85 (by decide +kernel) rfl
theorem im_X9_prior : Cond.instanceMethod (yn m_X9_prior) ∈ TB := tzc_4 83 (by decide +kernel) rfl
theorem se_X9_prior : Cond.selects (yn m_X9_prior).cls (yn m_X9_prior) (yn m_X9_prior) ∈ TB := tzc_4 84 (by decide +kernel) rfl
theorem in_X9_prior : Cond.initialized (yn m_X9_prior).cls ∈ TB := tw_1
theorem cw_X9_bother : Cond.code (yn m_X9_bother) (yc m_X9_bother) (yl m_X9_bother) (yr m_X9_bother) ∈ TB := tzc_4 92 (by decide +kernel) rfl
theorem im_X9_bother : Cond.instanceMethod (yn m_X9_bother) ∈ TB := tzc_4 90 (by decide +kernel) rfl
theorem se_X9_bother : Cond.selects (yn m_X9_bother).cls (yn m_X9_bother) (yn m_X9_bother) ∈ TB := tzc_4 91 (by decide +kernel) rfl
theorem in_X9_bother : Cond.initialized (yn m_X9_bother).cls ∈ TB := tw_1
theorem cw_X9_odds : Cond.code (yn m_X9_odds) (yc m_X9_odds) (yl m_X9_odds) (yr m_X9_odds) ∈ TB := tzc_4 96 (by decide +kernel) rfl
theorem im_X9_odds : Cond.instanceMethod (yn m_X9_odds) ∈ TB := tzc_4 94 (by decide +kernel) rfl
theorem se_X9_odds : Cond.selects (yn m_X9_odds).cls (yn m_X9_odds) (yn m_X9_odds) ∈ TB := tzc_4 95 (by decide +kernel) rfl
theorem in_X9_odds : Cond.initialized (yn m_X9_odds).cls ∈ TB := tw_1
theorem cw_X9_each : Cond.code (yn m_X9_each) (yc m_X9_each) (yl m_X9_each) (yr m_X9_each) ∈ TB := tzc_4 143 (by decide +kernel) rfl
theorem im_X9_each : Cond.instanceMethod (yn m_X9_each) ∈ TB := tzc_4 141 (by decide +kernel) rfl
theorem se_X9_each : Cond.selects (yn m_X9_each).cls (yn m_X9_each) (yn m_X9_each) ∈ TB := tzc_4 142 (by decide +kernel) rfl
theorem in_X9_each : Cond.initialized (yn m_X9_each).cls ∈ TB := tw_1
theorem cw_X9_tells : Cond.code (yn m_X9_tells) (yc m_X9_tells) (yl m_X9_tells) (yr m_X9_tells) ∈ TB := tzc_4 151 (by decide +kernel) rfl
theorem im_X9_tells : Cond.instanceMethod (yn m_X9_tells) ∈ TB := tzc_4 149 (by decide +kernel) rfl
theorem se_X9_tells : Cond.selects (yn m_X9_tells).cls (yn m_X9_tells) (yn m_X9_tells) ∈ TB := tzc_4 150 (by decide +kernel) rfl
theorem in_X9_tells : Cond.initialized (yn m_X9_tells).cls ∈ TB := tw_1
theorem cw_X9_next : Cond.code (yn m_X9_next) (yc m_X9_next) (yl m_X9_next) (yr m_X9_next) ∈ TB := tzc_4 171 (by decide +kernel) rfl
theorem im_X9_next : Cond.instanceMethod (yn m_X9_next) ∈ TB := tzc_4 169 (by decide +kernel) rfl
theorem se_X9_next : Cond.selects (yn m_X9_next).cls (yn m_X9_next) (yn m_X9_next) ∈ TB := tzc_4 170 (by decide +kernel) rfl
theorem in_X9_next : Cond.initialized (yn m_X9_next).cls ∈ TB := tw_1
theorem cw_X9_makes : Cond.code (yn m_X9_makes) (yc m_X9_makes) (yl m_X9_makes) (yr m_X9_makes) ∈ TB := tzc_4 179 (by decide +kernel) rfl
theorem im_X9_makes : Cond.instanceMethod (yn m_X9_makes) ∈ TB := tzc_4 177 (by decide +kernel) rfl
theorem se_X9_makes : Cond.selects (yn m_X9_makes).cls (yn m_X9_makes) (yn m_X9_makes) ∈ TB := tzc_4 178 (by decide +kernel) rfl
theorem in_X9_makes : Cond.initialized (yn m_X9_makes).cls ∈ TB := tw_1
theorem cw_X9_mending : Cond.code (yn m_X9_mending) (yc m_X9_mending) (yl m_X9_mending) (yr m_X9_mending) ∈ TB := tzc_4 187 (by decide +kernel) rfl
theorem im_X9_mending : Cond.instanceMethod (yn m_X9_mending) ∈ TB := tzc_4 185 (by decide +kernel) rfl
theorem se_X9_mending : Cond.selects (yn m_X9_mending).cls (yn m_X9_mending) (yn m_X9_mending) ∈ TB := tzc_4 186 (by decide +kernel) rfl
theorem in_X9_mending : Cond.initialized (yn m_X9_mending).cls ∈ TB := tw_1
theorem cw_X9_price : Cond.code (yn m_X9_price) (yc m_X9_price) (yl m_X9_price) (yr m_X9_price) ∈ TB := tzc_4 191 (by decide +kernel) rfl
theorem im_X9_price : Cond.instanceMethod (yn m_X9_price) ∈ TB := tzc_4 189 (by decide +kernel) rfl
theorem se_X9_price : Cond.selects (yn m_X9_price).cls (yn m_X9_price) (yn m_X9_price) ∈ TB := tzc_4 190 (by decide +kernel) rfl
theorem in_X9_price : Cond.initialized (yn m_X9_price).cls ∈ TB := tw_1
theorem cw_X9_year : Cond.code (yn m_X9_year) (yc m_X9_year) (yl m_X9_year) (yr m_X9_year) ∈ TB := tzc_4 198 (by decide +kernel) rfl
theorem im_X9_year : Cond.instanceMethod (yn m_X9_year) ∈ TB := tzc_4 196 (by decide +kernel) rfl
theorem se_X9_year : Cond.selects (yn m_X9_year).cls (yn m_X9_year) (yn m_X9_year) ∈ TB := tzc_4 197 (by decide +kernel) rfl
theorem in_X9_year : Cond.initialized (yn m_X9_year).cls ∈ TB := tw_1
theorem cw_X9_saves : Cond.code (yn m_X9_saves) (yc m_X9_saves) (yl m_X9_saves) (yr m_X9_saves) ∈ TB := tzc_4 213 (by decide +kernel) rfl
theorem im_X9_saves : Cond.instanceMethod (yn m_X9_saves) ∈ TB := tzc_4 211 (by decide +kernel) rfl
theorem se_X9_saves : Cond.selects (yn m_X9_saves).cls (yn m_X9_saves) (yn m_X9_saves) ∈ TB := tzc_4 212 (by decide +kernel) rfl
theorem in_X9_saves : Cond.initialized (yn m_X9_saves).cls ∈ TB := tw_1
theorem cw_X9_best : Cond.code (yn m_X9_best) (yc m_X9_best) (yl m_X9_best) (yr m_X9_best) ∈ TB := tzc_4 226 (by decide +kernel) rfl
theorem im_X9_best : Cond.instanceMethod (yn m_X9_best) ∈ TB := tzc_4 224 (by decide +kernel) rfl
theorem se_X9_best : Cond.selects (yn m_X9_best).cls (yn m_X9_best) (yn m_X9_best) ∈ TB := tzc_4 225 (by decide +kernel) rfl
theorem in_X9_best : Cond.initialized (yn m_X9_best).cls ∈ TB := tw_1
theorem cw_X9_pays : Cond.code (yn m_X9_pays) (yc m_X9_pays) (yl m_X9_pays) (yr m_X9_pays) ∈ TB := tzc_5 6 (by decide +kernel) rfl
theorem im_X9_pays : Cond.instanceMethod (yn m_X9_pays) ∈ TB := tzc_5 4 (by decide +kernel) rfl
theorem se_X9_pays : Cond.selects (yn m_X9_pays).cls (yn m_X9_pays) (yn m_X9_pays) ∈ TB := tzc_5 5 (by decide +kernel) rfl
theorem in_X9_pays : Cond.initialized (yn m_X9_pays).cls ∈ TB := tw_1
theorem cw_X9_ice : Cond.code (yn m_X9_ice) (yc m_X9_ice) (yl m_X9_ice) (yr m_X9_ice) ∈ TB := tzc_5 14 (by decide +kernel) rfl
theorem im_X9_ice : Cond.instanceMethod (yn m_X9_ice) ∈ TB := tzc_5 12 (by decide +kernel) rfl
theorem se_X9_ice : Cond.selects (yn m_X9_ice).cls (yn m_X9_ice) (yn m_X9_ice) ∈ TB := tzc_5 13 (by decide +kernel) rfl
theorem in_X9_ice : Cond.initialized (yn m_X9_ice).cls ∈ TB := tw_1
theorem cw_X9_lying : Cond.code (yn m_X9_lying) (yc m_X9_lying) (yl m_X9_lying) (yr m_X9_lying) ∈ TB := tzc_5 27 (by decide +kernel) rfl
theorem im_X9_lying : Cond.instanceMethod (yn m_X9_lying) ∈ TB := tzc_5 25 (by decide +kernel) rfl
theorem se_X9_lying : Cond.selects (yn m_X9_lying).cls (yn m_X9_lying) (yn m_X9_lying) ∈ TB := tzc_5 26 (by decide +kernel) rfl
theorem in_X9_lying : Cond.initialized (yn m_X9_lying).cls ∈ TB := tw_1
theorem cw_X9_bulb : Cond.code (yn m_X9_bulb) (yc m_X9_bulb) (yl m_X9_bulb) (yr m_X9_bulb) ∈ TB := tzc_5 67 (by decide +kernel) rfl
theorem im_X9_bulb : Cond.instanceMethod (yn m_X9_bulb) ∈ TB := tzc_5 65 (by decide +kernel) rfl
theorem se_X9_bulb : Cond.selects (yn m_X9_bulb).cls (yn m_X9_bulb) (yn m_X9_bulb) ∈ TB := tzc_5 66 (by decide +kernel) rfl
theorem in_X9_bulb : Cond.initialized (yn m_X9_bulb).cls ∈ TB := tw_1
theorem cw_X9_without : Cond.code (yn m_X9_without) (yc m_X9_without) (yl m_X9_without) (yr m_X9_without) ∈ TB := tzc_5 75 (by decide +kernel) rfl
theorem im_X9_without : Cond.instanceMethod (yn m_X9_without) ∈ TB := tzc_5 73 (by decide +kernel) rfl
theorem se_X9_without : Cond.selects (yn m_X9_without).cls (yn m_X9_without) (yn m_X9_without) ∈ TB := tzc_5 74 (by decide +kernel) rfl
theorem in_X9_without : Cond.initialized (yn m_X9_without).cls ∈ TB := tw_1
theorem cw_X9_cheap : Cond.code (yn m_X9_cheap) (yc m_X9_cheap) (yl m_X9_cheap) (yr m_X9_cheap) ∈ TB := tzc_5 84 (by decide +kernel) rfl
theorem im_X9_cheap : Cond.instanceMethod (yn m_X9_cheap) ∈ TB := tzc_5 82 (by decide +kernel) rfl
theorem se_X9_cheap : Cond.selects (yn m_X9_cheap).cls (yn m_X9_cheap) (yn m_X9_cheap) ∈ TB := tzc_5 83 (by decide +kernel) rfl
theorem in_X9_cheap : Cond.initialized (yn m_X9_cheap).cls ∈ TB := tw_1
theorem cw_X9_store : Cond.code (yn m_X9_store) (yc m_X9_store) (yl m_X9_store) (yr m_X9_store) ∈ TB := tzc_5 88 (by decide +kernel) rfl
theorem im_X9_store : Cond.instanceMethod (yn m_X9_store) ∈ TB := tzc_5 86 (by decide +kernel) rfl
theorem se_X9_store : Cond.selects (yn m_X9_store).cls (yn m_X9_store) (yn m_X9_store) ∈ TB := tzc_5 87 (by decide +kernel) rfl
theorem in_X9_store : Cond.initialized (yn m_X9_store).cls ∈ TB := tw_1
theorem cw_X9_seed : Cond.code (yn m_X9_seed) (yc m_X9_seed) (yl m_X9_seed) (yr m_X9_seed) ∈ TB := tzc_5 108 (by decide +kernel) rfl
theorem im_X9_seed : Cond.instanceMethod (yn m_X9_seed) ∈ TB := tzc_5 106 (by decide +kernel) rfl
theorem se_X9_seed : Cond.selects (yn m_X9_seed).cls (yn m_X9_seed) (yn m_X9_seed) ∈ TB := tzc_5 107 (by decide +kernel) rfl
theorem in_X9_seed : Cond.initialized (yn m_X9_seed).cls ∈ TB := tw_1
theorem cw_X9_keep : Cond.code (yn m_X9_keep) (yc m_X9_keep) (yl m_X9_keep) (yr m_X9_keep) ∈ TB := tzc_5 112 (by decide +kernel) rfl
theorem im_X9_keep : Cond.instanceMethod (yn m_X9_keep) ∈ TB := tzc_5 110 (by decide +kernel) rfl
theorem se_X9_keep : Cond.selects (yn m_X9_keep).cls (yn m_X9_keep) (yn m_X9_keep) ∈ TB := tzc_5 111 (by decide +kernel) rfl
theorem in_X9_keep : Cond.initialized (yn m_X9_keep).cls ∈ TB := tw_1
theorem cw_X9_goBack : Cond.code (yn m_X9_goBack) (yc m_X9_goBack) (yl m_X9_goBack) (yr m_X9_goBack) ∈ TB := tzc_5 121 (by decide +kernel) rfl
theorem im_X9_goBack : Cond.instanceMethod (yn m_X9_goBack) ∈ TB := tzc_5 119 (by decide +kernel) rfl
theorem se_X9_goBack : Cond.selects (yn m_X9_goBack).cls (yn m_X9_goBack) (yn m_X9_goBack) ∈ TB := tzc_5 120 (by decide +kernel) rfl
theorem in_X9_goBack : Cond.initialized (yn m_X9_goBack).cls ∈ TB := tw_1
theorem cw_X9_imageOf : Cond.code (yn m_X9_imageOf) (yc m_X9_imageOf) (yl m_X9_imageOf) (yr m_X9_imageOf) ∈ TB := tzc_5 116 (by decide +kernel) rfl
theorem im_X9_imageOf : Cond.instanceMethod (yn m_X9_imageOf) ∈ TB := tzc_5 115 (by decide +kernel) rfl
theorem se_X9_imageOf : Cond.selects (yn m_X9_imageOf).cls (yn m_X9_imageOf) (yn m_X9_imageOf) ∈ TB := tb_sel 35 (by decide +kernel) rfl
theorem in_X9_imageOf : Cond.initialized (yn m_X9_imageOf).cls ∈ TB := tw_1
theorem cw_X9_drawDoor : Cond.code (yn m_X9_drawDoor) (yc m_X9_drawDoor) (yl m_X9_drawDoor) (yr m_X9_drawDoor) ∈ TB := tzc_3 237 (by decide +kernel) rfl
theorem im_X9_drawDoor : Cond.instanceMethod (yn m_X9_drawDoor) ∈ TB := tzc_3 236 (by decide +kernel) rfl
theorem se_X9_drawDoor : Cond.selects (yn m_X9_drawDoor).cls (yn m_X9_drawDoor) (yn m_X9_drawDoor) ∈ TB := tb_sel 18 (by decide +kernel) rfl
theorem in_X9_drawDoor : Cond.initialized (yn m_X9_drawDoor).cls ∈ TB := tw_1
theorem cw_X9_isSet : Cond.code (yn m_X9_isSet) (yc m_X9_isSet) (yl m_X9_isSet) (yr m_X9_isSet) ∈ TB := tzc_3 95 (by decide +kernel) rfl
theorem im_X9_isSet : Cond.static (yn m_X9_isSet) ∈ TB := tzc_3 94 (by decide +kernel) rfl
theorem in_X9_isSet : Cond.initialized (yn m_X9_isSet).cls ∈ TB := tw_1
theorem cw_X9_isPart : Cond.code (yn m_X9_isPart) (yc m_X9_isPart) (yl m_X9_isPart) (yr m_X9_isPart) ∈ TB := tzc_4 216 (by decide +kernel) rfl
theorem im_X9_isPart : Cond.static (yn m_X9_isPart) ∈ TB := tzc_4 215 (by decide +kernel) rfl
theorem in_X9_isPart : Cond.initialized (yn m_X9_isPart).cls ∈ TB := tw_1
theorem cw_X9_isTrouble : Cond.code (yn m_X9_isTrouble) (yc m_X9_isTrouble) (yl m_X9_isTrouble) (yr m_X9_isTrouble) ∈ TB := tzc_4 88 (by decide +kernel) rfl
theorem im_X9_isTrouble : Cond.static (yn m_X9_isTrouble) ∈ TB := tzc_4 87 (by decide +kernel) rfl
theorem in_X9_isTrouble : Cond.initialized (yn m_X9_isTrouble).cls ∈ TB := tw_1
theorem cw_X9_isSign : Cond.code (yn m_X9_isSign) (yc m_X9_isSign) (yl m_X9_isSign) (yr m_X9_isSign) ∈ TB := tzc_4 43 (by decide +kernel) rfl
theorem im_X9_isSign : Cond.static (yn m_X9_isSign) ∈ TB := tzc_4 42 (by decide +kernel) rfl
theorem in_X9_isSign : Cond.initialized (yn m_X9_isSign).cls ∈ TB := tw_1
theorem cw_X9_isShelf : Cond.code (yn m_X9_isShelf) (yc m_X9_isShelf) (yl m_X9_isShelf) (yr m_X9_isShelf) ∈ TB := tzc_3 116 (by decide +kernel) rfl
theorem im_X9_isShelf : Cond.static (yn m_X9_isShelf) ∈ TB := tzc_3 115 (by decide +kernel) rfl
theorem in_X9_isShelf : Cond.initialized (yn m_X9_isShelf).cls ∈ TB := tw_1
theorem cw_X9_isPrice : Cond.code (yn m_X9_isPrice) (yc m_X9_isPrice) (yl m_X9_isPrice) (yr m_X9_isPrice) ∈ TB := tzc_4 194 (by decide +kernel) rfl
theorem im_X9_isPrice : Cond.static (yn m_X9_isPrice) ∈ TB := tzc_4 193 (by decide +kernel) rfl
theorem in_X9_isPrice : Cond.initialized (yn m_X9_isPrice).cls ∈ TB := tw_1
theorem cw_X9_canBeWarmth : Cond.code (yn m_X9_canBeWarmth) (yc m_X9_canBeWarmth) (yl m_X9_canBeWarmth) (yr m_X9_canBeWarmth) ∈ TB := tzc_3 119 (by decide +kernel) rfl
theorem im_X9_canBeWarmth : Cond.static (yn m_X9_canBeWarmth) ∈ TB := tzc_3 118 (by decide +kernel) rfl
theorem in_X9_canBeWarmth : Cond.initialized (yn m_X9_canBeWarmth).cls ∈ TB := tw_1
theorem cw_X9_areSignDays : Cond.code (yn m_X9_areSignDays) (yc m_X9_areSignDays) (yl m_X9_areSignDays) (yr m_X9_areSignDays) ∈ TB := tzc_4 46 (by decide +kernel) rfl
theorem im_X9_areSignDays : Cond.static (yn m_X9_areSignDays) ∈ TB := tzc_4 45 (by decide +kernel) rfl
theorem in_X9_areSignDays : Cond.initialized (yn m_X9_areSignDays).cls ∈ TB := tw_1
theorem cw_X10_init : Cond.code (yn m_X10_init) (yc m_X10_init) (yl m_X10_init) (yr m_X10_init) ∈ TB := tzc_5 126 (by decide +kernel) rfl
theorem tw_13 : (Cond.initialized "ColdBoxModel") ∈ TB := tzc_1 13 (by decide +kernel) rfl
theorem im_X10_init : Cond.instanceMethod (yn m_X10_init) ∈ TB := tzc_5 125 (by decide +kernel) rfl
theorem in_X10_init : Cond.initialized (yn m_X10_init).cls ∈ TB := tw_13
theorem cw_X10_in : Cond.code (yn m_X10_in) (yc m_X10_in) (yl m_X10_in) (yr m_X10_in) ∈ TB := tzc_5 238 (by decide +kernel) rfl
theorem im_X10_in : Cond.static (yn m_X10_in) ∈ TB := tzc_5 237 (by decide +kernel) rfl
theorem in_X10_in : Cond.initialized (yn m_X10_in).cls ∈ TB := tw_13
theorem cw_X10_one : Cond.code (yn m_X10_one) (yc m_X10_one) (yl m_X10_one) (yr m_X10_one) ∈ TB := tzc_6 107 (by decide +kernel) rfl
theorem im_X10_one : Cond.static (yn m_X10_one) ∈ TB := tzc_6 106 (by decide +kernel) rfl
theorem in_X10_one : Cond.initialized (yn m_X10_one).cls ∈ TB := tw_13
theorem cw_X10_has : Cond.code (yn m_X10_has) (yc m_X10_has) (yl m_X10_has) (yr m_X10_has) ∈ TB := tzc_6 21 (by decide +kernel) rfl
theorem im_X10_has : Cond.static (yn m_X10_has) ∈ TB := tzc_6 20 (by decide +kernel) rfl
theorem in_X10_has : Cond.initialized (yn m_X10_has).cls ∈ TB := tw_13
theorem cw_X10_ones : Cond.code (yn m_X10_ones) (yc m_X10_ones) (yl m_X10_ones) (yr m_X10_ones) ∈ TB := tzc_7 65 (by decide +kernel) rfl
theorem im_X10_ones : Cond.static (yn m_X10_ones) ∈ TB := tzc_7 64 (by decide +kernel) rfl
theorem in_X10_ones : Cond.initialized (yn m_X10_ones).cls ∈ TB := tw_13
theorem cw_X10_untold : Cond.code (yn m_X10_untold) (yc m_X10_untold) (yl m_X10_untold) (yr m_X10_untold) ∈ TB := tzc_6 12 (by decide +kernel) rfl
theorem im_X10_untold : Cond.static (yn m_X10_untold) ∈ TB := tzc_6 11 (by decide +kernel) rfl
theorem in_X10_untold : Cond.initialized (yn m_X10_untold).cls ∈ TB := tw_13
theorem cw_X10_begin : Cond.code (yn m_X10_begin) (yc m_X10_begin) (yl m_X10_begin) (yr m_X10_begin) ∈ TB := tzc_6 9 (by decide +kernel) rfl
theorem im_X10_begin : Cond.instanceMethod (yn m_X10_begin) ∈ TB := tzc_6 8 (by decide +kernel) rfl
theorem se_X10_begin : Cond.selects (yn m_X10_begin).cls (yn m_X10_begin) (yn m_X10_begin) ∈ TB := tb_sel 36 (by decide +kernel) rfl
theorem in_X10_begin : Cond.initialized (yn m_X10_begin).cls ∈ TB := tw_13
theorem cw_X10_feed : Cond.code (yn m_X10_feed) (yc m_X10_feed) (yl m_X10_feed) (yr m_X10_feed) ∈ TB := tzc_5 234 (by decide +kernel) rfl
theorem im_X10_feed : Cond.instanceMethod (yn m_X10_feed) ∈ TB := tzc_5 232 (by decide +kernel) rfl
theorem se_X10_feed : Cond.selects (yn m_X10_feed).cls (yn m_X10_feed) (yn m_X10_feed) ∈ TB := tzc_5 233 (by decide +kernel) rfl
theorem in_X10_feed : Cond.initialized (yn m_X10_feed).cls ∈ TB := tw_13
theorem cw_X10_here : Cond.code (yn m_X10_here) (yc m_X10_here) (yl m_X10_here) (yr m_X10_here) ∈ TB := tzc_6 31 (by decide +kernel) rfl
theorem im_X10_here : Cond.instanceMethod (yn m_X10_here) ∈ TB := tzc_6 30 (by decide +kernel) rfl
theorem se_X10_here : Cond.selects (yn m_X10_here).cls (yn m_X10_here) (yn m_X10_here) ∈ TB := tb_sel 39 (by decide +kernel) rfl
theorem in_X10_here : Cond.initialized (yn m_X10_here).cls ∈ TB := tw_13
theorem cw_X10_want : Cond.code (yn m_X10_want) (yc m_X10_want) (yl m_X10_want) (yr m_X10_want) ∈ TB := tzc_6 53 (by decide +kernel) rfl
theorem im_X10_want : Cond.instanceMethod (yn m_X10_want) ∈ TB := tzc_6 52 (by decide +kernel) rfl
theorem se_X10_want : Cond.selects (yn m_X10_want).cls (yn m_X10_want) (yn m_X10_want) ∈ TB := tb_sel 44 (by decide +kernel) rfl
theorem in_X10_want : Cond.initialized (yn m_X10_want).cls ∈ TB := tw_13
theorem cw_X10_takeWord : Cond.code (yn m_X10_takeWord) (yc m_X10_takeWord) (yl m_X10_takeWord) (yr m_X10_takeWord) ∈ TB := tzc_6 39 (by decide +kernel) rfl
theorem im_X10_takeWord : Cond.instanceMethod (yn m_X10_takeWord) ∈ TB := tzc_6 38 (by decide +kernel) rfl
theorem se_X10_takeWord : Cond.selects (yn m_X10_takeWord).cls (yn m_X10_takeWord) (yn m_X10_takeWord) ∈ TB := tb_sel 41 (by decide +kernel) rfl
theorem in_X10_takeWord : Cond.initialized (yn m_X10_takeWord).cls ∈ TB := tw_13
theorem cw_X10_isWord : Cond.code (yn m_X10_isWord) (yc m_X10_isWord) (yl m_X10_isWord) (yr m_X10_isWord) ∈ TB := tzc_6 49 (by decide +kernel) rfl
theorem im_X10_isWord : Cond.instanceMethod (yn m_X10_isWord) ∈ TB := tzc_6 48 (by decide +kernel) rfl
theorem se_X10_isWord : Cond.selects (yn m_X10_isWord).cls (yn m_X10_isWord) (yn m_X10_isWord) ∈ TB := tb_sel 43 (by decide +kernel) rfl
theorem in_X10_isWord : Cond.initialized (yn m_X10_isWord).cls ∈ TB := tw_13
theorem cw_X10_takeNumber : Cond.code (yn m_X10_takeNumber) (yc m_X10_takeNumber) (yl m_X10_takeNumber) (yr m_X10_takeNumber) ∈ TB := tzc_6 57 (by decide +kernel) rfl
theorem im_X10_takeNumber : Cond.instanceMethod (yn m_X10_takeNumber) ∈ TB := tzc_6 56 (by decide +kernel) rfl
theorem se_X10_takeNumber : Cond.selects (yn m_X10_takeNumber).cls (yn m_X10_takeNumber) (yn m_X10_takeNumber) ∈ TB := tb_sel 45 (by decide +kernel) rfl
theorem in_X10_takeNumber : Cond.initialized (yn m_X10_takeNumber).cls ∈ TB := tw_13
theorem cw_X10_kindHere : Cond.code (yn m_X10_kindHere) (yc m_X10_kindHere) (yl m_X10_kindHere) (yr m_X10_kindHere) ∈ TB := tzc_6 45 (by decide +kernel) rfl
theorem im_X10_kindHere : Cond.instanceMethod (yn m_X10_kindHere) ∈ TB := tzc_6 44 (by decide +kernel) rfl
theorem se_X10_kindHere : Cond.selects (yn m_X10_kindHere).cls (yn m_X10_kindHere) (yn m_X10_kindHere) ∈ TB := tb_sel 42 (by decide +kernel) rfl
theorem in_X10_kindHere : Cond.initialized (yn m_X10_kindHere).cls ∈ TB := tw_13
theorem cw_X10_leastOf : Cond.code (yn m_X10_leastOf) (yc m_X10_leastOf) (yl m_X10_leastOf) (yr m_X10_leastOf) ∈ TB := tzc_6 63 (by decide +kernel) rfl
theorem im_X10_leastOf : Cond.static (yn m_X10_leastOf) ∈ TB := tzc_6 62 (by decide +kernel) rfl
theorem in_X10_leastOf : Cond.initialized (yn m_X10_leastOf).cls ∈ TB := tw_13
theorem cw_X10_mostOf : Cond.code (yn m_X10_mostOf) (yc m_X10_mostOf) (yl m_X10_mostOf) (yr m_X10_mostOf) ∈ TB := tzc_6 66 (by decide +kernel) rfl
theorem im_X10_mostOf : Cond.static (yn m_X10_mostOf) ∈ TB := tzc_6 65 (by decide +kernel) rfl
theorem in_X10_mostOf : Cond.initialized (yn m_X10_mostOf).cls ∈ TB := tw_13
theorem cw_X10_takeClause : Cond.code (yn m_X10_takeClause) (yc m_X10_takeClause) (yl m_X10_takeClause) (yr m_X10_takeClause) ∈ TB := tzc_6 35 (by decide +kernel) rfl
theorem im_X10_takeClause : Cond.instanceMethod (yn m_X10_takeClause) ∈ TB := tzc_6 34 (by decide +kernel) rfl
theorem se_X10_takeClause : Cond.selects (yn m_X10_takeClause).cls (yn m_X10_takeClause) (yn m_X10_takeClause) ∈ TB := tb_sel 40 (by decide +kernel) rfl
theorem in_X10_takeClause : Cond.initialized (yn m_X10_takeClause).cls ∈ TB := tw_13
theorem cw_X10_takeEnd : Cond.code (yn m_X10_takeEnd) (yc m_X10_takeEnd) (yl m_X10_takeEnd) (yr m_X10_takeEnd) ∈ TB := tzc_6 70 (by decide +kernel) rfl
theorem im_X10_takeEnd : Cond.instanceMethod (yn m_X10_takeEnd) ∈ TB := tzc_6 69 (by decide +kernel) rfl
theorem se_X10_takeEnd : Cond.selects (yn m_X10_takeEnd).cls (yn m_X10_takeEnd) (yn m_X10_takeEnd) ∈ TB := tb_sel 46 (by decide +kernel) rfl
theorem in_X10_takeEnd : Cond.initialized (yn m_X10_takeEnd).cls ∈ TB := tw_13
theorem cw_X10_beginReading : Cond.code (yn m_X10_beginReading) (yc m_X10_beginReading) (yl m_X10_beginReading) (yr m_X10_beginReading) ∈ TB := tzc_6 27 (by decide +kernel) rfl
theorem im_X10_beginReading : Cond.instanceMethod (yn m_X10_beginReading) ∈ TB := tzc_6 26 (by decide +kernel) rfl
theorem se_X10_beginReading : Cond.selects (yn m_X10_beginReading).cls (yn m_X10_beginReading) (yn m_X10_beginReading) ∈ TB := tb_sel 38 (by decide +kernel) rfl
theorem in_X10_beginReading : Cond.initialized (yn m_X10_beginReading).cls ∈ TB := tw_13
theorem cw_X10_box : Cond.code (yn m_X10_box) (yc m_X10_box) (yl m_X10_box) (yr m_X10_box) ∈ TB := tzc_6 5 (by decide +kernel) rfl
theorem im_X10_box : Cond.instanceMethod (yn m_X10_box) ∈ TB := tzc_6 3 (by decide +kernel) rfl
theorem se_X10_box : Cond.selects (yn m_X10_box).cls (yn m_X10_box) (yn m_X10_box) ∈ TB := tzc_6 4 (by decide +kernel) rfl
theorem in_X10_box : Cond.initialized (yn m_X10_box).cls ∈ TB := tw_13
theorem cw_X10_day : Cond.code (yn m_X10_day) (yc m_X10_day) (yl m_X10_day) (yr m_X10_day) ∈ TB := tzc_6 74 (by decide +kernel) rfl
theorem im_X10_day : Cond.instanceMethod (yn m_X10_day) ∈ TB := tzc_6 72 (by decide +kernel) rfl
theorem se_X10_day : Cond.selects (yn m_X10_day).cls (yn m_X10_day) (yn m_X10_day) ∈ TB := tzc_6 73 (by decide +kernel) rfl
theorem in_X10_day : Cond.initialized (yn m_X10_day).cls ∈ TB := tw_13
theorem cw_X10_fault : Cond.code (yn m_X10_fault) (yc m_X10_fault) (yl m_X10_fault) (yr m_X10_fault) ∈ TB := tzc_6 78 (by decide +kernel) rfl
theorem im_X10_fault : Cond.instanceMethod (yn m_X10_fault) ∈ TB := tzc_6 76 (by decide +kernel) rfl
theorem se_X10_fault : Cond.selects (yn m_X10_fault).cls (yn m_X10_fault) (yn m_X10_fault) ∈ TB := tzc_6 77 (by decide +kernel) rfl
theorem in_X10_fault : Cond.initialized (yn m_X10_fault).cls ∈ TB := tw_13
theorem cw_X10_told : Cond.code (yn m_X10_told) (yc m_X10_told) (yl m_X10_told) (yr m_X10_told) ∈ TB := tzc_6 82 (by decide +kernel) rfl
theorem im_X10_told : Cond.instanceMethod (yn m_X10_told) ∈ TB := tzc_6 80 (by decide +kernel) rfl
theorem se_X10_told : Cond.selects (yn m_X10_told).cls (yn m_X10_told) (yn m_X10_told) ∈ TB := tzc_6 81 (by decide +kernel) rfl
theorem in_X10_told : Cond.initialized (yn m_X10_told).cls ∈ TB := tw_13
theorem cw_X10_opening : Cond.code (yn m_X10_opening) (yc m_X10_opening) (yl m_X10_opening) (yr m_X10_opening) ∈ TB := tzc_6 87 (by decide +kernel) rfl
theorem im_X10_opening : Cond.instanceMethod (yn m_X10_opening) ∈ TB := tzc_6 85 (by decide +kernel) rfl
theorem se_X10_opening : Cond.selects (yn m_X10_opening).cls (yn m_X10_opening) (yn m_X10_opening) ∈ TB := tzc_6 86 (by decide +kernel) rfl
theorem in_X10_opening : Cond.initialized (yn m_X10_opening).cls ∈ TB := tw_13
theorem cw_X10_copy : Cond.code (yn m_X10_copy) (yc m_X10_copy) (yl m_X10_copy) (yr m_X10_copy) ∈ TB := tzc_7 147 (by decide +kernel) rfl
theorem im_X10_copy : Cond.instanceMethod (yn m_X10_copy) ∈ TB := tzc_7 146 (by decide +kernel) rfl
theorem se_X10_copy : Cond.selects (yn m_X10_copy).cls (yn m_X10_copy) (yn m_X10_copy) ∈ TB := tb_sel 72 (by decide +kernel) rfl
theorem in_X10_copy : Cond.initialized (yn m_X10_copy).cls ∈ TB := tw_13
theorem cw_X10_freshen : Cond.code (yn m_X10_freshen) (yc m_X10_freshen) (yl m_X10_freshen) (yr m_X10_freshen) ∈ TB := tzc_6 16 (by decide +kernel) rfl
theorem im_X10_freshen : Cond.instanceMethod (yn m_X10_freshen) ∈ TB := tzc_6 15 (by decide +kernel) rfl
theorem se_X10_freshen : Cond.selects (yn m_X10_freshen).cls (yn m_X10_freshen) (yn m_X10_freshen) ∈ TB := tb_sel 37 (by decide +kernel) rfl
theorem in_X10_freshen : Cond.initialized (yn m_X10_freshen).cls ∈ TB := tw_13
theorem cw_X10_tryFresh : Cond.code (yn m_X10_tryFresh) (yc m_X10_tryFresh) (yl m_X10_tryFresh) (yr m_X10_tryFresh) ∈ TB := tzc_7 25 (by decide +kernel) rfl
theorem im_X10_tryFresh : Cond.instanceMethod (yn m_X10_tryFresh) ∈ TB := tzc_7 24 (by decide +kernel) rfl
theorem se_X10_tryFresh : Cond.selects (yn m_X10_tryFresh).cls (yn m_X10_tryFresh) (yn m_X10_tryFresh) ∈ TB := tb_sel 63 (by decide +kernel) rfl
theorem in_X10_tryFresh : Cond.initialized (yn m_X10_tryFresh).cls ∈ TB := tw_13
theorem cw_X10_capOf : Cond.code (yn m_X10_capOf) (yc m_X10_capOf) (yl m_X10_capOf) (yr m_X10_capOf) ∈ TB := tzc_6 142 (by decide +kernel) rfl
theorem im_X10_capOf : Cond.instanceMethod (yn m_X10_capOf) ∈ TB := tzc_6 141 (by decide +kernel) rfl
theorem se_X10_capOf : Cond.selects (yn m_X10_capOf).cls (yn m_X10_capOf) (yn m_X10_capOf) ∈ TB := tb_sel 49 (by decide +kernel) rfl
theorem in_X10_capOf : Cond.initialized (yn m_X10_capOf).cls ∈ TB := tw_13
theorem cw_X10_warm : Cond.code (yn m_X10_warm) (yc m_X10_warm) (yl m_X10_warm) (yr m_X10_warm) ∈ TB := tzc_6 138 (by decide +kernel) rfl
theorem im_X10_warm : Cond.instanceMethod (yn m_X10_warm) ∈ TB := tzc_6 137 (by decide +kernel) rfl
theorem se_X10_warm : Cond.selects (yn m_X10_warm).cls (yn m_X10_warm) (yn m_X10_warm) ∈ TB := tb_sel 48 (by decide +kernel) rfl
theorem in_X10_warm : Cond.initialized (yn m_X10_warm).cls ∈ TB := tw_13
theorem cw_X10_isOpen : Cond.code (yn m_X10_isOpen) (yc m_X10_isOpen) (yl m_X10_isOpen) (yr m_X10_isOpen) ∈ TB := tzc_6 169 (by decide +kernel) rfl
theorem im_X10_isOpen : Cond.instanceMethod (yn m_X10_isOpen) ∈ TB := tzc_6 168 (by decide +kernel) rfl
theorem se_X10_isOpen : Cond.selects (yn m_X10_isOpen).cls (yn m_X10_isOpen) (yn m_X10_isOpen) ∈ TB := tb_sel 52 (by decide +kernel) rfl
theorem in_X10_isOpen : Cond.initialized (yn m_X10_isOpen).cls ∈ TB := tw_13
theorem cw_X10_isHour : Cond.code (yn m_X10_isHour) (yc m_X10_isHour) (yl m_X10_isHour) (yr m_X10_isHour) ∈ TB := tzc_6 178 (by decide +kernel) rfl
theorem im_X10_isHour : Cond.static (yn m_X10_isHour) ∈ TB := tzc_6 177 (by decide +kernel) rfl
theorem in_X10_isHour : Cond.initialized (yn m_X10_isHour).cls ∈ TB := tw_13
theorem cw_X10_findFlows : Cond.code (yn m_X10_findFlows) (yc m_X10_findFlows) (yl m_X10_findFlows) (yr m_X10_findFlows) ∈ TB := tzc_6 190 (by decide +kernel) rfl
theorem im_X10_findFlows : Cond.instanceMethod (yn m_X10_findFlows) ∈ TB := tzc_6 189 (by decide +kernel) rfl
theorem se_X10_findFlows : Cond.selects (yn m_X10_findFlows).cls (yn m_X10_findFlows) (yn m_X10_findFlows) ∈ TB := tb_sel 55 (by decide +kernel) rfl
theorem in_X10_findFlows : Cond.initialized (yn m_X10_findFlows).cls ∈ TB := tw_13
theorem cw_X10_wet : Cond.code (yn m_X10_wet) (yc m_X10_wet) (yl m_X10_wet) (yr m_X10_wet) ∈ TB := tzc_6 203 (by decide +kernel) rfl
theorem im_X10_wet : Cond.instanceMethod (yn m_X10_wet) ∈ TB := tzc_6 202 (by decide +kernel) rfl
theorem se_X10_wet : Cond.selects (yn m_X10_wet).cls (yn m_X10_wet) (yn m_X10_wet) ∈ TB := tb_sel 57 (by decide +kernel) rfl
theorem in_X10_wet : Cond.initialized (yn m_X10_wet).cls ∈ TB := tw_13
theorem cw_X10_readBulb : Cond.code (yn m_X10_readBulb) (yc m_X10_readBulb) (yl m_X10_readBulb) (yr m_X10_readBulb) ∈ TB := tzc_6 184 (by decide +kernel) rfl
theorem im_X10_readBulb : Cond.instanceMethod (yn m_X10_readBulb) ∈ TB := tzc_6 183 (by decide +kernel) rfl
theorem se_X10_readBulb : Cond.selects (yn m_X10_readBulb).cls (yn m_X10_readBulb) (yn m_X10_readBulb) ∈ TB := tb_sel 54 (by decide +kernel) rfl
theorem in_X10_readBulb : Cond.initialized (yn m_X10_readBulb).cls ∈ TB := tw_13
theorem cw_X10_moves : Cond.code (yn m_X10_moves) (yc m_X10_moves) (yl m_X10_moves) (yr m_X10_moves) ∈ TB := tzc_6 196 (by decide +kernel) rfl
theorem im_X10_moves : Cond.instanceMethod (yn m_X10_moves) ∈ TB := tzc_6 195 (by decide +kernel) rfl
theorem se_X10_moves : Cond.selects (yn m_X10_moves).cls (yn m_X10_moves) (yn m_X10_moves) ∈ TB := tb_sel 56 (by decide +kernel) rfl
theorem in_X10_moves : Cond.initialized (yn m_X10_moves).cls ∈ TB := tw_13
theorem cw_X10_tick : Cond.code (yn m_X10_tick) (yc m_X10_tick) (yl m_X10_tick) (yr m_X10_tick) ∈ TB := tzc_6 174 (by decide +kernel) rfl
theorem im_X10_tick : Cond.instanceMethod (yn m_X10_tick) ∈ TB := tzc_6 173 (by decide +kernel) rfl
theorem se_X10_tick : Cond.selects (yn m_X10_tick).cls (yn m_X10_tick) (yn m_X10_tick) ∈ TB := tb_sel 53 (by decide +kernel) rfl
theorem in_X10_tick : Cond.initialized (yn m_X10_tick).cls ∈ TB := tw_13
theorem cw_X10_go : Cond.code (yn m_X10_go) (yc m_X10_go) (yl m_X10_go) (yr m_X10_go) ∈ TB := tzc_6 165 (by decide +kernel) rfl
theorem im_X10_go : Cond.instanceMethod (yn m_X10_go) ∈ TB := tzc_6 164 (by decide +kernel) rfl
theorem se_X10_go : Cond.selects (yn m_X10_go).cls (yn m_X10_go) (yn m_X10_go) ∈ TB := tb_sel 51 (by decide +kernel) rfl
theorem in_X10_go : Cond.initialized (yn m_X10_go).cls ∈ TB := tw_13
theorem cw_X10_isSet : Cond.code (yn m_X10_isSet) (yc m_X10_isSet) (yl m_X10_isSet) (yr m_X10_isSet) ∈ TB := tzc_6 94 (by decide +kernel) rfl
theorem im_X10_isSet : Cond.static (yn m_X10_isSet) ∈ TB := tzc_6 93 (by decide +kernel) rfl
theorem in_X10_isSet : Cond.initialized (yn m_X10_isSet).cls ∈ TB := tw_13
theorem cw_X10_isTrouble : Cond.code (yn m_X10_isTrouble) (yc m_X10_isTrouble) (yl m_X10_isTrouble) (yr m_X10_isTrouble) ∈ TB := tzc_7 51 (by decide +kernel) rfl
theorem im_X10_isTrouble : Cond.static (yn m_X10_isTrouble) ∈ TB := tzc_7 50 (by decide +kernel) rfl
theorem in_X10_isTrouble : Cond.initialized (yn m_X10_isTrouble).cls ∈ TB := tw_13
theorem cw_X10_trouble : Cond.code (yn m_X10_trouble) (yc m_X10_trouble) (yl m_X10_trouble) (yr m_X10_trouble) ∈ TB := tzc_6 91 (by decide +kernel) rfl
theorem im_X10_trouble : Cond.instanceMethod (yn m_X10_trouble) ∈ TB := tzc_6 89 (by decide +kernel) rfl
theorem se_X10_trouble : Cond.selects (yn m_X10_trouble).cls (yn m_X10_trouble) (yn m_X10_trouble) ∈ TB := tzc_6 90 (by decide +kernel) rfl
theorem in_X10_trouble : Cond.initialized (yn m_X10_trouble).cls ∈ TB := tw_13
theorem cw_X10_fresh : Cond.code (yn m_X10_fresh) (yc m_X10_fresh) (yl m_X10_fresh) (yr m_X10_fresh) ∈ TB := tzc_6 100 (by decide +kernel) rfl
theorem im_X10_fresh : Cond.instanceMethod (yn m_X10_fresh) ∈ TB := tzc_6 98 (by decide +kernel) rfl
theorem se_X10_fresh : Cond.selects (yn m_X10_fresh).cls (yn m_X10_fresh) (yn m_X10_fresh) ∈ TB := tzc_6 99 (by decide +kernel) rfl
theorem in_X10_fresh : Cond.initialized (yn m_X10_fresh).cls ∈ TB := tw_13
theorem cw_X10_current : Cond.code (yn m_X10_current) (yc m_X10_current) (yl m_X10_current) (yr m_X10_current) ∈ TB := tzc_6 104 (by decide +kernel) rfl
theorem im_X10_current : Cond.instanceMethod (yn m_X10_current) ∈ TB := tzc_6 102 (by decide +kernel) rfl
theorem se_X10_current : Cond.selects (yn m_X10_current).cls (yn m_X10_current) (yn m_X10_current) ∈ TB := tzc_6 103 (by decide +kernel) rfl
theorem in_X10_current : Cond.initialized (yn m_X10_current).cls ∈ TB := tw_13
theorem cw_X10_cover : Cond.code (yn m_X10_cover) (yc m_X10_cover) (yl m_X10_cover) (yr m_X10_cover) ∈ TB := tzc_6 111 (by decide +kernel) rfl
theorem im_X10_cover : Cond.instanceMethod (yn m_X10_cover) ∈ TB := tzc_6 109 (by decide +kernel) rfl
theorem se_X10_cover : Cond.selects (yn m_X10_cover).cls (yn m_X10_cover) (yn m_X10_cover) ∈ TB := tzc_6 110 (by decide +kernel) rfl
theorem in_X10_cover : Cond.initialized (yn m_X10_cover).cls ∈ TB := tw_13
theorem cw_X10_isShelf : Cond.code (yn m_X10_isShelf) (yc m_X10_isShelf) (yl m_X10_isShelf) (yr m_X10_isShelf) ∈ TB := tzc_6 118 (by decide +kernel) rfl
theorem im_X10_isShelf : Cond.static (yn m_X10_isShelf) ∈ TB := tzc_6 117 (by decide +kernel) rfl
theorem in_X10_isShelf : Cond.initialized (yn m_X10_isShelf).cls ∈ TB := tw_13
theorem cw_X10_isFood : Cond.code (yn m_X10_isFood) (yc m_X10_isFood) (yl m_X10_isFood) (yr m_X10_isFood) ∈ TB := tzc_6 133 (by decide +kernel) rfl
theorem im_X10_isFood : Cond.instanceMethod (yn m_X10_isFood) ∈ TB := tzc_6 132 (by decide +kernel) rfl
theorem se_X10_isFood : Cond.selects (yn m_X10_isFood).cls (yn m_X10_isFood) (yn m_X10_isFood) ∈ TB := tb_sel 47 (by decide +kernel) rfl
theorem in_X10_isFood : Cond.initialized (yn m_X10_isFood).cls ∈ TB := tw_13
theorem cw_X10_foods : Cond.code (yn m_X10_foods) (yc m_X10_foods) (yl m_X10_foods) (yr m_X10_foods) ∈ TB := tzc_6 238 (by decide +kernel) rfl
theorem im_X10_foods : Cond.instanceMethod (yn m_X10_foods) ∈ TB := tzc_6 237 (by decide +kernel) rfl
theorem se_X10_foods : Cond.selects (yn m_X10_foods).cls (yn m_X10_foods) (yn m_X10_foods) ∈ TB := tb_sel 60 (by decide +kernel) rfl
theorem in_X10_foods : Cond.initialized (yn m_X10_foods).cls ∈ TB := tw_13
theorem cw_X10_isDegree : Cond.code (yn m_X10_isDegree) (yc m_X10_isDegree) (yl m_X10_isDegree) (yr m_X10_isDegree) ∈ TB := tzc_6 122 (by decide +kernel) rfl
theorem im_X10_isDegree : Cond.static (yn m_X10_isDegree) ∈ TB := tzc_6 121 (by decide +kernel) rfl
theorem in_X10_isDegree : Cond.initialized (yn m_X10_isDegree).cls ∈ TB := tw_13
theorem cw_X10_put : Cond.code (yn m_X10_put) (yc m_X10_put) (yl m_X10_put) (yr m_X10_put) ∈ TB := tzc_6 115 (by decide +kernel) rfl
theorem im_X10_put : Cond.instanceMethod (yn m_X10_put) ∈ TB := tzc_6 113 (by decide +kernel) rfl
theorem se_X10_put : Cond.selects (yn m_X10_put).cls (yn m_X10_put) (yn m_X10_put) ∈ TB := tzc_6 114 (by decide +kernel) rfl
theorem in_X10_put : Cond.initialized (yn m_X10_put).cls ∈ TB := tw_13
theorem cw_X10_take : Cond.code (yn m_X10_take) (yc m_X10_take) (yl m_X10_take) (yr m_X10_take) ∈ TB := tzc_6 129 (by decide +kernel) rfl
theorem im_X10_take : Cond.instanceMethod (yn m_X10_take) ∈ TB := tzc_6 127 (by decide +kernel) rfl
theorem se_X10_take : Cond.selects (yn m_X10_take).cls (yn m_X10_take) (yn m_X10_take) ∈ TB := tzc_6 128 (by decide +kernel) rfl
theorem in_X10_take : Cond.initialized (yn m_X10_take).cls ∈ TB := tw_13
theorem cw_X10_lay : Cond.code (yn m_X10_lay) (yc m_X10_lay) (yl m_X10_lay) (yr m_X10_lay) ∈ TB := tzc_6 148 (by decide +kernel) rfl
theorem im_X10_lay : Cond.instanceMethod (yn m_X10_lay) ∈ TB := tzc_6 146 (by decide +kernel) rfl
theorem se_X10_lay : Cond.selects (yn m_X10_lay).cls (yn m_X10_lay) (yn m_X10_lay) ∈ TB := tzc_6 147 (by decide +kernel) rfl
theorem in_X10_lay : Cond.initialized (yn m_X10_lay).cls ∈ TB := tw_13
theorem cw_X10_isWithin : Cond.code (yn m_X10_isWithin) (yc m_X10_isWithin) (yl m_X10_isWithin) (yr m_X10_isWithin) ∈ TB := tzc_6 156 (by decide +kernel) rfl
theorem im_X10_isWithin : Cond.instanceMethod (yn m_X10_isWithin) ∈ TB := tzc_6 155 (by decide +kernel) rfl
theorem se_X10_isWithin : Cond.selects (yn m_X10_isWithin).cls (yn m_X10_isWithin) (yn m_X10_isWithin) ∈ TB := tb_sel 50 (by decide +kernel) rfl
theorem in_X10_isWithin : Cond.initialized (yn m_X10_isWithin).cls ∈ TB := tw_13
theorem cw_X10_food : Cond.code (yn m_X10_food) (yc m_X10_food) (yl m_X10_food) (yr m_X10_food) ∈ TB := tzc_6 152 (by decide +kernel) rfl
theorem im_X10_food : Cond.instanceMethod (yn m_X10_food) ∈ TB := tzc_6 150 (by decide +kernel) rfl
theorem se_X10_food : Cond.selects (yn m_X10_food).cls (yn m_X10_food) (yn m_X10_food) ∈ TB := tzc_6 151 (by decide +kernel) rfl
theorem in_X10_food : Cond.initialized (yn m_X10_food).cls ∈ TB := tw_13
theorem cw_X10_run : Cond.code (yn m_X10_run) (yc m_X10_run) (yl m_X10_run) (yr m_X10_run) ∈ TB := tzc_6 160 (by decide +kernel) rfl
theorem im_X10_run : Cond.instanceMethod (yn m_X10_run) ∈ TB := tzc_6 158 (by decide +kernel) rfl
theorem se_X10_run : Cond.selects (yn m_X10_run).cls (yn m_X10_run) (yn m_X10_run) ∈ TB := tzc_6 159 (by decide +kernel) rfl
theorem in_X10_run : Cond.initialized (yn m_X10_run).cls ∈ TB := tw_13
theorem cw_X10_draw : Cond.code (yn m_X10_draw) (yc m_X10_draw) (yl m_X10_draw) (yr m_X10_draw) ∈ TB := tzc_6 216 (by decide +kernel) rfl
theorem im_X10_draw : Cond.instanceMethod (yn m_X10_draw) ∈ TB := tzc_6 215 (by decide +kernel) rfl
theorem se_X10_draw : Cond.selects (yn m_X10_draw).cls (yn m_X10_draw) (yn m_X10_draw) ∈ TB := tb_sel 59 (by decide +kernel) rfl
theorem in_X10_draw : Cond.initialized (yn m_X10_draw).cls ∈ TB := tw_13
theorem cw_X10_drawDay : Cond.code (yn m_X10_drawDay) (yc m_X10_drawDay) (yl m_X10_drawDay) (yr m_X10_drawDay) ∈ TB := tzc_6 212 (by decide +kernel) rfl
theorem im_X10_drawDay : Cond.instanceMethod (yn m_X10_drawDay) ∈ TB := tzc_6 211 (by decide +kernel) rfl
theorem se_X10_drawDay : Cond.selects (yn m_X10_drawDay).cls (yn m_X10_drawDay) (yn m_X10_drawDay) ∈ TB := tb_sel 58 (by decide +kernel) rfl
theorem in_X10_drawDay : Cond.initialized (yn m_X10_drawDay).cls ∈ TB := tw_13
theorem cw_X10_drawn : Cond.code (yn m_X10_drawn) (yc m_X10_drawn) (yl m_X10_drawn) (yr m_X10_drawn) ∈ TB := tzc_6 208 (by decide +kernel) rfl
theorem im_X10_drawn : Cond.instanceMethod (yn m_X10_drawn) ∈ TB := tzc_6 206 (by decide +kernel) rfl
theorem se_X10_drawn : Cond.selects (yn m_X10_drawn).cls (yn m_X10_drawn) (yn m_X10_drawn) ∈ TB := tzc_6 207 (by decide +kernel) rfl
theorem in_X10_drawn : Cond.initialized (yn m_X10_drawn).cls ∈ TB := tw_13
theorem cw_X10_warmth : Cond.code (yn m_X10_warmth) (yc m_X10_warmth) (yl m_X10_warmth) (yr m_X10_warmth) ∈ TB := tzc_6 224 (by decide +kernel) rfl
theorem im_X10_warmth : Cond.instanceMethod (yn m_X10_warmth) ∈ TB := tzc_6 222 (by decide +kernel) rfl
theorem se_X10_warmth : Cond.selects (yn m_X10_warmth).cls (yn m_X10_warmth) (yn m_X10_warmth) ∈ TB := tzc_6 223 (by decide +kernel) rfl
theorem in_X10_warmth : Cond.initialized (yn m_X10_warmth).cls ∈ TB := tw_13
theorem cw_X10_heat : Cond.code (yn m_X10_heat) (yc m_X10_heat) (yl m_X10_heat) (yr m_X10_heat) ∈ TB := tzc_6 229 (by decide +kernel) rfl
theorem im_X10_heat : Cond.instanceMethod (yn m_X10_heat) ∈ TB := tzc_6 227 (by decide +kernel) rfl
theorem se_X10_heat : Cond.selects (yn m_X10_heat).cls (yn m_X10_heat) (yn m_X10_heat) ∈ TB := tzc_6 228 (by decide +kernel) rfl
theorem in_X10_heat : Cond.initialized (yn m_X10_heat).cls ∈ TB := tw_13
theorem cw_X10_count : Cond.code (yn m_X10_count) (yc m_X10_count) (yl m_X10_count) (yr m_X10_count) ∈ TB := tzc_6 234 (by decide +kernel) rfl
theorem im_X10_count : Cond.instanceMethod (yn m_X10_count) ∈ TB := tzc_6 232 (by decide +kernel) rfl
theorem se_X10_count : Cond.selects (yn m_X10_count).cls (yn m_X10_count) (yn m_X10_count) ∈ TB := tzc_6 233 (by decide +kernel) rfl
theorem in_X10_count : Cond.initialized (yn m_X10_count).cls ∈ TB := tw_13
theorem cw_X10_melt : Cond.code (yn m_X10_melt) (yc m_X10_melt) (yl m_X10_melt) (yr m_X10_melt) ∈ TB := tzc_7 6 (by decide +kernel) rfl
theorem im_X10_melt : Cond.instanceMethod (yn m_X10_melt) ∈ TB := tzc_7 5 (by decide +kernel) rfl
theorem se_X10_melt : Cond.selects (yn m_X10_melt).cls (yn m_X10_melt) (yn m_X10_melt) ∈ TB := tb_sel 61 (by decide +kernel) rfl
theorem in_X10_melt : Cond.initialized (yn m_X10_melt).cls ∈ TB := tw_13
theorem cw_X10_thaw : Cond.code (yn m_X10_thaw) (yc m_X10_thaw) (yl m_X10_thaw) (yr m_X10_thaw) ∈ TB := tzc_7 2 (by decide +kernel) rfl
theorem im_X10_thaw : Cond.instanceMethod (yn m_X10_thaw) ∈ TB := tzc_7 0 (by decide +kernel) rfl
theorem se_X10_thaw : Cond.selects (yn m_X10_thaw).cls (yn m_X10_thaw) (yn m_X10_thaw) ∈ TB := tzc_7 1 (by decide +kernel) rfl
theorem in_X10_thaw : Cond.initialized (yn m_X10_thaw).cls ∈ TB := tw_13
theorem cw_X10_signOf : Cond.code (yn m_X10_signOf) (yc m_X10_signOf) (yl m_X10_signOf) (yr m_X10_signOf) ∈ TB := tzc_7 29 (by decide +kernel) rfl
theorem im_X10_signOf : Cond.instanceMethod (yn m_X10_signOf) ∈ TB := tzc_7 28 (by decide +kernel) rfl
theorem se_X10_signOf : Cond.selects (yn m_X10_signOf).cls (yn m_X10_signOf) (yn m_X10_signOf) ∈ TB := tb_sel 64 (by decide +kernel) rfl
theorem in_X10_signOf : Cond.initialized (yn m_X10_signOf).cls ∈ TB := tw_13
theorem cw_X10_findSigns : Cond.code (yn m_X10_findSigns) (yc m_X10_findSigns) (yl m_X10_findSigns) (yr m_X10_findSigns) ∈ TB := tzc_7 21 (by decide +kernel) rfl
theorem im_X10_findSigns : Cond.instanceMethod (yn m_X10_findSigns) ∈ TB := tzc_7 20 (by decide +kernel) rfl
theorem se_X10_findSigns : Cond.selects (yn m_X10_findSigns).cls (yn m_X10_findSigns) (yn m_X10_findSigns) ∈ TB := tb_sel 62 (by decide +kernel) rfl
theorem in_X10_findSigns : Cond.initialized (yn m_X10_findSigns).cls ∈ TB := tw_13
theorem cw_X10_isSign : Cond.code (yn m_X10_isSign) (yc m_X10_isSign) (yl m_X10_isSign) (yr m_X10_isSign) ∈ TB := tzc_7 13 (by decide +kernel) rfl
theorem im_X10_isSign : Cond.static (yn m_X10_isSign) ∈ TB := tzc_7 12 (by decide +kernel) rfl
theorem in_X10_isSign : Cond.initialized (yn m_X10_isSign).cls ∈ TB := tw_13
theorem cw_X10_areDays : Cond.code (yn m_X10_areDays) (yc m_X10_areDays) (yl m_X10_areDays) (yr m_X10_areDays) ∈ TB := tzc_7 17 (by decide +kernel) rfl
theorem im_X10_areDays : Cond.static (yn m_X10_areDays) ∈ TB := tzc_7 16 (by decide +kernel) rfl
theorem in_X10_areDays : Cond.initialized (yn m_X10_areDays).cls ∈ TB := tw_13
theorem cw_X10_sign : Cond.code (yn m_X10_sign) (yc m_X10_sign) (yl m_X10_sign) (yr m_X10_sign) ∈ TB := tzc_7 10 (by decide +kernel) rfl
theorem im_X10_sign : Cond.instanceMethod (yn m_X10_sign) ∈ TB := tzc_7 8 (by decide +kernel) rfl
theorem se_X10_sign : Cond.selects (yn m_X10_sign).cls (yn m_X10_sign) (yn m_X10_sign) ∈ TB := tzc_7 9 (by decide +kernel) rfl
theorem in_X10_sign : Cond.initialized (yn m_X10_sign).cls ∈ TB := tw_13
theorem cw_X10_seens : Cond.code (yn m_X10_seens) (yc m_X10_seens) (yl m_X10_seens) (yr m_X10_seens) ∈ TB := tzc_7 40 (by decide +kernel) rfl
theorem im_X10_seens : Cond.instanceMethod (yn m_X10_seens) ∈ TB := tzc_7 39 (by decide +kernel) rfl
theorem se_X10_seens : Cond.selects (yn m_X10_seens).cls (yn m_X10_seens) (yn m_X10_seens) ∈ TB := tb_sel 65 (by decide +kernel) rfl
theorem in_X10_seens : Cond.initialized (yn m_X10_seens).cls ∈ TB := tw_13
theorem cw_X10_seen : Cond.code (yn m_X10_seen) (yc m_X10_seen) (yl m_X10_seen) (yr m_X10_seen) ∈ TB := tzc_7 33 (by decide +kernel) rfl
theorem im_X10_seen : Cond.instanceMethod (yn m_X10_seen) ∈ TB := tzc_7 31 (by decide +kernel) rfl
theorem se_X10_seen : Cond.selects (yn m_X10_seen).cls (yn m_X10_seen) (yn m_X10_seen) ∈ TB := tzc_7 32 (by decide +kernel) rfl
theorem in_X10_seen : Cond.initialized (yn m_X10_seen).cls ∈ TB := tw_13
theorem cw_X10_forget : Cond.code (yn m_X10_forget) (yc m_X10_forget) (yl m_X10_forget) (yr m_X10_forget) ∈ TB := tzc_7 44 (by decide +kernel) rfl
theorem im_X10_forget : Cond.instanceMethod (yn m_X10_forget) ∈ TB := tzc_7 42 (by decide +kernel) rfl
theorem se_X10_forget : Cond.selects (yn m_X10_forget).cls (yn m_X10_forget) (yn m_X10_forget) ∈ TB := tzc_7 43 (by decide +kernel) rfl
theorem in_X10_forget : Cond.initialized (yn m_X10_forget).cls ∈ TB := tw_13
theorem cw_X10_prior : Cond.code (yn m_X10_prior) (yc m_X10_prior) (yl m_X10_prior) (yr m_X10_prior) ∈ TB := tzc_7 48 (by decide +kernel) rfl
theorem im_X10_prior : Cond.instanceMethod (yn m_X10_prior) ∈ TB := tzc_7 46 (by decide +kernel) rfl
theorem se_X10_prior : Cond.selects (yn m_X10_prior).cls (yn m_X10_prior) (yn m_X10_prior) ∈ TB := tzc_7 47 (by decide +kernel) rfl
theorem in_X10_prior : Cond.initialized (yn m_X10_prior).cls ∈ TB := tw_13
theorem cw_X10_bother : Cond.code (yn m_X10_bother) (yc m_X10_bother) (yl m_X10_bother) (yr m_X10_bother) ∈ TB := tzc_7 55 (by decide +kernel) rfl
theorem im_X10_bother : Cond.instanceMethod (yn m_X10_bother) ∈ TB := tzc_7 53 (by decide +kernel) rfl
theorem se_X10_bother : Cond.selects (yn m_X10_bother).cls (yn m_X10_bother) (yn m_X10_bother) ∈ TB := tzc_7 54 (by decide +kernel) rfl
theorem in_X10_bother : Cond.initialized (yn m_X10_bother).cls ∈ TB := tw_13
theorem cw_X10_couldBe : Cond.code (yn m_X10_couldBe) (yc m_X10_couldBe) (yl m_X10_couldBe) (yr m_X10_couldBe) ∈ TB := tzc_7 62 (by decide +kernel) rfl
theorem im_X10_couldBe : Cond.static (yn m_X10_couldBe) ∈ TB := tzc_7 61 (by decide +kernel) rfl
theorem in_X10_couldBe : Cond.initialized (yn m_X10_couldBe).cls ∈ TB := tw_13
theorem cw_X10_weightOf : Cond.code (yn m_X10_weightOf) (yc m_X10_weightOf) (yl m_X10_weightOf) (yr m_X10_weightOf) ∈ TB := tzc_7 73 (by decide +kernel) rfl
theorem im_X10_weightOf : Cond.instanceMethod (yn m_X10_weightOf) ∈ TB := tzc_7 72 (by decide +kernel) rfl
theorem se_X10_weightOf : Cond.selects (yn m_X10_weightOf).cls (yn m_X10_weightOf) (yn m_X10_weightOf) ∈ TB := tb_sel 67 (by decide +kernel) rfl
theorem in_X10_weightOf : Cond.initialized (yn m_X10_weightOf).cls ∈ TB := tw_13
theorem cw_X10_weigh : Cond.code (yn m_X10_weigh) (yc m_X10_weigh) (yl m_X10_weigh) (yr m_X10_weigh) ∈ TB := tzc_7 69 (by decide +kernel) rfl
theorem im_X10_weigh : Cond.instanceMethod (yn m_X10_weigh) ∈ TB := tzc_7 68 (by decide +kernel) rfl
theorem se_X10_weigh : Cond.selects (yn m_X10_weigh).cls (yn m_X10_weigh) (yn m_X10_weigh) ∈ TB := tb_sel 66 (by decide +kernel) rfl
theorem in_X10_weigh : Cond.initialized (yn m_X10_weigh).cls ∈ TB := tw_13
theorem cw_X10_oddsOf : Cond.code (yn m_X10_oddsOf) (yc m_X10_oddsOf) (yl m_X10_oddsOf) (yr m_X10_oddsOf) ∈ TB := tzc_7 78 (by decide +kernel) rfl
theorem im_X10_oddsOf : Cond.instanceMethod (yn m_X10_oddsOf) ∈ TB := tzc_7 77 (by decide +kernel) rfl
theorem se_X10_oddsOf : Cond.selects (yn m_X10_oddsOf).cls (yn m_X10_oddsOf) (yn m_X10_oddsOf) ∈ TB := tb_sel 68 (by decide +kernel) rfl
theorem in_X10_oddsOf : Cond.initialized (yn m_X10_oddsOf).cls ∈ TB := tw_13
theorem cw_X10_odds : Cond.code (yn m_X10_odds) (yc m_X10_odds) (yl m_X10_odds) (yr m_X10_odds) ∈ TB := tzc_7 59 (by decide +kernel) rfl
theorem im_X10_odds : Cond.instanceMethod (yn m_X10_odds) ∈ TB := tzc_7 57 (by decide +kernel) rfl
theorem se_X10_odds : Cond.selects (yn m_X10_odds).cls (yn m_X10_odds) (yn m_X10_odds) ∈ TB := tzc_7 58 (by decide +kernel) rfl
theorem in_X10_odds : Cond.initialized (yn m_X10_odds).cls ∈ TB := tw_13
theorem cw_X10_each : Cond.code (yn m_X10_each) (yc m_X10_each) (yl m_X10_each) (yr m_X10_each) ∈ TB := tzc_7 82 (by decide +kernel) rfl
theorem im_X10_each : Cond.instanceMethod (yn m_X10_each) ∈ TB := tzc_7 80 (by decide +kernel) rfl
theorem se_X10_each : Cond.selects (yn m_X10_each).cls (yn m_X10_each) (yn m_X10_each) ∈ TB := tzc_7 81 (by decide +kernel) rfl
theorem in_X10_each : Cond.initialized (yn m_X10_each).cls ∈ TB := tw_13
theorem cw_X10_tellsOf : Cond.code (yn m_X10_tellsOf) (yc m_X10_tellsOf) (yl m_X10_tellsOf) (yr m_X10_tellsOf) ∈ TB := tzc_7 90 (by decide +kernel) rfl
theorem im_X10_tellsOf : Cond.instanceMethod (yn m_X10_tellsOf) ∈ TB := tzc_7 89 (by decide +kernel) rfl
theorem se_X10_tellsOf : Cond.selects (yn m_X10_tellsOf).cls (yn m_X10_tellsOf) (yn m_X10_tellsOf) ∈ TB := tb_sel 69 (by decide +kernel) rfl
theorem in_X10_tellsOf : Cond.initialized (yn m_X10_tellsOf).cls ∈ TB := tw_13
theorem cw_X10_tells : Cond.code (yn m_X10_tells) (yc m_X10_tells) (yl m_X10_tells) (yr m_X10_tells) ∈ TB := tzc_7 86 (by decide +kernel) rfl
theorem im_X10_tells : Cond.instanceMethod (yn m_X10_tells) ∈ TB := tzc_7 84 (by decide +kernel) rfl
theorem se_X10_tells : Cond.selects (yn m_X10_tells).cls (yn m_X10_tells) (yn m_X10_tells) ∈ TB := tzc_7 85 (by decide +kernel) rfl
theorem in_X10_tells : Cond.initialized (yn m_X10_tells).cls ∈ TB := tw_13
theorem cw_X10_next : Cond.code (yn m_X10_next) (yc m_X10_next) (yl m_X10_next) (yr m_X10_next) ∈ TB := tzc_7 94 (by decide +kernel) rfl
theorem im_X10_next : Cond.instanceMethod (yn m_X10_next) ∈ TB := tzc_7 92 (by decide +kernel) rfl
theorem se_X10_next : Cond.selects (yn m_X10_next).cls (yn m_X10_next) (yn m_X10_next) ∈ TB := tzc_7 93 (by decide +kernel) rfl
theorem in_X10_next : Cond.initialized (yn m_X10_next).cls ∈ TB := tw_13
theorem cw_X10_makes : Cond.code (yn m_X10_makes) (yc m_X10_makes) (yl m_X10_makes) (yr m_X10_makes) ∈ TB := tzc_7 98 (by decide +kernel) rfl
theorem im_X10_makes : Cond.instanceMethod (yn m_X10_makes) ∈ TB := tzc_7 96 (by decide +kernel) rfl
theorem se_X10_makes : Cond.selects (yn m_X10_makes).cls (yn m_X10_makes) (yn m_X10_makes) ∈ TB := tzc_7 97 (by decide +kernel) rfl
theorem in_X10_makes : Cond.initialized (yn m_X10_makes).cls ∈ TB := tw_13
theorem cw_X10_mending : Cond.code (yn m_X10_mending) (yc m_X10_mending) (yl m_X10_mending) (yr m_X10_mending) ∈ TB := tzc_7 102 (by decide +kernel) rfl
theorem im_X10_mending : Cond.instanceMethod (yn m_X10_mending) ∈ TB := tzc_7 100 (by decide +kernel) rfl
theorem se_X10_mending : Cond.selects (yn m_X10_mending).cls (yn m_X10_mending) (yn m_X10_mending) ∈ TB := tzc_7 101 (by decide +kernel) rfl
theorem in_X10_mending : Cond.initialized (yn m_X10_mending).cls ∈ TB := tw_13
theorem cw_X10_price : Cond.code (yn m_X10_price) (yc m_X10_price) (yl m_X10_price) (yr m_X10_price) ∈ TB := tzc_7 106 (by decide +kernel) rfl
theorem im_X10_price : Cond.instanceMethod (yn m_X10_price) ∈ TB := tzc_7 104 (by decide +kernel) rfl
theorem se_X10_price : Cond.selects (yn m_X10_price).cls (yn m_X10_price) (yn m_X10_price) ∈ TB := tzc_7 105 (by decide +kernel) rfl
theorem in_X10_price : Cond.initialized (yn m_X10_price).cls ∈ TB := tw_13
theorem cw_X10_yearOf : Cond.code (yn m_X10_yearOf) (yc m_X10_yearOf) (yl m_X10_yearOf) (yr m_X10_yearOf) ∈ TB := tzc_7 114 (by decide +kernel) rfl
theorem im_X10_yearOf : Cond.instanceMethod (yn m_X10_yearOf) ∈ TB := tzc_7 113 (by decide +kernel) rfl
theorem se_X10_yearOf : Cond.selects (yn m_X10_yearOf).cls (yn m_X10_yearOf) (yn m_X10_yearOf) ∈ TB := tb_sel 70 (by decide +kernel) rfl
theorem in_X10_yearOf : Cond.initialized (yn m_X10_yearOf).cls ∈ TB := tw_13
theorem cw_X10_year : Cond.code (yn m_X10_year) (yc m_X10_year) (yl m_X10_year) (yr m_X10_year) ∈ TB := tzc_7 110 (by decide +kernel) rfl
theorem im_X10_year : Cond.instanceMethod (yn m_X10_year) ∈ TB := tzc_7 108 (by decide +kernel) rfl
theorem se_X10_year : Cond.selects (yn m_X10_year).cls (yn m_X10_year) (yn m_X10_year) ∈ TB := tzc_7 109 (by decide +kernel) rfl
theorem in_X10_year : Cond.initialized (yn m_X10_year).cls ∈ TB := tw_13
theorem cw_X10_saves : Cond.code (yn m_X10_saves) (yc m_X10_saves) (yl m_X10_saves) (yr m_X10_saves) ∈ TB := tzc_7 119 (by decide +kernel) rfl
theorem im_X10_saves : Cond.instanceMethod (yn m_X10_saves) ∈ TB := tzc_7 117 (by decide +kernel) rfl
theorem se_X10_saves : Cond.selects (yn m_X10_saves).cls (yn m_X10_saves) (yn m_X10_saves) ∈ TB := tzc_7 118 (by decide +kernel) rfl
theorem in_X10_saves : Cond.initialized (yn m_X10_saves).cls ∈ TB := tw_13
theorem cw_X10_best : Cond.code (yn m_X10_best) (yc m_X10_best) (yl m_X10_best) (yr m_X10_best) ∈ TB := tzc_7 124 (by decide +kernel) rfl
theorem im_X10_best : Cond.instanceMethod (yn m_X10_best) ∈ TB := tzc_7 122 (by decide +kernel) rfl
theorem se_X10_best : Cond.selects (yn m_X10_best).cls (yn m_X10_best) (yn m_X10_best) ∈ TB := tzc_7 123 (by decide +kernel) rfl
theorem in_X10_best : Cond.initialized (yn m_X10_best).cls ∈ TB := tw_13
theorem cw_X10_pays : Cond.code (yn m_X10_pays) (yc m_X10_pays) (yl m_X10_pays) (yr m_X10_pays) ∈ TB := tzc_7 128 (by decide +kernel) rfl
theorem im_X10_pays : Cond.instanceMethod (yn m_X10_pays) ∈ TB := tzc_7 126 (by decide +kernel) rfl
theorem se_X10_pays : Cond.selects (yn m_X10_pays).cls (yn m_X10_pays) (yn m_X10_pays) ∈ TB := tzc_7 127 (by decide +kernel) rfl
theorem in_X10_pays : Cond.initialized (yn m_X10_pays).cls ∈ TB := tw_13
theorem cw_X10_iceOf : Cond.code (yn m_X10_iceOf) (yc m_X10_iceOf) (yl m_X10_iceOf) (yr m_X10_iceOf) ∈ TB := tzc_7 136 (by decide +kernel) rfl
theorem im_X10_iceOf : Cond.instanceMethod (yn m_X10_iceOf) ∈ TB := tzc_7 135 (by decide +kernel) rfl
theorem se_X10_iceOf : Cond.selects (yn m_X10_iceOf).cls (yn m_X10_iceOf) (yn m_X10_iceOf) ∈ TB := tb_sel 71 (by decide +kernel) rfl
theorem in_X10_iceOf : Cond.initialized (yn m_X10_iceOf).cls ∈ TB := tw_13
theorem cw_X10_ice : Cond.code (yn m_X10_ice) (yc m_X10_ice) (yl m_X10_ice) (yr m_X10_ice) ∈ TB := tzc_7 132 (by decide +kernel) rfl
theorem im_X10_ice : Cond.instanceMethod (yn m_X10_ice) ∈ TB := tzc_7 130 (by decide +kernel) rfl
theorem se_X10_ice : Cond.selects (yn m_X10_ice).cls (yn m_X10_ice) (yn m_X10_ice) ∈ TB := tzc_7 131 (by decide +kernel) rfl
theorem in_X10_ice : Cond.initialized (yn m_X10_ice).cls ∈ TB := tw_13
theorem cw_X10_within : Cond.code (yn m_X10_within) (yc m_X10_within) (yl m_X10_within) (yr m_X10_within) ∈ TB := tzc_7 158 (by decide +kernel) rfl
theorem im_X10_within : Cond.instanceMethod (yn m_X10_within) ∈ TB := tzc_7 157 (by decide +kernel) rfl
theorem se_X10_within : Cond.selects (yn m_X10_within).cls (yn m_X10_within) (yn m_X10_within) ∈ TB := tb_sel 74 (by decide +kernel) rfl
theorem in_X10_within : Cond.initialized (yn m_X10_within).cls ∈ TB := tw_13
theorem cw_X10_powerOf3 : Cond.code (yn m_X10_powerOf3) (yc m_X10_powerOf3) (yl m_X10_powerOf3) (yr m_X10_powerOf3) ∈ TB := tzc_7 143 (by decide +kernel) rfl
theorem im_X10_powerOf3 : Cond.static (yn m_X10_powerOf3) ∈ TB := tzc_7 142 (by decide +kernel) rfl
theorem in_X10_powerOf3 : Cond.initialized (yn m_X10_powerOf3).cls ∈ TB := tw_13
theorem cw_X10_rowAt : Cond.code (yn m_X10_rowAt) (yc m_X10_rowAt) (yl m_X10_rowAt) (yr m_X10_rowAt) ∈ TB := tzc_7 154 (by decide +kernel) rfl
theorem im_X10_rowAt : Cond.static (yn m_X10_rowAt) ∈ TB := tzc_7 153 (by decide +kernel) rfl
theorem in_X10_rowAt : Cond.initialized (yn m_X10_rowAt).cls ∈ TB := tw_13
theorem cw_X10_placeOf : Cond.code (yn m_X10_placeOf) (yc m_X10_placeOf) (yl m_X10_placeOf) (yr m_X10_placeOf) ∈ TB := tzc_7 151 (by decide +kernel) rfl
theorem im_X10_placeOf : Cond.instanceMethod (yn m_X10_placeOf) ∈ TB := tzc_7 150 (by decide +kernel) rfl
theorem se_X10_placeOf : Cond.selects (yn m_X10_placeOf).cls (yn m_X10_placeOf) (yn m_X10_placeOf) ∈ TB := tb_sel 73 (by decide +kernel) rfl
theorem in_X10_placeOf : Cond.initialized (yn m_X10_placeOf).cls ∈ TB := tw_13
theorem cw_X10_lying : Cond.code (yn m_X10_lying) (yc m_X10_lying) (yl m_X10_lying) (yr m_X10_lying) ∈ TB := tzc_7 140 (by decide +kernel) rfl
theorem im_X10_lying : Cond.instanceMethod (yn m_X10_lying) ∈ TB := tzc_7 138 (by decide +kernel) rfl
theorem se_X10_lying : Cond.selects (yn m_X10_lying).cls (yn m_X10_lying) (yn m_X10_lying) ∈ TB := tzc_7 139 (by decide +kernel) rfl
theorem in_X10_lying : Cond.initialized (yn m_X10_lying).cls ∈ TB := tw_13
theorem cw_X10_bulb : Cond.code (yn m_X10_bulb) (yc m_X10_bulb) (yl m_X10_bulb) (yr m_X10_bulb) ∈ TB := tzc_7 162 (by decide +kernel) rfl
theorem im_X10_bulb : Cond.instanceMethod (yn m_X10_bulb) ∈ TB := tzc_7 160 (by decide +kernel) rfl
theorem se_X10_bulb : Cond.selects (yn m_X10_bulb).cls (yn m_X10_bulb) (yn m_X10_bulb) ∈ TB := tzc_7 161 (by decide +kernel) rfl
theorem in_X10_bulb : Cond.initialized (yn m_X10_bulb).cls ∈ TB := tw_13
theorem cw_X10_without : Cond.code (yn m_X10_without) (yc m_X10_without) (yl m_X10_without) (yr m_X10_without) ∈ TB := tzc_7 166 (by decide +kernel) rfl
theorem im_X10_without : Cond.instanceMethod (yn m_X10_without) ∈ TB := tzc_7 164 (by decide +kernel) rfl
theorem se_X10_without : Cond.selects (yn m_X10_without).cls (yn m_X10_without) (yn m_X10_without) ∈ TB := tzc_7 165 (by decide +kernel) rfl
theorem in_X10_without : Cond.initialized (yn m_X10_without).cls ∈ TB := tw_13
theorem cw_X10_cheap : Cond.code (yn m_X10_cheap) (yc m_X10_cheap) (yl m_X10_cheap) (yr m_X10_cheap) ∈ TB := tzc_7 170 (by decide +kernel) rfl
theorem im_X10_cheap : Cond.instanceMethod (yn m_X10_cheap) ∈ TB := tzc_7 168 (by decide +kernel) rfl
theorem se_X10_cheap : Cond.selects (yn m_X10_cheap).cls (yn m_X10_cheap) (yn m_X10_cheap) ∈ TB := tzc_7 169 (by decide +kernel) rfl
theorem in_X10_cheap : Cond.initialized (yn m_X10_cheap).cls ∈ TB := tw_13
theorem cw_X10_paid : Cond.code (yn m_X10_paid) (yc m_X10_paid) (yl m_X10_paid) (yr m_X10_paid) ∈ TB := tzc_7 180 (by decide +kernel) rfl
theorem im_X10_paid : Cond.instanceMethod (yn m_X10_paid) ∈ TB := tzc_7 179 (by decide +kernel) rfl
theorem se_X10_paid : Cond.selects (yn m_X10_paid).cls (yn m_X10_paid) (yn m_X10_paid) ∈ TB := tb_sel 75 (by decide +kernel) rfl
theorem in_X10_paid : Cond.initialized (yn m_X10_paid).cls ∈ TB := tw_13
theorem cw_X10_store : Cond.code (yn m_X10_store) (yc m_X10_store) (yl m_X10_store) (yr m_X10_store) ∈ TB := tzc_7 175 (by decide +kernel) rfl
theorem im_X10_store : Cond.instanceMethod (yn m_X10_store) ∈ TB := tzc_7 173 (by decide +kernel) rfl
theorem se_X10_store : Cond.selects (yn m_X10_store).cls (yn m_X10_store) (yn m_X10_store) ∈ TB := tzc_7 174 (by decide +kernel) rfl
theorem in_X10_store : Cond.initialized (yn m_X10_store).cls ∈ TB := tw_13
theorem cw_X10_seed : Cond.code (yn m_X10_seed) (yc m_X10_seed) (yl m_X10_seed) (yr m_X10_seed) ∈ TB := tzc_7 184 (by decide +kernel) rfl
theorem im_X10_seed : Cond.instanceMethod (yn m_X10_seed) ∈ TB := tzc_7 182 (by decide +kernel) rfl
theorem se_X10_seed : Cond.selects (yn m_X10_seed).cls (yn m_X10_seed) (yn m_X10_seed) ∈ TB := tzc_7 183 (by decide +kernel) rfl
theorem in_X10_seed : Cond.initialized (yn m_X10_seed).cls ∈ TB := tw_13
theorem cw_X10_keep : Cond.code (yn m_X10_keep) (yc m_X10_keep) (yl m_X10_keep) (yr m_X10_keep) ∈ TB := tzc_7 188 (by decide +kernel) rfl
theorem im_X10_keep : Cond.instanceMethod (yn m_X10_keep) ∈ TB := tzc_7 186 (by decide +kernel) rfl
theorem se_X10_keep : Cond.selects (yn m_X10_keep).cls (yn m_X10_keep) (yn m_X10_keep) ∈ TB := tzc_7 187 (by decide +kernel) rfl
theorem in_X10_keep : Cond.initialized (yn m_X10_keep).cls ∈ TB := tw_13
theorem cw_X10_goBack : Cond.code (yn m_X10_goBack) (yc m_X10_goBack) (yl m_X10_goBack) (yr m_X10_goBack) ∈ TB := tzc_7 192 (by decide +kernel) rfl
theorem im_X10_goBack : Cond.instanceMethod (yn m_X10_goBack) ∈ TB := tzc_7 190 (by decide +kernel) rfl
theorem se_X10_goBack : Cond.selects (yn m_X10_goBack).cls (yn m_X10_goBack) (yn m_X10_goBack) ∈ TB := tzc_7 191 (by decide +kernel) rfl
theorem in_X10_goBack : Cond.initialized (yn m_X10_goBack).cls ∈ TB := tw_13
theorem cw_J6_bitCount_0f7a4 : Cond.code (yn m_J6_bitCount_0f7a4) (yc m_J6_bitCount_0f7a4) (yl m_J6_bitCount_0f7a4) (yr m_J6_bitCount_0f7a4) ∈ TB := tzc_4 99 (by decide +kernel) rfl
theorem tw_19 : (Cond.initialized "java/lang/Integer") ∈ TB := tzc_1 19 (by decide +kernel) rfl
theorem im_J6_bitCount_0f7a4 : Cond.static (yn m_J6_bitCount_0f7a4) ∈ TB := tzc_4 98 (by decide +kernel) rfl
theorem in_J6_bitCount_0f7a4 : Cond.initialized (yn m_J6_bitCount_0f7a4).cls ∈ TB := tw_19
theorem cw_J0_length_8abf5 : Cond.code (yn m_J0_length_8abf5) (yc m_J0_length_8abf5) (yl m_J0_length_8abf5) (yr m_J0_length_8abf5) ∈ TB := tzc_2 219 (by decide +kernel) rfl
theorem tw_14 : (Cond.initialized "java/lang/String") ∈ TB := tzc_1 14 (by decide +kernel) rfl
theorem im_J0_length_8abf5 : Cond.instanceMethod (yn m_J0_length_8abf5) ∈ TB := tzc_2 217 (by decide +kernel) rfl
theorem se_J0_length_8abf5 : Cond.selects (yn m_J0_length_8abf5).cls (yn m_J0_length_8abf5) (yn m_J0_length_8abf5) ∈ TB := tzc_2 218 (by decide +kernel) rfl
theorem in_J0_length_8abf5 : Cond.initialized (yn m_J0_length_8abf5).cls ∈ TB := tw_14
theorem cw_J0_charAt_5068e : Cond.code (yn m_J0_charAt_5068e) (yc m_J0_charAt_5068e) (yl m_J0_charAt_5068e) (yr m_J0_charAt_5068e) ∈ TB := tzc_2 229 (by decide +kernel) rfl
theorem im_J0_charAt_5068e : Cond.instanceMethod (yn m_J0_charAt_5068e) ∈ TB := tzc_2 227 (by decide +kernel) rfl
theorem se_J0_charAt_5068e : Cond.selects (yn m_J0_charAt_5068e).cls (yn m_J0_charAt_5068e) (yn m_J0_charAt_5068e) ∈ TB := tzc_2 228 (by decide +kernel) rfl
theorem in_J0_charAt_5068e : Cond.initialized (yn m_J0_charAt_5068e).cls ∈ TB := tw_14
theorem cw_J0_coder_7d493 : Cond.code (yn m_J0_coder_7d493) (yc m_J0_coder_7d493) (yl m_J0_coder_7d493) (yr m_J0_coder_7d493) ∈ TB := tzc_2 223 (by decide +kernel) rfl
theorem im_J0_coder_7d493 : Cond.instanceMethod (yn m_J0_coder_7d493) ∈ TB := tzc_2 221 (by decide +kernel) rfl
theorem se_J0_coder_7d493 : Cond.selects (yn m_J0_coder_7d493).cls (yn m_J0_coder_7d493) (yn m_J0_coder_7d493) ∈ TB := tzc_2 222 (by decide +kernel) rfl
theorem in_J0_coder_7d493 : Cond.initialized (yn m_J0_coder_7d493).cls ∈ TB := tw_14
theorem cw_J0_isLatin1_aae02 : Cond.code (yn m_J0_isLatin1_aae02) (yc m_J0_isLatin1_aae02) (yl m_J0_isLatin1_aae02) (yr m_J0_isLatin1_aae02) ∈ TB := tzc_2 233 (by decide +kernel) rfl
theorem im_J0_isLatin1_aae02 : Cond.instanceMethod (yn m_J0_isLatin1_aae02) ∈ TB := tzc_2 231 (by decide +kernel) rfl
theorem se_J0_isLatin1_aae02 : Cond.selects (yn m_J0_isLatin1_aae02).cls (yn m_J0_isLatin1_aae02) (yn m_J0_isLatin1_aae02) ∈ TB := tzc_2 232 (by decide +kernel) rfl
theorem in_J0_isLatin1_aae02 : Cond.initialized (yn m_J0_isLatin1_aae02).cls ∈ TB := tw_14
theorem cw_J0_checkIndex_df160 : Cond.code (yn m_J0_checkIndex_df160) (yc m_J0_checkIndex_df160) (yl m_J0_checkIndex_df160) (yr m_J0_checkIndex_df160) ∈ TB := tzc_2 239 (by decide +kernel) rfl
theorem im_J0_checkIndex_df160 : Cond.static (yn m_J0_checkIndex_df160) ∈ TB := tzc_2 238 (by decide +kernel) rfl
theorem in_J0_checkIndex_df160 : Cond.initialized (yn m_J0_checkIndex_df160).cls ∈ TB := tw_14
theorem cw_J1_charAt_3b067 : Cond.code (yn m_J1_charAt_3b067) (yc m_J1_charAt_3b067) (yl m_J1_charAt_3b067) (yr m_J1_charAt_3b067) ∈ TB := tzc_2 236 (by decide +kernel) rfl
theorem tw_15 : (Cond.initialized "java/lang/StringLatin1") ∈ TB := tzc_1 15 (by decide +kernel) rfl
theorem im_J1_charAt_3b067 : Cond.static (yn m_J1_charAt_3b067) ∈ TB := tzc_2 235 (by decide +kernel) rfl
theorem in_J1_charAt_3b067 : Cond.initialized (yn m_J1_charAt_3b067).cls ∈ TB := tw_15
theorem cw_J7_fill_d0a16 : Cond.code (yn m_J7_fill_d0a16) (yc m_J7_fill_d0a16) (yl m_J7_fill_d0a16) (yr m_J7_fill_d0a16) ∈ TB := tzc_2 106 (by decide +kernel) rfl
theorem tw_10 : (Cond.initialized "java/util/Arrays") ∈ TB := tzc_1 10 (by decide +kernel) rfl
theorem im_J7_fill_d0a16 : Cond.static (yn m_J7_fill_d0a16) ∈ TB := tzc_2 105 (by decide +kernel) rfl
theorem in_J7_fill_d0a16 : Cond.initialized (yn m_J7_fill_d0a16).cls ∈ TB := tw_10
theorem cw_J7_fill_53178 : Cond.code (yn m_J7_fill_53178) (yc m_J7_fill_53178) (yl m_J7_fill_53178) (yr m_J7_fill_53178) ∈ TB := tzc_2 7 (by decide +kernel) rfl
theorem im_J7_fill_53178 : Cond.static (yn m_J7_fill_53178) ∈ TB := tzc_2 6 (by decide +kernel) rfl
theorem in_J7_fill_53178 : Cond.initialized (yn m_J7_fill_53178).cls ∈ TB := tw_10
theorem cw_J3_checkIndex_8e157 : Cond.code (yn m_J3_checkIndex_8e157) (yc m_J3_checkIndex_8e157) (yl m_J3_checkIndex_8e157) (yr m_J3_checkIndex_8e157) ∈ TB := tzc_3 4 (by decide +kernel) rfl
theorem tw_16 : (Cond.initialized "jdk/internal/util/Preconditions") ∈ TB := tzc_1 16 (by decide +kernel) rfl
theorem im_J3_checkIndex_8e157 : Cond.static (yn m_J3_checkIndex_8e157) ∈ TB := tzc_3 3 (by decide +kernel) rfl
theorem in_J3_checkIndex_8e157 : Cond.initialized (yn m_J3_checkIndex_8e157).cls ∈ TB := tw_16
theorem tw_80 : (Cond.methodLink "ColdBox$Build" (3 : Nat) ({ cls := "java/lang/Object", name := "<init>", desc := "()V" } : MethodName)) ∈ TB := tzc_1 80 (by decide +kernel) rfl
theorem tw_83 : (Cond.methodLink "ColdBox$Build" (18 : Nat) ({ cls := "java/lang/System", name := "arraycopy", desc := "(Ljava/lang/Object;ILjava/lang/Object;II)V" } : MethodName)) ∈ TB := tzc_1 83 (by decide +kernel) rfl
theorem lk_RX0_24 : Lk RX0 24 (yn m_X6_has) := Or.inl (tzc_3 187 (by decide +kernel) rfl)
theorem cz_X6_has : (yn m_X6_has).cls ≠ "java/lang/invoke/MethodHandle" ∧ (yn m_X6_has).cls ≠ "java/lang/invoke/VarHandle" ∧ (parseMethodDescriptor (yn m_X6_has).desc).map (fun d => d.parameters.length) = some 1 := by decide +kernel
theorem cs_X0_sealOf_X6_has : Cs m_X0_sealOf m_X6_has 1 := ⟨cw_X6_has, in_X6_has, cz_X6_has, Nat.le_of_ble_eq_true rfl, Nat.le_of_ble_eq_true rfl⟩
theorem cs_X0_powerOf_X6_has : Cs m_X0_powerOf m_X6_has 1 := ⟨cw_X6_has, in_X6_has, cz_X6_has, Nat.le_of_ble_eq_true rfl, Nat.le_of_ble_eq_true rfl⟩
theorem lk_RX0_30 : Lk RX0 30 (yn m_X6_tickOfDay) := Or.inl (tzc_3 186 (by decide +kernel) rfl)
theorem cz_X6_tickOfDay : (yn m_X6_tickOfDay).cls ≠ "java/lang/invoke/MethodHandle" ∧ (yn m_X6_tickOfDay).cls ≠ "java/lang/invoke/VarHandle" ∧ (parseMethodDescriptor (yn m_X6_tickOfDay).desc).map (fun d => d.parameters.length) = some 0 := by decide +kernel
theorem cs_X0_roomOf_X6_tickOfDay : Cs m_X0_roomOf m_X6_tickOfDay 0 := ⟨cw_X6_tickOfDay, in_X6_tickOfDay, cz_X6_tickOfDay, Nat.le_of_ble_eq_true rfl, Nat.le_of_ble_eq_true rfl⟩
theorem cs_X0_roomOf_X6_has : Cs m_X0_roomOf m_X6_has 1 := ⟨cw_X6_has, in_X6_has, cz_X6_has, Nat.le_of_ble_eq_true rfl, Nat.le_of_ble_eq_true rfl⟩
theorem tw_221 : (Cond.methodLink "ColdBox$FreshRuns" (3 : Nat) ({ cls := "java/lang/Object", name := "<init>", desc := "()V" } : MethodName)) ∈ TB := tzc_1 221 (by decide +kernel) rfl
theorem lk_RX1_11 : Lk RX1 11 (yn m_X6_init) := Or.inr ⟨"ColdBox", tzn_1 223 (by decide +kernel) rfl⟩
theorem cz_X6_init : (yn m_X6_init).cls ≠ "java/lang/invoke/MethodHandle" ∧ (yn m_X6_init).cls ≠ "java/lang/invoke/VarHandle" ∧ (parseMethodDescriptor (yn m_X6_init).desc).map (fun d => d.parameters.length) = some 0 := by decide +kernel
theorem cs_X1_init_X6_init : Cs m_X1_init m_X6_init 0 := ⟨cw_X6_init, in_X6_init, cz_X6_init, Nat.le_of_ble_eq_true rfl, Nat.le_of_ble_eq_true rfl⟩
theorem lk_RX1_29 : Lk RX1 29 (yn m_J7_fill_53178) := Or.inl (tzc_3 55 (by decide +kernel) rfl)
theorem cz_J7_fill_53178 : (yn m_J7_fill_53178).cls ≠ "java/lang/invoke/MethodHandle" ∧ (yn m_J7_fill_53178).cls ≠ "java/lang/invoke/VarHandle" ∧ (parseMethodDescriptor (yn m_J7_fill_53178).desc).map (fun d => d.parameters.length) = some 2 := by decide +kernel
theorem cs_X1_forgetSigns_J7_fill_53178 : Cs m_X1_forgetSigns m_J7_fill_53178 2 := ⟨cw_J7_fill_53178, in_J7_fill_53178, cz_J7_fill_53178, Nat.le_of_ble_eq_true rfl, Nat.le_of_ble_eq_true rfl⟩
theorem lk_RX1_35 : Lk RX1 35 (yn m_X9_isSet) := Or.inr ⟨"ColdBox", tzn_4 51 (by decide +kernel) rfl⟩
theorem cz_X9_isSet : (yn m_X9_isSet).cls ≠ "java/lang/invoke/MethodHandle" ∧ (yn m_X9_isSet).cls ≠ "java/lang/invoke/VarHandle" ∧ (parseMethodDescriptor (yn m_X9_isSet).desc).map (fun d => d.parameters.length) = some 1 := by decide +kernel
theorem cs_X1_signOf_X9_isSet : Cs m_X1_signOf m_X9_isSet 1 := ⟨cw_X9_isSet, in_X9_isSet, cz_X9_isSet, Nat.le_of_ble_eq_true rfl, Nat.le_of_ble_eq_true rfl⟩
theorem lk_RX1_39 : Lk RX1 39 (yn m_X9_areSignDays) := Or.inr ⟨"ColdBox", tzn_4 52 (by decide +kernel) rfl⟩
theorem cz_X9_areSignDays : (yn m_X9_areSignDays).cls ≠ "java/lang/invoke/MethodHandle" ∧ (yn m_X9_areSignDays).cls ≠ "java/lang/invoke/VarHandle" ∧ (parseMethodDescriptor (yn m_X9_areSignDays).desc).map (fun d => d.parameters.length) = some 1 := by decide +kernel
theorem cs_X1_signOf_X9_areSignDays : Cs m_X1_signOf m_X9_areSignDays 1 := ⟨cw_X9_areSignDays, in_X9_areSignDays, cz_X9_areSignDays, Nat.le_of_ble_eq_true rfl, Nat.le_of_ble_eq_true rfl⟩
theorem lk_RX1_42 : Lk RX1 42 (yn m_X9_isSign) := Or.inr ⟨"ColdBox", tzn_4 67 (by decide +kernel) rfl⟩
theorem cz_X9_isSign : (yn m_X9_isSign).cls ≠ "java/lang/invoke/MethodHandle" ∧ (yn m_X9_isSign).cls ≠ "java/lang/invoke/VarHandle" ∧ (parseMethodDescriptor (yn m_X9_isSign).desc).map (fun d => d.parameters.length) = some 1 := by decide +kernel
theorem cs_X1_signOf_X9_isSign : Cs m_X1_signOf m_X9_isSign 1 := ⟨cw_X9_isSign, in_X9_isSign, cz_X9_isSign, Nat.le_of_ble_eq_true rfl, Nat.le_of_ble_eq_true rfl⟩
theorem lk_RX1_45 : Lk RX1 45 (yn m_X1_placeOf) := Or.inl (tzc_4 59 (by decide +kernel) rfl)
theorem cz_X1_placeOf : (yn m_X1_placeOf).cls ≠ "java/lang/invoke/MethodHandle" ∧ (yn m_X1_placeOf).cls ≠ "java/lang/invoke/VarHandle" ∧ (parseMethodDescriptor (yn m_X1_placeOf).desc).map (fun d => d.parameters.length) = some 2 := by decide +kernel
theorem cs_X1_signOf_X1_placeOf : Cs m_X1_signOf m_X1_placeOf 2 := ⟨cw_X1_placeOf, in_X1_placeOf, cz_X1_placeOf, Nat.le_of_ble_eq_true rfl, Nat.le_of_ble_eq_true rfl⟩
theorem lk_RX1_52 : Lk RX1 52 (yn m_X1_learn) := Or.inl (tzc_4 108 (by decide +kernel) rfl)
theorem cz_X1_learn : (yn m_X1_learn).cls ≠ "java/lang/invoke/MethodHandle" ∧ (yn m_X1_learn).cls ≠ "java/lang/invoke/VarHandle" ∧ (parseMethodDescriptor (yn m_X1_learn).desc).map (fun d => d.parameters.length) = some 2 := by decide +kernel
theorem cs_X1_learnCouldBe_X1_learn : Cs m_X1_learnCouldBe m_X1_learn 2 := ⟨cw_X1_learn, in_X1_learn, cz_X1_learn, Nat.le_of_ble_eq_true rfl, Nat.le_of_ble_eq_true rfl⟩
theorem lk_RX1_56 : Lk RX1 56 (yn m_X9_isPart) := Or.inr ⟨"ColdBox", tzn_4 231 (by decide +kernel) rfl⟩
theorem cz_X9_isPart : (yn m_X9_isPart).cls ≠ "java/lang/invoke/MethodHandle" ∧ (yn m_X9_isPart).cls ≠ "java/lang/invoke/VarHandle" ∧ (parseMethodDescriptor (yn m_X9_isPart).desc).map (fun d => d.parameters.length) = some 2 := by decide +kernel
theorem cs_X1_learnParts_X9_isPart : Cs m_X1_learnParts m_X9_isPart 2 := ⟨cw_X9_isPart, in_X9_isPart, cz_X9_isPart, Nat.le_of_ble_eq_true rfl, Nat.le_of_ble_eq_true rfl⟩
theorem cs_X1_learnParts_X1_learn : Cs m_X1_learnParts m_X1_learn 2 := ⟨cw_X1_learn, in_X1_learn, cz_X1_learn, Nat.le_of_ble_eq_true rfl, Nat.le_of_ble_eq_true rfl⟩
theorem cs_X1_learn_X9_isSet : Cs m_X1_learn m_X9_isSet 1 := ⟨cw_X9_isSet, in_X9_isSet, cz_X9_isSet, Nat.le_of_ble_eq_true rfl, Nat.le_of_ble_eq_true rfl⟩
theorem cs_X1_learn_X9_areSignDays : Cs m_X1_learn m_X9_areSignDays 1 := ⟨cw_X9_areSignDays, in_X9_areSignDays, cz_X9_areSignDays, Nat.le_of_ble_eq_true rfl, Nat.le_of_ble_eq_true rfl⟩
theorem lk_RX1_60 : Lk RX1 60 (yn m_X1_begin) := Or.inl (tzc_4 53 (by decide +kernel) rfl)
theorem cz_X1_begin : (yn m_X1_begin).cls ≠ "java/lang/invoke/MethodHandle" ∧ (yn m_X1_begin).cls ≠ "java/lang/invoke/VarHandle" ∧ (parseMethodDescriptor (yn m_X1_begin).desc).map (fun d => d.parameters.length) = some 2 := by decide +kernel
theorem cs_X1_learn_X1_begin : Cs m_X1_learn m_X1_begin 2 := ⟨cw_X1_begin, in_X1_begin, cz_X1_begin, Nat.le_of_ble_eq_true rfl, Nat.le_of_ble_eq_true rfl⟩
theorem lk_RX1_78 : Lk RX1 78 (yn m_X7_passByDay) := Or.inl (tzc_4 58 (by decide +kernel) rfl)
theorem cz_X7_passByDay : (yn m_X7_passByDay).cls ≠ "java/lang/invoke/MethodHandle" ∧ (yn m_X7_passByDay).cls ≠ "java/lang/invoke/VarHandle" ∧ (parseMethodDescriptor (yn m_X7_passByDay).desc).map (fun d => d.parameters.length) = some 3 := by decide +kernel
theorem cs_X1_learn_X7_passByDay : Cs m_X1_learn m_X7_passByDay 3 := ⟨cw_X7_passByDay, in_X7_passByDay, cz_X7_passByDay, Nat.le_of_ble_eq_true rfl, Nat.le_of_ble_eq_true rfl⟩
theorem cs_X1_learn_X1_placeOf : Cs m_X1_learn m_X1_placeOf 2 := ⟨cw_X1_placeOf, in_X1_placeOf, cz_X1_placeOf, Nat.le_of_ble_eq_true rfl, Nat.le_of_ble_eq_true rfl⟩
theorem lk_RX1_82 : Lk RX1 82 (yn m_X6_warmthOf) := Or.inl (tzc_4 62 (by decide +kernel) rfl)
theorem cz_X6_warmthOf : (yn m_X6_warmthOf).cls ≠ "java/lang/invoke/MethodHandle" ∧ (yn m_X6_warmthOf).cls ≠ "java/lang/invoke/VarHandle" ∧ (parseMethodDescriptor (yn m_X6_warmthOf).desc).map (fun d => d.parameters.length) = some 1 := by decide +kernel
theorem cs_X1_learn_X6_warmthOf : Cs m_X1_learn m_X6_warmthOf 1 := ⟨cw_X6_warmthOf, in_X6_warmthOf, cz_X6_warmthOf, Nat.le_of_ble_eq_true rfl, Nat.le_of_ble_eq_true rfl⟩
theorem cs_X1_firstDay_X1_begin : Cs m_X1_firstDay m_X1_begin 2 := ⟨cw_X1_begin, in_X1_begin, cz_X1_begin, Nat.le_of_ble_eq_true rfl, Nat.le_of_ble_eq_true rfl⟩
theorem cs_X1_firstDay_X7_passByDay : Cs m_X1_firstDay m_X7_passByDay 3 := ⟨cw_X7_passByDay, in_X7_passByDay, cz_X7_passByDay, Nat.le_of_ble_eq_true rfl, Nat.le_of_ble_eq_true rfl⟩
theorem cs_X1_usedThawing_X1_begin : Cs m_X1_usedThawing m_X1_begin 2 := ⟨cw_X1_begin, in_X1_begin, cz_X1_begin, Nat.le_of_ble_eq_true rfl, Nat.le_of_ble_eq_true rfl⟩
theorem lk_RX1_86 : Lk RX1 86 (yn m_X6_letOffIce) := Or.inl (tzc_5 23 (by decide +kernel) rfl)
theorem cz_X6_letOffIce : (yn m_X6_letOffIce).cls ≠ "java/lang/invoke/MethodHandle" ∧ (yn m_X6_letOffIce).cls ≠ "java/lang/invoke/VarHandle" ∧ (parseMethodDescriptor (yn m_X6_letOffIce).desc).map (fun d => d.parameters.length) = some 0 := by decide +kernel
theorem cs_X1_usedThawing_X6_letOffIce : Cs m_X1_usedThawing m_X6_letOffIce 0 := ⟨cw_X6_letOffIce, in_X6_letOffIce, cz_X6_letOffIce, Nat.le_of_ble_eq_true rfl, Nat.le_of_ble_eq_true rfl⟩
theorem cs_X1_usedThawing_X7_passByDay : Cs m_X1_usedThawing m_X7_passByDay 3 := ⟨cw_X7_passByDay, in_X7_passByDay, cz_X7_passByDay, Nat.le_of_ble_eq_true rfl, Nat.le_of_ble_eq_true rfl⟩
theorem lk_RX1_98 : Lk RX1 98 (yn m_X6_becomeFresh) := Or.inl (tzc_4 57 (by decide +kernel) rfl)
theorem cz_X6_becomeFresh : (yn m_X6_becomeFresh).cls ≠ "java/lang/invoke/MethodHandle" ∧ (yn m_X6_becomeFresh).cls ≠ "java/lang/invoke/VarHandle" ∧ (parseMethodDescriptor (yn m_X6_becomeFresh).desc).map (fun d => d.parameters.length) = some 0 := by decide +kernel
theorem cs_X1_begin_X6_becomeFresh : Cs m_X1_begin m_X6_becomeFresh 0 := ⟨cw_X6_becomeFresh, in_X6_becomeFresh, cz_X6_becomeFresh, Nat.le_of_ble_eq_true rfl, Nat.le_of_ble_eq_true rfl⟩
theorem tw_242 : (Cond.methodLink "ColdBox$Guess" (3 : Nat) ({ cls := "java/lang/Object", name := "<init>", desc := "()V" } : MethodName)) ∈ TB := tzc_2 2 (by decide +kernel) rfl
theorem lk_RX2_42 : Lk RX2 42 (yn m_J7_fill_53178) := Or.inl (tzc_2 5 (by decide +kernel) rfl)
theorem cs_X2_init_J7_fill_53178 : Cs m_X2_init m_J7_fill_53178 2 := ⟨cw_J7_fill_53178, in_J7_fill_53178, cz_J7_fill_53178, Nat.le_of_ble_eq_true rfl, Nat.le_of_ble_eq_true rfl⟩
theorem lk_RX2_48 : Lk RX2 48 (yn m_X2_weighAll) := Or.inl (tzc_4 113 (by decide +kernel) rfl)
theorem cz_X2_weighAll : (yn m_X2_weighAll).cls ≠ "java/lang/invoke/MethodHandle" ∧ (yn m_X2_weighAll).cls ≠ "java/lang/invoke/VarHandle" ∧ (parseMethodDescriptor (yn m_X2_weighAll).desc).map (fun d => d.parameters.length) = some 1 := by decide +kernel
theorem cs_X2_oddsOf_X2_weighAll : Cs m_X2_oddsOf m_X2_weighAll 1 := ⟨cw_X2_weighAll, in_X2_weighAll, cz_X2_weighAll, Nat.le_of_ble_eq_true rfl, Nat.le_of_ble_eq_true rfl⟩
theorem lk_RX2_52 : Lk RX2 52 (yn m_X2_share) := Or.inl (tzc_4 136 (by decide +kernel) rfl)
theorem cz_X2_share : (yn m_X2_share).cls ≠ "java/lang/invoke/MethodHandle" ∧ (yn m_X2_share).cls ≠ "java/lang/invoke/VarHandle" ∧ (parseMethodDescriptor (yn m_X2_share).desc).map (fun d => d.parameters.length) = some 2 := by decide +kernel
theorem cs_X2_oddsOf_X2_share : Cs m_X2_oddsOf m_X2_share 2 := ⟨cw_X2_share, in_X2_share, cz_X2_share, Nat.le_of_ble_eq_true rfl, Nat.le_of_ble_eq_true rfl⟩
theorem cs_X2_oddsWith_X2_weighAll : Cs m_X2_oddsWith m_X2_weighAll 1 := ⟨cw_X2_weighAll, in_X2_weighAll, cz_X2_weighAll, Nat.le_of_ble_eq_true rfl, Nat.le_of_ble_eq_true rfl⟩
theorem cs_X2_oddsWith_X2_share : Cs m_X2_oddsWith m_X2_share 2 := ⟨cw_X2_share, in_X2_share, cz_X2_share, Nat.le_of_ble_eq_true rfl, Nat.le_of_ble_eq_true rfl⟩
theorem cs_X2_howMuchTells_X2_weighAll : Cs m_X2_howMuchTells m_X2_weighAll 1 := ⟨cw_X2_weighAll, in_X2_weighAll, cz_X2_weighAll, Nat.le_of_ble_eq_true rfl, Nat.le_of_ble_eq_true rfl⟩
theorem lk_RX2_56 : Lk RX2 56 (yn m_X2_tellingBy) := Or.inl (tzc_4 156 (by decide +kernel) rfl)
theorem cz_X2_tellingBy : (yn m_X2_tellingBy).cls ≠ "java/lang/invoke/MethodHandle" ∧ (yn m_X2_tellingBy).cls ≠ "java/lang/invoke/VarHandle" ∧ (parseMethodDescriptor (yn m_X2_tellingBy).desc).map (fun d => d.parameters.length) = some 3 := by decide +kernel
theorem cs_X2_howMuchTells_X2_tellingBy : Cs m_X2_howMuchTells m_X2_tellingBy 3 := ⟨cw_X2_tellingBy, in_X2_tellingBy, cz_X2_tellingBy, Nat.le_of_ble_eq_true rfl, Nat.le_of_ble_eq_true rfl⟩
theorem cs_X2_nextSign_X2_weighAll : Cs m_X2_nextSign m_X2_weighAll 1 := ⟨cw_X2_weighAll, in_X2_weighAll, cz_X2_weighAll, Nat.le_of_ble_eq_true rfl, Nat.le_of_ble_eq_true rfl⟩
theorem cs_X2_nextSign_X2_tellingBy : Cs m_X2_nextSign m_X2_tellingBy 3 := ⟨cw_X2_tellingBy, in_X2_tellingBy, cz_X2_tellingBy, Nat.le_of_ble_eq_true rfl, Nat.le_of_ble_eq_true rfl⟩
theorem lk_RX2_62 : Lk RX2 62 (yn m_X2_weightOf) := Or.inl (tzc_4 117 (by decide +kernel) rfl)
theorem cz_X2_weightOf : (yn m_X2_weightOf).cls ≠ "java/lang/invoke/MethodHandle" ∧ (yn m_X2_weightOf).cls ≠ "java/lang/invoke/VarHandle" ∧ (parseMethodDescriptor (yn m_X2_weightOf).desc).map (fun d => d.parameters.length) = some 2 := by decide +kernel
theorem cs_X2_weighAll_X2_weightOf : Cs m_X2_weighAll m_X2_weightOf 2 := ⟨cw_X2_weightOf, in_X2_weightOf, cz_X2_weightOf, Nat.le_of_ble_eq_true rfl, Nat.le_of_ble_eq_true rfl⟩
theorem lk_RX2_68 : Lk RX2 68 (yn m_X2_halvings) := Or.inl (tzc_4 123 (by decide +kernel) rfl)
theorem cz_X2_halvings : (yn m_X2_halvings).cls ≠ "java/lang/invoke/MethodHandle" ∧ (yn m_X2_halvings).cls ≠ "java/lang/invoke/VarHandle" ∧ (parseMethodDescriptor (yn m_X2_halvings).desc).map (fun d => d.parameters.length) = some 3 := by decide +kernel
theorem cs_X2_weightOf_X2_halvings : Cs m_X2_weightOf m_X2_halvings 3 := ⟨cw_X2_halvings, in_X2_halvings, cz_X2_halvings, Nat.le_of_ble_eq_true rfl, Nat.le_of_ble_eq_true rfl⟩
theorem lk_RX2_72 : Lk RX2 72 (yn m_X1_signOf) := Or.inl (tzc_4 127 (by decide +kernel) rfl)
theorem cz_X1_signOf : (yn m_X1_signOf).cls ≠ "java/lang/invoke/MethodHandle" ∧ (yn m_X1_signOf).cls ≠ "java/lang/invoke/VarHandle" ∧ (parseMethodDescriptor (yn m_X1_signOf).desc).map (fun d => d.parameters.length) = some 3 := by decide +kernel
theorem cs_X2_halvings_X1_signOf : Cs m_X2_halvings m_X1_signOf 3 := ⟨cw_X1_signOf, in_X1_signOf, cz_X1_signOf, Nat.le_of_ble_eq_true rfl, Nat.le_of_ble_eq_true rfl⟩
theorem tw_848 : (Cond.methodLink "ColdBox$Guess" (77 : Nat) ({ cls := "java/lang/Math", name := "abs", desc := "(I)I" } : MethodName)) ∈ TB := tzc_4 128 (by decide +kernel) rfl
theorem lk_RX2_83 : Lk RX2 83 (yn m_X2_exactOf) := Or.inl (tzc_4 131 (by decide +kernel) rfl)
theorem cz_X2_exactOf : (yn m_X2_exactOf).cls ≠ "java/lang/invoke/MethodHandle" ∧ (yn m_X2_exactOf).cls ≠ "java/lang/invoke/VarHandle" ∧ (parseMethodDescriptor (yn m_X2_exactOf).desc).map (fun d => d.parameters.length) = some 1 := by decide +kernel
theorem cs_X2_halvings_X2_exactOf : Cs m_X2_halvings m_X2_exactOf 1 := ⟨cw_X2_exactOf, in_X2_exactOf, cz_X2_exactOf, Nat.le_of_ble_eq_true rfl, Nat.le_of_ble_eq_true rfl⟩
theorem tw_855 : (Cond.methodLink "ColdBox$Guess" (86 : Nat) ({ cls := "java/lang/Math", name := "min", desc := "(II)I" } : MethodName)) ∈ TB := tzc_4 135 (by decide +kernel) rfl
theorem cs_X2_tellingBy_X1_signOf : Cs m_X2_tellingBy m_X1_signOf 3 := ⟨cw_X1_signOf, in_X1_signOf, cz_X1_signOf, Nat.le_of_ble_eq_true rfl, Nat.le_of_ble_eq_true rfl⟩
theorem cs_X2_tellingBy_X2_exactOf : Cs m_X2_tellingBy m_X2_exactOf 1 := ⟨cw_X2_exactOf, in_X2_exactOf, cz_X2_exactOf, Nat.le_of_ble_eq_true rfl, Nat.le_of_ble_eq_true rfl⟩
theorem lk_RX2_90 : Lk RX2 90 (yn m_X2_isFirstOfClass) := Or.inl (tzc_4 160 (by decide +kernel) rfl)
theorem cz_X2_isFirstOfClass : (yn m_X2_isFirstOfClass).cls ≠ "java/lang/invoke/MethodHandle" ∧ (yn m_X2_isFirstOfClass).cls ≠ "java/lang/invoke/VarHandle" ∧ (parseMethodDescriptor (yn m_X2_isFirstOfClass).desc).map (fun d => d.parameters.length) = some 1 := by decide +kernel
theorem cs_X2_tellingBy_X2_isFirstOfClass : Cs m_X2_tellingBy m_X2_isFirstOfClass 1 := ⟨cw_X2_isFirstOfClass, in_X2_isFirstOfClass, cz_X2_isFirstOfClass, Nat.le_of_ble_eq_true rfl, Nat.le_of_ble_eq_true rfl⟩
theorem lk_RX2_94 : Lk RX2 94 (yn m_X2_weightOfClass) := Or.inl (tzc_4 164 (by decide +kernel) rfl)
theorem cz_X2_weightOfClass : (yn m_X2_weightOfClass).cls ≠ "java/lang/invoke/MethodHandle" ∧ (yn m_X2_weightOfClass).cls ≠ "java/lang/invoke/VarHandle" ∧ (parseMethodDescriptor (yn m_X2_weightOfClass).desc).map (fun d => d.parameters.length) = some 1 := by decide +kernel
theorem cs_X2_tellingBy_X2_weightOfClass : Cs m_X2_tellingBy m_X2_weightOfClass 1 := ⟨cw_X2_weightOfClass, in_X2_weightOfClass, cz_X2_weightOfClass, Nat.le_of_ble_eq_true rfl, Nat.le_of_ble_eq_true rfl⟩
theorem tw_99 : (Cond.methodLink "ColdBox$Openings" (3 : Nat) ({ cls := "java/lang/Object", name := "<init>", desc := "()V" } : MethodName)) ∈ TB := tzc_1 99 (by decide +kernel) rfl
theorem tw_554 : (Cond.methodLink "ColdBox$Openings" (26 : Nat) ({ cls := "java/lang/Math", name := "max", desc := "(II)I" } : MethodName)) ∈ TB := tzc_3 74 (by decide +kernel) rfl
theorem tw_283 : (Cond.methodLink "ColdBox$Purse" (3 : Nat) ({ cls := "java/lang/Object", name := "<init>", desc := "()V" } : MethodName)) ∈ TB := tzc_2 43 (by decide +kernel) rfl
theorem lk_RX4_23 : Lk RX4 23 (yn m_J7_fill_53178) := Or.inl (tzc_2 44 (by decide +kernel) rfl)
theorem cs_X4_init_J7_fill_53178 : Cs m_X4_init m_J7_fill_53178 2 := ⟨cw_J7_fill_53178, in_J7_fill_53178, cz_J7_fill_53178, Nat.le_of_ble_eq_true rfl, Nat.le_of_ble_eq_true rfl⟩
theorem lk_RX4_29 : Lk RX4 29 (yn m_X1_signOf) := Or.inl (tzc_4 203 (by decide +kernel) rfl)
theorem cs_X4_yearOf_X1_signOf : Cs m_X4_yearOf m_X1_signOf 3 := ⟨cw_X1_signOf, in_X1_signOf, cz_X1_signOf, Nat.le_of_ble_eq_true rfl, Nat.le_of_ble_eq_true rfl⟩
theorem lk_RX4_35 : Lk RX4 35 (yn m_X4_yearByUse) := Or.inl (tzc_4 204 (by decide +kernel) rfl)
theorem cz_X4_yearByUse : (yn m_X4_yearByUse).cls ≠ "java/lang/invoke/MethodHandle" ∧ (yn m_X4_yearByUse).cls ≠ "java/lang/invoke/VarHandle" ∧ (parseMethodDescriptor (yn m_X4_yearByUse).desc).map (fun d => d.parameters.length) = some 1 := by decide +kernel
theorem cs_X4_yearOf_X4_yearByUse : Cs m_X4_yearOf m_X4_yearByUse 1 := ⟨cw_X4_yearByUse, in_X4_yearByUse, cz_X4_yearByUse, Nat.le_of_ble_eq_true rfl, Nat.le_of_ble_eq_true rfl⟩
theorem lk_RX4_43 : Lk RX4 43 (yn m_X4_yearOf) := Or.inl (tzc_4 222 (by decide +kernel) rfl)
theorem cz_X4_yearOf : (yn m_X4_yearOf).cls ≠ "java/lang/invoke/MethodHandle" ∧ (yn m_X4_yearOf).cls ≠ "java/lang/invoke/VarHandle" ∧ (parseMethodDescriptor (yn m_X4_yearOf).desc).map (fun d => d.parameters.length) = some 2 := by decide +kernel
theorem cs_X4_saved_X4_yearOf : Cs m_X4_saved m_X4_yearOf 2 := ⟨cw_X4_yearOf, in_X4_yearOf, cz_X4_yearOf, Nat.le_of_ble_eq_true rfl, Nat.le_of_ble_eq_true rfl⟩
theorem lk_RX4_47 : Lk RX4 47 (yn m_X4_costOf) := Or.inl (tzc_4 236 (by decide +kernel) rfl)
theorem cz_X4_costOf : (yn m_X4_costOf).cls ≠ "java/lang/invoke/MethodHandle" ∧ (yn m_X4_costOf).cls ≠ "java/lang/invoke/VarHandle" ∧ (parseMethodDescriptor (yn m_X4_costOf).desc).map (fun d => d.parameters.length) = some 1 := by decide +kernel
theorem cs_X4_bestPart_X4_costOf : Cs m_X4_bestPart m_X4_costOf 1 := ⟨cw_X4_costOf, in_X4_costOf, cz_X4_costOf, Nat.le_of_ble_eq_true rfl, Nat.le_of_ble_eq_true rfl⟩
theorem lk_RX4_50 : Lk RX4 50 (yn m_X9_isPart) := Or.inr ⟨"ColdBox", tzn_5 0 (by decide +kernel) rfl⟩
theorem cs_X4_bestPart_X9_isPart : Cs m_X4_bestPart m_X9_isPart 2 := ⟨cw_X9_isPart, in_X9_isPart, cz_X9_isPart, Nat.le_of_ble_eq_true rfl, Nat.le_of_ble_eq_true rfl⟩
theorem lk_RX4_54 : Lk RX4 54 (yn m_X4_saved) := Or.inl (tzc_5 1 (by decide +kernel) rfl)
theorem cz_X4_saved : (yn m_X4_saved).cls ≠ "java/lang/invoke/MethodHandle" ∧ (yn m_X4_saved).cls ≠ "java/lang/invoke/VarHandle" ∧ (parseMethodDescriptor (yn m_X4_saved).desc).map (fun d => d.parameters.length) = some 3 := by decide +kernel
theorem cs_X4_bestPart_X4_saved : Cs m_X4_bestPart m_X4_saved 3 := ⟨cw_X4_saved, in_X4_saved, cz_X4_saved, Nat.le_of_ble_eq_true rfl, Nat.le_of_ble_eq_true rfl⟩
theorem cs_X4_yearsToPay_X4_yearOf : Cs m_X4_yearsToPay m_X4_yearOf 2 := ⟨cw_X4_yearOf, in_X4_yearOf, cz_X4_yearOf, Nat.le_of_ble_eq_true rfl, Nat.le_of_ble_eq_true rfl⟩
theorem cs_X4_yearsToPay_X4_yearByUse : Cs m_X4_yearsToPay m_X4_yearByUse 1 := ⟨cw_X4_yearByUse, in_X4_yearByUse, cz_X4_yearByUse, Nat.le_of_ble_eq_true rfl, Nat.le_of_ble_eq_true rfl⟩
theorem lk_RX4_58 : Lk RX4 58 (yn m_X1_usedThawing) := Or.inl (tzc_5 19 (by decide +kernel) rfl)
theorem cz_X1_usedThawing : (yn m_X1_usedThawing).cls ≠ "java/lang/invoke/MethodHandle" ∧ (yn m_X1_usedThawing).cls ≠ "java/lang/invoke/VarHandle" ∧ (parseMethodDescriptor (yn m_X1_usedThawing).desc).map (fun d => d.parameters.length) = some 4 := by decide +kernel
theorem cs_X4_bestThawing_X1_usedThawing : Cs m_X4_bestThawing m_X1_usedThawing 4 := ⟨cw_X1_usedThawing, in_X1_usedThawing, cz_X1_usedThawing, Nat.le_of_ble_eq_true rfl, Nat.le_of_ble_eq_true rfl⟩
theorem tw_33 : (Cond.methodLink "ColdBox$Reader" (3 : Nat) ({ cls := "java/lang/Object", name := "<init>", desc := "()V" } : MethodName)) ∈ TB := tzc_1 33 (by decide +kernel) rfl
theorem lk_RX5_38 : Lk RX5 38 (yn m_X5_begin) := Or.inl (tzc_2 171 (by decide +kernel) rfl)
theorem cz_X5_begin : (yn m_X5_begin).cls ≠ "java/lang/invoke/MethodHandle" ∧ (yn m_X5_begin).cls ≠ "java/lang/invoke/VarHandle" ∧ (parseMethodDescriptor (yn m_X5_begin).desc).map (fun d => d.parameters.length) = some 0 := by decide +kernel
theorem cs_X5_readBox_X5_begin : Cs m_X5_readBox m_X5_begin 0 := ⟨cw_X5_begin, in_X5_begin, cz_X5_begin, Nat.le_of_ble_eq_true rfl, Nat.le_of_ble_eq_true rfl⟩
theorem tw_420 : (Cond.methodLink "ColdBox$Reader" (44 : Nat) ({ cls := "java/lang/System", name := "arraycopy", desc := "(Ljava/lang/Object;ILjava/lang/Object;II)V" } : MethodName)) ∈ TB := tzc_2 180 (by decide +kernel) rfl
theorem lk_RX5_56 : Lk RX5 56 (yn m_X5_readClause) := Or.inl (tzc_2 181 (by decide +kernel) rfl)
theorem cz_X5_readClause : (yn m_X5_readClause).cls ≠ "java/lang/invoke/MethodHandle" ∧ (yn m_X5_readClause).cls ≠ "java/lang/invoke/VarHandle" ∧ (parseMethodDescriptor (yn m_X5_readClause).desc).map (fun d => d.parameters.length) = some 0 := by decide +kernel
theorem cs_X5_readBox_X5_readClause : Cs m_X5_readBox m_X5_readClause 0 := ⟨cw_X5_readClause, in_X5_readClause, cz_X5_readClause, Nat.le_of_ble_eq_true rfl, Nat.le_of_ble_eq_true rfl⟩
theorem lk_RX5_59 : Lk RX5 59 (yn m_X5_skipBlanks) := Or.inl (tzc_2 175 (by decide +kernel) rfl)
theorem cz_X5_skipBlanks : (yn m_X5_skipBlanks).cls ≠ "java/lang/invoke/MethodHandle" ∧ (yn m_X5_skipBlanks).cls ≠ "java/lang/invoke/VarHandle" ∧ (parseMethodDescriptor (yn m_X5_skipBlanks).desc).map (fun d => d.parameters.length) = some 0 := by decide +kernel
theorem cs_X5_readBox_X5_skipBlanks : Cs m_X5_readBox m_X5_skipBlanks 0 := ⟨cw_X5_skipBlanks, in_X5_skipBlanks, cz_X5_skipBlanks, Nat.le_of_ble_eq_true rfl, Nat.le_of_ble_eq_true rfl⟩
theorem lk_RX5_62 : Lk RX5 62 (yn m_X5_faultAt) := Or.inl (tzc_3 24 (by decide +kernel) rfl)
theorem cz_X5_faultAt : (yn m_X5_faultAt).cls ≠ "java/lang/invoke/MethodHandle" ∧ (yn m_X5_faultAt).cls ≠ "java/lang/invoke/VarHandle" ∧ (parseMethodDescriptor (yn m_X5_faultAt).desc).map (fun d => d.parameters.length) = some 2 := by decide +kernel
theorem cs_X5_readBox_X5_faultAt : Cs m_X5_readBox m_X5_faultAt 2 := ⟨cw_X5_faultAt, in_X5_faultAt, cz_X5_faultAt, Nat.le_of_ble_eq_true rfl, Nat.le_of_ble_eq_true rfl⟩
theorem cs_X5_readDay_X5_begin : Cs m_X5_readDay m_X5_begin 0 := ⟨cw_X5_begin, in_X5_begin, cz_X5_begin, Nat.le_of_ble_eq_true rfl, Nat.le_of_ble_eq_true rfl⟩
theorem lk_RX5_66 : Lk RX5 66 (yn m_X5_readOpening) := Or.inl (tzc_3 65 (by decide +kernel) rfl)
theorem cz_X5_readOpening : (yn m_X5_readOpening).cls ≠ "java/lang/invoke/MethodHandle" ∧ (yn m_X5_readOpening).cls ≠ "java/lang/invoke/VarHandle" ∧ (parseMethodDescriptor (yn m_X5_readOpening).desc).map (fun d => d.parameters.length) = some 0 := by decide +kernel
theorem cs_X5_readDay_X5_readOpening : Cs m_X5_readDay m_X5_readOpening 0 := ⟨cw_X5_readOpening, in_X5_readOpening, cz_X5_readOpening, Nat.le_of_ble_eq_true rfl, Nat.le_of_ble_eq_true rfl⟩
theorem cs_X5_readDay_X5_skipBlanks : Cs m_X5_readDay m_X5_skipBlanks 0 := ⟨cw_X5_skipBlanks, in_X5_skipBlanks, cz_X5_skipBlanks, Nat.le_of_ble_eq_true rfl, Nat.le_of_ble_eq_true rfl⟩
theorem cs_X5_begin_X5_skipBlanks : Cs m_X5_begin m_X5_skipBlanks 0 := ⟨cw_X5_skipBlanks, in_X5_skipBlanks, cz_X5_skipBlanks, Nat.le_of_ble_eq_true rfl, Nat.le_of_ble_eq_true rfl⟩
theorem lk_RX5_72 : Lk RX5 72 (yn m_X5_readWord) := Or.inl (tzc_2 185 (by decide +kernel) rfl)
theorem cz_X5_readWord : (yn m_X5_readWord).cls ≠ "java/lang/invoke/MethodHandle" ∧ (yn m_X5_readWord).cls ≠ "java/lang/invoke/VarHandle" ∧ (parseMethodDescriptor (yn m_X5_readWord).desc).map (fun d => d.parameters.length) = some 0 := by decide +kernel
theorem cs_X5_readClause_X5_readWord : Cs m_X5_readClause m_X5_readWord 0 := ⟨cw_X5_readWord, in_X5_readWord, cz_X5_readWord, Nat.le_of_ble_eq_true rfl, Nat.le_of_ble_eq_true rfl⟩
theorem lk_RX5_75 : Lk RX5 75 (yn m_X5_clauseFrom) := Or.inl (tzc_2 192 (by decide +kernel) rfl)
theorem cz_X5_clauseFrom : (yn m_X5_clauseFrom).cls ≠ "java/lang/invoke/MethodHandle" ∧ (yn m_X5_clauseFrom).cls ≠ "java/lang/invoke/VarHandle" ∧ (parseMethodDescriptor (yn m_X5_clauseFrom).desc).map (fun d => d.parameters.length) = some 1 := by decide +kernel
theorem cs_X5_readClause_X5_clauseFrom : Cs m_X5_readClause m_X5_clauseFrom 1 := ⟨cw_X5_clauseFrom, in_X5_clauseFrom, cz_X5_clauseFrom, Nat.le_of_ble_eq_true rfl, Nat.le_of_ble_eq_true rfl⟩
theorem cs_X5_readClause_X5_faultAt : Cs m_X5_readClause m_X5_faultAt 2 := ⟨cw_X5_faultAt, in_X5_faultAt, cz_X5_faultAt, Nat.le_of_ble_eq_true rfl, Nat.le_of_ble_eq_true rfl⟩
theorem lk_RX5_79 : Lk RX5 79 (yn m_X5_readClauseNumbers) := Or.inl (tzc_3 28 (by decide +kernel) rfl)
theorem cz_X5_readClauseNumbers : (yn m_X5_readClauseNumbers).cls ≠ "java/lang/invoke/MethodHandle" ∧ (yn m_X5_readClauseNumbers).cls ≠ "java/lang/invoke/VarHandle" ∧ (parseMethodDescriptor (yn m_X5_readClauseNumbers).desc).map (fun d => d.parameters.length) = some 1 := by decide +kernel
theorem cs_X5_readClause_X5_readClauseNumbers : Cs m_X5_readClause m_X5_readClauseNumbers 1 := ⟨cw_X5_readClauseNumbers, in_X5_readClauseNumbers, cz_X5_readClauseNumbers, Nat.le_of_ble_eq_true rfl, Nat.le_of_ble_eq_true rfl⟩
theorem lk_RX5_83 : Lk RX5 83 (yn m_X5_readClauseEnd) := Or.inl (tzc_3 43 (by decide +kernel) rfl)
theorem cz_X5_readClauseEnd : (yn m_X5_readClauseEnd).cls ≠ "java/lang/invoke/MethodHandle" ∧ (yn m_X5_readClauseEnd).cls ≠ "java/lang/invoke/VarHandle" ∧ (parseMethodDescriptor (yn m_X5_readClauseEnd).desc).map (fun d => d.parameters.length) = some 0 := by decide +kernel
theorem cs_X5_readClause_X5_readClauseEnd : Cs m_X5_readClause m_X5_readClauseEnd 0 := ⟨cw_X5_readClauseEnd, in_X5_readClauseEnd, cz_X5_readClauseEnd, Nat.le_of_ble_eq_true rfl, Nat.le_of_ble_eq_true rfl⟩
theorem lk_RX5_92 : Lk RX5 92 (yn m_X5_readNumber) := Or.inl (tzc_3 36 (by decide +kernel) rfl)
theorem cz_X5_readNumber : (yn m_X5_readNumber).cls ≠ "java/lang/invoke/MethodHandle" ∧ (yn m_X5_readNumber).cls ≠ "java/lang/invoke/VarHandle" ∧ (parseMethodDescriptor (yn m_X5_readNumber).desc).map (fun d => d.parameters.length) = some 2 := by decide +kernel
theorem cs_X5_readClauseNumbers_X5_readNumber : Cs m_X5_readClauseNumbers m_X5_readNumber 2 := ⟨cw_X5_readNumber, in_X5_readNumber, cz_X5_readNumber, Nat.le_of_ble_eq_true rfl, Nat.le_of_ble_eq_true rfl⟩
theorem cs_X5_readOpening_X5_readWord : Cs m_X5_readOpening m_X5_readWord 0 := ⟨cw_X5_readWord, in_X5_readWord, cz_X5_readWord, Nat.le_of_ble_eq_true rfl, Nat.le_of_ble_eq_true rfl⟩
theorem lk_RX5_98 : Lk RX5 98 (yn m_X5_isWord) := Or.inl (tzc_2 212 (by decide +kernel) rfl)
theorem cz_X5_isWord : (yn m_X5_isWord).cls ≠ "java/lang/invoke/MethodHandle" ∧ (yn m_X5_isWord).cls ≠ "java/lang/invoke/VarHandle" ∧ (parseMethodDescriptor (yn m_X5_isWord).desc).map (fun d => d.parameters.length) = some 2 := by decide +kernel
theorem cs_X5_readOpening_X5_isWord : Cs m_X5_readOpening m_X5_isWord 2 := ⟨cw_X5_isWord, in_X5_isWord, cz_X5_isWord, Nat.le_of_ble_eq_true rfl, Nat.le_of_ble_eq_true rfl⟩
theorem cs_X5_readOpening_X5_faultAt : Cs m_X5_readOpening m_X5_faultAt 2 := ⟨cw_X5_faultAt, in_X5_faultAt, cz_X5_faultAt, Nat.le_of_ble_eq_true rfl, Nat.le_of_ble_eq_true rfl⟩
theorem cs_X5_readOpening_X5_readNumber : Cs m_X5_readOpening m_X5_readNumber 2 := ⟨cw_X5_readNumber, in_X5_readNumber, cz_X5_readNumber, Nat.le_of_ble_eq_true rfl, Nat.le_of_ble_eq_true rfl⟩
theorem cs_X5_readOpening_X5_readClauseEnd : Cs m_X5_readOpening m_X5_readClauseEnd 0 := ⟨cw_X5_readClauseEnd, in_X5_readClauseEnd, cz_X5_readClauseEnd, Nat.le_of_ble_eq_true rfl, Nat.le_of_ble_eq_true rfl⟩
theorem cs_X5_readClauseEnd_X5_skipBlanks : Cs m_X5_readClauseEnd m_X5_skipBlanks 0 := ⟨cw_X5_skipBlanks, in_X5_skipBlanks, cz_X5_skipBlanks, Nat.le_of_ble_eq_true rfl, Nat.le_of_ble_eq_true rfl⟩
theorem cs_X5_readClauseEnd_X5_faultAt : Cs m_X5_readClauseEnd m_X5_faultAt 2 := ⟨cw_X5_faultAt, in_X5_faultAt, cz_X5_faultAt, Nat.le_of_ble_eq_true rfl, Nat.le_of_ble_eq_true rfl⟩
theorem cs_X5_readNumber_X5_skipBlanks : Cs m_X5_readNumber m_X5_skipBlanks 0 := ⟨cw_X5_skipBlanks, in_X5_skipBlanks, cz_X5_skipBlanks, Nat.le_of_ble_eq_true rfl, Nat.le_of_ble_eq_true rfl⟩
theorem lk_RX5_102 : Lk RX5 102 (yn m_X5_isFigure) := Or.inl (tzc_3 40 (by decide +kernel) rfl)
theorem cz_X5_isFigure : (yn m_X5_isFigure).cls ≠ "java/lang/invoke/MethodHandle" ∧ (yn m_X5_isFigure).cls ≠ "java/lang/invoke/VarHandle" ∧ (parseMethodDescriptor (yn m_X5_isFigure).desc).map (fun d => d.parameters.length) = some 1 := by decide +kernel
theorem cs_X5_readNumber_X5_isFigure : Cs m_X5_readNumber m_X5_isFigure 1 := ⟨cw_X5_isFigure, in_X5_isFigure, cz_X5_isFigure, Nat.le_of_ble_eq_true rfl, Nat.le_of_ble_eq_true rfl⟩
theorem cs_X5_readNumber_X5_faultAt : Cs m_X5_readNumber m_X5_faultAt 2 := ⟨cw_X5_faultAt, in_X5_faultAt, cz_X5_faultAt, Nat.le_of_ble_eq_true rfl, Nat.le_of_ble_eq_true rfl⟩
theorem lk_RX5_106 : Lk RX5 106 (yn m_X5_isLetter) := Or.inl (tzc_2 189 (by decide +kernel) rfl)
theorem cz_X5_isLetter : (yn m_X5_isLetter).cls ≠ "java/lang/invoke/MethodHandle" ∧ (yn m_X5_isLetter).cls ≠ "java/lang/invoke/VarHandle" ∧ (parseMethodDescriptor (yn m_X5_isLetter).desc).map (fun d => d.parameters.length) = some 1 := by decide +kernel
theorem cs_X5_readWord_X5_isLetter : Cs m_X5_readWord m_X5_isLetter 1 := ⟨cw_X5_isLetter, in_X5_isLetter, cz_X5_isLetter, Nat.le_of_ble_eq_true rfl, Nat.le_of_ble_eq_true rfl⟩
theorem lk_RX5_109 : Lk RX5 109 (yn m_X5_wordOf) := Or.inl (tzc_2 196 (by decide +kernel) rfl)
theorem cz_X5_wordOf : (yn m_X5_wordOf).cls ≠ "java/lang/invoke/MethodHandle" ∧ (yn m_X5_wordOf).cls ≠ "java/lang/invoke/VarHandle" ∧ (parseMethodDescriptor (yn m_X5_wordOf).desc).map (fun d => d.parameters.length) = some 1 := by decide +kernel
theorem cs_X5_clauseFrom_X5_wordOf : Cs m_X5_clauseFrom m_X5_wordOf 1 := ⟨cw_X5_wordOf, in_X5_wordOf, cz_X5_wordOf, Nat.le_of_ble_eq_true rfl, Nat.le_of_ble_eq_true rfl⟩
theorem cs_X5_clauseFrom_X5_isWord : Cs m_X5_clauseFrom m_X5_isWord 2 := ⟨cw_X5_isWord, in_X5_isWord, cz_X5_isWord, Nat.le_of_ble_eq_true rfl, Nat.le_of_ble_eq_true rfl⟩
theorem lk_RX5_113 : Lk RX5 113 (yn m_J0_length_8abf5) := Or.inl (tzc_2 216 (by decide +kernel) rfl)
theorem cz_J0_length_8abf5 : (yn m_J0_length_8abf5).cls ≠ "java/lang/invoke/MethodHandle" ∧ (yn m_J0_length_8abf5).cls ≠ "java/lang/invoke/VarHandle" ∧ (parseMethodDescriptor (yn m_J0_length_8abf5).desc).map (fun d => d.parameters.length) = some 0 := by decide +kernel
theorem cs_X5_isWord_J0_length_8abf5 : Cs m_X5_isWord m_J0_length_8abf5 0 := ⟨cw_J0_length_8abf5, in_J0_length_8abf5, cz_J0_length_8abf5, Nat.le_of_ble_eq_true rfl, Nat.le_of_ble_eq_true rfl⟩
theorem lk_RX5_118 : Lk RX5 118 (yn m_J0_charAt_5068e) := Or.inl (tzc_2 226 (by decide +kernel) rfl)
theorem cz_J0_charAt_5068e : (yn m_J0_charAt_5068e).cls ≠ "java/lang/invoke/MethodHandle" ∧ (yn m_J0_charAt_5068e).cls ≠ "java/lang/invoke/VarHandle" ∧ (parseMethodDescriptor (yn m_J0_charAt_5068e).desc).map (fun d => d.parameters.length) = some 1 := by decide +kernel
theorem cs_X5_isWord_J0_charAt_5068e : Cs m_X5_isWord m_J0_charAt_5068e 1 := ⟨cw_J0_charAt_5068e, in_J0_charAt_5068e, cz_J0_charAt_5068e, Nat.le_of_ble_eq_true rfl, Nat.le_of_ble_eq_true rfl⟩
theorem tw_144 : (Cond.methodLink "ColdBox$State" (3 : Nat) ({ cls := "java/lang/Object", name := "<init>", desc := "()V" } : MethodName)) ∈ TB := tzc_1 144 (by decide +kernel) rfl
theorem lk_RX6_42 : Lk RX6 42 (yn m_J7_fill_d0a16) := Or.inl (tzc_2 104 (by decide +kernel) rfl)
theorem cz_J7_fill_d0a16 : (yn m_J7_fill_d0a16).cls ≠ "java/lang/invoke/MethodHandle" ∧ (yn m_J7_fill_d0a16).cls ≠ "java/lang/invoke/VarHandle" ∧ (parseMethodDescriptor (yn m_J7_fill_d0a16).desc).map (fun d => d.parameters.length) = some 2 := by decide +kernel
theorem cs_X6_becomeFresh_J7_fill_d0a16 : Cs m_X6_becomeFresh m_J7_fill_d0a16 2 := ⟨cw_J7_fill_d0a16, in_J7_fill_d0a16, cz_J7_fill_d0a16, Nat.le_of_ble_eq_true rfl, Nat.le_of_ble_eq_true rfl⟩
theorem lk_RX6_48 : Lk RX6 48 (yn m_J7_fill_53178) := Or.inl (tzc_2 107 (by decide +kernel) rfl)
theorem cs_X6_becomeFresh_J7_fill_53178 : Cs m_X6_becomeFresh m_J7_fill_53178 2 := ⟨cw_J7_fill_53178, in_J7_fill_53178, cz_J7_fill_53178, Nat.le_of_ble_eq_true rfl, Nat.le_of_ble_eq_true rfl⟩
theorem lk_RX6_51 : Lk RX6 51 (yn m_X6_has) := Or.inl (tzc_2 108 (by decide +kernel) rfl)
theorem cs_X6_becomeFresh_X6_has : Cs m_X6_becomeFresh m_X6_has 1 := ⟨cw_X6_has, in_X6_has, cz_X6_has, Nat.le_of_ble_eq_true rfl, Nat.le_of_ble_eq_true rfl⟩
theorem tw_997 : (Cond.methodLink "ColdBox$State" (66 : Nat) ({ cls := "java/lang/System", name := "arraycopy", desc := "(Ljava/lang/Object;ILjava/lang/Object;II)V" } : MethodName)) ∈ TB := tzc_5 37 (by decide +kernel) rfl
theorem lk_RX6_81 : Lk RX6 81 (yn m_X6_warmthOf) := Or.inl (tzc_3 156 (by decide +kernel) rfl)
theorem cs_X6_isWithin_X6_warmthOf : Cs m_X6_isWithin m_X6_warmthOf 1 := ⟨cw_X6_warmthOf, in_X6_warmthOf, cz_X6_warmthOf, Nat.le_of_ble_eq_true rfl, Nat.le_of_ble_eq_true rfl⟩
theorem lk_RX6_85 : Lk RX6 85 (yn m_X6_isWithin) := Or.inl (tzc_5 55 (by decide +kernel) rfl)
theorem cz_X6_isWithin : (yn m_X6_isWithin).cls ≠ "java/lang/invoke/MethodHandle" ∧ (yn m_X6_isWithin).cls ≠ "java/lang/invoke/VarHandle" ∧ (parseMethodDescriptor (yn m_X6_isWithin).desc).map (fun d => d.parameters.length) = some 1 := by decide +kernel
theorem cs_X6_foodsWithin_X6_isWithin : Cs m_X6_foodsWithin m_X6_isWithin 1 := ⟨cw_X6_isWithin, in_X6_isWithin, cz_X6_isWithin, Nat.le_of_ble_eq_true rfl, Nat.le_of_ble_eq_true rfl⟩
theorem cs_X6_letOffIce_X6_warmthOf : Cs m_X6_letOffIce m_X6_warmthOf 1 := ⟨cw_X6_warmthOf, in_X6_warmthOf, cz_X6_warmthOf, Nat.le_of_ble_eq_true rfl, Nat.le_of_ble_eq_true rfl⟩
theorem tw_121 : (Cond.methodLink "ColdBox$Ticker" (3 : Nat) ({ cls := "java/lang/Object", name := "<init>", desc := "()V" } : MethodName)) ∈ TB := tzc_1 121 (by decide +kernel) rfl
theorem lk_RX7_27 : Lk RX7 27 (yn m_X6_tickOfDay) := Or.inl (tzc_3 165 (by decide +kernel) rfl)
theorem cs_X7_passByDay_X6_tickOfDay : Cs m_X7_passByDay m_X6_tickOfDay 0 := ⟨cw_X6_tickOfDay, in_X6_tickOfDay, cz_X6_tickOfDay, Nat.le_of_ble_eq_true rfl, Nat.le_of_ble_eq_true rfl⟩
theorem lk_RX7_33 : Lk RX7 33 (yn m_X3_isOpenIn) := Or.inl (tzc_3 169 (by decide +kernel) rfl)
theorem cz_X3_isOpenIn : (yn m_X3_isOpenIn).cls ≠ "java/lang/invoke/MethodHandle" ∧ (yn m_X3_isOpenIn).cls ≠ "java/lang/invoke/VarHandle" ∧ (parseMethodDescriptor (yn m_X3_isOpenIn).desc).map (fun d => d.parameters.length) = some 1 := by decide +kernel
theorem cs_X7_passByDay_X3_isOpenIn : Cs m_X7_passByDay m_X3_isOpenIn 1 := ⟨cw_X3_isOpenIn, in_X3_isOpenIn, cz_X3_isOpenIn, Nat.le_of_ble_eq_true rfl, Nat.le_of_ble_eq_true rfl⟩
theorem lk_RX7_39 : Lk RX7 39 (yn m_X7_pass) := Or.inl (tzc_3 173 (by decide +kernel) rfl)
theorem cz_X7_pass : (yn m_X7_pass).cls ≠ "java/lang/invoke/MethodHandle" ∧ (yn m_X7_pass).cls ≠ "java/lang/invoke/VarHandle" ∧ (parseMethodDescriptor (yn m_X7_pass).desc).map (fun d => d.parameters.length) = some 4 := by decide +kernel
theorem cs_X7_passByDay_X7_pass : Cs m_X7_passByDay m_X7_pass 4 := ⟨cw_X7_pass, in_X7_pass, cz_X7_pass, Nat.le_of_ble_eq_true rfl, Nat.le_of_ble_eq_true rfl⟩
theorem lk_RX7_43 : Lk RX7 43 (yn m_X7_lookAtWarmths) := Or.inl (tzc_3 177 (by decide +kernel) rfl)
theorem cz_X7_lookAtWarmths : (yn m_X7_lookAtWarmths).cls ≠ "java/lang/invoke/MethodHandle" ∧ (yn m_X7_lookAtWarmths).cls ≠ "java/lang/invoke/VarHandle" ∧ (parseMethodDescriptor (yn m_X7_lookAtWarmths).desc).map (fun d => d.parameters.length) = some 1 := by decide +kernel
theorem cs_X7_pass_X7_lookAtWarmths : Cs m_X7_pass m_X7_lookAtWarmths 1 := ⟨cw_X7_lookAtWarmths, in_X7_lookAtWarmths, cz_X7_lookAtWarmths, Nat.le_of_ble_eq_true rfl, Nat.le_of_ble_eq_true rfl⟩
theorem lk_RX7_47 : Lk RX7 47 (yn m_X0_roomOf) := Or.inl (tzc_3 182 (by decide +kernel) rfl)
theorem cz_X0_roomOf : (yn m_X0_roomOf).cls ≠ "java/lang/invoke/MethodHandle" ∧ (yn m_X0_roomOf).cls ≠ "java/lang/invoke/VarHandle" ∧ (parseMethodDescriptor (yn m_X0_roomOf).desc).map (fun d => d.parameters.length) = some 1 := by decide +kernel
theorem cs_X7_pass_X0_roomOf : Cs m_X7_pass m_X0_roomOf 1 := ⟨cw_X0_roomOf, in_X0_roomOf, cz_X0_roomOf, Nat.le_of_ble_eq_true rfl, Nat.le_of_ble_eq_true rfl⟩
theorem lk_RX7_53 : Lk RX7 53 (yn m_X0_sealOf) := Or.inl (tzc_3 188 (by decide +kernel) rfl)
theorem cz_X0_sealOf : (yn m_X0_sealOf).cls ≠ "java/lang/invoke/MethodHandle" ∧ (yn m_X0_sealOf).cls ≠ "java/lang/invoke/VarHandle" ∧ (parseMethodDescriptor (yn m_X0_sealOf).desc).map (fun d => d.parameters.length) = some 1 := by decide +kernel
theorem cs_X7_pass_X0_sealOf : Cs m_X7_pass m_X0_sealOf 1 := ⟨cw_X0_sealOf, in_X0_sealOf, cz_X0_sealOf, Nat.le_of_ble_eq_true rfl, Nat.le_of_ble_eq_true rfl⟩
theorem lk_RX7_56 : Lk RX7 56 (yn m_X7_switchMachine) := Or.inl (tzc_3 192 (by decide +kernel) rfl)
theorem cz_X7_switchMachine : (yn m_X7_switchMachine).cls ≠ "java/lang/invoke/MethodHandle" ∧ (yn m_X7_switchMachine).cls ≠ "java/lang/invoke/VarHandle" ∧ (parseMethodDescriptor (yn m_X7_switchMachine).desc).map (fun d => d.parameters.length) = some 3 := by decide +kernel
theorem cs_X7_pass_X7_switchMachine : Cs m_X7_pass m_X7_switchMachine 3 := ⟨cw_X7_switchMachine, in_X7_switchMachine, cz_X7_switchMachine, Nat.le_of_ble_eq_true rfl, Nat.le_of_ble_eq_true rfl⟩
theorem lk_RX7_63 : Lk RX7 63 (yn m_X7_exchange) := Or.inl (tzc_3 197 (by decide +kernel) rfl)
theorem cz_X7_exchange : (yn m_X7_exchange).cls ≠ "java/lang/invoke/MethodHandle" ∧ (yn m_X7_exchange).cls ≠ "java/lang/invoke/VarHandle" ∧ (parseMethodDescriptor (yn m_X7_exchange).desc).map (fun d => d.parameters.length) = some 3 := by decide +kernel
theorem cs_X7_pass_X7_exchange : Cs m_X7_pass m_X7_exchange 3 := ⟨cw_X7_exchange, in_X7_exchange, cz_X7_exchange, Nat.le_of_ble_eq_true rfl, Nat.le_of_ble_eq_true rfl⟩
theorem lk_RX7_70 : Lk RX7 70 (yn m_X6_has) := Or.inl (tzc_3 196 (by decide +kernel) rfl)
theorem cs_X7_pass_X6_has : Cs m_X7_pass m_X6_has 1 := ⟨cw_X6_has, in_X6_has, cz_X6_has, Nat.le_of_ble_eq_true rfl, Nat.le_of_ble_eq_true rfl⟩
theorem lk_RX7_73 : Lk RX7 73 (yn m_X7_giveLight) := Or.inl (tzc_3 208 (by decide +kernel) rfl)
theorem cz_X7_giveLight : (yn m_X7_giveLight).cls ≠ "java/lang/invoke/MethodHandle" ∧ (yn m_X7_giveLight).cls ≠ "java/lang/invoke/VarHandle" ∧ (parseMethodDescriptor (yn m_X7_giveLight).desc).map (fun d => d.parameters.length) = some 1 := by decide +kernel
theorem cs_X7_pass_X7_giveLight : Cs m_X7_pass m_X7_giveLight 1 := ⟨cw_X7_giveLight, in_X7_giveLight, cz_X7_giveLight, Nat.le_of_ble_eq_true rfl, Nat.le_of_ble_eq_true rfl⟩
theorem lk_RX7_79 : Lk RX7 79 (yn m_X0_powerOf) := Or.inl (tzc_3 213 (by decide +kernel) rfl)
theorem cz_X0_powerOf : (yn m_X0_powerOf).cls ≠ "java/lang/invoke/MethodHandle" ∧ (yn m_X0_powerOf).cls ≠ "java/lang/invoke/VarHandle" ∧ (parseMethodDescriptor (yn m_X0_powerOf).desc).map (fun d => d.parameters.length) = some 1 := by decide +kernel
theorem cs_X7_pass_X0_powerOf : Cs m_X7_pass m_X0_powerOf 1 := ⟨cw_X0_powerOf, in_X0_powerOf, cz_X0_powerOf, Nat.le_of_ble_eq_true rfl, Nat.le_of_ble_eq_true rfl⟩
theorem lk_RX7_82 : Lk RX7 82 (yn m_X7_moveOut) := Or.inl (tzc_3 217 (by decide +kernel) rfl)
theorem cz_X7_moveOut : (yn m_X7_moveOut).cls ≠ "java/lang/invoke/MethodHandle" ∧ (yn m_X7_moveOut).cls ≠ "java/lang/invoke/VarHandle" ∧ (parseMethodDescriptor (yn m_X7_moveOut).desc).map (fun d => d.parameters.length) = some 2 := by decide +kernel
theorem cs_X7_pass_X7_moveOut : Cs m_X7_pass m_X7_moveOut 2 := ⟨cw_X7_moveOut, in_X7_moveOut, cz_X7_moveOut, Nat.le_of_ble_eq_true rfl, Nat.le_of_ble_eq_true rfl⟩
theorem lk_RX7_86 : Lk RX7 86 (yn m_X7_takeWet) := Or.inl (tzc_3 222 (by decide +kernel) rfl)
theorem cz_X7_takeWet : (yn m_X7_takeWet).cls ≠ "java/lang/invoke/MethodHandle" ∧ (yn m_X7_takeWet).cls ≠ "java/lang/invoke/VarHandle" ∧ (parseMethodDescriptor (yn m_X7_takeWet).desc).map (fun d => d.parameters.length) = some 2 := by decide +kernel
theorem cs_X7_pass_X7_takeWet : Cs m_X7_pass m_X7_takeWet 2 := ⟨cw_X7_takeWet, in_X7_takeWet, cz_X7_takeWet, Nat.le_of_ble_eq_true rfl, Nat.le_of_ble_eq_true rfl⟩
theorem lk_RX7_92 : Lk RX7 92 (yn m_X6_warmthOf) := Or.inl (tzc_3 181 (by decide +kernel) rfl)
theorem cs_X7_lookAtWarmths_X6_warmthOf : Cs m_X7_lookAtWarmths m_X6_warmthOf 1 := ⟨cw_X6_warmthOf, in_X6_warmthOf, cz_X6_warmthOf, Nat.le_of_ble_eq_true rfl, Nat.le_of_ble_eq_true rfl⟩
theorem cs_X7_switchMachine_X6_has : Cs m_X7_switchMachine m_X6_has 1 := ⟨cw_X6_has, in_X6_has, cz_X6_has, Nat.le_of_ble_eq_true rfl, Nat.le_of_ble_eq_true rfl⟩
theorem lk_RX7_103 : Lk RX7 103 (yn m_J7_fill_d0a16) := Or.inl (tzc_3 201 (by decide +kernel) rfl)
theorem cs_X7_exchange_J7_fill_d0a16 : Cs m_X7_exchange m_J7_fill_d0a16 2 := ⟨cw_J7_fill_d0a16, in_J7_fill_d0a16, cz_J7_fill_d0a16, Nat.le_of_ble_eq_true rfl, Nat.le_of_ble_eq_true rfl⟩
theorem lk_RX7_114 : Lk RX7 114 (yn m_X7_flow) := Or.inl (tzc_3 203 (by decide +kernel) rfl)
theorem cz_X7_flow : (yn m_X7_flow).cls ≠ "java/lang/invoke/MethodHandle" ∧ (yn m_X7_flow).cls ≠ "java/lang/invoke/VarHandle" ∧ (parseMethodDescriptor (yn m_X7_flow).desc).map (fun d => d.parameters.length) = some 4 := by decide +kernel
theorem cs_X7_exchange_X7_flow : Cs m_X7_exchange m_X7_flow 4 := ⟨cw_X7_flow, in_X7_flow, cz_X7_flow, Nat.le_of_ble_eq_true rfl, Nat.le_of_ble_eq_true rfl⟩
theorem tw_701 : (Cond.methodLink "ColdBox$Ticker" (132 : Nat) ({ cls := "java/lang/Math", name := "max", desc := "(II)I" } : MethodName)) ∈ TB := tzc_3 221 (by decide +kernel) rfl
theorem cs_X7_takeWet_X6_warmthOf : Cs m_X7_takeWet m_X6_warmthOf 1 := ⟨cw_X6_warmthOf, in_X6_warmthOf, cz_X6_warmthOf, Nat.le_of_ble_eq_true rfl, Nat.le_of_ble_eq_true rfl⟩
theorem tw_706 : (Cond.methodLink "ColdBox$Ticker" (138 : Nat) ({ cls := "java/lang/Math", name := "min", desc := "(II)I" } : MethodName)) ∈ TB := tzc_3 226 (by decide +kernel) rfl
theorem tw_302 : (Cond.methodLink "ColdBox$Trials" (3 : Nat) ({ cls := "java/lang/Object", name := "<init>", desc := "()V" } : MethodName)) ∈ TB := tzc_2 62 (by decide +kernel) rfl
theorem lk_RX8_11 : Lk RX8 11 (yn m_X6_init) := Or.inr ⟨"ColdBox", tzn_2 64 (by decide +kernel) rfl⟩
theorem cs_X8_init_X6_init : Cs m_X8_init m_X6_init 0 := ⟨cw_X6_init, in_X6_init, cz_X6_init, Nat.le_of_ble_eq_true rfl, Nat.le_of_ble_eq_true rfl⟩
theorem lk_RX8_36 : Lk RX8 36 (yn m_X6_foodsThere) := Or.inl (tzc_5 32 (by decide +kernel) rfl)
theorem cz_X6_foodsThere : (yn m_X6_foodsThere).cls ≠ "java/lang/invoke/MethodHandle" ∧ (yn m_X6_foodsThere).cls ≠ "java/lang/invoke/VarHandle" ∧ (parseMethodDescriptor (yn m_X6_foodsThere).desc).map (fun d => d.parameters.length) = some 0 := by decide +kernel
theorem cs_X8_findBestRow_X6_foodsThere : Cs m_X8_findBestRow m_X6_foodsThere 0 := ⟨cw_X6_foodsThere, in_X6_foodsThere, cz_X6_foodsThere, Nat.le_of_ble_eq_true rfl, Nat.le_of_ble_eq_true rfl⟩
theorem lk_RX8_46 : Lk RX8 46 (yn m_X6_copyFrom) := Or.inl (tzc_5 33 (by decide +kernel) rfl)
theorem cz_X6_copyFrom : (yn m_X6_copyFrom).cls ≠ "java/lang/invoke/MethodHandle" ∧ (yn m_X6_copyFrom).cls ≠ "java/lang/invoke/VarHandle" ∧ (parseMethodDescriptor (yn m_X6_copyFrom).desc).map (fun d => d.parameters.length) = some 1 := by decide +kernel
theorem cs_X8_findBestRow_X6_copyFrom : Cs m_X8_findBestRow m_X6_copyFrom 1 := ⟨cw_X6_copyFrom, in_X6_copyFrom, cz_X6_copyFrom, Nat.le_of_ble_eq_true rfl, Nat.le_of_ble_eq_true rfl⟩
theorem lk_RX8_53 : Lk RX8 53 (yn m_X8_layByRow) := Or.inl (tzc_5 38 (by decide +kernel) rfl)
theorem cz_X8_layByRow : (yn m_X8_layByRow).cls ≠ "java/lang/invoke/MethodHandle" ∧ (yn m_X8_layByRow).cls ≠ "java/lang/invoke/VarHandle" ∧ (parseMethodDescriptor (yn m_X8_layByRow).desc).map (fun d => d.parameters.length) = some 2 := by decide +kernel
theorem cs_X8_findBestRow_X8_layByRow : Cs m_X8_findBestRow m_X8_layByRow 2 := ⟨cw_X8_layByRow, in_X8_layByRow, cz_X8_layByRow, Nat.le_of_ble_eq_true rfl, Nat.le_of_ble_eq_true rfl⟩
theorem lk_RX8_57 : Lk RX8 57 (yn m_X8_boxBulb) := Or.inl (tzc_5 42 (by decide +kernel) rfl)
theorem cz_X8_boxBulb : (yn m_X8_boxBulb).cls ≠ "java/lang/invoke/MethodHandle" ∧ (yn m_X8_boxBulb).cls ≠ "java/lang/invoke/VarHandle" ∧ (parseMethodDescriptor (yn m_X8_boxBulb).desc).map (fun d => d.parameters.length) = some 0 := by decide +kernel
theorem cs_X8_findBestRow_X8_boxBulb : Cs m_X8_findBestRow m_X8_boxBulb 0 := ⟨cw_X8_boxBulb, in_X8_boxBulb, cz_X8_boxBulb, Nat.le_of_ble_eq_true rfl, Nat.le_of_ble_eq_true rfl⟩
theorem lk_RX8_60 : Lk RX8 60 (yn m_X8_withinOnSecondDay) := Or.inl (tzc_5 46 (by decide +kernel) rfl)
theorem cz_X8_withinOnSecondDay : (yn m_X8_withinOnSecondDay).cls ≠ "java/lang/invoke/MethodHandle" ∧ (yn m_X8_withinOnSecondDay).cls ≠ "java/lang/invoke/VarHandle" ∧ (parseMethodDescriptor (yn m_X8_withinOnSecondDay).desc).map (fun d => d.parameters.length) = some 1 := by decide +kernel
theorem cs_X8_findBestRow_X8_withinOnSecondDay : Cs m_X8_findBestRow m_X8_withinOnSecondDay 1 := ⟨cw_X8_withinOnSecondDay, in_X8_withinOnSecondDay, cz_X8_withinOnSecondDay, Nat.le_of_ble_eq_true rfl, Nat.le_of_ble_eq_true rfl⟩
theorem lk_RX8_64 : Lk RX8 64 (yn m_X8_takeIfMore) := Or.inl (tzc_5 56 (by decide +kernel) rfl)
theorem cz_X8_takeIfMore : (yn m_X8_takeIfMore).cls ≠ "java/lang/invoke/MethodHandle" ∧ (yn m_X8_takeIfMore).cls ≠ "java/lang/invoke/VarHandle" ∧ (parseMethodDescriptor (yn m_X8_takeIfMore).desc).map (fun d => d.parameters.length) = some 2 := by decide +kernel
theorem cs_X8_findBestRow_X8_takeIfMore : Cs m_X8_findBestRow m_X8_takeIfMore 2 := ⟨cw_X8_takeIfMore, in_X8_takeIfMore, cz_X8_takeIfMore, Nat.le_of_ble_eq_true rfl, Nat.le_of_ble_eq_true rfl⟩
theorem cs_X8_shelfInBestRow_X8_layByRow : Cs m_X8_shelfInBestRow m_X8_layByRow 2 := ⟨cw_X8_layByRow, in_X8_layByRow, cz_X8_layByRow, Nat.le_of_ble_eq_true rfl, Nat.le_of_ble_eq_true rfl⟩
theorem cs_X8_findBestBulb_X6_copyFrom : Cs m_X8_findBestBulb m_X6_copyFrom 1 := ⟨cw_X6_copyFrom, in_X6_copyFrom, cz_X6_copyFrom, Nat.le_of_ble_eq_true rfl, Nat.le_of_ble_eq_true rfl⟩
theorem cs_X8_findBestBulb_X8_withinOnSecondDay : Cs m_X8_findBestBulb m_X8_withinOnSecondDay 1 := ⟨cw_X8_withinOnSecondDay, in_X8_withinOnSecondDay, cz_X8_withinOnSecondDay, Nat.le_of_ble_eq_true rfl, Nat.le_of_ble_eq_true rfl⟩
theorem cs_X8_findBestBulb_X8_takeIfMore : Cs m_X8_findBestBulb m_X8_takeIfMore 2 := ⟨cw_X8_takeIfMore, in_X8_takeIfMore, cz_X8_takeIfMore, Nat.le_of_ble_eq_true rfl, Nat.le_of_ble_eq_true rfl⟩
theorem lk_RX8_72 : Lk RX8 72 (yn m_X7_passByDay) := Or.inl (tzc_5 50 (by decide +kernel) rfl)
theorem cs_X8_withinOnSecondDay_X7_passByDay : Cs m_X8_withinOnSecondDay m_X7_passByDay 3 := ⟨cw_X7_passByDay, in_X7_passByDay, cz_X7_passByDay, Nat.le_of_ble_eq_true rfl, Nat.le_of_ble_eq_true rfl⟩
theorem lk_RX8_78 : Lk RX8 78 (yn m_X6_foodsWithin) := Or.inl (tzc_5 51 (by decide +kernel) rfl)
theorem cz_X6_foodsWithin : (yn m_X6_foodsWithin).cls ≠ "java/lang/invoke/MethodHandle" ∧ (yn m_X6_foodsWithin).cls ≠ "java/lang/invoke/VarHandle" ∧ (parseMethodDescriptor (yn m_X6_foodsWithin).desc).map (fun d => d.parameters.length) = some 0 := by decide +kernel
theorem cs_X8_withinOnSecondDay_X6_foodsWithin : Cs m_X8_withinOnSecondDay m_X6_foodsWithin 0 := ⟨cw_X6_foodsWithin, in_X6_foodsWithin, cz_X6_foodsWithin, Nat.le_of_ble_eq_true rfl, Nat.le_of_ble_eq_true rfl⟩
theorem cs_X8_ticksWithoutCurrent_X6_copyFrom : Cs m_X8_ticksWithoutCurrent m_X6_copyFrom 1 := ⟨cw_X6_copyFrom, in_X6_copyFrom, cz_X6_copyFrom, Nat.le_of_ble_eq_true rfl, Nat.le_of_ble_eq_true rfl⟩
theorem cs_X8_ticksWithoutCurrent_X8_boxBulb : Cs m_X8_ticksWithoutCurrent m_X8_boxBulb 0 := ⟨cw_X8_boxBulb, in_X8_boxBulb, cz_X8_boxBulb, Nat.le_of_ble_eq_true rfl, Nat.le_of_ble_eq_true rfl⟩
theorem cs_X8_ticksWithoutCurrent_X7_passByDay : Cs m_X8_ticksWithoutCurrent m_X7_passByDay 3 := ⟨cw_X7_passByDay, in_X7_passByDay, cz_X7_passByDay, Nat.le_of_ble_eq_true rfl, Nat.le_of_ble_eq_true rfl⟩
theorem lk_RX8_85 : Lk RX8 85 (yn m_X6_isWithin) := Or.inl (tzc_5 80 (by decide +kernel) rfl)
theorem cs_X8_ticksWithoutCurrent_X6_isWithin : Cs m_X8_ticksWithoutCurrent m_X6_isWithin 1 := ⟨cw_X6_isWithin, in_X6_isWithin, cz_X6_isWithin, Nat.le_of_ble_eq_true rfl, Nat.le_of_ble_eq_true rfl⟩
theorem lk_RX8_89 : Lk RX8 89 (yn m_X8_paidStoring) := Or.inl (tzc_5 93 (by decide +kernel) rfl)
theorem cz_X8_paidStoring : (yn m_X8_paidStoring).cls ≠ "java/lang/invoke/MethodHandle" ∧ (yn m_X8_paidStoring).cls ≠ "java/lang/invoke/VarHandle" ∧ (parseMethodDescriptor (yn m_X8_paidStoring).desc).map (fun d => d.parameters.length) = some 3 := by decide +kernel
theorem cs_X8_findBestStore_X8_paidStoring : Cs m_X8_findBestStore m_X8_paidStoring 3 := ⟨cw_X8_paidStoring, in_X8_paidStoring, cz_X8_paidStoring, Nat.le_of_ble_eq_true rfl, Nat.le_of_ble_eq_true rfl⟩
theorem cs_X8_paidStoring_X6_foodsThere : Cs m_X8_paidStoring m_X6_foodsThere 0 := ⟨cw_X6_foodsThere, in_X6_foodsThere, cz_X6_foodsThere, Nat.le_of_ble_eq_true rfl, Nat.le_of_ble_eq_true rfl⟩
theorem cs_X8_paidStoring_X6_copyFrom : Cs m_X8_paidStoring m_X6_copyFrom 1 := ⟨cw_X6_copyFrom, in_X6_copyFrom, cz_X6_copyFrom, Nat.le_of_ble_eq_true rfl, Nat.le_of_ble_eq_true rfl⟩
theorem lk_RX8_93 : Lk RX8 93 (yn m_X6_tickOfDay) := Or.inl (tzc_5 97 (by decide +kernel) rfl)
theorem cs_X8_paidStoring_X6_tickOfDay : Cs m_X8_paidStoring m_X6_tickOfDay 0 := ⟨cw_X6_tickOfDay, in_X6_tickOfDay, cz_X6_tickOfDay, Nat.le_of_ble_eq_true rfl, Nat.le_of_ble_eq_true rfl⟩
theorem lk_RX8_96 : Lk RX8 96 (yn m_X8_isCheapHour) := Or.inl (tzc_5 98 (by decide +kernel) rfl)
theorem cz_X8_isCheapHour : (yn m_X8_isCheapHour).cls ≠ "java/lang/invoke/MethodHandle" ∧ (yn m_X8_isCheapHour).cls ≠ "java/lang/invoke/VarHandle" ∧ (parseMethodDescriptor (yn m_X8_isCheapHour).desc).map (fun d => d.parameters.length) = some 1 := by decide +kernel
theorem cs_X8_paidStoring_X8_isCheapHour : Cs m_X8_paidStoring m_X8_isCheapHour 1 := ⟨cw_X8_isCheapHour, in_X8_isCheapHour, cz_X8_isCheapHour, Nat.le_of_ble_eq_true rfl, Nat.le_of_ble_eq_true rfl⟩
theorem lk_RX8_106 : Lk RX8 106 (yn m_X3_isOpenIn) := Or.inl (tzc_5 102 (by decide +kernel) rfl)
theorem cs_X8_paidStoring_X3_isOpenIn : Cs m_X8_paidStoring m_X3_isOpenIn 1 := ⟨cw_X3_isOpenIn, in_X3_isOpenIn, cz_X3_isOpenIn, Nat.le_of_ble_eq_true rfl, Nat.le_of_ble_eq_true rfl⟩
theorem cs_X8_paidStoring_X8_boxBulb : Cs m_X8_paidStoring m_X8_boxBulb 0 := ⟨cw_X8_boxBulb, in_X8_boxBulb, cz_X8_boxBulb, Nat.le_of_ble_eq_true rfl, Nat.le_of_ble_eq_true rfl⟩
theorem lk_RX8_111 : Lk RX8 111 (yn m_X7_pass) := Or.inl (tzc_5 103 (by decide +kernel) rfl)
theorem cs_X8_paidStoring_X7_pass : Cs m_X8_paidStoring m_X7_pass 4 := ⟨cw_X7_pass, in_X7_pass, cz_X7_pass, Nat.le_of_ble_eq_true rfl, Nat.le_of_ble_eq_true rfl⟩
theorem cs_X8_paidStoring_X6_foodsWithin : Cs m_X8_paidStoring m_X6_foodsWithin 0 := ⟨cw_X6_foodsWithin, in_X6_foodsWithin, cz_X6_foodsWithin, Nat.le_of_ble_eq_true rfl, Nat.le_of_ble_eq_true rfl⟩
theorem tw_25 : (Cond.methodLink "ColdBox" (1 : Nat) ({ cls := "java/lang/Object", name := "<init>", desc := "()V" } : MethodName)) ∈ TB := tzc_1 25 (by decide +kernel) rfl
theorem lk_RX9_9 : Lk RX9 9 (yn m_X5_init) := Or.inr ⟨"ColdBox", tzn_1 30 (by decide +kernel) rfl⟩
theorem cz_X5_init : (yn m_X5_init).cls ≠ "java/lang/invoke/MethodHandle" ∧ (yn m_X5_init).cls ≠ "java/lang/invoke/VarHandle" ∧ (parseMethodDescriptor (yn m_X5_init).desc).map (fun d => d.parameters.length) = some 0 := by decide +kernel
theorem cs_X9_init_X5_init : Cs m_X9_init m_X5_init 0 := ⟨cw_X5_init, in_X5_init, cz_X5_init, Nat.le_of_ble_eq_true rfl, Nat.le_of_ble_eq_true rfl⟩
theorem lk_RX9_18 : Lk RX9 18 (yn m_X0_init) := Or.inl (tzc_1 77 (by decide +kernel) rfl)
theorem cz_X0_init : (yn m_X0_init).cls ≠ "java/lang/invoke/MethodHandle" ∧ (yn m_X0_init).cls ≠ "java/lang/invoke/VarHandle" ∧ (parseMethodDescriptor (yn m_X0_init).desc).map (fun d => d.parameters.length) = some 0 := by decide +kernel
theorem cs_X9_init_X0_init : Cs m_X9_init m_X0_init 0 := ⟨cw_X0_init, in_X0_init, cz_X0_init, Nat.le_of_ble_eq_true rfl, Nat.le_of_ble_eq_true rfl⟩
theorem lk_RX9_25 : Lk RX9 25 (yn m_X3_init) := Or.inr ⟨"ColdBox", tzn_1 96 (by decide +kernel) rfl⟩
theorem cz_X3_init : (yn m_X3_init).cls ≠ "java/lang/invoke/MethodHandle" ∧ (yn m_X3_init).cls ≠ "java/lang/invoke/VarHandle" ∧ (parseMethodDescriptor (yn m_X3_init).desc).map (fun d => d.parameters.length) = some 0 := by decide +kernel
theorem cs_X9_init_X3_init : Cs m_X9_init m_X3_init 0 := ⟨cw_X3_init, in_X3_init, cz_X3_init, Nat.le_of_ble_eq_true rfl, Nat.le_of_ble_eq_true rfl⟩
theorem lk_RX9_32 : Lk RX9 32 (yn m_X7_init) := Or.inl (tzc_1 118 (by decide +kernel) rfl)
theorem cz_X7_init : (yn m_X7_init).cls ≠ "java/lang/invoke/MethodHandle" ∧ (yn m_X7_init).cls ≠ "java/lang/invoke/VarHandle" ∧ (parseMethodDescriptor (yn m_X7_init).desc).map (fun d => d.parameters.length) = some 2 := by decide +kernel
theorem cs_X9_init_X7_init : Cs m_X9_init m_X7_init 2 := ⟨cw_X7_init, in_X7_init, cz_X7_init, Nat.le_of_ble_eq_true rfl, Nat.le_of_ble_eq_true rfl⟩
theorem lk_RX9_41 : Lk RX9 41 (yn m_X6_init) := Or.inr ⟨"ColdBox", tzn_1 141 (by decide +kernel) rfl⟩
theorem cs_X9_init_X6_init : Cs m_X9_init m_X6_init 0 := ⟨cw_X6_init, in_X6_init, cz_X6_init, Nat.le_of_ble_eq_true rfl, Nat.le_of_ble_eq_true rfl⟩
theorem lk_RX9_61 : Lk RX9 61 (yn m_X1_init) := Or.inl (tzc_1 218 (by decide +kernel) rfl)
theorem cz_X1_init : (yn m_X1_init).cls ≠ "java/lang/invoke/MethodHandle" ∧ (yn m_X1_init).cls ≠ "java/lang/invoke/VarHandle" ∧ (parseMethodDescriptor (yn m_X1_init).desc).map (fun d => d.parameters.length) = some 1 := by decide +kernel
theorem cs_X9_init_X1_init : Cs m_X9_init m_X1_init 1 := ⟨cw_X1_init, in_X1_init, cz_X1_init, Nat.le_of_ble_eq_true rfl, Nat.le_of_ble_eq_true rfl⟩
theorem lk_RX9_70 : Lk RX9 70 (yn m_X2_init) := Or.inl (tzc_1 239 (by decide +kernel) rfl)
theorem cz_X2_init : (yn m_X2_init).cls ≠ "java/lang/invoke/MethodHandle" ∧ (yn m_X2_init).cls ≠ "java/lang/invoke/VarHandle" ∧ (parseMethodDescriptor (yn m_X2_init).desc).map (fun d => d.parameters.length) = some 1 := by decide +kernel
theorem cs_X9_init_X2_init : Cs m_X9_init m_X2_init 1 := ⟨cw_X2_init, in_X2_init, cz_X2_init, Nat.le_of_ble_eq_true rfl, Nat.le_of_ble_eq_true rfl⟩
theorem lk_RX9_79 : Lk RX9 79 (yn m_X4_init) := Or.inl (tzc_2 40 (by decide +kernel) rfl)
theorem cz_X4_init : (yn m_X4_init).cls ≠ "java/lang/invoke/MethodHandle" ∧ (yn m_X4_init).cls ≠ "java/lang/invoke/VarHandle" ∧ (parseMethodDescriptor (yn m_X4_init).desc).map (fun d => d.parameters.length) = some 1 := by decide +kernel
theorem cs_X9_init_X4_init : Cs m_X9_init m_X4_init 1 := ⟨cw_X4_init, in_X4_init, cz_X4_init, Nat.le_of_ble_eq_true rfl, Nat.le_of_ble_eq_true rfl⟩
theorem lk_RX9_86 : Lk RX9 86 (yn m_X8_init) := Or.inl (tzc_2 59 (by decide +kernel) rfl)
theorem cz_X8_init : (yn m_X8_init).cls ≠ "java/lang/invoke/MethodHandle" ∧ (yn m_X8_init).cls ≠ "java/lang/invoke/VarHandle" ∧ (parseMethodDescriptor (yn m_X8_init).desc).map (fun d => d.parameters.length) = some 2 := by decide +kernel
theorem cs_X9_init_X8_init : Cs m_X9_init m_X8_init 2 := ⟨cw_X8_init, in_X8_init, cz_X8_init, Nat.le_of_ble_eq_true rfl, Nat.le_of_ble_eq_true rfl⟩
theorem lk_RX9_97 : Lk RX9 97 (yn m_X6_becomeFresh) := Or.inl (tzc_2 98 (by decide +kernel) rfl)
theorem cs_X9_init_X6_becomeFresh : Cs m_X9_init m_X6_becomeFresh 0 := ⟨cw_X6_becomeFresh, in_X6_becomeFresh, cz_X6_becomeFresh, Nat.le_of_ble_eq_true rfl, Nat.le_of_ble_eq_true rfl⟩
theorem lk_RX9_101 : Lk RX9 101 (yn m_X5_append) := Or.inl (tzc_2 157 (by decide +kernel) rfl)
theorem cz_X5_append : (yn m_X5_append).cls ≠ "java/lang/invoke/MethodHandle" ∧ (yn m_X5_append).cls ≠ "java/lang/invoke/VarHandle" ∧ (parseMethodDescriptor (yn m_X5_append).desc).map (fun d => d.parameters.length) = some 2 := by decide +kernel
theorem cs_X9_feed_X5_append : Cs m_X9_feed m_X5_append 2 := ⟨cw_X5_append, in_X5_append, cz_X5_append, Nat.le_of_ble_eq_true rfl, Nat.le_of_ble_eq_true rfl⟩
theorem lk_RX9_110 : Lk RX9 110 (yn m_X5_readBox) := Or.inl (tzc_2 167 (by decide +kernel) rfl)
theorem cz_X5_readBox : (yn m_X5_readBox).cls ≠ "java/lang/invoke/MethodHandle" ∧ (yn m_X5_readBox).cls ≠ "java/lang/invoke/VarHandle" ∧ (parseMethodDescriptor (yn m_X5_readBox).desc).map (fun d => d.parameters.length) = some 0 := by decide +kernel
theorem cs_X9_box_X5_readBox : Cs m_X9_box m_X5_readBox 0 := ⟨cw_X5_readBox, in_X5_readBox, cz_X5_readBox, Nat.le_of_ble_eq_true rfl, Nat.le_of_ble_eq_true rfl⟩
theorem lk_RX9_120 : Lk RX9 120 (yn m_X0_copyFrom) := Or.inl (tzc_3 47 (by decide +kernel) rfl)
theorem cz_X0_copyFrom : (yn m_X0_copyFrom).cls ≠ "java/lang/invoke/MethodHandle" ∧ (yn m_X0_copyFrom).cls ≠ "java/lang/invoke/VarHandle" ∧ (parseMethodDescriptor (yn m_X0_copyFrom).desc).map (fun d => d.parameters.length) = some 1 := by decide +kernel
theorem cs_X9_box_X0_copyFrom : Cs m_X9_box m_X0_copyFrom 1 := ⟨cw_X0_copyFrom, in_X0_copyFrom, cz_X0_copyFrom, Nat.le_of_ble_eq_true rfl, Nat.le_of_ble_eq_true rfl⟩
theorem cs_X9_box_X6_becomeFresh : Cs m_X9_box m_X6_becomeFresh 0 := ⟨cw_X6_becomeFresh, in_X6_becomeFresh, cz_X6_becomeFresh, Nat.le_of_ble_eq_true rfl, Nat.le_of_ble_eq_true rfl⟩
theorem lk_RX9_124 : Lk RX9 124 (yn m_X1_forgetSigns) := Or.inl (tzc_3 51 (by decide +kernel) rfl)
theorem cz_X1_forgetSigns : (yn m_X1_forgetSigns).cls ≠ "java/lang/invoke/MethodHandle" ∧ (yn m_X1_forgetSigns).cls ≠ "java/lang/invoke/VarHandle" ∧ (parseMethodDescriptor (yn m_X1_forgetSigns).desc).map (fun d => d.parameters.length) = some 0 := by decide +kernel
theorem cs_X9_box_X1_forgetSigns : Cs m_X9_box m_X1_forgetSigns 0 := ⟨cw_X1_forgetSigns, in_X1_forgetSigns, cz_X1_forgetSigns, Nat.le_of_ble_eq_true rfl, Nat.le_of_ble_eq_true rfl⟩
theorem lk_RX9_130 : Lk RX9 130 (yn m_X5_readDay) := Or.inl (tzc_3 61 (by decide +kernel) rfl)
theorem cz_X5_readDay : (yn m_X5_readDay).cls ≠ "java/lang/invoke/MethodHandle" ∧ (yn m_X5_readDay).cls ≠ "java/lang/invoke/VarHandle" ∧ (parseMethodDescriptor (yn m_X5_readDay).desc).map (fun d => d.parameters.length) = some 0 := by decide +kernel
theorem cs_X9_day_X5_readDay : Cs m_X9_day m_X5_readDay 0 := ⟨cw_X5_readDay, in_X5_readDay, cz_X5_readDay, Nat.le_of_ble_eq_true rfl, Nat.le_of_ble_eq_true rfl⟩
theorem lk_RX9_139 : Lk RX9 139 (yn m_X3_copyFrom) := Or.inl (tzc_3 70 (by decide +kernel) rfl)
theorem cz_X3_copyFrom : (yn m_X3_copyFrom).cls ≠ "java/lang/invoke/MethodHandle" ∧ (yn m_X3_copyFrom).cls ≠ "java/lang/invoke/VarHandle" ∧ (parseMethodDescriptor (yn m_X3_copyFrom).desc).map (fun d => d.parameters.length) = some 3 := by decide +kernel
theorem cs_X9_day_X3_copyFrom : Cs m_X9_day m_X3_copyFrom 3 := ⟨cw_X3_copyFrom, in_X3_copyFrom, cz_X3_copyFrom, Nat.le_of_ble_eq_true rfl, Nat.le_of_ble_eq_true rfl⟩
theorem cs_X9_day_X1_forgetSigns : Cs m_X9_day m_X1_forgetSigns 0 := ⟨cw_X1_forgetSigns, in_X1_forgetSigns, cz_X1_forgetSigns, Nat.le_of_ble_eq_true rfl, Nat.le_of_ble_eq_true rfl⟩
theorem lk_RX9_151 : Lk RX9 151 (yn m_X9_isSet) := Or.inl (tzc_3 93 (by decide +kernel) rfl)
theorem cs_X9_trouble_X9_isSet : Cs m_X9_trouble m_X9_isSet 1 := ⟨cw_X9_isSet, in_X9_isSet, cz_X9_isSet, Nat.le_of_ble_eq_true rfl, Nat.le_of_ble_eq_true rfl⟩
theorem tw_577 : (Cond.methodLink "ColdBox" (162 : Nat) ({ cls := "java/lang/Math", name := "max", desc := "(II)I" } : MethodName)) ∈ TB := tzc_3 97 (by decide +kernel) rfl
theorem cs_X9_fresh_X6_becomeFresh : Cs m_X9_fresh m_X6_becomeFresh 0 := ⟨cw_X6_becomeFresh, in_X6_becomeFresh, cz_X6_becomeFresh, Nat.le_of_ble_eq_true rfl, Nat.le_of_ble_eq_true rfl⟩
theorem lk_RX9_171 : Lk RX9 171 (yn m_X9_isShelf) := Or.inl (tzc_3 114 (by decide +kernel) rfl)
theorem cz_X9_isShelf : (yn m_X9_isShelf).cls ≠ "java/lang/invoke/MethodHandle" ∧ (yn m_X9_isShelf).cls ≠ "java/lang/invoke/VarHandle" ∧ (parseMethodDescriptor (yn m_X9_isShelf).desc).map (fun d => d.parameters.length) = some 1 := by decide +kernel
theorem cs_X9_put_X9_isShelf : Cs m_X9_put m_X9_isShelf 1 := ⟨cw_X9_isShelf, in_X9_isShelf, cz_X9_isShelf, Nat.le_of_ble_eq_true rfl, Nat.le_of_ble_eq_true rfl⟩
theorem lk_RX9_174 : Lk RX9 174 (yn m_X9_canBeWarmth) := Or.inl (tzc_3 117 (by decide +kernel) rfl)
theorem cz_X9_canBeWarmth : (yn m_X9_canBeWarmth).cls ≠ "java/lang/invoke/MethodHandle" ∧ (yn m_X9_canBeWarmth).cls ≠ "java/lang/invoke/VarHandle" ∧ (parseMethodDescriptor (yn m_X9_canBeWarmth).desc).map (fun d => d.parameters.length) = some 1 := by decide +kernel
theorem cs_X9_put_X9_canBeWarmth : Cs m_X9_put m_X9_canBeWarmth 1 := ⟨cw_X9_canBeWarmth, in_X9_canBeWarmth, cz_X9_canBeWarmth, Nat.le_of_ble_eq_true rfl, Nat.le_of_ble_eq_true rfl⟩
theorem lk_RX9_177 : Lk RX9 177 (yn m_X6_firstNotThere) := Or.inl (tzc_3 120 (by decide +kernel) rfl)
theorem cz_X6_firstNotThere : (yn m_X6_firstNotThere).cls ≠ "java/lang/invoke/MethodHandle" ∧ (yn m_X6_firstNotThere).cls ≠ "java/lang/invoke/VarHandle" ∧ (parseMethodDescriptor (yn m_X6_firstNotThere).desc).map (fun d => d.parameters.length) = some 0 := by decide +kernel
theorem cs_X9_put_X6_firstNotThere : Cs m_X9_put m_X6_firstNotThere 0 := ⟨cw_X6_firstNotThere, in_X6_firstNotThere, cz_X6_firstNotThere, Nat.le_of_ble_eq_true rfl, Nat.le_of_ble_eq_true rfl⟩
theorem lk_RX9_187 : Lk RX9 187 (yn m_X6_addFood) := Or.inl (tzc_3 124 (by decide +kernel) rfl)
theorem cz_X6_addFood : (yn m_X6_addFood).cls ≠ "java/lang/invoke/MethodHandle" ∧ (yn m_X6_addFood).cls ≠ "java/lang/invoke/VarHandle" ∧ (parseMethodDescriptor (yn m_X6_addFood).desc).map (fun d => d.parameters.length) = some 4 := by decide +kernel
theorem cs_X9_put_X6_addFood : Cs m_X9_put m_X6_addFood 4 := ⟨cw_X6_addFood, in_X6_addFood, cz_X6_addFood, Nat.le_of_ble_eq_true rfl, Nat.le_of_ble_eq_true rfl⟩
theorem lk_RX9_191 : Lk RX9 191 (yn m_X6_hasFood) := Or.inl (tzc_3 132 (by decide +kernel) rfl)
theorem cz_X6_hasFood : (yn m_X6_hasFood).cls ≠ "java/lang/invoke/MethodHandle" ∧ (yn m_X6_hasFood).cls ≠ "java/lang/invoke/VarHandle" ∧ (parseMethodDescriptor (yn m_X6_hasFood).desc).map (fun d => d.parameters.length) = some 1 := by decide +kernel
theorem cs_X9_take_X6_hasFood : Cs m_X9_take m_X6_hasFood 1 := ⟨cw_X6_hasFood, in_X6_hasFood, cz_X6_hasFood, Nat.le_of_ble_eq_true rfl, Nat.le_of_ble_eq_true rfl⟩
theorem lk_RX9_194 : Lk RX9 194 (yn m_X6_warmthOf) := Or.inl (tzc_3 136 (by decide +kernel) rfl)
theorem cs_X9_take_X6_warmthOf : Cs m_X9_take m_X6_warmthOf 1 := ⟨cw_X6_warmthOf, in_X6_warmthOf, cz_X6_warmthOf, Nat.le_of_ble_eq_true rfl, Nat.le_of_ble_eq_true rfl⟩
theorem lk_RX9_198 : Lk RX9 198 (yn m_X6_removeFood) := Or.inl (tzc_3 140 (by decide +kernel) rfl)
theorem cz_X6_removeFood : (yn m_X6_removeFood).cls ≠ "java/lang/invoke/MethodHandle" ∧ (yn m_X6_removeFood).cls ≠ "java/lang/invoke/VarHandle" ∧ (parseMethodDescriptor (yn m_X6_removeFood).desc).map (fun d => d.parameters.length) = some 1 := by decide +kernel
theorem cs_X9_take_X6_removeFood : Cs m_X9_take m_X6_removeFood 1 := ⟨cw_X6_removeFood, in_X6_removeFood, cz_X6_removeFood, Nat.le_of_ble_eq_true rfl, Nat.le_of_ble_eq_true rfl⟩
theorem cs_X9_lay_X6_hasFood : Cs m_X9_lay m_X6_hasFood 1 := ⟨cw_X6_hasFood, in_X6_hasFood, cz_X6_hasFood, Nat.le_of_ble_eq_true rfl, Nat.le_of_ble_eq_true rfl⟩
theorem cs_X9_lay_X9_isShelf : Cs m_X9_lay m_X9_isShelf 1 := ⟨cw_X9_isShelf, in_X9_isShelf, cz_X9_isShelf, Nat.le_of_ble_eq_true rfl, Nat.le_of_ble_eq_true rfl⟩
theorem cs_X9_food_X6_hasFood : Cs m_X9_food m_X6_hasFood 1 := ⟨cw_X6_hasFood, in_X6_hasFood, cz_X6_hasFood, Nat.le_of_ble_eq_true rfl, Nat.le_of_ble_eq_true rfl⟩
theorem cs_X9_food_X6_warmthOf : Cs m_X9_food m_X6_warmthOf 1 := ⟨cw_X6_warmthOf, in_X6_warmthOf, cz_X6_warmthOf, Nat.le_of_ble_eq_true rfl, Nat.le_of_ble_eq_true rfl⟩
theorem lk_RX9_208 : Lk RX9 208 (yn m_X6_isWithin) := Or.inl (tzc_3 152 (by decide +kernel) rfl)
theorem cs_X9_food_X6_isWithin : Cs m_X9_food m_X6_isWithin 1 := ⟨cw_X6_isWithin, in_X6_isWithin, cz_X6_isWithin, Nat.le_of_ble_eq_true rfl, Nat.le_of_ble_eq_true rfl⟩
theorem lk_RX9_211 : Lk RX9 211 (yn m_X7_passByDay) := Or.inl (tzc_3 161 (by decide +kernel) rfl)
theorem cs_X9_run_X7_passByDay : Cs m_X9_run m_X7_passByDay 3 := ⟨cw_X7_passByDay, in_X7_passByDay, cz_X7_passByDay, Nat.le_of_ble_eq_true rfl, Nat.le_of_ble_eq_true rfl⟩
theorem lk_RX9_215 : Lk RX9 215 (yn m_X6_tickOfDay) := Or.inl (tzc_3 233 (by decide +kernel) rfl)
theorem cs_X9_drawn_X6_tickOfDay : Cs m_X9_drawn m_X6_tickOfDay 0 := ⟨cw_X6_tickOfDay, in_X6_tickOfDay, cz_X6_tickOfDay, Nat.le_of_ble_eq_true rfl, Nat.le_of_ble_eq_true rfl⟩
theorem lk_RX9_218 : Lk RX9 218 (yn m_X9_drawDoor) := Or.inl (tzc_3 234 (by decide +kernel) rfl)
theorem cz_X9_drawDoor : (yn m_X9_drawDoor).cls ≠ "java/lang/invoke/MethodHandle" ∧ (yn m_X9_drawDoor).cls ≠ "java/lang/invoke/VarHandle" ∧ (parseMethodDescriptor (yn m_X9_drawDoor).desc).map (fun d => d.parameters.length) = some 1 := by decide +kernel
theorem cs_X9_drawn_X9_drawDoor : Cs m_X9_drawn m_X9_drawDoor 1 := ⟨cw_X9_drawDoor, in_X9_drawDoor, cz_X9_drawDoor, Nat.le_of_ble_eq_true rfl, Nat.le_of_ble_eq_true rfl⟩
theorem lk_RX9_221 : Lk RX9 221 (yn m_X7_pass) := Or.inl (tzc_4 6 (by decide +kernel) rfl)
theorem cs_X9_drawn_X7_pass : Cs m_X9_drawn m_X7_pass 4 := ⟨cw_X7_pass, in_X7_pass, cz_X7_pass, Nat.le_of_ble_eq_true rfl, Nat.le_of_ble_eq_true rfl⟩
theorem cs_X9_warmth_X6_warmthOf : Cs m_X9_warmth m_X6_warmthOf 1 := ⟨cw_X6_warmthOf, in_X6_warmthOf, cz_X6_warmthOf, Nat.le_of_ble_eq_true rfl, Nat.le_of_ble_eq_true rfl⟩
theorem lk_RX9_227 : Lk RX9 227 (yn m_X6_allHeat) := Or.inl (tzc_4 16 (by decide +kernel) rfl)
theorem cz_X6_allHeat : (yn m_X6_allHeat).cls ≠ "java/lang/invoke/MethodHandle" ∧ (yn m_X6_allHeat).cls ≠ "java/lang/invoke/VarHandle" ∧ (parseMethodDescriptor (yn m_X6_allHeat).desc).map (fun d => d.parameters.length) = some 0 := by decide +kernel
theorem cs_X9_heat_X6_allHeat : Cs m_X9_heat m_X6_allHeat 0 := ⟨cw_X6_allHeat, in_X6_allHeat, cz_X6_allHeat, Nat.le_of_ble_eq_true rfl, Nat.le_of_ble_eq_true rfl⟩
theorem lk_RX9_241 : Lk RX9 241 (yn m_X6_foodsThere) := Or.inl (tzc_4 24 (by decide +kernel) rfl)
theorem cs_X9_count_X6_foodsThere : Cs m_X9_count m_X6_foodsThere 0 := ⟨cw_X6_foodsThere, in_X6_foodsThere, cz_X6_foodsThere, Nat.le_of_ble_eq_true rfl, Nat.le_of_ble_eq_true rfl⟩
theorem lk_RX9_244 : Lk RX9 244 (yn m_X6_letOffIce) := Or.inl (tzc_4 32 (by decide +kernel) rfl)
theorem cs_X9_thaw_X6_letOffIce : Cs m_X9_thaw m_X6_letOffIce 0 := ⟨cw_X6_letOffIce, in_X6_letOffIce, cz_X6_letOffIce, Nat.le_of_ble_eq_true rfl, Nat.le_of_ble_eq_true rfl⟩
theorem cs_X9_sign_X9_isSet : Cs m_X9_sign m_X9_isSet 1 := ⟨cw_X9_isSet, in_X9_isSet, cz_X9_isSet, Nat.le_of_ble_eq_true rfl, Nat.le_of_ble_eq_true rfl⟩
theorem lk_RX9_247 : Lk RX9 247 (yn m_X9_isSign) := Or.inl (tzc_4 41 (by decide +kernel) rfl)
theorem cs_X9_sign_X9_isSign : Cs m_X9_sign m_X9_isSign 1 := ⟨cw_X9_isSign, in_X9_isSign, cz_X9_isSign, Nat.le_of_ble_eq_true rfl, Nat.le_of_ble_eq_true rfl⟩
theorem lk_RX9_250 : Lk RX9 250 (yn m_X9_areSignDays) := Or.inl (tzc_4 44 (by decide +kernel) rfl)
theorem cs_X9_sign_X9_areSignDays : Cs m_X9_sign m_X9_areSignDays 1 := ⟨cw_X9_areSignDays, in_X9_areSignDays, cz_X9_areSignDays, Nat.le_of_ble_eq_true rfl, Nat.le_of_ble_eq_true rfl⟩
theorem lk_RX9_253 : Lk RX9 253 (yn m_X1_learn) := Or.inl (tzc_4 47 (by decide +kernel) rfl)
theorem cs_X9_sign_X1_learn : Cs m_X9_sign m_X1_learn 2 := ⟨cw_X1_learn, in_X1_learn, cz_X1_learn, Nat.le_of_ble_eq_true rfl, Nat.le_of_ble_eq_true rfl⟩
theorem lk_RX9_257 : Lk RX9 257 (yn m_X1_signOf) := Or.inl (tzc_4 63 (by decide +kernel) rfl)
theorem cs_X9_sign_X1_signOf : Cs m_X9_sign m_X1_signOf 3 := ⟨cw_X1_signOf, in_X1_signOf, cz_X1_signOf, Nat.le_of_ble_eq_true rfl, Nat.le_of_ble_eq_true rfl⟩
theorem cs_X9_seen_X9_isSign : Cs m_X9_seen m_X9_isSign 1 := ⟨cw_X9_isSign, in_X9_isSign, cz_X9_isSign, Nat.le_of_ble_eq_true rfl, Nat.le_of_ble_eq_true rfl⟩
theorem lk_RX9_272 : Lk RX9 272 (yn m_X2_howManySeen) := Or.inl (tzc_4 74 (by decide +kernel) rfl)
theorem cz_X2_howManySeen : (yn m_X2_howManySeen).cls ≠ "java/lang/invoke/MethodHandle" ∧ (yn m_X2_howManySeen).cls ≠ "java/lang/invoke/VarHandle" ∧ (parseMethodDescriptor (yn m_X2_howManySeen).desc).map (fun d => d.parameters.length) = some 0 := by decide +kernel
theorem cs_X9_seen_X2_howManySeen : Cs m_X9_seen m_X2_howManySeen 0 := ⟨cw_X2_howManySeen, in_X2_howManySeen, cz_X2_howManySeen, Nat.le_of_ble_eq_true rfl, Nat.le_of_ble_eq_true rfl⟩
theorem cs_X9_forget_X2_howManySeen : Cs m_X9_forget m_X2_howManySeen 0 := ⟨cw_X2_howManySeen, in_X2_howManySeen, cz_X2_howManySeen, Nat.le_of_ble_eq_true rfl, Nat.le_of_ble_eq_true rfl⟩
theorem lk_RX9_275 : Lk RX9 275 (yn m_X9_isTrouble) := Or.inl (tzc_4 86 (by decide +kernel) rfl)
theorem cz_X9_isTrouble : (yn m_X9_isTrouble).cls ≠ "java/lang/invoke/MethodHandle" ∧ (yn m_X9_isTrouble).cls ≠ "java/lang/invoke/VarHandle" ∧ (parseMethodDescriptor (yn m_X9_isTrouble).desc).map (fun d => d.parameters.length) = some 1 := by decide +kernel
theorem cs_X9_prior_X9_isTrouble : Cs m_X9_prior m_X9_isTrouble 1 := ⟨cw_X9_isTrouble, in_X9_isTrouble, cz_X9_isTrouble, Nat.le_of_ble_eq_true rfl, Nat.le_of_ble_eq_true rfl⟩
theorem cs_X9_bother_X9_isSign : Cs m_X9_bother m_X9_isSign 1 := ⟨cw_X9_isSign, in_X9_isSign, cz_X9_isSign, Nat.le_of_ble_eq_true rfl, Nat.le_of_ble_eq_true rfl⟩
theorem cs_X9_odds_X9_isSet : Cs m_X9_odds m_X9_isSet 1 := ⟨cw_X9_isSet, in_X9_isSet, cz_X9_isSet, Nat.le_of_ble_eq_true rfl, Nat.le_of_ble_eq_true rfl⟩
theorem lk_RX9_284 : Lk RX9 284 (yn m_J6_bitCount_0f7a4) := Or.inl (tzc_4 97 (by decide +kernel) rfl)
theorem cz_J6_bitCount_0f7a4 : (yn m_J6_bitCount_0f7a4).cls ≠ "java/lang/invoke/MethodHandle" ∧ (yn m_J6_bitCount_0f7a4).cls ≠ "java/lang/invoke/VarHandle" ∧ (parseMethodDescriptor (yn m_J6_bitCount_0f7a4).desc).map (fun d => d.parameters.length) = some 1 := by decide +kernel
theorem cs_X9_odds_J6_bitCount_0f7a4 : Cs m_X9_odds m_J6_bitCount_0f7a4 1 := ⟨cw_J6_bitCount_0f7a4, in_J6_bitCount_0f7a4, cz_J6_bitCount_0f7a4, Nat.le_of_ble_eq_true rfl, Nat.le_of_ble_eq_true rfl⟩
theorem cs_X9_odds_X9_areSignDays : Cs m_X9_odds m_X9_areSignDays 1 := ⟨cw_X9_areSignDays, in_X9_areSignDays, cz_X9_areSignDays, Nat.le_of_ble_eq_true rfl, Nat.le_of_ble_eq_true rfl⟩
theorem lk_RX9_289 : Lk RX9 289 (yn m_X1_learnCouldBe) := Or.inl (tzc_4 103 (by decide +kernel) rfl)
theorem cz_X1_learnCouldBe : (yn m_X1_learnCouldBe).cls ≠ "java/lang/invoke/MethodHandle" ∧ (yn m_X1_learnCouldBe).cls ≠ "java/lang/invoke/VarHandle" ∧ (parseMethodDescriptor (yn m_X1_learnCouldBe).desc).map (fun d => d.parameters.length) = some 1 := by decide +kernel
theorem cs_X9_odds_X1_learnCouldBe : Cs m_X9_odds m_X1_learnCouldBe 1 := ⟨cw_X1_learnCouldBe, in_X1_learnCouldBe, cz_X1_learnCouldBe, Nat.le_of_ble_eq_true rfl, Nat.le_of_ble_eq_true rfl⟩
theorem lk_RX9_292 : Lk RX9 292 (yn m_X2_oddsOf) := Or.inl (tzc_4 109 (by decide +kernel) rfl)
theorem cz_X2_oddsOf : (yn m_X2_oddsOf).cls ≠ "java/lang/invoke/MethodHandle" ∧ (yn m_X2_oddsOf).cls ≠ "java/lang/invoke/VarHandle" ∧ (parseMethodDescriptor (yn m_X2_oddsOf).desc).map (fun d => d.parameters.length) = some 2 := by decide +kernel
theorem cs_X9_odds_X2_oddsOf : Cs m_X9_odds m_X2_oddsOf 2 := ⟨cw_X2_oddsOf, in_X2_oddsOf, cz_X2_oddsOf, Nat.le_of_ble_eq_true rfl, Nat.le_of_ble_eq_true rfl⟩
theorem cs_X9_each_X9_isTrouble : Cs m_X9_each m_X9_isTrouble 1 := ⟨cw_X9_isTrouble, in_X9_isTrouble, cz_X9_isTrouble, Nat.le_of_ble_eq_true rfl, Nat.le_of_ble_eq_true rfl⟩
theorem cs_X9_each_X9_areSignDays : Cs m_X9_each m_X9_areSignDays 1 := ⟨cw_X9_areSignDays, in_X9_areSignDays, cz_X9_areSignDays, Nat.le_of_ble_eq_true rfl, Nat.le_of_ble_eq_true rfl⟩
theorem cs_X9_each_X1_learnCouldBe : Cs m_X9_each m_X1_learnCouldBe 1 := ⟨cw_X1_learnCouldBe, in_X1_learnCouldBe, cz_X1_learnCouldBe, Nat.le_of_ble_eq_true rfl, Nat.le_of_ble_eq_true rfl⟩
theorem lk_RX9_295 : Lk RX9 295 (yn m_X2_oddsWith) := Or.inl (tzc_4 144 (by decide +kernel) rfl)
theorem cz_X2_oddsWith : (yn m_X2_oddsWith).cls ≠ "java/lang/invoke/MethodHandle" ∧ (yn m_X2_oddsWith).cls ≠ "java/lang/invoke/VarHandle" ∧ (parseMethodDescriptor (yn m_X2_oddsWith).desc).map (fun d => d.parameters.length) = some 2 := by decide +kernel
theorem cs_X9_each_X2_oddsWith : Cs m_X9_each m_X2_oddsWith 2 := ⟨cw_X2_oddsWith, in_X2_oddsWith, cz_X2_oddsWith, Nat.le_of_ble_eq_true rfl, Nat.le_of_ble_eq_true rfl⟩
theorem cs_X9_tells_X9_isSign : Cs m_X9_tells m_X9_isSign 1 := ⟨cw_X9_isSign, in_X9_isSign, cz_X9_isSign, Nat.le_of_ble_eq_true rfl, Nat.le_of_ble_eq_true rfl⟩
theorem cs_X9_tells_X9_areSignDays : Cs m_X9_tells m_X9_areSignDays 1 := ⟨cw_X9_areSignDays, in_X9_areSignDays, cz_X9_areSignDays, Nat.le_of_ble_eq_true rfl, Nat.le_of_ble_eq_true rfl⟩
theorem cs_X9_tells_X1_learnCouldBe : Cs m_X9_tells m_X1_learnCouldBe 1 := ⟨cw_X1_learnCouldBe, in_X1_learnCouldBe, cz_X1_learnCouldBe, Nat.le_of_ble_eq_true rfl, Nat.le_of_ble_eq_true rfl⟩
theorem lk_RX9_298 : Lk RX9 298 (yn m_X2_howMuchTells) := Or.inl (tzc_4 152 (by decide +kernel) rfl)
theorem cz_X2_howMuchTells : (yn m_X2_howMuchTells).cls ≠ "java/lang/invoke/MethodHandle" ∧ (yn m_X2_howMuchTells).cls ≠ "java/lang/invoke/VarHandle" ∧ (parseMethodDescriptor (yn m_X2_howMuchTells).desc).map (fun d => d.parameters.length) = some 2 := by decide +kernel
theorem cs_X9_tells_X2_howMuchTells : Cs m_X9_tells m_X2_howMuchTells 2 := ⟨cw_X2_howMuchTells, in_X2_howMuchTells, cz_X2_howMuchTells, Nat.le_of_ble_eq_true rfl, Nat.le_of_ble_eq_true rfl⟩
theorem cs_X9_next_X9_areSignDays : Cs m_X9_next m_X9_areSignDays 1 := ⟨cw_X9_areSignDays, in_X9_areSignDays, cz_X9_areSignDays, Nat.le_of_ble_eq_true rfl, Nat.le_of_ble_eq_true rfl⟩
theorem cs_X9_next_X1_learnCouldBe : Cs m_X9_next m_X1_learnCouldBe 1 := ⟨cw_X1_learnCouldBe, in_X1_learnCouldBe, cz_X1_learnCouldBe, Nat.le_of_ble_eq_true rfl, Nat.le_of_ble_eq_true rfl⟩
theorem lk_RX9_301 : Lk RX9 301 (yn m_X2_nextSign) := Or.inl (tzc_4 172 (by decide +kernel) rfl)
theorem cz_X2_nextSign : (yn m_X2_nextSign).cls ≠ "java/lang/invoke/MethodHandle" ∧ (yn m_X2_nextSign).cls ≠ "java/lang/invoke/VarHandle" ∧ (parseMethodDescriptor (yn m_X2_nextSign).desc).map (fun d => d.parameters.length) = some 1 := by decide +kernel
theorem cs_X9_next_X2_nextSign : Cs m_X9_next m_X2_nextSign 1 := ⟨cw_X2_nextSign, in_X2_nextSign, cz_X2_nextSign, Nat.le_of_ble_eq_true rfl, Nat.le_of_ble_eq_true rfl⟩
theorem cs_X9_makes_X9_isSet : Cs m_X9_makes m_X9_isSet 1 := ⟨cw_X9_isSet, in_X9_isSet, cz_X9_isSet, Nat.le_of_ble_eq_true rfl, Nat.le_of_ble_eq_true rfl⟩
theorem lk_RX9_304 : Lk RX9 304 (yn m_X1_firstDay) := Or.inl (tzc_4 180 (by decide +kernel) rfl)
theorem cz_X1_firstDay : (yn m_X1_firstDay).cls ≠ "java/lang/invoke/MethodHandle" ∧ (yn m_X1_firstDay).cls ≠ "java/lang/invoke/VarHandle" ∧ (parseMethodDescriptor (yn m_X1_firstDay).desc).map (fun d => d.parameters.length) = some 3 := by decide +kernel
theorem cs_X9_makes_X1_firstDay : Cs m_X9_makes m_X1_firstDay 3 := ⟨cw_X1_firstDay, in_X1_firstDay, cz_X1_firstDay, Nat.le_of_ble_eq_true rfl, Nat.le_of_ble_eq_true rfl⟩
theorem cs_X9_mending_X9_isTrouble : Cs m_X9_mending m_X9_isTrouble 1 := ⟨cw_X9_isTrouble, in_X9_isTrouble, cz_X9_isTrouble, Nat.le_of_ble_eq_true rfl, Nat.le_of_ble_eq_true rfl⟩
theorem lk_RX9_311 : Lk RX9 311 (yn m_X9_isPrice) := Or.inl (tzc_4 192 (by decide +kernel) rfl)
theorem cz_X9_isPrice : (yn m_X9_isPrice).cls ≠ "java/lang/invoke/MethodHandle" ∧ (yn m_X9_isPrice).cls ≠ "java/lang/invoke/VarHandle" ∧ (parseMethodDescriptor (yn m_X9_isPrice).desc).map (fun d => d.parameters.length) = some 1 := by decide +kernel
theorem cs_X9_price_X9_isPrice : Cs m_X9_price m_X9_isPrice 1 := ⟨cw_X9_isPrice, in_X9_isPrice, cz_X9_isPrice, Nat.le_of_ble_eq_true rfl, Nat.le_of_ble_eq_true rfl⟩
theorem cs_X9_year_X9_isSet : Cs m_X9_year m_X9_isSet 1 := ⟨cw_X9_isSet, in_X9_isSet, cz_X9_isSet, Nat.le_of_ble_eq_true rfl, Nat.le_of_ble_eq_true rfl⟩
theorem cs_X9_year_X1_learn : Cs m_X9_year m_X1_learn 2 := ⟨cw_X1_learn, in_X1_learn, cz_X1_learn, Nat.le_of_ble_eq_true rfl, Nat.le_of_ble_eq_true rfl⟩
theorem lk_RX9_317 : Lk RX9 317 (yn m_X4_yearOf) := Or.inl (tzc_4 199 (by decide +kernel) rfl)
theorem cs_X9_year_X4_yearOf : Cs m_X9_year m_X4_yearOf 2 := ⟨cw_X4_yearOf, in_X4_yearOf, cz_X4_yearOf, Nat.le_of_ble_eq_true rfl, Nat.le_of_ble_eq_true rfl⟩
theorem cs_X9_saves_X9_isSet : Cs m_X9_saves m_X9_isSet 1 := ⟨cw_X9_isSet, in_X9_isSet, cz_X9_isSet, Nat.le_of_ble_eq_true rfl, Nat.le_of_ble_eq_true rfl⟩
theorem lk_RX9_321 : Lk RX9 321 (yn m_X9_isPart) := Or.inl (tzc_4 214 (by decide +kernel) rfl)
theorem cs_X9_saves_X9_isPart : Cs m_X9_saves m_X9_isPart 2 := ⟨cw_X9_isPart, in_X9_isPart, cz_X9_isPart, Nat.le_of_ble_eq_true rfl, Nat.le_of_ble_eq_true rfl⟩
theorem cs_X9_saves_X1_learn : Cs m_X9_saves m_X1_learn 2 := ⟨cw_X1_learn, in_X1_learn, cz_X1_learn, Nat.le_of_ble_eq_true rfl, Nat.le_of_ble_eq_true rfl⟩
theorem lk_RX9_326 : Lk RX9 326 (yn m_X4_saved) := Or.inl (tzc_4 218 (by decide +kernel) rfl)
theorem cs_X9_saves_X4_saved : Cs m_X9_saves m_X4_saved 3 := ⟨cw_X4_saved, in_X4_saved, cz_X4_saved, Nat.le_of_ble_eq_true rfl, Nat.le_of_ble_eq_true rfl⟩
theorem cs_X9_best_X9_isSet : Cs m_X9_best m_X9_isSet 1 := ⟨cw_X9_isSet, in_X9_isSet, cz_X9_isSet, Nat.le_of_ble_eq_true rfl, Nat.le_of_ble_eq_true rfl⟩
theorem lk_RX9_330 : Lk RX9 330 (yn m_X1_learnParts) := Or.inl (tzc_4 227 (by decide +kernel) rfl)
theorem cz_X1_learnParts : (yn m_X1_learnParts).cls ≠ "java/lang/invoke/MethodHandle" ∧ (yn m_X1_learnParts).cls ≠ "java/lang/invoke/VarHandle" ∧ (parseMethodDescriptor (yn m_X1_learnParts).desc).map (fun d => d.parameters.length) = some 2 := by decide +kernel
theorem cs_X9_best_X1_learnParts : Cs m_X9_best m_X1_learnParts 2 := ⟨cw_X1_learnParts, in_X1_learnParts, cz_X1_learnParts, Nat.le_of_ble_eq_true rfl, Nat.le_of_ble_eq_true rfl⟩
theorem lk_RX9_333 : Lk RX9 333 (yn m_X4_bestPart) := Or.inl (tzc_4 232 (by decide +kernel) rfl)
theorem cz_X4_bestPart : (yn m_X4_bestPart).cls ≠ "java/lang/invoke/MethodHandle" ∧ (yn m_X4_bestPart).cls ≠ "java/lang/invoke/VarHandle" ∧ (parseMethodDescriptor (yn m_X4_bestPart).desc).map (fun d => d.parameters.length) = some 3 := by decide +kernel
theorem cs_X9_best_X4_bestPart : Cs m_X9_best m_X4_bestPart 3 := ⟨cw_X4_bestPart, in_X4_bestPart, cz_X4_bestPart, Nat.le_of_ble_eq_true rfl, Nat.le_of_ble_eq_true rfl⟩
theorem cs_X9_best_X4_saved : Cs m_X9_best m_X4_saved 3 := ⟨cw_X4_saved, in_X4_saved, cz_X4_saved, Nat.le_of_ble_eq_true rfl, Nat.le_of_ble_eq_true rfl⟩
theorem lk_RX9_336 : Lk RX9 336 (yn m_X4_costOf) := Or.inl (tzc_5 2 (by decide +kernel) rfl)
theorem cs_X9_best_X4_costOf : Cs m_X9_best m_X4_costOf 1 := ⟨cw_X4_costOf, in_X4_costOf, cz_X4_costOf, Nat.le_of_ble_eq_true rfl, Nat.le_of_ble_eq_true rfl⟩
theorem cs_X9_pays_X9_isSet : Cs m_X9_pays m_X9_isSet 1 := ⟨cw_X9_isSet, in_X9_isSet, cz_X9_isSet, Nat.le_of_ble_eq_true rfl, Nat.le_of_ble_eq_true rfl⟩
theorem cs_X9_pays_X1_learn : Cs m_X9_pays m_X1_learn 2 := ⟨cw_X1_learn, in_X1_learn, cz_X1_learn, Nat.le_of_ble_eq_true rfl, Nat.le_of_ble_eq_true rfl⟩
theorem lk_RX9_339 : Lk RX9 339 (yn m_X4_yearsToPay) := Or.inl (tzc_5 7 (by decide +kernel) rfl)
theorem cz_X4_yearsToPay : (yn m_X4_yearsToPay).cls ≠ "java/lang/invoke/MethodHandle" ∧ (yn m_X4_yearsToPay).cls ≠ "java/lang/invoke/VarHandle" ∧ (parseMethodDescriptor (yn m_X4_yearsToPay).desc).map (fun d => d.parameters.length) = some 4 := by decide +kernel
theorem cs_X9_pays_X4_yearsToPay : Cs m_X9_pays m_X4_yearsToPay 4 := ⟨cw_X4_yearsToPay, in_X4_yearsToPay, cz_X4_yearsToPay, Nat.le_of_ble_eq_true rfl, Nat.le_of_ble_eq_true rfl⟩
theorem cs_X9_ice_X9_isSet : Cs m_X9_ice m_X9_isSet 1 := ⟨cw_X9_isSet, in_X9_isSet, cz_X9_isSet, Nat.le_of_ble_eq_true rfl, Nat.le_of_ble_eq_true rfl⟩
theorem lk_RX9_343 : Lk RX9 343 (yn m_X4_bestThawing) := Or.inl (tzc_5 15 (by decide +kernel) rfl)
theorem cz_X4_bestThawing : (yn m_X4_bestThawing).cls ≠ "java/lang/invoke/MethodHandle" ∧ (yn m_X4_bestThawing).cls ≠ "java/lang/invoke/VarHandle" ∧ (parseMethodDescriptor (yn m_X4_bestThawing).desc).map (fun d => d.parameters.length) = some 4 := by decide +kernel
theorem cs_X9_ice_X4_bestThawing : Cs m_X9_ice m_X4_bestThawing 4 := ⟨cw_X4_bestThawing, in_X4_bestThawing, cz_X4_bestThawing, Nat.le_of_ble_eq_true rfl, Nat.le_of_ble_eq_true rfl⟩
theorem cs_X9_lying_X6_hasFood : Cs m_X9_lying m_X6_hasFood 1 := ⟨cw_X6_hasFood, in_X6_hasFood, cz_X6_hasFood, Nat.le_of_ble_eq_true rfl, Nat.le_of_ble_eq_true rfl⟩
theorem cs_X9_lying_X6_foodsThere : Cs m_X9_lying m_X6_foodsThere 0 := ⟨cw_X6_foodsThere, in_X6_foodsThere, cz_X6_foodsThere, Nat.le_of_ble_eq_true rfl, Nat.le_of_ble_eq_true rfl⟩
theorem lk_RX9_346 : Lk RX9 346 (yn m_X8_findBestRow) := Or.inl (tzc_5 28 (by decide +kernel) rfl)
theorem cz_X8_findBestRow : (yn m_X8_findBestRow).cls ≠ "java/lang/invoke/MethodHandle" ∧ (yn m_X8_findBestRow).cls ≠ "java/lang/invoke/VarHandle" ∧ (parseMethodDescriptor (yn m_X8_findBestRow).desc).map (fun d => d.parameters.length) = some 0 := by decide +kernel
theorem cs_X9_lying_X8_findBestRow : Cs m_X9_lying m_X8_findBestRow 0 := ⟨cw_X8_findBestRow, in_X8_findBestRow, cz_X8_findBestRow, Nat.le_of_ble_eq_true rfl, Nat.le_of_ble_eq_true rfl⟩
theorem lk_RX9_352 : Lk RX9 352 (yn m_X8_shelfInBestRow) := Or.inl (tzc_5 60 (by decide +kernel) rfl)
theorem cz_X8_shelfInBestRow : (yn m_X8_shelfInBestRow).cls ≠ "java/lang/invoke/MethodHandle" ∧ (yn m_X8_shelfInBestRow).cls ≠ "java/lang/invoke/VarHandle" ∧ (parseMethodDescriptor (yn m_X8_shelfInBestRow).desc).map (fun d => d.parameters.length) = some 1 := by decide +kernel
theorem cs_X9_lying_X8_shelfInBestRow : Cs m_X9_lying m_X8_shelfInBestRow 1 := ⟨cw_X8_shelfInBestRow, in_X8_shelfInBestRow, cz_X8_shelfInBestRow, Nat.le_of_ble_eq_true rfl, Nat.le_of_ble_eq_true rfl⟩
theorem lk_RX9_355 : Lk RX9 355 (yn m_X8_findBestBulb) := Or.inl (tzc_5 68 (by decide +kernel) rfl)
theorem cz_X8_findBestBulb : (yn m_X8_findBestBulb).cls ≠ "java/lang/invoke/MethodHandle" ∧ (yn m_X8_findBestBulb).cls ≠ "java/lang/invoke/VarHandle" ∧ (parseMethodDescriptor (yn m_X8_findBestBulb).desc).map (fun d => d.parameters.length) = some 0 := by decide +kernel
theorem cs_X9_bulb_X8_findBestBulb : Cs m_X9_bulb m_X8_findBestBulb 0 := ⟨cw_X8_findBestBulb, in_X8_findBestBulb, cz_X8_findBestBulb, Nat.le_of_ble_eq_true rfl, Nat.le_of_ble_eq_true rfl⟩
theorem cs_X9_without_X6_hasFood : Cs m_X9_without m_X6_hasFood 1 := ⟨cw_X6_hasFood, in_X6_hasFood, cz_X6_hasFood, Nat.le_of_ble_eq_true rfl, Nat.le_of_ble_eq_true rfl⟩
theorem lk_RX9_361 : Lk RX9 361 (yn m_X8_ticksWithoutCurrent) := Or.inl (tzc_5 76 (by decide +kernel) rfl)
theorem cz_X8_ticksWithoutCurrent : (yn m_X8_ticksWithoutCurrent).cls ≠ "java/lang/invoke/MethodHandle" ∧ (yn m_X8_ticksWithoutCurrent).cls ≠ "java/lang/invoke/VarHandle" ∧ (parseMethodDescriptor (yn m_X8_ticksWithoutCurrent).desc).map (fun d => d.parameters.length) = some 1 := by decide +kernel
theorem cs_X9_without_X8_ticksWithoutCurrent : Cs m_X9_without m_X8_ticksWithoutCurrent 1 := ⟨cw_X8_ticksWithoutCurrent, in_X8_ticksWithoutCurrent, cz_X8_ticksWithoutCurrent, Nat.le_of_ble_eq_true rfl, Nat.le_of_ble_eq_true rfl⟩
theorem cs_X9_cheap_X9_isPrice : Cs m_X9_cheap m_X9_isPrice 1 := ⟨cw_X9_isPrice, in_X9_isPrice, cz_X9_isPrice, Nat.le_of_ble_eq_true rfl, Nat.le_of_ble_eq_true rfl⟩
theorem lk_RX9_373 : Lk RX9 373 (yn m_X8_findBestStore) := Or.inl (tzc_5 89 (by decide +kernel) rfl)
theorem cz_X8_findBestStore : (yn m_X8_findBestStore).cls ≠ "java/lang/invoke/MethodHandle" ∧ (yn m_X8_findBestStore).cls ≠ "java/lang/invoke/VarHandle" ∧ (parseMethodDescriptor (yn m_X8_findBestStore).desc).map (fun d => d.parameters.length) = some 2 := by decide +kernel
theorem cs_X9_store_X8_findBestStore : Cs m_X9_store m_X8_findBestStore 2 := ⟨cw_X8_findBestStore, in_X8_findBestStore, cz_X8_findBestStore, Nat.le_of_ble_eq_true rfl, Nat.le_of_ble_eq_true rfl⟩
theorem lk_RX9_379 : Lk RX9 379 (yn m_X9_imageOf) := Or.inl (tzc_5 113 (by decide +kernel) rfl)
theorem cz_X9_imageOf : (yn m_X9_imageOf).cls ≠ "java/lang/invoke/MethodHandle" ∧ (yn m_X9_imageOf).cls ≠ "java/lang/invoke/VarHandle" ∧ (parseMethodDescriptor (yn m_X9_imageOf).desc).map (fun d => d.parameters.length) = some 1 := by decide +kernel
theorem cs_X9_keep_X9_imageOf : Cs m_X9_keep m_X9_imageOf 1 := ⟨cw_X9_imageOf, in_X9_imageOf, cz_X9_imageOf, Nat.le_of_ble_eq_true rfl, Nat.le_of_ble_eq_true rfl⟩
theorem lk_RX9_383 : Lk RX9 383 (yn m_X6_copyFrom) := Or.inl (tzc_5 117 (by decide +kernel) rfl)
theorem cs_X9_keep_X6_copyFrom : Cs m_X9_keep m_X6_copyFrom 1 := ⟨cw_X6_copyFrom, in_X6_copyFrom, cz_X6_copyFrom, Nat.le_of_ble_eq_true rfl, Nat.le_of_ble_eq_true rfl⟩
theorem cs_X9_goBack_X9_imageOf : Cs m_X9_goBack m_X9_imageOf 1 := ⟨cw_X9_imageOf, in_X9_imageOf, cz_X9_imageOf, Nat.le_of_ble_eq_true rfl, Nat.le_of_ble_eq_true rfl⟩
theorem cs_X9_goBack_X6_copyFrom : Cs m_X9_goBack m_X6_copyFrom 1 := ⟨cw_X6_copyFrom, in_X6_copyFrom, cz_X6_copyFrom, Nat.le_of_ble_eq_true rfl, Nat.le_of_ble_eq_true rfl⟩
theorem lk_RX9_386 : Lk RX9 386 (yn m_X6_draw) := Or.inl (tzc_3 238 (by decide +kernel) rfl)
theorem cz_X6_draw : (yn m_X6_draw).cls ≠ "java/lang/invoke/MethodHandle" ∧ (yn m_X6_draw).cls ≠ "java/lang/invoke/VarHandle" ∧ (parseMethodDescriptor (yn m_X6_draw).desc).map (fun d => d.parameters.length) = some 1 := by decide +kernel
theorem cs_X9_drawDoor_X6_draw : Cs m_X9_drawDoor m_X6_draw 1 := ⟨cw_X6_draw, in_X6_draw, cz_X6_draw, Nat.le_of_ble_eq_true rfl, Nat.le_of_ble_eq_true rfl⟩
theorem tw_1087 : (Cond.methodLink "ColdBoxModel" (1 : Nat) ({ cls := "java/lang/Object", name := "<init>", desc := "()V" } : MethodName)) ∈ TB := tzc_5 127 (by decide +kernel) rfl
theorem lk_RX10_80 : Lk RX10 80 (yn m_X10_untold) := Or.inl (tzc_6 10 (by decide +kernel) rfl)
theorem cz_X10_untold : (yn m_X10_untold).cls ≠ "java/lang/invoke/MethodHandle" ∧ (yn m_X10_untold).cls ≠ "java/lang/invoke/VarHandle" ∧ (parseMethodDescriptor (yn m_X10_untold).desc).map (fun d => d.parameters.length) = some 1 := by decide +kernel
theorem cs_X10_begin_X10_untold : Cs m_X10_begin m_X10_untold 1 := ⟨cw_X10_untold, in_X10_untold, cz_X10_untold, Nat.le_of_ble_eq_true rfl, Nat.le_of_ble_eq_true rfl⟩
theorem lk_RX10_84 : Lk RX10 84 (yn m_X10_freshen) := Or.inl (tzc_6 13 (by decide +kernel) rfl)
theorem cz_X10_freshen : (yn m_X10_freshen).cls ≠ "java/lang/invoke/MethodHandle" ∧ (yn m_X10_freshen).cls ≠ "java/lang/invoke/VarHandle" ∧ (parseMethodDescriptor (yn m_X10_freshen).desc).map (fun d => d.parameters.length) = some 1 := by decide +kernel
theorem cs_X10_begin_X10_freshen : Cs m_X10_begin m_X10_freshen 1 := ⟨cw_X10_freshen, in_X10_freshen, cz_X10_freshen, Nat.le_of_ble_eq_true rfl, Nat.le_of_ble_eq_true rfl⟩
theorem lk_RX10_96 : Lk RX10 96 (yn m_X10_in) := Or.inl (tzc_5 236 (by decide +kernel) rfl)
theorem cz_X10_in : (yn m_X10_in).cls ≠ "java/lang/invoke/MethodHandle" ∧ (yn m_X10_in).cls ≠ "java/lang/invoke/VarHandle" ∧ (parseMethodDescriptor (yn m_X10_in).desc).map (fun d => d.parameters.length) = some 3 := by decide +kernel
theorem cs_X10_feed_X10_in : Cs m_X10_feed m_X10_in 3 := ⟨cw_X10_in, in_X10_in, cz_X10_in, Nat.le_of_ble_eq_true rfl, Nat.le_of_ble_eq_true rfl⟩
theorem lk_RX10_113 : Lk RX10 113 (yn m_X10_here) := Or.inl (tzc_6 28 (by decide +kernel) rfl)
theorem cz_X10_here : (yn m_X10_here).cls ≠ "java/lang/invoke/MethodHandle" ∧ (yn m_X10_here).cls ≠ "java/lang/invoke/VarHandle" ∧ (parseMethodDescriptor (yn m_X10_here).desc).map (fun d => d.parameters.length) = some 0 := by decide +kernel
theorem cs_X10_takeWord_X10_here : Cs m_X10_takeWord m_X10_here 0 := ⟨cw_X10_here, in_X10_here, cz_X10_here, Nat.le_of_ble_eq_true rfl, Nat.le_of_ble_eq_true rfl⟩
theorem cs_X10_takeWord_X10_in : Cs m_X10_takeWord m_X10_in 3 := ⟨cw_X10_in, in_X10_in, cz_X10_in, Nat.le_of_ble_eq_true rfl, Nat.le_of_ble_eq_true rfl⟩
theorem cs_X10_takeNumber_X10_here : Cs m_X10_takeNumber m_X10_here 0 := ⟨cw_X10_here, in_X10_here, cz_X10_here, Nat.le_of_ble_eq_true rfl, Nat.le_of_ble_eq_true rfl⟩
theorem cs_X10_takeNumber_X10_in : Cs m_X10_takeNumber m_X10_in 3 := ⟨cw_X10_in, in_X10_in, cz_X10_in, Nat.le_of_ble_eq_true rfl, Nat.le_of_ble_eq_true rfl⟩
theorem lk_RX10_131 : Lk RX10 131 (yn m_X10_want) := Or.inl (tzc_6 50 (by decide +kernel) rfl)
theorem cz_X10_want : (yn m_X10_want).cls ≠ "java/lang/invoke/MethodHandle" ∧ (yn m_X10_want).cls ≠ "java/lang/invoke/VarHandle" ∧ (parseMethodDescriptor (yn m_X10_want).desc).map (fun d => d.parameters.length) = some 3 := by decide +kernel
theorem cs_X10_takeNumber_X10_want : Cs m_X10_takeNumber m_X10_want 3 := ⟨cw_X10_want, in_X10_want, cz_X10_want, Nat.le_of_ble_eq_true rfl, Nat.le_of_ble_eq_true rfl⟩
theorem lk_RX10_136 : Lk RX10 136 (yn m_X10_isWord) := Or.inl (tzc_6 46 (by decide +kernel) rfl)
theorem cz_X10_isWord : (yn m_X10_isWord).cls ≠ "java/lang/invoke/MethodHandle" ∧ (yn m_X10_isWord).cls ≠ "java/lang/invoke/VarHandle" ∧ (parseMethodDescriptor (yn m_X10_isWord).desc).map (fun d => d.parameters.length) = some 6 := by decide +kernel
theorem cs_X10_kindHere_X10_isWord : Cs m_X10_kindHere m_X10_isWord 6 := ⟨cw_X10_isWord, in_X10_isWord, cz_X10_isWord, Nat.le_of_ble_eq_true rfl, Nat.le_of_ble_eq_true rfl⟩
theorem lk_RX10_140 : Lk RX10 140 (yn m_X10_takeWord) := Or.inl (tzc_6 36 (by decide +kernel) rfl)
theorem cz_X10_takeWord : (yn m_X10_takeWord).cls ≠ "java/lang/invoke/MethodHandle" ∧ (yn m_X10_takeWord).cls ≠ "java/lang/invoke/VarHandle" ∧ (parseMethodDescriptor (yn m_X10_takeWord).desc).map (fun d => d.parameters.length) = some 0 := by decide +kernel
theorem cs_X10_takeClause_X10_takeWord : Cs m_X10_takeClause m_X10_takeWord 0 := ⟨cw_X10_takeWord, in_X10_takeWord, cz_X10_takeWord, Nat.le_of_ble_eq_true rfl, Nat.le_of_ble_eq_true rfl⟩
theorem lk_RX10_143 : Lk RX10 143 (yn m_X10_kindHere) := Or.inl (tzc_6 42 (by decide +kernel) rfl)
theorem cz_X10_kindHere : (yn m_X10_kindHere).cls ≠ "java/lang/invoke/MethodHandle" ∧ (yn m_X10_kindHere).cls ≠ "java/lang/invoke/VarHandle" ∧ (parseMethodDescriptor (yn m_X10_kindHere).desc).map (fun d => d.parameters.length) = some 0 := by decide +kernel
theorem cs_X10_takeClause_X10_kindHere : Cs m_X10_takeClause m_X10_kindHere 0 := ⟨cw_X10_kindHere, in_X10_kindHere, cz_X10_kindHere, Nat.le_of_ble_eq_true rfl, Nat.le_of_ble_eq_true rfl⟩
theorem cs_X10_takeClause_X10_want : Cs m_X10_takeClause m_X10_want 3 := ⟨cw_X10_want, in_X10_want, cz_X10_want, Nat.le_of_ble_eq_true rfl, Nat.le_of_ble_eq_true rfl⟩
theorem lk_RX10_149 : Lk RX10 149 (yn m_X10_has) := Or.inl (tzc_6 19 (by decide +kernel) rfl)
theorem cz_X10_has : (yn m_X10_has).cls ≠ "java/lang/invoke/MethodHandle" ∧ (yn m_X10_has).cls ≠ "java/lang/invoke/VarHandle" ∧ (parseMethodDescriptor (yn m_X10_has).desc).map (fun d => d.parameters.length) = some 2 := by decide +kernel
theorem cs_X10_takeClause_X10_has : Cs m_X10_takeClause m_X10_has 2 := ⟨cw_X10_has, in_X10_has, cz_X10_has, Nat.le_of_ble_eq_true rfl, Nat.le_of_ble_eq_true rfl⟩
theorem lk_RX10_153 : Lk RX10 153 (yn m_X10_takeNumber) := Or.inl (tzc_6 54 (by decide +kernel) rfl)
theorem cz_X10_takeNumber : (yn m_X10_takeNumber).cls ≠ "java/lang/invoke/MethodHandle" ∧ (yn m_X10_takeNumber).cls ≠ "java/lang/invoke/VarHandle" ∧ (parseMethodDescriptor (yn m_X10_takeNumber).desc).map (fun d => d.parameters.length) = some 2 := by decide +kernel
theorem cs_X10_takeClause_X10_takeNumber : Cs m_X10_takeClause m_X10_takeNumber 2 := ⟨cw_X10_takeNumber, in_X10_takeNumber, cz_X10_takeNumber, Nat.le_of_ble_eq_true rfl, Nat.le_of_ble_eq_true rfl⟩
theorem lk_RX10_157 : Lk RX10 157 (yn m_X10_leastOf) := Or.inl (tzc_6 61 (by decide +kernel) rfl)
theorem cz_X10_leastOf : (yn m_X10_leastOf).cls ≠ "java/lang/invoke/MethodHandle" ∧ (yn m_X10_leastOf).cls ≠ "java/lang/invoke/VarHandle" ∧ (parseMethodDescriptor (yn m_X10_leastOf).desc).map (fun d => d.parameters.length) = some 1 := by decide +kernel
theorem cs_X10_takeClause_X10_leastOf : Cs m_X10_takeClause m_X10_leastOf 1 := ⟨cw_X10_leastOf, in_X10_leastOf, cz_X10_leastOf, Nat.le_of_ble_eq_true rfl, Nat.le_of_ble_eq_true rfl⟩
theorem lk_RX10_160 : Lk RX10 160 (yn m_X10_mostOf) := Or.inl (tzc_6 64 (by decide +kernel) rfl)
theorem cz_X10_mostOf : (yn m_X10_mostOf).cls ≠ "java/lang/invoke/MethodHandle" ∧ (yn m_X10_mostOf).cls ≠ "java/lang/invoke/VarHandle" ∧ (parseMethodDescriptor (yn m_X10_mostOf).desc).map (fun d => d.parameters.length) = some 1 := by decide +kernel
theorem cs_X10_takeClause_X10_mostOf : Cs m_X10_takeClause m_X10_mostOf 1 := ⟨cw_X10_mostOf, in_X10_mostOf, cz_X10_mostOf, Nat.le_of_ble_eq_true rfl, Nat.le_of_ble_eq_true rfl⟩
theorem lk_RX10_163 : Lk RX10 163 (yn m_X10_takeEnd) := Or.inl (tzc_6 67 (by decide +kernel) rfl)
theorem cz_X10_takeEnd : (yn m_X10_takeEnd).cls ≠ "java/lang/invoke/MethodHandle" ∧ (yn m_X10_takeEnd).cls ≠ "java/lang/invoke/VarHandle" ∧ (parseMethodDescriptor (yn m_X10_takeEnd).desc).map (fun d => d.parameters.length) = some 0 := by decide +kernel
theorem cs_X10_takeClause_X10_takeEnd : Cs m_X10_takeClause m_X10_takeEnd 0 := ⟨cw_X10_takeEnd, in_X10_takeEnd, cz_X10_takeEnd, Nat.le_of_ble_eq_true rfl, Nat.le_of_ble_eq_true rfl⟩
theorem cs_X10_takeEnd_X10_here : Cs m_X10_takeEnd m_X10_here 0 := ⟨cw_X10_here, in_X10_here, cz_X10_here, Nat.le_of_ble_eq_true rfl, Nat.le_of_ble_eq_true rfl⟩
theorem cs_X10_takeEnd_X10_want : Cs m_X10_takeEnd m_X10_want 3 := ⟨cw_X10_want, in_X10_want, cz_X10_want, Nat.le_of_ble_eq_true rfl, Nat.le_of_ble_eq_true rfl⟩
theorem lk_RX10_166 : Lk RX10 166 (yn m_X10_begin) := Or.inl (tzc_6 6 (by decide +kernel) rfl)
theorem cz_X10_begin : (yn m_X10_begin).cls ≠ "java/lang/invoke/MethodHandle" ∧ (yn m_X10_begin).cls ≠ "java/lang/invoke/VarHandle" ∧ (parseMethodDescriptor (yn m_X10_begin).desc).map (fun d => d.parameters.length) = some 0 := by decide +kernel
theorem cs_X10_box_X10_begin : Cs m_X10_box m_X10_begin 0 := ⟨cw_X10_begin, in_X10_begin, cz_X10_begin, Nat.le_of_ble_eq_true rfl, Nat.le_of_ble_eq_true rfl⟩
theorem lk_RX10_169 : Lk RX10 169 (yn m_X10_beginReading) := Or.inl (tzc_6 24 (by decide +kernel) rfl)
theorem cz_X10_beginReading : (yn m_X10_beginReading).cls ≠ "java/lang/invoke/MethodHandle" ∧ (yn m_X10_beginReading).cls ≠ "java/lang/invoke/VarHandle" ∧ (parseMethodDescriptor (yn m_X10_beginReading).desc).map (fun d => d.parameters.length) = some 0 := by decide +kernel
theorem cs_X10_box_X10_beginReading : Cs m_X10_box m_X10_beginReading 0 := ⟨cw_X10_beginReading, in_X10_beginReading, cz_X10_beginReading, Nat.le_of_ble_eq_true rfl, Nat.le_of_ble_eq_true rfl⟩
theorem cs_X10_box_X10_untold : Cs m_X10_box m_X10_untold 1 := ⟨cw_X10_untold, in_X10_untold, cz_X10_untold, Nat.le_of_ble_eq_true rfl, Nat.le_of_ble_eq_true rfl⟩
theorem cs_X10_box_X10_here : Cs m_X10_box m_X10_here 0 := ⟨cw_X10_here, in_X10_here, cz_X10_here, Nat.le_of_ble_eq_true rfl, Nat.le_of_ble_eq_true rfl⟩
theorem lk_RX10_172 : Lk RX10 172 (yn m_X10_takeClause) := Or.inl (tzc_6 32 (by decide +kernel) rfl)
theorem cz_X10_takeClause : (yn m_X10_takeClause).cls ≠ "java/lang/invoke/MethodHandle" ∧ (yn m_X10_takeClause).cls ≠ "java/lang/invoke/VarHandle" ∧ (parseMethodDescriptor (yn m_X10_takeClause).desc).map (fun d => d.parameters.length) = some 0 := by decide +kernel
theorem cs_X10_box_X10_takeClause : Cs m_X10_box m_X10_takeClause 0 := ⟨cw_X10_takeClause, in_X10_takeClause, cz_X10_takeClause, Nat.le_of_ble_eq_true rfl, Nat.le_of_ble_eq_true rfl⟩
theorem cs_X10_box_X10_want : Cs m_X10_box m_X10_want 3 := ⟨cw_X10_want, in_X10_want, cz_X10_want, Nat.le_of_ble_eq_true rfl, Nat.le_of_ble_eq_true rfl⟩
theorem cs_X10_box_X10_freshen : Cs m_X10_box m_X10_freshen 1 := ⟨cw_X10_freshen, in_X10_freshen, cz_X10_freshen, Nat.le_of_ble_eq_true rfl, Nat.le_of_ble_eq_true rfl⟩
theorem cs_X10_day_X10_begin : Cs m_X10_day m_X10_begin 0 := ⟨cw_X10_begin, in_X10_begin, cz_X10_begin, Nat.le_of_ble_eq_true rfl, Nat.le_of_ble_eq_true rfl⟩
theorem cs_X10_day_X10_beginReading : Cs m_X10_day m_X10_beginReading 0 := ⟨cw_X10_beginReading, in_X10_beginReading, cz_X10_beginReading, Nat.le_of_ble_eq_true rfl, Nat.le_of_ble_eq_true rfl⟩
theorem cs_X10_day_X10_here : Cs m_X10_day m_X10_here 0 := ⟨cw_X10_here, in_X10_here, cz_X10_here, Nat.le_of_ble_eq_true rfl, Nat.le_of_ble_eq_true rfl⟩
theorem cs_X10_day_X10_takeWord : Cs m_X10_day m_X10_takeWord 0 := ⟨cw_X10_takeWord, in_X10_takeWord, cz_X10_takeWord, Nat.le_of_ble_eq_true rfl, Nat.le_of_ble_eq_true rfl⟩
theorem cs_X10_day_X10_isWord : Cs m_X10_day m_X10_isWord 6 := ⟨cw_X10_isWord, in_X10_isWord, cz_X10_isWord, Nat.le_of_ble_eq_true rfl, Nat.le_of_ble_eq_true rfl⟩
theorem cs_X10_day_X10_want : Cs m_X10_day m_X10_want 3 := ⟨cw_X10_want, in_X10_want, cz_X10_want, Nat.le_of_ble_eq_true rfl, Nat.le_of_ble_eq_true rfl⟩
theorem cs_X10_day_X10_takeNumber : Cs m_X10_day m_X10_takeNumber 2 := ⟨cw_X10_takeNumber, in_X10_takeNumber, cz_X10_takeNumber, Nat.le_of_ble_eq_true rfl, Nat.le_of_ble_eq_true rfl⟩
theorem cs_X10_day_X10_takeEnd : Cs m_X10_day m_X10_takeEnd 0 := ⟨cw_X10_takeEnd, in_X10_takeEnd, cz_X10_takeEnd, Nat.le_of_ble_eq_true rfl, Nat.le_of_ble_eq_true rfl⟩
theorem cs_X10_told_X10_begin : Cs m_X10_told m_X10_begin 0 := ⟨cw_X10_begin, in_X10_begin, cz_X10_begin, Nat.le_of_ble_eq_true rfl, Nat.le_of_ble_eq_true rfl⟩
theorem cs_X10_told_X10_in : Cs m_X10_told m_X10_in 3 := ⟨cw_X10_in, in_X10_in, cz_X10_in, Nat.le_of_ble_eq_true rfl, Nat.le_of_ble_eq_true rfl⟩
theorem cs_X10_opening_X10_in : Cs m_X10_opening m_X10_in 3 := ⟨cw_X10_in, in_X10_in, cz_X10_in, Nat.le_of_ble_eq_true rfl, Nat.le_of_ble_eq_true rfl⟩
theorem cs_X10_freshen_X10_has : Cs m_X10_freshen m_X10_has 2 := ⟨cw_X10_has, in_X10_has, cz_X10_has, Nat.le_of_ble_eq_true rfl, Nat.le_of_ble_eq_true rfl⟩
theorem cs_X10_tryFresh_X10_freshen : Cs m_X10_tryFresh m_X10_freshen 1 := ⟨cw_X10_freshen, in_X10_freshen, cz_X10_freshen, Nat.le_of_ble_eq_true rfl, Nat.le_of_ble_eq_true rfl⟩
theorem lk_RX10_192 : Lk RX10 192 (yn m_X10_capOf) := Or.inl (tzc_6 139 (by decide +kernel) rfl)
theorem cz_X10_capOf : (yn m_X10_capOf).cls ≠ "java/lang/invoke/MethodHandle" ∧ (yn m_X10_capOf).cls ≠ "java/lang/invoke/VarHandle" ∧ (parseMethodDescriptor (yn m_X10_capOf).desc).map (fun d => d.parameters.length) = some 2 := by decide +kernel
theorem cs_X10_warm_X10_capOf : Cs m_X10_warm m_X10_capOf 2 := ⟨cw_X10_capOf, in_X10_capOf, cz_X10_capOf, Nat.le_of_ble_eq_true rfl, Nat.le_of_ble_eq_true rfl⟩
theorem cs_X10_isOpen_X10_in : Cs m_X10_isOpen m_X10_in 3 := ⟨cw_X10_in, in_X10_in, cz_X10_in, Nat.le_of_ble_eq_true rfl, Nat.le_of_ble_eq_true rfl⟩
theorem lk_RX10_200 : Lk RX10 200 (yn m_X10_warm) := Or.inl (tzc_6 135 (by decide +kernel) rfl)
theorem cz_X10_warm : (yn m_X10_warm).cls ≠ "java/lang/invoke/MethodHandle" ∧ (yn m_X10_warm).cls ≠ "java/lang/invoke/VarHandle" ∧ (parseMethodDescriptor (yn m_X10_warm).desc).map (fun d => d.parameters.length) = some 2 := by decide +kernel
theorem cs_X10_findFlows_X10_warm : Cs m_X10_findFlows m_X10_warm 2 := ⟨cw_X10_warm, in_X10_warm, cz_X10_warm, Nat.le_of_ble_eq_true rfl, Nat.le_of_ble_eq_true rfl⟩
theorem cs_X10_wet_X10_warm : Cs m_X10_wet m_X10_warm 2 := ⟨cw_X10_warm, in_X10_warm, cz_X10_warm, Nat.le_of_ble_eq_true rfl, Nat.le_of_ble_eq_true rfl⟩
theorem cs_X10_readBulb_X10_warm : Cs m_X10_readBulb m_X10_warm 2 := ⟨cw_X10_warm, in_X10_warm, cz_X10_warm, Nat.le_of_ble_eq_true rfl, Nat.le_of_ble_eq_true rfl⟩
theorem cs_X10_readBulb_X10_has : Cs m_X10_readBulb m_X10_has 2 := ⟨cw_X10_has, in_X10_has, cz_X10_has, Nat.le_of_ble_eq_true rfl, Nat.le_of_ble_eq_true rfl⟩
theorem lk_RX10_211 : Lk RX10 211 (yn m_X10_one) := Or.inl (tzc_6 105 (by decide +kernel) rfl)
theorem cz_X10_one : (yn m_X10_one).cls ≠ "java/lang/invoke/MethodHandle" ∧ (yn m_X10_one).cls ≠ "java/lang/invoke/VarHandle" ∧ (parseMethodDescriptor (yn m_X10_one).desc).map (fun d => d.parameters.length) = some 1 := by decide +kernel
theorem cs_X10_readBulb_X10_one : Cs m_X10_readBulb m_X10_one 1 := ⟨cw_X10_one, in_X10_one, cz_X10_one, Nat.le_of_ble_eq_true rfl, Nat.le_of_ble_eq_true rfl⟩
theorem cs_X10_moves_X10_has : Cs m_X10_moves m_X10_has 2 := ⟨cw_X10_has, in_X10_has, cz_X10_has, Nat.le_of_ble_eq_true rfl, Nat.le_of_ble_eq_true rfl⟩
theorem cs_X10_moves_X10_warm : Cs m_X10_moves m_X10_warm 2 := ⟨cw_X10_warm, in_X10_warm, cz_X10_warm, Nat.le_of_ble_eq_true rfl, Nat.le_of_ble_eq_true rfl⟩
theorem lk_RX10_219 : Lk RX10 219 (yn m_X10_isHour) := Or.inl (tzc_6 176 (by decide +kernel) rfl)
theorem cz_X10_isHour : (yn m_X10_isHour).cls ≠ "java/lang/invoke/MethodHandle" ∧ (yn m_X10_isHour).cls ≠ "java/lang/invoke/VarHandle" ∧ (parseMethodDescriptor (yn m_X10_isHour).desc).map (fun d => d.parameters.length) = some 3 := by decide +kernel
theorem cs_X10_tick_X10_isHour : Cs m_X10_tick m_X10_isHour 3 := ⟨cw_X10_isHour, in_X10_isHour, cz_X10_isHour, Nat.le_of_ble_eq_true rfl, Nat.le_of_ble_eq_true rfl⟩
theorem cs_X10_tick_X10_has : Cs m_X10_tick m_X10_has 2 := ⟨cw_X10_has, in_X10_has, cz_X10_has, Nat.le_of_ble_eq_true rfl, Nat.le_of_ble_eq_true rfl⟩
theorem lk_RX10_225 : Lk RX10 225 (yn m_X10_readBulb) := Or.inl (tzc_6 181 (by decide +kernel) rfl)
theorem cz_X10_readBulb : (yn m_X10_readBulb).cls ≠ "java/lang/invoke/MethodHandle" ∧ (yn m_X10_readBulb).cls ≠ "java/lang/invoke/VarHandle" ∧ (parseMethodDescriptor (yn m_X10_readBulb).desc).map (fun d => d.parameters.length) = some 3 := by decide +kernel
theorem cs_X10_tick_X10_readBulb : Cs m_X10_tick m_X10_readBulb 3 := ⟨cw_X10_readBulb, in_X10_readBulb, cz_X10_readBulb, Nat.le_of_ble_eq_true rfl, Nat.le_of_ble_eq_true rfl⟩
theorem lk_RX10_233 : Lk RX10 233 (yn m_X10_findFlows) := Or.inl (tzc_6 187 (by decide +kernel) rfl)
theorem cz_X10_findFlows : (yn m_X10_findFlows).cls ≠ "java/lang/invoke/MethodHandle" ∧ (yn m_X10_findFlows).cls ≠ "java/lang/invoke/VarHandle" ∧ (parseMethodDescriptor (yn m_X10_findFlows).desc).map (fun d => d.parameters.length) = some 3 := by decide +kernel
theorem cs_X10_tick_X10_findFlows : Cs m_X10_tick m_X10_findFlows 3 := ⟨cw_X10_findFlows, in_X10_findFlows, cz_X10_findFlows, Nat.le_of_ble_eq_true rfl, Nat.le_of_ble_eq_true rfl⟩
theorem lk_RX10_237 : Lk RX10 237 (yn m_X10_moves) := Or.inl (tzc_6 193 (by decide +kernel) rfl)
theorem cz_X10_moves : (yn m_X10_moves).cls ≠ "java/lang/invoke/MethodHandle" ∧ (yn m_X10_moves).cls ≠ "java/lang/invoke/VarHandle" ∧ (parseMethodDescriptor (yn m_X10_moves).desc).map (fun d => d.parameters.length) = some 2 := by decide +kernel
theorem cs_X10_tick_X10_moves : Cs m_X10_tick m_X10_moves 2 := ⟨cw_X10_moves, in_X10_moves, cz_X10_moves, Nat.le_of_ble_eq_true rfl, Nat.le_of_ble_eq_true rfl⟩
theorem lk_RX10_243 : Lk RX10 243 (yn m_X10_wet) := Or.inl (tzc_6 200 (by decide +kernel) rfl)
theorem cz_X10_wet : (yn m_X10_wet).cls ≠ "java/lang/invoke/MethodHandle" ∧ (yn m_X10_wet).cls ≠ "java/lang/invoke/VarHandle" ∧ (parseMethodDescriptor (yn m_X10_wet).desc).map (fun d => d.parameters.length) = some 2 := by decide +kernel
theorem cs_X10_tick_X10_wet : Cs m_X10_tick m_X10_wet 2 := ⟨cw_X10_wet, in_X10_wet, cz_X10_wet, Nat.le_of_ble_eq_true rfl, Nat.le_of_ble_eq_true rfl⟩
theorem lk_RX10_247 : Lk RX10 247 (yn m_X10_isOpen) := Or.inl (tzc_6 166 (by decide +kernel) rfl)
theorem cz_X10_isOpen : (yn m_X10_isOpen).cls ≠ "java/lang/invoke/MethodHandle" ∧ (yn m_X10_isOpen).cls ≠ "java/lang/invoke/VarHandle" ∧ (parseMethodDescriptor (yn m_X10_isOpen).desc).map (fun d => d.parameters.length) = some 1 := by decide +kernel
theorem cs_X10_go_X10_isOpen : Cs m_X10_go m_X10_isOpen 1 := ⟨cw_X10_isOpen, in_X10_isOpen, cz_X10_isOpen, Nat.le_of_ble_eq_true rfl, Nat.le_of_ble_eq_true rfl⟩
theorem lk_RX10_251 : Lk RX10 251 (yn m_X10_tick) := Or.inl (tzc_6 171 (by decide +kernel) rfl)
theorem cz_X10_tick : (yn m_X10_tick).cls ≠ "java/lang/invoke/MethodHandle" ∧ (yn m_X10_tick).cls ≠ "java/lang/invoke/VarHandle" ∧ (parseMethodDescriptor (yn m_X10_tick).desc).map (fun d => d.parameters.length) = some 4 := by decide +kernel
theorem cs_X10_go_X10_tick : Cs m_X10_go m_X10_tick 4 := ⟨cw_X10_tick, in_X10_tick, cz_X10_tick, Nat.le_of_ble_eq_true rfl, Nat.le_of_ble_eq_true rfl⟩
theorem cs_X10_isSet_X10_in : Cs m_X10_isSet m_X10_in 3 := ⟨cw_X10_in, in_X10_in, cz_X10_in, Nat.le_of_ble_eq_true rfl, Nat.le_of_ble_eq_true rfl⟩
theorem cs_X10_isTrouble_X10_in : Cs m_X10_isTrouble m_X10_in 3 := ⟨cw_X10_in, in_X10_in, cz_X10_in, Nat.le_of_ble_eq_true rfl, Nat.le_of_ble_eq_true rfl⟩
theorem cs_X10_trouble_X10_begin : Cs m_X10_trouble m_X10_begin 0 := ⟨cw_X10_begin, in_X10_begin, cz_X10_begin, Nat.le_of_ble_eq_true rfl, Nat.le_of_ble_eq_true rfl⟩
theorem lk_RX10_259 : Lk RX10 259 (yn m_X10_isSet) := Or.inl (tzc_6 92 (by decide +kernel) rfl)
theorem cz_X10_isSet : (yn m_X10_isSet).cls ≠ "java/lang/invoke/MethodHandle" ∧ (yn m_X10_isSet).cls ≠ "java/lang/invoke/VarHandle" ∧ (parseMethodDescriptor (yn m_X10_isSet).desc).map (fun d => d.parameters.length) = some 1 := by decide +kernel
theorem cs_X10_trouble_X10_isSet : Cs m_X10_trouble m_X10_isSet 1 := ⟨cw_X10_isSet, in_X10_isSet, cz_X10_isSet, Nat.le_of_ble_eq_true rfl, Nat.le_of_ble_eq_true rfl⟩
theorem cs_X10_trouble_X10_has : Cs m_X10_trouble m_X10_has 2 := ⟨cw_X10_has, in_X10_has, cz_X10_has, Nat.le_of_ble_eq_true rfl, Nat.le_of_ble_eq_true rfl⟩
theorem cs_X10_fresh_X10_begin : Cs m_X10_fresh m_X10_begin 0 := ⟨cw_X10_begin, in_X10_begin, cz_X10_begin, Nat.le_of_ble_eq_true rfl, Nat.le_of_ble_eq_true rfl⟩
theorem cs_X10_fresh_X10_freshen : Cs m_X10_fresh m_X10_freshen 1 := ⟨cw_X10_freshen, in_X10_freshen, cz_X10_freshen, Nat.le_of_ble_eq_true rfl, Nat.le_of_ble_eq_true rfl⟩
theorem cs_X10_current_X10_begin : Cs m_X10_current m_X10_begin 0 := ⟨cw_X10_begin, in_X10_begin, cz_X10_begin, Nat.le_of_ble_eq_true rfl, Nat.le_of_ble_eq_true rfl⟩
theorem cs_X10_current_X10_one : Cs m_X10_current m_X10_one 1 := ⟨cw_X10_one, in_X10_one, cz_X10_one, Nat.le_of_ble_eq_true rfl, Nat.le_of_ble_eq_true rfl⟩
theorem cs_X10_cover_X10_begin : Cs m_X10_cover m_X10_begin 0 := ⟨cw_X10_begin, in_X10_begin, cz_X10_begin, Nat.le_of_ble_eq_true rfl, Nat.le_of_ble_eq_true rfl⟩
theorem cs_X10_cover_X10_one : Cs m_X10_cover m_X10_one 1 := ⟨cw_X10_one, in_X10_one, cz_X10_one, Nat.le_of_ble_eq_true rfl, Nat.le_of_ble_eq_true rfl⟩
theorem cs_X10_isShelf_X10_in : Cs m_X10_isShelf m_X10_in 3 := ⟨cw_X10_in, in_X10_in, cz_X10_in, Nat.le_of_ble_eq_true rfl, Nat.le_of_ble_eq_true rfl⟩
theorem cs_X10_isFood_X10_in : Cs m_X10_isFood m_X10_in 3 := ⟨cw_X10_in, in_X10_in, cz_X10_in, Nat.le_of_ble_eq_true rfl, Nat.le_of_ble_eq_true rfl⟩
theorem cs_X10_isDegree_X10_in : Cs m_X10_isDegree m_X10_in 3 := ⟨cw_X10_in, in_X10_in, cz_X10_in, Nat.le_of_ble_eq_true rfl, Nat.le_of_ble_eq_true rfl⟩
theorem cs_X10_put_X10_begin : Cs m_X10_put m_X10_begin 0 := ⟨cw_X10_begin, in_X10_begin, cz_X10_begin, Nat.le_of_ble_eq_true rfl, Nat.le_of_ble_eq_true rfl⟩
theorem lk_RX10_272 : Lk RX10 272 (yn m_X10_isShelf) := Or.inl (tzc_6 116 (by decide +kernel) rfl)
theorem cz_X10_isShelf : (yn m_X10_isShelf).cls ≠ "java/lang/invoke/MethodHandle" ∧ (yn m_X10_isShelf).cls ≠ "java/lang/invoke/VarHandle" ∧ (parseMethodDescriptor (yn m_X10_isShelf).desc).map (fun d => d.parameters.length) = some 1 := by decide +kernel
theorem cs_X10_put_X10_isShelf : Cs m_X10_put m_X10_isShelf 1 := ⟨cw_X10_isShelf, in_X10_isShelf, cz_X10_isShelf, Nat.le_of_ble_eq_true rfl, Nat.le_of_ble_eq_true rfl⟩
theorem lk_RX10_275 : Lk RX10 275 (yn m_X10_isDegree) := Or.inl (tzc_6 120 (by decide +kernel) rfl)
theorem cz_X10_isDegree : (yn m_X10_isDegree).cls ≠ "java/lang/invoke/MethodHandle" ∧ (yn m_X10_isDegree).cls ≠ "java/lang/invoke/VarHandle" ∧ (parseMethodDescriptor (yn m_X10_isDegree).desc).map (fun d => d.parameters.length) = some 1 := by decide +kernel
theorem cs_X10_put_X10_isDegree : Cs m_X10_put m_X10_isDegree 1 := ⟨cw_X10_isDegree, in_X10_isDegree, cz_X10_isDegree, Nat.le_of_ble_eq_true rfl, Nat.le_of_ble_eq_true rfl⟩
theorem cs_X10_put_X10_in : Cs m_X10_put m_X10_in 3 := ⟨cw_X10_in, in_X10_in, cz_X10_in, Nat.le_of_ble_eq_true rfl, Nat.le_of_ble_eq_true rfl⟩
theorem cs_X10_take_X10_begin : Cs m_X10_take m_X10_begin 0 := ⟨cw_X10_begin, in_X10_begin, cz_X10_begin, Nat.le_of_ble_eq_true rfl, Nat.le_of_ble_eq_true rfl⟩
theorem lk_RX10_280 : Lk RX10 280 (yn m_X10_isFood) := Or.inl (tzc_6 130 (by decide +kernel) rfl)
theorem cz_X10_isFood : (yn m_X10_isFood).cls ≠ "java/lang/invoke/MethodHandle" ∧ (yn m_X10_isFood).cls ≠ "java/lang/invoke/VarHandle" ∧ (parseMethodDescriptor (yn m_X10_isFood).desc).map (fun d => d.parameters.length) = some 1 := by decide +kernel
theorem cs_X10_take_X10_isFood : Cs m_X10_take m_X10_isFood 1 := ⟨cw_X10_isFood, in_X10_isFood, cz_X10_isFood, Nat.le_of_ble_eq_true rfl, Nat.le_of_ble_eq_true rfl⟩
theorem cs_X10_take_X10_warm : Cs m_X10_take m_X10_warm 2 := ⟨cw_X10_warm, in_X10_warm, cz_X10_warm, Nat.le_of_ble_eq_true rfl, Nat.le_of_ble_eq_true rfl⟩
theorem cs_X10_lay_X10_begin : Cs m_X10_lay m_X10_begin 0 := ⟨cw_X10_begin, in_X10_begin, cz_X10_begin, Nat.le_of_ble_eq_true rfl, Nat.le_of_ble_eq_true rfl⟩
theorem cs_X10_lay_X10_isFood : Cs m_X10_lay m_X10_isFood 1 := ⟨cw_X10_isFood, in_X10_isFood, cz_X10_isFood, Nat.le_of_ble_eq_true rfl, Nat.le_of_ble_eq_true rfl⟩
theorem cs_X10_lay_X10_isShelf : Cs m_X10_lay m_X10_isShelf 1 := ⟨cw_X10_isShelf, in_X10_isShelf, cz_X10_isShelf, Nat.le_of_ble_eq_true rfl, Nat.le_of_ble_eq_true rfl⟩
theorem cs_X10_isWithin_X10_warm : Cs m_X10_isWithin m_X10_warm 2 := ⟨cw_X10_warm, in_X10_warm, cz_X10_warm, Nat.le_of_ble_eq_true rfl, Nat.le_of_ble_eq_true rfl⟩
theorem cs_X10_isWithin_X10_in : Cs m_X10_isWithin m_X10_in 3 := ⟨cw_X10_in, in_X10_in, cz_X10_in, Nat.le_of_ble_eq_true rfl, Nat.le_of_ble_eq_true rfl⟩
theorem cs_X10_food_X10_begin : Cs m_X10_food m_X10_begin 0 := ⟨cw_X10_begin, in_X10_begin, cz_X10_begin, Nat.le_of_ble_eq_true rfl, Nat.le_of_ble_eq_true rfl⟩
theorem cs_X10_food_X10_isFood : Cs m_X10_food m_X10_isFood 1 := ⟨cw_X10_isFood, in_X10_isFood, cz_X10_isFood, Nat.le_of_ble_eq_true rfl, Nat.le_of_ble_eq_true rfl⟩
theorem cs_X10_food_X10_warm : Cs m_X10_food m_X10_warm 2 := ⟨cw_X10_warm, in_X10_warm, cz_X10_warm, Nat.le_of_ble_eq_true rfl, Nat.le_of_ble_eq_true rfl⟩
theorem lk_RX10_283 : Lk RX10 283 (yn m_X10_isWithin) := Or.inl (tzc_6 153 (by decide +kernel) rfl)
theorem cz_X10_isWithin : (yn m_X10_isWithin).cls ≠ "java/lang/invoke/MethodHandle" ∧ (yn m_X10_isWithin).cls ≠ "java/lang/invoke/VarHandle" ∧ (parseMethodDescriptor (yn m_X10_isWithin).desc).map (fun d => d.parameters.length) = some 2 := by decide +kernel
theorem cs_X10_food_X10_isWithin : Cs m_X10_food m_X10_isWithin 2 := ⟨cw_X10_isWithin, in_X10_isWithin, cz_X10_isWithin, Nat.le_of_ble_eq_true rfl, Nat.le_of_ble_eq_true rfl⟩
theorem cs_X10_food_X10_one : Cs m_X10_food m_X10_one 1 := ⟨cw_X10_one, in_X10_one, cz_X10_one, Nat.le_of_ble_eq_true rfl, Nat.le_of_ble_eq_true rfl⟩
theorem cs_X10_run_X10_begin : Cs m_X10_run m_X10_begin 0 := ⟨cw_X10_begin, in_X10_begin, cz_X10_begin, Nat.le_of_ble_eq_true rfl, Nat.le_of_ble_eq_true rfl⟩
theorem cs_X10_run_X10_in : Cs m_X10_run m_X10_in 3 := ⟨cw_X10_in, in_X10_in, cz_X10_in, Nat.le_of_ble_eq_true rfl, Nat.le_of_ble_eq_true rfl⟩
theorem lk_RX10_289 : Lk RX10 289 (yn m_X10_go) := Or.inl (tzc_6 162 (by decide +kernel) rfl)
theorem cz_X10_go : (yn m_X10_go).cls ≠ "java/lang/invoke/MethodHandle" ∧ (yn m_X10_go).cls ≠ "java/lang/invoke/VarHandle" ∧ (parseMethodDescriptor (yn m_X10_go).desc).map (fun d => d.parameters.length) = some 2 := by decide +kernel
theorem cs_X10_run_X10_go : Cs m_X10_run m_X10_go 2 := ⟨cw_X10_go, in_X10_go, cz_X10_go, Nat.le_of_ble_eq_true rfl, Nat.le_of_ble_eq_true rfl⟩
theorem lk_RX10_301 : Lk RX10 301 (yn m_X10_draw) := Or.inl (tzc_6 213 (by decide +kernel) rfl)
theorem cz_X10_draw : (yn m_X10_draw).cls ≠ "java/lang/invoke/MethodHandle" ∧ (yn m_X10_draw).cls ≠ "java/lang/invoke/VarHandle" ∧ (parseMethodDescriptor (yn m_X10_draw).desc).map (fun d => d.parameters.length) = some 1 := by decide +kernel
theorem cs_X10_drawDay_X10_draw : Cs m_X10_drawDay m_X10_draw 1 := ⟨cw_X10_draw, in_X10_draw, cz_X10_draw, Nat.le_of_ble_eq_true rfl, Nat.le_of_ble_eq_true rfl⟩
theorem cs_X10_drawn_X10_begin : Cs m_X10_drawn m_X10_begin 0 := ⟨cw_X10_begin, in_X10_begin, cz_X10_begin, Nat.le_of_ble_eq_true rfl, Nat.le_of_ble_eq_true rfl⟩
theorem cs_X10_drawn_X10_in : Cs m_X10_drawn m_X10_in 3 := ⟨cw_X10_in, in_X10_in, cz_X10_in, Nat.le_of_ble_eq_true rfl, Nat.le_of_ble_eq_true rfl⟩
theorem lk_RX10_304 : Lk RX10 304 (yn m_X10_drawDay) := Or.inl (tzc_6 209 (by decide +kernel) rfl)
theorem cz_X10_drawDay : (yn m_X10_drawDay).cls ≠ "java/lang/invoke/MethodHandle" ∧ (yn m_X10_drawDay).cls ≠ "java/lang/invoke/VarHandle" ∧ (parseMethodDescriptor (yn m_X10_drawDay).desc).map (fun d => d.parameters.length) = some 1 := by decide +kernel
theorem cs_X10_drawn_X10_drawDay : Cs m_X10_drawn m_X10_drawDay 1 := ⟨cw_X10_drawDay, in_X10_drawDay, cz_X10_drawDay, Nat.le_of_ble_eq_true rfl, Nat.le_of_ble_eq_true rfl⟩
theorem cs_X10_drawn_X10_tick : Cs m_X10_drawn m_X10_tick 4 := ⟨cw_X10_tick, in_X10_tick, cz_X10_tick, Nat.le_of_ble_eq_true rfl, Nat.le_of_ble_eq_true rfl⟩
theorem cs_X10_warmth_X10_begin : Cs m_X10_warmth m_X10_begin 0 := ⟨cw_X10_begin, in_X10_begin, cz_X10_begin, Nat.le_of_ble_eq_true rfl, Nat.le_of_ble_eq_true rfl⟩
theorem cs_X10_warmth_X10_in : Cs m_X10_warmth m_X10_in 3 := ⟨cw_X10_in, in_X10_in, cz_X10_in, Nat.le_of_ble_eq_true rfl, Nat.le_of_ble_eq_true rfl⟩
theorem cs_X10_warmth_X10_warm : Cs m_X10_warmth m_X10_warm 2 := ⟨cw_X10_warm, in_X10_warm, cz_X10_warm, Nat.le_of_ble_eq_true rfl, Nat.le_of_ble_eq_true rfl⟩
theorem cs_X10_heat_X10_begin : Cs m_X10_heat m_X10_begin 0 := ⟨cw_X10_begin, in_X10_begin, cz_X10_begin, Nat.le_of_ble_eq_true rfl, Nat.le_of_ble_eq_true rfl⟩
theorem cs_X10_heat_X10_in : Cs m_X10_heat m_X10_in 3 := ⟨cw_X10_in, in_X10_in, cz_X10_in, Nat.le_of_ble_eq_true rfl, Nat.le_of_ble_eq_true rfl⟩
theorem cs_X10_count_X10_begin : Cs m_X10_count m_X10_begin 0 := ⟨cw_X10_begin, in_X10_begin, cz_X10_begin, Nat.le_of_ble_eq_true rfl, Nat.le_of_ble_eq_true rfl⟩
theorem lk_RX10_311 : Lk RX10 311 (yn m_X10_foods) := Or.inl (tzc_6 235 (by decide +kernel) rfl)
theorem cz_X10_foods : (yn m_X10_foods).cls ≠ "java/lang/invoke/MethodHandle" ∧ (yn m_X10_foods).cls ≠ "java/lang/invoke/VarHandle" ∧ (parseMethodDescriptor (yn m_X10_foods).desc).map (fun d => d.parameters.length) = some 0 := by decide +kernel
theorem cs_X10_count_X10_foods : Cs m_X10_count m_X10_foods 0 := ⟨cw_X10_foods, in_X10_foods, cz_X10_foods, Nat.le_of_ble_eq_true rfl, Nat.le_of_ble_eq_true rfl⟩
theorem cs_X10_melt_X10_capOf : Cs m_X10_melt m_X10_capOf 2 := ⟨cw_X10_capOf, in_X10_capOf, cz_X10_capOf, Nat.le_of_ble_eq_true rfl, Nat.le_of_ble_eq_true rfl⟩
theorem cs_X10_melt_X10_warm : Cs m_X10_melt m_X10_warm 2 := ⟨cw_X10_warm, in_X10_warm, cz_X10_warm, Nat.le_of_ble_eq_true rfl, Nat.le_of_ble_eq_true rfl⟩
theorem cs_X10_thaw_X10_begin : Cs m_X10_thaw m_X10_begin 0 := ⟨cw_X10_begin, in_X10_begin, cz_X10_begin, Nat.le_of_ble_eq_true rfl, Nat.le_of_ble_eq_true rfl⟩
theorem lk_RX10_314 : Lk RX10 314 (yn m_X10_melt) := Or.inl (tzc_7 3 (by decide +kernel) rfl)
theorem cz_X10_melt : (yn m_X10_melt).cls ≠ "java/lang/invoke/MethodHandle" ∧ (yn m_X10_melt).cls ≠ "java/lang/invoke/VarHandle" ∧ (parseMethodDescriptor (yn m_X10_melt).desc).map (fun d => d.parameters.length) = some 1 := by decide +kernel
theorem cs_X10_thaw_X10_melt : Cs m_X10_thaw m_X10_melt 1 := ⟨cw_X10_melt, in_X10_melt, cz_X10_melt, Nat.le_of_ble_eq_true rfl, Nat.le_of_ble_eq_true rfl⟩
theorem cs_X10_signOf_X10_warm : Cs m_X10_signOf m_X10_warm 2 := ⟨cw_X10_warm, in_X10_warm, cz_X10_warm, Nat.le_of_ble_eq_true rfl, Nat.le_of_ble_eq_true rfl⟩
theorem lk_RX10_317 : Lk RX10 317 (yn m_X10_tryFresh) := Or.inl (tzc_7 22 (by decide +kernel) rfl)
theorem cz_X10_tryFresh : (yn m_X10_tryFresh).cls ≠ "java/lang/invoke/MethodHandle" ∧ (yn m_X10_tryFresh).cls ≠ "java/lang/invoke/VarHandle" ∧ (parseMethodDescriptor (yn m_X10_tryFresh).desc).map (fun d => d.parameters.length) = some 1 := by decide +kernel
theorem cs_X10_findSigns_X10_tryFresh : Cs m_X10_findSigns m_X10_tryFresh 1 := ⟨cw_X10_tryFresh, in_X10_tryFresh, cz_X10_tryFresh, Nat.le_of_ble_eq_true rfl, Nat.le_of_ble_eq_true rfl⟩
theorem cs_X10_findSigns_X10_go : Cs m_X10_findSigns m_X10_go 2 := ⟨cw_X10_go, in_X10_go, cz_X10_go, Nat.le_of_ble_eq_true rfl, Nat.le_of_ble_eq_true rfl⟩
theorem lk_RX10_320 : Lk RX10 320 (yn m_X10_signOf) := Or.inl (tzc_7 26 (by decide +kernel) rfl)
theorem cz_X10_signOf : (yn m_X10_signOf).cls ≠ "java/lang/invoke/MethodHandle" ∧ (yn m_X10_signOf).cls ≠ "java/lang/invoke/VarHandle" ∧ (parseMethodDescriptor (yn m_X10_signOf).desc).map (fun d => d.parameters.length) = some 1 := by decide +kernel
theorem cs_X10_findSigns_X10_signOf : Cs m_X10_findSigns m_X10_signOf 1 := ⟨cw_X10_signOf, in_X10_signOf, cz_X10_signOf, Nat.le_of_ble_eq_true rfl, Nat.le_of_ble_eq_true rfl⟩
theorem cs_X10_isSign_X10_in : Cs m_X10_isSign m_X10_in 3 := ⟨cw_X10_in, in_X10_in, cz_X10_in, Nat.le_of_ble_eq_true rfl, Nat.le_of_ble_eq_true rfl⟩
theorem cs_X10_areDays_X10_in : Cs m_X10_areDays m_X10_in 3 := ⟨cw_X10_in, in_X10_in, cz_X10_in, Nat.le_of_ble_eq_true rfl, Nat.le_of_ble_eq_true rfl⟩
theorem cs_X10_sign_X10_begin : Cs m_X10_sign m_X10_begin 0 := ⟨cw_X10_begin, in_X10_begin, cz_X10_begin, Nat.le_of_ble_eq_true rfl, Nat.le_of_ble_eq_true rfl⟩
theorem cs_X10_sign_X10_isSet : Cs m_X10_sign m_X10_isSet 1 := ⟨cw_X10_isSet, in_X10_isSet, cz_X10_isSet, Nat.le_of_ble_eq_true rfl, Nat.le_of_ble_eq_true rfl⟩
theorem lk_RX10_323 : Lk RX10 323 (yn m_X10_isSign) := Or.inl (tzc_7 11 (by decide +kernel) rfl)
theorem cz_X10_isSign : (yn m_X10_isSign).cls ≠ "java/lang/invoke/MethodHandle" ∧ (yn m_X10_isSign).cls ≠ "java/lang/invoke/VarHandle" ∧ (parseMethodDescriptor (yn m_X10_isSign).desc).map (fun d => d.parameters.length) = some 1 := by decide +kernel
theorem cs_X10_sign_X10_isSign : Cs m_X10_sign m_X10_isSign 1 := ⟨cw_X10_isSign, in_X10_isSign, cz_X10_isSign, Nat.le_of_ble_eq_true rfl, Nat.le_of_ble_eq_true rfl⟩
theorem lk_RX10_326 : Lk RX10 326 (yn m_X10_areDays) := Or.inl (tzc_7 15 (by decide +kernel) rfl)
theorem cz_X10_areDays : (yn m_X10_areDays).cls ≠ "java/lang/invoke/MethodHandle" ∧ (yn m_X10_areDays).cls ≠ "java/lang/invoke/VarHandle" ∧ (parseMethodDescriptor (yn m_X10_areDays).desc).map (fun d => d.parameters.length) = some 1 := by decide +kernel
theorem cs_X10_sign_X10_areDays : Cs m_X10_sign m_X10_areDays 1 := ⟨cw_X10_areDays, in_X10_areDays, cz_X10_areDays, Nat.le_of_ble_eq_true rfl, Nat.le_of_ble_eq_true rfl⟩
theorem lk_RX10_329 : Lk RX10 329 (yn m_X10_findSigns) := Or.inl (tzc_7 18 (by decide +kernel) rfl)
theorem cz_X10_findSigns : (yn m_X10_findSigns).cls ≠ "java/lang/invoke/MethodHandle" ∧ (yn m_X10_findSigns).cls ≠ "java/lang/invoke/VarHandle" ∧ (parseMethodDescriptor (yn m_X10_findSigns).desc).map (fun d => d.parameters.length) = some 2 := by decide +kernel
theorem cs_X10_sign_X10_findSigns : Cs m_X10_sign m_X10_findSigns 2 := ⟨cw_X10_findSigns, in_X10_findSigns, cz_X10_findSigns, Nat.le_of_ble_eq_true rfl, Nat.le_of_ble_eq_true rfl⟩
theorem cs_X10_seens_X10_one : Cs m_X10_seens m_X10_one 1 := ⟨cw_X10_one, in_X10_one, cz_X10_one, Nat.le_of_ble_eq_true rfl, Nat.le_of_ble_eq_true rfl⟩
theorem cs_X10_seen_X10_isSign : Cs m_X10_seen m_X10_isSign 1 := ⟨cw_X10_isSign, in_X10_isSign, cz_X10_isSign, Nat.le_of_ble_eq_true rfl, Nat.le_of_ble_eq_true rfl⟩
theorem cs_X10_seen_X10_in : Cs m_X10_seen m_X10_in 3 := ⟨cw_X10_in, in_X10_in, cz_X10_in, Nat.le_of_ble_eq_true rfl, Nat.le_of_ble_eq_true rfl⟩
theorem lk_RX10_338 : Lk RX10 338 (yn m_X10_seens) := Or.inl (tzc_7 37 (by decide +kernel) rfl)
theorem cz_X10_seens : (yn m_X10_seens).cls ≠ "java/lang/invoke/MethodHandle" ∧ (yn m_X10_seens).cls ≠ "java/lang/invoke/VarHandle" ∧ (parseMethodDescriptor (yn m_X10_seens).desc).map (fun d => d.parameters.length) = some 0 := by decide +kernel
theorem cs_X10_seen_X10_seens : Cs m_X10_seen m_X10_seens 0 := ⟨cw_X10_seens, in_X10_seens, cz_X10_seens, Nat.le_of_ble_eq_true rfl, Nat.le_of_ble_eq_true rfl⟩
theorem cs_X10_forget_X10_seens : Cs m_X10_forget m_X10_seens 0 := ⟨cw_X10_seens, in_X10_seens, cz_X10_seens, Nat.le_of_ble_eq_true rfl, Nat.le_of_ble_eq_true rfl⟩
theorem cs_X10_prior_X10_begin : Cs m_X10_prior m_X10_begin 0 := ⟨cw_X10_begin, in_X10_begin, cz_X10_begin, Nat.le_of_ble_eq_true rfl, Nat.le_of_ble_eq_true rfl⟩
theorem lk_RX10_341 : Lk RX10 341 (yn m_X10_isTrouble) := Or.inl (tzc_7 49 (by decide +kernel) rfl)
theorem cz_X10_isTrouble : (yn m_X10_isTrouble).cls ≠ "java/lang/invoke/MethodHandle" ∧ (yn m_X10_isTrouble).cls ≠ "java/lang/invoke/VarHandle" ∧ (parseMethodDescriptor (yn m_X10_isTrouble).desc).map (fun d => d.parameters.length) = some 1 := by decide +kernel
theorem cs_X10_prior_X10_isTrouble : Cs m_X10_prior m_X10_isTrouble 1 := ⟨cw_X10_isTrouble, in_X10_isTrouble, cz_X10_isTrouble, Nat.le_of_ble_eq_true rfl, Nat.le_of_ble_eq_true rfl⟩
theorem cs_X10_prior_X10_in : Cs m_X10_prior m_X10_in 3 := ⟨cw_X10_in, in_X10_in, cz_X10_in, Nat.le_of_ble_eq_true rfl, Nat.le_of_ble_eq_true rfl⟩
theorem cs_X10_bother_X10_isSign : Cs m_X10_bother m_X10_isSign 1 := ⟨cw_X10_isSign, in_X10_isSign, cz_X10_isSign, Nat.le_of_ble_eq_true rfl, Nat.le_of_ble_eq_true rfl⟩
theorem cs_X10_bother_X10_in : Cs m_X10_bother m_X10_in 3 := ⟨cw_X10_in, in_X10_in, cz_X10_in, Nat.le_of_ble_eq_true rfl, Nat.le_of_ble_eq_true rfl⟩
theorem lk_RX10_344 : Lk RX10 344 (yn m_X10_ones) := Or.inl (tzc_7 63 (by decide +kernel) rfl)
theorem cz_X10_ones : (yn m_X10_ones).cls ≠ "java/lang/invoke/MethodHandle" ∧ (yn m_X10_ones).cls ≠ "java/lang/invoke/VarHandle" ∧ (parseMethodDescriptor (yn m_X10_ones).desc).map (fun d => d.parameters.length) = some 1 := by decide +kernel
theorem cs_X10_couldBe_X10_ones : Cs m_X10_couldBe m_X10_ones 1 := ⟨cw_X10_ones, in_X10_ones, cz_X10_ones, Nat.le_of_ble_eq_true rfl, Nat.le_of_ble_eq_true rfl⟩
theorem cs_X10_weightOf_X10_has : Cs m_X10_weightOf m_X10_has 2 := ⟨cw_X10_has, in_X10_has, cz_X10_has, Nat.le_of_ble_eq_true rfl, Nat.le_of_ble_eq_true rfl⟩
theorem lk_RX10_353 : Lk RX10 353 (yn m_X10_couldBe) := Or.inl (tzc_7 60 (by decide +kernel) rfl)
theorem cz_X10_couldBe : (yn m_X10_couldBe).cls ≠ "java/lang/invoke/MethodHandle" ∧ (yn m_X10_couldBe).cls ≠ "java/lang/invoke/VarHandle" ∧ (parseMethodDescriptor (yn m_X10_couldBe).desc).map (fun d => d.parameters.length) = some 1 := by decide +kernel
theorem cs_X10_weigh_X10_couldBe : Cs m_X10_weigh m_X10_couldBe 1 := ⟨cw_X10_couldBe, in_X10_couldBe, cz_X10_couldBe, Nat.le_of_ble_eq_true rfl, Nat.le_of_ble_eq_true rfl⟩
theorem cs_X10_weigh_X10_findSigns : Cs m_X10_weigh m_X10_findSigns 2 := ⟨cw_X10_findSigns, in_X10_findSigns, cz_X10_findSigns, Nat.le_of_ble_eq_true rfl, Nat.le_of_ble_eq_true rfl⟩
theorem lk_RX10_356 : Lk RX10 356 (yn m_X10_weightOf) := Or.inl (tzc_7 70 (by decide +kernel) rfl)
theorem cz_X10_weightOf : (yn m_X10_weightOf).cls ≠ "java/lang/invoke/MethodHandle" ∧ (yn m_X10_weightOf).cls ≠ "java/lang/invoke/VarHandle" ∧ (parseMethodDescriptor (yn m_X10_weightOf).desc).map (fun d => d.parameters.length) = some 1 := by decide +kernel
theorem cs_X10_weigh_X10_weightOf : Cs m_X10_weigh m_X10_weightOf 1 := ⟨cw_X10_weightOf, in_X10_weightOf, cz_X10_weightOf, Nat.le_of_ble_eq_true rfl, Nat.le_of_ble_eq_true rfl⟩
theorem cs_X10_odds_X10_begin : Cs m_X10_odds m_X10_begin 0 := ⟨cw_X10_begin, in_X10_begin, cz_X10_begin, Nat.le_of_ble_eq_true rfl, Nat.le_of_ble_eq_true rfl⟩
theorem cs_X10_odds_X10_isSet : Cs m_X10_odds m_X10_isSet 1 := ⟨cw_X10_isSet, in_X10_isSet, cz_X10_isSet, Nat.le_of_ble_eq_true rfl, Nat.le_of_ble_eq_true rfl⟩
theorem cs_X10_odds_X10_couldBe : Cs m_X10_odds m_X10_couldBe 1 := ⟨cw_X10_couldBe, in_X10_couldBe, cz_X10_couldBe, Nat.le_of_ble_eq_true rfl, Nat.le_of_ble_eq_true rfl⟩
theorem cs_X10_odds_X10_areDays : Cs m_X10_odds m_X10_areDays 1 := ⟨cw_X10_areDays, in_X10_areDays, cz_X10_areDays, Nat.le_of_ble_eq_true rfl, Nat.le_of_ble_eq_true rfl⟩
theorem lk_RX10_360 : Lk RX10 360 (yn m_X10_weigh) := Or.inl (tzc_7 66 (by decide +kernel) rfl)
theorem cz_X10_weigh : (yn m_X10_weigh).cls ≠ "java/lang/invoke/MethodHandle" ∧ (yn m_X10_weigh).cls ≠ "java/lang/invoke/VarHandle" ∧ (parseMethodDescriptor (yn m_X10_weigh).desc).map (fun d => d.parameters.length) = some 1 := by decide +kernel
theorem cs_X10_odds_X10_weigh : Cs m_X10_odds m_X10_weigh 1 := ⟨cw_X10_weigh, in_X10_weigh, cz_X10_weigh, Nat.le_of_ble_eq_true rfl, Nat.le_of_ble_eq_true rfl⟩
theorem lk_RX10_363 : Lk RX10 363 (yn m_X10_oddsOf) := Or.inl (tzc_7 75 (by decide +kernel) rfl)
theorem cz_X10_oddsOf : (yn m_X10_oddsOf).cls ≠ "java/lang/invoke/MethodHandle" ∧ (yn m_X10_oddsOf).cls ≠ "java/lang/invoke/VarHandle" ∧ (parseMethodDescriptor (yn m_X10_oddsOf).desc).map (fun d => d.parameters.length) = some 1 := by decide +kernel
theorem cs_X10_odds_X10_oddsOf : Cs m_X10_odds m_X10_oddsOf 1 := ⟨cw_X10_oddsOf, in_X10_oddsOf, cz_X10_oddsOf, Nat.le_of_ble_eq_true rfl, Nat.le_of_ble_eq_true rfl⟩
theorem cs_X10_each_X10_begin : Cs m_X10_each m_X10_begin 0 := ⟨cw_X10_begin, in_X10_begin, cz_X10_begin, Nat.le_of_ble_eq_true rfl, Nat.le_of_ble_eq_true rfl⟩
theorem cs_X10_each_X10_isTrouble : Cs m_X10_each m_X10_isTrouble 1 := ⟨cw_X10_isTrouble, in_X10_isTrouble, cz_X10_isTrouble, Nat.le_of_ble_eq_true rfl, Nat.le_of_ble_eq_true rfl⟩
theorem cs_X10_each_X10_areDays : Cs m_X10_each m_X10_areDays 1 := ⟨cw_X10_areDays, in_X10_areDays, cz_X10_areDays, Nat.le_of_ble_eq_true rfl, Nat.le_of_ble_eq_true rfl⟩
theorem cs_X10_each_X10_weigh : Cs m_X10_each m_X10_weigh 1 := ⟨cw_X10_weigh, in_X10_weigh, cz_X10_weigh, Nat.le_of_ble_eq_true rfl, Nat.le_of_ble_eq_true rfl⟩
theorem cs_X10_each_X10_couldBe : Cs m_X10_each m_X10_couldBe 1 := ⟨cw_X10_couldBe, in_X10_couldBe, cz_X10_couldBe, Nat.le_of_ble_eq_true rfl, Nat.le_of_ble_eq_true rfl⟩
theorem cs_X10_each_X10_has : Cs m_X10_each m_X10_has 2 := ⟨cw_X10_has, in_X10_has, cz_X10_has, Nat.le_of_ble_eq_true rfl, Nat.le_of_ble_eq_true rfl⟩
theorem cs_X10_each_X10_oddsOf : Cs m_X10_each m_X10_oddsOf 1 := ⟨cw_X10_oddsOf, in_X10_oddsOf, cz_X10_oddsOf, Nat.le_of_ble_eq_true rfl, Nat.le_of_ble_eq_true rfl⟩
theorem cs_X10_tellsOf_X10_couldBe : Cs m_X10_tellsOf m_X10_couldBe 1 := ⟨cw_X10_couldBe, in_X10_couldBe, cz_X10_couldBe, Nat.le_of_ble_eq_true rfl, Nat.le_of_ble_eq_true rfl⟩
theorem cs_X10_tells_X10_begin : Cs m_X10_tells m_X10_begin 0 := ⟨cw_X10_begin, in_X10_begin, cz_X10_begin, Nat.le_of_ble_eq_true rfl, Nat.le_of_ble_eq_true rfl⟩
theorem cs_X10_tells_X10_isSign : Cs m_X10_tells m_X10_isSign 1 := ⟨cw_X10_isSign, in_X10_isSign, cz_X10_isSign, Nat.le_of_ble_eq_true rfl, Nat.le_of_ble_eq_true rfl⟩
theorem cs_X10_tells_X10_areDays : Cs m_X10_tells m_X10_areDays 1 := ⟨cw_X10_areDays, in_X10_areDays, cz_X10_areDays, Nat.le_of_ble_eq_true rfl, Nat.le_of_ble_eq_true rfl⟩
theorem cs_X10_tells_X10_weigh : Cs m_X10_tells m_X10_weigh 1 := ⟨cw_X10_weigh, in_X10_weigh, cz_X10_weigh, Nat.le_of_ble_eq_true rfl, Nat.le_of_ble_eq_true rfl⟩
theorem lk_RX10_366 : Lk RX10 366 (yn m_X10_tellsOf) := Or.inl (tzc_7 87 (by decide +kernel) rfl)
theorem cz_X10_tellsOf : (yn m_X10_tellsOf).cls ≠ "java/lang/invoke/MethodHandle" ∧ (yn m_X10_tellsOf).cls ≠ "java/lang/invoke/VarHandle" ∧ (parseMethodDescriptor (yn m_X10_tellsOf).desc).map (fun d => d.parameters.length) = some 1 := by decide +kernel
theorem cs_X10_tells_X10_tellsOf : Cs m_X10_tells m_X10_tellsOf 1 := ⟨cw_X10_tellsOf, in_X10_tellsOf, cz_X10_tellsOf, Nat.le_of_ble_eq_true rfl, Nat.le_of_ble_eq_true rfl⟩
theorem cs_X10_next_X10_begin : Cs m_X10_next m_X10_begin 0 := ⟨cw_X10_begin, in_X10_begin, cz_X10_begin, Nat.le_of_ble_eq_true rfl, Nat.le_of_ble_eq_true rfl⟩
theorem cs_X10_next_X10_areDays : Cs m_X10_next m_X10_areDays 1 := ⟨cw_X10_areDays, in_X10_areDays, cz_X10_areDays, Nat.le_of_ble_eq_true rfl, Nat.le_of_ble_eq_true rfl⟩
theorem cs_X10_next_X10_weigh : Cs m_X10_next m_X10_weigh 1 := ⟨cw_X10_weigh, in_X10_weigh, cz_X10_weigh, Nat.le_of_ble_eq_true rfl, Nat.le_of_ble_eq_true rfl⟩
theorem cs_X10_next_X10_tellsOf : Cs m_X10_next m_X10_tellsOf 1 := ⟨cw_X10_tellsOf, in_X10_tellsOf, cz_X10_tellsOf, Nat.le_of_ble_eq_true rfl, Nat.le_of_ble_eq_true rfl⟩
theorem cs_X10_makes_X10_begin : Cs m_X10_makes m_X10_begin 0 := ⟨cw_X10_begin, in_X10_begin, cz_X10_begin, Nat.le_of_ble_eq_true rfl, Nat.le_of_ble_eq_true rfl⟩
theorem cs_X10_makes_X10_isSet : Cs m_X10_makes m_X10_isSet 1 := ⟨cw_X10_isSet, in_X10_isSet, cz_X10_isSet, Nat.le_of_ble_eq_true rfl, Nat.le_of_ble_eq_true rfl⟩
theorem cs_X10_makes_X10_in : Cs m_X10_makes m_X10_in 3 := ⟨cw_X10_in, in_X10_in, cz_X10_in, Nat.le_of_ble_eq_true rfl, Nat.le_of_ble_eq_true rfl⟩
theorem cs_X10_makes_X10_tryFresh : Cs m_X10_makes m_X10_tryFresh 1 := ⟨cw_X10_tryFresh, in_X10_tryFresh, cz_X10_tryFresh, Nat.le_of_ble_eq_true rfl, Nat.le_of_ble_eq_true rfl⟩
theorem cs_X10_makes_X10_go : Cs m_X10_makes m_X10_go 2 := ⟨cw_X10_go, in_X10_go, cz_X10_go, Nat.le_of_ble_eq_true rfl, Nat.le_of_ble_eq_true rfl⟩
theorem cs_X10_mending_X10_begin : Cs m_X10_mending m_X10_begin 0 := ⟨cw_X10_begin, in_X10_begin, cz_X10_begin, Nat.le_of_ble_eq_true rfl, Nat.le_of_ble_eq_true rfl⟩
theorem cs_X10_mending_X10_isTrouble : Cs m_X10_mending m_X10_isTrouble 1 := ⟨cw_X10_isTrouble, in_X10_isTrouble, cz_X10_isTrouble, Nat.le_of_ble_eq_true rfl, Nat.le_of_ble_eq_true rfl⟩
theorem cs_X10_mending_X10_in : Cs m_X10_mending m_X10_in 3 := ⟨cw_X10_in, in_X10_in, cz_X10_in, Nat.le_of_ble_eq_true rfl, Nat.le_of_ble_eq_true rfl⟩
theorem cs_X10_price_X10_begin : Cs m_X10_price m_X10_begin 0 := ⟨cw_X10_begin, in_X10_begin, cz_X10_begin, Nat.le_of_ble_eq_true rfl, Nat.le_of_ble_eq_true rfl⟩
theorem cs_X10_price_X10_in : Cs m_X10_price m_X10_in 3 := ⟨cw_X10_in, in_X10_in, cz_X10_in, Nat.le_of_ble_eq_true rfl, Nat.le_of_ble_eq_true rfl⟩
theorem cs_X10_yearOf_X10_findSigns : Cs m_X10_yearOf m_X10_findSigns 2 := ⟨cw_X10_findSigns, in_X10_findSigns, cz_X10_findSigns, Nat.le_of_ble_eq_true rfl, Nat.le_of_ble_eq_true rfl⟩
theorem cs_X10_year_X10_begin : Cs m_X10_year m_X10_begin 0 := ⟨cw_X10_begin, in_X10_begin, cz_X10_begin, Nat.le_of_ble_eq_true rfl, Nat.le_of_ble_eq_true rfl⟩
theorem cs_X10_year_X10_isSet : Cs m_X10_year m_X10_isSet 1 := ⟨cw_X10_isSet, in_X10_isSet, cz_X10_isSet, Nat.le_of_ble_eq_true rfl, Nat.le_of_ble_eq_true rfl⟩
theorem lk_RX10_371 : Lk RX10 371 (yn m_X10_yearOf) := Or.inl (tzc_7 111 (by decide +kernel) rfl)
theorem cz_X10_yearOf : (yn m_X10_yearOf).cls ≠ "java/lang/invoke/MethodHandle" ∧ (yn m_X10_yearOf).cls ≠ "java/lang/invoke/VarHandle" ∧ (parseMethodDescriptor (yn m_X10_yearOf).desc).map (fun d => d.parameters.length) = some 1 := by decide +kernel
theorem cs_X10_year_X10_yearOf : Cs m_X10_year m_X10_yearOf 1 := ⟨cw_X10_yearOf, in_X10_yearOf, cz_X10_yearOf, Nat.le_of_ble_eq_true rfl, Nat.le_of_ble_eq_true rfl⟩
theorem cs_X10_saves_X10_begin : Cs m_X10_saves m_X10_begin 0 := ⟨cw_X10_begin, in_X10_begin, cz_X10_begin, Nat.le_of_ble_eq_true rfl, Nat.le_of_ble_eq_true rfl⟩
theorem cs_X10_saves_X10_isSet : Cs m_X10_saves m_X10_isSet 1 := ⟨cw_X10_isSet, in_X10_isSet, cz_X10_isSet, Nat.le_of_ble_eq_true rfl, Nat.le_of_ble_eq_true rfl⟩
theorem cs_X10_saves_X10_yearOf : Cs m_X10_saves m_X10_yearOf 1 := ⟨cw_X10_yearOf, in_X10_yearOf, cz_X10_yearOf, Nat.le_of_ble_eq_true rfl, Nat.le_of_ble_eq_true rfl⟩
theorem cs_X10_best_X10_begin : Cs m_X10_best m_X10_begin 0 := ⟨cw_X10_begin, in_X10_begin, cz_X10_begin, Nat.le_of_ble_eq_true rfl, Nat.le_of_ble_eq_true rfl⟩
theorem cs_X10_best_X10_isSet : Cs m_X10_best m_X10_isSet 1 := ⟨cw_X10_isSet, in_X10_isSet, cz_X10_isSet, Nat.le_of_ble_eq_true rfl, Nat.le_of_ble_eq_true rfl⟩
theorem cs_X10_best_X10_in : Cs m_X10_best m_X10_in 3 := ⟨cw_X10_in, in_X10_in, cz_X10_in, Nat.le_of_ble_eq_true rfl, Nat.le_of_ble_eq_true rfl⟩
theorem cs_X10_best_X10_yearOf : Cs m_X10_best m_X10_yearOf 1 := ⟨cw_X10_yearOf, in_X10_yearOf, cz_X10_yearOf, Nat.le_of_ble_eq_true rfl, Nat.le_of_ble_eq_true rfl⟩
theorem cs_X10_best_X10_has : Cs m_X10_best m_X10_has 2 := ⟨cw_X10_has, in_X10_has, cz_X10_has, Nat.le_of_ble_eq_true rfl, Nat.le_of_ble_eq_true rfl⟩
theorem cs_X10_pays_X10_begin : Cs m_X10_pays m_X10_begin 0 := ⟨cw_X10_begin, in_X10_begin, cz_X10_begin, Nat.le_of_ble_eq_true rfl, Nat.le_of_ble_eq_true rfl⟩
theorem cs_X10_pays_X10_isSet : Cs m_X10_pays m_X10_isSet 1 := ⟨cw_X10_isSet, in_X10_isSet, cz_X10_isSet, Nat.le_of_ble_eq_true rfl, Nat.le_of_ble_eq_true rfl⟩
theorem cs_X10_pays_X10_in : Cs m_X10_pays m_X10_in 3 := ⟨cw_X10_in, in_X10_in, cz_X10_in, Nat.le_of_ble_eq_true rfl, Nat.le_of_ble_eq_true rfl⟩
theorem cs_X10_pays_X10_yearOf : Cs m_X10_pays m_X10_yearOf 1 := ⟨cw_X10_yearOf, in_X10_yearOf, cz_X10_yearOf, Nat.le_of_ble_eq_true rfl, Nat.le_of_ble_eq_true rfl⟩
theorem cs_X10_iceOf_X10_tryFresh : Cs m_X10_iceOf m_X10_tryFresh 1 := ⟨cw_X10_tryFresh, in_X10_tryFresh, cz_X10_tryFresh, Nat.le_of_ble_eq_true rfl, Nat.le_of_ble_eq_true rfl⟩
theorem cs_X10_iceOf_X10_melt : Cs m_X10_iceOf m_X10_melt 1 := ⟨cw_X10_melt, in_X10_melt, cz_X10_melt, Nat.le_of_ble_eq_true rfl, Nat.le_of_ble_eq_true rfl⟩
theorem cs_X10_iceOf_X10_go : Cs m_X10_iceOf m_X10_go 2 := ⟨cw_X10_go, in_X10_go, cz_X10_go, Nat.le_of_ble_eq_true rfl, Nat.le_of_ble_eq_true rfl⟩
theorem cs_X10_ice_X10_begin : Cs m_X10_ice m_X10_begin 0 := ⟨cw_X10_begin, in_X10_begin, cz_X10_begin, Nat.le_of_ble_eq_true rfl, Nat.le_of_ble_eq_true rfl⟩
theorem cs_X10_ice_X10_isSet : Cs m_X10_ice m_X10_isSet 1 := ⟨cw_X10_isSet, in_X10_isSet, cz_X10_isSet, Nat.le_of_ble_eq_true rfl, Nat.le_of_ble_eq_true rfl⟩
theorem cs_X10_ice_X10_in : Cs m_X10_ice m_X10_in 3 := ⟨cw_X10_in, in_X10_in, cz_X10_in, Nat.le_of_ble_eq_true rfl, Nat.le_of_ble_eq_true rfl⟩
theorem lk_RX10_375 : Lk RX10 375 (yn m_X10_iceOf) := Or.inl (tzc_7 133 (by decide +kernel) rfl)
theorem cz_X10_iceOf : (yn m_X10_iceOf).cls ≠ "java/lang/invoke/MethodHandle" ∧ (yn m_X10_iceOf).cls ≠ "java/lang/invoke/VarHandle" ∧ (parseMethodDescriptor (yn m_X10_iceOf).desc).map (fun d => d.parameters.length) = some 4 := by decide +kernel
theorem cs_X10_ice_X10_iceOf : Cs m_X10_ice m_X10_iceOf 4 := ⟨cw_X10_iceOf, in_X10_iceOf, cz_X10_iceOf, Nat.le_of_ble_eq_true rfl, Nat.le_of_ble_eq_true rfl⟩
theorem cs_X10_within_X10_isOpen : Cs m_X10_within m_X10_isOpen 1 := ⟨cw_X10_isOpen, in_X10_isOpen, cz_X10_isOpen, Nat.le_of_ble_eq_true rfl, Nat.le_of_ble_eq_true rfl⟩
theorem cs_X10_within_X10_tick : Cs m_X10_within m_X10_tick 4 := ⟨cw_X10_tick, in_X10_tick, cz_X10_tick, Nat.le_of_ble_eq_true rfl, Nat.le_of_ble_eq_true rfl⟩
theorem cs_X10_within_X10_isWithin : Cs m_X10_within m_X10_isWithin 2 := ⟨cw_X10_isWithin, in_X10_isWithin, cz_X10_isWithin, Nat.le_of_ble_eq_true rfl, Nat.le_of_ble_eq_true rfl⟩
theorem cs_X10_within_X10_one : Cs m_X10_within m_X10_one 1 := ⟨cw_X10_one, in_X10_one, cz_X10_one, Nat.le_of_ble_eq_true rfl, Nat.le_of_ble_eq_true rfl⟩
theorem lk_RX10_379 : Lk RX10 379 (yn m_X10_powerOf3) := Or.inl (tzc_7 141 (by decide +kernel) rfl)
theorem cz_X10_powerOf3 : (yn m_X10_powerOf3).cls ≠ "java/lang/invoke/MethodHandle" ∧ (yn m_X10_powerOf3).cls ≠ "java/lang/invoke/VarHandle" ∧ (parseMethodDescriptor (yn m_X10_powerOf3).desc).map (fun d => d.parameters.length) = some 1 := by decide +kernel
theorem cs_X10_rowAt_X10_powerOf3 : Cs m_X10_rowAt m_X10_powerOf3 1 := ⟨cw_X10_powerOf3, in_X10_powerOf3, cz_X10_powerOf3, Nat.le_of_ble_eq_true rfl, Nat.le_of_ble_eq_true rfl⟩
theorem cs_X10_lying_X10_begin : Cs m_X10_lying m_X10_begin 0 := ⟨cw_X10_begin, in_X10_begin, cz_X10_begin, Nat.le_of_ble_eq_true rfl, Nat.le_of_ble_eq_true rfl⟩
theorem cs_X10_lying_X10_isFood : Cs m_X10_lying m_X10_isFood 1 := ⟨cw_X10_isFood, in_X10_isFood, cz_X10_isFood, Nat.le_of_ble_eq_true rfl, Nat.le_of_ble_eq_true rfl⟩
theorem cs_X10_lying_X10_foods : Cs m_X10_lying m_X10_foods 0 := ⟨cw_X10_foods, in_X10_foods, cz_X10_foods, Nat.le_of_ble_eq_true rfl, Nat.le_of_ble_eq_true rfl⟩
theorem cs_X10_lying_X10_powerOf3 : Cs m_X10_lying m_X10_powerOf3 1 := ⟨cw_X10_powerOf3, in_X10_powerOf3, cz_X10_powerOf3, Nat.le_of_ble_eq_true rfl, Nat.le_of_ble_eq_true rfl⟩
theorem lk_RX10_382 : Lk RX10 382 (yn m_X10_copy) := Or.inl (tzc_7 144 (by decide +kernel) rfl)
theorem cz_X10_copy : (yn m_X10_copy).cls ≠ "java/lang/invoke/MethodHandle" ∧ (yn m_X10_copy).cls ≠ "java/lang/invoke/VarHandle" ∧ (parseMethodDescriptor (yn m_X10_copy).desc).map (fun d => d.parameters.length) = some 2 := by decide +kernel
theorem cs_X10_lying_X10_copy : Cs m_X10_lying m_X10_copy 2 := ⟨cw_X10_copy, in_X10_copy, cz_X10_copy, Nat.le_of_ble_eq_true rfl, Nat.le_of_ble_eq_true rfl⟩
theorem lk_RX10_385 : Lk RX10 385 (yn m_X10_placeOf) := Or.inl (tzc_7 148 (by decide +kernel) rfl)
theorem cz_X10_placeOf : (yn m_X10_placeOf).cls ≠ "java/lang/invoke/MethodHandle" ∧ (yn m_X10_placeOf).cls ≠ "java/lang/invoke/VarHandle" ∧ (parseMethodDescriptor (yn m_X10_placeOf).desc).map (fun d => d.parameters.length) = some 1 := by decide +kernel
theorem cs_X10_lying_X10_placeOf : Cs m_X10_lying m_X10_placeOf 1 := ⟨cw_X10_placeOf, in_X10_placeOf, cz_X10_placeOf, Nat.le_of_ble_eq_true rfl, Nat.le_of_ble_eq_true rfl⟩
theorem lk_RX10_388 : Lk RX10 388 (yn m_X10_rowAt) := Or.inl (tzc_7 152 (by decide +kernel) rfl)
theorem cz_X10_rowAt : (yn m_X10_rowAt).cls ≠ "java/lang/invoke/MethodHandle" ∧ (yn m_X10_rowAt).cls ≠ "java/lang/invoke/VarHandle" ∧ (parseMethodDescriptor (yn m_X10_rowAt).desc).map (fun d => d.parameters.length) = some 3 := by decide +kernel
theorem cs_X10_lying_X10_rowAt : Cs m_X10_lying m_X10_rowAt 3 := ⟨cw_X10_rowAt, in_X10_rowAt, cz_X10_rowAt, Nat.le_of_ble_eq_true rfl, Nat.le_of_ble_eq_true rfl⟩
theorem lk_RX10_392 : Lk RX10 392 (yn m_X10_within) := Or.inl (tzc_7 155 (by decide +kernel) rfl)
theorem cz_X10_within : (yn m_X10_within).cls ≠ "java/lang/invoke/MethodHandle" ∧ (yn m_X10_within).cls ≠ "java/lang/invoke/VarHandle" ∧ (parseMethodDescriptor (yn m_X10_within).desc).map (fun d => d.parameters.length) = some 1 := by decide +kernel
theorem cs_X10_lying_X10_within : Cs m_X10_lying m_X10_within 1 := ⟨cw_X10_within, in_X10_within, cz_X10_within, Nat.le_of_ble_eq_true rfl, Nat.le_of_ble_eq_true rfl⟩
theorem cs_X10_bulb_X10_begin : Cs m_X10_bulb m_X10_begin 0 := ⟨cw_X10_begin, in_X10_begin, cz_X10_begin, Nat.le_of_ble_eq_true rfl, Nat.le_of_ble_eq_true rfl⟩
theorem cs_X10_bulb_X10_in : Cs m_X10_bulb m_X10_in 3 := ⟨cw_X10_in, in_X10_in, cz_X10_in, Nat.le_of_ble_eq_true rfl, Nat.le_of_ble_eq_true rfl⟩
theorem cs_X10_bulb_X10_copy : Cs m_X10_bulb m_X10_copy 2 := ⟨cw_X10_copy, in_X10_copy, cz_X10_copy, Nat.le_of_ble_eq_true rfl, Nat.le_of_ble_eq_true rfl⟩
theorem cs_X10_bulb_X10_within : Cs m_X10_bulb m_X10_within 1 := ⟨cw_X10_within, in_X10_within, cz_X10_within, Nat.le_of_ble_eq_true rfl, Nat.le_of_ble_eq_true rfl⟩
theorem cs_X10_without_X10_begin : Cs m_X10_without m_X10_begin 0 := ⟨cw_X10_begin, in_X10_begin, cz_X10_begin, Nat.le_of_ble_eq_true rfl, Nat.le_of_ble_eq_true rfl⟩
theorem cs_X10_without_X10_isFood : Cs m_X10_without m_X10_isFood 1 := ⟨cw_X10_isFood, in_X10_isFood, cz_X10_isFood, Nat.le_of_ble_eq_true rfl, Nat.le_of_ble_eq_true rfl⟩
theorem cs_X10_without_X10_copy : Cs m_X10_without m_X10_copy 2 := ⟨cw_X10_copy, in_X10_copy, cz_X10_copy, Nat.le_of_ble_eq_true rfl, Nat.le_of_ble_eq_true rfl⟩
theorem cs_X10_without_X10_go : Cs m_X10_without m_X10_go 2 := ⟨cw_X10_go, in_X10_go, cz_X10_go, Nat.le_of_ble_eq_true rfl, Nat.le_of_ble_eq_true rfl⟩
theorem cs_X10_without_X10_isWithin : Cs m_X10_without m_X10_isWithin 2 := ⟨cw_X10_isWithin, in_X10_isWithin, cz_X10_isWithin, Nat.le_of_ble_eq_true rfl, Nat.le_of_ble_eq_true rfl⟩
theorem cs_X10_cheap_X10_begin : Cs m_X10_cheap m_X10_begin 0 := ⟨cw_X10_begin, in_X10_begin, cz_X10_begin, Nat.le_of_ble_eq_true rfl, Nat.le_of_ble_eq_true rfl⟩
theorem cs_X10_cheap_X10_in : Cs m_X10_cheap m_X10_in 3 := ⟨cw_X10_in, in_X10_in, cz_X10_in, Nat.le_of_ble_eq_true rfl, Nat.le_of_ble_eq_true rfl⟩
theorem cs_X10_paid_X10_copy : Cs m_X10_paid m_X10_copy 2 := ⟨cw_X10_copy, in_X10_copy, cz_X10_copy, Nat.le_of_ble_eq_true rfl, Nat.le_of_ble_eq_true rfl⟩
theorem cs_X10_paid_X10_isHour : Cs m_X10_paid m_X10_isHour 3 := ⟨cw_X10_isHour, in_X10_isHour, cz_X10_isHour, Nat.le_of_ble_eq_true rfl, Nat.le_of_ble_eq_true rfl⟩
theorem cs_X10_paid_X10_isOpen : Cs m_X10_paid m_X10_isOpen 1 := ⟨cw_X10_isOpen, in_X10_isOpen, cz_X10_isOpen, Nat.le_of_ble_eq_true rfl, Nat.le_of_ble_eq_true rfl⟩
theorem cs_X10_paid_X10_tick : Cs m_X10_paid m_X10_tick 4 := ⟨cw_X10_tick, in_X10_tick, cz_X10_tick, Nat.le_of_ble_eq_true rfl, Nat.le_of_ble_eq_true rfl⟩
theorem cs_X10_paid_X10_isWithin : Cs m_X10_paid m_X10_isWithin 2 := ⟨cw_X10_isWithin, in_X10_isWithin, cz_X10_isWithin, Nat.le_of_ble_eq_true rfl, Nat.le_of_ble_eq_true rfl⟩
theorem cs_X10_store_X10_begin : Cs m_X10_store m_X10_begin 0 := ⟨cw_X10_begin, in_X10_begin, cz_X10_begin, Nat.le_of_ble_eq_true rfl, Nat.le_of_ble_eq_true rfl⟩
theorem cs_X10_store_X10_areDays : Cs m_X10_store m_X10_areDays 1 := ⟨cw_X10_areDays, in_X10_areDays, cz_X10_areDays, Nat.le_of_ble_eq_true rfl, Nat.le_of_ble_eq_true rfl⟩
theorem cs_X10_store_X10_in : Cs m_X10_store m_X10_in 3 := ⟨cw_X10_in, in_X10_in, cz_X10_in, Nat.le_of_ble_eq_true rfl, Nat.le_of_ble_eq_true rfl⟩
theorem lk_RX10_405 : Lk RX10 405 (yn m_X10_paid) := Or.inl (tzc_7 177 (by decide +kernel) rfl)
theorem cz_X10_paid : (yn m_X10_paid).cls ≠ "java/lang/invoke/MethodHandle" ∧ (yn m_X10_paid).cls ≠ "java/lang/invoke/VarHandle" ∧ (parseMethodDescriptor (yn m_X10_paid).desc).map (fun d => d.parameters.length) = some 2 := by decide +kernel
theorem cs_X10_store_X10_paid : Cs m_X10_store m_X10_paid 2 := ⟨cw_X10_paid, in_X10_paid, cz_X10_paid, Nat.le_of_ble_eq_true rfl, Nat.le_of_ble_eq_true rfl⟩
theorem cs_X10_seed_X10_begin : Cs m_X10_seed m_X10_begin 0 := ⟨cw_X10_begin, in_X10_begin, cz_X10_begin, Nat.le_of_ble_eq_true rfl, Nat.le_of_ble_eq_true rfl⟩
theorem cs_X10_keep_X10_begin : Cs m_X10_keep m_X10_begin 0 := ⟨cw_X10_begin, in_X10_begin, cz_X10_begin, Nat.le_of_ble_eq_true rfl, Nat.le_of_ble_eq_true rfl⟩
theorem cs_X10_keep_X10_in : Cs m_X10_keep m_X10_in 3 := ⟨cw_X10_in, in_X10_in, cz_X10_in, Nat.le_of_ble_eq_true rfl, Nat.le_of_ble_eq_true rfl⟩
theorem cs_X10_keep_X10_copy : Cs m_X10_keep m_X10_copy 2 := ⟨cw_X10_copy, in_X10_copy, cz_X10_copy, Nat.le_of_ble_eq_true rfl, Nat.le_of_ble_eq_true rfl⟩
theorem cs_X10_goBack_X10_begin : Cs m_X10_goBack m_X10_begin 0 := ⟨cw_X10_begin, in_X10_begin, cz_X10_begin, Nat.le_of_ble_eq_true rfl, Nat.le_of_ble_eq_true rfl⟩
theorem cs_X10_goBack_X10_in : Cs m_X10_goBack m_X10_in 3 := ⟨cw_X10_in, in_X10_in, cz_X10_in, Nat.le_of_ble_eq_true rfl, Nat.le_of_ble_eq_true rfl⟩
theorem cs_X10_goBack_X10_copy : Cs m_X10_goBack m_X10_copy 2 := ⟨cw_X10_copy, in_X10_copy, cz_X10_copy, Nat.le_of_ble_eq_true rfl, Nat.le_of_ble_eq_true rfl⟩
theorem lk_RJ0_335 : Lk RJ0 335 (yn m_J0_coder_7d493) := Or.inl (tzc_2 220 (by decide +kernel) rfl)
theorem cz_J0_coder_7d493 : (yn m_J0_coder_7d493).cls ≠ "java/lang/invoke/MethodHandle" ∧ (yn m_J0_coder_7d493).cls ≠ "java/lang/invoke/VarHandle" ∧ (parseMethodDescriptor (yn m_J0_coder_7d493).desc).map (fun d => d.parameters.length) = some 0 := by decide +kernel
theorem cs_J0_length_8abf5_J0_coder_7d493 : Cs m_J0_length_8abf5 m_J0_coder_7d493 0 := ⟨cw_J0_coder_7d493, in_J0_coder_7d493, cz_J0_coder_7d493, Nat.le_of_ble_eq_true rfl, Nat.le_of_ble_eq_true rfl⟩
theorem lk_RJ0_492 : Lk RJ0 492 (yn m_J0_isLatin1_aae02) := Or.inl (tzc_2 230 (by decide +kernel) rfl)
theorem cz_J0_isLatin1_aae02 : (yn m_J0_isLatin1_aae02).cls ≠ "java/lang/invoke/MethodHandle" ∧ (yn m_J0_isLatin1_aae02).cls ≠ "java/lang/invoke/VarHandle" ∧ (parseMethodDescriptor (yn m_J0_isLatin1_aae02).desc).map (fun d => d.parameters.length) = some 0 := by decide +kernel
theorem cs_J0_charAt_5068e_J0_isLatin1_aae02 : Cs m_J0_charAt_5068e m_J0_isLatin1_aae02 0 := ⟨cw_J0_isLatin1_aae02, in_J0_isLatin1_aae02, cz_J0_isLatin1_aae02, Nat.le_of_ble_eq_true rfl, Nat.le_of_ble_eq_true rfl⟩
theorem lk_RJ0_495 : Lk RJ0 495 (yn m_J1_charAt_3b067) := Or.inl (tzc_2 234 (by decide +kernel) rfl)
theorem cz_J1_charAt_3b067 : (yn m_J1_charAt_3b067).cls ≠ "java/lang/invoke/MethodHandle" ∧ (yn m_J1_charAt_3b067).cls ≠ "java/lang/invoke/VarHandle" ∧ (parseMethodDescriptor (yn m_J1_charAt_3b067).desc).map (fun d => d.parameters.length) = some 2 := by decide +kernel
theorem cs_J0_charAt_5068e_J1_charAt_3b067 : Cs m_J0_charAt_5068e m_J1_charAt_3b067 2 := ⟨cw_J1_charAt_3b067, in_J1_charAt_3b067, cz_J1_charAt_3b067, Nat.le_of_ble_eq_true rfl, Nat.le_of_ble_eq_true rfl⟩
theorem lk_RJ0_1059 : Lk RJ0 1059 (yn m_J3_checkIndex_8e157) := Or.inl (tzc_3 2 (by decide +kernel) rfl)
theorem cz_J3_checkIndex_8e157 : (yn m_J3_checkIndex_8e157).cls ≠ "java/lang/invoke/MethodHandle" ∧ (yn m_J3_checkIndex_8e157).cls ≠ "java/lang/invoke/VarHandle" ∧ (parseMethodDescriptor (yn m_J3_checkIndex_8e157).desc).map (fun d => d.parameters.length) = some 3 := by decide +kernel
theorem cs_J0_checkIndex_df160_J3_checkIndex_8e157 : Cs m_J0_checkIndex_df160 m_J3_checkIndex_8e157 3 := ⟨cw_J3_checkIndex_8e157, in_J3_checkIndex_8e157, cz_J3_checkIndex_8e157, Nat.le_of_ble_eq_true rfl, Nat.le_of_ble_eq_true rfl⟩
theorem lk_RJ1_9 : Lk RJ1 9 (yn m_J0_checkIndex_df160) := Or.inl (tzc_2 237 (by decide +kernel) rfl)
theorem cz_J0_checkIndex_df160 : (yn m_J0_checkIndex_df160).cls ≠ "java/lang/invoke/MethodHandle" ∧ (yn m_J0_checkIndex_df160).cls ≠ "java/lang/invoke/VarHandle" ∧ (parseMethodDescriptor (yn m_J0_checkIndex_df160).desc).map (fun d => d.parameters.length) = some 2 := by decide +kernel
theorem cs_J1_charAt_3b067_J0_checkIndex_df160 : Cs m_J1_charAt_3b067 m_J0_checkIndex_df160 2 := ⟨cw_J0_checkIndex_df160, in_J0_checkIndex_df160, cz_J0_checkIndex_df160, Nat.le_of_ble_eq_true rfl, Nat.le_of_ble_eq_true rfl⟩
theorem lk_RL_9 : Lk RL 9 (yn m_X9_init) := Or.inl (tzc_1 22 (by decide +kernel) rfl)
theorem cz_X9_init : (yn m_X9_init).cls ≠ "java/lang/invoke/MethodHandle" ∧ (yn m_X9_init).cls ≠ "java/lang/invoke/VarHandle" ∧ (parseMethodDescriptor (yn m_X9_init).desc).map (fun d => d.parameters.length) = some 0 := by decide +kernel
theorem cs_L_law_X9_init : Cs m_L_law m_X9_init 0 := ⟨cw_X9_init, in_X9_init, cz_X9_init, Nat.le_of_ble_eq_true rfl, Nat.le_of_ble_eq_true rfl⟩
theorem lk_RL_12 : Lk RL 12 (yn m_X10_init) := Or.inl (tzc_5 124 (by decide +kernel) rfl)
theorem cz_X10_init : (yn m_X10_init).cls ≠ "java/lang/invoke/MethodHandle" ∧ (yn m_X10_init).cls ≠ "java/lang/invoke/VarHandle" ∧ (parseMethodDescriptor (yn m_X10_init).desc).map (fun d => d.parameters.length) = some 0 := by decide +kernel
theorem cs_L_law_X10_init : Cs m_L_law m_X10_init 0 := ⟨cw_X10_init, in_X10_init, cz_X10_init, Nat.le_of_ble_eq_true rfl, Nat.le_of_ble_eq_true rfl⟩
theorem lk_RL_15 : Lk RL 15 (yn m_X9_feed) := Or.inl (tzc_2 152 (by decide +kernel) rfl)
theorem cz_X9_feed : (yn m_X9_feed).cls ≠ "java/lang/invoke/MethodHandle" ∧ (yn m_X9_feed).cls ≠ "java/lang/invoke/VarHandle" ∧ (parseMethodDescriptor (yn m_X9_feed).desc).map (fun d => d.parameters.length) = some 2 := by decide +kernel
theorem cs_L_law_X9_feed : Cs m_L_law m_X9_feed 2 := ⟨cw_X9_feed, in_X9_feed, cz_X9_feed, Nat.le_of_ble_eq_true rfl, Nat.le_of_ble_eq_true rfl⟩
theorem lk_RL_19 : Lk RL 19 (yn m_X10_feed) := Or.inl (tzc_5 231 (by decide +kernel) rfl)
theorem cz_X10_feed : (yn m_X10_feed).cls ≠ "java/lang/invoke/MethodHandle" ∧ (yn m_X10_feed).cls ≠ "java/lang/invoke/VarHandle" ∧ (parseMethodDescriptor (yn m_X10_feed).desc).map (fun d => d.parameters.length) = some 2 := by decide +kernel
theorem cs_L_law_X10_feed : Cs m_L_law m_X10_feed 2 := ⟨cw_X10_feed, in_X10_feed, cz_X10_feed, Nat.le_of_ble_eq_true rfl, Nat.le_of_ble_eq_true rfl⟩
theorem lk_RL_20 : Lk RL 20 (yn m_X9_box) := Or.inl (tzc_2 163 (by decide +kernel) rfl)
theorem cz_X9_box : (yn m_X9_box).cls ≠ "java/lang/invoke/MethodHandle" ∧ (yn m_X9_box).cls ≠ "java/lang/invoke/VarHandle" ∧ (parseMethodDescriptor (yn m_X9_box).desc).map (fun d => d.parameters.length) = some 0 := by decide +kernel
theorem cs_L_law_X9_box : Cs m_L_law m_X9_box 0 := ⟨cw_X9_box, in_X9_box, cz_X9_box, Nat.le_of_ble_eq_true rfl, Nat.le_of_ble_eq_true rfl⟩
theorem lk_RL_24 : Lk RL 24 (yn m_X10_box) := Or.inl (tzc_6 2 (by decide +kernel) rfl)
theorem cz_X10_box : (yn m_X10_box).cls ≠ "java/lang/invoke/MethodHandle" ∧ (yn m_X10_box).cls ≠ "java/lang/invoke/VarHandle" ∧ (parseMethodDescriptor (yn m_X10_box).desc).map (fun d => d.parameters.length) = some 0 := by decide +kernel
theorem cs_L_law_X10_box : Cs m_L_law m_X10_box 0 := ⟨cw_X10_box, in_X10_box, cz_X10_box, Nat.le_of_ble_eq_true rfl, Nat.le_of_ble_eq_true rfl⟩
theorem lk_RL_25 : Lk RL 25 (yn m_X9_day) := Or.inl (tzc_3 57 (by decide +kernel) rfl)
theorem cz_X9_day : (yn m_X9_day).cls ≠ "java/lang/invoke/MethodHandle" ∧ (yn m_X9_day).cls ≠ "java/lang/invoke/VarHandle" ∧ (parseMethodDescriptor (yn m_X9_day).desc).map (fun d => d.parameters.length) = some 0 := by decide +kernel
theorem cs_L_law_X9_day : Cs m_L_law m_X9_day 0 := ⟨cw_X9_day, in_X9_day, cz_X9_day, Nat.le_of_ble_eq_true rfl, Nat.le_of_ble_eq_true rfl⟩
theorem lk_RL_28 : Lk RL 28 (yn m_X10_day) := Or.inl (tzc_6 71 (by decide +kernel) rfl)
theorem cz_X10_day : (yn m_X10_day).cls ≠ "java/lang/invoke/MethodHandle" ∧ (yn m_X10_day).cls ≠ "java/lang/invoke/VarHandle" ∧ (parseMethodDescriptor (yn m_X10_day).desc).map (fun d => d.parameters.length) = some 0 := by decide +kernel
theorem cs_L_law_X10_day : Cs m_L_law m_X10_day 0 := ⟨cw_X10_day, in_X10_day, cz_X10_day, Nat.le_of_ble_eq_true rfl, Nat.le_of_ble_eq_true rfl⟩
theorem lk_RL_29 : Lk RL 29 (yn m_X9_fault) := Or.inl (tzc_3 77 (by decide +kernel) rfl)
theorem cz_X9_fault : (yn m_X9_fault).cls ≠ "java/lang/invoke/MethodHandle" ∧ (yn m_X9_fault).cls ≠ "java/lang/invoke/VarHandle" ∧ (parseMethodDescriptor (yn m_X9_fault).desc).map (fun d => d.parameters.length) = some 0 := by decide +kernel
theorem cs_L_law_X9_fault : Cs m_L_law m_X9_fault 0 := ⟨cw_X9_fault, in_X9_fault, cz_X9_fault, Nat.le_of_ble_eq_true rfl, Nat.le_of_ble_eq_true rfl⟩
theorem lk_RL_32 : Lk RL 32 (yn m_X10_fault) := Or.inl (tzc_6 75 (by decide +kernel) rfl)
theorem cz_X10_fault : (yn m_X10_fault).cls ≠ "java/lang/invoke/MethodHandle" ∧ (yn m_X10_fault).cls ≠ "java/lang/invoke/VarHandle" ∧ (parseMethodDescriptor (yn m_X10_fault).desc).map (fun d => d.parameters.length) = some 0 := by decide +kernel
theorem cs_L_law_X10_fault : Cs m_L_law m_X10_fault 0 := ⟨cw_X10_fault, in_X10_fault, cz_X10_fault, Nat.le_of_ble_eq_true rfl, Nat.le_of_ble_eq_true rfl⟩
theorem lk_RL_33 : Lk RL 33 (yn m_X9_told) := Or.inl (tzc_3 81 (by decide +kernel) rfl)
theorem cz_X9_told : (yn m_X9_told).cls ≠ "java/lang/invoke/MethodHandle" ∧ (yn m_X9_told).cls ≠ "java/lang/invoke/VarHandle" ∧ (parseMethodDescriptor (yn m_X9_told).desc).map (fun d => d.parameters.length) = some 1 := by decide +kernel
theorem cs_L_law_X9_told : Cs m_L_law m_X9_told 1 := ⟨cw_X9_told, in_X9_told, cz_X9_told, Nat.le_of_ble_eq_true rfl, Nat.le_of_ble_eq_true rfl⟩
theorem lk_RL_37 : Lk RL 37 (yn m_X10_told) := Or.inl (tzc_6 79 (by decide +kernel) rfl)
theorem cz_X10_told : (yn m_X10_told).cls ≠ "java/lang/invoke/MethodHandle" ∧ (yn m_X10_told).cls ≠ "java/lang/invoke/VarHandle" ∧ (parseMethodDescriptor (yn m_X10_told).desc).map (fun d => d.parameters.length) = some 1 := by decide +kernel
theorem cs_L_law_X10_told : Cs m_L_law m_X10_told 1 := ⟨cw_X10_told, in_X10_told, cz_X10_told, Nat.le_of_ble_eq_true rfl, Nat.le_of_ble_eq_true rfl⟩
theorem lk_RL_38 : Lk RL 38 (yn m_X9_opening) := Or.inl (tzc_3 85 (by decide +kernel) rfl)
theorem cz_X9_opening : (yn m_X9_opening).cls ≠ "java/lang/invoke/MethodHandle" ∧ (yn m_X9_opening).cls ≠ "java/lang/invoke/VarHandle" ∧ (parseMethodDescriptor (yn m_X9_opening).desc).map (fun d => d.parameters.length) = some 2 := by decide +kernel
theorem cs_L_law_X9_opening : Cs m_L_law m_X9_opening 2 := ⟨cw_X9_opening, in_X9_opening, cz_X9_opening, Nat.le_of_ble_eq_true rfl, Nat.le_of_ble_eq_true rfl⟩
theorem lk_RL_42 : Lk RL 42 (yn m_X10_opening) := Or.inl (tzc_6 84 (by decide +kernel) rfl)
theorem cz_X10_opening : (yn m_X10_opening).cls ≠ "java/lang/invoke/MethodHandle" ∧ (yn m_X10_opening).cls ≠ "java/lang/invoke/VarHandle" ∧ (parseMethodDescriptor (yn m_X10_opening).desc).map (fun d => d.parameters.length) = some 2 := by decide +kernel
theorem cs_L_law_X10_opening : Cs m_L_law m_X10_opening 2 := ⟨cw_X10_opening, in_X10_opening, cz_X10_opening, Nat.le_of_ble_eq_true rfl, Nat.le_of_ble_eq_true rfl⟩
theorem lk_RL_43 : Lk RL 43 (yn m_X9_trouble) := Or.inl (tzc_3 89 (by decide +kernel) rfl)
theorem cz_X9_trouble : (yn m_X9_trouble).cls ≠ "java/lang/invoke/MethodHandle" ∧ (yn m_X9_trouble).cls ≠ "java/lang/invoke/VarHandle" ∧ (parseMethodDescriptor (yn m_X9_trouble).desc).map (fun d => d.parameters.length) = some 1 := by decide +kernel
theorem cs_L_law_X9_trouble : Cs m_L_law m_X9_trouble 1 := ⟨cw_X9_trouble, in_X9_trouble, cz_X9_trouble, Nat.le_of_ble_eq_true rfl, Nat.le_of_ble_eq_true rfl⟩
theorem lk_RL_46 : Lk RL 46 (yn m_X10_trouble) := Or.inl (tzc_6 88 (by decide +kernel) rfl)
theorem cz_X10_trouble : (yn m_X10_trouble).cls ≠ "java/lang/invoke/MethodHandle" ∧ (yn m_X10_trouble).cls ≠ "java/lang/invoke/VarHandle" ∧ (parseMethodDescriptor (yn m_X10_trouble).desc).map (fun d => d.parameters.length) = some 1 := by decide +kernel
theorem cs_L_law_X10_trouble : Cs m_L_law m_X10_trouble 1 := ⟨cw_X10_trouble, in_X10_trouble, cz_X10_trouble, Nat.le_of_ble_eq_true rfl, Nat.le_of_ble_eq_true rfl⟩
theorem lk_RL_47 : Lk RL 47 (yn m_X9_fresh) := Or.inl (tzc_3 98 (by decide +kernel) rfl)
theorem cz_X9_fresh : (yn m_X9_fresh).cls ≠ "java/lang/invoke/MethodHandle" ∧ (yn m_X9_fresh).cls ≠ "java/lang/invoke/VarHandle" ∧ (parseMethodDescriptor (yn m_X9_fresh).desc).map (fun d => d.parameters.length) = some 0 := by decide +kernel
theorem cs_L_law_X9_fresh : Cs m_L_law m_X9_fresh 0 := ⟨cw_X9_fresh, in_X9_fresh, cz_X9_fresh, Nat.le_of_ble_eq_true rfl, Nat.le_of_ble_eq_true rfl⟩
theorem lk_RL_50 : Lk RL 50 (yn m_X10_fresh) := Or.inl (tzc_6 97 (by decide +kernel) rfl)
theorem cz_X10_fresh : (yn m_X10_fresh).cls ≠ "java/lang/invoke/MethodHandle" ∧ (yn m_X10_fresh).cls ≠ "java/lang/invoke/VarHandle" ∧ (parseMethodDescriptor (yn m_X10_fresh).desc).map (fun d => d.parameters.length) = some 0 := by decide +kernel
theorem cs_L_law_X10_fresh : Cs m_L_law m_X10_fresh 0 := ⟨cw_X10_fresh, in_X10_fresh, cz_X10_fresh, Nat.le_of_ble_eq_true rfl, Nat.le_of_ble_eq_true rfl⟩
theorem lk_RL_51 : Lk RL 51 (yn m_X9_current) := Or.inl (tzc_3 102 (by decide +kernel) rfl)
theorem cz_X9_current : (yn m_X9_current).cls ≠ "java/lang/invoke/MethodHandle" ∧ (yn m_X9_current).cls ≠ "java/lang/invoke/VarHandle" ∧ (parseMethodDescriptor (yn m_X9_current).desc).map (fun d => d.parameters.length) = some 1 := by decide +kernel
theorem cs_L_law_X9_current : Cs m_L_law m_X9_current 1 := ⟨cw_X9_current, in_X9_current, cz_X9_current, Nat.le_of_ble_eq_true rfl, Nat.le_of_ble_eq_true rfl⟩
theorem lk_RL_55 : Lk RL 55 (yn m_X10_current) := Or.inl (tzc_6 101 (by decide +kernel) rfl)
theorem cz_X10_current : (yn m_X10_current).cls ≠ "java/lang/invoke/MethodHandle" ∧ (yn m_X10_current).cls ≠ "java/lang/invoke/VarHandle" ∧ (parseMethodDescriptor (yn m_X10_current).desc).map (fun d => d.parameters.length) = some 1 := by decide +kernel
theorem cs_L_law_X10_current : Cs m_L_law m_X10_current 1 := ⟨cw_X10_current, in_X10_current, cz_X10_current, Nat.le_of_ble_eq_true rfl, Nat.le_of_ble_eq_true rfl⟩
theorem lk_RL_56 : Lk RL 56 (yn m_X9_cover) := Or.inl (tzc_3 106 (by decide +kernel) rfl)
theorem cz_X9_cover : (yn m_X9_cover).cls ≠ "java/lang/invoke/MethodHandle" ∧ (yn m_X9_cover).cls ≠ "java/lang/invoke/VarHandle" ∧ (parseMethodDescriptor (yn m_X9_cover).desc).map (fun d => d.parameters.length) = some 1 := by decide +kernel
theorem cs_L_law_X9_cover : Cs m_L_law m_X9_cover 1 := ⟨cw_X9_cover, in_X9_cover, cz_X9_cover, Nat.le_of_ble_eq_true rfl, Nat.le_of_ble_eq_true rfl⟩
theorem lk_RL_59 : Lk RL 59 (yn m_X10_cover) := Or.inl (tzc_6 108 (by decide +kernel) rfl)
theorem cz_X10_cover : (yn m_X10_cover).cls ≠ "java/lang/invoke/MethodHandle" ∧ (yn m_X10_cover).cls ≠ "java/lang/invoke/VarHandle" ∧ (parseMethodDescriptor (yn m_X10_cover).desc).map (fun d => d.parameters.length) = some 1 := by decide +kernel
theorem cs_L_law_X10_cover : Cs m_L_law m_X10_cover 1 := ⟨cw_X10_cover, in_X10_cover, cz_X10_cover, Nat.le_of_ble_eq_true rfl, Nat.le_of_ble_eq_true rfl⟩
theorem lk_RL_60 : Lk RL 60 (yn m_X9_put) := Or.inl (tzc_3 110 (by decide +kernel) rfl)
theorem cz_X9_put : (yn m_X9_put).cls ≠ "java/lang/invoke/MethodHandle" ∧ (yn m_X9_put).cls ≠ "java/lang/invoke/VarHandle" ∧ (parseMethodDescriptor (yn m_X9_put).desc).map (fun d => d.parameters.length) = some 5 := by decide +kernel
theorem cs_L_law_X9_put : Cs m_L_law m_X9_put 5 := ⟨cw_X9_put, in_X9_put, cz_X9_put, Nat.le_of_ble_eq_true rfl, Nat.le_of_ble_eq_true rfl⟩
theorem lk_RL_64 : Lk RL 64 (yn m_X10_put) := Or.inl (tzc_6 112 (by decide +kernel) rfl)
theorem cz_X10_put : (yn m_X10_put).cls ≠ "java/lang/invoke/MethodHandle" ∧ (yn m_X10_put).cls ≠ "java/lang/invoke/VarHandle" ∧ (parseMethodDescriptor (yn m_X10_put).desc).map (fun d => d.parameters.length) = some 5 := by decide +kernel
theorem cs_L_law_X10_put : Cs m_L_law m_X10_put 5 := ⟨cw_X10_put, in_X10_put, cz_X10_put, Nat.le_of_ble_eq_true rfl, Nat.le_of_ble_eq_true rfl⟩
theorem lk_RL_65 : Lk RL 65 (yn m_X9_take) := Or.inl (tzc_3 128 (by decide +kernel) rfl)
theorem cz_X9_take : (yn m_X9_take).cls ≠ "java/lang/invoke/MethodHandle" ∧ (yn m_X9_take).cls ≠ "java/lang/invoke/VarHandle" ∧ (parseMethodDescriptor (yn m_X9_take).desc).map (fun d => d.parameters.length) = some 1 := by decide +kernel
theorem cs_L_law_X9_take : Cs m_L_law m_X9_take 1 := ⟨cw_X9_take, in_X9_take, cz_X9_take, Nat.le_of_ble_eq_true rfl, Nat.le_of_ble_eq_true rfl⟩
theorem lk_RL_68 : Lk RL 68 (yn m_X10_take) := Or.inl (tzc_6 126 (by decide +kernel) rfl)
theorem cz_X10_take : (yn m_X10_take).cls ≠ "java/lang/invoke/MethodHandle" ∧ (yn m_X10_take).cls ≠ "java/lang/invoke/VarHandle" ∧ (parseMethodDescriptor (yn m_X10_take).desc).map (fun d => d.parameters.length) = some 1 := by decide +kernel
theorem cs_L_law_X10_take : Cs m_L_law m_X10_take 1 := ⟨cw_X10_take, in_X10_take, cz_X10_take, Nat.le_of_ble_eq_true rfl, Nat.le_of_ble_eq_true rfl⟩
theorem lk_RL_69 : Lk RL 69 (yn m_X9_lay) := Or.inl (tzc_3 144 (by decide +kernel) rfl)
theorem cz_X9_lay : (yn m_X9_lay).cls ≠ "java/lang/invoke/MethodHandle" ∧ (yn m_X9_lay).cls ≠ "java/lang/invoke/VarHandle" ∧ (parseMethodDescriptor (yn m_X9_lay).desc).map (fun d => d.parameters.length) = some 2 := by decide +kernel
theorem cs_L_law_X9_lay : Cs m_L_law m_X9_lay 2 := ⟨cw_X9_lay, in_X9_lay, cz_X9_lay, Nat.le_of_ble_eq_true rfl, Nat.le_of_ble_eq_true rfl⟩
theorem lk_RL_72 : Lk RL 72 (yn m_X10_lay) := Or.inl (tzc_6 145 (by decide +kernel) rfl)
theorem cz_X10_lay : (yn m_X10_lay).cls ≠ "java/lang/invoke/MethodHandle" ∧ (yn m_X10_lay).cls ≠ "java/lang/invoke/VarHandle" ∧ (parseMethodDescriptor (yn m_X10_lay).desc).map (fun d => d.parameters.length) = some 2 := by decide +kernel
theorem cs_L_law_X10_lay : Cs m_L_law m_X10_lay 2 := ⟨cw_X10_lay, in_X10_lay, cz_X10_lay, Nat.le_of_ble_eq_true rfl, Nat.le_of_ble_eq_true rfl⟩
theorem lk_RL_73 : Lk RL 73 (yn m_X9_food) := Or.inl (tzc_3 148 (by decide +kernel) rfl)
theorem cz_X9_food : (yn m_X9_food).cls ≠ "java/lang/invoke/MethodHandle" ∧ (yn m_X9_food).cls ≠ "java/lang/invoke/VarHandle" ∧ (parseMethodDescriptor (yn m_X9_food).desc).map (fun d => d.parameters.length) = some 2 := by decide +kernel
theorem cs_L_law_X9_food : Cs m_L_law m_X9_food 2 := ⟨cw_X9_food, in_X9_food, cz_X9_food, Nat.le_of_ble_eq_true rfl, Nat.le_of_ble_eq_true rfl⟩
theorem lk_RL_76 : Lk RL 76 (yn m_X10_food) := Or.inl (tzc_6 149 (by decide +kernel) rfl)
theorem cz_X10_food : (yn m_X10_food).cls ≠ "java/lang/invoke/MethodHandle" ∧ (yn m_X10_food).cls ≠ "java/lang/invoke/VarHandle" ∧ (parseMethodDescriptor (yn m_X10_food).desc).map (fun d => d.parameters.length) = some 2 := by decide +kernel
theorem cs_L_law_X10_food : Cs m_L_law m_X10_food 2 := ⟨cw_X10_food, in_X10_food, cz_X10_food, Nat.le_of_ble_eq_true rfl, Nat.le_of_ble_eq_true rfl⟩
theorem lk_RL_77 : Lk RL 77 (yn m_X9_run) := Or.inl (tzc_3 157 (by decide +kernel) rfl)
theorem cz_X9_run : (yn m_X9_run).cls ≠ "java/lang/invoke/MethodHandle" ∧ (yn m_X9_run).cls ≠ "java/lang/invoke/VarHandle" ∧ (parseMethodDescriptor (yn m_X9_run).desc).map (fun d => d.parameters.length) = some 1 := by decide +kernel
theorem cs_L_law_X9_run : Cs m_L_law m_X9_run 1 := ⟨cw_X9_run, in_X9_run, cz_X9_run, Nat.le_of_ble_eq_true rfl, Nat.le_of_ble_eq_true rfl⟩
theorem lk_RL_80 : Lk RL 80 (yn m_X10_run) := Or.inl (tzc_6 157 (by decide +kernel) rfl)
theorem cz_X10_run : (yn m_X10_run).cls ≠ "java/lang/invoke/MethodHandle" ∧ (yn m_X10_run).cls ≠ "java/lang/invoke/VarHandle" ∧ (parseMethodDescriptor (yn m_X10_run).desc).map (fun d => d.parameters.length) = some 1 := by decide +kernel
theorem cs_L_law_X10_run : Cs m_L_law m_X10_run 1 := ⟨cw_X10_run, in_X10_run, cz_X10_run, Nat.le_of_ble_eq_true rfl, Nat.le_of_ble_eq_true rfl⟩
theorem lk_RL_81 : Lk RL 81 (yn m_X9_drawn) := Or.inl (tzc_3 229 (by decide +kernel) rfl)
theorem cz_X9_drawn : (yn m_X9_drawn).cls ≠ "java/lang/invoke/MethodHandle" ∧ (yn m_X9_drawn).cls ≠ "java/lang/invoke/VarHandle" ∧ (parseMethodDescriptor (yn m_X9_drawn).desc).map (fun d => d.parameters.length) = some 2 := by decide +kernel
theorem cs_L_law_X9_drawn : Cs m_L_law m_X9_drawn 2 := ⟨cw_X9_drawn, in_X9_drawn, cz_X9_drawn, Nat.le_of_ble_eq_true rfl, Nat.le_of_ble_eq_true rfl⟩
theorem lk_RL_84 : Lk RL 84 (yn m_X10_drawn) := Or.inl (tzc_6 205 (by decide +kernel) rfl)
theorem cz_X10_drawn : (yn m_X10_drawn).cls ≠ "java/lang/invoke/MethodHandle" ∧ (yn m_X10_drawn).cls ≠ "java/lang/invoke/VarHandle" ∧ (parseMethodDescriptor (yn m_X10_drawn).desc).map (fun d => d.parameters.length) = some 2 := by decide +kernel
theorem cs_L_law_X10_drawn : Cs m_L_law m_X10_drawn 2 := ⟨cw_X10_drawn, in_X10_drawn, cz_X10_drawn, Nat.le_of_ble_eq_true rfl, Nat.le_of_ble_eq_true rfl⟩
theorem lk_RL_85 : Lk RL 85 (yn m_X9_warmth) := Or.inl (tzc_4 7 (by decide +kernel) rfl)
theorem cz_X9_warmth : (yn m_X9_warmth).cls ≠ "java/lang/invoke/MethodHandle" ∧ (yn m_X9_warmth).cls ≠ "java/lang/invoke/VarHandle" ∧ (parseMethodDescriptor (yn m_X9_warmth).desc).map (fun d => d.parameters.length) = some 1 := by decide +kernel
theorem cs_L_law_X9_warmth : Cs m_L_law m_X9_warmth 1 := ⟨cw_X9_warmth, in_X9_warmth, cz_X9_warmth, Nat.le_of_ble_eq_true rfl, Nat.le_of_ble_eq_true rfl⟩
theorem lk_RL_88 : Lk RL 88 (yn m_X10_warmth) := Or.inl (tzc_6 221 (by decide +kernel) rfl)
theorem cz_X10_warmth : (yn m_X10_warmth).cls ≠ "java/lang/invoke/MethodHandle" ∧ (yn m_X10_warmth).cls ≠ "java/lang/invoke/VarHandle" ∧ (parseMethodDescriptor (yn m_X10_warmth).desc).map (fun d => d.parameters.length) = some 1 := by decide +kernel
theorem cs_L_law_X10_warmth : Cs m_L_law m_X10_warmth 1 := ⟨cw_X10_warmth, in_X10_warmth, cz_X10_warmth, Nat.le_of_ble_eq_true rfl, Nat.le_of_ble_eq_true rfl⟩
theorem lk_RL_89 : Lk RL 89 (yn m_X9_heat) := Or.inl (tzc_4 11 (by decide +kernel) rfl)
theorem cz_X9_heat : (yn m_X9_heat).cls ≠ "java/lang/invoke/MethodHandle" ∧ (yn m_X9_heat).cls ≠ "java/lang/invoke/VarHandle" ∧ (parseMethodDescriptor (yn m_X9_heat).desc).map (fun d => d.parameters.length) = some 1 := by decide +kernel
theorem cs_L_law_X9_heat : Cs m_L_law m_X9_heat 1 := ⟨cw_X9_heat, in_X9_heat, cz_X9_heat, Nat.le_of_ble_eq_true rfl, Nat.le_of_ble_eq_true rfl⟩
theorem lk_RL_93 : Lk RL 93 (yn m_X10_heat) := Or.inl (tzc_6 226 (by decide +kernel) rfl)
theorem cz_X10_heat : (yn m_X10_heat).cls ≠ "java/lang/invoke/MethodHandle" ∧ (yn m_X10_heat).cls ≠ "java/lang/invoke/VarHandle" ∧ (parseMethodDescriptor (yn m_X10_heat).desc).map (fun d => d.parameters.length) = some 1 := by decide +kernel
theorem cs_L_law_X10_heat : Cs m_L_law m_X10_heat 1 := ⟨cw_X10_heat, in_X10_heat, cz_X10_heat, Nat.le_of_ble_eq_true rfl, Nat.le_of_ble_eq_true rfl⟩
theorem lk_RL_94 : Lk RL 94 (yn m_X9_count) := Or.inl (tzc_4 20 (by decide +kernel) rfl)
theorem cz_X9_count : (yn m_X9_count).cls ≠ "java/lang/invoke/MethodHandle" ∧ (yn m_X9_count).cls ≠ "java/lang/invoke/VarHandle" ∧ (parseMethodDescriptor (yn m_X9_count).desc).map (fun d => d.parameters.length) = some 1 := by decide +kernel
theorem cs_L_law_X9_count : Cs m_L_law m_X9_count 1 := ⟨cw_X9_count, in_X9_count, cz_X9_count, Nat.le_of_ble_eq_true rfl, Nat.le_of_ble_eq_true rfl⟩
theorem lk_RL_97 : Lk RL 97 (yn m_X10_count) := Or.inl (tzc_6 231 (by decide +kernel) rfl)
theorem cz_X10_count : (yn m_X10_count).cls ≠ "java/lang/invoke/MethodHandle" ∧ (yn m_X10_count).cls ≠ "java/lang/invoke/VarHandle" ∧ (parseMethodDescriptor (yn m_X10_count).desc).map (fun d => d.parameters.length) = some 1 := by decide +kernel
theorem cs_L_law_X10_count : Cs m_L_law m_X10_count 1 := ⟨cw_X10_count, in_X10_count, cz_X10_count, Nat.le_of_ble_eq_true rfl, Nat.le_of_ble_eq_true rfl⟩
theorem lk_RL_98 : Lk RL 98 (yn m_X9_thaw) := Or.inl (tzc_4 28 (by decide +kernel) rfl)
theorem cz_X9_thaw : (yn m_X9_thaw).cls ≠ "java/lang/invoke/MethodHandle" ∧ (yn m_X9_thaw).cls ≠ "java/lang/invoke/VarHandle" ∧ (parseMethodDescriptor (yn m_X9_thaw).desc).map (fun d => d.parameters.length) = some 0 := by decide +kernel
theorem cs_L_law_X9_thaw : Cs m_L_law m_X9_thaw 0 := ⟨cw_X9_thaw, in_X9_thaw, cz_X9_thaw, Nat.le_of_ble_eq_true rfl, Nat.le_of_ble_eq_true rfl⟩
theorem lk_RL_101 : Lk RL 101 (yn m_X10_thaw) := Or.inl (tzc_6 239 (by decide +kernel) rfl)
theorem cz_X10_thaw : (yn m_X10_thaw).cls ≠ "java/lang/invoke/MethodHandle" ∧ (yn m_X10_thaw).cls ≠ "java/lang/invoke/VarHandle" ∧ (parseMethodDescriptor (yn m_X10_thaw).desc).map (fun d => d.parameters.length) = some 0 := by decide +kernel
theorem cs_L_law_X10_thaw : Cs m_L_law m_X10_thaw 0 := ⟨cw_X10_thaw, in_X10_thaw, cz_X10_thaw, Nat.le_of_ble_eq_true rfl, Nat.le_of_ble_eq_true rfl⟩
theorem lk_RL_102 : Lk RL 102 (yn m_X9_sign) := Or.inl (tzc_4 37 (by decide +kernel) rfl)
theorem cz_X9_sign : (yn m_X9_sign).cls ≠ "java/lang/invoke/MethodHandle" ∧ (yn m_X9_sign).cls ≠ "java/lang/invoke/VarHandle" ∧ (parseMethodDescriptor (yn m_X9_sign).desc).map (fun d => d.parameters.length) = some 3 := by decide +kernel
theorem cs_L_law_X9_sign : Cs m_L_law m_X9_sign 3 := ⟨cw_X9_sign, in_X9_sign, cz_X9_sign, Nat.le_of_ble_eq_true rfl, Nat.le_of_ble_eq_true rfl⟩
theorem lk_RL_106 : Lk RL 106 (yn m_X10_sign) := Or.inl (tzc_7 7 (by decide +kernel) rfl)
theorem cz_X10_sign : (yn m_X10_sign).cls ≠ "java/lang/invoke/MethodHandle" ∧ (yn m_X10_sign).cls ≠ "java/lang/invoke/VarHandle" ∧ (parseMethodDescriptor (yn m_X10_sign).desc).map (fun d => d.parameters.length) = some 3 := by decide +kernel
theorem cs_L_law_X10_sign : Cs m_L_law m_X10_sign 3 := ⟨cw_X10_sign, in_X10_sign, cz_X10_sign, Nat.le_of_ble_eq_true rfl, Nat.le_of_ble_eq_true rfl⟩
theorem lk_RL_107 : Lk RL 107 (yn m_X9_seen) := Or.inl (tzc_4 68 (by decide +kernel) rfl)
theorem cz_X9_seen : (yn m_X9_seen).cls ≠ "java/lang/invoke/MethodHandle" ∧ (yn m_X9_seen).cls ≠ "java/lang/invoke/VarHandle" ∧ (parseMethodDescriptor (yn m_X9_seen).desc).map (fun d => d.parameters.length) = some 3 := by decide +kernel
theorem cs_L_law_X9_seen : Cs m_L_law m_X9_seen 3 := ⟨cw_X9_seen, in_X9_seen, cz_X9_seen, Nat.le_of_ble_eq_true rfl, Nat.le_of_ble_eq_true rfl⟩
theorem lk_RL_110 : Lk RL 110 (yn m_X10_seen) := Or.inl (tzc_7 30 (by decide +kernel) rfl)
theorem cz_X10_seen : (yn m_X10_seen).cls ≠ "java/lang/invoke/MethodHandle" ∧ (yn m_X10_seen).cls ≠ "java/lang/invoke/VarHandle" ∧ (parseMethodDescriptor (yn m_X10_seen).desc).map (fun d => d.parameters.length) = some 3 := by decide +kernel
theorem cs_L_law_X10_seen : Cs m_L_law m_X10_seen 3 := ⟨cw_X10_seen, in_X10_seen, cz_X10_seen, Nat.le_of_ble_eq_true rfl, Nat.le_of_ble_eq_true rfl⟩
theorem lk_RL_111 : Lk RL 111 (yn m_X9_forget) := Or.inl (tzc_4 78 (by decide +kernel) rfl)
theorem cz_X9_forget : (yn m_X9_forget).cls ≠ "java/lang/invoke/MethodHandle" ∧ (yn m_X9_forget).cls ≠ "java/lang/invoke/VarHandle" ∧ (parseMethodDescriptor (yn m_X9_forget).desc).map (fun d => d.parameters.length) = some 0 := by decide +kernel
theorem cs_L_law_X9_forget : Cs m_L_law m_X9_forget 0 := ⟨cw_X9_forget, in_X9_forget, cz_X9_forget, Nat.le_of_ble_eq_true rfl, Nat.le_of_ble_eq_true rfl⟩
theorem lk_RL_114 : Lk RL 114 (yn m_X10_forget) := Or.inl (tzc_7 41 (by decide +kernel) rfl)
theorem cz_X10_forget : (yn m_X10_forget).cls ≠ "java/lang/invoke/MethodHandle" ∧ (yn m_X10_forget).cls ≠ "java/lang/invoke/VarHandle" ∧ (parseMethodDescriptor (yn m_X10_forget).desc).map (fun d => d.parameters.length) = some 0 := by decide +kernel
theorem cs_L_law_X10_forget : Cs m_L_law m_X10_forget 0 := ⟨cw_X10_forget, in_X10_forget, cz_X10_forget, Nat.le_of_ble_eq_true rfl, Nat.le_of_ble_eq_true rfl⟩
theorem lk_RL_115 : Lk RL 115 (yn m_X9_prior) := Or.inl (tzc_4 82 (by decide +kernel) rfl)
theorem cz_X9_prior : (yn m_X9_prior).cls ≠ "java/lang/invoke/MethodHandle" ∧ (yn m_X9_prior).cls ≠ "java/lang/invoke/VarHandle" ∧ (parseMethodDescriptor (yn m_X9_prior).desc).map (fun d => d.parameters.length) = some 2 := by decide +kernel
theorem cs_L_law_X9_prior : Cs m_L_law m_X9_prior 2 := ⟨cw_X9_prior, in_X9_prior, cz_X9_prior, Nat.le_of_ble_eq_true rfl, Nat.le_of_ble_eq_true rfl⟩
theorem lk_RL_118 : Lk RL 118 (yn m_X10_prior) := Or.inl (tzc_7 45 (by decide +kernel) rfl)
theorem cz_X10_prior : (yn m_X10_prior).cls ≠ "java/lang/invoke/MethodHandle" ∧ (yn m_X10_prior).cls ≠ "java/lang/invoke/VarHandle" ∧ (parseMethodDescriptor (yn m_X10_prior).desc).map (fun d => d.parameters.length) = some 2 := by decide +kernel
theorem cs_L_law_X10_prior : Cs m_L_law m_X10_prior 2 := ⟨cw_X10_prior, in_X10_prior, cz_X10_prior, Nat.le_of_ble_eq_true rfl, Nat.le_of_ble_eq_true rfl⟩
theorem lk_RL_119 : Lk RL 119 (yn m_X9_bother) := Or.inl (tzc_4 89 (by decide +kernel) rfl)
theorem cz_X9_bother : (yn m_X9_bother).cls ≠ "java/lang/invoke/MethodHandle" ∧ (yn m_X9_bother).cls ≠ "java/lang/invoke/VarHandle" ∧ (parseMethodDescriptor (yn m_X9_bother).desc).map (fun d => d.parameters.length) = some 2 := by decide +kernel
theorem cs_L_law_X9_bother : Cs m_L_law m_X9_bother 2 := ⟨cw_X9_bother, in_X9_bother, cz_X9_bother, Nat.le_of_ble_eq_true rfl, Nat.le_of_ble_eq_true rfl⟩
theorem lk_RL_122 : Lk RL 122 (yn m_X10_bother) := Or.inl (tzc_7 52 (by decide +kernel) rfl)
theorem cz_X10_bother : (yn m_X10_bother).cls ≠ "java/lang/invoke/MethodHandle" ∧ (yn m_X10_bother).cls ≠ "java/lang/invoke/VarHandle" ∧ (parseMethodDescriptor (yn m_X10_bother).desc).map (fun d => d.parameters.length) = some 2 := by decide +kernel
theorem cs_L_law_X10_bother : Cs m_L_law m_X10_bother 2 := ⟨cw_X10_bother, in_X10_bother, cz_X10_bother, Nat.le_of_ble_eq_true rfl, Nat.le_of_ble_eq_true rfl⟩
theorem lk_RL_123 : Lk RL 123 (yn m_X9_odds) := Or.inl (tzc_4 93 (by decide +kernel) rfl)
theorem cz_X9_odds : (yn m_X9_odds).cls ≠ "java/lang/invoke/MethodHandle" ∧ (yn m_X9_odds).cls ≠ "java/lang/invoke/VarHandle" ∧ (parseMethodDescriptor (yn m_X9_odds).desc).map (fun d => d.parameters.length) = some 2 := by decide +kernel
theorem cs_L_law_X9_odds : Cs m_L_law m_X9_odds 2 := ⟨cw_X9_odds, in_X9_odds, cz_X9_odds, Nat.le_of_ble_eq_true rfl, Nat.le_of_ble_eq_true rfl⟩
theorem lk_RL_126 : Lk RL 126 (yn m_X10_odds) := Or.inl (tzc_7 56 (by decide +kernel) rfl)
theorem cz_X10_odds : (yn m_X10_odds).cls ≠ "java/lang/invoke/MethodHandle" ∧ (yn m_X10_odds).cls ≠ "java/lang/invoke/VarHandle" ∧ (parseMethodDescriptor (yn m_X10_odds).desc).map (fun d => d.parameters.length) = some 2 := by decide +kernel
theorem cs_L_law_X10_odds : Cs m_L_law m_X10_odds 2 := ⟨cw_X10_odds, in_X10_odds, cz_X10_odds, Nat.le_of_ble_eq_true rfl, Nat.le_of_ble_eq_true rfl⟩
theorem lk_RL_127 : Lk RL 127 (yn m_X9_each) := Or.inl (tzc_4 140 (by decide +kernel) rfl)
theorem cz_X9_each : (yn m_X9_each).cls ≠ "java/lang/invoke/MethodHandle" ∧ (yn m_X9_each).cls ≠ "java/lang/invoke/VarHandle" ∧ (parseMethodDescriptor (yn m_X9_each).desc).map (fun d => d.parameters.length) = some 2 := by decide +kernel
theorem cs_L_law_X9_each : Cs m_L_law m_X9_each 2 := ⟨cw_X9_each, in_X9_each, cz_X9_each, Nat.le_of_ble_eq_true rfl, Nat.le_of_ble_eq_true rfl⟩
theorem lk_RL_130 : Lk RL 130 (yn m_X10_each) := Or.inl (tzc_7 79 (by decide +kernel) rfl)
theorem cz_X10_each : (yn m_X10_each).cls ≠ "java/lang/invoke/MethodHandle" ∧ (yn m_X10_each).cls ≠ "java/lang/invoke/VarHandle" ∧ (parseMethodDescriptor (yn m_X10_each).desc).map (fun d => d.parameters.length) = some 2 := by decide +kernel
theorem cs_L_law_X10_each : Cs m_L_law m_X10_each 2 := ⟨cw_X10_each, in_X10_each, cz_X10_each, Nat.le_of_ble_eq_true rfl, Nat.le_of_ble_eq_true rfl⟩
theorem lk_RL_131 : Lk RL 131 (yn m_X9_tells) := Or.inl (tzc_4 148 (by decide +kernel) rfl)
theorem cz_X9_tells : (yn m_X9_tells).cls ≠ "java/lang/invoke/MethodHandle" ∧ (yn m_X9_tells).cls ≠ "java/lang/invoke/VarHandle" ∧ (parseMethodDescriptor (yn m_X9_tells).desc).map (fun d => d.parameters.length) = some 2 := by decide +kernel
theorem cs_L_law_X9_tells : Cs m_L_law m_X9_tells 2 := ⟨cw_X9_tells, in_X9_tells, cz_X9_tells, Nat.le_of_ble_eq_true rfl, Nat.le_of_ble_eq_true rfl⟩
theorem lk_RL_134 : Lk RL 134 (yn m_X10_tells) := Or.inl (tzc_7 83 (by decide +kernel) rfl)
theorem cz_X10_tells : (yn m_X10_tells).cls ≠ "java/lang/invoke/MethodHandle" ∧ (yn m_X10_tells).cls ≠ "java/lang/invoke/VarHandle" ∧ (parseMethodDescriptor (yn m_X10_tells).desc).map (fun d => d.parameters.length) = some 2 := by decide +kernel
theorem cs_L_law_X10_tells : Cs m_L_law m_X10_tells 2 := ⟨cw_X10_tells, in_X10_tells, cz_X10_tells, Nat.le_of_ble_eq_true rfl, Nat.le_of_ble_eq_true rfl⟩
theorem lk_RL_135 : Lk RL 135 (yn m_X9_next) := Or.inl (tzc_4 168 (by decide +kernel) rfl)
theorem cz_X9_next : (yn m_X9_next).cls ≠ "java/lang/invoke/MethodHandle" ∧ (yn m_X9_next).cls ≠ "java/lang/invoke/VarHandle" ∧ (parseMethodDescriptor (yn m_X9_next).desc).map (fun d => d.parameters.length) = some 1 := by decide +kernel
theorem cs_L_law_X9_next : Cs m_L_law m_X9_next 1 := ⟨cw_X9_next, in_X9_next, cz_X9_next, Nat.le_of_ble_eq_true rfl, Nat.le_of_ble_eq_true rfl⟩
theorem lk_RL_138 : Lk RL 138 (yn m_X10_next) := Or.inl (tzc_7 91 (by decide +kernel) rfl)
theorem cz_X10_next : (yn m_X10_next).cls ≠ "java/lang/invoke/MethodHandle" ∧ (yn m_X10_next).cls ≠ "java/lang/invoke/VarHandle" ∧ (parseMethodDescriptor (yn m_X10_next).desc).map (fun d => d.parameters.length) = some 1 := by decide +kernel
theorem cs_L_law_X10_next : Cs m_L_law m_X10_next 1 := ⟨cw_X10_next, in_X10_next, cz_X10_next, Nat.le_of_ble_eq_true rfl, Nat.le_of_ble_eq_true rfl⟩
theorem lk_RL_139 : Lk RL 139 (yn m_X9_makes) := Or.inl (tzc_4 176 (by decide +kernel) rfl)
theorem cz_X9_makes : (yn m_X9_makes).cls ≠ "java/lang/invoke/MethodHandle" ∧ (yn m_X9_makes).cls ≠ "java/lang/invoke/VarHandle" ∧ (parseMethodDescriptor (yn m_X9_makes).desc).map (fun d => d.parameters.length) = some 2 := by decide +kernel
theorem cs_L_law_X9_makes : Cs m_L_law m_X9_makes 2 := ⟨cw_X9_makes, in_X9_makes, cz_X9_makes, Nat.le_of_ble_eq_true rfl, Nat.le_of_ble_eq_true rfl⟩
theorem lk_RL_142 : Lk RL 142 (yn m_X10_makes) := Or.inl (tzc_7 95 (by decide +kernel) rfl)
theorem cz_X10_makes : (yn m_X10_makes).cls ≠ "java/lang/invoke/MethodHandle" ∧ (yn m_X10_makes).cls ≠ "java/lang/invoke/VarHandle" ∧ (parseMethodDescriptor (yn m_X10_makes).desc).map (fun d => d.parameters.length) = some 2 := by decide +kernel
theorem cs_L_law_X10_makes : Cs m_L_law m_X10_makes 2 := ⟨cw_X10_makes, in_X10_makes, cz_X10_makes, Nat.le_of_ble_eq_true rfl, Nat.le_of_ble_eq_true rfl⟩
theorem lk_RL_143 : Lk RL 143 (yn m_X9_mending) := Or.inl (tzc_4 184 (by decide +kernel) rfl)
theorem cz_X9_mending : (yn m_X9_mending).cls ≠ "java/lang/invoke/MethodHandle" ∧ (yn m_X9_mending).cls ≠ "java/lang/invoke/VarHandle" ∧ (parseMethodDescriptor (yn m_X9_mending).desc).map (fun d => d.parameters.length) = some 2 := by decide +kernel
theorem cs_L_law_X9_mending : Cs m_L_law m_X9_mending 2 := ⟨cw_X9_mending, in_X9_mending, cz_X9_mending, Nat.le_of_ble_eq_true rfl, Nat.le_of_ble_eq_true rfl⟩
theorem lk_RL_146 : Lk RL 146 (yn m_X10_mending) := Or.inl (tzc_7 99 (by decide +kernel) rfl)
theorem cz_X10_mending : (yn m_X10_mending).cls ≠ "java/lang/invoke/MethodHandle" ∧ (yn m_X10_mending).cls ≠ "java/lang/invoke/VarHandle" ∧ (parseMethodDescriptor (yn m_X10_mending).desc).map (fun d => d.parameters.length) = some 2 := by decide +kernel
theorem cs_L_law_X10_mending : Cs m_L_law m_X10_mending 2 := ⟨cw_X10_mending, in_X10_mending, cz_X10_mending, Nat.le_of_ble_eq_true rfl, Nat.le_of_ble_eq_true rfl⟩
theorem lk_RL_147 : Lk RL 147 (yn m_X9_price) := Or.inl (tzc_4 188 (by decide +kernel) rfl)
theorem cz_X9_price : (yn m_X9_price).cls ≠ "java/lang/invoke/MethodHandle" ∧ (yn m_X9_price).cls ≠ "java/lang/invoke/VarHandle" ∧ (parseMethodDescriptor (yn m_X9_price).desc).map (fun d => d.parameters.length) = some 1 := by decide +kernel
theorem cs_L_law_X9_price : Cs m_L_law m_X9_price 1 := ⟨cw_X9_price, in_X9_price, cz_X9_price, Nat.le_of_ble_eq_true rfl, Nat.le_of_ble_eq_true rfl⟩
theorem lk_RL_150 : Lk RL 150 (yn m_X10_price) := Or.inl (tzc_7 103 (by decide +kernel) rfl)
theorem cz_X10_price : (yn m_X10_price).cls ≠ "java/lang/invoke/MethodHandle" ∧ (yn m_X10_price).cls ≠ "java/lang/invoke/VarHandle" ∧ (parseMethodDescriptor (yn m_X10_price).desc).map (fun d => d.parameters.length) = some 1 := by decide +kernel
theorem cs_L_law_X10_price : Cs m_L_law m_X10_price 1 := ⟨cw_X10_price, in_X10_price, cz_X10_price, Nat.le_of_ble_eq_true rfl, Nat.le_of_ble_eq_true rfl⟩
theorem lk_RL_151 : Lk RL 151 (yn m_X9_year) := Or.inl (tzc_4 195 (by decide +kernel) rfl)
theorem cz_X9_year : (yn m_X9_year).cls ≠ "java/lang/invoke/MethodHandle" ∧ (yn m_X9_year).cls ≠ "java/lang/invoke/VarHandle" ∧ (parseMethodDescriptor (yn m_X9_year).desc).map (fun d => d.parameters.length) = some 1 := by decide +kernel
theorem cs_L_law_X9_year : Cs m_L_law m_X9_year 1 := ⟨cw_X9_year, in_X9_year, cz_X9_year, Nat.le_of_ble_eq_true rfl, Nat.le_of_ble_eq_true rfl⟩
theorem lk_RL_154 : Lk RL 154 (yn m_X10_year) := Or.inl (tzc_7 107 (by decide +kernel) rfl)
theorem cz_X10_year : (yn m_X10_year).cls ≠ "java/lang/invoke/MethodHandle" ∧ (yn m_X10_year).cls ≠ "java/lang/invoke/VarHandle" ∧ (parseMethodDescriptor (yn m_X10_year).desc).map (fun d => d.parameters.length) = some 1 := by decide +kernel
theorem cs_L_law_X10_year : Cs m_L_law m_X10_year 1 := ⟨cw_X10_year, in_X10_year, cz_X10_year, Nat.le_of_ble_eq_true rfl, Nat.le_of_ble_eq_true rfl⟩
theorem lk_RL_155 : Lk RL 155 (yn m_X9_saves) := Or.inl (tzc_4 210 (by decide +kernel) rfl)
theorem cz_X9_saves : (yn m_X9_saves).cls ≠ "java/lang/invoke/MethodHandle" ∧ (yn m_X9_saves).cls ≠ "java/lang/invoke/VarHandle" ∧ (parseMethodDescriptor (yn m_X9_saves).desc).map (fun d => d.parameters.length) = some 2 := by decide +kernel
theorem cs_L_law_X9_saves : Cs m_L_law m_X9_saves 2 := ⟨cw_X9_saves, in_X9_saves, cz_X9_saves, Nat.le_of_ble_eq_true rfl, Nat.le_of_ble_eq_true rfl⟩
theorem lk_RL_158 : Lk RL 158 (yn m_X10_saves) := Or.inl (tzc_7 116 (by decide +kernel) rfl)
theorem cz_X10_saves : (yn m_X10_saves).cls ≠ "java/lang/invoke/MethodHandle" ∧ (yn m_X10_saves).cls ≠ "java/lang/invoke/VarHandle" ∧ (parseMethodDescriptor (yn m_X10_saves).desc).map (fun d => d.parameters.length) = some 2 := by decide +kernel
theorem cs_L_law_X10_saves : Cs m_L_law m_X10_saves 2 := ⟨cw_X10_saves, in_X10_saves, cz_X10_saves, Nat.le_of_ble_eq_true rfl, Nat.le_of_ble_eq_true rfl⟩
theorem lk_RL_159 : Lk RL 159 (yn m_X9_best) := Or.inl (tzc_4 223 (by decide +kernel) rfl)
theorem cz_X9_best : (yn m_X9_best).cls ≠ "java/lang/invoke/MethodHandle" ∧ (yn m_X9_best).cls ≠ "java/lang/invoke/VarHandle" ∧ (parseMethodDescriptor (yn m_X9_best).desc).map (fun d => d.parameters.length) = some 3 := by decide +kernel
theorem cs_L_law_X9_best : Cs m_L_law m_X9_best 3 := ⟨cw_X9_best, in_X9_best, cz_X9_best, Nat.le_of_ble_eq_true rfl, Nat.le_of_ble_eq_true rfl⟩
theorem lk_RL_162 : Lk RL 162 (yn m_X10_best) := Or.inl (tzc_7 121 (by decide +kernel) rfl)
theorem cz_X10_best : (yn m_X10_best).cls ≠ "java/lang/invoke/MethodHandle" ∧ (yn m_X10_best).cls ≠ "java/lang/invoke/VarHandle" ∧ (parseMethodDescriptor (yn m_X10_best).desc).map (fun d => d.parameters.length) = some 3 := by decide +kernel
theorem cs_L_law_X10_best : Cs m_L_law m_X10_best 3 := ⟨cw_X10_best, in_X10_best, cz_X10_best, Nat.le_of_ble_eq_true rfl, Nat.le_of_ble_eq_true rfl⟩
theorem lk_RL_163 : Lk RL 163 (yn m_X9_pays) := Or.inl (tzc_5 3 (by decide +kernel) rfl)
theorem cz_X9_pays : (yn m_X9_pays).cls ≠ "java/lang/invoke/MethodHandle" ∧ (yn m_X9_pays).cls ≠ "java/lang/invoke/VarHandle" ∧ (parseMethodDescriptor (yn m_X9_pays).desc).map (fun d => d.parameters.length) = some 3 := by decide +kernel
theorem cs_L_law_X9_pays : Cs m_L_law m_X9_pays 3 := ⟨cw_X9_pays, in_X9_pays, cz_X9_pays, Nat.le_of_ble_eq_true rfl, Nat.le_of_ble_eq_true rfl⟩
theorem lk_RL_166 : Lk RL 166 (yn m_X10_pays) := Or.inl (tzc_7 125 (by decide +kernel) rfl)
theorem cz_X10_pays : (yn m_X10_pays).cls ≠ "java/lang/invoke/MethodHandle" ∧ (yn m_X10_pays).cls ≠ "java/lang/invoke/VarHandle" ∧ (parseMethodDescriptor (yn m_X10_pays).desc).map (fun d => d.parameters.length) = some 3 := by decide +kernel
theorem cs_L_law_X10_pays : Cs m_L_law m_X10_pays 3 := ⟨cw_X10_pays, in_X10_pays, cz_X10_pays, Nat.le_of_ble_eq_true rfl, Nat.le_of_ble_eq_true rfl⟩
theorem lk_RL_167 : Lk RL 167 (yn m_X9_ice) := Or.inl (tzc_5 11 (by decide +kernel) rfl)
theorem cz_X9_ice : (yn m_X9_ice).cls ≠ "java/lang/invoke/MethodHandle" ∧ (yn m_X9_ice).cls ≠ "java/lang/invoke/VarHandle" ∧ (parseMethodDescriptor (yn m_X9_ice).desc).map (fun d => d.parameters.length) = some 3 := by decide +kernel
theorem cs_L_law_X9_ice : Cs m_L_law m_X9_ice 3 := ⟨cw_X9_ice, in_X9_ice, cz_X9_ice, Nat.le_of_ble_eq_true rfl, Nat.le_of_ble_eq_true rfl⟩
theorem lk_RL_170 : Lk RL 170 (yn m_X10_ice) := Or.inl (tzc_7 129 (by decide +kernel) rfl)
theorem cz_X10_ice : (yn m_X10_ice).cls ≠ "java/lang/invoke/MethodHandle" ∧ (yn m_X10_ice).cls ≠ "java/lang/invoke/VarHandle" ∧ (parseMethodDescriptor (yn m_X10_ice).desc).map (fun d => d.parameters.length) = some 3 := by decide +kernel
theorem cs_L_law_X10_ice : Cs m_L_law m_X10_ice 3 := ⟨cw_X10_ice, in_X10_ice, cz_X10_ice, Nat.le_of_ble_eq_true rfl, Nat.le_of_ble_eq_true rfl⟩
theorem lk_RL_171 : Lk RL 171 (yn m_X9_lying) := Or.inl (tzc_5 24 (by decide +kernel) rfl)
theorem cz_X9_lying : (yn m_X9_lying).cls ≠ "java/lang/invoke/MethodHandle" ∧ (yn m_X9_lying).cls ≠ "java/lang/invoke/VarHandle" ∧ (parseMethodDescriptor (yn m_X9_lying).desc).map (fun d => d.parameters.length) = some 1 := by decide +kernel
theorem cs_L_law_X9_lying : Cs m_L_law m_X9_lying 1 := ⟨cw_X9_lying, in_X9_lying, cz_X9_lying, Nat.le_of_ble_eq_true rfl, Nat.le_of_ble_eq_true rfl⟩
theorem lk_RL_174 : Lk RL 174 (yn m_X10_lying) := Or.inl (tzc_7 137 (by decide +kernel) rfl)
theorem cz_X10_lying : (yn m_X10_lying).cls ≠ "java/lang/invoke/MethodHandle" ∧ (yn m_X10_lying).cls ≠ "java/lang/invoke/VarHandle" ∧ (parseMethodDescriptor (yn m_X10_lying).desc).map (fun d => d.parameters.length) = some 1 := by decide +kernel
theorem cs_L_law_X10_lying : Cs m_L_law m_X10_lying 1 := ⟨cw_X10_lying, in_X10_lying, cz_X10_lying, Nat.le_of_ble_eq_true rfl, Nat.le_of_ble_eq_true rfl⟩
theorem lk_RL_175 : Lk RL 175 (yn m_X9_bulb) := Or.inl (tzc_5 64 (by decide +kernel) rfl)
theorem cz_X9_bulb : (yn m_X9_bulb).cls ≠ "java/lang/invoke/MethodHandle" ∧ (yn m_X9_bulb).cls ≠ "java/lang/invoke/VarHandle" ∧ (parseMethodDescriptor (yn m_X9_bulb).desc).map (fun d => d.parameters.length) = some 1 := by decide +kernel
theorem cs_L_law_X9_bulb : Cs m_L_law m_X9_bulb 1 := ⟨cw_X9_bulb, in_X9_bulb, cz_X9_bulb, Nat.le_of_ble_eq_true rfl, Nat.le_of_ble_eq_true rfl⟩
theorem lk_RL_178 : Lk RL 178 (yn m_X10_bulb) := Or.inl (tzc_7 159 (by decide +kernel) rfl)
theorem cz_X10_bulb : (yn m_X10_bulb).cls ≠ "java/lang/invoke/MethodHandle" ∧ (yn m_X10_bulb).cls ≠ "java/lang/invoke/VarHandle" ∧ (parseMethodDescriptor (yn m_X10_bulb).desc).map (fun d => d.parameters.length) = some 1 := by decide +kernel
theorem cs_L_law_X10_bulb : Cs m_L_law m_X10_bulb 1 := ⟨cw_X10_bulb, in_X10_bulb, cz_X10_bulb, Nat.le_of_ble_eq_true rfl, Nat.le_of_ble_eq_true rfl⟩
theorem lk_RL_179 : Lk RL 179 (yn m_X9_without) := Or.inl (tzc_5 72 (by decide +kernel) rfl)
theorem cz_X9_without : (yn m_X9_without).cls ≠ "java/lang/invoke/MethodHandle" ∧ (yn m_X9_without).cls ≠ "java/lang/invoke/VarHandle" ∧ (parseMethodDescriptor (yn m_X9_without).desc).map (fun d => d.parameters.length) = some 1 := by decide +kernel
theorem cs_L_law_X9_without : Cs m_L_law m_X9_without 1 := ⟨cw_X9_without, in_X9_without, cz_X9_without, Nat.le_of_ble_eq_true rfl, Nat.le_of_ble_eq_true rfl⟩
theorem lk_RL_182 : Lk RL 182 (yn m_X10_without) := Or.inl (tzc_7 163 (by decide +kernel) rfl)
theorem cz_X10_without : (yn m_X10_without).cls ≠ "java/lang/invoke/MethodHandle" ∧ (yn m_X10_without).cls ≠ "java/lang/invoke/VarHandle" ∧ (parseMethodDescriptor (yn m_X10_without).desc).map (fun d => d.parameters.length) = some 1 := by decide +kernel
theorem cs_L_law_X10_without : Cs m_L_law m_X10_without 1 := ⟨cw_X10_without, in_X10_without, cz_X10_without, Nat.le_of_ble_eq_true rfl, Nat.le_of_ble_eq_true rfl⟩
theorem lk_RL_183 : Lk RL 183 (yn m_X9_cheap) := Or.inl (tzc_5 81 (by decide +kernel) rfl)
theorem cz_X9_cheap : (yn m_X9_cheap).cls ≠ "java/lang/invoke/MethodHandle" ∧ (yn m_X9_cheap).cls ≠ "java/lang/invoke/VarHandle" ∧ (parseMethodDescriptor (yn m_X9_cheap).desc).map (fun d => d.parameters.length) = some 3 := by decide +kernel
theorem cs_L_law_X9_cheap : Cs m_L_law m_X9_cheap 3 := ⟨cw_X9_cheap, in_X9_cheap, cz_X9_cheap, Nat.le_of_ble_eq_true rfl, Nat.le_of_ble_eq_true rfl⟩
theorem lk_RL_186 : Lk RL 186 (yn m_X10_cheap) := Or.inl (tzc_7 167 (by decide +kernel) rfl)
theorem cz_X10_cheap : (yn m_X10_cheap).cls ≠ "java/lang/invoke/MethodHandle" ∧ (yn m_X10_cheap).cls ≠ "java/lang/invoke/VarHandle" ∧ (parseMethodDescriptor (yn m_X10_cheap).desc).map (fun d => d.parameters.length) = some 3 := by decide +kernel
theorem cs_L_law_X10_cheap : Cs m_L_law m_X10_cheap 3 := ⟨cw_X10_cheap, in_X10_cheap, cz_X10_cheap, Nat.le_of_ble_eq_true rfl, Nat.le_of_ble_eq_true rfl⟩
theorem lk_RL_187 : Lk RL 187 (yn m_X9_store) := Or.inl (tzc_5 85 (by decide +kernel) rfl)
theorem cz_X9_store : (yn m_X9_store).cls ≠ "java/lang/invoke/MethodHandle" ∧ (yn m_X9_store).cls ≠ "java/lang/invoke/VarHandle" ∧ (parseMethodDescriptor (yn m_X9_store).desc).map (fun d => d.parameters.length) = some 2 := by decide +kernel
theorem cs_L_law_X9_store : Cs m_L_law m_X9_store 2 := ⟨cw_X9_store, in_X9_store, cz_X9_store, Nat.le_of_ble_eq_true rfl, Nat.le_of_ble_eq_true rfl⟩
theorem lk_RL_190 : Lk RL 190 (yn m_X10_store) := Or.inl (tzc_7 172 (by decide +kernel) rfl)
theorem cz_X10_store : (yn m_X10_store).cls ≠ "java/lang/invoke/MethodHandle" ∧ (yn m_X10_store).cls ≠ "java/lang/invoke/VarHandle" ∧ (parseMethodDescriptor (yn m_X10_store).desc).map (fun d => d.parameters.length) = some 2 := by decide +kernel
theorem cs_L_law_X10_store : Cs m_L_law m_X10_store 2 := ⟨cw_X10_store, in_X10_store, cz_X10_store, Nat.le_of_ble_eq_true rfl, Nat.le_of_ble_eq_true rfl⟩
theorem lk_RL_191 : Lk RL 191 (yn m_X9_seed) := Or.inl (tzc_5 105 (by decide +kernel) rfl)
theorem cz_X9_seed : (yn m_X9_seed).cls ≠ "java/lang/invoke/MethodHandle" ∧ (yn m_X9_seed).cls ≠ "java/lang/invoke/VarHandle" ∧ (parseMethodDescriptor (yn m_X9_seed).desc).map (fun d => d.parameters.length) = some 1 := by decide +kernel
theorem cs_L_law_X9_seed : Cs m_L_law m_X9_seed 1 := ⟨cw_X9_seed, in_X9_seed, cz_X9_seed, Nat.le_of_ble_eq_true rfl, Nat.le_of_ble_eq_true rfl⟩
theorem lk_RL_194 : Lk RL 194 (yn m_X10_seed) := Or.inl (tzc_7 181 (by decide +kernel) rfl)
theorem cz_X10_seed : (yn m_X10_seed).cls ≠ "java/lang/invoke/MethodHandle" ∧ (yn m_X10_seed).cls ≠ "java/lang/invoke/VarHandle" ∧ (parseMethodDescriptor (yn m_X10_seed).desc).map (fun d => d.parameters.length) = some 1 := by decide +kernel
theorem cs_L_law_X10_seed : Cs m_L_law m_X10_seed 1 := ⟨cw_X10_seed, in_X10_seed, cz_X10_seed, Nat.le_of_ble_eq_true rfl, Nat.le_of_ble_eq_true rfl⟩
theorem lk_RL_195 : Lk RL 195 (yn m_X9_keep) := Or.inl (tzc_5 109 (by decide +kernel) rfl)
theorem cz_X9_keep : (yn m_X9_keep).cls ≠ "java/lang/invoke/MethodHandle" ∧ (yn m_X9_keep).cls ≠ "java/lang/invoke/VarHandle" ∧ (parseMethodDescriptor (yn m_X9_keep).desc).map (fun d => d.parameters.length) = some 1 := by decide +kernel
theorem cs_L_law_X9_keep : Cs m_L_law m_X9_keep 1 := ⟨cw_X9_keep, in_X9_keep, cz_X9_keep, Nat.le_of_ble_eq_true rfl, Nat.le_of_ble_eq_true rfl⟩
theorem lk_RL_198 : Lk RL 198 (yn m_X10_keep) := Or.inl (tzc_7 185 (by decide +kernel) rfl)
theorem cz_X10_keep : (yn m_X10_keep).cls ≠ "java/lang/invoke/MethodHandle" ∧ (yn m_X10_keep).cls ≠ "java/lang/invoke/VarHandle" ∧ (parseMethodDescriptor (yn m_X10_keep).desc).map (fun d => d.parameters.length) = some 1 := by decide +kernel
theorem cs_L_law_X10_keep : Cs m_L_law m_X10_keep 1 := ⟨cw_X10_keep, in_X10_keep, cz_X10_keep, Nat.le_of_ble_eq_true rfl, Nat.le_of_ble_eq_true rfl⟩
theorem lk_RL_199 : Lk RL 199 (yn m_X9_goBack) := Or.inl (tzc_5 118 (by decide +kernel) rfl)
theorem cz_X9_goBack : (yn m_X9_goBack).cls ≠ "java/lang/invoke/MethodHandle" ∧ (yn m_X9_goBack).cls ≠ "java/lang/invoke/VarHandle" ∧ (parseMethodDescriptor (yn m_X9_goBack).desc).map (fun d => d.parameters.length) = some 1 := by decide +kernel
theorem cs_L_law_X9_goBack : Cs m_L_law m_X9_goBack 1 := ⟨cw_X9_goBack, in_X9_goBack, cz_X9_goBack, Nat.le_of_ble_eq_true rfl, Nat.le_of_ble_eq_true rfl⟩
theorem lk_RL_202 : Lk RL 202 (yn m_X10_goBack) := Or.inl (tzc_7 189 (by decide +kernel) rfl)
theorem cz_X10_goBack : (yn m_X10_goBack).cls ≠ "java/lang/invoke/MethodHandle" ∧ (yn m_X10_goBack).cls ≠ "java/lang/invoke/VarHandle" ∧ (parseMethodDescriptor (yn m_X10_goBack).desc).map (fun d => d.parameters.length) = some 1 := by decide +kernel
theorem cs_L_law_X10_goBack : Cs m_L_law m_X10_goBack 1 := ⟨cw_X10_goBack, in_X10_goBack, cz_X10_goBack, Nat.le_of_ble_eq_true rfl, Nat.le_of_ble_eq_true rfl⟩
theorem fq_RX5_9 : Fq RX5 9 5 0 (.array .char) true := ⟨RX5, TX5, 10, rfl, by decide, rfl, rfl, by decide +kernel, Or.inl (tzc_1 34 (by decide +kernel) rfl)⟩
theorem fq_RX5_33 : Fq RX5 33 5 1 .int false := ⟨RX5, TX5, 10, rfl, by decide, rfl, rfl, by decide +kernel, Or.inl (tzc_1 35 (by decide +kernel) rfl)⟩
theorem fq_RX9_105 : Fq RX9 105 5 1 .int false := ⟨RX5, TX5, 10, rfl, by decide, rfl, rfl, by decide +kernel, Or.inr ⟨"ColdBox", tzn_1 36 (by decide +kernel) rfl⟩⟩
theorem fq_RX5_53 : Fq RX5 53 5 2 .int false := ⟨RX5, TX5, 10, rfl, by decide, rfl, rfl, by decide +kernel, Or.inl (tzc_1 37 (by decide +kernel) rfl)⟩
theorem fq_RX9_113 : Fq RX9 113 5 3 .int false := ⟨RX5, TX5, 10, rfl, by decide, rfl, rfl, by decide +kernel, Or.inr ⟨"ColdBox", tzn_1 38 (by decide +kernel) rfl⟩⟩
theorem fq_RX5_50 : Fq RX5 50 5 3 .int false := ⟨RX5, TX5, 10, rfl, by decide, rfl, rfl, by decide +kernel, Or.inl (tzc_1 39 (by decide +kernel) rfl)⟩
theorem fq_RX5_15 : Fq RX5 15 5 4 .int false := ⟨RX5, TX5, 10, rfl, by decide, rfl, rfl, by decide +kernel, Or.inl (tzc_1 40 (by decide +kernel) rfl)⟩
theorem fq_RX9_142 : Fq RX9 142 5 4 .int false := ⟨RX5, TX5, 10, rfl, by decide, rfl, rfl, by decide +kernel, Or.inr ⟨"ColdBox", tzn_1 41 (by decide +kernel) rfl⟩⟩
theorem fq_RX9_127 : Fq RX9 127 5 5 .int false := ⟨RX5, TX5, 10, rfl, by decide, rfl, rfl, by decide +kernel, Or.inr ⟨"ColdBox", tzn_1 42 (by decide +kernel) rfl⟩⟩
theorem fq_RX5_69 : Fq RX5 69 5 5 .int false := ⟨RX5, TX5, 10, rfl, by decide, rfl, rfl, by decide +kernel, Or.inl (tzc_1 43 (by decide +kernel) rfl)⟩
theorem fq_RX5_19 : Fq RX5 19 5 6 (.array .boolean) true := ⟨RX5, TX5, 10, rfl, by decide, rfl, rfl, by decide +kernel, Or.inl (tzc_1 44 (by decide +kernel) rfl)⟩
theorem fq_RX5_23 : Fq RX5 23 5 7 (.array .int) true := ⟨RX5, TX5, 10, rfl, by decide, rfl, rfl, by decide +kernel, Or.inl (tzc_1 45 (by decide +kernel) rfl)⟩
theorem fq_RX9_116 : Fq RX9 116 5 7 (.array .int) true := ⟨RX5, TX5, 10, rfl, by decide, rfl, rfl, by decide +kernel, Or.inr ⟨"ColdBox", tzn_1 46 (by decide +kernel) rfl⟩⟩
theorem fq_RX5_27 : Fq RX5 27 5 8 (.array .int) true := ⟨RX5, TX5, 10, rfl, by decide, rfl, rfl, by decide +kernel, Or.inl (tzc_1 47 (by decide +kernel) rfl)⟩
theorem fq_RX9_133 : Fq RX9 133 5 8 (.array .int) true := ⟨RX5, TX5, 10, rfl, by decide, rfl, rfl, by decide +kernel, Or.inr ⟨"ColdBox", tzn_1 48 (by decide +kernel) rfl⟩⟩
theorem fq_RX5_30 : Fq RX5 30 5 9 (.array .int) true := ⟨RX5, TX5, 10, rfl, by decide, rfl, rfl, by decide +kernel, Or.inl (tzc_1 49 (by decide +kernel) rfl)⟩
theorem fq_RX9_136 : Fq RX9 136 5 9 (.array .int) true := ⟨RX5, TX5, 10, rfl, by decide, rfl, rfl, by decide +kernel, Or.inr ⟨"ColdBox", tzn_1 50 (by decide +kernel) rfl⟩⟩
theorem fq_RX0_9 : Fq RX0 9 0 0 (.array .int) true := ⟨RX0, TX0, 1, rfl, by decide, rfl, rfl, by decide +kernel, Or.inl (tzc_1 86 (by decide +kernel) rfl)⟩
theorem fq_RX7_60 : Fq RX7 60 0 0 (.array .int) true := ⟨RX0, TX0, 1, rfl, by decide, rfl, rfl, by decide +kernel, Or.inr ⟨"ColdBox", tzn_1 87 (by decide +kernel) rfl⟩⟩
theorem fq_RX9_145 : Fq RX9 145 0 0 (.array .int) true := ⟨RX0, TX0, 1, rfl, by decide, rfl, rfl, by decide +kernel, Or.inr ⟨"ColdBox", tzn_1 88 (by decide +kernel) rfl⟩⟩
theorem fq_RX1_73 : Fq RX1 73 0 0 (.array .int) true := ⟨RX0, TX0, 1, rfl, by decide, rfl, rfl, by decide +kernel, Or.inr ⟨"ColdBox", tzn_1 89 (by decide +kernel) rfl⟩⟩
theorem fq_RX8_124 : Fq RX8 124 0 0 (.array .int) true := ⟨RX0, TX0, 1, rfl, by decide, rfl, rfl, by decide +kernel, Or.inr ⟨"ColdBox", tzn_1 90 (by decide +kernel) rfl⟩⟩
theorem fq_RX3_22 : Fq RX3 22 3 0 .int false := ⟨RX3, TX3, 4, rfl, by decide, rfl, rfl, by decide +kernel, Or.inl (tzc_1 100 (by decide +kernel) rfl)⟩
theorem fq_RX9_146 : Fq RX9 146 3 0 .int false := ⟨RX3, TX3, 4, rfl, by decide, rfl, rfl, by decide +kernel, Or.inr ⟨"ColdBox", tzn_1 101 (by decide +kernel) rfl⟩⟩
theorem fq_RX3_9 : Fq RX3 9 3 1 (.array .int) true := ⟨RX3, TX3, 4, rfl, by decide, rfl, rfl, by decide +kernel, Or.inl (tzc_1 102 (by decide +kernel) rfl)⟩
theorem fq_RX9_149 : Fq RX9 149 3 1 (.array .int) true := ⟨RX3, TX3, 4, rfl, by decide, rfl, rfl, by decide +kernel, Or.inr ⟨"ColdBox", tzn_1 103 (by decide +kernel) rfl⟩⟩
theorem fq_RX3_15 : Fq RX3 15 3 2 (.array .int) true := ⟨RX3, TX3, 4, rfl, by decide, rfl, rfl, by decide +kernel, Or.inl (tzc_1 104 (by decide +kernel) rfl)⟩
theorem fq_RX9_150 : Fq RX9 150 3 2 (.array .int) true := ⟨RX3, TX3, 4, rfl, by decide, rfl, rfl, by decide +kernel, Or.inr ⟨"ColdBox", tzn_1 105 (by decide +kernel) rfl⟩⟩
theorem fq_RX3_18 : Fq RX3 18 3 3 (.array .boolean) true := ⟨RX3, TX3, 4, rfl, by decide, rfl, rfl, by decide +kernel, Or.inl (tzc_1 106 (by decide +kernel) rfl)⟩
theorem fq_RX7_19 : Fq RX7 19 7 0 (.object "ColdBox$Build") true := ⟨RX7, TX7, 4, rfl, by decide, rfl, rfl, by decide +kernel, Or.inl (tzc_1 122 (by decide +kernel) rfl)⟩
theorem fq_RX1_67 : Fq RX1 67 7 0 (.object "ColdBox$Build") true := ⟨RX7, TX7, 4, rfl, by decide, rfl, rfl, by decide +kernel, Or.inr ⟨"ColdBox", tzn_1 123 (by decide +kernel) rfl⟩⟩
theorem fq_RX8_120 : Fq RX8 120 7 0 (.object "ColdBox$Build") true := ⟨RX7, TX7, 4, rfl, by decide, rfl, rfl, by decide +kernel, Or.inr ⟨"ColdBox", tzn_1 124 (by decide +kernel) rfl⟩⟩
theorem fq_RX7_23 : Fq RX7 23 7 1 (.object "ColdBox$Openings") true := ⟨RX7, TX7, 4, rfl, by decide, rfl, rfl, by decide +kernel, Or.inl (tzc_1 125 (by decide +kernel) rfl)⟩
theorem fq_RX8_102 : Fq RX8 102 7 1 (.object "ColdBox$Openings") true := ⟨RX7, TX7, 4, rfl, by decide, rfl, rfl, by decide +kernel, Or.inr ⟨"ColdBox", tzn_1 126 (by decide +kernel) rfl⟩⟩
theorem fq_RX7_9 : Fq RX7 9 7 2 (.array .int) true := ⟨RX7, TX7, 4, rfl, by decide, rfl, rfl, by decide +kernel, Or.inl (tzc_1 127 (by decide +kernel) rfl)⟩
theorem fq_RX7_15 : Fq RX7 15 7 3 (.array .long) true := ⟨RX7, TX7, 4, rfl, by decide, rfl, rfl, by decide +kernel, Or.inl (tzc_1 128 (by decide +kernel) rfl)⟩
theorem fq_RX6_9 : Fq RX6 9 6 0 (.array .long) true := ⟨RX6, TX6, 14, rfl, by decide, rfl, rfl, by decide +kernel, Or.inl (tzc_1 145 (by decide +kernel) rfl)⟩
theorem fq_RX7_125 : Fq RX7 125 6 0 (.array .long) true := ⟨RX6, TX6, 14, rfl, by decide, rfl, rfl, by decide +kernel, Or.inr ⟨"ColdBox", tzn_1 146 (by decide +kernel) rfl⟩⟩
theorem fq_RX6_15 : Fq RX6 15 6 1 (.array .int) true := ⟨RX6, TX6, 14, rfl, by decide, rfl, rfl, by decide +kernel, Or.inl (tzc_1 147 (by decide +kernel) rfl)⟩
theorem fq_RX9_205 : Fq RX9 205 6 1 (.array .int) true := ⟨RX6, TX6, 14, rfl, by decide, rfl, rfl, by decide +kernel, Or.inr ⟨"ColdBox", tzn_1 148 (by decide +kernel) rfl⟩⟩
theorem fq_RX6_19 : Fq RX6 19 6 2 (.array .boolean) true := ⟨RX6, TX6, 14, rfl, by decide, rfl, rfl, by decide +kernel, Or.inl (tzc_1 149 (by decide +kernel) rfl)⟩
theorem fq_RX8_68 : Fq RX8 68 6 2 (.array .boolean) true := ⟨RX6, TX6, 14, rfl, by decide, rfl, rfl, by decide +kernel, Or.inr ⟨"ColdBox", tzn_1 150 (by decide +kernel) rfl⟩⟩
theorem fq_RX7_118 : Fq RX7 118 6 2 (.array .boolean) true := ⟨RX6, TX6, 14, rfl, by decide, rfl, rfl, by decide +kernel, Or.inr ⟨"ColdBox", tzn_1 151 (by decide +kernel) rfl⟩⟩
theorem fq_RX6_23 : Fq RX6 23 6 3 (.array .int) true := ⟨RX6, TX6, 14, rfl, by decide, rfl, rfl, by decide +kernel, Or.inl (tzc_1 152 (by decide +kernel) rfl)⟩
theorem fq_RX8_50 : Fq RX8 50 6 3 (.array .int) true := ⟨RX6, TX6, 14, rfl, by decide, rfl, rfl, by decide +kernel, Or.inr ⟨"ColdBox", tzn_1 153 (by decide +kernel) rfl⟩⟩
theorem fq_RX7_122 : Fq RX7 122 6 3 (.array .int) true := ⟨RX6, TX6, 14, rfl, by decide, rfl, rfl, by decide +kernel, Or.inr ⟨"ColdBox", tzn_1 154 (by decide +kernel) rfl⟩⟩
theorem fq_RX9_202 : Fq RX9 202 6 3 (.array .int) true := ⟨RX6, TX6, 14, rfl, by decide, rfl, rfl, by decide +kernel, Or.inr ⟨"ColdBox", tzn_1 155 (by decide +kernel) rfl⟩⟩
theorem fq_RX6_26 : Fq RX6 26 6 4 (.array .int) true := ⟨RX6, TX6, 14, rfl, by decide, rfl, rfl, by decide +kernel, Or.inl (tzc_1 156 (by decide +kernel) rfl)⟩
theorem fq_RX9_181 : Fq RX9 181 6 4 (.array .int) true := ⟨RX6, TX6, 14, rfl, by decide, rfl, rfl, by decide +kernel, Or.inr ⟨"ColdBox", tzn_1 157 (by decide +kernel) rfl⟩⟩
theorem fq_RX6_29 : Fq RX6 29 6 5 (.array .int) true := ⟨RX6, TX6, 14, rfl, by decide, rfl, rfl, by decide +kernel, Or.inl (tzc_1 158 (by decide +kernel) rfl)⟩
theorem fq_RX9_184 : Fq RX9 184 6 5 (.array .int) true := ⟨RX6, TX6, 14, rfl, by decide, rfl, rfl, by decide +kernel, Or.inr ⟨"ColdBox", tzn_1 159 (by decide +kernel) rfl⟩⟩
theorem fq_RX6_32 : Fq RX6 32 6 6 (.array .long) true := ⟨RX6, TX6, 14, rfl, by decide, rfl, rfl, by decide +kernel, Or.inl (tzc_1 160 (by decide +kernel) rfl)⟩
theorem fq_RX7_111 : Fq RX7 111 6 6 (.array .long) true := ⟨RX6, TX6, 14, rfl, by decide, rfl, rfl, by decide +kernel, Or.inr ⟨"ColdBox", tzn_1 161 (by decide +kernel) rfl⟩⟩
theorem fq_RX9_231 : Fq RX9 231 6 6 (.array .long) true := ⟨RX6, TX6, 14, rfl, by decide, rfl, rfl, by decide +kernel, Or.inr ⟨"ColdBox", tzn_1 162 (by decide +kernel) rfl⟩⟩
theorem fq_RX6_35 : Fq RX6 35 6 7 (.array .int) true := ⟨RX6, TX6, 14, rfl, by decide, rfl, rfl, by decide +kernel, Or.inl (tzc_1 163 (by decide +kernel) rfl)⟩
theorem fq_RX7_89 : Fq RX7 89 6 7 (.array .int) true := ⟨RX6, TX6, 14, rfl, by decide, rfl, rfl, by decide +kernel, Or.inr ⟨"ColdBox", tzn_1 164 (by decide +kernel) rfl⟩⟩
theorem fq_RX1_64 : Fq RX1 64 6 7 (.array .int) true := ⟨RX6, TX6, 14, rfl, by decide, rfl, rfl, by decide +kernel, Or.inr ⟨"ColdBox", tzn_1 165 (by decide +kernel) rfl⟩⟩
theorem fq_RX9_159 : Fq RX9 159 6 7 (.array .int) true := ⟨RX6, TX6, 14, rfl, by decide, rfl, rfl, by decide +kernel, Or.inr ⟨"ColdBox", tzn_1 166 (by decide +kernel) rfl⟩⟩
theorem fq_RX8_99 : Fq RX8 99 6 7 (.array .int) true := ⟨RX6, TX6, 14, rfl, by decide, rfl, rfl, by decide +kernel, Or.inr ⟨"ColdBox", tzn_1 167 (by decide +kernel) rfl⟩⟩
theorem fq_RX6_72 : Fq RX6 72 6 8 .int false := ⟨RX6, TX6, 14, rfl, by decide, rfl, rfl, by decide +kernel, Or.inl (tzc_1 168 (by decide +kernel) rfl)⟩
theorem fq_RX9_156 : Fq RX9 156 6 8 .int false := ⟨RX6, TX6, 14, rfl, by decide, rfl, rfl, by decide +kernel, Or.inr ⟨"ColdBox", tzn_1 169 (by decide +kernel) rfl⟩⟩
theorem fq_RX1_90 : Fq RX1 90 6 8 .int false := ⟨RX6, TX6, 14, rfl, by decide, rfl, rfl, by decide +kernel, Or.inr ⟨"ColdBox", tzn_1 170 (by decide +kernel) rfl⟩⟩
theorem fq_RX6_55 : Fq RX6 55 6 9 .int false := ⟨RX6, TX6, 14, rfl, by decide, rfl, rfl, by decide +kernel, Or.inl (tzc_1 171 (by decide +kernel) rfl)⟩
theorem fq_RX7_99 : Fq RX7 99 6 9 .int false := ⟨RX6, TX6, 14, rfl, by decide, rfl, rfl, by decide +kernel, Or.inr ⟨"ColdBox", tzn_1 172 (by decide +kernel) rfl⟩⟩
theorem fq_RX9_235 : Fq RX9 235 6 9 .int false := ⟨RX6, TX6, 14, rfl, by decide, rfl, rfl, by decide +kernel, Or.inr ⟨"ColdBox", tzn_1 173 (by decide +kernel) rfl⟩⟩
theorem fq_RX6_59 : Fq RX6 59 6 10 .boolean false := ⟨RX6, TX6, 14, rfl, by decide, rfl, rfl, by decide +kernel, Or.inl (tzc_1 174 (by decide +kernel) rfl)⟩
theorem fq_RX7_76 : Fq RX7 76 6 10 .boolean false := ⟨RX6, TX6, 14, rfl, by decide, rfl, rfl, by decide +kernel, Or.inr ⟨"ColdBox", tzn_1 175 (by decide +kernel) rfl⟩⟩
theorem fq_RX9_238 : Fq RX9 238 6 10 .boolean false := ⟨RX6, TX6, 14, rfl, by decide, rfl, rfl, by decide +kernel, Or.inr ⟨"ColdBox", tzn_1 176 (by decide +kernel) rfl⟩⟩
theorem fq_RX6_63 : Fq RX6 63 6 11 .boolean false := ⟨RX6, TX6, 14, rfl, by decide, rfl, rfl, by decide +kernel, Or.inl (tzc_1 177 (by decide +kernel) rfl)⟩
theorem fq_RX7_96 : Fq RX7 96 6 11 .boolean false := ⟨RX6, TX6, 14, rfl, by decide, rfl, rfl, by decide +kernel, Or.inr ⟨"ColdBox", tzn_1 178 (by decide +kernel) rfl⟩⟩
theorem fq_RX9_168 : Fq RX9 168 6 11 .boolean false := ⟨RX6, TX6, 14, rfl, by decide, rfl, rfl, by decide +kernel, Or.inr ⟨"ColdBox", tzn_1 179 (by decide +kernel) rfl⟩⟩
theorem fq_RX9_93 : Fq RX9 93 6 12 .boolean false := ⟨RX6, TX6, 14, rfl, by decide, rfl, rfl, by decide +kernel, Or.inr ⟨"ColdBox", tzn_1 180 (by decide +kernel) rfl⟩⟩
theorem fq_RX7_66 : Fq RX7 66 6 12 .boolean false := ⟨RX6, TX6, 14, rfl, by decide, rfl, rfl, by decide +kernel, Or.inr ⟨"ColdBox", tzn_1 181 (by decide +kernel) rfl⟩⟩
theorem fq_RX6_75 : Fq RX6 75 6 12 .boolean false := ⟨RX6, TX6, 14, rfl, by decide, rfl, rfl, by decide +kernel, Or.inl (tzc_1 182 (by decide +kernel) rfl)⟩
theorem fq_RX8_81 : Fq RX8 81 6 12 .boolean false := ⟨RX6, TX6, 14, rfl, by decide, rfl, rfl, by decide +kernel, Or.inr ⟨"ColdBox", tzn_1 183 (by decide +kernel) rfl⟩⟩
theorem fq_RX1_94 : Fq RX1 94 6 12 .boolean false := ⟨RX6, TX6, 14, rfl, by decide, rfl, rfl, by decide +kernel, Or.inr ⟨"ColdBox", tzn_1 184 (by decide +kernel) rfl⟩⟩
theorem fq_RX6_78 : Fq RX6 78 6 13 .int false := ⟨RX6, TX6, 14, rfl, by decide, rfl, rfl, by decide +kernel, Or.inl (tzc_1 185 (by decide +kernel) rfl)⟩
theorem fq_RX9_376 : Fq RX9 376 6 13 .int false := ⟨RX6, TX6, 14, rfl, by decide, rfl, rfl, by decide +kernel, Or.inr ⟨"ColdBox", tzn_1 186 (by decide +kernel) rfl⟩⟩
theorem fq_RX1_25 : Fq RX1 25 1 0 (.object "ColdBox$Ticker") true := ⟨RX1, TX1, 4, rfl, by decide, rfl, rfl, by decide +kernel, Or.inl (tzc_1 224 (by decide +kernel) rfl)⟩
theorem fq_RX1_12 : Fq RX1 12 1 1 (.object "ColdBox$State") true := ⟨RX1, TX1, 4, rfl, by decide, rfl, rfl, by decide +kernel, Or.inl (tzc_1 225 (by decide +kernel) rfl)⟩
theorem fq_RX1_18 : Fq RX1 18 1 2 (.array .int) true := ⟨RX1, TX1, 4, rfl, by decide, rfl, rfl, by decide +kernel, Or.inl (tzc_1 226 (by decide +kernel) rfl)⟩
theorem fq_RX1_22 : Fq RX1 22 1 3 (.array .int) true := ⟨RX1, TX1, 4, rfl, by decide, rfl, rfl, by decide +kernel, Or.inl (tzc_1 227 (by decide +kernel) rfl)⟩
theorem fq_RX2_38 : Fq RX2 38 2 0 (.object "ColdBox$FreshRuns") true := ⟨RX2, TX2, 8, rfl, by decide, rfl, rfl, by decide +kernel, Or.inl (tzc_2 8 (by decide +kernel) rfl)⟩
theorem fq_RX2_9 : Fq RX2 9 2 1 (.array .boolean) true := ⟨RX2, TX2, 8, rfl, by decide, rfl, rfl, by decide +kernel, Or.inl (tzc_2 9 (by decide +kernel) rfl)⟩
theorem fq_RX9_263 : Fq RX9 263 2 1 (.array .boolean) true := ⟨RX2, TX2, 8, rfl, by decide, rfl, rfl, by decide +kernel, Or.inr ⟨"ColdBox", tzn_2 10 (by decide +kernel) rfl⟩⟩
theorem fq_RX2_15 : Fq RX2 15 2 2 (.array .int) true := ⟨RX2, TX2, 8, rfl, by decide, rfl, rfl, by decide +kernel, Or.inl (tzc_2 11 (by decide +kernel) rfl)⟩
theorem fq_RX9_266 : Fq RX9 266 2 2 (.array .int) true := ⟨RX2, TX2, 8, rfl, by decide, rfl, rfl, by decide +kernel, Or.inr ⟨"ColdBox", tzn_2 12 (by decide +kernel) rfl⟩⟩
theorem fq_RX2_19 : Fq RX2 19 2 3 (.array .int) true := ⟨RX2, TX2, 8, rfl, by decide, rfl, rfl, by decide +kernel, Or.inl (tzc_2 13 (by decide +kernel) rfl)⟩
theorem fq_RX9_269 : Fq RX9 269 2 3 (.array .int) true := ⟨RX2, TX2, 8, rfl, by decide, rfl, rfl, by decide +kernel, Or.inr ⟨"ColdBox", tzn_2 14 (by decide +kernel) rfl⟩⟩
theorem fq_RX2_22 : Fq RX2 22 2 4 (.array .int) true := ⟨RX2, TX2, 8, rfl, by decide, rfl, rfl, by decide +kernel, Or.inl (tzc_2 15 (by decide +kernel) rfl)⟩
theorem fq_RX9_278 : Fq RX9 278 2 4 (.array .int) true := ⟨RX2, TX2, 8, rfl, by decide, rfl, rfl, by decide +kernel, Or.inr ⟨"ColdBox", tzn_2 16 (by decide +kernel) rfl⟩⟩
theorem fq_RX2_25 : Fq RX2 25 2 5 (.array .int) true := ⟨RX2, TX2, 8, rfl, by decide, rfl, rfl, by decide +kernel, Or.inl (tzc_2 17 (by decide +kernel) rfl)⟩
theorem fq_RX9_281 : Fq RX9 281 2 5 (.array .int) true := ⟨RX2, TX2, 8, rfl, by decide, rfl, rfl, by decide +kernel, Or.inr ⟨"ColdBox", tzn_2 18 (by decide +kernel) rfl⟩⟩
theorem fq_RX2_31 : Fq RX2 31 2 6 (.array .long) true := ⟨RX2, TX2, 8, rfl, by decide, rfl, rfl, by decide +kernel, Or.inl (tzc_2 19 (by decide +kernel) rfl)⟩
theorem fq_RX2_35 : Fq RX2 35 2 7 (.array .int) true := ⟨RX2, TX2, 8, rfl, by decide, rfl, rfl, by decide +kernel, Or.inl (tzc_2 20 (by decide +kernel) rfl)⟩
theorem fq_RX4_19 : Fq RX4 19 4 0 (.object "ColdBox$FreshRuns") true := ⟨RX4, TX4, 3, rfl, by decide, rfl, rfl, by decide +kernel, Or.inl (tzc_2 45 (by decide +kernel) rfl)⟩
theorem fq_RX4_9 : Fq RX4 9 4 1 (.array .int) true := ⟨RX4, TX4, 3, rfl, by decide, rfl, rfl, by decide +kernel, Or.inl (tzc_2 46 (by decide +kernel) rfl)⟩
theorem fq_RX9_308 : Fq RX9 308 4 1 (.array .int) true := ⟨RX4, TX4, 3, rfl, by decide, rfl, rfl, by decide +kernel, Or.inr ⟨"ColdBox", tzn_2 47 (by decide +kernel) rfl⟩⟩
theorem fq_RX4_15 : Fq RX4 15 4 2 .int false := ⟨RX4, TX4, 3, rfl, by decide, rfl, rfl, by decide +kernel, Or.inl (tzc_2 48 (by decide +kernel) rfl)⟩
theorem fq_RX9_314 : Fq RX9 314 4 2 .int false := ⟨RX4, TX4, 3, rfl, by decide, rfl, rfl, by decide +kernel, Or.inr ⟨"ColdBox", tzn_2 49 (by decide +kernel) rfl⟩⟩
theorem fq_RX8_29 : Fq RX8 29 8 0 (.object "ColdBox$Ticker") true := ⟨RX8, TX8, 9, rfl, by decide, rfl, rfl, by decide +kernel, Or.inl (tzc_2 65 (by decide +kernel) rfl)⟩
theorem fq_RX8_33 : Fq RX8 33 8 1 (.object "ColdBox$State") true := ⟨RX8, TX8, 9, rfl, by decide, rfl, rfl, by decide +kernel, Or.inl (tzc_2 66 (by decide +kernel) rfl)⟩
theorem fq_RX8_12 : Fq RX8 12 8 2 (.object "ColdBox$State") true := ⟨RX8, TX8, 9, rfl, by decide, rfl, rfl, by decide +kernel, Or.inl (tzc_2 67 (by decide +kernel) rfl)⟩
theorem fq_RX8_18 : Fq RX8 18 8 3 (.array .int) true := ⟨RX8, TX8, 9, rfl, by decide, rfl, rfl, by decide +kernel, Or.inl (tzc_2 68 (by decide +kernel) rfl)⟩
theorem fq_RX8_22 : Fq RX8 22 8 4 .int false := ⟨RX8, TX8, 9, rfl, by decide, rfl, rfl, by decide +kernel, Or.inl (tzc_2 69 (by decide +kernel) rfl)⟩
theorem fq_RX9_364 : Fq RX9 364 8 4 .int false := ⟨RX8, TX8, 9, rfl, by decide, rfl, rfl, by decide +kernel, Or.inr ⟨"ColdBox", tzn_2 70 (by decide +kernel) rfl⟩⟩
theorem fq_RX8_26 : Fq RX8 26 8 5 .int false := ⟨RX8, TX8, 9, rfl, by decide, rfl, rfl, by decide +kernel, Or.inl (tzc_2 71 (by decide +kernel) rfl)⟩
theorem fq_RX9_367 : Fq RX9 367 8 5 .int false := ⟨RX8, TX8, 9, rfl, by decide, rfl, rfl, by decide +kernel, Or.inr ⟨"ColdBox", tzn_2 72 (by decide +kernel) rfl⟩⟩
theorem fq_RX8_115 : Fq RX8 115 8 6 .int false := ⟨RX8, TX8, 9, rfl, by decide, rfl, rfl, by decide +kernel, Or.inl (tzc_2 73 (by decide +kernel) rfl)⟩
theorem fq_RX9_370 : Fq RX9 370 8 6 .int false := ⟨RX8, TX8, 9, rfl, by decide, rfl, rfl, by decide +kernel, Or.inr ⟨"ColdBox", tzn_2 74 (by decide +kernel) rfl⟩⟩
theorem fq_RX8_40 : Fq RX8 40 8 7 .int false := ⟨RX8, TX8, 9, rfl, by decide, rfl, rfl, by decide +kernel, Or.inl (tzc_2 75 (by decide +kernel) rfl)⟩
theorem fq_RX9_358 : Fq RX9 358 8 7 .int false := ⟨RX8, TX8, 9, rfl, by decide, rfl, rfl, by decide +kernel, Or.inr ⟨"ColdBox", tzn_2 76 (by decide +kernel) rfl⟩⟩
theorem fq_RX8_43 : Fq RX8 43 8 8 .int false := ⟨RX8, TX8, 9, rfl, by decide, rfl, rfl, by decide +kernel, Or.inl (tzc_2 77 (by decide +kernel) rfl)⟩
theorem fq_RX9_349 : Fq RX9 349 8 8 .int false := ⟨RX8, TX8, 9, rfl, by decide, rfl, rfl, by decide +kernel, Or.inr ⟨"ColdBox", tzn_2 78 (by decide +kernel) rfl⟩⟩
theorem fq_RX9_10 : Fq RX9 10 9 0 (.object "ColdBox$Reader") true := ⟨RX9, TX9, 13, rfl, by decide, rfl, rfl, by decide +kernel, Or.inl (tzc_2 112 (by decide +kernel) rfl)⟩
theorem fq_RX9_19 : Fq RX9 19 9 1 (.object "ColdBox$Build") true := ⟨RX9, TX9, 13, rfl, by decide, rfl, rfl, by decide +kernel, Or.inl (tzc_2 113 (by decide +kernel) rfl)⟩
theorem fq_RX9_26 : Fq RX9 26 9 2 (.object "ColdBox$Openings") true := ⟨RX9, TX9, 13, rfl, by decide, rfl, rfl, by decide +kernel, Or.inl (tzc_2 114 (by decide +kernel) rfl)⟩
theorem fq_RX9_35 : Fq RX9 35 9 3 (.object "ColdBox$Ticker") true := ⟨RX9, TX9, 13, rfl, by decide, rfl, rfl, by decide +kernel, Or.inl (tzc_2 115 (by decide +kernel) rfl)⟩
theorem fq_RX9_42 : Fq RX9 42 9 4 (.object "ColdBox$State") true := ⟨RX9, TX9, 13, rfl, by decide, rfl, rfl, by decide +kernel, Or.inl (tzc_2 116 (by decide +kernel) rfl)⟩
theorem fq_RX9_46 : Fq RX9 46 9 5 (.object "ColdBox$State") true := ⟨RX9, TX9, 13, rfl, by decide, rfl, rfl, by decide +kernel, Or.inl (tzc_2 117 (by decide +kernel) rfl)⟩
theorem fq_RX9_49 : Fq RX9 49 9 6 (.object "ColdBox$State") true := ⟨RX9, TX9, 13, rfl, by decide, rfl, rfl, by decide +kernel, Or.inl (tzc_2 118 (by decide +kernel) rfl)⟩
theorem fq_RX9_52 : Fq RX9 52 9 7 (.array .boolean) true := ⟨RX9, TX9, 13, rfl, by decide, rfl, rfl, by decide +kernel, Or.inl (tzc_2 119 (by decide +kernel) rfl)⟩
theorem fq_RX9_56 : Fq RX9 56 9 8 (.array .boolean) true := ⟨RX9, TX9, 13, rfl, by decide, rfl, rfl, by decide +kernel, Or.inl (tzc_2 120 (by decide +kernel) rfl)⟩
theorem fq_RX9_64 : Fq RX9 64 9 9 (.object "ColdBox$FreshRuns") true := ⟨RX9, TX9, 13, rfl, by decide, rfl, rfl, by decide +kernel, Or.inl (tzc_2 121 (by decide +kernel) rfl)⟩
theorem fq_RX9_73 : Fq RX9 73 9 10 (.object "ColdBox$Guess") true := ⟨RX9, TX9, 13, rfl, by decide, rfl, rfl, by decide +kernel, Or.inl (tzc_2 122 (by decide +kernel) rfl)⟩
theorem fq_RX9_80 : Fq RX9 80 9 11 (.object "ColdBox$Purse") true := ⟨RX9, TX9, 13, rfl, by decide, rfl, rfl, by decide +kernel, Or.inl (tzc_2 123 (by decide +kernel) rfl)⟩
theorem fq_RX9_89 : Fq RX9 89 9 12 (.object "ColdBox$Trials") true := ⟨RX9, TX9, 13, rfl, by decide, rfl, rfl, by decide +kernel, Or.inl (tzc_2 124 (by decide +kernel) rfl)⟩
theorem fq_RX10_7 : Fq RX10 7 10 0 (.array .long) true := ⟨RX10, TX10, 34, rfl, by decide, rfl, rfl, by decide +kernel, Or.inl (tzc_5 128 (by decide +kernel) rfl)⟩
theorem fq_RX10_13 : Fq RX10 13 10 1 (.array .boolean) true := ⟨RX10, TX10, 34, rfl, by decide, rfl, rfl, by decide +kernel, Or.inl (tzc_5 129 (by decide +kernel) rfl)⟩
theorem fq_RX10_76 : Fq RX10 76 10 2 .boolean false := ⟨RX10, TX10, 34, rfl, by decide, rfl, rfl, by decide +kernel, Or.inl (tzc_5 130 (by decide +kernel) rfl)⟩
theorem fq_RX10_17 : Fq RX10 17 10 3 (.array .int) true := ⟨RX10, TX10, 34, rfl, by decide, rfl, rfl, by decide +kernel, Or.inl (tzc_5 131 (by decide +kernel) rfl)⟩
theorem fq_RX10_21 : Fq RX10 21 10 4 (.array .int) true := ⟨RX10, TX10, 34, rfl, by decide, rfl, rfl, by decide +kernel, Or.inl (tzc_5 132 (by decide +kernel) rfl)⟩
theorem fq_RX10_175 : Fq RX10 175 10 5 .int false := ⟨RX10, TX10, 34, rfl, by decide, rfl, rfl, by decide +kernel, Or.inl (tzc_5 133 (by decide +kernel) rfl)⟩
theorem fq_RX10_24 : Fq RX10 24 10 6 (.array .int) true := ⟨RX10, TX10, 34, rfl, by decide, rfl, rfl, by decide +kernel, Or.inl (tzc_5 134 (by decide +kernel) rfl)⟩
theorem fq_RX10_27 : Fq RX10 27 10 7 (.array .int) true := ⟨RX10, TX10, 34, rfl, by decide, rfl, rfl, by decide +kernel, Or.inl (tzc_5 135 (by decide +kernel) rfl)⟩
theorem fq_RX10_30 : Fq RX10 30 10 8 (.array .int) true := ⟨RX10, TX10, 34, rfl, by decide, rfl, rfl, by decide +kernel, Or.inl (tzc_5 136 (by decide +kernel) rfl)⟩
theorem fq_RX10_33 : Fq RX10 33 10 9 (.array .int) true := ⟨RX10, TX10, 34, rfl, by decide, rfl, rfl, by decide +kernel, Or.inl (tzc_5 137 (by decide +kernel) rfl)⟩
theorem fq_RX10_36 : Fq RX10 36 10 10 (.array .int) true := ⟨RX10, TX10, 34, rfl, by decide, rfl, rfl, by decide +kernel, Or.inl (tzc_5 138 (by decide +kernel) rfl)⟩
theorem fq_RX10_101 : Fq RX10 101 10 11 .int false := ⟨RX10, TX10, 34, rfl, by decide, rfl, rfl, by decide +kernel, Or.inl (tzc_5 139 (by decide +kernel) rfl)⟩
theorem fq_RX10_107 : Fq RX10 107 10 12 .int false := ⟨RX10, TX10, 34, rfl, by decide, rfl, rfl, by decide +kernel, Or.inl (tzc_5 140 (by decide +kernel) rfl)⟩
theorem fq_RX10_117 : Fq RX10 117 10 13 .int false := ⟨RX10, TX10, 34, rfl, by decide, rfl, rfl, by decide +kernel, Or.inl (tzc_5 141 (by decide +kernel) rfl)⟩
theorem fq_RX10_124 : Fq RX10 124 10 14 .int false := ⟨RX10, TX10, 34, rfl, by decide, rfl, rfl, by decide +kernel, Or.inl (tzc_5 142 (by decide +kernel) rfl)⟩
theorem fq_RX10_110 : Fq RX10 110 10 15 .int false := ⟨RX10, TX10, 34, rfl, by decide, rfl, rfl, by decide +kernel, Or.inl (tzc_5 143 (by decide +kernel) rfl)⟩
theorem fq_RX10_39 : Fq RX10 39 10 16 .int false := ⟨RX10, TX10, 34, rfl, by decide, rfl, rfl, by decide +kernel, Or.inl (tzc_5 144 (by decide +kernel) rfl)⟩
theorem fq_RX10_146 : Fq RX10 146 10 17 .int false := ⟨RX10, TX10, 34, rfl, by decide, rfl, rfl, by decide +kernel, Or.inl (tzc_5 145 (by decide +kernel) rfl)⟩
theorem fq_RX10_43 : Fq RX10 43 10 18 (.array .long) true := ⟨RX10, TX10, 34, rfl, by decide, rfl, rfl, by decide +kernel, Or.inl (tzc_5 146 (by decide +kernel) rfl)⟩
theorem fq_RX10_46 : Fq RX10 46 10 19 (.array .boolean) true := ⟨RX10, TX10, 34, rfl, by decide, rfl, rfl, by decide +kernel, Or.inl (tzc_5 147 (by decide +kernel) rfl)⟩
theorem fq_RX10_49 : Fq RX10 49 10 20 (.array .int) true := ⟨RX10, TX10, 34, rfl, by decide, rfl, rfl, by decide +kernel, Or.inl (tzc_5 148 (by decide +kernel) rfl)⟩
theorem fq_RX10_52 : Fq RX10 52 10 21 (.array .boolean) true := ⟨RX10, TX10, 34, rfl, by decide, rfl, rfl, by decide +kernel, Or.inl (tzc_5 149 (by decide +kernel) rfl)⟩
theorem fq_RX10_55 : Fq RX10 55 10 22 (.array .int) true := ⟨RX10, TX10, 34, rfl, by decide, rfl, rfl, by decide +kernel, Or.inl (tzc_5 150 (by decide +kernel) rfl)⟩
theorem fq_RX10_58 : Fq RX10 58 10 23 (.array .int) true := ⟨RX10, TX10, 34, rfl, by decide, rfl, rfl, by decide +kernel, Or.inl (tzc_5 151 (by decide +kernel) rfl)⟩
theorem fq_RX10_61 : Fq RX10 61 10 24 (.array .int) true := ⟨RX10, TX10, 34, rfl, by decide, rfl, rfl, by decide +kernel, Or.inl (tzc_5 152 (by decide +kernel) rfl)⟩
theorem fq_RX10_64 : Fq RX10 64 10 25 (.array .int) true := ⟨RX10, TX10, 34, rfl, by decide, rfl, rfl, by decide +kernel, Or.inl (tzc_5 153 (by decide +kernel) rfl)⟩
theorem fq_RX10_67 : Fq RX10 67 10 26 (.array .long) true := ⟨RX10, TX10, 34, rfl, by decide, rfl, rfl, by decide +kernel, Or.inl (tzc_5 154 (by decide +kernel) rfl)⟩
theorem fq_RX10_70 : Fq RX10 70 10 27 (.array .int) true := ⟨RX10, TX10, 34, rfl, by decide, rfl, rfl, by decide +kernel, Or.inl (tzc_5 155 (by decide +kernel) rfl)⟩
theorem fq_RX10_349 : Fq RX10 349 10 28 .long false := ⟨RX10, TX10, 34, rfl, by decide, rfl, rfl, by decide +kernel, Or.inl (tzc_5 156 (by decide +kernel) rfl)⟩
theorem fq_RX10_73 : Fq RX10 73 10 29 (.array .int) true := ⟨RX10, TX10, 34, rfl, by decide, rfl, rfl, by decide +kernel, Or.inl (tzc_5 157 (by decide +kernel) rfl)⟩
theorem fq_RX10_88 : Fq RX10 88 10 30 .int false := ⟨RX10, TX10, 34, rfl, by decide, rfl, rfl, by decide +kernel, Or.inl (tzc_5 158 (by decide +kernel) rfl)⟩
theorem fq_RX10_91 : Fq RX10 91 10 31 .int false := ⟨RX10, TX10, 34, rfl, by decide, rfl, rfl, by decide +kernel, Or.inl (tzc_5 159 (by decide +kernel) rfl)⟩
theorem fq_RX10_397 : Fq RX10 397 10 32 .int false := ⟨RX10, TX10, 34, rfl, by decide, rfl, rfl, by decide +kernel, Or.inl (tzc_5 160 (by decide +kernel) rfl)⟩
theorem fq_RX10_400 : Fq RX10 400 10 33 .int false := ⟨RX10, TX10, 34, rfl, by decide, rfl, rfl, by decide +kernel, Or.inl (tzc_5 161 (by decide +kernel) rfl)⟩
theorem tw_0 : (Cond.initialized "ColdBoxLaw") ∈ TB := tzc_1 0 (by decide +kernel) rfl
theorem tw_4 : (Cond.initialized "java/lang/System") ∈ TB := tzc_1 4 (by decide +kernel) rfl
theorem tw_17 : (Cond.initialized "java/lang/StringUTF16") ∈ TB := tzc_1 17 (by decide +kernel) rfl
theorem tw_18 : (Cond.initialized "java/lang/Math") ∈ TB := tzc_1 18 (by decide +kernel) rfl
theorem tw_20 : (Cond.classLink "ColdBoxLaw" (7 : Nat) "ColdBox") ∈ TB := tzc_1 20 (by decide +kernel) rfl
theorem tw_21 : (Cond.instantiable "ColdBox" (13 : Nat)) ∈ TB := tzc_1 21 (by decide +kernel) rfl
theorem tw_26 : (Cond.instanceMethod ({ cls := "java/lang/Object", name := "<init>", desc := "()V" } : MethodName)) ∈ TB := tzc_1 26 (by decide +kernel) rfl
theorem tw_27 : (Cond.code ({ cls := "java/lang/Object", name := "<init>", desc := "()V" } : MethodName) object_method_1_code (1 : Nat) (Option.none : Option ClassFile.FieldType)) ∈ TB := tzc_1 27 (by decide +kernel) rfl
theorem tw_28 : (Cond.classLink "ColdBox" (7 : Nat) "ColdBox$Reader") ∈ TB := tzc_1 28 (by decide +kernel) rfl
theorem tw_29 : (Cond.instantiable "ColdBox$Reader" (10 : Nat)) ∈ TB := tzc_1 29 (by decide +kernel) rfl
theorem tw_72 : (Cond.arrayClass ClassFile.FieldType.char) ∈ TB := tzc_1 72 (by decide +kernel) rfl
theorem tw_73 : (Cond.arrayClass ClassFile.FieldType.boolean) ∈ TB := tzc_1 73 (by decide +kernel) rfl
theorem tw_74 : (Cond.arrayClass ClassFile.FieldType.int) ∈ TB := tzc_1 74 (by decide +kernel) rfl
theorem tw_75 : (Cond.classLink "ColdBox" (16 : Nat) "ColdBox$Build") ∈ TB := tzc_1 75 (by decide +kernel) rfl
theorem tw_76 : (Cond.instantiable "ColdBox$Build" (1 : Nat)) ∈ TB := tzc_1 76 (by decide +kernel) rfl
theorem tw_84 : (Cond.static ({ cls := "java/lang/System", name := "arraycopy", desc := "(Ljava/lang/Object;ILjava/lang/Object;II)V" } : MethodName)) ∈ TB := tzc_1 84 (by decide +kernel) rfl
theorem tw_85 : (Cond.native ({ cls := "java/lang/System", name := "arraycopy", desc := "(Ljava/lang/Object;ILjava/lang/Object;II)V" } : MethodName)) ∈ TB := tzc_1 85 (by decide +kernel) rfl
theorem tw_94 : (Cond.classLink "ColdBox" (23 : Nat) "ColdBox$Openings") ∈ TB := tzc_1 94 (by decide +kernel) rfl
theorem tw_95 : (Cond.instantiable "ColdBox$Openings" (4 : Nat)) ∈ TB := tzc_1 95 (by decide +kernel) rfl
theorem tw_116 : (Cond.classLink "ColdBox" (30 : Nat) "ColdBox$Ticker") ∈ TB := tzc_1 116 (by decide +kernel) rfl
theorem tw_117 : (Cond.instantiable "ColdBox$Ticker" (4 : Nat)) ∈ TB := tzc_1 117 (by decide +kernel) rfl
theorem tw_138 : (Cond.arrayClass ClassFile.FieldType.long) ∈ TB := tzc_1 138 (by decide +kernel) rfl
theorem tw_139 : (Cond.classLink "ColdBox" (39 : Nat) "ColdBox$State") ∈ TB := tzc_1 139 (by decide +kernel) rfl
theorem tw_140 : (Cond.instantiable "ColdBox$State" (14 : Nat)) ∈ TB := tzc_1 140 (by decide +kernel) rfl
theorem tw_216 : (Cond.classLink "ColdBox" (59 : Nat) "ColdBox$FreshRuns") ∈ TB := tzc_1 216 (by decide +kernel) rfl
theorem tw_217 : (Cond.instantiable "ColdBox$FreshRuns" (4 : Nat)) ∈ TB := tzc_1 217 (by decide +kernel) rfl
theorem tw_222 : (Cond.classLink "ColdBox$FreshRuns" (9 : Nat) "ColdBox$State") ∈ TB := tzc_1 222 (by decide +kernel) rfl
theorem tw_237 : (Cond.classLink "ColdBox" (68 : Nat) "ColdBox$Guess") ∈ TB := tzc_1 237 (by decide +kernel) rfl
theorem tw_238 : (Cond.instantiable "ColdBox$Guess" (8 : Nat)) ∈ TB := tzc_1 238 (by decide +kernel) rfl
theorem tw_246 : (Cond.static ({ cls := "java/util/Arrays", name := "fill", desc := "([II)V" } : MethodName)) ∈ TB := tzc_2 6 (by decide +kernel) rfl
theorem tw_278 : (Cond.classLink "ColdBox" (77 : Nat) "ColdBox$Purse") ∈ TB := tzc_2 38 (by decide +kernel) rfl
theorem tw_279 : (Cond.instantiable "ColdBox$Purse" (3 : Nat)) ∈ TB := tzc_2 39 (by decide +kernel) rfl
theorem tw_297 : (Cond.classLink "ColdBox" (84 : Nat) "ColdBox$Trials") ∈ TB := tzc_2 57 (by decide +kernel) rfl
theorem tw_298 : (Cond.instantiable "ColdBox$Trials" (9 : Nat)) ∈ TB := tzc_2 58 (by decide +kernel) rfl
theorem tw_303 : (Cond.classLink "ColdBox$Trials" (9 : Nat) "ColdBox$State") ∈ TB := tzc_2 63 (by decide +kernel) rfl
theorem tw_342 : (Cond.constantLong "ColdBox$State" (38 : Nat) (10000 : Int64)) ∈ TB := tzc_2 102 (by decide +kernel) rfl
theorem tw_343 : (Cond.constantLong "ColdBox$State" (40 : Nat) (-40000 : Int64)) ∈ TB := tzc_2 103 (by decide +kernel) rfl
theorem tw_345 : (Cond.static ({ cls := "java/util/Arrays", name := "fill", desc := "([JJ)V" } : MethodName)) ∈ TB := tzc_2 105 (by decide +kernel) rfl
theorem tw_396 : (Cond.constant "ColdBox" (100 : Nat) (-1000000002 : Int32)) ∈ TB := tzc_2 156 (by decide +kernel) rfl
theorem tw_401 : (Cond.constantLong "ColdBox$Reader" (36 : Nat) (255 : Int64)) ∈ TB := tzc_2 161 (by decide +kernel) rfl
theorem tw_402 : (Cond.constant "ColdBox" (109 : Nat) (-1000000004 : Int32)) ∈ TB := tzc_2 162 (by decide +kernel) rfl
theorem tw_430 : (Cond.static ({ cls := "ColdBox$Reader", name := "isLetter", desc := "(C)Z" } : MethodName)) ∈ TB := tzc_2 190 (by decide +kernel) rfl
theorem tw_437 : (Cond.static ({ cls := "ColdBox$Reader", name := "wordOf", desc := "(I)Ljava/lang/String;" } : MethodName)) ∈ TB := tzc_2 197 (by decide +kernel) rfl
theorem tw_475 : (Cond.static ({ cls := "java/lang/StringLatin1", name := "charAt", desc := "([BI)C" } : MethodName)) ∈ TB := tzc_2 235 (by decide +kernel) rfl
theorem tw_478 : (Cond.static ({ cls := "java/lang/String", name := "checkIndex", desc := "(II)V" } : MethodName)) ∈ TB := tzc_2 238 (by decide +kernel) rfl
theorem tw_483 : (Cond.static ({ cls := "jdk/internal/util/Preconditions", name := "checkIndex", desc := "(IILjava/util/function/BiFunction;)I" } : MethodName)) ∈ TB := tzc_3 3 (by decide +kernel) rfl
theorem tw_486 : (Cond.static ({ cls := "java/lang/StringUTF16", name := "charAt", desc := "([BI)C" } : MethodName)) ∈ TB := tzc_3 6 (by decide +kernel) rfl
theorem tw_489 : (Cond.static ({ cls := "java/lang/StringUTF16", name := "checkIndex", desc := "(I[B)V" } : MethodName)) ∈ TB := tzc_3 9 (by decide +kernel) rfl
theorem tw_492 : (Cond.static ({ cls := "java/lang/StringUTF16", name := "length", desc := "([B)I" } : MethodName)) ∈ TB := tzc_3 12 (by decide +kernel) rfl
theorem tw_496 : (Cond.static ({ cls := "java/lang/StringUTF16", name := "getChar", desc := "([BI)C" } : MethodName)) ∈ TB := tzc_3 16 (by decide +kernel) rfl
theorem tw_521 : (Cond.static ({ cls := "ColdBox$Reader", name := "isFigure", desc := "(C)Z" } : MethodName)) ∈ TB := tzc_3 41 (by decide +kernel) rfl
theorem tw_536 : (Cond.arrayClass ClassFile.FieldType.byte) ∈ TB := tzc_3 56 (by decide +kernel) rfl
theorem tw_555 : (Cond.static ({ cls := "java/lang/Math", name := "max", desc := "(II)I" } : MethodName)) ∈ TB := tzc_3 75 (by decide +kernel) rfl
theorem tw_556 : (Cond.code ({ cls := "java/lang/Math", name := "max", desc := "(II)I" } : MethodName) prog_14_method_65_code (2 : Nat) (Option.some ClassFile.FieldType.int)) ∈ TB := tzc_3 76 (by decide +kernel) rfl
theorem tw_574 : (Cond.static ({ cls := "ColdBox", name := "isSet", desc := "(I)Z" } : MethodName)) ∈ TB := tzc_3 94 (by decide +kernel) rfl
theorem tw_576 : (Cond.constant "ColdBox" (155 : Nat) (-1000000001 : Int32)) ∈ TB := tzc_3 96 (by decide +kernel) rfl
theorem tw_595 : (Cond.static ({ cls := "ColdBox", name := "isShelf", desc := "(I)Z" } : MethodName)) ∈ TB := tzc_3 115 (by decide +kernel) rfl
theorem tw_598 : (Cond.static ({ cls := "ColdBox", name := "canBeWarmth", desc := "(I)Z" } : MethodName)) ∈ TB := tzc_3 118 (by decide +kernel) rfl
theorem tw_682 : (Cond.constantLong "ColdBox$Ticker" (109 : Nat) (100 : Int64)) ∈ TB := tzc_3 202 (by decide +kernel) rfl
theorem tw_687 : (Cond.constantLong "ColdBox$Ticker" (128 : Nat) (1000 : Int64)) ∈ TB := tzc_3 207 (by decide +kernel) rfl
theorem tw_692 : (Cond.constantLong "ColdBox$Ticker" (130 : Nat) (5 : Int64)) ∈ TB := tzc_3 212 (by decide +kernel) rfl
theorem tw_707 : (Cond.static ({ cls := "java/lang/Math", name := "min", desc := "(II)I" } : MethodName)) ∈ TB := tzc_3 227 (by decide +kernel) rfl
theorem tw_708 : (Cond.code ({ cls := "java/lang/Math", name := "min", desc := "(II)I" } : MethodName) prog_14_method_69_code (2 : Nat) (Option.some ClassFile.FieldType.int)) ∈ TB := tzc_3 228 (by decide +kernel) rfl
theorem tw_722 : (Cond.constantLong "ColdBox$State" (90 : Nat) (1103515245 : Int64)) ∈ TB := tzc_4 2 (by decide +kernel) rfl
theorem tw_723 : (Cond.constantLong "ColdBox$State" (92 : Nat) (12345 : Int64)) ∈ TB := tzc_4 3 (by decide +kernel) rfl
theorem tw_724 : (Cond.constantLong "ColdBox$State" (94 : Nat) (2147483647 : Int64)) ∈ TB := tzc_4 4 (by decide +kernel) rfl
theorem tw_725 : (Cond.constant "ColdBox$State" (96 : Nat) (65536 : Int32)) ∈ TB := tzc_4 5 (by decide +kernel) rfl
theorem tw_735 : (Cond.constantLong "ColdBox" (225 : Nat) (-1000000002 : Int64)) ∈ TB := tzc_4 15 (by decide +kernel) rfl
theorem tw_756 : (Cond.constantLong "ColdBox$State" (88 : Nat) (1000 : Int64)) ∈ TB := tzc_4 36 (by decide +kernel) rfl
theorem tw_762 : (Cond.static ({ cls := "ColdBox", name := "isSign", desc := "(I)Z" } : MethodName)) ∈ TB := tzc_4 42 (by decide +kernel) rfl
theorem tw_765 : (Cond.static ({ cls := "ColdBox", name := "areSignDays", desc := "(I)Z" } : MethodName)) ∈ TB := tzc_4 45 (by decide +kernel) rfl
theorem tw_780 : (Cond.static ({ cls := "ColdBox$FreshRuns", name := "placeOf", desc := "(II)I" } : MethodName)) ∈ TB := tzc_4 60 (by decide +kernel) rfl
theorem tw_792 : (Cond.constant "ColdBox" (261 : Nat) (-99999 : Int32)) ∈ TB := tzc_4 72 (by decide +kernel) rfl
theorem tw_793 : (Cond.constant "ColdBox" (262 : Nat) (99999 : Int32)) ∈ TB := tzc_4 73 (by decide +kernel) rfl
theorem tw_807 : (Cond.static ({ cls := "ColdBox", name := "isTrouble", desc := "(I)Z" } : MethodName)) ∈ TB := tzc_4 87 (by decide +kernel) rfl
theorem tw_818 : (Cond.static ({ cls := "java/lang/Integer", name := "bitCount", desc := "(I)I" } : MethodName)) ∈ TB := tzc_4 98 (by decide +kernel) rfl
theorem tw_820 : (Cond.constant "java/lang/Integer" (265 : Nat) (1431655765 : Int32)) ∈ TB := tzc_4 100 (by decide +kernel) rfl
theorem tw_821 : (Cond.constant "java/lang/Integer" (266 : Nat) (858993459 : Int32)) ∈ TB := tzc_4 101 (by decide +kernel) rfl
theorem tw_822 : (Cond.constant "java/lang/Integer" (267 : Nat) (252645135 : Int32)) ∈ TB := tzc_4 102 (by decide +kernel) rfl
theorem tw_841 : (Cond.constantLong "ColdBox$Guess" (60 : Nat) (1000000 : Int64)) ∈ TB := tzc_4 121 (by decide +kernel) rfl
theorem tw_842 : (Cond.constantLong "ColdBox$Guess" (66 : Nat) (1000 : Int64)) ∈ TB := tzc_4 122 (by decide +kernel) rfl
theorem tw_849 : (Cond.static ({ cls := "java/lang/Math", name := "abs", desc := "(I)I" } : MethodName)) ∈ TB := tzc_4 129 (by decide +kernel) rfl
theorem tw_850 : (Cond.code ({ cls := "java/lang/Math", name := "abs", desc := "(I)I" } : MethodName) prog_14_method_59_code (1 : Nat) (Option.some ClassFile.FieldType.int)) ∈ TB := tzc_4 130 (by decide +kernel) rfl
theorem tw_913 : (Cond.static ({ cls := "ColdBox", name := "isPrice", desc := "(I)Z" } : MethodName)) ∈ TB := tzc_4 193 (by decide +kernel) rfl
theorem tw_928 : (Cond.constantLong "ColdBox$Purse" (39 : Nat) (365 : Int64)) ∈ TB := tzc_4 208 (by decide +kernel) rfl
theorem tw_929 : (Cond.constantLong "ColdBox$Purse" (41 : Nat) (1000 : Int64)) ∈ TB := tzc_4 209 (by decide +kernel) rfl
theorem tw_935 : (Cond.static ({ cls := "ColdBox", name := "isPart", desc := "(II)Z" } : MethodName)) ∈ TB := tzc_4 215 (by decide +kernel) rfl
theorem tw_937 : (Cond.constant "ColdBox" (325 : Nat) (-1000000003 : Int32)) ∈ TB := tzc_4 217 (by decide +kernel) rfl
theorem tw_1064 : (Cond.constantLong "ColdBox$Trials" (118 : Nat) (1000 : Int64)) ∈ TB := tzc_5 104 (by decide +kernel) rfl
theorem tw_1082 : (Cond.classLink "ColdBoxLaw" (10 : Nat) "ColdBoxModel") ∈ TB := tzc_5 122 (by decide +kernel) rfl
theorem tw_1083 : (Cond.instantiable "ColdBoxModel" (34 : Nat)) ∈ TB := tzc_5 123 (by decide +kernel) rfl
theorem tw_1195 : (Cond.constantLong "ColdBoxModel" (94 : Nat) (8 : Int64)) ∈ TB := tzc_5 235 (by decide +kernel) rfl
theorem tw_1197 : (Cond.static ({ cls := "ColdBoxModel", name := "in", desc := "(JJJ)Z" } : MethodName)) ∈ TB := tzc_5 237 (by decide +kernel) rfl
theorem tw_1199 : (Cond.constant "ColdBoxModel" (100 : Nat) (-1000000002 : Int32)) ∈ TB := tzc_5 239 (by decide +kernel) rfl
theorem tw_1200 : (Cond.constant "ColdBoxModel" (104 : Nat) (-1000000004 : Int32)) ∈ TB := tzc_6 0 (by decide +kernel) rfl
theorem tw_1201 : (Cond.constantLong "ColdBoxModel" (105 : Nat) (255 : Int64)) ∈ TB := tzc_6 1 (by decide +kernel) rfl
theorem tw_1211 : (Cond.static ({ cls := "ColdBoxModel", name := "untold", desc := "(I)I" } : MethodName)) ∈ TB := tzc_6 11 (by decide +kernel) rfl
theorem tw_1217 : (Cond.constantLong "ColdBoxModel" (180 : Nat) (10000 : Int64)) ∈ TB := tzc_6 17 (by decide +kernel) rfl
theorem tw_1218 : (Cond.constantLong "ColdBoxModel" (182 : Nat) (-40000 : Int64)) ∈ TB := tzc_6 18 (by decide +kernel) rfl
theorem tw_1220 : (Cond.static ({ cls := "ColdBoxModel", name := "has", desc := "(JI)Z" } : MethodName)) ∈ TB := tzc_6 20 (by decide +kernel) rfl
theorem tw_1222 : (Cond.constantLong "ColdBoxModel" (184 : Nat) (600 : Int64)) ∈ TB := tzc_6 22 (by decide +kernel) rfl
theorem tw_1223 : (Cond.constantLong "ColdBoxModel" (186 : Nat) (500 : Int64)) ∈ TB := tzc_6 23 (by decide +kernel) rfl
theorem tw_1240 : (Cond.constantLong "ColdBoxModel" (120 : Nat) (97 : Int64)) ∈ TB := tzc_6 40 (by decide +kernel) rfl
theorem tw_1241 : (Cond.constantLong "ColdBoxModel" (122 : Nat) (122 : Int64)) ∈ TB := tzc_6 41 (by decide +kernel) rfl
theorem tw_1258 : (Cond.constantLong "ColdBoxModel" (127 : Nat) (48 : Int64)) ∈ TB := tzc_6 58 (by decide +kernel) rfl
theorem tw_1259 : (Cond.constantLong "ColdBoxModel" (129 : Nat) (57 : Int64)) ∈ TB := tzc_6 59 (by decide +kernel) rfl
theorem tw_1260 : (Cond.constant "ColdBoxModel" (135 : Nat) (99999 : Int32)) ∈ TB := tzc_6 60 (by decide +kernel) rfl
theorem tw_1262 : (Cond.static ({ cls := "ColdBoxModel", name := "leastOf", desc := "(I)I" } : MethodName)) ∈ TB := tzc_6 62 (by decide +kernel) rfl
theorem tw_1265 : (Cond.static ({ cls := "ColdBoxModel", name := "mostOf", desc := "(I)I" } : MethodName)) ∈ TB := tzc_6 65 (by decide +kernel) rfl
theorem tw_1283 : (Cond.constantLong "ColdBoxModel" (178 : Nat) (14 : Int64)) ∈ TB := tzc_6 83 (by decide +kernel) rfl
theorem tw_1293 : (Cond.static ({ cls := "ColdBoxModel", name := "isSet", desc := "(I)Z" } : MethodName)) ∈ TB := tzc_6 93 (by decide +kernel) rfl
theorem tw_1295 : (Cond.constantLong "ColdBoxModel" (255 : Nat) (127 : Int64)) ∈ TB := tzc_6 95 (by decide +kernel) rfl
theorem tw_1296 : (Cond.constant "ColdBoxModel" (263 : Nat) (-1000000001 : Int32)) ∈ TB := tzc_6 96 (by decide +kernel) rfl
theorem tw_1306 : (Cond.static ({ cls := "ColdBoxModel", name := "one", desc := "(Z)I" } : MethodName)) ∈ TB := tzc_6 106 (by decide +kernel) rfl
theorem tw_1317 : (Cond.static ({ cls := "ColdBoxModel", name := "isShelf", desc := "(I)Z" } : MethodName)) ∈ TB := tzc_6 117 (by decide +kernel) rfl
theorem tw_1319 : (Cond.constantLong "ColdBoxModel" (264 : Nat) (2 : Int64)) ∈ TB := tzc_6 119 (by decide +kernel) rfl
theorem tw_1321 : (Cond.static ({ cls := "ColdBoxModel", name := "isDegree", desc := "(I)Z" } : MethodName)) ∈ TB := tzc_6 121 (by decide +kernel) rfl
theorem tw_1323 : (Cond.constantLong "ColdBoxModel" (268 : Nat) (-3000 : Int64)) ∈ TB := tzc_6 123 (by decide +kernel) rfl
theorem tw_1324 : (Cond.constantLong "ColdBoxModel" (270 : Nat) (9000 : Int64)) ∈ TB := tzc_6 124 (by decide +kernel) rfl
theorem tw_1325 : (Cond.constantLong "ColdBoxModel" (278 : Nat) (200 : Int64)) ∈ TB := tzc_6 125 (by decide +kernel) rfl
theorem tw_1334 : (Cond.constantLong "ColdBoxModel" (266 : Nat) (7 : Int64)) ∈ TB := tzc_6 134 (by decide +kernel) rfl
theorem tw_1343 : (Cond.constantLong "ColdBoxModel" (188 : Nat) (20 : Int64)) ∈ TB := tzc_6 143 (by decide +kernel) rfl
theorem tw_1344 : (Cond.constantLong "ColdBoxModel" (190 : Nat) (40 : Int64)) ∈ TB := tzc_6 144 (by decide +kernel) rfl
theorem tw_1361 : (Cond.constantLong "ColdBoxModel" (287 : Nat) (2880 : Int64)) ∈ TB := tzc_6 161 (by decide +kernel) rfl
theorem tw_1370 : (Cond.constantLong "ColdBoxModel" (196 : Nat) (288 : Int64)) ∈ TB := tzc_6 170 (by decide +kernel) rfl
theorem tw_1375 : (Cond.constantLong "ColdBoxModel" (209 : Nat) (10 : Int64)) ∈ TB := tzc_6 175 (by decide +kernel) rfl
theorem tw_1377 : (Cond.static ({ cls := "ColdBoxModel", name := "isHour", desc := "(JII)Z" } : MethodName)) ∈ TB := tzc_6 177 (by decide +kernel) rfl
theorem tw_1379 : (Cond.constantLong "ColdBoxModel" (198 : Nat) (12 : Int64)) ∈ TB := tzc_6 179 (by decide +kernel) rfl
theorem tw_1380 : (Cond.constantLong "ColdBoxModel" (223 : Nat) (800 : Int64)) ∈ TB := tzc_6 180 (by decide +kernel) rfl
theorem tw_1385 : (Cond.constantLong "ColdBoxModel" (229 : Nat) (4 : Int64)) ∈ TB := tzc_6 185 (by decide +kernel) rfl
theorem tw_1386 : (Cond.constantLong "ColdBoxModel" (231 : Nat) (60 : Int64)) ∈ TB := tzc_6 186 (by decide +kernel) rfl
theorem tw_1391 : (Cond.constantLong "ColdBoxModel" (203 : Nat) (100 : Int64)) ∈ TB := tzc_6 191 (by decide +kernel) rfl
theorem tw_1392 : (Cond.constantLong "ColdBoxModel" (205 : Nat) (1000 : Int64)) ∈ TB := tzc_6 192 (by decide +kernel) rfl
theorem tw_1397 : (Cond.constantLong "ColdBoxModel" (215 : Nat) (50 : Int64)) ∈ TB := tzc_6 197 (by decide +kernel) rfl
theorem tw_1398 : (Cond.constantLong "ColdBoxModel" (217 : Nat) (45 : Int64)) ∈ TB := tzc_6 198 (by decide +kernel) rfl
theorem tw_1399 : (Cond.constantLong "ColdBoxModel" (241 : Nat) (5 : Int64)) ∈ TB := tzc_6 199 (by decide +kernel) rfl
theorem tw_1404 : (Cond.constantLong "ColdBoxModel" (207 : Nat) (9999 : Int64)) ∈ TB := tzc_6 204 (by decide +kernel) rfl
theorem tw_1417 : (Cond.constantLong "ColdBoxModel" (293 : Nat) (1103515245 : Int64)) ∈ TB := tzc_6 217 (by decide +kernel) rfl
theorem tw_1418 : (Cond.constantLong "ColdBoxModel" (295 : Nat) (12345 : Int64)) ∈ TB := tzc_6 218 (by decide +kernel) rfl
theorem tw_1419 : (Cond.constantLong "ColdBoxModel" (297 : Nat) (2147483648 : Int64)) ∈ TB := tzc_6 219 (by decide +kernel) rfl
theorem tw_1420 : (Cond.constantLong "ColdBoxModel" (299 : Nat) (65536 : Int64)) ∈ TB := tzc_6 220 (by decide +kernel) rfl
theorem tw_1425 : (Cond.constantLong "ColdBoxModel" (307 : Nat) (3 : Int64)) ∈ TB := tzc_6 225 (by decide +kernel) rfl
theorem tw_1430 : (Cond.constantLong "ColdBoxModel" (309 : Nat) (-1000000002 : Int64)) ∈ TB := tzc_6 230 (by decide +kernel) rfl
theorem tw_1452 : (Cond.static ({ cls := "ColdBoxModel", name := "isSign", desc := "(I)Z" } : MethodName)) ∈ TB := tzc_7 12 (by decide +kernel) rfl
theorem tw_1454 : (Cond.constantLong "ColdBoxModel" (257 : Nat) (6 : Int64)) ∈ TB := tzc_7 14 (by decide +kernel) rfl
theorem tw_1456 : (Cond.static ({ cls := "ColdBoxModel", name := "areDays", desc := "(I)Z" } : MethodName)) ∈ TB := tzc_7 16 (by decide +kernel) rfl
theorem tw_1474 : (Cond.constantLong "ColdBoxModel" (332 : Nat) (-99999 : Int64)) ∈ TB := tzc_7 34 (by decide +kernel) rfl
theorem tw_1475 : (Cond.constantLong "ColdBoxModel" (334 : Nat) (99999 : Int64)) ∈ TB := tzc_7 35 (by decide +kernel) rfl
theorem tw_1476 : (Cond.constantLong "ColdBoxModel" (336 : Nat) (999 : Int64)) ∈ TB := tzc_7 36 (by decide +kernel) rfl
theorem tw_1490 : (Cond.static ({ cls := "ColdBoxModel", name := "isTrouble", desc := "(I)Z" } : MethodName)) ∈ TB := tzc_7 50 (by decide +kernel) rfl
theorem tw_1501 : (Cond.static ({ cls := "ColdBoxModel", name := "couldBe", desc := "(I)Z" } : MethodName)) ∈ TB := tzc_7 61 (by decide +kernel) rfl
theorem tw_1504 : (Cond.static ({ cls := "ColdBoxModel", name := "ones", desc := "(I)I" } : MethodName)) ∈ TB := tzc_7 64 (by decide +kernel) rfl
theorem tw_1514 : (Cond.constantLong "ColdBoxModel" (347 : Nat) (1000000 : Int64)) ∈ TB := tzc_7 74 (by decide +kernel) rfl
theorem tw_1555 : (Cond.constantLong "ColdBoxModel" (369 : Nat) (365 : Int64)) ∈ TB := tzc_7 115 (by decide +kernel) rfl
theorem tw_1560 : (Cond.constant "ColdBoxModel" (374 : Nat) (-1000000003 : Int32)) ∈ TB := tzc_7 120 (by decide +kernel) rfl
theorem tw_1582 : (Cond.static ({ cls := "ColdBoxModel", name := "powerOf3", desc := "(I)I" } : MethodName)) ∈ TB := tzc_7 142 (by decide +kernel) rfl
theorem tw_1593 : (Cond.static ({ cls := "ColdBoxModel", name := "rowAt", desc := "(III)I" } : MethodName)) ∈ TB := tzc_7 153 (by decide +kernel) rfl
theorem tw_1611 : (Cond.constantLong "ColdBoxModel" (395 : Nat) (24 : Int64)) ∈ TB := tzc_7 171 (by decide +kernel) rfl
theorem tw_1616 : (Cond.constantLong "ColdBoxModel" (403 : Nat) (-1 : Int64)) ∈ TB := tzc_7 176 (by decide +kernel) rfl
theorem tw_1633 : (Cond.constantLong "ColdBoxLaw" (13 : Nat) (4294967295 : Int64)) ∈ TB := tzc_7 193 (by decide +kernel) rfl
theorem sl_RX0_15 : Cond.fieldLinkNest RX0 15 "ColdBox" "UNTOLD" "[I" "ColdBox" ∈ NB := tzn_1 81 (by decide +kernel) rfl
theorem sl_RX2_28 : Cond.fieldLinkNest RX2 28 "ColdBox" "COULD_BE" "[I" "ColdBox" ∈ NB := tzn_2 3 (by decide +kernel) rfl
theorem sl_RX5_41 : Cond.fieldLinkNest RX5 41 "ColdBox" "UNTOLD" "[I" "ColdBox" ∈ NB := tzn_2 179 (by decide +kernel) rfl
theorem sl_RX5_86 : Cond.fieldLinkNest RX5 86 "ColdBox" "LEAST" "[I" "ColdBox" ∈ NB := tzn_3 32 (by decide +kernel) rfl
theorem sl_RX5_89 : Cond.fieldLinkNest RX5 89 "ColdBox" "MOST" "[I" "ColdBox" ∈ NB := tzn_3 34 (by decide +kernel) rfl
theorem sl_RX1_49 : Cond.fieldLinkNest RX1 49 "ColdBox" "COULD_BE" "[I" "ColdBox" ∈ NB := tzn_4 107 (by decide +kernel) rfl
theorem kB_m10 : (Int8.ofInt (-10)).toInt32 = (-10 : Int32) := by decide
theorem kB_6 : (Int8.ofInt (6)).toInt32 = (6 : Int32) := by decide
theorem kB_7 : (Int8.ofInt (7)).toInt32 = (7 : Int32) := by decide
theorem kB_8 : (Int8.ofInt (8)).toInt32 = (8 : Int32) := by decide
theorem kB_9 : (Int8.ofInt (9)).toInt32 = (9 : Int32) := by decide
theorem kB_10 : (Int8.ofInt (10)).toInt32 = (10 : Int32) := by decide
theorem kB_11 : (Int8.ofInt (11)).toInt32 = (11 : Int32) := by decide
theorem kB_12 : (Int8.ofInt (12)).toInt32 = (12 : Int32) := by decide
theorem kB_13 : (Int8.ofInt (13)).toInt32 = (13 : Int32) := by decide
theorem kB_14 : (Int8.ofInt (14)).toInt32 = (14 : Int32) := by decide
theorem kB_15 : (Int8.ofInt (15)).toInt32 = (15 : Int32) := by decide
theorem kB_16 : (Int8.ofInt (16)).toInt32 = (16 : Int32) := by decide
theorem kB_20 : (Int8.ofInt (20)).toInt32 = (20 : Int32) := by decide
theorem kB_24 : (Int8.ofInt (24)).toInt32 = (24 : Int32) := by decide
theorem kB_28 : (Int8.ofInt (28)).toInt32 = (28 : Int32) := by decide
theorem kB_30 : (Int8.ofInt (30)).toInt32 = (30 : Int32) := by decide
theorem kB_32 : (Int8.ofInt (32)).toInt32 = (32 : Int32) := by decide
theorem kB_36 : (Int8.ofInt (36)).toInt32 = (36 : Int32) := by decide
theorem kB_40 : (Int8.ofInt (40)).toInt32 = (40 : Int32) := by decide
theorem kB_44 : (Int8.ofInt (44)).toInt32 = (44 : Int32) := by decide
theorem kB_45 : (Int8.ofInt (45)).toInt32 = (45 : Int32) := by decide
theorem kB_48 : (Int8.ofInt (48)).toInt32 = (48 : Int32) := by decide
theorem kB_50 : (Int8.ofInt (50)).toInt32 = (50 : Int32) := by decide
theorem kB_52 : (Int8.ofInt (52)).toInt32 = (52 : Int32) := by decide
theorem kB_53 : (Int8.ofInt (53)).toInt32 = (53 : Int32) := by decide
theorem kB_54 : (Int8.ofInt (54)).toInt32 = (54 : Int32) := by decide
theorem kB_55 : (Int8.ofInt (55)).toInt32 = (55 : Int32) := by decide
theorem kB_56 : (Int8.ofInt (56)).toInt32 = (56 : Int32) := by decide
theorem kB_57 : (Int8.ofInt (57)).toInt32 = (57 : Int32) := by decide
theorem kB_58 : (Int8.ofInt (58)).toInt32 = (58 : Int32) := by decide
theorem kB_59 : (Int8.ofInt (59)).toInt32 = (59 : Int32) := by decide
theorem kB_60 : (Int8.ofInt (60)).toInt32 = (60 : Int32) := by decide
theorem kB_61 : (Int8.ofInt (61)).toInt32 = (61 : Int32) := by decide
theorem kB_62 : (Int8.ofInt (62)).toInt32 = (62 : Int32) := by decide
theorem kB_63 : (Int8.ofInt (63)).toInt32 = (63 : Int32) := by decide
theorem kB_64 : (Int8.ofInt (64)).toInt32 = (64 : Int32) := by decide
theorem kB_65 : (Int8.ofInt (65)).toInt32 = (65 : Int32) := by decide
theorem kB_66 : (Int8.ofInt (66)).toInt32 = (66 : Int32) := by decide
theorem kB_67 : (Int8.ofInt (67)).toInt32 = (67 : Int32) := by decide
theorem kB_68 : (Int8.ofInt (68)).toInt32 = (68 : Int32) := by decide
theorem kB_69 : (Int8.ofInt (69)).toInt32 = (69 : Int32) := by decide
theorem kB_70 : (Int8.ofInt (70)).toInt32 = (70 : Int32) := by decide
theorem kB_80 : (Int8.ofInt (80)).toInt32 = (80 : Int32) := by decide
theorem kB_97 : (Int8.ofInt (97)).toInt32 = (97 : Int32) := by decide
theorem kB_98 : (Int8.ofInt (98)).toInt32 = (98 : Int32) := by decide
theorem kB_99 : (Int8.ofInt (99)).toInt32 = (99 : Int32) := by decide
theorem kB_100 : (Int8.ofInt (100)).toInt32 = (100 : Int32) := by decide
theorem kB_101 : (Int8.ofInt (101)).toInt32 = (101 : Int32) := by decide
theorem kB_102 : (Int8.ofInt (102)).toInt32 = (102 : Int32) := by decide
theorem kB_105 : (Int8.ofInt (105)).toInt32 = (105 : Int32) := by decide
theorem kB_108 : (Int8.ofInt (108)).toInt32 = (108 : Int32) := by decide
theorem kB_109 : (Int8.ofInt (109)).toInt32 = (109 : Int32) := by decide
theorem kB_110 : (Int8.ofInt (110)).toInt32 = (110 : Int32) := by decide
theorem kB_111 : (Int8.ofInt (111)).toInt32 = (111 : Int32) := by decide
theorem kB_112 : (Int8.ofInt (112)).toInt32 = (112 : Int32) := by decide
theorem kB_114 : (Int8.ofInt (114)).toInt32 = (114 : Int32) := by decide
theorem kB_115 : (Int8.ofInt (115)).toInt32 = (115 : Int32) := by decide
theorem kB_116 : (Int8.ofInt (116)).toInt32 = (116 : Int32) := by decide
theorem kB_117 : (Int8.ofInt (117)).toInt32 = (117 : Int32) := by decide
theorem kB_118 : (Int8.ofInt (118)).toInt32 = (118 : Int32) := by decide
theorem kB_119 : (Int8.ofInt (119)).toInt32 = (119 : Int32) := by decide
theorem kB_120 : (Int8.ofInt (120)).toInt32 = (120 : Int32) := by decide
theorem kB_122 : (Int8.ofInt (122)).toInt32 = (122 : Int32) := by decide
theorem kB_127 : (Int8.ofInt (127)).toInt32 = (127 : Int32) := by decide
theorem kI_m1 : Int32.ofInt (-1) = (-1 : Int32) := by decide
theorem kI_0 : Int32.ofInt (0) = (0 : Int32) := by decide
theorem kI_1 : Int32.ofInt (1) = (1 : Int32) := by decide
theorem kI_2 : Int32.ofInt (2) = (2 : Int32) := by decide
theorem kI_3 : Int32.ofInt (3) = (3 : Int32) := by decide
theorem kI_4 : Int32.ofInt (4) = (4 : Int32) := by decide
theorem kI_5 : Int32.ofInt (5) = (5 : Int32) := by decide
theorem kI_6 : Int32.ofInt (6) = (6 : Int32) := by decide
theorem kL_0 : Int64.ofNat ((0 : Fin 2) : Nat) = (0 : Int64) := by decide
theorem kL_1 : Int64.ofNat ((1 : Fin 2) : Nat) = (1 : Int64) := by decide
theorem kS_m3000 : (Int16.ofInt (-3000)).toInt32 = (-3000 : Int32) := by decide
theorem kS_128 : (Int16.ofInt (128)).toInt32 = (128 : Int32) := by decide
theorem kS_132 : (Int16.ofInt (132)).toInt32 = (132 : Int32) := by decide
theorem kS_133 : (Int16.ofInt (133)).toInt32 = (133 : Int32) := by decide
theorem kS_134 : (Int16.ofInt (134)).toInt32 = (134 : Int32) := by decide
theorem kS_143 : (Int16.ofInt (143)).toInt32 = (143 : Int32) := by decide
theorem kS_145 : (Int16.ofInt (145)).toInt32 = (145 : Int32) := by decide
theorem kS_149 : (Int16.ofInt (149)).toInt32 = (149 : Int32) := by decide
theorem kS_160 : (Int16.ofInt (160)).toInt32 = (160 : Int32) := by decide
theorem kS_200 : (Int16.ofInt (200)).toInt32 = (200 : Int32) := by decide
theorem kS_255 : (Int16.ofInt (255)).toInt32 = (255 : Int32) := by decide
theorem kS_287 : (Int16.ofInt (287)).toInt32 = (287 : Int32) := by decide
theorem kS_288 : (Int16.ofInt (288)).toInt32 = (288 : Int32) := by decide
theorem kS_300 : (Int16.ofInt (300)).toInt32 = (300 : Int32) := by decide
theorem kS_320 : (Int16.ofInt (320)).toInt32 = (320 : Int32) := by decide
theorem kS_400 : (Int16.ofInt (400)).toInt32 = (400 : Int32) := by decide
theorem kS_500 : (Int16.ofInt (500)).toInt32 = (500 : Int32) := by decide
theorem kS_576 : (Int16.ofInt (576)).toInt32 = (576 : Int32) := by decide
theorem kS_600 : (Int16.ofInt (600)).toInt32 = (600 : Int32) := by decide
theorem kS_800 : (Int16.ofInt (800)).toInt32 = (800 : Int32) := by decide
theorem kS_864 : (Int16.ofInt (864)).toInt32 = (864 : Int32) := by decide
theorem kS_896 : (Int16.ofInt (896)).toInt32 = (896 : Int32) := by decide
theorem kS_900 : (Int16.ofInt (900)).toInt32 = (900 : Int32) := by decide
theorem kS_999 : (Int16.ofInt (999)).toInt32 = (999 : Int32) := by decide
theorem kS_1000 : (Int16.ofInt (1000)).toInt32 = (1000 : Int32) := by decide
theorem kS_2880 : (Int16.ofInt (2880)).toInt32 = (2880 : Int32) := by decide
theorem kS_5376 : (Int16.ofInt (5376)).toInt32 = (5376 : Int32) := by decide
theorem kS_9000 : (Int16.ofInt (9000)).toInt32 = (9000 : Int32) := by decide
theorem kS_9999 : (Int16.ofInt (9999)).toInt32 = (9999 : Int32) := by decide
theorem kN_0 : (0 : Int32).toNatClampNeg = 0 := by decide
theorem kT_0 : (0 : Int32).toInt = ((0 : Nat) : Int) := by decide
theorem kN_1 : (1 : Int32).toNatClampNeg = 1 := by decide
theorem kT_1 : (1 : Int32).toInt = ((1 : Nat) : Int) := by decide
theorem kN_2 : (2 : Int32).toNatClampNeg = 2 := by decide
theorem kT_2 : (2 : Int32).toInt = ((2 : Nat) : Int) := by decide
theorem kN_3 : (3 : Int32).toNatClampNeg = 3 := by decide
theorem kT_3 : (3 : Int32).toInt = ((3 : Nat) : Int) := by decide
theorem kN_4 : (4 : Int32).toNatClampNeg = 4 := by decide
theorem kT_4 : (4 : Int32).toInt = ((4 : Nat) : Int) := by decide
theorem kN_5 : (5 : Int32).toNatClampNeg = 5 := by decide
theorem kT_5 : (5 : Int32).toInt = ((5 : Nat) : Int) := by decide
theorem kN_6 : (6 : Int32).toNatClampNeg = 6 := by decide
theorem kT_6 : (6 : Int32).toInt = ((6 : Nat) : Int) := by decide
theorem kN_7 : (7 : Int32).toNatClampNeg = 7 := by decide
theorem kT_7 : (7 : Int32).toInt = ((7 : Nat) : Int) := by decide
theorem kN_8 : (8 : Int32).toNatClampNeg = 8 := by decide
theorem kT_8 : (8 : Int32).toInt = ((8 : Nat) : Int) := by decide
theorem kN_9 : (9 : Int32).toNatClampNeg = 9 := by decide
theorem kT_9 : (9 : Int32).toInt = ((9 : Nat) : Int) := by decide
theorem kN_10 : (10 : Int32).toNatClampNeg = 10 := by decide
theorem kT_10 : (10 : Int32).toInt = ((10 : Nat) : Int) := by decide
theorem kN_11 : (11 : Int32).toNatClampNeg = 11 := by decide
theorem kT_11 : (11 : Int32).toInt = ((11 : Nat) : Int) := by decide
theorem kN_12 : (12 : Int32).toNatClampNeg = 12 := by decide
theorem kT_12 : (12 : Int32).toInt = ((12 : Nat) : Int) := by decide
theorem kN_13 : (13 : Int32).toNatClampNeg = 13 := by decide
theorem kT_13 : (13 : Int32).toInt = ((13 : Nat) : Int) := by decide
theorem kN_14 : (14 : Int32).toNatClampNeg = 14 := by decide
theorem kT_14 : (14 : Int32).toInt = ((14 : Nat) : Int) := by decide
theorem kN_15 : (15 : Int32).toNatClampNeg = 15 := by decide
theorem kT_15 : (15 : Int32).toInt = ((15 : Nat) : Int) := by decide
theorem kN_16 : (16 : Int32).toNatClampNeg = 16 := by decide
theorem kT_16 : (16 : Int32).toInt = ((16 : Nat) : Int) := by decide
theorem kN_17 : (17 : Int32).toNatClampNeg = 17 := by decide
theorem kT_17 : (17 : Int32).toInt = ((17 : Nat) : Int) := by decide
theorem kN_18 : (18 : Int32).toNatClampNeg = 18 := by decide
theorem kT_18 : (18 : Int32).toInt = ((18 : Nat) : Int) := by decide
theorem kN_19 : (19 : Int32).toNatClampNeg = 19 := by decide
theorem kT_19 : (19 : Int32).toInt = ((19 : Nat) : Int) := by decide
theorem kN_20 : (20 : Int32).toNatClampNeg = 20 := by decide
theorem kT_20 : (20 : Int32).toInt = ((20 : Nat) : Int) := by decide
theorem kN_21 : (21 : Int32).toNatClampNeg = 21 := by decide
theorem kT_21 : (21 : Int32).toInt = ((21 : Nat) : Int) := by decide
theorem kN_22 : (22 : Int32).toNatClampNeg = 22 := by decide
theorem kT_22 : (22 : Int32).toInt = ((22 : Nat) : Int) := by decide
theorem kN_23 : (23 : Int32).toNatClampNeg = 23 := by decide
theorem kT_23 : (23 : Int32).toInt = ((23 : Nat) : Int) := by decide
theorem kN_24 : (24 : Int32).toNatClampNeg = 24 := by decide
theorem kT_24 : (24 : Int32).toInt = ((24 : Nat) : Int) := by decide
theorem kN_25 : (25 : Int32).toNatClampNeg = 25 := by decide
theorem kT_25 : (25 : Int32).toInt = ((25 : Nat) : Int) := by decide
theorem kN_26 : (26 : Int32).toNatClampNeg = 26 := by decide
theorem kT_26 : (26 : Int32).toInt = ((26 : Nat) : Int) := by decide
theorem kN_27 : (27 : Int32).toNatClampNeg = 27 := by decide
theorem kT_27 : (27 : Int32).toInt = ((27 : Nat) : Int) := by decide
theorem kN_28 : (28 : Int32).toNatClampNeg = 28 := by decide
theorem kT_28 : (28 : Int32).toInt = ((28 : Nat) : Int) := by decide
theorem kN_29 : (29 : Int32).toNatClampNeg = 29 := by decide
theorem kT_29 : (29 : Int32).toInt = ((29 : Nat) : Int) := by decide
theorem kN_30 : (30 : Int32).toNatClampNeg = 30 := by decide
theorem kT_30 : (30 : Int32).toInt = ((30 : Nat) : Int) := by decide
theorem kN_31 : (31 : Int32).toNatClampNeg = 31 := by decide
theorem kT_31 : (31 : Int32).toInt = ((31 : Nat) : Int) := by decide
theorem kN_32 : (32 : Int32).toNatClampNeg = 32 := by decide
theorem kT_32 : (32 : Int32).toInt = ((32 : Nat) : Int) := by decide
theorem kN_33 : (33 : Int32).toNatClampNeg = 33 := by decide
theorem kT_33 : (33 : Int32).toInt = ((33 : Nat) : Int) := by decide
theorem kN_34 : (34 : Int32).toNatClampNeg = 34 := by decide
theorem kT_34 : (34 : Int32).toInt = ((34 : Nat) : Int) := by decide
theorem kN_35 : (35 : Int32).toNatClampNeg = 35 := by decide
theorem kT_35 : (35 : Int32).toInt = ((35 : Nat) : Int) := by decide
theorem kN_36 : (36 : Int32).toNatClampNeg = 36 := by decide
theorem kT_36 : (36 : Int32).toInt = ((36 : Nat) : Int) := by decide
theorem kN_37 : (37 : Int32).toNatClampNeg = 37 := by decide
theorem kT_37 : (37 : Int32).toInt = ((37 : Nat) : Int) := by decide
theorem kN_38 : (38 : Int32).toNatClampNeg = 38 := by decide
theorem kT_38 : (38 : Int32).toInt = ((38 : Nat) : Int) := by decide
theorem kN_39 : (39 : Int32).toNatClampNeg = 39 := by decide
theorem kT_39 : (39 : Int32).toInt = ((39 : Nat) : Int) := by decide
theorem kN_40 : (40 : Int32).toNatClampNeg = 40 := by decide
theorem kT_40 : (40 : Int32).toInt = ((40 : Nat) : Int) := by decide
theorem kN_44 : (44 : Int32).toNatClampNeg = 44 := by decide
theorem kT_44 : (44 : Int32).toInt = ((44 : Nat) : Int) := by decide
theorem kN_45 : (45 : Int32).toNatClampNeg = 45 := by decide
theorem kT_45 : (45 : Int32).toInt = ((45 : Nat) : Int) := by decide
theorem kN_48 : (48 : Int32).toNatClampNeg = 48 := by decide
theorem kT_48 : (48 : Int32).toInt = ((48 : Nat) : Int) := by decide
theorem kN_50 : (50 : Int32).toNatClampNeg = 50 := by decide
theorem kT_50 : (50 : Int32).toInt = ((50 : Nat) : Int) := by decide
theorem kN_52 : (52 : Int32).toNatClampNeg = 52 := by decide
theorem kT_52 : (52 : Int32).toInt = ((52 : Nat) : Int) := by decide
theorem kN_53 : (53 : Int32).toNatClampNeg = 53 := by decide
theorem kT_53 : (53 : Int32).toInt = ((53 : Nat) : Int) := by decide
theorem kN_54 : (54 : Int32).toNatClampNeg = 54 := by decide
theorem kT_54 : (54 : Int32).toInt = ((54 : Nat) : Int) := by decide
theorem kN_55 : (55 : Int32).toNatClampNeg = 55 := by decide
theorem kT_55 : (55 : Int32).toInt = ((55 : Nat) : Int) := by decide
theorem kN_56 : (56 : Int32).toNatClampNeg = 56 := by decide
theorem kT_56 : (56 : Int32).toInt = ((56 : Nat) : Int) := by decide
theorem kN_57 : (57 : Int32).toNatClampNeg = 57 := by decide
theorem kT_57 : (57 : Int32).toInt = ((57 : Nat) : Int) := by decide
theorem kN_58 : (58 : Int32).toNatClampNeg = 58 := by decide
theorem kT_58 : (58 : Int32).toInt = ((58 : Nat) : Int) := by decide
theorem kN_59 : (59 : Int32).toNatClampNeg = 59 := by decide
theorem kT_59 : (59 : Int32).toInt = ((59 : Nat) : Int) := by decide
theorem kN_60 : (60 : Int32).toNatClampNeg = 60 := by decide
theorem kT_60 : (60 : Int32).toInt = ((60 : Nat) : Int) := by decide
theorem kN_61 : (61 : Int32).toNatClampNeg = 61 := by decide
theorem kT_61 : (61 : Int32).toInt = ((61 : Nat) : Int) := by decide
theorem kN_62 : (62 : Int32).toNatClampNeg = 62 := by decide
theorem kT_62 : (62 : Int32).toInt = ((62 : Nat) : Int) := by decide
theorem kN_63 : (63 : Int32).toNatClampNeg = 63 := by decide
theorem kT_63 : (63 : Int32).toInt = ((63 : Nat) : Int) := by decide
theorem kN_64 : (64 : Int32).toNatClampNeg = 64 := by decide
theorem kT_64 : (64 : Int32).toInt = ((64 : Nat) : Int) := by decide
theorem kN_65 : (65 : Int32).toNatClampNeg = 65 := by decide
theorem kT_65 : (65 : Int32).toInt = ((65 : Nat) : Int) := by decide
theorem kN_66 : (66 : Int32).toNatClampNeg = 66 := by decide
theorem kT_66 : (66 : Int32).toInt = ((66 : Nat) : Int) := by decide
theorem kN_67 : (67 : Int32).toNatClampNeg = 67 := by decide
theorem kT_67 : (67 : Int32).toInt = ((67 : Nat) : Int) := by decide
theorem kN_68 : (68 : Int32).toNatClampNeg = 68 := by decide
theorem kT_68 : (68 : Int32).toInt = ((68 : Nat) : Int) := by decide
theorem kN_69 : (69 : Int32).toNatClampNeg = 69 := by decide
theorem kT_69 : (69 : Int32).toInt = ((69 : Nat) : Int) := by decide
theorem kN_70 : (70 : Int32).toNatClampNeg = 70 := by decide
theorem kT_70 : (70 : Int32).toInt = ((70 : Nat) : Int) := by decide
theorem kN_80 : (80 : Int32).toNatClampNeg = 80 := by decide
theorem kT_80 : (80 : Int32).toInt = ((80 : Nat) : Int) := by decide
theorem kN_97 : (97 : Int32).toNatClampNeg = 97 := by decide
theorem kT_97 : (97 : Int32).toInt = ((97 : Nat) : Int) := by decide
theorem kN_98 : (98 : Int32).toNatClampNeg = 98 := by decide
theorem kT_98 : (98 : Int32).toInt = ((98 : Nat) : Int) := by decide
theorem kN_99 : (99 : Int32).toNatClampNeg = 99 := by decide
theorem kT_99 : (99 : Int32).toInt = ((99 : Nat) : Int) := by decide
theorem kN_100 : (100 : Int32).toNatClampNeg = 100 := by decide
theorem kT_100 : (100 : Int32).toInt = ((100 : Nat) : Int) := by decide
theorem kN_101 : (101 : Int32).toNatClampNeg = 101 := by decide
theorem kT_101 : (101 : Int32).toInt = ((101 : Nat) : Int) := by decide
theorem kN_102 : (102 : Int32).toNatClampNeg = 102 := by decide
theorem kT_102 : (102 : Int32).toInt = ((102 : Nat) : Int) := by decide
theorem kN_105 : (105 : Int32).toNatClampNeg = 105 := by decide
theorem kT_105 : (105 : Int32).toInt = ((105 : Nat) : Int) := by decide
theorem kN_108 : (108 : Int32).toNatClampNeg = 108 := by decide
theorem kT_108 : (108 : Int32).toInt = ((108 : Nat) : Int) := by decide
theorem kN_109 : (109 : Int32).toNatClampNeg = 109 := by decide
theorem kT_109 : (109 : Int32).toInt = ((109 : Nat) : Int) := by decide
theorem kN_110 : (110 : Int32).toNatClampNeg = 110 := by decide
theorem kT_110 : (110 : Int32).toInt = ((110 : Nat) : Int) := by decide
theorem kN_111 : (111 : Int32).toNatClampNeg = 111 := by decide
theorem kT_111 : (111 : Int32).toInt = ((111 : Nat) : Int) := by decide
theorem kN_112 : (112 : Int32).toNatClampNeg = 112 := by decide
theorem kT_112 : (112 : Int32).toInt = ((112 : Nat) : Int) := by decide
theorem kN_114 : (114 : Int32).toNatClampNeg = 114 := by decide
theorem kT_114 : (114 : Int32).toInt = ((114 : Nat) : Int) := by decide
theorem kN_115 : (115 : Int32).toNatClampNeg = 115 := by decide
theorem kT_115 : (115 : Int32).toInt = ((115 : Nat) : Int) := by decide
theorem kN_116 : (116 : Int32).toNatClampNeg = 116 := by decide
theorem kT_116 : (116 : Int32).toInt = ((116 : Nat) : Int) := by decide
theorem kN_117 : (117 : Int32).toNatClampNeg = 117 := by decide
theorem kT_117 : (117 : Int32).toInt = ((117 : Nat) : Int) := by decide
theorem kN_118 : (118 : Int32).toNatClampNeg = 118 := by decide
theorem kT_118 : (118 : Int32).toInt = ((118 : Nat) : Int) := by decide
theorem kN_119 : (119 : Int32).toNatClampNeg = 119 := by decide
theorem kT_119 : (119 : Int32).toInt = ((119 : Nat) : Int) := by decide
theorem kN_120 : (120 : Int32).toNatClampNeg = 120 := by decide
theorem kT_120 : (120 : Int32).toInt = ((120 : Nat) : Int) := by decide
theorem kN_122 : (122 : Int32).toNatClampNeg = 122 := by decide
theorem kT_122 : (122 : Int32).toInt = ((122 : Nat) : Int) := by decide
theorem kN_127 : (127 : Int32).toNatClampNeg = 127 := by decide
theorem kT_127 : (127 : Int32).toInt = ((127 : Nat) : Int) := by decide
theorem kN_128 : (128 : Int32).toNatClampNeg = 128 := by decide
theorem kT_128 : (128 : Int32).toInt = ((128 : Nat) : Int) := by decide
theorem kN_132 : (132 : Int32).toNatClampNeg = 132 := by decide
theorem kT_132 : (132 : Int32).toInt = ((132 : Nat) : Int) := by decide
theorem kN_133 : (133 : Int32).toNatClampNeg = 133 := by decide
theorem kT_133 : (133 : Int32).toInt = ((133 : Nat) : Int) := by decide
theorem kN_134 : (134 : Int32).toNatClampNeg = 134 := by decide
theorem kT_134 : (134 : Int32).toInt = ((134 : Nat) : Int) := by decide
theorem kN_143 : (143 : Int32).toNatClampNeg = 143 := by decide
theorem kT_143 : (143 : Int32).toInt = ((143 : Nat) : Int) := by decide
theorem kN_145 : (145 : Int32).toNatClampNeg = 145 := by decide
theorem kT_145 : (145 : Int32).toInt = ((145 : Nat) : Int) := by decide
theorem kN_149 : (149 : Int32).toNatClampNeg = 149 := by decide
theorem kT_149 : (149 : Int32).toInt = ((149 : Nat) : Int) := by decide
theorem kN_160 : (160 : Int32).toNatClampNeg = 160 := by decide
theorem kT_160 : (160 : Int32).toInt = ((160 : Nat) : Int) := by decide
theorem kN_200 : (200 : Int32).toNatClampNeg = 200 := by decide
theorem kT_200 : (200 : Int32).toInt = ((200 : Nat) : Int) := by decide
theorem kN_255 : (255 : Int32).toNatClampNeg = 255 := by decide
theorem kT_255 : (255 : Int32).toInt = ((255 : Nat) : Int) := by decide
theorem kN_287 : (287 : Int32).toNatClampNeg = 287 := by decide
theorem kT_287 : (287 : Int32).toInt = ((287 : Nat) : Int) := by decide
theorem kN_288 : (288 : Int32).toNatClampNeg = 288 := by decide
theorem kT_288 : (288 : Int32).toInt = ((288 : Nat) : Int) := by decide
theorem kN_300 : (300 : Int32).toNatClampNeg = 300 := by decide
theorem kT_300 : (300 : Int32).toInt = ((300 : Nat) : Int) := by decide
theorem kN_320 : (320 : Int32).toNatClampNeg = 320 := by decide
theorem kT_320 : (320 : Int32).toInt = ((320 : Nat) : Int) := by decide
theorem kN_400 : (400 : Int32).toNatClampNeg = 400 := by decide
theorem kT_400 : (400 : Int32).toInt = ((400 : Nat) : Int) := by decide
theorem kN_500 : (500 : Int32).toNatClampNeg = 500 := by decide
theorem kT_500 : (500 : Int32).toInt = ((500 : Nat) : Int) := by decide
theorem kN_576 : (576 : Int32).toNatClampNeg = 576 := by decide
theorem kT_576 : (576 : Int32).toInt = ((576 : Nat) : Int) := by decide
theorem kN_600 : (600 : Int32).toNatClampNeg = 600 := by decide
theorem kT_600 : (600 : Int32).toInt = ((600 : Nat) : Int) := by decide
theorem kN_800 : (800 : Int32).toNatClampNeg = 800 := by decide
theorem kT_800 : (800 : Int32).toInt = ((800 : Nat) : Int) := by decide
theorem kN_864 : (864 : Int32).toNatClampNeg = 864 := by decide
theorem kT_864 : (864 : Int32).toInt = ((864 : Nat) : Int) := by decide
theorem kN_896 : (896 : Int32).toNatClampNeg = 896 := by decide
theorem kT_896 : (896 : Int32).toInt = ((896 : Nat) : Int) := by decide
theorem kN_900 : (900 : Int32).toNatClampNeg = 900 := by decide
theorem kT_900 : (900 : Int32).toInt = ((900 : Nat) : Int) := by decide
theorem kN_999 : (999 : Int32).toNatClampNeg = 999 := by decide
theorem kT_999 : (999 : Int32).toInt = ((999 : Nat) : Int) := by decide
theorem kN_1000 : (1000 : Int32).toNatClampNeg = 1000 := by decide
theorem kT_1000 : (1000 : Int32).toInt = ((1000 : Nat) : Int) := by decide
theorem kN_2880 : (2880 : Int32).toNatClampNeg = 2880 := by decide
theorem kT_2880 : (2880 : Int32).toInt = ((2880 : Nat) : Int) := by decide
theorem kN_5376 : (5376 : Int32).toNatClampNeg = 5376 := by decide
theorem kT_5376 : (5376 : Int32).toInt = ((5376 : Nat) : Int) := by decide
theorem kN_9000 : (9000 : Int32).toNatClampNeg = 9000 := by decide
theorem kT_9000 : (9000 : Int32).toInt = ((9000 : Nat) : Int) := by decide
theorem kN_9999 : (9999 : Int32).toNatClampNeg = 9999 := by decide
theorem kT_9999 : (9999 : Int32).toInt = ((9999 : Nat) : Int) := by decide
def Db {P E R : Type} (f : P → Except E R) [∀ p r, Decidable (f p = .ok r)] : List (P × R) → Bool
  | [] => true
  | p :: r => decide (f p.1 = .ok p.2) && Db f r
abbrev Dl {P E R : Type} (f : P → Except E R) [∀ p r, Decidable (f p = .ok r)] (l : List (P × R)) : Prop := Db f l = true
theorem Dl.h {P E R : Type} {f : P → Except E R} [∀ p r, Decidable (f p = .ok r)] {p : P × R} {r : List (P × R)} (h : Dl f (p :: r)) : f p.1 = .ok p.2 := by
  simp only [Dl, Db, Bool.and_eq_true, decide_eq_true_eq] at h; exact h.1
theorem Dl.t {P E R : Type} {f : P → Except E R} [∀ p r, Decidable (f p = .ok r)] {p : P × R} {r : List (P × R)} (h : Dl f (p :: r)) : Dl f r := by
  simp only [Dl, Db, Bool.and_eq_true, decide_eq_true_eq] at h; exact h.2
theorem Dl.at {P E R : Type} {f : P → Except E R} [∀ p r, Decidable (f p = .ok r)] {p : P} {q : R} : ∀ {l : List (P × R)} (_ : Dl f l) (n : Nat) (_ : l[n]? = some (p, q)), f p = .ok q
  | [], _, n, e => by simp at e
  | x :: r, h, 0, e => by
    simp only [List.getElem?_cons_zero, Option.some.injEq] at e
    have := h.h; rw [e] at this; exact this
  | x :: r, h, n + 1, e => by
    simp only [List.getElem?_cons_succ] at e
    exact Dl.at h.t n e
