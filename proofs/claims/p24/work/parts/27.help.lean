noncomputable def fn_X9_isSet (x : Int32) (I : Iv) (J : Jv) : Int32 × Iv × Jv :=
  if x < 0 then ((0 : Int32), I, J) else if (127 : Int32) < x then ((0 : Int32), I, J) else ((1 : Int32), I, J)
set_option maxRecDepth 100000 in
set_option maxHeartbeats 4000000 in
theorem ct_X9_isSet (x : Int32) (I : Iv) (J : Jv)  : Ct m_X9_isSet [.int x] SHF I J (fun r S' I' J' => S' = SHF ∧ I = I' ∧ J = J' ∧ ∃ v : Int32, r = some (.int v) ∧ (v = 0 ∨ v = 1) ∧ fn_X9_isSet x I J = (v, I', J') ∧ (v = 1 → 0 ≤ x ∧ x ≤ 127) ∧ (v = 0 → ¬ (0 ≤ x ∧ x ≤ 127))) := by
  refine ct_of 0 (by decide +kernel) rfl rfl ?_
  have hF := fe_of (fn_X9_isSet.eq_1 x I J)
  refine g_iload_n d_X9_isSet_0 rfl ?_
  refine g_if_lt d_X9_isSet_1 (fun h1 => ?_) (fun h1 => ?_)
  · skip
    replace hF := fe_pos hF h1
    refine g_iconst (v := 0) d_X9_isSet_14 kI_0 ?_
    exact g_ireturn d_X9_isSet_15 rfl rfl rfl rfl ⟨rfl, rfl, rfl, (0 : Int32), rfl, Or.inl rfl, hF, by grind⟩
  · skip
    replace hF := fe_neg hF h1
    refine g_iload_n d_X9_isSet_4 rfl ?_
    refine g_bipush (v := 127) d_X9_isSet_5 kB_127 ?_
    refine g_icmp_gt d_X9_isSet_7 (fun h7 => ?_) (fun h7 => ?_)
    · skip
      replace hF := fe_pos hF h7
      refine g_iconst (v := 0) d_X9_isSet_14 kI_0 ?_
      exact g_ireturn d_X9_isSet_15 rfl rfl rfl rfl ⟨rfl, rfl, rfl, (0 : Int32), rfl, Or.inl rfl, hF, by grind⟩
    · skip
      replace hF := fe_neg hF h7
      refine g_iconst (v := 1) d_X9_isSet_10 kI_1 ?_
      refine g_goto d_X9_isSet_11 ?_
      exact g_ireturn d_X9_isSet_15 rfl rfl rfl rfl ⟨rfl, rfl, rfl, (1 : Int32), rfl, Or.inr rfl, hF, by grind⟩
noncomputable def fn_X9_isTrouble (x : Int32) (I : Iv) (J : Jv) : Int32 × Iv × Jv :=
  if x < 0 then ((0 : Int32), I, J) else if (7 : Int32) ≤ x then ((0 : Int32), I, J) else ((1 : Int32), I, J)
set_option maxRecDepth 100000 in
set_option maxHeartbeats 4000000 in
theorem ct_X9_isTrouble (x : Int32) (I : Iv) (J : Jv)  : Ct m_X9_isTrouble [.int x] SHF I J (fun r S' I' J' => S' = SHF ∧ I = I' ∧ J = J' ∧ ∃ v : Int32, r = some (.int v) ∧ (v = 0 ∨ v = 1) ∧ fn_X9_isTrouble x I J = (v, I', J') ∧ (v = 1 → 0 ≤ x ∧ x ≤ 6) ∧ (v = 0 → ¬ (0 ≤ x ∧ x ≤ 6))) := by
  refine ct_of 0 (by decide +kernel) rfl rfl ?_
  have hF := fe_of (fn_X9_isTrouble.eq_1 x I J)
  refine g_iload_n d_X9_isTrouble_0 rfl ?_
  refine g_if_lt d_X9_isTrouble_1 (fun h1 => ?_) (fun h1 => ?_)
  · skip
    replace hF := fe_pos hF h1
    refine g_iconst (v := 0) d_X9_isTrouble_14 kI_0 ?_
    exact g_ireturn d_X9_isTrouble_15 rfl rfl rfl rfl ⟨rfl, rfl, rfl, (0 : Int32), rfl, Or.inl rfl, hF, by grind⟩
  · skip
    replace hF := fe_neg hF h1
    refine g_iload_n d_X9_isTrouble_4 rfl ?_
    refine g_bipush (v := 7) d_X9_isTrouble_5 kB_7 ?_
    refine g_icmp_ge d_X9_isTrouble_7 (fun h7 => ?_) (fun h7 => ?_)
    · skip
      replace hF := fe_pos hF h7
      refine g_iconst (v := 0) d_X9_isTrouble_14 kI_0 ?_
      exact g_ireturn d_X9_isTrouble_15 rfl rfl rfl rfl ⟨rfl, rfl, rfl, (0 : Int32), rfl, Or.inl rfl, hF, by grind⟩
    · skip
      replace hF := fe_neg hF h7
      refine g_iconst (v := 1) d_X9_isTrouble_10 kI_1 ?_
      refine g_goto d_X9_isTrouble_11 ?_
      exact g_ireturn d_X9_isTrouble_15 rfl rfl rfl rfl ⟨rfl, rfl, rfl, (1 : Int32), rfl, Or.inr rfl, hF, by grind⟩
noncomputable def fn_X9_isSign (x : Int32) (I : Iv) (J : Jv) : Int32 × Iv × Jv :=
  if x < 0 then ((0 : Int32), I, J) else if (7 : Int32) ≤ x then ((0 : Int32), I, J) else ((1 : Int32), I, J)
set_option maxRecDepth 100000 in
set_option maxHeartbeats 4000000 in
theorem ct_X9_isSign (x : Int32) (I : Iv) (J : Jv)  : Ct m_X9_isSign [.int x] SHF I J (fun r S' I' J' => S' = SHF ∧ I = I' ∧ J = J' ∧ ∃ v : Int32, r = some (.int v) ∧ (v = 0 ∨ v = 1) ∧ fn_X9_isSign x I J = (v, I', J') ∧ (v = 1 → 0 ≤ x ∧ x ≤ 6) ∧ (v = 0 → ¬ (0 ≤ x ∧ x ≤ 6))) := by
  refine ct_of 0 (by decide +kernel) rfl rfl ?_
  have hF := fe_of (fn_X9_isSign.eq_1 x I J)
  refine g_iload_n d_X9_isSign_0 rfl ?_
  refine g_if_lt d_X9_isSign_1 (fun h1 => ?_) (fun h1 => ?_)
  · skip
    replace hF := fe_pos hF h1
    refine g_iconst (v := 0) d_X9_isSign_14 kI_0 ?_
    exact g_ireturn d_X9_isSign_15 rfl rfl rfl rfl ⟨rfl, rfl, rfl, (0 : Int32), rfl, Or.inl rfl, hF, by grind⟩
  · skip
    replace hF := fe_neg hF h1
    refine g_iload_n d_X9_isSign_4 rfl ?_
    refine g_bipush (v := 7) d_X9_isSign_5 kB_7 ?_
    refine g_icmp_ge d_X9_isSign_7 (fun h7 => ?_) (fun h7 => ?_)
    · skip
      replace hF := fe_pos hF h7
      refine g_iconst (v := 0) d_X9_isSign_14 kI_0 ?_
      exact g_ireturn d_X9_isSign_15 rfl rfl rfl rfl ⟨rfl, rfl, rfl, (0 : Int32), rfl, Or.inl rfl, hF, by grind⟩
    · skip
      replace hF := fe_neg hF h7
      refine g_iconst (v := 1) d_X9_isSign_10 kI_1 ?_
      refine g_goto d_X9_isSign_11 ?_
      exact g_ireturn d_X9_isSign_15 rfl rfl rfl rfl ⟨rfl, rfl, rfl, (1 : Int32), rfl, Or.inr rfl, hF, by grind⟩
noncomputable def fn_X9_isShelf (x : Int32) (I : Iv) (J : Jv) : Int32 × Iv × Jv :=
  if x < 0 then ((0 : Int32), I, J) else if (3 : Int32) ≤ x then ((0 : Int32), I, J) else ((1 : Int32), I, J)
set_option maxRecDepth 100000 in
set_option maxHeartbeats 4000000 in
theorem ct_X9_isShelf (x : Int32) (I : Iv) (J : Jv)  : Ct m_X9_isShelf [.int x] SHF I J (fun r S' I' J' => S' = SHF ∧ I = I' ∧ J = J' ∧ ∃ v : Int32, r = some (.int v) ∧ (v = 0 ∨ v = 1) ∧ fn_X9_isShelf x I J = (v, I', J') ∧ (v = 1 → 0 ≤ x ∧ x ≤ 2) ∧ (v = 0 → ¬ (0 ≤ x ∧ x ≤ 2))) := by
  refine ct_of 0 (by decide +kernel) rfl rfl ?_
  have hF := fe_of (fn_X9_isShelf.eq_1 x I J)
  refine g_iload_n d_X9_isShelf_0 rfl ?_
  refine g_if_lt d_X9_isShelf_1 (fun h1 => ?_) (fun h1 => ?_)
  · skip
    replace hF := fe_pos hF h1
    refine g_iconst (v := 0) d_X9_isShelf_13 kI_0 ?_
    exact g_ireturn d_X9_isShelf_14 rfl rfl rfl rfl ⟨rfl, rfl, rfl, (0 : Int32), rfl, Or.inl rfl, hF, by grind⟩
  · skip
    replace hF := fe_neg hF h1
    refine g_iload_n d_X9_isShelf_4 rfl ?_
    refine g_iconst (v := 3) d_X9_isShelf_5 kI_3 ?_
    refine g_icmp_ge d_X9_isShelf_6 (fun h6 => ?_) (fun h6 => ?_)
    · skip
      replace hF := fe_pos hF h6
      refine g_iconst (v := 0) d_X9_isShelf_13 kI_0 ?_
      exact g_ireturn d_X9_isShelf_14 rfl rfl rfl rfl ⟨rfl, rfl, rfl, (0 : Int32), rfl, Or.inl rfl, hF, by grind⟩
    · skip
      replace hF := fe_neg hF h6
      refine g_iconst (v := 1) d_X9_isShelf_9 kI_1 ?_
      refine g_goto d_X9_isShelf_10 ?_
      exact g_ireturn d_X9_isShelf_14 rfl rfl rfl rfl ⟨rfl, rfl, rfl, (1 : Int32), rfl, Or.inr rfl, hF, by grind⟩
noncomputable def fn_X9_isPrice (x : Int32) (I : Iv) (J : Jv) : Int32 × Iv × Jv :=
  if x < 0 then ((0 : Int32), I, J) else if (999 : Int32) < x then ((0 : Int32), I, J) else ((1 : Int32), I, J)
set_option maxRecDepth 100000 in
set_option maxHeartbeats 4000000 in
theorem ct_X9_isPrice (x : Int32) (I : Iv) (J : Jv)  : Ct m_X9_isPrice [.int x] SHF I J (fun r S' I' J' => S' = SHF ∧ I = I' ∧ J = J' ∧ ∃ v : Int32, r = some (.int v) ∧ (v = 0 ∨ v = 1) ∧ fn_X9_isPrice x I J = (v, I', J') ∧ (v = 1 → 0 ≤ x ∧ x ≤ 999) ∧ (v = 0 → ¬ (0 ≤ x ∧ x ≤ 999))) := by
  refine ct_of 0 (by decide +kernel) rfl rfl ?_
  have hF := fe_of (fn_X9_isPrice.eq_1 x I J)
  refine g_iload_n d_X9_isPrice_0 rfl ?_
  refine g_if_lt d_X9_isPrice_1 (fun h1 => ?_) (fun h1 => ?_)
  · skip
    replace hF := fe_pos hF h1
    refine g_iconst (v := 0) d_X9_isPrice_15 kI_0 ?_
    exact g_ireturn d_X9_isPrice_16 rfl rfl rfl rfl ⟨rfl, rfl, rfl, (0 : Int32), rfl, Or.inl rfl, hF, by grind⟩
  · skip
    replace hF := fe_neg hF h1
    refine g_iload_n d_X9_isPrice_4 rfl ?_
    refine g_sipush (v := 999) d_X9_isPrice_5 kS_999 ?_
    refine g_icmp_gt d_X9_isPrice_8 (fun h8 => ?_) (fun h8 => ?_)
    · skip
      replace hF := fe_pos hF h8
      refine g_iconst (v := 0) d_X9_isPrice_15 kI_0 ?_
      exact g_ireturn d_X9_isPrice_16 rfl rfl rfl rfl ⟨rfl, rfl, rfl, (0 : Int32), rfl, Or.inl rfl, hF, by grind⟩
    · skip
      replace hF := fe_neg hF h8
      refine g_iconst (v := 1) d_X9_isPrice_11 kI_1 ?_
      refine g_goto d_X9_isPrice_12 ?_
      exact g_ireturn d_X9_isPrice_16 rfl rfl rfl rfl ⟨rfl, rfl, rfl, (1 : Int32), rfl, Or.inr rfl, hF, by grind⟩
noncomputable def fn_X9_canBeWarmth (x : Int32) (I : Iv) (J : Jv) : Int32 × Iv × Jv :=
  if x < (-3000 : Int32) then ((0 : Int32), I, J) else if (9000 : Int32) < x then ((0 : Int32), I, J) else ((1 : Int32), I, J)
set_option maxRecDepth 100000 in
set_option maxHeartbeats 4000000 in
theorem ct_X9_canBeWarmth (x : Int32) (I : Iv) (J : Jv)  : Ct m_X9_canBeWarmth [.int x] SHF I J (fun r S' I' J' => S' = SHF ∧ I = I' ∧ J = J' ∧ ∃ v : Int32, r = some (.int v) ∧ (v = 0 ∨ v = 1) ∧ fn_X9_canBeWarmth x I J = (v, I', J') ∧ (v = 1 → -3000 ≤ x ∧ x ≤ 9000) ∧ (v = 0 → ¬ (-3000 ≤ x ∧ x ≤ 9000))) := by
  refine ct_of 0 (by decide +kernel) rfl rfl ?_
  have hF := fe_of (fn_X9_canBeWarmth.eq_1 x I J)
  refine g_iload_n d_X9_canBeWarmth_0 rfl ?_
  refine g_sipush (v := -3000) d_X9_canBeWarmth_1 kS_m3000 ?_
  refine g_icmp_lt d_X9_canBeWarmth_4 (fun h4 => ?_) (fun h4 => ?_)
  · skip
    replace hF := fe_pos hF h4
    refine g_iconst (v := 0) d_X9_canBeWarmth_18 kI_0 ?_
    exact g_ireturn d_X9_canBeWarmth_19 rfl rfl rfl rfl ⟨rfl, rfl, rfl, (0 : Int32), rfl, Or.inl rfl, hF, by grind⟩
  · skip
    replace hF := fe_neg hF h4
    refine g_iload_n d_X9_canBeWarmth_7 rfl ?_
    refine g_sipush (v := 9000) d_X9_canBeWarmth_8 kS_9000 ?_
    refine g_icmp_gt d_X9_canBeWarmth_11 (fun h11 => ?_) (fun h11 => ?_)
    · skip
      replace hF := fe_pos hF h11
      refine g_iconst (v := 0) d_X9_canBeWarmth_18 kI_0 ?_
      exact g_ireturn d_X9_canBeWarmth_19 rfl rfl rfl rfl ⟨rfl, rfl, rfl, (0 : Int32), rfl, Or.inl rfl, hF, by grind⟩
    · skip
      replace hF := fe_neg hF h11
      refine g_iconst (v := 1) d_X9_canBeWarmth_14 kI_1 ?_
      refine g_goto d_X9_canBeWarmth_15 ?_
      exact g_ireturn d_X9_canBeWarmth_19 rfl rfl rfl rfl ⟨rfl, rfl, rfl, (1 : Int32), rfl, Or.inr rfl, hF, by grind⟩
noncomputable def fn_X9_areSignDays (x : Int32) (I : Iv) (J : Jv) : Int32 × Iv × Jv :=
  if x < (1 : Int32) then ((0 : Int32), I, J) else if (6 : Int32) < x then ((0 : Int32), I, J) else ((1 : Int32), I, J)
set_option maxRecDepth 100000 in
set_option maxHeartbeats 4000000 in
theorem ct_X9_areSignDays (x : Int32) (I : Iv) (J : Jv)  : Ct m_X9_areSignDays [.int x] SHF I J (fun r S' I' J' => S' = SHF ∧ I = I' ∧ J = J' ∧ ∃ v : Int32, r = some (.int v) ∧ (v = 0 ∨ v = 1) ∧ fn_X9_areSignDays x I J = (v, I', J') ∧ (v = 1 → 1 ≤ x ∧ x ≤ 6) ∧ (v = 0 → ¬ (1 ≤ x ∧ x ≤ 6))) := by
  refine ct_of 0 (by decide +kernel) rfl rfl ?_
  have hF := fe_of (fn_X9_areSignDays.eq_1 x I J)
  refine g_iload_n d_X9_areSignDays_0 rfl ?_
  refine g_iconst (v := 1) d_X9_areSignDays_1 kI_1 ?_
  refine g_icmp_lt d_X9_areSignDays_2 (fun h2 => ?_) (fun h2 => ?_)
  · skip
    replace hF := fe_pos hF h2
    refine g_iconst (v := 0) d_X9_areSignDays_15 kI_0 ?_
    exact g_ireturn d_X9_areSignDays_16 rfl rfl rfl rfl ⟨rfl, rfl, rfl, (0 : Int32), rfl, Or.inl rfl, hF, by grind⟩
  · skip
    replace hF := fe_neg hF h2
    refine g_iload_n d_X9_areSignDays_5 rfl ?_
    refine g_bipush (v := 6) d_X9_areSignDays_6 kB_6 ?_
    refine g_icmp_gt d_X9_areSignDays_8 (fun h8 => ?_) (fun h8 => ?_)
    · skip
      replace hF := fe_pos hF h8
      refine g_iconst (v := 0) d_X9_areSignDays_15 kI_0 ?_
      exact g_ireturn d_X9_areSignDays_16 rfl rfl rfl rfl ⟨rfl, rfl, rfl, (0 : Int32), rfl, Or.inl rfl, hF, by grind⟩
    · skip
      replace hF := fe_neg hF h8
      refine g_iconst (v := 1) d_X9_areSignDays_11 kI_1 ?_
      refine g_goto d_X9_areSignDays_12 ?_
      exact g_ireturn d_X9_areSignDays_16 rfl rfl rfl rfl ⟨rfl, rfl, rfl, (1 : Int32), rfl, Or.inr rfl, hF, by grind⟩
noncomputable def fn_X9_isPart (part : Int32) (set : Int32) (I : Iv) (J : Jv) : Int32 × Iv × Jv :=
  if (part &&& set) = part then ((1 : Int32), I, J) else ((0 : Int32), I, J)
set_option maxRecDepth 100000 in
set_option maxHeartbeats 4000000 in
theorem ct_X9_isPart (part : Int32) (set : Int32) (I : Iv) (J : Jv)  : Ct m_X9_isPart [.int part, .int set] SHF I J (fun r S' I' J' => S' = SHF ∧ I = I' ∧ J = J' ∧ ∃ v : Int32, r = some (.int v) ∧ (v = 0 ∨ v = 1) ∧ fn_X9_isPart part set I J = (v, I', J')) := by
  refine ct_of 0 (by decide +kernel) rfl rfl ?_
  have hF := fe_of (fn_X9_isPart.eq_1 part set I J)
  refine g_iload_n d_X9_isPart_0 rfl ?_
  refine g_iload_n d_X9_isPart_1 rfl ?_
  refine g_iand d_X9_isPart_2 ?_
  refine g_iload_n d_X9_isPart_3 rfl ?_
  refine g_icmp_ne d_X9_isPart_4 (fun h4 => ?_) (fun h4 => ?_)
  · skip
    replace hF := fe_neg hF h4
    refine g_iconst (v := 0) d_X9_isPart_11 kI_0 ?_
    exact g_ireturn d_X9_isPart_12 rfl rfl rfl rfl ⟨rfl, rfl, rfl, (0 : Int32), rfl, Or.inl rfl, hF⟩
  · skip
    replace hF := fe_pos hF h4
    refine g_iconst (v := 1) d_X9_isPart_7 kI_1 ?_
    refine g_goto d_X9_isPart_8 ?_
    exact g_ireturn d_X9_isPart_12 rfl rfl rfl rfl ⟨rfl, rfl, rfl, (1 : Int32), rfl, Or.inr rfl, hF⟩
noncomputable def fl_X3_copyFrom_103_2 (J : Jv) (x7 : Int32) (Kf2 : Int32 → Iv → Iv × Jv) : Nat → Int32 → Iv → Iv × Jv
  | 0, x18, I19 => (I19, J)
  | kf2 + 1, x18, I19 => if ((I19 10 x7.toNatClampNeg) + (I19 11 x7.toNatClampNeg)) ≤ x18 then Kf2 x18 I19 else if (288 : Int32) ≤ x18 then Kf2 x18 I19 else l_t (wI I19 12 (x18.toNatClampNeg) (1 : Int32)) (fun (I21 : Iv) => fl_X3_copyFrom_103_2 J x7 Kf2 kf2 (x18 + (1 : Int32)) I21)
noncomputable def fl_X3_copyFrom_33_1 (J : Jv) (n : Int32) (Kf1 : Int32 → Iv → Iv × Jv) : Nat → Int32 → Iv → Iv × Jv
  | 0, x7, I8 => (I8, J)
  | kf1 + 1, x7, I8 => if n ≤ x7 then Kf1 x7 I8 else if (12 : Int32) ≤ x7 then Kf1 x7 I8 else if (12 : Int32) ≤ x7 then Kf1 x7 I8 else if (12 : Int32) ≤ x7 then Kf1 x7 I8 else l_t (wI I8 10 (x7.toNatClampNeg) (I8 5 x7.toNatClampNeg)) (fun (I11 : Iv) => l_t (wI I11 11 (x7.toNatClampNeg) (I11 6 x7.toNatClampNeg)) (fun (I13 : Iv) => l_t (wI I13 9 0 (x7 + (1 : Int32))) (fun (I15 : Iv) => l_t ((if (I15 10 x7.toNatClampNeg) < (0 : Int32) then (0 : Int32) else (I15 10 x7.toNatClampNeg))) (fun (v17 : Int32) => fl_X3_copyFrom_103_2 J x7 (fun (x18 : Int32) (I19 : Iv) => fl_X3_copyFrom_33_1 J n Kf1 kf1 (x7 + (1 : Int32)) I19) (mU 288 v17 + 1) v17 I15))))
noncomputable def fl_X3_copyFrom_3_0 (J : Jv) (Kf0 : Int32 → Iv → Iv × Jv) : Nat → Int32 → Iv → Iv × Jv
  | 0, x1, I2 => (I2, J)
  | kf0 + 1, x1, I2 => if (288 : Int32) ≤ x1 then Kf0 x1 I2 else l_t (wI I2 12 (x1.toNatClampNeg) (0 : Int32)) (fun (I23 : Iv) => fl_X3_copyFrom_3_0 J Kf0 kf0 (x1 + (1 : Int32)) I23)
noncomputable def fn_X3_copyFrom (n : Int32) (I : Iv) (J : Jv) : Iv × Jv :=
  fl_X3_copyFrom_3_0 J (fun (x1 : Int32) (I2 : Iv) => l_t (wI I2 9 0 (0 : Int32)) (fun (I5 : Iv) => fl_X3_copyFrom_33_1 J n (fun (x7 : Int32) (I8 : Iv) => (I8, J)) (mU n ((0 : Int32)) + 1) (0 : Int32) I5)) (mU (288 : Int32) ((0 : Int32)) + 1) (0 : Int32) I
set_option maxRecDepth 100000 in
set_option maxHeartbeats 4000000 in
theorem ct_X3_copyFrom (n : Int32) (I : Iv) (J : Jv)  : Ct m_X3_copyFrom [.ref 9, .int n, .ref 5, .ref 6] SHF I J (fun r S' I' J' => S' = SHF ∧ XT I' J' = XT I J ∧ r = none ∧ fn_X3_copyFrom n I J = (I', J')) := by
  refine ct_of 2 (by decide +kernel) rfl rfl ?_
  have hK0 : XT I J = XT I J := rfl
  have hF := fe_of (fn_X3_copyFrom.eq_1 n I J)
  refine g_iconst (v := 0) d_X3_copyFrom_0 kI_0 ?_
  refine g_istore (L' := [some (.ref 9), some (.int n), some (.ref 5), some (.ref 6), some (.int (0 : Int32)), none]) d_X3_copyFrom_1 (by decide) rfl ?_
  obtain ⟨Kf0, hKf0, hF⟩ := fe_kx (f := fun K => fl_X3_copyFrom_3_0 J K (mU (288 : Int32) ((0 : Int32)) + 1) (0 : Int32) I) hF
  have K_3 : ∀ (nu : Nat) (x1 : Int32) (I2 : Iv), mU (288 : Int32) x1 = nu → (XT I2 J = XT I J) → ((0 : Int32) ≤ x1) → (∃ kq : Nat, nu < kq ∧ (fun kq => FE (fn_X3_copyFrom n I J) (fun _ => fl_X3_copyFrom_3_0 J Kf0 kq x1 I2)) kq) → G m_X3_copyFrom (rq m_X3_copyFrom (fun r S' I' J' => S' = SHF ∧ XT I' J' = XT I J ∧ r = none ∧ fn_X3_copyFrom n I J = (I', J'))) 0 0 3 [some (.ref 9), some (.int n), some (.ref 5), some (.ref 6), some (.int x1), none] [] SHF I2 J := by
    intro nu
    induction nu using Nat.strongRecOn with
    | ind nu ih_3 =>
      intro x1 I2 hmu_3 hK3 hl4 hF_Kf0
      obtain ⟨kf0, hkf0, hF⟩ := fe_fu (P := fun kq => FE (fn_X3_copyFrom n I J) (fun _ => fl_X3_copyFrom_3_0 J Kf0 kq x1 I2)) hF_Kf0
      replace hF := fe_eq hF (fl_X3_copyFrom_3_0.eq_2 _ _ _ _ _)
      refine g_iload d_X3_copyFrom_3 rfl ?_
      refine g_sipush (v := 288) d_X3_copyFrom_5 kS_288 ?_
      refine g_icmp_ge d_X3_copyFrom_8 (fun h8 => ?_) (fun h8 => ?_)
      · skip
        replace hF := fe_pos hF h8
        replace hF := fe_eq hF (congrFun (congrFun hKf0 x1) I2)
        refine g_aload_n d_X3_copyFrom_25 rfl ?_
        refine g_iconst (v := 0) d_X3_copyFrom_26 kI_0 ?_
        refine g_putI d_X3_copyFrom_27 fq_RX3_22 rfl rfl ?_
        refine g_nmI (fun I5 eI5 => ?_)
        replace hF := fe_lt hF eI5
        have hK6 : XT I5 J = XT I J := (by rw [eI5]; exact (xt_wI rfl).trans hK3)
        refine g_iconst (v := 0) d_X3_copyFrom_30 kI_0 ?_
        refine g_istore (L' := [some (.ref 9), some (.int n), some (.ref 5), some (.ref 6), some (.int (0 : Int32)), none]) d_X3_copyFrom_31 (by decide) rfl ?_
        obtain ⟨Kf1, hKf1, hF⟩ := fe_kx (f := fun K => fl_X3_copyFrom_33_1 J n K (mU n ((0 : Int32)) + 1) (0 : Int32) I5) hF
        have K_33 : ∀ (nu : Nat) (x7 : Int32) (I8 : Iv), mU n x7 = nu → (XT I8 J = XT I J) → ((0 : Int32) ≤ x7) → (∃ kq : Nat, nu < kq ∧ (fun kq => FE (fn_X3_copyFrom n I J) (fun _ => fl_X3_copyFrom_33_1 J n Kf1 kq x7 I8)) kq) → G m_X3_copyFrom (rq m_X3_copyFrom (fun r S' I' J' => S' = SHF ∧ XT I' J' = XT I J ∧ r = none ∧ fn_X3_copyFrom n I J = (I', J'))) 0 0 33 [some (.ref 9), some (.int n), some (.ref 5), some (.ref 6), some (.int x7), none] [] SHF I8 J := by
          intro nu
          induction nu using Nat.strongRecOn with
          | ind nu ih_33 =>
            intro x7 I8 hmu_33 hK9 hl10 hF_Kf1
            obtain ⟨kf1, hkf1, hF⟩ := fe_fu (P := fun kq => FE (fn_X3_copyFrom n I J) (fun _ => fl_X3_copyFrom_33_1 J n Kf1 kq x7 I8)) hF_Kf1
            replace hF := fe_eq hF (fl_X3_copyFrom_33_1.eq_2 _ _ _ _ _ _)
            refine g_iload d_X3_copyFrom_33 rfl ?_
            refine g_iload_n d_X3_copyFrom_35 rfl ?_
            refine g_icmp_ge d_X3_copyFrom_36 (fun h36 => ?_) (fun h36 => ?_)
            · skip
              replace hF := fe_pos hF h36
              replace hF := fe_eq hF (congrFun (congrFun hKf1 x7) I8)
              exact g_return d_X3_copyFrom_151 rfl rfl rfl ⟨rfl, hK9, rfl, hF⟩
            · skip
              replace hF := fe_neg hF h36
              refine g_iload d_X3_copyFrom_39 rfl ?_
              refine g_bipush (v := 12) d_X3_copyFrom_41 kB_12 ?_
              refine g_icmp_ge d_X3_copyFrom_43 (fun h43 => ?_) (fun h43 => ?_)
              · skip
                replace hF := fe_pos hF h43
                replace hF := fe_eq hF (congrFun (congrFun hKf1 x7) I8)
                exact g_return d_X3_copyFrom_151 rfl rfl rfl ⟨rfl, hK9, rfl, hF⟩
              · skip
                replace hF := fe_neg hF h43
                refine g_iload d_X3_copyFrom_46 rfl ?_
                refine g_aload_n d_X3_copyFrom_48 rfl ?_
                refine g_alen (v := 12) d_X3_copyFrom_49 rfl (Or.inl rfl) rfl ?_
                refine g_icmp_ge d_X3_copyFrom_50 (fun h50 => ?_) (fun h50 => ?_)
                · skip
                  replace hF := fe_pos hF h50
                  replace hF := fe_eq hF (congrFun (congrFun hKf1 x7) I8)
                  exact g_return d_X3_copyFrom_151 rfl rfl rfl ⟨rfl, hK9, rfl, hF⟩
                · skip
                  replace hF := fe_neg hF h50
                  refine g_iload d_X3_copyFrom_53 rfl ?_
                  refine g_aload_n d_X3_copyFrom_55 rfl ?_
                  refine g_alen (v := 12) d_X3_copyFrom_56 rfl (Or.inl rfl) rfl ?_
                  refine g_icmp_ge d_X3_copyFrom_57 (fun h57 => ?_) (fun h57 => ?_)
                  · skip
                    replace hF := fe_pos hF h57
                    replace hF := fe_eq hF (congrFun (congrFun hKf1 x7) I8)
                    exact g_return d_X3_copyFrom_151 rfl rfl rfl ⟨rfl, hK9, rfl, hF⟩
                  · skip
                    replace hF := fe_neg hF h57
                    refine g_aload_n d_X3_copyFrom_60 rfl ?_
                    refine g_getR d_X3_copyFrom_61 fq_RX3_9 rfl rfl ?_
                    refine g_iload d_X3_copyFrom_64 rfl ?_
                    refine g_aload_n d_X3_copyFrom_66 rfl ?_
                    refine g_iload d_X3_copyFrom_67 rfl ?_
                    refine g_iaload (N := 12) d_X3_copyFrom_69 rfl kT_12 (by constructor <;> grind) rfl ?_
                    refine g_iastore (N := 12) d_X3_copyFrom_70 rfl kT_12 (by constructor <;> grind) rfl  ?_
                    refine g_nmI (fun I11 eI11 => ?_)
                    replace hF := fe_lt hF eI11
                    have hK12 : XT I11 J = XT I J := (by rw [eI11]; exact (xt_wI rfl).trans hK9)
                    refine g_aload_n d_X3_copyFrom_71 rfl ?_
                    refine g_getR d_X3_copyFrom_72 fq_RX3_15 rfl rfl ?_
                    refine g_iload d_X3_copyFrom_75 rfl ?_
                    refine g_aload_n d_X3_copyFrom_77 rfl ?_
                    refine g_iload d_X3_copyFrom_78 rfl ?_
                    refine g_iaload (N := 12) d_X3_copyFrom_80 rfl kT_12 (by constructor <;> grind) rfl ?_
                    refine g_iastore (N := 12) d_X3_copyFrom_81 rfl kT_12 (by constructor <;> grind) rfl  ?_
                    refine g_nmI (fun I13 eI13 => ?_)
                    replace hF := fe_lt hF eI13
                    have hK14 : XT I13 J = XT I J := (by rw [eI13]; exact (xt_wI rfl).trans hK12)
                    refine g_aload_n d_X3_copyFrom_82 rfl ?_
                    refine g_iload d_X3_copyFrom_83 rfl ?_
                    refine g_iconst (v := 1) d_X3_copyFrom_85 kI_1 ?_
                    refine g_iadd d_X3_copyFrom_86 ?_
                    refine g_putI d_X3_copyFrom_87 fq_RX3_22 rfl rfl ?_
                    refine g_nmI (fun I15 eI15 => ?_)
                    replace hF := fe_lt hF eI15
                    have hK16 : XT I15 J = XT I J := (by rw [eI15]; exact (xt_wI rfl).trans hK14)
                    refine g_aload_n d_X3_copyFrom_90 rfl ?_
                    refine g_getR d_X3_copyFrom_91 fq_RX3_9 rfl rfl ?_
                    refine g_iload d_X3_copyFrom_94 rfl ?_
                    refine g_iaload (N := 12) d_X3_copyFrom_96 rfl kT_12 (by constructor <;> grind) rfl ?_
                    refine g_iconst (v := 0) d_X3_copyFrom_97 kI_0 ?_
                    refine g_mmax d_X3_copyFrom_98 tw_554 tw_555 tw_18 tw_556 ⟨by decide, by decide⟩ ⟨Nat.zero_le _, Nat.zero_le _⟩ (Nat.le_of_ble_eq_true rfl) ?_
                    refine g_topI (fun v17 ev17 => ?_)
                    replace hF := fe_lt hF ev17
                    refine g_istore (L' := [some (.ref 9), some (.int n), some (.ref 5), some (.ref 6), some (.int x7), some (.int v17)]) d_X3_copyFrom_101 (by decide) rfl ?_
                    obtain ⟨Kf2, hKf2, hF⟩ := fe_kx (f := fun K => fl_X3_copyFrom_103_2 J x7 K (mU 288 v17 + 1) v17 I15) hF
                    have K_103 : ∀ (nu : Nat) (x18 : Int32) (I19 : Iv), mU 288 x18 = nu → (XT I19 J = XT I J) → (0 ≤ x18) → (∃ kq : Nat, nu < kq ∧ (fun kq => FE (fn_X3_copyFrom n I J) (fun _ => fl_X3_copyFrom_103_2 J x7 Kf2 kq x18 I19)) kq) → G m_X3_copyFrom (rq m_X3_copyFrom (fun r S' I' J' => S' = SHF ∧ XT I' J' = XT I J ∧ r = none ∧ fn_X3_copyFrom n I J = (I', J'))) 0 0 103 [some (.ref 9), some (.int n), some (.ref 5), some (.ref 6), some (.int x7), some (.int x18)] [] SHF I19 J := by
                      intro nu
                      induction nu using Nat.strongRecOn with
                      | ind nu ih_103 =>
                        intro x18 I19 hmu_103 hK20 ht_103 hF_Kf2
                        obtain ⟨kf2, hkf2, hF⟩ := fe_fu (P := fun kq => FE (fn_X3_copyFrom n I J) (fun _ => fl_X3_copyFrom_103_2 J x7 Kf2 kq x18 I19)) hF_Kf2
                        replace hF := fe_eq hF (fl_X3_copyFrom_103_2.eq_2 _ _ _ _ _ _)
                        refine g_iload d_X3_copyFrom_103 rfl ?_
                        refine g_aload_n d_X3_copyFrom_105 rfl ?_
                        refine g_getR d_X3_copyFrom_106 fq_RX3_9 rfl rfl ?_
                        refine g_iload d_X3_copyFrom_109 rfl ?_
                        refine g_iaload (N := 12) d_X3_copyFrom_111 rfl kT_12 (by constructor <;> grind) rfl ?_
                        refine g_aload_n d_X3_copyFrom_112 rfl ?_
                        refine g_getR d_X3_copyFrom_113 fq_RX3_15 rfl rfl ?_
                        refine g_iload d_X3_copyFrom_116 rfl ?_
                        refine g_iaload (N := 12) d_X3_copyFrom_118 rfl kT_12 (by constructor <;> grind) rfl ?_
                        refine g_iadd d_X3_copyFrom_119 ?_
                        refine g_icmp_ge d_X3_copyFrom_120 (fun h120 => ?_) (fun h120 => ?_)
                        · skip
                          replace hF := fe_pos hF h120
                          replace hF := fe_eq hF (congrFun (congrFun hKf2 x18) I19)
                          refine g_iinc (v := (x7 + (1 : Int32))) (L' := [some (.ref 9), some (.int n), some (.ref 5), some (.ref 6), some (.int (x7 + (1 : Int32))), some (.int x18)]) d_X3_copyFrom_145 rfl (by rw [kI_1]) (by decide) rfl ?_
                          refine g_goto d_X3_copyFrom_148 ?_
                          refine g_sb [some (.ref 9), some (.int n), some (.ref 5), some (.ref 6), some (.int (x7 + (1 : Int32))), none] (by simp [subL]) ?_
                          exact ih_33 _ (by rw [← hmu_33]; exact mu_up h36) (x7 + (1 : Int32)) I19 rfl hK20 (lo_up hl10 h36) ⟨kf1, Nat.lt_of_lt_of_le (by rw [← hmu_33]; exact mu_up h36) hkf1, hF⟩
                        · skip
                          replace hF := fe_neg hF h120
                          refine g_iload d_X3_copyFrom_123 rfl ?_
                          refine g_sipush (v := 288) d_X3_copyFrom_125 kS_288 ?_
                          refine g_icmp_ge d_X3_copyFrom_128 (fun h128 => ?_) (fun h128 => ?_)
                          · skip
                            replace hF := fe_pos hF h128
                            replace hF := fe_eq hF (congrFun (congrFun hKf2 x18) I19)
                            refine g_iinc (v := (x7 + (1 : Int32))) (L' := [some (.ref 9), some (.int n), some (.ref 5), some (.ref 6), some (.int (x7 + (1 : Int32))), some (.int x18)]) d_X3_copyFrom_145 rfl (by rw [kI_1]) (by decide) rfl ?_
                            refine g_goto d_X3_copyFrom_148 ?_
                            refine g_sb [some (.ref 9), some (.int n), some (.ref 5), some (.ref 6), some (.int (x7 + (1 : Int32))), none] (by simp [subL]) ?_
                            exact ih_33 _ (by rw [← hmu_33]; exact mu_up h36) (x7 + (1 : Int32)) I19 rfl hK20 (lo_up hl10 h36) ⟨kf1, Nat.lt_of_lt_of_le (by rw [← hmu_33]; exact mu_up h36) hkf1, hF⟩
                          · skip
                            replace hF := fe_neg hF h128
                            refine g_aload_n d_X3_copyFrom_131 rfl ?_
                            refine g_getR d_X3_copyFrom_132 fq_RX3_18 rfl rfl ?_
                            refine g_iload d_X3_copyFrom_135 rfl ?_
                            refine g_iconst (v := 1) d_X3_copyFrom_137 kI_1 ?_
                            refine g_bastore (N := 288) d_X3_copyFrom_138 rfl kT_288 (by constructor <;> grind) rfl (Or.inr rfl) ?_
                            refine g_nmI (fun I21 eI21 => ?_)
                            replace hF := fe_lt hF eI21
                            have hK22 : XT I21 J = XT I J := (by rw [eI21]; exact (xt_wI rfl).trans hK20)
                            refine g_iinc (v := (x18 + (1 : Int32))) (L' := [some (.ref 9), some (.int n), some (.ref 5), some (.ref 6), some (.int x7), some (.int (x18 + (1 : Int32)))]) d_X3_copyFrom_139 rfl (by rw [kI_1]) (by decide) rfl ?_
                            refine g_goto d_X3_copyFrom_142 ?_
                            exact ih_103 _ (by rw [← hmu_103]; exact mu_up h128) (x18 + (1 : Int32)) I21 rfl hK22 (by grind) ⟨kf2, Nat.lt_of_lt_of_le (by rw [← hmu_103]; exact mu_up h128) hkf2, hF⟩
                    exact K_103 _ v17 I15 rfl hK16 (by rw [ev17]; split <;> grind) ⟨_, Nat.lt_succ_self _, hF⟩
        exact K_33 _ (0 : Int32) I5 rfl hK6 (Int32.le_refl _) ⟨_, Nat.lt_succ_self _, hF⟩
      · skip
        replace hF := fe_neg hF h8
        refine g_aload_n d_X3_copyFrom_11 rfl ?_
        refine g_getR d_X3_copyFrom_12 fq_RX3_18 rfl rfl ?_
        refine g_iload d_X3_copyFrom_15 rfl ?_
        refine g_iconst (v := 0) d_X3_copyFrom_17 kI_0 ?_
        refine g_bastore (N := 288) d_X3_copyFrom_18 rfl kT_288 ⟨hl4, Int32.not_le.mp h8⟩ rfl (Or.inl rfl) ?_
        refine g_nmI (fun I23 eI23 => ?_)
        replace hF := fe_lt hF eI23
        have hK24 : XT I23 J = XT I J := (by rw [eI23]; exact (xt_wI rfl).trans hK3)
        refine g_iinc (v := (x1 + (1 : Int32))) (L' := [some (.ref 9), some (.int n), some (.ref 5), some (.ref 6), some (.int (x1 + (1 : Int32))), none]) d_X3_copyFrom_19 rfl (by rw [kI_1]) (by decide) rfl ?_
        refine g_goto d_X3_copyFrom_22 ?_
        exact ih_3 _ (by rw [← hmu_3]; exact mu_up h8) (x1 + (1 : Int32)) I23 rfl hK24 (lo_up hl4 h8) ⟨kf0, Nat.lt_of_lt_of_le (by rw [← hmu_3]; exact mu_up h8) hkf0, hF⟩
  exact K_3 _ (0 : Int32) I rfl hK0 (Int32.le_refl _) ⟨_, Nat.lt_succ_self _, hF⟩
noncomputable def fn_X0_copyFrom (I : Iv) (J : Jv) : Iv × Jv :=
  if (15 : Int32) = (15 : Int32) then l_t (cI I 8 15 (I 4)) (fun (I1 : Iv) => (I1, J)) else (I, J)
set_option maxRecDepth 100000 in
set_option maxHeartbeats 4000000 in
theorem ct_X0_copyFrom  (I : Iv) (J : Jv)  : Ct m_X0_copyFrom [.ref 7, .ref 4] SHF I J (fun r S' I' J' => S' = SHF ∧ XT I' J' = XT I J ∧ r = none ∧ fn_X0_copyFrom I J = (I', J')) := by
  refine ct_of 0 (by decide +kernel) rfl rfl ?_
  have hK0 : XT I J = XT I J := rfl
  have hF := fe_of (fn_X0_copyFrom.eq_1 I J)
  refine g_aload_n d_X0_copyFrom_0 rfl ?_
  refine g_alen (v := 15) d_X0_copyFrom_1 rfl (Or.inl rfl) rfl ?_
  refine g_bipush (v := 15) d_X0_copyFrom_2 kB_15 ?_
  refine g_icmp_ne d_X0_copyFrom_4 (fun h4 => ?_) (fun h4 => ?_)
  · skip
    replace hF := fe_neg hF h4
    exact g_return d_X0_copyFrom_19 rfl rfl rfl ⟨rfl, hK0, rfl, hF⟩
  · skip
    replace hF := fe_pos hF h4
    refine g_aload_n d_X0_copyFrom_7 rfl ?_
    refine g_iconst (v := 0) d_X0_copyFrom_8 kI_0 ?_
    refine g_aload_n d_X0_copyFrom_9 rfl ?_
    refine g_getR d_X0_copyFrom_10 fq_RX0_9 rfl rfl ?_
    refine g_iconst (v := 0) d_X0_copyFrom_13 kI_0 ?_
    refine g_bipush (v := 15) d_X0_copyFrom_14 kB_15 ?_
    refine g_copyI (j := 0) d_X0_copyFrom_16 ⟨tw_83, tw_85, tw_84, tw_4, by decide, by decide⟩ rfl rfl rfl (Or.inl rfl) ⟨kN_0, by decide⟩ ⟨kN_0, by decide⟩ ⟨kN_15, by decide⟩ (Nat.le_of_ble_eq_true rfl) ?_
    refine g_nmI (fun I1 eI1 => ?_)
    replace hF := fe_lt hF eI1
    have hK2 : XT I1 J = XT I J := (by rw [eI1]; exact (xt_rowI rfl (fun b hb => cI_row hb)).trans hK0)
    exact g_return d_X0_copyFrom_19 rfl rfl rfl ⟨rfl, hK2, rfl, hF⟩
noncomputable def fn_J6_bitCount_0f7a4 (x : Int32) (I : Iv) (J : Jv) : Int32 × Iv × Jv :=
  l_t ((x - ((x.toUInt32 >>> ((1 : Int32).toUInt32 &&& Int32.toUInt32 31)).toInt32 &&& (1431655765 : Int32)))) (fun (v1 : Int32) => l_t (((v1 &&& (858993459 : Int32)) + ((v1.toUInt32 >>> ((2 : Int32).toUInt32 &&& Int32.toUInt32 31)).toInt32 &&& (858993459 : Int32)))) (fun (v2 : Int32) => l_t (((v2 + (v2.toUInt32 >>> ((4 : Int32).toUInt32 &&& Int32.toUInt32 31)).toInt32) &&& (252645135 : Int32))) (fun (v3 : Int32) => l_t ((v3 + (v3.toUInt32 >>> ((8 : Int32).toUInt32 &&& Int32.toUInt32 31)).toInt32)) (fun (v4 : Int32) => l_t ((v4 + (v4.toUInt32 >>> ((16 : Int32).toUInt32 &&& Int32.toUInt32 31)).toInt32)) (fun (v5 : Int32) => ((v5 &&& (63 : Int32)), I, J))))))
set_option maxRecDepth 100000 in
set_option maxHeartbeats 4000000 in
theorem ct_J6_bitCount_0f7a4 (x : Int32) (I : Iv) (J : Jv)  : Ct m_J6_bitCount_0f7a4 [.int x] SHF I J (fun r S' I' J' => S' = SHF ∧ I = I' ∧ J = J' ∧ ∃ v : Int32, r = some (.int v) ∧ fn_J6_bitCount_0f7a4 x I J = (v, I', J')) := by
  refine ct_of 0 (by decide +kernel) rfl rfl ?_
  have hF := fe_of (fn_J6_bitCount_0f7a4.eq_1 x I J)
  refine g_iload_n d_J6_bitCount_0f7a4_0 rfl ?_
  refine g_iload_n d_J6_bitCount_0f7a4_1 rfl ?_
  refine g_iconst (v := 1) d_J6_bitCount_0f7a4_2 kI_1 ?_
  refine g_iushr d_J6_bitCount_0f7a4_3 ?_
  refine g_ldcw (v := 1431655765) d_J6_bitCount_0f7a4_4 tw_820 ?_
  refine g_iand d_J6_bitCount_0f7a4_7 ?_
  refine g_isub d_J6_bitCount_0f7a4_8 ?_
  refine g_topI (fun v1 ev1 => ?_)
  replace hF := fe_lt hF ev1
  refine g_istore_n (L' := [some (.int v1)]) d_J6_bitCount_0f7a4_9 (by decide) rfl ?_
  refine g_iload_n d_J6_bitCount_0f7a4_10 rfl ?_
  refine g_ldcw (v := 858993459) d_J6_bitCount_0f7a4_11 tw_821 ?_
  refine g_iand d_J6_bitCount_0f7a4_14 ?_
  refine g_iload_n d_J6_bitCount_0f7a4_15 rfl ?_
  refine g_iconst (v := 2) d_J6_bitCount_0f7a4_16 kI_2 ?_
  refine g_iushr d_J6_bitCount_0f7a4_17 ?_
  refine g_ldcw (v := 858993459) d_J6_bitCount_0f7a4_18 tw_821 ?_
  refine g_iand d_J6_bitCount_0f7a4_21 ?_
  refine g_iadd d_J6_bitCount_0f7a4_22 ?_
  refine g_topI (fun v2 ev2 => ?_)
  replace hF := fe_lt hF ev2
  refine g_istore_n (L' := [some (.int v2)]) d_J6_bitCount_0f7a4_23 (by decide) rfl ?_
  refine g_iload_n d_J6_bitCount_0f7a4_24 rfl ?_
  refine g_iload_n d_J6_bitCount_0f7a4_25 rfl ?_
  refine g_iconst (v := 4) d_J6_bitCount_0f7a4_26 kI_4 ?_
  refine g_iushr d_J6_bitCount_0f7a4_27 ?_
  refine g_iadd d_J6_bitCount_0f7a4_28 ?_
  refine g_ldcw (v := 252645135) d_J6_bitCount_0f7a4_29 tw_822 ?_
  refine g_iand d_J6_bitCount_0f7a4_32 ?_
  refine g_topI (fun v3 ev3 => ?_)
  replace hF := fe_lt hF ev3
  refine g_istore_n (L' := [some (.int v3)]) d_J6_bitCount_0f7a4_33 (by decide) rfl ?_
  refine g_iload_n d_J6_bitCount_0f7a4_34 rfl ?_
  refine g_iload_n d_J6_bitCount_0f7a4_35 rfl ?_
  refine g_bipush (v := 8) d_J6_bitCount_0f7a4_36 kB_8 ?_
  refine g_iushr d_J6_bitCount_0f7a4_38 ?_
  refine g_iadd d_J6_bitCount_0f7a4_39 ?_
  refine g_topI (fun v4 ev4 => ?_)
  replace hF := fe_lt hF ev4
  refine g_istore_n (L' := [some (.int v4)]) d_J6_bitCount_0f7a4_40 (by decide) rfl ?_
  refine g_iload_n d_J6_bitCount_0f7a4_41 rfl ?_
  refine g_iload_n d_J6_bitCount_0f7a4_42 rfl ?_
  refine g_bipush (v := 16) d_J6_bitCount_0f7a4_43 kB_16 ?_
  refine g_iushr d_J6_bitCount_0f7a4_45 ?_
  refine g_iadd d_J6_bitCount_0f7a4_46 ?_
  refine g_topI (fun v5 ev5 => ?_)
  replace hF := fe_lt hF ev5
  refine g_istore_n (L' := [some (.int v5)]) d_J6_bitCount_0f7a4_47 (by decide) rfl ?_
  refine g_iload_n d_J6_bitCount_0f7a4_48 rfl ?_
  refine g_bipush (v := 63) d_J6_bitCount_0f7a4_49 kB_63 ?_
  refine g_iand d_J6_bitCount_0f7a4_51 ?_
  exact g_ireturn d_J6_bitCount_0f7a4_52 rfl rfl rfl rfl ⟨rfl, rfl, rfl, (v5 &&& (63 : Int32)), rfl, hF⟩
