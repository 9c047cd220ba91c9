set_option maxRecDepth 100000 in
set_option maxHeartbeats 4000000 in
theorem ct_X10_mending (k : Int32) (c : Int32) (I : Iv) (J : Jv) (hma : MA I) (hmj : MJ J) : Ct m_X10_mending [.ref 78, .int k, .int c] SHF I J (fun r S' I' J' => S' = SHF ∧ True ∧ ∃ v : Int32, r = some (.int v) ∧ (((¬ (0 ≤ k ∧ k ≤ 6) ∧ v = -1000000001 ∧ MI (bgI I) I') ∨ (0 ≤ k ∧ k ≤ 6 ∧ ¬ (0 ≤ c ∧ c ≤ 999) ∧ v = -1000000002 ∧ MI (bgI I) I') ∨ (0 ≤ k ∧ k ≤ 6 ∧ 0 ≤ c ∧ c ≤ 999 ∧ v = (bgI I) 98 k.toNatClampNeg ∧ MI (wI (bgI I) 98 k.toNatClampNeg c) I')) ∧ MK (bgJ I J) J')) := by
  refine ct_of 1 (by decide +kernel) rfl rfl ?_
  have hK0 : (MI I I ∧ MK J J) := ⟨mi_rfl hma, mk_rfl hmj⟩
  refine g_aload_n d_X10_mending_0 rfl ?_
  refine g_V0 d_X10_mending_1 cs_X10_mending_X10_begin lk_RX10_166 im_X10_begin se_X10_begin rfl rfl rfl (Nat.le_of_ble_eq_true rfl) ⟨rfl, rfl⟩ ⟨Nat.zero_le _, Nat.zero_le _⟩ (ct_X10_begin  I J hma hmj) (fun r1 S1 I1 J2 q1_2 => ?_)
  obtain ⟨rfl, hc1_3, rfl, hr1_4⟩ := q1_2
  refine g_st (st' := []) rfl ?_
  have hK6 : (MI (bgI I) I1 ∧ MK (bgJ I J) J2) := hr1_4
  have hrow := mi_r98 (hr1_4).1
  refine g_iload_n d_X10_mending_4 rfl ?_
  refine g_S1 d_X10_mending_5 cs_X10_mending_X10_isTrouble lk_RX10_341 im_X10_isTrouble (Nat.le_of_ble_eq_true rfl) ⟨rfl, rfl⟩ ⟨Nat.zero_le _, Nat.zero_le _⟩ (ct_X10_isTrouble k I1 J2 ) (fun r5 S5 Ic8 Jc9 q5_6 => ?_)
  obtain ⟨rfl, rfl, rfl, r11, rfl, hz5, hr5_11⟩ := q5_6
  refine g_st (st' := [.int r11]) rfl ?_
  refine g_if_ne d_X10_mending_8 (fun h8 => ?_) (fun h8 => ?_)
  · skip
    refine g_iload_n d_X10_mending_15 rfl ?_
    refine g_i2l d_X10_mending_16 ?_
    refine g_lconst d_X10_mending_17 kL_0 ?_
    refine g_ldc2 (v := 999) d_X10_mending_18 tw_1476 ?_
    refine g_S3 d_X10_mending_21 cs_X10_mending_X10_in lk_RX10_96 im_X10_in (Nat.le_of_ble_eq_true rfl) ⟨rfl, rfl⟩ ⟨Nat.zero_le _, Nat.zero_le _⟩ (ct_X10_inL c (0 : Int64) (999 : Int64) (0 : Int32) (999 : Int32) (by decide) (by decide) I1 J2) (fun r21 S21 Ic14 Jc15 q21_12 => ?_)
    obtain ⟨rfl, rfl, rfl, r17, rfl, hz21, hr21_17⟩ := q21_12
    refine g_st (st' := [.int r17]) rfl ?_
    refine g_if_ne d_X10_mending_24 (fun h24 => ?_) (fun h24 => ?_)
    · skip
      refine g_aload_n d_X10_mending_30 rfl ?_
      refine g_getR d_X10_mending_31 fq_RX10_73 rfl rfl ?_
      refine g_iload_n d_X10_mending_34 rfl ?_
      refine g_iaload (N := 7) d_X10_mending_35 rfl kT_7 (by constructor <;> grind) rfl ?_
      refine g_topI (fun v19 ev19 => ?_)
      refine g_istore_n (L' := [some (.ref 78), some (.int k), some (.int c), some (.int v19)]) d_X10_mending_36 (by decide) rfl ?_
      refine g_aload_n d_X10_mending_37 rfl ?_
      refine g_getR d_X10_mending_38 fq_RX10_73 rfl rfl ?_
      refine g_iload_n d_X10_mending_41 rfl ?_
      refine g_iload_n d_X10_mending_42 rfl ?_
      refine g_iastore (N := 7) d_X10_mending_43 rfl kT_7 (by constructor <;> grind) rfl  ?_
      refine g_nmI (fun I20 eI20 => ?_)
      have hK21 : (MI (wI (bgI I) 98 k.toNatClampNeg c) I20 ∧ MK (bgJ I J) J2) := (by rw [eI20]; exact ⟨mi_trk (hK6).1 rfl, (hK6).2⟩)
      refine g_iload_n d_X10_mending_44 rfl ?_
      exact g_ireturn d_X10_mending_45 rfl rfl rfl rfl ⟨rfl, trivial, v19, rfl, ⟨Or.inr (Or.inr ⟨by grind, by grind, by grind, by grind, by rw [ev19, hrow], (hK21).1⟩), (hK21).2⟩⟩
    · skip
      refine g_ldc (v := -1000000002) d_X10_mending_27 tw_1199 ?_
      exact g_ireturn d_X10_mending_29 rfl rfl rfl rfl ⟨rfl, trivial, (-1000000002 : Int32), rfl, ⟨Or.inr (Or.inl ⟨by grind, by grind, by grind, rfl, (hK6).1⟩), (hK6).2⟩⟩
  · skip
    refine g_ldcw (v := -1000000001) d_X10_mending_11 tw_1296 ?_
    exact g_ireturn d_X10_mending_14 rfl rfl rfl rfl ⟨rfl, trivial, (-1000000001 : Int32), rfl, ⟨Or.inl ⟨by grind, rfl, (hK6).1⟩, (hK6).2⟩⟩
set_option maxRecDepth 100000 in
set_option maxHeartbeats 4000000 in
theorem ct_X10_price (x : Int32) (I : Iv) (J : Jv) (hma : MA I) (hmj : MJ J) : Ct m_X10_price [.ref 78, .int x] SHF I J (fun r S' I' J' => S' = SHF ∧ True ∧ ∃ v : Int32, r = some (.int v) ∧ ((0 ≤ x ∧ x ≤ 999 ∧ v = (bgI I) 78 30 ∧ MI (wI (bgI I) 78 30 x) I') ∨ (¬ (0 ≤ x ∧ x ≤ 999) ∧ v = -1000000002 ∧ MI (bgI I) I')) ∧ MK (bgJ I J) J') := by
  refine ct_of 1 (by decide +kernel) rfl rfl ?_
  have hK0 : (MI I I ∧ MK J J) := ⟨mi_rfl hma, mk_rfl hmj⟩
  refine g_aload_n d_X10_price_0 rfl ?_
  refine g_V0 d_X10_price_1 cs_X10_price_X10_begin lk_RX10_166 im_X10_begin se_X10_begin rfl rfl rfl (Nat.le_of_ble_eq_true rfl) ⟨rfl, rfl⟩ ⟨Nat.zero_le _, Nat.zero_le _⟩ (ct_X10_begin  I J hma hmj) (fun r1 S1 I1 J2 q1_2 => ?_)
  obtain ⟨rfl, hc1_3, rfl, hr1_4⟩ := q1_2
  refine g_st (st' := []) rfl ?_
  have hK6 : (MI (bgI I) I1 ∧ MK (bgJ I J) J2) := hr1_4
  refine g_iload_n d_X10_price_4 rfl ?_
  refine g_i2l d_X10_price_5 ?_
  refine g_lconst d_X10_price_6 kL_0 ?_
  refine g_ldc2 (v := 999) d_X10_price_7 tw_1476 ?_
  refine g_S3 d_X10_price_10 cs_X10_price_X10_in lk_RX10_96 im_X10_in (Nat.le_of_ble_eq_true rfl) ⟨rfl, rfl⟩ ⟨Nat.zero_le _, Nat.zero_le _⟩ (ct_X10_inL x (0 : Int64) (999 : Int64) (0 : Int32) (999 : Int32) (by decide) (by decide) I1 J2) (fun r10 S10 Ic8 Jc9 q10_6 => ?_)
  obtain ⟨rfl, rfl, rfl, r11, rfl, hz10, hr10_11⟩ := q10_6
  refine g_st (st' := [.int r11]) rfl ?_
  refine g_if_ne d_X10_price_13 (fun h13 => ?_) (fun h13 => ?_)
  · skip
    have h30 := mi_30 (hK6).1
    refine g_aload_n d_X10_price_19 rfl ?_
    refine g_getI d_X10_price_20 fq_RX10_88 rfl rfl ?_
    refine g_topI (fun v13 ev13 => ?_)
    refine g_istore_n (L' := [some (.ref 78), some (.int x), some (.int v13)]) d_X10_price_23 (by decide) rfl ?_
    refine g_aload_n d_X10_price_24 rfl ?_
    refine g_iload_n d_X10_price_25 rfl ?_
    refine g_putI d_X10_price_26 fq_RX10_88 rfl rfl ?_
    refine g_nmI (fun I14 eI14 => ?_)
    have hK15 : (MI (wI (bgI I) 78 30 x) I14 ∧ MK (bgJ I J) J2) := (by rw [eI14]; exact ⟨mi_trk (hK6).1 rfl, (hK6).2⟩)
    refine g_iload_n d_X10_price_29 rfl ?_
    exact g_ireturn d_X10_price_30 rfl rfl rfl rfl ⟨rfl, trivial, v13, rfl, ⟨Or.inl ⟨by grind, by grind, by grind, (hK15).1⟩, (hK15).2⟩⟩
  · skip
    refine g_ldc (v := -1000000002) d_X10_price_16 tw_1199 ?_
    exact g_ireturn d_X10_price_18 rfl rfl rfl rfl ⟨rfl, trivial, (-1000000002 : Int32), rfl, ⟨Or.inr ⟨by grind, rfl, (hK6).1⟩, (hK6).2⟩⟩
set_option maxRecDepth 100000 in
set_option maxHeartbeats 4000000 in
theorem ct_X10_yearOf (set : Int32) (I : Iv) (J : Jv) (hma : MA I) (hmj : MJ J) : Ct m_X10_yearOf [.ref 78, .int set] SHF I J (fun r S' I' J' => S' = SHF ∧ (MI I I' ∧ MK J J') ∧ ∃ v : Int32, r = some (.int v)) := by
  refine ct_of 0 (by decide +kernel) rfl rfl ?_
  have hK0 : (MI I I ∧ MK J J) := ⟨mi_rfl hma, mk_rfl hmj⟩
  refine g_aload_n d_X10_yearOf_0 rfl ?_
  refine g_iload_n d_X10_yearOf_1 rfl ?_
  refine g_iconst (v := 2) d_X10_yearOf_2 kI_2 ?_
  refine g_V2 d_X10_yearOf_3 cs_X10_yearOf_X10_findSigns lk_RX10_329 im_X10_findSigns se_X10_findSigns rfl rfl rfl (Nat.le_of_ble_eq_true rfl) ⟨rfl, rfl⟩ ⟨Nat.zero_le _, Nat.zero_le _⟩ (ct_X10_findSigns set (2 : Int32) I J hma hmj (by grind)) (fun r3 S3 I1 J2 q3_2 => ?_)
  obtain ⟨rfl, hc3_3, rfl, hr3_4⟩ := q3_2
  refine g_st (st' := []) rfl ?_
  have hK6 : (MI I I1 ∧ MK J J2) := ⟨mi_tr (hK0).1 hc3_3.1, mk_tr (hK0).2 hc3_3.2⟩
  refine g_ldc2 (v := 365) d_X10_yearOf_6 tw_1555 ?_
  refine g_aload_n d_X10_yearOf_9 rfl ?_
  refine g_getR d_X10_yearOf_10 fq_RX10_49 rfl rfl ?_
  refine g_bipush (v := 6) d_X10_yearOf_13 kB_6 ?_
  refine g_iaload (N := 7) d_X10_yearOf_15 rfl kT_7 ⟨by decide, by decide⟩ kN_6 ?_
  refine g_i2l d_X10_yearOf_16 ?_
  refine g_lmul d_X10_yearOf_17 ?_
  refine g_aload_n d_X10_yearOf_18 rfl ?_
  refine g_getI d_X10_yearOf_19 fq_RX10_88 rfl rfl ?_
  refine g_i2l d_X10_yearOf_22 ?_
  refine g_lmul d_X10_yearOf_23 ?_
  refine g_ldc2 (v := 1000) d_X10_yearOf_24 tw_1392 ?_
  refine g_ldiv d_X10_yearOf_27 (by decide) ?_
  refine g_l2i d_X10_yearOf_28 ?_
  exact g_ireturn d_X10_yearOf_29 rfl rfl rfl rfl ⟨rfl, hK6, (Int64.toInt32 ((((365 : Int64) * (Int32.toInt64 (I1 90 6))) * (Int32.toInt64 (I1 78 30))) / (1000 : Int64))), rfl⟩
set_option maxRecDepth 100000 in
set_option maxHeartbeats 4000000 in
theorem ct_X10_year (set : Int32) (I : Iv) (J : Jv) (hma : MA I) (hmj : MJ J) : Ct m_X10_year [.ref 78, .int set] SHF I J (fun r S' I' J' => S' = SHF ∧ True ∧ ∃ v : Int32, r = some (.int v) ∧ (MI (bgI I) I' ∧ MK (bgJ I J) J')) := by
  refine ct_of 0 (by decide +kernel) rfl rfl ?_
  have hK0 : (MI I I ∧ MK J J) := ⟨mi_rfl hma, mk_rfl hmj⟩
  refine g_aload_n d_X10_year_0 rfl ?_
  refine g_V0 d_X10_year_1 cs_X10_year_X10_begin lk_RX10_166 im_X10_begin se_X10_begin rfl rfl rfl (Nat.le_of_ble_eq_true rfl) ⟨rfl, rfl⟩ ⟨Nat.zero_le _, Nat.zero_le _⟩ (ct_X10_begin  I J hma hmj) (fun r1 S1 I1 J2 q1_2 => ?_)
  obtain ⟨rfl, hc1_3, rfl, hr1_4⟩ := q1_2
  refine g_st (st' := []) rfl ?_
  have hK6 : (MI (bgI I) I1 ∧ MK (bgJ I J) J2) := hr1_4
  refine g_iload_n d_X10_year_4 rfl ?_
  refine g_S1 d_X10_year_5 cs_X10_year_X10_isSet lk_RX10_259 im_X10_isSet (Nat.le_of_ble_eq_true rfl) ⟨rfl, rfl⟩ ⟨Nat.zero_le _, Nat.zero_le _⟩ (ct_X10_isSet set I1 J2 ) (fun r5 S5 Ic8 Jc9 q5_6 => ?_)
  obtain ⟨rfl, rfl, rfl, r11, rfl, hz5, hr5_11⟩ := q5_6
  refine g_st (st' := [.int r11]) rfl ?_
  refine g_if_eq d_X10_year_8 (fun h8 => ?_) (fun h8 => ?_)
  · skip
    refine g_ldcw (v := -1000000001) d_X10_year_19 tw_1296 ?_
    exact g_ireturn d_X10_year_22 rfl rfl rfl rfl ⟨rfl, trivial, (-1000000001 : Int32), rfl, hK6⟩
  · skip
    refine g_aload_n d_X10_year_11 rfl ?_
    refine g_iload_n d_X10_year_12 rfl ?_
    refine g_V1 d_X10_year_13 cs_X10_year_X10_yearOf lk_RX10_371 im_X10_yearOf se_X10_yearOf rfl rfl rfl (Nat.le_of_ble_eq_true rfl) ⟨rfl, rfl⟩ ⟨Nat.zero_le _, Nat.zero_le _⟩ (ct_X10_yearOf set I1 J2 (hK6).1.2 (hK6).2.2) (fun r13 S13 I13 J14 q13_14 => ?_)
    obtain ⟨rfl, hc13_15, r17, rfl⟩ := q13_14
    refine g_st (st' := [.int r17]) rfl ?_
    have hK19 : (MI (bgI I) I13 ∧ MK (bgJ I J) J14) := ⟨mi_tr (hK6).1 hc13_15.1, mk_tr (hK6).2 hc13_15.2⟩
    refine g_goto d_X10_year_16 ?_
    exact g_ireturn d_X10_year_22 rfl rfl rfl rfl ⟨rfl, trivial, r17, rfl, hK19⟩
set_option maxRecDepth 100000 in
set_option maxHeartbeats 4000000 in
theorem ct_X10_saves (set : Int32) (part : Int32) (I : Iv) (J : Jv) (hma : MA I) (hmj : MJ J) : Ct m_X10_saves [.ref 78, .int set, .int part] SHF I J (fun r S' I' J' => S' = SHF ∧ True ∧ ∃ v : Int32, r = some (.int v) ∧ (MI (bgI I) I' ∧ MK (bgJ I J) J')) := by
  refine ct_of 0 (by decide +kernel) rfl rfl ?_
  have hK0 : (MI I I ∧ MK J J) := ⟨mi_rfl hma, mk_rfl hmj⟩
  refine g_aload_n d_X10_saves_0 rfl ?_
  refine g_V0 d_X10_saves_1 cs_X10_saves_X10_begin lk_RX10_166 im_X10_begin se_X10_begin rfl rfl rfl (Nat.le_of_ble_eq_true rfl) ⟨rfl, rfl⟩ ⟨Nat.zero_le _, Nat.zero_le _⟩ (ct_X10_begin  I J hma hmj) (fun r1 S1 I1 J2 q1_2 => ?_)
  obtain ⟨rfl, hc1_3, rfl, hr1_4⟩ := q1_2
  refine g_st (st' := []) rfl ?_
  have hK6 : (MI (bgI I) I1 ∧ MK (bgJ I J) J2) := hr1_4
  refine g_iload_n d_X10_saves_4 rfl ?_
  refine g_S1 d_X10_saves_5 cs_X10_saves_X10_isSet lk_RX10_259 im_X10_isSet (Nat.le_of_ble_eq_true rfl) ⟨rfl, rfl⟩ ⟨Nat.zero_le _, Nat.zero_le _⟩ (ct_X10_isSet set I1 J2 ) (fun r5 S5 Ic8 Jc9 q5_6 => ?_)
  obtain ⟨rfl, rfl, rfl, r11, rfl, hz5, hr5_11⟩ := q5_6
  refine g_st (st' := [.int r11]) rfl ?_
  refine g_if_eq d_X10_saves_8 (fun h8 => ?_) (fun h8 => ?_)
  · skip
    refine g_ldcw (v := -1000000001) d_X10_saves_18 tw_1296 ?_
    exact g_ireturn d_X10_saves_21 rfl rfl rfl rfl ⟨rfl, trivial, (-1000000001 : Int32), rfl, hK6⟩
  · skip
    refine g_iload_n d_X10_saves_11 rfl ?_
    refine g_S1 d_X10_saves_12 cs_X10_saves_X10_isSet lk_RX10_259 im_X10_isSet (Nat.le_of_ble_eq_true rfl) ⟨rfl, rfl⟩ ⟨Nat.zero_le _, Nat.zero_le _⟩ (ct_X10_isSet part I1 J2 ) (fun r12 S12 Ic14 Jc15 q12_12 => ?_)
    obtain ⟨rfl, rfl, rfl, r17, rfl, hz12, hr12_17⟩ := q12_12
    refine g_st (st' := [.int r17]) rfl ?_
    refine g_if_ne d_X10_saves_15 (fun h15 => ?_) (fun h15 => ?_)
    · skip
      refine g_iload_n d_X10_saves_22 rfl ?_
      refine g_iload_n d_X10_saves_23 rfl ?_
      refine g_iconst (v := -1) d_X10_saves_24 kI_m1 ?_
      refine g_ixor d_X10_saves_25 ?_
      refine g_iand d_X10_saves_26 ?_
      refine g_if_eq d_X10_saves_27 (fun h27 => ?_) (fun h27 => ?_)
      · skip
        refine g_aload_n d_X10_saves_36 rfl ?_
        refine g_iload_n d_X10_saves_37 rfl ?_
        refine g_V1 d_X10_saves_38 cs_X10_saves_X10_yearOf lk_RX10_371 im_X10_yearOf se_X10_yearOf rfl rfl rfl (Nat.le_of_ble_eq_true rfl) ⟨rfl, rfl⟩ ⟨Nat.zero_le _, Nat.zero_le _⟩ (ct_X10_yearOf set I1 J2 (hK6).1.2 (hK6).2.2) (fun r38 S38 I19 J20 q38_20 => ?_)
        obtain ⟨rfl, hc38_21, r23, rfl⟩ := q38_20
        refine g_st (st' := [.int r23]) rfl ?_
        have hK25 : (MI (bgI I) I19 ∧ MK (bgJ I J) J20) := ⟨mi_tr (hK6).1 hc38_21.1, mk_tr (hK6).2 hc38_21.2⟩
        refine g_aload_n d_X10_saves_41 rfl ?_
        refine g_iload_n d_X10_saves_42 rfl ?_
        refine g_iload_n d_X10_saves_43 rfl ?_
        refine g_iconst (v := -1) d_X10_saves_44 kI_m1 ?_
        refine g_ixor d_X10_saves_45 ?_
        refine g_iand d_X10_saves_46 ?_
        refine g_V1 d_X10_saves_47 cs_X10_saves_X10_yearOf lk_RX10_371 im_X10_yearOf se_X10_yearOf rfl rfl rfl (Nat.le_of_ble_eq_true rfl) ⟨rfl, rfl⟩ ⟨Nat.zero_le _, Nat.zero_le _⟩ (ct_X10_yearOf (set &&& (part ^^^ (-1 : Int32))) I19 J20 (hK25).1.2 (hK25).2.2) (fun r47 S47 I26 J27 q47_27 => ?_)
        obtain ⟨rfl, hc47_28, r30, rfl⟩ := q47_27
        refine g_st (st' := [.int r30, .int r23]) rfl ?_
        have hK32 : (MI (bgI I) I26 ∧ MK (bgJ I J) J27) := ⟨mi_tr (hK25).1 hc47_28.1, mk_tr (hK25).2 hc47_28.2⟩
        refine g_isub d_X10_saves_50 ?_
        exact g_ireturn d_X10_saves_51 rfl rfl rfl rfl ⟨rfl, trivial, (r23 - r30), rfl, hK32⟩
      · skip
        refine g_ldcw (v := -1000000003) d_X10_saves_30 tw_1560 ?_
        refine g_goto d_X10_saves_33 ?_
        exact g_ireturn d_X10_saves_51 rfl rfl rfl rfl ⟨rfl, trivial, (-1000000003 : Int32), rfl, hK6⟩
    · skip
      refine g_ldcw (v := -1000000001) d_X10_saves_18 tw_1296 ?_
      exact g_ireturn d_X10_saves_21 rfl rfl rfl rfl ⟨rfl, trivial, (-1000000001 : Int32), rfl, hK6⟩
set_option maxRecDepth 100000 in
set_option maxHeartbeats 4000000 in
theorem ct_X10_best (set : Int32) (c : Int32) (what : Int32) (I : Iv) (J : Jv) (hma : MA I) (hmj : MJ J) : Ct m_X10_best [.ref 78, .int set, .int c, .int what] SHF I J (fun r S' I' J' => S' = SHF ∧ True ∧ ∃ v : Int32, r = some (.int v) ∧ (MI (bgI I) I' ∧ MK (bgJ I J) J')) := by
  refine ct_of 7 (by decide +kernel) rfl rfl ?_
  have hK0 : (MI I I ∧ MK J J) := ⟨mi_rfl hma, mk_rfl hmj⟩
  refine g_aload_n d_X10_best_0 rfl ?_
  refine g_V0 d_X10_best_1 cs_X10_best_X10_begin lk_RX10_166 im_X10_begin se_X10_begin rfl rfl rfl (Nat.le_of_ble_eq_true rfl) ⟨rfl, rfl⟩ ⟨Nat.zero_le _, Nat.zero_le _⟩ (ct_X10_begin  I J hma hmj) (fun r1 S1 I1 J2 q1_2 => ?_)
  obtain ⟨rfl, hc1_3, rfl, hr1_4⟩ := q1_2
  refine g_st (st' := []) rfl ?_
  have hK6 : (MI (bgI I) I1 ∧ MK (bgJ I J) J2) := hr1_4
  refine g_iload_n d_X10_best_4 rfl ?_
  refine g_S1 d_X10_best_5 cs_X10_best_X10_isSet lk_RX10_259 im_X10_isSet (Nat.le_of_ble_eq_true rfl) ⟨rfl, rfl⟩ ⟨Nat.zero_le _, Nat.zero_le _⟩ (ct_X10_isSet set I1 J2 ) (fun r5 S5 Ic8 Jc9 q5_6 => ?_)
  obtain ⟨rfl, rfl, rfl, r11, rfl, hz5, hr5_11⟩ := q5_6
  refine g_st (st' := [.int r11]) rfl ?_
  refine g_if_ne d_X10_best_8 (fun h8 => ?_) (fun h8 => ?_)
  · skip
    refine g_iload_n d_X10_best_15 rfl ?_
    refine g_i2l d_X10_best_16 ?_
    refine g_lconst d_X10_best_17 kL_0 ?_
    refine g_ldc2 (v := 9999) d_X10_best_18 tw_1404 ?_
    refine g_S3 d_X10_best_21 cs_X10_best_X10_in lk_RX10_96 im_X10_in (Nat.le_of_ble_eq_true rfl) ⟨rfl, rfl⟩ ⟨Nat.zero_le _, Nat.zero_le _⟩ (ct_X10_inL c (0 : Int64) (9999 : Int64) (0 : Int32) (9999 : Int32) (by decide) (by decide) I1 J2) (fun r21 S21 Ic14 Jc15 q21_12 => ?_)
    obtain ⟨rfl, rfl, rfl, r17, rfl, hz21, hr21_17⟩ := q21_12
    refine g_st (st' := [.int r17]) rfl ?_
    refine g_if_eq d_X10_best_24 (fun h24 => ?_) (fun h24 => ?_)
    · skip
      refine g_ldc (v := -1000000002) d_X10_best_39 tw_1199 ?_
      exact g_ireturn d_X10_best_41 rfl rfl rfl rfl ⟨rfl, trivial, (-1000000002 : Int32), rfl, hK6⟩
    · skip
      refine g_iload_n d_X10_best_27 rfl ?_
      refine g_i2l d_X10_best_28 ?_
      refine g_lconst d_X10_best_29 kL_0 ?_
      refine g_ldc2 (v := 2) d_X10_best_30 tw_1319 ?_
      refine g_S3 d_X10_best_33 cs_X10_best_X10_in lk_RX10_96 im_X10_in (Nat.le_of_ble_eq_true rfl) ⟨rfl, rfl⟩ ⟨Nat.zero_le _, Nat.zero_le _⟩ (ct_X10_inL what (0 : Int64) (2 : Int64) (0 : Int32) (2 : Int32) (by decide) (by decide) I1 J2) (fun r33 S33 Ic20 Jc21 q33_18 => ?_)
      obtain ⟨rfl, rfl, rfl, r23, rfl, hz33, hr33_23⟩ := q33_18
      refine g_st (st' := [.int r23]) rfl ?_
      refine g_if_ne d_X10_best_36 (fun h36 => ?_) (fun h36 => ?_)
      · skip
        refine g_aload_n d_X10_best_42 rfl ?_
        refine g_iload_n d_X10_best_43 rfl ?_
        refine g_V1 d_X10_best_44 cs_X10_best_X10_yearOf lk_RX10_371 im_X10_yearOf se_X10_yearOf rfl rfl rfl (Nat.le_of_ble_eq_true rfl) ⟨rfl, rfl⟩ ⟨Nat.zero_le _, Nat.zero_le _⟩ (ct_X10_yearOf set I1 J2 (hK6).1.2 (hK6).2.2) (fun r44 S44 I25 J26 q44_26 => ?_)
        obtain ⟨rfl, hc44_27, r29, rfl⟩ := q44_26
        refine g_st (st' := [.int r29]) rfl ?_
        have hK31 : (MI (bgI I) I25 ∧ MK (bgJ I J) J26) := ⟨mi_tr (hK6).1 hc44_27.1, mk_tr (hK6).2 hc44_27.2⟩
        refine g_istore (L' := [some (.ref 78), some (.int set), some (.int c), some (.int what), some (.int r29), none, none, none, none, none, none]) d_X10_best_47 (by decide) rfl ?_
        refine g_iconst (v := 0) d_X10_best_49 kI_0 ?_
        refine g_istore (L' := [some (.ref 78), some (.int set), some (.int c), some (.int what), some (.int r29), some (.int (0 : Int32)), none, none, none, none, none]) d_X10_best_50 (by decide) rfl ?_
        refine g_iconst (v := 0) d_X10_best_52 kI_0 ?_
        refine g_istore (L' := [some (.ref 78), some (.int set), some (.int c), some (.int what), some (.int r29), some (.int (0 : Int32)), some (.int (0 : Int32)), none, none, none, none]) d_X10_best_53 (by decide) rfl ?_
        refine g_iconst (v := 0) d_X10_best_55 kI_0 ?_
        refine g_istore (L' := [some (.ref 78), some (.int set), some (.int c), some (.int what), some (.int r29), some (.int (0 : Int32)), some (.int (0 : Int32)), some (.int (0 : Int32)), none, none, none]) d_X10_best_56 (by decide) rfl ?_
        refine g_iconst (v := 1) d_X10_best_58 kI_1 ?_
        refine g_istore (L' := [some (.ref 78), some (.int set), some (.int c), some (.int what), some (.int r29), some (.int (0 : Int32)), some (.int (0 : Int32)), some (.int (0 : Int32)), some (.int (1 : Int32)), none, none]) d_X10_best_59 (by decide) rfl ?_
        have K_61 : ∀ (nu : Nat) (x32 : Int32) (x33 : Int32) (x34 : Int32) (x35 : Int32) (I36 : Iv) (J37 : Jv), mU (128 : Int32) x35 = nu → ((MI (bgI I) I36 ∧ MK (bgJ I J) J37)) → ((1 : Int32) ≤ x35) → G m_X10_best (rq m_X10_best (fun r S' I' J' => S' = SHF ∧ True ∧ ∃ v : Int32, r = some (.int v) ∧ (MI (bgI I) I' ∧ MK (bgJ I J) J'))) 0 0 61 [some (.ref 78), some (.int set), some (.int c), some (.int what), some (.int r29), some (.int x32), some (.int x33), some (.int x34), some (.int x35), none, none] [] SHF I36 J37 := by
          intro nu
          induction nu using Nat.strongRecOn with
          | ind nu ih_61 =>
            intro x32 x33 x34 x35 I36 J37 hmu_61 hK38 hl39
            refine g_iload d_X10_best_61 rfl ?_
            refine g_sipush (v := 128) d_X10_best_63 kS_128 ?_
            refine g_icmp_ge d_X10_best_66 (fun h66 => ?_) (fun h66 => ?_)
            · skip
              refine g_iload_n d_X10_best_184 rfl ?_
              refine g_if_ne d_X10_best_185 (fun h185 => ?_) (fun h185 => ?_)
              · skip
                refine g_iload_n d_X10_best_193 rfl ?_
                refine g_iconst (v := 1) d_X10_best_194 kI_1 ?_
                refine g_icmp_ne d_X10_best_195 (fun h195 => ?_) (fun h195 => ?_)
                · skip
                  refine g_iload d_X10_best_203 rfl ?_
                  exact g_ireturn d_X10_best_205 rfl rfl rfl rfl ⟨rfl, trivial, x34, rfl, hK38⟩
                · skip
                  refine g_iload d_X10_best_198 rfl ?_
                  refine g_goto d_X10_best_200 ?_
                  exact g_ireturn d_X10_best_205 rfl rfl rfl rfl ⟨rfl, trivial, x33, rfl, hK38⟩
              · skip
                refine g_iload d_X10_best_188 rfl ?_
                refine g_goto d_X10_best_190 ?_
                exact g_ireturn d_X10_best_205 rfl rfl rfl rfl ⟨rfl, trivial, x32, rfl, hK38⟩
            · skip
              refine g_iconst (v := 0) d_X10_best_69 kI_0 ?_
              refine g_istore (L' := [some (.ref 78), some (.int set), some (.int c), some (.int what), some (.int r29), some (.int x32), some (.int x33), some (.int x34), some (.int x35), some (.int (0 : Int32)), none]) d_X10_best_70 (by decide) rfl ?_
              refine g_iconst (v := 0) d_X10_best_72 kI_0 ?_
              refine g_istore (L' := [some (.ref 78), some (.int set), some (.int c), some (.int what), some (.int r29), some (.int x32), some (.int x33), some (.int x34), some (.int x35), some (.int (0 : Int32)), some (.int (0 : Int32))]) d_X10_best_73 (by decide) rfl ?_
              have K_75 : ∀ (nu : Nat) (x40 : Int32) (x41 : Int32), mU (7 : Int32) x41 = nu → ((0 : Int32) ≤ x41) → G m_X10_best (rq m_X10_best (fun r S' I' J' => S' = SHF ∧ True ∧ ∃ v : Int32, r = some (.int v) ∧ (MI (bgI I) I' ∧ MK (bgJ I J) J'))) 0 0 75 [some (.ref 78), some (.int set), some (.int c), some (.int what), some (.int r29), some (.int x32), some (.int x33), some (.int x34), some (.int x35), some (.int x40), some (.int x41)] [] SHF I36 J37 := by
                intro nu
                induction nu using Nat.strongRecOn with
                | ind nu ih_75 =>
                  intro x40 x41 hmu_75 hl42
                  refine g_iload d_X10_best_75 rfl ?_
                  refine g_bipush (v := 7) d_X10_best_77 kB_7 ?_
                  refine g_icmp_ge d_X10_best_79 (fun h79 => ?_) (fun h79 => ?_)
                  · skip
                    refine g_iload d_X10_best_115 rfl ?_
                    refine g_iload_n d_X10_best_117 rfl ?_
                    refine g_iconst (v := -1) d_X10_best_118 kI_m1 ?_
                    refine g_ixor d_X10_best_119 ?_
                    refine g_iand d_X10_best_120 ?_
                    refine g_if_ne d_X10_best_121 (fun h121 => ?_) (fun h121 => ?_)
                    · skip
                      refine g_iinc (v := (x35 + (1 : Int32))) (L' := [some (.ref 78), some (.int set), some (.int c), some (.int what), some (.int r29), some (.int x32), some (.int x33), some (.int x34), some (.int (x35 + (1 : Int32))), some (.int x40), some (.int x41)]) d_X10_best_178 rfl (by rw [kI_1]) (by decide) rfl ?_
                      refine g_goto d_X10_best_181 ?_
                      refine g_sb [some (.ref 78), some (.int set), some (.int c), some (.int what), some (.int r29), some (.int x32), some (.int x33), some (.int x34), some (.int (x35 + (1 : Int32))), none, none] (by simp [subL]) ?_
                      exact ih_61 _ (by rw [← hmu_61]; exact mu_up h66) x32 x33 x34 (x35 + (1 : Int32)) I36 J37 rfl hK38 (lo_up hl39 h66)
                    · skip
                      refine g_iload d_X10_best_124 rfl ?_
                      refine g_iload_n d_X10_best_126 rfl ?_
                      refine g_icmp_gt d_X10_best_127 (fun h127 => ?_) (fun h127 => ?_)
                      · skip
                        refine g_iinc (v := (x35 + (1 : Int32))) (L' := [some (.ref 78), some (.int set), some (.int c), some (.int what), some (.int r29), some (.int x32), some (.int x33), some (.int x34), some (.int (x35 + (1 : Int32))), some (.int x40), some (.int x41)]) d_X10_best_178 rfl (by rw [kI_1]) (by decide) rfl ?_
                        refine g_goto d_X10_best_181 ?_
                        refine g_sb [some (.ref 78), some (.int set), some (.int c), some (.int what), some (.int r29), some (.int x32), some (.int x33), some (.int x34), some (.int (x35 + (1 : Int32))), none, none] (by simp [subL]) ?_
                        exact ih_61 _ (by rw [← hmu_61]; exact mu_up h66) x32 x33 x34 (x35 + (1 : Int32)) I36 J37 rfl hK38 (lo_up hl39 h66)
                      · skip
                        refine g_iload d_X10_best_130 rfl ?_
                        refine g_aload_n d_X10_best_132 rfl ?_
                        refine g_iload_n d_X10_best_133 rfl ?_
                        refine g_iload d_X10_best_134 rfl ?_
                        refine g_iconst (v := -1) d_X10_best_136 kI_m1 ?_
                        refine g_ixor d_X10_best_137 ?_
                        refine g_iand d_X10_best_138 ?_
                        refine g_V1 d_X10_best_139 cs_X10_best_X10_yearOf lk_RX10_371 im_X10_yearOf se_X10_yearOf rfl rfl rfl (Nat.le_of_ble_eq_true rfl) ⟨rfl, rfl⟩ ⟨Nat.zero_le _, Nat.zero_le _⟩ (ct_X10_yearOf (set &&& (x35 ^^^ (-1 : Int32))) I36 J37 (hK38).1.2 (hK38).2.2) (fun r139 S139 I43 J44 q139_44 => ?_)
                        obtain ⟨rfl, hc139_45, r47, rfl⟩ := q139_44
                        refine g_st (st' := [.int r47, .int r29]) rfl ?_
                        have hK49 : (MI (bgI I) I43 ∧ MK (bgJ I J) J44) := ⟨mi_tr (hK38).1 hc139_45.1, mk_tr (hK38).2 hc139_45.2⟩
                        refine g_isub d_X10_best_142 ?_
                        refine g_topI (fun v50 ev50 => ?_)
                        refine g_istore (L' := [some (.ref 78), some (.int set), some (.int c), some (.int what), some (.int r29), some (.int x32), some (.int x33), some (.int x34), some (.int x35), some (.int x40), some (.int v50)]) d_X10_best_143 (by decide) rfl ?_
                        refine g_iload d_X10_best_145 rfl ?_
                        refine g_iload d_X10_best_147 rfl ?_
                        have J_166 : G m_X10_best (rq m_X10_best (fun r S' I' J' => S' = SHF ∧ True ∧ ∃ v : Int32, r = some (.int v) ∧ (MI (bgI I) I' ∧ MK (bgJ I J) J'))) 0 0 166 [some (.ref 78), some (.int set), some (.int c), some (.int what), some (.int r29), some (.int x32), some (.int x33), some (.int x34), some (.int x35), some (.int x40), some (.int v50)] [] SHF I43 J44 := by
                          skip
                          refine g_iload d_X10_best_166 rfl ?_
                          refine g_istore (L' := [some (.ref 78), some (.int set), some (.int c), some (.int what), some (.int r29), some (.int x35), some (.int x33), some (.int x34), some (.int x35), some (.int x40), some (.int v50)]) d_X10_best_168 (by decide) rfl ?_
                          refine g_iload d_X10_best_170 rfl ?_
                          refine g_istore (L' := [some (.ref 78), some (.int set), some (.int c), some (.int what), some (.int r29), some (.int x35), some (.int v50), some (.int x34), some (.int x35), some (.int x40), some (.int v50)]) d_X10_best_172 (by decide) rfl ?_
                          refine g_iload d_X10_best_174 rfl ?_
                          refine g_istore (L' := [some (.ref 78), some (.int set), some (.int c), some (.int what), some (.int r29), some (.int x35), some (.int v50), some (.int x40), some (.int x35), some (.int x40), some (.int v50)]) d_X10_best_176 (by decide) rfl ?_
                          refine g_iinc (v := (x35 + (1 : Int32))) (L' := [some (.ref 78), some (.int set), some (.int c), some (.int what), some (.int r29), some (.int x35), some (.int v50), some (.int x40), some (.int (x35 + (1 : Int32))), some (.int x40), some (.int v50)]) d_X10_best_178 rfl (by rw [kI_1]) (by decide) rfl ?_
                          refine g_goto d_X10_best_181 ?_
                          refine g_sb [some (.ref 78), some (.int set), some (.int c), some (.int what), some (.int r29), some (.int x35), some (.int v50), some (.int x40), some (.int (x35 + (1 : Int32))), none, none] (by simp [subL]) ?_
                          exact ih_61 _ (by rw [← hmu_61]; exact mu_up h66) x35 v50 x40 (x35 + (1 : Int32)) I43 J44 rfl hK49 (lo_up hl39 h66)
                        refine g_icmp_gt d_X10_best_149 (fun h149 => ?_) (fun h149 => ?_)
                        · skip
                          exact J_166
                        · skip
                          refine g_iload d_X10_best_152 rfl ?_
                          refine g_iload d_X10_best_154 rfl ?_
                          refine g_icmp_ne d_X10_best_156 (fun h156 => ?_) (fun h156 => ?_)
                          · skip
                            refine g_iinc (v := (x35 + (1 : Int32))) (L' := [some (.ref 78), some (.int set), some (.int c), some (.int what), some (.int r29), some (.int x32), some (.int x33), some (.int x34), some (.int (x35 + (1 : Int32))), some (.int x40), some (.int v50)]) d_X10_best_178 rfl (by rw [kI_1]) (by decide) rfl ?_
                            refine g_goto d_X10_best_181 ?_
                            refine g_sb [some (.ref 78), some (.int set), some (.int c), some (.int what), some (.int r29), some (.int x32), some (.int x33), some (.int x34), some (.int (x35 + (1 : Int32))), none, none] (by simp [subL]) ?_
                            exact ih_61 _ (by rw [← hmu_61]; exact mu_up h66) x32 x33 x34 (x35 + (1 : Int32)) I43 J44 rfl hK49 (lo_up hl39 h66)
                          · skip
                            refine g_iload d_X10_best_159 rfl ?_
                            refine g_iload d_X10_best_161 rfl ?_
                            refine g_icmp_ge d_X10_best_163 (fun h163 => ?_) (fun h163 => ?_)
                            · skip
                              refine g_iinc (v := (x35 + (1 : Int32))) (L' := [some (.ref 78), some (.int set), some (.int c), some (.int what), some (.int r29), some (.int x32), some (.int x33), some (.int x34), some (.int (x35 + (1 : Int32))), some (.int x40), some (.int v50)]) d_X10_best_178 rfl (by rw [kI_1]) (by decide) rfl ?_
                              refine g_goto d_X10_best_181 ?_
                              refine g_sb [some (.ref 78), some (.int set), some (.int c), some (.int what), some (.int r29), some (.int x32), some (.int x33), some (.int x34), some (.int (x35 + (1 : Int32))), none, none] (by simp [subL]) ?_
                              exact ih_61 _ (by rw [← hmu_61]; exact mu_up h66) x32 x33 x34 (x35 + (1 : Int32)) I43 J44 rfl hK49 (lo_up hl39 h66)
                            · skip
                              exact J_166
                  · skip
                    refine g_iload d_X10_best_82 rfl ?_
                    refine g_iload d_X10_best_84 rfl ?_
                    refine g_i2l d_X10_best_86 ?_
                    refine g_iload d_X10_best_87 rfl ?_
                    refine g_S2 d_X10_best_89 cs_X10_best_X10_has lk_RX10_149 im_X10_has (Nat.le_of_ble_eq_true rfl) ⟨rfl, rfl⟩ ⟨Nat.zero_le _, Nat.zero_le _⟩ (ct_X10_has (Int32.toInt64 x35) x41 I36 J37 ) (fun r89 S89 Ic52 Jc53 q89_50 => ?_)
                    obtain ⟨rfl, rfl, rfl, r55, rfl, hz89⟩ := q89_50
                    refine g_st (st' := [.int r55, .int x40]) rfl ?_
                    refine g_if_eq d_X10_best_92 (fun h92 => ?_) (fun h92 => ?_)
                    · skip
                      refine g_iconst (v := 0) d_X10_best_105 kI_0 ?_
                      refine g_iadd d_X10_best_106 ?_
                      refine g_topI (fun v57 ev57 => ?_)
                      refine g_istore (L' := [some (.ref 78), some (.int set), some (.int c), some (.int what), some (.int r29), some (.int x32), some (.int x33), some (.int x34), some (.int x35), some (.int v57), some (.int x41)]) d_X10_best_107 (by decide) rfl ?_
                      refine g_iinc (v := (x41 + (1 : Int32))) (L' := [some (.ref 78), some (.int set), some (.int c), some (.int what), some (.int r29), some (.int x32), some (.int x33), some (.int x34), some (.int x35), some (.int v57), some (.int (x41 + (1 : Int32)))]) d_X10_best_109 rfl (by rw [kI_1]) (by decide) rfl ?_
                      refine g_goto d_X10_best_112 ?_
                      exact ih_75 _ (by rw [← hmu_75]; exact mu_up h79) v57 (x41 + (1 : Int32)) rfl (lo_up hl42 h79)
                    · skip
                      refine g_aload_n d_X10_best_95 rfl ?_
                      refine g_getR d_X10_best_96 fq_RX10_73 rfl rfl ?_
                      refine g_iload d_X10_best_99 rfl ?_
                      refine g_iaload (N := 7) d_X10_best_101 rfl kT_7 ⟨hl42, Int32.not_le.mp h79⟩ rfl ?_
                      refine g_goto d_X10_best_102 ?_
                      refine g_iadd d_X10_best_106 ?_
                      refine g_topI (fun v58 ev58 => ?_)
                      refine g_istore (L' := [some (.ref 78), some (.int set), some (.int c), some (.int what), some (.int r29), some (.int x32), some (.int x33), some (.int x34), some (.int x35), some (.int v58), some (.int x41)]) d_X10_best_107 (by decide) rfl ?_
                      refine g_iinc (v := (x41 + (1 : Int32))) (L' := [some (.ref 78), some (.int set), some (.int c), some (.int what), some (.int r29), some (.int x32), some (.int x33), some (.int x34), some (.int x35), some (.int v58), some (.int (x41 + (1 : Int32)))]) d_X10_best_109 rfl (by rw [kI_1]) (by decide) rfl ?_
                      refine g_goto d_X10_best_112 ?_
                      exact ih_75 _ (by rw [← hmu_75]; exact mu_up h79) v58 (x41 + (1 : Int32)) rfl (lo_up hl42 h79)
              exact K_75 _ (0 : Int32) (0 : Int32) rfl (Int32.le_refl _)
        exact K_61 _ (0 : Int32) (0 : Int32) (0 : Int32) (1 : Int32) I25 J26 rfl hK31 (Int32.le_refl _)
      · skip
        refine g_ldc (v := -1000000002) d_X10_best_39 tw_1199 ?_
        exact g_ireturn d_X10_best_41 rfl rfl rfl rfl ⟨rfl, trivial, (-1000000002 : Int32), rfl, hK6⟩
  · skip
    refine g_ldcw (v := -1000000001) d_X10_best_11 tw_1296 ?_
    exact g_ireturn d_X10_best_14 rfl rfl rfl rfl ⟨rfl, trivial, (-1000000001 : Int32), rfl, hK6⟩
set_option maxRecDepth 100000 in
set_option maxHeartbeats 4000000 in
theorem ct_X10_pays (set : Int32) (c : Int32) (u : Int32) (I : Iv) (J : Jv) (hma : MA I) (hmj : MJ J) : Ct m_X10_pays [.ref 78, .int set, .int c, .int u] SHF I J (fun r S' I' J' => S' = SHF ∧ True ∧ ∃ v : Int32, r = some (.int v) ∧ (MI (bgI I) I' ∧ MK (bgJ I J) J')) := by
  refine ct_of 3 (by decide +kernel) rfl rfl ?_
  have hK0 : (MI I I ∧ MK J J) := ⟨mi_rfl hma, mk_rfl hmj⟩
  refine g_aload_n d_X10_pays_0 rfl ?_
  refine g_V0 d_X10_pays_1 cs_X10_pays_X10_begin lk_RX10_166 im_X10_begin se_X10_begin rfl rfl rfl (Nat.le_of_ble_eq_true rfl) ⟨rfl, rfl⟩ ⟨Nat.zero_le _, Nat.zero_le _⟩ (ct_X10_begin  I J hma hmj) (fun r1 S1 I1 J2 q1_2 => ?_)
  obtain ⟨rfl, hc1_3, rfl, hr1_4⟩ := q1_2
  refine g_st (st' := []) rfl ?_
  have hK6 : (MI (bgI I) I1 ∧ MK (bgJ I J) J2) := hr1_4
  refine g_iload_n d_X10_pays_4 rfl ?_
  refine g_S1 d_X10_pays_5 cs_X10_pays_X10_isSet lk_RX10_259 im_X10_isSet (Nat.le_of_ble_eq_true rfl) ⟨rfl, rfl⟩ ⟨Nat.zero_le _, Nat.zero_le _⟩ (ct_X10_isSet set I1 J2 ) (fun r5 S5 Ic8 Jc9 q5_6 => ?_)
  obtain ⟨rfl, rfl, rfl, r11, rfl, hz5, hr5_11⟩ := q5_6
  refine g_st (st' := [.int r11]) rfl ?_
  refine g_if_ne d_X10_pays_8 (fun h8 => ?_) (fun h8 => ?_)
  · skip
    refine g_iload_n d_X10_pays_15 rfl ?_
    refine g_i2l d_X10_pays_16 ?_
    refine g_lconst d_X10_pays_17 kL_0 ?_
    refine g_ldc2 (v := 99999) d_X10_pays_18 tw_1475 ?_
    refine g_S3 d_X10_pays_21 cs_X10_pays_X10_in lk_RX10_96 im_X10_in (Nat.le_of_ble_eq_true rfl) ⟨rfl, rfl⟩ ⟨Nat.zero_le _, Nat.zero_le _⟩ (ct_X10_inL c (0 : Int64) (99999 : Int64) (0 : Int32) (99999 : Int32) (by decide) (by decide) I1 J2) (fun r21 S21 Ic14 Jc15 q21_12 => ?_)
    obtain ⟨rfl, rfl, rfl, r17, rfl, hz21, hr21_17⟩ := q21_12
    refine g_st (st' := [.int r17]) rfl ?_
    refine g_if_eq d_X10_pays_24 (fun h24 => ?_) (fun h24 => ?_)
    · skip
      refine g_ldc (v := -1000000002) d_X10_pays_39 tw_1199 ?_
      exact g_ireturn d_X10_pays_41 rfl rfl rfl rfl ⟨rfl, trivial, (-1000000002 : Int32), rfl, hK6⟩
    · skip
      refine g_iload_n d_X10_pays_27 rfl ?_
      refine g_i2l d_X10_pays_28 ?_
      refine g_lconst d_X10_pays_29 kL_0 ?_
      refine g_ldc2 (v := 9999) d_X10_pays_30 tw_1404 ?_
      refine g_S3 d_X10_pays_33 cs_X10_pays_X10_in lk_RX10_96 im_X10_in (Nat.le_of_ble_eq_true rfl) ⟨rfl, rfl⟩ ⟨Nat.zero_le _, Nat.zero_le _⟩ (ct_X10_inL u (0 : Int64) (9999 : Int64) (0 : Int32) (9999 : Int32) (by decide) (by decide) I1 J2) (fun r33 S33 Ic20 Jc21 q33_18 => ?_)
      obtain ⟨rfl, rfl, rfl, r23, rfl, hz33, hr33_23⟩ := q33_18
      refine g_st (st' := [.int r23]) rfl ?_
      refine g_if_ne d_X10_pays_36 (fun h36 => ?_) (fun h36 => ?_)
      · skip
        refine g_aload_n d_X10_pays_42 rfl ?_
        refine g_iload_n d_X10_pays_43 rfl ?_
        refine g_V1 d_X10_pays_44 cs_X10_pays_X10_yearOf lk_RX10_371 im_X10_yearOf se_X10_yearOf rfl rfl rfl (Nat.le_of_ble_eq_true rfl) ⟨rfl, rfl⟩ ⟨Nat.zero_le _, Nat.zero_le _⟩ (ct_X10_yearOf set I1 J2 (hK6).1.2 (hK6).2.2) (fun r44 S44 I25 J26 q44_26 => ?_)
        obtain ⟨rfl, hc44_27, r29, rfl⟩ := q44_26
        refine g_st (st' := [.int r29]) rfl ?_
        have hK31 : (MI (bgI I) I25 ∧ MK (bgJ I J) J26) := ⟨mi_tr (hK6).1 hc44_27.1, mk_tr (hK6).2 hc44_27.2⟩
        refine g_i2l d_X10_pays_47 ?_
        refine g_ldc2 (v := 365) d_X10_pays_48 tw_1555 ?_
        refine g_iload_n d_X10_pays_51 rfl ?_
        refine g_i2l d_X10_pays_52 ?_
        refine g_lmul d_X10_pays_53 ?_
        refine g_aload_n d_X10_pays_54 rfl ?_
        refine g_getI d_X10_pays_55 fq_RX10_88 rfl rfl ?_
        refine g_i2l d_X10_pays_58 ?_
        refine g_lmul d_X10_pays_59 ?_
        refine g_ldc2 (v := 1000) d_X10_pays_60 tw_1392 ?_
        refine g_ldiv d_X10_pays_63 (by decide) ?_
        refine g_lsub d_X10_pays_64 ?_
        refine g_topJ (fun v32 ev32 => ?_)
        refine g_lstore (L' := [some (.ref 78), some (.int set), some (.int c), some (.int u), some (.long v32), none, none]) d_X10_pays_65 (by decide) rfl ?_
        refine g_iconst (v := 1) d_X10_pays_67 kI_1 ?_
        refine g_istore (L' := [some (.ref 78), some (.int set), some (.int c), some (.int u), some (.long v32), none, some (.int (1 : Int32))]) d_X10_pays_68 (by decide) rfl ?_
        have K_70 : ∀ (nu : Nat) (x33 : Int32), mUe (30 : Int32) x33 = nu → ((1 : Int32) ≤ x33) → G m_X10_pays (rq m_X10_pays (fun r S' I' J' => S' = SHF ∧ True ∧ ∃ v : Int32, r = some (.int v) ∧ (MI (bgI I) I' ∧ MK (bgJ I J) J'))) 0 0 70 [some (.ref 78), some (.int set), some (.int c), some (.int u), some (.long v32), none, some (.int x33)] [] SHF I25 J26 := by
          intro nu
          induction nu using Nat.strongRecOn with
          | ind nu ih_70 =>
            intro x33 hmu_70 hl34
            refine g_iload d_X10_pays_70 rfl ?_
            refine g_bipush (v := 30) d_X10_pays_72 kB_30 ?_
            refine g_icmp_gt d_X10_pays_74 (fun h74 => ?_) (fun h74 => ?_)
            · skip
              refine g_iconst (v := -1) d_X10_pays_98 kI_m1 ?_
              exact g_ireturn d_X10_pays_99 rfl rfl rfl rfl ⟨rfl, trivial, (-1 : Int32), rfl, hK31⟩
            · skip
              refine g_iload d_X10_pays_77 rfl ?_
              refine g_i2l d_X10_pays_79 ?_
              refine g_lload d_X10_pays_80 rfl ?_
              refine g_lmul d_X10_pays_82 ?_
              refine g_iload_n d_X10_pays_83 rfl ?_
              refine g_i2l d_X10_pays_84 ?_
              refine g_lcmp_lt d_X10_pays_85 d_X10_pays_86 (fun h86 => ?_) (fun h86 => ?_)
              · skip
                refine g_iinc (v := (x33 + (1 : Int32))) (L' := [some (.ref 78), some (.int set), some (.int c), some (.int u), some (.long v32), none, some (.int (x33 + (1 : Int32)))]) d_X10_pays_92 rfl (by rw [kI_1]) (by decide) rfl ?_
                refine g_goto d_X10_pays_95 ?_
                exact ih_70 _ (by rw [← hmu_70]; exact mu_upe h74 (by decide)) (x33 + (1 : Int32)) rfl (lo_upe hl34 h74 (by decide))
              · skip
                refine g_iload d_X10_pays_89 rfl ?_
                exact g_ireturn d_X10_pays_91 rfl rfl rfl rfl ⟨rfl, trivial, x33, rfl, hK31⟩
        exact K_70 _ (1 : Int32) rfl (Int32.le_refl _)
      · skip
        refine g_ldc (v := -1000000002) d_X10_pays_39 tw_1199 ?_
        exact g_ireturn d_X10_pays_41 rfl rfl rfl rfl ⟨rfl, trivial, (-1000000002 : Int32), rfl, hK6⟩
  · skip
    refine g_ldcw (v := -1000000001) d_X10_pays_11 tw_1296 ?_
    exact g_ireturn d_X10_pays_14 rfl rfl rfl rfl ⟨rfl, trivial, (-1000000001 : Int32), rfl, hK6⟩
set_option maxRecDepth 100000 in
set_option maxHeartbeats 4000000 in
theorem ct_X10_iceOf (set : Int32) (n : Int32) (b : Int32) (p : Int32) (I : Iv) (J : Jv) (hma : MA I) (hmj : MJ J) : Ct m_X10_iceOf [.ref 78, .int set, .int n, .int b, .int p] SHF I J (fun r S' I' J' => S' = SHF ∧ (MI I I' ∧ MK J J') ∧ ∃ v : Int64, r = some (.long v)) := by
  refine ct_of 3 (by decide +kernel) rfl rfl ?_
  have hK0 : (MI I I ∧ MK J J) := ⟨mi_rfl hma, mk_rfl hmj⟩
  refine g_aload_n d_X10_iceOf_0 rfl ?_
  refine g_iload_n d_X10_iceOf_1 rfl ?_
  refine g_V1 d_X10_iceOf_2 cs_X10_iceOf_X10_tryFresh lk_RX10_317 im_X10_tryFresh se_X10_tryFresh rfl rfl rfl (Nat.le_of_ble_eq_true rfl) ⟨rfl, rfl⟩ ⟨Nat.zero_le _, Nat.zero_le _⟩ (ct_X10_tryFresh set I J ) (fun r2 S2 Ic3 J1 q2_1 => ?_)
  obtain ⟨rfl, ⟨rfl, hc2_3⟩, rfl, hr2_4⟩ := q2_1
  refine g_st (st' := []) rfl ?_
  have hK6 : (MI I I ∧ MK J J1) := ⟨(hK0).1, try_mk (hK0).2 hr2_4⟩
  refine g_iconst (v := 0) d_X10_iceOf_5 kI_0 ?_
  refine g_istore (L' := [some (.ref 78), some (.int set), some (.int n), some (.int b), some (.int p), some (.int (0 : Int32)), none, none]) d_X10_iceOf_6 (by decide) rfl ?_
  refine g_iconst (v := 0) d_X10_iceOf_8 kI_0 ?_
  refine g_istore (L' := [some (.ref 78), some (.int set), some (.int n), some (.int b), some (.int p), some (.int (0 : Int32)), some (.int (0 : Int32)), none]) d_X10_iceOf_9 (by decide) rfl ?_
  have K_11 : ∀ (nu : Nat) (x7 : Int32) (x8 : Int32) (J9 : Jv), mU n x8 = nu → ((MI I I ∧ MK J J9)) → ((0 : Int32) ≤ x8) → G m_X10_iceOf (rq m_X10_iceOf (fun r S' I' J' => S' = SHF ∧ (MI I I' ∧ MK J J') ∧ ∃ v : Int64, r = some (.long v))) 0 0 11 [some (.ref 78), some (.int set), some (.int n), some (.int b), some (.int p), some (.int x7), some (.int x8), none] [] SHF I J9 := by
    intro nu
    induction nu using Nat.strongRecOn with
    | ind nu ih_11 =>
      intro x7 x8 J9 hmu_11 hK10 hl11
      refine g_iload d_X10_iceOf_11 rfl ?_
      refine g_iload_n d_X10_iceOf_13 rfl ?_
      refine g_icmp_ge d_X10_iceOf_14 (fun h14 => ?_) (fun h14 => ?_)
      · skip
        refine g_aload_n d_X10_iceOf_61 rfl ?_
        refine g_getR d_X10_iceOf_62 fq_RX10_7 rfl rfl ?_
        refine g_sipush (v := 143) d_X10_iceOf_65 kS_143 ?_
        refine g_laload (N := 320) d_X10_iceOf_68 rfl kT_320 ⟨by decide, by decide⟩ kN_143 ?_
        refine g_aload_n d_X10_iceOf_69 rfl ?_
        refine g_getI d_X10_iceOf_70 fq_RX10_88 rfl rfl ?_
        refine g_i2l d_X10_iceOf_73 ?_
        refine g_lmul d_X10_iceOf_74 ?_
        refine g_ldc2 (v := 1000) d_X10_iceOf_75 tw_1392 ?_
        refine g_ldiv d_X10_iceOf_78 (by decide) ?_
        refine g_iload_n d_X10_iceOf_79 rfl ?_
        refine g_i2l d_X10_iceOf_80 ?_
        refine g_iload d_X10_iceOf_81 rfl ?_
        refine g_i2l d_X10_iceOf_83 ?_
        refine g_lmul d_X10_iceOf_84 ?_
        refine g_ladd d_X10_iceOf_85 ?_
        exact g_lreturn d_X10_iceOf_86 rfl rfl rfl ⟨rfl, hK10, ((((J9 79 143) * (Int32.toInt64 (I 78 30))) / (1000 : Int64)) + ((Int32.toInt64 b) * (Int32.toInt64 x7))), rfl⟩
      · skip
        refine g_iload d_X10_iceOf_17 rfl ?_
        have J_46 : ∀ (y12 : Int32), ∀ (J13 : Jv), ((MI I I ∧ MK J J13)) → G m_X10_iceOf (rq m_X10_iceOf (fun r S' I' J' => S' = SHF ∧ (MI I I' ∧ MK J J') ∧ ∃ v : Int64, r = some (.long v))) 0 0 46 [some (.ref 78), some (.int set), some (.int n), some (.int b), some (.int p), some (.int y12), some (.int x8), none] [] SHF I J13 := by
          intro y12 J13 hK14
          refine g_aload_n d_X10_iceOf_46 rfl ?_
          refine g_bipush (v := 80) d_X10_iceOf_47 kB_80 ?_
          refine g_sipush (v := 288) d_X10_iceOf_49 kS_288 ?_
          refine g_V2 d_X10_iceOf_52 cs_X10_iceOf_X10_go lk_RX10_289 im_X10_go se_X10_go rfl rfl rfl (Nat.le_of_ble_eq_true rfl) ⟨rfl, rfl⟩ ⟨Nat.zero_le _, Nat.zero_le _⟩ (ct_X10_go (80 : Int32) (288 : Int32) I J13 (by decide) ((hK14).2.2 _ (by decide)).2.1 ((hK14).2.2 _ (by decide)).1 ((hK14).1.2.2.1) (by grind) ((hK14).1.2.2.2.1) ((hK14).1.2.2.2.2.1)) (fun r52 S52 Ic17 J15 q52_15 => ?_)
          obtain ⟨rfl, ⟨rfl, hc52_17⟩, rfl, hr52_18⟩ := q52_15
          refine g_st (st' := []) rfl ?_
          have hK20 : (MI I I ∧ MK J J15) := ⟨(hK14).1, tg_mk80 (hK14).2 hc52_17⟩
          refine g_iinc (v := (x8 + (1 : Int32))) (L' := [some (.ref 78), some (.int set), some (.int n), some (.int b), some (.int p), some (.int y12), some (.int (x8 + (1 : Int32))), none]) d_X10_iceOf_55 rfl (by rw [kI_1]) (by decide) rfl ?_
          refine g_goto d_X10_iceOf_58 ?_
          exact ih_11 _ (by rw [← hmu_11]; exact mu_up h14) y12 (x8 + (1 : Int32)) J15 rfl hK20 (lo_up hl11 h14)
        refine g_if_le d_X10_iceOf_19 (fun h19 => ?_) (fun h19 => ?_)
        · skip
          exact J_46 x7 J9 hK10
        · skip
          refine g_iload d_X10_iceOf_22 rfl ?_
          refine g_if_le d_X10_iceOf_24 (fun h24 => ?_) (fun h24 => ?_)
          · skip
            exact J_46 x7 J9 hK10
          · skip
            refine g_iload d_X10_iceOf_27 rfl ?_
            refine g_iload d_X10_iceOf_29 rfl ?_
            refine g_irem d_X10_iceOf_31 (by grind) ?_
            refine g_if_ne d_X10_iceOf_32 (fun h32 => ?_) (fun h32 => ?_)
            · skip
              exact J_46 x7 J9 hK10
            · skip
              refine g_aload_n d_X10_iceOf_35 rfl ?_
              refine g_bipush (v := 80) d_X10_iceOf_36 kB_80 ?_
              refine g_V1 d_X10_iceOf_38 cs_X10_iceOf_X10_melt lk_RX10_314 im_X10_melt se_X10_melt rfl rfl rfl (Nat.le_of_ble_eq_true rfl) ⟨rfl, rfl⟩ ⟨Nat.zero_le _, Nat.zero_le _⟩ (ct_X10_melt (80 : Int32) I J9 (by decide) ((hK10).2.2 _ (by decide)).2.1) (fun r38 S38 Ic23 J21 q38_21 => ?_)
              obtain ⟨rfl, ⟨rfl, hc38_23⟩, r25, rfl⟩ := q38_21
              refine g_st (st' := [.int r25]) rfl ?_
              have hK27 : (MI I I ∧ MK J J21) := ⟨(hK10).1, tg_mk80 (hK10).2 hc38_23.tg⟩
              refine g_istore (L' := [some (.ref 78), some (.int set), some (.int n), some (.int b), some (.int p), some (.int x7), some (.int x8), some (.int r25)]) d_X10_iceOf_41 (by decide) rfl ?_
              refine g_iinc (v := (x7 + (1 : Int32))) (L' := [some (.ref 78), some (.int set), some (.int n), some (.int b), some (.int p), some (.int (x7 + (1 : Int32))), some (.int x8), some (.int r25)]) d_X10_iceOf_43 rfl (by rw [kI_1]) (by decide) rfl ?_
              refine g_sb [some (.ref 78), some (.int set), some (.int n), some (.int b), some (.int p), some (.int (x7 + (1 : Int32))), some (.int x8), none] (by simp [subL]) ?_
              exact J_46 ((x7 + (1 : Int32))) J21 hK27
  exact K_11 _ (0 : Int32) (0 : Int32) J1 rfl hK6 (Int32.le_refl _)
set_option maxRecDepth 100000 in
set_option maxHeartbeats 4000000 in
theorem ct_X10_ice (set : Int32) (n : Int32) (b : Int32) (I : Iv) (J : Jv) (hma : MA I) (hmj : MJ J) : Ct m_X10_ice [.ref 78, .int set, .int n, .int b] SHF I J (fun r S' I' J' => S' = SHF ∧ True ∧ ∃ v : Int32, r = some (.int v) ∧ (MI (bgI I) I' ∧ MK (bgJ I J) J')) := by
  refine ct_of 6 (by decide +kernel) rfl rfl ?_
  have hK0 : (MI I I ∧ MK J J) := ⟨mi_rfl hma, mk_rfl hmj⟩
  refine g_aload_n d_X10_ice_0 rfl ?_
  refine g_V0 d_X10_ice_1 cs_X10_ice_X10_begin lk_RX10_166 im_X10_begin se_X10_begin rfl rfl rfl (Nat.le_of_ble_eq_true rfl) ⟨rfl, rfl⟩ ⟨Nat.zero_le _, Nat.zero_le _⟩ (ct_X10_begin  I J hma hmj) (fun r1 S1 I1 J2 q1_2 => ?_)
  obtain ⟨rfl, hc1_3, rfl, hr1_4⟩ := q1_2
  refine g_st (st' := []) rfl ?_
  have hK6 : (MI (bgI I) I1 ∧ MK (bgJ I J) J2) := hr1_4
  refine g_iload_n d_X10_ice_4 rfl ?_
  refine g_S1 d_X10_ice_5 cs_X10_ice_X10_isSet lk_RX10_259 im_X10_isSet (Nat.le_of_ble_eq_true rfl) ⟨rfl, rfl⟩ ⟨Nat.zero_le _, Nat.zero_le _⟩ (ct_X10_isSet set I1 J2 ) (fun r5 S5 Ic8 Jc9 q5_6 => ?_)
  obtain ⟨rfl, rfl, rfl, r11, rfl, hz5, hr5_11⟩ := q5_6
  refine g_st (st' := [.int r11]) rfl ?_
  refine g_if_ne d_X10_ice_8 (fun h8 => ?_) (fun h8 => ?_)
  · skip
    refine g_iload_n d_X10_ice_15 rfl ?_
    refine g_i2l d_X10_ice_16 ?_
    refine g_lconst d_X10_ice_17 kL_1 ?_
    refine g_ldc2 (v := 20) d_X10_ice_18 tw_1343 ?_
    refine g_S3 d_X10_ice_21 cs_X10_ice_X10_in lk_RX10_96 im_X10_in (Nat.le_of_ble_eq_true rfl) ⟨rfl, rfl⟩ ⟨Nat.zero_le _, Nat.zero_le _⟩ (ct_X10_inL n (1 : Int64) (20 : Int64) (1 : Int32) (20 : Int32) (by decide) (by decide) I1 J2) (fun r21 S21 Ic14 Jc15 q21_12 => ?_)
    obtain ⟨rfl, rfl, rfl, r17, rfl, hz21, hr21_17⟩ := q21_12
    refine g_st (st' := [.int r17]) rfl ?_
    refine g_if_eq d_X10_ice_24 (fun h24 => ?_) (fun h24 => ?_)
    · skip
      refine g_ldc (v := -1000000002) d_X10_ice_39 tw_1199 ?_
      exact g_ireturn d_X10_ice_41 rfl rfl rfl rfl ⟨rfl, trivial, (-1000000002 : Int32), rfl, hK6⟩
    · skip
      refine g_iload_n d_X10_ice_27 rfl ?_
      refine g_i2l d_X10_ice_28 ?_
      refine g_lconst d_X10_ice_29 kL_0 ?_
      refine g_ldc2 (v := 999) d_X10_ice_30 tw_1476 ?_
      refine g_S3 d_X10_ice_33 cs_X10_ice_X10_in lk_RX10_96 im_X10_in (Nat.le_of_ble_eq_true rfl) ⟨rfl, rfl⟩ ⟨Nat.zero_le _, Nat.zero_le _⟩ (ct_X10_inL b (0 : Int64) (999 : Int64) (0 : Int32) (999 : Int32) (by decide) (by decide) I1 J2) (fun r33 S33 Ic20 Jc21 q33_18 => ?_)
      obtain ⟨rfl, rfl, rfl, r23, rfl, hz33, hr33_23⟩ := q33_18
      refine g_st (st' := [.int r23]) rfl ?_
      refine g_if_ne d_X10_ice_36 (fun h36 => ?_) (fun h36 => ?_)
      · skip
        refine g_iconst (v := 0) d_X10_ice_42 kI_0 ?_
        refine g_istore (L' := [some (.ref 78), some (.int set), some (.int n), some (.int b), some (.int (0 : Int32)), none, none, none, none, none]) d_X10_ice_43 (by decide) rfl ?_
        refine g_aload_n d_X10_ice_45 rfl ?_
        refine g_iload_n d_X10_ice_46 rfl ?_
        refine g_iload_n d_X10_ice_47 rfl ?_
        refine g_iload_n d_X10_ice_48 rfl ?_
        refine g_iconst (v := 0) d_X10_ice_49 kI_0 ?_
        refine g_V4 d_X10_ice_50 cs_X10_ice_X10_iceOf lk_RX10_375 im_X10_iceOf se_X10_iceOf rfl rfl rfl (Nat.le_of_ble_eq_true rfl) ⟨rfl, rfl⟩ ⟨Nat.zero_le _, Nat.zero_le _⟩ (ct_X10_iceOf set n b (0 : Int32) I1 J2 (hK6).1.2 (hK6).2.2) (fun r50 S50 I25 J26 q50_26 => ?_)
        obtain ⟨rfl, hc50_27, r29, rfl⟩ := q50_26
        refine g_st (st' := [.long r29]) rfl ?_
        have hK31 : (MI (bgI I) I25 ∧ MK (bgJ I J) J26) := ⟨mi_tr (hK6).1 hc50_27.1, mk_tr (hK6).2 hc50_27.2⟩
        refine g_lstore (L' := [some (.ref 78), some (.int set), some (.int n), some (.int b), some (.int (0 : Int32)), some (.long r29), none, none, none, none]) d_X10_ice_53 (by decide) rfl ?_
        refine g_iconst (v := 1) d_X10_ice_55 kI_1 ?_
        refine g_istore (L' := [some (.ref 78), some (.int set), some (.int n), some (.int b), some (.int (0 : Int32)), some (.long r29), none, some (.int (1 : Int32)), none, none]) d_X10_ice_56 (by decide) rfl ?_
        have K_58 : ∀ (nu : Nat) (x32 : Int32) (x33 : Int64) (x34 : Int32) (I35 : Iv) (J36 : Jv), mUe (20 : Int32) x34 = nu → ((MI (bgI I) I35 ∧ MK (bgJ I J) J36)) → ((1 : Int32) ≤ x34) → G m_X10_ice (rq m_X10_ice (fun r S' I' J' => S' = SHF ∧ True ∧ ∃ v : Int32, r = some (.int v) ∧ (MI (bgI I) I' ∧ MK (bgJ I J) J'))) 0 0 58 [some (.ref 78), some (.int set), some (.int n), some (.int b), some (.int x32), some (.long x33), none, some (.int x34), none, none] [] SHF I35 J36 := by
          intro nu
          induction nu using Nat.strongRecOn with
          | ind nu ih_58 =>
            intro x32 x33 x34 I35 J36 hmu_58 hK37 hl38
            refine g_iload d_X10_ice_58 rfl ?_
            refine g_bipush (v := 20) d_X10_ice_60 kB_20 ?_
            refine g_icmp_gt d_X10_ice_62 (fun h62 => ?_) (fun h62 => ?_)
            · skip
              refine g_iload d_X10_ice_116 rfl ?_
              exact g_ireturn d_X10_ice_118 rfl rfl rfl rfl ⟨rfl, trivial, x32, rfl, hK37⟩
            · skip
              refine g_aload_n d_X10_ice_65 rfl ?_
              refine g_iload_n d_X10_ice_66 rfl ?_
              refine g_iload_n d_X10_ice_67 rfl ?_
              refine g_iload_n d_X10_ice_68 rfl ?_
              refine g_iload d_X10_ice_69 rfl ?_
              refine g_V4 d_X10_ice_71 cs_X10_ice_X10_iceOf lk_RX10_375 im_X10_iceOf se_X10_iceOf rfl rfl rfl (Nat.le_of_ble_eq_true rfl) ⟨rfl, rfl⟩ ⟨Nat.zero_le _, Nat.zero_le _⟩ (ct_X10_iceOf set n b x34 I35 J36 (hK37).1.2 (hK37).2.2) (fun r71 S71 I39 J40 q71_40 => ?_)
              obtain ⟨rfl, hc71_41, r43, rfl⟩ := q71_40
              refine g_st (st' := [.long r43]) rfl ?_
              have hK45 : (MI (bgI I) I39 ∧ MK (bgJ I J) J40) := ⟨mi_tr (hK37).1 hc71_41.1, mk_tr (hK37).2 hc71_41.2⟩
              refine g_lstore (L' := [some (.ref 78), some (.int set), some (.int n), some (.int b), some (.int x32), some (.long x33), none, some (.int x34), some (.long r43), none]) d_X10_ice_74 (by decide) rfl ?_
              refine g_lload d_X10_ice_76 rfl ?_
              refine g_lload d_X10_ice_78 rfl ?_
              have J_91 : ∀ (w46 : Int32), G m_X10_ice (rq m_X10_ice (fun r S' I' J' => S' = SHF ∧ True ∧ ∃ v : Int32, r = some (.int v) ∧ (MI (bgI I) I' ∧ MK (bgJ I J) J'))) 0 0 91 [some (.ref 78), some (.int set), some (.int n), some (.int b), some (.int x32), some (.long x33), none, some (.int x34), some (.long r43), none] [.int w46] SHF I39 J40 := by
                intro w46
                refine g_istore (L' := [some (.ref 78), some (.int set), some (.int n), some (.int b), some (.int w46), some (.long x33), none, some (.int x34), some (.long r43), none]) d_X10_ice_91 (by decide) rfl ?_
                refine g_lload d_X10_ice_93 rfl ?_
                refine g_lload d_X10_ice_95 rfl ?_
                refine g_lcmp_ge d_X10_ice_97 d_X10_ice_98 (fun h98 => ?_) (fun h98 => ?_)
                · skip
                  refine g_lload d_X10_ice_106 rfl ?_
                  refine g_lstore (L' := [some (.ref 78), some (.int set), some (.int n), some (.int b), some (.int w46), some (.long x33), none, some (.int x34), some (.long r43), none]) d_X10_ice_108 (by decide) rfl ?_
                  refine g_iinc (v := (x34 + (1 : Int32))) (L' := [some (.ref 78), some (.int set), some (.int n), some (.int b), some (.int w46), some (.long x33), none, some (.int (x34 + (1 : Int32))), some (.long r43), none]) d_X10_ice_110 rfl (by rw [kI_1]) (by decide) rfl ?_
                  refine g_goto d_X10_ice_113 ?_
                  refine g_sb [some (.ref 78), some (.int set), some (.int n), some (.int b), some (.int w46), some (.long x33), none, some (.int (x34 + (1 : Int32))), none, none] (by simp [subL]) ?_
                  exact ih_58 _ (by rw [← hmu_58]; exact mu_upe h62 (by decide)) w46 x33 (x34 + (1 : Int32)) I39 J40 rfl hK45 (lo_upe hl38 h62 (by decide))
                · skip
                  refine g_lload d_X10_ice_101 rfl ?_
                  refine g_goto d_X10_ice_103 ?_
                  refine g_lstore (L' := [some (.ref 78), some (.int set), some (.int n), some (.int b), some (.int w46), some (.long r43), none, some (.int x34), some (.long r43), none]) d_X10_ice_108 (by decide) rfl ?_
                  refine g_iinc (v := (x34 + (1 : Int32))) (L' := [some (.ref 78), some (.int set), some (.int n), some (.int b), some (.int w46), some (.long r43), none, some (.int (x34 + (1 : Int32))), some (.long r43), none]) d_X10_ice_110 rfl (by rw [kI_1]) (by decide) rfl ?_
                  refine g_goto d_X10_ice_113 ?_
                  refine g_sb [some (.ref 78), some (.int set), some (.int n), some (.int b), some (.int w46), some (.long r43), none, some (.int (x34 + (1 : Int32))), none, none] (by simp [subL]) ?_
                  exact ih_58 _ (by rw [← hmu_58]; exact mu_upe h62 (by decide)) w46 r43 (x34 + (1 : Int32)) I39 J40 rfl hK45 (lo_upe hl38 h62 (by decide))
              refine g_lcmp_ge d_X10_ice_80 d_X10_ice_81 (fun h81 => ?_) (fun h81 => ?_)
              · skip
                refine g_iload d_X10_ice_89 rfl ?_
                exact J_91 x32
              · skip
                refine g_iload d_X10_ice_84 rfl ?_
                refine g_goto d_X10_ice_86 ?_
                exact J_91 x34
        exact K_58 _ (0 : Int32) r29 (1 : Int32) I25 J26 rfl hK31 (Int32.le_refl _)
      · skip
        refine g_ldc (v := -1000000002) d_X10_ice_39 tw_1199 ?_
        exact g_ireturn d_X10_ice_41 rfl rfl rfl rfl ⟨rfl, trivial, (-1000000002 : Int32), rfl, hK6⟩
  · skip
    refine g_ldcw (v := -1000000001) d_X10_ice_11 tw_1296 ?_
    exact g_ireturn d_X10_ice_14 rfl rfl rfl rfl ⟨rfl, trivial, (-1000000001 : Int32), rfl, hK6⟩
set_option maxRecDepth 100000 in
set_option maxHeartbeats 4000000 in
theorem ct_X10_within (shelf : Int32) (I : Iv) (J : Jv) (hma : MA I) (hmj : MJ J) (hs : HS J) (hsh : 0 ≤ shelf ∧ shelf ≤ 2) : Ct m_X10_within [.ref 78, .int shelf] SHF I J (fun r S' I' J' => S' = SHF ∧ (MI I I' ∧ MK J J') ∧ ∃ v : Int32, r = some (.int v)) := by
  refine ct_of 3 (by decide +kernel) rfl rfl ?_
  have hK0 : (MI I I ∧ MK J J) := ⟨mi_rfl hma, mk_rfl hmj⟩
  refine g_iconst (v := 0) d_X10_within_0 kI_0 ?_
  refine g_istore_n (L' := [some (.ref 78), some (.int shelf), some (.int (0 : Int32)), none, none]) d_X10_within_1 (by decide) rfl ?_
  refine g_iconst (v := 0) d_X10_within_2 kI_0 ?_
  refine g_istore_n (L' := [some (.ref 78), some (.int shelf), some (.int (0 : Int32)), some (.int (0 : Int32)), none]) d_X10_within_3 (by decide) rfl ?_
  have K_4 : ∀ (nu : Nat) (x1 : Int32) (x2 : Int32) (J3 : Jv), mU (576 : Int32) x2 = nu → ((MI I I ∧ MK J J3)) → ((0 : Int32) ≤ x2) → (HS J3) → G m_X10_within (rq m_X10_within (fun r S' I' J' => S' = SHF ∧ (MI I I' ∧ MK J J') ∧ ∃ v : Int32, r = some (.int v))) 0 0 4 [some (.ref 78), some (.int shelf), some (.int x1), some (.int x2), none] [] SHF I J3 := by
    intro nu
    induction nu using Nat.strongRecOn with
    | ind nu ih_4 =>
      intro x1 x2 J3 hmu_4 hK4 hl5 hs_4
      refine g_iload_n d_X10_within_4 rfl ?_
      refine g_sipush (v := 576) d_X10_within_5 kS_576 ?_
      refine g_icmp_ge d_X10_within_8 (fun h8 => ?_) (fun h8 => ?_)
      · skip
        refine g_iload_n d_X10_within_97 rfl ?_
        exact g_ireturn d_X10_within_98 rfl rfl rfl rfl ⟨rfl, hK4, x1, rfl⟩
      · skip
        refine g_aload_n d_X10_within_11 rfl ?_
        refine g_bipush (v := 80) d_X10_within_12 kB_80 ?_
        refine g_aload_n d_X10_within_14 rfl ?_
        refine g_aload_n d_X10_within_15 rfl ?_
        refine g_getR d_X10_within_16 fq_RX10_7 rfl rfl ?_
        refine g_sipush (v := 134) d_X10_within_19 kS_134 ?_
        refine g_laload (N := 320) d_X10_within_22 rfl kT_320 ⟨by decide, by decide⟩ kN_134 ?_
        refine g_V1 d_X10_within_23 cs_X10_within_X10_isOpen lk_RX10_247 im_X10_isOpen se_X10_isOpen rfl rfl rfl (Nat.le_of_ble_eq_true rfl) ⟨rfl, rfl⟩ ⟨Nat.zero_le _, Nat.zero_le _⟩ (ct_X10_isOpen (J3 79 134) I J3 ((hK4).1.2.2.1)) (fun r23 S23 Ic7 Jc8 q23_5 => ?_)
        obtain ⟨rfl, rfl, rfl, r10, rfl, hz23⟩ := q23_5
        refine g_st (st' := [.int r10, .int (80 : Int32), .ref 78]) rfl ?_
        refine g_iload_n d_X10_within_26 rfl ?_
        refine g_iconst (v := 0) d_X10_within_27 kI_0 ?_
        refine g_V4 d_X10_within_28 cs_X10_within_X10_tick lk_RX10_251 im_X10_tick se_X10_tick rfl rfl rfl (Nat.le_of_ble_eq_true rfl) ⟨rfl, rfl⟩ ⟨Nat.zero_le _, Nat.zero_le _⟩ (ct_X10_tick (80 : Int32) r10 shelf (0 : Int32) I J3 (by decide) ((hK4).2.2 _ (by decide)).2.1 ((hK4).2.2 _ (by decide)).1 hsh ((hK4).1.2.2.2.2.1)) (fun r28 S28 Ic14 J12 q28_12 => ?_)
        obtain ⟨rfl, ⟨rfl, hc28_14⟩, rfl, hr28_15⟩ := q28_12
        refine g_st (st' := []) rfl ?_
        have hK17 : (MI I I ∧ MK J J12) := ⟨(hK4).1, tg_mk80 (hK4).2 hc28_14⟩
        have hs28 : HS J12 := hs_tg hs_4 hc28_14
        refine g_iconst (v := 0) d_X10_within_31 kI_0 ?_
        refine g_istore (L' := [some (.ref 78), some (.int shelf), some (.int x1), some (.int x2), some (.int (0 : Int32))]) d_X10_within_32 (by decide) rfl ?_
        have K_34 : ∀ (nu : Nat) (x18 : Int32) (x19 : Int32), mU (8 : Int32) x19 = nu → ((0 : Int32) ≤ x19) → G m_X10_within (rq m_X10_within (fun r S' I' J' => S' = SHF ∧ (MI I I' ∧ MK J J') ∧ ∃ v : Int32, r = some (.int v))) 0 0 34 [some (.ref 78), some (.int shelf), some (.int x18), some (.int x2), some (.int x19)] [] SHF I J12 := by
          intro nu
          induction nu using Nat.strongRecOn with
          | ind nu ih_34 =>
            intro x18 x19 hmu_34 hl20
            refine g_iload d_X10_within_34 rfl ?_
            refine g_bipush (v := 8) d_X10_within_36 kB_8 ?_
            refine g_icmp_ge d_X10_within_38 (fun h38 => ?_) (fun h38 => ?_)
            · skip
              refine g_iinc (v := (x2 + (1 : Int32))) (L' := [some (.ref 78), some (.int shelf), some (.int x18), some (.int (x2 + (1 : Int32))), some (.int x19)]) d_X10_within_91 rfl (by rw [kI_1]) (by decide) rfl ?_
              refine g_goto d_X10_within_94 ?_
              refine g_sb [some (.ref 78), some (.int shelf), some (.int x18), some (.int (x2 + (1 : Int32))), none] (by simp [subL]) ?_
              exact ih_4 _ (by rw [← hmu_4]; exact mu_up h8) x18 (x2 + (1 : Int32)) J12 rfl hK17 (lo_up hl5 h8) hs28
            · skip
              refine g_iload_n d_X10_within_41 rfl ?_
              refine g_sipush (v := 288) d_X10_within_42 kS_288 ?_
              refine g_icmp_lt d_X10_within_45 (fun h45 => ?_) (fun h45 => ?_)
              · skip
                refine g_iinc (v := (x2 + (1 : Int32))) (L' := [some (.ref 78), some (.int shelf), some (.int x18), some (.int (x2 + (1 : Int32))), some (.int x19)]) d_X10_within_91 rfl (by rw [kI_1]) (by decide) rfl ?_
                refine g_goto d_X10_within_94 ?_
                refine g_sb [some (.ref 78), some (.int shelf), some (.int x18), some (.int (x2 + (1 : Int32))), none] (by simp [subL]) ?_
                exact ih_4 _ (by rw [← hmu_4]; exact mu_up h8) x18 (x2 + (1 : Int32)) J12 rfl hK17 (lo_up hl5 h8) hs28
              · skip
                refine g_iload_n d_X10_within_48 rfl ?_
                refine g_aload_n d_X10_within_49 rfl ?_
                refine g_getR d_X10_within_50 fq_RX10_7 rfl rfl ?_
                refine g_bipush (v := 12) d_X10_within_53 kB_12 ?_
                refine g_iload d_X10_within_55 rfl ?_
                refine g_iadd d_X10_within_57 ?_
                refine g_laload (N := 320) d_X10_within_58 rfl kT_320 (by constructor <;> grind) (by rw [tn_add (by constructor <;> grind) (by constructor <;> grind), kN_12]) ?_
                refine g_lconst d_X10_within_59 kL_1 ?_
                have J_80 : ∀ (w21 : Int32), (w21 = 0 ∨ w21 = 1) → G m_X10_within (rq m_X10_within (fun r S' I' J' => S' = SHF ∧ (MI I I' ∧ MK J J') ∧ ∃ v : Int32, r = some (.int v))) 0 0 80 [some (.ref 78), some (.int shelf), some (.int x18), some (.int x2), some (.int x19)] [.int w21, .int x18] SHF I J12 := by
                  intro w21 hw21
                  refine g_S1 d_X10_within_80 cs_X10_within_X10_one lk_RX10_211 im_X10_one (Nat.le_of_ble_eq_true rfl) ⟨rfl, rfl⟩ ⟨Nat.zero_le _, Nat.zero_le _⟩ (ct_X10_one w21 I J12 ) (fun r80 S80 Ic23 Jc24 q80_21 => ?_)
                  obtain ⟨rfl, rfl, rfl, r26, rfl, hr80_26⟩ := q80_21
                  refine g_st (st' := [.int r26, .int x18]) rfl ?_
                  refine g_iadd d_X10_within_83 ?_
                  refine g_topI (fun v28 ev28 => ?_)
                  refine g_istore_n (L' := [some (.ref 78), some (.int shelf), some (.int v28), some (.int x2), some (.int x19)]) d_X10_within_84 (by decide) rfl ?_
                  refine g_iinc (v := (x19 + (1 : Int32))) (L' := [some (.ref 78), some (.int shelf), some (.int v28), some (.int x2), some (.int (x19 + (1 : Int32)))]) d_X10_within_85 rfl (by rw [kI_1]) (by decide) rfl ?_
                  refine g_goto d_X10_within_88 ?_
                  exact ih_34 _ (by rw [← hmu_34]; exact mu_up h38) v28 (x19 + (1 : Int32)) rfl (lo_up hl20 h38)
                have J_79 : G m_X10_within (rq m_X10_within (fun r S' I' J' => S' = SHF ∧ (MI I I' ∧ MK J J') ∧ ∃ v : Int32, r = some (.int v))) 0 0 79 [some (.ref 78), some (.int shelf), some (.int x18), some (.int x2), some (.int x19)] [.int x18] SHF I J12 := by
                  skip
                  refine g_iconst (v := 0) d_X10_within_79 kI_0 ?_
                  exact J_80 ((0 : Int32)) (Or.inl rfl)
                refine g_lcmp_ne d_X10_within_60 d_X10_within_61 (fun h61 => ?_) (fun h61 => ?_)
                · skip
                  exact J_79
                · skip
                  have hcp := hs_cap2 (f := x19) hs28 (by grind) (by grind) h61
                  refine g_aload_n d_X10_within_64 rfl ?_
                  refine g_bipush (v := 80) d_X10_within_65 kB_80 ?_
                  refine g_iload d_X10_within_67 rfl ?_
                  refine g_V2 d_X10_within_69 cs_X10_within_X10_isWithin lk_RX10_283 im_X10_isWithin se_X10_isWithin rfl rfl rfl (Nat.le_of_ble_eq_true rfl) ⟨rfl, rfl⟩ ⟨Nat.zero_le _, Nat.zero_le _⟩ (ct_X10_isWithin (80 : Int32) x19 I J12 (by decide) (by grind) hcp) (fun r69 S69 Ic30 Jc31 q69_28 => ?_)
                  obtain ⟨rfl, rfl, rfl, r33, rfl, hz69⟩ := q69_28
                  refine g_st (st' := [.int r33, .int x18]) rfl ?_
                  refine g_if_eq d_X10_within_72 (fun h72 => ?_) (fun h72 => ?_)
                  · skip
                    exact J_79
                  · skip
                    refine g_iconst (v := 1) d_X10_within_75 kI_1 ?_
                    refine g_goto d_X10_within_76 ?_
                    exact J_80 ((1 : Int32)) (Or.inr rfl)
        exact K_34 _ x1 (0 : Int32) rfl (Int32.le_refl _)
  exact K_4 _ (0 : Int32) (0 : Int32) J rfl hK0 (Int32.le_refl _) hs
set_option maxRecDepth 100000 in
set_option maxHeartbeats 4000000 in
theorem ct_X10_powerOf3 (n : Int32) (I : Iv) (J : Jv) (hn8 : n ≤ 8) : Ct m_X10_powerOf3 [.int n] SHF I J (fun r S' I' J' => S' = SHF ∧ I = I' ∧ J = J' ∧ ∃ v : Int32, r = some (.int v) ∧ 1 ≤ v ∧ v ≤ 6561) := by
  refine ct_of 2 (by decide +kernel) rfl rfl ?_
  refine g_iconst (v := 1) d_X10_powerOf3_0 kI_1 ?_
  refine g_istore_n (L' := [some (.int n), some (.int (1 : Int32)), none]) d_X10_powerOf3_1 (by decide) rfl ?_
  refine g_iconst (v := 0) d_X10_powerOf3_2 kI_0 ?_
  refine g_istore_n (L' := [some (.int n), some (.int (1 : Int32)), some (.int (0 : Int32))]) d_X10_powerOf3_3 (by decide) rfl ?_
  have K_4 : ∀ (nu : Nat) (x1 : Int32) (x2 : Int32), mU n x2 = nu → ((0 : Int32) ≤ x2) → ((x2 = 0 ∧ x1 = 1) ∨ (x2 = 1 ∧ x1 = 3) ∨ (x2 = 2 ∧ x1 = 9) ∨ (x2 = 3 ∧ x1 = 27) ∨ (x2 = 4 ∧ x1 = 81) ∨ (x2 = 5 ∧ x1 = 243) ∨ (x2 = 6 ∧ x1 = 729) ∨ (x2 = 7 ∧ x1 = 2187) ∨ (x2 = 8 ∧ x1 = 6561)) → G m_X10_powerOf3 (rq m_X10_powerOf3 (fun r S' I' J' => S' = SHF ∧ I = I' ∧ J = J' ∧ ∃ v : Int32, r = some (.int v) ∧ 1 ≤ v ∧ v ≤ 6561)) 0 0 4 [some (.int n), some (.int x1), some (.int x2)] [] SHF I J := by
    intro nu
    induction nu using Nat.strongRecOn with
    | ind nu ih_4 =>
      intro x1 x2 hmu_4 hl3 ht_4
      refine g_iload_n d_X10_powerOf3_4 rfl ?_
      refine g_iload_n d_X10_powerOf3_5 rfl ?_
      refine g_icmp_ge d_X10_powerOf3_6 (fun h6 => ?_) (fun h6 => ?_)
      · skip
        refine g_iload_n d_X10_powerOf3_19 rfl ?_
        exact g_ireturn d_X10_powerOf3_20 rfl rfl rfl rfl ⟨rfl, rfl, rfl, x1, rfl, by grind⟩
      · skip
        refine g_iload_n d_X10_powerOf3_9 rfl ?_
        refine g_iconst (v := 3) d_X10_powerOf3_10 kI_3 ?_
        refine g_imul d_X10_powerOf3_11 ?_
        refine g_topI (fun v4 ev4 => ?_)
        refine g_istore_n (L' := [some (.int n), some (.int v4), some (.int x2)]) d_X10_powerOf3_12 (by decide) rfl ?_
        refine g_iinc (v := (x2 + (1 : Int32))) (L' := [some (.int n), some (.int v4), some (.int (x2 + (1 : Int32)))]) d_X10_powerOf3_13 rfl (by rw [kI_1]) (by decide) rfl ?_
        refine g_goto d_X10_powerOf3_16 ?_
        exact ih_4 _ (by rw [← hmu_4]; exact mu_up h6) v4 (x2 + (1 : Int32)) rfl (lo_up hl3 h6) (by rw [ev4]; rcases ht_4 with ⟨rfl, rfl⟩ | ⟨rfl, rfl⟩ | ⟨rfl, rfl⟩ | ⟨rfl, rfl⟩ | ⟨rfl, rfl⟩ | ⟨rfl, rfl⟩ | ⟨rfl, rfl⟩ | ⟨rfl, rfl⟩ | ⟨rfl, rfl⟩ <;> first | decide | exact absurd hn8 h6)
  exact K_4 _ (1 : Int32) (0 : Int32) rfl (Int32.le_refl _) (by grind)
set_option maxRecDepth 100000 in
set_option maxHeartbeats 4000000 in
theorem ct_X10_rowAt (row : Int32) (many : Int32) (i : Int32) (I : Iv) (J : Jv) (hm : 0 ≤ many ∧ many ≤ 8) (hi : 0 ≤ i ∧ i ≤ 8) : Ct m_X10_rowAt [.int row, .int many, .int i] SHF I J (fun r S' I' J' => S' = SHF ∧ I = I' ∧ J = J' ∧ ∃ v : Int32, r = some (.int v) ∧ (0 ≤ row → 0 ≤ v ∧ v ≤ 2)) := by
  refine ct_of 0 (by decide +kernel) rfl rfl ?_
  refine g_iload_n d_X10_rowAt_0 rfl ?_
  refine g_iload_n d_X10_rowAt_1 rfl ?_
  refine g_iconst (v := 1) d_X10_rowAt_2 kI_1 ?_
  refine g_isub d_X10_rowAt_3 ?_
  refine g_iload_n d_X10_rowAt_4 rfl ?_
  refine g_isub d_X10_rowAt_5 ?_
  refine g_S1 d_X10_rowAt_6 cs_X10_rowAt_X10_powerOf3 lk_RX10_379 im_X10_powerOf3 (Nat.le_of_ble_eq_true rfl) ⟨rfl, rfl⟩ ⟨Nat.zero_le _, Nat.zero_le _⟩ (ct_X10_powerOf3 ((many - (1 : Int32)) - i) I J (by grind)) (fun r6 S6 Ic2 Jc3 q6_0 => ?_)
  obtain ⟨rfl, rfl, rfl, r5, rfl, hr6_5⟩ := q6_0
  refine g_st (st' := [.int r5, .int row]) rfl ?_
  have hp := hr6_5
  refine g_idiv d_X10_rowAt_9 (by grind) ?_
  refine g_iconst (v := 3) d_X10_rowAt_10 kI_3 ?_
  refine g_irem d_X10_rowAt_11 (by decide) ?_
  exact g_ireturn d_X10_rowAt_12 rfl rfl rfl rfl ⟨rfl, rfl, rfl, ((row / r5) - (row / r5) / (3 : Int32) * (3 : Int32)), rfl, (fun hr => row_bd hr hp.1)⟩
set_option maxRecDepth 100000 in
set_option maxHeartbeats 4000000 in
theorem ct_X10_placeOf (f : Int32) (I : Iv) (J : Jv) (hb0 : BI 0 J) (hf8 : f ≤ 8) : Ct m_X10_placeOf [.ref 78, .int f] SHF I J (fun r S' I' J' => S' = SHF ∧ I = I' ∧ J = J' ∧ ∃ v : Int32, r = some (.int v) ∧ 0 ≤ v ∧ v ≤ 8) := by
  refine ct_of 2 (by decide +kernel) rfl rfl ?_
  refine g_iconst (v := 0) d_X10_placeOf_0 kI_0 ?_
  refine g_istore_n (L' := [some (.ref 78), some (.int f), some (.int (0 : Int32)), none]) d_X10_placeOf_1 (by decide) rfl ?_
  refine g_iconst (v := 0) d_X10_placeOf_2 kI_0 ?_
  refine g_istore_n (L' := [some (.ref 78), some (.int f), some (.int (0 : Int32)), some (.int (0 : Int32))]) d_X10_placeOf_3 (by decide) rfl ?_
  have K_4 : ∀ (nu : Nat) (x1 : Int32) (x2 : Int32), mU f x2 = nu → ((0 : Int32) ≤ x2) → (0 ≤ x1 ∧ x1 ≤ x2) → (x2 ≤ 8) → G m_X10_placeOf (rq m_X10_placeOf (fun r S' I' J' => S' = SHF ∧ I = I' ∧ J = J' ∧ ∃ v : Int32, r = some (.int v) ∧ 0 ≤ v ∧ v ≤ 8)) 0 0 4 [some (.ref 78), some (.int f), some (.int x1), some (.int x2)] [] SHF I J := by
    intro nu
    induction nu using Nat.strongRecOn with
    | ind nu ih_4 =>
      intro x1 x2 hmu_4 hl3 hn_4 h8_4
      refine g_iload_n d_X10_placeOf_4 rfl ?_
      refine g_iload_n d_X10_placeOf_5 rfl ?_
      refine g_icmp_ge d_X10_placeOf_6 (fun h6 => ?_) (fun h6 => ?_)
      · skip
        refine g_iload_n d_X10_placeOf_28 rfl ?_
        exact g_ireturn d_X10_placeOf_29 rfl rfl rfl rfl ⟨rfl, rfl, rfl, x1, rfl, by grind⟩
      · skip
        refine g_iload_n d_X10_placeOf_9 rfl ?_
        refine g_aload_n d_X10_placeOf_10 rfl ?_
        refine g_getR d_X10_placeOf_11 fq_RX10_7 rfl rfl ?_
        refine g_bipush (v := 12) d_X10_placeOf_14 kB_12 ?_
        refine g_iload_n d_X10_placeOf_16 rfl ?_
        refine g_iadd d_X10_placeOf_17 ?_
        refine g_laload (N := 320) d_X10_placeOf_18 rfl kT_320 (by constructor <;> grind) (by rw [tn_add (by constructor <;> grind) (by constructor <;> grind), kN_12]) ?_
        refine g_l2i d_X10_placeOf_19 ?_
        refine g_iadd d_X10_placeOf_20 ?_
        refine g_topI (fun v4 ev4 => ?_)
        refine g_istore_n (L' := [some (.ref 78), some (.int f), some (.int v4), some (.int x2)]) d_X10_placeOf_21 (by decide) rfl ?_
        refine g_iinc (v := (x2 + (1 : Int32))) (L' := [some (.ref 78), some (.int f), some (.int v4), some (.int (x2 + (1 : Int32)))]) d_X10_placeOf_22 rfl (by rw [kI_1]) (by decide) rfl ?_
        refine g_goto d_X10_placeOf_25 ?_
        exact ih_4 _ (by rw [← hmu_4]; exact mu_up h6) v4 (x2 + (1 : Int32)) rfl (lo_up hl3 h6) (by rw [ev4]; have q := bi_int (x := x2) hb0 (by grind) (by grind); grind) (by grind)
  exact K_4 _ (0 : Int32) (0 : Int32) rfl (Int32.le_refl _) (by grind) (by grind)
set_option maxRecDepth 100000 in
set_option maxHeartbeats 4000000 in
theorem ct_X10_lying (f : Int32) (I : Iv) (J : Jv) (hma : MA I) (hmj : MJ J) : Ct m_X10_lying [.ref 78, .int f] SHF I J (fun r S' I' J' => S' = SHF ∧ True ∧ ∃ v : Int32, r = some (.int v) ∧ (MI (bgI I) I' ∧ MK (bgJ I J) J')) := by
  refine ct_of 5 (by decide +kernel) rfl rfl ?_
  have hK0 : (MI I I ∧ MK J J) := ⟨mi_rfl hma, mk_rfl hmj⟩
  refine g_aload_n d_X10_lying_0 rfl ?_
  refine g_V0 d_X10_lying_1 cs_X10_lying_X10_begin lk_RX10_166 im_X10_begin se_X10_begin rfl rfl rfl (Nat.le_of_ble_eq_true rfl) ⟨rfl, rfl⟩ ⟨Nat.zero_le _, Nat.zero_le _⟩ (ct_X10_begin  I J hma hmj) (fun r1 S1 I1 J2 q1_2 => ?_)
  obtain ⟨rfl, hc1_3, rfl, hr1_4⟩ := q1_2
  refine g_st (st' := []) rfl ?_
  have hK6 : (MI (bgI I) I1 ∧ MK (bgJ I J) J2) := hr1_4
  refine g_iload_n d_X10_lying_4 rfl ?_
  refine g_iconst (v := -1) d_X10_lying_5 kI_m1 ?_
  have J_21 : (f ≤ 8) → G m_X10_lying (rq m_X10_lying (fun r S' I' J' => S' = SHF ∧ True ∧ ∃ v : Int32, r = some (.int v) ∧ (MI (bgI I) I' ∧ MK (bgJ I J) J'))) 0 0 21 [some (.ref 78), some (.int f), none, none, none, none, none] [] SHF I1 J2 := by
    intro hf_21
    refine g_aload_n d_X10_lying_21 rfl ?_
    refine g_V0 d_X10_lying_22 cs_X10_lying_X10_foods lk_RX10_311 im_X10_foods se_X10_foods rfl rfl rfl (Nat.le_of_ble_eq_true rfl) ⟨rfl, rfl⟩ ⟨Nat.zero_le _, Nat.zero_le _⟩ (ct_X10_foods  I1 J2 ((hK6).2.2 0 (by decide)).1) (fun r22 S22 Ic8 Jc9 q22_6 => ?_)
    obtain ⟨rfl, rfl, rfl, r11, rfl, hr22_11⟩ := q22_6
    refine g_st (st' := [.int r11]) rfl ?_
    refine g_istore_n (L' := [some (.ref 78), some (.int f), some (.int r11), none, none, none, none]) d_X10_lying_25 (by decide) rfl ?_
    refine g_iload_n d_X10_lying_26 rfl ?_
    refine g_bipush (v := 6) d_X10_lying_27 kB_6 ?_
    refine g_icmp_le d_X10_lying_29 (fun h29 => ?_) (fun h29 => ?_)
    · skip
      refine g_iconst (v := -1) d_X10_lying_36 kI_m1 ?_
      refine g_istore_n (L' := [some (.ref 78), some (.int f), some (.int r11), some (.int (-1 : Int32)), none, none, none]) d_X10_lying_37 (by decide) rfl ?_
      refine g_iconst (v := -1) d_X10_lying_38 kI_m1 ?_
      refine g_istore (L' := [some (.ref 78), some (.int f), some (.int r11), some (.int (-1 : Int32)), some (.int (-1 : Int32)), none, none]) d_X10_lying_39 (by decide) rfl ?_
      refine g_iconst (v := 0) d_X10_lying_41 kI_0 ?_
      refine g_istore (L' := [some (.ref 78), some (.int f), some (.int r11), some (.int (-1 : Int32)), some (.int (-1 : Int32)), some (.int (0 : Int32)), none]) d_X10_lying_42 (by decide) rfl ?_
      have K_44 : ∀ (nu : Nat) (x13 : Int32) (x14 : Int32) (x15 : Int32) (I16 : Iv) (J17 : Jv), mU 6561 x15 = nu → ((MI (bgI I) I16 ∧ MK (bgJ I J) J17)) → (0 ≤ x15) → G m_X10_lying (rq m_X10_lying (fun r S' I' J' => S' = SHF ∧ True ∧ ∃ v : Int32, r = some (.int v) ∧ (MI (bgI I) I' ∧ MK (bgJ I J) J'))) 0 0 44 [some (.ref 78), some (.int f), some (.int r11), some (.int x13), some (.int x14), some (.int x15), none] [] SHF I16 J17 := by
        intro nu
        induction nu using Nat.strongRecOn with
        | ind nu ih_44 =>
          intro x13 x14 x15 I16 J17 hmu_44 hK18 h0_44
          refine g_iload d_X10_lying_44 rfl ?_
          refine g_iload_n d_X10_lying_46 rfl ?_
          refine g_S1 d_X10_lying_47 cs_X10_lying_X10_powerOf3 lk_RX10_379 im_X10_powerOf3 (Nat.le_of_ble_eq_true rfl) ⟨rfl, rfl⟩ ⟨Nat.zero_le _, Nat.zero_le _⟩ (ct_X10_powerOf3 r11 I16 J17 (by grind)) (fun r47 S47 Ic20 Jc21 q47_18 => ?_)
          obtain ⟨rfl, rfl, rfl, r23, rfl, hr47_23⟩ := q47_18
          refine g_st (st' := [.int r23, .int x15]) rfl ?_
          refine g_icmp_ge d_X10_lying_50 (fun h50 => ?_) (fun h50 => ?_)
          · skip
            refine g_iload_n d_X10_lying_163 rfl ?_
            refine g_iconst (v := -1) d_X10_lying_164 kI_m1 ?_
            refine g_icmp_ne d_X10_lying_165 (fun h165 => ?_) (fun h165 => ?_)
            · skip
              refine g_iload_n d_X10_lying_173 rfl ?_
              refine g_iload_n d_X10_lying_174 rfl ?_
              refine g_aload_n d_X10_lying_175 rfl ?_
              refine g_iload_n d_X10_lying_176 rfl ?_
              refine g_V1 d_X10_lying_177 cs_X10_lying_X10_placeOf lk_RX10_385 im_X10_placeOf se_X10_placeOf rfl rfl rfl (Nat.le_of_ble_eq_true rfl) ⟨rfl, rfl⟩ ⟨Nat.zero_le _, Nat.zero_le _⟩ (ct_X10_placeOf f I16 J17 ((hK18).2.2 0 (by decide)).1 (by grind)) (fun r177 S177 Ic26 Jc27 q177_24 => ?_)
              obtain ⟨rfl, rfl, rfl, r29, rfl, hr177_29⟩ := q177_24
              refine g_st (st' := [.int r29, .int r11, .int x13]) rfl ?_
              refine g_S3 d_X10_lying_180 cs_X10_lying_X10_rowAt lk_RX10_388 im_X10_rowAt (Nat.le_of_ble_eq_true rfl) ⟨rfl, rfl⟩ ⟨Nat.zero_le _, Nat.zero_le _⟩ (ct_X10_rowAt x13 r11 r29 I16 J17 (by grind) (by grind)) (fun r180 S180 Ic32 Jc33 q180_30 => ?_)
              obtain ⟨rfl, rfl, rfl, r35, rfl, hr180_35⟩ := q180_30
              refine g_st (st' := [.int r35]) rfl ?_
              exact g_ireturn d_X10_lying_183 rfl rfl rfl rfl ⟨rfl, trivial, r35, rfl, hK18⟩
            · skip
              refine g_iload d_X10_lying_168 rfl ?_
              refine g_goto d_X10_lying_170 ?_
              exact g_ireturn d_X10_lying_183 rfl rfl rfl rfl ⟨rfl, trivial, x14, rfl, hK18⟩
          · skip
            refine g_aload_n d_X10_lying_53 rfl ?_
            refine g_iconst (v := 0) d_X10_lying_54 kI_0 ?_
            refine g_bipush (v := 80) d_X10_lying_55 kB_80 ?_
            refine g_V2 d_X10_lying_57 cs_X10_lying_X10_copy lk_RX10_382 im_X10_copy se_X10_copy rfl rfl rfl (Nat.le_of_ble_eq_true rfl) ⟨rfl, rfl⟩ ⟨Nat.zero_le _, Nat.zero_le _⟩ (ct_X10_copy (0 : Int32) (80 : Int32) I16 J17 (by decide) (by decide) (by grind)) (fun r57 S57 Ic39 J37 q57_37 => ?_)
            obtain ⟨rfl, ⟨rfl, hc57_39⟩, rfl, hr57_40⟩ := q57_37
            refine g_st (st' := []) rfl ?_
            have hK42 : (MI (bgI I) I16 ∧ MK (bgJ I J) J37) := ⟨(hK18).1, cy_mk80 (by decide) (hK18).2 hr57_40⟩
            have hs57 : HS J37 := cy_hs ((hK18).2.2 0 (by decide)).1 hr57_40
            refine g_iconst (v := 0) d_X10_lying_60 kI_0 ?_
            refine g_istore (L' := [some (.ref 78), some (.int f), some (.int r11), some (.int x13), some (.int x14), some (.int x15), some (.int (0 : Int32))]) d_X10_lying_61 (by decide) rfl ?_
            have K_63 : ∀ (nu : Nat) (x43 : Int32) (J44 : Jv), mU (8 : Int32) x43 = nu → ((MI (bgI I) I16 ∧ MK (bgJ I J) J44)) → ((0 : Int32) ≤ x43) → (HS J44) → G m_X10_lying (rq m_X10_lying (fun r S' I' J' => S' = SHF ∧ True ∧ ∃ v : Int32, r = some (.int v) ∧ (MI (bgI I) I' ∧ MK (bgJ I J) J'))) 0 0 63 [some (.ref 78), some (.int f), some (.int r11), some (.int x13), some (.int x14), some (.int x15), some (.int x43)] [] SHF I16 J44 := by
              intro nu
              induction nu using Nat.strongRecOn with
              | ind nu ih_63 =>
                intro x43 J44 hmu_63 hK45 hl46 hs_63
                refine g_iload d_X10_lying_63 rfl ?_
                refine g_bipush (v := 8) d_X10_lying_65 kB_8 ?_
                refine g_icmp_ge d_X10_lying_67 (fun h67 => ?_) (fun h67 => ?_)
                · skip
                  refine g_aload_n d_X10_lying_114 rfl ?_
                  refine g_aload_n d_X10_lying_115 rfl ?_
                  refine g_getR d_X10_lying_116 fq_RX10_17 rfl rfl ?_
                  refine g_bipush (v := 8) d_X10_lying_119 kB_8 ?_
                  refine g_iaload (N := 15) d_X10_lying_121 rfl kT_15 ⟨by decide, by decide⟩ kN_8 ?_
                  refine g_V1 d_X10_lying_122 cs_X10_lying_X10_within lk_RX10_392 im_X10_within se_X10_within rfl rfl rfl (Nat.le_of_ble_eq_true rfl) ⟨rfl, rfl⟩ ⟨Nat.zero_le _, Nat.zero_le _⟩ (ct_X10_within (I16 81 8) I16 J44 (hK45).1.2 (hK45).2.2 hs_63 ((hK45).1.2.2.2.1)) (fun r122 S122 I47 J48 q122_48 => ?_)
                  obtain ⟨rfl, hc122_49, r51, rfl⟩ := q122_48
                  refine g_st (st' := [.int r51]) rfl ?_
                  have hK53 : (MI (bgI I) I47 ∧ MK (bgJ I J) J48) := ⟨mi_tr (hK45).1 hc122_49.1, mk_tr (hK45).2 hc122_49.2⟩
                  refine g_istore (L' := [some (.ref 78), some (.int f), some (.int r11), some (.int x13), some (.int x14), some (.int x15), some (.int r51)]) d_X10_lying_125 (by decide) rfl ?_
                  refine g_iload d_X10_lying_127 rfl ?_
                  refine g_iload d_X10_lying_129 rfl ?_
                  have J_140 : ∀ (w54 : Int32), G m_X10_lying (rq m_X10_lying (fun r S' I' J' => S' = SHF ∧ True ∧ ∃ v : Int32, r = some (.int v) ∧ (MI (bgI I) I' ∧ MK (bgJ I J) J'))) 0 0 140 [some (.ref 78), some (.int f), some (.int r11), some (.int x13), some (.int x14), some (.int x15), some (.int r51)] [.int w54] SHF I47 J48 := by
                    intro w54
                    refine g_istore_n (L' := [some (.ref 78), some (.int f), some (.int r11), some (.int w54), some (.int x14), some (.int x15), some (.int r51)]) d_X10_lying_140 (by decide) rfl ?_
                    refine g_iload d_X10_lying_141 rfl ?_
                    refine g_iload d_X10_lying_143 rfl ?_
                    refine g_icmp_le d_X10_lying_145 (fun h145 => ?_) (fun h145 => ?_)
                    · skip
                      refine g_iload d_X10_lying_153 rfl ?_
                      refine g_istore (L' := [some (.ref 78), some (.int f), some (.int r11), some (.int w54), some (.int x14), some (.int x15), some (.int r51)]) d_X10_lying_155 (by decide) rfl ?_
                      refine g_iinc (v := (x15 + (1 : Int32))) (L' := [some (.ref 78), some (.int f), some (.int r11), some (.int w54), some (.int x14), some (.int (x15 + (1 : Int32))), some (.int r51)]) d_X10_lying_157 rfl (by rw [kI_1]) (by decide) rfl ?_
                      refine g_goto d_X10_lying_160 ?_
                      refine g_sb [some (.ref 78), some (.int f), some (.int r11), some (.int w54), some (.int x14), some (.int (x15 + (1 : Int32))), none] (by simp [subL]) ?_
                      exact ih_44 _ (by rw [← hmu_44]; exact mu_up (by grind)) w54 x14 (x15 + (1 : Int32)) I47 J48 rfl hK53 (by grind)
                    · skip
                      refine g_iload d_X10_lying_148 rfl ?_
                      refine g_goto d_X10_lying_150 ?_
                      refine g_istore (L' := [some (.ref 78), some (.int f), some (.int r11), some (.int w54), some (.int r51), some (.int x15), some (.int r51)]) d_X10_lying_155 (by decide) rfl ?_
                      refine g_iinc (v := (x15 + (1 : Int32))) (L' := [some (.ref 78), some (.int f), some (.int r11), some (.int w54), some (.int r51), some (.int (x15 + (1 : Int32))), some (.int r51)]) d_X10_lying_157 rfl (by rw [kI_1]) (by decide) rfl ?_
                      refine g_goto d_X10_lying_160 ?_
                      refine g_sb [some (.ref 78), some (.int f), some (.int r11), some (.int w54), some (.int r51), some (.int (x15 + (1 : Int32))), none] (by simp [subL]) ?_
                      exact ih_44 _ (by rw [← hmu_44]; exact mu_up (by grind)) w54 r51 (x15 + (1 : Int32)) I47 J48 rfl hK53 (by grind)
                  refine g_icmp_le d_X10_lying_131 (fun h131 => ?_) (fun h131 => ?_)
                  · skip
                    refine g_iload_n d_X10_lying_139 rfl ?_
                    exact J_140 x13
                  · skip
                    refine g_iload d_X10_lying_134 rfl ?_
                    refine g_goto d_X10_lying_136 ?_
                    exact J_140 x15
                · skip
                  refine g_aload_n d_X10_lying_70 rfl ?_
                  refine g_getR d_X10_lying_71 fq_RX10_7 rfl rfl ?_
                  refine g_bipush (v := 12) d_X10_lying_74 kB_12 ?_
                  refine g_iload d_X10_lying_76 rfl ?_
                  refine g_iadd d_X10_lying_78 ?_
                  refine g_laload (N := 320) d_X10_lying_79 rfl kT_320 (by constructor <;> grind) (by rw [tn_add (by constructor <;> grind) (by constructor <;> grind), kN_12]) ?_
                  refine g_lconst d_X10_lying_80 kL_1 ?_
                  refine g_lcmp_ne d_X10_lying_81 d_X10_lying_82 (fun h82 => ?_) (fun h82 => ?_)
                  · skip
                    refine g_iinc (v := (x43 + (1 : Int32))) (L' := [some (.ref 78), some (.int f), some (.int r11), some (.int x13), some (.int x14), some (.int x15), some (.int (x43 + (1 : Int32)))]) d_X10_lying_108 rfl (by rw [kI_1]) (by decide) rfl ?_
                    refine g_goto d_X10_lying_111 ?_
                    exact ih_63 _ (by rw [← hmu_63]; exact mu_up h67) (x43 + (1 : Int32)) J44 rfl hK45 (lo_up hl46 h67) (by first | exact hs107 | exact hs_63)
                  · skip
                    have hlt : x43.toNatClampNeg < 8 := by have q := tn_lt (n := 8) hl46 h67; rwa [kN_8] at q
                    refine g_aload_n d_X10_lying_85 rfl ?_
                    refine g_getR d_X10_lying_86 fq_RX10_7 rfl rfl ?_
                    refine g_bipush (v := 100) d_X10_lying_89 kB_100 ?_
                    refine g_iload d_X10_lying_91 rfl ?_
                    refine g_iadd d_X10_lying_93 ?_
                    refine g_iload d_X10_lying_94 rfl ?_
                    refine g_iload_n d_X10_lying_96 rfl ?_
                    refine g_aload_n d_X10_lying_97 rfl ?_
                    refine g_iload d_X10_lying_98 rfl ?_
                    refine g_V1 d_X10_lying_100 cs_X10_lying_X10_placeOf lk_RX10_385 im_X10_placeOf se_X10_placeOf rfl rfl rfl (Nat.le_of_ble_eq_true rfl) ⟨rfl, rfl⟩ ⟨Nat.zero_le _, Nat.zero_le _⟩ (ct_X10_placeOf x43 I16 J44 ((hK45).2.2 0 (by decide)).1 (by grind)) (fun r100 S100 Ic56 Jc57 q100_54 => ?_)
                    obtain ⟨rfl, rfl, rfl, r59, rfl, hr100_59⟩ := q100_54
                    refine g_st (st' := [.int r59, .int r11, .int x15, .int ((100 : Int32) + x43), .ref 79]) rfl ?_
                    refine g_S3 d_X10_lying_103 cs_X10_lying_X10_rowAt lk_RX10_388 im_X10_rowAt (Nat.le_of_ble_eq_true rfl) ⟨rfl, rfl⟩ ⟨Nat.zero_le _, Nat.zero_le _⟩ (ct_X10_rowAt x15 r11 r59 I16 J44 (by grind) (by grind)) (fun r103 S103 Ic62 Jc63 q103_60 => ?_)
                    obtain ⟨rfl, rfl, rfl, r65, rfl, hr103_65⟩ := q103_60
                    refine g_st (st' := [.int r65, .int ((100 : Int32) + x43), .ref 79]) rfl ?_
                    refine g_i2l d_X10_lying_106 ?_
                    refine g_lastore (N := 320) d_X10_lying_107 rfl kT_320 (by constructor <;> grind) (by rw [tn_add (by constructor <;> grind) (by constructor <;> grind), kN_100])  ?_
                    refine g_nmJ (fun J67 eJ67 => ?_)
                    have hK68 : (MI (bgI I) I16 ∧ MK (bgJ I J) J67) := (by rw [eJ67]; exact ⟨(hK45).1, mj_100 (hK45).2 hlt (i2l_bd (b := 2) (by grind))⟩)
                    have hs107 : HS J67 := by rw [eJ67]; exact hs_w hs_63 (by omega)
                    refine g_iinc (v := (x43 + (1 : Int32))) (L' := [some (.ref 78), some (.int f), some (.int r11), some (.int x13), some (.int x14), some (.int x15), some (.int (x43 + (1 : Int32)))]) d_X10_lying_108 rfl (by rw [kI_1]) (by decide) rfl ?_
                    refine g_goto d_X10_lying_111 ?_
                    exact ih_63 _ (by rw [← hmu_63]; exact mu_up h67) (x43 + (1 : Int32)) J67 rfl hK68 (lo_up hl46 h67) (by first | exact hs107 | exact hs_63)
            exact K_63 _ (0 : Int32) J37 rfl hK42 (Int32.le_refl _) hs57
      exact K_44 _ (-1 : Int32) (-1 : Int32) (0 : Int32) I1 J2 rfl hK6 (by grind)
    · skip
      refine g_ldcw (v := -1000000003) d_X10_lying_32 tw_1560 ?_
      exact g_ireturn d_X10_lying_35 rfl rfl rfl rfl ⟨rfl, trivial, (-1000000003 : Int32), rfl, hK6⟩
  refine g_icmp_eq d_X10_lying_6 (fun h6 => ?_) (fun h6 => ?_)
  · skip
    exact J_21 (by grind)
  · skip
    refine g_aload_n d_X10_lying_9 rfl ?_
    refine g_iload_n d_X10_lying_10 rfl ?_
    refine g_V1 d_X10_lying_11 cs_X10_lying_X10_isFood lk_RX10_280 im_X10_isFood se_X10_isFood rfl rfl rfl (Nat.le_of_ble_eq_true rfl) ⟨rfl, rfl⟩ ⟨Nat.zero_le _, Nat.zero_le _⟩ (ct_X10_isFood f I1 J2 ) (fun r11 S11 Ic70 Jc71 q11_68 => ?_)
    obtain ⟨rfl, rfl, rfl, r73, rfl, hz11, hr11_73⟩ := q11_68
    refine g_st (st' := [.int r73]) rfl ?_
    refine g_if_ne d_X10_lying_14 (fun h14 => ?_) (fun h14 => ?_)
    · skip
      exact J_21 (by grind)
    · skip
      refine g_ldcw (v := -1000000001) d_X10_lying_17 tw_1296 ?_
      exact g_ireturn d_X10_lying_20 rfl rfl rfl rfl ⟨rfl, trivial, (-1000000001 : Int32), rfl, hK6⟩
set_option maxRecDepth 100000 in
set_option maxHeartbeats 4000000 in
theorem ct_X10_bulb (what : Int32) (I : Iv) (J : Jv) (hma : MA I) (hmj : MJ J) : Ct m_X10_bulb [.ref 78, .int what] SHF I J (fun r S' I' J' => S' = SHF ∧ True ∧ ∃ v : Int32, r = some (.int v) ∧ (MI (bgI I) I' ∧ MK (bgJ I J) J')) := by
  refine ct_of 4 (by decide +kernel) rfl rfl ?_
  have hK0 : (MI I I ∧ MK J J) := ⟨mi_rfl hma, mk_rfl hmj⟩
  refine g_aload_n d_X10_bulb_0 rfl ?_
  refine g_V0 d_X10_bulb_1 cs_X10_bulb_X10_begin lk_RX10_166 im_X10_begin se_X10_begin rfl rfl rfl (Nat.le_of_ble_eq_true rfl) ⟨rfl, rfl⟩ ⟨Nat.zero_le _, Nat.zero_le _⟩ (ct_X10_begin  I J hma hmj) (fun r1 S1 I1 J2 q1_2 => ?_)
  obtain ⟨rfl, hc1_3, rfl, hr1_4⟩ := q1_2
  refine g_st (st' := []) rfl ?_
  have hK6 : (MI (bgI I) I1 ∧ MK (bgJ I J) J2) := hr1_4
  refine g_iload_n d_X10_bulb_4 rfl ?_
  refine g_i2l d_X10_bulb_5 ?_
  refine g_lconst d_X10_bulb_6 kL_0 ?_
  refine g_lconst d_X10_bulb_7 kL_1 ?_
  refine g_S3 d_X10_bulb_8 cs_X10_bulb_X10_in lk_RX10_96 im_X10_in (Nat.le_of_ble_eq_true rfl) ⟨rfl, rfl⟩ ⟨Nat.zero_le _, Nat.zero_le _⟩ (ct_X10_inL what (0 : Int64) (1 : Int64) (0 : Int32) (1 : Int32) (by decide) (by decide) I1 J2) (fun r8 S8 Ic8 Jc9 q8_6 => ?_)
  obtain ⟨rfl, rfl, rfl, r11, rfl, hz8, hr8_11⟩ := q8_6
  refine g_st (st' := [.int r11]) rfl ?_
  refine g_if_ne d_X10_bulb_11 (fun h11 => ?_) (fun h11 => ?_)
  · skip
    refine g_iconst (v := -1) d_X10_bulb_17 kI_m1 ?_
    refine g_istore_n (L' := [some (.ref 78), some (.int what), some (.int (-1 : Int32)), none, none, none]) d_X10_bulb_18 (by decide) rfl ?_
    refine g_iconst (v := -1) d_X10_bulb_19 kI_m1 ?_
    refine g_istore_n (L' := [some (.ref 78), some (.int what), some (.int (-1 : Int32)), some (.int (-1 : Int32)), none, none]) d_X10_bulb_20 (by decide) rfl ?_
    refine g_iconst (v := 0) d_X10_bulb_21 kI_0 ?_
    refine g_istore (L' := [some (.ref 78), some (.int what), some (.int (-1 : Int32)), some (.int (-1 : Int32)), some (.int (0 : Int32)), none]) d_X10_bulb_22 (by decide) rfl ?_
    have K_24 : ∀ (nu : Nat) (x13 : Int32) (x14 : Int32) (x15 : Int32) (I16 : Iv) (J17 : Jv), mU (3 : Int32) x15 = nu → ((MI (bgI I) I16 ∧ MK (bgJ I J) J17)) → ((0 : Int32) ≤ x15) → G m_X10_bulb (rq m_X10_bulb (fun r S' I' J' => S' = SHF ∧ True ∧ ∃ v : Int32, r = some (.int v) ∧ (MI (bgI I) I' ∧ MK (bgJ I J) J'))) 0 0 24 [some (.ref 78), some (.int what), some (.int x13), some (.int x14), some (.int x15), none] [] SHF I16 J17 := by
      intro nu
      induction nu using Nat.strongRecOn with
      | ind nu ih_24 =>
        intro x13 x14 x15 I16 J17 hmu_24 hK18 hl19
        refine g_iload d_X10_bulb_24 rfl ?_
        refine g_iconst (v := 3) d_X10_bulb_26 kI_3 ?_
        refine g_icmp_ge d_X10_bulb_27 (fun h27 => ?_) (fun h27 => ?_)
        · skip
          refine g_iload_n d_X10_bulb_77 rfl ?_
          refine g_if_ne d_X10_bulb_78 (fun h78 => ?_) (fun h78 => ?_)
          · skip
            refine g_iload_n d_X10_bulb_85 rfl ?_
            exact g_ireturn d_X10_bulb_86 rfl rfl rfl rfl ⟨rfl, trivial, x14, rfl, hK18⟩
          · skip
            refine g_iload_n d_X10_bulb_81 rfl ?_
            refine g_goto d_X10_bulb_82 ?_
            exact g_ireturn d_X10_bulb_86 rfl rfl rfl rfl ⟨rfl, trivial, x13, rfl, hK18⟩
        · skip
          refine g_aload_n d_X10_bulb_30 rfl ?_
          refine g_iconst (v := 0) d_X10_bulb_31 kI_0 ?_
          refine g_bipush (v := 80) d_X10_bulb_32 kB_80 ?_
          refine g_V2 d_X10_bulb_34 cs_X10_bulb_X10_copy lk_RX10_382 im_X10_copy se_X10_copy rfl rfl rfl (Nat.le_of_ble_eq_true rfl) ⟨rfl, rfl⟩ ⟨Nat.zero_le _, Nat.zero_le _⟩ (ct_X10_copy (0 : Int32) (80 : Int32) I16 J17 (by decide) (by decide) (by grind)) (fun r34 S34 Ic22 J20 q34_20 => ?_)
          obtain ⟨rfl, ⟨rfl, hc34_22⟩, rfl, hr34_23⟩ := q34_20
          refine g_st (st' := []) rfl ?_
          have hK25 : (MI (bgI I) I16 ∧ MK (bgJ I J) J20) := ⟨(hK18).1, cy_mk80 (by decide) (hK18).2 hr34_23⟩
          have hs57 : HS J20 := cy_hs ((hK18).2.2 0 (by decide)).1 hr34_23
          refine g_aload_n d_X10_bulb_37 rfl ?_
          refine g_iload d_X10_bulb_38 rfl ?_
          refine g_V1 d_X10_bulb_40 cs_X10_bulb_X10_within lk_RX10_392 im_X10_within se_X10_within rfl rfl rfl (Nat.le_of_ble_eq_true rfl) ⟨rfl, rfl⟩ ⟨Nat.zero_le _, Nat.zero_le _⟩ (ct_X10_within x15 I16 J20 (hK25).1.2 (hK25).2.2 hs57 (by grind)) (fun r40 S40 I26 J27 q40_27 => ?_)
          obtain ⟨rfl, hc40_28, r30, rfl⟩ := q40_27
          refine g_st (st' := [.int r30]) rfl ?_
          have hK32 : (MI (bgI I) I26 ∧ MK (bgJ I J) J27) := ⟨mi_tr (hK25).1 hc40_28.1, mk_tr (hK25).2 hc40_28.2⟩
          refine g_istore (L' := [some (.ref 78), some (.int what), some (.int x13), some (.int x14), some (.int x15), some (.int r30)]) d_X10_bulb_43 (by decide) rfl ?_
          refine g_iload d_X10_bulb_45 rfl ?_
          refine g_iload_n d_X10_bulb_47 rfl ?_
          have J_57 : ∀ (w33 : Int32), G m_X10_bulb (rq m_X10_bulb (fun r S' I' J' => S' = SHF ∧ True ∧ ∃ v : Int32, r = some (.int v) ∧ (MI (bgI I) I' ∧ MK (bgJ I J) J'))) 0 0 57 [some (.ref 78), some (.int what), some (.int x13), some (.int x14), some (.int x15), some (.int r30)] [.int w33] SHF I26 J27 := by
            intro w33
            refine g_istore_n (L' := [some (.ref 78), some (.int what), some (.int w33), some (.int x14), some (.int x15), some (.int r30)]) d_X10_bulb_57 (by decide) rfl ?_
            refine g_iload d_X10_bulb_58 rfl ?_
            refine g_iload_n d_X10_bulb_60 rfl ?_
            refine g_icmp_le d_X10_bulb_61 (fun h61 => ?_) (fun h61 => ?_)
            · skip
              refine g_iload_n d_X10_bulb_69 rfl ?_
              refine g_istore_n (L' := [some (.ref 78), some (.int what), some (.int w33), some (.int x14), some (.int x15), some (.int r30)]) d_X10_bulb_70 (by decide) rfl ?_
              refine g_iinc (v := (x15 + (1 : Int32))) (L' := [some (.ref 78), some (.int what), some (.int w33), some (.int x14), some (.int (x15 + (1 : Int32))), some (.int r30)]) d_X10_bulb_71 rfl (by rw [kI_1]) (by decide) rfl ?_
              refine g_goto d_X10_bulb_74 ?_
              refine g_sb [some (.ref 78), some (.int what), some (.int w33), some (.int x14), some (.int (x15 + (1 : Int32))), none] (by simp [subL]) ?_
              exact ih_24 _ (by rw [← hmu_24]; exact mu_up h27) w33 x14 (x15 + (1 : Int32)) I26 J27 rfl hK32 (lo_up hl19 h27)
            · skip
              refine g_iload d_X10_bulb_64 rfl ?_
              refine g_goto d_X10_bulb_66 ?_
              refine g_istore_n (L' := [some (.ref 78), some (.int what), some (.int w33), some (.int r30), some (.int x15), some (.int r30)]) d_X10_bulb_70 (by decide) rfl ?_
              refine g_iinc (v := (x15 + (1 : Int32))) (L' := [some (.ref 78), some (.int what), some (.int w33), some (.int r30), some (.int (x15 + (1 : Int32))), some (.int r30)]) d_X10_bulb_71 rfl (by rw [kI_1]) (by decide) rfl ?_
              refine g_goto d_X10_bulb_74 ?_
              refine g_sb [some (.ref 78), some (.int what), some (.int w33), some (.int r30), some (.int (x15 + (1 : Int32))), none] (by simp [subL]) ?_
              exact ih_24 _ (by rw [← hmu_24]; exact mu_up h27) w33 r30 (x15 + (1 : Int32)) I26 J27 rfl hK32 (lo_up hl19 h27)
          refine g_icmp_le d_X10_bulb_48 (fun h48 => ?_) (fun h48 => ?_)
          · skip
            refine g_iload_n d_X10_bulb_56 rfl ?_
            exact J_57 x13
          · skip
            refine g_iload d_X10_bulb_51 rfl ?_
            refine g_goto d_X10_bulb_53 ?_
            exact J_57 x15
    exact K_24 _ (-1 : Int32) (-1 : Int32) (0 : Int32) I1 J2 rfl hK6 (Int32.le_refl _)
  · skip
    refine g_ldc (v := -1000000002) d_X10_bulb_14 tw_1199 ?_
    exact g_ireturn d_X10_bulb_16 rfl rfl rfl rfl ⟨rfl, trivial, (-1000000002 : Int32), rfl, hK6⟩
set_option maxRecDepth 100000 in
set_option maxHeartbeats 4000000 in
theorem ct_X10_without (f : Int32) (I : Iv) (J : Jv) (hma : MA I) (hmj : MJ J) : Ct m_X10_without [.ref 78, .int f] SHF I J (fun r S' I' J' => S' = SHF ∧ True ∧ ∃ v : Int32, r = some (.int v) ∧ (MI (bgI I) I' ∧ MK (bgJ I J) J')) := by
  refine ct_of 1 (by decide +kernel) rfl rfl ?_
  have hK0 : (MI I I ∧ MK J J) := ⟨mi_rfl hma, mk_rfl hmj⟩
  refine g_aload_n d_X10_without_0 rfl ?_
  refine g_V0 d_X10_without_1 cs_X10_without_X10_begin lk_RX10_166 im_X10_begin se_X10_begin rfl rfl rfl (Nat.le_of_ble_eq_true rfl) ⟨rfl, rfl⟩ ⟨Nat.zero_le _, Nat.zero_le _⟩ (ct_X10_begin  I J hma hmj) (fun r1 S1 I1 J2 q1_2 => ?_)
  obtain ⟨rfl, hc1_3, rfl, hr1_4⟩ := q1_2
  refine g_st (st' := []) rfl ?_
  have hK6 : (MI (bgI I) I1 ∧ MK (bgJ I J) J2) := hr1_4
  refine g_aload_n d_X10_without_4 rfl ?_
  refine g_iload_n d_X10_without_5 rfl ?_
  refine g_V1 d_X10_without_6 cs_X10_without_X10_isFood lk_RX10_280 im_X10_isFood se_X10_isFood rfl rfl rfl (Nat.le_of_ble_eq_true rfl) ⟨rfl, rfl⟩ ⟨Nat.zero_le _, Nat.zero_le _⟩ (ct_X10_isFood f I1 J2 ) (fun r6 S6 Ic8 Jc9 q6_6 => ?_)
  obtain ⟨rfl, rfl, rfl, r11, rfl, hz6, hr6_11⟩ := q6_6
  refine g_st (st' := [.int r11]) rfl ?_
  refine g_if_ne d_X10_without_9 (fun h9 => ?_) (fun h9 => ?_)
  · skip
    have hff : 0 ≤ f ∧ f < 8 := by grind
    have hth : J2 79 (12 + f).toNatClampNeg = 1 := by grind
    refine g_aload_n d_X10_without_16 rfl ?_
    refine g_iconst (v := 0) d_X10_without_17 kI_0 ?_
    refine g_bipush (v := 80) d_X10_without_18 kB_80 ?_
    refine g_V2 d_X10_without_20 cs_X10_without_X10_copy lk_RX10_382 im_X10_copy se_X10_copy rfl rfl rfl (Nat.le_of_ble_eq_true rfl) ⟨rfl, rfl⟩ ⟨Nat.zero_le _, Nat.zero_le _⟩ (ct_X10_copy (0 : Int32) (80 : Int32) I1 J2 (by decide) (by decide) (by grind)) (fun r20 S20 Ic15 J13 q20_13 => ?_)
    obtain ⟨rfl, ⟨rfl, hc20_15⟩, rfl, hr20_16⟩ := q20_13
    refine g_st (st' := []) rfl ?_
    have hK18 : (MI (bgI I) I1 ∧ MK (bgJ I J) J13) := ⟨(hK6).1, cy_mk80 (by decide) (hK6).2 hr20_16⟩
    have hs57 : HS J13 := cy_hs ((hK6).2.2 0 (by decide)).1 hr20_16
    have hc20 := hs_cap hs57 hff.1 hff.2 (cy_there hr20_16 hff.1 hff.2 hth)
    refine g_aload_n d_X10_without_23 rfl ?_
    refine g_getR d_X10_without_24 fq_RX10_7 rfl rfl ?_
    refine g_sipush (v := 149) d_X10_without_27 kS_149 ?_
    refine g_lconst d_X10_without_30 kL_0 ?_
    refine g_lastore (N := 320) d_X10_without_31 rfl kT_320 ⟨by decide, by decide⟩ kN_149  ?_
    refine g_nmJ (fun J19 eJ19 => ?_)
    have hK20 : (MI (bgI I) I1 ∧ MK (bgJ I J) J19) := (by rw [eJ19]; exact ⟨(hK18).1, mj_free (hK18).2 (by unfold jfree; refine ⟨fun X hX => ?_, fun X hX => ?_⟩ <;> omega)⟩)
    have hc31 := cf_w (v := 0) hff.1 hff.2 hc20
    rw [← eJ19] at hc31
    refine g_iconst (v := 0) d_X10_without_32 kI_0 ?_
    refine g_istore_n (L' := [some (.ref 78), some (.int f), some (.int (0 : Int32))]) d_X10_without_33 (by decide) rfl ?_
    have K_34 : ∀ (nu : Nat) (x21 : Int32) (J22 : Jv), mUe (864 : Int32) x21 = nu → ((MI (bgI I) I1 ∧ MK (bgJ I J) J22)) → ((0 : Int32) ≤ x21) → (1 ≤ J22 79 ((80 : Int32) + 28 + (4 + f) - 4).toNatClampNeg) → G m_X10_without (rq m_X10_without (fun r S' I' J' => S' = SHF ∧ True ∧ ∃ v : Int32, r = some (.int v) ∧ (MI (bgI I) I' ∧ MK (bgJ I J) J'))) 0 0 34 [some (.ref 78), some (.int f), some (.int x21)] [] SHF I1 J22 := by
      intro nu
      induction nu using Nat.strongRecOn with
      | ind nu ih_34 =>
        intro x21 J22 hmu_34 hK23 hl24 hc_34
        refine g_iload_n d_X10_without_34 rfl ?_
        refine g_sipush (v := 864) d_X10_without_35 kS_864 ?_
        refine g_icmp_gt d_X10_without_38 (fun h38 => ?_) (fun h38 => ?_)
        · skip
          refine g_iconst (v := -1) d_X10_without_66 kI_m1 ?_
          exact g_ireturn d_X10_without_67 rfl rfl rfl rfl ⟨rfl, trivial, (-1 : Int32), rfl, hK23⟩
        · skip
          refine g_aload_n d_X10_without_41 rfl ?_
          refine g_bipush (v := 80) d_X10_without_42 kB_80 ?_
          refine g_iconst (v := 1) d_X10_without_44 kI_1 ?_
          refine g_V2 d_X10_without_45 cs_X10_without_X10_go lk_RX10_289 im_X10_go se_X10_go rfl rfl rfl (Nat.le_of_ble_eq_true rfl) ⟨rfl, rfl⟩ ⟨Nat.zero_le _, Nat.zero_le _⟩ (ct_X10_go (80 : Int32) (1 : Int32) I1 J22 (by decide) ((hK23).2.2 _ (by decide)).2.1 ((hK23).2.2 _ (by decide)).1 ((hK23).1.2.2.1) (by grind) ((hK23).1.2.2.2.1) ((hK23).1.2.2.2.2.1)) (fun r45 S45 Ic27 J25 q45_25 => ?_)
          obtain ⟨rfl, ⟨rfl, hc45_27⟩, rfl, hr45_28⟩ := q45_25
          refine g_st (st' := []) rfl ?_
          have hK30 : (MI (bgI I) I1 ∧ MK (bgJ I J) J25) := ⟨(hK23).1, tg_mk80 (hK23).2 hc45_27⟩
          have hc45 := cf_tg hff.1 hff.2 hc45_27 hc_34
          refine g_aload_n d_X10_without_48 rfl ?_
          refine g_bipush (v := 80) d_X10_without_49 kB_80 ?_
          refine g_iload_n d_X10_without_51 rfl ?_
          refine g_V2 d_X10_without_52 cs_X10_without_X10_isWithin lk_RX10_283 im_X10_isWithin se_X10_isWithin rfl rfl rfl (Nat.le_of_ble_eq_true rfl) ⟨rfl, rfl⟩ ⟨Nat.zero_le _, Nat.zero_le _⟩ (ct_X10_isWithin (80 : Int32) f I1 J25 (by decide) (by grind) hc45) (fun r52 S52 Ic32 Jc33 q52_30 => ?_)
          obtain ⟨rfl, rfl, rfl, r35, rfl, hz52⟩ := q52_30
          refine g_st (st' := [.int r35]) rfl ?_
          refine g_if_ne d_X10_without_55 (fun h55 => ?_) (fun h55 => ?_)
          · skip
            refine g_iinc (v := (x21 + (1 : Int32))) (L' := [some (.ref 78), some (.int f), some (.int (x21 + (1 : Int32)))]) d_X10_without_60 rfl (by rw [kI_1]) (by decide) rfl ?_
            refine g_goto d_X10_without_63 ?_
            exact ih_34 _ (by rw [← hmu_34]; exact mu_upe h38 (by decide)) (x21 + (1 : Int32)) J25 rfl hK30 (lo_upe hl24 h38 (by decide)) hc45
          · skip
            refine g_iload_n d_X10_without_58 rfl ?_
            exact g_ireturn d_X10_without_59 rfl rfl rfl rfl ⟨rfl, trivial, x21, rfl, hK30⟩
    exact K_34 _ (0 : Int32) J19 rfl hK20 (Int32.le_refl _) hc31
  · skip
    refine g_ldcw (v := -1000000001) d_X10_without_12 tw_1296 ?_
    exact g_ireturn d_X10_without_15 rfl rfl rfl rfl ⟨rfl, trivial, (-1000000001 : Int32), rfl, hK6⟩
set_option maxRecDepth 100000 in
set_option maxHeartbeats 4000000 in
theorem ct_X10_cheap (a : Int32) (b : Int32) (v_ : Int32) (I : Iv) (J : Jv) (hma : MA I) (hmj : MJ J) : Ct m_X10_cheap [.ref 78, .int a, .int b, .int v_] SHF I J (fun r S' I' J' => S' = SHF ∧ True ∧ ∃ v : Int32, r = some (.int v) ∧ (MI (bgI I) I' ∧ MK (bgJ I J) J')) := by
  refine ct_of 0 (by decide +kernel) rfl rfl ?_
  have hK0 : (MI I I ∧ MK J J) := ⟨mi_rfl hma, mk_rfl hmj⟩
  refine g_aload_n d_X10_cheap_0 rfl ?_
  refine g_V0 d_X10_cheap_1 cs_X10_cheap_X10_begin lk_RX10_166 im_X10_begin se_X10_begin rfl rfl rfl (Nat.le_of_ble_eq_true rfl) ⟨rfl, rfl⟩ ⟨Nat.zero_le _, Nat.zero_le _⟩ (ct_X10_begin  I J hma hmj) (fun r1 S1 I1 J2 q1_2 => ?_)
  obtain ⟨rfl, hc1_3, rfl, hr1_4⟩ := q1_2
  refine g_st (st' := []) rfl ?_
  have hK6 : (MI (bgI I) I1 ∧ MK (bgJ I J) J2) := hr1_4
  refine g_iload_n d_X10_cheap_4 rfl ?_
  refine g_iconst (v := -1) d_X10_cheap_5 kI_m1 ?_
  have J_51 : G m_X10_cheap (rq m_X10_cheap (fun r S' I' J' => S' = SHF ∧ True ∧ ∃ v : Int32, r = some (.int v) ∧ (MI (bgI I) I' ∧ MK (bgJ I J) J'))) 0 0 51 [some (.ref 78), some (.int a), some (.int b), some (.int v_)] [] SHF I1 J2 := by
    skip
    refine g_aload_n d_X10_cheap_51 rfl ?_
    refine g_iload_n d_X10_cheap_52 rfl ?_
    refine g_putI d_X10_cheap_53 fq_RX10_91 rfl rfl ?_
    refine g_nmI (fun I7 eI7 => ?_)
    have hK8 : (MI (bgI I) I7 ∧ MK (bgJ I J) J2) := (by rw [eI7]; exact ⟨mi_free (hK6).1 rfl, (hK6).2⟩)
    refine g_aload_n d_X10_cheap_56 rfl ?_
    refine g_iload_n d_X10_cheap_57 rfl ?_
    refine g_putI d_X10_cheap_58 fq_RX10_397 rfl rfl ?_
    refine g_nmI (fun I9 eI9 => ?_)
    have hK10 : (MI (bgI I) I9 ∧ MK (bgJ I J) J2) := (by rw [eI9]; exact ⟨mi_free (hK8).1 rfl, (hK8).2⟩)
    refine g_aload_n d_X10_cheap_61 rfl ?_
    refine g_iload_n d_X10_cheap_62 rfl ?_
    refine g_putI d_X10_cheap_63 fq_RX10_400 rfl rfl ?_
    refine g_nmI (fun I11 eI11 => ?_)
    have hK12 : (MI (bgI I) I11 ∧ MK (bgJ I J) J2) := (by rw [eI11]; exact ⟨mi_free (hK10).1 rfl, (hK10).2⟩)
    refine g_iconst (v := 1) d_X10_cheap_66 kI_1 ?_
    exact g_ireturn d_X10_cheap_67 rfl rfl rfl rfl ⟨rfl, trivial, (1 : Int32), rfl, hK12⟩
  refine g_icmp_eq d_X10_cheap_6 (fun h6 => ?_) (fun h6 => ?_)
  · skip
    exact J_51
  · skip
    refine g_iload_n d_X10_cheap_9 rfl ?_
    refine g_i2l d_X10_cheap_10 ?_
    refine g_lconst d_X10_cheap_11 kL_0 ?_
    refine g_ldc2 (v := 24) d_X10_cheap_12 tw_1611 ?_
    refine g_S3 d_X10_cheap_15 cs_X10_cheap_X10_in lk_RX10_96 im_X10_in (Nat.le_of_ble_eq_true rfl) ⟨rfl, rfl⟩ ⟨Nat.zero_le _, Nat.zero_le _⟩ (ct_X10_inL a (0 : Int64) (24 : Int64) (0 : Int32) (24 : Int32) (by decide) (by decide) I1 J2) (fun r15 S15 Ic14 Jc15 q15_12 => ?_)
    obtain ⟨rfl, rfl, rfl, r17, rfl, hz15, hr15_17⟩ := q15_12
    refine g_st (st' := [.int r17]) rfl ?_
    refine g_if_eq d_X10_cheap_18 (fun h18 => ?_) (fun h18 => ?_)
    · skip
      refine g_ldc (v := -1000000002) d_X10_cheap_48 tw_1199 ?_
      exact g_ireturn d_X10_cheap_50 rfl rfl rfl rfl ⟨rfl, trivial, (-1000000002 : Int32), rfl, hK6⟩
    · skip
      refine g_iload_n d_X10_cheap_21 rfl ?_
      refine g_i2l d_X10_cheap_22 ?_
      refine g_iload_n d_X10_cheap_23 rfl ?_
      refine g_iconst (v := 1) d_X10_cheap_24 kI_1 ?_
      refine g_iadd d_X10_cheap_25 ?_
      refine g_i2l d_X10_cheap_26 ?_
      refine g_ldc2 (v := 24) d_X10_cheap_27 tw_1611 ?_
      refine g_S3 d_X10_cheap_30 cs_X10_cheap_X10_in lk_RX10_96 im_X10_in (Nat.le_of_ble_eq_true rfl) ⟨rfl, rfl⟩ ⟨Nat.zero_le _, Nat.zero_le _⟩ (ct_X10_inL b (Int32.toInt64 (a + (1 : Int32))) (24 : Int64) (a + (1 : Int32)) (24 : Int32) rfl (by decide) I1 J2) (fun r30 S30 Ic20 Jc21 q30_18 => ?_)
      obtain ⟨rfl, rfl, rfl, r23, rfl, hz30, hr30_23⟩ := q30_18
      refine g_st (st' := [.int r23]) rfl ?_
      refine g_if_eq d_X10_cheap_33 (fun h33 => ?_) (fun h33 => ?_)
      · skip
        refine g_ldc (v := -1000000002) d_X10_cheap_48 tw_1199 ?_
        exact g_ireturn d_X10_cheap_50 rfl rfl rfl rfl ⟨rfl, trivial, (-1000000002 : Int32), rfl, hK6⟩
      · skip
        refine g_iload_n d_X10_cheap_36 rfl ?_
        refine g_i2l d_X10_cheap_37 ?_
        refine g_lconst d_X10_cheap_38 kL_0 ?_
        refine g_ldc2 (v := 999) d_X10_cheap_39 tw_1476 ?_
        refine g_S3 d_X10_cheap_42 cs_X10_cheap_X10_in lk_RX10_96 im_X10_in (Nat.le_of_ble_eq_true rfl) ⟨rfl, rfl⟩ ⟨Nat.zero_le _, Nat.zero_le _⟩ (ct_X10_inL v_ (0 : Int64) (999 : Int64) (0 : Int32) (999 : Int32) (by decide) (by decide) I1 J2) (fun r42 S42 Ic26 Jc27 q42_24 => ?_)
        obtain ⟨rfl, rfl, rfl, r29, rfl, hz42, hr42_29⟩ := q42_24
        refine g_st (st' := [.int r29]) rfl ?_
        refine g_if_ne d_X10_cheap_45 (fun h45 => ?_) (fun h45 => ?_)
        · skip
          exact J_51
        · skip
          refine g_ldc (v := -1000000002) d_X10_cheap_48 tw_1199 ?_
          exact g_ireturn d_X10_cheap_50 rfl rfl rfl rfl ⟨rfl, trivial, (-1000000002 : Int32), rfl, hK6⟩
set_option maxRecDepth 100000 in
set_option maxHeartbeats 4000000 in
theorem ct_X10_paid (ticks : Int32) (d : Int32) (I : Iv) (J : Jv) (hma : MA I) (hmj : MJ J) : Ct m_X10_paid [.ref 78, .int ticks, .int d] SHF I J (fun r S' I' J' => S' = SHF ∧ (MI I I' ∧ MK J J') ∧ ∃ v : Int64, r = some (.long v)) := by
  refine ct_of 9 (by decide +kernel) rfl rfl ?_
  have hK0 : (MI I I ∧ MK J J) := ⟨mi_rfl hma, mk_rfl hmj⟩
  refine g_aload_n d_X10_paid_0 rfl ?_
  refine g_iconst (v := 0) d_X10_paid_1 kI_0 ?_
  refine g_bipush (v := 80) d_X10_paid_2 kB_80 ?_
  refine g_V2 d_X10_paid_4 cs_X10_paid_X10_copy lk_RX10_382 im_X10_copy se_X10_copy rfl rfl rfl (Nat.le_of_ble_eq_true rfl) ⟨rfl, rfl⟩ ⟨Nat.zero_le _, Nat.zero_le _⟩ (ct_X10_copy (0 : Int32) (80 : Int32) I J (by decide) (by decide) (by grind)) (fun r4 S4 Ic3 J1 q4_1 => ?_)
  obtain ⟨rfl, ⟨rfl, hc4_3⟩, rfl, hr4_4⟩ := q4_1
  refine g_st (st' := []) rfl ?_
  have hK6 : (MI I I ∧ MK J J1) := ⟨(hK0).1, cy_mk80 (by decide) (hK0).2 hr4_4⟩
  have hs57 : HS J1 := cy_hs ((hK0).2.2 0 (by decide)).1 hr4_4
  refine g_lconst d_X10_paid_7 kL_0 ?_
  refine g_lstore_n (L' := [some (.ref 78), some (.int ticks), some (.int d), some (.long (0 : Int64)), none, none, none, none, none, none, none, none]) d_X10_paid_8 (by decide) rfl ?_
  refine g_iconst (v := 0) d_X10_paid_9 kI_0 ?_
  refine g_istore (L' := [some (.ref 78), some (.int ticks), some (.int d), some (.long (0 : Int64)), none, some (.int (0 : Int32)), none, none, none, none, none, none]) d_X10_paid_10 (by decide) rfl ?_
  have K_12 : ∀ (nu : Nat) (x7 : Int64) (x8 : Int32) (J9 : Jv), mU ticks x8 = nu → ((MI I I ∧ MK J J9)) → ((0 : Int32) ≤ x8) → (HS J9) → G m_X10_paid (rq m_X10_paid (fun r S' I' J' => S' = SHF ∧ (MI I I' ∧ MK J J') ∧ ∃ v : Int64, r = some (.long v))) 0 0 12 [some (.ref 78), some (.int ticks), some (.int d), some (.long x7), none, some (.int x8), none, none, none, none, none, none] [] SHF I J9 := by
    intro nu
    induction nu using Nat.strongRecOn with
    | ind nu ih_12 =>
      intro x7 x8 J9 hmu_12 hK10 hl11 hs_12
      refine g_iload d_X10_paid_12 rfl ?_
      refine g_iload_n d_X10_paid_14 rfl ?_
      refine g_icmp_ge d_X10_paid_15 (fun h15 => ?_) (fun h15 => ?_)
      · skip
        refine g_lload_n d_X10_paid_166 rfl ?_
        refine g_ldc2 (v := 1000) d_X10_paid_167 tw_1392 ?_
        refine g_ldiv d_X10_paid_170 (by decide) ?_
        exact g_lreturn d_X10_paid_171 rfl rfl rfl ⟨rfl, hK10, (x7 / (1000 : Int64)), rfl⟩
      · skip
        refine g_aload_n d_X10_paid_18 rfl ?_
        refine g_getR d_X10_paid_19 fq_RX10_7 rfl rfl ?_
        refine g_sipush (v := 134) d_X10_paid_22 kS_134 ?_
        refine g_laload (N := 320) d_X10_paid_25 rfl kT_320 ⟨by decide, by decide⟩ kN_134 ?_
        refine g_topJ (fun v12 ev12 => ?_)
        refine g_lstore (L' := [some (.ref 78), some (.int ticks), some (.int d), some (.long x7), none, some (.int x8), some (.long v12), none, none, none, none, none]) d_X10_paid_26 (by decide) rfl ?_
        refine g_lload d_X10_paid_28 rfl ?_
        refine g_aload_n d_X10_paid_30 rfl ?_
        refine g_getI d_X10_paid_31 fq_RX10_91 rfl rfl ?_
        refine g_aload_n d_X10_paid_34 rfl ?_
        refine g_getI d_X10_paid_35 fq_RX10_397 rfl rfl ?_
        refine g_S3 d_X10_paid_38 cs_X10_paid_X10_isHour lk_RX10_219 im_X10_isHour (Nat.le_of_ble_eq_true rfl) ⟨rfl, rfl⟩ ⟨Nat.zero_le _, Nat.zero_le _⟩ (ct_X10_isHour v12 (I 78 31) (I 78 32) I J9 ) (fun r38 S38 Ic14 Jc15 q38_12 => ?_)
        obtain ⟨rfl, rfl, rfl, r17, rfl, hz38⟩ := q38_12
        refine g_st (st' := [.int r17]) rfl ?_
        refine g_istore (L' := [some (.ref 78), some (.int ticks), some (.int d), some (.long x7), none, some (.int x8), some (.long v12), none, some (.int r17), none, none, none]) d_X10_paid_41 (by decide) rfl ?_
        refine g_aload_n d_X10_paid_43 rfl ?_
        refine g_getR d_X10_paid_44 fq_RX10_7 rfl rfl ?_
        refine g_sipush (v := 143) d_X10_paid_47 kS_143 ?_
        refine g_laload (N := 320) d_X10_paid_50 rfl kT_320 ⟨by decide, by decide⟩ kN_143 ?_
        refine g_topJ (fun v19 ev19 => ?_)
        refine g_lstore (L' := [some (.ref 78), some (.int ticks), some (.int d), some (.long x7), none, some (.int x8), some (.long v12), none, some (.int r17), some (.long v19), none, none]) d_X10_paid_51 (by decide) rfl ?_
        refine g_aload_n d_X10_paid_53 rfl ?_
        refine g_bipush (v := 80) d_X10_paid_54 kB_80 ?_
        refine g_aload_n d_X10_paid_56 rfl ?_
        refine g_lload d_X10_paid_57 rfl ?_
        refine g_V1 d_X10_paid_59 cs_X10_paid_X10_isOpen lk_RX10_247 im_X10_isOpen se_X10_isOpen rfl rfl rfl (Nat.le_of_ble_eq_true rfl) ⟨rfl, rfl⟩ ⟨Nat.zero_le _, Nat.zero_le _⟩ (ct_X10_isOpen v12 I J9 ((hK10).1.2.2.1)) (fun r59 S59 Ic21 Jc22 q59_19 => ?_)
        obtain ⟨rfl, rfl, rfl, r24, rfl, hz59⟩ := q59_19
        refine g_st (st' := [.int r24, .int (80 : Int32), .ref 78]) rfl ?_
        refine g_aload_n d_X10_paid_62 rfl ?_
        refine g_getR d_X10_paid_63 fq_RX10_17 rfl rfl ?_
        refine g_bipush (v := 8) d_X10_paid_66 kB_8 ?_
        refine g_iaload (N := 15) d_X10_paid_68 rfl kT_15 ⟨by decide, by decide⟩ kN_8 ?_
        refine g_iload d_X10_paid_69 rfl ?_
        have J_79 : ∀ (w26 : Int32), G m_X10_paid (rq m_X10_paid (fun r S' I' J' => S' = SHF ∧ (MI I I' ∧ MK J J') ∧ ∃ v : Int64, r = some (.long v))) 0 0 79 [some (.ref 78), some (.int ticks), some (.int d), some (.long x7), none, some (.int x8), some (.long v12), none, some (.int r17), some (.long v19), none, none] [.int w26, .int (I 81 8), .int r24, .int (80 : Int32), .ref 78] SHF I J9 := by
          intro w26
          refine g_V4 d_X10_paid_79 cs_X10_paid_X10_tick lk_RX10_251 im_X10_tick se_X10_tick rfl rfl rfl (Nat.le_of_ble_eq_true rfl) ⟨rfl, rfl⟩ ⟨Nat.zero_le _, Nat.zero_le _⟩ (ct_X10_tick (80 : Int32) r24 (I 81 8) w26 I J9 (by decide) ((hK10).2.2 _ (by decide)).2.1 ((hK10).2.2 _ (by decide)).1 ((hK10).1.2.2.2.1) ((hK10).1.2.2.2.2.1)) (fun r79 S79 Ic29 J27 q79_27 => ?_)
          obtain ⟨rfl, ⟨rfl, hc79_29⟩, rfl, hr79_30⟩ := q79_27
          refine g_st (st' := []) rfl ?_
          have hK32 : (MI I I ∧ MK J J27) := ⟨(hK10).1, tg_mk80 (hK10).2 hc79_29⟩
          have hs79 : HS J27 := hs_tg hs_12 hc79_29
          refine g_lload_n d_X10_paid_82 rfl ?_
          refine g_aload_n d_X10_paid_83 rfl ?_
          refine g_getR d_X10_paid_84 fq_RX10_7 rfl rfl ?_
          refine g_sipush (v := 143) d_X10_paid_87 kS_143 ?_
          refine g_laload (N := 320) d_X10_paid_90 rfl kT_320 ⟨by decide, by decide⟩ kN_143 ?_
          refine g_lload d_X10_paid_91 rfl ?_
          refine g_lsub d_X10_paid_93 ?_
          refine g_iload d_X10_paid_94 rfl ?_
          have J_110 : ∀ (w33 : Int32), G m_X10_paid (rq m_X10_paid (fun r S' I' J' => S' = SHF ∧ (MI I I' ∧ MK J J') ∧ ∃ v : Int64, r = some (.long v))) 0 0 110 [some (.ref 78), some (.int ticks), some (.int d), some (.long x7), none, some (.int x8), some (.long v12), none, some (.int r17), some (.long v19), none, none] [.int w33, .long ((J27 79 143) - v19), .long x7] SHF I J27 := by
            intro w33
            refine g_i2l d_X10_paid_110 ?_
            refine g_lmul d_X10_paid_111 ?_
            refine g_ladd d_X10_paid_112 ?_
            refine g_topJ (fun v34 ev34 => ?_)
            refine g_lstore_n (L' := [some (.ref 78), some (.int ticks), some (.int d), some (.long v34), none, some (.int x8), some (.long v12), none, some (.int r17), some (.long v19), none, none]) d_X10_paid_113 (by decide) rfl ?_
            refine g_iconst (v := 0) d_X10_paid_114 kI_0 ?_
            refine g_istore (L' := [some (.ref 78), some (.int ticks), some (.int d), some (.long v34), none, some (.int x8), some (.long v12), none, some (.int r17), some (.long v19), none, some (.int (0 : Int32))]) d_X10_paid_115 (by decide) rfl ?_
            have K_117 : ∀ (nu : Nat) (x35 : Int32), mU (8 : Int32) x35 = nu → ((0 : Int32) ≤ x35) → G m_X10_paid (rq m_X10_paid (fun r S' I' J' => S' = SHF ∧ (MI I I' ∧ MK J J') ∧ ∃ v : Int64, r = some (.long v))) 0 0 117 [some (.ref 78), some (.int ticks), some (.int d), some (.long v34), none, some (.int x8), some (.long v12), none, some (.int r17), some (.long v19), none, some (.int x35)] [] SHF I J27 := by
              intro nu
              induction nu using Nat.strongRecOn with
              | ind nu ih_117 =>
                intro x35 hmu_117 hl36
                refine g_iload d_X10_paid_117 rfl ?_
                refine g_bipush (v := 8) d_X10_paid_119 kB_8 ?_
                refine g_icmp_ge d_X10_paid_121 (fun h121 => ?_) (fun h121 => ?_)
                · skip
                  refine g_iinc (v := (x8 + (1 : Int32))) (L' := [some (.ref 78), some (.int ticks), some (.int d), some (.long v34), none, some (.int (x8 + (1 : Int32))), some (.long v12), none, some (.int r17), some (.long v19), none, some (.int x35)]) d_X10_paid_160 rfl (by rw [kI_1]) (by decide) rfl ?_
                  refine g_goto d_X10_paid_163 ?_
                  refine g_sb [some (.ref 78), some (.int ticks), some (.int d), some (.long v34), none, some (.int (x8 + (1 : Int32))), none, none, none, none, none, none] (by simp [subL]) ?_
                  exact ih_12 _ (by rw [← hmu_12]; exact mu_up h15) v34 (x8 + (1 : Int32)) J27 rfl hK32 (lo_up hl11 h15) hs79
                · skip
                  refine g_aload_n d_X10_paid_124 rfl ?_
                  refine g_getR d_X10_paid_125 fq_RX10_7 rfl rfl ?_
                  refine g_bipush (v := 12) d_X10_paid_128 kB_12 ?_
                  refine g_iload d_X10_paid_130 rfl ?_
                  refine g_iadd d_X10_paid_132 ?_
                  refine g_laload (N := 320) d_X10_paid_133 rfl kT_320 (by constructor <;> grind) (by rw [tn_add (by constructor <;> grind) (by constructor <;> grind), kN_12]) ?_
                  refine g_lconst d_X10_paid_134 kL_1 ?_
                  refine g_lcmp_ne d_X10_paid_135 d_X10_paid_136 (fun h136 => ?_) (fun h136 => ?_)
                  · skip
                    refine g_iinc (v := (x35 + (1 : Int32))) (L' := [some (.ref 78), some (.int ticks), some (.int d), some (.long v34), none, some (.int x8), some (.long v12), none, some (.int r17), some (.long v19), none, some (.int (x35 + (1 : Int32)))]) d_X10_paid_154 rfl (by rw [kI_1]) (by decide) rfl ?_
                    refine g_goto d_X10_paid_157 ?_
                    exact ih_117 _ (by rw [← hmu_117]; exact mu_up h121) (x35 + (1 : Int32)) rfl (lo_up hl36 h121)
                  · skip
                    have hcp := hs_cap2 (f := x35) hs79 (by grind) (by grind) h136
                    refine g_aload_n d_X10_paid_139 rfl ?_
                    refine g_bipush (v := 80) d_X10_paid_140 kB_80 ?_
                    refine g_iload d_X10_paid_142 rfl ?_
                    refine g_V2 d_X10_paid_144 cs_X10_paid_X10_isWithin lk_RX10_283 im_X10_isWithin se_X10_isWithin rfl rfl rfl (Nat.le_of_ble_eq_true rfl) ⟨rfl, rfl⟩ ⟨Nat.zero_le _, Nat.zero_le _⟩ (ct_X10_isWithin (80 : Int32) x35 I J27 (by decide) (by grind) hcp) (fun r144 S144 Ic38 Jc39 q144_36 => ?_)
                    obtain ⟨rfl, rfl, rfl, r41, rfl, hz144⟩ := q144_36
                    refine g_st (st' := [.int r41]) rfl ?_
                    refine g_if_ne d_X10_paid_147 (fun h147 => ?_) (fun h147 => ?_)
                    · skip
                      refine g_iinc (v := (x35 + (1 : Int32))) (L' := [some (.ref 78), some (.int ticks), some (.int d), some (.long v34), none, some (.int x8), some (.long v12), none, some (.int r17), some (.long v19), none, some (.int (x35 + (1 : Int32)))]) d_X10_paid_154 rfl (by rw [kI_1]) (by decide) rfl ?_
                      refine g_goto d_X10_paid_157 ?_
                      exact ih_117 _ (by rw [← hmu_117]; exact mu_up h121) (x35 + (1 : Int32)) rfl (lo_up hl36 h121)
                    · skip
                      refine g_ldc2 (v := -1) d_X10_paid_150 tw_1616 ?_
                      exact g_lreturn d_X10_paid_153 rfl rfl rfl ⟨rfl, hK32, (-1 : Int64), rfl⟩
            exact K_117 _ (0 : Int32) rfl (Int32.le_refl _)
          refine g_if_eq d_X10_paid_96 (fun h96 => ?_) (fun h96 => ?_)
          · skip
            refine g_aload_n d_X10_paid_106 rfl ?_
            refine g_getI d_X10_paid_107 fq_RX10_88 rfl rfl ?_
            exact J_110 ((I 78 30))
          · skip
            refine g_aload_n d_X10_paid_99 rfl ?_
            refine g_getI d_X10_paid_100 fq_RX10_400 rfl rfl ?_
            refine g_goto d_X10_paid_103 ?_
            exact J_110 ((I 78 33))
        refine g_if_eq d_X10_paid_71 (fun h71 => ?_) (fun h71 => ?_)
        · skip
          refine g_iconst (v := 0) d_X10_paid_78 kI_0 ?_
          exact J_79 ((0 : Int32))
        · skip
          refine g_iload_n d_X10_paid_74 rfl ?_
          refine g_goto d_X10_paid_75 ?_
          exact J_79 d
  exact K_12 _ (0 : Int64) (0 : Int32) J1 rfl hK6 (Int32.le_refl _) hs57
set_option maxRecDepth 100000 in
set_option maxHeartbeats 4000000 in
theorem ct_X10_store (n : Int32) (what : Int32) (I : Iv) (J : Jv) (hma : MA I) (hmj : MJ J) : Ct m_X10_store [.ref 78, .int n, .int what] SHF I J (fun r S' I' J' => S' = SHF ∧ True ∧ ∃ v : Int32, r = some (.int v) ∧ (MI (bgI I) I' ∧ MK (bgJ I J) J')) := by
  refine ct_of 6 (by decide +kernel) rfl rfl ?_
  have hK0 : (MI I I ∧ MK J J) := ⟨mi_rfl hma, mk_rfl hmj⟩
  refine g_aload_n d_X10_store_0 rfl ?_
  refine g_V0 d_X10_store_1 cs_X10_store_X10_begin lk_RX10_166 im_X10_begin se_X10_begin rfl rfl rfl (Nat.le_of_ble_eq_true rfl) ⟨rfl, rfl⟩ ⟨Nat.zero_le _, Nat.zero_le _⟩ (ct_X10_begin  I J hma hmj) (fun r1 S1 I1 J2 q1_2 => ?_)
  obtain ⟨rfl, hc1_3, rfl, hr1_4⟩ := q1_2
  refine g_st (st' := []) rfl ?_
  have hK6 : (MI (bgI I) I1 ∧ MK (bgJ I J) J2) := hr1_4
  refine g_iload_n d_X10_store_4 rfl ?_
  refine g_S1 d_X10_store_5 cs_X10_store_X10_areDays lk_RX10_326 im_X10_areDays (Nat.le_of_ble_eq_true rfl) ⟨rfl, rfl⟩ ⟨Nat.zero_le _, Nat.zero_le _⟩ (ct_X10_areDays n I1 J2 ) (fun r5 S5 Ic8 Jc9 q5_6 => ?_)
  obtain ⟨rfl, rfl, rfl, r11, rfl, hz5, hr5_11⟩ := q5_6
  refine g_st (st' := [.int r11]) rfl ?_
  refine g_if_eq d_X10_store_8 (fun h8 => ?_) (fun h8 => ?_)
  · skip
    refine g_ldc (v := -1000000002) d_X10_store_21 tw_1199 ?_
    exact g_ireturn d_X10_store_23 rfl rfl rfl rfl ⟨rfl, trivial, (-1000000002 : Int32), rfl, hK6⟩
  · skip
    refine g_iload_n d_X10_store_11 rfl ?_
    refine g_i2l d_X10_store_12 ?_
    refine g_lconst d_X10_store_13 kL_0 ?_
    refine g_lconst d_X10_store_14 kL_1 ?_
    refine g_S3 d_X10_store_15 cs_X10_store_X10_in lk_RX10_96 im_X10_in (Nat.le_of_ble_eq_true rfl) ⟨rfl, rfl⟩ ⟨Nat.zero_le _, Nat.zero_le _⟩ (ct_X10_inL what (0 : Int64) (1 : Int64) (0 : Int32) (1 : Int32) (by decide) (by decide) I1 J2) (fun r15 S15 Ic14 Jc15 q15_12 => ?_)
    obtain ⟨rfl, rfl, rfl, r17, rfl, hz15, hr15_17⟩ := q15_12
    refine g_st (st' := [.int r17]) rfl ?_
    refine g_if_ne d_X10_store_18 (fun h18 => ?_) (fun h18 => ?_)
    · skip
      refine g_iconst (v := -1) d_X10_store_24 kI_m1 ?_
      refine g_istore_n (L' := [some (.ref 78), some (.int n), some (.int what), some (.int (-1 : Int32)), none, none, none, none, none]) d_X10_store_25 (by decide) rfl ?_
      refine g_ldc2 (v := -1) d_X10_store_26 tw_1616 ?_
      refine g_lstore (L' := [some (.ref 78), some (.int n), some (.int what), some (.int (-1 : Int32)), some (.long (-1 : Int64)), none, none, none, none]) d_X10_store_29 (by decide) rfl ?_
      refine g_iconst (v := 0) d_X10_store_31 kI_0 ?_
      refine g_istore (L' := [some (.ref 78), some (.int n), some (.int what), some (.int (-1 : Int32)), some (.long (-1 : Int64)), none, some (.int (0 : Int32)), none, none]) d_X10_store_32 (by decide) rfl ?_
      have K_34 : ∀ (nu : Nat) (x19 : Int32) (x20 : Int64) (x21 : Int32) (I22 : Iv) (J23 : Jv), mUe 40 x21 = nu → ((MI (bgI I) I22 ∧ MK (bgJ I J) J23)) → G m_X10_store (rq m_X10_store (fun r S' I' J' => S' = SHF ∧ True ∧ ∃ v : Int32, r = some (.int v) ∧ (MI (bgI I) I' ∧ MK (bgJ I J) J'))) 0 0 34 [some (.ref 78), some (.int n), some (.int what), some (.int x19), some (.long x20), none, some (.int x21), none, none] [] SHF I22 J23 := by
        intro nu
        induction nu using Nat.strongRecOn with
        | ind nu ih_34 =>
          intro x19 x20 x21 I22 J23 hmu_34 hK24
          refine g_iload d_X10_store_34 rfl ?_
          refine g_bipush (v := 40) d_X10_store_36 kB_40 ?_
          refine g_icmp_gt d_X10_store_38 (fun h38 => ?_) (fun h38 => ?_)
          · skip
            refine g_iload_n d_X10_store_86 rfl ?_
            refine g_if_ne d_X10_store_87 (fun h87 => ?_) (fun h87 => ?_)
            · skip
              refine g_lload d_X10_store_94 rfl ?_
              refine g_l2i d_X10_store_96 ?_
              exact g_ireturn d_X10_store_97 rfl rfl rfl rfl ⟨rfl, trivial, (Int64.toInt32 x20), rfl, hK24⟩
            · skip
              refine g_iload_n d_X10_store_90 rfl ?_
              refine g_goto d_X10_store_91 ?_
              exact g_ireturn d_X10_store_97 rfl rfl rfl rfl ⟨rfl, trivial, x19, rfl, hK24⟩
          · skip
            refine g_aload_n d_X10_store_41 rfl ?_
            refine g_sipush (v := 288) d_X10_store_42 kS_288 ?_
            refine g_iload_n d_X10_store_45 rfl ?_
            refine g_imul d_X10_store_46 ?_
            refine g_iload d_X10_store_47 rfl ?_
            refine g_V2 d_X10_store_49 cs_X10_store_X10_paid lk_RX10_405 im_X10_paid se_X10_paid rfl rfl rfl (Nat.le_of_ble_eq_true rfl) ⟨rfl, rfl⟩ ⟨Nat.zero_le _, Nat.zero_le _⟩ (ct_X10_paid ((288 : Int32) * n) x21 I22 J23 (hK24).1.2 (hK24).2.2) (fun r49 S49 I25 J26 q49_26 => ?_)
            obtain ⟨rfl, hc49_27, r29, rfl⟩ := q49_26
            refine g_st (st' := [.long r29]) rfl ?_
            have hK31 : (MI (bgI I) I25 ∧ MK (bgJ I J) J26) := ⟨mi_tr (hK24).1 hc49_27.1, mk_tr (hK24).2 hc49_27.2⟩
            refine g_lstore (L' := [some (.ref 78), some (.int n), some (.int what), some (.int x19), some (.long x20), none, some (.int x21), some (.long r29), none]) d_X10_store_52 (by decide) rfl ?_
            refine g_lload d_X10_store_54 rfl ?_
            refine g_lconst d_X10_store_56 kL_0 ?_
            refine g_lcmp_lt d_X10_store_57 d_X10_store_58 (fun h58 => ?_) (fun h58 => ?_)
            · skip
              refine g_iinc (v := (x21 + (5 : Int32))) (L' := [some (.ref 78), some (.int n), some (.int what), some (.int x19), some (.long x20), none, some (.int (x21 + (5 : Int32))), some (.long r29), none]) d_X10_store_80 rfl (by rw [kI_5]) (by decide) rfl ?_
              refine g_goto d_X10_store_83 ?_
              refine g_sb [some (.ref 78), some (.int n), some (.int what), some (.int x19), some (.long x20), none, some (.int (x21 + (5 : Int32))), none, none] (by simp [subL]) ?_
              exact ih_34 _ (by rw [← hmu_34]; exact mu_up5 h38) x19 x20 (x21 + (5 : Int32)) I25 J26 rfl hK31
            · skip
              refine g_iload_n d_X10_store_61 rfl ?_
              have J_73 : G m_X10_store (rq m_X10_store (fun r S' I' J' => S' = SHF ∧ True ∧ ∃ v : Int32, r = some (.int v) ∧ (MI (bgI I) I' ∧ MK (bgJ I J) J'))) 0 0 73 [some (.ref 78), some (.int n), some (.int what), some (.int x19), some (.long x20), none, some (.int x21), some (.long r29), none] [] SHF I25 J26 := by
                skip
                refine g_iload d_X10_store_73 rfl ?_
                refine g_istore_n (L' := [some (.ref 78), some (.int n), some (.int what), some (.int x21), some (.long x20), none, some (.int x21), some (.long r29), none]) d_X10_store_75 (by decide) rfl ?_
                refine g_lload d_X10_store_76 rfl ?_
                refine g_lstore (L' := [some (.ref 78), some (.int n), some (.int what), some (.int x21), some (.long r29), none, some (.int x21), some (.long r29), none]) d_X10_store_78 (by decide) rfl ?_
                refine g_iinc (v := (x21 + (5 : Int32))) (L' := [some (.ref 78), some (.int n), some (.int what), some (.int x21), some (.long r29), none, some (.int (x21 + (5 : Int32))), some (.long r29), none]) d_X10_store_80 rfl (by rw [kI_5]) (by decide) rfl ?_
                refine g_goto d_X10_store_83 ?_
                refine g_sb [some (.ref 78), some (.int n), some (.int what), some (.int x21), some (.long r29), none, some (.int (x21 + (5 : Int32))), none, none] (by simp [subL]) ?_
                exact ih_34 _ (by rw [← hmu_34]; exact mu_up5 h38) x21 r29 (x21 + (5 : Int32)) I25 J26 rfl hK31
              refine g_if_lt d_X10_store_62 (fun h62 => ?_) (fun h62 => ?_)
              · skip
                exact J_73
              · skip
                refine g_lload d_X10_store_65 rfl ?_
                refine g_lload d_X10_store_67 rfl ?_
                refine g_lcmp_ge d_X10_store_69 d_X10_store_70 (fun h70 => ?_) (fun h70 => ?_)
                · skip
                  refine g_iinc (v := (x21 + (5 : Int32))) (L' := [some (.ref 78), some (.int n), some (.int what), some (.int x19), some (.long x20), none, some (.int (x21 + (5 : Int32))), some (.long r29), none]) d_X10_store_80 rfl (by rw [kI_5]) (by decide) rfl ?_
                  refine g_goto d_X10_store_83 ?_
                  refine g_sb [some (.ref 78), some (.int n), some (.int what), some (.int x19), some (.long x20), none, some (.int (x21 + (5 : Int32))), none, none] (by simp [subL]) ?_
                  exact ih_34 _ (by rw [← hmu_34]; exact mu_up5 h38) x19 x20 (x21 + (5 : Int32)) I25 J26 rfl hK31
                · skip
                  exact J_73
      exact K_34 _ (-1 : Int32) (-1 : Int64) (0 : Int32) I1 J2 rfl hK6
    · skip
      refine g_ldc (v := -1000000002) d_X10_store_21 tw_1199 ?_
      exact g_ireturn d_X10_store_23 rfl rfl rfl rfl ⟨rfl, trivial, (-1000000002 : Int32), rfl, hK6⟩
set_option maxRecDepth 100000 in
set_option maxHeartbeats 4000000 in
theorem ct_X10_seed (v_ : Int32) (I : Iv) (J : Jv) (hma : MA I) (hmj : MJ J) : Ct m_X10_seed [.ref 78, .int v_] SHF I J (fun r S' I' J' => S' = SHF ∧ True ∧ ∃ v : Int32, r = some (.int v) ∧ (MI (bgI I) I' ∧ MK (bgJ I J) J')) := by
  refine ct_of 1 (by decide +kernel) rfl rfl ?_
  have hK0 : (MI I I ∧ MK J J) := ⟨mi_rfl hma, mk_rfl hmj⟩
  refine g_aload_n d_X10_seed_0 rfl ?_
  refine g_V0 d_X10_seed_1 cs_X10_seed_X10_begin lk_RX10_166 im_X10_begin se_X10_begin rfl rfl rfl (Nat.le_of_ble_eq_true rfl) ⟨rfl, rfl⟩ ⟨Nat.zero_le _, Nat.zero_le _⟩ (ct_X10_begin  I J hma hmj) (fun r1 S1 I1 J2 q1_2 => ?_)
  obtain ⟨rfl, hc1_3, rfl, hr1_4⟩ := q1_2
  refine g_st (st' := []) rfl ?_
  have hK6 : (MI (bgI I) I1 ∧ MK (bgJ I J) J2) := hr1_4
  refine g_iload_n d_X10_seed_4 rfl ?_
  refine g_if_ge d_X10_seed_5 (fun h5 => ?_) (fun h5 => ?_)
  · skip
    refine g_aload_n d_X10_seed_11 rfl ?_
    refine g_getR d_X10_seed_12 fq_RX10_7 rfl rfl ?_
    refine g_bipush (v := 70) d_X10_seed_15 kB_70 ?_
    refine g_laload (N := 320) d_X10_seed_17 rfl kT_320 ⟨by decide, by decide⟩ kN_70 ?_
    refine g_l2i d_X10_seed_18 ?_
    refine g_topI (fun v7 ev7 => ?_)
    refine g_istore_n (L' := [some (.ref 78), some (.int v_), some (.int v7)]) d_X10_seed_19 (by decide) rfl ?_
    refine g_aload_n d_X10_seed_20 rfl ?_
    refine g_getR d_X10_seed_21 fq_RX10_7 rfl rfl ?_
    refine g_bipush (v := 70) d_X10_seed_24 kB_70 ?_
    refine g_iload_n d_X10_seed_26 rfl ?_
    refine g_i2l d_X10_seed_27 ?_
    have hvb := i2l_31 (a := v_) (by grind)
    refine g_lastore (N := 320) d_X10_seed_28 rfl kT_320 ⟨by decide, by decide⟩ kN_70  ?_
    refine g_nmJ (fun J8 eJ8 => ?_)
    have hK9 : (MI (bgI I) I1 ∧ MK (bgJ I J) J8) := (by rw [eJ8]; exact ⟨(hK6).1, mj_70 (hK6).2 hvb⟩)
    refine g_iload_n d_X10_seed_29 rfl ?_
    exact g_ireturn d_X10_seed_30 rfl rfl rfl rfl ⟨rfl, trivial, v7, rfl, hK9⟩
  · skip
    refine g_ldc (v := -1000000002) d_X10_seed_8 tw_1199 ?_
    exact g_ireturn d_X10_seed_10 rfl rfl rfl rfl ⟨rfl, trivial, (-1000000002 : Int32), rfl, hK6⟩
set_option maxRecDepth 100000 in
set_option maxHeartbeats 4000000 in
theorem ct_X10_keep (i : Int32) (I : Iv) (J : Jv) (hma : MA I) (hmj : MJ J) : Ct m_X10_keep [.ref 78, .int i] SHF I J (fun r S' I' J' => S' = SHF ∧ True ∧ ∃ v : Int32, r = some (.int v) ∧ ((¬ (0 ≤ i ∧ i ≤ 1) ∧ v = -1000000001 ∧ MI (bgI I) I' ∧ MK (bgJ I J) J') ∨ (0 ≤ i ∧ i ≤ 1 ∧ v = 1 ∧ MI (wI (bgI I) 80 i.toNatClampNeg 1) I' ∧ MK (kpJ (bgJ I J) i) J'))) := by
  refine ct_of 0 (by decide +kernel) rfl rfl ?_
  have hK0 : (MI I I ∧ MK J J) := ⟨mi_rfl hma, mk_rfl hmj⟩
  refine g_aload_n d_X10_keep_0 rfl ?_
  refine g_V0 d_X10_keep_1 cs_X10_keep_X10_begin lk_RX10_166 im_X10_begin se_X10_begin rfl rfl rfl (Nat.le_of_ble_eq_true rfl) ⟨rfl, rfl⟩ ⟨Nat.zero_le _, Nat.zero_le _⟩ (ct_X10_begin  I J hma hmj) (fun r1 S1 I1 J2 q1_2 => ?_)
  obtain ⟨rfl, hc1_3, rfl, hr1_4⟩ := q1_2
  refine g_st (st' := []) rfl ?_
  have hK6 : (MI (bgI I) I1 ∧ MK (bgJ I J) J2) := hr1_4
  refine g_iload_n d_X10_keep_4 rfl ?_
  refine g_i2l d_X10_keep_5 ?_
  refine g_lconst d_X10_keep_6 kL_0 ?_
  refine g_lconst d_X10_keep_7 kL_1 ?_
  refine g_S3 d_X10_keep_8 cs_X10_keep_X10_in lk_RX10_96 im_X10_in (Nat.le_of_ble_eq_true rfl) ⟨rfl, rfl⟩ ⟨Nat.zero_le _, Nat.zero_le _⟩ (ct_X10_inL i (0 : Int64) (1 : Int64) (0 : Int32) (1 : Int32) (by decide) (by decide) I1 J2) (fun r8 S8 Ic8 Jc9 q8_6 => ?_)
  obtain ⟨rfl, rfl, rfl, r11, rfl, hz8, hr8_11⟩ := q8_6
  refine g_st (st' := [.int r11]) rfl ?_
  refine g_if_ne d_X10_keep_11 (fun h11 => ?_) (fun h11 => ?_)
  · skip
    refine g_aload_n d_X10_keep_18 rfl ?_
    refine g_iconst (v := 0) d_X10_keep_19 kI_0 ?_
    refine g_sipush (v := 160) d_X10_keep_20 kS_160 ?_
    refine g_bipush (v := 80) d_X10_keep_23 kB_80 ?_
    refine g_iload_n d_X10_keep_25 rfl ?_
    refine g_imul d_X10_keep_26 ?_
    refine g_iadd d_X10_keep_27 ?_
    refine g_V2 d_X10_keep_28 cs_X10_keep_X10_copy lk_RX10_382 im_X10_copy se_X10_copy rfl rfl rfl (Nat.le_of_ble_eq_true rfl) ⟨rfl, rfl⟩ ⟨Nat.zero_le _, Nat.zero_le _⟩ (ct_X10_copy (0 : Int32) ((160 : Int32) + ((80 : Int32) * i)) I1 J2 (by decide) (by grind) (by grind)) (fun r28 S28 Ic15 J13 q28_13 => ?_)
    obtain ⟨rfl, ⟨rfl, hc28_15⟩, rfl, hr28_16⟩ := q28_13
    refine g_st (st' := []) rfl ?_
    have hK18 : (MI (bgI I) I1 ∧ MK (kpJ (bgJ I J) i) J13) := ⟨(hK6).1, mk_keep (i := i) (by grind) (hK6).2 hr28_16⟩
    refine g_aload_n d_X10_keep_31 rfl ?_
    refine g_getR d_X10_keep_32 fq_RX10_13 rfl rfl ?_
    refine g_iload_n d_X10_keep_35 rfl ?_
    refine g_iconst (v := 1) d_X10_keep_36 kI_1 ?_
    refine g_bastore (N := 2) d_X10_keep_37 rfl kT_2 (by constructor <;> grind) rfl (Or.inr rfl) ?_
    refine g_nmI (fun I19 eI19 => ?_)
    have hK20 : (MI (wI (bgI I) 80 i.toNatClampNeg (1 : Int32)) I19 ∧ MK (kpJ (bgJ I J) i) J13) := (by rw [eI19]; exact ⟨mi_trk (hK18).1 rfl, (hK18).2⟩)
    refine g_iconst (v := 1) d_X10_keep_38 kI_1 ?_
    exact g_ireturn d_X10_keep_39 rfl rfl rfl rfl ⟨rfl, trivial, (1 : Int32), rfl, (Or.inr ⟨by grind, by grind, rfl, hK20⟩)⟩
  · skip
    refine g_ldcw (v := -1000000001) d_X10_keep_14 tw_1296 ?_
    exact g_ireturn d_X10_keep_17 rfl rfl rfl rfl ⟨rfl, trivial, (-1000000001 : Int32), rfl, (Or.inl ⟨by grind, rfl, hK6⟩)⟩
set_option maxRecDepth 100000 in
set_option maxHeartbeats 4000000 in
theorem ct_X10_goBack (i : Int32) (I : Iv) (J : Jv) (hma : MA I) (hmj : MJ J) : Ct m_X10_goBack [.ref 78, .int i] SHF I J (fun r S' I' J' => S' = SHF ∧ True ∧ ∃ v : Int32, r = some (.int v) ∧ ((¬ (0 ≤ i ∧ i ≤ 1) ∧ v = -1000000001 ∧ MI (bgI I) I' ∧ MK (bgJ I J) J') ∨ (0 ≤ i ∧ i ≤ 1 ∧ (bgI I) 80 i.toNatClampNeg = 0 ∧ v = -1000000003 ∧ MI (bgI I) I' ∧ MK (bgJ I J) J') ∨ (0 ≤ i ∧ i ≤ 1 ∧ ¬ (bgI I) 80 i.toNatClampNeg = 0 ∧ v = 1 ∧ MI (bgI I) I' ∧ MK (gbJ (bgJ I J) i) J'))) := by
  refine ct_of 0 (by decide +kernel) rfl rfl ?_
  have hK0 : (MI I I ∧ MK J J) := ⟨mi_rfl hma, mk_rfl hmj⟩
  refine g_aload_n d_X10_goBack_0 rfl ?_
  refine g_V0 d_X10_goBack_1 cs_X10_goBack_X10_begin lk_RX10_166 im_X10_begin se_X10_begin rfl rfl rfl (Nat.le_of_ble_eq_true rfl) ⟨rfl, rfl⟩ ⟨Nat.zero_le _, Nat.zero_le _⟩ (ct_X10_begin  I J hma hmj) (fun r1 S1 I1 J2 q1_2 => ?_)
  obtain ⟨rfl, hc1_3, rfl, hr1_4⟩ := q1_2
  refine g_st (st' := []) rfl ?_
  have hK6 : (MI (bgI I) I1 ∧ MK (bgJ I J) J2) := hr1_4
  have hrow := mi_r80 (hr1_4).1
  refine g_iload_n d_X10_goBack_4 rfl ?_
  refine g_i2l d_X10_goBack_5 ?_
  refine g_lconst d_X10_goBack_6 kL_0 ?_
  refine g_lconst d_X10_goBack_7 kL_1 ?_
  refine g_S3 d_X10_goBack_8 cs_X10_goBack_X10_in lk_RX10_96 im_X10_in (Nat.le_of_ble_eq_true rfl) ⟨rfl, rfl⟩ ⟨Nat.zero_le _, Nat.zero_le _⟩ (ct_X10_inL i (0 : Int64) (1 : Int64) (0 : Int32) (1 : Int32) (by decide) (by decide) I1 J2) (fun r8 S8 Ic8 Jc9 q8_6 => ?_)
  obtain ⟨rfl, rfl, rfl, r11, rfl, hz8, hr8_11⟩ := q8_6
  refine g_st (st' := [.int r11]) rfl ?_
  refine g_if_ne d_X10_goBack_11 (fun h11 => ?_) (fun h11 => ?_)
  · skip
    refine g_aload_n d_X10_goBack_18 rfl ?_
    refine g_getR d_X10_goBack_19 fq_RX10_13 rfl rfl ?_
    refine g_iload_n d_X10_goBack_22 rfl ?_
    refine g_baload (N := 2) d_X10_goBack_23 rfl kT_2 (by constructor <;> grind) rfl (fun hz23 => ?_)
    refine g_if_ne d_X10_goBack_24 (fun h24 => ?_) (fun h24 => ?_)
    · skip
      refine g_aload_n d_X10_goBack_31 rfl ?_
      refine g_sipush (v := 160) d_X10_goBack_32 kS_160 ?_
      refine g_bipush (v := 80) d_X10_goBack_35 kB_80 ?_
      refine g_iload_n d_X10_goBack_37 rfl ?_
      refine g_imul d_X10_goBack_38 ?_
      refine g_iadd d_X10_goBack_39 ?_
      refine g_iconst (v := 0) d_X10_goBack_40 kI_0 ?_
      refine g_V2 d_X10_goBack_41 cs_X10_goBack_X10_copy lk_RX10_382 im_X10_copy se_X10_copy rfl rfl rfl (Nat.le_of_ble_eq_true rfl) ⟨rfl, rfl⟩ ⟨Nat.zero_le _, Nat.zero_le _⟩ (ct_X10_copy ((160 : Int32) + ((80 : Int32) * i)) (0 : Int32) I1 J2 (by grind) (by decide) (by grind)) (fun r41 S41 Ic15 J13 q41_13 => ?_)
      obtain ⟨rfl, ⟨rfl, hc41_15⟩, rfl, hr41_16⟩ := q41_13
      refine g_st (st' := []) rfl ?_
      have hK18 : (MI (bgI I) I1 ∧ MK (gbJ (bgJ I J) i) J13) := ⟨(hK6).1, mk_back (i := i) (by grind) (hK6).2 hr41_16⟩
      refine g_iconst (v := 1) d_X10_goBack_44 kI_1 ?_
      exact g_ireturn d_X10_goBack_45 rfl rfl rfl rfl ⟨rfl, trivial, (1 : Int32), rfl, (Or.inr (Or.inr ⟨by grind, by grind, by rw [← hrow]; exact h24, rfl, hK18⟩))⟩
    · skip
      refine g_ldcw (v := -1000000003) d_X10_goBack_27 tw_1560 ?_
      exact g_ireturn d_X10_goBack_30 rfl rfl rfl rfl ⟨rfl, trivial, (-1000000003 : Int32), rfl, (Or.inr (Or.inl ⟨by grind, by grind, by rw [← hrow]; exact h24, rfl, hK6⟩))⟩
  · skip
    refine g_ldcw (v := -1000000001) d_X10_goBack_14 tw_1296 ?_
    exact g_ireturn d_X10_goBack_17 rfl rfl rfl rfl ⟨rfl, trivial, (-1000000001 : Int32), rfl, (Or.inl ⟨by grind, rfl, hK6⟩)⟩
