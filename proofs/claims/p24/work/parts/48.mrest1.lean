noncomputable def fn_X10_mending (k : Int32) (c : Int32) (I : Iv) (J : Jv) : Int32 × Iv × Jv :=
  b_n2 (fn_X10_begin I J) (fun (I1 : Iv) (J2 : Jv) => b_n3 (fn_X10_isTrouble k I1 J2) (fun (r13 : Int32) (_ : Iv) (_ : Jv) => if r13 = 0 then ((-1000000001 : Int32), I1, J2) else b_n3 (fn_X10_in (Int32.toInt64 c) (0 : Int64) (999 : Int64) I1 J2) (fun (r20 : Int32) (_ : Iv) (_ : Jv) => if r20 = 0 then ((-1000000002 : Int32), I1, J2) else l_t ((I1 98 k.toNatClampNeg)) (fun (v22 : Int32) => l_t (wI I1 98 (k.toNatClampNeg) c) (fun (I23 : Iv) => (v22, I23, J2))))))
set_option maxRecDepth 100000 in
set_option maxHeartbeats 4000000 in
theorem ct_X10_mending (k : Int32) (c : Int32) (I : Iv) (J : Jv) (hma : MA I) (hmj : MJ J) : Ct m_X10_mending [.ref 78, .int k, .int c] SHF I J (fun r S' I' J' => S' = SHF ∧ True ∧ ∃ v : Int32, r = some (.int v) ∧ fn_X10_mending k c I J = (v, I', J') ∧ (((¬ (0 ≤ k ∧ k ≤ 6) ∧ v = -1000000001 ∧ MI (bgI I) I') ∨ (0 ≤ k ∧ k ≤ 6 ∧ ¬ (0 ≤ c ∧ c ≤ 999) ∧ v = -1000000002 ∧ MI (bgI I) I') ∨ (0 ≤ k ∧ k ≤ 6 ∧ 0 ≤ c ∧ c ≤ 999 ∧ v = (bgI I) 98 k.toNatClampNeg ∧ MI (wI (bgI I) 98 k.toNatClampNeg c) I')) ∧ MK (bgJ I J) J')) := by
  refine ct_of 1 (by decide +kernel) rfl rfl ?_
  have hK0 : (MI I I ∧ MK J J) := ⟨mi_rfl hma, mk_rfl hmj⟩
  have hF := fe_of (fn_X10_mending.eq_1 k c I J)
  refine g_aload_n d_X10_mending_0 rfl ?_
  refine g_V0 d_X10_mending_1 cs_X10_mending_X10_begin lk_RX10_166 im_X10_begin se_X10_begin rfl rfl rfl (Nat.le_of_ble_eq_true rfl) ⟨rfl, rfl⟩ ⟨Nat.zero_le _, Nat.zero_le _⟩ (ct_X10_begin  I J hma hmj) (fun r1 S1 I1 J2 q1_2 => ?_)
  obtain ⟨rfl, hc1_3, rfl, hf1_4, hr1_5⟩ := q1_2
  replace hF := fe_b2 hF hf1_4
  refine g_st (st' := []) rfl ?_
  have hK7 : (MI (bgI I) I1 ∧ MK (bgJ I J) J2) := hr1_5
  have hrow := mi_r98 (hr1_5).1
  refine g_iload_n d_X10_mending_4 rfl ?_
  refine g_S1 d_X10_mending_5 cs_X10_mending_X10_isTrouble lk_RX10_341 im_X10_isTrouble (Nat.le_of_ble_eq_true rfl) ⟨rfl, rfl⟩ ⟨Nat.zero_le _, Nat.zero_le _⟩ (ct_X10_isTrouble k I1 J2 ) (fun r5 S5 Ic9 Jc10 q5_7 => ?_)
  obtain ⟨rfl, rfl, rfl, r13, rfl, hz5, hf5_11, hr5_13⟩ := q5_7
  replace hF := fe_b3 hF hf5_11
  refine g_st (st' := [.int r13]) rfl ?_
  refine g_if_ne d_X10_mending_8 (fun h8 => ?_) (fun h8 => ?_)
  · skip
    replace hF := fe_neg hF h8
    refine g_iload_n d_X10_mending_15 rfl ?_
    refine g_i2l d_X10_mending_16 ?_
    refine g_lconst d_X10_mending_17 kL_0 ?_
    refine g_ldc2 (v := 999) d_X10_mending_18 tw_1476 ?_
    refine g_S3 d_X10_mending_21 cs_X10_mending_X10_in lk_RX10_96 im_X10_in (Nat.le_of_ble_eq_true rfl) ⟨rfl, rfl⟩ ⟨Nat.zero_le _, Nat.zero_le _⟩ (ct_X10_inL c (0 : Int64) (999 : Int64) (0 : Int32) (999 : Int32) (by decide) (by decide) I1 J2) (fun r21 S21 Ic16 Jc17 q21_14 => ?_)
    obtain ⟨rfl, rfl, rfl, r20, rfl, hz21, hf21_18, hr21_20⟩ := q21_14
    replace hF := fe_b3 hF hf21_18
    refine g_st (st' := [.int r20]) rfl ?_
    refine g_if_ne d_X10_mending_24 (fun h24 => ?_) (fun h24 => ?_)
    · skip
      replace hF := fe_neg hF h24
      refine g_aload_n d_X10_mending_30 rfl ?_
      refine g_getR d_X10_mending_31 fq_RX10_73 rfl rfl ?_
      refine g_iload_n d_X10_mending_34 rfl ?_
      refine g_iaload (N := 7) d_X10_mending_35 rfl kT_7 (by constructor <;> grind) rfl ?_
      refine g_topI (fun v22 ev22 => ?_)
      replace hF := fe_lt hF ev22
      refine g_istore_n (L' := [some (.ref 78), some (.int k), some (.int c), some (.int v22)]) d_X10_mending_36 (by decide) rfl ?_
      refine g_aload_n d_X10_mending_37 rfl ?_
      refine g_getR d_X10_mending_38 fq_RX10_73 rfl rfl ?_
      refine g_iload_n d_X10_mending_41 rfl ?_
      refine g_iload_n d_X10_mending_42 rfl ?_
      refine g_iastore (N := 7) d_X10_mending_43 rfl kT_7 (by constructor <;> grind) rfl  ?_
      refine g_nmI (fun I23 eI23 => ?_)
      replace hF := fe_lt hF eI23
      have hK24 : (MI (wI (bgI I) 98 k.toNatClampNeg c) I23 ∧ MK (bgJ I J) J2) := (by rw [eI23]; exact ⟨mi_trk (hK7).1 rfl, (hK7).2⟩)
      refine g_iload_n d_X10_mending_44 rfl ?_
      exact g_ireturn d_X10_mending_45 rfl rfl rfl rfl ⟨rfl, trivial, v22, rfl, hF, ⟨Or.inr (Or.inr ⟨by grind, by grind, by grind, by grind, by rw [ev22, hrow], (hK24).1⟩), (hK24).2⟩⟩
    · skip
      replace hF := fe_pos hF h24
      refine g_ldc (v := -1000000002) d_X10_mending_27 tw_1199 ?_
      exact g_ireturn d_X10_mending_29 rfl rfl rfl rfl ⟨rfl, trivial, (-1000000002 : Int32), rfl, hF, ⟨Or.inr (Or.inl ⟨by grind, by grind, by grind, rfl, (hK7).1⟩), (hK7).2⟩⟩
  · skip
    replace hF := fe_pos hF h8
    refine g_ldcw (v := -1000000001) d_X10_mending_11 tw_1296 ?_
    exact g_ireturn d_X10_mending_14 rfl rfl rfl rfl ⟨rfl, trivial, (-1000000001 : Int32), rfl, hF, ⟨Or.inl ⟨by grind, rfl, (hK7).1⟩, (hK7).2⟩⟩
noncomputable def fn_X10_price (x : Int32) (I : Iv) (J : Jv) : Int32 × Iv × Jv :=
  b_n2 (fn_X10_begin I J) (fun (I1 : Iv) (J2 : Jv) => b_n3 (fn_X10_in (Int32.toInt64 x) (0 : Int64) (999 : Int64) I1 J2) (fun (r13 : Int32) (_ : Iv) (_ : Jv) => if r13 = 0 then ((-1000000002 : Int32), I1, J2) else l_t ((I1 78 30)) (fun (v15 : Int32) => l_t (wI I1 78 30 x) (fun (I16 : Iv) => (v15, I16, J2)))))
set_option maxRecDepth 100000 in
set_option maxHeartbeats 4000000 in
theorem ct_X10_price (x : Int32) (I : Iv) (J : Jv) (hma : MA I) (hmj : MJ J) : Ct m_X10_price [.ref 78, .int x] SHF I J (fun r S' I' J' => S' = SHF ∧ True ∧ ∃ v : Int32, r = some (.int v) ∧ fn_X10_price x I J = (v, I', J') ∧ ((0 ≤ x ∧ x ≤ 999 ∧ v = (bgI I) 78 30 ∧ MI (wI (bgI I) 78 30 x) I') ∨ (¬ (0 ≤ x ∧ x ≤ 999) ∧ v = -1000000002 ∧ MI (bgI I) I')) ∧ MK (bgJ I J) J') := by
  refine ct_of 1 (by decide +kernel) rfl rfl ?_
  have hK0 : (MI I I ∧ MK J J) := ⟨mi_rfl hma, mk_rfl hmj⟩
  have hF := fe_of (fn_X10_price.eq_1 x I J)
  refine g_aload_n d_X10_price_0 rfl ?_
  refine g_V0 d_X10_price_1 cs_X10_price_X10_begin lk_RX10_166 im_X10_begin se_X10_begin rfl rfl rfl (Nat.le_of_ble_eq_true rfl) ⟨rfl, rfl⟩ ⟨Nat.zero_le _, Nat.zero_le _⟩ (ct_X10_begin  I J hma hmj) (fun r1 S1 I1 J2 q1_2 => ?_)
  obtain ⟨rfl, hc1_3, rfl, hf1_4, hr1_5⟩ := q1_2
  replace hF := fe_b2 hF hf1_4
  refine g_st (st' := []) rfl ?_
  have hK7 : (MI (bgI I) I1 ∧ MK (bgJ I J) J2) := hr1_5
  refine g_iload_n d_X10_price_4 rfl ?_
  refine g_i2l d_X10_price_5 ?_
  refine g_lconst d_X10_price_6 kL_0 ?_
  refine g_ldc2 (v := 999) d_X10_price_7 tw_1476 ?_
  refine g_S3 d_X10_price_10 cs_X10_price_X10_in lk_RX10_96 im_X10_in (Nat.le_of_ble_eq_true rfl) ⟨rfl, rfl⟩ ⟨Nat.zero_le _, Nat.zero_le _⟩ (ct_X10_inL x (0 : Int64) (999 : Int64) (0 : Int32) (999 : Int32) (by decide) (by decide) I1 J2) (fun r10 S10 Ic9 Jc10 q10_7 => ?_)
  obtain ⟨rfl, rfl, rfl, r13, rfl, hz10, hf10_11, hr10_13⟩ := q10_7
  replace hF := fe_b3 hF hf10_11
  refine g_st (st' := [.int r13]) rfl ?_
  refine g_if_ne d_X10_price_13 (fun h13 => ?_) (fun h13 => ?_)
  · skip
    replace hF := fe_neg hF h13
    have h30 := mi_30 (hK7).1
    refine g_aload_n d_X10_price_19 rfl ?_
    refine g_getI d_X10_price_20 fq_RX10_88 rfl rfl ?_
    refine g_topI (fun v15 ev15 => ?_)
    replace hF := fe_lt hF ev15
    refine g_istore_n (L' := [some (.ref 78), some (.int x), some (.int v15)]) d_X10_price_23 (by decide) rfl ?_
    refine g_aload_n d_X10_price_24 rfl ?_
    refine g_iload_n d_X10_price_25 rfl ?_
    refine g_putI d_X10_price_26 fq_RX10_88 rfl rfl ?_
    refine g_nmI (fun I16 eI16 => ?_)
    replace hF := fe_lt hF eI16
    have hK17 : (MI (wI (bgI I) 78 30 x) I16 ∧ MK (bgJ I J) J2) := (by rw [eI16]; exact ⟨mi_trk (hK7).1 rfl, (hK7).2⟩)
    refine g_iload_n d_X10_price_29 rfl ?_
    exact g_ireturn d_X10_price_30 rfl rfl rfl rfl ⟨rfl, trivial, v15, rfl, hF, ⟨Or.inl ⟨by grind, by grind, by grind, (hK17).1⟩, (hK17).2⟩⟩
  · skip
    replace hF := fe_pos hF h13
    refine g_ldc (v := -1000000002) d_X10_price_16 tw_1199 ?_
    exact g_ireturn d_X10_price_18 rfl rfl rfl rfl ⟨rfl, trivial, (-1000000002 : Int32), rfl, hF, ⟨Or.inr ⟨by grind, rfl, (hK7).1⟩, (hK7).2⟩⟩
noncomputable def fn_X10_yearOf (set : Int32) (I : Iv) (J : Jv) : Int32 × Iv × Jv :=
  b_n2 (fn_X10_findSigns set (2 : Int32) I J) (fun (I1 : Iv) (J2 : Jv) => ((Int64.toInt32 ((((365 : Int64) * (Int32.toInt64 (I1 90 6))) * (Int32.toInt64 (I1 78 30))) / (1000 : Int64))), I1, J2))
set_option maxRecDepth 100000 in
set_option maxHeartbeats 4000000 in
theorem ct_X10_yearOf (set : Int32) (I : Iv) (J : Jv) (hma : MA I) (hmj : MJ J) : Ct m_X10_yearOf [.ref 78, .int set] SHF I J (fun r S' I' J' => S' = SHF ∧ (MI I I' ∧ MK J J') ∧ ∃ v : Int32, r = some (.int v) ∧ fn_X10_yearOf set I J = (v, I', J')) := by
  refine ct_of 0 (by decide +kernel) rfl rfl ?_
  have hK0 : (MI I I ∧ MK J J) := ⟨mi_rfl hma, mk_rfl hmj⟩
  have hF := fe_of (fn_X10_yearOf.eq_1 set I J)
  refine g_aload_n d_X10_yearOf_0 rfl ?_
  refine g_iload_n d_X10_yearOf_1 rfl ?_
  refine g_iconst (v := 2) d_X10_yearOf_2 kI_2 ?_
  refine g_V2 d_X10_yearOf_3 cs_X10_yearOf_X10_findSigns lk_RX10_329 im_X10_findSigns se_X10_findSigns rfl rfl rfl (Nat.le_of_ble_eq_true rfl) ⟨rfl, rfl⟩ ⟨Nat.zero_le _, Nat.zero_le _⟩ (ct_X10_findSigns set (2 : Int32) I J hma hmj (by grind)) (fun r3 S3 I1 J2 q3_2 => ?_)
  obtain ⟨rfl, hc3_3, rfl, hf3_4, hr3_5⟩ := q3_2
  replace hF := fe_b2 hF hf3_4
  refine g_st (st' := []) rfl ?_
  have hK7 : (MI I I1 ∧ MK J J2) := ⟨mi_tr (hK0).1 hc3_3.1, mk_tr (hK0).2 hc3_3.2⟩
  refine g_ldc2 (v := 365) d_X10_yearOf_6 tw_1555 ?_
  refine g_aload_n d_X10_yearOf_9 rfl ?_
  refine g_getR d_X10_yearOf_10 fq_RX10_49 rfl rfl ?_
  refine g_bipush (v := 6) d_X10_yearOf_13 kB_6 ?_
  refine g_iaload (N := 7) d_X10_yearOf_15 rfl kT_7 ⟨by decide, by decide⟩ kN_6 ?_
  refine g_i2l d_X10_yearOf_16 ?_
  refine g_lmul d_X10_yearOf_17 ?_
  refine g_aload_n d_X10_yearOf_18 rfl ?_
  refine g_getI d_X10_yearOf_19 fq_RX10_88 rfl rfl ?_
  refine g_i2l d_X10_yearOf_22 ?_
  refine g_lmul d_X10_yearOf_23 ?_
  refine g_ldc2 (v := 1000) d_X10_yearOf_24 tw_1392 ?_
  refine g_ldiv d_X10_yearOf_27 (by decide) ?_
  refine g_l2i d_X10_yearOf_28 ?_
  exact g_ireturn d_X10_yearOf_29 rfl rfl rfl rfl ⟨rfl, hK7, (Int64.toInt32 ((((365 : Int64) * (Int32.toInt64 (I1 90 6))) * (Int32.toInt64 (I1 78 30))) / (1000 : Int64))), rfl, hF⟩
noncomputable def fn_X10_year (set : Int32) (I : Iv) (J : Jv) : Int32 × Iv × Jv :=
  b_n2 (fn_X10_begin I J) (fun (I1 : Iv) (J2 : Jv) => b_n3 (fn_X10_isSet set I1 J2) (fun (r13 : Int32) (_ : Iv) (_ : Jv) => if r13 = 0 then ((-1000000001 : Int32), I1, J2) else b_n3 (fn_X10_yearOf set I1 J2) (fun (r20 : Int32) (I15 : Iv) (J16 : Jv) => (r20, I15, J16))))
set_option maxRecDepth 100000 in
set_option maxHeartbeats 4000000 in
theorem ct_X10_year (set : Int32) (I : Iv) (J : Jv) (hma : MA I) (hmj : MJ J) : Ct m_X10_year [.ref 78, .int set] SHF I J (fun r S' I' J' => S' = SHF ∧ True ∧ ∃ v : Int32, r = some (.int v) ∧ fn_X10_year set I J = (v, I', J') ∧ (MI (bgI I) I' ∧ MK (bgJ I J) J')) := by
  refine ct_of 0 (by decide +kernel) rfl rfl ?_
  have hK0 : (MI I I ∧ MK J J) := ⟨mi_rfl hma, mk_rfl hmj⟩
  have hF := fe_of (fn_X10_year.eq_1 set I J)
  refine g_aload_n d_X10_year_0 rfl ?_
  refine g_V0 d_X10_year_1 cs_X10_year_X10_begin lk_RX10_166 im_X10_begin se_X10_begin rfl rfl rfl (Nat.le_of_ble_eq_true rfl) ⟨rfl, rfl⟩ ⟨Nat.zero_le _, Nat.zero_le _⟩ (ct_X10_begin  I J hma hmj) (fun r1 S1 I1 J2 q1_2 => ?_)
  obtain ⟨rfl, hc1_3, rfl, hf1_4, hr1_5⟩ := q1_2
  replace hF := fe_b2 hF hf1_4
  refine g_st (st' := []) rfl ?_
  have hK7 : (MI (bgI I) I1 ∧ MK (bgJ I J) J2) := hr1_5
  refine g_iload_n d_X10_year_4 rfl ?_
  refine g_S1 d_X10_year_5 cs_X10_year_X10_isSet lk_RX10_259 im_X10_isSet (Nat.le_of_ble_eq_true rfl) ⟨rfl, rfl⟩ ⟨Nat.zero_le _, Nat.zero_le _⟩ (ct_X10_isSet set I1 J2 ) (fun r5 S5 Ic9 Jc10 q5_7 => ?_)
  obtain ⟨rfl, rfl, rfl, r13, rfl, hz5, hf5_11, hr5_13⟩ := q5_7
  replace hF := fe_b3 hF hf5_11
  refine g_st (st' := [.int r13]) rfl ?_
  refine g_if_eq d_X10_year_8 (fun h8 => ?_) (fun h8 => ?_)
  · skip
    replace hF := fe_pos hF h8
    refine g_ldcw (v := -1000000001) d_X10_year_19 tw_1296 ?_
    exact g_ireturn d_X10_year_22 rfl rfl rfl rfl ⟨rfl, trivial, (-1000000001 : Int32), rfl, hF, hK7⟩
  · skip
    replace hF := fe_neg hF h8
    refine g_aload_n d_X10_year_11 rfl ?_
    refine g_iload_n d_X10_year_12 rfl ?_
    refine g_V1 d_X10_year_13 cs_X10_year_X10_yearOf lk_RX10_371 im_X10_yearOf se_X10_yearOf rfl rfl rfl (Nat.le_of_ble_eq_true rfl) ⟨rfl, rfl⟩ ⟨Nat.zero_le _, Nat.zero_le _⟩ (ct_X10_yearOf set I1 J2 (hK7).1.2 (hK7).2.2) (fun r13 S13 I15 J16 q13_16 => ?_)
    obtain ⟨rfl, hc13_17, r20, rfl, hf13_18⟩ := q13_16
    replace hF := fe_b3 hF hf13_18
    refine g_st (st' := [.int r20]) rfl ?_
    have hK22 : (MI (bgI I) I15 ∧ MK (bgJ I J) J16) := ⟨mi_tr (hK7).1 hc13_17.1, mk_tr (hK7).2 hc13_17.2⟩
    refine g_goto d_X10_year_16 ?_
    exact g_ireturn d_X10_year_22 rfl rfl rfl rfl ⟨rfl, trivial, r20, rfl, hF, hK22⟩
noncomputable def fn_X10_saves (set : Int32) (part : Int32) (I : Iv) (J : Jv) : Int32 × Iv × Jv :=
  b_n2 (fn_X10_begin I J) (fun (I1 : Iv) (J2 : Jv) => b_n3 (fn_X10_isSet set I1 J2) (fun (r13 : Int32) (_ : Iv) (_ : Jv) => if r13 = 0 then ((-1000000001 : Int32), I1, J2) else b_n3 (fn_X10_isSet part I1 J2) (fun (r20 : Int32) (_ : Iv) (_ : Jv) => if r20 = 0 then ((-1000000001 : Int32), I1, J2) else if (part &&& (set ^^^ (-1 : Int32))) = 0 then b_n3 (fn_X10_yearOf set I1 J2) (fun (r27 : Int32) (I22 : Iv) (J23 : Jv) => b_n3 (fn_X10_yearOf (set &&& (part ^^^ (-1 : Int32))) I22 J23) (fun (r35 : Int32) (I30 : Iv) (J31 : Jv) => ((r27 - r35), I30, J31))) else ((-1000000003 : Int32), I1, J2))))
set_option maxRecDepth 100000 in
set_option maxHeartbeats 4000000 in
theorem ct_X10_saves (set : Int32) (part : Int32) (I : Iv) (J : Jv) (hma : MA I) (hmj : MJ J) : Ct m_X10_saves [.ref 78, .int set, .int part] SHF I J (fun r S' I' J' => S' = SHF ∧ True ∧ ∃ v : Int32, r = some (.int v) ∧ fn_X10_saves set part I J = (v, I', J') ∧ (MI (bgI I) I' ∧ MK (bgJ I J) J')) := by
  refine ct_of 0 (by decide +kernel) rfl rfl ?_
  have hK0 : (MI I I ∧ MK J J) := ⟨mi_rfl hma, mk_rfl hmj⟩
  have hF := fe_of (fn_X10_saves.eq_1 set part I J)
  refine g_aload_n d_X10_saves_0 rfl ?_
  refine g_V0 d_X10_saves_1 cs_X10_saves_X10_begin lk_RX10_166 im_X10_begin se_X10_begin rfl rfl rfl (Nat.le_of_ble_eq_true rfl) ⟨rfl, rfl⟩ ⟨Nat.zero_le _, Nat.zero_le _⟩ (ct_X10_begin  I J hma hmj) (fun r1 S1 I1 J2 q1_2 => ?_)
  obtain ⟨rfl, hc1_3, rfl, hf1_4, hr1_5⟩ := q1_2
  replace hF := fe_b2 hF hf1_4
  refine g_st (st' := []) rfl ?_
  have hK7 : (MI (bgI I) I1 ∧ MK (bgJ I J) J2) := hr1_5
  refine g_iload_n d_X10_saves_4 rfl ?_
  refine g_S1 d_X10_saves_5 cs_X10_saves_X10_isSet lk_RX10_259 im_X10_isSet (Nat.le_of_ble_eq_true rfl) ⟨rfl, rfl⟩ ⟨Nat.zero_le _, Nat.zero_le _⟩ (ct_X10_isSet set I1 J2 ) (fun r5 S5 Ic9 Jc10 q5_7 => ?_)
  obtain ⟨rfl, rfl, rfl, r13, rfl, hz5, hf5_11, hr5_13⟩ := q5_7
  replace hF := fe_b3 hF hf5_11
  refine g_st (st' := [.int r13]) rfl ?_
  refine g_if_eq d_X10_saves_8 (fun h8 => ?_) (fun h8 => ?_)
  · skip
    replace hF := fe_pos hF h8
    refine g_ldcw (v := -1000000001) d_X10_saves_18 tw_1296 ?_
    exact g_ireturn d_X10_saves_21 rfl rfl rfl rfl ⟨rfl, trivial, (-1000000001 : Int32), rfl, hF, hK7⟩
  · skip
    replace hF := fe_neg hF h8
    refine g_iload_n d_X10_saves_11 rfl ?_
    refine g_S1 d_X10_saves_12 cs_X10_saves_X10_isSet lk_RX10_259 im_X10_isSet (Nat.le_of_ble_eq_true rfl) ⟨rfl, rfl⟩ ⟨Nat.zero_le _, Nat.zero_le _⟩ (ct_X10_isSet part I1 J2 ) (fun r12 S12 Ic16 Jc17 q12_14 => ?_)
    obtain ⟨rfl, rfl, rfl, r20, rfl, hz12, hf12_18, hr12_20⟩ := q12_14
    replace hF := fe_b3 hF hf12_18
    refine g_st (st' := [.int r20]) rfl ?_
    refine g_if_ne d_X10_saves_15 (fun h15 => ?_) (fun h15 => ?_)
    · skip
      replace hF := fe_neg hF h15
      refine g_iload_n d_X10_saves_22 rfl ?_
      refine g_iload_n d_X10_saves_23 rfl ?_
      refine g_iconst (v := -1) d_X10_saves_24 kI_m1 ?_
      refine g_ixor d_X10_saves_25 ?_
      refine g_iand d_X10_saves_26 ?_
      refine g_if_eq d_X10_saves_27 (fun h27 => ?_) (fun h27 => ?_)
      · skip
        replace hF := fe_pos hF h27
        refine g_aload_n d_X10_saves_36 rfl ?_
        refine g_iload_n d_X10_saves_37 rfl ?_
        refine g_V1 d_X10_saves_38 cs_X10_saves_X10_yearOf lk_RX10_371 im_X10_yearOf se_X10_yearOf rfl rfl rfl (Nat.le_of_ble_eq_true rfl) ⟨rfl, rfl⟩ ⟨Nat.zero_le _, Nat.zero_le _⟩ (ct_X10_yearOf set I1 J2 (hK7).1.2 (hK7).2.2) (fun r38 S38 I22 J23 q38_23 => ?_)
        obtain ⟨rfl, hc38_24, r27, rfl, hf38_25⟩ := q38_23
        replace hF := fe_b3 hF hf38_25
        refine g_st (st' := [.int r27]) rfl ?_
        have hK29 : (MI (bgI I) I22 ∧ MK (bgJ I J) J23) := ⟨mi_tr (hK7).1 hc38_24.1, mk_tr (hK7).2 hc38_24.2⟩
        refine g_aload_n d_X10_saves_41 rfl ?_
        refine g_iload_n d_X10_saves_42 rfl ?_
        refine g_iload_n d_X10_saves_43 rfl ?_
        refine g_iconst (v := -1) d_X10_saves_44 kI_m1 ?_
        refine g_ixor d_X10_saves_45 ?_
        refine g_iand d_X10_saves_46 ?_
        refine g_V1 d_X10_saves_47 cs_X10_saves_X10_yearOf lk_RX10_371 im_X10_yearOf se_X10_yearOf rfl rfl rfl (Nat.le_of_ble_eq_true rfl) ⟨rfl, rfl⟩ ⟨Nat.zero_le _, Nat.zero_le _⟩ (ct_X10_yearOf (set &&& (part ^^^ (-1 : Int32))) I22 J23 (hK29).1.2 (hK29).2.2) (fun r47 S47 I30 J31 q47_31 => ?_)
        obtain ⟨rfl, hc47_32, r35, rfl, hf47_33⟩ := q47_31
        replace hF := fe_b3 hF hf47_33
        refine g_st (st' := [.int r35, .int r27]) rfl ?_
        have hK37 : (MI (bgI I) I30 ∧ MK (bgJ I J) J31) := ⟨mi_tr (hK29).1 hc47_32.1, mk_tr (hK29).2 hc47_32.2⟩
        refine g_isub d_X10_saves_50 ?_
        exact g_ireturn d_X10_saves_51 rfl rfl rfl rfl ⟨rfl, trivial, (r27 - r35), rfl, hF, hK37⟩
      · skip
        replace hF := fe_neg hF h27
        refine g_ldcw (v := -1000000003) d_X10_saves_30 tw_1560 ?_
        refine g_goto d_X10_saves_33 ?_
        exact g_ireturn d_X10_saves_51 rfl rfl rfl rfl ⟨rfl, trivial, (-1000000003 : Int32), rfl, hF, hK7⟩
    · skip
      replace hF := fe_pos hF h15
      refine g_ldcw (v := -1000000001) d_X10_saves_18 tw_1296 ?_
      exact g_ireturn d_X10_saves_21 rfl rfl rfl rfl ⟨rfl, trivial, (-1000000001 : Int32), rfl, hF, hK7⟩
noncomputable def fl_X10_best_75_1 (x40 : Int32) (I41 : Iv) (J42 : Jv) (Kf1 : Int32 → Int32 → Int32 × Iv × Jv) : Nat → Int32 → Int32 → Int32 × Iv × Jv
  | 0, x45, x46 => (0, I41, J42)
  | kf1 + 1, x45, x46 => if (7 : Int32) ≤ x46 then Kf1 x45 x46 else b_n3 (fn_X10_has (Int32.toInt64 x40) x46 I41 J42) (fun (r62 : Int32) (_ : Iv) (_ : Jv) => if r62 = 0 then l_t ((x45 + (0 : Int32))) (fun (v64 : Int32) => fl_X10_best_75_1 x40 I41 J42 Kf1 kf1 v64 (x46 + (1 : Int32))) else l_t ((x45 + (I41 98 x46.toNatClampNeg))) (fun (v65 : Int32) => fl_X10_best_75_1 x40 I41 J42 Kf1 kf1 v65 (x46 + (1 : Int32))))
noncomputable def fl_X10_best_61_0 (set : Int32) (c : Int32) (r34 : Int32) (Kf0 : Int32 → Int32 → Int32 → Int32 → Iv → Jv → Int32 × Iv × Jv) : Nat → Int32 → Int32 → Int32 → Int32 → Iv → Jv → Int32 × Iv × Jv
  | 0, x37, x38, x39, x40, I41, J42 => (0, I41, J42)
  | kf0 + 1, x37, x38, x39, x40, I41, J42 => if (128 : Int32) ≤ x40 then Kf0 x37 x38 x39 x40 I41 J42 else fl_X10_best_75_1 x40 I41 J42 (fun (x45 : Int32) (x46 : Int32) => if (x40 &&& (set ^^^ (-1 : Int32))) = 0 then if c < x45 then fl_X10_best_61_0 set c r34 Kf0 kf0 x37 x38 x39 (x40 + (1 : Int32)) I41 J42 else b_n3 (fn_X10_yearOf (set &&& (x40 ^^^ (-1 : Int32))) I41 J42) (fun (r53 : Int32) (I48 : Iv) (J49 : Jv) => l_t ((r34 - r53)) (fun (v56 : Int32) => j_n (fl_X10_best_61_0 set c r34 Kf0 kf0 x40 v56 x45 (x40 + (1 : Int32)) I48 J49) (fun (j166_2 : Int32 × Iv × Jv) => if x38 < v56 then j166_2 else if v56 = x38 then if x39 ≤ x45 then fl_X10_best_61_0 set c r34 Kf0 kf0 x37 x38 x39 (x40 + (1 : Int32)) I48 J49 else j166_2 else fl_X10_best_61_0 set c r34 Kf0 kf0 x37 x38 x39 (x40 + (1 : Int32)) I48 J49))) else fl_X10_best_61_0 set c r34 Kf0 kf0 x37 x38 x39 (x40 + (1 : Int32)) I41 J42) (mU (7 : Int32) ((0 : Int32)) + 1) (0 : Int32) (0 : Int32)
noncomputable def fn_X10_best (set : Int32) (c : Int32) (what : Int32) (I : Iv) (J : Jv) : Int32 × Iv × Jv :=
  b_n2 (fn_X10_begin I J) (fun (I1 : Iv) (J2 : Jv) => b_n3 (fn_X10_isSet set I1 J2) (fun (r13 : Int32) (_ : Iv) (_ : Jv) => if r13 = 0 then ((-1000000001 : Int32), I1, J2) else b_n3 (fn_X10_in (Int32.toInt64 c) (0 : Int64) (9999 : Int64) I1 J2) (fun (r20 : Int32) (_ : Iv) (_ : Jv) => if r20 = 0 then ((-1000000002 : Int32), I1, J2) else b_n3 (fn_X10_in (Int32.toInt64 what) (0 : Int64) (2 : Int64) I1 J2) (fun (r27 : Int32) (_ : Iv) (_ : Jv) => if r27 = 0 then ((-1000000002 : Int32), I1, J2) else b_n3 (fn_X10_yearOf set I1 J2) (fun (r34 : Int32) (I29 : Iv) (J30 : Jv) => fl_X10_best_61_0 set c r34 (fun (x37 : Int32) (x38 : Int32) (x39 : Int32) (x40 : Int32) (I41 : Iv) (J42 : Jv) => if what = 0 then (x37, I41, J42) else if what = (1 : Int32) then (x38, I41, J42) else (x39, I41, J42)) (mU (128 : Int32) ((1 : Int32)) + 1) (0 : Int32) (0 : Int32) (0 : Int32) (1 : Int32) I29 J30)))))
set_option maxRecDepth 100000 in
set_option maxHeartbeats 4000000 in
theorem ct_X10_best (set : Int32) (c : Int32) (what : Int32) (I : Iv) (J : Jv) (hma : MA I) (hmj : MJ J) : Ct m_X10_best [.ref 78, .int set, .int c, .int what] SHF I J (fun r S' I' J' => S' = SHF ∧ True ∧ ∃ v : Int32, r = some (.int v) ∧ fn_X10_best set c what I J = (v, I', J') ∧ (MI (bgI I) I' ∧ MK (bgJ I J) J')) := by
  refine ct_of 7 (by decide +kernel) rfl rfl ?_
  have hK0 : (MI I I ∧ MK J J) := ⟨mi_rfl hma, mk_rfl hmj⟩
  have hF := fe_of (fn_X10_best.eq_1 set c what I J)
  refine g_aload_n d_X10_best_0 rfl ?_
  refine g_V0 d_X10_best_1 cs_X10_best_X10_begin lk_RX10_166 im_X10_begin se_X10_begin rfl rfl rfl (Nat.le_of_ble_eq_true rfl) ⟨rfl, rfl⟩ ⟨Nat.zero_le _, Nat.zero_le _⟩ (ct_X10_begin  I J hma hmj) (fun r1 S1 I1 J2 q1_2 => ?_)
  obtain ⟨rfl, hc1_3, rfl, hf1_4, hr1_5⟩ := q1_2
  replace hF := fe_b2 hF hf1_4
  refine g_st (st' := []) rfl ?_
  have hK7 : (MI (bgI I) I1 ∧ MK (bgJ I J) J2) := hr1_5
  refine g_iload_n d_X10_best_4 rfl ?_
  refine g_S1 d_X10_best_5 cs_X10_best_X10_isSet lk_RX10_259 im_X10_isSet (Nat.le_of_ble_eq_true rfl) ⟨rfl, rfl⟩ ⟨Nat.zero_le _, Nat.zero_le _⟩ (ct_X10_isSet set I1 J2 ) (fun r5 S5 Ic9 Jc10 q5_7 => ?_)
  obtain ⟨rfl, rfl, rfl, r13, rfl, hz5, hf5_11, hr5_13⟩ := q5_7
  replace hF := fe_b3 hF hf5_11
  refine g_st (st' := [.int r13]) rfl ?_
  refine g_if_ne d_X10_best_8 (fun h8 => ?_) (fun h8 => ?_)
  · skip
    replace hF := fe_neg hF h8
    refine g_iload_n d_X10_best_15 rfl ?_
    refine g_i2l d_X10_best_16 ?_
    refine g_lconst d_X10_best_17 kL_0 ?_
    refine g_ldc2 (v := 9999) d_X10_best_18 tw_1404 ?_
    refine g_S3 d_X10_best_21 cs_X10_best_X10_in lk_RX10_96 im_X10_in (Nat.le_of_ble_eq_true rfl) ⟨rfl, rfl⟩ ⟨Nat.zero_le _, Nat.zero_le _⟩ (ct_X10_inL c (0 : Int64) (9999 : Int64) (0 : Int32) (9999 : Int32) (by decide) (by decide) I1 J2) (fun r21 S21 Ic16 Jc17 q21_14 => ?_)
    obtain ⟨rfl, rfl, rfl, r20, rfl, hz21, hf21_18, hr21_20⟩ := q21_14
    replace hF := fe_b3 hF hf21_18
    refine g_st (st' := [.int r20]) rfl ?_
    refine g_if_eq d_X10_best_24 (fun h24 => ?_) (fun h24 => ?_)
    · skip
      replace hF := fe_pos hF h24
      refine g_ldc (v := -1000000002) d_X10_best_39 tw_1199 ?_
      exact g_ireturn d_X10_best_41 rfl rfl rfl rfl ⟨rfl, trivial, (-1000000002 : Int32), rfl, hF, hK7⟩
    · skip
      replace hF := fe_neg hF h24
      refine g_iload_n d_X10_best_27 rfl ?_
      refine g_i2l d_X10_best_28 ?_
      refine g_lconst d_X10_best_29 kL_0 ?_
      refine g_ldc2 (v := 2) d_X10_best_30 tw_1319 ?_
      refine g_S3 d_X10_best_33 cs_X10_best_X10_in lk_RX10_96 im_X10_in (Nat.le_of_ble_eq_true rfl) ⟨rfl, rfl⟩ ⟨Nat.zero_le _, Nat.zero_le _⟩ (ct_X10_inL what (0 : Int64) (2 : Int64) (0 : Int32) (2 : Int32) (by decide) (by decide) I1 J2) (fun r33 S33 Ic23 Jc24 q33_21 => ?_)
      obtain ⟨rfl, rfl, rfl, r27, rfl, hz33, hf33_25, hr33_27⟩ := q33_21
      replace hF := fe_b3 hF hf33_25
      refine g_st (st' := [.int r27]) rfl ?_
      refine g_if_ne d_X10_best_36 (fun h36 => ?_) (fun h36 => ?_)
      · skip
        replace hF := fe_neg hF h36
        refine g_aload_n d_X10_best_42 rfl ?_
        refine g_iload_n d_X10_best_43 rfl ?_
        refine g_V1 d_X10_best_44 cs_X10_best_X10_yearOf lk_RX10_371 im_X10_yearOf se_X10_yearOf rfl rfl rfl (Nat.le_of_ble_eq_true rfl) ⟨rfl, rfl⟩ ⟨Nat.zero_le _, Nat.zero_le _⟩ (ct_X10_yearOf set I1 J2 (hK7).1.2 (hK7).2.2) (fun r44 S44 I29 J30 q44_30 => ?_)
        obtain ⟨rfl, hc44_31, r34, rfl, hf44_32⟩ := q44_30
        replace hF := fe_b3 hF hf44_32
        refine g_st (st' := [.int r34]) rfl ?_
        have hK36 : (MI (bgI I) I29 ∧ MK (bgJ I J) J30) := ⟨mi_tr (hK7).1 hc44_31.1, mk_tr (hK7).2 hc44_31.2⟩
        refine g_istore (L' := [some (.ref 78), some (.int set), some (.int c), some (.int what), some (.int r34), none, none, none, none, none, none]) d_X10_best_47 (by decide) rfl ?_
        refine g_iconst (v := 0) d_X10_best_49 kI_0 ?_
        refine g_istore (L' := [some (.ref 78), some (.int set), some (.int c), some (.int what), some (.int r34), some (.int (0 : Int32)), none, none, none, none, none]) d_X10_best_50 (by decide) rfl ?_
        refine g_iconst (v := 0) d_X10_best_52 kI_0 ?_
        refine g_istore (L' := [some (.ref 78), some (.int set), some (.int c), some (.int what), some (.int r34), some (.int (0 : Int32)), some (.int (0 : Int32)), none, none, none, none]) d_X10_best_53 (by decide) rfl ?_
        refine g_iconst (v := 0) d_X10_best_55 kI_0 ?_
        refine g_istore (L' := [some (.ref 78), some (.int set), some (.int c), some (.int what), some (.int r34), some (.int (0 : Int32)), some (.int (0 : Int32)), some (.int (0 : Int32)), none, none, none]) d_X10_best_56 (by decide) rfl ?_
        refine g_iconst (v := 1) d_X10_best_58 kI_1 ?_
        refine g_istore (L' := [some (.ref 78), some (.int set), some (.int c), some (.int what), some (.int r34), some (.int (0 : Int32)), some (.int (0 : Int32)), some (.int (0 : Int32)), some (.int (1 : Int32)), none, none]) d_X10_best_59 (by decide) rfl ?_
        obtain ⟨Kf0, hKf0, hF⟩ := fe_kx (f := fun K => fl_X10_best_61_0 set c r34 K (mU (128 : Int32) ((1 : Int32)) + 1) (0 : Int32) (0 : Int32) (0 : Int32) (1 : Int32) I29 J30) hF
        have K_61 : ∀ (nu : Nat) (x37 : Int32) (x38 : Int32) (x39 : Int32) (x40 : Int32) (I41 : Iv) (J42 : Jv), mU (128 : Int32) x40 = nu → ((MI (bgI I) I41 ∧ MK (bgJ I J) J42)) → ((1 : Int32) ≤ x40) → (∃ kq : Nat, nu < kq ∧ (fun kq => FE (fn_X10_best set c what I J) (fun _ => fl_X10_best_61_0 set c r34 Kf0 kq x37 x38 x39 x40 I41 J42)) kq) → G m_X10_best (rq m_X10_best (fun r S' I' J' => S' = SHF ∧ True ∧ ∃ v : Int32, r = some (.int v) ∧ fn_X10_best set c what I J = (v, I', J') ∧ (MI (bgI I) I' ∧ MK (bgJ I J) J'))) 0 0 61 [some (.ref 78), some (.int set), some (.int c), some (.int what), some (.int r34), some (.int x37), some (.int x38), some (.int x39), some (.int x40), none, none] [] SHF I41 J42 := by
          intro nu
          induction nu using Nat.strongRecOn with
          | ind nu ih_61 =>
            intro x37 x38 x39 x40 I41 J42 hmu_61 hK43 hl44 hF_Kf0
            obtain ⟨kf0, hkf0, hF⟩ := fe_fu (P := fun kq => FE (fn_X10_best set c what I J) (fun _ => fl_X10_best_61_0 set c r34 Kf0 kq x37 x38 x39 x40 I41 J42)) hF_Kf0
            replace hF := fe_eq hF (fl_X10_best_61_0.eq_2 _ _ _ _ _ _ _ _ _ _ _)
            refine g_iload d_X10_best_61 rfl ?_
            refine g_sipush (v := 128) d_X10_best_63 kS_128 ?_
            refine g_icmp_ge d_X10_best_66 (fun h66 => ?_) (fun h66 => ?_)
            · skip
              replace hF := fe_pos hF h66
              replace hF := fe_eq hF (congrFun (congrFun (congrFun (congrFun (congrFun (congrFun hKf0 x37) x38) x39) x40) I41) J42)
              refine g_iload_n d_X10_best_184 rfl ?_
              refine g_if_ne d_X10_best_185 (fun h185 => ?_) (fun h185 => ?_)
              · skip
                replace hF := fe_neg hF h185
                refine g_iload_n d_X10_best_193 rfl ?_
                refine g_iconst (v := 1) d_X10_best_194 kI_1 ?_
                refine g_icmp_ne d_X10_best_195 (fun h195 => ?_) (fun h195 => ?_)
                · skip
                  replace hF := fe_neg hF h195
                  refine g_iload d_X10_best_203 rfl ?_
                  exact g_ireturn d_X10_best_205 rfl rfl rfl rfl ⟨rfl, trivial, x39, rfl, hF, hK43⟩
                · skip
                  replace hF := fe_pos hF h195
                  refine g_iload d_X10_best_198 rfl ?_
                  refine g_goto d_X10_best_200 ?_
                  exact g_ireturn d_X10_best_205 rfl rfl rfl rfl ⟨rfl, trivial, x38, rfl, hF, hK43⟩
              · skip
                replace hF := fe_pos hF h185
                refine g_iload d_X10_best_188 rfl ?_
                refine g_goto d_X10_best_190 ?_
                exact g_ireturn d_X10_best_205 rfl rfl rfl rfl ⟨rfl, trivial, x37, rfl, hF, hK43⟩
            · skip
              replace hF := fe_neg hF h66
              refine g_iconst (v := 0) d_X10_best_69 kI_0 ?_
              refine g_istore (L' := [some (.ref 78), some (.int set), some (.int c), some (.int what), some (.int r34), some (.int x37), some (.int x38), some (.int x39), some (.int x40), some (.int (0 : Int32)), none]) d_X10_best_70 (by decide) rfl ?_
              refine g_iconst (v := 0) d_X10_best_72 kI_0 ?_
              refine g_istore (L' := [some (.ref 78), some (.int set), some (.int c), some (.int what), some (.int r34), some (.int x37), some (.int x38), some (.int x39), some (.int x40), some (.int (0 : Int32)), some (.int (0 : Int32))]) d_X10_best_73 (by decide) rfl ?_
              obtain ⟨Kf1, hKf1, hF⟩ := fe_kx (f := fun K => fl_X10_best_75_1 x40 I41 J42 K (mU (7 : Int32) ((0 : Int32)) + 1) (0 : Int32) (0 : Int32)) hF
              have K_75 : ∀ (nu : Nat) (x45 : Int32) (x46 : Int32), mU (7 : Int32) x46 = nu → ((0 : Int32) ≤ x46) → (∃ kq : Nat, nu < kq ∧ (fun kq => FE (fn_X10_best set c what I J) (fun _ => fl_X10_best_75_1 x40 I41 J42 Kf1 kq x45 x46)) kq) → G m_X10_best (rq m_X10_best (fun r S' I' J' => S' = SHF ∧ True ∧ ∃ v : Int32, r = some (.int v) ∧ fn_X10_best set c what I J = (v, I', J') ∧ (MI (bgI I) I' ∧ MK (bgJ I J) J'))) 0 0 75 [some (.ref 78), some (.int set), some (.int c), some (.int what), some (.int r34), some (.int x37), some (.int x38), some (.int x39), some (.int x40), some (.int x45), some (.int x46)] [] SHF I41 J42 := by
                intro nu
                induction nu using Nat.strongRecOn with
                | ind nu ih_75 =>
                  intro x45 x46 hmu_75 hl47 hF_Kf1
                  obtain ⟨kf1, hkf1, hF⟩ := fe_fu (P := fun kq => FE (fn_X10_best set c what I J) (fun _ => fl_X10_best_75_1 x40 I41 J42 Kf1 kq x45 x46)) hF_Kf1
                  replace hF := fe_eq hF (fl_X10_best_75_1.eq_2 _ _ _ _ _ _ _)
                  refine g_iload d_X10_best_75 rfl ?_
                  refine g_bipush (v := 7) d_X10_best_77 kB_7 ?_
                  refine g_icmp_ge d_X10_best_79 (fun h79 => ?_) (fun h79 => ?_)
                  · skip
                    replace hF := fe_pos hF h79
                    replace hF := fe_eq hF (congrFun (congrFun hKf1 x45) x46)
                    refine g_iload d_X10_best_115 rfl ?_
                    refine g_iload_n d_X10_best_117 rfl ?_
                    refine g_iconst (v := -1) d_X10_best_118 kI_m1 ?_
                    refine g_ixor d_X10_best_119 ?_
                    refine g_iand d_X10_best_120 ?_
                    refine g_if_ne d_X10_best_121 (fun h121 => ?_) (fun h121 => ?_)
                    · skip
                      replace hF := fe_neg hF h121
                      refine g_iinc (v := (x40 + (1 : Int32))) (L' := [some (.ref 78), some (.int set), some (.int c), some (.int what), some (.int r34), some (.int x37), some (.int x38), some (.int x39), some (.int (x40 + (1 : Int32))), some (.int x45), some (.int x46)]) d_X10_best_178 rfl (by rw [kI_1]) (by decide) rfl ?_
                      refine g_goto d_X10_best_181 ?_
                      refine g_sb [some (.ref 78), some (.int set), some (.int c), some (.int what), some (.int r34), some (.int x37), some (.int x38), some (.int x39), some (.int (x40 + (1 : Int32))), none, none] (by simp [subL]) ?_
                      exact ih_61 _ (by rw [← hmu_61]; exact mu_up h66) x37 x38 x39 (x40 + (1 : Int32)) I41 J42 rfl hK43 (lo_up hl44 h66) ⟨kf0, Nat.lt_of_lt_of_le (by rw [← hmu_61]; exact mu_up h66) hkf0, hF⟩
                    · skip
                      replace hF := fe_pos hF h121
                      refine g_iload d_X10_best_124 rfl ?_
                      refine g_iload_n d_X10_best_126 rfl ?_
                      refine g_icmp_gt d_X10_best_127 (fun h127 => ?_) (fun h127 => ?_)
                      · skip
                        replace hF := fe_pos hF h127
                        refine g_iinc (v := (x40 + (1 : Int32))) (L' := [some (.ref 78), some (.int set), some (.int c), some (.int what), some (.int r34), some (.int x37), some (.int x38), some (.int x39), some (.int (x40 + (1 : Int32))), some (.int x45), some (.int x46)]) d_X10_best_178 rfl (by rw [kI_1]) (by decide) rfl ?_
                        refine g_goto d_X10_best_181 ?_
                        refine g_sb [some (.ref 78), some (.int set), some (.int c), some (.int what), some (.int r34), some (.int x37), some (.int x38), some (.int x39), some (.int (x40 + (1 : Int32))), none, none] (by simp [subL]) ?_
                        exact ih_61 _ (by rw [← hmu_61]; exact mu_up h66) x37 x38 x39 (x40 + (1 : Int32)) I41 J42 rfl hK43 (lo_up hl44 h66) ⟨kf0, Nat.lt_of_lt_of_le (by rw [← hmu_61]; exact mu_up h66) hkf0, hF⟩
                      · skip
                        replace hF := fe_neg hF h127
                        refine g_iload d_X10_best_130 rfl ?_
                        refine g_aload_n d_X10_best_132 rfl ?_
                        refine g_iload_n d_X10_best_133 rfl ?_
                        refine g_iload d_X10_best_134 rfl ?_
                        refine g_iconst (v := -1) d_X10_best_136 kI_m1 ?_
                        refine g_ixor d_X10_best_137 ?_
                        refine g_iand d_X10_best_138 ?_
                        refine g_V1 d_X10_best_139 cs_X10_best_X10_yearOf lk_RX10_371 im_X10_yearOf se_X10_yearOf rfl rfl rfl (Nat.le_of_ble_eq_true rfl) ⟨rfl, rfl⟩ ⟨Nat.zero_le _, Nat.zero_le _⟩ (ct_X10_yearOf (set &&& (x40 ^^^ (-1 : Int32))) I41 J42 (hK43).1.2 (hK43).2.2) (fun r139 S139 I48 J49 q139_49 => ?_)
                        obtain ⟨rfl, hc139_50, r53, rfl, hf139_51⟩ := q139_49
                        replace hF := fe_b3 hF hf139_51
                        refine g_st (st' := [.int r53, .int r34]) rfl ?_
                        have hK55 : (MI (bgI I) I48 ∧ MK (bgJ I J) J49) := ⟨mi_tr (hK43).1 hc139_50.1, mk_tr (hK43).2 hc139_50.2⟩
                        refine g_isub d_X10_best_142 ?_
                        refine g_topI (fun v56 ev56 => ?_)
                        replace hF := fe_lt hF ev56
                        refine g_istore (L' := [some (.ref 78), some (.int set), some (.int c), some (.int what), some (.int r34), some (.int x37), some (.int x38), some (.int x39), some (.int x40), some (.int x45), some (.int v56)]) d_X10_best_143 (by decide) rfl ?_
                        refine g_iload d_X10_best_145 rfl ?_
                        refine g_iload d_X10_best_147 rfl ?_
                        obtain ⟨j166_2, hj166_2, hF⟩ := fe_jx hF
                        have J_166 : (FE (fn_X10_best set c what I J) (fun _ => j166_2)) → G m_X10_best (rq m_X10_best (fun r S' I' J' => S' = SHF ∧ True ∧ ∃ v : Int32, r = some (.int v) ∧ fn_X10_best set c what I J = (v, I', J') ∧ (MI (bgI I) I' ∧ MK (bgJ I J) J'))) 0 0 166 [some (.ref 78), some (.int set), some (.int c), some (.int what), some (.int r34), some (.int x37), some (.int x38), some (.int x39), some (.int x40), some (.int x45), some (.int v56)] [] SHF I48 J49 := by
                          intro hF_j166_2
                          have hF := fe_eq hF_j166_2 hj166_2
                          refine g_iload d_X10_best_166 rfl ?_
                          refine g_istore (L' := [some (.ref 78), some (.int set), some (.int c), some (.int what), some (.int r34), some (.int x40), some (.int x38), some (.int x39), some (.int x40), some (.int x45), some (.int v56)]) d_X10_best_168 (by decide) rfl ?_
                          refine g_iload d_X10_best_170 rfl ?_
                          refine g_istore (L' := [some (.ref 78), some (.int set), some (.int c), some (.int what), some (.int r34), some (.int x40), some (.int v56), some (.int x39), some (.int x40), some (.int x45), some (.int v56)]) d_X10_best_172 (by decide) rfl ?_
                          refine g_iload d_X10_best_174 rfl ?_
                          refine g_istore (L' := [some (.ref 78), some (.int set), some (.int c), some (.int what), some (.int r34), some (.int x40), some (.int v56), some (.int x45), some (.int x40), some (.int x45), some (.int v56)]) d_X10_best_176 (by decide) rfl ?_
                          refine g_iinc (v := (x40 + (1 : Int32))) (L' := [some (.ref 78), some (.int set), some (.int c), some (.int what), some (.int r34), some (.int x40), some (.int v56), some (.int x45), some (.int (x40 + (1 : Int32))), some (.int x45), some (.int v56)]) d_X10_best_178 rfl (by rw [kI_1]) (by decide) rfl ?_
                          refine g_goto d_X10_best_181 ?_
                          refine g_sb [some (.ref 78), some (.int set), some (.int c), some (.int what), some (.int r34), some (.int x40), some (.int v56), some (.int x45), some (.int (x40 + (1 : Int32))), none, none] (by simp [subL]) ?_
                          exact ih_61 _ (by rw [← hmu_61]; exact mu_up h66) x40 v56 x45 (x40 + (1 : Int32)) I48 J49 rfl hK55 (lo_up hl44 h66) ⟨kf0, Nat.lt_of_lt_of_le (by rw [← hmu_61]; exact mu_up h66) hkf0, hF⟩
                        refine g_icmp_gt d_X10_best_149 (fun h149 => ?_) (fun h149 => ?_)
                        · skip
                          replace hF := fe_pos hF h149
                          exact J_166 hF
                        · skip
                          replace hF := fe_neg hF h149
                          refine g_iload d_X10_best_152 rfl ?_
                          refine g_iload d_X10_best_154 rfl ?_
                          refine g_icmp_ne d_X10_best_156 (fun h156 => ?_) (fun h156 => ?_)
                          · skip
                            replace hF := fe_neg hF h156
                            refine g_iinc (v := (x40 + (1 : Int32))) (L' := [some (.ref 78), some (.int set), some (.int c), some (.int what), some (.int r34), some (.int x37), some (.int x38), some (.int x39), some (.int (x40 + (1 : Int32))), some (.int x45), some (.int v56)]) d_X10_best_178 rfl (by rw [kI_1]) (by decide) rfl ?_
                            refine g_goto d_X10_best_181 ?_
                            refine g_sb [some (.ref 78), some (.int set), some (.int c), some (.int what), some (.int r34), some (.int x37), some (.int x38), some (.int x39), some (.int (x40 + (1 : Int32))), none, none] (by simp [subL]) ?_
                            exact ih_61 _ (by rw [← hmu_61]; exact mu_up h66) x37 x38 x39 (x40 + (1 : Int32)) I48 J49 rfl hK55 (lo_up hl44 h66) ⟨kf0, Nat.lt_of_lt_of_le (by rw [← hmu_61]; exact mu_up h66) hkf0, hF⟩
                          · skip
                            replace hF := fe_pos hF h156
                            refine g_iload d_X10_best_159 rfl ?_
                            refine g_iload d_X10_best_161 rfl ?_
                            refine g_icmp_ge d_X10_best_163 (fun h163 => ?_) (fun h163 => ?_)
                            · skip
                              replace hF := fe_pos hF h163
                              refine g_iinc (v := (x40 + (1 : Int32))) (L' := [some (.ref 78), some (.int set), some (.int c), some (.int what), some (.int r34), some (.int x37), some (.int x38), some (.int x39), some (.int (x40 + (1 : Int32))), some (.int x45), some (.int v56)]) d_X10_best_178 rfl (by rw [kI_1]) (by decide) rfl ?_
                              refine g_goto d_X10_best_181 ?_
                              refine g_sb [some (.ref 78), some (.int set), some (.int c), some (.int what), some (.int r34), some (.int x37), some (.int x38), some (.int x39), some (.int (x40 + (1 : Int32))), none, none] (by simp [subL]) ?_
                              exact ih_61 _ (by rw [← hmu_61]; exact mu_up h66) x37 x38 x39 (x40 + (1 : Int32)) I48 J49 rfl hK55 (lo_up hl44 h66) ⟨kf0, Nat.lt_of_lt_of_le (by rw [← hmu_61]; exact mu_up h66) hkf0, hF⟩
                            · skip
                              replace hF := fe_neg hF h163
                              exact J_166 hF
                  · skip
                    replace hF := fe_neg hF h79
                    refine g_iload d_X10_best_82 rfl ?_
                    refine g_iload d_X10_best_84 rfl ?_
                    refine g_i2l d_X10_best_86 ?_
                    refine g_iload d_X10_best_87 rfl ?_
                    refine g_S2 d_X10_best_89 cs_X10_best_X10_has lk_RX10_149 im_X10_has (Nat.le_of_ble_eq_true rfl) ⟨rfl, rfl⟩ ⟨Nat.zero_le _, Nat.zero_le _⟩ (ct_X10_has (Int32.toInt64 x40) x46 I41 J42 ) (fun r89 S89 Ic58 Jc59 q89_56 => ?_)
                    obtain ⟨rfl, rfl, rfl, r62, rfl, hz89, hf89_60⟩ := q89_56
                    replace hF := fe_b3 hF hf89_60
                    refine g_st (st' := [.int r62, .int x45]) rfl ?_
                    refine g_if_eq d_X10_best_92 (fun h92 => ?_) (fun h92 => ?_)
                    · skip
                      replace hF := fe_pos hF h92
                      refine g_iconst (v := 0) d_X10_best_105 kI_0 ?_
                      refine g_iadd d_X10_best_106 ?_
                      refine g_topI (fun v64 ev64 => ?_)
                      replace hF := fe_lt hF ev64
                      refine g_istore (L' := [some (.ref 78), some (.int set), some (.int c), some (.int what), some (.int r34), some (.int x37), some (.int x38), some (.int x39), some (.int x40), some (.int v64), some (.int x46)]) d_X10_best_107 (by decide) rfl ?_
                      refine g_iinc (v := (x46 + (1 : Int32))) (L' := [some (.ref 78), some (.int set), some (.int c), some (.int what), some (.int r34), some (.int x37), some (.int x38), some (.int x39), some (.int x40), some (.int v64), some (.int (x46 + (1 : Int32)))]) d_X10_best_109 rfl (by rw [kI_1]) (by decide) rfl ?_
                      refine g_goto d_X10_best_112 ?_
                      exact ih_75 _ (by rw [← hmu_75]; exact mu_up h79) v64 (x46 + (1 : Int32)) rfl (lo_up hl47 h79) ⟨kf1, Nat.lt_of_lt_of_le (by rw [← hmu_75]; exact mu_up h79) hkf1, hF⟩
                    · skip
                      replace hF := fe_neg hF h92
                      refine g_aload_n d_X10_best_95 rfl ?_
                      refine g_getR d_X10_best_96 fq_RX10_73 rfl rfl ?_
                      refine g_iload d_X10_best_99 rfl ?_
                      refine g_iaload (N := 7) d_X10_best_101 rfl kT_7 ⟨hl47, Int32.not_le.mp h79⟩ rfl ?_
                      refine g_goto d_X10_best_102 ?_
                      refine g_iadd d_X10_best_106 ?_
                      refine g_topI (fun v65 ev65 => ?_)
                      replace hF := fe_lt hF ev65
                      refine g_istore (L' := [some (.ref 78), some (.int set), some (.int c), some (.int what), some (.int r34), some (.int x37), some (.int x38), some (.int x39), some (.int x40), some (.int v65), some (.int x46)]) d_X10_best_107 (by decide) rfl ?_
                      refine g_iinc (v := (x46 + (1 : Int32))) (L' := [some (.ref 78), some (.int set), some (.int c), some (.int what), some (.int r34), some (.int x37), some (.int x38), some (.int x39), some (.int x40), some (.int v65), some (.int (x46 + (1 : Int32)))]) d_X10_best_109 rfl (by rw [kI_1]) (by decide) rfl ?_
                      refine g_goto d_X10_best_112 ?_
                      exact ih_75 _ (by rw [← hmu_75]; exact mu_up h79) v65 (x46 + (1 : Int32)) rfl (lo_up hl47 h79) ⟨kf1, Nat.lt_of_lt_of_le (by rw [← hmu_75]; exact mu_up h79) hkf1, hF⟩
              exact K_75 _ (0 : Int32) (0 : Int32) rfl (Int32.le_refl _) ⟨_, Nat.lt_succ_self _, hF⟩
        exact K_61 _ (0 : Int32) (0 : Int32) (0 : Int32) (1 : Int32) I29 J30 rfl hK36 (Int32.le_refl _) ⟨_, Nat.lt_succ_self _, hF⟩
      · skip
        replace hF := fe_pos hF h36
        refine g_ldc (v := -1000000002) d_X10_best_39 tw_1199 ?_
        exact g_ireturn d_X10_best_41 rfl rfl rfl rfl ⟨rfl, trivial, (-1000000002 : Int32), rfl, hF, hK7⟩
  · skip
    replace hF := fe_pos hF h8
    refine g_ldcw (v := -1000000001) d_X10_best_11 tw_1296 ?_
    exact g_ireturn d_X10_best_14 rfl rfl rfl rfl ⟨rfl, trivial, (-1000000001 : Int32), rfl, hF, hK7⟩
noncomputable def fl_X10_pays_70_0 (c : Int32) (I29 : Iv) (J30 : Jv) (v37 : Int64) (Kf0 : Int32 → Int32 × Iv × Jv) : Nat → Int32 → Int32 × Iv × Jv
  | 0, x38 => (0, I29, J30)
  | kf0 + 1, x38 => if (30 : Int32) < x38 then Kf0 x38 else if ((Int32.toInt64 x38) * v37) < (Int32.toInt64 c) then fl_X10_pays_70_0 c I29 J30 v37 Kf0 kf0 (x38 + (1 : Int32)) else (x38, I29, J30)
noncomputable def fn_X10_pays (set : Int32) (c : Int32) (u : Int32) (I : Iv) (J : Jv) : Int32 × Iv × Jv :=
  b_n2 (fn_X10_begin I J) (fun (I1 : Iv) (J2 : Jv) => b_n3 (fn_X10_isSet set I1 J2) (fun (r13 : Int32) (_ : Iv) (_ : Jv) => if r13 = 0 then ((-1000000001 : Int32), I1, J2) else b_n3 (fn_X10_in (Int32.toInt64 c) (0 : Int64) (99999 : Int64) I1 J2) (fun (r20 : Int32) (_ : Iv) (_ : Jv) => if r20 = 0 then ((-1000000002 : Int32), I1, J2) else b_n3 (fn_X10_in (Int32.toInt64 u) (0 : Int64) (9999 : Int64) I1 J2) (fun (r27 : Int32) (_ : Iv) (_ : Jv) => if r27 = 0 then ((-1000000002 : Int32), I1, J2) else b_n3 (fn_X10_yearOf set I1 J2) (fun (r34 : Int32) (I29 : Iv) (J30 : Jv) => l_t (((Int32.toInt64 r34) - ((((365 : Int64) * (Int32.toInt64 u)) * (Int32.toInt64 (I29 78 30))) / (1000 : Int64)))) (fun (v37 : Int64) => fl_X10_pays_70_0 c I29 J30 v37 (fun (x38 : Int32) => ((-1 : Int32), I29, J30)) (mUe (30 : Int32) ((1 : Int32)) + 1) (1 : Int32)))))))
set_option maxRecDepth 100000 in
set_option maxHeartbeats 4000000 in
theorem ct_X10_pays (set : Int32) (c : Int32) (u : Int32) (I : Iv) (J : Jv) (hma : MA I) (hmj : MJ J) : Ct m_X10_pays [.ref 78, .int set, .int c, .int u] SHF I J (fun r S' I' J' => S' = SHF ∧ True ∧ ∃ v : Int32, r = some (.int v) ∧ fn_X10_pays set c u I J = (v, I', J') ∧ (MI (bgI I) I' ∧ MK (bgJ I J) J')) := by
  refine ct_of 3 (by decide +kernel) rfl rfl ?_
  have hK0 : (MI I I ∧ MK J J) := ⟨mi_rfl hma, mk_rfl hmj⟩
  have hF := fe_of (fn_X10_pays.eq_1 set c u I J)
  refine g_aload_n d_X10_pays_0 rfl ?_
  refine g_V0 d_X10_pays_1 cs_X10_pays_X10_begin lk_RX10_166 im_X10_begin se_X10_begin rfl rfl rfl (Nat.le_of_ble_eq_true rfl) ⟨rfl, rfl⟩ ⟨Nat.zero_le _, Nat.zero_le _⟩ (ct_X10_begin  I J hma hmj) (fun r1 S1 I1 J2 q1_2 => ?_)
  obtain ⟨rfl, hc1_3, rfl, hf1_4, hr1_5⟩ := q1_2
  replace hF := fe_b2 hF hf1_4
  refine g_st (st' := []) rfl ?_
  have hK7 : (MI (bgI I) I1 ∧ MK (bgJ I J) J2) := hr1_5
  refine g_iload_n d_X10_pays_4 rfl ?_
  refine g_S1 d_X10_pays_5 cs_X10_pays_X10_isSet lk_RX10_259 im_X10_isSet (Nat.le_of_ble_eq_true rfl) ⟨rfl, rfl⟩ ⟨Nat.zero_le _, Nat.zero_le _⟩ (ct_X10_isSet set I1 J2 ) (fun r5 S5 Ic9 Jc10 q5_7 => ?_)
  obtain ⟨rfl, rfl, rfl, r13, rfl, hz5, hf5_11, hr5_13⟩ := q5_7
  replace hF := fe_b3 hF hf5_11
  refine g_st (st' := [.int r13]) rfl ?_
  refine g_if_ne d_X10_pays_8 (fun h8 => ?_) (fun h8 => ?_)
  · skip
    replace hF := fe_neg hF h8
    refine g_iload_n d_X10_pays_15 rfl ?_
    refine g_i2l d_X10_pays_16 ?_
    refine g_lconst d_X10_pays_17 kL_0 ?_
    refine g_ldc2 (v := 99999) d_X10_pays_18 tw_1475 ?_
    refine g_S3 d_X10_pays_21 cs_X10_pays_X10_in lk_RX10_96 im_X10_in (Nat.le_of_ble_eq_true rfl) ⟨rfl, rfl⟩ ⟨Nat.zero_le _, Nat.zero_le _⟩ (ct_X10_inL c (0 : Int64) (99999 : Int64) (0 : Int32) (99999 : Int32) (by decide) (by decide) I1 J2) (fun r21 S21 Ic16 Jc17 q21_14 => ?_)
    obtain ⟨rfl, rfl, rfl, r20, rfl, hz21, hf21_18, hr21_20⟩ := q21_14
    replace hF := fe_b3 hF hf21_18
    refine g_st (st' := [.int r20]) rfl ?_
    refine g_if_eq d_X10_pays_24 (fun h24 => ?_) (fun h24 => ?_)
    · skip
      replace hF := fe_pos hF h24
      refine g_ldc (v := -1000000002) d_X10_pays_39 tw_1199 ?_
      exact g_ireturn d_X10_pays_41 rfl rfl rfl rfl ⟨rfl, trivial, (-1000000002 : Int32), rfl, hF, hK7⟩
    · skip
      replace hF := fe_neg hF h24
      refine g_iload_n d_X10_pays_27 rfl ?_
      refine g_i2l d_X10_pays_28 ?_
      refine g_lconst d_X10_pays_29 kL_0 ?_
      refine g_ldc2 (v := 9999) d_X10_pays_30 tw_1404 ?_
      refine g_S3 d_X10_pays_33 cs_X10_pays_X10_in lk_RX10_96 im_X10_in (Nat.le_of_ble_eq_true rfl) ⟨rfl, rfl⟩ ⟨Nat.zero_le _, Nat.zero_le _⟩ (ct_X10_inL u (0 : Int64) (9999 : Int64) (0 : Int32) (9999 : Int32) (by decide) (by decide) I1 J2) (fun r33 S33 Ic23 Jc24 q33_21 => ?_)
      obtain ⟨rfl, rfl, rfl, r27, rfl, hz33, hf33_25, hr33_27⟩ := q33_21
      replace hF := fe_b3 hF hf33_25
      refine g_st (st' := [.int r27]) rfl ?_
      refine g_if_ne d_X10_pays_36 (fun h36 => ?_) (fun h36 => ?_)
      · skip
        replace hF := fe_neg hF h36
        refine g_aload_n d_X10_pays_42 rfl ?_
        refine g_iload_n d_X10_pays_43 rfl ?_
        refine g_V1 d_X10_pays_44 cs_X10_pays_X10_yearOf lk_RX10_371 im_X10_yearOf se_X10_yearOf rfl rfl rfl (Nat.le_of_ble_eq_true rfl) ⟨rfl, rfl⟩ ⟨Nat.zero_le _, Nat.zero_le _⟩ (ct_X10_yearOf set I1 J2 (hK7).1.2 (hK7).2.2) (fun r44 S44 I29 J30 q44_30 => ?_)
        obtain ⟨rfl, hc44_31, r34, rfl, hf44_32⟩ := q44_30
        replace hF := fe_b3 hF hf44_32
        refine g_st (st' := [.int r34]) rfl ?_
        have hK36 : (MI (bgI I) I29 ∧ MK (bgJ I J) J30) := ⟨mi_tr (hK7).1 hc44_31.1, mk_tr (hK7).2 hc44_31.2⟩
        refine g_i2l d_X10_pays_47 ?_
        refine g_ldc2 (v := 365) d_X10_pays_48 tw_1555 ?_
        refine g_iload_n d_X10_pays_51 rfl ?_
        refine g_i2l d_X10_pays_52 ?_
        refine g_lmul d_X10_pays_53 ?_
        refine g_aload_n d_X10_pays_54 rfl ?_
        refine g_getI d_X10_pays_55 fq_RX10_88 rfl rfl ?_
        refine g_i2l d_X10_pays_58 ?_
        refine g_lmul d_X10_pays_59 ?_
        refine g_ldc2 (v := 1000) d_X10_pays_60 tw_1392 ?_
        refine g_ldiv d_X10_pays_63 (by decide) ?_
        refine g_lsub d_X10_pays_64 ?_
        refine g_topJ (fun v37 ev37 => ?_)
        replace hF := fe_lt hF ev37
        refine g_lstore (L' := [some (.ref 78), some (.int set), some (.int c), some (.int u), some (.long v37), none, none]) d_X10_pays_65 (by decide) rfl ?_
        refine g_iconst (v := 1) d_X10_pays_67 kI_1 ?_
        refine g_istore (L' := [some (.ref 78), some (.int set), some (.int c), some (.int u), some (.long v37), none, some (.int (1 : Int32))]) d_X10_pays_68 (by decide) rfl ?_
        obtain ⟨Kf0, hKf0, hF⟩ := fe_kx (f := fun K => fl_X10_pays_70_0 c I29 J30 v37 K (mUe (30 : Int32) ((1 : Int32)) + 1) (1 : Int32)) hF
        have K_70 : ∀ (nu : Nat) (x38 : Int32), mUe (30 : Int32) x38 = nu → ((1 : Int32) ≤ x38) → (∃ kq : Nat, nu < kq ∧ (fun kq => FE (fn_X10_pays set c u I J) (fun _ => fl_X10_pays_70_0 c I29 J30 v37 Kf0 kq x38)) kq) → G m_X10_pays (rq m_X10_pays (fun r S' I' J' => S' = SHF ∧ True ∧ ∃ v : Int32, r = some (.int v) ∧ fn_X10_pays set c u I J = (v, I', J') ∧ (MI (bgI I) I' ∧ MK (bgJ I J) J'))) 0 0 70 [some (.ref 78), some (.int set), some (.int c), some (.int u), some (.long v37), none, some (.int x38)] [] SHF I29 J30 := by
          intro nu
          induction nu using Nat.strongRecOn with
          | ind nu ih_70 =>
            intro x38 hmu_70 hl39 hF_Kf0
            obtain ⟨kf0, hkf0, hF⟩ := fe_fu (P := fun kq => FE (fn_X10_pays set c u I J) (fun _ => fl_X10_pays_70_0 c I29 J30 v37 Kf0 kq x38)) hF_Kf0
            replace hF := fe_eq hF (fl_X10_pays_70_0.eq_2 _ _ _ _ _ _ _)
            refine g_iload d_X10_pays_70 rfl ?_
            refine g_bipush (v := 30) d_X10_pays_72 kB_30 ?_
            refine g_icmp_gt d_X10_pays_74 (fun h74 => ?_) (fun h74 => ?_)
            · skip
              replace hF := fe_pos hF h74
              replace hF := fe_eq hF (congrFun hKf0 x38)
              refine g_iconst (v := -1) d_X10_pays_98 kI_m1 ?_
              exact g_ireturn d_X10_pays_99 rfl rfl rfl rfl ⟨rfl, trivial, (-1 : Int32), rfl, hF, hK36⟩
            · skip
              replace hF := fe_neg hF h74
              refine g_iload d_X10_pays_77 rfl ?_
              refine g_i2l d_X10_pays_79 ?_
              refine g_lload d_X10_pays_80 rfl ?_
              refine g_lmul d_X10_pays_82 ?_
              refine g_iload_n d_X10_pays_83 rfl ?_
              refine g_i2l d_X10_pays_84 ?_
              refine g_lcmp_lt d_X10_pays_85 d_X10_pays_86 (fun h86 => ?_) (fun h86 => ?_)
              · skip
                replace hF := fe_pos hF h86
                refine g_iinc (v := (x38 + (1 : Int32))) (L' := [some (.ref 78), some (.int set), some (.int c), some (.int u), some (.long v37), none, some (.int (x38 + (1 : Int32)))]) d_X10_pays_92 rfl (by rw [kI_1]) (by decide) rfl ?_
                refine g_goto d_X10_pays_95 ?_
                exact ih_70 _ (by rw [← hmu_70]; exact mu_upe h74 (by decide)) (x38 + (1 : Int32)) rfl (lo_upe hl39 h74 (by decide)) ⟨kf0, Nat.lt_of_lt_of_le (by rw [← hmu_70]; exact mu_upe h74 (by decide)) hkf0, hF⟩
              · skip
                replace hF := fe_neg hF h86
                refine g_iload d_X10_pays_89 rfl ?_
                exact g_ireturn d_X10_pays_91 rfl rfl rfl rfl ⟨rfl, trivial, x38, rfl, hF, hK36⟩
        exact K_70 _ (1 : Int32) rfl (Int32.le_refl _) ⟨_, Nat.lt_succ_self _, hF⟩
      · skip
        replace hF := fe_pos hF h36
        refine g_ldc (v := -1000000002) d_X10_pays_39 tw_1199 ?_
        exact g_ireturn d_X10_pays_41 rfl rfl rfl rfl ⟨rfl, trivial, (-1000000002 : Int32), rfl, hF, hK7⟩
  · skip
    replace hF := fe_pos hF h8
    refine g_ldcw (v := -1000000001) d_X10_pays_11 tw_1296 ?_
    exact g_ireturn d_X10_pays_14 rfl rfl rfl rfl ⟨rfl, trivial, (-1000000001 : Int32), rfl, hF, hK7⟩
noncomputable def fl_X10_iceOf_11_0 (I : Iv) (n : Int32) (p : Int32) (Kf0 : Int32 → Int32 → Jv → Int64 × Iv × Jv) : Nat → Int32 → Int32 → Jv → Int64 × Iv × Jv
  | 0, x8, x9, J10 => (0, I, J10)
  | kf0 + 1, x8, x9, J10 => if n ≤ x9 then Kf0 x8 x9 J10 else j_n (fun (y13 : Int32) (J14 : Jv) => b_n2 (fn_X10_go (80 : Int32) (288 : Int32) I J14) (fun (_ : Iv) (J16 : Jv) => fl_X10_iceOf_11_0 I n p Kf0 kf0 y13 (x9 + (1 : Int32)) J16)) (fun (j46_1 : Int32 → Jv → Int64 × Iv × Jv) => if p ≤ 0 then j46_1 x8 J10 else if x9 ≤ 0 then j46_1 x8 J10 else if (x9 - x9 / p * p) = 0 then b_n3 (fn_X10_melt (80 : Int32) I J10) (fun (r28 : Int32) (_ : Iv) (J23 : Jv) => j46_1 ((x8 + (1 : Int32))) J23) else j46_1 x8 J10)
noncomputable def fn_X10_iceOf (set : Int32) (n : Int32) (b : Int32) (p : Int32) (I : Iv) (J : Jv) : Int64 × Iv × Jv :=
  b_n2 (fn_X10_tryFresh set I J) (fun (_ : Iv) (J1 : Jv) => fl_X10_iceOf_11_0 I n p (fun (x8 : Int32) (x9 : Int32) (J10 : Jv) => (((((J10 79 143) * (Int32.toInt64 (I 78 30))) / (1000 : Int64)) + ((Int32.toInt64 b) * (Int32.toInt64 x8))), I, J10)) (mU n ((0 : Int32)) + 1) (0 : Int32) (0 : Int32) J1)
set_option maxRecDepth 100000 in
set_option maxHeartbeats 4000000 in
theorem ct_X10_iceOf (set : Int32) (n : Int32) (b : Int32) (p : Int32) (I : Iv) (J : Jv) (hma : MA I) (hmj : MJ J) : Ct m_X10_iceOf [.ref 78, .int set, .int n, .int b, .int p] SHF I J (fun r S' I' J' => S' = SHF ∧ (MI I I' ∧ MK J J') ∧ ∃ v : Int64, r = some (.long v) ∧ fn_X10_iceOf set n b p I J = (v, I', J')) := by
  refine ct_of 3 (by decide +kernel) rfl rfl ?_
  have hK0 : (MI I I ∧ MK J J) := ⟨mi_rfl hma, mk_rfl hmj⟩
  have hF := fe_of (fn_X10_iceOf.eq_1 set n b p I J)
  refine g_aload_n d_X10_iceOf_0 rfl ?_
  refine g_iload_n d_X10_iceOf_1 rfl ?_
  refine g_V1 d_X10_iceOf_2 cs_X10_iceOf_X10_tryFresh lk_RX10_317 im_X10_tryFresh se_X10_tryFresh rfl rfl rfl (Nat.le_of_ble_eq_true rfl) ⟨rfl, rfl⟩ ⟨Nat.zero_le _, Nat.zero_le _⟩ (ct_X10_tryFresh set I J ) (fun r2 S2 Ic3 J1 q2_1 => ?_)
  obtain ⟨rfl, ⟨rfl, hc2_3⟩, rfl, hf2_4, hr2_5⟩ := q2_1
  replace hF := fe_b2 hF hf2_4
  refine g_st (st' := []) rfl ?_
  have hK7 : (MI I I ∧ MK J J1) := ⟨(hK0).1, try_mk (hK0).2 hr2_5⟩
  refine g_iconst (v := 0) d_X10_iceOf_5 kI_0 ?_
  refine g_istore (L' := [some (.ref 78), some (.int set), some (.int n), some (.int b), some (.int p), some (.int (0 : Int32)), none, none]) d_X10_iceOf_6 (by decide) rfl ?_
  refine g_iconst (v := 0) d_X10_iceOf_8 kI_0 ?_
  refine g_istore (L' := [some (.ref 78), some (.int set), some (.int n), some (.int b), some (.int p), some (.int (0 : Int32)), some (.int (0 : Int32)), none]) d_X10_iceOf_9 (by decide) rfl ?_
  obtain ⟨Kf0, hKf0, hF⟩ := fe_kx (f := fun K => fl_X10_iceOf_11_0 I n p K (mU n ((0 : Int32)) + 1) (0 : Int32) (0 : Int32) J1) hF
  have K_11 : ∀ (nu : Nat) (x8 : Int32) (x9 : Int32) (J10 : Jv), mU n x9 = nu → ((MI I I ∧ MK J J10)) → ((0 : Int32) ≤ x9) → (∃ kq : Nat, nu < kq ∧ (fun kq => FE (fn_X10_iceOf set n b p I J) (fun _ => fl_X10_iceOf_11_0 I n p Kf0 kq x8 x9 J10)) kq) → G m_X10_iceOf (rq m_X10_iceOf (fun r S' I' J' => S' = SHF ∧ (MI I I' ∧ MK J J') ∧ ∃ v : Int64, r = some (.long v) ∧ fn_X10_iceOf set n b p I J = (v, I', J'))) 0 0 11 [some (.ref 78), some (.int set), some (.int n), some (.int b), some (.int p), some (.int x8), some (.int x9), none] [] SHF I J10 := by
    intro nu
    induction nu using Nat.strongRecOn with
    | ind nu ih_11 =>
      intro x8 x9 J10 hmu_11 hK11 hl12 hF_Kf0
      obtain ⟨kf0, hkf0, hF⟩ := fe_fu (P := fun kq => FE (fn_X10_iceOf set n b p I J) (fun _ => fl_X10_iceOf_11_0 I n p Kf0 kq x8 x9 J10)) hF_Kf0
      replace hF := fe_eq hF (fl_X10_iceOf_11_0.eq_2 _ _ _ _ _ _ _ _)
      refine g_iload d_X10_iceOf_11 rfl ?_
      refine g_iload_n d_X10_iceOf_13 rfl ?_
      refine g_icmp_ge d_X10_iceOf_14 (fun h14 => ?_) (fun h14 => ?_)
      · skip
        replace hF := fe_pos hF h14
        replace hF := fe_eq hF (congrFun (congrFun (congrFun hKf0 x8) x9) J10)
        refine g_aload_n d_X10_iceOf_61 rfl ?_
        refine g_getR d_X10_iceOf_62 fq_RX10_7 rfl rfl ?_
        refine g_sipush (v := 143) d_X10_iceOf_65 kS_143 ?_
        refine g_laload (N := 320) d_X10_iceOf_68 rfl kT_320 ⟨by decide, by decide⟩ kN_143 ?_
        refine g_aload_n d_X10_iceOf_69 rfl ?_
        refine g_getI d_X10_iceOf_70 fq_RX10_88 rfl rfl ?_
        refine g_i2l d_X10_iceOf_73 ?_
        refine g_lmul d_X10_iceOf_74 ?_
        refine g_ldc2 (v := 1000) d_X10_iceOf_75 tw_1392 ?_
        refine g_ldiv d_X10_iceOf_78 (by decide) ?_
        refine g_iload_n d_X10_iceOf_79 rfl ?_
        refine g_i2l d_X10_iceOf_80 ?_
        refine g_iload d_X10_iceOf_81 rfl ?_
        refine g_i2l d_X10_iceOf_83 ?_
        refine g_lmul d_X10_iceOf_84 ?_
        refine g_ladd d_X10_iceOf_85 ?_
        exact g_lreturn d_X10_iceOf_86 rfl rfl rfl ⟨rfl, hK11, ((((J10 79 143) * (Int32.toInt64 (I 78 30))) / (1000 : Int64)) + ((Int32.toInt64 b) * (Int32.toInt64 x8))), rfl, hF⟩
      · skip
        replace hF := fe_neg hF h14
        refine g_iload d_X10_iceOf_17 rfl ?_
        obtain ⟨j46_1, hj46_1, hF⟩ := fe_jx hF
        have J_46 : ∀ (y13 : Int32), ∀ (J14 : Jv), ((MI I I ∧ MK J J14)) → (FE (fn_X10_iceOf set n b p I J) (fun _ => j46_1 y13 J14)) → G m_X10_iceOf (rq m_X10_iceOf (fun r S' I' J' => S' = SHF ∧ (MI I I' ∧ MK J J') ∧ ∃ v : Int64, r = some (.long v) ∧ fn_X10_iceOf set n b p I J = (v, I', J'))) 0 0 46 [some (.ref 78), some (.int set), some (.int n), some (.int b), some (.int p), some (.int y13), some (.int x9), none] [] SHF I J14 := by
          intro y13 J14 hK15 hF_j46_1
          have hF := fe_eq hF_j46_1 (congrFun (congrFun hj46_1 y13) J14)
          refine g_aload_n d_X10_iceOf_46 rfl ?_
          refine g_bipush (v := 80) d_X10_iceOf_47 kB_80 ?_
          refine g_sipush (v := 288) d_X10_iceOf_49 kS_288 ?_
          refine g_V2 d_X10_iceOf_52 cs_X10_iceOf_X10_go lk_RX10_289 im_X10_go se_X10_go rfl rfl rfl (Nat.le_of_ble_eq_true rfl) ⟨rfl, rfl⟩ ⟨Nat.zero_le _, Nat.zero_le _⟩ (ct_X10_go (80 : Int32) (288 : Int32) I J14 (by decide) ((hK15).2.2 _ (by decide)).2.1 ((hK15).2.2 _ (by decide)).1 ((hK15).1.2.2.1) (by grind) ((hK15).1.2.2.2.1) ((hK15).1.2.2.2.2.1)) (fun r52 S52 Ic18 J16 q52_16 => ?_)
          obtain ⟨rfl, ⟨rfl, hc52_18⟩, rfl, hf52_19, hr52_20⟩ := q52_16
          replace hF := fe_b2 hF hf52_19
          refine g_st (st' := []) rfl ?_
          have hK22 : (MI I I ∧ MK J J16) := ⟨(hK15).1, tg_mk80 (hK15).2 hc52_18⟩
          refine g_iinc (v := (x9 + (1 : Int32))) (L' := [some (.ref 78), some (.int set), some (.int n), some (.int b), some (.int p), some (.int y13), some (.int (x9 + (1 : Int32))), none]) d_X10_iceOf_55 rfl (by rw [kI_1]) (by decide) rfl ?_
          refine g_goto d_X10_iceOf_58 ?_
          exact ih_11 _ (by rw [← hmu_11]; exact mu_up h14) y13 (x9 + (1 : Int32)) J16 rfl hK22 (lo_up hl12 h14) ⟨kf0, Nat.lt_of_lt_of_le (by rw [← hmu_11]; exact mu_up h14) hkf0, hF⟩
        refine g_if_le d_X10_iceOf_19 (fun h19 => ?_) (fun h19 => ?_)
        · skip
          replace hF := fe_pos hF h19
          exact J_46 x8 J10 hK11 hF
        · skip
          replace hF := fe_neg hF h19
          refine g_iload d_X10_iceOf_22 rfl ?_
          refine g_if_le d_X10_iceOf_24 (fun h24 => ?_) (fun h24 => ?_)
          · skip
            replace hF := fe_pos hF h24
            exact J_46 x8 J10 hK11 hF
          · skip
            replace hF := fe_neg hF h24
            refine g_iload d_X10_iceOf_27 rfl ?_
            refine g_iload d_X10_iceOf_29 rfl ?_
            refine g_irem d_X10_iceOf_31 (by grind) ?_
            refine g_if_ne d_X10_iceOf_32 (fun h32 => ?_) (fun h32 => ?_)
            · skip
              replace hF := fe_neg hF h32
              exact J_46 x8 J10 hK11 hF
            · skip
              replace hF := fe_pos hF h32
              refine g_aload_n d_X10_iceOf_35 rfl ?_
              refine g_bipush (v := 80) d_X10_iceOf_36 kB_80 ?_
              refine g_V1 d_X10_iceOf_38 cs_X10_iceOf_X10_melt lk_RX10_314 im_X10_melt se_X10_melt rfl rfl rfl (Nat.le_of_ble_eq_true rfl) ⟨rfl, rfl⟩ ⟨Nat.zero_le _, Nat.zero_le _⟩ (ct_X10_melt (80 : Int32) I J10 (by decide) ((hK11).2.2 _ (by decide)).2.1) (fun r38 S38 Ic25 J23 q38_23 => ?_)
              obtain ⟨rfl, ⟨rfl, hc38_25⟩, r28, rfl, hf38_26⟩ := q38_23
              replace hF := fe_b3 hF hf38_26
              refine g_st (st' := [.int r28]) rfl ?_
              have hK30 : (MI I I ∧ MK J J23) := ⟨(hK11).1, tg_mk80 (hK11).2 hc38_25.tg⟩
              refine g_istore (L' := [some (.ref 78), some (.int set), some (.int n), some (.int b), some (.int p), some (.int x8), some (.int x9), some (.int r28)]) d_X10_iceOf_41 (by decide) rfl ?_
              refine g_iinc (v := (x8 + (1 : Int32))) (L' := [some (.ref 78), some (.int set), some (.int n), some (.int b), some (.int p), some (.int (x8 + (1 : Int32))), some (.int x9), some (.int r28)]) d_X10_iceOf_43 rfl (by rw [kI_1]) (by decide) rfl ?_
              refine g_sb [some (.ref 78), some (.int set), some (.int n), some (.int b), some (.int p), some (.int (x8 + (1 : Int32))), some (.int x9), none] (by simp [subL]) ?_
              exact J_46 ((x8 + (1 : Int32))) J23 hK30 hF
  exact K_11 _ (0 : Int32) (0 : Int32) J1 rfl hK7 (Int32.le_refl _) ⟨_, Nat.lt_succ_self _, hF⟩
noncomputable def fl_X10_ice_58_0 (set : Int32) (n : Int32) (b : Int32) (Kf0 : Int32 → Int64 → Int32 → Iv → Jv → Int32 × Iv × Jv) : Nat → Int32 → Int64 → Int32 → Iv → Jv → Int32 × Iv × Jv
  | 0, x37, x38, x39, I40, J41 => (0, I40, J41)
  | kf0 + 1, x37, x38, x39, I40, J41 => if (20 : Int32) < x39 then Kf0 x37 x38 x39 I40 J41 else b_n3 (fn_X10_iceOf set n b x39 I40 J41) (fun (r49 : Int64) (I44 : Iv) (J45 : Jv) => j_n (fun (w52 : Int32) => if x38 ≤ r49 then fl_X10_ice_58_0 set n b Kf0 kf0 w52 x38 (x39 + (1 : Int32)) I44 J45 else fl_X10_ice_58_0 set n b Kf0 kf0 w52 r49 (x39 + (1 : Int32)) I44 J45) (fun (j91_1 : Int32 → Int32 × Iv × Jv) => if x38 ≤ r49 then j91_1 x37 else j91_1 x39))
noncomputable def fn_X10_ice (set : Int32) (n : Int32) (b : Int32) (I : Iv) (J : Jv) : Int32 × Iv × Jv :=
  b_n2 (fn_X10_begin I J) (fun (I1 : Iv) (J2 : Jv) => b_n3 (fn_X10_isSet set I1 J2) (fun (r13 : Int32) (_ : Iv) (_ : Jv) => if r13 = 0 then ((-1000000001 : Int32), I1, J2) else b_n3 (fn_X10_in (Int32.toInt64 n) (1 : Int64) (20 : Int64) I1 J2) (fun (r20 : Int32) (_ : Iv) (_ : Jv) => if r20 = 0 then ((-1000000002 : Int32), I1, J2) else b_n3 (fn_X10_in (Int32.toInt64 b) (0 : Int64) (999 : Int64) I1 J2) (fun (r27 : Int32) (_ : Iv) (_ : Jv) => if r27 = 0 then ((-1000000002 : Int32), I1, J2) else b_n3 (fn_X10_iceOf set n b (0 : Int32) I1 J2) (fun (r34 : Int64) (I29 : Iv) (J30 : Jv) => fl_X10_ice_58_0 set n b (fun (x37 : Int32) (x38 : Int64) (x39 : Int32) (I40 : Iv) (J41 : Jv) => (x37, I40, J41)) (mUe (20 : Int32) ((1 : Int32)) + 1) (0 : Int32) r34 (1 : Int32) I29 J30)))))
set_option maxRecDepth 100000 in
set_option maxHeartbeats 4000000 in
theorem ct_X10_ice (set : Int32) (n : Int32) (b : Int32) (I : Iv) (J : Jv) (hma : MA I) (hmj : MJ J) : Ct m_X10_ice [.ref 78, .int set, .int n, .int b] SHF I J (fun r S' I' J' => S' = SHF ∧ True ∧ ∃ v : Int32, r = some (.int v) ∧ fn_X10_ice set n b I J = (v, I', J') ∧ (MI (bgI I) I' ∧ MK (bgJ I J) J')) := by
  refine ct_of 6 (by decide +kernel) rfl rfl ?_
  have hK0 : (MI I I ∧ MK J J) := ⟨mi_rfl hma, mk_rfl hmj⟩
  have hF := fe_of (fn_X10_ice.eq_1 set n b I J)
  refine g_aload_n d_X10_ice_0 rfl ?_
  refine g_V0 d_X10_ice_1 cs_X10_ice_X10_begin lk_RX10_166 im_X10_begin se_X10_begin rfl rfl rfl (Nat.le_of_ble_eq_true rfl) ⟨rfl, rfl⟩ ⟨Nat.zero_le _, Nat.zero_le _⟩ (ct_X10_begin  I J hma hmj) (fun r1 S1 I1 J2 q1_2 => ?_)
  obtain ⟨rfl, hc1_3, rfl, hf1_4, hr1_5⟩ := q1_2
  replace hF := fe_b2 hF hf1_4
  refine g_st (st' := []) rfl ?_
  have hK7 : (MI (bgI I) I1 ∧ MK (bgJ I J) J2) := hr1_5
  refine g_iload_n d_X10_ice_4 rfl ?_
  refine g_S1 d_X10_ice_5 cs_X10_ice_X10_isSet lk_RX10_259 im_X10_isSet (Nat.le_of_ble_eq_true rfl) ⟨rfl, rfl⟩ ⟨Nat.zero_le _, Nat.zero_le _⟩ (ct_X10_isSet set I1 J2 ) (fun r5 S5 Ic9 Jc10 q5_7 => ?_)
  obtain ⟨rfl, rfl, rfl, r13, rfl, hz5, hf5_11, hr5_13⟩ := q5_7
  replace hF := fe_b3 hF hf5_11
  refine g_st (st' := [.int r13]) rfl ?_
  refine g_if_ne d_X10_ice_8 (fun h8 => ?_) (fun h8 => ?_)
  · skip
    replace hF := fe_neg hF h8
    refine g_iload_n d_X10_ice_15 rfl ?_
    refine g_i2l d_X10_ice_16 ?_
    refine g_lconst d_X10_ice_17 kL_1 ?_
    refine g_ldc2 (v := 20) d_X10_ice_18 tw_1343 ?_
    refine g_S3 d_X10_ice_21 cs_X10_ice_X10_in lk_RX10_96 im_X10_in (Nat.le_of_ble_eq_true rfl) ⟨rfl, rfl⟩ ⟨Nat.zero_le _, Nat.zero_le _⟩ (ct_X10_inL n (1 : Int64) (20 : Int64) (1 : Int32) (20 : Int32) (by decide) (by decide) I1 J2) (fun r21 S21 Ic16 Jc17 q21_14 => ?_)
    obtain ⟨rfl, rfl, rfl, r20, rfl, hz21, hf21_18, hr21_20⟩ := q21_14
    replace hF := fe_b3 hF hf21_18
    refine g_st (st' := [.int r20]) rfl ?_
    refine g_if_eq d_X10_ice_24 (fun h24 => ?_) (fun h24 => ?_)
    · skip
      replace hF := fe_pos hF h24
      refine g_ldc (v := -1000000002) d_X10_ice_39 tw_1199 ?_
      exact g_ireturn d_X10_ice_41 rfl rfl rfl rfl ⟨rfl, trivial, (-1000000002 : Int32), rfl, hF, hK7⟩
    · skip
      replace hF := fe_neg hF h24
      refine g_iload_n d_X10_ice_27 rfl ?_
      refine g_i2l d_X10_ice_28 ?_
      refine g_lconst d_X10_ice_29 kL_0 ?_
      refine g_ldc2 (v := 999) d_X10_ice_30 tw_1476 ?_
      refine g_S3 d_X10_ice_33 cs_X10_ice_X10_in lk_RX10_96 im_X10_in (Nat.le_of_ble_eq_true rfl) ⟨rfl, rfl⟩ ⟨Nat.zero_le _, Nat.zero_le _⟩ (ct_X10_inL b (0 : Int64) (999 : Int64) (0 : Int32) (999 : Int32) (by decide) (by decide) I1 J2) (fun r33 S33 Ic23 Jc24 q33_21 => ?_)
      obtain ⟨rfl, rfl, rfl, r27, rfl, hz33, hf33_25, hr33_27⟩ := q33_21
      replace hF := fe_b3 hF hf33_25
      refine g_st (st' := [.int r27]) rfl ?_
      refine g_if_ne d_X10_ice_36 (fun h36 => ?_) (fun h36 => ?_)
      · skip
        replace hF := fe_neg hF h36
        refine g_iconst (v := 0) d_X10_ice_42 kI_0 ?_
        refine g_istore (L' := [some (.ref 78), some (.int set), some (.int n), some (.int b), some (.int (0 : Int32)), none, none, none, none, none]) d_X10_ice_43 (by decide) rfl ?_
        refine g_aload_n d_X10_ice_45 rfl ?_
        refine g_iload_n d_X10_ice_46 rfl ?_
        refine g_iload_n d_X10_ice_47 rfl ?_
        refine g_iload_n d_X10_ice_48 rfl ?_
        refine g_iconst (v := 0) d_X10_ice_49 kI_0 ?_
        refine g_V4 d_X10_ice_50 cs_X10_ice_X10_iceOf lk_RX10_375 im_X10_iceOf se_X10_iceOf rfl rfl rfl (Nat.le_of_ble_eq_true rfl) ⟨rfl, rfl⟩ ⟨Nat.zero_le _, Nat.zero_le _⟩ (ct_X10_iceOf set n b (0 : Int32) I1 J2 (hK7).1.2 (hK7).2.2) (fun r50 S50 I29 J30 q50_30 => ?_)
        obtain ⟨rfl, hc50_31, r34, rfl, hf50_32⟩ := q50_30
        replace hF := fe_b3 hF hf50_32
        refine g_st (st' := [.long r34]) rfl ?_
        have hK36 : (MI (bgI I) I29 ∧ MK (bgJ I J) J30) := ⟨mi_tr (hK7).1 hc50_31.1, mk_tr (hK7).2 hc50_31.2⟩
        refine g_lstore (L' := [some (.ref 78), some (.int set), some (.int n), some (.int b), some (.int (0 : Int32)), some (.long r34), none, none, none, none]) d_X10_ice_53 (by decide) rfl ?_
        refine g_iconst (v := 1) d_X10_ice_55 kI_1 ?_
        refine g_istore (L' := [some (.ref 78), some (.int set), some (.int n), some (.int b), some (.int (0 : Int32)), some (.long r34), none, some (.int (1 : Int32)), none, none]) d_X10_ice_56 (by decide) rfl ?_
        obtain ⟨Kf0, hKf0, hF⟩ := fe_kx (f := fun K => fl_X10_ice_58_0 set n b K (mUe (20 : Int32) ((1 : Int32)) + 1) (0 : Int32) r34 (1 : Int32) I29 J30) hF
        have K_58 : ∀ (nu : Nat) (x37 : Int32) (x38 : Int64) (x39 : Int32) (I40 : Iv) (J41 : Jv), mUe (20 : Int32) x39 = nu → ((MI (bgI I) I40 ∧ MK (bgJ I J) J41)) → ((1 : Int32) ≤ x39) → (∃ kq : Nat, nu < kq ∧ (fun kq => FE (fn_X10_ice set n b I J) (fun _ => fl_X10_ice_58_0 set n b Kf0 kq x37 x38 x39 I40 J41)) kq) → G m_X10_ice (rq m_X10_ice (fun r S' I' J' => S' = SHF ∧ True ∧ ∃ v : Int32, r = some (.int v) ∧ fn_X10_ice set n b I J = (v, I', J') ∧ (MI (bgI I) I' ∧ MK (bgJ I J) J'))) 0 0 58 [some (.ref 78), some (.int set), some (.int n), some (.int b), some (.int x37), some (.long x38), none, some (.int x39), none, none] [] SHF I40 J41 := by
          intro nu
          induction nu using Nat.strongRecOn with
          | ind nu ih_58 =>
            intro x37 x38 x39 I40 J41 hmu_58 hK42 hl43 hF_Kf0
            obtain ⟨kf0, hkf0, hF⟩ := fe_fu (P := fun kq => FE (fn_X10_ice set n b I J) (fun _ => fl_X10_ice_58_0 set n b Kf0 kq x37 x38 x39 I40 J41)) hF_Kf0
            replace hF := fe_eq hF (fl_X10_ice_58_0.eq_2 _ _ _ _ _ _ _ _ _ _)
            refine g_iload d_X10_ice_58 rfl ?_
            refine g_bipush (v := 20) d_X10_ice_60 kB_20 ?_
            refine g_icmp_gt d_X10_ice_62 (fun h62 => ?_) (fun h62 => ?_)
            · skip
              replace hF := fe_pos hF h62
              replace hF := fe_eq hF (congrFun (congrFun (congrFun (congrFun (congrFun hKf0 x37) x38) x39) I40) J41)
              refine g_iload d_X10_ice_116 rfl ?_
              exact g_ireturn d_X10_ice_118 rfl rfl rfl rfl ⟨rfl, trivial, x37, rfl, hF, hK42⟩
            · skip
              replace hF := fe_neg hF h62
              refine g_aload_n d_X10_ice_65 rfl ?_
              refine g_iload_n d_X10_ice_66 rfl ?_
              refine g_iload_n d_X10_ice_67 rfl ?_
              refine g_iload_n d_X10_ice_68 rfl ?_
              refine g_iload d_X10_ice_69 rfl ?_
              refine g_V4 d_X10_ice_71 cs_X10_ice_X10_iceOf lk_RX10_375 im_X10_iceOf se_X10_iceOf rfl rfl rfl (Nat.le_of_ble_eq_true rfl) ⟨rfl, rfl⟩ ⟨Nat.zero_le _, Nat.zero_le _⟩ (ct_X10_iceOf set n b x39 I40 J41 (hK42).1.2 (hK42).2.2) (fun r71 S71 I44 J45 q71_45 => ?_)
              obtain ⟨rfl, hc71_46, r49, rfl, hf71_47⟩ := q71_45
              replace hF := fe_b3 hF hf71_47
              refine g_st (st' := [.long r49]) rfl ?_
              have hK51 : (MI (bgI I) I44 ∧ MK (bgJ I J) J45) := ⟨mi_tr (hK42).1 hc71_46.1, mk_tr (hK42).2 hc71_46.2⟩
              refine g_lstore (L' := [some (.ref 78), some (.int set), some (.int n), some (.int b), some (.int x37), some (.long x38), none, some (.int x39), some (.long r49), none]) d_X10_ice_74 (by decide) rfl ?_
              refine g_lload d_X10_ice_76 rfl ?_
              refine g_lload d_X10_ice_78 rfl ?_
              obtain ⟨j91_1, hj91_1, hF⟩ := fe_jx hF
              have J_91 : ∀ (w52 : Int32), (FE (fn_X10_ice set n b I J) (fun _ => j91_1 w52)) → G m_X10_ice (rq m_X10_ice (fun r S' I' J' => S' = SHF ∧ True ∧ ∃ v : Int32, r = some (.int v) ∧ fn_X10_ice set n b I J = (v, I', J') ∧ (MI (bgI I) I' ∧ MK (bgJ I J) J'))) 0 0 91 [some (.ref 78), some (.int set), some (.int n), some (.int b), some (.int x37), some (.long x38), none, some (.int x39), some (.long r49), none] [.int w52] SHF I44 J45 := by
                intro w52 hF_j91_1
                have hF := fe_eq hF_j91_1 (congrFun hj91_1 w52)
                refine g_istore (L' := [some (.ref 78), some (.int set), some (.int n), some (.int b), some (.int w52), some (.long x38), none, some (.int x39), some (.long r49), none]) d_X10_ice_91 (by decide) rfl ?_
                refine g_lload d_X10_ice_93 rfl ?_
                refine g_lload d_X10_ice_95 rfl ?_
                refine g_lcmp_ge d_X10_ice_97 d_X10_ice_98 (fun h98 => ?_) (fun h98 => ?_)
                · skip
                  replace hF := fe_pos hF h98
                  refine g_lload d_X10_ice_106 rfl ?_
                  refine g_lstore (L' := [some (.ref 78), some (.int set), some (.int n), some (.int b), some (.int w52), some (.long x38), none, some (.int x39), some (.long r49), none]) d_X10_ice_108 (by decide) rfl ?_
                  refine g_iinc (v := (x39 + (1 : Int32))) (L' := [some (.ref 78), some (.int set), some (.int n), some (.int b), some (.int w52), some (.long x38), none, some (.int (x39 + (1 : Int32))), some (.long r49), none]) d_X10_ice_110 rfl (by rw [kI_1]) (by decide) rfl ?_
                  refine g_goto d_X10_ice_113 ?_
                  refine g_sb [some (.ref 78), some (.int set), some (.int n), some (.int b), some (.int w52), some (.long x38), none, some (.int (x39 + (1 : Int32))), none, none] (by simp [subL]) ?_
                  exact ih_58 _ (by rw [← hmu_58]; exact mu_upe h62 (by decide)) w52 x38 (x39 + (1 : Int32)) I44 J45 rfl hK51 (lo_upe hl43 h62 (by decide)) ⟨kf0, Nat.lt_of_lt_of_le (by rw [← hmu_58]; exact mu_upe h62 (by decide)) hkf0, hF⟩
                · skip
                  replace hF := fe_neg hF h98
                  refine g_lload d_X10_ice_101 rfl ?_
                  refine g_goto d_X10_ice_103 ?_
                  refine g_lstore (L' := [some (.ref 78), some (.int set), some (.int n), some (.int b), some (.int w52), some (.long r49), none, some (.int x39), some (.long r49), none]) d_X10_ice_108 (by decide) rfl ?_
                  refine g_iinc (v := (x39 + (1 : Int32))) (L' := [some (.ref 78), some (.int set), some (.int n), some (.int b), some (.int w52), some (.long r49), none, some (.int (x39 + (1 : Int32))), some (.long r49), none]) d_X10_ice_110 rfl (by rw [kI_1]) (by decide) rfl ?_
                  refine g_goto d_X10_ice_113 ?_
                  refine g_sb [some (.ref 78), some (.int set), some (.int n), some (.int b), some (.int w52), some (.long r49), none, some (.int (x39 + (1 : Int32))), none, none] (by simp [subL]) ?_
                  exact ih_58 _ (by rw [← hmu_58]; exact mu_upe h62 (by decide)) w52 r49 (x39 + (1 : Int32)) I44 J45 rfl hK51 (lo_upe hl43 h62 (by decide)) ⟨kf0, Nat.lt_of_lt_of_le (by rw [← hmu_58]; exact mu_upe h62 (by decide)) hkf0, hF⟩
              refine g_lcmp_ge d_X10_ice_80 d_X10_ice_81 (fun h81 => ?_) (fun h81 => ?_)
              · skip
                replace hF := fe_pos hF h81
                refine g_iload d_X10_ice_89 rfl ?_
                exact J_91 x37 hF
              · skip
                replace hF := fe_neg hF h81
                refine g_iload d_X10_ice_84 rfl ?_
                refine g_goto d_X10_ice_86 ?_
                exact J_91 x39 hF
        exact K_58 _ (0 : Int32) r34 (1 : Int32) I29 J30 rfl hK36 (Int32.le_refl _) ⟨_, Nat.lt_succ_self _, hF⟩
      · skip
        replace hF := fe_pos hF h36
        refine g_ldc (v := -1000000002) d_X10_ice_39 tw_1199 ?_
        exact g_ireturn d_X10_ice_41 rfl rfl rfl rfl ⟨rfl, trivial, (-1000000002 : Int32), rfl, hF, hK7⟩
  · skip
    replace hF := fe_pos hF h8
    refine g_ldcw (v := -1000000001) d_X10_ice_11 tw_1296 ?_
    exact g_ireturn d_X10_ice_14 rfl rfl rfl rfl ⟨rfl, trivial, (-1000000001 : Int32), rfl, hF, hK7⟩
noncomputable def fl_X10_within_34_1 (I : Iv) (x2 : Int32) (J13 : Jv) (Kf1 : Int32 → Int32 → Int32 × Iv × Jv) : Nat → Int32 → Int32 → Int32 × Iv × Jv
  | 0, x20, x21 => (0, I, J13)
  | kf1 + 1, x20, x21 => if (8 : Int32) ≤ x21 then Kf1 x20 x21 else if x2 < (288 : Int32) then Kf1 x20 x21 else j_n (fun (w23 : Int32) => b_n3 (fn_X10_one w23 I J13) (fun (r29 : Int32) (_ : Iv) (_ : Jv) => l_t ((x20 + r29)) (fun (v31 : Int32) => fl_X10_within_34_1 I x2 J13 Kf1 kf1 v31 (x21 + (1 : Int32))))) (fun (j80_2 : Int32 → Int32 × Iv × Jv) => j_n (j80_2 ((0 : Int32))) (fun (j79_3 : Int32 × Iv × Jv) => if (J13 79 (12 + x21.toNatClampNeg)) = (1 : Int64) then b_n3 (fn_X10_isWithin (80 : Int32) x21 I J13) (fun (r37 : Int32) (_ : Iv) (_ : Jv) => if r37 = 0 then j79_3 else j80_2 ((1 : Int32))) else j79_3))
noncomputable def fl_X10_within_4_0 (I : Iv) (shelf : Int32) (Kf0 : Int32 → Int32 → Jv → Int32 × Iv × Jv) : Nat → Int32 → Int32 → Jv → Int32 × Iv × Jv
  | 0, x1, x2, J3 => (0, I, J3)
  | kf0 + 1, x1, x2, J3 => if (576 : Int32) ≤ x2 then Kf0 x1 x2 J3 else b_n3 (fn_X10_isOpen (J3 79 134) I J3) (fun (r11 : Int32) (_ : Iv) (_ : Jv) => b_n2 (fn_X10_tick (80 : Int32) r11 shelf (0 : Int32) I J3) (fun (_ : Iv) (J13 : Jv) => fl_X10_within_34_1 I x2 J13 (fun (x20 : Int32) (x21 : Int32) => fl_X10_within_4_0 I shelf Kf0 kf0 x20 (x2 + (1 : Int32)) J13) (mU (8 : Int32) ((0 : Int32)) + 1) x1 (0 : Int32)))
noncomputable def fn_X10_within (shelf : Int32) (I : Iv) (J : Jv) : Int32 × Iv × Jv :=
  fl_X10_within_4_0 I shelf (fun (x1 : Int32) (x2 : Int32) (J3 : Jv) => (x1, I, J3)) (mU (576 : Int32) ((0 : Int32)) + 1) (0 : Int32) (0 : Int32) J
set_option maxRecDepth 100000 in
set_option maxHeartbeats 4000000 in
theorem ct_X10_within (shelf : Int32) (I : Iv) (J : Jv) (hma : MA I) (hmj : MJ J) (hs : HS J) (hsh : 0 ≤ shelf ∧ shelf ≤ 2) : Ct m_X10_within [.ref 78, .int shelf] SHF I J (fun r S' I' J' => S' = SHF ∧ (MI I I' ∧ MK J J') ∧ ∃ v : Int32, r = some (.int v) ∧ fn_X10_within shelf I J = (v, I', J')) := by
  refine ct_of 3 (by decide +kernel) rfl rfl ?_
  have hK0 : (MI I I ∧ MK J J) := ⟨mi_rfl hma, mk_rfl hmj⟩
  have hF := fe_of (fn_X10_within.eq_1 shelf I J)
  refine g_iconst (v := 0) d_X10_within_0 kI_0 ?_
  refine g_istore_n (L' := [some (.ref 78), some (.int shelf), some (.int (0 : Int32)), none, none]) d_X10_within_1 (by decide) rfl ?_
  refine g_iconst (v := 0) d_X10_within_2 kI_0 ?_
  refine g_istore_n (L' := [some (.ref 78), some (.int shelf), some (.int (0 : Int32)), some (.int (0 : Int32)), none]) d_X10_within_3 (by decide) rfl ?_
  obtain ⟨Kf0, hKf0, hF⟩ := fe_kx (f := fun K => fl_X10_within_4_0 I shelf K (mU (576 : Int32) ((0 : Int32)) + 1) (0 : Int32) (0 : Int32) J) hF
  have K_4 : ∀ (nu : Nat) (x1 : Int32) (x2 : Int32) (J3 : Jv), mU (576 : Int32) x2 = nu → ((MI I I ∧ MK J J3)) → ((0 : Int32) ≤ x2) → (HS J3) → (∃ kq : Nat, nu < kq ∧ (fun kq => FE (fn_X10_within shelf I J) (fun _ => fl_X10_within_4_0 I shelf Kf0 kq x1 x2 J3)) kq) → G m_X10_within (rq m_X10_within (fun r S' I' J' => S' = SHF ∧ (MI I I' ∧ MK J J') ∧ ∃ v : Int32, r = some (.int v) ∧ fn_X10_within shelf I J = (v, I', J'))) 0 0 4 [some (.ref 78), some (.int shelf), some (.int x1), some (.int x2), none] [] SHF I J3 := by
    intro nu
    induction nu using Nat.strongRecOn with
    | ind nu ih_4 =>
      intro x1 x2 J3 hmu_4 hK4 hl5 hs_4 hF_Kf0
      obtain ⟨kf0, hkf0, hF⟩ := fe_fu (P := fun kq => FE (fn_X10_within shelf I J) (fun _ => fl_X10_within_4_0 I shelf Kf0 kq x1 x2 J3)) hF_Kf0
      replace hF := fe_eq hF (fl_X10_within_4_0.eq_2 _ _ _ _ _ _ _)
      refine g_iload_n d_X10_within_4 rfl ?_
      refine g_sipush (v := 576) d_X10_within_5 kS_576 ?_
      refine g_icmp_ge d_X10_within_8 (fun h8 => ?_) (fun h8 => ?_)
      · skip
        replace hF := fe_pos hF h8
        replace hF := fe_eq hF (congrFun (congrFun (congrFun hKf0 x1) x2) J3)
        refine g_iload_n d_X10_within_97 rfl ?_
        exact g_ireturn d_X10_within_98 rfl rfl rfl rfl ⟨rfl, hK4, x1, rfl, hF⟩
      · skip
        replace hF := fe_neg hF h8
        refine g_aload_n d_X10_within_11 rfl ?_
        refine g_bipush (v := 80) d_X10_within_12 kB_80 ?_
        refine g_aload_n d_X10_within_14 rfl ?_
        refine g_aload_n d_X10_within_15 rfl ?_
        refine g_getR d_X10_within_16 fq_RX10_7 rfl rfl ?_
        refine g_sipush (v := 134) d_X10_within_19 kS_134 ?_
        refine g_laload (N := 320) d_X10_within_22 rfl kT_320 ⟨by decide, by decide⟩ kN_134 ?_
        refine g_V1 d_X10_within_23 cs_X10_within_X10_isOpen lk_RX10_247 im_X10_isOpen se_X10_isOpen rfl rfl rfl (Nat.le_of_ble_eq_true rfl) ⟨rfl, rfl⟩ ⟨Nat.zero_le _, Nat.zero_le _⟩ (ct_X10_isOpen (J3 79 134) I J3 ((hK4).1.2.2.1)) (fun r23 S23 Ic7 Jc8 q23_5 => ?_)
        obtain ⟨rfl, rfl, rfl, r11, rfl, hz23, hf23_9⟩ := q23_5
        replace hF := fe_b3 hF hf23_9
        refine g_st (st' := [.int r11, .int (80 : Int32), .ref 78]) rfl ?_
        refine g_iload_n d_X10_within_26 rfl ?_
        refine g_iconst (v := 0) d_X10_within_27 kI_0 ?_
        refine g_V4 d_X10_within_28 cs_X10_within_X10_tick lk_RX10_251 im_X10_tick se_X10_tick rfl rfl rfl (Nat.le_of_ble_eq_true rfl) ⟨rfl, rfl⟩ ⟨Nat.zero_le _, Nat.zero_le _⟩ (ct_X10_tick (80 : Int32) r11 shelf (0 : Int32) I J3 (by decide) ((hK4).2.2 _ (by decide)).2.1 ((hK4).2.2 _ (by decide)).1 hsh ((hK4).1.2.2.2.2.1)) (fun r28 S28 Ic15 J13 q28_13 => ?_)
        obtain ⟨rfl, ⟨rfl, hc28_15⟩, rfl, hf28_16, hr28_17⟩ := q28_13
        replace hF := fe_b2 hF hf28_16
        refine g_st (st' := []) rfl ?_
        have hK19 : (MI I I ∧ MK J J13) := ⟨(hK4).1, tg_mk80 (hK4).2 hc28_15⟩
        have hs28 : HS J13 := hs_tg hs_4 hc28_15
        refine g_iconst (v := 0) d_X10_within_31 kI_0 ?_
        refine g_istore (L' := [some (.ref 78), some (.int shelf), some (.int x1), some (.int x2), some (.int (0 : Int32))]) d_X10_within_32 (by decide) rfl ?_
        obtain ⟨Kf1, hKf1, hF⟩ := fe_kx (f := fun K => fl_X10_within_34_1 I x2 J13 K (mU (8 : Int32) ((0 : Int32)) + 1) x1 (0 : Int32)) hF
        have K_34 : ∀ (nu : Nat) (x20 : Int32) (x21 : Int32), mU (8 : Int32) x21 = nu → ((0 : Int32) ≤ x21) → (∃ kq : Nat, nu < kq ∧ (fun kq => FE (fn_X10_within shelf I J) (fun _ => fl_X10_within_34_1 I x2 J13 Kf1 kq x20 x21)) kq) → G m_X10_within (rq m_X10_within (fun r S' I' J' => S' = SHF ∧ (MI I I' ∧ MK J J') ∧ ∃ v : Int32, r = some (.int v) ∧ fn_X10_within shelf I J = (v, I', J'))) 0 0 34 [some (.ref 78), some (.int shelf), some (.int x20), some (.int x2), some (.int x21)] [] SHF I J13 := by
          intro nu
          induction nu using Nat.strongRecOn with
          | ind nu ih_34 =>
            intro x20 x21 hmu_34 hl22 hF_Kf1
            obtain ⟨kf1, hkf1, hF⟩ := fe_fu (P := fun kq => FE (fn_X10_within shelf I J) (fun _ => fl_X10_within_34_1 I x2 J13 Kf1 kq x20 x21)) hF_Kf1
            replace hF := fe_eq hF (fl_X10_within_34_1.eq_2 _ _ _ _ _ _ _)
            refine g_iload d_X10_within_34 rfl ?_
            refine g_bipush (v := 8) d_X10_within_36 kB_8 ?_
            refine g_icmp_ge d_X10_within_38 (fun h38 => ?_) (fun h38 => ?_)
            · skip
              replace hF := fe_pos hF h38
              replace hF := fe_eq hF (congrFun (congrFun hKf1 x20) x21)
              refine g_iinc (v := (x2 + (1 : Int32))) (L' := [some (.ref 78), some (.int shelf), some (.int x20), some (.int (x2 + (1 : Int32))), some (.int x21)]) d_X10_within_91 rfl (by rw [kI_1]) (by decide) rfl ?_
              refine g_goto d_X10_within_94 ?_
              refine g_sb [some (.ref 78), some (.int shelf), some (.int x20), some (.int (x2 + (1 : Int32))), none] (by simp [subL]) ?_
              exact ih_4 _ (by rw [← hmu_4]; exact mu_up h8) x20 (x2 + (1 : Int32)) J13 rfl hK19 (lo_up hl5 h8) hs28 ⟨kf0, Nat.lt_of_lt_of_le (by rw [← hmu_4]; exact mu_up h8) hkf0, hF⟩
            · skip
              replace hF := fe_neg hF h38
              refine g_iload_n d_X10_within_41 rfl ?_
              refine g_sipush (v := 288) d_X10_within_42 kS_288 ?_
              refine g_icmp_lt d_X10_within_45 (fun h45 => ?_) (fun h45 => ?_)
              · skip
                replace hF := fe_pos hF h45
                replace hF := fe_eq hF (congrFun (congrFun hKf1 x20) x21)
                refine g_iinc (v := (x2 + (1 : Int32))) (L' := [some (.ref 78), some (.int shelf), some (.int x20), some (.int (x2 + (1 : Int32))), some (.int x21)]) d_X10_within_91 rfl (by rw [kI_1]) (by decide) rfl ?_
                refine g_goto d_X10_within_94 ?_
                refine g_sb [some (.ref 78), some (.int shelf), some (.int x20), some (.int (x2 + (1 : Int32))), none] (by simp [subL]) ?_
                exact ih_4 _ (by rw [← hmu_4]; exact mu_up h8) x20 (x2 + (1 : Int32)) J13 rfl hK19 (lo_up hl5 h8) hs28 ⟨kf0, Nat.lt_of_lt_of_le (by rw [← hmu_4]; exact mu_up h8) hkf0, hF⟩
              · skip
                replace hF := fe_neg hF h45
                refine g_iload_n d_X10_within_48 rfl ?_
                refine g_aload_n d_X10_within_49 rfl ?_
                refine g_getR d_X10_within_50 fq_RX10_7 rfl rfl ?_
                refine g_bipush (v := 12) d_X10_within_53 kB_12 ?_
                refine g_iload d_X10_within_55 rfl ?_
                refine g_iadd d_X10_within_57 ?_
                refine g_laload (N := 320) d_X10_within_58 rfl kT_320 (by constructor <;> grind) (by rw [tn_add (by constructor <;> grind) (by constructor <;> grind), kN_12]) ?_
                refine g_lconst d_X10_within_59 kL_1 ?_
                obtain ⟨j80_2, hj80_2, hF⟩ := fe_jx hF
                have J_80 : ∀ (w23 : Int32), (w23 = 0 ∨ w23 = 1) → (FE (fn_X10_within shelf I J) (fun _ => j80_2 w23)) → G m_X10_within (rq m_X10_within (fun r S' I' J' => S' = SHF ∧ (MI I I' ∧ MK J J') ∧ ∃ v : Int32, r = some (.int v) ∧ fn_X10_within shelf I J = (v, I', J'))) 0 0 80 [some (.ref 78), some (.int shelf), some (.int x20), some (.int x2), some (.int x21)] [.int w23, .int x20] SHF I J13 := by
                  intro w23 hw23 hF_j80_2
                  have hF := fe_eq hF_j80_2 (congrFun hj80_2 w23)
                  refine g_S1 d_X10_within_80 cs_X10_within_X10_one lk_RX10_211 im_X10_one (Nat.le_of_ble_eq_true rfl) ⟨rfl, rfl⟩ ⟨Nat.zero_le _, Nat.zero_le _⟩ (ct_X10_one w23 I J13 ) (fun r80 S80 Ic25 Jc26 q80_23 => ?_)
                  obtain ⟨rfl, rfl, rfl, r29, rfl, hf80_27, hr80_29⟩ := q80_23
                  replace hF := fe_b3 hF hf80_27
                  refine g_st (st' := [.int r29, .int x20]) rfl ?_
                  refine g_iadd d_X10_within_83 ?_
                  refine g_topI (fun v31 ev31 => ?_)
                  replace hF := fe_lt hF ev31
                  refine g_istore_n (L' := [some (.ref 78), some (.int shelf), some (.int v31), some (.int x2), some (.int x21)]) d_X10_within_84 (by decide) rfl ?_
                  refine g_iinc (v := (x21 + (1 : Int32))) (L' := [some (.ref 78), some (.int shelf), some (.int v31), some (.int x2), some (.int (x21 + (1 : Int32)))]) d_X10_within_85 rfl (by rw [kI_1]) (by decide) rfl ?_
                  refine g_goto d_X10_within_88 ?_
                  exact ih_34 _ (by rw [← hmu_34]; exact mu_up h38) v31 (x21 + (1 : Int32)) rfl (lo_up hl22 h38) ⟨kf1, Nat.lt_of_lt_of_le (by rw [← hmu_34]; exact mu_up h38) hkf1, hF⟩
                obtain ⟨j79_3, hj79_3, hF⟩ := fe_jx hF
                have J_79 : (FE (fn_X10_within shelf I J) (fun _ => j79_3)) → G m_X10_within (rq m_X10_within (fun r S' I' J' => S' = SHF ∧ (MI I I' ∧ MK J J') ∧ ∃ v : Int32, r = some (.int v) ∧ fn_X10_within shelf I J = (v, I', J'))) 0 0 79 [some (.ref 78), some (.int shelf), some (.int x20), some (.int x2), some (.int x21)] [.int x20] SHF I J13 := by
                  intro hF_j79_3
                  have hF := fe_eq hF_j79_3 hj79_3
                  refine g_iconst (v := 0) d_X10_within_79 kI_0 ?_
                  exact J_80 ((0 : Int32)) (Or.inl rfl) hF
                refine g_lcmp_ne d_X10_within_60 d_X10_within_61 (fun h61 => ?_) (fun h61 => ?_)
                · skip
                  replace hF := fe_neg hF h61
                  exact J_79 hF
                · skip
                  replace hF := fe_pos hF h61
                  have hcp := hs_cap2 (f := x21) hs28 (by grind) (by grind) h61
                  refine g_aload_n d_X10_within_64 rfl ?_
                  refine g_bipush (v := 80) d_X10_within_65 kB_80 ?_
                  refine g_iload d_X10_within_67 rfl ?_
                  refine g_V2 d_X10_within_69 cs_X10_within_X10_isWithin lk_RX10_283 im_X10_isWithin se_X10_isWithin rfl rfl rfl (Nat.le_of_ble_eq_true rfl) ⟨rfl, rfl⟩ ⟨Nat.zero_le _, Nat.zero_le _⟩ (ct_X10_isWithin (80 : Int32) x21 I J13 (by decide) (by grind) hcp) (fun r69 S69 Ic33 Jc34 q69_31 => ?_)
                  obtain ⟨rfl, rfl, rfl, r37, rfl, hz69, hf69_35⟩ := q69_31
                  replace hF := fe_b3 hF hf69_35
                  refine g_st (st' := [.int r37, .int x20]) rfl ?_
                  refine g_if_eq d_X10_within_72 (fun h72 => ?_) (fun h72 => ?_)
                  · skip
                    replace hF := fe_pos hF h72
                    exact J_79 hF
                  · skip
                    replace hF := fe_neg hF h72
                    refine g_iconst (v := 1) d_X10_within_75 kI_1 ?_
                    refine g_goto d_X10_within_76 ?_
                    exact J_80 ((1 : Int32)) (Or.inr rfl) hF
        exact K_34 _ x1 (0 : Int32) rfl (Int32.le_refl _) ⟨_, Nat.lt_succ_self _, hF⟩
  exact K_4 _ (0 : Int32) (0 : Int32) J rfl hK0 (Int32.le_refl _) hs ⟨_, Nat.lt_succ_self _, hF⟩
noncomputable def fl_X10_powerOf3_4_0 (I : Iv) (J : Jv) (n : Int32) (Kf0 : Int32 → Int32 → Int32 × Iv × Jv) : Nat → Int32 → Int32 → Int32 × Iv × Jv
  | 0, x1, x2 => (0, I, J)
  | kf0 + 1, x1, x2 => if n ≤ x2 then Kf0 x1 x2 else l_t ((x1 * (3 : Int32))) (fun (v4 : Int32) => fl_X10_powerOf3_4_0 I J n Kf0 kf0 v4 (x2 + (1 : Int32)))
noncomputable def fn_X10_powerOf3 (n : Int32) (I : Iv) (J : Jv) : Int32 × Iv × Jv :=
  fl_X10_powerOf3_4_0 I J n (fun (x1 : Int32) (x2 : Int32) => (x1, I, J)) (mU n ((0 : Int32)) + 1) (1 : Int32) (0 : Int32)
set_option maxRecDepth 100000 in
set_option maxHeartbeats 4000000 in
theorem ct_X10_powerOf3 (n : Int32) (I : Iv) (J : Jv) (hn8 : n ≤ 8) : Ct m_X10_powerOf3 [.int n] SHF I J (fun r S' I' J' => S' = SHF ∧ I = I' ∧ J = J' ∧ ∃ v : Int32, r = some (.int v) ∧ fn_X10_powerOf3 n I J = (v, I', J') ∧ 1 ≤ v ∧ v ≤ 6561) := by
  refine ct_of 2 (by decide +kernel) rfl rfl ?_
  have hF := fe_of (fn_X10_powerOf3.eq_1 n I J)
  refine g_iconst (v := 1) d_X10_powerOf3_0 kI_1 ?_
  refine g_istore_n (L' := [some (.int n), some (.int (1 : Int32)), none]) d_X10_powerOf3_1 (by decide) rfl ?_
  refine g_iconst (v := 0) d_X10_powerOf3_2 kI_0 ?_
  refine g_istore_n (L' := [some (.int n), some (.int (1 : Int32)), some (.int (0 : Int32))]) d_X10_powerOf3_3 (by decide) rfl ?_
  obtain ⟨Kf0, hKf0, hF⟩ := fe_kx (f := fun K => fl_X10_powerOf3_4_0 I J n K (mU n ((0 : Int32)) + 1) (1 : Int32) (0 : Int32)) hF
  have K_4 : ∀ (nu : Nat) (x1 : Int32) (x2 : Int32), mU n x2 = nu → ((0 : Int32) ≤ x2) → ((x2 = 0 ∧ x1 = 1) ∨ (x2 = 1 ∧ x1 = 3) ∨ (x2 = 2 ∧ x1 = 9) ∨ (x2 = 3 ∧ x1 = 27) ∨ (x2 = 4 ∧ x1 = 81) ∨ (x2 = 5 ∧ x1 = 243) ∨ (x2 = 6 ∧ x1 = 729) ∨ (x2 = 7 ∧ x1 = 2187) ∨ (x2 = 8 ∧ x1 = 6561)) → (∃ kq : Nat, nu < kq ∧ (fun kq => FE (fn_X10_powerOf3 n I J) (fun _ => fl_X10_powerOf3_4_0 I J n Kf0 kq x1 x2)) kq) → G m_X10_powerOf3 (rq m_X10_powerOf3 (fun r S' I' J' => S' = SHF ∧ I = I' ∧ J = J' ∧ ∃ v : Int32, r = some (.int v) ∧ fn_X10_powerOf3 n I J = (v, I', J') ∧ 1 ≤ v ∧ v ≤ 6561)) 0 0 4 [some (.int n), some (.int x1), some (.int x2)] [] SHF I J := by
    intro nu
    induction nu using Nat.strongRecOn with
    | ind nu ih_4 =>
      intro x1 x2 hmu_4 hl3 ht_4 hF_Kf0
      obtain ⟨kf0, hkf0, hF⟩ := fe_fu (P := fun kq => FE (fn_X10_powerOf3 n I J) (fun _ => fl_X10_powerOf3_4_0 I J n Kf0 kq x1 x2)) hF_Kf0
      replace hF := fe_eq hF (fl_X10_powerOf3_4_0.eq_2 _ _ _ _ _ _ _)
      refine g_iload_n d_X10_powerOf3_4 rfl ?_
      refine g_iload_n d_X10_powerOf3_5 rfl ?_
      refine g_icmp_ge d_X10_powerOf3_6 (fun h6 => ?_) (fun h6 => ?_)
      · skip
        replace hF := fe_pos hF h6
        replace hF := fe_eq hF (congrFun (congrFun hKf0 x1) x2)
        refine g_iload_n d_X10_powerOf3_19 rfl ?_
        exact g_ireturn d_X10_powerOf3_20 rfl rfl rfl rfl ⟨rfl, rfl, rfl, x1, rfl, hF, by grind⟩
      · skip
        replace hF := fe_neg hF h6
        refine g_iload_n d_X10_powerOf3_9 rfl ?_
        refine g_iconst (v := 3) d_X10_powerOf3_10 kI_3 ?_
        refine g_imul d_X10_powerOf3_11 ?_
        refine g_topI (fun v4 ev4 => ?_)
        replace hF := fe_lt hF ev4
        refine g_istore_n (L' := [some (.int n), some (.int v4), some (.int x2)]) d_X10_powerOf3_12 (by decide) rfl ?_
        refine g_iinc (v := (x2 + (1 : Int32))) (L' := [some (.int n), some (.int v4), some (.int (x2 + (1 : Int32)))]) d_X10_powerOf3_13 rfl (by rw [kI_1]) (by decide) rfl ?_
        refine g_goto d_X10_powerOf3_16 ?_
        exact ih_4 _ (by rw [← hmu_4]; exact mu_up h6) v4 (x2 + (1 : Int32)) rfl (lo_up hl3 h6) (by rw [ev4]; rcases ht_4 with ⟨rfl, rfl⟩ | ⟨rfl, rfl⟩ | ⟨rfl, rfl⟩ | ⟨rfl, rfl⟩ | ⟨rfl, rfl⟩ | ⟨rfl, rfl⟩ | ⟨rfl, rfl⟩ | ⟨rfl, rfl⟩ | ⟨rfl, rfl⟩ <;> first | decide | exact absurd hn8 h6) ⟨kf0, Nat.lt_of_lt_of_le (by rw [← hmu_4]; exact mu_up h6) hkf0, hF⟩
  exact K_4 _ (1 : Int32) (0 : Int32) rfl (Int32.le_refl _) (by grind) ⟨_, Nat.lt_succ_self _, hF⟩
noncomputable def fn_X10_rowAt (row : Int32) (many : Int32) (i : Int32) (I : Iv) (J : Jv) : Int32 × Iv × Jv :=
  b_n3 (fn_X10_powerOf3 ((many - (1 : Int32)) - i) I J) (fun (r6 : Int32) (_ : Iv) (_ : Jv) => (((row / r6) - (row / r6) / (3 : Int32) * (3 : Int32)), I, J))
set_option maxRecDepth 100000 in
set_option maxHeartbeats 4000000 in
theorem ct_X10_rowAt (row : Int32) (many : Int32) (i : Int32) (I : Iv) (J : Jv) (hm : 0 ≤ many ∧ many ≤ 8) (hi : 0 ≤ i ∧ i ≤ 8) : Ct m_X10_rowAt [.int row, .int many, .int i] SHF I J (fun r S' I' J' => S' = SHF ∧ I = I' ∧ J = J' ∧ ∃ v : Int32, r = some (.int v) ∧ fn_X10_rowAt row many i I J = (v, I', J') ∧ (0 ≤ row → 0 ≤ v ∧ v ≤ 2)) := by
  refine ct_of 0 (by decide +kernel) rfl rfl ?_
  have hF := fe_of (fn_X10_rowAt.eq_1 row many i I J)
  refine g_iload_n d_X10_rowAt_0 rfl ?_
  refine g_iload_n d_X10_rowAt_1 rfl ?_
  refine g_iconst (v := 1) d_X10_rowAt_2 kI_1 ?_
  refine g_isub d_X10_rowAt_3 ?_
  refine g_iload_n d_X10_rowAt_4 rfl ?_
  refine g_isub d_X10_rowAt_5 ?_
  refine g_S1 d_X10_rowAt_6 cs_X10_rowAt_X10_powerOf3 lk_RX10_379 im_X10_powerOf3 (Nat.le_of_ble_eq_true rfl) ⟨rfl, rfl⟩ ⟨Nat.zero_le _, Nat.zero_le _⟩ (ct_X10_powerOf3 ((many - (1 : Int32)) - i) I J (by grind)) (fun r6 S6 Ic2 Jc3 q6_0 => ?_)
  obtain ⟨rfl, rfl, rfl, r6, rfl, hf6_4, hr6_6⟩ := q6_0
  replace hF := fe_b3 hF hf6_4
  refine g_st (st' := [.int r6, .int row]) rfl ?_
  have hp := hr6_6
  refine g_idiv d_X10_rowAt_9 (by grind) ?_
  refine g_iconst (v := 3) d_X10_rowAt_10 kI_3 ?_
  refine g_irem d_X10_rowAt_11 (by decide) ?_
  exact g_ireturn d_X10_rowAt_12 rfl rfl rfl rfl ⟨rfl, rfl, rfl, ((row / r6) - (row / r6) / (3 : Int32) * (3 : Int32)), rfl, hF, (fun hr => row_bd hr hp.1)⟩
noncomputable def fl_X10_placeOf_4_0 (I : Iv) (J : Jv) (f : Int32) (Kf0 : Int32 → Int32 → Int32 × Iv × Jv) : Nat → Int32 → Int32 → Int32 × Iv × Jv
  | 0, x1, x2 => (0, I, J)
  | kf0 + 1, x1, x2 => if f ≤ x2 then Kf0 x1 x2 else l_t ((x1 + (Int64.toInt32 (J 79 (12 + x2.toNatClampNeg))))) (fun (v4 : Int32) => fl_X10_placeOf_4_0 I J f Kf0 kf0 v4 (x2 + (1 : Int32)))
noncomputable def fn_X10_placeOf (f : Int32) (I : Iv) (J : Jv) : Int32 × Iv × Jv :=
  fl_X10_placeOf_4_0 I J f (fun (x1 : Int32) (x2 : Int32) => (x1, I, J)) (mU f ((0 : Int32)) + 1) (0 : Int32) (0 : Int32)
set_option maxRecDepth 100000 in
set_option maxHeartbeats 4000000 in
theorem ct_X10_placeOf (f : Int32) (I : Iv) (J : Jv) (hb0 : BI 0 J) (hf8 : f ≤ 8) : Ct m_X10_placeOf [.ref 78, .int f] SHF I J (fun r S' I' J' => S' = SHF ∧ I = I' ∧ J = J' ∧ ∃ v : Int32, r = some (.int v) ∧ fn_X10_placeOf f I J = (v, I', J') ∧ 0 ≤ v ∧ v ≤ 8) := by
  refine ct_of 2 (by decide +kernel) rfl rfl ?_
  have hF := fe_of (fn_X10_placeOf.eq_1 f I J)
  refine g_iconst (v := 0) d_X10_placeOf_0 kI_0 ?_
  refine g_istore_n (L' := [some (.ref 78), some (.int f), some (.int (0 : Int32)), none]) d_X10_placeOf_1 (by decide) rfl ?_
  refine g_iconst (v := 0) d_X10_placeOf_2 kI_0 ?_
  refine g_istore_n (L' := [some (.ref 78), some (.int f), some (.int (0 : Int32)), some (.int (0 : Int32))]) d_X10_placeOf_3 (by decide) rfl ?_
  obtain ⟨Kf0, hKf0, hF⟩ := fe_kx (f := fun K => fl_X10_placeOf_4_0 I J f K (mU f ((0 : Int32)) + 1) (0 : Int32) (0 : Int32)) hF
  have K_4 : ∀ (nu : Nat) (x1 : Int32) (x2 : Int32), mU f x2 = nu → ((0 : Int32) ≤ x2) → (0 ≤ x1 ∧ x1 ≤ x2) → (x2 ≤ 8) → (∃ kq : Nat, nu < kq ∧ (fun kq => FE (fn_X10_placeOf f I J) (fun _ => fl_X10_placeOf_4_0 I J f Kf0 kq x1 x2)) kq) → G m_X10_placeOf (rq m_X10_placeOf (fun r S' I' J' => S' = SHF ∧ I = I' ∧ J = J' ∧ ∃ v : Int32, r = some (.int v) ∧ fn_X10_placeOf f I J = (v, I', J') ∧ 0 ≤ v ∧ v ≤ 8)) 0 0 4 [some (.ref 78), some (.int f), some (.int x1), some (.int x2)] [] SHF I J := by
    intro nu
    induction nu using Nat.strongRecOn with
    | ind nu ih_4 =>
      intro x1 x2 hmu_4 hl3 hn_4 h8_4 hF_Kf0
      obtain ⟨kf0, hkf0, hF⟩ := fe_fu (P := fun kq => FE (fn_X10_placeOf f I J) (fun _ => fl_X10_placeOf_4_0 I J f Kf0 kq x1 x2)) hF_Kf0
      replace hF := fe_eq hF (fl_X10_placeOf_4_0.eq_2 _ _ _ _ _ _ _)
      refine g_iload_n d_X10_placeOf_4 rfl ?_
      refine g_iload_n d_X10_placeOf_5 rfl ?_
      refine g_icmp_ge d_X10_placeOf_6 (fun h6 => ?_) (fun h6 => ?_)
      · skip
        replace hF := fe_pos hF h6
        replace hF := fe_eq hF (congrFun (congrFun hKf0 x1) x2)
        refine g_iload_n d_X10_placeOf_28 rfl ?_
        exact g_ireturn d_X10_placeOf_29 rfl rfl rfl rfl ⟨rfl, rfl, rfl, x1, rfl, hF, by grind⟩
      · skip
        replace hF := fe_neg hF h6
        refine g_iload_n d_X10_placeOf_9 rfl ?_
        refine g_aload_n d_X10_placeOf_10 rfl ?_
        refine g_getR d_X10_placeOf_11 fq_RX10_7 rfl rfl ?_
        refine g_bipush (v := 12) d_X10_placeOf_14 kB_12 ?_
        refine g_iload_n d_X10_placeOf_16 rfl ?_
        refine g_iadd d_X10_placeOf_17 ?_
        refine g_laload (N := 320) d_X10_placeOf_18 rfl kT_320 (by constructor <;> grind) (by rw [tn_add (by constructor <;> grind) (by constructor <;> grind), kN_12]) ?_
        refine g_l2i d_X10_placeOf_19 ?_
        refine g_iadd d_X10_placeOf_20 ?_
        refine g_topI (fun v4 ev4 => ?_)
        replace hF := fe_lt hF ev4
        refine g_istore_n (L' := [some (.ref 78), some (.int f), some (.int v4), some (.int x2)]) d_X10_placeOf_21 (by decide) rfl ?_
        refine g_iinc (v := (x2 + (1 : Int32))) (L' := [some (.ref 78), some (.int f), some (.int v4), some (.int (x2 + (1 : Int32)))]) d_X10_placeOf_22 rfl (by rw [kI_1]) (by decide) rfl ?_
        refine g_goto d_X10_placeOf_25 ?_
        exact ih_4 _ (by rw [← hmu_4]; exact mu_up h6) v4 (x2 + (1 : Int32)) rfl (lo_up hl3 h6) (by rw [ev4]; have q := bi_int (x := x2) hb0 (by grind) (by grind); grind) (by grind) ⟨kf0, Nat.lt_of_lt_of_le (by rw [← hmu_4]; exact mu_up h6) hkf0, hF⟩
  exact K_4 _ (0 : Int32) (0 : Int32) rfl (Int32.le_refl _) (by grind) (by grind) ⟨_, Nat.lt_succ_self _, hF⟩
noncomputable def fl_X10_lying_63_2 (r13 : Int32) (x17 : Int32) (I18 : Iv) (Kf2 : Int32 → Jv → Int32 × Iv × Jv) : Nat → Int32 → Jv → Int32 × Iv × Jv
  | 0, x49, J50 => (0, I18, J50)
  | kf2 + 1, x49, J50 => if (8 : Int32) ≤ x49 then Kf2 x49 J50 else if (J50 79 (12 + x49.toNatClampNeg)) = (1 : Int64) then b_n3 (fn_X10_placeOf x49 I18 J50) (fun (r67 : Int32) (_ : Iv) (_ : Jv) => b_n3 (fn_X10_rowAt x17 r13 r67 I18 J50) (fun (r74 : Int32) (_ : Iv) (_ : Jv) => l_t (wJ J50 79 (100 + x49.toNatClampNeg) (Int32.toInt64 r74)) (fun (J76 : Jv) => fl_X10_lying_63_2 r13 x17 I18 Kf2 kf2 (x49 + (1 : Int32)) J76))) else fl_X10_lying_63_2 r13 x17 I18 Kf2 kf2 (x49 + (1 : Int32)) J50
noncomputable def fl_X10_lying_44_1 (r13 : Int32) (Kf1 : Int32 → Int32 → Int32 → Iv → Jv → Int32 × Iv × Jv) : Nat → Int32 → Int32 → Int32 → Iv → Jv → Int32 × Iv × Jv
  | 0, x15, x16, x17, I18, J19 => (0, I18, J19)
  | kf1 + 1, x15, x16, x17, I18, J19 => b_n3 (fn_X10_powerOf3 r13 I18 J19) (fun (r26 : Int32) (_ : Iv) (_ : Jv) => if r26 ≤ x17 then Kf1 x15 x16 x17 I18 J19 else b_n2 (fn_X10_copy (0 : Int32) (80 : Int32) I18 J19) (fun (_ : Iv) (J42 : Jv) => fl_X10_lying_63_2 r13 x17 I18 (fun (x49 : Int32) (J50 : Jv) => b_n3 (fn_X10_within (I18 81 8) I18 J50) (fun (r58 : Int32) (I53 : Iv) (J54 : Jv) => j_n (fun (w61 : Int32) => if r58 ≤ x16 then fl_X10_lying_44_1 r13 Kf1 kf1 w61 x16 (x17 + (1 : Int32)) I53 J54 else fl_X10_lying_44_1 r13 Kf1 kf1 w61 r58 (x17 + (1 : Int32)) I53 J54) (fun (j140_3 : Int32 → Int32 × Iv × Jv) => if r58 ≤ x16 then j140_3 x15 else j140_3 x17))) (mU (8 : Int32) ((0 : Int32)) + 1) (0 : Int32) J42))
noncomputable def fn_X10_lying (f : Int32) (I : Iv) (J : Jv) : Int32 × Iv × Jv :=
  b_n2 (fn_X10_begin I J) (fun (I1 : Iv) (J2 : Jv) => j_n (b_n3 (fn_X10_foods I1 J2) (fun (r13 : Int32) (_ : Iv) (_ : Jv) => if r13 ≤ (6 : Int32) then fl_X10_lying_44_1 r13 (fun (x15 : Int32) (x16 : Int32) (x17 : Int32) (I18 : Iv) (J19 : Jv) => if f = (-1 : Int32) then (x16, I18, J19) else b_n3 (fn_X10_placeOf f I18 J19) (fun (r33 : Int32) (_ : Iv) (_ : Jv) => b_n3 (fn_X10_rowAt x15 r13 r33 I18 J19) (fun (r40 : Int32) (_ : Iv) (_ : Jv) => (r40, I18, J19)))) (mU 6561 ((0 : Int32)) + 1) (-1 : Int32) (-1 : Int32) (0 : Int32) I1 J2 else ((-1000000003 : Int32), I1, J2))) (fun (j21_0 : Int32 × Iv × Jv) => if f = (-1 : Int32) then j21_0 else b_n3 (fn_X10_isFood f I1 J2) (fun (r83 : Int32) (_ : Iv) (_ : Jv) => if r83 = 0 then ((-1000000001 : Int32), I1, J2) else j21_0)))
set_option maxRecDepth 100000 in
set_option maxHeartbeats 4000000 in
theorem ct_X10_lying (f : Int32) (I : Iv) (J : Jv) (hma : MA I) (hmj : MJ J) : Ct m_X10_lying [.ref 78, .int f] SHF I J (fun r S' I' J' => S' = SHF ∧ True ∧ ∃ v : Int32, r = some (.int v) ∧ fn_X10_lying f I J = (v, I', J') ∧ (MI (bgI I) I' ∧ MK (bgJ I J) J')) := by
  refine ct_of 5 (by decide +kernel) rfl rfl ?_
  have hK0 : (MI I I ∧ MK J J) := ⟨mi_rfl hma, mk_rfl hmj⟩
  have hF := fe_of (fn_X10_lying.eq_1 f I J)
  refine g_aload_n d_X10_lying_0 rfl ?_
  refine g_V0 d_X10_lying_1 cs_X10_lying_X10_begin lk_RX10_166 im_X10_begin se_X10_begin rfl rfl rfl (Nat.le_of_ble_eq_true rfl) ⟨rfl, rfl⟩ ⟨Nat.zero_le _, Nat.zero_le _⟩ (ct_X10_begin  I J hma hmj) (fun r1 S1 I1 J2 q1_2 => ?_)
  obtain ⟨rfl, hc1_3, rfl, hf1_4, hr1_5⟩ := q1_2
  replace hF := fe_b2 hF hf1_4
  refine g_st (st' := []) rfl ?_
  have hK7 : (MI (bgI I) I1 ∧ MK (bgJ I J) J2) := hr1_5
  refine g_iload_n d_X10_lying_4 rfl ?_
  refine g_iconst (v := -1) d_X10_lying_5 kI_m1 ?_
  obtain ⟨j21_0, hj21_0, hF⟩ := fe_jx hF
  have J_21 : (f ≤ 8) → (FE (fn_X10_lying f I J) (fun _ => j21_0)) → G m_X10_lying (rq m_X10_lying (fun r S' I' J' => S' = SHF ∧ True ∧ ∃ v : Int32, r = some (.int v) ∧ fn_X10_lying f I J = (v, I', J') ∧ (MI (bgI I) I' ∧ MK (bgJ I J) J'))) 0 0 21 [some (.ref 78), some (.int f), none, none, none, none, none] [] SHF I1 J2 := by
    intro hf_21 hF_j21_0
    have hF := fe_eq hF_j21_0 hj21_0
    refine g_aload_n d_X10_lying_21 rfl ?_
    refine g_V0 d_X10_lying_22 cs_X10_lying_X10_foods lk_RX10_311 im_X10_foods se_X10_foods rfl rfl rfl (Nat.le_of_ble_eq_true rfl) ⟨rfl, rfl⟩ ⟨Nat.zero_le _, Nat.zero_le _⟩ (ct_X10_foods  I1 J2 ((hK7).2.2 0 (by decide)).1) (fun r22 S22 Ic9 Jc10 q22_7 => ?_)
    obtain ⟨rfl, rfl, rfl, r13, rfl, hf22_11, hr22_13⟩ := q22_7
    replace hF := fe_b3 hF hf22_11
    refine g_st (st' := [.int r13]) rfl ?_
    refine g_istore_n (L' := [some (.ref 78), some (.int f), some (.int r13), none, none, none, none]) d_X10_lying_25 (by decide) rfl ?_
    refine g_iload_n d_X10_lying_26 rfl ?_
    refine g_bipush (v := 6) d_X10_lying_27 kB_6 ?_
    refine g_icmp_le d_X10_lying_29 (fun h29 => ?_) (fun h29 => ?_)
    · skip
      replace hF := fe_pos hF h29
      refine g_iconst (v := -1) d_X10_lying_36 kI_m1 ?_
      refine g_istore_n (L' := [some (.ref 78), some (.int f), some (.int r13), some (.int (-1 : Int32)), none, none, none]) d_X10_lying_37 (by decide) rfl ?_
      refine g_iconst (v := -1) d_X10_lying_38 kI_m1 ?_
      refine g_istore (L' := [some (.ref 78), some (.int f), some (.int r13), some (.int (-1 : Int32)), some (.int (-1 : Int32)), none, none]) d_X10_lying_39 (by decide) rfl ?_
      refine g_iconst (v := 0) d_X10_lying_41 kI_0 ?_
      refine g_istore (L' := [some (.ref 78), some (.int f), some (.int r13), some (.int (-1 : Int32)), some (.int (-1 : Int32)), some (.int (0 : Int32)), none]) d_X10_lying_42 (by decide) rfl ?_
      obtain ⟨Kf1, hKf1, hF⟩ := fe_kx (f := fun K => fl_X10_lying_44_1 r13 K (mU 6561 ((0 : Int32)) + 1) (-1 : Int32) (-1 : Int32) (0 : Int32) I1 J2) hF
      have K_44 : ∀ (nu : Nat) (x15 : Int32) (x16 : Int32) (x17 : Int32) (I18 : Iv) (J19 : Jv), mU 6561 x17 = nu → ((MI (bgI I) I18 ∧ MK (bgJ I J) J19)) → (0 ≤ x17) → (∃ kq : Nat, nu < kq ∧ (fun kq => FE (fn_X10_lying f I J) (fun _ => fl_X10_lying_44_1 r13 Kf1 kq x15 x16 x17 I18 J19)) kq) → G m_X10_lying (rq m_X10_lying (fun r S' I' J' => S' = SHF ∧ True ∧ ∃ v : Int32, r = some (.int v) ∧ fn_X10_lying f I J = (v, I', J') ∧ (MI (bgI I) I' ∧ MK (bgJ I J) J'))) 0 0 44 [some (.ref 78), some (.int f), some (.int r13), some (.int x15), some (.int x16), some (.int x17), none] [] SHF I18 J19 := by
        intro nu
        induction nu using Nat.strongRecOn with
        | ind nu ih_44 =>
          intro x15 x16 x17 I18 J19 hmu_44 hK20 h0_44 hF_Kf1
          obtain ⟨kf1, hkf1, hF⟩ := fe_fu (P := fun kq => FE (fn_X10_lying f I J) (fun _ => fl_X10_lying_44_1 r13 Kf1 kq x15 x16 x17 I18 J19)) hF_Kf1
          replace hF := fe_eq hF (fl_X10_lying_44_1.eq_2 _ _ _ _ _ _ _ _)
          refine g_iload d_X10_lying_44 rfl ?_
          refine g_iload_n d_X10_lying_46 rfl ?_
          refine g_S1 d_X10_lying_47 cs_X10_lying_X10_powerOf3 lk_RX10_379 im_X10_powerOf3 (Nat.le_of_ble_eq_true rfl) ⟨rfl, rfl⟩ ⟨Nat.zero_le _, Nat.zero_le _⟩ (ct_X10_powerOf3 r13 I18 J19 (by grind)) (fun r47 S47 Ic22 Jc23 q47_20 => ?_)
          obtain ⟨rfl, rfl, rfl, r26, rfl, hf47_24, hr47_26⟩ := q47_20
          replace hF := fe_b3 hF hf47_24
          refine g_st (st' := [.int r26, .int x17]) rfl ?_
          refine g_icmp_ge d_X10_lying_50 (fun h50 => ?_) (fun h50 => ?_)
          · skip
            replace hF := fe_pos hF h50
            replace hF := fe_eq hF (congrFun (congrFun (congrFun (congrFun (congrFun hKf1 x15) x16) x17) I18) J19)
            refine g_iload_n d_X10_lying_163 rfl ?_
            refine g_iconst (v := -1) d_X10_lying_164 kI_m1 ?_
            refine g_icmp_ne d_X10_lying_165 (fun h165 => ?_) (fun h165 => ?_)
            · skip
              replace hF := fe_neg hF h165
              refine g_iload_n d_X10_lying_173 rfl ?_
              refine g_iload_n d_X10_lying_174 rfl ?_
              refine g_aload_n d_X10_lying_175 rfl ?_
              refine g_iload_n d_X10_lying_176 rfl ?_
              refine g_V1 d_X10_lying_177 cs_X10_lying_X10_placeOf lk_RX10_385 im_X10_placeOf se_X10_placeOf rfl rfl rfl (Nat.le_of_ble_eq_true rfl) ⟨rfl, rfl⟩ ⟨Nat.zero_le _, Nat.zero_le _⟩ (ct_X10_placeOf f I18 J19 ((hK20).2.2 0 (by decide)).1 (by grind)) (fun r177 S177 Ic29 Jc30 q177_27 => ?_)
              obtain ⟨rfl, rfl, rfl, r33, rfl, hf177_31, hr177_33⟩ := q177_27
              replace hF := fe_b3 hF hf177_31
              refine g_st (st' := [.int r33, .int r13, .int x15]) rfl ?_
              refine g_S3 d_X10_lying_180 cs_X10_lying_X10_rowAt lk_RX10_388 im_X10_rowAt (Nat.le_of_ble_eq_true rfl) ⟨rfl, rfl⟩ ⟨Nat.zero_le _, Nat.zero_le _⟩ (ct_X10_rowAt x15 r13 r33 I18 J19 (by grind) (by grind)) (fun r180 S180 Ic36 Jc37 q180_34 => ?_)
              obtain ⟨rfl, rfl, rfl, r40, rfl, hf180_38, hr180_40⟩ := q180_34
              replace hF := fe_b3 hF hf180_38
              refine g_st (st' := [.int r40]) rfl ?_
              exact g_ireturn d_X10_lying_183 rfl rfl rfl rfl ⟨rfl, trivial, r40, rfl, hF, hK20⟩
            · skip
              replace hF := fe_pos hF h165
              refine g_iload d_X10_lying_168 rfl ?_
              refine g_goto d_X10_lying_170 ?_
              exact g_ireturn d_X10_lying_183 rfl rfl rfl rfl ⟨rfl, trivial, x16, rfl, hF, hK20⟩
          · skip
            replace hF := fe_neg hF h50
            refine g_aload_n d_X10_lying_53 rfl ?_
            refine g_iconst (v := 0) d_X10_lying_54 kI_0 ?_
            refine g_bipush (v := 80) d_X10_lying_55 kB_80 ?_
            refine g_V2 d_X10_lying_57 cs_X10_lying_X10_copy lk_RX10_382 im_X10_copy se_X10_copy rfl rfl rfl (Nat.le_of_ble_eq_true rfl) ⟨rfl, rfl⟩ ⟨Nat.zero_le _, Nat.zero_le _⟩ (ct_X10_copy (0 : Int32) (80 : Int32) I18 J19 (by decide) (by decide) (by grind)) (fun r57 S57 Ic44 J42 q57_42 => ?_)
            obtain ⟨rfl, ⟨rfl, hc57_44⟩, rfl, hf57_45, hr57_46⟩ := q57_42
            replace hF := fe_b2 hF hf57_45
            refine g_st (st' := []) rfl ?_
            have hK48 : (MI (bgI I) I18 ∧ MK (bgJ I J) J42) := ⟨(hK20).1, cy_mk80 (by decide) (hK20).2 hr57_46⟩
            have hs57 : HS J42 := cy_hs ((hK20).2.2 0 (by decide)).1 hr57_46
            refine g_iconst (v := 0) d_X10_lying_60 kI_0 ?_
            refine g_istore (L' := [some (.ref 78), some (.int f), some (.int r13), some (.int x15), some (.int x16), some (.int x17), some (.int (0 : Int32))]) d_X10_lying_61 (by decide) rfl ?_
            obtain ⟨Kf2, hKf2, hF⟩ := fe_kx (f := fun K => fl_X10_lying_63_2 r13 x17 I18 K (mU (8 : Int32) ((0 : Int32)) + 1) (0 : Int32) J42) hF
            have K_63 : ∀ (nu : Nat) (x49 : Int32) (J50 : Jv), mU (8 : Int32) x49 = nu → ((MI (bgI I) I18 ∧ MK (bgJ I J) J50)) → ((0 : Int32) ≤ x49) → (HS J50) → (∃ kq : Nat, nu < kq ∧ (fun kq => FE (fn_X10_lying f I J) (fun _ => fl_X10_lying_63_2 r13 x17 I18 Kf2 kq x49 J50)) kq) → G m_X10_lying (rq m_X10_lying (fun r S' I' J' => S' = SHF ∧ True ∧ ∃ v : Int32, r = some (.int v) ∧ fn_X10_lying f I J = (v, I', J') ∧ (MI (bgI I) I' ∧ MK (bgJ I J) J'))) 0 0 63 [some (.ref 78), some (.int f), some (.int r13), some (.int x15), some (.int x16), some (.int x17), some (.int x49)] [] SHF I18 J50 := by
              intro nu
              induction nu using Nat.strongRecOn with
              | ind nu ih_63 =>
                intro x49 J50 hmu_63 hK51 hl52 hs_63 hF_Kf2
                obtain ⟨kf2, hkf2, hF⟩ := fe_fu (P := fun kq => FE (fn_X10_lying f I J) (fun _ => fl_X10_lying_63_2 r13 x17 I18 Kf2 kq x49 J50)) hF_Kf2
                replace hF := fe_eq hF (fl_X10_lying_63_2.eq_2 _ _ _ _ _ _ _)
                refine g_iload d_X10_lying_63 rfl ?_
                refine g_bipush (v := 8) d_X10_lying_65 kB_8 ?_
                refine g_icmp_ge d_X10_lying_67 (fun h67 => ?_) (fun h67 => ?_)
                · skip
                  replace hF := fe_pos hF h67
                  replace hF := fe_eq hF (congrFun (congrFun hKf2 x49) J50)
                  refine g_aload_n d_X10_lying_114 rfl ?_
                  refine g_aload_n d_X10_lying_115 rfl ?_
                  refine g_getR d_X10_lying_116 fq_RX10_17 rfl rfl ?_
                  refine g_bipush (v := 8) d_X10_lying_119 kB_8 ?_
                  refine g_iaload (N := 15) d_X10_lying_121 rfl kT_15 ⟨by decide, by decide⟩ kN_8 ?_
                  refine g_V1 d_X10_lying_122 cs_X10_lying_X10_within lk_RX10_392 im_X10_within se_X10_within rfl rfl rfl (Nat.le_of_ble_eq_true rfl) ⟨rfl, rfl⟩ ⟨Nat.zero_le _, Nat.zero_le _⟩ (ct_X10_within (I18 81 8) I18 J50 (hK51).1.2 (hK51).2.2 hs_63 ((hK51).1.2.2.2.1)) (fun r122 S122 I53 J54 q122_54 => ?_)
                  obtain ⟨rfl, hc122_55, r58, rfl, hf122_56⟩ := q122_54
                  replace hF := fe_b3 hF hf122_56
                  refine g_st (st' := [.int r58]) rfl ?_
                  have hK60 : (MI (bgI I) I53 ∧ MK (bgJ I J) J54) := ⟨mi_tr (hK51).1 hc122_55.1, mk_tr (hK51).2 hc122_55.2⟩
                  refine g_istore (L' := [some (.ref 78), some (.int f), some (.int r13), some (.int x15), some (.int x16), some (.int x17), some (.int r58)]) d_X10_lying_125 (by decide) rfl ?_
                  refine g_iload d_X10_lying_127 rfl ?_
                  refine g_iload d_X10_lying_129 rfl ?_
                  obtain ⟨j140_3, hj140_3, hF⟩ := fe_jx hF
                  have J_140 : ∀ (w61 : Int32), (FE (fn_X10_lying f I J) (fun _ => j140_3 w61)) → G m_X10_lying (rq m_X10_lying (fun r S' I' J' => S' = SHF ∧ True ∧ ∃ v : Int32, r = some (.int v) ∧ fn_X10_lying f I J = (v, I', J') ∧ (MI (bgI I) I' ∧ MK (bgJ I J) J'))) 0 0 140 [some (.ref 78), some (.int f), some (.int r13), some (.int x15), some (.int x16), some (.int x17), some (.int r58)] [.int w61] SHF I53 J54 := by
                    intro w61 hF_j140_3
                    have hF := fe_eq hF_j140_3 (congrFun hj140_3 w61)
                    refine g_istore_n (L' := [some (.ref 78), some (.int f), some (.int r13), some (.int w61), some (.int x16), some (.int x17), some (.int r58)]) d_X10_lying_140 (by decide) rfl ?_
                    refine g_iload d_X10_lying_141 rfl ?_
                    refine g_iload d_X10_lying_143 rfl ?_
                    refine g_icmp_le d_X10_lying_145 (fun h145 => ?_) (fun h145 => ?_)
                    · skip
                      replace hF := fe_pos hF h145
                      refine g_iload d_X10_lying_153 rfl ?_
                      refine g_istore (L' := [some (.ref 78), some (.int f), some (.int r13), some (.int w61), some (.int x16), some (.int x17), some (.int r58)]) d_X10_lying_155 (by decide) rfl ?_
                      refine g_iinc (v := (x17 + (1 : Int32))) (L' := [some (.ref 78), some (.int f), some (.int r13), some (.int w61), some (.int x16), some (.int (x17 + (1 : Int32))), some (.int r58)]) d_X10_lying_157 rfl (by rw [kI_1]) (by decide) rfl ?_
                      refine g_goto d_X10_lying_160 ?_
                      refine g_sb [some (.ref 78), some (.int f), some (.int r13), some (.int w61), some (.int x16), some (.int (x17 + (1 : Int32))), none] (by simp [subL]) ?_
                      exact ih_44 _ (by rw [← hmu_44]; exact mu_up (by grind)) w61 x16 (x17 + (1 : Int32)) I53 J54 rfl hK60 (by grind) ⟨kf1, Nat.lt_of_lt_of_le (by rw [← hmu_44]; exact mu_up (by grind)) hkf1, hF⟩
                    · skip
                      replace hF := fe_neg hF h145
                      refine g_iload d_X10_lying_148 rfl ?_
                      refine g_goto d_X10_lying_150 ?_
                      refine g_istore (L' := [some (.ref 78), some (.int f), some (.int r13), some (.int w61), some (.int r58), some (.int x17), some (.int r58)]) d_X10_lying_155 (by decide) rfl ?_
                      refine g_iinc (v := (x17 + (1 : Int32))) (L' := [some (.ref 78), some (.int f), some (.int r13), some (.int w61), some (.int r58), some (.int (x17 + (1 : Int32))), some (.int r58)]) d_X10_lying_157 rfl (by rw [kI_1]) (by decide) rfl ?_
                      refine g_goto d_X10_lying_160 ?_
                      refine g_sb [some (.ref 78), some (.int f), some (.int r13), some (.int w61), some (.int r58), some (.int (x17 + (1 : Int32))), none] (by simp [subL]) ?_
                      exact ih_44 _ (by rw [← hmu_44]; exact mu_up (by grind)) w61 r58 (x17 + (1 : Int32)) I53 J54 rfl hK60 (by grind) ⟨kf1, Nat.lt_of_lt_of_le (by rw [← hmu_44]; exact mu_up (by grind)) hkf1, hF⟩
                  refine g_icmp_le d_X10_lying_131 (fun h131 => ?_) (fun h131 => ?_)
                  · skip
                    replace hF := fe_pos hF h131
                    refine g_iload_n d_X10_lying_139 rfl ?_
                    exact J_140 x15 hF
                  · skip
                    replace hF := fe_neg hF h131
                    refine g_iload d_X10_lying_134 rfl ?_
                    refine g_goto d_X10_lying_136 ?_
                    exact J_140 x17 hF
                · skip
                  replace hF := fe_neg hF h67
                  refine g_aload_n d_X10_lying_70 rfl ?_
                  refine g_getR d_X10_lying_71 fq_RX10_7 rfl rfl ?_
                  refine g_bipush (v := 12) d_X10_lying_74 kB_12 ?_
                  refine g_iload d_X10_lying_76 rfl ?_
                  refine g_iadd d_X10_lying_78 ?_
                  refine g_laload (N := 320) d_X10_lying_79 rfl kT_320 (by constructor <;> grind) (by rw [tn_add (by constructor <;> grind) (by constructor <;> grind), kN_12]) ?_
                  refine g_lconst d_X10_lying_80 kL_1 ?_
                  refine g_lcmp_ne d_X10_lying_81 d_X10_lying_82 (fun h82 => ?_) (fun h82 => ?_)
                  · skip
                    replace hF := fe_neg hF h82
                    refine g_iinc (v := (x49 + (1 : Int32))) (L' := [some (.ref 78), some (.int f), some (.int r13), some (.int x15), some (.int x16), some (.int x17), some (.int (x49 + (1 : Int32)))]) d_X10_lying_108 rfl (by rw [kI_1]) (by decide) rfl ?_
                    refine g_goto d_X10_lying_111 ?_
                    exact ih_63 _ (by rw [← hmu_63]; exact mu_up h67) (x49 + (1 : Int32)) J50 rfl hK51 (lo_up hl52 h67) (by first | exact hs107 | exact hs_63) ⟨kf2, Nat.lt_of_lt_of_le (by rw [← hmu_63]; exact mu_up h67) hkf2, hF⟩
                  · skip
                    replace hF := fe_pos hF h82
                    have hlt : x49.toNatClampNeg < 8 := by have q := tn_lt (n := 8) hl52 h67; rwa [kN_8] at q
                    refine g_aload_n d_X10_lying_85 rfl ?_
                    refine g_getR d_X10_lying_86 fq_RX10_7 rfl rfl ?_
                    refine g_bipush (v := 100) d_X10_lying_89 kB_100 ?_
                    refine g_iload d_X10_lying_91 rfl ?_
                    refine g_iadd d_X10_lying_93 ?_
                    refine g_iload d_X10_lying_94 rfl ?_
                    refine g_iload_n d_X10_lying_96 rfl ?_
                    refine g_aload_n d_X10_lying_97 rfl ?_
                    refine g_iload d_X10_lying_98 rfl ?_
                    refine g_V1 d_X10_lying_100 cs_X10_lying_X10_placeOf lk_RX10_385 im_X10_placeOf se_X10_placeOf rfl rfl rfl (Nat.le_of_ble_eq_true rfl) ⟨rfl, rfl⟩ ⟨Nat.zero_le _, Nat.zero_le _⟩ (ct_X10_placeOf x49 I18 J50 ((hK51).2.2 0 (by decide)).1 (by grind)) (fun r100 S100 Ic63 Jc64 q100_61 => ?_)
                    obtain ⟨rfl, rfl, rfl, r67, rfl, hf100_65, hr100_67⟩ := q100_61
                    replace hF := fe_b3 hF hf100_65
                    refine g_st (st' := [.int r67, .int r13, .int x17, .int ((100 : Int32) + x49), .ref 79]) rfl ?_
                    refine g_S3 d_X10_lying_103 cs_X10_lying_X10_rowAt lk_RX10_388 im_X10_rowAt (Nat.le_of_ble_eq_true rfl) ⟨rfl, rfl⟩ ⟨Nat.zero_le _, Nat.zero_le _⟩ (ct_X10_rowAt x17 r13 r67 I18 J50 (by grind) (by grind)) (fun r103 S103 Ic70 Jc71 q103_68 => ?_)
                    obtain ⟨rfl, rfl, rfl, r74, rfl, hf103_72, hr103_74⟩ := q103_68
                    replace hF := fe_b3 hF hf103_72
                    refine g_st (st' := [.int r74, .int ((100 : Int32) + x49), .ref 79]) rfl ?_
                    refine g_i2l d_X10_lying_106 ?_
                    refine g_lastore (N := 320) d_X10_lying_107 rfl kT_320 (by constructor <;> grind) (by rw [tn_add (by constructor <;> grind) (by constructor <;> grind), kN_100])  ?_
                    refine g_nmJ (fun J76 eJ76 => ?_)
                    replace hF := fe_lt hF eJ76
                    have hK77 : (MI (bgI I) I18 ∧ MK (bgJ I J) J76) := (by rw [eJ76]; exact ⟨(hK51).1, mj_100 (hK51).2 hlt (i2l_bd (b := 2) (by grind))⟩)
                    have hs107 : HS J76 := by rw [eJ76]; exact hs_w hs_63 (by omega)
                    refine g_iinc (v := (x49 + (1 : Int32))) (L' := [some (.ref 78), some (.int f), some (.int r13), some (.int x15), some (.int x16), some (.int x17), some (.int (x49 + (1 : Int32)))]) d_X10_lying_108 rfl (by rw [kI_1]) (by decide) rfl ?_
                    refine g_goto d_X10_lying_111 ?_
                    exact ih_63 _ (by rw [← hmu_63]; exact mu_up h67) (x49 + (1 : Int32)) J76 rfl hK77 (lo_up hl52 h67) (by first | exact hs107 | exact hs_63) ⟨kf2, Nat.lt_of_lt_of_le (by rw [← hmu_63]; exact mu_up h67) hkf2, hF⟩
            exact K_63 _ (0 : Int32) J42 rfl hK48 (Int32.le_refl _) hs57 ⟨_, Nat.lt_succ_self _, hF⟩
      exact K_44 _ (-1 : Int32) (-1 : Int32) (0 : Int32) I1 J2 rfl hK7 (by grind) ⟨_, Nat.lt_succ_self _, hF⟩
    · skip
      replace hF := fe_neg hF h29
      refine g_ldcw (v := -1000000003) d_X10_lying_32 tw_1560 ?_
      exact g_ireturn d_X10_lying_35 rfl rfl rfl rfl ⟨rfl, trivial, (-1000000003 : Int32), rfl, hF, hK7⟩
  refine g_icmp_eq d_X10_lying_6 (fun h6 => ?_) (fun h6 => ?_)
  · skip
    replace hF := fe_pos hF h6
    exact J_21 (by grind) hF
  · skip
    replace hF := fe_neg hF h6
    refine g_aload_n d_X10_lying_9 rfl ?_
    refine g_iload_n d_X10_lying_10 rfl ?_
    refine g_V1 d_X10_lying_11 cs_X10_lying_X10_isFood lk_RX10_280 im_X10_isFood se_X10_isFood rfl rfl rfl (Nat.le_of_ble_eq_true rfl) ⟨rfl, rfl⟩ ⟨Nat.zero_le _, Nat.zero_le _⟩ (ct_X10_isFood f I1 J2 ) (fun r11 S11 Ic79 Jc80 q11_77 => ?_)
    obtain ⟨rfl, rfl, rfl, r83, rfl, hz11, hf11_81, hr11_83⟩ := q11_77
    replace hF := fe_b3 hF hf11_81
    refine g_st (st' := [.int r83]) rfl ?_
    refine g_if_ne d_X10_lying_14 (fun h14 => ?_) (fun h14 => ?_)
    · skip
      replace hF := fe_neg hF h14
      exact J_21 (by grind) hF
    · skip
      replace hF := fe_pos hF h14
      refine g_ldcw (v := -1000000001) d_X10_lying_17 tw_1296 ?_
      exact g_ireturn d_X10_lying_20 rfl rfl rfl rfl ⟨rfl, trivial, (-1000000001 : Int32), rfl, hF, hK7⟩
noncomputable def fl_X10_bulb_24_0 (Kf0 : Int32 → Int32 → Int32 → Iv → Jv → Int32 × Iv × Jv) : Nat → Int32 → Int32 → Int32 → Iv → Jv → Int32 × Iv × Jv
  | 0, x15, x16, x17, I18, J19 => (0, I18, J19)
  | kf0 + 1, x15, x16, x17, I18, J19 => if (3 : Int32) ≤ x17 then Kf0 x15 x16 x17 I18 J19 else b_n2 (fn_X10_copy (0 : Int32) (80 : Int32) I18 J19) (fun (_ : Iv) (J22 : Jv) => b_n3 (fn_X10_within x17 I18 J22) (fun (r34 : Int32) (I29 : Iv) (J30 : Jv) => j_n (fun (w37 : Int32) => if r34 ≤ x16 then fl_X10_bulb_24_0  Kf0 kf0 w37 x16 (x17 + (1 : Int32)) I29 J30 else fl_X10_bulb_24_0  Kf0 kf0 w37 r34 (x17 + (1 : Int32)) I29 J30) (fun (j57_1 : Int32 → Int32 × Iv × Jv) => if r34 ≤ x16 then j57_1 x15 else j57_1 x17)))
noncomputable def fn_X10_bulb (what : Int32) (I : Iv) (J : Jv) : Int32 × Iv × Jv :=
  b_n2 (fn_X10_begin I J) (fun (I1 : Iv) (J2 : Jv) => b_n3 (fn_X10_in (Int32.toInt64 what) (0 : Int64) (1 : Int64) I1 J2) (fun (r13 : Int32) (_ : Iv) (_ : Jv) => if r13 = 0 then ((-1000000002 : Int32), I1, J2) else fl_X10_bulb_24_0  (fun (x15 : Int32) (x16 : Int32) (x17 : Int32) (I18 : Iv) (J19 : Jv) => if what = 0 then (x15, I18, J19) else (x16, I18, J19)) (mU (3 : Int32) ((0 : Int32)) + 1) (-1 : Int32) (-1 : Int32) (0 : Int32) I1 J2))
set_option maxRecDepth 100000 in
set_option maxHeartbeats 4000000 in
theorem ct_X10_bulb (what : Int32) (I : Iv) (J : Jv) (hma : MA I) (hmj : MJ J) : Ct m_X10_bulb [.ref 78, .int what] SHF I J (fun r S' I' J' => S' = SHF ∧ True ∧ ∃ v : Int32, r = some (.int v) ∧ fn_X10_bulb what I J = (v, I', J') ∧ (MI (bgI I) I' ∧ MK (bgJ I J) J')) := by
  refine ct_of 4 (by decide +kernel) rfl rfl ?_
  have hK0 : (MI I I ∧ MK J J) := ⟨mi_rfl hma, mk_rfl hmj⟩
  have hF := fe_of (fn_X10_bulb.eq_1 what I J)
  refine g_aload_n d_X10_bulb_0 rfl ?_
  refine g_V0 d_X10_bulb_1 cs_X10_bulb_X10_begin lk_RX10_166 im_X10_begin se_X10_begin rfl rfl rfl (Nat.le_of_ble_eq_true rfl) ⟨rfl, rfl⟩ ⟨Nat.zero_le _, Nat.zero_le _⟩ (ct_X10_begin  I J hma hmj) (fun r1 S1 I1 J2 q1_2 => ?_)
  obtain ⟨rfl, hc1_3, rfl, hf1_4, hr1_5⟩ := q1_2
  replace hF := fe_b2 hF hf1_4
  refine g_st (st' := []) rfl ?_
  have hK7 : (MI (bgI I) I1 ∧ MK (bgJ I J) J2) := hr1_5
  refine g_iload_n d_X10_bulb_4 rfl ?_
  refine g_i2l d_X10_bulb_5 ?_
  refine g_lconst d_X10_bulb_6 kL_0 ?_
  refine g_lconst d_X10_bulb_7 kL_1 ?_
  refine g_S3 d_X10_bulb_8 cs_X10_bulb_X10_in lk_RX10_96 im_X10_in (Nat.le_of_ble_eq_true rfl) ⟨rfl, rfl⟩ ⟨Nat.zero_le _, Nat.zero_le _⟩ (ct_X10_inL what (0 : Int64) (1 : Int64) (0 : Int32) (1 : Int32) (by decide) (by decide) I1 J2) (fun r8 S8 Ic9 Jc10 q8_7 => ?_)
  obtain ⟨rfl, rfl, rfl, r13, rfl, hz8, hf8_11, hr8_13⟩ := q8_7
  replace hF := fe_b3 hF hf8_11
  refine g_st (st' := [.int r13]) rfl ?_
  refine g_if_ne d_X10_bulb_11 (fun h11 => ?_) (fun h11 => ?_)
  · skip
    replace hF := fe_neg hF h11
    refine g_iconst (v := -1) d_X10_bulb_17 kI_m1 ?_
    refine g_istore_n (L' := [some (.ref 78), some (.int what), some (.int (-1 : Int32)), none, none, none]) d_X10_bulb_18 (by decide) rfl ?_
    refine g_iconst (v := -1) d_X10_bulb_19 kI_m1 ?_
    refine g_istore_n (L' := [some (.ref 78), some (.int what), some (.int (-1 : Int32)), some (.int (-1 : Int32)), none, none]) d_X10_bulb_20 (by decide) rfl ?_
    refine g_iconst (v := 0) d_X10_bulb_21 kI_0 ?_
    refine g_istore (L' := [some (.ref 78), some (.int what), some (.int (-1 : Int32)), some (.int (-1 : Int32)), some (.int (0 : Int32)), none]) d_X10_bulb_22 (by decide) rfl ?_
    obtain ⟨Kf0, hKf0, hF⟩ := fe_kx (f := fun K => fl_X10_bulb_24_0  K (mU (3 : Int32) ((0 : Int32)) + 1) (-1 : Int32) (-1 : Int32) (0 : Int32) I1 J2) hF
    have K_24 : ∀ (nu : Nat) (x15 : Int32) (x16 : Int32) (x17 : Int32) (I18 : Iv) (J19 : Jv), mU (3 : Int32) x17 = nu → ((MI (bgI I) I18 ∧ MK (bgJ I J) J19)) → ((0 : Int32) ≤ x17) → (∃ kq : Nat, nu < kq ∧ (fun kq => FE (fn_X10_bulb what I J) (fun _ => fl_X10_bulb_24_0  Kf0 kq x15 x16 x17 I18 J19)) kq) → G m_X10_bulb (rq m_X10_bulb (fun r S' I' J' => S' = SHF ∧ True ∧ ∃ v : Int32, r = some (.int v) ∧ fn_X10_bulb what I J = (v, I', J') ∧ (MI (bgI I) I' ∧ MK (bgJ I J) J'))) 0 0 24 [some (.ref 78), some (.int what), some (.int x15), some (.int x16), some (.int x17), none] [] SHF I18 J19 := by
      intro nu
      induction nu using Nat.strongRecOn with
      | ind nu ih_24 =>
        intro x15 x16 x17 I18 J19 hmu_24 hK20 hl21 hF_Kf0
        obtain ⟨kf0, hkf0, hF⟩ := fe_fu (P := fun kq => FE (fn_X10_bulb what I J) (fun _ => fl_X10_bulb_24_0  Kf0 kq x15 x16 x17 I18 J19)) hF_Kf0
        replace hF := fe_eq hF (fl_X10_bulb_24_0.eq_2 _ _ _ _ _ _ _)
        refine g_iload d_X10_bulb_24 rfl ?_
        refine g_iconst (v := 3) d_X10_bulb_26 kI_3 ?_
        refine g_icmp_ge d_X10_bulb_27 (fun h27 => ?_) (fun h27 => ?_)
        · skip
          replace hF := fe_pos hF h27
          replace hF := fe_eq hF (congrFun (congrFun (congrFun (congrFun (congrFun hKf0 x15) x16) x17) I18) J19)
          refine g_iload_n d_X10_bulb_77 rfl ?_
          refine g_if_ne d_X10_bulb_78 (fun h78 => ?_) (fun h78 => ?_)
          · skip
            replace hF := fe_neg hF h78
            refine g_iload_n d_X10_bulb_85 rfl ?_
            exact g_ireturn d_X10_bulb_86 rfl rfl rfl rfl ⟨rfl, trivial, x16, rfl, hF, hK20⟩
          · skip
            replace hF := fe_pos hF h78
            refine g_iload_n d_X10_bulb_81 rfl ?_
            refine g_goto d_X10_bulb_82 ?_
            exact g_ireturn d_X10_bulb_86 rfl rfl rfl rfl ⟨rfl, trivial, x15, rfl, hF, hK20⟩
        · skip
          replace hF := fe_neg hF h27
          refine g_aload_n d_X10_bulb_30 rfl ?_
          refine g_iconst (v := 0) d_X10_bulb_31 kI_0 ?_
          refine g_bipush (v := 80) d_X10_bulb_32 kB_80 ?_
          refine g_V2 d_X10_bulb_34 cs_X10_bulb_X10_copy lk_RX10_382 im_X10_copy se_X10_copy rfl rfl rfl (Nat.le_of_ble_eq_true rfl) ⟨rfl, rfl⟩ ⟨Nat.zero_le _, Nat.zero_le _⟩ (ct_X10_copy (0 : Int32) (80 : Int32) I18 J19 (by decide) (by decide) (by grind)) (fun r34 S34 Ic24 J22 q34_22 => ?_)
          obtain ⟨rfl, ⟨rfl, hc34_24⟩, rfl, hf34_25, hr34_26⟩ := q34_22
          replace hF := fe_b2 hF hf34_25
          refine g_st (st' := []) rfl ?_
          have hK28 : (MI (bgI I) I18 ∧ MK (bgJ I J) J22) := ⟨(hK20).1, cy_mk80 (by decide) (hK20).2 hr34_26⟩
          have hs57 : HS J22 := cy_hs ((hK20).2.2 0 (by decide)).1 hr34_26
          refine g_aload_n d_X10_bulb_37 rfl ?_
          refine g_iload d_X10_bulb_38 rfl ?_
          refine g_V1 d_X10_bulb_40 cs_X10_bulb_X10_within lk_RX10_392 im_X10_within se_X10_within rfl rfl rfl (Nat.le_of_ble_eq_true rfl) ⟨rfl, rfl⟩ ⟨Nat.zero_le _, Nat.zero_le _⟩ (ct_X10_within x17 I18 J22 (hK28).1.2 (hK28).2.2 hs57 (by grind)) (fun r40 S40 I29 J30 q40_30 => ?_)
          obtain ⟨rfl, hc40_31, r34, rfl, hf40_32⟩ := q40_30
          replace hF := fe_b3 hF hf40_32
          refine g_st (st' := [.int r34]) rfl ?_
          have hK36 : (MI (bgI I) I29 ∧ MK (bgJ I J) J30) := ⟨mi_tr (hK28).1 hc40_31.1, mk_tr (hK28).2 hc40_31.2⟩
          refine g_istore (L' := [some (.ref 78), some (.int what), some (.int x15), some (.int x16), some (.int x17), some (.int r34)]) d_X10_bulb_43 (by decide) rfl ?_
          refine g_iload d_X10_bulb_45 rfl ?_
          refine g_iload_n d_X10_bulb_47 rfl ?_
          obtain ⟨j57_1, hj57_1, hF⟩ := fe_jx hF
          have J_57 : ∀ (w37 : Int32), (FE (fn_X10_bulb what I J) (fun _ => j57_1 w37)) → G m_X10_bulb (rq m_X10_bulb (fun r S' I' J' => S' = SHF ∧ True ∧ ∃ v : Int32, r = some (.int v) ∧ fn_X10_bulb what I J = (v, I', J') ∧ (MI (bgI I) I' ∧ MK (bgJ I J) J'))) 0 0 57 [some (.ref 78), some (.int what), some (.int x15), some (.int x16), some (.int x17), some (.int r34)] [.int w37] SHF I29 J30 := by
            intro w37 hF_j57_1
            have hF := fe_eq hF_j57_1 (congrFun hj57_1 w37)
            refine g_istore_n (L' := [some (.ref 78), some (.int what), some (.int w37), some (.int x16), some (.int x17), some (.int r34)]) d_X10_bulb_57 (by decide) rfl ?_
            refine g_iload d_X10_bulb_58 rfl ?_
            refine g_iload_n d_X10_bulb_60 rfl ?_
            refine g_icmp_le d_X10_bulb_61 (fun h61 => ?_) (fun h61 => ?_)
            · skip
              replace hF := fe_pos hF h61
              refine g_iload_n d_X10_bulb_69 rfl ?_
              refine g_istore_n (L' := [some (.ref 78), some (.int what), some (.int w37), some (.int x16), some (.int x17), some (.int r34)]) d_X10_bulb_70 (by decide) rfl ?_
              refine g_iinc (v := (x17 + (1 : Int32))) (L' := [some (.ref 78), some (.int what), some (.int w37), some (.int x16), some (.int (x17 + (1 : Int32))), some (.int r34)]) d_X10_bulb_71 rfl (by rw [kI_1]) (by decide) rfl ?_
              refine g_goto d_X10_bulb_74 ?_
              refine g_sb [some (.ref 78), some (.int what), some (.int w37), some (.int x16), some (.int (x17 + (1 : Int32))), none] (by simp [subL]) ?_
              exact ih_24 _ (by rw [← hmu_24]; exact mu_up h27) w37 x16 (x17 + (1 : Int32)) I29 J30 rfl hK36 (lo_up hl21 h27) ⟨kf0, Nat.lt_of_lt_of_le (by rw [← hmu_24]; exact mu_up h27) hkf0, hF⟩
            · skip
              replace hF := fe_neg hF h61
              refine g_iload d_X10_bulb_64 rfl ?_
              refine g_goto d_X10_bulb_66 ?_
              refine g_istore_n (L' := [some (.ref 78), some (.int what), some (.int w37), some (.int r34), some (.int x17), some (.int r34)]) d_X10_bulb_70 (by decide) rfl ?_
              refine g_iinc (v := (x17 + (1 : Int32))) (L' := [some (.ref 78), some (.int what), some (.int w37), some (.int r34), some (.int (x17 + (1 : Int32))), some (.int r34)]) d_X10_bulb_71 rfl (by rw [kI_1]) (by decide) rfl ?_
              refine g_goto d_X10_bulb_74 ?_
              refine g_sb [some (.ref 78), some (.int what), some (.int w37), some (.int r34), some (.int (x17 + (1 : Int32))), none] (by simp [subL]) ?_
              exact ih_24 _ (by rw [← hmu_24]; exact mu_up h27) w37 r34 (x17 + (1 : Int32)) I29 J30 rfl hK36 (lo_up hl21 h27) ⟨kf0, Nat.lt_of_lt_of_le (by rw [← hmu_24]; exact mu_up h27) hkf0, hF⟩
          refine g_icmp_le d_X10_bulb_48 (fun h48 => ?_) (fun h48 => ?_)
          · skip
            replace hF := fe_pos hF h48
            refine g_iload_n d_X10_bulb_56 rfl ?_
            exact J_57 x15 hF
          · skip
            replace hF := fe_neg hF h48
            refine g_iload d_X10_bulb_51 rfl ?_
            refine g_goto d_X10_bulb_53 ?_
            exact J_57 x17 hF
    exact K_24 _ (-1 : Int32) (-1 : Int32) (0 : Int32) I1 J2 rfl hK7 (Int32.le_refl _) ⟨_, Nat.lt_succ_self _, hF⟩
  · skip
    replace hF := fe_pos hF h11
    refine g_ldc (v := -1000000002) d_X10_bulb_14 tw_1199 ?_
    exact g_ireturn d_X10_bulb_16 rfl rfl rfl rfl ⟨rfl, trivial, (-1000000002 : Int32), rfl, hF, hK7⟩
noncomputable def fl_X10_without_34_0 (f : Int32) (I1 : Iv) (Kf0 : Int32 → Jv → Int32 × Iv × Jv) : Nat → Int32 → Jv → Int32 × Iv × Jv
  | 0, x24, J25 => (0, I1, J25)
  | kf0 + 1, x24, J25 => if (864 : Int32) < x24 then Kf0 x24 J25 else b_n2 (fn_X10_go (80 : Int32) (1 : Int32) I1 J25) (fun (_ : Iv) (J28 : Jv) => b_n3 (fn_X10_isWithin (80 : Int32) f I1 J28) (fun (r40 : Int32) (_ : Iv) (_ : Jv) => if r40 = 0 then (x24, I1, J28) else fl_X10_without_34_0 f I1 Kf0 kf0 (x24 + (1 : Int32)) J28))
noncomputable def fn_X10_without (f : Int32) (I : Iv) (J : Jv) : Int32 × Iv × Jv :=
  b_n2 (fn_X10_begin I J) (fun (I1 : Iv) (J2 : Jv) => b_n3 (fn_X10_isFood f I1 J2) (fun (r13 : Int32) (_ : Iv) (_ : Jv) => if r13 = 0 then ((-1000000001 : Int32), I1, J2) else b_n2 (fn_X10_copy (0 : Int32) (80 : Int32) I1 J2) (fun (_ : Iv) (J15 : Jv) => l_t (wJ J15 79 149 (0 : Int64)) (fun (J22 : Jv) => fl_X10_without_34_0 f I1 (fun (x24 : Int32) (J25 : Jv) => ((-1 : Int32), I1, J25)) (mUe (864 : Int32) ((0 : Int32)) + 1) (0 : Int32) J22))))
set_option maxRecDepth 100000 in
set_option maxHeartbeats 4000000 in
theorem ct_X10_without (f : Int32) (I : Iv) (J : Jv) (hma : MA I) (hmj : MJ J) : Ct m_X10_without [.ref 78, .int f] SHF I J (fun r S' I' J' => S' = SHF ∧ True ∧ ∃ v : Int32, r = some (.int v) ∧ fn_X10_without f I J = (v, I', J') ∧ (MI (bgI I) I' ∧ MK (bgJ I J) J')) := by
  refine ct_of 1 (by decide +kernel) rfl rfl ?_
  have hK0 : (MI I I ∧ MK J J) := ⟨mi_rfl hma, mk_rfl hmj⟩
  have hF := fe_of (fn_X10_without.eq_1 f I J)
  refine g_aload_n d_X10_without_0 rfl ?_
  refine g_V0 d_X10_without_1 cs_X10_without_X10_begin lk_RX10_166 im_X10_begin se_X10_begin rfl rfl rfl (Nat.le_of_ble_eq_true rfl) ⟨rfl, rfl⟩ ⟨Nat.zero_le _, Nat.zero_le _⟩ (ct_X10_begin  I J hma hmj) (fun r1 S1 I1 J2 q1_2 => ?_)
  obtain ⟨rfl, hc1_3, rfl, hf1_4, hr1_5⟩ := q1_2
  replace hF := fe_b2 hF hf1_4
  refine g_st (st' := []) rfl ?_
  have hK7 : (MI (bgI I) I1 ∧ MK (bgJ I J) J2) := hr1_5
  refine g_aload_n d_X10_without_4 rfl ?_
  refine g_iload_n d_X10_without_5 rfl ?_
  refine g_V1 d_X10_without_6 cs_X10_without_X10_isFood lk_RX10_280 im_X10_isFood se_X10_isFood rfl rfl rfl (Nat.le_of_ble_eq_true rfl) ⟨rfl, rfl⟩ ⟨Nat.zero_le _, Nat.zero_le _⟩ (ct_X10_isFood f I1 J2 ) (fun r6 S6 Ic9 Jc10 q6_7 => ?_)
  obtain ⟨rfl, rfl, rfl, r13, rfl, hz6, hf6_11, hr6_13⟩ := q6_7
  replace hF := fe_b3 hF hf6_11
  refine g_st (st' := [.int r13]) rfl ?_
  refine g_if_ne d_X10_without_9 (fun h9 => ?_) (fun h9 => ?_)
  · skip
    replace hF := fe_neg hF h9
    have hff : 0 ≤ f ∧ f < 8 := by grind
    have hth : J2 79 (12 + f).toNatClampNeg = 1 := by grind
    refine g_aload_n d_X10_without_16 rfl ?_
    refine g_iconst (v := 0) d_X10_without_17 kI_0 ?_
    refine g_bipush (v := 80) d_X10_without_18 kB_80 ?_
    refine g_V2 d_X10_without_20 cs_X10_without_X10_copy lk_RX10_382 im_X10_copy se_X10_copy rfl rfl rfl (Nat.le_of_ble_eq_true rfl) ⟨rfl, rfl⟩ ⟨Nat.zero_le _, Nat.zero_le _⟩ (ct_X10_copy (0 : Int32) (80 : Int32) I1 J2 (by decide) (by decide) (by grind)) (fun r20 S20 Ic17 J15 q20_15 => ?_)
    obtain ⟨rfl, ⟨rfl, hc20_17⟩, rfl, hf20_18, hr20_19⟩ := q20_15
    replace hF := fe_b2 hF hf20_18
    refine g_st (st' := []) rfl ?_
    have hK21 : (MI (bgI I) I1 ∧ MK (bgJ I J) J15) := ⟨(hK7).1, cy_mk80 (by decide) (hK7).2 hr20_19⟩
    have hs57 : HS J15 := cy_hs ((hK7).2.2 0 (by decide)).1 hr20_19
    have hc20 := hs_cap hs57 hff.1 hff.2 (cy_there hr20_19 hff.1 hff.2 hth)
    refine g_aload_n d_X10_without_23 rfl ?_
    refine g_getR d_X10_without_24 fq_RX10_7 rfl rfl ?_
    refine g_sipush (v := 149) d_X10_without_27 kS_149 ?_
    refine g_lconst d_X10_without_30 kL_0 ?_
    refine g_lastore (N := 320) d_X10_without_31 rfl kT_320 ⟨by decide, by decide⟩ kN_149  ?_
    refine g_nmJ (fun J22 eJ22 => ?_)
    replace hF := fe_lt hF eJ22
    have hK23 : (MI (bgI I) I1 ∧ MK (bgJ I J) J22) := (by rw [eJ22]; exact ⟨(hK21).1, mj_free (hK21).2 (by unfold jfree; refine ⟨fun X hX => ?_, fun X hX => ?_⟩ <;> omega)⟩)
    have hc31 := cf_w (v := 0) hff.1 hff.2 hc20
    rw [← eJ22] at hc31
    refine g_iconst (v := 0) d_X10_without_32 kI_0 ?_
    refine g_istore_n (L' := [some (.ref 78), some (.int f), some (.int (0 : Int32))]) d_X10_without_33 (by decide) rfl ?_
    obtain ⟨Kf0, hKf0, hF⟩ := fe_kx (f := fun K => fl_X10_without_34_0 f I1 K (mUe (864 : Int32) ((0 : Int32)) + 1) (0 : Int32) J22) hF
    have K_34 : ∀ (nu : Nat) (x24 : Int32) (J25 : Jv), mUe (864 : Int32) x24 = nu → ((MI (bgI I) I1 ∧ MK (bgJ I J) J25)) → ((0 : Int32) ≤ x24) → (1 ≤ J25 79 ((80 : Int32) + 28 + (4 + f) - 4).toNatClampNeg) → (∃ kq : Nat, nu < kq ∧ (fun kq => FE (fn_X10_without f I J) (fun _ => fl_X10_without_34_0 f I1 Kf0 kq x24 J25)) kq) → G m_X10_without (rq m_X10_without (fun r S' I' J' => S' = SHF ∧ True ∧ ∃ v : Int32, r = some (.int v) ∧ fn_X10_without f I J = (v, I', J') ∧ (MI (bgI I) I' ∧ MK (bgJ I J) J'))) 0 0 34 [some (.ref 78), some (.int f), some (.int x24)] [] SHF I1 J25 := by
      intro nu
      induction nu using Nat.strongRecOn with
      | ind nu ih_34 =>
        intro x24 J25 hmu_34 hK26 hl27 hc_34 hF_Kf0
        obtain ⟨kf0, hkf0, hF⟩ := fe_fu (P := fun kq => FE (fn_X10_without f I J) (fun _ => fl_X10_without_34_0 f I1 Kf0 kq x24 J25)) hF_Kf0
        replace hF := fe_eq hF (fl_X10_without_34_0.eq_2 _ _ _ _ _ _)
        refine g_iload_n d_X10_without_34 rfl ?_
        refine g_sipush (v := 864) d_X10_without_35 kS_864 ?_
        refine g_icmp_gt d_X10_without_38 (fun h38 => ?_) (fun h38 => ?_)
        · skip
          replace hF := fe_pos hF h38
          replace hF := fe_eq hF (congrFun (congrFun hKf0 x24) J25)
          refine g_iconst (v := -1) d_X10_without_66 kI_m1 ?_
          exact g_ireturn d_X10_without_67 rfl rfl rfl rfl ⟨rfl, trivial, (-1 : Int32), rfl, hF, hK26⟩
        · skip
          replace hF := fe_neg hF h38
          refine g_aload_n d_X10_without_41 rfl ?_
          refine g_bipush (v := 80) d_X10_without_42 kB_80 ?_
          refine g_iconst (v := 1) d_X10_without_44 kI_1 ?_
          refine g_V2 d_X10_without_45 cs_X10_without_X10_go lk_RX10_289 im_X10_go se_X10_go rfl rfl rfl (Nat.le_of_ble_eq_true rfl) ⟨rfl, rfl⟩ ⟨Nat.zero_le _, Nat.zero_le _⟩ (ct_X10_go (80 : Int32) (1 : Int32) I1 J25 (by decide) ((hK26).2.2 _ (by decide)).2.1 ((hK26).2.2 _ (by decide)).1 ((hK26).1.2.2.1) (by grind) ((hK26).1.2.2.2.1) ((hK26).1.2.2.2.2.1)) (fun r45 S45 Ic30 J28 q45_28 => ?_)
          obtain ⟨rfl, ⟨rfl, hc45_30⟩, rfl, hf45_31, hr45_32⟩ := q45_28
          replace hF := fe_b2 hF hf45_31
          refine g_st (st' := []) rfl ?_
          have hK34 : (MI (bgI I) I1 ∧ MK (bgJ I J) J28) := ⟨(hK26).1, tg_mk80 (hK26).2 hc45_30⟩
          have hc45 := cf_tg hff.1 hff.2 hc45_30 hc_34
          refine g_aload_n d_X10_without_48 rfl ?_
          refine g_bipush (v := 80) d_X10_without_49 kB_80 ?_
          refine g_iload_n d_X10_without_51 rfl ?_
          refine g_V2 d_X10_without_52 cs_X10_without_X10_isWithin lk_RX10_283 im_X10_isWithin se_X10_isWithin rfl rfl rfl (Nat.le_of_ble_eq_true rfl) ⟨rfl, rfl⟩ ⟨Nat.zero_le _, Nat.zero_le _⟩ (ct_X10_isWithin (80 : Int32) f I1 J28 (by decide) (by grind) hc45) (fun r52 S52 Ic36 Jc37 q52_34 => ?_)
          obtain ⟨rfl, rfl, rfl, r40, rfl, hz52, hf52_38⟩ := q52_34
          replace hF := fe_b3 hF hf52_38
          refine g_st (st' := [.int r40]) rfl ?_
          refine g_if_ne d_X10_without_55 (fun h55 => ?_) (fun h55 => ?_)
          · skip
            replace hF := fe_neg hF h55
            refine g_iinc (v := (x24 + (1 : Int32))) (L' := [some (.ref 78), some (.int f), some (.int (x24 + (1 : Int32)))]) d_X10_without_60 rfl (by rw [kI_1]) (by decide) rfl ?_
            refine g_goto d_X10_without_63 ?_
            exact ih_34 _ (by rw [← hmu_34]; exact mu_upe h38 (by decide)) (x24 + (1 : Int32)) J28 rfl hK34 (lo_upe hl27 h38 (by decide)) hc45 ⟨kf0, Nat.lt_of_lt_of_le (by rw [← hmu_34]; exact mu_upe h38 (by decide)) hkf0, hF⟩
          · skip
            replace hF := fe_pos hF h55
            refine g_iload_n d_X10_without_58 rfl ?_
            exact g_ireturn d_X10_without_59 rfl rfl rfl rfl ⟨rfl, trivial, x24, rfl, hF, hK34⟩
    exact K_34 _ (0 : Int32) J22 rfl hK23 (Int32.le_refl _) hc31 ⟨_, Nat.lt_succ_self _, hF⟩
  · skip
    replace hF := fe_pos hF h9
    refine g_ldcw (v := -1000000001) d_X10_without_12 tw_1296 ?_
    exact g_ireturn d_X10_without_15 rfl rfl rfl rfl ⟨rfl, trivial, (-1000000001 : Int32), rfl, hF, hK7⟩
noncomputable def fn_X10_cheap (a : Int32) (b : Int32) (v_ : Int32) (I : Iv) (J : Jv) : Int32 × Iv × Jv :=
  b_n2 (fn_X10_begin I J) (fun (I1 : Iv) (J2 : Jv) => j_n (l_t (wI I1 78 31 a) (fun (I8 : Iv) => l_t (wI I8 78 32 b) (fun (I10 : Iv) => l_t (wI I10 78 33 v_) (fun (I12 : Iv) => ((1 : Int32), I12, J2))))) (fun (j51_0 : Int32 × Iv × Jv) => if a = (-1 : Int32) then j51_0 else b_n3 (fn_X10_in (Int32.toInt64 a) (0 : Int64) (24 : Int64) I1 J2) (fun (r19 : Int32) (_ : Iv) (_ : Jv) => if r19 = 0 then ((-1000000002 : Int32), I1, J2) else b_n3 (fn_X10_in (Int32.toInt64 b) (Int32.toInt64 (a + (1 : Int32))) (24 : Int64) I1 J2) (fun (r26 : Int32) (_ : Iv) (_ : Jv) => if r26 = 0 then ((-1000000002 : Int32), I1, J2) else b_n3 (fn_X10_in (Int32.toInt64 v_) (0 : Int64) (999 : Int64) I1 J2) (fun (r33 : Int32) (_ : Iv) (_ : Jv) => if r33 = 0 then ((-1000000002 : Int32), I1, J2) else j51_0)))))
set_option maxRecDepth 100000 in
set_option maxHeartbeats 4000000 in
theorem ct_X10_cheap (a : Int32) (b : Int32) (v_ : Int32) (I : Iv) (J : Jv) (hma : MA I) (hmj : MJ J) : Ct m_X10_cheap [.ref 78, .int a, .int b, .int v_] SHF I J (fun r S' I' J' => S' = SHF ∧ True ∧ ∃ v : Int32, r = some (.int v) ∧ fn_X10_cheap a b v_ I J = (v, I', J') ∧ (MI (bgI I) I' ∧ MK (bgJ I J) J')) := by
  refine ct_of 0 (by decide +kernel) rfl rfl ?_
  have hK0 : (MI I I ∧ MK J J) := ⟨mi_rfl hma, mk_rfl hmj⟩
  have hF := fe_of (fn_X10_cheap.eq_1 a b v_ I J)
  refine g_aload_n d_X10_cheap_0 rfl ?_
  refine g_V0 d_X10_cheap_1 cs_X10_cheap_X10_begin lk_RX10_166 im_X10_begin se_X10_begin rfl rfl rfl (Nat.le_of_ble_eq_true rfl) ⟨rfl, rfl⟩ ⟨Nat.zero_le _, Nat.zero_le _⟩ (ct_X10_begin  I J hma hmj) (fun r1 S1 I1 J2 q1_2 => ?_)
  obtain ⟨rfl, hc1_3, rfl, hf1_4, hr1_5⟩ := q1_2
  replace hF := fe_b2 hF hf1_4
  refine g_st (st' := []) rfl ?_
  have hK7 : (MI (bgI I) I1 ∧ MK (bgJ I J) J2) := hr1_5
  refine g_iload_n d_X10_cheap_4 rfl ?_
  refine g_iconst (v := -1) d_X10_cheap_5 kI_m1 ?_
  obtain ⟨j51_0, hj51_0, hF⟩ := fe_jx hF
  have J_51 : (FE (fn_X10_cheap a b v_ I J) (fun _ => j51_0)) → G m_X10_cheap (rq m_X10_cheap (fun r S' I' J' => S' = SHF ∧ True ∧ ∃ v : Int32, r = some (.int v) ∧ fn_X10_cheap a b v_ I J = (v, I', J') ∧ (MI (bgI I) I' ∧ MK (bgJ I J) J'))) 0 0 51 [some (.ref 78), some (.int a), some (.int b), some (.int v_)] [] SHF I1 J2 := by
    intro hF_j51_0
    have hF := fe_eq hF_j51_0 hj51_0
    refine g_aload_n d_X10_cheap_51 rfl ?_
    refine g_iload_n d_X10_cheap_52 rfl ?_
    refine g_putI d_X10_cheap_53 fq_RX10_91 rfl rfl ?_
    refine g_nmI (fun I8 eI8 => ?_)
    replace hF := fe_lt hF eI8
    have hK9 : (MI (bgI I) I8 ∧ MK (bgJ I J) J2) := (by rw [eI8]; exact ⟨mi_free (hK7).1 rfl, (hK7).2⟩)
    refine g_aload_n d_X10_cheap_56 rfl ?_
    refine g_iload_n d_X10_cheap_57 rfl ?_
    refine g_putI d_X10_cheap_58 fq_RX10_397 rfl rfl ?_
    refine g_nmI (fun I10 eI10 => ?_)
    replace hF := fe_lt hF eI10
    have hK11 : (MI (bgI I) I10 ∧ MK (bgJ I J) J2) := (by rw [eI10]; exact ⟨mi_free (hK9).1 rfl, (hK9).2⟩)
    refine g_aload_n d_X10_cheap_61 rfl ?_
    refine g_iload_n d_X10_cheap_62 rfl ?_
    refine g_putI d_X10_cheap_63 fq_RX10_400 rfl rfl ?_
    refine g_nmI (fun I12 eI12 => ?_)
    replace hF := fe_lt hF eI12
    have hK13 : (MI (bgI I) I12 ∧ MK (bgJ I J) J2) := (by rw [eI12]; exact ⟨mi_free (hK11).1 rfl, (hK11).2⟩)
    refine g_iconst (v := 1) d_X10_cheap_66 kI_1 ?_
    exact g_ireturn d_X10_cheap_67 rfl rfl rfl rfl ⟨rfl, trivial, (1 : Int32), rfl, hF, hK13⟩
  refine g_icmp_eq d_X10_cheap_6 (fun h6 => ?_) (fun h6 => ?_)
  · skip
    replace hF := fe_pos hF h6
    exact J_51 hF
  · skip
    replace hF := fe_neg hF h6
    refine g_iload_n d_X10_cheap_9 rfl ?_
    refine g_i2l d_X10_cheap_10 ?_
    refine g_lconst d_X10_cheap_11 kL_0 ?_
    refine g_ldc2 (v := 24) d_X10_cheap_12 tw_1611 ?_
    refine g_S3 d_X10_cheap_15 cs_X10_cheap_X10_in lk_RX10_96 im_X10_in (Nat.le_of_ble_eq_true rfl) ⟨rfl, rfl⟩ ⟨Nat.zero_le _, Nat.zero_le _⟩ (ct_X10_inL a (0 : Int64) (24 : Int64) (0 : Int32) (24 : Int32) (by decide) (by decide) I1 J2) (fun r15 S15 Ic15 Jc16 q15_13 => ?_)
    obtain ⟨rfl, rfl, rfl, r19, rfl, hz15, hf15_17, hr15_19⟩ := q15_13
    replace hF := fe_b3 hF hf15_17
    refine g_st (st' := [.int r19]) rfl ?_
    refine g_if_eq d_X10_cheap_18 (fun h18 => ?_) (fun h18 => ?_)
    · skip
      replace hF := fe_pos hF h18
      refine g_ldc (v := -1000000002) d_X10_cheap_48 tw_1199 ?_
      exact g_ireturn d_X10_cheap_50 rfl rfl rfl rfl ⟨rfl, trivial, (-1000000002 : Int32), rfl, hF, hK7⟩
    · skip
      replace hF := fe_neg hF h18
      refine g_iload_n d_X10_cheap_21 rfl ?_
      refine g_i2l d_X10_cheap_22 ?_
      refine g_iload_n d_X10_cheap_23 rfl ?_
      refine g_iconst (v := 1) d_X10_cheap_24 kI_1 ?_
      refine g_iadd d_X10_cheap_25 ?_
      refine g_i2l d_X10_cheap_26 ?_
      refine g_ldc2 (v := 24) d_X10_cheap_27 tw_1611 ?_
      refine g_S3 d_X10_cheap_30 cs_X10_cheap_X10_in lk_RX10_96 im_X10_in (Nat.le_of_ble_eq_true rfl) ⟨rfl, rfl⟩ ⟨Nat.zero_le _, Nat.zero_le _⟩ (ct_X10_inL b (Int32.toInt64 (a + (1 : Int32))) (24 : Int64) (a + (1 : Int32)) (24 : Int32) rfl (by decide) I1 J2) (fun r30 S30 Ic22 Jc23 q30_20 => ?_)
      obtain ⟨rfl, rfl, rfl, r26, rfl, hz30, hf30_24, hr30_26⟩ := q30_20
      replace hF := fe_b3 hF hf30_24
      refine g_st (st' := [.int r26]) rfl ?_
      refine g_if_eq d_X10_cheap_33 (fun h33 => ?_) (fun h33 => ?_)
      · skip
        replace hF := fe_pos hF h33
        refine g_ldc (v := -1000000002) d_X10_cheap_48 tw_1199 ?_
        exact g_ireturn d_X10_cheap_50 rfl rfl rfl rfl ⟨rfl, trivial, (-1000000002 : Int32), rfl, hF, hK7⟩
      · skip
        replace hF := fe_neg hF h33
        refine g_iload_n d_X10_cheap_36 rfl ?_
        refine g_i2l d_X10_cheap_37 ?_
        refine g_lconst d_X10_cheap_38 kL_0 ?_
        refine g_ldc2 (v := 999) d_X10_cheap_39 tw_1476 ?_
        refine g_S3 d_X10_cheap_42 cs_X10_cheap_X10_in lk_RX10_96 im_X10_in (Nat.le_of_ble_eq_true rfl) ⟨rfl, rfl⟩ ⟨Nat.zero_le _, Nat.zero_le _⟩ (ct_X10_inL v_ (0 : Int64) (999 : Int64) (0 : Int32) (999 : Int32) (by decide) (by decide) I1 J2) (fun r42 S42 Ic29 Jc30 q42_27 => ?_)
        obtain ⟨rfl, rfl, rfl, r33, rfl, hz42, hf42_31, hr42_33⟩ := q42_27
        replace hF := fe_b3 hF hf42_31
        refine g_st (st' := [.int r33]) rfl ?_
        refine g_if_ne d_X10_cheap_45 (fun h45 => ?_) (fun h45 => ?_)
        · skip
          replace hF := fe_neg hF h45
          exact J_51 hF
        · skip
          replace hF := fe_pos hF h45
          refine g_ldc (v := -1000000002) d_X10_cheap_48 tw_1199 ?_
          exact g_ireturn d_X10_cheap_50 rfl rfl rfl rfl ⟨rfl, trivial, (-1000000002 : Int32), rfl, hF, hK7⟩
noncomputable def fl_X10_paid_117_3 (I : Iv) (J30 : Jv) (Kf3 : Int32 → Int64 × Iv × Jv) : Nat → Int32 → Int64 × Iv × Jv
  | 0, x39 => (0, I, J30)
  | kf3 + 1, x39 => if (8 : Int32) ≤ x39 then Kf3 x39 else if (J30 79 (12 + x39.toNatClampNeg)) = (1 : Int64) then b_n3 (fn_X10_isWithin (80 : Int32) x39 I J30) (fun (r46 : Int32) (_ : Iv) (_ : Jv) => if r46 = 0 then ((-1 : Int64), I, J30) else fl_X10_paid_117_3 I J30 Kf3 kf3 (x39 + (1 : Int32))) else fl_X10_paid_117_3 I J30 Kf3 kf3 (x39 + (1 : Int32))
noncomputable def fl_X10_paid_12_0 (I : Iv) (ticks : Int32) (d : Int32) (Kf0 : Int64 → Int32 → Jv → Int64 × Iv × Jv) : Nat → Int64 → Int32 → Jv → Int64 × Iv × Jv
  | 0, x8, x9, J10 => (0, I, J10)
  | kf0 + 1, x8, x9, J10 => if ticks ≤ x9 then Kf0 x8 x9 J10 else l_t ((J10 79 134)) (fun (v13 : Int64) => b_n3 (fn_X10_isHour v13 (I 78 31) (I 78 32) I J10) (fun (r19 : Int32) (_ : Iv) (_ : Jv) => l_t ((J10 79 143)) (fun (v21 : Int64) => b_n3 (fn_X10_isOpen v13 I J10) (fun (r27 : Int32) (_ : Iv) (_ : Jv) => j_n (fun (w29 : Int32) => b_n2 (fn_X10_tick (80 : Int32) r27 (I 81 8) w29 I J10) (fun (_ : Iv) (J30 : Jv) => j_n (fun (w37 : Int32) => l_t ((x8 + (((J30 79 143) - v21) * (Int32.toInt64 w37)))) (fun (v38 : Int64) => fl_X10_paid_117_3 I J30 (fun (x39 : Int32) => fl_X10_paid_12_0 I ticks d Kf0 kf0 v38 (x9 + (1 : Int32)) J30) (mU (8 : Int32) ((0 : Int32)) + 1) (0 : Int32))) (fun (j110_2 : Int32 → Int64 × Iv × Jv) => if r19 = 0 then j110_2 ((I 78 30)) else j110_2 ((I 78 33))))) (fun (j79_1 : Int32 → Int64 × Iv × Jv) => if r19 = 0 then j79_1 ((0 : Int32)) else j79_1 d)))))
noncomputable def fn_X10_paid (ticks : Int32) (d : Int32) (I : Iv) (J : Jv) : Int64 × Iv × Jv :=
  b_n2 (fn_X10_copy (0 : Int32) (80 : Int32) I J) (fun (_ : Iv) (J1 : Jv) => fl_X10_paid_12_0 I ticks d (fun (x8 : Int64) (x9 : Int32) (J10 : Jv) => ((x8 / (1000 : Int64)), I, J10)) (mU ticks ((0 : Int32)) + 1) (0 : Int64) (0 : Int32) J1)
set_option maxRecDepth 100000 in
set_option maxHeartbeats 4000000 in
theorem ct_X10_paid (ticks : Int32) (d : Int32) (I : Iv) (J : Jv) (hma : MA I) (hmj : MJ J) : Ct m_X10_paid [.ref 78, .int ticks, .int d] SHF I J (fun r S' I' J' => S' = SHF ∧ (MI I I' ∧ MK J J') ∧ ∃ v : Int64, r = some (.long v) ∧ fn_X10_paid ticks d I J = (v, I', J')) := by
  refine ct_of 9 (by decide +kernel) rfl rfl ?_
  have hK0 : (MI I I ∧ MK J J) := ⟨mi_rfl hma, mk_rfl hmj⟩
  have hF := fe_of (fn_X10_paid.eq_1 ticks d I J)
  refine g_aload_n d_X10_paid_0 rfl ?_
  refine g_iconst (v := 0) d_X10_paid_1 kI_0 ?_
  refine g_bipush (v := 80) d_X10_paid_2 kB_80 ?_
  refine g_V2 d_X10_paid_4 cs_X10_paid_X10_copy lk_RX10_382 im_X10_copy se_X10_copy rfl rfl rfl (Nat.le_of_ble_eq_true rfl) ⟨rfl, rfl⟩ ⟨Nat.zero_le _, Nat.zero_le _⟩ (ct_X10_copy (0 : Int32) (80 : Int32) I J (by decide) (by decide) (by grind)) (fun r4 S4 Ic3 J1 q4_1 => ?_)
  obtain ⟨rfl, ⟨rfl, hc4_3⟩, rfl, hf4_4, hr4_5⟩ := q4_1
  replace hF := fe_b2 hF hf4_4
  refine g_st (st' := []) rfl ?_
  have hK7 : (MI I I ∧ MK J J1) := ⟨(hK0).1, cy_mk80 (by decide) (hK0).2 hr4_5⟩
  have hs57 : HS J1 := cy_hs ((hK0).2.2 0 (by decide)).1 hr4_5
  refine g_lconst d_X10_paid_7 kL_0 ?_
  refine g_lstore_n (L' := [some (.ref 78), some (.int ticks), some (.int d), some (.long (0 : Int64)), none, none, none, none, none, none, none, none]) d_X10_paid_8 (by decide) rfl ?_
  refine g_iconst (v := 0) d_X10_paid_9 kI_0 ?_
  refine g_istore (L' := [some (.ref 78), some (.int ticks), some (.int d), some (.long (0 : Int64)), none, some (.int (0 : Int32)), none, none, none, none, none, none]) d_X10_paid_10 (by decide) rfl ?_
  obtain ⟨Kf0, hKf0, hF⟩ := fe_kx (f := fun K => fl_X10_paid_12_0 I ticks d K (mU ticks ((0 : Int32)) + 1) (0 : Int64) (0 : Int32) J1) hF
  have K_12 : ∀ (nu : Nat) (x8 : Int64) (x9 : Int32) (J10 : Jv), mU ticks x9 = nu → ((MI I I ∧ MK J J10)) → ((0 : Int32) ≤ x9) → (HS J10) → (∃ kq : Nat, nu < kq ∧ (fun kq => FE (fn_X10_paid ticks d I J) (fun _ => fl_X10_paid_12_0 I ticks d Kf0 kq x8 x9 J10)) kq) → G m_X10_paid (rq m_X10_paid (fun r S' I' J' => S' = SHF ∧ (MI I I' ∧ MK J J') ∧ ∃ v : Int64, r = some (.long v) ∧ fn_X10_paid ticks d I J = (v, I', J'))) 0 0 12 [some (.ref 78), some (.int ticks), some (.int d), some (.long x8), none, some (.int x9), none, none, none, none, none, none] [] SHF I J10 := by
    intro nu
    induction nu using Nat.strongRecOn with
    | ind nu ih_12 =>
      intro x8 x9 J10 hmu_12 hK11 hl12 hs_12 hF_Kf0
      obtain ⟨kf0, hkf0, hF⟩ := fe_fu (P := fun kq => FE (fn_X10_paid ticks d I J) (fun _ => fl_X10_paid_12_0 I ticks d Kf0 kq x8 x9 J10)) hF_Kf0
      replace hF := fe_eq hF (fl_X10_paid_12_0.eq_2 _ _ _ _ _ _ _ _)
      refine g_iload d_X10_paid_12 rfl ?_
      refine g_iload_n d_X10_paid_14 rfl ?_
      refine g_icmp_ge d_X10_paid_15 (fun h15 => ?_) (fun h15 => ?_)
      · skip
        replace hF := fe_pos hF h15
        replace hF := fe_eq hF (congrFun (congrFun (congrFun hKf0 x8) x9) J10)
        refine g_lload_n d_X10_paid_166 rfl ?_
        refine g_ldc2 (v := 1000) d_X10_paid_167 tw_1392 ?_
        refine g_ldiv d_X10_paid_170 (by decide) ?_
        exact g_lreturn d_X10_paid_171 rfl rfl rfl ⟨rfl, hK11, (x8 / (1000 : Int64)), rfl, hF⟩
      · skip
        replace hF := fe_neg hF h15
        refine g_aload_n d_X10_paid_18 rfl ?_
        refine g_getR d_X10_paid_19 fq_RX10_7 rfl rfl ?_
        refine g_sipush (v := 134) d_X10_paid_22 kS_134 ?_
        refine g_laload (N := 320) d_X10_paid_25 rfl kT_320 ⟨by decide, by decide⟩ kN_134 ?_
        refine g_topJ (fun v13 ev13 => ?_)
        replace hF := fe_lt hF ev13
        refine g_lstore (L' := [some (.ref 78), some (.int ticks), some (.int d), some (.long x8), none, some (.int x9), some (.long v13), none, none, none, none, none]) d_X10_paid_26 (by decide) rfl ?_
        refine g_lload d_X10_paid_28 rfl ?_
        refine g_aload_n d_X10_paid_30 rfl ?_
        refine g_getI d_X10_paid_31 fq_RX10_91 rfl rfl ?_
        refine g_aload_n d_X10_paid_34 rfl ?_
        refine g_getI d_X10_paid_35 fq_RX10_397 rfl rfl ?_
        refine g_S3 d_X10_paid_38 cs_X10_paid_X10_isHour lk_RX10_219 im_X10_isHour (Nat.le_of_ble_eq_true rfl) ⟨rfl, rfl⟩ ⟨Nat.zero_le _, Nat.zero_le _⟩ (ct_X10_isHour v13 (I 78 31) (I 78 32) I J10 ) (fun r38 S38 Ic15 Jc16 q38_13 => ?_)
        obtain ⟨rfl, rfl, rfl, r19, rfl, hz38, hf38_17⟩ := q38_13
        replace hF := fe_b3 hF hf38_17
        refine g_st (st' := [.int r19]) rfl ?_
        refine g_istore (L' := [some (.ref 78), some (.int ticks), some (.int d), some (.long x8), none, some (.int x9), some (.long v13), none, some (.int r19), none, none, none]) d_X10_paid_41 (by decide) rfl ?_
        refine g_aload_n d_X10_paid_43 rfl ?_
        refine g_getR d_X10_paid_44 fq_RX10_7 rfl rfl ?_
        refine g_sipush (v := 143) d_X10_paid_47 kS_143 ?_
        refine g_laload (N := 320) d_X10_paid_50 rfl kT_320 ⟨by decide, by decide⟩ kN_143 ?_
        refine g_topJ (fun v21 ev21 => ?_)
        replace hF := fe_lt hF ev21
        refine g_lstore (L' := [some (.ref 78), some (.int ticks), some (.int d), some (.long x8), none, some (.int x9), some (.long v13), none, some (.int r19), some (.long v21), none, none]) d_X10_paid_51 (by decide) rfl ?_
        refine g_aload_n d_X10_paid_53 rfl ?_
        refine g_bipush (v := 80) d_X10_paid_54 kB_80 ?_
        refine g_aload_n d_X10_paid_56 rfl ?_
        refine g_lload d_X10_paid_57 rfl ?_
        refine g_V1 d_X10_paid_59 cs_X10_paid_X10_isOpen lk_RX10_247 im_X10_isOpen se_X10_isOpen rfl rfl rfl (Nat.le_of_ble_eq_true rfl) ⟨rfl, rfl⟩ ⟨Nat.zero_le _, Nat.zero_le _⟩ (ct_X10_isOpen v13 I J10 ((hK11).1.2.2.1)) (fun r59 S59 Ic23 Jc24 q59_21 => ?_)
        obtain ⟨rfl, rfl, rfl, r27, rfl, hz59, hf59_25⟩ := q59_21
        replace hF := fe_b3 hF hf59_25
        refine g_st (st' := [.int r27, .int (80 : Int32), .ref 78]) rfl ?_
        refine g_aload_n d_X10_paid_62 rfl ?_
        refine g_getR d_X10_paid_63 fq_RX10_17 rfl rfl ?_
        refine g_bipush (v := 8) d_X10_paid_66 kB_8 ?_
        refine g_iaload (N := 15) d_X10_paid_68 rfl kT_15 ⟨by decide, by decide⟩ kN_8 ?_
        refine g_iload d_X10_paid_69 rfl ?_
        obtain ⟨j79_1, hj79_1, hF⟩ := fe_jx hF
        have J_79 : ∀ (w29 : Int32), (FE (fn_X10_paid ticks d I J) (fun _ => j79_1 w29)) → G m_X10_paid (rq m_X10_paid (fun r S' I' J' => S' = SHF ∧ (MI I I' ∧ MK J J') ∧ ∃ v : Int64, r = some (.long v) ∧ fn_X10_paid ticks d I J = (v, I', J'))) 0 0 79 [some (.ref 78), some (.int ticks), some (.int d), some (.long x8), none, some (.int x9), some (.long v13), none, some (.int r19), some (.long v21), none, none] [.int w29, .int (I 81 8), .int r27, .int (80 : Int32), .ref 78] SHF I J10 := by
          intro w29 hF_j79_1
          have hF := fe_eq hF_j79_1 (congrFun hj79_1 w29)
          refine g_V4 d_X10_paid_79 cs_X10_paid_X10_tick lk_RX10_251 im_X10_tick se_X10_tick rfl rfl rfl (Nat.le_of_ble_eq_true rfl) ⟨rfl, rfl⟩ ⟨Nat.zero_le _, Nat.zero_le _⟩ (ct_X10_tick (80 : Int32) r27 (I 81 8) w29 I J10 (by decide) ((hK11).2.2 _ (by decide)).2.1 ((hK11).2.2 _ (by decide)).1 ((hK11).1.2.2.2.1) ((hK11).1.2.2.2.2.1)) (fun r79 S79 Ic32 J30 q79_30 => ?_)
          obtain ⟨rfl, ⟨rfl, hc79_32⟩, rfl, hf79_33, hr79_34⟩ := q79_30
          replace hF := fe_b2 hF hf79_33
          refine g_st (st' := []) rfl ?_
          have hK36 : (MI I I ∧ MK J J30) := ⟨(hK11).1, tg_mk80 (hK11).2 hc79_32⟩
          have hs79 : HS J30 := hs_tg hs_12 hc79_32
          refine g_lload_n d_X10_paid_82 rfl ?_
          refine g_aload_n d_X10_paid_83 rfl ?_
          refine g_getR d_X10_paid_84 fq_RX10_7 rfl rfl ?_
          refine g_sipush (v := 143) d_X10_paid_87 kS_143 ?_
          refine g_laload (N := 320) d_X10_paid_90 rfl kT_320 ⟨by decide, by decide⟩ kN_143 ?_
          refine g_lload d_X10_paid_91 rfl ?_
          refine g_lsub d_X10_paid_93 ?_
          refine g_iload d_X10_paid_94 rfl ?_
          obtain ⟨j110_2, hj110_2, hF⟩ := fe_jx hF
          have J_110 : ∀ (w37 : Int32), (FE (fn_X10_paid ticks d I J) (fun _ => j110_2 w37)) → G m_X10_paid (rq m_X10_paid (fun r S' I' J' => S' = SHF ∧ (MI I I' ∧ MK J J') ∧ ∃ v : Int64, r = some (.long v) ∧ fn_X10_paid ticks d I J = (v, I', J'))) 0 0 110 [some (.ref 78), some (.int ticks), some (.int d), some (.long x8), none, some (.int x9), some (.long v13), none, some (.int r19), some (.long v21), none, none] [.int w37, .long ((J30 79 143) - v21), .long x8] SHF I J30 := by
            intro w37 hF_j110_2
            have hF := fe_eq hF_j110_2 (congrFun hj110_2 w37)
            refine g_i2l d_X10_paid_110 ?_
            refine g_lmul d_X10_paid_111 ?_
            refine g_ladd d_X10_paid_112 ?_
            refine g_topJ (fun v38 ev38 => ?_)
            replace hF := fe_lt hF ev38
            refine g_lstore_n (L' := [some (.ref 78), some (.int ticks), some (.int d), some (.long v38), none, some (.int x9), some (.long v13), none, some (.int r19), some (.long v21), none, none]) d_X10_paid_113 (by decide) rfl ?_
            refine g_iconst (v := 0) d_X10_paid_114 kI_0 ?_
            refine g_istore (L' := [some (.ref 78), some (.int ticks), some (.int d), some (.long v38), none, some (.int x9), some (.long v13), none, some (.int r19), some (.long v21), none, some (.int (0 : Int32))]) d_X10_paid_115 (by decide) rfl ?_
            obtain ⟨Kf3, hKf3, hF⟩ := fe_kx (f := fun K => fl_X10_paid_117_3 I J30 K (mU (8 : Int32) ((0 : Int32)) + 1) (0 : Int32)) hF
            have K_117 : ∀ (nu : Nat) (x39 : Int32), mU (8 : Int32) x39 = nu → ((0 : Int32) ≤ x39) → (∃ kq : Nat, nu < kq ∧ (fun kq => FE (fn_X10_paid ticks d I J) (fun _ => fl_X10_paid_117_3 I J30 Kf3 kq x39)) kq) → G m_X10_paid (rq m_X10_paid (fun r S' I' J' => S' = SHF ∧ (MI I I' ∧ MK J J') ∧ ∃ v : Int64, r = some (.long v) ∧ fn_X10_paid ticks d I J = (v, I', J'))) 0 0 117 [some (.ref 78), some (.int ticks), some (.int d), some (.long v38), none, some (.int x9), some (.long v13), none, some (.int r19), some (.long v21), none, some (.int x39)] [] SHF I J30 := by
              intro nu
              induction nu using Nat.strongRecOn with
              | ind nu ih_117 =>
                intro x39 hmu_117 hl40 hF_Kf3
                obtain ⟨kf3, hkf3, hF⟩ := fe_fu (P := fun kq => FE (fn_X10_paid ticks d I J) (fun _ => fl_X10_paid_117_3 I J30 Kf3 kq x39)) hF_Kf3
                replace hF := fe_eq hF (fl_X10_paid_117_3.eq_2 _ _ _ _ _)
                refine g_iload d_X10_paid_117 rfl ?_
                refine g_bipush (v := 8) d_X10_paid_119 kB_8 ?_
                refine g_icmp_ge d_X10_paid_121 (fun h121 => ?_) (fun h121 => ?_)
                · skip
                  replace hF := fe_pos hF h121
                  replace hF := fe_eq hF (congrFun hKf3 x39)
                  refine g_iinc (v := (x9 + (1 : Int32))) (L' := [some (.ref 78), some (.int ticks), some (.int d), some (.long v38), none, some (.int (x9 + (1 : Int32))), some (.long v13), none, some (.int r19), some (.long v21), none, some (.int x39)]) d_X10_paid_160 rfl (by rw [kI_1]) (by decide) rfl ?_
                  refine g_goto d_X10_paid_163 ?_
                  refine g_sb [some (.ref 78), some (.int ticks), some (.int d), some (.long v38), none, some (.int (x9 + (1 : Int32))), none, none, none, none, none, none] (by simp [subL]) ?_
                  exact ih_12 _ (by rw [← hmu_12]; exact mu_up h15) v38 (x9 + (1 : Int32)) J30 rfl hK36 (lo_up hl12 h15) hs79 ⟨kf0, Nat.lt_of_lt_of_le (by rw [← hmu_12]; exact mu_up h15) hkf0, hF⟩
                · skip
                  replace hF := fe_neg hF h121
                  refine g_aload_n d_X10_paid_124 rfl ?_
                  refine g_getR d_X10_paid_125 fq_RX10_7 rfl rfl ?_
                  refine g_bipush (v := 12) d_X10_paid_128 kB_12 ?_
                  refine g_iload d_X10_paid_130 rfl ?_
                  refine g_iadd d_X10_paid_132 ?_
                  refine g_laload (N := 320) d_X10_paid_133 rfl kT_320 (by constructor <;> grind) (by rw [tn_add (by constructor <;> grind) (by constructor <;> grind), kN_12]) ?_
                  refine g_lconst d_X10_paid_134 kL_1 ?_
                  refine g_lcmp_ne d_X10_paid_135 d_X10_paid_136 (fun h136 => ?_) (fun h136 => ?_)
                  · skip
                    replace hF := fe_neg hF h136
                    refine g_iinc (v := (x39 + (1 : Int32))) (L' := [some (.ref 78), some (.int ticks), some (.int d), some (.long v38), none, some (.int x9), some (.long v13), none, some (.int r19), some (.long v21), none, some (.int (x39 + (1 : Int32)))]) d_X10_paid_154 rfl (by rw [kI_1]) (by decide) rfl ?_
                    refine g_goto d_X10_paid_157 ?_
                    exact ih_117 _ (by rw [← hmu_117]; exact mu_up h121) (x39 + (1 : Int32)) rfl (lo_up hl40 h121) ⟨kf3, Nat.lt_of_lt_of_le (by rw [← hmu_117]; exact mu_up h121) hkf3, hF⟩
                  · skip
                    replace hF := fe_pos hF h136
                    have hcp := hs_cap2 (f := x39) hs79 (by grind) (by grind) h136
                    refine g_aload_n d_X10_paid_139 rfl ?_
                    refine g_bipush (v := 80) d_X10_paid_140 kB_80 ?_
                    refine g_iload d_X10_paid_142 rfl ?_
                    refine g_V2 d_X10_paid_144 cs_X10_paid_X10_isWithin lk_RX10_283 im_X10_isWithin se_X10_isWithin rfl rfl rfl (Nat.le_of_ble_eq_true rfl) ⟨rfl, rfl⟩ ⟨Nat.zero_le _, Nat.zero_le _⟩ (ct_X10_isWithin (80 : Int32) x39 I J30 (by decide) (by grind) hcp) (fun r144 S144 Ic42 Jc43 q144_40 => ?_)
                    obtain ⟨rfl, rfl, rfl, r46, rfl, hz144, hf144_44⟩ := q144_40
                    replace hF := fe_b3 hF hf144_44
                    refine g_st (st' := [.int r46]) rfl ?_
                    refine g_if_ne d_X10_paid_147 (fun h147 => ?_) (fun h147 => ?_)
                    · skip
                      replace hF := fe_neg hF h147
                      refine g_iinc (v := (x39 + (1 : Int32))) (L' := [some (.ref 78), some (.int ticks), some (.int d), some (.long v38), none, some (.int x9), some (.long v13), none, some (.int r19), some (.long v21), none, some (.int (x39 + (1 : Int32)))]) d_X10_paid_154 rfl (by rw [kI_1]) (by decide) rfl ?_
                      refine g_goto d_X10_paid_157 ?_
                      exact ih_117 _ (by rw [← hmu_117]; exact mu_up h121) (x39 + (1 : Int32)) rfl (lo_up hl40 h121) ⟨kf3, Nat.lt_of_lt_of_le (by rw [← hmu_117]; exact mu_up h121) hkf3, hF⟩
                    · skip
                      replace hF := fe_pos hF h147
                      refine g_ldc2 (v := -1) d_X10_paid_150 tw_1616 ?_
                      exact g_lreturn d_X10_paid_153 rfl rfl rfl ⟨rfl, hK36, (-1 : Int64), rfl, hF⟩
            exact K_117 _ (0 : Int32) rfl (Int32.le_refl _) ⟨_, Nat.lt_succ_self _, hF⟩
          refine g_if_eq d_X10_paid_96 (fun h96 => ?_) (fun h96 => ?_)
          · skip
            replace hF := fe_pos hF h96
            refine g_aload_n d_X10_paid_106 rfl ?_
            refine g_getI d_X10_paid_107 fq_RX10_88 rfl rfl ?_
            exact J_110 ((I 78 30)) hF
          · skip
            replace hF := fe_neg hF h96
            refine g_aload_n d_X10_paid_99 rfl ?_
            refine g_getI d_X10_paid_100 fq_RX10_400 rfl rfl ?_
            refine g_goto d_X10_paid_103 ?_
            exact J_110 ((I 78 33)) hF
        refine g_if_eq d_X10_paid_71 (fun h71 => ?_) (fun h71 => ?_)
        · skip
          replace hF := fe_pos hF h71
          refine g_iconst (v := 0) d_X10_paid_78 kI_0 ?_
          exact J_79 ((0 : Int32)) hF
        · skip
          replace hF := fe_neg hF h71
          refine g_iload_n d_X10_paid_74 rfl ?_
          refine g_goto d_X10_paid_75 ?_
          exact J_79 d hF
  exact K_12 _ (0 : Int64) (0 : Int32) J1 rfl hK7 (Int32.le_refl _) hs57 ⟨_, Nat.lt_succ_self _, hF⟩
noncomputable def fl_X10_store_34_0 (n : Int32) (Kf0 : Int32 → Int64 → Int32 → Iv → Jv → Int32 × Iv × Jv) : Nat → Int32 → Int64 → Int32 → Iv → Jv → Int32 × Iv × Jv
  | 0, x22, x23, x24, I25, J26 => (0, I25, J26)
  | kf0 + 1, x22, x23, x24, I25, J26 => if (40 : Int32) < x24 then Kf0 x22 x23 x24 I25 J26 else b_n3 (fn_X10_paid ((288 : Int32) * n) x24 I25 J26) (fun (r33 : Int64) (I28 : Iv) (J29 : Jv) => if r33 < (0 : Int64) then fl_X10_store_34_0 n Kf0 kf0 x22 x23 (x24 + (5 : Int32)) I28 J29 else j_n (fl_X10_store_34_0 n Kf0 kf0 x24 r33 (x24 + (5 : Int32)) I28 J29) (fun (j73_1 : Int32 × Iv × Jv) => if x22 < 0 then j73_1 else if x23 ≤ r33 then fl_X10_store_34_0 n Kf0 kf0 x22 x23 (x24 + (5 : Int32)) I28 J29 else j73_1))
noncomputable def fn_X10_store (n : Int32) (what : Int32) (I : Iv) (J : Jv) : Int32 × Iv × Jv :=
  b_n2 (fn_X10_begin I J) (fun (I1 : Iv) (J2 : Jv) => b_n3 (fn_X10_areDays n I1 J2) (fun (r13 : Int32) (_ : Iv) (_ : Jv) => if r13 = 0 then ((-1000000002 : Int32), I1, J2) else b_n3 (fn_X10_in (Int32.toInt64 what) (0 : Int64) (1 : Int64) I1 J2) (fun (r20 : Int32) (_ : Iv) (_ : Jv) => if r20 = 0 then ((-1000000002 : Int32), I1, J2) else fl_X10_store_34_0 n (fun (x22 : Int32) (x23 : Int64) (x24 : Int32) (I25 : Iv) (J26 : Jv) => if what = 0 then (x22, I25, J26) else ((Int64.toInt32 x23), I25, J26)) (mUe 40 ((0 : Int32)) + 1) (-1 : Int32) (-1 : Int64) (0 : Int32) I1 J2)))
set_option maxRecDepth 100000 in
set_option maxHeartbeats 4000000 in
theorem ct_X10_store (n : Int32) (what : Int32) (I : Iv) (J : Jv) (hma : MA I) (hmj : MJ J) : Ct m_X10_store [.ref 78, .int n, .int what] SHF I J (fun r S' I' J' => S' = SHF ∧ True ∧ ∃ v : Int32, r = some (.int v) ∧ fn_X10_store n what I J = (v, I', J') ∧ (MI (bgI I) I' ∧ MK (bgJ I J) J')) := by
  refine ct_of 6 (by decide +kernel) rfl rfl ?_
  have hK0 : (MI I I ∧ MK J J) := ⟨mi_rfl hma, mk_rfl hmj⟩
  have hF := fe_of (fn_X10_store.eq_1 n what I J)
  refine g_aload_n d_X10_store_0 rfl ?_
  refine g_V0 d_X10_store_1 cs_X10_store_X10_begin lk_RX10_166 im_X10_begin se_X10_begin rfl rfl rfl (Nat.le_of_ble_eq_true rfl) ⟨rfl, rfl⟩ ⟨Nat.zero_le _, Nat.zero_le _⟩ (ct_X10_begin  I J hma hmj) (fun r1 S1 I1 J2 q1_2 => ?_)
  obtain ⟨rfl, hc1_3, rfl, hf1_4, hr1_5⟩ := q1_2
  replace hF := fe_b2 hF hf1_4
  refine g_st (st' := []) rfl ?_
  have hK7 : (MI (bgI I) I1 ∧ MK (bgJ I J) J2) := hr1_5
  refine g_iload_n d_X10_store_4 rfl ?_
  refine g_S1 d_X10_store_5 cs_X10_store_X10_areDays lk_RX10_326 im_X10_areDays (Nat.le_of_ble_eq_true rfl) ⟨rfl, rfl⟩ ⟨Nat.zero_le _, Nat.zero_le _⟩ (ct_X10_areDays n I1 J2 ) (fun r5 S5 Ic9 Jc10 q5_7 => ?_)
  obtain ⟨rfl, rfl, rfl, r13, rfl, hz5, hf5_11, hr5_13⟩ := q5_7
  replace hF := fe_b3 hF hf5_11
  refine g_st (st' := [.int r13]) rfl ?_
  refine g_if_eq d_X10_store_8 (fun h8 => ?_) (fun h8 => ?_)
  · skip
    replace hF := fe_pos hF h8
    refine g_ldc (v := -1000000002) d_X10_store_21 tw_1199 ?_
    exact g_ireturn d_X10_store_23 rfl rfl rfl rfl ⟨rfl, trivial, (-1000000002 : Int32), rfl, hF, hK7⟩
  · skip
    replace hF := fe_neg hF h8
    refine g_iload_n d_X10_store_11 rfl ?_
    refine g_i2l d_X10_store_12 ?_
    refine g_lconst d_X10_store_13 kL_0 ?_
    refine g_lconst d_X10_store_14 kL_1 ?_
    refine g_S3 d_X10_store_15 cs_X10_store_X10_in lk_RX10_96 im_X10_in (Nat.le_of_ble_eq_true rfl) ⟨rfl, rfl⟩ ⟨Nat.zero_le _, Nat.zero_le _⟩ (ct_X10_inL what (0 : Int64) (1 : Int64) (0 : Int32) (1 : Int32) (by decide) (by decide) I1 J2) (fun r15 S15 Ic16 Jc17 q15_14 => ?_)
    obtain ⟨rfl, rfl, rfl, r20, rfl, hz15, hf15_18, hr15_20⟩ := q15_14
    replace hF := fe_b3 hF hf15_18
    refine g_st (st' := [.int r20]) rfl ?_
    refine g_if_ne d_X10_store_18 (fun h18 => ?_) (fun h18 => ?_)
    · skip
      replace hF := fe_neg hF h18
      refine g_iconst (v := -1) d_X10_store_24 kI_m1 ?_
      refine g_istore_n (L' := [some (.ref 78), some (.int n), some (.int what), some (.int (-1 : Int32)), none, none, none, none, none]) d_X10_store_25 (by decide) rfl ?_
      refine g_ldc2 (v := -1) d_X10_store_26 tw_1616 ?_
      refine g_lstore (L' := [some (.ref 78), some (.int n), some (.int what), some (.int (-1 : Int32)), some (.long (-1 : Int64)), none, none, none, none]) d_X10_store_29 (by decide) rfl ?_
      refine g_iconst (v := 0) d_X10_store_31 kI_0 ?_
      refine g_istore (L' := [some (.ref 78), some (.int n), some (.int what), some (.int (-1 : Int32)), some (.long (-1 : Int64)), none, some (.int (0 : Int32)), none, none]) d_X10_store_32 (by decide) rfl ?_
      obtain ⟨Kf0, hKf0, hF⟩ := fe_kx (f := fun K => fl_X10_store_34_0 n K (mUe 40 ((0 : Int32)) + 1) (-1 : Int32) (-1 : Int64) (0 : Int32) I1 J2) hF
      have K_34 : ∀ (nu : Nat) (x22 : Int32) (x23 : Int64) (x24 : Int32) (I25 : Iv) (J26 : Jv), mUe 40 x24 = nu → ((MI (bgI I) I25 ∧ MK (bgJ I J) J26)) → (∃ kq : Nat, nu < kq ∧ (fun kq => FE (fn_X10_store n what I J) (fun _ => fl_X10_store_34_0 n Kf0 kq x22 x23 x24 I25 J26)) kq) → G m_X10_store (rq m_X10_store (fun r S' I' J' => S' = SHF ∧ True ∧ ∃ v : Int32, r = some (.int v) ∧ fn_X10_store n what I J = (v, I', J') ∧ (MI (bgI I) I' ∧ MK (bgJ I J) J'))) 0 0 34 [some (.ref 78), some (.int n), some (.int what), some (.int x22), some (.long x23), none, some (.int x24), none, none] [] SHF I25 J26 := by
        intro nu
        induction nu using Nat.strongRecOn with
        | ind nu ih_34 =>
          intro x22 x23 x24 I25 J26 hmu_34 hK27 hF_Kf0
          obtain ⟨kf0, hkf0, hF⟩ := fe_fu (P := fun kq => FE (fn_X10_store n what I J) (fun _ => fl_X10_store_34_0 n Kf0 kq x22 x23 x24 I25 J26)) hF_Kf0
          replace hF := fe_eq hF (fl_X10_store_34_0.eq_2 _ _ _ _ _ _ _ _)
          refine g_iload d_X10_store_34 rfl ?_
          refine g_bipush (v := 40) d_X10_store_36 kB_40 ?_
          refine g_icmp_gt d_X10_store_38 (fun h38 => ?_) (fun h38 => ?_)
          · skip
            replace hF := fe_pos hF h38
            replace hF := fe_eq hF (congrFun (congrFun (congrFun (congrFun (congrFun hKf0 x22) x23) x24) I25) J26)
            refine g_iload_n d_X10_store_86 rfl ?_
            refine g_if_ne d_X10_store_87 (fun h87 => ?_) (fun h87 => ?_)
            · skip
              replace hF := fe_neg hF h87
              refine g_lload d_X10_store_94 rfl ?_
              refine g_l2i d_X10_store_96 ?_
              exact g_ireturn d_X10_store_97 rfl rfl rfl rfl ⟨rfl, trivial, (Int64.toInt32 x23), rfl, hF, hK27⟩
            · skip
              replace hF := fe_pos hF h87
              refine g_iload_n d_X10_store_90 rfl ?_
              refine g_goto d_X10_store_91 ?_
              exact g_ireturn d_X10_store_97 rfl rfl rfl rfl ⟨rfl, trivial, x22, rfl, hF, hK27⟩
          · skip
            replace hF := fe_neg hF h38
            refine g_aload_n d_X10_store_41 rfl ?_
            refine g_sipush (v := 288) d_X10_store_42 kS_288 ?_
            refine g_iload_n d_X10_store_45 rfl ?_
            refine g_imul d_X10_store_46 ?_
            refine g_iload d_X10_store_47 rfl ?_
            refine g_V2 d_X10_store_49 cs_X10_store_X10_paid lk_RX10_405 im_X10_paid se_X10_paid rfl rfl rfl (Nat.le_of_ble_eq_true rfl) ⟨rfl, rfl⟩ ⟨Nat.zero_le _, Nat.zero_le _⟩ (ct_X10_paid ((288 : Int32) * n) x24 I25 J26 (hK27).1.2 (hK27).2.2) (fun r49 S49 I28 J29 q49_29 => ?_)
            obtain ⟨rfl, hc49_30, r33, rfl, hf49_31⟩ := q49_29
            replace hF := fe_b3 hF hf49_31
            refine g_st (st' := [.long r33]) rfl ?_
            have hK35 : (MI (bgI I) I28 ∧ MK (bgJ I J) J29) := ⟨mi_tr (hK27).1 hc49_30.1, mk_tr (hK27).2 hc49_30.2⟩
            refine g_lstore (L' := [some (.ref 78), some (.int n), some (.int what), some (.int x22), some (.long x23), none, some (.int x24), some (.long r33), none]) d_X10_store_52 (by decide) rfl ?_
            refine g_lload d_X10_store_54 rfl ?_
            refine g_lconst d_X10_store_56 kL_0 ?_
            refine g_lcmp_lt d_X10_store_57 d_X10_store_58 (fun h58 => ?_) (fun h58 => ?_)
            · skip
              replace hF := fe_pos hF h58
              refine g_iinc (v := (x24 + (5 : Int32))) (L' := [some (.ref 78), some (.int n), some (.int what), some (.int x22), some (.long x23), none, some (.int (x24 + (5 : Int32))), some (.long r33), none]) d_X10_store_80 rfl (by rw [kI_5]) (by decide) rfl ?_
              refine g_goto d_X10_store_83 ?_
              refine g_sb [some (.ref 78), some (.int n), some (.int what), some (.int x22), some (.long x23), none, some (.int (x24 + (5 : Int32))), none, none] (by simp [subL]) ?_
              exact ih_34 _ (by rw [← hmu_34]; exact mu_up5 h38) x22 x23 (x24 + (5 : Int32)) I28 J29 rfl hK35 ⟨kf0, Nat.lt_of_lt_of_le (by rw [← hmu_34]; exact mu_up5 h38) hkf0, hF⟩
            · skip
              replace hF := fe_neg hF h58
              refine g_iload_n d_X10_store_61 rfl ?_
              obtain ⟨j73_1, hj73_1, hF⟩ := fe_jx hF
              have J_73 : (FE (fn_X10_store n what I J) (fun _ => j73_1)) → G m_X10_store (rq m_X10_store (fun r S' I' J' => S' = SHF ∧ True ∧ ∃ v : Int32, r = some (.int v) ∧ fn_X10_store n what I J = (v, I', J') ∧ (MI (bgI I) I' ∧ MK (bgJ I J) J'))) 0 0 73 [some (.ref 78), some (.int n), some (.int what), some (.int x22), some (.long x23), none, some (.int x24), some (.long r33), none] [] SHF I28 J29 := by
                intro hF_j73_1
                have hF := fe_eq hF_j73_1 hj73_1
                refine g_iload d_X10_store_73 rfl ?_
                refine g_istore_n (L' := [some (.ref 78), some (.int n), some (.int what), some (.int x24), some (.long x23), none, some (.int x24), some (.long r33), none]) d_X10_store_75 (by decide) rfl ?_
                refine g_lload d_X10_store_76 rfl ?_
                refine g_lstore (L' := [some (.ref 78), some (.int n), some (.int what), some (.int x24), some (.long r33), none, some (.int x24), some (.long r33), none]) d_X10_store_78 (by decide) rfl ?_
                refine g_iinc (v := (x24 + (5 : Int32))) (L' := [some (.ref 78), some (.int n), some (.int what), some (.int x24), some (.long r33), none, some (.int (x24 + (5 : Int32))), some (.long r33), none]) d_X10_store_80 rfl (by rw [kI_5]) (by decide) rfl ?_
                refine g_goto d_X10_store_83 ?_
                refine g_sb [some (.ref 78), some (.int n), some (.int what), some (.int x24), some (.long r33), none, some (.int (x24 + (5 : Int32))), none, none] (by simp [subL]) ?_
                exact ih_34 _ (by rw [← hmu_34]; exact mu_up5 h38) x24 r33 (x24 + (5 : Int32)) I28 J29 rfl hK35 ⟨kf0, Nat.lt_of_lt_of_le (by rw [← hmu_34]; exact mu_up5 h38) hkf0, hF⟩
              refine g_if_lt d_X10_store_62 (fun h62 => ?_) (fun h62 => ?_)
              · skip
                replace hF := fe_pos hF h62
                exact J_73 hF
              · skip
                replace hF := fe_neg hF h62
                refine g_lload d_X10_store_65 rfl ?_
                refine g_lload d_X10_store_67 rfl ?_
                refine g_lcmp_ge d_X10_store_69 d_X10_store_70 (fun h70 => ?_) (fun h70 => ?_)
                · skip
                  replace hF := fe_pos hF h70
                  refine g_iinc (v := (x24 + (5 : Int32))) (L' := [some (.ref 78), some (.int n), some (.int what), some (.int x22), some (.long x23), none, some (.int (x24 + (5 : Int32))), some (.long r33), none]) d_X10_store_80 rfl (by rw [kI_5]) (by decide) rfl ?_
                  refine g_goto d_X10_store_83 ?_
                  refine g_sb [some (.ref 78), some (.int n), some (.int what), some (.int x22), some (.long x23), none, some (.int (x24 + (5 : Int32))), none, none] (by simp [subL]) ?_
                  exact ih_34 _ (by rw [← hmu_34]; exact mu_up5 h38) x22 x23 (x24 + (5 : Int32)) I28 J29 rfl hK35 ⟨kf0, Nat.lt_of_lt_of_le (by rw [← hmu_34]; exact mu_up5 h38) hkf0, hF⟩
                · skip
                  replace hF := fe_neg hF h70
                  exact J_73 hF
      exact K_34 _ (-1 : Int32) (-1 : Int64) (0 : Int32) I1 J2 rfl hK7 ⟨_, Nat.lt_succ_self _, hF⟩
    · skip
      replace hF := fe_pos hF h18
      refine g_ldc (v := -1000000002) d_X10_store_21 tw_1199 ?_
      exact g_ireturn d_X10_store_23 rfl rfl rfl rfl ⟨rfl, trivial, (-1000000002 : Int32), rfl, hF, hK7⟩
noncomputable def fn_X10_seed (v_ : Int32) (I : Iv) (J : Jv) : Int32 × Iv × Jv :=
  b_n2 (fn_X10_begin I J) (fun (I1 : Iv) (J2 : Jv) => if 0 ≤ v_ then l_t ((Int64.toInt32 (J2 79 70))) (fun (v8 : Int32) => l_t (wJ J2 79 70 (Int32.toInt64 v_)) (fun (J9 : Jv) => (v8, I1, J9))) else ((-1000000002 : Int32), I1, J2))
set_option maxRecDepth 100000 in
set_option maxHeartbeats 4000000 in
theorem ct_X10_seed (v_ : Int32) (I : Iv) (J : Jv) (hma : MA I) (hmj : MJ J) : Ct m_X10_seed [.ref 78, .int v_] SHF I J (fun r S' I' J' => S' = SHF ∧ True ∧ ∃ v : Int32, r = some (.int v) ∧ fn_X10_seed v_ I J = (v, I', J') ∧ (MI (bgI I) I' ∧ MK (bgJ I J) J')) := by
  refine ct_of 1 (by decide +kernel) rfl rfl ?_
  have hK0 : (MI I I ∧ MK J J) := ⟨mi_rfl hma, mk_rfl hmj⟩
  have hF := fe_of (fn_X10_seed.eq_1 v_ I J)
  refine g_aload_n d_X10_seed_0 rfl ?_
  refine g_V0 d_X10_seed_1 cs_X10_seed_X10_begin lk_RX10_166 im_X10_begin se_X10_begin rfl rfl rfl (Nat.le_of_ble_eq_true rfl) ⟨rfl, rfl⟩ ⟨Nat.zero_le _, Nat.zero_le _⟩ (ct_X10_begin  I J hma hmj) (fun r1 S1 I1 J2 q1_2 => ?_)
  obtain ⟨rfl, hc1_3, rfl, hf1_4, hr1_5⟩ := q1_2
  replace hF := fe_b2 hF hf1_4
  refine g_st (st' := []) rfl ?_
  have hK7 : (MI (bgI I) I1 ∧ MK (bgJ I J) J2) := hr1_5
  refine g_iload_n d_X10_seed_4 rfl ?_
  refine g_if_ge d_X10_seed_5 (fun h5 => ?_) (fun h5 => ?_)
  · skip
    replace hF := fe_pos hF h5
    refine g_aload_n d_X10_seed_11 rfl ?_
    refine g_getR d_X10_seed_12 fq_RX10_7 rfl rfl ?_
    refine g_bipush (v := 70) d_X10_seed_15 kB_70 ?_
    refine g_laload (N := 320) d_X10_seed_17 rfl kT_320 ⟨by decide, by decide⟩ kN_70 ?_
    refine g_l2i d_X10_seed_18 ?_
    refine g_topI (fun v8 ev8 => ?_)
    replace hF := fe_lt hF ev8
    refine g_istore_n (L' := [some (.ref 78), some (.int v_), some (.int v8)]) d_X10_seed_19 (by decide) rfl ?_
    refine g_aload_n d_X10_seed_20 rfl ?_
    refine g_getR d_X10_seed_21 fq_RX10_7 rfl rfl ?_
    refine g_bipush (v := 70) d_X10_seed_24 kB_70 ?_
    refine g_iload_n d_X10_seed_26 rfl ?_
    refine g_i2l d_X10_seed_27 ?_
    have hvb := i2l_31 (a := v_) (by grind)
    refine g_lastore (N := 320) d_X10_seed_28 rfl kT_320 ⟨by decide, by decide⟩ kN_70  ?_
    refine g_nmJ (fun J9 eJ9 => ?_)
    replace hF := fe_lt hF eJ9
    have hK10 : (MI (bgI I) I1 ∧ MK (bgJ I J) J9) := (by rw [eJ9]; exact ⟨(hK7).1, mj_70 (hK7).2 hvb⟩)
    refine g_iload_n d_X10_seed_29 rfl ?_
    exact g_ireturn d_X10_seed_30 rfl rfl rfl rfl ⟨rfl, trivial, v8, rfl, hF, hK10⟩
  · skip
    replace hF := fe_neg hF h5
    refine g_ldc (v := -1000000002) d_X10_seed_8 tw_1199 ?_
    exact g_ireturn d_X10_seed_10 rfl rfl rfl rfl ⟨rfl, trivial, (-1000000002 : Int32), rfl, hF, hK7⟩
noncomputable def fn_X10_keep (i : Int32) (I : Iv) (J : Jv) : Int32 × Iv × Jv :=
  b_n2 (fn_X10_begin I J) (fun (I1 : Iv) (J2 : Jv) => b_n3 (fn_X10_in (Int32.toInt64 i) (0 : Int64) (1 : Int64) I1 J2) (fun (r13 : Int32) (_ : Iv) (_ : Jv) => if r13 = 0 then ((-1000000001 : Int32), I1, J2) else b_n2 (fn_X10_copy (0 : Int32) ((160 : Int32) + ((80 : Int32) * i)) I1 J2) (fun (_ : Iv) (J15 : Jv) => l_t (wI I1 80 (i.toNatClampNeg) (1 : Int32)) (fun (I22 : Iv) => ((1 : Int32), I22, J15)))))
set_option maxRecDepth 100000 in
set_option maxHeartbeats 4000000 in
theorem ct_X10_keep (i : Int32) (I : Iv) (J : Jv) (hma : MA I) (hmj : MJ J) : Ct m_X10_keep [.ref 78, .int i] SHF I J (fun r S' I' J' => S' = SHF ∧ True ∧ ∃ v : Int32, r = some (.int v) ∧ fn_X10_keep i I J = (v, I', J') ∧ ((¬ (0 ≤ i ∧ i ≤ 1) ∧ v = -1000000001 ∧ MI (bgI I) I' ∧ MK (bgJ I J) J') ∨ (0 ≤ i ∧ i ≤ 1 ∧ v = 1 ∧ MI (wI (bgI I) 80 i.toNatClampNeg 1) I' ∧ MK (kpJ (bgJ I J) i) J'))) := by
  refine ct_of 0 (by decide +kernel) rfl rfl ?_
  have hK0 : (MI I I ∧ MK J J) := ⟨mi_rfl hma, mk_rfl hmj⟩
  have hF := fe_of (fn_X10_keep.eq_1 i I J)
  refine g_aload_n d_X10_keep_0 rfl ?_
  refine g_V0 d_X10_keep_1 cs_X10_keep_X10_begin lk_RX10_166 im_X10_begin se_X10_begin rfl rfl rfl (Nat.le_of_ble_eq_true rfl) ⟨rfl, rfl⟩ ⟨Nat.zero_le _, Nat.zero_le _⟩ (ct_X10_begin  I J hma hmj) (fun r1 S1 I1 J2 q1_2 => ?_)
  obtain ⟨rfl, hc1_3, rfl, hf1_4, hr1_5⟩ := q1_2
  replace hF := fe_b2 hF hf1_4
  refine g_st (st' := []) rfl ?_
  have hK7 : (MI (bgI I) I1 ∧ MK (bgJ I J) J2) := hr1_5
  refine g_iload_n d_X10_keep_4 rfl ?_
  refine g_i2l d_X10_keep_5 ?_
  refine g_lconst d_X10_keep_6 kL_0 ?_
  refine g_lconst d_X10_keep_7 kL_1 ?_
  refine g_S3 d_X10_keep_8 cs_X10_keep_X10_in lk_RX10_96 im_X10_in (Nat.le_of_ble_eq_true rfl) ⟨rfl, rfl⟩ ⟨Nat.zero_le _, Nat.zero_le _⟩ (ct_X10_inL i (0 : Int64) (1 : Int64) (0 : Int32) (1 : Int32) (by decide) (by decide) I1 J2) (fun r8 S8 Ic9 Jc10 q8_7 => ?_)
  obtain ⟨rfl, rfl, rfl, r13, rfl, hz8, hf8_11, hr8_13⟩ := q8_7
  replace hF := fe_b3 hF hf8_11
  refine g_st (st' := [.int r13]) rfl ?_
  refine g_if_ne d_X10_keep_11 (fun h11 => ?_) (fun h11 => ?_)
  · skip
    replace hF := fe_neg hF h11
    refine g_aload_n d_X10_keep_18 rfl ?_
    refine g_iconst (v := 0) d_X10_keep_19 kI_0 ?_
    refine g_sipush (v := 160) d_X10_keep_20 kS_160 ?_
    refine g_bipush (v := 80) d_X10_keep_23 kB_80 ?_
    refine g_iload_n d_X10_keep_25 rfl ?_
    refine g_imul d_X10_keep_26 ?_
    refine g_iadd d_X10_keep_27 ?_
    refine g_V2 d_X10_keep_28 cs_X10_keep_X10_copy lk_RX10_382 im_X10_copy se_X10_copy rfl rfl rfl (Nat.le_of_ble_eq_true rfl) ⟨rfl, rfl⟩ ⟨Nat.zero_le _, Nat.zero_le _⟩ (ct_X10_copy (0 : Int32) ((160 : Int32) + ((80 : Int32) * i)) I1 J2 (by decide) (by grind) (by grind)) (fun r28 S28 Ic17 J15 q28_15 => ?_)
    obtain ⟨rfl, ⟨rfl, hc28_17⟩, rfl, hf28_18, hr28_19⟩ := q28_15
    replace hF := fe_b2 hF hf28_18
    refine g_st (st' := []) rfl ?_
    have hK21 : (MI (bgI I) I1 ∧ MK (kpJ (bgJ I J) i) J15) := ⟨(hK7).1, mk_keep (i := i) (by grind) (hK7).2 hr28_19⟩
    refine g_aload_n d_X10_keep_31 rfl ?_
    refine g_getR d_X10_keep_32 fq_RX10_13 rfl rfl ?_
    refine g_iload_n d_X10_keep_35 rfl ?_
    refine g_iconst (v := 1) d_X10_keep_36 kI_1 ?_
    refine g_bastore (N := 2) d_X10_keep_37 rfl kT_2 (by constructor <;> grind) rfl (Or.inr rfl) ?_
    refine g_nmI (fun I22 eI22 => ?_)
    replace hF := fe_lt hF eI22
    have hK23 : (MI (wI (bgI I) 80 i.toNatClampNeg (1 : Int32)) I22 ∧ MK (kpJ (bgJ I J) i) J15) := (by rw [eI22]; exact ⟨mi_trk (hK21).1 rfl, (hK21).2⟩)
    refine g_iconst (v := 1) d_X10_keep_38 kI_1 ?_
    exact g_ireturn d_X10_keep_39 rfl rfl rfl rfl ⟨rfl, trivial, (1 : Int32), rfl, hF, (Or.inr ⟨by grind, by grind, rfl, hK23⟩)⟩
  · skip
    replace hF := fe_pos hF h11
    refine g_ldcw (v := -1000000001) d_X10_keep_14 tw_1296 ?_
    exact g_ireturn d_X10_keep_17 rfl rfl rfl rfl ⟨rfl, trivial, (-1000000001 : Int32), rfl, hF, (Or.inl ⟨by grind, rfl, hK7⟩)⟩
noncomputable def fn_X10_goBack (i : Int32) (I : Iv) (J : Jv) : Int32 × Iv × Jv :=
  b_n2 (fn_X10_begin I J) (fun (I1 : Iv) (J2 : Jv) => b_n3 (fn_X10_in (Int32.toInt64 i) (0 : Int64) (1 : Int64) I1 J2) (fun (r13 : Int32) (_ : Iv) (_ : Jv) => if r13 = 0 then ((-1000000001 : Int32), I1, J2) else if (I1 80 i.toNatClampNeg) = 0 then ((-1000000003 : Int32), I1, J2) else b_n2 (fn_X10_copy ((160 : Int32) + ((80 : Int32) * i)) (0 : Int32) I1 J2) (fun (_ : Iv) (J15 : Jv) => ((1 : Int32), I1, J15))))
set_option maxRecDepth 100000 in
set_option maxHeartbeats 4000000 in
theorem ct_X10_goBack (i : Int32) (I : Iv) (J : Jv) (hma : MA I) (hmj : MJ J) : Ct m_X10_goBack [.ref 78, .int i] SHF I J (fun r S' I' J' => S' = SHF ∧ True ∧ ∃ v : Int32, r = some (.int v) ∧ fn_X10_goBack i I J = (v, I', J') ∧ ((¬ (0 ≤ i ∧ i ≤ 1) ∧ v = -1000000001 ∧ MI (bgI I) I' ∧ MK (bgJ I J) J') ∨ (0 ≤ i ∧ i ≤ 1 ∧ (bgI I) 80 i.toNatClampNeg = 0 ∧ v = -1000000003 ∧ MI (bgI I) I' ∧ MK (bgJ I J) J') ∨ (0 ≤ i ∧ i ≤ 1 ∧ ¬ (bgI I) 80 i.toNatClampNeg = 0 ∧ v = 1 ∧ MI (bgI I) I' ∧ MK (gbJ (bgJ I J) i) J'))) := by
  refine ct_of 0 (by decide +kernel) rfl rfl ?_
  have hK0 : (MI I I ∧ MK J J) := ⟨mi_rfl hma, mk_rfl hmj⟩
  have hF := fe_of (fn_X10_goBack.eq_1 i I J)
  refine g_aload_n d_X10_goBack_0 rfl ?_
  refine g_V0 d_X10_goBack_1 cs_X10_goBack_X10_begin lk_RX10_166 im_X10_begin se_X10_begin rfl rfl rfl (Nat.le_of_ble_eq_true rfl) ⟨rfl, rfl⟩ ⟨Nat.zero_le _, Nat.zero_le _⟩ (ct_X10_begin  I J hma hmj) (fun r1 S1 I1 J2 q1_2 => ?_)
  obtain ⟨rfl, hc1_3, rfl, hf1_4, hr1_5⟩ := q1_2
  replace hF := fe_b2 hF hf1_4
  refine g_st (st' := []) rfl ?_
  have hK7 : (MI (bgI I) I1 ∧ MK (bgJ I J) J2) := hr1_5
  have hrow := mi_r80 (hr1_5).1
  refine g_iload_n d_X10_goBack_4 rfl ?_
  refine g_i2l d_X10_goBack_5 ?_
  refine g_lconst d_X10_goBack_6 kL_0 ?_
  refine g_lconst d_X10_goBack_7 kL_1 ?_
  refine g_S3 d_X10_goBack_8 cs_X10_goBack_X10_in lk_RX10_96 im_X10_in (Nat.le_of_ble_eq_true rfl) ⟨rfl, rfl⟩ ⟨Nat.zero_le _, Nat.zero_le _⟩ (ct_X10_inL i (0 : Int64) (1 : Int64) (0 : Int32) (1 : Int32) (by decide) (by decide) I1 J2) (fun r8 S8 Ic9 Jc10 q8_7 => ?_)
  obtain ⟨rfl, rfl, rfl, r13, rfl, hz8, hf8_11, hr8_13⟩ := q8_7
  replace hF := fe_b3 hF hf8_11
  refine g_st (st' := [.int r13]) rfl ?_
  refine g_if_ne d_X10_goBack_11 (fun h11 => ?_) (fun h11 => ?_)
  · skip
    replace hF := fe_neg hF h11
    refine g_aload_n d_X10_goBack_18 rfl ?_
    refine g_getR d_X10_goBack_19 fq_RX10_13 rfl rfl ?_
    refine g_iload_n d_X10_goBack_22 rfl ?_
    refine g_baload (N := 2) d_X10_goBack_23 rfl kT_2 (by constructor <;> grind) rfl (fun hz23 => ?_)
    refine g_if_ne d_X10_goBack_24 (fun h24 => ?_) (fun h24 => ?_)
    · skip
      replace hF := fe_neg hF h24
      refine g_aload_n d_X10_goBack_31 rfl ?_
      refine g_sipush (v := 160) d_X10_goBack_32 kS_160 ?_
      refine g_bipush (v := 80) d_X10_goBack_35 kB_80 ?_
      refine g_iload_n d_X10_goBack_37 rfl ?_
      refine g_imul d_X10_goBack_38 ?_
      refine g_iadd d_X10_goBack_39 ?_
      refine g_iconst (v := 0) d_X10_goBack_40 kI_0 ?_
      refine g_V2 d_X10_goBack_41 cs_X10_goBack_X10_copy lk_RX10_382 im_X10_copy se_X10_copy rfl rfl rfl (Nat.le_of_ble_eq_true rfl) ⟨rfl, rfl⟩ ⟨Nat.zero_le _, Nat.zero_le _⟩ (ct_X10_copy ((160 : Int32) + ((80 : Int32) * i)) (0 : Int32) I1 J2 (by grind) (by decide) (by grind)) (fun r41 S41 Ic17 J15 q41_15 => ?_)
      obtain ⟨rfl, ⟨rfl, hc41_17⟩, rfl, hf41_18, hr41_19⟩ := q41_15
      replace hF := fe_b2 hF hf41_18
      refine g_st (st' := []) rfl ?_
      have hK21 : (MI (bgI I) I1 ∧ MK (gbJ (bgJ I J) i) J15) := ⟨(hK7).1, mk_back (i := i) (by grind) (hK7).2 hr41_19⟩
      refine g_iconst (v := 1) d_X10_goBack_44 kI_1 ?_
      exact g_ireturn d_X10_goBack_45 rfl rfl rfl rfl ⟨rfl, trivial, (1 : Int32), rfl, hF, (Or.inr (Or.inr ⟨by grind, by grind, by rw [← hrow]; exact h24, rfl, hK21⟩))⟩
    · skip
      replace hF := fe_pos hF h24
      refine g_ldcw (v := -1000000003) d_X10_goBack_27 tw_1560 ?_
      exact g_ireturn d_X10_goBack_30 rfl rfl rfl rfl ⟨rfl, trivial, (-1000000003 : Int32), rfl, hF, (Or.inr (Or.inl ⟨by grind, by grind, by rw [← hrow]; exact h24, rfl, hK7⟩))⟩
  · skip
    replace hF := fe_pos hF h11
    refine g_ldcw (v := -1000000001) d_X10_goBack_14 tw_1296 ?_
    exact g_ireturn d_X10_goBack_17 rfl rfl rfl rfl ⟨rfl, trivial, (-1000000001 : Int32), rfl, hF, (Or.inl ⟨by grind, rfl, hK7⟩)⟩
