noncomputable def fn_X9_feed (n : Int32) (bytes : Int64) (I : Iv) (J : Jv) : Int32 × Iv × Jv :=
  if n < (1 : Int32) then ((-1000000002 : Int32), I, J) else if n ≤ (8 : Int32) then b_n3 (fn_X5_append n bytes I J) (fun (r6 : Int32) (I1 : Iv) (J2 : Jv) => if r6 = 0 then ((-1000000004 : Int32), I1, J2) else ((I1 1 1), I1, J2)) else ((-1000000002 : Int32), I, J)
set_option maxRecDepth 100000 in
set_option maxHeartbeats 4000000 in
theorem ct_X9_feed (n : Int32) (bytes : Int64) (I : Iv) (J : Jv) (hln : 0 ≤ I 1 1 ∧ I 1 1 ≤ 300) : Ct m_X9_feed [.ref 0, .int n, .long bytes] SHF I J (fun r S' I' J' => S' = SHF ∧ True ∧ ∃ v : Int32, r = some (.int v) ∧ fn_X9_feed n bytes I J = (v, I', J') ∧ ((1 ≤ n ∧ n ≤ 8 ∧ n ≤ 300 - I 1 1 ∧ v = I 1 1 + n ∧ XT I' J' = XT (wI I 1 1 (I 1 1 + n)) J) ∨ (1 ≤ n ∧ n ≤ 8 ∧ ¬ n ≤ 300 - I 1 1 ∧ v = -1000000004 ∧ XT I' J' = XT I J) ∨ (¬ (1 ≤ n ∧ n ≤ 8) ∧ v = -1000000002 ∧ XT I' J' = XT I J))) := by
  refine ct_of 0 (by decide +kernel) rfl rfl ?_
  have hK0 : True := trivial
  have hF := fe_of (fn_X9_feed.eq_1 n bytes I J)
  refine g_iload_n d_X9_feed_0 rfl ?_
  refine g_iconst (v := 1) d_X9_feed_1 kI_1 ?_
  refine g_icmp_lt d_X9_feed_2 (fun h2 => ?_) (fun h2 => ?_)
  · skip
    replace hF := fe_pos hF h2
    refine g_ldc (v := -1000000002) d_X9_feed_11 tw_396 ?_
    exact g_ireturn d_X9_feed_13 rfl rfl rfl rfl ⟨rfl, trivial, (-1000000002 : Int32), rfl, hF, by grind⟩
  · skip
    replace hF := fe_neg hF h2
    refine g_iload_n d_X9_feed_5 rfl ?_
    refine g_bipush (v := 8) d_X9_feed_6 kB_8 ?_
    refine g_icmp_le d_X9_feed_8 (fun h8 => ?_) (fun h8 => ?_)
    · skip
      replace hF := fe_pos hF h8
      refine g_aload_n d_X9_feed_14 rfl ?_
      refine g_getR d_X9_feed_15 fq_RX9_10 rfl rfl ?_
      refine g_iload_n d_X9_feed_18 rfl ?_
      refine g_lload_n d_X9_feed_19 rfl ?_
      refine g_V2 d_X9_feed_20 cs_X9_feed_X5_append lk_RX9_101 im_X5_append se_X5_append rfl rfl rfl (Nat.le_of_ble_eq_true rfl) ⟨rfl, rfl⟩ ⟨Nat.zero_le _, Nat.zero_le _⟩ (ct_X5_append n bytes I J hln (by grind)) (fun r20 S20 I1 J2 q20_2 => ?_)
      obtain ⟨rfl, hc20_3, r6, rfl, hz20, hf20_4, hr20_6⟩ := q20_2
      replace hF := fe_b3 hF hf20_4
      refine g_st (st' := [.int r6]) rfl ?_
      have hK8 : True := trivial
      have hL : r6 = 1 → I1 1 1 = I 1 1 + n := by
                intro h; rcases hr20_6 with q | q
                · grind
                · rw [xt_len q.2.2]; simp [wI]
      refine g_if_eq d_X9_feed_23 (fun h23 => ?_) (fun h23 => ?_)
      · skip
        replace hF := fe_pos hF h23
        refine g_ldc (v := -1000000004) d_X9_feed_36 tw_402 ?_
        exact g_ireturn d_X9_feed_38 rfl rfl rfl rfl ⟨rfl, trivial, (-1000000004 : Int32), rfl, hF, by grind⟩
      · skip
        replace hF := fe_neg hF h23
        refine g_aload_n d_X9_feed_26 rfl ?_
        refine g_getR d_X9_feed_27 fq_RX9_10 rfl rfl ?_
        refine g_getI d_X9_feed_30 fq_RX9_105 rfl rfl ?_
        refine g_goto d_X9_feed_33 ?_
        exact g_ireturn d_X9_feed_38 rfl rfl rfl rfl ⟨rfl, trivial, (I1 1 1), rfl, hF, by grind⟩
    · skip
      replace hF := fe_neg hF h8
      refine g_ldc (v := -1000000002) d_X9_feed_11 tw_396 ?_
      exact g_ireturn d_X9_feed_13 rfl rfl rfl rfl ⟨rfl, trivial, (-1000000002 : Int32), rfl, hF, by grind⟩
noncomputable def fn_X9_box (I : Iv) (J : Jv) : Int32 × Iv × Jv :=
  b_n2 (fn_X5_readBox I J) (fun (I1 : Iv) (J2 : Jv) => l_t (wI I1 1 1 (0 : Int32)) (fun (I8 : Iv) => if (I8 1 3) = 0 then b_n2 (fn_X0_copyFrom I8 J2) (fun (I10 : Iv) (J11 : Jv) => b_n2 (fn_X6_becomeFresh 16 I10 J11) (fun (I17 : Iv) (J18 : Jv) => b_n2 (fn_X1_forgetSigns I17 J18) (fun (I24 : Iv) (J25 : Jv) => ((I24 1 5), I24, J25)))) else (((-10 : Int32) - (I8 1 3)), I8, J2)))
set_option maxRecDepth 100000 in
set_option maxHeartbeats 4000000 in
theorem ct_X9_box  (I : Iv) (J : Jv) (hln : 0 ≤ I 1 1 ∧ I 1 1 ≤ 300) : Ct m_X9_box [.ref 0] SHF I J (fun r S' I' J' => S' = SHF ∧ True ∧ ∃ v : Int32, r = some (.int v) ∧ fn_X9_box I J = (v, I', J') ∧ (XT I' J' = XT (wI I 1 1 0) J ∨ XT I' J' = XT (wI (wI I 1 1 0) 24 0 0) J)) := by
  refine ct_of 0 (by decide +kernel) rfl rfl ?_
  have hK0 : XT I J = XT I J := rfl
  have hF := fe_of (fn_X9_box.eq_1 I J)
  refine g_aload_n d_X9_box_0 rfl ?_
  refine g_getR d_X9_box_1 fq_RX9_10 rfl rfl ?_
  refine g_V0 d_X9_box_4 cs_X9_box_X5_readBox lk_RX9_110 im_X5_readBox se_X5_readBox rfl rfl rfl (Nat.le_of_ble_eq_true rfl) ⟨rfl, rfl⟩ ⟨Nat.zero_le _, Nat.zero_le _⟩ (ct_X5_readBox  I J hln) (fun r4 S4 I1 J2 q4_2 => ?_)
  obtain ⟨rfl, hc4_3, rfl, hf4_4⟩ := q4_2
  replace hF := fe_b2 hF hf4_4
  refine g_st (st' := []) rfl ?_
  have hK7 : XT I1 J2 = XT I J := hc4_3.trans hK0
  refine g_aload_n d_X9_box_7 rfl ?_
  refine g_getR d_X9_box_8 fq_RX9_10 rfl rfl ?_
  refine g_iconst (v := 0) d_X9_box_11 kI_0 ?_
  refine g_putI d_X9_box_12 fq_RX9_105 rfl rfl ?_
  refine g_nmI (fun I8 eI8 => ?_)
  replace hF := fe_lt hF eI8
  have hK9 : XT I8 J2 = XT (wI I 1 1 (0 : Int32)) J := ((congrArg (fun q => XT q _) eI8).trans (xt_cong hK7))
  refine g_aload_n d_X9_box_15 rfl ?_
  refine g_getR d_X9_box_16 fq_RX9_10 rfl rfl ?_
  refine g_getI d_X9_box_19 fq_RX9_113 rfl rfl ?_
  refine g_if_eq d_X9_box_22 (fun h22 => ?_) (fun h22 => ?_)
  · skip
    replace hF := fe_pos hF h22
    refine g_aload_n d_X9_box_36 rfl ?_
    refine g_getR d_X9_box_37 fq_RX9_19 rfl rfl ?_
    refine g_aload_n d_X9_box_40 rfl ?_
    refine g_getR d_X9_box_41 fq_RX9_10 rfl rfl ?_
    refine g_getR d_X9_box_44 fq_RX9_116 rfl rfl ?_
    refine g_V1 d_X9_box_47 cs_X9_box_X0_copyFrom lk_RX9_120 im_X0_copyFrom se_X0_copyFrom rfl rfl rfl (Nat.le_of_ble_eq_true rfl) ⟨rfl, rfl⟩ ⟨Nat.zero_le _, Nat.zero_le _⟩ (ct_X0_copyFrom  I8 J2 ) (fun r47 S47 I10 J11 q47_11 => ?_)
    obtain ⟨rfl, hc47_12, rfl, hf47_13⟩ := q47_11
    replace hF := fe_b2 hF hf47_13
    refine g_st (st' := []) rfl ?_
    have hK16 : XT I10 J11 = XT (wI I 1 1 (0 : Int32)) J := hc47_12.trans hK9
    refine g_aload_n d_X9_box_50 rfl ?_
    refine g_getR d_X9_box_51 fq_RX9_42 rfl rfl ?_
    refine g_V0 d_X9_box_54 cs_X9_box_X6_becomeFresh lk_RX9_97 im_X6_becomeFresh se_X6_becomeFresh rfl rfl rfl (Nat.le_of_ble_eq_true rfl) ⟨rfl, rfl⟩ ⟨Nat.zero_le _, Nat.zero_le _⟩ (ct_X6_becomeFresh  I10 J11 stA_16) (fun r54 S54 I17 J18 q54_18 => ?_)
    obtain ⟨rfl, hc54_19, rfl, hf54_20, hr54_21⟩ := q54_18
    replace hF := fe_b2 hF hf54_20
    refine g_st (st' := []) rfl ?_
    have hK23 : XT I17 J18 = XT (wI (wI I 1 1 (0 : Int32)) 24 0 0) J := (xt_tick (xn_fsx (Or.inl rfl) hc54_19) hr54_21).trans (xt_cong hK16)
    refine g_aload_n d_X9_box_57 rfl ?_
    refine g_getR d_X9_box_58 fq_RX9_64 rfl rfl ?_
    refine g_V0 d_X9_box_61 cs_X9_box_X1_forgetSigns lk_RX9_124 im_X1_forgetSigns se_X1_forgetSigns rfl rfl rfl (Nat.le_of_ble_eq_true rfl) ⟨rfl, rfl⟩ ⟨Nat.zero_le _, Nat.zero_le _⟩ (ct_X1_forgetSigns  I17 J18 ) (fun r61 S61 I24 J25 q61_25 => ?_)
    obtain ⟨rfl, hc61_26, rfl, hf61_27⟩ := q61_25
    replace hF := fe_b2 hF hf61_27
    refine g_st (st' := []) rfl ?_
    have hK30 : XT I24 J25 = XT (wI (wI I 1 1 (0 : Int32)) 24 0 0) J := hc61_26.trans hK23
    refine g_aload_n d_X9_box_64 rfl ?_
    refine g_getR d_X9_box_65 fq_RX9_10 rfl rfl ?_
    refine g_getI d_X9_box_68 fq_RX9_127 rfl rfl ?_
    exact g_ireturn d_X9_box_71 rfl rfl rfl rfl ⟨rfl, trivial, (I24 1 5), rfl, hF, by grind⟩
  · skip
    replace hF := fe_neg hF h22
    refine g_bipush (v := -10) d_X9_box_25 kB_m10 ?_
    refine g_aload_n d_X9_box_27 rfl ?_
    refine g_getR d_X9_box_28 fq_RX9_10 rfl rfl ?_
    refine g_getI d_X9_box_31 fq_RX9_113 rfl rfl ?_
    refine g_isub d_X9_box_34 ?_
    exact g_ireturn d_X9_box_35 rfl rfl rfl rfl ⟨rfl, trivial, ((-10 : Int32) - (I8 1 3)), rfl, hF, by grind⟩
noncomputable def fn_X9_day (I : Iv) (J : Jv) : Int32 × Iv × Jv :=
  b_n2 (fn_X5_readDay I J) (fun (I1 : Iv) (J2 : Jv) => l_t (wI I1 1 1 (0 : Int32)) (fun (I8 : Iv) => if (I8 1 3) = 0 then b_n2 (fn_X3_copyFrom (I8 1 5) I8 J2) (fun (I10 : Iv) (J11 : Jv) => b_n2 (fn_X1_forgetSigns I10 J11) (fun (I17 : Iv) (J18 : Jv) => ((I17 1 5), I17, J18))) else (((-10 : Int32) - (I8 1 3)), I8, J2)))
set_option maxRecDepth 100000 in
set_option maxHeartbeats 4000000 in
theorem ct_X9_day  (I : Iv) (J : Jv) (hln : 0 ≤ I 1 1 ∧ I 1 1 ≤ 300) : Ct m_X9_day [.ref 0] SHF I J (fun r S' I' J' => S' = SHF ∧ True ∧ ∃ v : Int32, r = some (.int v) ∧ fn_X9_day I J = (v, I', J') ∧ (XT I' J' = XT (wI I 1 1 0) J)) := by
  refine ct_of 0 (by decide +kernel) rfl rfl ?_
  have hK0 : XT I J = XT I J := rfl
  have hF := fe_of (fn_X9_day.eq_1 I J)
  refine g_aload_n d_X9_day_0 rfl ?_
  refine g_getR d_X9_day_1 fq_RX9_10 rfl rfl ?_
  refine g_V0 d_X9_day_4 cs_X9_day_X5_readDay lk_RX9_130 im_X5_readDay se_X5_readDay rfl rfl rfl (Nat.le_of_ble_eq_true rfl) ⟨rfl, rfl⟩ ⟨Nat.zero_le _, Nat.zero_le _⟩ (ct_X5_readDay  I J hln) (fun r4 S4 I1 J2 q4_2 => ?_)
  obtain ⟨rfl, hc4_3, rfl, hf4_4⟩ := q4_2
  replace hF := fe_b2 hF hf4_4
  refine g_st (st' := []) rfl ?_
  have hK7 : XT I1 J2 = XT I J := hc4_3.trans hK0
  refine g_aload_n d_X9_day_7 rfl ?_
  refine g_getR d_X9_day_8 fq_RX9_10 rfl rfl ?_
  refine g_iconst (v := 0) d_X9_day_11 kI_0 ?_
  refine g_putI d_X9_day_12 fq_RX9_105 rfl rfl ?_
  refine g_nmI (fun I8 eI8 => ?_)
  replace hF := fe_lt hF eI8
  have hK9 : XT I8 J2 = XT (wI I 1 1 (0 : Int32)) J := ((congrArg (fun q => XT q _) eI8).trans (xt_cong hK7))
  refine g_aload_n d_X9_day_15 rfl ?_
  refine g_getR d_X9_day_16 fq_RX9_10 rfl rfl ?_
  refine g_getI d_X9_day_19 fq_RX9_113 rfl rfl ?_
  refine g_if_eq d_X9_day_22 (fun h22 => ?_) (fun h22 => ?_)
  · skip
    replace hF := fe_pos hF h22
    refine g_aload_n d_X9_day_36 rfl ?_
    refine g_getR d_X9_day_37 fq_RX9_26 rfl rfl ?_
    refine g_aload_n d_X9_day_40 rfl ?_
    refine g_getR d_X9_day_41 fq_RX9_10 rfl rfl ?_
    refine g_getI d_X9_day_44 fq_RX9_127 rfl rfl ?_
    refine g_aload_n d_X9_day_47 rfl ?_
    refine g_getR d_X9_day_48 fq_RX9_10 rfl rfl ?_
    refine g_getR d_X9_day_51 fq_RX9_133 rfl rfl ?_
    refine g_aload_n d_X9_day_54 rfl ?_
    refine g_getR d_X9_day_55 fq_RX9_10 rfl rfl ?_
    refine g_getR d_X9_day_58 fq_RX9_136 rfl rfl ?_
    refine g_V3 d_X9_day_61 cs_X9_day_X3_copyFrom lk_RX9_139 im_X3_copyFrom se_X3_copyFrom rfl rfl rfl (Nat.le_of_ble_eq_true rfl) ⟨rfl, rfl⟩ ⟨Nat.zero_le _, Nat.zero_le _⟩ (ct_X3_copyFrom (I8 1 5) I8 J2 ) (fun r61 S61 I10 J11 q61_11 => ?_)
    obtain ⟨rfl, hc61_12, rfl, hf61_13⟩ := q61_11
    replace hF := fe_b2 hF hf61_13
    refine g_st (st' := []) rfl ?_
    have hK16 : XT I10 J11 = XT (wI I 1 1 (0 : Int32)) J := hc61_12.trans hK9
    refine g_aload_n d_X9_day_64 rfl ?_
    refine g_getR d_X9_day_65 fq_RX9_64 rfl rfl ?_
    refine g_V0 d_X9_day_68 cs_X9_day_X1_forgetSigns lk_RX9_124 im_X1_forgetSigns se_X1_forgetSigns rfl rfl rfl (Nat.le_of_ble_eq_true rfl) ⟨rfl, rfl⟩ ⟨Nat.zero_le _, Nat.zero_le _⟩ (ct_X1_forgetSigns  I10 J11 ) (fun r68 S68 I17 J18 q68_18 => ?_)
    obtain ⟨rfl, hc68_19, rfl, hf68_20⟩ := q68_18
    replace hF := fe_b2 hF hf68_20
    refine g_st (st' := []) rfl ?_
    have hK23 : XT I17 J18 = XT (wI I 1 1 (0 : Int32)) J := hc68_19.trans hK16
    refine g_aload_n d_X9_day_71 rfl ?_
    refine g_getR d_X9_day_72 fq_RX9_10 rfl rfl ?_
    refine g_getI d_X9_day_75 fq_RX9_127 rfl rfl ?_
    exact g_ireturn d_X9_day_78 rfl rfl rfl rfl ⟨rfl, trivial, (I17 1 5), rfl, hF, by grind⟩
  · skip
    replace hF := fe_neg hF h22
    refine g_bipush (v := -10) d_X9_day_25 kB_m10 ?_
    refine g_aload_n d_X9_day_27 rfl ?_
    refine g_getR d_X9_day_28 fq_RX9_10 rfl rfl ?_
    refine g_getI d_X9_day_31 fq_RX9_113 rfl rfl ?_
    refine g_isub d_X9_day_34 ?_
    exact g_ireturn d_X9_day_35 rfl rfl rfl rfl ⟨rfl, trivial, ((-10 : Int32) - (I8 1 3)), rfl, hF, by grind⟩
noncomputable def fn_X9_fault (I : Iv) (J : Jv) : Int32 × Iv × Jv :=
  ((I 1 4), I, J)
set_option maxRecDepth 100000 in
set_option maxHeartbeats 4000000 in
theorem ct_X9_fault  (I : Iv) (J : Jv)  : Ct m_X9_fault [.ref 0] SHF I J (fun r S' I' J' => S' = SHF ∧ I = I' ∧ J = J' ∧ ∃ v : Int32, r = some (.int v) ∧ fn_X9_fault I J = (v, I', J')) := by
  refine ct_of 0 (by decide +kernel) rfl rfl ?_
  have hF := fe_of (fn_X9_fault.eq_1 I J)
  refine g_aload_n d_X9_fault_0 rfl ?_
  refine g_getR d_X9_fault_1 fq_RX9_10 rfl rfl ?_
  refine g_getI d_X9_fault_4 fq_RX9_142 rfl rfl ?_
  exact g_ireturn d_X9_fault_7 rfl rfl rfl rfl ⟨rfl, rfl, rfl, (I 1 4), rfl, hF⟩
noncomputable def fn_X9_told (what : Int32) (I : Iv) (J : Jv) : Int32 × Iv × Jv :=
  if what < 0 then ((-1000000002 : Int32), I, J) else if what < (15 : Int32) then ((I 8 what.toNatClampNeg), I, J) else ((-1000000002 : Int32), I, J)
set_option maxRecDepth 100000 in
set_option maxHeartbeats 4000000 in
theorem ct_X9_told (what : Int32) (I : Iv) (J : Jv)  : Ct m_X9_told [.ref 0, .int what] SHF I J (fun r S' I' J' => S' = SHF ∧ I = I' ∧ J = J' ∧ ∃ v : Int32, r = some (.int v) ∧ fn_X9_told what I J = (v, I', J')) := by
  refine ct_of 0 (by decide +kernel) rfl rfl ?_
  have hF := fe_of (fn_X9_told.eq_1 what I J)
  refine g_iload_n d_X9_told_0 rfl ?_
  refine g_if_lt d_X9_told_1 (fun h1 => ?_) (fun h1 => ?_)
  · skip
    replace hF := fe_pos hF h1
    refine g_ldc (v := -1000000002) d_X9_told_10 tw_396 ?_
    refine g_goto d_X9_told_12 ?_
    exact g_ireturn d_X9_told_24 rfl rfl rfl rfl ⟨rfl, rfl, rfl, (-1000000002 : Int32), rfl, hF⟩
  · skip
    replace hF := fe_neg hF h1
    refine g_iload_n d_X9_told_4 rfl ?_
    refine g_bipush (v := 15) d_X9_told_5 kB_15 ?_
    refine g_icmp_lt d_X9_told_7 (fun h7 => ?_) (fun h7 => ?_)
    · skip
      replace hF := fe_pos hF h7
      refine g_aload_n d_X9_told_15 rfl ?_
      refine g_getR d_X9_told_16 fq_RX9_19 rfl rfl ?_
      refine g_getR d_X9_told_19 fq_RX9_145 rfl rfl ?_
      refine g_iload_n d_X9_told_22 rfl ?_
      refine g_iaload (N := 15) d_X9_told_23 rfl kT_15 (by constructor <;> grind) rfl ?_
      exact g_ireturn d_X9_told_24 rfl rfl rfl rfl ⟨rfl, rfl, rfl, (I 8 what.toNatClampNeg), rfl, hF⟩
    · skip
      replace hF := fe_neg hF h7
      refine g_ldc (v := -1000000002) d_X9_told_10 tw_396 ?_
      refine g_goto d_X9_told_12 ?_
      exact g_ireturn d_X9_told_24 rfl rfl rfl rfl ⟨rfl, rfl, rfl, (-1000000002 : Int32), rfl, hF⟩
noncomputable def fn_X9_opening (i : Int32) (what : Int32) (I : Iv) (J : Jv) : Int32 × Iv × Jv :=
  if what < 0 then ((-1000000002 : Int32), I, J) else if what ≤ (1 : Int32) then if i < 0 then ((-1 : Int32), I, J) else if (I 9 0) ≤ i then ((-1 : Int32), I, J) else if i < (12 : Int32) then if what = 0 then ((I 10 i.toNatClampNeg), I, J) else ((I 11 i.toNatClampNeg), I, J) else ((-1 : Int32), I, J) else ((-1000000002 : Int32), I, J)
set_option maxRecDepth 100000 in
set_option maxHeartbeats 4000000 in
theorem ct_X9_opening (i : Int32) (what : Int32) (I : Iv) (J : Jv)  : Ct m_X9_opening [.ref 0, .int i, .int what] SHF I J (fun r S' I' J' => S' = SHF ∧ I = I' ∧ J = J' ∧ ∃ v : Int32, r = some (.int v) ∧ fn_X9_opening i what I J = (v, I', J')) := by
  refine ct_of 0 (by decide +kernel) rfl rfl ?_
  have hF := fe_of (fn_X9_opening.eq_1 i what I J)
  refine g_iload_n d_X9_opening_0 rfl ?_
  refine g_if_lt d_X9_opening_1 (fun h1 => ?_) (fun h1 => ?_)
  · skip
    replace hF := fe_pos hF h1
    refine g_ldc (v := -1000000002) d_X9_opening_9 tw_396 ?_
    exact g_ireturn d_X9_opening_11 rfl rfl rfl rfl ⟨rfl, rfl, rfl, (-1000000002 : Int32), rfl, hF⟩
  · skip
    replace hF := fe_neg hF h1
    refine g_iload_n d_X9_opening_4 rfl ?_
    refine g_iconst (v := 1) d_X9_opening_5 kI_1 ?_
    refine g_icmp_le d_X9_opening_6 (fun h6 => ?_) (fun h6 => ?_)
    · skip
      replace hF := fe_pos hF h6
      refine g_iload_n d_X9_opening_12 rfl ?_
      refine g_if_lt d_X9_opening_13 (fun h13 => ?_) (fun h13 => ?_)
      · skip
        replace hF := fe_pos hF h13
        refine g_iconst (v := -1) d_X9_opening_33 kI_m1 ?_
        exact g_ireturn d_X9_opening_34 rfl rfl rfl rfl ⟨rfl, rfl, rfl, (-1 : Int32), rfl, hF⟩
      · skip
        replace hF := fe_neg hF h13
        refine g_iload_n d_X9_opening_16 rfl ?_
        refine g_aload_n d_X9_opening_17 rfl ?_
        refine g_getR d_X9_opening_18 fq_RX9_26 rfl rfl ?_
        refine g_getI d_X9_opening_21 fq_RX9_146 rfl rfl ?_
        refine g_icmp_ge d_X9_opening_24 (fun h24 => ?_) (fun h24 => ?_)
        · skip
          replace hF := fe_pos hF h24
          refine g_iconst (v := -1) d_X9_opening_33 kI_m1 ?_
          exact g_ireturn d_X9_opening_34 rfl rfl rfl rfl ⟨rfl, rfl, rfl, (-1 : Int32), rfl, hF⟩
        · skip
          replace hF := fe_neg hF h24
          refine g_iload_n d_X9_opening_27 rfl ?_
          refine g_bipush (v := 12) d_X9_opening_28 kB_12 ?_
          refine g_icmp_lt d_X9_opening_30 (fun h30 => ?_) (fun h30 => ?_)
          · skip
            replace hF := fe_pos hF h30
            refine g_iload_n d_X9_opening_35 rfl ?_
            refine g_if_ne d_X9_opening_36 (fun h36 => ?_) (fun h36 => ?_)
            · skip
              replace hF := fe_neg hF h36
              refine g_aload_n d_X9_opening_51 rfl ?_
              refine g_getR d_X9_opening_52 fq_RX9_26 rfl rfl ?_
              refine g_getR d_X9_opening_55 fq_RX9_150 rfl rfl ?_
              refine g_iload_n d_X9_opening_58 rfl ?_
              refine g_iaload (N := 12) d_X9_opening_59 rfl kT_12 (by constructor <;> grind) rfl ?_
              exact g_ireturn d_X9_opening_60 rfl rfl rfl rfl ⟨rfl, rfl, rfl, (I 11 i.toNatClampNeg), rfl, hF⟩
            · skip
              replace hF := fe_pos hF h36
              refine g_aload_n d_X9_opening_39 rfl ?_
              refine g_getR d_X9_opening_40 fq_RX9_26 rfl rfl ?_
              refine g_getR d_X9_opening_43 fq_RX9_149 rfl rfl ?_
              refine g_iload_n d_X9_opening_46 rfl ?_
              refine g_iaload (N := 12) d_X9_opening_47 rfl kT_12 (by constructor <;> grind) rfl ?_
              refine g_goto d_X9_opening_48 ?_
              exact g_ireturn d_X9_opening_60 rfl rfl rfl rfl ⟨rfl, rfl, rfl, (I 10 i.toNatClampNeg), rfl, hF⟩
          · skip
            replace hF := fe_neg hF h30
            refine g_iconst (v := -1) d_X9_opening_33 kI_m1 ?_
            exact g_ireturn d_X9_opening_34 rfl rfl rfl rfl ⟨rfl, rfl, rfl, (-1 : Int32), rfl, hF⟩
    · skip
      replace hF := fe_neg hF h6
      refine g_ldc (v := -1000000002) d_X9_opening_9 tw_396 ?_
      exact g_ireturn d_X9_opening_11 rfl rfl rfl rfl ⟨rfl, rfl, rfl, (-1000000002 : Int32), rfl, hF⟩
noncomputable def fn_X9_trouble (set : Int32) (I : Iv) (J : Jv) : Int32 × Iv × Jv :=
  b_n3 (fn_X9_isSet set I J) (fun (r6 : Int32) (_ : Iv) (_ : Jv) => if r6 = 0 then ((-1000000001 : Int32), I, J) else l_t ((I 16 8)) (fun (v8 : Int32) => l_t (wI I 16 8 set) (fun (I9 : Iv) => if (set &&& (2 : Int32)) = 0 then (v8, I9, J) else if (v8 &&& (2 : Int32)) = 0 then l_t (wI I9 24 5 (if (I9 24 5) < (600 : Int32) then (600 : Int32) else (I9 24 5))) (fun (I11 : Iv) => (v8, I11, J)) else (v8, I9, J))))
set_option maxRecDepth 100000 in
set_option maxHeartbeats 4000000 in
theorem ct_X9_trouble (set : Int32) (I : Iv) (J : Jv)  : Ct m_X9_trouble [.ref 0, .int set] SHF I J (fun r S' I' J' => S' = SHF ∧ True ∧ ∃ v : Int32, r = some (.int v) ∧ fn_X9_trouble set I J = (v, I', J') ∧ ((0 ≤ set ∧ set ≤ 127 ∧ v = I 16 8 ∧ XT I' J' = XT (wI I 16 8 set) J) ∨ (¬ (0 ≤ set ∧ set ≤ 127) ∧ v = -1000000001 ∧ XT I' J' = XT I J))) := by
  refine ct_of 1 (by decide +kernel) rfl rfl ?_
  have hK0 : XT I J = XT I J := rfl
  have hF := fe_of (fn_X9_trouble.eq_1 set I J)
  refine g_iload_n d_X9_trouble_0 rfl ?_
  refine g_S1 d_X9_trouble_1 cs_X9_trouble_X9_isSet lk_RX9_151 im_X9_isSet (Nat.le_of_ble_eq_true rfl) ⟨rfl, rfl⟩ ⟨Nat.zero_le _, Nat.zero_le _⟩ (ct_X9_isSet set I J ) (fun r1 S1 Ic2 Jc3 q1_0 => ?_)
  obtain ⟨rfl, rfl, rfl, r6, rfl, hz1, hf1_4, hr1_6⟩ := q1_0
  replace hF := fe_b3 hF hf1_4
  refine g_st (st' := [.int r6]) rfl ?_
  refine g_if_ne d_X9_trouble_4 (fun h4 => ?_) (fun h4 => ?_)
  · skip
    replace hF := fe_neg hF h4
    refine g_aload_n d_X9_trouble_10 rfl ?_
    refine g_getR d_X9_trouble_11 fq_RX9_42 rfl rfl ?_
    refine g_getI d_X9_trouble_14 fq_RX9_156 rfl rfl ?_
    refine g_topI (fun v8 ev8 => ?_)
    replace hF := fe_lt hF ev8
    refine g_istore_n (L' := [some (.ref 0), some (.int set), some (.int v8)]) d_X9_trouble_17 (by decide) rfl ?_
    refine g_aload_n d_X9_trouble_18 rfl ?_
    refine g_getR d_X9_trouble_19 fq_RX9_42 rfl rfl ?_
    refine g_iload_n d_X9_trouble_22 rfl ?_
    refine g_putI d_X9_trouble_23 fq_RX9_156 rfl rfl ?_
    refine g_nmI (fun I9 eI9 => ?_)
    replace hF := fe_lt hF eI9
    have hK10 : XT I9 J = XT (wI I 16 8 set) J := ((congrArg (fun q => XT q _) eI9).trans (xt_cong hK0))
    refine g_iload_n d_X9_trouble_26 rfl ?_
    refine g_iconst (v := 2) d_X9_trouble_27 kI_2 ?_
    refine g_iand d_X9_trouble_28 ?_
    refine g_if_eq d_X9_trouble_29 (fun h29 => ?_) (fun h29 => ?_)
    · skip
      replace hF := fe_pos hF h29
      refine g_iload_n d_X9_trouble_62 rfl ?_
      exact g_ireturn d_X9_trouble_63 rfl rfl rfl rfl ⟨rfl, trivial, v8, rfl, hF, by grind⟩
    · skip
      replace hF := fe_neg hF h29
      refine g_iload_n d_X9_trouble_32 rfl ?_
      refine g_iconst (v := 2) d_X9_trouble_33 kI_2 ?_
      refine g_iand d_X9_trouble_34 ?_
      refine g_if_ne d_X9_trouble_35 (fun h35 => ?_) (fun h35 => ?_)
      · skip
        replace hF := fe_neg hF h35
        refine g_iload_n d_X9_trouble_62 rfl ?_
        exact g_ireturn d_X9_trouble_63 rfl rfl rfl rfl ⟨rfl, trivial, v8, rfl, hF, by grind⟩
      · skip
        replace hF := fe_pos hF h35
        refine g_aload_n d_X9_trouble_38 rfl ?_
        refine g_getR d_X9_trouble_39 fq_RX9_42 rfl rfl ?_
        refine g_getR d_X9_trouble_42 fq_RX9_159 rfl rfl ?_
        refine g_iconst (v := 5) d_X9_trouble_45 kI_5 ?_
        refine g_aload_n d_X9_trouble_46 rfl ?_
        refine g_getR d_X9_trouble_47 fq_RX9_42 rfl rfl ?_
        refine g_getR d_X9_trouble_50 fq_RX9_159 rfl rfl ?_
        refine g_iconst (v := 5) d_X9_trouble_53 kI_5 ?_
        refine g_iaload (N := 8) d_X9_trouble_54 rfl kT_8 ⟨by decide, by decide⟩ kN_5 ?_
        refine g_sipush (v := 600) d_X9_trouble_55 kS_600 ?_
        refine g_mmax d_X9_trouble_58 tw_577 tw_555 tw_18 tw_556 ⟨by decide, by decide⟩ ⟨Nat.zero_le _, Nat.zero_le _⟩ (Nat.le_of_ble_eq_true rfl) ?_
        refine g_iastore (N := 8) d_X9_trouble_61 rfl kT_8 ⟨by decide, by decide⟩ kN_5  ?_
        refine g_nmI (fun I11 eI11 => ?_)
        replace hF := fe_lt hF eI11
        have hK12 : XT I11 J = XT (wI I 16 8 set) J := (by rw [eI11]; exact (xt_wI rfl).trans hK10)
        refine g_iload_n d_X9_trouble_62 rfl ?_
        exact g_ireturn d_X9_trouble_63 rfl rfl rfl rfl ⟨rfl, trivial, v8, rfl, hF, by grind⟩
  · skip
    replace hF := fe_pos hF h4
    refine g_ldc (v := -1000000001) d_X9_trouble_7 tw_576 ?_
    exact g_ireturn d_X9_trouble_9 rfl rfl rfl rfl ⟨rfl, trivial, (-1000000001 : Int32), rfl, hF, by grind⟩
noncomputable def fn_X9_fresh (I : Iv) (J : Jv) : Int32 × Iv × Jv :=
  l_t ((I 24 0)) (fun (v1 : Int32) => b_n2 (fn_X6_becomeFresh 16 I J) (fun (I2 : Iv) (J3 : Jv) => (v1, I2, J3)))
set_option maxRecDepth 100000 in
set_option maxHeartbeats 4000000 in
theorem ct_X9_fresh  (I : Iv) (J : Jv)  : Ct m_X9_fresh [.ref 0] SHF I J (fun r S' I' J' => S' = SHF ∧ True ∧ ∃ v : Int32, r = some (.int v) ∧ fn_X9_fresh I J = (v, I', J') ∧ (v = I 24 0 ∧ XT I' J' = XT (wI I 24 0 0) J)) := by
  refine ct_of 1 (by decide +kernel) rfl rfl ?_
  have hK0 : XT I J = XT I J := rfl
  have hF := fe_of (fn_X9_fresh.eq_1 I J)
  refine g_aload_n d_X9_fresh_0 rfl ?_
  refine g_getR d_X9_fresh_1 fq_RX9_42 rfl rfl ?_
  refine g_getR d_X9_fresh_4 fq_RX9_159 rfl rfl ?_
  refine g_iconst (v := 0) d_X9_fresh_7 kI_0 ?_
  refine g_iaload (N := 8) d_X9_fresh_8 rfl kT_8 ⟨by decide, by decide⟩ kN_0 ?_
  refine g_topI (fun v1 ev1 => ?_)
  replace hF := fe_lt hF ev1
  refine g_istore_n (L' := [some (.ref 0), some (.int v1)]) d_X9_fresh_9 (by decide) rfl ?_
  refine g_aload_n d_X9_fresh_10 rfl ?_
  refine g_getR d_X9_fresh_11 fq_RX9_42 rfl rfl ?_
  refine g_V0 d_X9_fresh_14 cs_X9_fresh_X6_becomeFresh lk_RX9_97 im_X6_becomeFresh se_X6_becomeFresh rfl rfl rfl (Nat.le_of_ble_eq_true rfl) ⟨rfl, rfl⟩ ⟨Nat.zero_le _, Nat.zero_le _⟩ (ct_X6_becomeFresh  I J stA_16) (fun r14 S14 I2 J3 q14_3 => ?_)
  obtain ⟨rfl, hc14_4, rfl, hf14_5, hr14_6⟩ := q14_3
  replace hF := fe_b2 hF hf14_5
  refine g_st (st' := []) rfl ?_
  have hK8 : XT I2 J3 = XT (wI I 24 0 0) J := (xt_tick (xn_fsx (Or.inl rfl) hc14_4) hr14_6).trans (xt_cong hK0)
  refine g_iload_n d_X9_fresh_17 rfl ?_
  exact g_ireturn d_X9_fresh_18 rfl rfl rfl rfl ⟨rfl, trivial, v1, rfl, hF, by grind⟩
noncomputable def fn_X9_current (on : Int32) (I : Iv) (J : Jv) : Int32 × Iv × Jv :=
  j_n (fun (w1 : Int32) => l_t (wI I 16 12 on) (fun (I2 : Iv) => (w1, I2, J))) (fun (j15_0 : Int32 → Int32 × Iv × Jv) => if (I 16 12) = 0 then j15_0 ((0 : Int32)) else j15_0 ((1 : Int32)))
set_option maxRecDepth 100000 in
set_option maxHeartbeats 4000000 in
theorem ct_X9_current (on : Int32) (I : Iv) (J : Jv) (hon : on = 0 ∨ on = 1) : Ct m_X9_current [.ref 0, .int on] SHF I J (fun r S' I' J' => S' = SHF ∧ True ∧ ∃ v : Int32, r = some (.int v) ∧ fn_X9_current on I J = (v, I', J') ∧ (v = I 16 12 ∧ XT I' J' = XT (wI I 16 12 on) J)) := by
  refine ct_of 1 (by decide +kernel) rfl rfl ?_
  have hK0 : XT I J = XT I J := rfl
  have hF := fe_of (fn_X9_current.eq_1 on I J)
  refine g_aload_n d_X9_current_0 rfl ?_
  refine g_getR d_X9_current_1 fq_RX9_42 rfl rfl ?_
  refine g_getZ d_X9_current_4 fq_RX9_93 rfl rfl (fun hz4 => ?_)
  obtain ⟨j15_0, hj15_0, hF⟩ := fe_jx hF
  have J_15 : ∀ (w1 : Int32), (w1 = 0 ∨ w1 = 1) → (w1 = I 16 12) → (FE (fn_X9_current on I J) (fun _ => j15_0 w1)) → G m_X9_current (rq m_X9_current (fun r S' I' J' => S' = SHF ∧ True ∧ ∃ v : Int32, r = some (.int v) ∧ fn_X9_current on I J = (v, I', J') ∧ (v = I 16 12 ∧ XT I' J' = XT (wI I 16 12 on) J))) 0 0 15 [some (.ref 0), some (.int on), none] [.int w1] SHF I J := by
    intro w1 hw1 hw_15 hF_j15_0
    have hF := fe_eq hF_j15_0 (congrFun hj15_0 w1)
    refine g_istore_n (L' := [some (.ref 0), some (.int on), some (.int w1)]) d_X9_current_15 (by decide) rfl ?_
    refine g_aload_n d_X9_current_16 rfl ?_
    refine g_getR d_X9_current_17 fq_RX9_42 rfl rfl ?_
    refine g_iload_n d_X9_current_20 rfl ?_
    refine g_putZ d_X9_current_21 fq_RX9_93 rfl rfl (by assumption) ?_
    refine g_nmI (fun I2 eI2 => ?_)
    replace hF := fe_lt hF eI2
    have hK3 : XT I2 J = XT (wI I 16 12 on) J := ((congrArg (fun q => XT q _) eI2).trans (xt_cong hK0))
    refine g_iload_n d_X9_current_24 rfl ?_
    exact g_ireturn d_X9_current_25 rfl rfl rfl rfl ⟨rfl, trivial, w1, rfl, hF, by grind⟩
  refine g_if_eq d_X9_current_7 (fun h7 => ?_) (fun h7 => ?_)
  · skip
    replace hF := fe_pos hF h7
    refine g_iconst (v := 0) d_X9_current_14 kI_0 ?_
    exact J_15 ((0 : Int32)) (Or.inl rfl) (by grind) hF
  · skip
    replace hF := fe_neg hF h7
    refine g_iconst (v := 1) d_X9_current_10 kI_1 ?_
    refine g_goto d_X9_current_11 ?_
    exact J_15 ((1 : Int32)) (Or.inr rfl) (by grind) hF
noncomputable def fn_X9_cover (on : Int32) (I : Iv) (J : Jv) : Int32 × Iv × Jv :=
  j_n (fun (w1 : Int32) => l_t (wI I 16 11 on) (fun (I2 : Iv) => (w1, I2, J))) (fun (j15_0 : Int32 → Int32 × Iv × Jv) => if (I 16 11) = 0 then j15_0 ((0 : Int32)) else j15_0 ((1 : Int32)))
set_option maxRecDepth 100000 in
set_option maxHeartbeats 4000000 in
theorem ct_X9_cover (on : Int32) (I : Iv) (J : Jv) (hon : on = 0 ∨ on = 1) : Ct m_X9_cover [.ref 0, .int on] SHF I J (fun r S' I' J' => S' = SHF ∧ XT I' J' = XT I J ∧ ∃ v : Int32, r = some (.int v) ∧ fn_X9_cover on I J = (v, I', J')) := by
  refine ct_of 1 (by decide +kernel) rfl rfl ?_
  have hK0 : XT I J = XT I J := rfl
  have hF := fe_of (fn_X9_cover.eq_1 on I J)
  refine g_aload_n d_X9_cover_0 rfl ?_
  refine g_getR d_X9_cover_1 fq_RX9_42 rfl rfl ?_
  refine g_getZ d_X9_cover_4 fq_RX9_168 rfl rfl (fun hz4 => ?_)
  obtain ⟨j15_0, hj15_0, hF⟩ := fe_jx hF
  have J_15 : ∀ (w1 : Int32), (w1 = 0 ∨ w1 = 1) → (FE (fn_X9_cover on I J) (fun _ => j15_0 w1)) → G m_X9_cover (rq m_X9_cover (fun r S' I' J' => S' = SHF ∧ XT I' J' = XT I J ∧ ∃ v : Int32, r = some (.int v) ∧ fn_X9_cover on I J = (v, I', J'))) 0 0 15 [some (.ref 0), some (.int on), none] [.int w1] SHF I J := by
    intro w1 hw1 hF_j15_0
    have hF := fe_eq hF_j15_0 (congrFun hj15_0 w1)
    refine g_istore_n (L' := [some (.ref 0), some (.int on), some (.int w1)]) d_X9_cover_15 (by decide) rfl ?_
    refine g_aload_n d_X9_cover_16 rfl ?_
    refine g_getR d_X9_cover_17 fq_RX9_42 rfl rfl ?_
    refine g_iload_n d_X9_cover_20 rfl ?_
    refine g_putZ d_X9_cover_21 fq_RX9_168 rfl rfl (by assumption) ?_
    refine g_nmI (fun I2 eI2 => ?_)
    replace hF := fe_lt hF eI2
    have hK3 : XT I2 J = XT I J := (by rw [eI2]; exact (xt_wI rfl).trans hK0)
    refine g_iload_n d_X9_cover_24 rfl ?_
    exact g_ireturn d_X9_cover_25 rfl rfl rfl rfl ⟨rfl, hK3, w1, rfl, hF⟩
  refine g_if_eq d_X9_cover_7 (fun h7 => ?_) (fun h7 => ?_)
  · skip
    replace hF := fe_pos hF h7
    refine g_iconst (v := 0) d_X9_cover_14 kI_0 ?_
    exact J_15 ((0 : Int32)) (Or.inl rfl) hF
  · skip
    replace hF := fe_neg hF h7
    refine g_iconst (v := 1) d_X9_cover_10 kI_1 ?_
    refine g_goto d_X9_cover_11 ?_
    exact J_15 ((1 : Int32)) (Or.inr rfl) hF
noncomputable def fn_X9_put (s : Int32) (w : Int32) (c : Int32) (low : Int32) (high : Int32) (I : Iv) (J : Jv) : Int32 × Iv × Jv :=
  b_n3 (fn_X9_isShelf s I J) (fun (r6 : Int32) (_ : Iv) (_ : Jv) => if r6 = 0 then ((-1000000001 : Int32), I, J) else b_n3 (fn_X9_canBeWarmth w I J) (fun (r13 : Int32) (_ : Iv) (_ : Jv) => if r13 = 0 then ((-1000000002 : Int32), I, J) else if c < (1 : Int32) then ((-1000000002 : Int32), I, J) else if c ≤ (200 : Int32) then b_n3 (fn_X9_canBeWarmth low I J) (fun (r20 : Int32) (_ : Iv) (_ : Jv) => if r20 = 0 then ((-1000000002 : Int32), I, J) else b_n3 (fn_X9_canBeWarmth high I J) (fun (r27 : Int32) (_ : Iv) (_ : Jv) => if r27 = 0 then ((-1000000002 : Int32), I, J) else if low ≤ high then b_n3 (fn_X6_firstNotThere 16 I J) (fun (r34 : Int32) (_ : Iv) (_ : Jv) => if 0 ≤ r34 then l_t (wI I 21 (r34.toNatClampNeg) low) (fun (I36 : Iv) => l_t (wI I36 22 (r34.toNatClampNeg) high) (fun (I38 : Iv) => b_n2 (fn_X6_addFood 16 r34 s w c I38 J) (fun (I40 : Iv) (J41 : Jv) => (r34, I40, J41)))) else ((-1000000004 : Int32), I, J)) else ((-1000000002 : Int32), I, J))) else ((-1000000002 : Int32), I, J)))
set_option maxRecDepth 100000 in
set_option maxHeartbeats 4000000 in
theorem ct_X9_put (s : Int32) (w : Int32) (c : Int32) (low : Int32) (high : Int32) (I : Iv) (J : Jv)  : Ct m_X9_put [.ref 0, .int s, .int w, .int c, .int low, .int high] SHF I J (fun r S' I' J' => S' = SHF ∧ XT I' J' = XT I J ∧ ∃ v : Int32, r = some (.int v) ∧ fn_X9_put s w c low high I J = (v, I', J')) := by
  refine ct_of 1 (by decide +kernel) rfl rfl ?_
  have hK0 : XT I J = XT I J := rfl
  have hF := fe_of (fn_X9_put.eq_1 s w c low high I J)
  refine g_iload_n d_X9_put_0 rfl ?_
  refine g_S1 d_X9_put_1 cs_X9_put_X9_isShelf lk_RX9_171 im_X9_isShelf (Nat.le_of_ble_eq_true rfl) ⟨rfl, rfl⟩ ⟨Nat.zero_le _, Nat.zero_le _⟩ (ct_X9_isShelf s I J ) (fun r1 S1 Ic2 Jc3 q1_0 => ?_)
  obtain ⟨rfl, rfl, rfl, r6, rfl, hz1, hf1_4, hr1_6⟩ := q1_0
  replace hF := fe_b3 hF hf1_4
  refine g_st (st' := [.int r6]) rfl ?_
  refine g_if_ne d_X9_put_4 (fun h4 => ?_) (fun h4 => ?_)
  · skip
    replace hF := fe_neg hF h4
    refine g_iload_n d_X9_put_10 rfl ?_
    refine g_S1 d_X9_put_11 cs_X9_put_X9_canBeWarmth lk_RX9_174 im_X9_canBeWarmth (Nat.le_of_ble_eq_true rfl) ⟨rfl, rfl⟩ ⟨Nat.zero_le _, Nat.zero_le _⟩ (ct_X9_canBeWarmth w I J ) (fun r11 S11 Ic9 Jc10 q11_7 => ?_)
    obtain ⟨rfl, rfl, rfl, r13, rfl, hz11, hf11_11, hr11_13⟩ := q11_7
    replace hF := fe_b3 hF hf11_11
    refine g_st (st' := [.int r13]) rfl ?_
    refine g_if_eq d_X9_put_14 (fun h14 => ?_) (fun h14 => ?_)
    · skip
      replace hF := fe_pos hF h14
      refine g_ldc (v := -1000000002) d_X9_put_29 tw_396 ?_
      exact g_ireturn d_X9_put_31 rfl rfl rfl rfl ⟨rfl, hK0, (-1000000002 : Int32), rfl, hF⟩
    · skip
      replace hF := fe_neg hF h14
      refine g_iload_n d_X9_put_17 rfl ?_
      refine g_iconst (v := 1) d_X9_put_18 kI_1 ?_
      refine g_icmp_lt d_X9_put_19 (fun h19 => ?_) (fun h19 => ?_)
      · skip
        replace hF := fe_pos hF h19
        refine g_ldc (v := -1000000002) d_X9_put_29 tw_396 ?_
        exact g_ireturn d_X9_put_31 rfl rfl rfl rfl ⟨rfl, hK0, (-1000000002 : Int32), rfl, hF⟩
      · skip
        replace hF := fe_neg hF h19
        refine g_iload_n d_X9_put_22 rfl ?_
        refine g_sipush (v := 200) d_X9_put_23 kS_200 ?_
        refine g_icmp_le d_X9_put_26 (fun h26 => ?_) (fun h26 => ?_)
        · skip
          replace hF := fe_pos hF h26
          refine g_iload d_X9_put_32 rfl ?_
          refine g_S1 d_X9_put_34 cs_X9_put_X9_canBeWarmth lk_RX9_174 im_X9_canBeWarmth (Nat.le_of_ble_eq_true rfl) ⟨rfl, rfl⟩ ⟨Nat.zero_le _, Nat.zero_le _⟩ (ct_X9_canBeWarmth low I J ) (fun r34 S34 Ic16 Jc17 q34_14 => ?_)
          obtain ⟨rfl, rfl, rfl, r20, rfl, hz34, hf34_18, hr34_20⟩ := q34_14
          replace hF := fe_b3 hF hf34_18
          refine g_st (st' := [.int r20]) rfl ?_
          refine g_if_eq d_X9_put_37 (fun h37 => ?_) (fun h37 => ?_)
          · skip
            replace hF := fe_pos hF h37
            refine g_ldc (v := -1000000002) d_X9_put_55 tw_396 ?_
            exact g_ireturn d_X9_put_57 rfl rfl rfl rfl ⟨rfl, hK0, (-1000000002 : Int32), rfl, hF⟩
          · skip
            replace hF := fe_neg hF h37
            refine g_iload d_X9_put_40 rfl ?_
            refine g_S1 d_X9_put_42 cs_X9_put_X9_canBeWarmth lk_RX9_174 im_X9_canBeWarmth (Nat.le_of_ble_eq_true rfl) ⟨rfl, rfl⟩ ⟨Nat.zero_le _, Nat.zero_le _⟩ (ct_X9_canBeWarmth high I J ) (fun r42 S42 Ic23 Jc24 q42_21 => ?_)
            obtain ⟨rfl, rfl, rfl, r27, rfl, hz42, hf42_25, hr42_27⟩ := q42_21
            replace hF := fe_b3 hF hf42_25
            refine g_st (st' := [.int r27]) rfl ?_
            refine g_if_eq d_X9_put_45 (fun h45 => ?_) (fun h45 => ?_)
            · skip
              replace hF := fe_pos hF h45
              refine g_ldc (v := -1000000002) d_X9_put_55 tw_396 ?_
              exact g_ireturn d_X9_put_57 rfl rfl rfl rfl ⟨rfl, hK0, (-1000000002 : Int32), rfl, hF⟩
            · skip
              replace hF := fe_neg hF h45
              refine g_iload d_X9_put_48 rfl ?_
              refine g_iload d_X9_put_50 rfl ?_
              refine g_icmp_ge d_X9_put_52 (fun h52 => ?_) (fun h52 => ?_)
              · skip
                replace hF := fe_pos hF h52
                refine g_aload_n d_X9_put_58 rfl ?_
                refine g_getR d_X9_put_59 fq_RX9_42 rfl rfl ?_
                refine g_V0 d_X9_put_62 cs_X9_put_X6_firstNotThere lk_RX9_177 im_X6_firstNotThere se_X6_firstNotThere rfl rfl rfl (Nat.le_of_ble_eq_true rfl) ⟨rfl, rfl⟩ ⟨Nat.zero_le _, Nat.zero_le _⟩ (ct_X6_firstNotThere  I J stA_16) (fun r62 S62 Ic30 Jc31 q62_28 => ?_)
                obtain ⟨rfl, rfl, rfl, r34, rfl, hf62_32, hr62_34⟩ := q62_28
                replace hF := fe_b3 hF hf62_32
                refine g_st (st' := [.int r34]) rfl ?_
                refine g_istore (L' := [some (.ref 0), some (.int s), some (.int w), some (.int c), some (.int low), some (.int high), some (.int r34)]) d_X9_put_65 (by decide) rfl ?_
                refine g_iload d_X9_put_67 rfl ?_
                refine g_if_ge d_X9_put_69 (fun h69 => ?_) (fun h69 => ?_)
                · skip
                  replace hF := fe_pos hF h69
                  refine g_aload_n d_X9_put_75 rfl ?_
                  refine g_getR d_X9_put_76 fq_RX9_42 rfl rfl ?_
                  refine g_getR d_X9_put_79 fq_RX9_181 rfl rfl ?_
                  refine g_iload d_X9_put_82 rfl ?_
                  refine g_iload d_X9_put_84 rfl ?_
                  refine g_iastore (N := 8) d_X9_put_86 rfl kT_8 (by constructor <;> grind) rfl  ?_
                  refine g_nmI (fun I36 eI36 => ?_)
                  replace hF := fe_lt hF eI36
                  have hK37 : XT I36 J = XT I J := (by rw [eI36]; exact (xt_wI rfl).trans hK0)
                  refine g_aload_n d_X9_put_87 rfl ?_
                  refine g_getR d_X9_put_88 fq_RX9_42 rfl rfl ?_
                  refine g_getR d_X9_put_91 fq_RX9_184 rfl rfl ?_
                  refine g_iload d_X9_put_94 rfl ?_
                  refine g_iload d_X9_put_96 rfl ?_
                  refine g_iastore (N := 8) d_X9_put_98 rfl kT_8 (by constructor <;> grind) rfl  ?_
                  refine g_nmI (fun I38 eI38 => ?_)
                  replace hF := fe_lt hF eI38
                  have hK39 : XT I38 J = XT I J := (by rw [eI38]; exact (xt_wI rfl).trans hK37)
                  refine g_aload_n d_X9_put_99 rfl ?_
                  refine g_getR d_X9_put_100 fq_RX9_42 rfl rfl ?_
                  refine g_iload d_X9_put_103 rfl ?_
                  refine g_iload_n d_X9_put_105 rfl ?_
                  refine g_iload_n d_X9_put_106 rfl ?_
                  refine g_iload_n d_X9_put_107 rfl ?_
                  refine g_V4 d_X9_put_108 cs_X9_put_X6_addFood lk_RX9_187 im_X6_addFood se_X6_addFood rfl rfl rfl (Nat.le_of_ble_eq_true rfl) ⟨rfl, rfl⟩ ⟨Nat.zero_le _, Nat.zero_le _⟩ (ct_X6_addFood r34 s w c I38 J stA_16) (fun r108 S108 I40 J41 q108_41 => ?_)
                  obtain ⟨rfl, hc108_42, rfl, hf108_43⟩ := q108_41
                  replace hF := fe_b2 hF hf108_43
                  refine g_st (st' := []) rfl ?_
                  have hK46 : XT I40 J41 = XT I J := (xt_fs16 hc108_42).trans hK39
                  refine g_iload d_X9_put_111 rfl ?_
                  exact g_ireturn d_X9_put_113 rfl rfl rfl rfl ⟨rfl, hK46, r34, rfl, hF⟩
                · skip
                  replace hF := fe_neg hF h69
                  refine g_ldc (v := -1000000004) d_X9_put_72 tw_402 ?_
                  exact g_ireturn d_X9_put_74 rfl rfl rfl rfl ⟨rfl, hK0, (-1000000004 : Int32), rfl, hF⟩
              · skip
                replace hF := fe_neg hF h52
                refine g_ldc (v := -1000000002) d_X9_put_55 tw_396 ?_
                exact g_ireturn d_X9_put_57 rfl rfl rfl rfl ⟨rfl, hK0, (-1000000002 : Int32), rfl, hF⟩
        · skip
          replace hF := fe_neg hF h26
          refine g_ldc (v := -1000000002) d_X9_put_29 tw_396 ?_
          exact g_ireturn d_X9_put_31 rfl rfl rfl rfl ⟨rfl, hK0, (-1000000002 : Int32), rfl, hF⟩
  · skip
    replace hF := fe_pos hF h4
    refine g_ldc (v := -1000000001) d_X9_put_7 tw_576 ?_
    exact g_ireturn d_X9_put_9 rfl rfl rfl rfl ⟨rfl, hK0, (-1000000001 : Int32), rfl, hF⟩
noncomputable def fn_X9_take (f : Int32) (I : Iv) (J : Jv) : Int32 × Iv × Jv :=
  b_n3 (fn_X6_hasFood 16 f I J) (fun (r6 : Int32) (_ : Iv) (_ : Jv) => if r6 = 0 then ((-1000000001 : Int32), I, J) else b_n3 (fn_X6_warmthOf 16 ((4 : Int32) + f) I J) (fun (r13 : Int32) (_ : Iv) (_ : Jv) => b_n2 (fn_X6_removeFood 16 f I J) (fun (I15 : Iv) (J16 : Jv) => (r13, I15, J16))))
set_option maxRecDepth 100000 in
set_option maxHeartbeats 4000000 in
theorem ct_X9_take (f : Int32) (I : Iv) (J : Jv)  : Ct m_X9_take [.ref 0, .int f] SHF I J (fun r S' I' J' => S' = SHF ∧ XT I' J' = XT I J ∧ ∃ v : Int32, r = some (.int v) ∧ fn_X9_take f I J = (v, I', J')) := by
  refine ct_of 1 (by decide +kernel) rfl rfl ?_
  have hK0 : XT I J = XT I J := rfl
  have hF := fe_of (fn_X9_take.eq_1 f I J)
  refine g_aload_n d_X9_take_0 rfl ?_
  refine g_getR d_X9_take_1 fq_RX9_42 rfl rfl ?_
  refine g_iload_n d_X9_take_4 rfl ?_
  refine g_V1 d_X9_take_5 cs_X9_take_X6_hasFood lk_RX9_191 im_X6_hasFood se_X6_hasFood rfl rfl rfl (Nat.le_of_ble_eq_true rfl) ⟨rfl, rfl⟩ ⟨Nat.zero_le _, Nat.zero_le _⟩ (ct_X6_hasFood f I J stA_16) (fun r5 S5 Ic2 Jc3 q5_0 => ?_)
  obtain ⟨rfl, rfl, rfl, r6, rfl, hz5, hf5_4, hr5_6⟩ := q5_0
  replace hF := fe_b3 hF hf5_4
  refine g_st (st' := [.int r6]) rfl ?_
  refine g_if_ne d_X9_take_8 (fun h8 => ?_) (fun h8 => ?_)
  · skip
    replace hF := fe_neg hF h8
    refine g_aload_n d_X9_take_14 rfl ?_
    refine g_getR d_X9_take_15 fq_RX9_42 rfl rfl ?_
    refine g_iconst (v := 4) d_X9_take_18 kI_4 ?_
    refine g_iload_n d_X9_take_19 rfl ?_
    refine g_iadd d_X9_take_20 ?_
    refine g_V1 d_X9_take_21 cs_X9_take_X6_warmthOf lk_RX9_194 im_X6_warmthOf se_X6_warmthOf rfl rfl rfl (Nat.le_of_ble_eq_true rfl) ⟨rfl, rfl⟩ ⟨Nat.zero_le _, Nat.zero_le _⟩ (ct_X6_warmthOf ((4 : Int32) + f) I J stA_16) (fun r21 S21 Ic9 Jc10 q21_7 => ?_)
    obtain ⟨rfl, rfl, rfl, r13, rfl, hf21_11⟩ := q21_7
    replace hF := fe_b3 hF hf21_11
    refine g_st (st' := [.int r13]) rfl ?_
    refine g_istore_n (L' := [some (.ref 0), some (.int f), some (.int r13)]) d_X9_take_24 (by decide) rfl ?_
    refine g_aload_n d_X9_take_25 rfl ?_
    refine g_getR d_X9_take_26 fq_RX9_42 rfl rfl ?_
    refine g_iload_n d_X9_take_29 rfl ?_
    refine g_V1 d_X9_take_30 cs_X9_take_X6_removeFood lk_RX9_198 im_X6_removeFood se_X6_removeFood rfl rfl rfl (Nat.le_of_ble_eq_true rfl) ⟨rfl, rfl⟩ ⟨Nat.zero_le _, Nat.zero_le _⟩ (ct_X6_removeFood f I J stA_16) (fun r30 S30 I15 J16 q30_16 => ?_)
    obtain ⟨rfl, hc30_17, rfl, hf30_18⟩ := q30_16
    replace hF := fe_b2 hF hf30_18
    refine g_st (st' := []) rfl ?_
    have hK21 : XT I15 J16 = XT I J := (xt_fs16 hc30_17).trans hK0
    refine g_iload_n d_X9_take_33 rfl ?_
    exact g_ireturn d_X9_take_34 rfl rfl rfl rfl ⟨rfl, hK21, r13, rfl, hF⟩
  · skip
    replace hF := fe_pos hF h8
    refine g_ldc (v := -1000000001) d_X9_take_11 tw_576 ?_
    exact g_ireturn d_X9_take_13 rfl rfl rfl rfl ⟨rfl, hK0, (-1000000001 : Int32), rfl, hF⟩
noncomputable def fn_X9_lay (f : Int32) (s : Int32) (I : Iv) (J : Jv) : Int32 × Iv × Jv :=
  b_n3 (fn_X6_hasFood 16 f I J) (fun (r6 : Int32) (_ : Iv) (_ : Jv) => if r6 = 0 then ((-1000000001 : Int32), I, J) else b_n3 (fn_X9_isShelf s I J) (fun (r13 : Int32) (_ : Iv) (_ : Jv) => if r13 = 0 then ((-1000000001 : Int32), I, J) else l_t ((I 20 f.toNatClampNeg)) (fun (v15 : Int32) => l_t (wI I 20 (f.toNatClampNeg) s) (fun (I16 : Iv) => (v15, I16, J)))))
set_option maxRecDepth 100000 in
set_option maxHeartbeats 4000000 in
theorem ct_X9_lay (f : Int32) (s : Int32) (I : Iv) (J : Jv)  : Ct m_X9_lay [.ref 0, .int f, .int s] SHF I J (fun r S' I' J' => S' = SHF ∧ XT I' J' = XT I J ∧ ∃ v : Int32, r = some (.int v) ∧ fn_X9_lay f s I J = (v, I', J')) := by
  refine ct_of 1 (by decide +kernel) rfl rfl ?_
  have hK0 : XT I J = XT I J := rfl
  have hF := fe_of (fn_X9_lay.eq_1 f s I J)
  refine g_aload_n d_X9_lay_0 rfl ?_
  refine g_getR d_X9_lay_1 fq_RX9_42 rfl rfl ?_
  refine g_iload_n d_X9_lay_4 rfl ?_
  refine g_V1 d_X9_lay_5 cs_X9_lay_X6_hasFood lk_RX9_191 im_X6_hasFood se_X6_hasFood rfl rfl rfl (Nat.le_of_ble_eq_true rfl) ⟨rfl, rfl⟩ ⟨Nat.zero_le _, Nat.zero_le _⟩ (ct_X6_hasFood f I J stA_16) (fun r5 S5 Ic2 Jc3 q5_0 => ?_)
  obtain ⟨rfl, rfl, rfl, r6, rfl, hz5, hf5_4, hr5_6⟩ := q5_0
  replace hF := fe_b3 hF hf5_4
  refine g_st (st' := [.int r6]) rfl ?_
  refine g_if_eq d_X9_lay_8 (fun h8 => ?_) (fun h8 => ?_)
  · skip
    replace hF := fe_pos hF h8
    refine g_ldc (v := -1000000001) d_X9_lay_18 tw_576 ?_
    exact g_ireturn d_X9_lay_20 rfl rfl rfl rfl ⟨rfl, hK0, (-1000000001 : Int32), rfl, hF⟩
  · skip
    replace hF := fe_neg hF h8
    refine g_iload_n d_X9_lay_11 rfl ?_
    refine g_S1 d_X9_lay_12 cs_X9_lay_X9_isShelf lk_RX9_171 im_X9_isShelf (Nat.le_of_ble_eq_true rfl) ⟨rfl, rfl⟩ ⟨Nat.zero_le _, Nat.zero_le _⟩ (ct_X9_isShelf s I J ) (fun r12 S12 Ic9 Jc10 q12_7 => ?_)
    obtain ⟨rfl, rfl, rfl, r13, rfl, hz12, hf12_11, hr12_13⟩ := q12_7
    replace hF := fe_b3 hF hf12_11
    refine g_st (st' := [.int r13]) rfl ?_
    refine g_if_ne d_X9_lay_15 (fun h15 => ?_) (fun h15 => ?_)
    · skip
      replace hF := fe_neg hF h15
      refine g_aload_n d_X9_lay_21 rfl ?_
      refine g_getR d_X9_lay_22 fq_RX9_42 rfl rfl ?_
      refine g_getR d_X9_lay_25 fq_RX9_202 rfl rfl ?_
      refine g_iload_n d_X9_lay_28 rfl ?_
      refine g_iaload (N := 8) d_X9_lay_29 rfl kT_8 (by constructor <;> grind) rfl ?_
      refine g_topI (fun v15 ev15 => ?_)
      replace hF := fe_lt hF ev15
      refine g_istore_n (L' := [some (.ref 0), some (.int f), some (.int s), some (.int v15)]) d_X9_lay_30 (by decide) rfl ?_
      refine g_aload_n d_X9_lay_31 rfl ?_
      refine g_getR d_X9_lay_32 fq_RX9_42 rfl rfl ?_
      refine g_getR d_X9_lay_35 fq_RX9_202 rfl rfl ?_
      refine g_iload_n d_X9_lay_38 rfl ?_
      refine g_iload_n d_X9_lay_39 rfl ?_
      refine g_iastore (N := 8) d_X9_lay_40 rfl kT_8 (by constructor <;> grind) rfl  ?_
      refine g_nmI (fun I16 eI16 => ?_)
      replace hF := fe_lt hF eI16
      have hK17 : XT I16 J = XT I J := (by rw [eI16]; exact (xt_wI rfl).trans hK0)
      refine g_iload_n d_X9_lay_41 rfl ?_
      exact g_ireturn d_X9_lay_42 rfl rfl rfl rfl ⟨rfl, hK17, v15, rfl, hF⟩
    · skip
      replace hF := fe_pos hF h15
      refine g_ldc (v := -1000000001) d_X9_lay_18 tw_576 ?_
      exact g_ireturn d_X9_lay_20 rfl rfl rfl rfl ⟨rfl, hK0, (-1000000001 : Int32), rfl, hF⟩
noncomputable def fn_X9_food (f : Int32) (what : Int32) (I : Iv) (J : Jv) : Int32 × Iv × Jv :=
  b_n3 (fn_X6_hasFood 16 f I J) (fun (r6 : Int32) (_ : Iv) (_ : Jv) => if r6 = 0 then ((-1000000001 : Int32), I, J) else if (what).toInt < 0 ∨ 5 < (what).toInt then ((-1000000002 : Int32), I, J) else l_t ((what).toInt - (0)).toNat (fun (sw0 : Nat) => if sw0 = 0 then ((I 20 f.toNatClampNeg), I, J) else if sw0 = 1 then b_n3 (fn_X6_warmthOf 16 ((4 : Int32) + f) I J) (fun (r13 : Int32) (_ : Iv) (_ : Jv) => (r13, I, J)) else if sw0 = 2 then ((I 18 (((4 : Int32) + f)).toNatClampNeg), I, J) else if sw0 = 3 then ((I 21 f.toNatClampNeg), I, J) else if sw0 = 4 then ((I 22 f.toNatClampNeg), I, J) else if sw0 = 5 then b_n3 (fn_X6_isWithin 16 f I J) (fun (r20 : Int32) (_ : Iv) (_ : Jv) => if r20 = 0 then ((0 : Int32), I, J) else ((1 : Int32), I, J)) else (0, I, J)))
set_option maxRecDepth 100000 in
set_option maxHeartbeats 4000000 in
theorem ct_X9_food (f : Int32) (what : Int32) (I : Iv) (J : Jv)  : Ct m_X9_food [.ref 0, .int f, .int what] SHF I J (fun r S' I' J' => S' = SHF ∧ I = I' ∧ J = J' ∧ ∃ v : Int32, r = some (.int v) ∧ fn_X9_food f what I J = (v, I', J')) := by
  refine ct_of 0 (by decide +kernel) rfl rfl ?_
  have hF := fe_of (fn_X9_food.eq_1 f what I J)
  refine g_aload_n d_X9_food_0 rfl ?_
  refine g_getR d_X9_food_1 fq_RX9_42 rfl rfl ?_
  refine g_iload_n d_X9_food_4 rfl ?_
  refine g_V1 d_X9_food_5 cs_X9_food_X6_hasFood lk_RX9_191 im_X6_hasFood se_X6_hasFood rfl rfl rfl (Nat.le_of_ble_eq_true rfl) ⟨rfl, rfl⟩ ⟨Nat.zero_le _, Nat.zero_le _⟩ (ct_X6_hasFood f I J stA_16) (fun r5 S5 Ic2 Jc3 q5_0 => ?_)
  obtain ⟨rfl, rfl, rfl, r6, rfl, hz5, hf5_4, hr5_6⟩ := q5_0
  replace hF := fe_b3 hF hf5_4
  refine g_st (st' := [.int r6]) rfl ?_
  refine g_if_ne d_X9_food_8 (fun h8 => ?_) (fun h8 => ?_)
  · skip
    replace hF := fe_neg hF h8
    refine g_iload_n d_X9_food_14 rfl ?_
    rcases sw_split what (0) (5) with h15 | h15
    · skip
      refine g_swOut d_X9_food_15 h15 ?_
      replace hF := fe_pos hF h15
      refine g_ldc (v := -1000000002) d_X9_food_122 tw_396 ?_
      exact g_ireturn d_X9_food_124 rfl rfl rfl rfl ⟨rfl, rfl, rfl, (-1000000002 : Int32), rfl, hF⟩
    · skip
      replace hF := fe_neg hF (fun q => by rcases q with q | q; exact h15.1 q; exact h15.2 q)
      have hz : ∃ k : Nat, k < 6 ∧ (what).toInt = (0 : Int) + (k : Int) := by obtain ⟨k, h1, h2⟩ := sw_k h15; exact ⟨k, by omega, h2⟩
      obtain ⟨k, hk, hz⟩ := hz
      match k, hk, hz with
      | 0, _, hz =>
        refine g_swIn d_X9_food_15_0 (by rw [hz]; decide) (by rw [hz]; decide) (by rw [hz]; rfl) ?_
        replace hF := fe_lt (v := 0) hF (by rw [hz]; rfl)
        replace hF := fe_pos hF rfl
        refine g_aload_n d_X9_food_52 rfl ?_
        refine g_getR d_X9_food_53 fq_RX9_42 rfl rfl ?_
        refine g_getR d_X9_food_56 fq_RX9_202 rfl rfl ?_
        refine g_iload_n d_X9_food_59 rfl ?_
        refine g_iaload (N := 8) d_X9_food_60 rfl kT_8 (by constructor <;> grind) rfl ?_
        exact g_ireturn d_X9_food_61 rfl rfl rfl rfl ⟨rfl, rfl, rfl, (I 20 f.toNatClampNeg), rfl, hF⟩
      | 1, _, hz =>
        refine g_swIn d_X9_food_15_1 (by rw [hz]; decide) (by rw [hz]; decide) (by rw [hz]; rfl) ?_
        replace hF := fe_lt (v := 1) hF (by rw [hz]; rfl)
        replace hF := fe_neg hF (by decide)
        replace hF := fe_pos hF rfl
        refine g_aload_n d_X9_food_62 rfl ?_
        refine g_getR d_X9_food_63 fq_RX9_42 rfl rfl ?_
        refine g_iconst (v := 4) d_X9_food_66 kI_4 ?_
        refine g_iload_n d_X9_food_67 rfl ?_
        refine g_iadd d_X9_food_68 ?_
        refine g_V1 d_X9_food_69 cs_X9_food_X6_warmthOf lk_RX9_194 im_X6_warmthOf se_X6_warmthOf rfl rfl rfl (Nat.le_of_ble_eq_true rfl) ⟨rfl, rfl⟩ ⟨Nat.zero_le _, Nat.zero_le _⟩ (ct_X6_warmthOf ((4 : Int32) + f) I J stA_16) (fun r69 S69 Ic9 Jc10 q69_7 => ?_)
        obtain ⟨rfl, rfl, rfl, r13, rfl, hf69_11⟩ := q69_7
        replace hF := fe_b3 hF hf69_11
        refine g_st (st' := [.int r13]) rfl ?_
        exact g_ireturn d_X9_food_72 rfl rfl rfl rfl ⟨rfl, rfl, rfl, r13, rfl, hF⟩
      | 2, _, hz =>
        refine g_swIn d_X9_food_15_2 (by rw [hz]; decide) (by rw [hz]; decide) (by rw [hz]; rfl) ?_
        replace hF := fe_lt (v := 2) hF (by rw [hz]; rfl)
        replace hF := fe_neg hF (by decide)
        replace hF := fe_neg hF (by decide)
        replace hF := fe_pos hF rfl
        refine g_aload_n d_X9_food_73 rfl ?_
        refine g_getR d_X9_food_74 fq_RX9_42 rfl rfl ?_
        refine g_getR d_X9_food_77 fq_RX9_205 rfl rfl ?_
        refine g_iconst (v := 4) d_X9_food_80 kI_4 ?_
        refine g_iload_n d_X9_food_81 rfl ?_
        refine g_iadd d_X9_food_82 ?_
        refine g_iaload (N := 12) d_X9_food_83 rfl kT_12 (by constructor <;> grind) rfl ?_
        exact g_ireturn d_X9_food_84 rfl rfl rfl rfl ⟨rfl, rfl, rfl, (I 18 (((4 : Int32) + f)).toNatClampNeg), rfl, hF⟩
      | 3, _, hz =>
        refine g_swIn d_X9_food_15_3 (by rw [hz]; decide) (by rw [hz]; decide) (by rw [hz]; rfl) ?_
        replace hF := fe_lt (v := 3) hF (by rw [hz]; rfl)
        replace hF := fe_neg hF (by decide)
        replace hF := fe_neg hF (by decide)
        replace hF := fe_neg hF (by decide)
        replace hF := fe_pos hF rfl
        refine g_aload_n d_X9_food_85 rfl ?_
        refine g_getR d_X9_food_86 fq_RX9_42 rfl rfl ?_
        refine g_getR d_X9_food_89 fq_RX9_181 rfl rfl ?_
        refine g_iload_n d_X9_food_92 rfl ?_
        refine g_iaload (N := 8) d_X9_food_93 rfl kT_8 (by constructor <;> grind) rfl ?_
        exact g_ireturn d_X9_food_94 rfl rfl rfl rfl ⟨rfl, rfl, rfl, (I 21 f.toNatClampNeg), rfl, hF⟩
      | 4, _, hz =>
        refine g_swIn d_X9_food_15_4 (by rw [hz]; decide) (by rw [hz]; decide) (by rw [hz]; rfl) ?_
        replace hF := fe_lt (v := 4) hF (by rw [hz]; rfl)
        replace hF := fe_neg hF (by decide)
        replace hF := fe_neg hF (by decide)
        replace hF := fe_neg hF (by decide)
        replace hF := fe_neg hF (by decide)
        replace hF := fe_pos hF rfl
        refine g_aload_n d_X9_food_95 rfl ?_
        refine g_getR d_X9_food_96 fq_RX9_42 rfl rfl ?_
        refine g_getR d_X9_food_99 fq_RX9_184 rfl rfl ?_
        refine g_iload_n d_X9_food_102 rfl ?_
        refine g_iaload (N := 8) d_X9_food_103 rfl kT_8 (by constructor <;> grind) rfl ?_
        exact g_ireturn d_X9_food_104 rfl rfl rfl rfl ⟨rfl, rfl, rfl, (I 22 f.toNatClampNeg), rfl, hF⟩
      | 5, _, hz =>
        refine g_swIn d_X9_food_15_5 (by rw [hz]; decide) (by rw [hz]; decide) (by rw [hz]; rfl) ?_
        replace hF := fe_lt (v := 5) hF (by rw [hz]; rfl)
        replace hF := fe_neg hF (by decide)
        replace hF := fe_neg hF (by decide)
        replace hF := fe_neg hF (by decide)
        replace hF := fe_neg hF (by decide)
        replace hF := fe_neg hF (by decide)
        replace hF := fe_pos hF rfl
        refine g_aload_n d_X9_food_105 rfl ?_
        refine g_getR d_X9_food_106 fq_RX9_42 rfl rfl ?_
        refine g_iload_n d_X9_food_109 rfl ?_
        refine g_V1 d_X9_food_110 cs_X9_food_X6_isWithin lk_RX9_208 im_X6_isWithin se_X6_isWithin rfl rfl rfl (Nat.le_of_ble_eq_true rfl) ⟨rfl, rfl⟩ ⟨Nat.zero_le _, Nat.zero_le _⟩ (ct_X6_isWithin f I J stA_16) (fun r110 S110 Ic16 Jc17 q110_14 => ?_)
        obtain ⟨rfl, rfl, rfl, r20, rfl, hz110, hf110_18⟩ := q110_14
        replace hF := fe_b3 hF hf110_18
        refine g_st (st' := [.int r20]) rfl ?_
        refine g_if_eq d_X9_food_113 (fun h113 => ?_) (fun h113 => ?_)
        · skip
          replace hF := fe_pos hF h113
          refine g_iconst (v := 0) d_X9_food_120 kI_0 ?_
          exact g_ireturn d_X9_food_121 rfl rfl rfl rfl ⟨rfl, rfl, rfl, (0 : Int32), rfl, hF⟩
        · skip
          replace hF := fe_neg hF h113
          refine g_iconst (v := 1) d_X9_food_116 kI_1 ?_
          refine g_goto d_X9_food_117 ?_
          exact g_ireturn d_X9_food_121 rfl rfl rfl rfl ⟨rfl, rfl, rfl, (1 : Int32), rfl, hF⟩
      | k + 6, hk, _ => exact absurd hk (by omega)
  · skip
    replace hF := fe_pos hF h8
    refine g_ldc (v := -1000000001) d_X9_food_11 tw_576 ?_
    exact g_ireturn d_X9_food_13 rfl rfl rfl rfl ⟨rfl, rfl, rfl, (-1000000001 : Int32), rfl, hF⟩
noncomputable def fn_X9_run (n : Int32) (I : Iv) (J : Jv) : Int32 × Iv × Jv :=
  if n < (1 : Int32) then ((-1000000002 : Int32), I, J) else if n ≤ (2880 : Int32) then l_t ((I 24 3)) (fun (v1 : Int32) => b_n2 (fn_X7_passByDay 16 n (I 8 8) I J) (fun (I2 : Iv) (J3 : Jv) => (((I2 24 3) - v1), I2, J3))) else ((-1000000002 : Int32), I, J)
set_option maxRecDepth 100000 in
set_option maxHeartbeats 4000000 in
theorem ct_X9_run (n : Int32) (I : Iv) (J : Jv)  : Ct m_X9_run [.ref 0, .int n] SHF I J (fun r S' I' J' => S' = SHF ∧ True ∧ ∃ v : Int32, r = some (.int v) ∧ fn_X9_run n I J = (v, I', J') ∧ ((1 ≤ n ∧ n ≤ 2880 ∧ XT I' J' = XT (wI I 24 0 (I 24 0 + n)) J) ∨ (¬ (1 ≤ n ∧ n ≤ 2880) ∧ XT I' J' = XT I J))) := by
  refine ct_of 1 (by decide +kernel) rfl rfl ?_
  have hK0 : XT I J = XT I J := rfl
  have hF := fe_of (fn_X9_run.eq_1 n I J)
  refine g_iload_n d_X9_run_0 rfl ?_
  refine g_iconst (v := 1) d_X9_run_1 kI_1 ?_
  refine g_icmp_lt d_X9_run_2 (fun h2 => ?_) (fun h2 => ?_)
  · skip
    replace hF := fe_pos hF h2
    refine g_ldc (v := -1000000002) d_X9_run_12 tw_396 ?_
    exact g_ireturn d_X9_run_14 rfl rfl rfl rfl ⟨rfl, trivial, (-1000000002 : Int32), rfl, hF, by grind⟩
  · skip
    replace hF := fe_neg hF h2
    refine g_iload_n d_X9_run_5 rfl ?_
    refine g_sipush (v := 2880) d_X9_run_6 kS_2880 ?_
    refine g_icmp_le d_X9_run_9 (fun h9 => ?_) (fun h9 => ?_)
    · skip
      replace hF := fe_pos hF h9
      refine g_aload_n d_X9_run_15 rfl ?_
      refine g_getR d_X9_run_16 fq_RX9_42 rfl rfl ?_
      refine g_getR d_X9_run_19 fq_RX9_159 rfl rfl ?_
      refine g_iconst (v := 3) d_X9_run_22 kI_3 ?_
      refine g_iaload (N := 8) d_X9_run_23 rfl kT_8 ⟨by decide, by decide⟩ kN_3 ?_
      refine g_topI (fun v1 ev1 => ?_)
      replace hF := fe_lt hF ev1
      refine g_istore_n (L' := [some (.ref 0), some (.int n), some (.int v1)]) d_X9_run_24 (by decide) rfl ?_
      refine g_aload_n d_X9_run_25 rfl ?_
      refine g_getR d_X9_run_26 fq_RX9_35 rfl rfl ?_
      refine g_aload_n d_X9_run_29 rfl ?_
      refine g_getR d_X9_run_30 fq_RX9_42 rfl rfl ?_
      refine g_iload_n d_X9_run_33 rfl ?_
      refine g_aload_n d_X9_run_34 rfl ?_
      refine g_getR d_X9_run_35 fq_RX9_19 rfl rfl ?_
      refine g_getR d_X9_run_38 fq_RX9_145 rfl rfl ?_
      refine g_bipush (v := 8) d_X9_run_41 kB_8 ?_
      refine g_iaload (N := 15) d_X9_run_43 rfl kT_15 ⟨by decide, by decide⟩ kN_8 ?_
      refine g_V3 d_X9_run_44 cs_X9_run_X7_passByDay lk_RX9_211 im_X7_passByDay se_X7_passByDay rfl rfl rfl (Nat.le_of_ble_eq_true rfl) ⟨rfl, rfl⟩ ⟨Nat.zero_le _, Nat.zero_le _⟩ (ct_X7_passByDay n (I 8 8) I J stA_16 (by grind)) (fun r44 S44 I2 J3 q44_3 => ?_)
      obtain ⟨rfl, hc44_4, rfl, hf44_5, hr44_6⟩ := q44_3
      replace hF := fe_b2 hF hf44_5
      refine g_st (st' := []) rfl ?_
      have hK8 : XT I2 J3 = XT (wI I 24 0 (I 24 0 + n)) J := (xt_tick (xn_fsx (Or.inl rfl) hc44_4) hr44_6).trans (xt_cong hK0)
      refine g_aload_n d_X9_run_47 rfl ?_
      refine g_getR d_X9_run_48 fq_RX9_42 rfl rfl ?_
      refine g_getR d_X9_run_51 fq_RX9_159 rfl rfl ?_
      refine g_iconst (v := 3) d_X9_run_54 kI_3 ?_
      refine g_iaload (N := 8) d_X9_run_55 rfl kT_8 ⟨by decide, by decide⟩ kN_3 ?_
      refine g_iload_n d_X9_run_56 rfl ?_
      refine g_isub d_X9_run_57 ?_
      exact g_ireturn d_X9_run_58 rfl rfl rfl rfl ⟨rfl, trivial, ((I2 24 3) - v1), rfl, hF, by grind⟩
    · skip
      replace hF := fe_neg hF h9
      refine g_ldc (v := -1000000002) d_X9_run_12 tw_396 ?_
      exact g_ireturn d_X9_run_14 rfl rfl rfl rfl ⟨rfl, trivial, (-1000000002 : Int32), rfl, hF, by grind⟩
noncomputable def fl_X9_drawDoor_24_1 (m : Int32) (Kf1 : Int32 → Iv → Jv → Iv × Jv) : Nat → Int32 → Iv → Jv → Iv × Jv
  | 0, x5, I6, J7 => (I6, J7)
  | kf1 + 1, x5, I6, J7 => if m ≤ x5 then Kf1 x5 I6 J7 else b_n3 (fn_X6_draw 16 (288 : Int32) I6 J7) (fun (r15 : Int32) (I10 : Iv) (J11 : Jv) => if r15 < 0 then fl_X9_drawDoor_24_1 m Kf1 kf1 (x5 + (1 : Int32)) I10 J11 else if (288 : Int32) ≤ r15 then fl_X9_drawDoor_24_1 m Kf1 kf1 (x5 + (1 : Int32)) I10 J11 else l_t (wI I10 44 (r15.toNatClampNeg) (1 : Int32)) (fun (I18 : Iv) => fl_X9_drawDoor_24_1 m Kf1 kf1 (x5 + (1 : Int32)) I18 J11))
noncomputable def fl_X9_drawDoor_2_0 (J : Jv) (Kf0 : Int32 → Iv → Iv × Jv) : Nat → Int32 → Iv → Iv × Jv
  | 0, x1, I2 => (I2, J)
  | kf0 + 1, x1, I2 => if (288 : Int32) ≤ x1 then Kf0 x1 I2 else l_t (wI I2 44 (x1.toNatClampNeg) (0 : Int32)) (fun (I20 : Iv) => fl_X9_drawDoor_2_0 J Kf0 kf0 (x1 + (1 : Int32)) I20)
noncomputable def fn_X9_drawDoor (m : Int32) (I : Iv) (J : Jv) : Iv × Jv :=
  fl_X9_drawDoor_2_0 J (fun (x1 : Int32) (I2 : Iv) => fl_X9_drawDoor_24_1 m (fun (x5 : Int32) (I6 : Iv) (J7 : Jv) => (I6, J7)) (mU m ((0 : Int32)) + 1) (0 : Int32) I2 J) (mU (288 : Int32) ((0 : Int32)) + 1) (0 : Int32) I
set_option maxRecDepth 100000 in
set_option maxHeartbeats 4000000 in
theorem ct_X9_drawDoor (m : Int32) (I : Iv) (J : Jv)  : Ct m_X9_drawDoor [.ref 0, .int m] SHF I J (fun r S' I' J' => S' = SHF ∧ XT I' J' = XT I J ∧ r = none ∧ fn_X9_drawDoor m I J = (I', J')) := by
  refine ct_of 2 (by decide +kernel) rfl rfl ?_
  have hK0 : XT I J = XT I J := rfl
  have hF := fe_of (fn_X9_drawDoor.eq_1 m I J)
  refine g_iconst (v := 0) d_X9_drawDoor_0 kI_0 ?_
  refine g_istore_n (L' := [some (.ref 0), some (.int m), some (.int (0 : Int32)), none]) d_X9_drawDoor_1 (by decide) rfl ?_
  obtain ⟨Kf0, hKf0, hF⟩ := fe_kx (f := fun K => fl_X9_drawDoor_2_0 J K (mU (288 : Int32) ((0 : Int32)) + 1) (0 : Int32) I) hF
  have K_2 : ∀ (nu : Nat) (x1 : Int32) (I2 : Iv), mU (288 : Int32) x1 = nu → (XT I2 J = XT I J) → ((0 : Int32) ≤ x1) → (∃ kq : Nat, nu < kq ∧ (fun kq => FE (fn_X9_drawDoor m I J) (fun _ => fl_X9_drawDoor_2_0 J Kf0 kq x1 I2)) kq) → G m_X9_drawDoor (rq m_X9_drawDoor (fun r S' I' J' => S' = SHF ∧ XT I' J' = XT I J ∧ r = none ∧ fn_X9_drawDoor m I J = (I', J'))) 0 0 2 [some (.ref 0), some (.int m), some (.int x1), none] [] SHF I2 J := by
    intro nu
    induction nu using Nat.strongRecOn with
    | ind nu ih_2 =>
      intro x1 I2 hmu_2 hK3 hl4 hF_Kf0
      obtain ⟨kf0, hkf0, hF⟩ := fe_fu (P := fun kq => FE (fn_X9_drawDoor m I J) (fun _ => fl_X9_drawDoor_2_0 J Kf0 kq x1 I2)) hF_Kf0
      replace hF := fe_eq hF (fl_X9_drawDoor_2_0.eq_2 _ _ _ _ _)
      refine g_iload_n d_X9_drawDoor_2 rfl ?_
      refine g_sipush (v := 288) d_X9_drawDoor_3 kS_288 ?_
      refine g_icmp_ge d_X9_drawDoor_6 (fun h6 => ?_) (fun h6 => ?_)
      · skip
        replace hF := fe_pos hF h6
        replace hF := fe_eq hF (congrFun (congrFun hKf0 x1) I2)
        refine g_iconst (v := 0) d_X9_drawDoor_22 kI_0 ?_
        refine g_istore_n (L' := [some (.ref 0), some (.int m), some (.int (0 : Int32)), none]) d_X9_drawDoor_23 (by decide) rfl ?_
        obtain ⟨Kf1, hKf1, hF⟩ := fe_kx (f := fun K => fl_X9_drawDoor_24_1 m K (mU m ((0 : Int32)) + 1) (0 : Int32) I2 J) hF
        have K_24 : ∀ (nu : Nat) (x5 : Int32) (I6 : Iv) (J7 : Jv), mU m x5 = nu → (XT I6 J7 = XT I J) → ((0 : Int32) ≤ x5) → (∃ kq : Nat, nu < kq ∧ (fun kq => FE (fn_X9_drawDoor m I J) (fun _ => fl_X9_drawDoor_24_1 m Kf1 kq x5 I6 J7)) kq) → G m_X9_drawDoor (rq m_X9_drawDoor (fun r S' I' J' => S' = SHF ∧ XT I' J' = XT I J ∧ r = none ∧ fn_X9_drawDoor m I J = (I', J'))) 0 0 24 [some (.ref 0), some (.int m), some (.int x5), none] [] SHF I6 J7 := by
          intro nu
          induction nu using Nat.strongRecOn with
          | ind nu ih_24 =>
            intro x5 I6 J7 hmu_24 hK8 hl9 hF_Kf1
            obtain ⟨kf1, hkf1, hF⟩ := fe_fu (P := fun kq => FE (fn_X9_drawDoor m I J) (fun _ => fl_X9_drawDoor_24_1 m Kf1 kq x5 I6 J7)) hF_Kf1
            replace hF := fe_eq hF (fl_X9_drawDoor_24_1.eq_2 _ _ _ _ _ _)
            refine g_iload_n d_X9_drawDoor_24 rfl ?_
            refine g_iload_n d_X9_drawDoor_25 rfl ?_
            refine g_icmp_ge d_X9_drawDoor_26 (fun h26 => ?_) (fun h26 => ?_)
            · skip
              replace hF := fe_pos hF h26
              replace hF := fe_eq hF (congrFun (congrFun (congrFun hKf1 x5) I6) J7)
              exact g_return d_X9_drawDoor_64 rfl rfl rfl ⟨rfl, hK8, rfl, hF⟩
            · skip
              replace hF := fe_neg hF h26
              refine g_aload_n d_X9_drawDoor_29 rfl ?_
              refine g_getR d_X9_drawDoor_30 fq_RX9_42 rfl rfl ?_
              refine g_sipush (v := 288) d_X9_drawDoor_33 kS_288 ?_
              refine g_V1 d_X9_drawDoor_36 cs_X9_drawDoor_X6_draw lk_RX9_386 im_X6_draw se_X6_draw rfl rfl rfl (Nat.le_of_ble_eq_true rfl) ⟨rfl, rfl⟩ ⟨Nat.zero_le _, Nat.zero_le _⟩ (ct_X6_draw (288 : Int32) I6 J7 stA_16) (fun r36 S36 I10 J11 q36_11 => ?_)
              obtain ⟨rfl, hc36_12, r15, rfl, hf36_13⟩ := q36_11
              replace hF := fe_b3 hF hf36_13
              refine g_st (st' := [.int r15]) rfl ?_
              have hK17 : XT I10 J11 = XT I J := (xt_fs16 hc36_12).trans hK8
              refine g_istore_n (L' := [some (.ref 0), some (.int m), some (.int x5), some (.int r15)]) d_X9_drawDoor_39 (by decide) rfl ?_
              refine g_iload_n d_X9_drawDoor_40 rfl ?_
              refine g_if_lt d_X9_drawDoor_41 (fun h41 => ?_) (fun h41 => ?_)
              · skip
                replace hF := fe_pos hF h41
                refine g_iinc (v := (x5 + (1 : Int32))) (L' := [some (.ref 0), some (.int m), some (.int (x5 + (1 : Int32))), some (.int r15)]) d_X9_drawDoor_58 rfl (by rw [kI_1]) (by decide) rfl ?_
                refine g_goto d_X9_drawDoor_61 ?_
                refine g_sb [some (.ref 0), some (.int m), some (.int (x5 + (1 : Int32))), none] (by simp [subL]) ?_
                exact ih_24 _ (by rw [← hmu_24]; exact mu_up h26) (x5 + (1 : Int32)) I10 J11 rfl hK17 (lo_up hl9 h26) ⟨kf1, Nat.lt_of_lt_of_le (by rw [← hmu_24]; exact mu_up h26) hkf1, hF⟩
              · skip
                replace hF := fe_neg hF h41
                refine g_iload_n d_X9_drawDoor_44 rfl ?_
                refine g_sipush (v := 288) d_X9_drawDoor_45 kS_288 ?_
                refine g_icmp_ge d_X9_drawDoor_48 (fun h48 => ?_) (fun h48 => ?_)
                · skip
                  replace hF := fe_pos hF h48
                  refine g_iinc (v := (x5 + (1 : Int32))) (L' := [some (.ref 0), some (.int m), some (.int (x5 + (1 : Int32))), some (.int r15)]) d_X9_drawDoor_58 rfl (by rw [kI_1]) (by decide) rfl ?_
                  refine g_goto d_X9_drawDoor_61 ?_
                  refine g_sb [some (.ref 0), some (.int m), some (.int (x5 + (1 : Int32))), none] (by simp [subL]) ?_
                  exact ih_24 _ (by rw [← hmu_24]; exact mu_up h26) (x5 + (1 : Int32)) I10 J11 rfl hK17 (lo_up hl9 h26) ⟨kf1, Nat.lt_of_lt_of_le (by rw [← hmu_24]; exact mu_up h26) hkf1, hF⟩
                · skip
                  replace hF := fe_neg hF h48
                  refine g_aload_n d_X9_drawDoor_51 rfl ?_
                  refine g_getR d_X9_drawDoor_52 fq_RX9_56 rfl rfl ?_
                  refine g_iload_n d_X9_drawDoor_55 rfl ?_
                  refine g_iconst (v := 1) d_X9_drawDoor_56 kI_1 ?_
                  refine g_bastore (N := 288) d_X9_drawDoor_57 rfl kT_288 (by constructor <;> grind) rfl (Or.inr rfl) ?_
                  refine g_nmI (fun I18 eI18 => ?_)
                  replace hF := fe_lt hF eI18
                  have hK19 : XT I18 J11 = XT I J := (by rw [eI18]; exact (xt_wI rfl).trans hK17)
                  refine g_iinc (v := (x5 + (1 : Int32))) (L' := [some (.ref 0), some (.int m), some (.int (x5 + (1 : Int32))), some (.int r15)]) d_X9_drawDoor_58 rfl (by rw [kI_1]) (by decide) rfl ?_
                  refine g_goto d_X9_drawDoor_61 ?_
                  refine g_sb [some (.ref 0), some (.int m), some (.int (x5 + (1 : Int32))), none] (by simp [subL]) ?_
                  exact ih_24 _ (by rw [← hmu_24]; exact mu_up h26) (x5 + (1 : Int32)) I18 J11 rfl hK19 (lo_up hl9 h26) ⟨kf1, Nat.lt_of_lt_of_le (by rw [← hmu_24]; exact mu_up h26) hkf1, hF⟩
        exact K_24 _ (0 : Int32) I2 J rfl hK3 (Int32.le_refl _) ⟨_, Nat.lt_succ_self _, hF⟩
      · skip
        replace hF := fe_neg hF h6
        refine g_aload_n d_X9_drawDoor_9 rfl ?_
        refine g_getR d_X9_drawDoor_10 fq_RX9_56 rfl rfl ?_
        refine g_iload_n d_X9_drawDoor_13 rfl ?_
        refine g_iconst (v := 0) d_X9_drawDoor_14 kI_0 ?_
        refine g_bastore (N := 288) d_X9_drawDoor_15 rfl kT_288 ⟨hl4, Int32.not_le.mp h6⟩ rfl (Or.inl rfl) ?_
        refine g_nmI (fun I20 eI20 => ?_)
        replace hF := fe_lt hF eI20
        have hK21 : XT I20 J = XT I J := (by rw [eI20]; exact (xt_wI rfl).trans hK3)
        refine g_iinc (v := (x1 + (1 : Int32))) (L' := [some (.ref 0), some (.int m), some (.int (x1 + (1 : Int32))), none]) d_X9_drawDoor_16 rfl (by rw [kI_1]) (by decide) rfl ?_
        refine g_goto d_X9_drawDoor_19 ?_
        exact ih_2 _ (by rw [← hmu_2]; exact mu_up h6) (x1 + (1 : Int32)) I20 rfl hK21 (lo_up hl4 h6) ⟨kf0, Nat.lt_of_lt_of_le (by rw [← hmu_2]; exact mu_up h6) hkf0, hF⟩
  exact K_2 _ (0 : Int32) I rfl hK0 (Int32.le_refl _) ⟨_, Nat.lt_succ_self _, hF⟩
noncomputable def fl_X9_drawn_37_0 (n : Int32) (m : Int32) (Kf0 : Int32 → Iv → Jv → Int32 × Iv × Jv) : Nat → Int32 → Iv → Jv → Int32 × Iv × Jv
  | 0, x2, I3, J4 => (0, I3, J4)
  | kf0 + 1, x2, I3, J4 => if (n * (288 : Int32)) ≤ x2 then Kf0 x2 I3 J4 else b_n3 (fn_X6_tickOfDay 16 I3 J4) (fun (r12 : Int32) (_ : Iv) (_ : Jv) => j_n (fun (I14 : Iv) (J15 : Jv) => b_n2 (fn_X7_pass 16 (I14 44 r12.toNatClampNeg) (I14 8 8) (0 : Int32) I14 J15) (fun (I17 : Iv) (J18 : Jv) => fl_X9_drawn_37_0 n m Kf0 kf0 (x2 + (1 : Int32)) I17 J18)) (fun (j71_1 : Iv → Jv → Int32 × Iv × Jv) => j_n (b_n2 (fn_X9_drawDoor m I3 J4) (fun (I24 : Iv) (J25 : Jv) => j71_1 I24 J25)) (fun (j66_2 : Int32 × Iv × Jv) => if x2 = 0 then j66_2 else if r12 = 0 then j66_2 else j71_1 I3 J4)))
noncomputable def fn_X9_drawn (n : Int32) (m : Int32) (I : Iv) (J : Jv) : Int32 × Iv × Jv :=
  if n < (1 : Int32) then ((-1000000002 : Int32), I, J) else if (10 : Int32) < n then ((-1000000002 : Int32), I, J) else if m < 0 then ((-1000000002 : Int32), I, J) else if m ≤ (20 : Int32) then l_t ((I 24 1)) (fun (v1 : Int32) => fl_X9_drawn_37_0 n m (fun (x2 : Int32) (I3 : Iv) (J4 : Jv) => (((I3 24 1) - v1), I3, J4)) (mU (n * (288 : Int32)) ((0 : Int32)) + 1) (0 : Int32) I J) else ((-1000000002 : Int32), I, J)
set_option maxRecDepth 100000 in
set_option maxHeartbeats 4000000 in
theorem ct_X9_drawn (n : Int32) (m : Int32) (I : Iv) (J : Jv) (ht0 : 0 ≤ I 24 0 ∧ I 24 0 ≤ 2000000000) : Ct m_X9_drawn [.ref 0, .int n, .int m] SHF I J (fun r S' I' J' => S' = SHF ∧ True ∧ ∃ v : Int32, r = some (.int v) ∧ fn_X9_drawn n m I J = (v, I', J') ∧ (∃ k : Int32, 0 ≤ k ∧ k ≤ 2880 ∧ XT I' J' = XT (wI I 24 0 (I 24 0 + k)) J)) := by
  refine ct_of 3 (by decide +kernel) rfl rfl ?_
  have hK0 : XN I J = XN I J := rfl
  have hF := fe_of (fn_X9_drawn.eq_1 n m I J)
  refine g_iload_n d_X9_drawn_0 rfl ?_
  refine g_iconst (v := 1) d_X9_drawn_1 kI_1 ?_
  refine g_icmp_lt d_X9_drawn_2 (fun h2 => ?_) (fun h2 => ?_)
  · skip
    replace hF := fe_pos hF h2
    refine g_ldc (v := -1000000002) d_X9_drawn_21 tw_396 ?_
    exact g_ireturn d_X9_drawn_23 rfl rfl rfl rfl ⟨rfl, trivial, (-1000000002 : Int32), rfl, hF, ⟨0, by decide, by decide, xt_tick hK0 (by grind)⟩⟩
  · skip
    replace hF := fe_neg hF h2
    refine g_iload_n d_X9_drawn_5 rfl ?_
    refine g_bipush (v := 10) d_X9_drawn_6 kB_10 ?_
    refine g_icmp_gt d_X9_drawn_8 (fun h8 => ?_) (fun h8 => ?_)
    · skip
      replace hF := fe_pos hF h8
      refine g_ldc (v := -1000000002) d_X9_drawn_21 tw_396 ?_
      exact g_ireturn d_X9_drawn_23 rfl rfl rfl rfl ⟨rfl, trivial, (-1000000002 : Int32), rfl, hF, ⟨0, by decide, by decide, xt_tick hK0 (by grind)⟩⟩
    · skip
      replace hF := fe_neg hF h8
      refine g_iload_n d_X9_drawn_11 rfl ?_
      refine g_if_lt d_X9_drawn_12 (fun h12 => ?_) (fun h12 => ?_)
      · skip
        replace hF := fe_pos hF h12
        refine g_ldc (v := -1000000002) d_X9_drawn_21 tw_396 ?_
        exact g_ireturn d_X9_drawn_23 rfl rfl rfl rfl ⟨rfl, trivial, (-1000000002 : Int32), rfl, hF, ⟨0, by decide, by decide, xt_tick hK0 (by grind)⟩⟩
      · skip
        replace hF := fe_neg hF h12
        refine g_iload_n d_X9_drawn_15 rfl ?_
        refine g_bipush (v := 20) d_X9_drawn_16 kB_20 ?_
        refine g_icmp_le d_X9_drawn_18 (fun h18 => ?_) (fun h18 => ?_)
        · skip
          replace hF := fe_pos hF h18
          refine g_aload_n d_X9_drawn_24 rfl ?_
          refine g_getR d_X9_drawn_25 fq_RX9_42 rfl rfl ?_
          refine g_getR d_X9_drawn_28 fq_RX9_159 rfl rfl ?_
          refine g_iconst (v := 1) d_X9_drawn_31 kI_1 ?_
          refine g_iaload (N := 8) d_X9_drawn_32 rfl kT_8 ⟨by decide, by decide⟩ kN_1 ?_
          refine g_topI (fun v1 ev1 => ?_)
          replace hF := fe_lt hF ev1
          refine g_istore_n (L' := [some (.ref 0), some (.int n), some (.int m), some (.int v1), none, none]) d_X9_drawn_33 (by decide) rfl ?_
          refine g_iconst (v := 0) d_X9_drawn_34 kI_0 ?_
          refine g_istore (L' := [some (.ref 0), some (.int n), some (.int m), some (.int v1), some (.int (0 : Int32)), none]) d_X9_drawn_35 (by decide) rfl ?_
          obtain ⟨Kf0, hKf0, hF⟩ := fe_kx (f := fun K => fl_X9_drawn_37_0 n m K (mU (n * (288 : Int32)) ((0 : Int32)) + 1) (0 : Int32) I J) hF
          have K_37 : ∀ (nu : Nat) (x2 : Int32) (I3 : Iv) (J4 : Jv), mU (n * (288 : Int32)) x2 = nu → (XN I3 J4 = XN I J) → ((0 : Int32) ≤ x2) → (I3 24 0 = I 24 0 + x2) → (x2 ≤ n * 288) → (∃ kq : Nat, nu < kq ∧ (fun kq => FE (fn_X9_drawn n m I J) (fun _ => fl_X9_drawn_37_0 n m Kf0 kq x2 I3 J4)) kq) → G m_X9_drawn (rq m_X9_drawn (fun r S' I' J' => S' = SHF ∧ True ∧ ∃ v : Int32, r = some (.int v) ∧ fn_X9_drawn n m I J = (v, I', J') ∧ (∃ k : Int32, 0 ≤ k ∧ k ≤ 2880 ∧ XT I' J' = XT (wI I 24 0 (I 24 0 + k)) J))) 0 0 37 [some (.ref 0), some (.int n), some (.int m), some (.int v1), some (.int x2), none] [] SHF I3 J4 := by
            intro nu
            induction nu using Nat.strongRecOn with
            | ind nu ih_37 =>
              intro x2 I3 J4 hmu_37 hK5 hl6 htk_37 hhi_37 hF_Kf0
              obtain ⟨kf0, hkf0, hF⟩ := fe_fu (P := fun kq => FE (fn_X9_drawn n m I J) (fun _ => fl_X9_drawn_37_0 n m Kf0 kq x2 I3 J4)) hF_Kf0
              replace hF := fe_eq hF (fl_X9_drawn_37_0.eq_2 _ _ _ _ _ _ _)
              refine g_iload d_X9_drawn_37 rfl ?_
              refine g_iload_n d_X9_drawn_39 rfl ?_
              refine g_sipush (v := 288) d_X9_drawn_40 kS_288 ?_
              refine g_imul d_X9_drawn_43 ?_
              refine g_icmp_ge d_X9_drawn_44 (fun h44 => ?_) (fun h44 => ?_)
              · skip
                replace hF := fe_pos hF h44
                replace hF := fe_eq hF (congrFun (congrFun (congrFun hKf0 x2) I3) J4)
                refine g_aload_n d_X9_drawn_106 rfl ?_
                refine g_getR d_X9_drawn_107 fq_RX9_42 rfl rfl ?_
                refine g_getR d_X9_drawn_110 fq_RX9_159 rfl rfl ?_
                refine g_iconst (v := 1) d_X9_drawn_113 kI_1 ?_
                refine g_iaload (N := 8) d_X9_drawn_114 rfl kT_8 ⟨by decide, by decide⟩ kN_1 ?_
                refine g_iload_n d_X9_drawn_115 rfl ?_
                refine g_isub d_X9_drawn_116 ?_
                exact g_ireturn d_X9_drawn_117 rfl rfl rfl rfl ⟨rfl, trivial, ((I3 24 1) - v1), rfl, hF, ⟨n * 288, by grind, by grind, xt_tick hK5 (by grind)⟩⟩
              · skip
                replace hF := fe_neg hF h44
                refine g_aload_n d_X9_drawn_47 rfl ?_
                refine g_getR d_X9_drawn_48 fq_RX9_42 rfl rfl ?_
                refine g_V0 d_X9_drawn_51 cs_X9_drawn_X6_tickOfDay lk_RX9_215 im_X6_tickOfDay se_X6_tickOfDay rfl rfl rfl (Nat.le_of_ble_eq_true rfl) ⟨rfl, rfl⟩ ⟨Nat.zero_le _, Nat.zero_le _⟩ (ct_X6_tickOfDay  I3 J4 stA_16) (fun r51 S51 Ic8 Jc9 q51_6 => ?_)
                obtain ⟨rfl, rfl, rfl, r12, rfl, hf51_10, hr51_12⟩ := q51_6
                replace hF := fe_b3 hF hf51_10
                refine g_st (st' := [.int r12]) rfl ?_
                have hof : 0 ≤ r12 ∧ r12 < 288 := by rw [hr51_12]; exact mod288 (by grind)
                refine g_istore (L' := [some (.ref 0), some (.int n), some (.int m), some (.int v1), some (.int x2), some (.int r12)]) d_X9_drawn_54 (by decide) rfl ?_
                refine g_iload d_X9_drawn_56 rfl ?_
                obtain ⟨j71_1, hj71_1, hF⟩ := fe_jx hF
                have J_71 : ∀ (I14 : Iv), ∀ (J15 : Jv), (XN I14 J15 = XN I J) → (I14 24 0 = I 24 0 + x2) → (FE (fn_X9_drawn n m I J) (fun _ => j71_1 I14 J15)) → G m_X9_drawn (rq m_X9_drawn (fun r S' I' J' => S' = SHF ∧ True ∧ ∃ v : Int32, r = some (.int v) ∧ fn_X9_drawn n m I J = (v, I', J') ∧ (∃ k : Int32, 0 ≤ k ∧ k ≤ 2880 ∧ XT I' J' = XT (wI I 24 0 (I 24 0 + k)) J))) 0 0 71 [some (.ref 0), some (.int n), some (.int m), some (.int v1), some (.int x2), some (.int r12)] [] SHF I14 J15 := by
                  intro I14 J15 hK16 htk_71 hF_j71_1
                  have hF := fe_eq hF_j71_1 (congrFun (congrFun hj71_1 I14) J15)
                  refine g_aload_n d_X9_drawn_71 rfl ?_
                  refine g_getR d_X9_drawn_72 fq_RX9_35 rfl rfl ?_
                  refine g_aload_n d_X9_drawn_75 rfl ?_
                  refine g_getR d_X9_drawn_76 fq_RX9_42 rfl rfl ?_
                  refine g_aload_n d_X9_drawn_79 rfl ?_
                  refine g_getR d_X9_drawn_80 fq_RX9_56 rfl rfl ?_
                  refine g_iload d_X9_drawn_83 rfl ?_
                  refine g_baload (N := 288) d_X9_drawn_85 rfl kT_288 hof rfl (fun hz85 => ?_)
                  refine g_aload_n d_X9_drawn_86 rfl ?_
                  refine g_getR d_X9_drawn_87 fq_RX9_19 rfl rfl ?_
                  refine g_getR d_X9_drawn_90 fq_RX9_145 rfl rfl ?_
                  refine g_bipush (v := 8) d_X9_drawn_93 kB_8 ?_
                  refine g_iaload (N := 15) d_X9_drawn_95 rfl kT_15 ⟨by decide, by decide⟩ kN_8 ?_
                  refine g_iconst (v := 0) d_X9_drawn_96 kI_0 ?_
                  refine g_V4 d_X9_drawn_97 cs_X9_drawn_X7_pass lk_RX9_221 im_X7_pass se_X7_pass rfl rfl rfl (Nat.le_of_ble_eq_true rfl) ⟨rfl, rfl⟩ ⟨Nat.zero_le _, Nat.zero_le _⟩ (ct_X7_pass (I14 44 r12.toNatClampNeg) (I14 8 8) (0 : Int32) I14 J15 stA_16) (fun r97 S97 I17 J18 q97_18 => ?_)
                  obtain ⟨rfl, hc97_19, rfl, hf97_20, hr97_21⟩ := q97_18
                  replace hF := fe_b2 hF hf97_20
                  refine g_st (st' := []) rfl ?_
                  have hK23 : XN I17 J18 = XN I J := (xn_fsx (Or.inl rfl) hc97_19).trans hK16
                  have htk97 : I17 24 0 = I 24 0 + x2 + 1 := by grind
                  refine g_iinc (v := (x2 + (1 : Int32))) (L' := [some (.ref 0), some (.int n), some (.int m), some (.int v1), some (.int (x2 + (1 : Int32))), some (.int r12)]) d_X9_drawn_100 rfl (by rw [kI_1]) (by decide) rfl ?_
                  refine g_goto d_X9_drawn_103 ?_
                  refine g_sb [some (.ref 0), some (.int n), some (.int m), some (.int v1), some (.int (x2 + (1 : Int32))), none] (by simp [subL]) ?_
                  exact ih_37 _ (by rw [← hmu_37]; exact mu_up h44) (x2 + (1 : Int32)) I17 J18 rfl hK23 (lo_up hl6 h44) (by grind) (by grind) ⟨kf0, Nat.lt_of_lt_of_le (by rw [← hmu_37]; exact mu_up h44) hkf0, hF⟩
                obtain ⟨j66_2, hj66_2, hF⟩ := fe_jx hF
                have J_66 : (I3 24 0 = I 24 0 + x2) → (FE (fn_X9_drawn n m I J) (fun _ => j66_2)) → G m_X9_drawn (rq m_X9_drawn (fun r S' I' J' => S' = SHF ∧ True ∧ ∃ v : Int32, r = some (.int v) ∧ fn_X9_drawn n m I J = (v, I', J') ∧ (∃ k : Int32, 0 ≤ k ∧ k ≤ 2880 ∧ XT I' J' = XT (wI I 24 0 (I 24 0 + k)) J))) 0 0 66 [some (.ref 0), some (.int n), some (.int m), some (.int v1), some (.int x2), some (.int r12)] [] SHF I3 J4 := by
                  intro htk_66 hF_j66_2
                  have hF := fe_eq hF_j66_2 hj66_2
                  refine g_aload_n d_X9_drawn_66 rfl ?_
                  refine g_iload_n d_X9_drawn_67 rfl ?_
                  refine g_V1 d_X9_drawn_68 cs_X9_drawn_X9_drawDoor lk_RX9_218 im_X9_drawDoor se_X9_drawDoor rfl rfl rfl (Nat.le_of_ble_eq_true rfl) ⟨rfl, rfl⟩ ⟨Nat.zero_le _, Nat.zero_le _⟩ (ct_X9_drawDoor m I3 J4 ) (fun r68 S68 I24 J25 q68_25 => ?_)
                  obtain ⟨rfl, hc68_26, rfl, hf68_27⟩ := q68_25
                  replace hF := fe_b2 hF hf68_27
                  refine g_st (st' := []) rfl ?_
                  have hK30 : XN I24 J25 = XN I J := (xt_xn hc68_26).trans hK5
                  have htk68 : I24 24 0 = I 24 0 + x2 := by rw [xt_tk hc68_26]; grind
                  exact J_71 I24 J25 hK30 (by grind) hF
                refine g_if_eq d_X9_drawn_58 (fun h58 => ?_) (fun h58 => ?_)
                · skip
                  replace hF := fe_pos hF h58
                  exact J_66 (by grind) hF
                · skip
                  replace hF := fe_neg hF h58
                  refine g_iload d_X9_drawn_61 rfl ?_
                  refine g_if_ne d_X9_drawn_63 (fun h63 => ?_) (fun h63 => ?_)
                  · skip
                    replace hF := fe_neg hF h63
                    exact J_71 I3 J4 hK5 (by grind) hF
                  · skip
                    replace hF := fe_pos hF h63
                    exact J_66 (by grind) hF
          exact K_37 _ (0 : Int32) I J rfl hK0 (Int32.le_refl _) (by grind) (by grind) ⟨_, Nat.lt_succ_self _, hF⟩
        · skip
          replace hF := fe_neg hF h18
          refine g_ldc (v := -1000000002) d_X9_drawn_21 tw_396 ?_
          exact g_ireturn d_X9_drawn_23 rfl rfl rfl rfl ⟨rfl, trivial, (-1000000002 : Int32), rfl, hF, ⟨0, by decide, by decide, xt_tick hK0 (by grind)⟩⟩
noncomputable def fn_X9_warmth (s : Int32) (I : Iv) (J : Jv) : Int32 × Iv × Jv :=
  if s < 0 then ((-1000000001 : Int32), I, J) else if s ≤ (3 : Int32) then b_n3 (fn_X6_warmthOf 16 s I J) (fun (r6 : Int32) (_ : Iv) (_ : Jv) => (r6, I, J)) else ((-1000000001 : Int32), I, J)
set_option maxRecDepth 100000 in
set_option maxHeartbeats 4000000 in
theorem ct_X9_warmth (s : Int32) (I : Iv) (J : Jv)  : Ct m_X9_warmth [.ref 0, .int s] SHF I J (fun r S' I' J' => S' = SHF ∧ I = I' ∧ J = J' ∧ ∃ v : Int32, r = some (.int v) ∧ fn_X9_warmth s I J = (v, I', J')) := by
  refine ct_of 0 (by decide +kernel) rfl rfl ?_
  have hF := fe_of (fn_X9_warmth.eq_1 s I J)
  refine g_iload_n d_X9_warmth_0 rfl ?_
  refine g_if_lt d_X9_warmth_1 (fun h1 => ?_) (fun h1 => ?_)
  · skip
    replace hF := fe_pos hF h1
    refine g_ldc (v := -1000000001) d_X9_warmth_9 tw_576 ?_
    refine g_goto d_X9_warmth_11 ?_
    exact g_ireturn d_X9_warmth_22 rfl rfl rfl rfl ⟨rfl, rfl, rfl, (-1000000001 : Int32), rfl, hF⟩
  · skip
    replace hF := fe_neg hF h1
    refine g_iload_n d_X9_warmth_4 rfl ?_
    refine g_iconst (v := 3) d_X9_warmth_5 kI_3 ?_
    refine g_icmp_le d_X9_warmth_6 (fun h6 => ?_) (fun h6 => ?_)
    · skip
      replace hF := fe_pos hF h6
      refine g_aload_n d_X9_warmth_14 rfl ?_
      refine g_getR d_X9_warmth_15 fq_RX9_42 rfl rfl ?_
      refine g_iload_n d_X9_warmth_18 rfl ?_
      refine g_V1 d_X9_warmth_19 cs_X9_warmth_X6_warmthOf lk_RX9_194 im_X6_warmthOf se_X6_warmthOf rfl rfl rfl (Nat.le_of_ble_eq_true rfl) ⟨rfl, rfl⟩ ⟨Nat.zero_le _, Nat.zero_le _⟩ (ct_X6_warmthOf s I J stA_16) (fun r19 S19 Ic2 Jc3 q19_0 => ?_)
      obtain ⟨rfl, rfl, rfl, r6, rfl, hf19_4⟩ := q19_0
      replace hF := fe_b3 hF hf19_4
      refine g_st (st' := [.int r6]) rfl ?_
      exact g_ireturn d_X9_warmth_22 rfl rfl rfl rfl ⟨rfl, rfl, rfl, r6, rfl, hF⟩
    · skip
      replace hF := fe_neg hF h6
      refine g_ldc (v := -1000000001) d_X9_warmth_9 tw_576 ?_
      refine g_goto d_X9_warmth_11 ?_
      exact g_ireturn d_X9_warmth_22 rfl rfl rfl rfl ⟨rfl, rfl, rfl, (-1000000001 : Int32), rfl, hF⟩
noncomputable def fn_X9_heat (what : Int32) (I : Iv) (J : Jv) : Int64 × Iv × Jv :=
  if what < 0 then ((-1000000002 : Int64), I, J) else if what < (6 : Int32) then if what = 0 then b_n3 (fn_X6_allHeat 16 I J) (fun (r6 : Int64) (_ : Iv) (_ : Jv) => (r6, I, J)) else ((J 23 what.toNatClampNeg), I, J) else ((-1000000002 : Int64), I, J)
set_option maxRecDepth 100000 in
set_option maxHeartbeats 4000000 in
theorem ct_X9_heat (what : Int32) (I : Iv) (J : Jv)  : Ct m_X9_heat [.ref 0, .int what] SHF I J (fun r S' I' J' => S' = SHF ∧ I = I' ∧ J = J' ∧ ∃ v : Int64, r = some (.long v) ∧ fn_X9_heat what I J = (v, I', J')) := by
  refine ct_of 0 (by decide +kernel) rfl rfl ?_
  have hF := fe_of (fn_X9_heat.eq_1 what I J)
  refine g_iload_n d_X9_heat_0 rfl ?_
  refine g_if_lt d_X9_heat_1 (fun h1 => ?_) (fun h1 => ?_)
  · skip
    replace hF := fe_pos hF h1
    refine g_ldc2 (v := -1000000002) d_X9_heat_10 tw_735 ?_
    exact g_lreturn d_X9_heat_13 rfl rfl rfl ⟨rfl, rfl, rfl, (-1000000002 : Int64), rfl, hF⟩
  · skip
    replace hF := fe_neg hF h1
    refine g_iload_n d_X9_heat_4 rfl ?_
    refine g_bipush (v := 6) d_X9_heat_5 kB_6 ?_
    refine g_icmp_lt d_X9_heat_7 (fun h7 => ?_) (fun h7 => ?_)
    · skip
      replace hF := fe_pos hF h7
      refine g_iload_n d_X9_heat_14 rfl ?_
      refine g_if_ne d_X9_heat_15 (fun h15 => ?_) (fun h15 => ?_)
      · skip
        replace hF := fe_neg hF h15
        refine g_aload_n d_X9_heat_28 rfl ?_
        refine g_getR d_X9_heat_29 fq_RX9_42 rfl rfl ?_
        refine g_getR d_X9_heat_32 fq_RX9_231 rfl rfl ?_
        refine g_iload_n d_X9_heat_35 rfl ?_
        refine g_laload (N := 6) d_X9_heat_36 rfl kT_6 (by constructor <;> grind) rfl ?_
        exact g_lreturn d_X9_heat_37 rfl rfl rfl ⟨rfl, rfl, rfl, (J 23 what.toNatClampNeg), rfl, hF⟩
      · skip
        replace hF := fe_pos hF h15
        refine g_aload_n d_X9_heat_18 rfl ?_
        refine g_getR d_X9_heat_19 fq_RX9_42 rfl rfl ?_
        refine g_V0 d_X9_heat_22 cs_X9_heat_X6_allHeat lk_RX9_227 im_X6_allHeat se_X6_allHeat rfl rfl rfl (Nat.le_of_ble_eq_true rfl) ⟨rfl, rfl⟩ ⟨Nat.zero_le _, Nat.zero_le _⟩ (ct_X6_allHeat  I J stA_16) (fun r22 S22 Ic2 Jc3 q22_0 => ?_)
        obtain ⟨rfl, rfl, rfl, r6, rfl, hf22_4⟩ := q22_0
        replace hF := fe_b3 hF hf22_4
        refine g_st (st' := [.long r6]) rfl ?_
        refine g_goto d_X9_heat_25 ?_
        exact g_lreturn d_X9_heat_37 rfl rfl rfl ⟨rfl, rfl, rfl, r6, rfl, hF⟩
    · skip
      replace hF := fe_neg hF h7
      refine g_ldc2 (v := -1000000002) d_X9_heat_10 tw_735 ?_
      exact g_lreturn d_X9_heat_13 rfl rfl rfl ⟨rfl, rfl, rfl, (-1000000002 : Int64), rfl, hF⟩
noncomputable def fn_X9_count (what : Int32) (I : Iv) (J : Jv) : Int32 × Iv × Jv :=
  if what < 0 then ((-1000000002 : Int32), I, J) else if what ≤ (11 : Int32) then if (8 : Int32) ≤ what then if (what).toInt < 8 ∨ 10 < (what).toInt then ((I 1 1), I, J) else l_t ((what).toInt - (8)).toNat (fun (sw0 : Nat) => if sw0 = 0 then ((I 16 9), I, J) else if sw0 = 1 then if (I 16 10) = 0 then ((0 : Int32), I, J) else ((1 : Int32), I, J) else if sw0 = 2 then b_n3 (fn_X6_foodsThere 16 I J) (fun (r6 : Int32) (_ : Iv) (_ : Jv) => (r6, I, J)) else (0, I, J)) else ((I 24 what.toNatClampNeg), I, J) else ((-1000000002 : Int32), I, J)
set_option maxRecDepth 100000 in
set_option maxHeartbeats 4000000 in
theorem ct_X9_count (what : Int32) (I : Iv) (J : Jv)  : Ct m_X9_count [.ref 0, .int what] SHF I J (fun r S' I' J' => S' = SHF ∧ I = I' ∧ J = J' ∧ ∃ v : Int32, r = some (.int v) ∧ fn_X9_count what I J = (v, I', J')) := by
  refine ct_of 0 (by decide +kernel) rfl rfl ?_
  have hF := fe_of (fn_X9_count.eq_1 what I J)
  refine g_iload_n d_X9_count_0 rfl ?_
  refine g_if_lt d_X9_count_1 (fun h1 => ?_) (fun h1 => ?_)
  · skip
    replace hF := fe_pos hF h1
    refine g_ldc (v := -1000000002) d_X9_count_10 tw_396 ?_
    exact g_ireturn d_X9_count_12 rfl rfl rfl rfl ⟨rfl, rfl, rfl, (-1000000002 : Int32), rfl, hF⟩
  · skip
    replace hF := fe_neg hF h1
    refine g_iload_n d_X9_count_4 rfl ?_
    refine g_bipush (v := 11) d_X9_count_5 kB_11 ?_
    refine g_icmp_le d_X9_count_7 (fun h7 => ?_) (fun h7 => ?_)
    · skip
      replace hF := fe_pos hF h7
      refine g_iload_n d_X9_count_13 rfl ?_
      refine g_bipush (v := 8) d_X9_count_14 kB_8 ?_
      refine g_icmp_ge d_X9_count_16 (fun h16 => ?_) (fun h16 => ?_)
      · skip
        replace hF := fe_pos hF h16
        refine g_iload_n d_X9_count_29 rfl ?_
        rcases sw_split what (8) (10) with h30 | h30
        · skip
          refine g_swOut d_X9_count_30 h30 ?_
          replace hF := fe_pos hF h30
          refine g_aload_n d_X9_count_88 rfl ?_
          refine g_getR d_X9_count_89 fq_RX9_10 rfl rfl ?_
          refine g_getI d_X9_count_92 fq_RX9_105 rfl rfl ?_
          exact g_ireturn d_X9_count_95 rfl rfl rfl rfl ⟨rfl, rfl, rfl, (I 1 1), rfl, hF⟩
        · skip
          replace hF := fe_neg hF (fun q => by rcases q with q | q; exact h30.1 q; exact h30.2 q)
          have hz : ∃ k : Nat, k < 3 ∧ (what).toInt = (8 : Int) + (k : Int) := by obtain ⟨k, h1, h2⟩ := sw_k h30; exact ⟨k, by omega, h2⟩
          obtain ⟨k, hk, hz⟩ := hz
          match k, hk, hz with
          | 0, _, hz =>
            refine g_swIn d_X9_count_30_0 (by rw [hz]; decide) (by rw [hz]; decide) (by rw [hz]; rfl) ?_
            replace hF := fe_lt (v := 0) hF (by rw [hz]; rfl)
            replace hF := fe_pos hF rfl
            refine g_aload_n d_X9_count_56 rfl ?_
            refine g_getR d_X9_count_57 fq_RX9_42 rfl rfl ?_
            refine g_getI d_X9_count_60 fq_RX9_235 rfl rfl ?_
            exact g_ireturn d_X9_count_63 rfl rfl rfl rfl ⟨rfl, rfl, rfl, (I 16 9), rfl, hF⟩
          | 1, _, hz =>
            refine g_swIn d_X9_count_30_1 (by rw [hz]; decide) (by rw [hz]; decide) (by rw [hz]; rfl) ?_
            replace hF := fe_lt (v := 1) hF (by rw [hz]; rfl)
            replace hF := fe_neg hF (by decide)
            replace hF := fe_pos hF rfl
            refine g_aload_n d_X9_count_64 rfl ?_
            refine g_getR d_X9_count_65 fq_RX9_42 rfl rfl ?_
            refine g_getZ d_X9_count_68 fq_RX9_238 rfl rfl (fun hz68 => ?_)
            refine g_if_eq d_X9_count_71 (fun h71 => ?_) (fun h71 => ?_)
            · skip
              replace hF := fe_pos hF h71
              refine g_iconst (v := 0) d_X9_count_78 kI_0 ?_
              exact g_ireturn d_X9_count_79 rfl rfl rfl rfl ⟨rfl, rfl, rfl, (0 : Int32), rfl, hF⟩
            · skip
              replace hF := fe_neg hF h71
              refine g_iconst (v := 1) d_X9_count_74 kI_1 ?_
              refine g_goto d_X9_count_75 ?_
              exact g_ireturn d_X9_count_79 rfl rfl rfl rfl ⟨rfl, rfl, rfl, (1 : Int32), rfl, hF⟩
          | 2, _, hz =>
            refine g_swIn d_X9_count_30_2 (by rw [hz]; decide) (by rw [hz]; decide) (by rw [hz]; rfl) ?_
            replace hF := fe_lt (v := 2) hF (by rw [hz]; rfl)
            replace hF := fe_neg hF (by decide)
            replace hF := fe_neg hF (by decide)
            replace hF := fe_pos hF rfl
            refine g_aload_n d_X9_count_80 rfl ?_
            refine g_getR d_X9_count_81 fq_RX9_42 rfl rfl ?_
            refine g_V0 d_X9_count_84 cs_X9_count_X6_foodsThere lk_RX9_241 im_X6_foodsThere se_X6_foodsThere rfl rfl rfl (Nat.le_of_ble_eq_true rfl) ⟨rfl, rfl⟩ ⟨Nat.zero_le _, Nat.zero_le _⟩ (ct_X6_foodsThere  I J stA_16) (fun r84 S84 Ic2 Jc3 q84_0 => ?_)
            obtain ⟨rfl, rfl, rfl, r6, rfl, hf84_4⟩ := q84_0
            replace hF := fe_b3 hF hf84_4
            refine g_st (st' := [.int r6]) rfl ?_
            exact g_ireturn d_X9_count_87 rfl rfl rfl rfl ⟨rfl, rfl, rfl, r6, rfl, hF⟩
          | k + 3, hk, _ => exact absurd hk (by omega)
      · skip
        replace hF := fe_neg hF h16
        refine g_aload_n d_X9_count_19 rfl ?_
        refine g_getR d_X9_count_20 fq_RX9_42 rfl rfl ?_
        refine g_getR d_X9_count_23 fq_RX9_159 rfl rfl ?_
        refine g_iload_n d_X9_count_26 rfl ?_
        refine g_iaload (N := 8) d_X9_count_27 rfl kT_8 (by constructor <;> grind) rfl ?_
        exact g_ireturn d_X9_count_28 rfl rfl rfl rfl ⟨rfl, rfl, rfl, (I 24 what.toNatClampNeg), rfl, hF⟩
    · skip
      replace hF := fe_neg hF h7
      refine g_ldc (v := -1000000002) d_X9_count_10 tw_396 ?_
      exact g_ireturn d_X9_count_12 rfl rfl rfl rfl ⟨rfl, rfl, rfl, (-1000000002 : Int32), rfl, hF⟩
noncomputable def fn_X9_thaw (I : Iv) (J : Jv) : Int32 × Iv × Jv :=
  b_n3 (fn_X6_letOffIce 16 I J) (fun (r6 : Int32) (I1 : Iv) (J2 : Jv) => (r6, I1, J2))
set_option maxRecDepth 100000 in
set_option maxHeartbeats 4000000 in
theorem ct_X9_thaw  (I : Iv) (J : Jv)  : Ct m_X9_thaw [.ref 0] SHF I J (fun r S' I' J' => S' = SHF ∧ XT I' J' = XT I J ∧ ∃ v : Int32, r = some (.int v) ∧ fn_X9_thaw I J = (v, I', J')) := by
  refine ct_of 0 (by decide +kernel) rfl rfl ?_
  have hK0 : XT I J = XT I J := rfl
  have hF := fe_of (fn_X9_thaw.eq_1 I J)
  refine g_aload_n d_X9_thaw_0 rfl ?_
  refine g_getR d_X9_thaw_1 fq_RX9_42 rfl rfl ?_
  refine g_V0 d_X9_thaw_4 cs_X9_thaw_X6_letOffIce lk_RX9_244 im_X6_letOffIce se_X6_letOffIce rfl rfl rfl (Nat.le_of_ble_eq_true rfl) ⟨rfl, rfl⟩ ⟨Nat.zero_le _, Nat.zero_le _⟩ (ct_X6_letOffIce  I J stA_16) (fun r4 S4 I1 J2 q4_2 => ?_)
  obtain ⟨rfl, hc4_3, r6, rfl, hf4_4⟩ := q4_2
  replace hF := fe_b3 hF hf4_4
  refine g_st (st' := [.int r6]) rfl ?_
  have hK8 : XT I1 J2 = XT I J := (xt_fs16 hc4_3).trans hK0
  exact g_ireturn d_X9_thaw_7 rfl rfl rfl rfl ⟨rfl, hK8, r6, rfl, hF⟩
noncomputable def fn_X9_sign (set : Int32) (n : Int32) (what : Int32) (I : Iv) (J : Jv) : Int32 × Iv × Jv :=
  b_n3 (fn_X9_isSet set I J) (fun (r6 : Int32) (_ : Iv) (_ : Jv) => if r6 = 0 then ((-1000000001 : Int32), I, J) else b_n3 (fn_X9_isSign what I J) (fun (r13 : Int32) (_ : Iv) (_ : Jv) => if r13 = 0 then ((-1000000001 : Int32), I, J) else b_n3 (fn_X9_areSignDays n I J) (fun (r20 : Int32) (_ : Iv) (_ : Jv) => if r20 = 0 then ((-1000000002 : Int32), I, J) else b_n2 (fn_X1_learn set n I J) (fun (I22 : Iv) (J23 : Jv) => b_n3 (fn_X1_signOf set n what I22 J23) (fun (r34 : Int32) (_ : Iv) (_ : Jv) => (r34, I22, J23))))))
set_option maxRecDepth 100000 in
set_option maxHeartbeats 4000000 in
theorem ct_X9_sign (set : Int32) (n : Int32) (what : Int32) (I : Iv) (J : Jv)  : Ct m_X9_sign [.ref 0, .int set, .int n, .int what] SHF I J (fun r S' I' J' => S' = SHF ∧ XT I' J' = XT I J ∧ ∃ v : Int32, r = some (.int v) ∧ fn_X9_sign set n what I J = (v, I', J')) := by
  refine ct_of 0 (by decide +kernel) rfl rfl ?_
  have hK0 : XT I J = XT I J := rfl
  have hF := fe_of (fn_X9_sign.eq_1 set n what I J)
  refine g_iload_n d_X9_sign_0 rfl ?_
  refine g_S1 d_X9_sign_1 cs_X9_sign_X9_isSet lk_RX9_151 im_X9_isSet (Nat.le_of_ble_eq_true rfl) ⟨rfl, rfl⟩ ⟨Nat.zero_le _, Nat.zero_le _⟩ (ct_X9_isSet set I J ) (fun r1 S1 Ic2 Jc3 q1_0 => ?_)
  obtain ⟨rfl, rfl, rfl, r6, rfl, hz1, hf1_4, hr1_6⟩ := q1_0
  replace hF := fe_b3 hF hf1_4
  refine g_st (st' := [.int r6]) rfl ?_
  refine g_if_eq d_X9_sign_4 (fun h4 => ?_) (fun h4 => ?_)
  · skip
    replace hF := fe_pos hF h4
    refine g_ldc (v := -1000000001) d_X9_sign_14 tw_576 ?_
    exact g_ireturn d_X9_sign_16 rfl rfl rfl rfl ⟨rfl, hK0, (-1000000001 : Int32), rfl, hF⟩
  · skip
    replace hF := fe_neg hF h4
    refine g_iload_n d_X9_sign_7 rfl ?_
    refine g_S1 d_X9_sign_8 cs_X9_sign_X9_isSign lk_RX9_247 im_X9_isSign (Nat.le_of_ble_eq_true rfl) ⟨rfl, rfl⟩ ⟨Nat.zero_le _, Nat.zero_le _⟩ (ct_X9_isSign what I J ) (fun r8 S8 Ic9 Jc10 q8_7 => ?_)
    obtain ⟨rfl, rfl, rfl, r13, rfl, hz8, hf8_11, hr8_13⟩ := q8_7
    replace hF := fe_b3 hF hf8_11
    refine g_st (st' := [.int r13]) rfl ?_
    refine g_if_ne d_X9_sign_11 (fun h11 => ?_) (fun h11 => ?_)
    · skip
      replace hF := fe_neg hF h11
      refine g_iload_n d_X9_sign_17 rfl ?_
      refine g_S1 d_X9_sign_18 cs_X9_sign_X9_areSignDays lk_RX9_250 im_X9_areSignDays (Nat.le_of_ble_eq_true rfl) ⟨rfl, rfl⟩ ⟨Nat.zero_le _, Nat.zero_le _⟩ (ct_X9_areSignDays n I J ) (fun r18 S18 Ic16 Jc17 q18_14 => ?_)
      obtain ⟨rfl, rfl, rfl, r20, rfl, hz18, hf18_18, hr18_20⟩ := q18_14
      replace hF := fe_b3 hF hf18_18
      refine g_st (st' := [.int r20]) rfl ?_
      refine g_if_ne d_X9_sign_21 (fun h21 => ?_) (fun h21 => ?_)
      · skip
        replace hF := fe_neg hF h21
        refine g_aload_n d_X9_sign_27 rfl ?_
        refine g_getR d_X9_sign_28 fq_RX9_64 rfl rfl ?_
        refine g_iload_n d_X9_sign_31 rfl ?_
        refine g_iload_n d_X9_sign_32 rfl ?_
        refine g_V2 d_X9_sign_33 cs_X9_sign_X1_learn lk_RX9_253 im_X1_learn se_X1_learn rfl rfl rfl (Nat.le_of_ble_eq_true rfl) ⟨rfl, rfl⟩ ⟨Nat.zero_le _, Nat.zero_le _⟩ (ct_X1_learn set n I J ) (fun r33 S33 I22 J23 q33_23 => ?_)
        obtain ⟨rfl, hc33_24, rfl, hf33_25⟩ := q33_23
        replace hF := fe_b2 hF hf33_25
        refine g_st (st' := []) rfl ?_
        have hK28 : XT I22 J23 = XT I J := hc33_24.trans hK0
        refine g_aload_n d_X9_sign_36 rfl ?_
        refine g_getR d_X9_sign_37 fq_RX9_64 rfl rfl ?_
        refine g_iload_n d_X9_sign_40 rfl ?_
        refine g_iload_n d_X9_sign_41 rfl ?_
        refine g_iload_n d_X9_sign_42 rfl ?_
        refine g_V3 d_X9_sign_43 cs_X9_sign_X1_signOf lk_RX9_257 im_X1_signOf se_X1_signOf rfl rfl rfl (Nat.le_of_ble_eq_true rfl) ⟨rfl, rfl⟩ ⟨Nat.zero_le _, Nat.zero_le _⟩ (ct_X1_signOf set n what I22 J23 ) (fun r43 S43 Ic30 Jc31 q43_28 => ?_)
        obtain ⟨rfl, rfl, rfl, r34, rfl, hf43_32⟩ := q43_28
        replace hF := fe_b3 hF hf43_32
        refine g_st (st' := [.int r34]) rfl ?_
        exact g_ireturn d_X9_sign_46 rfl rfl rfl rfl ⟨rfl, hK28, r34, rfl, hF⟩
      · skip
        replace hF := fe_pos hF h21
        refine g_ldc (v := -1000000002) d_X9_sign_24 tw_396 ?_
        exact g_ireturn d_X9_sign_26 rfl rfl rfl rfl ⟨rfl, hK0, (-1000000002 : Int32), rfl, hF⟩
    · skip
      replace hF := fe_pos hF h11
      refine g_ldc (v := -1000000001) d_X9_sign_14 tw_576 ?_
      exact g_ireturn d_X9_sign_16 rfl rfl rfl rfl ⟨rfl, hK0, (-1000000001 : Int32), rfl, hF⟩
noncomputable def fn_X9_seen (what : Int32) (v_ : Int32) (e : Int32) (I : Iv) (J : Jv) : Int32 × Iv × Jv :=
  b_n3 (fn_X9_isSign what I J) (fun (r6 : Int32) (_ : Iv) (_ : Jv) => if r6 = 0 then ((-1000000001 : Int32), I, J) else if v_ < (-99999 : Int32) then ((-1000000002 : Int32), I, J) else if (99999 : Int32) < v_ then ((-1000000002 : Int32), I, J) else if e < (1 : Int32) then ((-1000000002 : Int32), I, J) else if e ≤ (999 : Int32) then l_t (wI I 58 (what.toNatClampNeg) (1 : Int32)) (fun (I8 : Iv) => l_t (wI I8 59 (what.toNatClampNeg) v_) (fun (I10 : Iv) => l_t (wI I10 60 (what.toNatClampNeg) e) (fun (I12 : Iv) => b_n3 (fn_X2_howManySeen I12 J) (fun (r19 : Int32) (_ : Iv) (_ : Jv) => (r19, I12, J))))) else ((-1000000002 : Int32), I, J))
set_option maxRecDepth 100000 in
set_option maxHeartbeats 4000000 in
theorem ct_X9_seen (what : Int32) (v_ : Int32) (e : Int32) (I : Iv) (J : Jv)  : Ct m_X9_seen [.ref 0, .int what, .int v_, .int e] SHF I J (fun r S' I' J' => S' = SHF ∧ True ∧ ∃ v : Int32, r = some (.int v) ∧ fn_X9_seen what v_ e I J = (v, I', J') ∧ ((¬ (0 ≤ what ∧ what ≤ 6) ∧ v = -1000000001 ∧ XT I' J' = XT I J) ∨ (0 ≤ what ∧ what ≤ 6 ∧ ¬ (-99999 ≤ v_ ∧ v_ ≤ 99999 ∧ 1 ≤ e ∧ e ≤ 999) ∧ v = -1000000002 ∧ XT I' J' = XT I J) ∨ (0 ≤ what ∧ what ≤ 6 ∧ (-99999 ≤ v_ ∧ v_ ≤ 99999 ∧ 1 ≤ e ∧ e ≤ 999) ∧ v = cn (wI I 58 what.toNatClampNeg 1 58) 7 ∧ XT I' J' = XT (wI I 58 what.toNatClampNeg 1) J))) := by
  refine ct_of 0 (by decide +kernel) rfl rfl ?_
  have hK0 : XT I J = XT I J := rfl
  have hF := fe_of (fn_X9_seen.eq_1 what v_ e I J)
  refine g_iload_n d_X9_seen_0 rfl ?_
  refine g_S1 d_X9_seen_1 cs_X9_seen_X9_isSign lk_RX9_247 im_X9_isSign (Nat.le_of_ble_eq_true rfl) ⟨rfl, rfl⟩ ⟨Nat.zero_le _, Nat.zero_le _⟩ (ct_X9_isSign what I J ) (fun r1 S1 Ic2 Jc3 q1_0 => ?_)
  obtain ⟨rfl, rfl, rfl, r6, rfl, hz1, hf1_4, hr1_6⟩ := q1_0
  replace hF := fe_b3 hF hf1_4
  refine g_st (st' := [.int r6]) rfl ?_
  refine g_if_ne d_X9_seen_4 (fun h4 => ?_) (fun h4 => ?_)
  · skip
    replace hF := fe_neg hF h4
    refine g_iload_n d_X9_seen_10 rfl ?_
    refine g_ldcw (v := -99999) d_X9_seen_11 tw_792 ?_
    refine g_icmp_lt d_X9_seen_14 (fun h14 => ?_) (fun h14 => ?_)
    · skip
      replace hF := fe_pos hF h14
      refine g_ldc (v := -1000000002) d_X9_seen_36 tw_396 ?_
      exact g_ireturn d_X9_seen_38 rfl rfl rfl rfl ⟨rfl, trivial, (-1000000002 : Int32), rfl, hF, (Or.inr (Or.inl ⟨by grind, by grind, by grind, rfl, hK0⟩))⟩
    · skip
      replace hF := fe_neg hF h14
      refine g_iload_n d_X9_seen_17 rfl ?_
      refine g_ldcw (v := 99999) d_X9_seen_18 tw_793 ?_
      refine g_icmp_gt d_X9_seen_21 (fun h21 => ?_) (fun h21 => ?_)
      · skip
        replace hF := fe_pos hF h21
        refine g_ldc (v := -1000000002) d_X9_seen_36 tw_396 ?_
        exact g_ireturn d_X9_seen_38 rfl rfl rfl rfl ⟨rfl, trivial, (-1000000002 : Int32), rfl, hF, (Or.inr (Or.inl ⟨by grind, by grind, by grind, rfl, hK0⟩))⟩
      · skip
        replace hF := fe_neg hF h21
        refine g_iload_n d_X9_seen_24 rfl ?_
        refine g_iconst (v := 1) d_X9_seen_25 kI_1 ?_
        refine g_icmp_lt d_X9_seen_26 (fun h26 => ?_) (fun h26 => ?_)
        · skip
          replace hF := fe_pos hF h26
          refine g_ldc (v := -1000000002) d_X9_seen_36 tw_396 ?_
          exact g_ireturn d_X9_seen_38 rfl rfl rfl rfl ⟨rfl, trivial, (-1000000002 : Int32), rfl, hF, (Or.inr (Or.inl ⟨by grind, by grind, by grind, rfl, hK0⟩))⟩
        · skip
          replace hF := fe_neg hF h26
          refine g_iload_n d_X9_seen_29 rfl ?_
          refine g_sipush (v := 999) d_X9_seen_30 kS_999 ?_
          refine g_icmp_le d_X9_seen_33 (fun h33 => ?_) (fun h33 => ?_)
          · skip
            replace hF := fe_pos hF h33
            refine g_aload_n d_X9_seen_39 rfl ?_
            refine g_getR d_X9_seen_40 fq_RX9_73 rfl rfl ?_
            refine g_getR d_X9_seen_43 fq_RX9_263 rfl rfl ?_
            refine g_iload_n d_X9_seen_46 rfl ?_
            refine g_iconst (v := 1) d_X9_seen_47 kI_1 ?_
            refine g_bastore (N := 7) d_X9_seen_48 rfl kT_7 (by constructor <;> grind) rfl (Or.inr rfl) ?_
            refine g_nmI (fun I8 eI8 => ?_)
            replace hF := fe_lt hF eI8
            have hK9 : XT I8 J = XT (wI I 58 what.toNatClampNeg (1 : Int32)) J := ((congrArg (fun q => XT q _) eI8).trans (xt_cong hK0))
            refine g_aload_n d_X9_seen_49 rfl ?_
            refine g_getR d_X9_seen_50 fq_RX9_73 rfl rfl ?_
            refine g_getR d_X9_seen_53 fq_RX9_266 rfl rfl ?_
            refine g_iload_n d_X9_seen_56 rfl ?_
            refine g_iload_n d_X9_seen_57 rfl ?_
            refine g_iastore (N := 7) d_X9_seen_58 rfl kT_7 (by constructor <;> grind) rfl  ?_
            refine g_nmI (fun I10 eI10 => ?_)
            replace hF := fe_lt hF eI10
            have hK11 : XT I10 J = XT (wI I 58 what.toNatClampNeg (1 : Int32)) J := (by rw [eI10]; exact (xt_wI rfl).trans hK9)
            refine g_aload_n d_X9_seen_59 rfl ?_
            refine g_getR d_X9_seen_60 fq_RX9_73 rfl rfl ?_
            refine g_getR d_X9_seen_63 fq_RX9_269 rfl rfl ?_
            refine g_iload_n d_X9_seen_66 rfl ?_
            refine g_iload_n d_X9_seen_67 rfl ?_
            refine g_iastore (N := 7) d_X9_seen_68 rfl kT_7 (by constructor <;> grind) rfl  ?_
            refine g_nmI (fun I12 eI12 => ?_)
            replace hF := fe_lt hF eI12
            have hK13 : XT I12 J = XT (wI I 58 what.toNatClampNeg (1 : Int32)) J := (by rw [eI12]; exact (xt_wI rfl).trans hK11)
            refine g_aload_n d_X9_seen_69 rfl ?_
            refine g_getR d_X9_seen_70 fq_RX9_73 rfl rfl ?_
            refine g_V0 d_X9_seen_73 cs_X9_seen_X2_howManySeen lk_RX9_272 im_X2_howManySeen se_X2_howManySeen rfl rfl rfl (Nat.le_of_ble_eq_true rfl) ⟨rfl, rfl⟩ ⟨Nat.zero_le _, Nat.zero_le _⟩ (ct_X2_howManySeen  I12 J ) (fun r73 S73 Ic15 Jc16 q73_13 => ?_)
            obtain ⟨rfl, rfl, rfl, r19, rfl, hf73_17, hr73_19⟩ := q73_13
            replace hF := fe_b3 hF hf73_17
            refine g_st (st' := [.int r19]) rfl ?_
            have hcn := hr73_19
            exact g_ireturn d_X9_seen_76 rfl rfl rfl rfl ⟨rfl, trivial, r19, rfl, hF, (Or.inr (Or.inr ⟨by grind, by grind, by grind, by rw [hcn, xt_58 hK13], hK13⟩))⟩
          · skip
            replace hF := fe_neg hF h33
            refine g_ldc (v := -1000000002) d_X9_seen_36 tw_396 ?_
            exact g_ireturn d_X9_seen_38 rfl rfl rfl rfl ⟨rfl, trivial, (-1000000002 : Int32), rfl, hF, (Or.inr (Or.inl ⟨by grind, by grind, by grind, rfl, hK0⟩))⟩
  · skip
    replace hF := fe_pos hF h4
    refine g_ldc (v := -1000000001) d_X9_seen_7 tw_576 ?_
    exact g_ireturn d_X9_seen_9 rfl rfl rfl rfl ⟨rfl, trivial, (-1000000001 : Int32), rfl, hF, (Or.inl ⟨by grind, rfl, hK0⟩)⟩
noncomputable def fn_X9_prior (k : Int32) (p : Int32) (I : Iv) (J : Jv) : Int32 × Iv × Jv :=
  b_n3 (fn_X9_isTrouble k I J) (fun (r6 : Int32) (_ : Iv) (_ : Jv) => if r6 = 0 then ((-1000000001 : Int32), I, J) else if p < 0 then ((-1000000002 : Int32), I, J) else if p ≤ (1000 : Int32) then l_t ((I 61 k.toNatClampNeg)) (fun (v8 : Int32) => l_t (wI I 61 (k.toNatClampNeg) p) (fun (I9 : Iv) => (v8, I9, J))) else ((-1000000002 : Int32), I, J))
set_option maxRecDepth 100000 in
set_option maxHeartbeats 4000000 in
theorem ct_X9_prior (k : Int32) (p : Int32) (I : Iv) (J : Jv)  : Ct m_X9_prior [.ref 0, .int k, .int p] SHF I J (fun r S' I' J' => S' = SHF ∧ True ∧ ∃ v : Int32, r = some (.int v) ∧ fn_X9_prior k p I J = (v, I', J') ∧ ((0 ≤ k ∧ k ≤ 6 ∧ 0 ≤ p ∧ p ≤ 1000 ∧ v = I 61 k.toNatClampNeg ∧ XT I' J' = XT (wI I 61 k.toNatClampNeg p) J) ∨ (¬ (0 ≤ k ∧ k ≤ 6) ∧ v = -1000000001 ∧ XT I' J' = XT I J) ∨ (0 ≤ k ∧ k ≤ 6 ∧ ¬ (0 ≤ p ∧ p ≤ 1000) ∧ v = -1000000002 ∧ XT I' J' = XT I J))) := by
  refine ct_of 1 (by decide +kernel) rfl rfl ?_
  have hK0 : XT I J = XT I J := rfl
  have hF := fe_of (fn_X9_prior.eq_1 k p I J)
  refine g_iload_n d_X9_prior_0 rfl ?_
  refine g_S1 d_X9_prior_1 cs_X9_prior_X9_isTrouble lk_RX9_275 im_X9_isTrouble (Nat.le_of_ble_eq_true rfl) ⟨rfl, rfl⟩ ⟨Nat.zero_le _, Nat.zero_le _⟩ (ct_X9_isTrouble k I J ) (fun r1 S1 Ic2 Jc3 q1_0 => ?_)
  obtain ⟨rfl, rfl, rfl, r6, rfl, hz1, hf1_4, hr1_6⟩ := q1_0
  replace hF := fe_b3 hF hf1_4
  refine g_st (st' := [.int r6]) rfl ?_
  refine g_if_ne d_X9_prior_4 (fun h4 => ?_) (fun h4 => ?_)
  · skip
    replace hF := fe_neg hF h4
    refine g_iload_n d_X9_prior_10 rfl ?_
    refine g_if_lt d_X9_prior_11 (fun h11 => ?_) (fun h11 => ?_)
    · skip
      replace hF := fe_pos hF h11
      refine g_ldc (v := -1000000002) d_X9_prior_21 tw_396 ?_
      exact g_ireturn d_X9_prior_23 rfl rfl rfl rfl ⟨rfl, trivial, (-1000000002 : Int32), rfl, hF, by grind⟩
    · skip
      replace hF := fe_neg hF h11
      refine g_iload_n d_X9_prior_14 rfl ?_
      refine g_sipush (v := 1000) d_X9_prior_15 kS_1000 ?_
      refine g_icmp_le d_X9_prior_18 (fun h18 => ?_) (fun h18 => ?_)
      · skip
        replace hF := fe_pos hF h18
        refine g_aload_n d_X9_prior_24 rfl ?_
        refine g_getR d_X9_prior_25 fq_RX9_73 rfl rfl ?_
        refine g_getR d_X9_prior_28 fq_RX9_278 rfl rfl ?_
        refine g_iload_n d_X9_prior_31 rfl ?_
        refine g_iaload (N := 7) d_X9_prior_32 rfl kT_7 (by constructor <;> grind) rfl ?_
        refine g_topI (fun v8 ev8 => ?_)
        replace hF := fe_lt hF ev8
        refine g_istore_n (L' := [some (.ref 0), some (.int k), some (.int p), some (.int v8)]) d_X9_prior_33 (by decide) rfl ?_
        refine g_aload_n d_X9_prior_34 rfl ?_
        refine g_getR d_X9_prior_35 fq_RX9_73 rfl rfl ?_
        refine g_getR d_X9_prior_38 fq_RX9_278 rfl rfl ?_
        refine g_iload_n d_X9_prior_41 rfl ?_
        refine g_iload_n d_X9_prior_42 rfl ?_
        refine g_iastore (N := 7) d_X9_prior_43 rfl kT_7 (by constructor <;> grind) rfl  ?_
        refine g_nmI (fun I9 eI9 => ?_)
        replace hF := fe_lt hF eI9
        have hK10 : XT I9 J = XT (wI I 61 k.toNatClampNeg p) J := ((congrArg (fun q => XT q _) eI9).trans (xt_cong hK0))
        refine g_iload_n d_X9_prior_44 rfl ?_
        exact g_ireturn d_X9_prior_45 rfl rfl rfl rfl ⟨rfl, trivial, v8, rfl, hF, by grind⟩
      · skip
        replace hF := fe_neg hF h18
        refine g_ldc (v := -1000000002) d_X9_prior_21 tw_396 ?_
        exact g_ireturn d_X9_prior_23 rfl rfl rfl rfl ⟨rfl, trivial, (-1000000002 : Int32), rfl, hF, by grind⟩
  · skip
    replace hF := fe_pos hF h4
    refine g_ldc (v := -1000000001) d_X9_prior_7 tw_576 ?_
    exact g_ireturn d_X9_prior_9 rfl rfl rfl rfl ⟨rfl, trivial, (-1000000001 : Int32), rfl, hF, by grind⟩
noncomputable def fn_X9_bother (what : Int32) (b : Int32) (I : Iv) (J : Jv) : Int32 × Iv × Jv :=
  b_n3 (fn_X9_isSign what I J) (fun (r6 : Int32) (_ : Iv) (_ : Jv) => if r6 = 0 then ((-1000000001 : Int32), I, J) else if b < 0 then ((-1000000002 : Int32), I, J) else if b ≤ (999 : Int32) then l_t ((I 62 what.toNatClampNeg)) (fun (v8 : Int32) => l_t (wI I 62 (what.toNatClampNeg) b) (fun (I9 : Iv) => (v8, I9, J))) else ((-1000000002 : Int32), I, J))
set_option maxRecDepth 100000 in
set_option maxHeartbeats 4000000 in
theorem ct_X9_bother (what : Int32) (b : Int32) (I : Iv) (J : Jv)  : Ct m_X9_bother [.ref 0, .int what, .int b] SHF I J (fun r S' I' J' => S' = SHF ∧ True ∧ ∃ v : Int32, r = some (.int v) ∧ fn_X9_bother what b I J = (v, I', J') ∧ ((0 ≤ what ∧ what ≤ 6 ∧ 0 ≤ b ∧ b ≤ 999 ∧ v = I 62 what.toNatClampNeg ∧ XT I' J' = XT (wI I 62 what.toNatClampNeg b) J) ∨ (¬ (0 ≤ what ∧ what ≤ 6) ∧ v = -1000000001 ∧ XT I' J' = XT I J) ∨ (0 ≤ what ∧ what ≤ 6 ∧ ¬ (0 ≤ b ∧ b ≤ 999) ∧ v = -1000000002 ∧ XT I' J' = XT I J))) := by
  refine ct_of 1 (by decide +kernel) rfl rfl ?_
  have hK0 : XT I J = XT I J := rfl
  have hF := fe_of (fn_X9_bother.eq_1 what b I J)
  refine g_iload_n d_X9_bother_0 rfl ?_
  refine g_S1 d_X9_bother_1 cs_X9_bother_X9_isSign lk_RX9_247 im_X9_isSign (Nat.le_of_ble_eq_true rfl) ⟨rfl, rfl⟩ ⟨Nat.zero_le _, Nat.zero_le _⟩ (ct_X9_isSign what I J ) (fun r1 S1 Ic2 Jc3 q1_0 => ?_)
  obtain ⟨rfl, rfl, rfl, r6, rfl, hz1, hf1_4, hr1_6⟩ := q1_0
  replace hF := fe_b3 hF hf1_4
  refine g_st (st' := [.int r6]) rfl ?_
  refine g_if_ne d_X9_bother_4 (fun h4 => ?_) (fun h4 => ?_)
  · skip
    replace hF := fe_neg hF h4
    refine g_iload_n d_X9_bother_10 rfl ?_
    refine g_if_lt d_X9_bother_11 (fun h11 => ?_) (fun h11 => ?_)
    · skip
      replace hF := fe_pos hF h11
      refine g_ldc (v := -1000000002) d_X9_bother_21 tw_396 ?_
      exact g_ireturn d_X9_bother_23 rfl rfl rfl rfl ⟨rfl, trivial, (-1000000002 : Int32), rfl, hF, by grind⟩
    · skip
      replace hF := fe_neg hF h11
      refine g_iload_n d_X9_bother_14 rfl ?_
      refine g_sipush (v := 999) d_X9_bother_15 kS_999 ?_
      refine g_icmp_le d_X9_bother_18 (fun h18 => ?_) (fun h18 => ?_)
      · skip
        replace hF := fe_pos hF h18
        refine g_aload_n d_X9_bother_24 rfl ?_
        refine g_getR d_X9_bother_25 fq_RX9_73 rfl rfl ?_
        refine g_getR d_X9_bother_28 fq_RX9_281 rfl rfl ?_
        refine g_iload_n d_X9_bother_31 rfl ?_
        refine g_iaload (N := 7) d_X9_bother_32 rfl kT_7 (by constructor <;> grind) rfl ?_
        refine g_topI (fun v8 ev8 => ?_)
        replace hF := fe_lt hF ev8
        refine g_istore_n (L' := [some (.ref 0), some (.int what), some (.int b), some (.int v8)]) d_X9_bother_33 (by decide) rfl ?_
        refine g_aload_n d_X9_bother_34 rfl ?_
        refine g_getR d_X9_bother_35 fq_RX9_73 rfl rfl ?_
        refine g_getR d_X9_bother_38 fq_RX9_281 rfl rfl ?_
        refine g_iload_n d_X9_bother_41 rfl ?_
        refine g_iload_n d_X9_bother_42 rfl ?_
        refine g_iastore (N := 7) d_X9_bother_43 rfl kT_7 (by constructor <;> grind) rfl  ?_
        refine g_nmI (fun I9 eI9 => ?_)
        replace hF := fe_lt hF eI9
        have hK10 : XT I9 J = XT (wI I 62 what.toNatClampNeg b) J := ((congrArg (fun q => XT q _) eI9).trans (xt_cong hK0))
        refine g_iload_n d_X9_bother_44 rfl ?_
        exact g_ireturn d_X9_bother_45 rfl rfl rfl rfl ⟨rfl, trivial, v8, rfl, hF, by grind⟩
      · skip
        replace hF := fe_neg hF h18
        refine g_ldc (v := -1000000002) d_X9_bother_21 tw_396 ?_
        exact g_ireturn d_X9_bother_23 rfl rfl rfl rfl ⟨rfl, trivial, (-1000000002 : Int32), rfl, hF, by grind⟩
  · skip
    replace hF := fe_pos hF h4
    refine g_ldc (v := -1000000001) d_X9_bother_7 tw_576 ?_
    exact g_ireturn d_X9_bother_9 rfl rfl rfl rfl ⟨rfl, trivial, (-1000000001 : Int32), rfl, hF, by grind⟩
noncomputable def fn_X9_mending (k : Int32) (c : Int32) (I : Iv) (J : Jv) : Int32 × Iv × Jv :=
  b_n3 (fn_X9_isTrouble k I J) (fun (r6 : Int32) (_ : Iv) (_ : Jv) => if r6 = 0 then ((-1000000001 : Int32), I, J) else if c < 0 then ((-1000000002 : Int32), I, J) else if c ≤ (999 : Int32) then l_t ((I 66 k.toNatClampNeg)) (fun (v8 : Int32) => l_t (wI I 66 (k.toNatClampNeg) c) (fun (I9 : Iv) => (v8, I9, J))) else ((-1000000002 : Int32), I, J))
set_option maxRecDepth 100000 in
set_option maxHeartbeats 4000000 in
theorem ct_X9_mending (k : Int32) (c : Int32) (I : Iv) (J : Jv)  : Ct m_X9_mending [.ref 0, .int k, .int c] SHF I J (fun r S' I' J' => S' = SHF ∧ True ∧ ∃ v : Int32, r = some (.int v) ∧ fn_X9_mending k c I J = (v, I', J') ∧ ((0 ≤ k ∧ k ≤ 6 ∧ 0 ≤ c ∧ c ≤ 999 ∧ v = I 66 k.toNatClampNeg ∧ XT I' J' = XT (wI I 66 k.toNatClampNeg c) J) ∨ (¬ (0 ≤ k ∧ k ≤ 6) ∧ v = -1000000001 ∧ XT I' J' = XT I J) ∨ (0 ≤ k ∧ k ≤ 6 ∧ ¬ (0 ≤ c ∧ c ≤ 999) ∧ v = -1000000002 ∧ XT I' J' = XT I J))) := by
  refine ct_of 1 (by decide +kernel) rfl rfl ?_
  have hK0 : XT I J = XT I J := rfl
  have hF := fe_of (fn_X9_mending.eq_1 k c I J)
  refine g_iload_n d_X9_mending_0 rfl ?_
  refine g_S1 d_X9_mending_1 cs_X9_mending_X9_isTrouble lk_RX9_275 im_X9_isTrouble (Nat.le_of_ble_eq_true rfl) ⟨rfl, rfl⟩ ⟨Nat.zero_le _, Nat.zero_le _⟩ (ct_X9_isTrouble k I J ) (fun r1 S1 Ic2 Jc3 q1_0 => ?_)
  obtain ⟨rfl, rfl, rfl, r6, rfl, hz1, hf1_4, hr1_6⟩ := q1_0
  replace hF := fe_b3 hF hf1_4
  refine g_st (st' := [.int r6]) rfl ?_
  refine g_if_ne d_X9_mending_4 (fun h4 => ?_) (fun h4 => ?_)
  · skip
    replace hF := fe_neg hF h4
    refine g_iload_n d_X9_mending_10 rfl ?_
    refine g_if_lt d_X9_mending_11 (fun h11 => ?_) (fun h11 => ?_)
    · skip
      replace hF := fe_pos hF h11
      refine g_ldc (v := -1000000002) d_X9_mending_21 tw_396 ?_
      exact g_ireturn d_X9_mending_23 rfl rfl rfl rfl ⟨rfl, trivial, (-1000000002 : Int32), rfl, hF, by grind⟩
    · skip
      replace hF := fe_neg hF h11
      refine g_iload_n d_X9_mending_14 rfl ?_
      refine g_sipush (v := 999) d_X9_mending_15 kS_999 ?_
      refine g_icmp_le d_X9_mending_18 (fun h18 => ?_) (fun h18 => ?_)
      · skip
        replace hF := fe_pos hF h18
        refine g_aload_n d_X9_mending_24 rfl ?_
        refine g_getR d_X9_mending_25 fq_RX9_80 rfl rfl ?_
        refine g_getR d_X9_mending_28 fq_RX9_308 rfl rfl ?_
        refine g_iload_n d_X9_mending_31 rfl ?_
        refine g_iaload (N := 7) d_X9_mending_32 rfl kT_7 (by constructor <;> grind) rfl ?_
        refine g_topI (fun v8 ev8 => ?_)
        replace hF := fe_lt hF ev8
        refine g_istore_n (L' := [some (.ref 0), some (.int k), some (.int c), some (.int v8)]) d_X9_mending_33 (by decide) rfl ?_
        refine g_aload_n d_X9_mending_34 rfl ?_
        refine g_getR d_X9_mending_35 fq_RX9_80 rfl rfl ?_
        refine g_getR d_X9_mending_38 fq_RX9_308 rfl rfl ?_
        refine g_iload_n d_X9_mending_41 rfl ?_
        refine g_iload_n d_X9_mending_42 rfl ?_
        refine g_iastore (N := 7) d_X9_mending_43 rfl kT_7 (by constructor <;> grind) rfl  ?_
        refine g_nmI (fun I9 eI9 => ?_)
        replace hF := fe_lt hF eI9
        have hK10 : XT I9 J = XT (wI I 66 k.toNatClampNeg c) J := ((congrArg (fun q => XT q _) eI9).trans (xt_cong hK0))
        refine g_iload_n d_X9_mending_44 rfl ?_
        exact g_ireturn d_X9_mending_45 rfl rfl rfl rfl ⟨rfl, trivial, v8, rfl, hF, by grind⟩
      · skip
        replace hF := fe_neg hF h18
        refine g_ldc (v := -1000000002) d_X9_mending_21 tw_396 ?_
        exact g_ireturn d_X9_mending_23 rfl rfl rfl rfl ⟨rfl, trivial, (-1000000002 : Int32), rfl, hF, by grind⟩
  · skip
    replace hF := fe_pos hF h4
    refine g_ldc (v := -1000000001) d_X9_mending_7 tw_576 ?_
    exact g_ireturn d_X9_mending_9 rfl rfl rfl rfl ⟨rfl, trivial, (-1000000001 : Int32), rfl, hF, by grind⟩
noncomputable def fn_X9_price (x : Int32) (I : Iv) (J : Jv) : Int32 × Iv × Jv :=
  b_n3 (fn_X9_isPrice x I J) (fun (r6 : Int32) (_ : Iv) (_ : Jv) => if r6 = 0 then ((-1000000002 : Int32), I, J) else l_t ((I 65 2)) (fun (v8 : Int32) => l_t (wI I 65 2 x) (fun (I9 : Iv) => (v8, I9, J))))
set_option maxRecDepth 100000 in
set_option maxHeartbeats 4000000 in
theorem ct_X9_price (x : Int32) (I : Iv) (J : Jv)  : Ct m_X9_price [.ref 0, .int x] SHF I J (fun r S' I' J' => S' = SHF ∧ True ∧ ∃ v : Int32, r = some (.int v) ∧ fn_X9_price x I J = (v, I', J') ∧ ((0 ≤ x ∧ x ≤ 999 ∧ v = I 65 2 ∧ XT I' J' = XT (wI I 65 2 x) J) ∨ (¬ (0 ≤ x ∧ x ≤ 999) ∧ v = -1000000002 ∧ XT I' J' = XT I J))) := by
  refine ct_of 1 (by decide +kernel) rfl rfl ?_
  have hK0 : XT I J = XT I J := rfl
  have hF := fe_of (fn_X9_price.eq_1 x I J)
  refine g_iload_n d_X9_price_0 rfl ?_
  refine g_S1 d_X9_price_1 cs_X9_price_X9_isPrice lk_RX9_311 im_X9_isPrice (Nat.le_of_ble_eq_true rfl) ⟨rfl, rfl⟩ ⟨Nat.zero_le _, Nat.zero_le _⟩ (ct_X9_isPrice x I J ) (fun r1 S1 Ic2 Jc3 q1_0 => ?_)
  obtain ⟨rfl, rfl, rfl, r6, rfl, hz1, hf1_4, hr1_6⟩ := q1_0
  replace hF := fe_b3 hF hf1_4
  refine g_st (st' := [.int r6]) rfl ?_
  refine g_if_ne d_X9_price_4 (fun h4 => ?_) (fun h4 => ?_)
  · skip
    replace hF := fe_neg hF h4
    refine g_aload_n d_X9_price_10 rfl ?_
    refine g_getR d_X9_price_11 fq_RX9_80 rfl rfl ?_
    refine g_getI d_X9_price_14 fq_RX9_314 rfl rfl ?_
    refine g_topI (fun v8 ev8 => ?_)
    replace hF := fe_lt hF ev8
    refine g_istore_n (L' := [some (.ref 0), some (.int x), some (.int v8)]) d_X9_price_17 (by decide) rfl ?_
    refine g_aload_n d_X9_price_18 rfl ?_
    refine g_getR d_X9_price_19 fq_RX9_80 rfl rfl ?_
    refine g_iload_n d_X9_price_22 rfl ?_
    refine g_putI d_X9_price_23 fq_RX9_314 rfl rfl ?_
    refine g_nmI (fun I9 eI9 => ?_)
    replace hF := fe_lt hF eI9
    have hK10 : XT I9 J = XT (wI I 65 2 x) J := ((congrArg (fun q => XT q _) eI9).trans (xt_cong hK0))
    refine g_iload_n d_X9_price_26 rfl ?_
    exact g_ireturn d_X9_price_27 rfl rfl rfl rfl ⟨rfl, trivial, v8, rfl, hF, by grind⟩
  · skip
    replace hF := fe_pos hF h4
    refine g_ldc (v := -1000000002) d_X9_price_7 tw_396 ?_
    exact g_ireturn d_X9_price_9 rfl rfl rfl rfl ⟨rfl, trivial, (-1000000002 : Int32), rfl, hF, by grind⟩
noncomputable def fn_X9_odds (set : Int32) (n : Int32) (I : Iv) (J : Jv) : Int32 × Iv × Jv :=
  b_n3 (fn_X9_isSet set I J) (fun (r6 : Int32) (_ : Iv) (_ : Jv) => if r6 = 0 then ((-1000000001 : Int32), I, J) else b_n3 (fn_J6_bitCount_0f7a4 set I J) (fun (r13 : Int32) (_ : Iv) (_ : Jv) => if r13 ≤ (2 : Int32) then b_n3 (fn_X9_areSignDays n I J) (fun (r20 : Int32) (_ : Iv) (_ : Jv) => if r20 = 0 then ((-1000000002 : Int32), I, J) else b_n2 (fn_X1_learnCouldBe n I J) (fun (I22 : Iv) (J23 : Jv) => b_n3 (fn_X2_oddsOf set n I22 J23) (fun (r34 : Int32) (I29 : Iv) (J30 : Jv) => (r34, I29, J30)))) else ((-1000000001 : Int32), I, J)))
set_option maxRecDepth 100000 in
set_option maxHeartbeats 4000000 in
theorem ct_X9_odds (set : Int32) (n : Int32) (I : Iv) (J : Jv) (hpri : PRI I) : Ct m_X9_odds [.ref 0, .int set, .int n] SHF I J (fun r S' I' J' => S' = SHF ∧ XT I' J' = XT I J ∧ ∃ v : Int32, r = some (.int v) ∧ fn_X9_odds set n I J = (v, I', J')) := by
  refine ct_of 0 (by decide +kernel) rfl rfl ?_
  have hK0 : XT I J = XT I J := rfl
  have hF := fe_of (fn_X9_odds.eq_1 set n I J)
  refine g_iload_n d_X9_odds_0 rfl ?_
  refine g_S1 d_X9_odds_1 cs_X9_odds_X9_isSet lk_RX9_151 im_X9_isSet (Nat.le_of_ble_eq_true rfl) ⟨rfl, rfl⟩ ⟨Nat.zero_le _, Nat.zero_le _⟩ (ct_X9_isSet set I J ) (fun r1 S1 Ic2 Jc3 q1_0 => ?_)
  obtain ⟨rfl, rfl, rfl, r6, rfl, hz1, hf1_4, hr1_6⟩ := q1_0
  replace hF := fe_b3 hF hf1_4
  refine g_st (st' := [.int r6]) rfl ?_
  refine g_if_eq d_X9_odds_4 (fun h4 => ?_) (fun h4 => ?_)
  · skip
    replace hF := fe_pos hF h4
    refine g_ldc (v := -1000000001) d_X9_odds_15 tw_576 ?_
    exact g_ireturn d_X9_odds_17 rfl rfl rfl rfl ⟨rfl, hK0, (-1000000001 : Int32), rfl, hF⟩
  · skip
    replace hF := fe_neg hF h4
    refine g_iload_n d_X9_odds_7 rfl ?_
    refine g_S1 d_X9_odds_8 cs_X9_odds_J6_bitCount_0f7a4 lk_RX9_284 im_J6_bitCount_0f7a4 (Nat.le_of_ble_eq_true rfl) ⟨rfl, rfl⟩ ⟨Nat.zero_le _, Nat.zero_le _⟩ (ct_J6_bitCount_0f7a4 set I J ) (fun r8 S8 Ic9 Jc10 q8_7 => ?_)
    obtain ⟨rfl, rfl, rfl, r13, rfl, hf8_11⟩ := q8_7
    replace hF := fe_b3 hF hf8_11
    refine g_st (st' := [.int r13]) rfl ?_
    refine g_iconst (v := 2) d_X9_odds_11 kI_2 ?_
    refine g_icmp_le d_X9_odds_12 (fun h12 => ?_) (fun h12 => ?_)
    · skip
      replace hF := fe_pos hF h12
      refine g_iload_n d_X9_odds_18 rfl ?_
      refine g_S1 d_X9_odds_19 cs_X9_odds_X9_areSignDays lk_RX9_250 im_X9_areSignDays (Nat.le_of_ble_eq_true rfl) ⟨rfl, rfl⟩ ⟨Nat.zero_le _, Nat.zero_le _⟩ (ct_X9_areSignDays n I J ) (fun r19 S19 Ic16 Jc17 q19_14 => ?_)
      obtain ⟨rfl, rfl, rfl, r20, rfl, hz19, hf19_18, hr19_20⟩ := q19_14
      replace hF := fe_b3 hF hf19_18
      refine g_st (st' := [.int r20]) rfl ?_
      refine g_if_ne d_X9_odds_22 (fun h22 => ?_) (fun h22 => ?_)
      · skip
        replace hF := fe_neg hF h22
        refine g_aload_n d_X9_odds_28 rfl ?_
        refine g_getR d_X9_odds_29 fq_RX9_64 rfl rfl ?_
        refine g_iload_n d_X9_odds_32 rfl ?_
        refine g_V1 d_X9_odds_33 cs_X9_odds_X1_learnCouldBe lk_RX9_289 im_X1_learnCouldBe se_X1_learnCouldBe rfl rfl rfl (Nat.le_of_ble_eq_true rfl) ⟨rfl, rfl⟩ ⟨Nat.zero_le _, Nat.zero_le _⟩ (ct_X1_learnCouldBe n I J ) (fun r33 S33 I22 J23 q33_23 => ?_)
        obtain ⟨rfl, hc33_24, rfl, hf33_25⟩ := q33_23
        replace hF := fe_b2 hF hf33_25
        refine g_st (st' := []) rfl ?_
        have hK28 : XT I22 J23 = XT I J := hc33_24.trans hK0
        refine g_aload_n d_X9_odds_36 rfl ?_
        refine g_getR d_X9_odds_37 fq_RX9_73 rfl rfl ?_
        refine g_iload_n d_X9_odds_40 rfl ?_
        refine g_iload_n d_X9_odds_41 rfl ?_
        refine g_V2 d_X9_odds_42 cs_X9_odds_X2_oddsOf lk_RX9_292 im_X2_oddsOf se_X2_oddsOf rfl rfl rfl (Nat.le_of_ble_eq_true rfl) ⟨rfl, rfl⟩ ⟨Nat.zero_le _, Nat.zero_le _⟩ (ct_X2_oddsOf set n I22 J23 (pri_of hK28 hpri)) (fun r42 S42 I29 J30 q42_30 => ?_)
        obtain ⟨rfl, hc42_31, r34, rfl, hf42_32⟩ := q42_30
        replace hF := fe_b3 hF hf42_32
        refine g_st (st' := [.int r34]) rfl ?_
        have hK36 : XT I29 J30 = XT I J := hc42_31.trans hK28
        exact g_ireturn d_X9_odds_45 rfl rfl rfl rfl ⟨rfl, hK36, r34, rfl, hF⟩
      · skip
        replace hF := fe_pos hF h22
        refine g_ldc (v := -1000000002) d_X9_odds_25 tw_396 ?_
        exact g_ireturn d_X9_odds_27 rfl rfl rfl rfl ⟨rfl, hK0, (-1000000002 : Int32), rfl, hF⟩
    · skip
      replace hF := fe_neg hF h12
      refine g_ldc (v := -1000000001) d_X9_odds_15 tw_576 ?_
      exact g_ireturn d_X9_odds_17 rfl rfl rfl rfl ⟨rfl, hK0, (-1000000001 : Int32), rfl, hF⟩
noncomputable def fn_X9_each (k : Int32) (n : Int32) (I : Iv) (J : Jv) : Int32 × Iv × Jv :=
  b_n3 (fn_X9_isTrouble k I J) (fun (r6 : Int32) (_ : Iv) (_ : Jv) => if r6 = 0 then ((-1000000001 : Int32), I, J) else b_n3 (fn_X9_areSignDays n I J) (fun (r13 : Int32) (_ : Iv) (_ : Jv) => if r13 = 0 then ((-1000000002 : Int32), I, J) else b_n2 (fn_X1_learnCouldBe n I J) (fun (I15 : Iv) (J16 : Jv) => b_n3 (fn_X2_oddsWith k n I15 J16) (fun (r27 : Int32) (I22 : Iv) (J23 : Jv) => (r27, I22, J23)))))
set_option maxRecDepth 100000 in
set_option maxHeartbeats 4000000 in
theorem ct_X9_each (k : Int32) (n : Int32) (I : Iv) (J : Jv) (hpri : PRI I) : Ct m_X9_each [.ref 0, .int k, .int n] SHF I J (fun r S' I' J' => S' = SHF ∧ XT I' J' = XT I J ∧ ∃ v : Int32, r = some (.int v) ∧ fn_X9_each k n I J = (v, I', J')) := by
  refine ct_of 0 (by decide +kernel) rfl rfl ?_
  have hK0 : XT I J = XT I J := rfl
  have hF := fe_of (fn_X9_each.eq_1 k n I J)
  refine g_iload_n d_X9_each_0 rfl ?_
  refine g_S1 d_X9_each_1 cs_X9_each_X9_isTrouble lk_RX9_275 im_X9_isTrouble (Nat.le_of_ble_eq_true rfl) ⟨rfl, rfl⟩ ⟨Nat.zero_le _, Nat.zero_le _⟩ (ct_X9_isTrouble k I J ) (fun r1 S1 Ic2 Jc3 q1_0 => ?_)
  obtain ⟨rfl, rfl, rfl, r6, rfl, hz1, hf1_4, hr1_6⟩ := q1_0
  replace hF := fe_b3 hF hf1_4
  refine g_st (st' := [.int r6]) rfl ?_
  refine g_if_ne d_X9_each_4 (fun h4 => ?_) (fun h4 => ?_)
  · skip
    replace hF := fe_neg hF h4
    refine g_iload_n d_X9_each_10 rfl ?_
    refine g_S1 d_X9_each_11 cs_X9_each_X9_areSignDays lk_RX9_250 im_X9_areSignDays (Nat.le_of_ble_eq_true rfl) ⟨rfl, rfl⟩ ⟨Nat.zero_le _, Nat.zero_le _⟩ (ct_X9_areSignDays n I J ) (fun r11 S11 Ic9 Jc10 q11_7 => ?_)
    obtain ⟨rfl, rfl, rfl, r13, rfl, hz11, hf11_11, hr11_13⟩ := q11_7
    replace hF := fe_b3 hF hf11_11
    refine g_st (st' := [.int r13]) rfl ?_
    refine g_if_ne d_X9_each_14 (fun h14 => ?_) (fun h14 => ?_)
    · skip
      replace hF := fe_neg hF h14
      refine g_aload_n d_X9_each_20 rfl ?_
      refine g_getR d_X9_each_21 fq_RX9_64 rfl rfl ?_
      refine g_iload_n d_X9_each_24 rfl ?_
      refine g_V1 d_X9_each_25 cs_X9_each_X1_learnCouldBe lk_RX9_289 im_X1_learnCouldBe se_X1_learnCouldBe rfl rfl rfl (Nat.le_of_ble_eq_true rfl) ⟨rfl, rfl⟩ ⟨Nat.zero_le _, Nat.zero_le _⟩ (ct_X1_learnCouldBe n I J ) (fun r25 S25 I15 J16 q25_16 => ?_)
      obtain ⟨rfl, hc25_17, rfl, hf25_18⟩ := q25_16
      replace hF := fe_b2 hF hf25_18
      refine g_st (st' := []) rfl ?_
      have hK21 : XT I15 J16 = XT I J := hc25_17.trans hK0
      refine g_aload_n d_X9_each_28 rfl ?_
      refine g_getR d_X9_each_29 fq_RX9_73 rfl rfl ?_
      refine g_iload_n d_X9_each_32 rfl ?_
      refine g_iload_n d_X9_each_33 rfl ?_
      refine g_V2 d_X9_each_34 cs_X9_each_X2_oddsWith lk_RX9_295 im_X2_oddsWith se_X2_oddsWith rfl rfl rfl (Nat.le_of_ble_eq_true rfl) ⟨rfl, rfl⟩ ⟨Nat.zero_le _, Nat.zero_le _⟩ (ct_X2_oddsWith k n I15 J16 (pri_of hK21 hpri)) (fun r34 S34 I22 J23 q34_23 => ?_)
      obtain ⟨rfl, hc34_24, r27, rfl, hf34_25⟩ := q34_23
      replace hF := fe_b3 hF hf34_25
      refine g_st (st' := [.int r27]) rfl ?_
      have hK29 : XT I22 J23 = XT I J := hc34_24.trans hK21
      exact g_ireturn d_X9_each_37 rfl rfl rfl rfl ⟨rfl, hK29, r27, rfl, hF⟩
    · skip
      replace hF := fe_pos hF h14
      refine g_ldc (v := -1000000002) d_X9_each_17 tw_396 ?_
      exact g_ireturn d_X9_each_19 rfl rfl rfl rfl ⟨rfl, hK0, (-1000000002 : Int32), rfl, hF⟩
  · skip
    replace hF := fe_pos hF h4
    refine g_ldc (v := -1000000001) d_X9_each_7 tw_576 ?_
    exact g_ireturn d_X9_each_9 rfl rfl rfl rfl ⟨rfl, hK0, (-1000000001 : Int32), rfl, hF⟩
noncomputable def fn_X9_tells (what : Int32) (n : Int32) (I : Iv) (J : Jv) : Int32 × Iv × Jv :=
  b_n3 (fn_X9_isSign what I J) (fun (r6 : Int32) (_ : Iv) (_ : Jv) => if r6 = 0 then ((-1000000001 : Int32), I, J) else b_n3 (fn_X9_areSignDays n I J) (fun (r13 : Int32) (_ : Iv) (_ : Jv) => if r13 = 0 then ((-1000000002 : Int32), I, J) else b_n2 (fn_X1_learnCouldBe n I J) (fun (I15 : Iv) (J16 : Jv) => b_n3 (fn_X2_howMuchTells what n I15 J16) (fun (r27 : Int32) (I22 : Iv) (J23 : Jv) => (r27, I22, J23)))))
set_option maxRecDepth 100000 in
set_option maxHeartbeats 4000000 in
theorem ct_X9_tells (what : Int32) (n : Int32) (I : Iv) (J : Jv) (hpri : PRI I) : Ct m_X9_tells [.ref 0, .int what, .int n] SHF I J (fun r S' I' J' => S' = SHF ∧ XT I' J' = XT I J ∧ ∃ v : Int32, r = some (.int v) ∧ fn_X9_tells what n I J = (v, I', J')) := by
  refine ct_of 0 (by decide +kernel) rfl rfl ?_
  have hK0 : XT I J = XT I J := rfl
  have hF := fe_of (fn_X9_tells.eq_1 what n I J)
  refine g_iload_n d_X9_tells_0 rfl ?_
  refine g_S1 d_X9_tells_1 cs_X9_tells_X9_isSign lk_RX9_247 im_X9_isSign (Nat.le_of_ble_eq_true rfl) ⟨rfl, rfl⟩ ⟨Nat.zero_le _, Nat.zero_le _⟩ (ct_X9_isSign what I J ) (fun r1 S1 Ic2 Jc3 q1_0 => ?_)
  obtain ⟨rfl, rfl, rfl, r6, rfl, hz1, hf1_4, hr1_6⟩ := q1_0
  replace hF := fe_b3 hF hf1_4
  refine g_st (st' := [.int r6]) rfl ?_
  refine g_if_ne d_X9_tells_4 (fun h4 => ?_) (fun h4 => ?_)
  · skip
    replace hF := fe_neg hF h4
    refine g_iload_n d_X9_tells_10 rfl ?_
    refine g_S1 d_X9_tells_11 cs_X9_tells_X9_areSignDays lk_RX9_250 im_X9_areSignDays (Nat.le_of_ble_eq_true rfl) ⟨rfl, rfl⟩ ⟨Nat.zero_le _, Nat.zero_le _⟩ (ct_X9_areSignDays n I J ) (fun r11 S11 Ic9 Jc10 q11_7 => ?_)
    obtain ⟨rfl, rfl, rfl, r13, rfl, hz11, hf11_11, hr11_13⟩ := q11_7
    replace hF := fe_b3 hF hf11_11
    refine g_st (st' := [.int r13]) rfl ?_
    refine g_if_ne d_X9_tells_14 (fun h14 => ?_) (fun h14 => ?_)
    · skip
      replace hF := fe_neg hF h14
      refine g_aload_n d_X9_tells_20 rfl ?_
      refine g_getR d_X9_tells_21 fq_RX9_64 rfl rfl ?_
      refine g_iload_n d_X9_tells_24 rfl ?_
      refine g_V1 d_X9_tells_25 cs_X9_tells_X1_learnCouldBe lk_RX9_289 im_X1_learnCouldBe se_X1_learnCouldBe rfl rfl rfl (Nat.le_of_ble_eq_true rfl) ⟨rfl, rfl⟩ ⟨Nat.zero_le _, Nat.zero_le _⟩ (ct_X1_learnCouldBe n I J ) (fun r25 S25 I15 J16 q25_16 => ?_)
      obtain ⟨rfl, hc25_17, rfl, hf25_18⟩ := q25_16
      replace hF := fe_b2 hF hf25_18
      refine g_st (st' := []) rfl ?_
      have hK21 : XT I15 J16 = XT I J := hc25_17.trans hK0
      refine g_aload_n d_X9_tells_28 rfl ?_
      refine g_getR d_X9_tells_29 fq_RX9_73 rfl rfl ?_
      refine g_iload_n d_X9_tells_32 rfl ?_
      refine g_iload_n d_X9_tells_33 rfl ?_
      refine g_V2 d_X9_tells_34 cs_X9_tells_X2_howMuchTells lk_RX9_298 im_X2_howMuchTells se_X2_howMuchTells rfl rfl rfl (Nat.le_of_ble_eq_true rfl) ⟨rfl, rfl⟩ ⟨Nat.zero_le _, Nat.zero_le _⟩ (ct_X2_howMuchTells what n I15 J16 (pri_of hK21 hpri) (by grind)) (fun r34 S34 I22 J23 q34_23 => ?_)
      obtain ⟨rfl, hc34_24, r27, rfl, hf34_25⟩ := q34_23
      replace hF := fe_b3 hF hf34_25
      refine g_st (st' := [.int r27]) rfl ?_
      have hK29 : XT I22 J23 = XT I J := hc34_24.trans hK21
      exact g_ireturn d_X9_tells_37 rfl rfl rfl rfl ⟨rfl, hK29, r27, rfl, hF⟩
    · skip
      replace hF := fe_pos hF h14
      refine g_ldc (v := -1000000002) d_X9_tells_17 tw_396 ?_
      exact g_ireturn d_X9_tells_19 rfl rfl rfl rfl ⟨rfl, hK0, (-1000000002 : Int32), rfl, hF⟩
  · skip
    replace hF := fe_pos hF h4
    refine g_ldc (v := -1000000001) d_X9_tells_7 tw_576 ?_
    exact g_ireturn d_X9_tells_9 rfl rfl rfl rfl ⟨rfl, hK0, (-1000000001 : Int32), rfl, hF⟩
noncomputable def fn_X9_next (n : Int32) (I : Iv) (J : Jv) : Int32 × Iv × Jv :=
  b_n3 (fn_X9_areSignDays n I J) (fun (r6 : Int32) (_ : Iv) (_ : Jv) => if r6 = 0 then ((-1000000002 : Int32), I, J) else b_n2 (fn_X1_learnCouldBe n I J) (fun (I8 : Iv) (J9 : Jv) => b_n3 (fn_X2_nextSign n I8 J9) (fun (r20 : Int32) (I15 : Iv) (J16 : Jv) => (r20, I15, J16))))
set_option maxRecDepth 100000 in
set_option maxHeartbeats 4000000 in
theorem ct_X9_next (n : Int32) (I : Iv) (J : Jv) (hpri : PRI I) : Ct m_X9_next [.ref 0, .int n] SHF I J (fun r S' I' J' => S' = SHF ∧ XT I' J' = XT I J ∧ ∃ v : Int32, r = some (.int v) ∧ fn_X9_next n I J = (v, I', J')) := by
  refine ct_of 0 (by decide +kernel) rfl rfl ?_
  have hK0 : XT I J = XT I J := rfl
  have hF := fe_of (fn_X9_next.eq_1 n I J)
  refine g_iload_n d_X9_next_0 rfl ?_
  refine g_S1 d_X9_next_1 cs_X9_next_X9_areSignDays lk_RX9_250 im_X9_areSignDays (Nat.le_of_ble_eq_true rfl) ⟨rfl, rfl⟩ ⟨Nat.zero_le _, Nat.zero_le _⟩ (ct_X9_areSignDays n I J ) (fun r1 S1 Ic2 Jc3 q1_0 => ?_)
  obtain ⟨rfl, rfl, rfl, r6, rfl, hz1, hf1_4, hr1_6⟩ := q1_0
  replace hF := fe_b3 hF hf1_4
  refine g_st (st' := [.int r6]) rfl ?_
  refine g_if_ne d_X9_next_4 (fun h4 => ?_) (fun h4 => ?_)
  · skip
    replace hF := fe_neg hF h4
    refine g_aload_n d_X9_next_10 rfl ?_
    refine g_getR d_X9_next_11 fq_RX9_64 rfl rfl ?_
    refine g_iload_n d_X9_next_14 rfl ?_
    refine g_V1 d_X9_next_15 cs_X9_next_X1_learnCouldBe lk_RX9_289 im_X1_learnCouldBe se_X1_learnCouldBe rfl rfl rfl (Nat.le_of_ble_eq_true rfl) ⟨rfl, rfl⟩ ⟨Nat.zero_le _, Nat.zero_le _⟩ (ct_X1_learnCouldBe n I J ) (fun r15 S15 I8 J9 q15_9 => ?_)
    obtain ⟨rfl, hc15_10, rfl, hf15_11⟩ := q15_9
    replace hF := fe_b2 hF hf15_11
    refine g_st (st' := []) rfl ?_
    have hK14 : XT I8 J9 = XT I J := hc15_10.trans hK0
    refine g_aload_n d_X9_next_18 rfl ?_
    refine g_getR d_X9_next_19 fq_RX9_73 rfl rfl ?_
    refine g_iload_n d_X9_next_22 rfl ?_
    refine g_V1 d_X9_next_23 cs_X9_next_X2_nextSign lk_RX9_301 im_X2_nextSign se_X2_nextSign rfl rfl rfl (Nat.le_of_ble_eq_true rfl) ⟨rfl, rfl⟩ ⟨Nat.zero_le _, Nat.zero_le _⟩ (ct_X2_nextSign n I8 J9 (pri_of hK14 hpri)) (fun r23 S23 I15 J16 q23_16 => ?_)
    obtain ⟨rfl, hc23_17, r20, rfl, hf23_18⟩ := q23_16
    replace hF := fe_b3 hF hf23_18
    refine g_st (st' := [.int r20]) rfl ?_
    have hK22 : XT I15 J16 = XT I J := hc23_17.trans hK14
    exact g_ireturn d_X9_next_26 rfl rfl rfl rfl ⟨rfl, hK22, r20, rfl, hF⟩
  · skip
    replace hF := fe_pos hF h4
    refine g_ldc (v := -1000000002) d_X9_next_7 tw_396 ?_
    exact g_ireturn d_X9_next_9 rfl rfl rfl rfl ⟨rfl, hK0, (-1000000002 : Int32), rfl, hF⟩
noncomputable def fn_X9_makes (set : Int32) (what : Int32) (I : Iv) (J : Jv) : Int32 × Iv × Jv :=
  b_n3 (fn_X9_isSet set I J) (fun (r6 : Int32) (_ : Iv) (_ : Jv) => if r6 = 0 then ((-1000000001 : Int32), I, J) else if what < 0 then ((-1000000002 : Int32), I, J) else if what ≤ (1 : Int32) then j_n (fun (w8 : Int32) => b_n3 (fn_X1_firstDay set w8 (I 16 12) I J) (fun (r14 : Int32) (I9 : Iv) (J10 : Jv) => (r14, I9, J10))) (fun (j36_0 : Int32 → Int32 × Iv × Jv) => if what = 0 then j36_0 ((1 : Int32)) else j36_0 ((0 : Int32))) else ((-1000000002 : Int32), I, J))
set_option maxRecDepth 100000 in
set_option maxHeartbeats 4000000 in
theorem ct_X9_makes (set : Int32) (what : Int32) (I : Iv) (J : Jv)  : Ct m_X9_makes [.ref 0, .int set, .int what] SHF I J (fun r S' I' J' => S' = SHF ∧ XT I' J' = XT I J ∧ ∃ v : Int32, r = some (.int v) ∧ fn_X9_makes set what I J = (v, I', J')) := by
  refine ct_of 0 (by decide +kernel) rfl rfl ?_
  have hK0 : XT I J = XT I J := rfl
  have hF := fe_of (fn_X9_makes.eq_1 set what I J)
  refine g_iload_n d_X9_makes_0 rfl ?_
  refine g_S1 d_X9_makes_1 cs_X9_makes_X9_isSet lk_RX9_151 im_X9_isSet (Nat.le_of_ble_eq_true rfl) ⟨rfl, rfl⟩ ⟨Nat.zero_le _, Nat.zero_le _⟩ (ct_X9_isSet set I J ) (fun r1 S1 Ic2 Jc3 q1_0 => ?_)
  obtain ⟨rfl, rfl, rfl, r6, rfl, hz1, hf1_4, hr1_6⟩ := q1_0
  replace hF := fe_b3 hF hf1_4
  refine g_st (st' := [.int r6]) rfl ?_
  refine g_if_ne d_X9_makes_4 (fun h4 => ?_) (fun h4 => ?_)
  · skip
    replace hF := fe_neg hF h4
    refine g_iload_n d_X9_makes_10 rfl ?_
    refine g_if_lt d_X9_makes_11 (fun h11 => ?_) (fun h11 => ?_)
    · skip
      replace hF := fe_pos hF h11
      refine g_ldc (v := -1000000002) d_X9_makes_19 tw_396 ?_
      exact g_ireturn d_X9_makes_21 rfl rfl rfl rfl ⟨rfl, hK0, (-1000000002 : Int32), rfl, hF⟩
    · skip
      replace hF := fe_neg hF h11
      refine g_iload_n d_X9_makes_14 rfl ?_
      refine g_iconst (v := 1) d_X9_makes_15 kI_1 ?_
      refine g_icmp_le d_X9_makes_16 (fun h16 => ?_) (fun h16 => ?_)
      · skip
        replace hF := fe_pos hF h16
        refine g_aload_n d_X9_makes_22 rfl ?_
        refine g_getR d_X9_makes_23 fq_RX9_64 rfl rfl ?_
        refine g_iload_n d_X9_makes_26 rfl ?_
        refine g_iload_n d_X9_makes_27 rfl ?_
        obtain ⟨j36_0, hj36_0, hF⟩ := fe_jx hF
        have J_36 : ∀ (w8 : Int32), (w8 = 0 ∨ w8 = 1) → (FE (fn_X9_makes set what I J) (fun _ => j36_0 w8)) → G m_X9_makes (rq m_X9_makes (fun r S' I' J' => S' = SHF ∧ XT I' J' = XT I J ∧ ∃ v : Int32, r = some (.int v) ∧ fn_X9_makes set what I J = (v, I', J'))) 0 0 36 [some (.ref 0), some (.int set), some (.int what)] [.int w8, .int set, .ref 45] SHF I J := by
          intro w8 hw8 hF_j36_0
          have hF := fe_eq hF_j36_0 (congrFun hj36_0 w8)
          refine g_aload_n d_X9_makes_36 rfl ?_
          refine g_getR d_X9_makes_37 fq_RX9_42 rfl rfl ?_
          refine g_getZ d_X9_makes_40 fq_RX9_93 rfl rfl (fun hz40 => ?_)
          refine g_V3 d_X9_makes_43 cs_X9_makes_X1_firstDay lk_RX9_304 im_X1_firstDay se_X1_firstDay rfl rfl rfl (Nat.le_of_ble_eq_true rfl) ⟨rfl, rfl⟩ ⟨Nat.zero_le _, Nat.zero_le _⟩ (ct_X1_firstDay set w8 (I 16 12) I J (by grind)) (fun r43 S43 I9 J10 q43_10 => ?_)
          obtain ⟨rfl, hc43_11, r14, rfl, hf43_12⟩ := q43_10
          replace hF := fe_b3 hF hf43_12
          refine g_st (st' := [.int r14]) rfl ?_
          have hK16 : XT I9 J10 = XT I J := hc43_11.trans hK0
          exact g_ireturn d_X9_makes_46 rfl rfl rfl rfl ⟨rfl, hK16, r14, rfl, hF⟩
        refine g_if_ne d_X9_makes_28 (fun h28 => ?_) (fun h28 => ?_)
        · skip
          replace hF := fe_neg hF h28
          refine g_iconst (v := 0) d_X9_makes_35 kI_0 ?_
          exact J_36 ((0 : Int32)) (Or.inl rfl) hF
        · skip
          replace hF := fe_pos hF h28
          refine g_iconst (v := 1) d_X9_makes_31 kI_1 ?_
          refine g_goto d_X9_makes_32 ?_
          exact J_36 ((1 : Int32)) (Or.inr rfl) hF
      · skip
        replace hF := fe_neg hF h16
        refine g_ldc (v := -1000000002) d_X9_makes_19 tw_396 ?_
        exact g_ireturn d_X9_makes_21 rfl rfl rfl rfl ⟨rfl, hK0, (-1000000002 : Int32), rfl, hF⟩
  · skip
    replace hF := fe_pos hF h4
    refine g_ldc (v := -1000000001) d_X9_makes_7 tw_576 ?_
    exact g_ireturn d_X9_makes_9 rfl rfl rfl rfl ⟨rfl, hK0, (-1000000001 : Int32), rfl, hF⟩
noncomputable def fn_X9_year (set : Int32) (I : Iv) (J : Jv) : Int32 × Iv × Jv :=
  b_n3 (fn_X9_isSet set I J) (fun (r6 : Int32) (_ : Iv) (_ : Jv) => if r6 = 0 then ((-1000000001 : Int32), I, J) else b_n2 (fn_X1_learn set (2 : Int32) I J) (fun (I8 : Iv) (J9 : Jv) => b_n3 (fn_X4_yearOf set (I8 16 12) I8 J9) (fun (r20 : Int32) (_ : Iv) (_ : Jv) => (r20, I8, J9))))
set_option maxRecDepth 100000 in
set_option maxHeartbeats 4000000 in
theorem ct_X9_year (set : Int32) (I : Iv) (J : Jv)  : Ct m_X9_year [.ref 0, .int set] SHF I J (fun r S' I' J' => S' = SHF ∧ XT I' J' = XT I J ∧ ∃ v : Int32, r = some (.int v) ∧ fn_X9_year set I J = (v, I', J')) := by
  refine ct_of 0 (by decide +kernel) rfl rfl ?_
  have hK0 : XT I J = XT I J := rfl
  have hF := fe_of (fn_X9_year.eq_1 set I J)
  refine g_iload_n d_X9_year_0 rfl ?_
  refine g_S1 d_X9_year_1 cs_X9_year_X9_isSet lk_RX9_151 im_X9_isSet (Nat.le_of_ble_eq_true rfl) ⟨rfl, rfl⟩ ⟨Nat.zero_le _, Nat.zero_le _⟩ (ct_X9_isSet set I J ) (fun r1 S1 Ic2 Jc3 q1_0 => ?_)
  obtain ⟨rfl, rfl, rfl, r6, rfl, hz1, hf1_4, hr1_6⟩ := q1_0
  replace hF := fe_b3 hF hf1_4
  refine g_st (st' := [.int r6]) rfl ?_
  refine g_if_ne d_X9_year_4 (fun h4 => ?_) (fun h4 => ?_)
  · skip
    replace hF := fe_neg hF h4
    refine g_aload_n d_X9_year_10 rfl ?_
    refine g_getR d_X9_year_11 fq_RX9_64 rfl rfl ?_
    refine g_iload_n d_X9_year_14 rfl ?_
    refine g_iconst (v := 2) d_X9_year_15 kI_2 ?_
    refine g_V2 d_X9_year_16 cs_X9_year_X1_learn lk_RX9_253 im_X1_learn se_X1_learn rfl rfl rfl (Nat.le_of_ble_eq_true rfl) ⟨rfl, rfl⟩ ⟨Nat.zero_le _, Nat.zero_le _⟩ (ct_X1_learn set (2 : Int32) I J ) (fun r16 S16 I8 J9 q16_9 => ?_)
    obtain ⟨rfl, hc16_10, rfl, hf16_11⟩ := q16_9
    replace hF := fe_b2 hF hf16_11
    refine g_st (st' := []) rfl ?_
    have hK14 : XT I8 J9 = XT I J := hc16_10.trans hK0
    refine g_aload_n d_X9_year_19 rfl ?_
    refine g_getR d_X9_year_20 fq_RX9_80 rfl rfl ?_
    refine g_iload_n d_X9_year_23 rfl ?_
    refine g_aload_n d_X9_year_24 rfl ?_
    refine g_getR d_X9_year_25 fq_RX9_42 rfl rfl ?_
    refine g_getZ d_X9_year_28 fq_RX9_93 rfl rfl (fun hz28 => ?_)
    refine g_V2 d_X9_year_31 cs_X9_year_X4_yearOf lk_RX9_317 im_X4_yearOf se_X4_yearOf rfl rfl rfl (Nat.le_of_ble_eq_true rfl) ⟨rfl, rfl⟩ ⟨Nat.zero_le _, Nat.zero_le _⟩ (ct_X4_yearOf set (I8 16 12) I8 J9 ) (fun r31 S31 Ic16 Jc17 q31_14 => ?_)
    obtain ⟨rfl, rfl, rfl, r20, rfl, hf31_18⟩ := q31_14
    replace hF := fe_b3 hF hf31_18
    refine g_st (st' := [.int r20]) rfl ?_
    exact g_ireturn d_X9_year_34 rfl rfl rfl rfl ⟨rfl, hK14, r20, rfl, hF⟩
  · skip
    replace hF := fe_pos hF h4
    refine g_ldc (v := -1000000001) d_X9_year_7 tw_576 ?_
    exact g_ireturn d_X9_year_9 rfl rfl rfl rfl ⟨rfl, hK0, (-1000000001 : Int32), rfl, hF⟩
noncomputable def fn_X9_saves (set : Int32) (part : Int32) (I : Iv) (J : Jv) : Int32 × Iv × Jv :=
  b_n3 (fn_X9_isSet set I J) (fun (r6 : Int32) (_ : Iv) (_ : Jv) => if r6 = 0 then ((-1000000001 : Int32), I, J) else b_n3 (fn_X9_isSet part I J) (fun (r13 : Int32) (_ : Iv) (_ : Jv) => if r13 = 0 then ((-1000000001 : Int32), I, J) else b_n3 (fn_X9_isPart part set I J) (fun (r20 : Int32) (_ : Iv) (_ : Jv) => if r20 = 0 then ((-1000000003 : Int32), I, J) else b_n2 (fn_X1_learn set (2 : Int32) I J) (fun (I22 : Iv) (J23 : Jv) => b_n2 (fn_X1_learn (set &&& (part ^^^ (-1 : Int32))) (2 : Int32) I22 J23) (fun (I29 : Iv) (J30 : Jv) => b_n3 (fn_X4_saved set part (I29 16 12) I29 J30) (fun (r41 : Int32) (_ : Iv) (_ : Jv) => (r41, I29, J30)))))))
set_option maxRecDepth 100000 in
set_option maxHeartbeats 4000000 in
theorem ct_X9_saves (set : Int32) (part : Int32) (I : Iv) (J : Jv)  : Ct m_X9_saves [.ref 0, .int set, .int part] SHF I J (fun r S' I' J' => S' = SHF ∧ XT I' J' = XT I J ∧ ∃ v : Int32, r = some (.int v) ∧ fn_X9_saves set part I J = (v, I', J')) := by
  refine ct_of 0 (by decide +kernel) rfl rfl ?_
  have hK0 : XT I J = XT I J := rfl
  have hF := fe_of (fn_X9_saves.eq_1 set part I J)
  refine g_iload_n d_X9_saves_0 rfl ?_
  refine g_S1 d_X9_saves_1 cs_X9_saves_X9_isSet lk_RX9_151 im_X9_isSet (Nat.le_of_ble_eq_true rfl) ⟨rfl, rfl⟩ ⟨Nat.zero_le _, Nat.zero_le _⟩ (ct_X9_isSet set I J ) (fun r1 S1 Ic2 Jc3 q1_0 => ?_)
  obtain ⟨rfl, rfl, rfl, r6, rfl, hz1, hf1_4, hr1_6⟩ := q1_0
  replace hF := fe_b3 hF hf1_4
  refine g_st (st' := [.int r6]) rfl ?_
  refine g_if_eq d_X9_saves_4 (fun h4 => ?_) (fun h4 => ?_)
  · skip
    replace hF := fe_pos hF h4
    refine g_ldc (v := -1000000001) d_X9_saves_14 tw_576 ?_
    exact g_ireturn d_X9_saves_16 rfl rfl rfl rfl ⟨rfl, hK0, (-1000000001 : Int32), rfl, hF⟩
  · skip
    replace hF := fe_neg hF h4
    refine g_iload_n d_X9_saves_7 rfl ?_
    refine g_S1 d_X9_saves_8 cs_X9_saves_X9_isSet lk_RX9_151 im_X9_isSet (Nat.le_of_ble_eq_true rfl) ⟨rfl, rfl⟩ ⟨Nat.zero_le _, Nat.zero_le _⟩ (ct_X9_isSet part I J ) (fun r8 S8 Ic9 Jc10 q8_7 => ?_)
    obtain ⟨rfl, rfl, rfl, r13, rfl, hz8, hf8_11, hr8_13⟩ := q8_7
    replace hF := fe_b3 hF hf8_11
    refine g_st (st' := [.int r13]) rfl ?_
    refine g_if_ne d_X9_saves_11 (fun h11 => ?_) (fun h11 => ?_)
    · skip
      replace hF := fe_neg hF h11
      refine g_iload_n d_X9_saves_17 rfl ?_
      refine g_iload_n d_X9_saves_18 rfl ?_
      refine g_S2 d_X9_saves_19 cs_X9_saves_X9_isPart lk_RX9_321 im_X9_isPart (Nat.le_of_ble_eq_true rfl) ⟨rfl, rfl⟩ ⟨Nat.zero_le _, Nat.zero_le _⟩ (ct_X9_isPart part set I J ) (fun r19 S19 Ic16 Jc17 q19_14 => ?_)
      obtain ⟨rfl, rfl, rfl, r20, rfl, hz19, hf19_18⟩ := q19_14
      replace hF := fe_b3 hF hf19_18
      refine g_st (st' := [.int r20]) rfl ?_
      refine g_if_ne d_X9_saves_22 (fun h22 => ?_) (fun h22 => ?_)
      · skip
        replace hF := fe_neg hF h22
        refine g_aload_n d_X9_saves_29 rfl ?_
        refine g_getR d_X9_saves_30 fq_RX9_64 rfl rfl ?_
        refine g_iload_n d_X9_saves_33 rfl ?_
        refine g_iconst (v := 2) d_X9_saves_34 kI_2 ?_
        refine g_V2 d_X9_saves_35 cs_X9_saves_X1_learn lk_RX9_253 im_X1_learn se_X1_learn rfl rfl rfl (Nat.le_of_ble_eq_true rfl) ⟨rfl, rfl⟩ ⟨Nat.zero_le _, Nat.zero_le _⟩ (ct_X1_learn set (2 : Int32) I J ) (fun r35 S35 I22 J23 q35_23 => ?_)
        obtain ⟨rfl, hc35_24, rfl, hf35_25⟩ := q35_23
        replace hF := fe_b2 hF hf35_25
        refine g_st (st' := []) rfl ?_
        have hK28 : XT I22 J23 = XT I J := hc35_24.trans hK0
        refine g_aload_n d_X9_saves_38 rfl ?_
        refine g_getR d_X9_saves_39 fq_RX9_64 rfl rfl ?_
        refine g_iload_n d_X9_saves_42 rfl ?_
        refine g_iload_n d_X9_saves_43 rfl ?_
        refine g_iconst (v := -1) d_X9_saves_44 kI_m1 ?_
        refine g_ixor d_X9_saves_45 ?_
        refine g_iand d_X9_saves_46 ?_
        refine g_iconst (v := 2) d_X9_saves_47 kI_2 ?_
        refine g_V2 d_X9_saves_48 cs_X9_saves_X1_learn lk_RX9_253 im_X1_learn se_X1_learn rfl rfl rfl (Nat.le_of_ble_eq_true rfl) ⟨rfl, rfl⟩ ⟨Nat.zero_le _, Nat.zero_le _⟩ (ct_X1_learn (set &&& (part ^^^ (-1 : Int32))) (2 : Int32) I22 J23 ) (fun r48 S48 I29 J30 q48_30 => ?_)
        obtain ⟨rfl, hc48_31, rfl, hf48_32⟩ := q48_30
        replace hF := fe_b2 hF hf48_32
        refine g_st (st' := []) rfl ?_
        have hK35 : XT I29 J30 = XT I J := hc48_31.trans hK28
        refine g_aload_n d_X9_saves_51 rfl ?_
        refine g_getR d_X9_saves_52 fq_RX9_80 rfl rfl ?_
        refine g_iload_n d_X9_saves_55 rfl ?_
        refine g_iload_n d_X9_saves_56 rfl ?_
        refine g_aload_n d_X9_saves_57 rfl ?_
        refine g_getR d_X9_saves_58 fq_RX9_42 rfl rfl ?_
        refine g_getZ d_X9_saves_61 fq_RX9_93 rfl rfl (fun hz61 => ?_)
        refine g_V3 d_X9_saves_64 cs_X9_saves_X4_saved lk_RX9_326 im_X4_saved se_X4_saved rfl rfl rfl (Nat.le_of_ble_eq_true rfl) ⟨rfl, rfl⟩ ⟨Nat.zero_le _, Nat.zero_le _⟩ (ct_X4_saved set part (I29 16 12) I29 J30 ) (fun r64 S64 Ic37 Jc38 q64_35 => ?_)
        obtain ⟨rfl, rfl, rfl, r41, rfl, hf64_39⟩ := q64_35
        replace hF := fe_b3 hF hf64_39
        refine g_st (st' := [.int r41]) rfl ?_
        exact g_ireturn d_X9_saves_67 rfl rfl rfl rfl ⟨rfl, hK35, r41, rfl, hF⟩
      · skip
        replace hF := fe_pos hF h22
        refine g_ldcw (v := -1000000003) d_X9_saves_25 tw_937 ?_
        exact g_ireturn d_X9_saves_28 rfl rfl rfl rfl ⟨rfl, hK0, (-1000000003 : Int32), rfl, hF⟩
    · skip
      replace hF := fe_pos hF h11
      refine g_ldc (v := -1000000001) d_X9_saves_14 tw_576 ?_
      exact g_ireturn d_X9_saves_16 rfl rfl rfl rfl ⟨rfl, hK0, (-1000000001 : Int32), rfl, hF⟩
noncomputable def fn_X9_best (set : Int32) (c : Int32) (what : Int32) (I : Iv) (J : Jv) : Int32 × Iv × Jv :=
  b_n3 (fn_X9_isSet set I J) (fun (r6 : Int32) (_ : Iv) (_ : Jv) => if r6 = 0 then ((-1000000001 : Int32), I, J) else if c < 0 then ((-1000000002 : Int32), I, J) else if (9999 : Int32) < c then ((-1000000002 : Int32), I, J) else if what < 0 then ((-1000000002 : Int32), I, J) else if what ≤ (2 : Int32) then b_n2 (fn_X1_learnParts set (2 : Int32) I J) (fun (I8 : Iv) (J9 : Jv) => b_n3 (fn_X4_bestPart set c (I8 16 12) I8 J9) (fun (r20 : Int32) (_ : Iv) (_ : Jv) => if what = (0 : Int32) then (r20, I8, J9) else if what = (1 : Int32) then b_n3 (fn_X4_saved set r20 (I8 16 12) I8 J9) (fun (r27 : Int32) (_ : Iv) (_ : Jv) => (r27, I8, J9)) else b_n3 (fn_X4_costOf r20 I8 J9) (fun (r34 : Int32) (_ : Iv) (_ : Jv) => (r34, I8, J9)))) else ((-1000000002 : Int32), I, J))
set_option maxRecDepth 100000 in
set_option maxHeartbeats 4000000 in
theorem ct_X9_best (set : Int32) (c : Int32) (what : Int32) (I : Iv) (J : Jv)  : Ct m_X9_best [.ref 0, .int set, .int c, .int what] SHF I J (fun r S' I' J' => S' = SHF ∧ XT I' J' = XT I J ∧ ∃ v : Int32, r = some (.int v) ∧ fn_X9_best set c what I J = (v, I', J')) := by
  refine ct_of 1 (by decide +kernel) rfl rfl ?_
  have hK0 : XT I J = XT I J := rfl
  have hF := fe_of (fn_X9_best.eq_1 set c what I J)
  refine g_iload_n d_X9_best_0 rfl ?_
  refine g_S1 d_X9_best_1 cs_X9_best_X9_isSet lk_RX9_151 im_X9_isSet (Nat.le_of_ble_eq_true rfl) ⟨rfl, rfl⟩ ⟨Nat.zero_le _, Nat.zero_le _⟩ (ct_X9_isSet set I J ) (fun r1 S1 Ic2 Jc3 q1_0 => ?_)
  obtain ⟨rfl, rfl, rfl, r6, rfl, hz1, hf1_4, hr1_6⟩ := q1_0
  replace hF := fe_b3 hF hf1_4
  refine g_st (st' := [.int r6]) rfl ?_
  refine g_if_ne d_X9_best_4 (fun h4 => ?_) (fun h4 => ?_)
  · skip
    replace hF := fe_neg hF h4
    refine g_iload_n d_X9_best_10 rfl ?_
    refine g_if_lt d_X9_best_11 (fun h11 => ?_) (fun h11 => ?_)
    · skip
      replace hF := fe_pos hF h11
      refine g_ldc (v := -1000000002) d_X9_best_30 tw_396 ?_
      exact g_ireturn d_X9_best_32 rfl rfl rfl rfl ⟨rfl, hK0, (-1000000002 : Int32), rfl, hF⟩
    · skip
      replace hF := fe_neg hF h11
      refine g_iload_n d_X9_best_14 rfl ?_
      refine g_sipush (v := 9999) d_X9_best_15 kS_9999 ?_
      refine g_icmp_gt d_X9_best_18 (fun h18 => ?_) (fun h18 => ?_)
      · skip
        replace hF := fe_pos hF h18
        refine g_ldc (v := -1000000002) d_X9_best_30 tw_396 ?_
        exact g_ireturn d_X9_best_32 rfl rfl rfl rfl ⟨rfl, hK0, (-1000000002 : Int32), rfl, hF⟩
      · skip
        replace hF := fe_neg hF h18
        refine g_iload_n d_X9_best_21 rfl ?_
        refine g_if_lt d_X9_best_22 (fun h22 => ?_) (fun h22 => ?_)
        · skip
          replace hF := fe_pos hF h22
          refine g_ldc (v := -1000000002) d_X9_best_30 tw_396 ?_
          exact g_ireturn d_X9_best_32 rfl rfl rfl rfl ⟨rfl, hK0, (-1000000002 : Int32), rfl, hF⟩
        · skip
          replace hF := fe_neg hF h22
          refine g_iload_n d_X9_best_25 rfl ?_
          refine g_iconst (v := 2) d_X9_best_26 kI_2 ?_
          refine g_icmp_le d_X9_best_27 (fun h27 => ?_) (fun h27 => ?_)
          · skip
            replace hF := fe_pos hF h27
            refine g_aload_n d_X9_best_33 rfl ?_
            refine g_getR d_X9_best_34 fq_RX9_64 rfl rfl ?_
            refine g_iload_n d_X9_best_37 rfl ?_
            refine g_iconst (v := 2) d_X9_best_38 kI_2 ?_
            refine g_V2 d_X9_best_39 cs_X9_best_X1_learnParts lk_RX9_330 im_X1_learnParts se_X1_learnParts rfl rfl rfl (Nat.le_of_ble_eq_true rfl) ⟨rfl, rfl⟩ ⟨Nat.zero_le _, Nat.zero_le _⟩ (ct_X1_learnParts set (2 : Int32) I J (by grind)) (fun r39 S39 I8 J9 q39_9 => ?_)
            obtain ⟨rfl, hc39_10, rfl, hf39_11⟩ := q39_9
            replace hF := fe_b2 hF hf39_11
            refine g_st (st' := []) rfl ?_
            have hK14 : XT I8 J9 = XT I J := hc39_10.trans hK0
            refine g_aload_n d_X9_best_42 rfl ?_
            refine g_getR d_X9_best_43 fq_RX9_80 rfl rfl ?_
            refine g_iload_n d_X9_best_46 rfl ?_
            refine g_iload_n d_X9_best_47 rfl ?_
            refine g_aload_n d_X9_best_48 rfl ?_
            refine g_getR d_X9_best_49 fq_RX9_42 rfl rfl ?_
            refine g_getZ d_X9_best_52 fq_RX9_93 rfl rfl (fun hz52 => ?_)
            refine g_V3 d_X9_best_55 cs_X9_best_X4_bestPart lk_RX9_333 im_X4_bestPart se_X4_bestPart rfl rfl rfl (Nat.le_of_ble_eq_true rfl) ⟨rfl, rfl⟩ ⟨Nat.zero_le _, Nat.zero_le _⟩ (ct_X4_bestPart set c (I8 16 12) I8 J9 (by grind)) (fun r55 S55 Ic16 Jc17 q55_14 => ?_)
            obtain ⟨rfl, rfl, rfl, r20, rfl, hf55_18⟩ := q55_14
            replace hF := fe_b3 hF hf55_18
            refine g_st (st' := [.int r20]) rfl ?_
            refine g_istore (L' := [some (.ref 0), some (.int set), some (.int c), some (.int what), some (.int r20)]) d_X9_best_58 (by decide) rfl ?_
            refine g_iload_n d_X9_best_60 rfl ?_
            by_cases h61_0 : what = (0 : Int32)
            · skip
              refine g_lookup (show Dj (yc m_X9_best) 61 (.lookupswitch 48 #[(0, 27), (1, 30)]) 27 88 (27) 88 from ⟨by decide +kernel, rfl, rfl⟩) (by decide) (by rw [h61_0]; decide) ?_
              replace hF := fe_pos hF h61_0
              refine g_iload d_X9_best_88 rfl ?_
              exact g_ireturn d_X9_best_90 rfl rfl rfl rfl ⟨rfl, hK14, r20, rfl, hF⟩
            replace hF := fe_neg hF h61_0
            by_cases h61_1 : what = (1 : Int32)
            · skip
              refine g_lookup (show Dj (yc m_X9_best) 61 (.lookupswitch 48 #[(0, 27), (1, 30)]) 27 88 (30) 91 from ⟨by decide +kernel, rfl, rfl⟩) (by decide) (by rw [h61_1]; decide) ?_
              replace hF := fe_pos hF h61_1
              refine g_aload_n d_X9_best_91 rfl ?_
              refine g_getR d_X9_best_92 fq_RX9_80 rfl rfl ?_
              refine g_iload_n d_X9_best_95 rfl ?_
              refine g_iload d_X9_best_96 rfl ?_
              refine g_aload_n d_X9_best_98 rfl ?_
              refine g_getR d_X9_best_99 fq_RX9_42 rfl rfl ?_
              refine g_getZ d_X9_best_102 fq_RX9_93 rfl rfl (fun hz102 => ?_)
              refine g_V3 d_X9_best_105 cs_X9_best_X4_saved lk_RX9_326 im_X4_saved se_X4_saved rfl rfl rfl (Nat.le_of_ble_eq_true rfl) ⟨rfl, rfl⟩ ⟨Nat.zero_le _, Nat.zero_le _⟩ (ct_X4_saved set r20 (I8 16 12) I8 J9 ) (fun r105 S105 Ic23 Jc24 q105_21 => ?_)
              obtain ⟨rfl, rfl, rfl, r27, rfl, hf105_25⟩ := q105_21
              replace hF := fe_b3 hF hf105_25
              refine g_st (st' := [.int r27]) rfl ?_
              exact g_ireturn d_X9_best_108 rfl rfl rfl rfl ⟨rfl, hK14, r27, rfl, hF⟩
            replace hF := fe_neg hF h61_1
            refine g_lookup (show Dj (yc m_X9_best) 61 (.lookupswitch 48 #[(0, 27), (1, 30)]) 27 88 (48) 109 from ⟨by decide +kernel, rfl, rfl⟩) (by decide) (by show Op.lookupswitch.offset [(0, 27), (1, 30)] 48 _ = _; rw [lv_osw (a := 0) h61_0 (by decide)]; rw [lv_osw (a := 1) h61_1 (by decide)]; rfl) ?_
            refine g_aload_n d_X9_best_109 rfl ?_
            refine g_getR d_X9_best_110 fq_RX9_80 rfl rfl ?_
            refine g_iload d_X9_best_113 rfl ?_
            refine g_V1 d_X9_best_115 cs_X9_best_X4_costOf lk_RX9_336 im_X4_costOf se_X4_costOf rfl rfl rfl (Nat.le_of_ble_eq_true rfl) ⟨rfl, rfl⟩ ⟨Nat.zero_le _, Nat.zero_le _⟩ (ct_X4_costOf r20 I8 J9 ) (fun r115 S115 Ic30 Jc31 q115_28 => ?_)
            obtain ⟨rfl, rfl, rfl, r34, rfl, hf115_32⟩ := q115_28
            replace hF := fe_b3 hF hf115_32
            refine g_st (st' := [.int r34]) rfl ?_
            exact g_ireturn d_X9_best_118 rfl rfl rfl rfl ⟨rfl, hK14, r34, rfl, hF⟩
          · skip
            replace hF := fe_neg hF h27
            refine g_ldc (v := -1000000002) d_X9_best_30 tw_396 ?_
            exact g_ireturn d_X9_best_32 rfl rfl rfl rfl ⟨rfl, hK0, (-1000000002 : Int32), rfl, hF⟩
  · skip
    replace hF := fe_pos hF h4
    refine g_ldc (v := -1000000001) d_X9_best_7 tw_576 ?_
    exact g_ireturn d_X9_best_9 rfl rfl rfl rfl ⟨rfl, hK0, (-1000000001 : Int32), rfl, hF⟩
noncomputable def fn_X9_pays (set : Int32) (c : Int32) (u : Int32) (I : Iv) (J : Jv) : Int32 × Iv × Jv :=
  b_n3 (fn_X9_isSet set I J) (fun (r6 : Int32) (_ : Iv) (_ : Jv) => if r6 = 0 then ((-1000000001 : Int32), I, J) else if c < 0 then ((-1000000002 : Int32), I, J) else if (99999 : Int32) < c then ((-1000000002 : Int32), I, J) else if u < 0 then ((-1000000002 : Int32), I, J) else if u ≤ (9999 : Int32) then b_n2 (fn_X1_learn set (2 : Int32) I J) (fun (I8 : Iv) (J9 : Jv) => b_n3 (fn_X4_yearsToPay set c u (I8 16 12) I8 J9) (fun (r20 : Int32) (_ : Iv) (_ : Jv) => (r20, I8, J9))) else ((-1000000002 : Int32), I, J))
set_option maxRecDepth 100000 in
set_option maxHeartbeats 4000000 in
theorem ct_X9_pays (set : Int32) (c : Int32) (u : Int32) (I : Iv) (J : Jv)  : Ct m_X9_pays [.ref 0, .int set, .int c, .int u] SHF I J (fun r S' I' J' => S' = SHF ∧ XT I' J' = XT I J ∧ ∃ v : Int32, r = some (.int v) ∧ fn_X9_pays set c u I J = (v, I', J')) := by
  refine ct_of 0 (by decide +kernel) rfl rfl ?_
  have hK0 : XT I J = XT I J := rfl
  have hF := fe_of (fn_X9_pays.eq_1 set c u I J)
  refine g_iload_n d_X9_pays_0 rfl ?_
  refine g_S1 d_X9_pays_1 cs_X9_pays_X9_isSet lk_RX9_151 im_X9_isSet (Nat.le_of_ble_eq_true rfl) ⟨rfl, rfl⟩ ⟨Nat.zero_le _, Nat.zero_le _⟩ (ct_X9_isSet set I J ) (fun r1 S1 Ic2 Jc3 q1_0 => ?_)
  obtain ⟨rfl, rfl, rfl, r6, rfl, hz1, hf1_4, hr1_6⟩ := q1_0
  replace hF := fe_b3 hF hf1_4
  refine g_st (st' := [.int r6]) rfl ?_
  refine g_if_ne d_X9_pays_4 (fun h4 => ?_) (fun h4 => ?_)
  · skip
    replace hF := fe_neg hF h4
    refine g_iload_n d_X9_pays_10 rfl ?_
    refine g_if_lt d_X9_pays_11 (fun h11 => ?_) (fun h11 => ?_)
    · skip
      replace hF := fe_pos hF h11
      refine g_ldc (v := -1000000002) d_X9_pays_32 tw_396 ?_
      exact g_ireturn d_X9_pays_34 rfl rfl rfl rfl ⟨rfl, hK0, (-1000000002 : Int32), rfl, hF⟩
    · skip
      replace hF := fe_neg hF h11
      refine g_iload_n d_X9_pays_14 rfl ?_
      refine g_ldcw (v := 99999) d_X9_pays_15 tw_793 ?_
      refine g_icmp_gt d_X9_pays_18 (fun h18 => ?_) (fun h18 => ?_)
      · skip
        replace hF := fe_pos hF h18
        refine g_ldc (v := -1000000002) d_X9_pays_32 tw_396 ?_
        exact g_ireturn d_X9_pays_34 rfl rfl rfl rfl ⟨rfl, hK0, (-1000000002 : Int32), rfl, hF⟩
      · skip
        replace hF := fe_neg hF h18
        refine g_iload_n d_X9_pays_21 rfl ?_
        refine g_if_lt d_X9_pays_22 (fun h22 => ?_) (fun h22 => ?_)
        · skip
          replace hF := fe_pos hF h22
          refine g_ldc (v := -1000000002) d_X9_pays_32 tw_396 ?_
          exact g_ireturn d_X9_pays_34 rfl rfl rfl rfl ⟨rfl, hK0, (-1000000002 : Int32), rfl, hF⟩
        · skip
          replace hF := fe_neg hF h22
          refine g_iload_n d_X9_pays_25 rfl ?_
          refine g_sipush (v := 9999) d_X9_pays_26 kS_9999 ?_
          refine g_icmp_le d_X9_pays_29 (fun h29 => ?_) (fun h29 => ?_)
          · skip
            replace hF := fe_pos hF h29
            refine g_aload_n d_X9_pays_35 rfl ?_
            refine g_getR d_X9_pays_36 fq_RX9_64 rfl rfl ?_
            refine g_iload_n d_X9_pays_39 rfl ?_
            refine g_iconst (v := 2) d_X9_pays_40 kI_2 ?_
            refine g_V2 d_X9_pays_41 cs_X9_pays_X1_learn lk_RX9_253 im_X1_learn se_X1_learn rfl rfl rfl (Nat.le_of_ble_eq_true rfl) ⟨rfl, rfl⟩ ⟨Nat.zero_le _, Nat.zero_le _⟩ (ct_X1_learn set (2 : Int32) I J ) (fun r41 S41 I8 J9 q41_9 => ?_)
            obtain ⟨rfl, hc41_10, rfl, hf41_11⟩ := q41_9
            replace hF := fe_b2 hF hf41_11
            refine g_st (st' := []) rfl ?_
            have hK14 : XT I8 J9 = XT I J := hc41_10.trans hK0
            refine g_aload_n d_X9_pays_44 rfl ?_
            refine g_getR d_X9_pays_45 fq_RX9_80 rfl rfl ?_
            refine g_iload_n d_X9_pays_48 rfl ?_
            refine g_iload_n d_X9_pays_49 rfl ?_
            refine g_iload_n d_X9_pays_50 rfl ?_
            refine g_aload_n d_X9_pays_51 rfl ?_
            refine g_getR d_X9_pays_52 fq_RX9_42 rfl rfl ?_
            refine g_getZ d_X9_pays_55 fq_RX9_93 rfl rfl (fun hz55 => ?_)
            refine g_V4 d_X9_pays_58 cs_X9_pays_X4_yearsToPay lk_RX9_339 im_X4_yearsToPay se_X4_yearsToPay rfl rfl rfl (Nat.le_of_ble_eq_true rfl) ⟨rfl, rfl⟩ ⟨Nat.zero_le _, Nat.zero_le _⟩ (ct_X4_yearsToPay set c u (I8 16 12) I8 J9 ) (fun r58 S58 Ic16 Jc17 q58_14 => ?_)
            obtain ⟨rfl, rfl, rfl, r20, rfl, hf58_18⟩ := q58_14
            replace hF := fe_b3 hF hf58_18
            refine g_st (st' := [.int r20]) rfl ?_
            exact g_ireturn d_X9_pays_61 rfl rfl rfl rfl ⟨rfl, hK14, r20, rfl, hF⟩
          · skip
            replace hF := fe_neg hF h29
            refine g_ldc (v := -1000000002) d_X9_pays_32 tw_396 ?_
            exact g_ireturn d_X9_pays_34 rfl rfl rfl rfl ⟨rfl, hK0, (-1000000002 : Int32), rfl, hF⟩
  · skip
    replace hF := fe_pos hF h4
    refine g_ldc (v := -1000000001) d_X9_pays_7 tw_576 ?_
    exact g_ireturn d_X9_pays_9 rfl rfl rfl rfl ⟨rfl, hK0, (-1000000001 : Int32), rfl, hF⟩
noncomputable def fn_X9_ice (set : Int32) (n : Int32) (b : Int32) (I : Iv) (J : Jv) : Int32 × Iv × Jv :=
  b_n3 (fn_X9_isSet set I J) (fun (r6 : Int32) (_ : Iv) (_ : Jv) => if r6 = 0 then ((-1000000001 : Int32), I, J) else if n < (1 : Int32) then ((-1000000002 : Int32), I, J) else if (20 : Int32) < n then ((-1000000002 : Int32), I, J) else if b < 0 then ((-1000000002 : Int32), I, J) else if b ≤ (999 : Int32) then b_n3 (fn_X4_bestThawing set n b (I 16 12) I J) (fun (r13 : Int32) (I8 : Iv) (J9 : Jv) => (r13, I8, J9)) else ((-1000000002 : Int32), I, J))
set_option maxRecDepth 100000 in
set_option maxHeartbeats 4000000 in
theorem ct_X9_ice (set : Int32) (n : Int32) (b : Int32) (I : Iv) (J : Jv)  : Ct m_X9_ice [.ref 0, .int set, .int n, .int b] SHF I J (fun r S' I' J' => S' = SHF ∧ XT I' J' = XT I J ∧ ∃ v : Int32, r = some (.int v) ∧ fn_X9_ice set n b I J = (v, I', J')) := by
  refine ct_of 0 (by decide +kernel) rfl rfl ?_
  have hK0 : XT I J = XT I J := rfl
  have hF := fe_of (fn_X9_ice.eq_1 set n b I J)
  refine g_iload_n d_X9_ice_0 rfl ?_
  refine g_S1 d_X9_ice_1 cs_X9_ice_X9_isSet lk_RX9_151 im_X9_isSet (Nat.le_of_ble_eq_true rfl) ⟨rfl, rfl⟩ ⟨Nat.zero_le _, Nat.zero_le _⟩ (ct_X9_isSet set I J ) (fun r1 S1 Ic2 Jc3 q1_0 => ?_)
  obtain ⟨rfl, rfl, rfl, r6, rfl, hz1, hf1_4, hr1_6⟩ := q1_0
  replace hF := fe_b3 hF hf1_4
  refine g_st (st' := [.int r6]) rfl ?_
  refine g_if_ne d_X9_ice_4 (fun h4 => ?_) (fun h4 => ?_)
  · skip
    replace hF := fe_neg hF h4
    refine g_iload_n d_X9_ice_10 rfl ?_
    refine g_iconst (v := 1) d_X9_ice_11 kI_1 ?_
    refine g_icmp_lt d_X9_ice_12 (fun h12 => ?_) (fun h12 => ?_)
    · skip
      replace hF := fe_pos hF h12
      refine g_ldc (v := -1000000002) d_X9_ice_32 tw_396 ?_
      exact g_ireturn d_X9_ice_34 rfl rfl rfl rfl ⟨rfl, hK0, (-1000000002 : Int32), rfl, hF⟩
    · skip
      replace hF := fe_neg hF h12
      refine g_iload_n d_X9_ice_15 rfl ?_
      refine g_bipush (v := 20) d_X9_ice_16 kB_20 ?_
      refine g_icmp_gt d_X9_ice_18 (fun h18 => ?_) (fun h18 => ?_)
      · skip
        replace hF := fe_pos hF h18
        refine g_ldc (v := -1000000002) d_X9_ice_32 tw_396 ?_
        exact g_ireturn d_X9_ice_34 rfl rfl rfl rfl ⟨rfl, hK0, (-1000000002 : Int32), rfl, hF⟩
      · skip
        replace hF := fe_neg hF h18
        refine g_iload_n d_X9_ice_21 rfl ?_
        refine g_if_lt d_X9_ice_22 (fun h22 => ?_) (fun h22 => ?_)
        · skip
          replace hF := fe_pos hF h22
          refine g_ldc (v := -1000000002) d_X9_ice_32 tw_396 ?_
          exact g_ireturn d_X9_ice_34 rfl rfl rfl rfl ⟨rfl, hK0, (-1000000002 : Int32), rfl, hF⟩
        · skip
          replace hF := fe_neg hF h22
          refine g_iload_n d_X9_ice_25 rfl ?_
          refine g_sipush (v := 999) d_X9_ice_26 kS_999 ?_
          refine g_icmp_le d_X9_ice_29 (fun h29 => ?_) (fun h29 => ?_)
          · skip
            replace hF := fe_pos hF h29
            refine g_aload_n d_X9_ice_35 rfl ?_
            refine g_getR d_X9_ice_36 fq_RX9_80 rfl rfl ?_
            refine g_iload_n d_X9_ice_39 rfl ?_
            refine g_iload_n d_X9_ice_40 rfl ?_
            refine g_iload_n d_X9_ice_41 rfl ?_
            refine g_aload_n d_X9_ice_42 rfl ?_
            refine g_getR d_X9_ice_43 fq_RX9_42 rfl rfl ?_
            refine g_getZ d_X9_ice_46 fq_RX9_93 rfl rfl (fun hz46 => ?_)
            refine g_V4 d_X9_ice_49 cs_X9_ice_X4_bestThawing lk_RX9_343 im_X4_bestThawing se_X4_bestThawing rfl rfl rfl (Nat.le_of_ble_eq_true rfl) ⟨rfl, rfl⟩ ⟨Nat.zero_le _, Nat.zero_le _⟩ (ct_X4_bestThawing set n b (I 16 12) I J (by grind)) (fun r49 S49 I8 J9 q49_9 => ?_)
            obtain ⟨rfl, hc49_10, r13, rfl, hf49_11⟩ := q49_9
            replace hF := fe_b3 hF hf49_11
            refine g_st (st' := [.int r13]) rfl ?_
            have hK15 : XT I8 J9 = XT I J := hc49_10.trans hK0
            exact g_ireturn d_X9_ice_52 rfl rfl rfl rfl ⟨rfl, hK15, r13, rfl, hF⟩
          · skip
            replace hF := fe_neg hF h29
            refine g_ldc (v := -1000000002) d_X9_ice_32 tw_396 ?_
            exact g_ireturn d_X9_ice_34 rfl rfl rfl rfl ⟨rfl, hK0, (-1000000002 : Int32), rfl, hF⟩
  · skip
    replace hF := fe_pos hF h4
    refine g_ldc (v := -1000000001) d_X9_ice_7 tw_576 ?_
    exact g_ireturn d_X9_ice_9 rfl rfl rfl rfl ⟨rfl, hK0, (-1000000001 : Int32), rfl, hF⟩
noncomputable def fn_X9_lying (f : Int32) (I : Iv) (J : Jv) : Int32 × Iv × Jv :=
  j_n (b_n3 (fn_X6_foodsThere 16 I J) (fun (r6 : Int32) (_ : Iv) (_ : Jv) => if r6 ≤ (6 : Int32) then b_n2 (fn_X8_findBestRow I J) (fun (I8 : Iv) (J9 : Jv) => if f = (-1 : Int32) then ((I8 67 8), I8, J9) else b_n3 (fn_X8_shelfInBestRow f I8 J9) (fun (r20 : Int32) (I15 : Iv) (J16 : Jv) => (r20, I15, J16))) else ((-1000000003 : Int32), I, J))) (fun (j19_0 : Int32 × Iv × Jv) => if f = (-1 : Int32) then j19_0 else b_n3 (fn_X6_hasFood 16 f I J) (fun (r28 : Int32) (_ : Iv) (_ : Jv) => if r28 = 0 then ((-1000000001 : Int32), I, J) else j19_0))
set_option maxRecDepth 100000 in
set_option maxHeartbeats 4000000 in
theorem ct_X9_lying (f : Int32) (I : Iv) (J : Jv)  : Ct m_X9_lying [.ref 0, .int f] SHF I J (fun r S' I' J' => S' = SHF ∧ XT I' J' = XT I J ∧ ∃ v : Int32, r = some (.int v) ∧ fn_X9_lying f I J = (v, I', J')) := by
  refine ct_of 0 (by decide +kernel) rfl rfl ?_
  have hK0 : XT I J = XT I J := rfl
  have hF := fe_of (fn_X9_lying.eq_1 f I J)
  refine g_iload_n d_X9_lying_0 rfl ?_
  refine g_iconst (v := -1) d_X9_lying_1 kI_m1 ?_
  obtain ⟨j19_0, hj19_0, hF⟩ := fe_jx hF
  have J_19 : (FE (fn_X9_lying f I J) (fun _ => j19_0)) → G m_X9_lying (rq m_X9_lying (fun r S' I' J' => S' = SHF ∧ XT I' J' = XT I J ∧ ∃ v : Int32, r = some (.int v) ∧ fn_X9_lying f I J = (v, I', J'))) 0 0 19 [some (.ref 0), some (.int f)] [] SHF I J := by
    intro hF_j19_0
    have hF := fe_eq hF_j19_0 hj19_0
    refine g_aload_n d_X9_lying_19 rfl ?_
    refine g_getR d_X9_lying_20 fq_RX9_42 rfl rfl ?_
    refine g_V0 d_X9_lying_23 cs_X9_lying_X6_foodsThere lk_RX9_241 im_X6_foodsThere se_X6_foodsThere rfl rfl rfl (Nat.le_of_ble_eq_true rfl) ⟨rfl, rfl⟩ ⟨Nat.zero_le _, Nat.zero_le _⟩ (ct_X6_foodsThere  I J stA_16) (fun r23 S23 Ic2 Jc3 q23_0 => ?_)
    obtain ⟨rfl, rfl, rfl, r6, rfl, hf23_4⟩ := q23_0
    replace hF := fe_b3 hF hf23_4
    refine g_st (st' := [.int r6]) rfl ?_
    refine g_bipush (v := 6) d_X9_lying_26 kB_6 ?_
    refine g_icmp_le d_X9_lying_28 (fun h28 => ?_) (fun h28 => ?_)
    · skip
      replace hF := fe_pos hF h28
      refine g_aload_n d_X9_lying_35 rfl ?_
      refine g_getR d_X9_lying_36 fq_RX9_89 rfl rfl ?_
      refine g_V0 d_X9_lying_39 cs_X9_lying_X8_findBestRow lk_RX9_346 im_X8_findBestRow se_X8_findBestRow rfl rfl rfl (Nat.le_of_ble_eq_true rfl) ⟨rfl, rfl⟩ ⟨Nat.zero_le _, Nat.zero_le _⟩ (ct_X8_findBestRow  I J ) (fun r39 S39 I8 J9 q39_9 => ?_)
      obtain ⟨rfl, hc39_10, rfl, hf39_11⟩ := q39_9
      replace hF := fe_b2 hF hf39_11
      refine g_st (st' := []) rfl ?_
      have hK14 : XT I8 J9 = XT I J := hc39_10.trans hK0
      refine g_iload_n d_X9_lying_42 rfl ?_
      refine g_iconst (v := -1) d_X9_lying_43 kI_m1 ?_
      refine g_icmp_ne d_X9_lying_44 (fun h44 => ?_) (fun h44 => ?_)
      · skip
        replace hF := fe_neg hF h44
        refine g_aload_n d_X9_lying_57 rfl ?_
        refine g_getR d_X9_lying_58 fq_RX9_89 rfl rfl ?_
        refine g_iload_n d_X9_lying_61 rfl ?_
        refine g_V1 d_X9_lying_62 cs_X9_lying_X8_shelfInBestRow lk_RX9_352 im_X8_shelfInBestRow se_X8_shelfInBestRow rfl rfl rfl (Nat.le_of_ble_eq_true rfl) ⟨rfl, rfl⟩ ⟨Nat.zero_le _, Nat.zero_le _⟩ (ct_X8_shelfInBestRow f I8 J9 ) (fun r62 S62 I15 J16 q62_16 => ?_)
        obtain ⟨rfl, hc62_17, r20, rfl, hf62_18⟩ := q62_16
        replace hF := fe_b3 hF hf62_18
        refine g_st (st' := [.int r20]) rfl ?_
        have hK22 : XT I15 J16 = XT I J := hc62_17.trans hK14
        exact g_ireturn d_X9_lying_65 rfl rfl rfl rfl ⟨rfl, hK22, r20, rfl, hF⟩
      · skip
        replace hF := fe_pos hF h44
        refine g_aload_n d_X9_lying_47 rfl ?_
        refine g_getR d_X9_lying_48 fq_RX9_89 rfl rfl ?_
        refine g_getI d_X9_lying_51 fq_RX9_349 rfl rfl ?_
        refine g_goto d_X9_lying_54 ?_
        exact g_ireturn d_X9_lying_65 rfl rfl rfl rfl ⟨rfl, hK14, (I8 67 8), rfl, hF⟩
    · skip
      replace hF := fe_neg hF h28
      refine g_ldcw (v := -1000000003) d_X9_lying_31 tw_937 ?_
      exact g_ireturn d_X9_lying_34 rfl rfl rfl rfl ⟨rfl, hK0, (-1000000003 : Int32), rfl, hF⟩
  refine g_icmp_eq d_X9_lying_2 (fun h2 => ?_) (fun h2 => ?_)
  · skip
    replace hF := fe_pos hF h2
    exact J_19 hF
  · skip
    replace hF := fe_neg hF h2
    refine g_aload_n d_X9_lying_5 rfl ?_
    refine g_getR d_X9_lying_6 fq_RX9_42 rfl rfl ?_
    refine g_iload_n d_X9_lying_9 rfl ?_
    refine g_V1 d_X9_lying_10 cs_X9_lying_X6_hasFood lk_RX9_191 im_X6_hasFood se_X6_hasFood rfl rfl rfl (Nat.le_of_ble_eq_true rfl) ⟨rfl, rfl⟩ ⟨Nat.zero_le _, Nat.zero_le _⟩ (ct_X6_hasFood f I J stA_16) (fun r10 S10 Ic24 Jc25 q10_22 => ?_)
    obtain ⟨rfl, rfl, rfl, r28, rfl, hz10, hf10_26, hr10_28⟩ := q10_22
    replace hF := fe_b3 hF hf10_26
    refine g_st (st' := [.int r28]) rfl ?_
    refine g_if_ne d_X9_lying_13 (fun h13 => ?_) (fun h13 => ?_)
    · skip
      replace hF := fe_neg hF h13
      exact J_19 hF
    · skip
      replace hF := fe_pos hF h13
      refine g_ldc (v := -1000000001) d_X9_lying_16 tw_576 ?_
      exact g_ireturn d_X9_lying_18 rfl rfl rfl rfl ⟨rfl, hK0, (-1000000001 : Int32), rfl, hF⟩
noncomputable def fn_X9_bulb (what : Int32) (I : Iv) (J : Jv) : Int32 × Iv × Jv :=
  if what < 0 then ((-1000000002 : Int32), I, J) else if what ≤ (1 : Int32) then b_n2 (fn_X8_findBestBulb I J) (fun (I1 : Iv) (J2 : Jv) => if what = 0 then ((I1 67 7), I1, J2) else ((I1 67 8), I1, J2)) else ((-1000000002 : Int32), I, J)
set_option maxRecDepth 100000 in
set_option maxHeartbeats 4000000 in
theorem ct_X9_bulb (what : Int32) (I : Iv) (J : Jv)  : Ct m_X9_bulb [.ref 0, .int what] SHF I J (fun r S' I' J' => S' = SHF ∧ XT I' J' = XT I J ∧ ∃ v : Int32, r = some (.int v) ∧ fn_X9_bulb what I J = (v, I', J')) := by
  refine ct_of 0 (by decide +kernel) rfl rfl ?_
  have hK0 : XT I J = XT I J := rfl
  have hF := fe_of (fn_X9_bulb.eq_1 what I J)
  refine g_iload_n d_X9_bulb_0 rfl ?_
  refine g_if_lt d_X9_bulb_1 (fun h1 => ?_) (fun h1 => ?_)
  · skip
    replace hF := fe_pos hF h1
    refine g_ldc (v := -1000000002) d_X9_bulb_9 tw_396 ?_
    exact g_ireturn d_X9_bulb_11 rfl rfl rfl rfl ⟨rfl, hK0, (-1000000002 : Int32), rfl, hF⟩
  · skip
    replace hF := fe_neg hF h1
    refine g_iload_n d_X9_bulb_4 rfl ?_
    refine g_iconst (v := 1) d_X9_bulb_5 kI_1 ?_
    refine g_icmp_le d_X9_bulb_6 (fun h6 => ?_) (fun h6 => ?_)
    · skip
      replace hF := fe_pos hF h6
      refine g_aload_n d_X9_bulb_12 rfl ?_
      refine g_getR d_X9_bulb_13 fq_RX9_89 rfl rfl ?_
      refine g_V0 d_X9_bulb_16 cs_X9_bulb_X8_findBestBulb lk_RX9_355 im_X8_findBestBulb se_X8_findBestBulb rfl rfl rfl (Nat.le_of_ble_eq_true rfl) ⟨rfl, rfl⟩ ⟨Nat.zero_le _, Nat.zero_le _⟩ (ct_X8_findBestBulb  I J ) (fun r16 S16 I1 J2 q16_2 => ?_)
      obtain ⟨rfl, hc16_3, rfl, hf16_4⟩ := q16_2
      replace hF := fe_b2 hF hf16_4
      refine g_st (st' := []) rfl ?_
      have hK7 : XT I1 J2 = XT I J := hc16_3.trans hK0
      refine g_iload_n d_X9_bulb_19 rfl ?_
      refine g_if_ne d_X9_bulb_20 (fun h20 => ?_) (fun h20 => ?_)
      · skip
        replace hF := fe_neg hF h20
        refine g_aload_n d_X9_bulb_33 rfl ?_
        refine g_getR d_X9_bulb_34 fq_RX9_89 rfl rfl ?_
        refine g_getI d_X9_bulb_37 fq_RX9_349 rfl rfl ?_
        exact g_ireturn d_X9_bulb_40 rfl rfl rfl rfl ⟨rfl, hK7, (I1 67 8), rfl, hF⟩
      · skip
        replace hF := fe_pos hF h20
        refine g_aload_n d_X9_bulb_23 rfl ?_
        refine g_getR d_X9_bulb_24 fq_RX9_89 rfl rfl ?_
        refine g_getI d_X9_bulb_27 fq_RX9_358 rfl rfl ?_
        refine g_goto d_X9_bulb_30 ?_
        exact g_ireturn d_X9_bulb_40 rfl rfl rfl rfl ⟨rfl, hK7, (I1 67 7), rfl, hF⟩
    · skip
      replace hF := fe_neg hF h6
      refine g_ldc (v := -1000000002) d_X9_bulb_9 tw_396 ?_
      exact g_ireturn d_X9_bulb_11 rfl rfl rfl rfl ⟨rfl, hK0, (-1000000002 : Int32), rfl, hF⟩
noncomputable def fn_X9_without (f : Int32) (I : Iv) (J : Jv) : Int32 × Iv × Jv :=
  b_n3 (fn_X6_hasFood 16 f I J) (fun (r6 : Int32) (_ : Iv) (_ : Jv) => if r6 = 0 then ((-1000000001 : Int32), I, J) else b_n3 (fn_X8_ticksWithoutCurrent f I J) (fun (r13 : Int32) (I8 : Iv) (J9 : Jv) => (r13, I8, J9)))
set_option maxRecDepth 100000 in
set_option maxHeartbeats 4000000 in
theorem ct_X9_without (f : Int32) (I : Iv) (J : Jv)  : Ct m_X9_without [.ref 0, .int f] SHF I J (fun r S' I' J' => S' = SHF ∧ XT I' J' = XT I J ∧ ∃ v : Int32, r = some (.int v) ∧ fn_X9_without f I J = (v, I', J')) := by
  refine ct_of 0 (by decide +kernel) rfl rfl ?_
  have hK0 : XT I J = XT I J := rfl
  have hF := fe_of (fn_X9_without.eq_1 f I J)
  refine g_aload_n d_X9_without_0 rfl ?_
  refine g_getR d_X9_without_1 fq_RX9_42 rfl rfl ?_
  refine g_iload_n d_X9_without_4 rfl ?_
  refine g_V1 d_X9_without_5 cs_X9_without_X6_hasFood lk_RX9_191 im_X6_hasFood se_X6_hasFood rfl rfl rfl (Nat.le_of_ble_eq_true rfl) ⟨rfl, rfl⟩ ⟨Nat.zero_le _, Nat.zero_le _⟩ (ct_X6_hasFood f I J stA_16) (fun r5 S5 Ic2 Jc3 q5_0 => ?_)
  obtain ⟨rfl, rfl, rfl, r6, rfl, hz5, hf5_4, hr5_6⟩ := q5_0
  replace hF := fe_b3 hF hf5_4
  refine g_st (st' := [.int r6]) rfl ?_
  refine g_if_eq d_X9_without_8 (fun h8 => ?_) (fun h8 => ?_)
  · skip
    replace hF := fe_pos hF h8
    refine g_ldc (v := -1000000001) d_X9_without_22 tw_576 ?_
    exact g_ireturn d_X9_without_24 rfl rfl rfl rfl ⟨rfl, hK0, (-1000000001 : Int32), rfl, hF⟩
  · skip
    replace hF := fe_neg hF h8
    refine g_aload_n d_X9_without_11 rfl ?_
    refine g_getR d_X9_without_12 fq_RX9_89 rfl rfl ?_
    refine g_iload_n d_X9_without_15 rfl ?_
    refine g_V1 d_X9_without_16 cs_X9_without_X8_ticksWithoutCurrent lk_RX9_361 im_X8_ticksWithoutCurrent se_X8_ticksWithoutCurrent rfl rfl rfl (Nat.le_of_ble_eq_true rfl) ⟨rfl, rfl⟩ ⟨Nat.zero_le _, Nat.zero_le _⟩ (ct_X8_ticksWithoutCurrent f I J ) (fun r16 S16 I8 J9 q16_9 => ?_)
    obtain ⟨rfl, hc16_10, r13, rfl, hf16_11⟩ := q16_9
    replace hF := fe_b3 hF hf16_11
    refine g_st (st' := [.int r13]) rfl ?_
    have hK15 : XT I8 J9 = XT I J := hc16_10.trans hK0
    refine g_goto d_X9_without_19 ?_
    exact g_ireturn d_X9_without_24 rfl rfl rfl rfl ⟨rfl, hK15, r13, rfl, hF⟩
noncomputable def fn_X9_cheap (a : Int32) (b : Int32) (v_ : Int32) (I : Iv) (J : Jv) : Int32 × Iv × Jv :=
  b_n3 (fn_X9_isPrice v_ I J) (fun (r6 : Int32) (_ : Iv) (_ : Jv) => if r6 = 0 then ((-1000000002 : Int32), I, J) else j_n (l_t (wI I 67 4 a) (fun (I8 : Iv) => j_n (fun (w10 : Int32) => l_t (wI I8 67 5 w10) (fun (I11 : Iv) => l_t (wI I11 67 6 v_) (fun (I13 : Iv) => ((1 : Int32), I13, J)))) (fun (j55_1 : Int32 → Int32 × Iv × Jv) => if a = (-1 : Int32) then j55_1 ((-1 : Int32)) else j55_1 b))) (fun (j33_0 : Int32 × Iv × Jv) => if a = (-1 : Int32) then j33_0 else if a < 0 then ((-1000000002 : Int32), I, J) else if (24 : Int32) < b then ((-1000000002 : Int32), I, J) else if a < b then j33_0 else ((-1000000002 : Int32), I, J)))
set_option maxRecDepth 100000 in
set_option maxHeartbeats 4000000 in
theorem ct_X9_cheap (a : Int32) (b : Int32) (v_ : Int32) (I : Iv) (J : Jv)  : Ct m_X9_cheap [.ref 0, .int a, .int b, .int v_] SHF I J (fun r S' I' J' => S' = SHF ∧ XT I' J' = XT I J ∧ ∃ v : Int32, r = some (.int v) ∧ fn_X9_cheap a b v_ I J = (v, I', J')) := by
  refine ct_of 0 (by decide +kernel) rfl rfl ?_
  have hK0 : XT I J = XT I J := rfl
  have hF := fe_of (fn_X9_cheap.eq_1 a b v_ I J)
  refine g_iload_n d_X9_cheap_0 rfl ?_
  refine g_S1 d_X9_cheap_1 cs_X9_cheap_X9_isPrice lk_RX9_311 im_X9_isPrice (Nat.le_of_ble_eq_true rfl) ⟨rfl, rfl⟩ ⟨Nat.zero_le _, Nat.zero_le _⟩ (ct_X9_isPrice v_ I J ) (fun r1 S1 Ic2 Jc3 q1_0 => ?_)
  obtain ⟨rfl, rfl, rfl, r6, rfl, hz1, hf1_4, hr1_6⟩ := q1_0
  replace hF := fe_b3 hF hf1_4
  refine g_st (st' := [.int r6]) rfl ?_
  refine g_if_ne d_X9_cheap_4 (fun h4 => ?_) (fun h4 => ?_)
  · skip
    replace hF := fe_neg hF h4
    refine g_iload_n d_X9_cheap_10 rfl ?_
    refine g_iconst (v := -1) d_X9_cheap_11 kI_m1 ?_
    obtain ⟨j33_0, hj33_0, hF⟩ := fe_jx hF
    have J_33 : (FE (fn_X9_cheap a b v_ I J) (fun _ => j33_0)) → G m_X9_cheap (rq m_X9_cheap (fun r S' I' J' => S' = SHF ∧ XT I' J' = XT I J ∧ ∃ v : Int32, r = some (.int v) ∧ fn_X9_cheap a b v_ I J = (v, I', J'))) 0 0 33 [some (.ref 0), some (.int a), some (.int b), some (.int v_)] [] SHF I J := by
      intro hF_j33_0
      have hF := fe_eq hF_j33_0 hj33_0
      refine g_aload_n d_X9_cheap_33 rfl ?_
      refine g_getR d_X9_cheap_34 fq_RX9_89 rfl rfl ?_
      refine g_iload_n d_X9_cheap_37 rfl ?_
      refine g_putI d_X9_cheap_38 fq_RX9_364 rfl rfl ?_
      refine g_nmI (fun I8 eI8 => ?_)
      replace hF := fe_lt hF eI8
      have hK9 : XT I8 J = XT I J := (by rw [eI8]; exact (xt_wI rfl).trans hK0)
      refine g_aload_n d_X9_cheap_41 rfl ?_
      refine g_getR d_X9_cheap_42 fq_RX9_89 rfl rfl ?_
      refine g_iload_n d_X9_cheap_45 rfl ?_
      refine g_iconst (v := -1) d_X9_cheap_46 kI_m1 ?_
      obtain ⟨j55_1, hj55_1, hF⟩ := fe_jx hF
      have J_55 : ∀ (w10 : Int32), (FE (fn_X9_cheap a b v_ I J) (fun _ => j55_1 w10)) → G m_X9_cheap (rq m_X9_cheap (fun r S' I' J' => S' = SHF ∧ XT I' J' = XT I J ∧ ∃ v : Int32, r = some (.int v) ∧ fn_X9_cheap a b v_ I J = (v, I', J'))) 0 0 55 [some (.ref 0), some (.int a), some (.int b), some (.int v_)] [.int w10, .ref 67] SHF I8 J := by
        intro w10 hF_j55_1
        have hF := fe_eq hF_j55_1 (congrFun hj55_1 w10)
        refine g_putI d_X9_cheap_55 fq_RX9_367 rfl rfl ?_
        refine g_nmI (fun I11 eI11 => ?_)
        replace hF := fe_lt hF eI11
        have hK12 : XT I11 J = XT I J := (by rw [eI11]; exact (xt_wI rfl).trans hK9)
        refine g_aload_n d_X9_cheap_58 rfl ?_
        refine g_getR d_X9_cheap_59 fq_RX9_89 rfl rfl ?_
        refine g_iload_n d_X9_cheap_62 rfl ?_
        refine g_putI d_X9_cheap_63 fq_RX9_370 rfl rfl ?_
        refine g_nmI (fun I13 eI13 => ?_)
        replace hF := fe_lt hF eI13
        have hK14 : XT I13 J = XT I J := (by rw [eI13]; exact (xt_wI rfl).trans hK12)
        refine g_iconst (v := 1) d_X9_cheap_66 kI_1 ?_
        exact g_ireturn d_X9_cheap_67 rfl rfl rfl rfl ⟨rfl, hK14, (1 : Int32), rfl, hF⟩
      refine g_icmp_ne d_X9_cheap_47 (fun h47 => ?_) (fun h47 => ?_)
      · skip
        replace hF := fe_neg hF h47
        refine g_iload_n d_X9_cheap_54 rfl ?_
        exact J_55 b hF
      · skip
        replace hF := fe_pos hF h47
        refine g_iconst (v := -1) d_X9_cheap_50 kI_m1 ?_
        refine g_goto d_X9_cheap_51 ?_
        exact J_55 ((-1 : Int32)) hF
    refine g_icmp_eq d_X9_cheap_12 (fun h12 => ?_) (fun h12 => ?_)
    · skip
      replace hF := fe_pos hF h12
      exact J_33 hF
    · skip
      replace hF := fe_neg hF h12
      refine g_iload_n d_X9_cheap_15 rfl ?_
      refine g_if_lt d_X9_cheap_16 (fun h16 => ?_) (fun h16 => ?_)
      · skip
        replace hF := fe_pos hF h16
        refine g_ldc (v := -1000000002) d_X9_cheap_30 tw_396 ?_
        exact g_ireturn d_X9_cheap_32 rfl rfl rfl rfl ⟨rfl, hK0, (-1000000002 : Int32), rfl, hF⟩
      · skip
        replace hF := fe_neg hF h16
        refine g_iload_n d_X9_cheap_19 rfl ?_
        refine g_bipush (v := 24) d_X9_cheap_20 kB_24 ?_
        refine g_icmp_gt d_X9_cheap_22 (fun h22 => ?_) (fun h22 => ?_)
        · skip
          replace hF := fe_pos hF h22
          refine g_ldc (v := -1000000002) d_X9_cheap_30 tw_396 ?_
          exact g_ireturn d_X9_cheap_32 rfl rfl rfl rfl ⟨rfl, hK0, (-1000000002 : Int32), rfl, hF⟩
        · skip
          replace hF := fe_neg hF h22
          refine g_iload_n d_X9_cheap_25 rfl ?_
          refine g_iload_n d_X9_cheap_26 rfl ?_
          refine g_icmp_gt d_X9_cheap_27 (fun h27 => ?_) (fun h27 => ?_)
          · skip
            replace hF := fe_pos hF h27
            exact J_33 hF
          · skip
            replace hF := fe_neg hF h27
            refine g_ldc (v := -1000000002) d_X9_cheap_30 tw_396 ?_
            exact g_ireturn d_X9_cheap_32 rfl rfl rfl rfl ⟨rfl, hK0, (-1000000002 : Int32), rfl, hF⟩
  · skip
    replace hF := fe_pos hF h4
    refine g_ldc (v := -1000000002) d_X9_cheap_7 tw_396 ?_
    exact g_ireturn d_X9_cheap_9 rfl rfl rfl rfl ⟨rfl, hK0, (-1000000002 : Int32), rfl, hF⟩
noncomputable def fn_X9_store (n : Int32) (what : Int32) (I : Iv) (J : Jv) : Int32 × Iv × Jv :=
  if n < (1 : Int32) then ((-1000000002 : Int32), I, J) else if (6 : Int32) < n then ((-1000000002 : Int32), I, J) else if what < 0 then ((-1000000002 : Int32), I, J) else if what ≤ (1 : Int32) then b_n2 (fn_X8_findBestStore n (I 65 2) I J) (fun (I1 : Iv) (J2 : Jv) => if what = 0 then ((I1 67 7), I1, J2) else ((I1 67 8), I1, J2)) else ((-1000000002 : Int32), I, J)
set_option maxRecDepth 100000 in
set_option maxHeartbeats 4000000 in
theorem ct_X9_store (n : Int32) (what : Int32) (I : Iv) (J : Jv)  : Ct m_X9_store [.ref 0, .int n, .int what] SHF I J (fun r S' I' J' => S' = SHF ∧ XT I' J' = XT I J ∧ ∃ v : Int32, r = some (.int v) ∧ fn_X9_store n what I J = (v, I', J')) := by
  refine ct_of 0 (by decide +kernel) rfl rfl ?_
  have hK0 : XT I J = XT I J := rfl
  have hF := fe_of (fn_X9_store.eq_1 n what I J)
  refine g_iload_n d_X9_store_0 rfl ?_
  refine g_iconst (v := 1) d_X9_store_1 kI_1 ?_
  refine g_icmp_lt d_X9_store_2 (fun h2 => ?_) (fun h2 => ?_)
  · skip
    replace hF := fe_pos hF h2
    refine g_ldc (v := -1000000002) d_X9_store_20 tw_396 ?_
    exact g_ireturn d_X9_store_22 rfl rfl rfl rfl ⟨rfl, hK0, (-1000000002 : Int32), rfl, hF⟩
  · skip
    replace hF := fe_neg hF h2
    refine g_iload_n d_X9_store_5 rfl ?_
    refine g_bipush (v := 6) d_X9_store_6 kB_6 ?_
    refine g_icmp_gt d_X9_store_8 (fun h8 => ?_) (fun h8 => ?_)
    · skip
      replace hF := fe_pos hF h8
      refine g_ldc (v := -1000000002) d_X9_store_20 tw_396 ?_
      exact g_ireturn d_X9_store_22 rfl rfl rfl rfl ⟨rfl, hK0, (-1000000002 : Int32), rfl, hF⟩
    · skip
      replace hF := fe_neg hF h8
      refine g_iload_n d_X9_store_11 rfl ?_
      refine g_if_lt d_X9_store_12 (fun h12 => ?_) (fun h12 => ?_)
      · skip
        replace hF := fe_pos hF h12
        refine g_ldc (v := -1000000002) d_X9_store_20 tw_396 ?_
        exact g_ireturn d_X9_store_22 rfl rfl rfl rfl ⟨rfl, hK0, (-1000000002 : Int32), rfl, hF⟩
      · skip
        replace hF := fe_neg hF h12
        refine g_iload_n d_X9_store_15 rfl ?_
        refine g_iconst (v := 1) d_X9_store_16 kI_1 ?_
        refine g_icmp_le d_X9_store_17 (fun h17 => ?_) (fun h17 => ?_)
        · skip
          replace hF := fe_pos hF h17
          refine g_aload_n d_X9_store_23 rfl ?_
          refine g_getR d_X9_store_24 fq_RX9_89 rfl rfl ?_
          refine g_iload_n d_X9_store_27 rfl ?_
          refine g_aload_n d_X9_store_28 rfl ?_
          refine g_getR d_X9_store_29 fq_RX9_80 rfl rfl ?_
          refine g_getI d_X9_store_32 fq_RX9_314 rfl rfl ?_
          refine g_V2 d_X9_store_35 cs_X9_store_X8_findBestStore lk_RX9_373 im_X8_findBestStore se_X8_findBestStore rfl rfl rfl (Nat.le_of_ble_eq_true rfl) ⟨rfl, rfl⟩ ⟨Nat.zero_le _, Nat.zero_le _⟩ (ct_X8_findBestStore n (I 65 2) I J ) (fun r35 S35 I1 J2 q35_2 => ?_)
          obtain ⟨rfl, hc35_3, rfl, hf35_4⟩ := q35_2
          replace hF := fe_b2 hF hf35_4
          refine g_st (st' := []) rfl ?_
          have hK7 : XT I1 J2 = XT I J := hc35_3.trans hK0
          refine g_iload_n d_X9_store_38 rfl ?_
          refine g_if_ne d_X9_store_39 (fun h39 => ?_) (fun h39 => ?_)
          · skip
            replace hF := fe_neg hF h39
            refine g_aload_n d_X9_store_52 rfl ?_
            refine g_getR d_X9_store_53 fq_RX9_89 rfl rfl ?_
            refine g_getI d_X9_store_56 fq_RX9_349 rfl rfl ?_
            exact g_ireturn d_X9_store_59 rfl rfl rfl rfl ⟨rfl, hK7, (I1 67 8), rfl, hF⟩
          · skip
            replace hF := fe_pos hF h39
            refine g_aload_n d_X9_store_42 rfl ?_
            refine g_getR d_X9_store_43 fq_RX9_89 rfl rfl ?_
            refine g_getI d_X9_store_46 fq_RX9_358 rfl rfl ?_
            refine g_goto d_X9_store_49 ?_
            exact g_ireturn d_X9_store_59 rfl rfl rfl rfl ⟨rfl, hK7, (I1 67 7), rfl, hF⟩
        · skip
          replace hF := fe_neg hF h17
          refine g_ldc (v := -1000000002) d_X9_store_20 tw_396 ?_
          exact g_ireturn d_X9_store_22 rfl rfl rfl rfl ⟨rfl, hK0, (-1000000002 : Int32), rfl, hF⟩
noncomputable def fn_X9_seed (v_ : Int32) (I : Iv) (J : Jv) : Int32 × Iv × Jv :=
  if 0 ≤ v_ then l_t ((I 16 13)) (fun (v1 : Int32) => l_t (wI I 16 13 v_) (fun (I2 : Iv) => (v1, I2, J))) else ((-1000000002 : Int32), I, J)
set_option maxRecDepth 100000 in
set_option maxHeartbeats 4000000 in
theorem ct_X9_seed (v_ : Int32) (I : Iv) (J : Jv)  : Ct m_X9_seed [.ref 0, .int v_] SHF I J (fun r S' I' J' => S' = SHF ∧ XT I' J' = XT I J ∧ ∃ v : Int32, r = some (.int v) ∧ fn_X9_seed v_ I J = (v, I', J')) := by
  refine ct_of 1 (by decide +kernel) rfl rfl ?_
  have hK0 : XT I J = XT I J := rfl
  have hF := fe_of (fn_X9_seed.eq_1 v_ I J)
  refine g_iload_n d_X9_seed_0 rfl ?_
  refine g_if_ge d_X9_seed_1 (fun h1 => ?_) (fun h1 => ?_)
  · skip
    replace hF := fe_pos hF h1
    refine g_aload_n d_X9_seed_7 rfl ?_
    refine g_getR d_X9_seed_8 fq_RX9_42 rfl rfl ?_
    refine g_getI d_X9_seed_11 fq_RX9_376 rfl rfl ?_
    refine g_topI (fun v1 ev1 => ?_)
    replace hF := fe_lt hF ev1
    refine g_istore_n (L' := [some (.ref 0), some (.int v_), some (.int v1)]) d_X9_seed_14 (by decide) rfl ?_
    refine g_aload_n d_X9_seed_15 rfl ?_
    refine g_getR d_X9_seed_16 fq_RX9_42 rfl rfl ?_
    refine g_iload_n d_X9_seed_19 rfl ?_
    refine g_putI d_X9_seed_20 fq_RX9_376 rfl rfl ?_
    refine g_nmI (fun I2 eI2 => ?_)
    replace hF := fe_lt hF eI2
    have hK3 : XT I2 J = XT I J := (by rw [eI2]; exact (xt_wI rfl).trans hK0)
    refine g_iload_n d_X9_seed_23 rfl ?_
    exact g_ireturn d_X9_seed_24 rfl rfl rfl rfl ⟨rfl, hK3, v1, rfl, hF⟩
  · skip
    replace hF := fe_neg hF h1
    refine g_ldc (v := -1000000002) d_X9_seed_4 tw_396 ?_
    exact g_ireturn d_X9_seed_6 rfl rfl rfl rfl ⟨rfl, hK0, (-1000000002 : Int32), rfl, hF⟩
noncomputable def fn_X9_imageOf (i : Int32) (I : Iv) (J : Jv) : Nat × Iv × Jv :=
  if i = 0 then (25, I, J) else (34, I, J)
set_option maxRecDepth 100000 in
set_option maxHeartbeats 4000000 in
theorem ct_X9_imageOf (i : Int32) (I : Iv) (J : Jv)  : Ct m_X9_imageOf [.ref 0, .int i] SHF I J (fun r S' I' J' => S' = SHF ∧ I = I' ∧ J = J' ∧ ∃ a : Nat, r = some (.ref a) ∧ fn_X9_imageOf i I J = (a, I', J') ∧ a = iA i) := by
  refine ct_of 0 (by decide +kernel) rfl rfl ?_
  have hF := fe_of (fn_X9_imageOf.eq_1 i I J)
  refine g_iload_n d_X9_imageOf_0 rfl ?_
  refine g_if_ne d_X9_imageOf_1 (fun h1 => ?_) (fun h1 => ?_)
  · skip
    replace hF := fe_neg hF h1
    refine g_aload_n d_X9_imageOf_11 rfl ?_
    refine g_getR d_X9_imageOf_12 fq_RX9_49 rfl rfl ?_
    exact g_areturn d_X9_imageOf_15 rfl rfl rfl (Or.inl ⟨_, rfl⟩) ⟨rfl, rfl, rfl, 34, rfl, hF, (by simp [iA, *])⟩
  · skip
    replace hF := fe_pos hF h1
    refine g_aload_n d_X9_imageOf_4 rfl ?_
    refine g_getR d_X9_imageOf_5 fq_RX9_46 rfl rfl ?_
    refine g_goto d_X9_imageOf_8 ?_
    exact g_areturn d_X9_imageOf_15 rfl rfl rfl (Or.inl ⟨_, rfl⟩) ⟨rfl, rfl, rfl, 25, rfl, hF, (by simp [iA, *])⟩
noncomputable def fn_X9_keep (i : Int32) (I : Iv) (J : Jv) : Int32 × Iv × Jv :=
  if i < 0 then ((-1000000001 : Int32), I, J) else if i ≤ (1 : Int32) then b_n3 (fn_X9_imageOf i I J) (fun (r6 : Nat) (_ : Iv) (_ : Jv) => b_n2 (fn_X6_copyFrom (iA i) 16 I J) (fun (I8 : Iv) (J9 : Jv) => l_t (wI I8 43 (i.toNatClampNeg) (1 : Int32)) (fun (I15 : Iv) => ((1 : Int32), I15, J9)))) else ((-1000000001 : Int32), I, J)
set_option maxRecDepth 100000 in
set_option maxHeartbeats 4000000 in
theorem ct_X9_keep (i : Int32) (I : Iv) (J : Jv)  : Ct m_X9_keep [.ref 0, .int i] SHF I J (fun r S' I' J' => S' = SHF ∧ True ∧ ∃ v : Int32, r = some (.int v) ∧ fn_X9_keep i I J = (v, I', J') ∧ ((0 ≤ i ∧ i ≤ 1 ∧ v = 1 ∧ XT I' J' = XT (wI (kp I i) 43 i.toNatClampNeg 1) J) ∨ (¬ (0 ≤ i ∧ i ≤ 1) ∧ v = -1000000001 ∧ XT I' J' = XT I J))) := by
  refine ct_of 0 (by decide +kernel) rfl rfl ?_
  have hK0 : XT I J = XT I J := rfl
  have hF := fe_of (fn_X9_keep.eq_1 i I J)
  refine g_iload_n d_X9_keep_0 rfl ?_
  refine g_if_lt d_X9_keep_1 (fun h1 => ?_) (fun h1 => ?_)
  · skip
    replace hF := fe_pos hF h1
    refine g_ldc (v := -1000000001) d_X9_keep_9 tw_576 ?_
    exact g_ireturn d_X9_keep_11 rfl rfl rfl rfl ⟨rfl, trivial, (-1000000001 : Int32), rfl, hF, by grind⟩
  · skip
    replace hF := fe_neg hF h1
    refine g_iload_n d_X9_keep_4 rfl ?_
    refine g_iconst (v := 1) d_X9_keep_5 kI_1 ?_
    refine g_icmp_le d_X9_keep_6 (fun h6 => ?_) (fun h6 => ?_)
    · skip
      replace hF := fe_pos hF h6
      refine g_aload_n d_X9_keep_12 rfl ?_
      refine g_iload_n d_X9_keep_13 rfl ?_
      refine g_V1 d_X9_keep_14 cs_X9_keep_X9_imageOf lk_RX9_379 im_X9_imageOf se_X9_imageOf rfl rfl rfl (Nat.le_of_ble_eq_true rfl) ⟨rfl, rfl⟩ ⟨Nat.zero_le _, Nat.zero_le _⟩ (ct_X9_imageOf i I J ) (fun r14 S14 Ic2 Jc3 q14_0 => ?_)
      obtain ⟨rfl, rfl, rfl, r6, rfl, hf14_4, hr14_6⟩ := q14_0
      replace hF := fe_b3 hF hf14_4
      refine g_st (st' := [.ref r6]) rfl ?_
      subst hr14_6
      refine g_aload_n d_X9_keep_17 rfl ?_
      refine g_getR d_X9_keep_18 fq_RX9_42 rfl rfl ?_
      refine g_V1 d_X9_keep_21 cs_X9_keep_X6_copyFrom lk_RX9_383 im_X6_copyFrom se_X6_copyFrom (sa0 (stA_iA i)) rfl rfl (Nat.le_of_ble_eq_true rfl) ⟨rfl, rfl⟩ ⟨Nat.zero_le _, Nat.zero_le _⟩ (ct_X6_copyFrom  I J (stA_iA _) stA_16 (iA_16 _)) (fun r21 S21 I8 J9 q21_9 => ?_)
      obtain ⟨rfl, hc21_10, rfl, hf21_11, hr21_12⟩ := q21_9
      replace hF := fe_b2 hF hf21_11
      refine g_st (st' := []) rfl ?_
      have hK14 : XT I8 J9 = XT (kp I i) J := (xt_keep (i := i) hc21_10 hr21_12).trans (kp_cong hK0)
      refine g_aload_n d_X9_keep_24 rfl ?_
      refine g_getR d_X9_keep_25 fq_RX9_52 rfl rfl ?_
      refine g_iload_n d_X9_keep_28 rfl ?_
      refine g_iconst (v := 1) d_X9_keep_29 kI_1 ?_
      refine g_bastore (N := 2) d_X9_keep_30 rfl kT_2 (by constructor <;> grind) rfl (Or.inr rfl) ?_
      refine g_nmI (fun I15 eI15 => ?_)
      replace hF := fe_lt hF eI15
      have hK16 : XT I15 J9 = XT (wI (kp I i) 43 i.toNatClampNeg (1 : Int32)) J := ((congrArg (fun q => XT q _) eI15).trans (xt_cong hK14))
      refine g_iconst (v := 1) d_X9_keep_31 kI_1 ?_
      exact g_ireturn d_X9_keep_32 rfl rfl rfl rfl ⟨rfl, trivial, (1 : Int32), rfl, hF, by grind⟩
    · skip
      replace hF := fe_neg hF h6
      refine g_ldc (v := -1000000001) d_X9_keep_9 tw_576 ?_
      exact g_ireturn d_X9_keep_11 rfl rfl rfl rfl ⟨rfl, trivial, (-1000000001 : Int32), rfl, hF, by grind⟩
noncomputable def fn_X9_goBack (i : Int32) (I : Iv) (J : Jv) : Int32 × Iv × Jv :=
  if i < 0 then ((-1000000001 : Int32), I, J) else if i ≤ (1 : Int32) then if (I 43 i.toNatClampNeg) = 0 then ((-1000000003 : Int32), I, J) else b_n3 (fn_X9_imageOf i I J) (fun (r6 : Nat) (_ : Iv) (_ : Jv) => b_n2 (fn_X6_copyFrom 16 (iA i) I J) (fun (I8 : Iv) (J9 : Jv) => ((1 : Int32), I8, J9))) else ((-1000000001 : Int32), I, J)
set_option maxRecDepth 100000 in
set_option maxHeartbeats 4000000 in
theorem ct_X9_goBack (i : Int32) (I : Iv) (J : Jv)  : Ct m_X9_goBack [.ref 0, .int i] SHF I J (fun r S' I' J' => S' = SHF ∧ True ∧ ∃ v : Int32, r = some (.int v) ∧ fn_X9_goBack i I J = (v, I', J') ∧ ((0 ≤ i ∧ i ≤ 1 ∧ ¬ I 43 i.toNatClampNeg = 0 ∧ v = 1 ∧ XT I' J' = XT (gb I i) J) ∨ (¬ (0 ≤ i ∧ i ≤ 1) ∧ v = -1000000001 ∧ XT I' J' = XT I J) ∨ (0 ≤ i ∧ i ≤ 1 ∧ I 43 i.toNatClampNeg = 0 ∧ v = -1000000003 ∧ XT I' J' = XT I J))) := by
  refine ct_of 0 (by decide +kernel) rfl rfl ?_
  have hK0 : XT I J = XT I J := rfl
  have hF := fe_of (fn_X9_goBack.eq_1 i I J)
  refine g_iload_n d_X9_goBack_0 rfl ?_
  refine g_if_lt d_X9_goBack_1 (fun h1 => ?_) (fun h1 => ?_)
  · skip
    replace hF := fe_pos hF h1
    refine g_ldc (v := -1000000001) d_X9_goBack_9 tw_576 ?_
    exact g_ireturn d_X9_goBack_11 rfl rfl rfl rfl ⟨rfl, trivial, (-1000000001 : Int32), rfl, hF, by grind⟩
  · skip
    replace hF := fe_neg hF h1
    refine g_iload_n d_X9_goBack_4 rfl ?_
    refine g_iconst (v := 1) d_X9_goBack_5 kI_1 ?_
    refine g_icmp_le d_X9_goBack_6 (fun h6 => ?_) (fun h6 => ?_)
    · skip
      replace hF := fe_pos hF h6
      refine g_aload_n d_X9_goBack_12 rfl ?_
      refine g_getR d_X9_goBack_13 fq_RX9_52 rfl rfl ?_
      refine g_iload_n d_X9_goBack_16 rfl ?_
      refine g_baload (N := 2) d_X9_goBack_17 rfl kT_2 (by constructor <;> grind) rfl (fun hz17 => ?_)
      refine g_if_ne d_X9_goBack_18 (fun h18 => ?_) (fun h18 => ?_)
      · skip
        replace hF := fe_neg hF h18
        refine g_aload_n d_X9_goBack_25 rfl ?_
        refine g_getR d_X9_goBack_26 fq_RX9_42 rfl rfl ?_
        refine g_aload_n d_X9_goBack_29 rfl ?_
        refine g_iload_n d_X9_goBack_30 rfl ?_
        refine g_V1 d_X9_goBack_31 cs_X9_goBack_X9_imageOf lk_RX9_379 im_X9_imageOf se_X9_imageOf rfl rfl rfl (Nat.le_of_ble_eq_true rfl) ⟨rfl, rfl⟩ ⟨Nat.zero_le _, Nat.zero_le _⟩ (ct_X9_imageOf i I J ) (fun r31 S31 Ic2 Jc3 q31_0 => ?_)
        obtain ⟨rfl, rfl, rfl, r6, rfl, hf31_4, hr31_6⟩ := q31_0
        replace hF := fe_b3 hF hf31_4
        refine g_st (st' := [.ref r6, .ref 16]) rfl ?_
        subst hr31_6
        refine g_V1 d_X9_goBack_34 cs_X9_goBack_X6_copyFrom lk_RX9_383 im_X6_copyFrom se_X6_copyFrom rfl rfl rfl (Nat.le_of_ble_eq_true rfl) ⟨rfl, rfl⟩ ⟨Nat.zero_le _, Nat.zero_le _⟩ (ct_X6_copyFrom  I J stA_16 (stA_iA _) (Ne.symm (iA_16 _))) (fun r34 S34 I8 J9 q34_9 => ?_)
        obtain ⟨rfl, hc34_10, rfl, hf34_11, hr34_12⟩ := q34_9
        replace hF := fe_b2 hF hf34_11
        refine g_st (st' := []) rfl ?_
        have hK14 : XT I8 J9 = XT (gb I i) J := (xt_back (i := i) hc34_10 hr34_12)
        refine g_iconst (v := 1) d_X9_goBack_37 kI_1 ?_
        exact g_ireturn d_X9_goBack_38 rfl rfl rfl rfl ⟨rfl, trivial, (1 : Int32), rfl, hF, by grind⟩
      · skip
        replace hF := fe_pos hF h18
        refine g_ldcw (v := -1000000003) d_X9_goBack_21 tw_937 ?_
        exact g_ireturn d_X9_goBack_24 rfl rfl rfl rfl ⟨rfl, trivial, (-1000000003 : Int32), rfl, hF, by grind⟩
    · skip
      replace hF := fe_neg hF h6
      refine g_ldc (v := -1000000001) d_X9_goBack_9 tw_576 ?_
      exact g_ireturn d_X9_goBack_11 rfl rfl rfl rfl ⟨rfl, trivial, (-1000000001 : Int32), rfl, hF, by grind⟩
noncomputable def fl_X9_forget_10_0 (J : Jv) (Kf0 : Int32 → Iv → Int32 × Iv × Jv) : Nat → Int32 → Iv → Int32 × Iv × Jv
  | 0, x8, I9 => (0, I9, J)
  | kf0 + 1, x8, I9 => if (7 : Int32) ≤ x8 then Kf0 x8 I9 else l_t (wI I9 58 (x8.toNatClampNeg) (0 : Int32)) (fun (I12 : Iv) => fl_X9_forget_10_0 J Kf0 kf0 (x8 + (1 : Int32)) I12)
noncomputable def fn_X9_forget (I : Iv) (J : Jv) : Int32 × Iv × Jv :=
  b_n3 (fn_X2_howManySeen I J) (fun (r6 : Int32) (_ : Iv) (_ : Jv) => fl_X9_forget_10_0 J (fun (x8 : Int32) (I9 : Iv) => (r6, I9, J)) (mU (7 : Int32) ((0 : Int32)) + 1) (0 : Int32) I)
set_option maxRecDepth 100000 in
set_option maxHeartbeats 4000000 in
theorem ct_X9_forget  (I : Iv) (J : Jv)  : Ct m_X9_forget [.ref 0] SHF I J (fun r S' I' J' => S' = SHF ∧ XT I' J' = XT (rI I 58 (I' 58)) J ∧ ∃ v : Int32, r = some (.int v) ∧ fn_X9_forget I J = (v, I', J') ∧ v = cn (I 58) 7 ∧ (∀ k, k < 7 → I' 58 k = 0)) := by
  refine ct_of 2 (by decide +kernel) rfl rfl ?_
  have hK0 : XT I J = XT (rI I 58 (I 58)) J := (by rw [rI_own])
  have hF := fe_of (fn_X9_forget.eq_1 I J)
  refine g_aload_n d_X9_forget_0 rfl ?_
  refine g_getR d_X9_forget_1 fq_RX9_73 rfl rfl ?_
  refine g_V0 d_X9_forget_4 cs_X9_forget_X2_howManySeen lk_RX9_272 im_X2_howManySeen se_X2_howManySeen rfl rfl rfl (Nat.le_of_ble_eq_true rfl) ⟨rfl, rfl⟩ ⟨Nat.zero_le _, Nat.zero_le _⟩ (ct_X2_howManySeen  I J ) (fun r4 S4 Ic2 Jc3 q4_0 => ?_)
  obtain ⟨rfl, rfl, rfl, r6, rfl, hf4_4, hr4_6⟩ := q4_0
  replace hF := fe_b3 hF hf4_4
  refine g_st (st' := [.int r6]) rfl ?_
  have hcn := hr4_6
  refine g_istore_n (L' := [some (.ref 0), some (.int r6), none]) d_X9_forget_7 (by decide) rfl ?_
  refine g_iconst (v := 0) d_X9_forget_8 kI_0 ?_
  refine g_istore_n (L' := [some (.ref 0), some (.int r6), some (.int (0 : Int32))]) d_X9_forget_9 (by decide) rfl ?_
  obtain ⟨Kf0, hKf0, hF⟩ := fe_kx (f := fun K => fl_X9_forget_10_0 J K (mU (7 : Int32) ((0 : Int32)) + 1) (0 : Int32) I) hF
  have K_10 : ∀ (nu : Nat) (x8 : Int32) (I9 : Iv), mU (7 : Int32) x8 = nu → (XT I9 J = XT (rI I 58 (I9 58)) J) → ((0 : Int32) ≤ x8) → (∀ k, k < x8.toNatClampNeg → I9 58 k = 0) → (x8 ≤ 7) → (∃ kq : Nat, nu < kq ∧ (fun kq => FE (fn_X9_forget I J) (fun _ => fl_X9_forget_10_0 J Kf0 kq x8 I9)) kq) → G m_X9_forget (rq m_X9_forget (fun r S' I' J' => S' = SHF ∧ XT I' J' = XT (rI I 58 (I' 58)) J ∧ ∃ v : Int32, r = some (.int v) ∧ fn_X9_forget I J = (v, I', J') ∧ v = cn (I 58) 7 ∧ (∀ k, k < 7 → I' 58 k = 0))) 0 0 10 [some (.ref 0), some (.int r6), some (.int x8)] [] SHF I9 J := by
    intro nu
    induction nu using Nat.strongRecOn with
    | ind nu ih_10 =>
      intro x8 I9 hmu_10 hK10 hl11 hf_10 hi_10 hF_Kf0
      obtain ⟨kf0, hkf0, hF⟩ := fe_fu (P := fun kq => FE (fn_X9_forget I J) (fun _ => fl_X9_forget_10_0 J Kf0 kq x8 I9)) hF_Kf0
      replace hF := fe_eq hF (fl_X9_forget_10_0.eq_2 _ _ _ _ _)
      refine g_iload_n d_X9_forget_10 rfl ?_
      refine g_bipush (v := 7) d_X9_forget_11 kB_7 ?_
      refine g_icmp_ge d_X9_forget_13 (fun h13 => ?_) (fun h13 => ?_)
      · skip
        replace hF := fe_pos hF h13
        replace hF := fe_eq hF (congrFun (congrFun hKf0 x8) I9)
        refine g_iload_n d_X9_forget_32 rfl ?_
        exact g_ireturn d_X9_forget_33 rfl rfl rfl rfl ⟨rfl, hK10, r6, rfl, hF, ⟨hcn, fun k hk => hf_10 k (by rw [show x8 = 7 by grind, kN_7]; exact hk)⟩⟩
      · skip
        replace hF := fe_neg hF h13
        refine g_aload_n d_X9_forget_16 rfl ?_
        refine g_getR d_X9_forget_17 fq_RX9_73 rfl rfl ?_
        refine g_getR d_X9_forget_20 fq_RX9_263 rfl rfl ?_
        refine g_iload_n d_X9_forget_23 rfl ?_
        refine g_iconst (v := 0) d_X9_forget_24 kI_0 ?_
        refine g_bastore (N := 7) d_X9_forget_25 rfl kT_7 ⟨hl11, Int32.not_le.mp h13⟩ rfl (Or.inl rfl) ?_
        refine g_nmI (fun I12 eI12 => ?_)
        replace hF := fe_lt hF eI12
        have hK13 : XT I12 J = XT (rI I 58 (I12 58)) J := (by rw [eI12]; exact xt_forg hK10)
        refine g_iinc (v := (x8 + (1 : Int32))) (L' := [some (.ref 0), some (.int r6), some (.int (x8 + (1 : Int32)))]) d_X9_forget_26 rfl (by rw [kI_1]) (by decide) rfl ?_
        refine g_goto d_X9_forget_29 ?_
        exact ih_10 _ (by rw [← hmu_10]; exact mu_up h13) (x8 + (1 : Int32)) I12 rfl hK13 (lo_up hl11 h13) (by rw [eI12]; exact cn_clr hl11 h13 hf_10) (by grind) ⟨kf0, Nat.lt_of_lt_of_le (by rw [← hmu_10]; exact mu_up h13) hkf0, hF⟩
  exact K_10 _ (0 : Int32) I rfl hK0 (Int32.le_refl _) (fun k hk => absurd hk (by rw [kN_0]; omega)) (by decide) ⟨_, Nat.lt_succ_self _, hF⟩
