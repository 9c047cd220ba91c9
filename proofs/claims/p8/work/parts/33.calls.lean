set_option maxRecDepth 100000 in
set_option maxHeartbeats 4000000 in
theorem ct_X9_feed (n : Int32) (bytes : Int64) (I : Iv) (J : Jv) (hln : 0 ≤ I 1 1 ∧ I 1 1 ≤ 300) : Ct m_X9_feed [.ref 0, .int n, .long bytes] SHF I J (fun r S' I' J' => S' = SHF ∧ True ∧ ∃ v : Int32, r = some (.int v) ∧ ((1 ≤ n ∧ n ≤ 8 ∧ n ≤ 300 - I 1 1 ∧ v = I 1 1 + n ∧ XT I' J' = XT (wI I 1 1 (I 1 1 + n)) J) ∨ (1 ≤ n ∧ n ≤ 8 ∧ ¬ n ≤ 300 - I 1 1 ∧ v = -1000000004 ∧ XT I' J' = XT I J) ∨ (¬ (1 ≤ n ∧ n ≤ 8) ∧ v = -1000000002 ∧ XT I' J' = XT I J))) := by
  refine ct_of 0 (by decide +kernel) rfl rfl ?_
  have hK0 : True := trivial
  refine g_iload_n d_X9_feed_0 rfl ?_
  refine g_iconst (v := 1) d_X9_feed_1 kI_1 ?_
  refine g_icmp_lt d_X9_feed_2 (fun h2 => ?_) (fun h2 => ?_)
  · skip
    refine g_ldc (v := -1000000002) d_X9_feed_11 tw_396 ?_
    exact g_ireturn d_X9_feed_13 rfl rfl rfl rfl ⟨rfl, trivial, (-1000000002 : Int32), rfl, by grind⟩
  · skip
    refine g_iload_n d_X9_feed_5 rfl ?_
    refine g_bipush (v := 8) d_X9_feed_6 kB_8 ?_
    refine g_icmp_le d_X9_feed_8 (fun h8 => ?_) (fun h8 => ?_)
    · skip
      refine g_aload_n d_X9_feed_14 rfl ?_
      refine g_getR d_X9_feed_15 fq_RX9_10 rfl rfl ?_
      refine g_iload_n d_X9_feed_18 rfl ?_
      refine g_lload_n d_X9_feed_19 rfl ?_
      refine g_V2 d_X9_feed_20 cs_X9_feed_X5_append lk_RX9_101 im_X5_append se_X5_append rfl rfl rfl (Nat.le_of_ble_eq_true rfl) ⟨rfl, rfl⟩ ⟨Nat.zero_le _, Nat.zero_le _⟩ (ct_X5_append n bytes I J hln (by grind)) (fun r20 S20 I1 J2 q20_2 => ?_)
      obtain ⟨rfl, hc20_3, r5, rfl, hz20, hr20_5⟩ := q20_2
      refine g_st (st' := [.int r5]) rfl ?_
      have hK7 : True := trivial
      have hL : r5 = 1 → I1 1 1 = I 1 1 + n := by
                intro h; rcases hr20_5 with q | q
                · grind
                · rw [xt_len q.2.2]; simp [wI]
      refine g_if_eq d_X9_feed_23 (fun h23 => ?_) (fun h23 => ?_)
      · skip
        refine g_ldc (v := -1000000004) d_X9_feed_36 tw_402 ?_
        exact g_ireturn d_X9_feed_38 rfl rfl rfl rfl ⟨rfl, trivial, (-1000000004 : Int32), rfl, by grind⟩
      · skip
        refine g_aload_n d_X9_feed_26 rfl ?_
        refine g_getR d_X9_feed_27 fq_RX9_10 rfl rfl ?_
        refine g_getI d_X9_feed_30 fq_RX9_105 rfl rfl ?_
        refine g_goto d_X9_feed_33 ?_
        exact g_ireturn d_X9_feed_38 rfl rfl rfl rfl ⟨rfl, trivial, (I1 1 1), rfl, by grind⟩
    · skip
      refine g_ldc (v := -1000000002) d_X9_feed_11 tw_396 ?_
      exact g_ireturn d_X9_feed_13 rfl rfl rfl rfl ⟨rfl, trivial, (-1000000002 : Int32), rfl, by grind⟩
set_option maxRecDepth 100000 in
set_option maxHeartbeats 4000000 in
theorem ct_X9_box  (I : Iv) (J : Jv) (hln : 0 ≤ I 1 1 ∧ I 1 1 ≤ 300) : Ct m_X9_box [.ref 0] SHF I J (fun r S' I' J' => S' = SHF ∧ True ∧ ∃ v : Int32, r = some (.int v) ∧ (XT I' J' = XT (wI I 1 1 0) J ∨ XT I' J' = XT (wI (wI I 1 1 0) 24 0 0) J)) := by
  refine ct_of 0 (by decide +kernel) rfl rfl ?_
  have hK0 : XT I J = XT I J := rfl
  refine g_aload_n d_X9_box_0 rfl ?_
  refine g_getR d_X9_box_1 fq_RX9_10 rfl rfl ?_
  refine g_V0 d_X9_box_4 cs_X9_box_X5_readBox lk_RX9_110 im_X5_readBox se_X5_readBox rfl rfl rfl (Nat.le_of_ble_eq_true rfl) ⟨rfl, rfl⟩ ⟨Nat.zero_le _, Nat.zero_le _⟩ (ct_X5_readBox  I J hln) (fun r4 S4 I1 J2 q4_2 => ?_)
  obtain ⟨rfl, hc4_3, rfl⟩ := q4_2
  refine g_st (st' := []) rfl ?_
  have hK6 : XT I1 J2 = XT I J := hc4_3.trans hK0
  refine g_aload_n d_X9_box_7 rfl ?_
  refine g_getR d_X9_box_8 fq_RX9_10 rfl rfl ?_
  refine g_iconst (v := 0) d_X9_box_11 kI_0 ?_
  refine g_putI d_X9_box_12 fq_RX9_105 rfl rfl ?_
  refine g_nmI (fun I7 eI7 => ?_)
  have hK8 : XT I7 J2 = XT (wI I 1 1 (0 : Int32)) J := ((congrArg (fun q => XT q _) eI7).trans (xt_cong hK6))
  refine g_aload_n d_X9_box_15 rfl ?_
  refine g_getR d_X9_box_16 fq_RX9_10 rfl rfl ?_
  refine g_getI d_X9_box_19 fq_RX9_113 rfl rfl ?_
  refine g_if_eq d_X9_box_22 (fun h22 => ?_) (fun h22 => ?_)
  · skip
    refine g_aload_n d_X9_box_36 rfl ?_
    refine g_getR d_X9_box_37 fq_RX9_19 rfl rfl ?_
    refine g_aload_n d_X9_box_40 rfl ?_
    refine g_getR d_X9_box_41 fq_RX9_10 rfl rfl ?_
    refine g_getR d_X9_box_44 fq_RX9_116 rfl rfl ?_
    refine g_V1 d_X9_box_47 cs_X9_box_X0_copyFrom lk_RX9_120 im_X0_copyFrom se_X0_copyFrom rfl rfl rfl (Nat.le_of_ble_eq_true rfl) ⟨rfl, rfl⟩ ⟨Nat.zero_le _, Nat.zero_le _⟩ (ct_X0_copyFrom  I7 J2 ) (fun r47 S47 I9 J10 q47_10 => ?_)
    obtain ⟨rfl, hc47_11, rfl⟩ := q47_10
    refine g_st (st' := []) rfl ?_
    have hK14 : XT I9 J10 = XT (wI I 1 1 (0 : Int32)) J := hc47_11.trans hK8
    refine g_aload_n d_X9_box_50 rfl ?_
    refine g_getR d_X9_box_51 fq_RX9_42 rfl rfl ?_
    refine g_V0 d_X9_box_54 cs_X9_box_X6_becomeFresh lk_RX9_97 im_X6_becomeFresh se_X6_becomeFresh rfl rfl rfl (Nat.le_of_ble_eq_true rfl) ⟨rfl, rfl⟩ ⟨Nat.zero_le _, Nat.zero_le _⟩ (ct_X6_becomeFresh  I9 J10 stA_16) (fun r54 S54 I15 J16 q54_16 => ?_)
    obtain ⟨rfl, hc54_17, rfl, hr54_18⟩ := q54_16
    refine g_st (st' := []) rfl ?_
    have hK20 : XT I15 J16 = XT (wI (wI I 1 1 (0 : Int32)) 24 0 0) J := (xt_tick (xn_fsx (Or.inl rfl) hc54_17) hr54_18).trans (xt_cong hK14)
    refine g_aload_n d_X9_box_57 rfl ?_
    refine g_getR d_X9_box_58 fq_RX9_64 rfl rfl ?_
    refine g_V0 d_X9_box_61 cs_X9_box_X1_forgetSigns lk_RX9_124 im_X1_forgetSigns se_X1_forgetSigns rfl rfl rfl (Nat.le_of_ble_eq_true rfl) ⟨rfl, rfl⟩ ⟨Nat.zero_le _, Nat.zero_le _⟩ (ct_X1_forgetSigns  I15 J16 ) (fun r61 S61 I21 J22 q61_22 => ?_)
    obtain ⟨rfl, hc61_23, rfl⟩ := q61_22
    refine g_st (st' := []) rfl ?_
    have hK26 : XT I21 J22 = XT (wI (wI I 1 1 (0 : Int32)) 24 0 0) J := hc61_23.trans hK20
    refine g_aload_n d_X9_box_64 rfl ?_
    refine g_getR d_X9_box_65 fq_RX9_10 rfl rfl ?_
    refine g_getI d_X9_box_68 fq_RX9_127 rfl rfl ?_
    exact g_ireturn d_X9_box_71 rfl rfl rfl rfl ⟨rfl, trivial, (I21 1 5), rfl, by grind⟩
  · skip
    refine g_bipush (v := -10) d_X9_box_25 kB_m10 ?_
    refine g_aload_n d_X9_box_27 rfl ?_
    refine g_getR d_X9_box_28 fq_RX9_10 rfl rfl ?_
    refine g_getI d_X9_box_31 fq_RX9_113 rfl rfl ?_
    refine g_isub d_X9_box_34 ?_
    exact g_ireturn d_X9_box_35 rfl rfl rfl rfl ⟨rfl, trivial, ((-10 : Int32) - (I7 1 3)), rfl, by grind⟩
set_option maxRecDepth 100000 in
set_option maxHeartbeats 4000000 in
theorem ct_X9_day  (I : Iv) (J : Jv) (hln : 0 ≤ I 1 1 ∧ I 1 1 ≤ 300) : Ct m_X9_day [.ref 0] SHF I J (fun r S' I' J' => S' = SHF ∧ True ∧ ∃ v : Int32, r = some (.int v) ∧ (XT I' J' = XT (wI I 1 1 0) J)) := by
  refine ct_of 0 (by decide +kernel) rfl rfl ?_
  have hK0 : XT I J = XT I J := rfl
  refine g_aload_n d_X9_day_0 rfl ?_
  refine g_getR d_X9_day_1 fq_RX9_10 rfl rfl ?_
  refine g_V0 d_X9_day_4 cs_X9_day_X5_readDay lk_RX9_130 im_X5_readDay se_X5_readDay rfl rfl rfl (Nat.le_of_ble_eq_true rfl) ⟨rfl, rfl⟩ ⟨Nat.zero_le _, Nat.zero_le _⟩ (ct_X5_readDay  I J hln) (fun r4 S4 I1 J2 q4_2 => ?_)
  obtain ⟨rfl, hc4_3, rfl⟩ := q4_2
  refine g_st (st' := []) rfl ?_
  have hK6 : XT I1 J2 = XT I J := hc4_3.trans hK0
  refine g_aload_n d_X9_day_7 rfl ?_
  refine g_getR d_X9_day_8 fq_RX9_10 rfl rfl ?_
  refine g_iconst (v := 0) d_X9_day_11 kI_0 ?_
  refine g_putI d_X9_day_12 fq_RX9_105 rfl rfl ?_
  refine g_nmI (fun I7 eI7 => ?_)
  have hK8 : XT I7 J2 = XT (wI I 1 1 (0 : Int32)) J := ((congrArg (fun q => XT q _) eI7).trans (xt_cong hK6))
  refine g_aload_n d_X9_day_15 rfl ?_
  refine g_getR d_X9_day_16 fq_RX9_10 rfl rfl ?_
  refine g_getI d_X9_day_19 fq_RX9_113 rfl rfl ?_
  refine g_if_eq d_X9_day_22 (fun h22 => ?_) (fun h22 => ?_)
  · skip
    refine g_aload_n d_X9_day_36 rfl ?_
    refine g_getR d_X9_day_37 fq_RX9_26 rfl rfl ?_
    refine g_aload_n d_X9_day_40 rfl ?_
    refine g_getR d_X9_day_41 fq_RX9_10 rfl rfl ?_
    refine g_getI d_X9_day_44 fq_RX9_127 rfl rfl ?_
    refine g_aload_n d_X9_day_47 rfl ?_
    refine g_getR d_X9_day_48 fq_RX9_10 rfl rfl ?_
    refine g_getR d_X9_day_51 fq_RX9_133 rfl rfl ?_
    refine g_aload_n d_X9_day_54 rfl ?_
    refine g_getR d_X9_day_55 fq_RX9_10 rfl rfl ?_
    refine g_getR d_X9_day_58 fq_RX9_136 rfl rfl ?_
    refine g_V3 d_X9_day_61 cs_X9_day_X3_copyFrom lk_RX9_139 im_X3_copyFrom se_X3_copyFrom rfl rfl rfl (Nat.le_of_ble_eq_true rfl) ⟨rfl, rfl⟩ ⟨Nat.zero_le _, Nat.zero_le _⟩ (ct_X3_copyFrom (I7 1 5) I7 J2 ) (fun r61 S61 I9 J10 q61_10 => ?_)
    obtain ⟨rfl, hc61_11, rfl⟩ := q61_10
    refine g_st (st' := []) rfl ?_
    have hK14 : XT I9 J10 = XT (wI I 1 1 (0 : Int32)) J := hc61_11.trans hK8
    refine g_aload_n d_X9_day_64 rfl ?_
    refine g_getR d_X9_day_65 fq_RX9_64 rfl rfl ?_
    refine g_V0 d_X9_day_68 cs_X9_day_X1_forgetSigns lk_RX9_124 im_X1_forgetSigns se_X1_forgetSigns rfl rfl rfl (Nat.le_of_ble_eq_true rfl) ⟨rfl, rfl⟩ ⟨Nat.zero_le _, Nat.zero_le _⟩ (ct_X1_forgetSigns  I9 J10 ) (fun r68 S68 I15 J16 q68_16 => ?_)
    obtain ⟨rfl, hc68_17, rfl⟩ := q68_16
    refine g_st (st' := []) rfl ?_
    have hK20 : XT I15 J16 = XT (wI I 1 1 (0 : Int32)) J := hc68_17.trans hK14
    refine g_aload_n d_X9_day_71 rfl ?_
    refine g_getR d_X9_day_72 fq_RX9_10 rfl rfl ?_
    refine g_getI d_X9_day_75 fq_RX9_127 rfl rfl ?_
    exact g_ireturn d_X9_day_78 rfl rfl rfl rfl ⟨rfl, trivial, (I15 1 5), rfl, by grind⟩
  · skip
    refine g_bipush (v := -10) d_X9_day_25 kB_m10 ?_
    refine g_aload_n d_X9_day_27 rfl ?_
    refine g_getR d_X9_day_28 fq_RX9_10 rfl rfl ?_
    refine g_getI d_X9_day_31 fq_RX9_113 rfl rfl ?_
    refine g_isub d_X9_day_34 ?_
    exact g_ireturn d_X9_day_35 rfl rfl rfl rfl ⟨rfl, trivial, ((-10 : Int32) - (I7 1 3)), rfl, by grind⟩
set_option maxRecDepth 100000 in
set_option maxHeartbeats 4000000 in
theorem ct_X9_fault  (I : Iv) (J : Jv)  : Ct m_X9_fault [.ref 0] SHF I J (fun r S' I' J' => S' = SHF ∧ I = I' ∧ J = J' ∧ ∃ v : Int32, r = some (.int v)) := by
  refine ct_of 0 (by decide +kernel) rfl rfl ?_
  refine g_aload_n d_X9_fault_0 rfl ?_
  refine g_getR d_X9_fault_1 fq_RX9_10 rfl rfl ?_
  refine g_getI d_X9_fault_4 fq_RX9_142 rfl rfl ?_
  exact g_ireturn d_X9_fault_7 rfl rfl rfl rfl ⟨rfl, rfl, rfl, (I 1 4), rfl⟩
set_option maxRecDepth 100000 in
set_option maxHeartbeats 4000000 in
theorem ct_X9_told (what : Int32) (I : Iv) (J : Jv)  : Ct m_X9_told [.ref 0, .int what] SHF I J (fun r S' I' J' => S' = SHF ∧ I = I' ∧ J = J' ∧ ∃ v : Int32, r = some (.int v)) := by
  refine ct_of 0 (by decide +kernel) rfl rfl ?_
  refine g_iload_n d_X9_told_0 rfl ?_
  refine g_if_lt d_X9_told_1 (fun h1 => ?_) (fun h1 => ?_)
  · skip
    refine g_ldc (v := -1000000002) d_X9_told_10 tw_396 ?_
    refine g_goto d_X9_told_12 ?_
    exact g_ireturn d_X9_told_24 rfl rfl rfl rfl ⟨rfl, rfl, rfl, (-1000000002 : Int32), rfl⟩
  · skip
    refine g_iload_n d_X9_told_4 rfl ?_
    refine g_bipush (v := 15) d_X9_told_5 kB_15 ?_
    refine g_icmp_lt d_X9_told_7 (fun h7 => ?_) (fun h7 => ?_)
    · skip
      refine g_aload_n d_X9_told_15 rfl ?_
      refine g_getR d_X9_told_16 fq_RX9_19 rfl rfl ?_
      refine g_getR d_X9_told_19 fq_RX9_145 rfl rfl ?_
      refine g_iload_n d_X9_told_22 rfl ?_
      refine g_iaload (N := 15) d_X9_told_23 rfl kT_15 (by constructor <;> grind) rfl ?_
      exact g_ireturn d_X9_told_24 rfl rfl rfl rfl ⟨rfl, rfl, rfl, (I 8 what.toNatClampNeg), rfl⟩
    · skip
      refine g_ldc (v := -1000000002) d_X9_told_10 tw_396 ?_
      refine g_goto d_X9_told_12 ?_
      exact g_ireturn d_X9_told_24 rfl rfl rfl rfl ⟨rfl, rfl, rfl, (-1000000002 : Int32), rfl⟩
set_option maxRecDepth 100000 in
set_option maxHeartbeats 4000000 in
theorem ct_X9_opening (i : Int32) (what : Int32) (I : Iv) (J : Jv)  : Ct m_X9_opening [.ref 0, .int i, .int what] SHF I J (fun r S' I' J' => S' = SHF ∧ I = I' ∧ J = J' ∧ ∃ v : Int32, r = some (.int v)) := by
  refine ct_of 0 (by decide +kernel) rfl rfl ?_
  refine g_iload_n d_X9_opening_0 rfl ?_
  refine g_if_lt d_X9_opening_1 (fun h1 => ?_) (fun h1 => ?_)
  · skip
    refine g_ldc (v := -1000000002) d_X9_opening_9 tw_396 ?_
    exact g_ireturn d_X9_opening_11 rfl rfl rfl rfl ⟨rfl, rfl, rfl, (-1000000002 : Int32), rfl⟩
  · skip
    refine g_iload_n d_X9_opening_4 rfl ?_
    refine g_iconst (v := 1) d_X9_opening_5 kI_1 ?_
    refine g_icmp_le d_X9_opening_6 (fun h6 => ?_) (fun h6 => ?_)
    · skip
      refine g_iload_n d_X9_opening_12 rfl ?_
      refine g_if_lt d_X9_opening_13 (fun h13 => ?_) (fun h13 => ?_)
      · skip
        refine g_iconst (v := -1) d_X9_opening_33 kI_m1 ?_
        exact g_ireturn d_X9_opening_34 rfl rfl rfl rfl ⟨rfl, rfl, rfl, (-1 : Int32), rfl⟩
      · skip
        refine g_iload_n d_X9_opening_16 rfl ?_
        refine g_aload_n d_X9_opening_17 rfl ?_
        refine g_getR d_X9_opening_18 fq_RX9_26 rfl rfl ?_
        refine g_getI d_X9_opening_21 fq_RX9_146 rfl rfl ?_
        refine g_icmp_ge d_X9_opening_24 (fun h24 => ?_) (fun h24 => ?_)
        · skip
          refine g_iconst (v := -1) d_X9_opening_33 kI_m1 ?_
          exact g_ireturn d_X9_opening_34 rfl rfl rfl rfl ⟨rfl, rfl, rfl, (-1 : Int32), rfl⟩
        · skip
          refine g_iload_n d_X9_opening_27 rfl ?_
          refine g_bipush (v := 12) d_X9_opening_28 kB_12 ?_
          refine g_icmp_lt d_X9_opening_30 (fun h30 => ?_) (fun h30 => ?_)
          · skip
            refine g_iload_n d_X9_opening_35 rfl ?_
            refine g_if_ne d_X9_opening_36 (fun h36 => ?_) (fun h36 => ?_)
            · skip
              refine g_aload_n d_X9_opening_51 rfl ?_
              refine g_getR d_X9_opening_52 fq_RX9_26 rfl rfl ?_
              refine g_getR d_X9_opening_55 fq_RX9_150 rfl rfl ?_
              refine g_iload_n d_X9_opening_58 rfl ?_
              refine g_iaload (N := 12) d_X9_opening_59 rfl kT_12 (by constructor <;> grind) rfl ?_
              exact g_ireturn d_X9_opening_60 rfl rfl rfl rfl ⟨rfl, rfl, rfl, (I 11 i.toNatClampNeg), rfl⟩
            · skip
              refine g_aload_n d_X9_opening_39 rfl ?_
              refine g_getR d_X9_opening_40 fq_RX9_26 rfl rfl ?_
              refine g_getR d_X9_opening_43 fq_RX9_149 rfl rfl ?_
              refine g_iload_n d_X9_opening_46 rfl ?_
              refine g_iaload (N := 12) d_X9_opening_47 rfl kT_12 (by constructor <;> grind) rfl ?_
              refine g_goto d_X9_opening_48 ?_
              exact g_ireturn d_X9_opening_60 rfl rfl rfl rfl ⟨rfl, rfl, rfl, (I 10 i.toNatClampNeg), rfl⟩
          · skip
            refine g_iconst (v := -1) d_X9_opening_33 kI_m1 ?_
            exact g_ireturn d_X9_opening_34 rfl rfl rfl rfl ⟨rfl, rfl, rfl, (-1 : Int32), rfl⟩
    · skip
      refine g_ldc (v := -1000000002) d_X9_opening_9 tw_396 ?_
      exact g_ireturn d_X9_opening_11 rfl rfl rfl rfl ⟨rfl, rfl, rfl, (-1000000002 : Int32), rfl⟩
set_option maxRecDepth 100000 in
set_option maxHeartbeats 4000000 in
theorem ct_X9_trouble (set : Int32) (I : Iv) (J : Jv)  : Ct m_X9_trouble [.ref 0, .int set] SHF I J (fun r S' I' J' => S' = SHF ∧ True ∧ ∃ v : Int32, r = some (.int v) ∧ ((0 ≤ set ∧ set ≤ 127 ∧ v = I 16 8 ∧ XT I' J' = XT (wI I 16 8 set) J) ∨ (¬ (0 ≤ set ∧ set ≤ 127) ∧ v = -1000000001 ∧ XT I' J' = XT I J))) := by
  refine ct_of 1 (by decide +kernel) rfl rfl ?_
  have hK0 : XT I J = XT I J := rfl
  refine g_iload_n d_X9_trouble_0 rfl ?_
  refine g_S1 d_X9_trouble_1 cs_X9_trouble_X9_isSet lk_RX9_151 im_X9_isSet (Nat.le_of_ble_eq_true rfl) ⟨rfl, rfl⟩ ⟨Nat.zero_le _, Nat.zero_le _⟩ (ct_X9_isSet set I J ) (fun r1 S1 Ic2 Jc3 q1_0 => ?_)
  obtain ⟨rfl, rfl, rfl, r5, rfl, hz1, hr1_5⟩ := q1_0
  refine g_st (st' := [.int r5]) rfl ?_
  refine g_if_ne d_X9_trouble_4 (fun h4 => ?_) (fun h4 => ?_)
  · skip
    refine g_aload_n d_X9_trouble_10 rfl ?_
    refine g_getR d_X9_trouble_11 fq_RX9_42 rfl rfl ?_
    refine g_getI d_X9_trouble_14 fq_RX9_156 rfl rfl ?_
    refine g_topI (fun v7 ev7 => ?_)
    refine g_istore_n (L' := [some (.ref 0), some (.int set), some (.int v7)]) d_X9_trouble_17 (by decide) rfl ?_
    refine g_aload_n d_X9_trouble_18 rfl ?_
    refine g_getR d_X9_trouble_19 fq_RX9_42 rfl rfl ?_
    refine g_iload_n d_X9_trouble_22 rfl ?_
    refine g_putI d_X9_trouble_23 fq_RX9_156 rfl rfl ?_
    refine g_nmI (fun I8 eI8 => ?_)
    have hK9 : XT I8 J = XT (wI I 16 8 set) J := ((congrArg (fun q => XT q _) eI8).trans (xt_cong hK0))
    refine g_iload_n d_X9_trouble_26 rfl ?_
    refine g_iconst (v := 2) d_X9_trouble_27 kI_2 ?_
    refine g_iand d_X9_trouble_28 ?_
    refine g_if_eq d_X9_trouble_29 (fun h29 => ?_) (fun h29 => ?_)
    · skip
      refine g_iload_n d_X9_trouble_62 rfl ?_
      exact g_ireturn d_X9_trouble_63 rfl rfl rfl rfl ⟨rfl, trivial, v7, rfl, by grind⟩
    · skip
      refine g_iload_n d_X9_trouble_32 rfl ?_
      refine g_iconst (v := 2) d_X9_trouble_33 kI_2 ?_
      refine g_iand d_X9_trouble_34 ?_
      refine g_if_ne d_X9_trouble_35 (fun h35 => ?_) (fun h35 => ?_)
      · skip
        refine g_iload_n d_X9_trouble_62 rfl ?_
        exact g_ireturn d_X9_trouble_63 rfl rfl rfl rfl ⟨rfl, trivial, v7, rfl, by grind⟩
      · skip
        refine g_aload_n d_X9_trouble_38 rfl ?_
        refine g_getR d_X9_trouble_39 fq_RX9_42 rfl rfl ?_
        refine g_getR d_X9_trouble_42 fq_RX9_159 rfl rfl ?_
        refine g_iconst (v := 5) d_X9_trouble_45 kI_5 ?_
        refine g_aload_n d_X9_trouble_46 rfl ?_
        refine g_getR d_X9_trouble_47 fq_RX9_42 rfl rfl ?_
        refine g_getR d_X9_trouble_50 fq_RX9_159 rfl rfl ?_
        refine g_iconst (v := 5) d_X9_trouble_53 kI_5 ?_
        refine g_iaload (N := 8) d_X9_trouble_54 rfl kT_8 ⟨by decide, by decide⟩ kN_5 ?_
        refine g_sipush (v := 600) d_X9_trouble_55 kS_600 ?_
        refine g_mmax d_X9_trouble_58 tw_577 tw_555 tw_18 tw_556 ⟨by decide, by decide⟩ ⟨Nat.zero_le _, Nat.zero_le _⟩ (Nat.le_of_ble_eq_true rfl) ?_
        refine g_iastore (N := 8) d_X9_trouble_61 rfl kT_8 ⟨by decide, by decide⟩ kN_5  ?_
        refine g_nmI (fun I10 eI10 => ?_)
        have hK11 : XT I10 J = XT (wI I 16 8 set) J := (by rw [eI10]; exact (xt_wI rfl).trans hK9)
        refine g_iload_n d_X9_trouble_62 rfl ?_
        exact g_ireturn d_X9_trouble_63 rfl rfl rfl rfl ⟨rfl, trivial, v7, rfl, by grind⟩
  · skip
    refine g_ldc (v := -1000000001) d_X9_trouble_7 tw_576 ?_
    exact g_ireturn d_X9_trouble_9 rfl rfl rfl rfl ⟨rfl, trivial, (-1000000001 : Int32), rfl, by grind⟩
set_option maxRecDepth 100000 in
set_option maxHeartbeats 4000000 in
theorem ct_X9_fresh  (I : Iv) (J : Jv)  : Ct m_X9_fresh [.ref 0] SHF I J (fun r S' I' J' => S' = SHF ∧ True ∧ ∃ v : Int32, r = some (.int v) ∧ (v = I 24 0 ∧ XT I' J' = XT (wI I 24 0 0) J)) := by
  refine ct_of 1 (by decide +kernel) rfl rfl ?_
  have hK0 : XT I J = XT I J := rfl
  refine g_aload_n d_X9_fresh_0 rfl ?_
  refine g_getR d_X9_fresh_1 fq_RX9_42 rfl rfl ?_
  refine g_getR d_X9_fresh_4 fq_RX9_159 rfl rfl ?_
  refine g_iconst (v := 0) d_X9_fresh_7 kI_0 ?_
  refine g_iaload (N := 8) d_X9_fresh_8 rfl kT_8 ⟨by decide, by decide⟩ kN_0 ?_
  refine g_topI (fun v1 ev1 => ?_)
  refine g_istore_n (L' := [some (.ref 0), some (.int v1)]) d_X9_fresh_9 (by decide) rfl ?_
  refine g_aload_n d_X9_fresh_10 rfl ?_
  refine g_getR d_X9_fresh_11 fq_RX9_42 rfl rfl ?_
  refine g_V0 d_X9_fresh_14 cs_X9_fresh_X6_becomeFresh lk_RX9_97 im_X6_becomeFresh se_X6_becomeFresh rfl rfl rfl (Nat.le_of_ble_eq_true rfl) ⟨rfl, rfl⟩ ⟨Nat.zero_le _, Nat.zero_le _⟩ (ct_X6_becomeFresh  I J stA_16) (fun r14 S14 I2 J3 q14_3 => ?_)
  obtain ⟨rfl, hc14_4, rfl, hr14_5⟩ := q14_3
  refine g_st (st' := []) rfl ?_
  have hK7 : XT I2 J3 = XT (wI I 24 0 0) J := (xt_tick (xn_fsx (Or.inl rfl) hc14_4) hr14_5).trans (xt_cong hK0)
  refine g_iload_n d_X9_fresh_17 rfl ?_
  exact g_ireturn d_X9_fresh_18 rfl rfl rfl rfl ⟨rfl, trivial, v1, rfl, by grind⟩
set_option maxRecDepth 100000 in
set_option maxHeartbeats 4000000 in
theorem ct_X9_current (on : Int32) (I : Iv) (J : Jv) (hon : on = 0 ∨ on = 1) : Ct m_X9_current [.ref 0, .int on] SHF I J (fun r S' I' J' => S' = SHF ∧ True ∧ ∃ v : Int32, r = some (.int v) ∧ (v = I 16 12 ∧ XT I' J' = XT (wI I 16 12 on) J)) := by
  refine ct_of 1 (by decide +kernel) rfl rfl ?_
  have hK0 : XT I J = XT I J := rfl
  refine g_aload_n d_X9_current_0 rfl ?_
  refine g_getR d_X9_current_1 fq_RX9_42 rfl rfl ?_
  refine g_getZ d_X9_current_4 fq_RX9_93 rfl rfl (fun hz4 => ?_)
  have J_15 : ∀ (w1 : Int32), (w1 = 0 ∨ w1 = 1) → (w1 = I 16 12) → G m_X9_current (rq m_X9_current (fun r S' I' J' => S' = SHF ∧ True ∧ ∃ v : Int32, r = some (.int v) ∧ (v = I 16 12 ∧ XT I' J' = XT (wI I 16 12 on) J))) 0 0 15 [some (.ref 0), some (.int on), none] [.int w1] SHF I J := by
    intro w1 hw1 hw_15
    refine g_istore_n (L' := [some (.ref 0), some (.int on), some (.int w1)]) d_X9_current_15 (by decide) rfl ?_
    refine g_aload_n d_X9_current_16 rfl ?_
    refine g_getR d_X9_current_17 fq_RX9_42 rfl rfl ?_
    refine g_iload_n d_X9_current_20 rfl ?_
    refine g_putZ d_X9_current_21 fq_RX9_93 rfl rfl (by assumption) ?_
    refine g_nmI (fun I2 eI2 => ?_)
    have hK3 : XT I2 J = XT (wI I 16 12 on) J := ((congrArg (fun q => XT q _) eI2).trans (xt_cong hK0))
    refine g_iload_n d_X9_current_24 rfl ?_
    exact g_ireturn d_X9_current_25 rfl rfl rfl rfl ⟨rfl, trivial, w1, rfl, by grind⟩
  refine g_if_eq d_X9_current_7 (fun h7 => ?_) (fun h7 => ?_)
  · skip
    refine g_iconst (v := 0) d_X9_current_14 kI_0 ?_
    exact J_15 ((0 : Int32)) (Or.inl rfl) (by grind)
  · skip
    refine g_iconst (v := 1) d_X9_current_10 kI_1 ?_
    refine g_goto d_X9_current_11 ?_
    exact J_15 ((1 : Int32)) (Or.inr rfl) (by grind)
set_option maxRecDepth 100000 in
set_option maxHeartbeats 4000000 in
theorem ct_X9_cover (on : Int32) (I : Iv) (J : Jv) (hon : on = 0 ∨ on = 1) : Ct m_X9_cover [.ref 0, .int on] SHF I J (fun r S' I' J' => S' = SHF ∧ XT I' J' = XT I J ∧ ∃ v : Int32, r = some (.int v)) := by
  refine ct_of 1 (by decide +kernel) rfl rfl ?_
  have hK0 : XT I J = XT I J := rfl
  refine g_aload_n d_X9_cover_0 rfl ?_
  refine g_getR d_X9_cover_1 fq_RX9_42 rfl rfl ?_
  refine g_getZ d_X9_cover_4 fq_RX9_168 rfl rfl (fun hz4 => ?_)
  have J_15 : ∀ (w1 : Int32), (w1 = 0 ∨ w1 = 1) → G m_X9_cover (rq m_X9_cover (fun r S' I' J' => S' = SHF ∧ XT I' J' = XT I J ∧ ∃ v : Int32, r = some (.int v))) 0 0 15 [some (.ref 0), some (.int on), none] [.int w1] SHF I J := by
    intro w1 hw1
    refine g_istore_n (L' := [some (.ref 0), some (.int on), some (.int w1)]) d_X9_cover_15 (by decide) rfl ?_
    refine g_aload_n d_X9_cover_16 rfl ?_
    refine g_getR d_X9_cover_17 fq_RX9_42 rfl rfl ?_
    refine g_iload_n d_X9_cover_20 rfl ?_
    refine g_putZ d_X9_cover_21 fq_RX9_168 rfl rfl (by assumption) ?_
    refine g_nmI (fun I2 eI2 => ?_)
    have hK3 : XT I2 J = XT I J := (by rw [eI2]; exact (xt_wI rfl).trans hK0)
    refine g_iload_n d_X9_cover_24 rfl ?_
    exact g_ireturn d_X9_cover_25 rfl rfl rfl rfl ⟨rfl, hK3, w1, rfl⟩
  refine g_if_eq d_X9_cover_7 (fun h7 => ?_) (fun h7 => ?_)
  · skip
    refine g_iconst (v := 0) d_X9_cover_14 kI_0 ?_
    exact J_15 ((0 : Int32)) (Or.inl rfl)
  · skip
    refine g_iconst (v := 1) d_X9_cover_10 kI_1 ?_
    refine g_goto d_X9_cover_11 ?_
    exact J_15 ((1 : Int32)) (Or.inr rfl)
set_option maxRecDepth 100000 in
set_option maxHeartbeats 4000000 in
theorem ct_X9_put (s : Int32) (w : Int32) (c : Int32) (low : Int32) (high : Int32) (I : Iv) (J : Jv)  : Ct m_X9_put [.ref 0, .int s, .int w, .int c, .int low, .int high] SHF I J (fun r S' I' J' => S' = SHF ∧ XT I' J' = XT I J ∧ ∃ v : Int32, r = some (.int v)) := by
  refine ct_of 1 (by decide +kernel) rfl rfl ?_
  have hK0 : XT I J = XT I J := rfl
  refine g_iload_n d_X9_put_0 rfl ?_
  refine g_S1 d_X9_put_1 cs_X9_put_X9_isShelf lk_RX9_171 im_X9_isShelf (Nat.le_of_ble_eq_true rfl) ⟨rfl, rfl⟩ ⟨Nat.zero_le _, Nat.zero_le _⟩ (ct_X9_isShelf s I J ) (fun r1 S1 Ic2 Jc3 q1_0 => ?_)
  obtain ⟨rfl, rfl, rfl, r5, rfl, hz1, hr1_5⟩ := q1_0
  refine g_st (st' := [.int r5]) rfl ?_
  refine g_if_ne d_X9_put_4 (fun h4 => ?_) (fun h4 => ?_)
  · skip
    refine g_iload_n d_X9_put_10 rfl ?_
    refine g_S1 d_X9_put_11 cs_X9_put_X9_canBeWarmth lk_RX9_174 im_X9_canBeWarmth (Nat.le_of_ble_eq_true rfl) ⟨rfl, rfl⟩ ⟨Nat.zero_le _, Nat.zero_le _⟩ (ct_X9_canBeWarmth w I J ) (fun r11 S11 Ic8 Jc9 q11_6 => ?_)
    obtain ⟨rfl, rfl, rfl, r11, rfl, hz11, hr11_11⟩ := q11_6
    refine g_st (st' := [.int r11]) rfl ?_
    refine g_if_eq d_X9_put_14 (fun h14 => ?_) (fun h14 => ?_)
    · skip
      refine g_ldc (v := -1000000002) d_X9_put_29 tw_396 ?_
      exact g_ireturn d_X9_put_31 rfl rfl rfl rfl ⟨rfl, hK0, (-1000000002 : Int32), rfl⟩
    · skip
      refine g_iload_n d_X9_put_17 rfl ?_
      refine g_iconst (v := 1) d_X9_put_18 kI_1 ?_
      refine g_icmp_lt d_X9_put_19 (fun h19 => ?_) (fun h19 => ?_)
      · skip
        refine g_ldc (v := -1000000002) d_X9_put_29 tw_396 ?_
        exact g_ireturn d_X9_put_31 rfl rfl rfl rfl ⟨rfl, hK0, (-1000000002 : Int32), rfl⟩
      · skip
        refine g_iload_n d_X9_put_22 rfl ?_
        refine g_sipush (v := 200) d_X9_put_23 kS_200 ?_
        refine g_icmp_le d_X9_put_26 (fun h26 => ?_) (fun h26 => ?_)
        · skip
          refine g_iload d_X9_put_32 rfl ?_
          refine g_S1 d_X9_put_34 cs_X9_put_X9_canBeWarmth lk_RX9_174 im_X9_canBeWarmth (Nat.le_of_ble_eq_true rfl) ⟨rfl, rfl⟩ ⟨Nat.zero_le _, Nat.zero_le _⟩ (ct_X9_canBeWarmth low I J ) (fun r34 S34 Ic14 Jc15 q34_12 => ?_)
          obtain ⟨rfl, rfl, rfl, r17, rfl, hz34, hr34_17⟩ := q34_12
          refine g_st (st' := [.int r17]) rfl ?_
          refine g_if_eq d_X9_put_37 (fun h37 => ?_) (fun h37 => ?_)
          · skip
            refine g_ldc (v := -1000000002) d_X9_put_55 tw_396 ?_
            exact g_ireturn d_X9_put_57 rfl rfl rfl rfl ⟨rfl, hK0, (-1000000002 : Int32), rfl⟩
          · skip
            refine g_iload d_X9_put_40 rfl ?_
            refine g_S1 d_X9_put_42 cs_X9_put_X9_canBeWarmth lk_RX9_174 im_X9_canBeWarmth (Nat.le_of_ble_eq_true rfl) ⟨rfl, rfl⟩ ⟨Nat.zero_le _, Nat.zero_le _⟩ (ct_X9_canBeWarmth high I J ) (fun r42 S42 Ic20 Jc21 q42_18 => ?_)
            obtain ⟨rfl, rfl, rfl, r23, rfl, hz42, hr42_23⟩ := q42_18
            refine g_st (st' := [.int r23]) rfl ?_
            refine g_if_eq d_X9_put_45 (fun h45 => ?_) (fun h45 => ?_)
            · skip
              refine g_ldc (v := -1000000002) d_X9_put_55 tw_396 ?_
              exact g_ireturn d_X9_put_57 rfl rfl rfl rfl ⟨rfl, hK0, (-1000000002 : Int32), rfl⟩
            · skip
              refine g_iload d_X9_put_48 rfl ?_
              refine g_iload d_X9_put_50 rfl ?_
              refine g_icmp_ge d_X9_put_52 (fun h52 => ?_) (fun h52 => ?_)
              · skip
                refine g_aload_n d_X9_put_58 rfl ?_
                refine g_getR d_X9_put_59 fq_RX9_42 rfl rfl ?_
                refine g_V0 d_X9_put_62 cs_X9_put_X6_firstNotThere lk_RX9_177 im_X6_firstNotThere se_X6_firstNotThere rfl rfl rfl (Nat.le_of_ble_eq_true rfl) ⟨rfl, rfl⟩ ⟨Nat.zero_le _, Nat.zero_le _⟩ (ct_X6_firstNotThere  I J stA_16) (fun r62 S62 Ic26 Jc27 q62_24 => ?_)
                obtain ⟨rfl, rfl, rfl, r29, rfl, hr62_29⟩ := q62_24
                refine g_st (st' := [.int r29]) rfl ?_
                refine g_istore (L' := [some (.ref 0), some (.int s), some (.int w), some (.int c), some (.int low), some (.int high), some (.int r29)]) d_X9_put_65 (by decide) rfl ?_
                refine g_iload d_X9_put_67 rfl ?_
                refine g_if_ge d_X9_put_69 (fun h69 => ?_) (fun h69 => ?_)
                · skip
                  refine g_aload_n d_X9_put_75 rfl ?_
                  refine g_getR d_X9_put_76 fq_RX9_42 rfl rfl ?_
                  refine g_getR d_X9_put_79 fq_RX9_181 rfl rfl ?_
                  refine g_iload d_X9_put_82 rfl ?_
                  refine g_iload d_X9_put_84 rfl ?_
                  refine g_iastore (N := 8) d_X9_put_86 rfl kT_8 (by constructor <;> grind) rfl  ?_
                  refine g_nmI (fun I31 eI31 => ?_)
                  have hK32 : XT I31 J = XT I J := (by rw [eI31]; exact (xt_wI rfl).trans hK0)
                  refine g_aload_n d_X9_put_87 rfl ?_
                  refine g_getR d_X9_put_88 fq_RX9_42 rfl rfl ?_
                  refine g_getR d_X9_put_91 fq_RX9_184 rfl rfl ?_
                  refine g_iload d_X9_put_94 rfl ?_
                  refine g_iload d_X9_put_96 rfl ?_
                  refine g_iastore (N := 8) d_X9_put_98 rfl kT_8 (by constructor <;> grind) rfl  ?_
                  refine g_nmI (fun I33 eI33 => ?_)
                  have hK34 : XT I33 J = XT I J := (by rw [eI33]; exact (xt_wI rfl).trans hK32)
                  refine g_aload_n d_X9_put_99 rfl ?_
                  refine g_getR d_X9_put_100 fq_RX9_42 rfl rfl ?_
                  refine g_iload d_X9_put_103 rfl ?_
                  refine g_iload_n d_X9_put_105 rfl ?_
                  refine g_iload_n d_X9_put_106 rfl ?_
                  refine g_iload_n d_X9_put_107 rfl ?_
                  refine g_V4 d_X9_put_108 cs_X9_put_X6_addFood lk_RX9_187 im_X6_addFood se_X6_addFood rfl rfl rfl (Nat.le_of_ble_eq_true rfl) ⟨rfl, rfl⟩ ⟨Nat.zero_le _, Nat.zero_le _⟩ (ct_X6_addFood r29 s w c I33 J stA_16) (fun r108 S108 I35 J36 q108_36 => ?_)
                  obtain ⟨rfl, hc108_37, rfl⟩ := q108_36
                  refine g_st (st' := []) rfl ?_
                  have hK40 : XT I35 J36 = XT I J := (xt_fs16 hc108_37).trans hK34
                  refine g_iload d_X9_put_111 rfl ?_
                  exact g_ireturn d_X9_put_113 rfl rfl rfl rfl ⟨rfl, hK40, r29, rfl⟩
                · skip
                  refine g_ldc (v := -1000000004) d_X9_put_72 tw_402 ?_
                  exact g_ireturn d_X9_put_74 rfl rfl rfl rfl ⟨rfl, hK0, (-1000000004 : Int32), rfl⟩
              · skip
                refine g_ldc (v := -1000000002) d_X9_put_55 tw_396 ?_
                exact g_ireturn d_X9_put_57 rfl rfl rfl rfl ⟨rfl, hK0, (-1000000002 : Int32), rfl⟩
        · skip
          refine g_ldc (v := -1000000002) d_X9_put_29 tw_396 ?_
          exact g_ireturn d_X9_put_31 rfl rfl rfl rfl ⟨rfl, hK0, (-1000000002 : Int32), rfl⟩
  · skip
    refine g_ldc (v := -1000000001) d_X9_put_7 tw_576 ?_
    exact g_ireturn d_X9_put_9 rfl rfl rfl rfl ⟨rfl, hK0, (-1000000001 : Int32), rfl⟩
set_option maxRecDepth 100000 in
set_option maxHeartbeats 4000000 in
theorem ct_X9_take (f : Int32) (I : Iv) (J : Jv)  : Ct m_X9_take [.ref 0, .int f] SHF I J (fun r S' I' J' => S' = SHF ∧ XT I' J' = XT I J ∧ ∃ v : Int32, r = some (.int v)) := by
  refine ct_of 1 (by decide +kernel) rfl rfl ?_
  have hK0 : XT I J = XT I J := rfl
  refine g_aload_n d_X9_take_0 rfl ?_
  refine g_getR d_X9_take_1 fq_RX9_42 rfl rfl ?_
  refine g_iload_n d_X9_take_4 rfl ?_
  refine g_V1 d_X9_take_5 cs_X9_take_X6_hasFood lk_RX9_191 im_X6_hasFood se_X6_hasFood rfl rfl rfl (Nat.le_of_ble_eq_true rfl) ⟨rfl, rfl⟩ ⟨Nat.zero_le _, Nat.zero_le _⟩ (ct_X6_hasFood f I J stA_16) (fun r5 S5 Ic2 Jc3 q5_0 => ?_)
  obtain ⟨rfl, rfl, rfl, r5, rfl, hz5, hr5_5⟩ := q5_0
  refine g_st (st' := [.int r5]) rfl ?_
  refine g_if_ne d_X9_take_8 (fun h8 => ?_) (fun h8 => ?_)
  · skip
    refine g_aload_n d_X9_take_14 rfl ?_
    refine g_getR d_X9_take_15 fq_RX9_42 rfl rfl ?_
    refine g_iconst (v := 4) d_X9_take_18 kI_4 ?_
    refine g_iload_n d_X9_take_19 rfl ?_
    refine g_iadd d_X9_take_20 ?_
    refine g_V1 d_X9_take_21 cs_X9_take_X6_warmthOf lk_RX9_194 im_X6_warmthOf se_X6_warmthOf rfl rfl rfl (Nat.le_of_ble_eq_true rfl) ⟨rfl, rfl⟩ ⟨Nat.zero_le _, Nat.zero_le _⟩ (ct_X6_warmthOf ((4 : Int32) + f) I J stA_16) (fun r21 S21 Ic8 Jc9 q21_6 => ?_)
    obtain ⟨rfl, rfl, rfl, r11, rfl⟩ := q21_6
    refine g_st (st' := [.int r11]) rfl ?_
    refine g_istore_n (L' := [some (.ref 0), some (.int f), some (.int r11)]) d_X9_take_24 (by decide) rfl ?_
    refine g_aload_n d_X9_take_25 rfl ?_
    refine g_getR d_X9_take_26 fq_RX9_42 rfl rfl ?_
    refine g_iload_n d_X9_take_29 rfl ?_
    refine g_V1 d_X9_take_30 cs_X9_take_X6_removeFood lk_RX9_198 im_X6_removeFood se_X6_removeFood rfl rfl rfl (Nat.le_of_ble_eq_true rfl) ⟨rfl, rfl⟩ ⟨Nat.zero_le _, Nat.zero_le _⟩ (ct_X6_removeFood f I J stA_16) (fun r30 S30 I13 J14 q30_14 => ?_)
    obtain ⟨rfl, hc30_15, rfl⟩ := q30_14
    refine g_st (st' := []) rfl ?_
    have hK18 : XT I13 J14 = XT I J := (xt_fs16 hc30_15).trans hK0
    refine g_iload_n d_X9_take_33 rfl ?_
    exact g_ireturn d_X9_take_34 rfl rfl rfl rfl ⟨rfl, hK18, r11, rfl⟩
  · skip
    refine g_ldc (v := -1000000001) d_X9_take_11 tw_576 ?_
    exact g_ireturn d_X9_take_13 rfl rfl rfl rfl ⟨rfl, hK0, (-1000000001 : Int32), rfl⟩
set_option maxRecDepth 100000 in
set_option maxHeartbeats 4000000 in
theorem ct_X9_lay (f : Int32) (s : Int32) (I : Iv) (J : Jv)  : Ct m_X9_lay [.ref 0, .int f, .int s] SHF I J (fun r S' I' J' => S' = SHF ∧ XT I' J' = XT I J ∧ ∃ v : Int32, r = some (.int v)) := by
  refine ct_of 1 (by decide +kernel) rfl rfl ?_
  have hK0 : XT I J = XT I J := rfl
  refine g_aload_n d_X9_lay_0 rfl ?_
  refine g_getR d_X9_lay_1 fq_RX9_42 rfl rfl ?_
  refine g_iload_n d_X9_lay_4 rfl ?_
  refine g_V1 d_X9_lay_5 cs_X9_lay_X6_hasFood lk_RX9_191 im_X6_hasFood se_X6_hasFood rfl rfl rfl (Nat.le_of_ble_eq_true rfl) ⟨rfl, rfl⟩ ⟨Nat.zero_le _, Nat.zero_le _⟩ (ct_X6_hasFood f I J stA_16) (fun r5 S5 Ic2 Jc3 q5_0 => ?_)
  obtain ⟨rfl, rfl, rfl, r5, rfl, hz5, hr5_5⟩ := q5_0
  refine g_st (st' := [.int r5]) rfl ?_
  refine g_if_eq d_X9_lay_8 (fun h8 => ?_) (fun h8 => ?_)
  · skip
    refine g_ldc (v := -1000000001) d_X9_lay_18 tw_576 ?_
    exact g_ireturn d_X9_lay_20 rfl rfl rfl rfl ⟨rfl, hK0, (-1000000001 : Int32), rfl⟩
  · skip
    refine g_iload_n d_X9_lay_11 rfl ?_
    refine g_S1 d_X9_lay_12 cs_X9_lay_X9_isShelf lk_RX9_171 im_X9_isShelf (Nat.le_of_ble_eq_true rfl) ⟨rfl, rfl⟩ ⟨Nat.zero_le _, Nat.zero_le _⟩ (ct_X9_isShelf s I J ) (fun r12 S12 Ic8 Jc9 q12_6 => ?_)
    obtain ⟨rfl, rfl, rfl, r11, rfl, hz12, hr12_11⟩ := q12_6
    refine g_st (st' := [.int r11]) rfl ?_
    refine g_if_ne d_X9_lay_15 (fun h15 => ?_) (fun h15 => ?_)
    · skip
      refine g_aload_n d_X9_lay_21 rfl ?_
      refine g_getR d_X9_lay_22 fq_RX9_42 rfl rfl ?_
      refine g_getR d_X9_lay_25 fq_RX9_202 rfl rfl ?_
      refine g_iload_n d_X9_lay_28 rfl ?_
      refine g_iaload (N := 8) d_X9_lay_29 rfl kT_8 (by constructor <;> grind) rfl ?_
      refine g_topI (fun v13 ev13 => ?_)
      refine g_istore_n (L' := [some (.ref 0), some (.int f), some (.int s), some (.int v13)]) d_X9_lay_30 (by decide) rfl ?_
      refine g_aload_n d_X9_lay_31 rfl ?_
      refine g_getR d_X9_lay_32 fq_RX9_42 rfl rfl ?_
      refine g_getR d_X9_lay_35 fq_RX9_202 rfl rfl ?_
      refine g_iload_n d_X9_lay_38 rfl ?_
      refine g_iload_n d_X9_lay_39 rfl ?_
      refine g_iastore (N := 8) d_X9_lay_40 rfl kT_8 (by constructor <;> grind) rfl  ?_
      refine g_nmI (fun I14 eI14 => ?_)
      have hK15 : XT I14 J = XT I J := (by rw [eI14]; exact (xt_wI rfl).trans hK0)
      refine g_iload_n d_X9_lay_41 rfl ?_
      exact g_ireturn d_X9_lay_42 rfl rfl rfl rfl ⟨rfl, hK15, v13, rfl⟩
    · skip
      refine g_ldc (v := -1000000001) d_X9_lay_18 tw_576 ?_
      exact g_ireturn d_X9_lay_20 rfl rfl rfl rfl ⟨rfl, hK0, (-1000000001 : Int32), rfl⟩
set_option maxRecDepth 100000 in
set_option maxHeartbeats 4000000 in
theorem ct_X9_food (f : Int32) (what : Int32) (I : Iv) (J : Jv)  : Ct m_X9_food [.ref 0, .int f, .int what] SHF I J (fun r S' I' J' => S' = SHF ∧ I = I' ∧ J = J' ∧ ∃ v : Int32, r = some (.int v)) := by
  refine ct_of 0 (by decide +kernel) rfl rfl ?_
  refine g_aload_n d_X9_food_0 rfl ?_
  refine g_getR d_X9_food_1 fq_RX9_42 rfl rfl ?_
  refine g_iload_n d_X9_food_4 rfl ?_
  refine g_V1 d_X9_food_5 cs_X9_food_X6_hasFood lk_RX9_191 im_X6_hasFood se_X6_hasFood rfl rfl rfl (Nat.le_of_ble_eq_true rfl) ⟨rfl, rfl⟩ ⟨Nat.zero_le _, Nat.zero_le _⟩ (ct_X6_hasFood f I J stA_16) (fun r5 S5 Ic2 Jc3 q5_0 => ?_)
  obtain ⟨rfl, rfl, rfl, r5, rfl, hz5, hr5_5⟩ := q5_0
  refine g_st (st' := [.int r5]) rfl ?_
  refine g_if_ne d_X9_food_8 (fun h8 => ?_) (fun h8 => ?_)
  · skip
    refine g_iload_n d_X9_food_14 rfl ?_
    rcases sw_split what (0) (5) with h15 | h15
    · skip
      refine g_swOut d_X9_food_15 h15 ?_
      refine g_ldc (v := -1000000002) d_X9_food_122 tw_396 ?_
      exact g_ireturn d_X9_food_124 rfl rfl rfl rfl ⟨rfl, rfl, rfl, (-1000000002 : Int32), rfl⟩
    · skip
      have hz : ∃ k : Nat, k < 6 ∧ (what).toInt = (0 : Int) + (k : Int) := by obtain ⟨k, h1, h2⟩ := sw_k h15; exact ⟨k, by omega, h2⟩
      obtain ⟨k, hk, hz⟩ := hz
      match k, hk, hz with
      | 0, _, hz =>
        refine g_swIn d_X9_food_15_0 (by rw [hz]; decide) (by rw [hz]; decide) (by rw [hz]; rfl) ?_
        refine g_aload_n d_X9_food_52 rfl ?_
        refine g_getR d_X9_food_53 fq_RX9_42 rfl rfl ?_
        refine g_getR d_X9_food_56 fq_RX9_202 rfl rfl ?_
        refine g_iload_n d_X9_food_59 rfl ?_
        refine g_iaload (N := 8) d_X9_food_60 rfl kT_8 (by constructor <;> grind) rfl ?_
        exact g_ireturn d_X9_food_61 rfl rfl rfl rfl ⟨rfl, rfl, rfl, (I 20 f.toNatClampNeg), rfl⟩
      | 1, _, hz =>
        refine g_swIn d_X9_food_15_1 (by rw [hz]; decide) (by rw [hz]; decide) (by rw [hz]; rfl) ?_
        refine g_aload_n d_X9_food_62 rfl ?_
        refine g_getR d_X9_food_63 fq_RX9_42 rfl rfl ?_
        refine g_iconst (v := 4) d_X9_food_66 kI_4 ?_
        refine g_iload_n d_X9_food_67 rfl ?_
        refine g_iadd d_X9_food_68 ?_
        refine g_V1 d_X9_food_69 cs_X9_food_X6_warmthOf lk_RX9_194 im_X6_warmthOf se_X6_warmthOf rfl rfl rfl (Nat.le_of_ble_eq_true rfl) ⟨rfl, rfl⟩ ⟨Nat.zero_le _, Nat.zero_le _⟩ (ct_X6_warmthOf ((4 : Int32) + f) I J stA_16) (fun r69 S69 Ic8 Jc9 q69_6 => ?_)
        obtain ⟨rfl, rfl, rfl, r11, rfl⟩ := q69_6
        refine g_st (st' := [.int r11]) rfl ?_
        exact g_ireturn d_X9_food_72 rfl rfl rfl rfl ⟨rfl, rfl, rfl, r11, rfl⟩
      | 2, _, hz =>
        refine g_swIn d_X9_food_15_2 (by rw [hz]; decide) (by rw [hz]; decide) (by rw [hz]; rfl) ?_
        refine g_aload_n d_X9_food_73 rfl ?_
        refine g_getR d_X9_food_74 fq_RX9_42 rfl rfl ?_
        refine g_getR d_X9_food_77 fq_RX9_205 rfl rfl ?_
        refine g_iconst (v := 4) d_X9_food_80 kI_4 ?_
        refine g_iload_n d_X9_food_81 rfl ?_
        refine g_iadd d_X9_food_82 ?_
        refine g_iaload (N := 12) d_X9_food_83 rfl kT_12 (by constructor <;> grind) rfl ?_
        exact g_ireturn d_X9_food_84 rfl rfl rfl rfl ⟨rfl, rfl, rfl, (I 18 (((4 : Int32) + f)).toNatClampNeg), rfl⟩
      | 3, _, hz =>
        refine g_swIn d_X9_food_15_3 (by rw [hz]; decide) (by rw [hz]; decide) (by rw [hz]; rfl) ?_
        refine g_aload_n d_X9_food_85 rfl ?_
        refine g_getR d_X9_food_86 fq_RX9_42 rfl rfl ?_
        refine g_getR d_X9_food_89 fq_RX9_181 rfl rfl ?_
        refine g_iload_n d_X9_food_92 rfl ?_
        refine g_iaload (N := 8) d_X9_food_93 rfl kT_8 (by constructor <;> grind) rfl ?_
        exact g_ireturn d_X9_food_94 rfl rfl rfl rfl ⟨rfl, rfl, rfl, (I 21 f.toNatClampNeg), rfl⟩
      | 4, _, hz =>
        refine g_swIn d_X9_food_15_4 (by rw [hz]; decide) (by rw [hz]; decide) (by rw [hz]; rfl) ?_
        refine g_aload_n d_X9_food_95 rfl ?_
        refine g_getR d_X9_food_96 fq_RX9_42 rfl rfl ?_
        refine g_getR d_X9_food_99 fq_RX9_184 rfl rfl ?_
        refine g_iload_n d_X9_food_102 rfl ?_
        refine g_iaload (N := 8) d_X9_food_103 rfl kT_8 (by constructor <;> grind) rfl ?_
        exact g_ireturn d_X9_food_104 rfl rfl rfl rfl ⟨rfl, rfl, rfl, (I 22 f.toNatClampNeg), rfl⟩
      | 5, _, hz =>
        refine g_swIn d_X9_food_15_5 (by rw [hz]; decide) (by rw [hz]; decide) (by rw [hz]; rfl) ?_
        refine g_aload_n d_X9_food_105 rfl ?_
        refine g_getR d_X9_food_106 fq_RX9_42 rfl rfl ?_
        refine g_iload_n d_X9_food_109 rfl ?_
        refine g_V1 d_X9_food_110 cs_X9_food_X6_isWithin lk_RX9_208 im_X6_isWithin se_X6_isWithin rfl rfl rfl (Nat.le_of_ble_eq_true rfl) ⟨rfl, rfl⟩ ⟨Nat.zero_le _, Nat.zero_le _⟩ (ct_X6_isWithin f I J stA_16) (fun r110 S110 Ic14 Jc15 q110_12 => ?_)
        obtain ⟨rfl, rfl, rfl, r17, rfl, hz110⟩ := q110_12
        refine g_st (st' := [.int r17]) rfl ?_
        refine g_if_eq d_X9_food_113 (fun h113 => ?_) (fun h113 => ?_)
        · skip
          refine g_iconst (v := 0) d_X9_food_120 kI_0 ?_
          exact g_ireturn d_X9_food_121 rfl rfl rfl rfl ⟨rfl, rfl, rfl, (0 : Int32), rfl⟩
        · skip
          refine g_iconst (v := 1) d_X9_food_116 kI_1 ?_
          refine g_goto d_X9_food_117 ?_
          exact g_ireturn d_X9_food_121 rfl rfl rfl rfl ⟨rfl, rfl, rfl, (1 : Int32), rfl⟩
      | k + 6, hk, _ => exact absurd hk (by omega)
  · skip
    refine g_ldc (v := -1000000001) d_X9_food_11 tw_576 ?_
    exact g_ireturn d_X9_food_13 rfl rfl rfl rfl ⟨rfl, rfl, rfl, (-1000000001 : Int32), rfl⟩
set_option maxRecDepth 100000 in
set_option maxHeartbeats 4000000 in
theorem ct_X9_run (n : Int32) (I : Iv) (J : Jv)  : Ct m_X9_run [.ref 0, .int n] SHF I J (fun r S' I' J' => S' = SHF ∧ True ∧ ∃ v : Int32, r = some (.int v) ∧ ((1 ≤ n ∧ n ≤ 2880 ∧ XT I' J' = XT (wI I 24 0 (I 24 0 + n)) J) ∨ (¬ (1 ≤ n ∧ n ≤ 2880) ∧ XT I' J' = XT I J))) := by
  refine ct_of 1 (by decide +kernel) rfl rfl ?_
  have hK0 : XT I J = XT I J := rfl
  refine g_iload_n d_X9_run_0 rfl ?_
  refine g_iconst (v := 1) d_X9_run_1 kI_1 ?_
  refine g_icmp_lt d_X9_run_2 (fun h2 => ?_) (fun h2 => ?_)
  · skip
    refine g_ldc (v := -1000000002) d_X9_run_12 tw_396 ?_
    exact g_ireturn d_X9_run_14 rfl rfl rfl rfl ⟨rfl, trivial, (-1000000002 : Int32), rfl, by grind⟩
  · skip
    refine g_iload_n d_X9_run_5 rfl ?_
    refine g_sipush (v := 2880) d_X9_run_6 kS_2880 ?_
    refine g_icmp_le d_X9_run_9 (fun h9 => ?_) (fun h9 => ?_)
    · skip
      refine g_aload_n d_X9_run_15 rfl ?_
      refine g_getR d_X9_run_16 fq_RX9_42 rfl rfl ?_
      refine g_getR d_X9_run_19 fq_RX9_159 rfl rfl ?_
      refine g_iconst (v := 3) d_X9_run_22 kI_3 ?_
      refine g_iaload (N := 8) d_X9_run_23 rfl kT_8 ⟨by decide, by decide⟩ kN_3 ?_
      refine g_topI (fun v1 ev1 => ?_)
      refine g_istore_n (L' := [some (.ref 0), some (.int n), some (.int v1)]) d_X9_run_24 (by decide) rfl ?_
      refine g_aload_n d_X9_run_25 rfl ?_
      refine g_getR d_X9_run_26 fq_RX9_35 rfl rfl ?_
      refine g_aload_n d_X9_run_29 rfl ?_
      refine g_getR d_X9_run_30 fq_RX9_42 rfl rfl ?_
      refine g_iload_n d_X9_run_33 rfl ?_
      refine g_aload_n d_X9_run_34 rfl ?_
      refine g_getR d_X9_run_35 fq_RX9_19 rfl rfl ?_
      refine g_getR d_X9_run_38 fq_RX9_145 rfl rfl ?_
      refine g_bipush (v := 8) d_X9_run_41 kB_8 ?_
      refine g_iaload (N := 15) d_X9_run_43 rfl kT_15 ⟨by decide, by decide⟩ kN_8 ?_
      refine g_V3 d_X9_run_44 cs_X9_run_X7_passByDay lk_RX9_211 im_X7_passByDay se_X7_passByDay rfl rfl rfl (Nat.le_of_ble_eq_true rfl) ⟨rfl, rfl⟩ ⟨Nat.zero_le _, Nat.zero_le _⟩ (ct_X7_passByDay n (I 8 8) I J stA_16 (by grind)) (fun r44 S44 I2 J3 q44_3 => ?_)
      obtain ⟨rfl, hc44_4, rfl, hr44_5⟩ := q44_3
      refine g_st (st' := []) rfl ?_
      have hK7 : XT I2 J3 = XT (wI I 24 0 (I 24 0 + n)) J := (xt_tick (xn_fsx (Or.inl rfl) hc44_4) hr44_5).trans (xt_cong hK0)
      refine g_aload_n d_X9_run_47 rfl ?_
      refine g_getR d_X9_run_48 fq_RX9_42 rfl rfl ?_
      refine g_getR d_X9_run_51 fq_RX9_159 rfl rfl ?_
      refine g_iconst (v := 3) d_X9_run_54 kI_3 ?_
      refine g_iaload (N := 8) d_X9_run_55 rfl kT_8 ⟨by decide, by decide⟩ kN_3 ?_
      refine g_iload_n d_X9_run_56 rfl ?_
      refine g_isub d_X9_run_57 ?_
      exact g_ireturn d_X9_run_58 rfl rfl rfl rfl ⟨rfl, trivial, ((I2 24 3) - v1), rfl, by grind⟩
    · skip
      refine g_ldc (v := -1000000002) d_X9_run_12 tw_396 ?_
      exact g_ireturn d_X9_run_14 rfl rfl rfl rfl ⟨rfl, trivial, (-1000000002 : Int32), rfl, by grind⟩
set_option maxRecDepth 100000 in
set_option maxHeartbeats 4000000 in
theorem ct_X9_drawDoor (m : Int32) (I : Iv) (J : Jv)  : Ct m_X9_drawDoor [.ref 0, .int m] SHF I J (fun r S' I' J' => S' = SHF ∧ XT I' J' = XT I J ∧ r = none) := by
  refine ct_of 2 (by decide +kernel) rfl rfl ?_
  have hK0 : XT I J = XT I J := rfl
  refine g_iconst (v := 0) d_X9_drawDoor_0 kI_0 ?_
  refine g_istore_n (L' := [some (.ref 0), some (.int m), some (.int (0 : Int32)), none]) d_X9_drawDoor_1 (by decide) rfl ?_
  have K_2 : ∀ (nu : Nat) (x1 : Int32) (I2 : Iv), mU (288 : Int32) x1 = nu → (XT I2 J = XT I J) → ((0 : Int32) ≤ x1) → G m_X9_drawDoor (rq m_X9_drawDoor (fun r S' I' J' => S' = SHF ∧ XT I' J' = XT I J ∧ r = none)) 0 0 2 [some (.ref 0), some (.int m), some (.int x1), none] [] SHF I2 J := by
    intro nu
    induction nu using Nat.strongRecOn with
    | ind nu ih_2 =>
      intro x1 I2 hmu_2 hK3 hl4
      refine g_iload_n d_X9_drawDoor_2 rfl ?_
      refine g_sipush (v := 288) d_X9_drawDoor_3 kS_288 ?_
      refine g_icmp_ge d_X9_drawDoor_6 (fun h6 => ?_) (fun h6 => ?_)
      · skip
        refine g_iconst (v := 0) d_X9_drawDoor_22 kI_0 ?_
        refine g_istore_n (L' := [some (.ref 0), some (.int m), some (.int (0 : Int32)), none]) d_X9_drawDoor_23 (by decide) rfl ?_
        have K_24 : ∀ (nu : Nat) (x5 : Int32) (I6 : Iv) (J7 : Jv), mU m x5 = nu → (XT I6 J7 = XT I J) → ((0 : Int32) ≤ x5) → G m_X9_drawDoor (rq m_X9_drawDoor (fun r S' I' J' => S' = SHF ∧ XT I' J' = XT I J ∧ r = none)) 0 0 24 [some (.ref 0), some (.int m), some (.int x5), none] [] SHF I6 J7 := by
          intro nu
          induction nu using Nat.strongRecOn with
          | ind nu ih_24 =>
            intro x5 I6 J7 hmu_24 hK8 hl9
            refine g_iload_n d_X9_drawDoor_24 rfl ?_
            refine g_iload_n d_X9_drawDoor_25 rfl ?_
            refine g_icmp_ge d_X9_drawDoor_26 (fun h26 => ?_) (fun h26 => ?_)
            · skip
              exact g_return d_X9_drawDoor_64 rfl rfl rfl ⟨rfl, hK8, rfl⟩
            · skip
              refine g_aload_n d_X9_drawDoor_29 rfl ?_
              refine g_getR d_X9_drawDoor_30 fq_RX9_42 rfl rfl ?_
              refine g_sipush (v := 288) d_X9_drawDoor_33 kS_288 ?_
              refine g_V1 d_X9_drawDoor_36 cs_X9_drawDoor_X6_draw lk_RX9_386 im_X6_draw se_X6_draw rfl rfl rfl (Nat.le_of_ble_eq_true rfl) ⟨rfl, rfl⟩ ⟨Nat.zero_le _, Nat.zero_le _⟩ (ct_X6_draw (288 : Int32) I6 J7 stA_16) (fun r36 S36 I10 J11 q36_11 => ?_)
              obtain ⟨rfl, hc36_12, r14, rfl⟩ := q36_11
              refine g_st (st' := [.int r14]) rfl ?_
              have hK16 : XT I10 J11 = XT I J := (xt_fs16 hc36_12).trans hK8
              refine g_istore_n (L' := [some (.ref 0), some (.int m), some (.int x5), some (.int r14)]) d_X9_drawDoor_39 (by decide) rfl ?_
              refine g_iload_n d_X9_drawDoor_40 rfl ?_
              refine g_if_lt d_X9_drawDoor_41 (fun h41 => ?_) (fun h41 => ?_)
              · skip
                refine g_iinc (v := (x5 + (1 : Int32))) (L' := [some (.ref 0), some (.int m), some (.int (x5 + (1 : Int32))), some (.int r14)]) d_X9_drawDoor_58 rfl (by rw [kI_1]) (by decide) rfl ?_
                refine g_goto d_X9_drawDoor_61 ?_
                refine g_sb [some (.ref 0), some (.int m), some (.int (x5 + (1 : Int32))), none] (by simp [subL]) ?_
                exact ih_24 _ (by rw [← hmu_24]; exact mu_up h26) (x5 + (1 : Int32)) I10 J11 rfl hK16 (lo_up hl9 h26)
              · skip
                refine g_iload_n d_X9_drawDoor_44 rfl ?_
                refine g_sipush (v := 288) d_X9_drawDoor_45 kS_288 ?_
                refine g_icmp_ge d_X9_drawDoor_48 (fun h48 => ?_) (fun h48 => ?_)
                · skip
                  refine g_iinc (v := (x5 + (1 : Int32))) (L' := [some (.ref 0), some (.int m), some (.int (x5 + (1 : Int32))), some (.int r14)]) d_X9_drawDoor_58 rfl (by rw [kI_1]) (by decide) rfl ?_
                  refine g_goto d_X9_drawDoor_61 ?_
                  refine g_sb [some (.ref 0), some (.int m), some (.int (x5 + (1 : Int32))), none] (by simp [subL]) ?_
                  exact ih_24 _ (by rw [← hmu_24]; exact mu_up h26) (x5 + (1 : Int32)) I10 J11 rfl hK16 (lo_up hl9 h26)
                · skip
                  refine g_aload_n d_X9_drawDoor_51 rfl ?_
                  refine g_getR d_X9_drawDoor_52 fq_RX9_56 rfl rfl ?_
                  refine g_iload_n d_X9_drawDoor_55 rfl ?_
                  refine g_iconst (v := 1) d_X9_drawDoor_56 kI_1 ?_
                  refine g_bastore (N := 288) d_X9_drawDoor_57 rfl kT_288 (by constructor <;> grind) rfl (Or.inr rfl) ?_
                  refine g_nmI (fun I17 eI17 => ?_)
                  have hK18 : XT I17 J11 = XT I J := (by rw [eI17]; exact (xt_wI rfl).trans hK16)
                  refine g_iinc (v := (x5 + (1 : Int32))) (L' := [some (.ref 0), some (.int m), some (.int (x5 + (1 : Int32))), some (.int r14)]) d_X9_drawDoor_58 rfl (by rw [kI_1]) (by decide) rfl ?_
                  refine g_goto d_X9_drawDoor_61 ?_
                  refine g_sb [some (.ref 0), some (.int m), some (.int (x5 + (1 : Int32))), none] (by simp [subL]) ?_
                  exact ih_24 _ (by rw [← hmu_24]; exact mu_up h26) (x5 + (1 : Int32)) I17 J11 rfl hK18 (lo_up hl9 h26)
        exact K_24 _ (0 : Int32) I2 J rfl hK3 (Int32.le_refl _)
      · skip
        refine g_aload_n d_X9_drawDoor_9 rfl ?_
        refine g_getR d_X9_drawDoor_10 fq_RX9_56 rfl rfl ?_
        refine g_iload_n d_X9_drawDoor_13 rfl ?_
        refine g_iconst (v := 0) d_X9_drawDoor_14 kI_0 ?_
        refine g_bastore (N := 288) d_X9_drawDoor_15 rfl kT_288 ⟨hl4, Int32.not_le.mp h6⟩ rfl (Or.inl rfl) ?_
        refine g_nmI (fun I19 eI19 => ?_)
        have hK20 : XT I19 J = XT I J := (by rw [eI19]; exact (xt_wI rfl).trans hK3)
        refine g_iinc (v := (x1 + (1 : Int32))) (L' := [some (.ref 0), some (.int m), some (.int (x1 + (1 : Int32))), none]) d_X9_drawDoor_16 rfl (by rw [kI_1]) (by decide) rfl ?_
        refine g_goto d_X9_drawDoor_19 ?_
        exact ih_2 _ (by rw [← hmu_2]; exact mu_up h6) (x1 + (1 : Int32)) I19 rfl hK20 (lo_up hl4 h6)
  exact K_2 _ (0 : Int32) I rfl hK0 (Int32.le_refl _)
set_option maxRecDepth 100000 in
set_option maxHeartbeats 4000000 in
theorem ct_X9_drawn (n : Int32) (m : Int32) (I : Iv) (J : Jv) (ht0 : 0 ≤ I 24 0 ∧ I 24 0 ≤ 2000000000) : Ct m_X9_drawn [.ref 0, .int n, .int m] SHF I J (fun r S' I' J' => S' = SHF ∧ True ∧ ∃ v : Int32, r = some (.int v) ∧ (∃ k : Int32, 0 ≤ k ∧ k ≤ 2880 ∧ XT I' J' = XT (wI I 24 0 (I 24 0 + k)) J)) := by
  refine ct_of 3 (by decide +kernel) rfl rfl ?_
  have hK0 : XN I J = XN I J := rfl
  refine g_iload_n d_X9_drawn_0 rfl ?_
  refine g_iconst (v := 1) d_X9_drawn_1 kI_1 ?_
  refine g_icmp_lt d_X9_drawn_2 (fun h2 => ?_) (fun h2 => ?_)
  · skip
    refine g_ldc (v := -1000000002) d_X9_drawn_21 tw_396 ?_
    exact g_ireturn d_X9_drawn_23 rfl rfl rfl rfl ⟨rfl, trivial, (-1000000002 : Int32), rfl, ⟨0, by decide, by decide, xt_tick hK0 (by grind)⟩⟩
  · skip
    refine g_iload_n d_X9_drawn_5 rfl ?_
    refine g_bipush (v := 10) d_X9_drawn_6 kB_10 ?_
    refine g_icmp_gt d_X9_drawn_8 (fun h8 => ?_) (fun h8 => ?_)
    · skip
      refine g_ldc (v := -1000000002) d_X9_drawn_21 tw_396 ?_
      exact g_ireturn d_X9_drawn_23 rfl rfl rfl rfl ⟨rfl, trivial, (-1000000002 : Int32), rfl, ⟨0, by decide, by decide, xt_tick hK0 (by grind)⟩⟩
    · skip
      refine g_iload_n d_X9_drawn_11 rfl ?_
      refine g_if_lt d_X9_drawn_12 (fun h12 => ?_) (fun h12 => ?_)
      · skip
        refine g_ldc (v := -1000000002) d_X9_drawn_21 tw_396 ?_
        exact g_ireturn d_X9_drawn_23 rfl rfl rfl rfl ⟨rfl, trivial, (-1000000002 : Int32), rfl, ⟨0, by decide, by decide, xt_tick hK0 (by grind)⟩⟩
      · skip
        refine g_iload_n d_X9_drawn_15 rfl ?_
        refine g_bipush (v := 20) d_X9_drawn_16 kB_20 ?_
        refine g_icmp_le d_X9_drawn_18 (fun h18 => ?_) (fun h18 => ?_)
        · skip
          refine g_aload_n d_X9_drawn_24 rfl ?_
          refine g_getR d_X9_drawn_25 fq_RX9_42 rfl rfl ?_
          refine g_getR d_X9_drawn_28 fq_RX9_159 rfl rfl ?_
          refine g_iconst (v := 1) d_X9_drawn_31 kI_1 ?_
          refine g_iaload (N := 8) d_X9_drawn_32 rfl kT_8 ⟨by decide, by decide⟩ kN_1 ?_
          refine g_topI (fun v1 ev1 => ?_)
          refine g_istore_n (L' := [some (.ref 0), some (.int n), some (.int m), some (.int v1), none, none]) d_X9_drawn_33 (by decide) rfl ?_
          refine g_iconst (v := 0) d_X9_drawn_34 kI_0 ?_
          refine g_istore (L' := [some (.ref 0), some (.int n), some (.int m), some (.int v1), some (.int (0 : Int32)), none]) d_X9_drawn_35 (by decide) rfl ?_
          have K_37 : ∀ (nu : Nat) (x2 : Int32) (I3 : Iv) (J4 : Jv), mU (n * (288 : Int32)) x2 = nu → (XN I3 J4 = XN I J) → ((0 : Int32) ≤ x2) → (I3 24 0 = I 24 0 + x2) → (x2 ≤ n * 288) → G m_X9_drawn (rq m_X9_drawn (fun r S' I' J' => S' = SHF ∧ True ∧ ∃ v : Int32, r = some (.int v) ∧ (∃ k : Int32, 0 ≤ k ∧ k ≤ 2880 ∧ XT I' J' = XT (wI I 24 0 (I 24 0 + k)) J))) 0 0 37 [some (.ref 0), some (.int n), some (.int m), some (.int v1), some (.int x2), none] [] SHF I3 J4 := by
            intro nu
            induction nu using Nat.strongRecOn with
            | ind nu ih_37 =>
              intro x2 I3 J4 hmu_37 hK5 hl6 htk_37 hhi_37
              refine g_iload d_X9_drawn_37 rfl ?_
              refine g_iload_n d_X9_drawn_39 rfl ?_
              refine g_sipush (v := 288) d_X9_drawn_40 kS_288 ?_
              refine g_imul d_X9_drawn_43 ?_
              refine g_icmp_ge d_X9_drawn_44 (fun h44 => ?_) (fun h44 => ?_)
              · skip
                refine g_aload_n d_X9_drawn_106 rfl ?_
                refine g_getR d_X9_drawn_107 fq_RX9_42 rfl rfl ?_
                refine g_getR d_X9_drawn_110 fq_RX9_159 rfl rfl ?_
                refine g_iconst (v := 1) d_X9_drawn_113 kI_1 ?_
                refine g_iaload (N := 8) d_X9_drawn_114 rfl kT_8 ⟨by decide, by decide⟩ kN_1 ?_
                refine g_iload_n d_X9_drawn_115 rfl ?_
                refine g_isub d_X9_drawn_116 ?_
                exact g_ireturn d_X9_drawn_117 rfl rfl rfl rfl ⟨rfl, trivial, ((I3 24 1) - v1), rfl, ⟨n * 288, by grind, by grind, xt_tick hK5 (by grind)⟩⟩
              · skip
                refine g_aload_n d_X9_drawn_47 rfl ?_
                refine g_getR d_X9_drawn_48 fq_RX9_42 rfl rfl ?_
                refine g_V0 d_X9_drawn_51 cs_X9_drawn_X6_tickOfDay lk_RX9_215 im_X6_tickOfDay se_X6_tickOfDay rfl rfl rfl (Nat.le_of_ble_eq_true rfl) ⟨rfl, rfl⟩ ⟨Nat.zero_le _, Nat.zero_le _⟩ (ct_X6_tickOfDay  I3 J4 stA_16) (fun r51 S51 Ic8 Jc9 q51_6 => ?_)
                obtain ⟨rfl, rfl, rfl, r11, rfl, hr51_11⟩ := q51_6
                refine g_st (st' := [.int r11]) rfl ?_
                have hof : 0 ≤ r11 ∧ r11 < 288 := by rw [hr51_11]; exact mod288 (by grind)
                refine g_istore (L' := [some (.ref 0), some (.int n), some (.int m), some (.int v1), some (.int x2), some (.int r11)]) d_X9_drawn_54 (by decide) rfl ?_
                refine g_iload d_X9_drawn_56 rfl ?_
                have J_71 : ∀ (I13 : Iv), ∀ (J14 : Jv), (XN I13 J14 = XN I J) → (I13 24 0 = I 24 0 + x2) → G m_X9_drawn (rq m_X9_drawn (fun r S' I' J' => S' = SHF ∧ True ∧ ∃ v : Int32, r = some (.int v) ∧ (∃ k : Int32, 0 ≤ k ∧ k ≤ 2880 ∧ XT I' J' = XT (wI I 24 0 (I 24 0 + k)) J))) 0 0 71 [some (.ref 0), some (.int n), some (.int m), some (.int v1), some (.int x2), some (.int r11)] [] SHF I13 J14 := by
                  intro I13 J14 hK15 htk_71
                  refine g_aload_n d_X9_drawn_71 rfl ?_
                  refine g_getR d_X9_drawn_72 fq_RX9_35 rfl rfl ?_
                  refine g_aload_n d_X9_drawn_75 rfl ?_
                  refine g_getR d_X9_drawn_76 fq_RX9_42 rfl rfl ?_
                  refine g_aload_n d_X9_drawn_79 rfl ?_
                  refine g_getR d_X9_drawn_80 fq_RX9_56 rfl rfl ?_
                  refine g_iload d_X9_drawn_83 rfl ?_
                  refine g_baload (N := 288) d_X9_drawn_85 rfl kT_288 hof rfl (fun hz85 => ?_)
                  refine g_aload_n d_X9_drawn_86 rfl ?_
                  refine g_getR d_X9_drawn_87 fq_RX9_19 rfl rfl ?_
                  refine g_getR d_X9_drawn_90 fq_RX9_145 rfl rfl ?_
                  refine g_bipush (v := 8) d_X9_drawn_93 kB_8 ?_
                  refine g_iaload (N := 15) d_X9_drawn_95 rfl kT_15 ⟨by decide, by decide⟩ kN_8 ?_
                  refine g_iconst (v := 0) d_X9_drawn_96 kI_0 ?_
                  refine g_V4 d_X9_drawn_97 cs_X9_drawn_X7_pass lk_RX9_221 im_X7_pass se_X7_pass rfl rfl rfl (Nat.le_of_ble_eq_true rfl) ⟨rfl, rfl⟩ ⟨Nat.zero_le _, Nat.zero_le _⟩ (ct_X7_pass (I13 44 r11.toNatClampNeg) (I13 8 8) (0 : Int32) I13 J14 stA_16) (fun r97 S97 I16 J17 q97_17 => ?_)
                  obtain ⟨rfl, hc97_18, rfl, hr97_19⟩ := q97_17
                  refine g_st (st' := []) rfl ?_
                  have hK21 : XN I16 J17 = XN I J := (xn_fsx (Or.inl rfl) hc97_18).trans hK15
                  have htk97 : I16 24 0 = I 24 0 + x2 + 1 := by grind
                  refine g_iinc (v := (x2 + (1 : Int32))) (L' := [some (.ref 0), some (.int n), some (.int m), some (.int v1), some (.int (x2 + (1 : Int32))), some (.int r11)]) d_X9_drawn_100 rfl (by rw [kI_1]) (by decide) rfl ?_
                  refine g_goto d_X9_drawn_103 ?_
                  refine g_sb [some (.ref 0), some (.int n), some (.int m), some (.int v1), some (.int (x2 + (1 : Int32))), none] (by simp [subL]) ?_
                  exact ih_37 _ (by rw [← hmu_37]; exact mu_up h44) (x2 + (1 : Int32)) I16 J17 rfl hK21 (lo_up hl6 h44) (by grind) (by grind)
                have J_66 : (I3 24 0 = I 24 0 + x2) → G m_X9_drawn (rq m_X9_drawn (fun r S' I' J' => S' = SHF ∧ True ∧ ∃ v : Int32, r = some (.int v) ∧ (∃ k : Int32, 0 ≤ k ∧ k ≤ 2880 ∧ XT I' J' = XT (wI I 24 0 (I 24 0 + k)) J))) 0 0 66 [some (.ref 0), some (.int n), some (.int m), some (.int v1), some (.int x2), some (.int r11)] [] SHF I3 J4 := by
                  intro htk_66
                  refine g_aload_n d_X9_drawn_66 rfl ?_
                  refine g_iload_n d_X9_drawn_67 rfl ?_
                  refine g_V1 d_X9_drawn_68 cs_X9_drawn_X9_drawDoor lk_RX9_218 im_X9_drawDoor se_X9_drawDoor rfl rfl rfl (Nat.le_of_ble_eq_true rfl) ⟨rfl, rfl⟩ ⟨Nat.zero_le _, Nat.zero_le _⟩ (ct_X9_drawDoor m I3 J4 ) (fun r68 S68 I22 J23 q68_23 => ?_)
                  obtain ⟨rfl, hc68_24, rfl⟩ := q68_23
                  refine g_st (st' := []) rfl ?_
                  have hK27 : XN I22 J23 = XN I J := (xt_xn hc68_24).trans hK5
                  have htk68 : I22 24 0 = I 24 0 + x2 := by rw [xt_tk hc68_24]; grind
                  exact J_71 I22 J23 hK27 (by grind)
                refine g_if_eq d_X9_drawn_58 (fun h58 => ?_) (fun h58 => ?_)
                · skip
                  exact J_66 (by grind)
                · skip
                  refine g_iload d_X9_drawn_61 rfl ?_
                  refine g_if_ne d_X9_drawn_63 (fun h63 => ?_) (fun h63 => ?_)
                  · skip
                    exact J_71 I3 J4 hK5 (by grind)
                  · skip
                    exact J_66 (by grind)
          exact K_37 _ (0 : Int32) I J rfl hK0 (Int32.le_refl _) (by grind) (by grind)
        · skip
          refine g_ldc (v := -1000000002) d_X9_drawn_21 tw_396 ?_
          exact g_ireturn d_X9_drawn_23 rfl rfl rfl rfl ⟨rfl, trivial, (-1000000002 : Int32), rfl, ⟨0, by decide, by decide, xt_tick hK0 (by grind)⟩⟩
set_option maxRecDepth 100000 in
set_option maxHeartbeats 4000000 in
theorem ct_X9_warmth (s : Int32) (I : Iv) (J : Jv)  : Ct m_X9_warmth [.ref 0, .int s] SHF I J (fun r S' I' J' => S' = SHF ∧ I = I' ∧ J = J' ∧ ∃ v : Int32, r = some (.int v)) := by
  refine ct_of 0 (by decide +kernel) rfl rfl ?_
  refine g_iload_n d_X9_warmth_0 rfl ?_
  refine g_if_lt d_X9_warmth_1 (fun h1 => ?_) (fun h1 => ?_)
  · skip
    refine g_ldc (v := -1000000001) d_X9_warmth_9 tw_576 ?_
    refine g_goto d_X9_warmth_11 ?_
    exact g_ireturn d_X9_warmth_22 rfl rfl rfl rfl ⟨rfl, rfl, rfl, (-1000000001 : Int32), rfl⟩
  · skip
    refine g_iload_n d_X9_warmth_4 rfl ?_
    refine g_iconst (v := 3) d_X9_warmth_5 kI_3 ?_
    refine g_icmp_le d_X9_warmth_6 (fun h6 => ?_) (fun h6 => ?_)
    · skip
      refine g_aload_n d_X9_warmth_14 rfl ?_
      refine g_getR d_X9_warmth_15 fq_RX9_42 rfl rfl ?_
      refine g_iload_n d_X9_warmth_18 rfl ?_
      refine g_V1 d_X9_warmth_19 cs_X9_warmth_X6_warmthOf lk_RX9_194 im_X6_warmthOf se_X6_warmthOf rfl rfl rfl (Nat.le_of_ble_eq_true rfl) ⟨rfl, rfl⟩ ⟨Nat.zero_le _, Nat.zero_le _⟩ (ct_X6_warmthOf s I J stA_16) (fun r19 S19 Ic2 Jc3 q19_0 => ?_)
      obtain ⟨rfl, rfl, rfl, r5, rfl⟩ := q19_0
      refine g_st (st' := [.int r5]) rfl ?_
      exact g_ireturn d_X9_warmth_22 rfl rfl rfl rfl ⟨rfl, rfl, rfl, r5, rfl⟩
    · skip
      refine g_ldc (v := -1000000001) d_X9_warmth_9 tw_576 ?_
      refine g_goto d_X9_warmth_11 ?_
      exact g_ireturn d_X9_warmth_22 rfl rfl rfl rfl ⟨rfl, rfl, rfl, (-1000000001 : Int32), rfl⟩
set_option maxRecDepth 100000 in
set_option maxHeartbeats 4000000 in
theorem ct_X9_heat (what : Int32) (I : Iv) (J : Jv)  : Ct m_X9_heat [.ref 0, .int what] SHF I J (fun r S' I' J' => S' = SHF ∧ I = I' ∧ J = J' ∧ ∃ v : Int64, r = some (.long v)) := by
  refine ct_of 0 (by decide +kernel) rfl rfl ?_
  refine g_iload_n d_X9_heat_0 rfl ?_
  refine g_if_lt d_X9_heat_1 (fun h1 => ?_) (fun h1 => ?_)
  · skip
    refine g_ldc2 (v := -1000000002) d_X9_heat_10 tw_735 ?_
    exact g_lreturn d_X9_heat_13 rfl rfl rfl ⟨rfl, rfl, rfl, (-1000000002 : Int64), rfl⟩
  · skip
    refine g_iload_n d_X9_heat_4 rfl ?_
    refine g_bipush (v := 6) d_X9_heat_5 kB_6 ?_
    refine g_icmp_lt d_X9_heat_7 (fun h7 => ?_) (fun h7 => ?_)
    · skip
      refine g_iload_n d_X9_heat_14 rfl ?_
      refine g_if_ne d_X9_heat_15 (fun h15 => ?_) (fun h15 => ?_)
      · skip
        refine g_aload_n d_X9_heat_28 rfl ?_
        refine g_getR d_X9_heat_29 fq_RX9_42 rfl rfl ?_
        refine g_getR d_X9_heat_32 fq_RX9_231 rfl rfl ?_
        refine g_iload_n d_X9_heat_35 rfl ?_
        refine g_laload (N := 6) d_X9_heat_36 rfl kT_6 (by constructor <;> grind) rfl ?_
        exact g_lreturn d_X9_heat_37 rfl rfl rfl ⟨rfl, rfl, rfl, (J 23 what.toNatClampNeg), rfl⟩
      · skip
        refine g_aload_n d_X9_heat_18 rfl ?_
        refine g_getR d_X9_heat_19 fq_RX9_42 rfl rfl ?_
        refine g_V0 d_X9_heat_22 cs_X9_heat_X6_allHeat lk_RX9_227 im_X6_allHeat se_X6_allHeat rfl rfl rfl (Nat.le_of_ble_eq_true rfl) ⟨rfl, rfl⟩ ⟨Nat.zero_le _, Nat.zero_le _⟩ (ct_X6_allHeat  I J stA_16) (fun r22 S22 Ic2 Jc3 q22_0 => ?_)
        obtain ⟨rfl, rfl, rfl, r5, rfl⟩ := q22_0
        refine g_st (st' := [.long r5]) rfl ?_
        refine g_goto d_X9_heat_25 ?_
        exact g_lreturn d_X9_heat_37 rfl rfl rfl ⟨rfl, rfl, rfl, r5, rfl⟩
    · skip
      refine g_ldc2 (v := -1000000002) d_X9_heat_10 tw_735 ?_
      exact g_lreturn d_X9_heat_13 rfl rfl rfl ⟨rfl, rfl, rfl, (-1000000002 : Int64), rfl⟩
set_option maxRecDepth 100000 in
set_option maxHeartbeats 4000000 in
theorem ct_X9_count (what : Int32) (I : Iv) (J : Jv)  : Ct m_X9_count [.ref 0, .int what] SHF I J (fun r S' I' J' => S' = SHF ∧ I = I' ∧ J = J' ∧ ∃ v : Int32, r = some (.int v)) := by
  refine ct_of 0 (by decide +kernel) rfl rfl ?_
  refine g_iload_n d_X9_count_0 rfl ?_
  refine g_if_lt d_X9_count_1 (fun h1 => ?_) (fun h1 => ?_)
  · skip
    refine g_ldc (v := -1000000002) d_X9_count_10 tw_396 ?_
    exact g_ireturn d_X9_count_12 rfl rfl rfl rfl ⟨rfl, rfl, rfl, (-1000000002 : Int32), rfl⟩
  · skip
    refine g_iload_n d_X9_count_4 rfl ?_
    refine g_bipush (v := 11) d_X9_count_5 kB_11 ?_
    refine g_icmp_le d_X9_count_7 (fun h7 => ?_) (fun h7 => ?_)
    · skip
      refine g_iload_n d_X9_count_13 rfl ?_
      refine g_bipush (v := 8) d_X9_count_14 kB_8 ?_
      refine g_icmp_ge d_X9_count_16 (fun h16 => ?_) (fun h16 => ?_)
      · skip
        refine g_iload_n d_X9_count_29 rfl ?_
        rcases sw_split what (8) (10) with h30 | h30
        · skip
          refine g_swOut d_X9_count_30 h30 ?_
          refine g_aload_n d_X9_count_88 rfl ?_
          refine g_getR d_X9_count_89 fq_RX9_10 rfl rfl ?_
          refine g_getI d_X9_count_92 fq_RX9_105 rfl rfl ?_
          exact g_ireturn d_X9_count_95 rfl rfl rfl rfl ⟨rfl, rfl, rfl, (I 1 1), rfl⟩
        · skip
          have hz : ∃ k : Nat, k < 3 ∧ (what).toInt = (8 : Int) + (k : Int) := by obtain ⟨k, h1, h2⟩ := sw_k h30; exact ⟨k, by omega, h2⟩
          obtain ⟨k, hk, hz⟩ := hz
          match k, hk, hz with
          | 0, _, hz =>
            refine g_swIn d_X9_count_30_0 (by rw [hz]; decide) (by rw [hz]; decide) (by rw [hz]; rfl) ?_
            refine g_aload_n d_X9_count_56 rfl ?_
            refine g_getR d_X9_count_57 fq_RX9_42 rfl rfl ?_
            refine g_getI d_X9_count_60 fq_RX9_235 rfl rfl ?_
            exact g_ireturn d_X9_count_63 rfl rfl rfl rfl ⟨rfl, rfl, rfl, (I 16 9), rfl⟩
          | 1, _, hz =>
            refine g_swIn d_X9_count_30_1 (by rw [hz]; decide) (by rw [hz]; decide) (by rw [hz]; rfl) ?_
            refine g_aload_n d_X9_count_64 rfl ?_
            refine g_getR d_X9_count_65 fq_RX9_42 rfl rfl ?_
            refine g_getZ d_X9_count_68 fq_RX9_238 rfl rfl (fun hz68 => ?_)
            refine g_if_eq d_X9_count_71 (fun h71 => ?_) (fun h71 => ?_)
            · skip
              refine g_iconst (v := 0) d_X9_count_78 kI_0 ?_
              exact g_ireturn d_X9_count_79 rfl rfl rfl rfl ⟨rfl, rfl, rfl, (0 : Int32), rfl⟩
            · skip
              refine g_iconst (v := 1) d_X9_count_74 kI_1 ?_
              refine g_goto d_X9_count_75 ?_
              exact g_ireturn d_X9_count_79 rfl rfl rfl rfl ⟨rfl, rfl, rfl, (1 : Int32), rfl⟩
          | 2, _, hz =>
            refine g_swIn d_X9_count_30_2 (by rw [hz]; decide) (by rw [hz]; decide) (by rw [hz]; rfl) ?_
            refine g_aload_n d_X9_count_80 rfl ?_
            refine g_getR d_X9_count_81 fq_RX9_42 rfl rfl ?_
            refine g_V0 d_X9_count_84 cs_X9_count_X6_foodsThere lk_RX9_241 im_X6_foodsThere se_X6_foodsThere rfl rfl rfl (Nat.le_of_ble_eq_true rfl) ⟨rfl, rfl⟩ ⟨Nat.zero_le _, Nat.zero_le _⟩ (ct_X6_foodsThere  I J stA_16) (fun r84 S84 Ic2 Jc3 q84_0 => ?_)
            obtain ⟨rfl, rfl, rfl, r5, rfl⟩ := q84_0
            refine g_st (st' := [.int r5]) rfl ?_
            exact g_ireturn d_X9_count_87 rfl rfl rfl rfl ⟨rfl, rfl, rfl, r5, rfl⟩
          | k + 3, hk, _ => exact absurd hk (by omega)
      · skip
        refine g_aload_n d_X9_count_19 rfl ?_
        refine g_getR d_X9_count_20 fq_RX9_42 rfl rfl ?_
        refine g_getR d_X9_count_23 fq_RX9_159 rfl rfl ?_
        refine g_iload_n d_X9_count_26 rfl ?_
        refine g_iaload (N := 8) d_X9_count_27 rfl kT_8 (by constructor <;> grind) rfl ?_
        exact g_ireturn d_X9_count_28 rfl rfl rfl rfl ⟨rfl, rfl, rfl, (I 24 what.toNatClampNeg), rfl⟩
    · skip
      refine g_ldc (v := -1000000002) d_X9_count_10 tw_396 ?_
      exact g_ireturn d_X9_count_12 rfl rfl rfl rfl ⟨rfl, rfl, rfl, (-1000000002 : Int32), rfl⟩
set_option maxRecDepth 100000 in
set_option maxHeartbeats 4000000 in
theorem ct_X9_thaw  (I : Iv) (J : Jv)  : Ct m_X9_thaw [.ref 0] SHF I J (fun r S' I' J' => S' = SHF ∧ XT I' J' = XT I J ∧ ∃ v : Int32, r = some (.int v)) := by
  refine ct_of 0 (by decide +kernel) rfl rfl ?_
  have hK0 : XT I J = XT I J := rfl
  refine g_aload_n d_X9_thaw_0 rfl ?_
  refine g_getR d_X9_thaw_1 fq_RX9_42 rfl rfl ?_
  refine g_V0 d_X9_thaw_4 cs_X9_thaw_X6_letOffIce lk_RX9_244 im_X6_letOffIce se_X6_letOffIce rfl rfl rfl (Nat.le_of_ble_eq_true rfl) ⟨rfl, rfl⟩ ⟨Nat.zero_le _, Nat.zero_le _⟩ (ct_X6_letOffIce  I J stA_16) (fun r4 S4 I1 J2 q4_2 => ?_)
  obtain ⟨rfl, hc4_3, r5, rfl⟩ := q4_2
  refine g_st (st' := [.int r5]) rfl ?_
  have hK7 : XT I1 J2 = XT I J := (xt_fs16 hc4_3).trans hK0
  exact g_ireturn d_X9_thaw_7 rfl rfl rfl rfl ⟨rfl, hK7, r5, rfl⟩
set_option maxRecDepth 100000 in
set_option maxHeartbeats 4000000 in
theorem ct_X9_sign (set : Int32) (n : Int32) (what : Int32) (I : Iv) (J : Jv)  : Ct m_X9_sign [.ref 0, .int set, .int n, .int what] SHF I J (fun r S' I' J' => S' = SHF ∧ XT I' J' = XT I J ∧ ∃ v : Int32, r = some (.int v)) := by
  refine ct_of 0 (by decide +kernel) rfl rfl ?_
  have hK0 : XT I J = XT I J := rfl
  refine g_iload_n d_X9_sign_0 rfl ?_
  refine g_S1 d_X9_sign_1 cs_X9_sign_X9_isSet lk_RX9_151 im_X9_isSet (Nat.le_of_ble_eq_true rfl) ⟨rfl, rfl⟩ ⟨Nat.zero_le _, Nat.zero_le _⟩ (ct_X9_isSet set I J ) (fun r1 S1 Ic2 Jc3 q1_0 => ?_)
  obtain ⟨rfl, rfl, rfl, r5, rfl, hz1, hr1_5⟩ := q1_0
  refine g_st (st' := [.int r5]) rfl ?_
  refine g_if_eq d_X9_sign_4 (fun h4 => ?_) (fun h4 => ?_)
  · skip
    refine g_ldc (v := -1000000001) d_X9_sign_14 tw_576 ?_
    exact g_ireturn d_X9_sign_16 rfl rfl rfl rfl ⟨rfl, hK0, (-1000000001 : Int32), rfl⟩
  · skip
    refine g_iload_n d_X9_sign_7 rfl ?_
    refine g_S1 d_X9_sign_8 cs_X9_sign_X9_isSign lk_RX9_247 im_X9_isSign (Nat.le_of_ble_eq_true rfl) ⟨rfl, rfl⟩ ⟨Nat.zero_le _, Nat.zero_le _⟩ (ct_X9_isSign what I J ) (fun r8 S8 Ic8 Jc9 q8_6 => ?_)
    obtain ⟨rfl, rfl, rfl, r11, rfl, hz8, hr8_11⟩ := q8_6
    refine g_st (st' := [.int r11]) rfl ?_
    refine g_if_ne d_X9_sign_11 (fun h11 => ?_) (fun h11 => ?_)
    · skip
      refine g_iload_n d_X9_sign_17 rfl ?_
      refine g_S1 d_X9_sign_18 cs_X9_sign_X9_areSignDays lk_RX9_250 im_X9_areSignDays (Nat.le_of_ble_eq_true rfl) ⟨rfl, rfl⟩ ⟨Nat.zero_le _, Nat.zero_le _⟩ (ct_X9_areSignDays n I J ) (fun r18 S18 Ic14 Jc15 q18_12 => ?_)
      obtain ⟨rfl, rfl, rfl, r17, rfl, hz18, hr18_17⟩ := q18_12
      refine g_st (st' := [.int r17]) rfl ?_
      refine g_if_ne d_X9_sign_21 (fun h21 => ?_) (fun h21 => ?_)
      · skip
        refine g_aload_n d_X9_sign_27 rfl ?_
        refine g_getR d_X9_sign_28 fq_RX9_64 rfl rfl ?_
        refine g_iload_n d_X9_sign_31 rfl ?_
        refine g_iload_n d_X9_sign_32 rfl ?_
        refine g_V2 d_X9_sign_33 cs_X9_sign_X1_learn lk_RX9_253 im_X1_learn se_X1_learn rfl rfl rfl (Nat.le_of_ble_eq_true rfl) ⟨rfl, rfl⟩ ⟨Nat.zero_le _, Nat.zero_le _⟩ (ct_X1_learn set n I J ) (fun r33 S33 I19 J20 q33_20 => ?_)
        obtain ⟨rfl, hc33_21, rfl⟩ := q33_20
        refine g_st (st' := []) rfl ?_
        have hK24 : XT I19 J20 = XT I J := hc33_21.trans hK0
        refine g_aload_n d_X9_sign_36 rfl ?_
        refine g_getR d_X9_sign_37 fq_RX9_64 rfl rfl ?_
        refine g_iload_n d_X9_sign_40 rfl ?_
        refine g_iload_n d_X9_sign_41 rfl ?_
        refine g_iload_n d_X9_sign_42 rfl ?_
        refine g_V3 d_X9_sign_43 cs_X9_sign_X1_signOf lk_RX9_257 im_X1_signOf se_X1_signOf rfl rfl rfl (Nat.le_of_ble_eq_true rfl) ⟨rfl, rfl⟩ ⟨Nat.zero_le _, Nat.zero_le _⟩ (ct_X1_signOf set n what I19 J20 ) (fun r43 S43 Ic26 Jc27 q43_24 => ?_)
        obtain ⟨rfl, rfl, rfl, r29, rfl⟩ := q43_24
        refine g_st (st' := [.int r29]) rfl ?_
        exact g_ireturn d_X9_sign_46 rfl rfl rfl rfl ⟨rfl, hK24, r29, rfl⟩
      · skip
        refine g_ldc (v := -1000000002) d_X9_sign_24 tw_396 ?_
        exact g_ireturn d_X9_sign_26 rfl rfl rfl rfl ⟨rfl, hK0, (-1000000002 : Int32), rfl⟩
    · skip
      refine g_ldc (v := -1000000001) d_X9_sign_14 tw_576 ?_
      exact g_ireturn d_X9_sign_16 rfl rfl rfl rfl ⟨rfl, hK0, (-1000000001 : Int32), rfl⟩
set_option maxRecDepth 100000 in
set_option maxHeartbeats 4000000 in
theorem ct_X9_seen (what : Int32) (v_ : Int32) (e : Int32) (I : Iv) (J : Jv)  : Ct m_X9_seen [.ref 0, .int what, .int v_, .int e] SHF I J (fun r S' I' J' => S' = SHF ∧ True ∧ ∃ v : Int32, r = some (.int v) ∧ ((¬ (0 ≤ what ∧ what ≤ 6) ∧ v = -1000000001 ∧ XT I' J' = XT I J) ∨ (0 ≤ what ∧ what ≤ 6 ∧ ¬ (-99999 ≤ v_ ∧ v_ ≤ 99999 ∧ 1 ≤ e ∧ e ≤ 999) ∧ v = -1000000002 ∧ XT I' J' = XT I J) ∨ (0 ≤ what ∧ what ≤ 6 ∧ (-99999 ≤ v_ ∧ v_ ≤ 99999 ∧ 1 ≤ e ∧ e ≤ 999) ∧ v = cn (wI I 58 what.toNatClampNeg 1 58) 7 ∧ XT I' J' = XT (wI I 58 what.toNatClampNeg 1) J))) := by
  refine ct_of 0 (by decide +kernel) rfl rfl ?_
  have hK0 : XT I J = XT I J := rfl
  refine g_iload_n d_X9_seen_0 rfl ?_
  refine g_S1 d_X9_seen_1 cs_X9_seen_X9_isSign lk_RX9_247 im_X9_isSign (Nat.le_of_ble_eq_true rfl) ⟨rfl, rfl⟩ ⟨Nat.zero_le _, Nat.zero_le _⟩ (ct_X9_isSign what I J ) (fun r1 S1 Ic2 Jc3 q1_0 => ?_)
  obtain ⟨rfl, rfl, rfl, r5, rfl, hz1, hr1_5⟩ := q1_0
  refine g_st (st' := [.int r5]) rfl ?_
  refine g_if_ne d_X9_seen_4 (fun h4 => ?_) (fun h4 => ?_)
  · skip
    refine g_iload_n d_X9_seen_10 rfl ?_
    refine g_ldcw (v := -99999) d_X9_seen_11 tw_792 ?_
    refine g_icmp_lt d_X9_seen_14 (fun h14 => ?_) (fun h14 => ?_)
    · skip
      refine g_ldc (v := -1000000002) d_X9_seen_36 tw_396 ?_
      exact g_ireturn d_X9_seen_38 rfl rfl rfl rfl ⟨rfl, trivial, (-1000000002 : Int32), rfl, (Or.inr (Or.inl ⟨by grind, by grind, by grind, rfl, hK0⟩))⟩
    · skip
      refine g_iload_n d_X9_seen_17 rfl ?_
      refine g_ldcw (v := 99999) d_X9_seen_18 tw_793 ?_
      refine g_icmp_gt d_X9_seen_21 (fun h21 => ?_) (fun h21 => ?_)
      · skip
        refine g_ldc (v := -1000000002) d_X9_seen_36 tw_396 ?_
        exact g_ireturn d_X9_seen_38 rfl rfl rfl rfl ⟨rfl, trivial, (-1000000002 : Int32), rfl, (Or.inr (Or.inl ⟨by grind, by grind, by grind, rfl, hK0⟩))⟩
      · skip
        refine g_iload_n d_X9_seen_24 rfl ?_
        refine g_iconst (v := 1) d_X9_seen_25 kI_1 ?_
        refine g_icmp_lt d_X9_seen_26 (fun h26 => ?_) (fun h26 => ?_)
        · skip
          refine g_ldc (v := -1000000002) d_X9_seen_36 tw_396 ?_
          exact g_ireturn d_X9_seen_38 rfl rfl rfl rfl ⟨rfl, trivial, (-1000000002 : Int32), rfl, (Or.inr (Or.inl ⟨by grind, by grind, by grind, rfl, hK0⟩))⟩
        · skip
          refine g_iload_n d_X9_seen_29 rfl ?_
          refine g_sipush (v := 999) d_X9_seen_30 kS_999 ?_
          refine g_icmp_le d_X9_seen_33 (fun h33 => ?_) (fun h33 => ?_)
          · skip
            refine g_aload_n d_X9_seen_39 rfl ?_
            refine g_getR d_X9_seen_40 fq_RX9_73 rfl rfl ?_
            refine g_getR d_X9_seen_43 fq_RX9_263 rfl rfl ?_
            refine g_iload_n d_X9_seen_46 rfl ?_
            refine g_iconst (v := 1) d_X9_seen_47 kI_1 ?_
            refine g_bastore (N := 7) d_X9_seen_48 rfl kT_7 (by constructor <;> grind) rfl (Or.inr rfl) ?_
            refine g_nmI (fun I7 eI7 => ?_)
            have hK8 : XT I7 J = XT (wI I 58 what.toNatClampNeg (1 : Int32)) J := ((congrArg (fun q => XT q _) eI7).trans (xt_cong hK0))
            refine g_aload_n d_X9_seen_49 rfl ?_
            refine g_getR d_X9_seen_50 fq_RX9_73 rfl rfl ?_
            refine g_getR d_X9_seen_53 fq_RX9_266 rfl rfl ?_
            refine g_iload_n d_X9_seen_56 rfl ?_
            refine g_iload_n d_X9_seen_57 rfl ?_
            refine g_iastore (N := 7) d_X9_seen_58 rfl kT_7 (by constructor <;> grind) rfl  ?_
            refine g_nmI (fun I9 eI9 => ?_)
            have hK10 : XT I9 J = XT (wI I 58 what.toNatClampNeg (1 : Int32)) J := (by rw [eI9]; exact (xt_wI rfl).trans hK8)
            refine g_aload_n d_X9_seen_59 rfl ?_
            refine g_getR d_X9_seen_60 fq_RX9_73 rfl rfl ?_
            refine g_getR d_X9_seen_63 fq_RX9_269 rfl rfl ?_
            refine g_iload_n d_X9_seen_66 rfl ?_
            refine g_iload_n d_X9_seen_67 rfl ?_
            refine g_iastore (N := 7) d_X9_seen_68 rfl kT_7 (by constructor <;> grind) rfl  ?_
            refine g_nmI (fun I11 eI11 => ?_)
            have hK12 : XT I11 J = XT (wI I 58 what.toNatClampNeg (1 : Int32)) J := (by rw [eI11]; exact (xt_wI rfl).trans hK10)
            refine g_aload_n d_X9_seen_69 rfl ?_
            refine g_getR d_X9_seen_70 fq_RX9_73 rfl rfl ?_
            refine g_V0 d_X9_seen_73 cs_X9_seen_X2_howManySeen lk_RX9_272 im_X2_howManySeen se_X2_howManySeen rfl rfl rfl (Nat.le_of_ble_eq_true rfl) ⟨rfl, rfl⟩ ⟨Nat.zero_le _, Nat.zero_le _⟩ (ct_X2_howManySeen  I11 J ) (fun r73 S73 Ic14 Jc15 q73_12 => ?_)
            obtain ⟨rfl, rfl, rfl, r17, rfl, hr73_17⟩ := q73_12
            refine g_st (st' := [.int r17]) rfl ?_
            have hcn := hr73_17
            exact g_ireturn d_X9_seen_76 rfl rfl rfl rfl ⟨rfl, trivial, r17, rfl, (Or.inr (Or.inr ⟨by grind, by grind, by grind, by rw [hcn, xt_58 hK12], hK12⟩))⟩
          · skip
            refine g_ldc (v := -1000000002) d_X9_seen_36 tw_396 ?_
            exact g_ireturn d_X9_seen_38 rfl rfl rfl rfl ⟨rfl, trivial, (-1000000002 : Int32), rfl, (Or.inr (Or.inl ⟨by grind, by grind, by grind, rfl, hK0⟩))⟩
  · skip
    refine g_ldc (v := -1000000001) d_X9_seen_7 tw_576 ?_
    exact g_ireturn d_X9_seen_9 rfl rfl rfl rfl ⟨rfl, trivial, (-1000000001 : Int32), rfl, (Or.inl ⟨by grind, rfl, hK0⟩)⟩
set_option maxRecDepth 100000 in
set_option maxHeartbeats 4000000 in
theorem ct_X9_prior (k : Int32) (p : Int32) (I : Iv) (J : Jv)  : Ct m_X9_prior [.ref 0, .int k, .int p] SHF I J (fun r S' I' J' => S' = SHF ∧ True ∧ ∃ v : Int32, r = some (.int v) ∧ ((0 ≤ k ∧ k ≤ 6 ∧ 0 ≤ p ∧ p ≤ 1000 ∧ v = I 61 k.toNatClampNeg ∧ XT I' J' = XT (wI I 61 k.toNatClampNeg p) J) ∨ (¬ (0 ≤ k ∧ k ≤ 6) ∧ v = -1000000001 ∧ XT I' J' = XT I J) ∨ (0 ≤ k ∧ k ≤ 6 ∧ ¬ (0 ≤ p ∧ p ≤ 1000) ∧ v = -1000000002 ∧ XT I' J' = XT I J))) := by
  refine ct_of 1 (by decide +kernel) rfl rfl ?_
  have hK0 : XT I J = XT I J := rfl
  refine g_iload_n d_X9_prior_0 rfl ?_
  refine g_S1 d_X9_prior_1 cs_X9_prior_X9_isTrouble lk_RX9_275 im_X9_isTrouble (Nat.le_of_ble_eq_true rfl) ⟨rfl, rfl⟩ ⟨Nat.zero_le _, Nat.zero_le _⟩ (ct_X9_isTrouble k I J ) (fun r1 S1 Ic2 Jc3 q1_0 => ?_)
  obtain ⟨rfl, rfl, rfl, r5, rfl, hz1, hr1_5⟩ := q1_0
  refine g_st (st' := [.int r5]) rfl ?_
  refine g_if_ne d_X9_prior_4 (fun h4 => ?_) (fun h4 => ?_)
  · skip
    refine g_iload_n d_X9_prior_10 rfl ?_
    refine g_if_lt d_X9_prior_11 (fun h11 => ?_) (fun h11 => ?_)
    · skip
      refine g_ldc (v := -1000000002) d_X9_prior_21 tw_396 ?_
      exact g_ireturn d_X9_prior_23 rfl rfl rfl rfl ⟨rfl, trivial, (-1000000002 : Int32), rfl, by grind⟩
    · skip
      refine g_iload_n d_X9_prior_14 rfl ?_
      refine g_sipush (v := 1000) d_X9_prior_15 kS_1000 ?_
      refine g_icmp_le d_X9_prior_18 (fun h18 => ?_) (fun h18 => ?_)
      · skip
        refine g_aload_n d_X9_prior_24 rfl ?_
        refine g_getR d_X9_prior_25 fq_RX9_73 rfl rfl ?_
        refine g_getR d_X9_prior_28 fq_RX9_278 rfl rfl ?_
        refine g_iload_n d_X9_prior_31 rfl ?_
        refine g_iaload (N := 7) d_X9_prior_32 rfl kT_7 (by constructor <;> grind) rfl ?_
        refine g_topI (fun v7 ev7 => ?_)
        refine g_istore_n (L' := [some (.ref 0), some (.int k), some (.int p), some (.int v7)]) d_X9_prior_33 (by decide) rfl ?_
        refine g_aload_n d_X9_prior_34 rfl ?_
        refine g_getR d_X9_prior_35 fq_RX9_73 rfl rfl ?_
        refine g_getR d_X9_prior_38 fq_RX9_278 rfl rfl ?_
        refine g_iload_n d_X9_prior_41 rfl ?_
        refine g_iload_n d_X9_prior_42 rfl ?_
        refine g_iastore (N := 7) d_X9_prior_43 rfl kT_7 (by constructor <;> grind) rfl  ?_
        refine g_nmI (fun I8 eI8 => ?_)
        have hK9 : XT I8 J = XT (wI I 61 k.toNatClampNeg p) J := ((congrArg (fun q => XT q _) eI8).trans (xt_cong hK0))
        refine g_iload_n d_X9_prior_44 rfl ?_
        exact g_ireturn d_X9_prior_45 rfl rfl rfl rfl ⟨rfl, trivial, v7, rfl, by grind⟩
      · skip
        refine g_ldc (v := -1000000002) d_X9_prior_21 tw_396 ?_
        exact g_ireturn d_X9_prior_23 rfl rfl rfl rfl ⟨rfl, trivial, (-1000000002 : Int32), rfl, by grind⟩
  · skip
    refine g_ldc (v := -1000000001) d_X9_prior_7 tw_576 ?_
    exact g_ireturn d_X9_prior_9 rfl rfl rfl rfl ⟨rfl, trivial, (-1000000001 : Int32), rfl, by grind⟩
set_option maxRecDepth 100000 in
set_option maxHeartbeats 4000000 in
theorem ct_X9_bother (what : Int32) (b : Int32) (I : Iv) (J : Jv)  : Ct m_X9_bother [.ref 0, .int what, .int b] SHF I J (fun r S' I' J' => S' = SHF ∧ True ∧ ∃ v : Int32, r = some (.int v) ∧ ((0 ≤ what ∧ what ≤ 6 ∧ 0 ≤ b ∧ b ≤ 999 ∧ v = I 62 what.toNatClampNeg ∧ XT I' J' = XT (wI I 62 what.toNatClampNeg b) J) ∨ (¬ (0 ≤ what ∧ what ≤ 6) ∧ v = -1000000001 ∧ XT I' J' = XT I J) ∨ (0 ≤ what ∧ what ≤ 6 ∧ ¬ (0 ≤ b ∧ b ≤ 999) ∧ v = -1000000002 ∧ XT I' J' = XT I J))) := by
  refine ct_of 1 (by decide +kernel) rfl rfl ?_
  have hK0 : XT I J = XT I J := rfl
  refine g_iload_n d_X9_bother_0 rfl ?_
  refine g_S1 d_X9_bother_1 cs_X9_bother_X9_isSign lk_RX9_247 im_X9_isSign (Nat.le_of_ble_eq_true rfl) ⟨rfl, rfl⟩ ⟨Nat.zero_le _, Nat.zero_le _⟩ (ct_X9_isSign what I J ) (fun r1 S1 Ic2 Jc3 q1_0 => ?_)
  obtain ⟨rfl, rfl, rfl, r5, rfl, hz1, hr1_5⟩ := q1_0
  refine g_st (st' := [.int r5]) rfl ?_
  refine g_if_ne d_X9_bother_4 (fun h4 => ?_) (fun h4 => ?_)
  · skip
    refine g_iload_n d_X9_bother_10 rfl ?_
    refine g_if_lt d_X9_bother_11 (fun h11 => ?_) (fun h11 => ?_)
    · skip
      refine g_ldc (v := -1000000002) d_X9_bother_21 tw_396 ?_
      exact g_ireturn d_X9_bother_23 rfl rfl rfl rfl ⟨rfl, trivial, (-1000000002 : Int32), rfl, by grind⟩
    · skip
      refine g_iload_n d_X9_bother_14 rfl ?_
      refine g_sipush (v := 999) d_X9_bother_15 kS_999 ?_
      refine g_icmp_le d_X9_bother_18 (fun h18 => ?_) (fun h18 => ?_)
      · skip
        refine g_aload_n d_X9_bother_24 rfl ?_
        refine g_getR d_X9_bother_25 fq_RX9_73 rfl rfl ?_
        refine g_getR d_X9_bother_28 fq_RX9_281 rfl rfl ?_
        refine g_iload_n d_X9_bother_31 rfl ?_
        refine g_iaload (N := 7) d_X9_bother_32 rfl kT_7 (by constructor <;> grind) rfl ?_
        refine g_topI (fun v7 ev7 => ?_)
        refine g_istore_n (L' := [some (.ref 0), some (.int what), some (.int b), some (.int v7)]) d_X9_bother_33 (by decide) rfl ?_
        refine g_aload_n d_X9_bother_34 rfl ?_
        refine g_getR d_X9_bother_35 fq_RX9_73 rfl rfl ?_
        refine g_getR d_X9_bother_38 fq_RX9_281 rfl rfl ?_
        refine g_iload_n d_X9_bother_41 rfl ?_
        refine g_iload_n d_X9_bother_42 rfl ?_
        refine g_iastore (N := 7) d_X9_bother_43 rfl kT_7 (by constructor <;> grind) rfl  ?_
        refine g_nmI (fun I8 eI8 => ?_)
        have hK9 : XT I8 J = XT (wI I 62 what.toNatClampNeg b) J := ((congrArg (fun q => XT q _) eI8).trans (xt_cong hK0))
        refine g_iload_n d_X9_bother_44 rfl ?_
        exact g_ireturn d_X9_bother_45 rfl rfl rfl rfl ⟨rfl, trivial, v7, rfl, by grind⟩
      · skip
        refine g_ldc (v := -1000000002) d_X9_bother_21 tw_396 ?_
        exact g_ireturn d_X9_bother_23 rfl rfl rfl rfl ⟨rfl, trivial, (-1000000002 : Int32), rfl, by grind⟩
  · skip
    refine g_ldc (v := -1000000001) d_X9_bother_7 tw_576 ?_
    exact g_ireturn d_X9_bother_9 rfl rfl rfl rfl ⟨rfl, trivial, (-1000000001 : Int32), rfl, by grind⟩
set_option maxRecDepth 100000 in
set_option maxHeartbeats 4000000 in
theorem ct_X9_mending (k : Int32) (c : Int32) (I : Iv) (J : Jv)  : Ct m_X9_mending [.ref 0, .int k, .int c] SHF I J (fun r S' I' J' => S' = SHF ∧ True ∧ ∃ v : Int32, r = some (.int v) ∧ ((0 ≤ k ∧ k ≤ 6 ∧ 0 ≤ c ∧ c ≤ 999 ∧ v = I 66 k.toNatClampNeg ∧ XT I' J' = XT (wI I 66 k.toNatClampNeg c) J) ∨ (¬ (0 ≤ k ∧ k ≤ 6) ∧ v = -1000000001 ∧ XT I' J' = XT I J) ∨ (0 ≤ k ∧ k ≤ 6 ∧ ¬ (0 ≤ c ∧ c ≤ 999) ∧ v = -1000000002 ∧ XT I' J' = XT I J))) := by
  refine ct_of 1 (by decide +kernel) rfl rfl ?_
  have hK0 : XT I J = XT I J := rfl
  refine g_iload_n d_X9_mending_0 rfl ?_
  refine g_S1 d_X9_mending_1 cs_X9_mending_X9_isTrouble lk_RX9_275 im_X9_isTrouble (Nat.le_of_ble_eq_true rfl) ⟨rfl, rfl⟩ ⟨Nat.zero_le _, Nat.zero_le _⟩ (ct_X9_isTrouble k I J ) (fun r1 S1 Ic2 Jc3 q1_0 => ?_)
  obtain ⟨rfl, rfl, rfl, r5, rfl, hz1, hr1_5⟩ := q1_0
  refine g_st (st' := [.int r5]) rfl ?_
  refine g_if_ne d_X9_mending_4 (fun h4 => ?_) (fun h4 => ?_)
  · skip
    refine g_iload_n d_X9_mending_10 rfl ?_
    refine g_if_lt d_X9_mending_11 (fun h11 => ?_) (fun h11 => ?_)
    · skip
      refine g_ldc (v := -1000000002) d_X9_mending_21 tw_396 ?_
      exact g_ireturn d_X9_mending_23 rfl rfl rfl rfl ⟨rfl, trivial, (-1000000002 : Int32), rfl, by grind⟩
    · skip
      refine g_iload_n d_X9_mending_14 rfl ?_
      refine g_sipush (v := 999) d_X9_mending_15 kS_999 ?_
      refine g_icmp_le d_X9_mending_18 (fun h18 => ?_) (fun h18 => ?_)
      · skip
        refine g_aload_n d_X9_mending_24 rfl ?_
        refine g_getR d_X9_mending_25 fq_RX9_80 rfl rfl ?_
        refine g_getR d_X9_mending_28 fq_RX9_308 rfl rfl ?_
        refine g_iload_n d_X9_mending_31 rfl ?_
        refine g_iaload (N := 7) d_X9_mending_32 rfl kT_7 (by constructor <;> grind) rfl ?_
        refine g_topI (fun v7 ev7 => ?_)
        refine g_istore_n (L' := [some (.ref 0), some (.int k), some (.int c), some (.int v7)]) d_X9_mending_33 (by decide) rfl ?_
        refine g_aload_n d_X9_mending_34 rfl ?_
        refine g_getR d_X9_mending_35 fq_RX9_80 rfl rfl ?_
        refine g_getR d_X9_mending_38 fq_RX9_308 rfl rfl ?_
        refine g_iload_n d_X9_mending_41 rfl ?_
        refine g_iload_n d_X9_mending_42 rfl ?_
        refine g_iastore (N := 7) d_X9_mending_43 rfl kT_7 (by constructor <;> grind) rfl  ?_
        refine g_nmI (fun I8 eI8 => ?_)
        have hK9 : XT I8 J = XT (wI I 66 k.toNatClampNeg c) J := ((congrArg (fun q => XT q _) eI8).trans (xt_cong hK0))
        refine g_iload_n d_X9_mending_44 rfl ?_
        exact g_ireturn d_X9_mending_45 rfl rfl rfl rfl ⟨rfl, trivial, v7, rfl, by grind⟩
      · skip
        refine g_ldc (v := -1000000002) d_X9_mending_21 tw_396 ?_
        exact g_ireturn d_X9_mending_23 rfl rfl rfl rfl ⟨rfl, trivial, (-1000000002 : Int32), rfl, by grind⟩
  · skip
    refine g_ldc (v := -1000000001) d_X9_mending_7 tw_576 ?_
    exact g_ireturn d_X9_mending_9 rfl rfl rfl rfl ⟨rfl, trivial, (-1000000001 : Int32), rfl, by grind⟩
set_option maxRecDepth 100000 in
set_option maxHeartbeats 4000000 in
theorem ct_X9_price (x : Int32) (I : Iv) (J : Jv)  : Ct m_X9_price [.ref 0, .int x] SHF I J (fun r S' I' J' => S' = SHF ∧ True ∧ ∃ v : Int32, r = some (.int v) ∧ ((0 ≤ x ∧ x ≤ 999 ∧ v = I 65 2 ∧ XT I' J' = XT (wI I 65 2 x) J) ∨ (¬ (0 ≤ x ∧ x ≤ 999) ∧ v = -1000000002 ∧ XT I' J' = XT I J))) := by
  refine ct_of 1 (by decide +kernel) rfl rfl ?_
  have hK0 : XT I J = XT I J := rfl
  refine g_iload_n d_X9_price_0 rfl ?_
  refine g_S1 d_X9_price_1 cs_X9_price_X9_isPrice lk_RX9_311 im_X9_isPrice (Nat.le_of_ble_eq_true rfl) ⟨rfl, rfl⟩ ⟨Nat.zero_le _, Nat.zero_le _⟩ (ct_X9_isPrice x I J ) (fun r1 S1 Ic2 Jc3 q1_0 => ?_)
  obtain ⟨rfl, rfl, rfl, r5, rfl, hz1, hr1_5⟩ := q1_0
  refine g_st (st' := [.int r5]) rfl ?_
  refine g_if_ne d_X9_price_4 (fun h4 => ?_) (fun h4 => ?_)
  · skip
    refine g_aload_n d_X9_price_10 rfl ?_
    refine g_getR d_X9_price_11 fq_RX9_80 rfl rfl ?_
    refine g_getI d_X9_price_14 fq_RX9_314 rfl rfl ?_
    refine g_topI (fun v7 ev7 => ?_)
    refine g_istore_n (L' := [some (.ref 0), some (.int x), some (.int v7)]) d_X9_price_17 (by decide) rfl ?_
    refine g_aload_n d_X9_price_18 rfl ?_
    refine g_getR d_X9_price_19 fq_RX9_80 rfl rfl ?_
    refine g_iload_n d_X9_price_22 rfl ?_
    refine g_putI d_X9_price_23 fq_RX9_314 rfl rfl ?_
    refine g_nmI (fun I8 eI8 => ?_)
    have hK9 : XT I8 J = XT (wI I 65 2 x) J := ((congrArg (fun q => XT q _) eI8).trans (xt_cong hK0))
    refine g_iload_n d_X9_price_26 rfl ?_
    exact g_ireturn d_X9_price_27 rfl rfl rfl rfl ⟨rfl, trivial, v7, rfl, by grind⟩
  · skip
    refine g_ldc (v := -1000000002) d_X9_price_7 tw_396 ?_
    exact g_ireturn d_X9_price_9 rfl rfl rfl rfl ⟨rfl, trivial, (-1000000002 : Int32), rfl, by grind⟩
set_option maxRecDepth 100000 in
set_option maxHeartbeats 4000000 in
theorem ct_X9_odds (set : Int32) (n : Int32) (I : Iv) (J : Jv) (hpri : PRI I) : Ct m_X9_odds [.ref 0, .int set, .int n] SHF I J (fun r S' I' J' => S' = SHF ∧ XT I' J' = XT I J ∧ ∃ v : Int32, r = some (.int v)) := by
  refine ct_of 0 (by decide +kernel) rfl rfl ?_
  have hK0 : XT I J = XT I J := rfl
  refine g_iload_n d_X9_odds_0 rfl ?_
  refine g_S1 d_X9_odds_1 cs_X9_odds_X9_isSet lk_RX9_151 im_X9_isSet (Nat.le_of_ble_eq_true rfl) ⟨rfl, rfl⟩ ⟨Nat.zero_le _, Nat.zero_le _⟩ (ct_X9_isSet set I J ) (fun r1 S1 Ic2 Jc3 q1_0 => ?_)
  obtain ⟨rfl, rfl, rfl, r5, rfl, hz1, hr1_5⟩ := q1_0
  refine g_st (st' := [.int r5]) rfl ?_
  refine g_if_eq d_X9_odds_4 (fun h4 => ?_) (fun h4 => ?_)
  · skip
    refine g_ldc (v := -1000000001) d_X9_odds_15 tw_576 ?_
    exact g_ireturn d_X9_odds_17 rfl rfl rfl rfl ⟨rfl, hK0, (-1000000001 : Int32), rfl⟩
  · skip
    refine g_iload_n d_X9_odds_7 rfl ?_
    refine g_S1 d_X9_odds_8 cs_X9_odds_J6_bitCount_0f7a4 lk_RX9_284 im_J6_bitCount_0f7a4 (Nat.le_of_ble_eq_true rfl) ⟨rfl, rfl⟩ ⟨Nat.zero_le _, Nat.zero_le _⟩ (ct_J6_bitCount_0f7a4 set I J ) (fun r8 S8 Ic8 Jc9 q8_6 => ?_)
    obtain ⟨rfl, rfl, rfl, r11, rfl⟩ := q8_6
    refine g_st (st' := [.int r11]) rfl ?_
    refine g_iconst (v := 2) d_X9_odds_11 kI_2 ?_
    refine g_icmp_le d_X9_odds_12 (fun h12 => ?_) (fun h12 => ?_)
    · skip
      refine g_iload_n d_X9_odds_18 rfl ?_
      refine g_S1 d_X9_odds_19 cs_X9_odds_X9_areSignDays lk_RX9_250 im_X9_areSignDays (Nat.le_of_ble_eq_true rfl) ⟨rfl, rfl⟩ ⟨Nat.zero_le _, Nat.zero_le _⟩ (ct_X9_areSignDays n I J ) (fun r19 S19 Ic14 Jc15 q19_12 => ?_)
      obtain ⟨rfl, rfl, rfl, r17, rfl, hz19, hr19_17⟩ := q19_12
      refine g_st (st' := [.int r17]) rfl ?_
      refine g_if_ne d_X9_odds_22 (fun h22 => ?_) (fun h22 => ?_)
      · skip
        refine g_aload_n d_X9_odds_28 rfl ?_
        refine g_getR d_X9_odds_29 fq_RX9_64 rfl rfl ?_
        refine g_iload_n d_X9_odds_32 rfl ?_
        refine g_V1 d_X9_odds_33 cs_X9_odds_X1_learnCouldBe lk_RX9_289 im_X1_learnCouldBe se_X1_learnCouldBe rfl rfl rfl (Nat.le_of_ble_eq_true rfl) ⟨rfl, rfl⟩ ⟨Nat.zero_le _, Nat.zero_le _⟩ (ct_X1_learnCouldBe n I J ) (fun r33 S33 I19 J20 q33_20 => ?_)
        obtain ⟨rfl, hc33_21, rfl⟩ := q33_20
        refine g_st (st' := []) rfl ?_
        have hK24 : XT I19 J20 = XT I J := hc33_21.trans hK0
        refine g_aload_n d_X9_odds_36 rfl ?_
        refine g_getR d_X9_odds_37 fq_RX9_73 rfl rfl ?_
        refine g_iload_n d_X9_odds_40 rfl ?_
        refine g_iload_n d_X9_odds_41 rfl ?_
        refine g_V2 d_X9_odds_42 cs_X9_odds_X2_oddsOf lk_RX9_292 im_X2_oddsOf se_X2_oddsOf rfl rfl rfl (Nat.le_of_ble_eq_true rfl) ⟨rfl, rfl⟩ ⟨Nat.zero_le _, Nat.zero_le _⟩ (ct_X2_oddsOf set n I19 J20 (pri_of hK24 hpri)) (fun r42 S42 I25 J26 q42_26 => ?_)
        obtain ⟨rfl, hc42_27, r29, rfl⟩ := q42_26
        refine g_st (st' := [.int r29]) rfl ?_
        have hK31 : XT I25 J26 = XT I J := hc42_27.trans hK24
        exact g_ireturn d_X9_odds_45 rfl rfl rfl rfl ⟨rfl, hK31, r29, rfl⟩
      · skip
        refine g_ldc (v := -1000000002) d_X9_odds_25 tw_396 ?_
        exact g_ireturn d_X9_odds_27 rfl rfl rfl rfl ⟨rfl, hK0, (-1000000002 : Int32), rfl⟩
    · skip
      refine g_ldc (v := -1000000001) d_X9_odds_15 tw_576 ?_
      exact g_ireturn d_X9_odds_17 rfl rfl rfl rfl ⟨rfl, hK0, (-1000000001 : Int32), rfl⟩
set_option maxRecDepth 100000 in
set_option maxHeartbeats 4000000 in
theorem ct_X9_each (k : Int32) (n : Int32) (I : Iv) (J : Jv) (hpri : PRI I) : Ct m_X9_each [.ref 0, .int k, .int n] SHF I J (fun r S' I' J' => S' = SHF ∧ XT I' J' = XT I J ∧ ∃ v : Int32, r = some (.int v)) := by
  refine ct_of 0 (by decide +kernel) rfl rfl ?_
  have hK0 : XT I J = XT I J := rfl
  refine g_iload_n d_X9_each_0 rfl ?_
  refine g_S1 d_X9_each_1 cs_X9_each_X9_isTrouble lk_RX9_275 im_X9_isTrouble (Nat.le_of_ble_eq_true rfl) ⟨rfl, rfl⟩ ⟨Nat.zero_le _, Nat.zero_le _⟩ (ct_X9_isTrouble k I J ) (fun r1 S1 Ic2 Jc3 q1_0 => ?_)
  obtain ⟨rfl, rfl, rfl, r5, rfl, hz1, hr1_5⟩ := q1_0
  refine g_st (st' := [.int r5]) rfl ?_
  refine g_if_ne d_X9_each_4 (fun h4 => ?_) (fun h4 => ?_)
  · skip
    refine g_iload_n d_X9_each_10 rfl ?_
    refine g_S1 d_X9_each_11 cs_X9_each_X9_areSignDays lk_RX9_250 im_X9_areSignDays (Nat.le_of_ble_eq_true rfl) ⟨rfl, rfl⟩ ⟨Nat.zero_le _, Nat.zero_le _⟩ (ct_X9_areSignDays n I J ) (fun r11 S11 Ic8 Jc9 q11_6 => ?_)
    obtain ⟨rfl, rfl, rfl, r11, rfl, hz11, hr11_11⟩ := q11_6
    refine g_st (st' := [.int r11]) rfl ?_
    refine g_if_ne d_X9_each_14 (fun h14 => ?_) (fun h14 => ?_)
    · skip
      refine g_aload_n d_X9_each_20 rfl ?_
      refine g_getR d_X9_each_21 fq_RX9_64 rfl rfl ?_
      refine g_iload_n d_X9_each_24 rfl ?_
      refine g_V1 d_X9_each_25 cs_X9_each_X1_learnCouldBe lk_RX9_289 im_X1_learnCouldBe se_X1_learnCouldBe rfl rfl rfl (Nat.le_of_ble_eq_true rfl) ⟨rfl, rfl⟩ ⟨Nat.zero_le _, Nat.zero_le _⟩ (ct_X1_learnCouldBe n I J ) (fun r25 S25 I13 J14 q25_14 => ?_)
      obtain ⟨rfl, hc25_15, rfl⟩ := q25_14
      refine g_st (st' := []) rfl ?_
      have hK18 : XT I13 J14 = XT I J := hc25_15.trans hK0
      refine g_aload_n d_X9_each_28 rfl ?_
      refine g_getR d_X9_each_29 fq_RX9_73 rfl rfl ?_
      refine g_iload_n d_X9_each_32 rfl ?_
      refine g_iload_n d_X9_each_33 rfl ?_
      refine g_V2 d_X9_each_34 cs_X9_each_X2_oddsWith lk_RX9_295 im_X2_oddsWith se_X2_oddsWith rfl rfl rfl (Nat.le_of_ble_eq_true rfl) ⟨rfl, rfl⟩ ⟨Nat.zero_le _, Nat.zero_le _⟩ (ct_X2_oddsWith k n I13 J14 (pri_of hK18 hpri)) (fun r34 S34 I19 J20 q34_20 => ?_)
      obtain ⟨rfl, hc34_21, r23, rfl⟩ := q34_20
      refine g_st (st' := [.int r23]) rfl ?_
      have hK25 : XT I19 J20 = XT I J := hc34_21.trans hK18
      exact g_ireturn d_X9_each_37 rfl rfl rfl rfl ⟨rfl, hK25, r23, rfl⟩
    · skip
      refine g_ldc (v := -1000000002) d_X9_each_17 tw_396 ?_
      exact g_ireturn d_X9_each_19 rfl rfl rfl rfl ⟨rfl, hK0, (-1000000002 : Int32), rfl⟩
  · skip
    refine g_ldc (v := -1000000001) d_X9_each_7 tw_576 ?_
    exact g_ireturn d_X9_each_9 rfl rfl rfl rfl ⟨rfl, hK0, (-1000000001 : Int32), rfl⟩
set_option maxRecDepth 100000 in
set_option maxHeartbeats 4000000 in
theorem ct_X9_tells (what : Int32) (n : Int32) (I : Iv) (J : Jv) (hpri : PRI I) : Ct m_X9_tells [.ref 0, .int what, .int n] SHF I J (fun r S' I' J' => S' = SHF ∧ XT I' J' = XT I J ∧ ∃ v : Int32, r = some (.int v)) := by
  refine ct_of 0 (by decide +kernel) rfl rfl ?_
  have hK0 : XT I J = XT I J := rfl
  refine g_iload_n d_X9_tells_0 rfl ?_
  refine g_S1 d_X9_tells_1 cs_X9_tells_X9_isSign lk_RX9_247 im_X9_isSign (Nat.le_of_ble_eq_true rfl) ⟨rfl, rfl⟩ ⟨Nat.zero_le _, Nat.zero_le _⟩ (ct_X9_isSign what I J ) (fun r1 S1 Ic2 Jc3 q1_0 => ?_)
  obtain ⟨rfl, rfl, rfl, r5, rfl, hz1, hr1_5⟩ := q1_0
  refine g_st (st' := [.int r5]) rfl ?_
  refine g_if_ne d_X9_tells_4 (fun h4 => ?_) (fun h4 => ?_)
  · skip
    refine g_iload_n d_X9_tells_10 rfl ?_
    refine g_S1 d_X9_tells_11 cs_X9_tells_X9_areSignDays lk_RX9_250 im_X9_areSignDays (Nat.le_of_ble_eq_true rfl) ⟨rfl, rfl⟩ ⟨Nat.zero_le _, Nat.zero_le _⟩ (ct_X9_areSignDays n I J ) (fun r11 S11 Ic8 Jc9 q11_6 => ?_)
    obtain ⟨rfl, rfl, rfl, r11, rfl, hz11, hr11_11⟩ := q11_6
    refine g_st (st' := [.int r11]) rfl ?_
    refine g_if_ne d_X9_tells_14 (fun h14 => ?_) (fun h14 => ?_)
    · skip
      refine g_aload_n d_X9_tells_20 rfl ?_
      refine g_getR d_X9_tells_21 fq_RX9_64 rfl rfl ?_
      refine g_iload_n d_X9_tells_24 rfl ?_
      refine g_V1 d_X9_tells_25 cs_X9_tells_X1_learnCouldBe lk_RX9_289 im_X1_learnCouldBe se_X1_learnCouldBe rfl rfl rfl (Nat.le_of_ble_eq_true rfl) ⟨rfl, rfl⟩ ⟨Nat.zero_le _, Nat.zero_le _⟩ (ct_X1_learnCouldBe n I J ) (fun r25 S25 I13 J14 q25_14 => ?_)
      obtain ⟨rfl, hc25_15, rfl⟩ := q25_14
      refine g_st (st' := []) rfl ?_
      have hK18 : XT I13 J14 = XT I J := hc25_15.trans hK0
      refine g_aload_n d_X9_tells_28 rfl ?_
      refine g_getR d_X9_tells_29 fq_RX9_73 rfl rfl ?_
      refine g_iload_n d_X9_tells_32 rfl ?_
      refine g_iload_n d_X9_tells_33 rfl ?_
      refine g_V2 d_X9_tells_34 cs_X9_tells_X2_howMuchTells lk_RX9_298 im_X2_howMuchTells se_X2_howMuchTells rfl rfl rfl (Nat.le_of_ble_eq_true rfl) ⟨rfl, rfl⟩ ⟨Nat.zero_le _, Nat.zero_le _⟩ (ct_X2_howMuchTells what n I13 J14 (pri_of hK18 hpri) (by grind)) (fun r34 S34 I19 J20 q34_20 => ?_)
      obtain ⟨rfl, hc34_21, r23, rfl⟩ := q34_20
      refine g_st (st' := [.int r23]) rfl ?_
      have hK25 : XT I19 J20 = XT I J := hc34_21.trans hK18
      exact g_ireturn d_X9_tells_37 rfl rfl rfl rfl ⟨rfl, hK25, r23, rfl⟩
    · skip
      refine g_ldc (v := -1000000002) d_X9_tells_17 tw_396 ?_
      exact g_ireturn d_X9_tells_19 rfl rfl rfl rfl ⟨rfl, hK0, (-1000000002 : Int32), rfl⟩
  · skip
    refine g_ldc (v := -1000000001) d_X9_tells_7 tw_576 ?_
    exact g_ireturn d_X9_tells_9 rfl rfl rfl rfl ⟨rfl, hK0, (-1000000001 : Int32), rfl⟩
set_option maxRecDepth 100000 in
set_option maxHeartbeats 4000000 in
theorem ct_X9_next (n : Int32) (I : Iv) (J : Jv) (hpri : PRI I) : Ct m_X9_next [.ref 0, .int n] SHF I J (fun r S' I' J' => S' = SHF ∧ XT I' J' = XT I J ∧ ∃ v : Int32, r = some (.int v)) := by
  refine ct_of 0 (by decide +kernel) rfl rfl ?_
  have hK0 : XT I J = XT I J := rfl
  refine g_iload_n d_X9_next_0 rfl ?_
  refine g_S1 d_X9_next_1 cs_X9_next_X9_areSignDays lk_RX9_250 im_X9_areSignDays (Nat.le_of_ble_eq_true rfl) ⟨rfl, rfl⟩ ⟨Nat.zero_le _, Nat.zero_le _⟩ (ct_X9_areSignDays n I J ) (fun r1 S1 Ic2 Jc3 q1_0 => ?_)
  obtain ⟨rfl, rfl, rfl, r5, rfl, hz1, hr1_5⟩ := q1_0
  refine g_st (st' := [.int r5]) rfl ?_
  refine g_if_ne d_X9_next_4 (fun h4 => ?_) (fun h4 => ?_)
  · skip
    refine g_aload_n d_X9_next_10 rfl ?_
    refine g_getR d_X9_next_11 fq_RX9_64 rfl rfl ?_
    refine g_iload_n d_X9_next_14 rfl ?_
    refine g_V1 d_X9_next_15 cs_X9_next_X1_learnCouldBe lk_RX9_289 im_X1_learnCouldBe se_X1_learnCouldBe rfl rfl rfl (Nat.le_of_ble_eq_true rfl) ⟨rfl, rfl⟩ ⟨Nat.zero_le _, Nat.zero_le _⟩ (ct_X1_learnCouldBe n I J ) (fun r15 S15 I7 J8 q15_8 => ?_)
    obtain ⟨rfl, hc15_9, rfl⟩ := q15_8
    refine g_st (st' := []) rfl ?_
    have hK12 : XT I7 J8 = XT I J := hc15_9.trans hK0
    refine g_aload_n d_X9_next_18 rfl ?_
    refine g_getR d_X9_next_19 fq_RX9_73 rfl rfl ?_
    refine g_iload_n d_X9_next_22 rfl ?_
    refine g_V1 d_X9_next_23 cs_X9_next_X2_nextSign lk_RX9_301 im_X2_nextSign se_X2_nextSign rfl rfl rfl (Nat.le_of_ble_eq_true rfl) ⟨rfl, rfl⟩ ⟨Nat.zero_le _, Nat.zero_le _⟩ (ct_X2_nextSign n I7 J8 (pri_of hK12 hpri)) (fun r23 S23 I13 J14 q23_14 => ?_)
    obtain ⟨rfl, hc23_15, r17, rfl⟩ := q23_14
    refine g_st (st' := [.int r17]) rfl ?_
    have hK19 : XT I13 J14 = XT I J := hc23_15.trans hK12
    exact g_ireturn d_X9_next_26 rfl rfl rfl rfl ⟨rfl, hK19, r17, rfl⟩
  · skip
    refine g_ldc (v := -1000000002) d_X9_next_7 tw_396 ?_
    exact g_ireturn d_X9_next_9 rfl rfl rfl rfl ⟨rfl, hK0, (-1000000002 : Int32), rfl⟩
set_option maxRecDepth 100000 in
set_option maxHeartbeats 4000000 in
theorem ct_X9_makes (set : Int32) (what : Int32) (I : Iv) (J : Jv)  : Ct m_X9_makes [.ref 0, .int set, .int what] SHF I J (fun r S' I' J' => S' = SHF ∧ XT I' J' = XT I J ∧ ∃ v : Int32, r = some (.int v)) := by
  refine ct_of 0 (by decide +kernel) rfl rfl ?_
  have hK0 : XT I J = XT I J := rfl
  refine g_iload_n d_X9_makes_0 rfl ?_
  refine g_S1 d_X9_makes_1 cs_X9_makes_X9_isSet lk_RX9_151 im_X9_isSet (Nat.le_of_ble_eq_true rfl) ⟨rfl, rfl⟩ ⟨Nat.zero_le _, Nat.zero_le _⟩ (ct_X9_isSet set I J ) (fun r1 S1 Ic2 Jc3 q1_0 => ?_)
  obtain ⟨rfl, rfl, rfl, r5, rfl, hz1, hr1_5⟩ := q1_0
  refine g_st (st' := [.int r5]) rfl ?_
  refine g_if_ne d_X9_makes_4 (fun h4 => ?_) (fun h4 => ?_)
  · skip
    refine g_iload_n d_X9_makes_10 rfl ?_
    refine g_if_lt d_X9_makes_11 (fun h11 => ?_) (fun h11 => ?_)
    · skip
      refine g_ldc (v := -1000000002) d_X9_makes_19 tw_396 ?_
      exact g_ireturn d_X9_makes_21 rfl rfl rfl rfl ⟨rfl, hK0, (-1000000002 : Int32), rfl⟩
    · skip
      refine g_iload_n d_X9_makes_14 rfl ?_
      refine g_iconst (v := 1) d_X9_makes_15 kI_1 ?_
      refine g_icmp_le d_X9_makes_16 (fun h16 => ?_) (fun h16 => ?_)
      · skip
        refine g_aload_n d_X9_makes_22 rfl ?_
        refine g_getR d_X9_makes_23 fq_RX9_64 rfl rfl ?_
        refine g_iload_n d_X9_makes_26 rfl ?_
        refine g_iload_n d_X9_makes_27 rfl ?_
        have J_36 : ∀ (w7 : Int32), (w7 = 0 ∨ w7 = 1) → G m_X9_makes (rq m_X9_makes (fun r S' I' J' => S' = SHF ∧ XT I' J' = XT I J ∧ ∃ v : Int32, r = some (.int v))) 0 0 36 [some (.ref 0), some (.int set), some (.int what)] [.int w7, .int set, .ref 45] SHF I J := by
          intro w7 hw7
          refine g_aload_n d_X9_makes_36 rfl ?_
          refine g_getR d_X9_makes_37 fq_RX9_42 rfl rfl ?_
          refine g_getZ d_X9_makes_40 fq_RX9_93 rfl rfl (fun hz40 => ?_)
          refine g_V3 d_X9_makes_43 cs_X9_makes_X1_firstDay lk_RX9_304 im_X1_firstDay se_X1_firstDay rfl rfl rfl (Nat.le_of_ble_eq_true rfl) ⟨rfl, rfl⟩ ⟨Nat.zero_le _, Nat.zero_le _⟩ (ct_X1_firstDay set w7 (I 16 12) I J (by grind)) (fun r43 S43 I8 J9 q43_9 => ?_)
          obtain ⟨rfl, hc43_10, r12, rfl⟩ := q43_9
          refine g_st (st' := [.int r12]) rfl ?_
          have hK14 : XT I8 J9 = XT I J := hc43_10.trans hK0
          exact g_ireturn d_X9_makes_46 rfl rfl rfl rfl ⟨rfl, hK14, r12, rfl⟩
        refine g_if_ne d_X9_makes_28 (fun h28 => ?_) (fun h28 => ?_)
        · skip
          refine g_iconst (v := 0) d_X9_makes_35 kI_0 ?_
          exact J_36 ((0 : Int32)) (Or.inl rfl)
        · skip
          refine g_iconst (v := 1) d_X9_makes_31 kI_1 ?_
          refine g_goto d_X9_makes_32 ?_
          exact J_36 ((1 : Int32)) (Or.inr rfl)
      · skip
        refine g_ldc (v := -1000000002) d_X9_makes_19 tw_396 ?_
        exact g_ireturn d_X9_makes_21 rfl rfl rfl rfl ⟨rfl, hK0, (-1000000002 : Int32), rfl⟩
  · skip
    refine g_ldc (v := -1000000001) d_X9_makes_7 tw_576 ?_
    exact g_ireturn d_X9_makes_9 rfl rfl rfl rfl ⟨rfl, hK0, (-1000000001 : Int32), rfl⟩
set_option maxRecDepth 100000 in
set_option maxHeartbeats 4000000 in
theorem ct_X9_year (set : Int32) (I : Iv) (J : Jv)  : Ct m_X9_year [.ref 0, .int set] SHF I J (fun r S' I' J' => S' = SHF ∧ XT I' J' = XT I J ∧ ∃ v : Int32, r = some (.int v)) := by
  refine ct_of 0 (by decide +kernel) rfl rfl ?_
  have hK0 : XT I J = XT I J := rfl
  refine g_iload_n d_X9_year_0 rfl ?_
  refine g_S1 d_X9_year_1 cs_X9_year_X9_isSet lk_RX9_151 im_X9_isSet (Nat.le_of_ble_eq_true rfl) ⟨rfl, rfl⟩ ⟨Nat.zero_le _, Nat.zero_le _⟩ (ct_X9_isSet set I J ) (fun r1 S1 Ic2 Jc3 q1_0 => ?_)
  obtain ⟨rfl, rfl, rfl, r5, rfl, hz1, hr1_5⟩ := q1_0
  refine g_st (st' := [.int r5]) rfl ?_
  refine g_if_ne d_X9_year_4 (fun h4 => ?_) (fun h4 => ?_)
  · skip
    refine g_aload_n d_X9_year_10 rfl ?_
    refine g_getR d_X9_year_11 fq_RX9_64 rfl rfl ?_
    refine g_iload_n d_X9_year_14 rfl ?_
    refine g_iconst (v := 2) d_X9_year_15 kI_2 ?_
    refine g_V2 d_X9_year_16 cs_X9_year_X1_learn lk_RX9_253 im_X1_learn se_X1_learn rfl rfl rfl (Nat.le_of_ble_eq_true rfl) ⟨rfl, rfl⟩ ⟨Nat.zero_le _, Nat.zero_le _⟩ (ct_X1_learn set (2 : Int32) I J ) (fun r16 S16 I7 J8 q16_8 => ?_)
    obtain ⟨rfl, hc16_9, rfl⟩ := q16_8
    refine g_st (st' := []) rfl ?_
    have hK12 : XT I7 J8 = XT I J := hc16_9.trans hK0
    refine g_aload_n d_X9_year_19 rfl ?_
    refine g_getR d_X9_year_20 fq_RX9_80 rfl rfl ?_
    refine g_iload_n d_X9_year_23 rfl ?_
    refine g_aload_n d_X9_year_24 rfl ?_
    refine g_getR d_X9_year_25 fq_RX9_42 rfl rfl ?_
    refine g_getZ d_X9_year_28 fq_RX9_93 rfl rfl (fun hz28 => ?_)
    refine g_V2 d_X9_year_31 cs_X9_year_X4_yearOf lk_RX9_317 im_X4_yearOf se_X4_yearOf rfl rfl rfl (Nat.le_of_ble_eq_true rfl) ⟨rfl, rfl⟩ ⟨Nat.zero_le _, Nat.zero_le _⟩ (ct_X4_yearOf set (I7 16 12) I7 J8 ) (fun r31 S31 Ic14 Jc15 q31_12 => ?_)
    obtain ⟨rfl, rfl, rfl, r17, rfl⟩ := q31_12
    refine g_st (st' := [.int r17]) rfl ?_
    exact g_ireturn d_X9_year_34 rfl rfl rfl rfl ⟨rfl, hK12, r17, rfl⟩
  · skip
    refine g_ldc (v := -1000000001) d_X9_year_7 tw_576 ?_
    exact g_ireturn d_X9_year_9 rfl rfl rfl rfl ⟨rfl, hK0, (-1000000001 : Int32), rfl⟩
set_option maxRecDepth 100000 in
set_option maxHeartbeats 4000000 in
theorem ct_X9_saves (set : Int32) (part : Int32) (I : Iv) (J : Jv)  : Ct m_X9_saves [.ref 0, .int set, .int part] SHF I J (fun r S' I' J' => S' = SHF ∧ XT I' J' = XT I J ∧ ∃ v : Int32, r = some (.int v)) := by
  refine ct_of 0 (by decide +kernel) rfl rfl ?_
  have hK0 : XT I J = XT I J := rfl
  refine g_iload_n d_X9_saves_0 rfl ?_
  refine g_S1 d_X9_saves_1 cs_X9_saves_X9_isSet lk_RX9_151 im_X9_isSet (Nat.le_of_ble_eq_true rfl) ⟨rfl, rfl⟩ ⟨Nat.zero_le _, Nat.zero_le _⟩ (ct_X9_isSet set I J ) (fun r1 S1 Ic2 Jc3 q1_0 => ?_)
  obtain ⟨rfl, rfl, rfl, r5, rfl, hz1, hr1_5⟩ := q1_0
  refine g_st (st' := [.int r5]) rfl ?_
  refine g_if_eq d_X9_saves_4 (fun h4 => ?_) (fun h4 => ?_)
  · skip
    refine g_ldc (v := -1000000001) d_X9_saves_14 tw_576 ?_
    exact g_ireturn d_X9_saves_16 rfl rfl rfl rfl ⟨rfl, hK0, (-1000000001 : Int32), rfl⟩
  · skip
    refine g_iload_n d_X9_saves_7 rfl ?_
    refine g_S1 d_X9_saves_8 cs_X9_saves_X9_isSet lk_RX9_151 im_X9_isSet (Nat.le_of_ble_eq_true rfl) ⟨rfl, rfl⟩ ⟨Nat.zero_le _, Nat.zero_le _⟩ (ct_X9_isSet part I J ) (fun r8 S8 Ic8 Jc9 q8_6 => ?_)
    obtain ⟨rfl, rfl, rfl, r11, rfl, hz8, hr8_11⟩ := q8_6
    refine g_st (st' := [.int r11]) rfl ?_
    refine g_if_ne d_X9_saves_11 (fun h11 => ?_) (fun h11 => ?_)
    · skip
      refine g_iload_n d_X9_saves_17 rfl ?_
      refine g_iload_n d_X9_saves_18 rfl ?_
      refine g_S2 d_X9_saves_19 cs_X9_saves_X9_isPart lk_RX9_321 im_X9_isPart (Nat.le_of_ble_eq_true rfl) ⟨rfl, rfl⟩ ⟨Nat.zero_le _, Nat.zero_le _⟩ (ct_X9_isPart part set I J ) (fun r19 S19 Ic14 Jc15 q19_12 => ?_)
      obtain ⟨rfl, rfl, rfl, r17, rfl, hz19⟩ := q19_12
      refine g_st (st' := [.int r17]) rfl ?_
      refine g_if_ne d_X9_saves_22 (fun h22 => ?_) (fun h22 => ?_)
      · skip
        refine g_aload_n d_X9_saves_29 rfl ?_
        refine g_getR d_X9_saves_30 fq_RX9_64 rfl rfl ?_
        refine g_iload_n d_X9_saves_33 rfl ?_
        refine g_iconst (v := 2) d_X9_saves_34 kI_2 ?_
        refine g_V2 d_X9_saves_35 cs_X9_saves_X1_learn lk_RX9_253 im_X1_learn se_X1_learn rfl rfl rfl (Nat.le_of_ble_eq_true rfl) ⟨rfl, rfl⟩ ⟨Nat.zero_le _, Nat.zero_le _⟩ (ct_X1_learn set (2 : Int32) I J ) (fun r35 S35 I19 J20 q35_20 => ?_)
        obtain ⟨rfl, hc35_21, rfl⟩ := q35_20
        refine g_st (st' := []) rfl ?_
        have hK24 : XT I19 J20 = XT I J := hc35_21.trans hK0
        refine g_aload_n d_X9_saves_38 rfl ?_
        refine g_getR d_X9_saves_39 fq_RX9_64 rfl rfl ?_
        refine g_iload_n d_X9_saves_42 rfl ?_
        refine g_iload_n d_X9_saves_43 rfl ?_
        refine g_iconst (v := -1) d_X9_saves_44 kI_m1 ?_
        refine g_ixor d_X9_saves_45 ?_
        refine g_iand d_X9_saves_46 ?_
        refine g_iconst (v := 2) d_X9_saves_47 kI_2 ?_
        refine g_V2 d_X9_saves_48 cs_X9_saves_X1_learn lk_RX9_253 im_X1_learn se_X1_learn rfl rfl rfl (Nat.le_of_ble_eq_true rfl) ⟨rfl, rfl⟩ ⟨Nat.zero_le _, Nat.zero_le _⟩ (ct_X1_learn (set &&& (part ^^^ (-1 : Int32))) (2 : Int32) I19 J20 ) (fun r48 S48 I25 J26 q48_26 => ?_)
        obtain ⟨rfl, hc48_27, rfl⟩ := q48_26
        refine g_st (st' := []) rfl ?_
        have hK30 : XT I25 J26 = XT I J := hc48_27.trans hK24
        refine g_aload_n d_X9_saves_51 rfl ?_
        refine g_getR d_X9_saves_52 fq_RX9_80 rfl rfl ?_
        refine g_iload_n d_X9_saves_55 rfl ?_
        refine g_iload_n d_X9_saves_56 rfl ?_
        refine g_aload_n d_X9_saves_57 rfl ?_
        refine g_getR d_X9_saves_58 fq_RX9_42 rfl rfl ?_
        refine g_getZ d_X9_saves_61 fq_RX9_93 rfl rfl (fun hz61 => ?_)
        refine g_V3 d_X9_saves_64 cs_X9_saves_X4_saved lk_RX9_326 im_X4_saved se_X4_saved rfl rfl rfl (Nat.le_of_ble_eq_true rfl) ⟨rfl, rfl⟩ ⟨Nat.zero_le _, Nat.zero_le _⟩ (ct_X4_saved set part (I25 16 12) I25 J26 ) (fun r64 S64 Ic32 Jc33 q64_30 => ?_)
        obtain ⟨rfl, rfl, rfl, r35, rfl⟩ := q64_30
        refine g_st (st' := [.int r35]) rfl ?_
        exact g_ireturn d_X9_saves_67 rfl rfl rfl rfl ⟨rfl, hK30, r35, rfl⟩
      · skip
        refine g_ldcw (v := -1000000003) d_X9_saves_25 tw_937 ?_
        exact g_ireturn d_X9_saves_28 rfl rfl rfl rfl ⟨rfl, hK0, (-1000000003 : Int32), rfl⟩
    · skip
      refine g_ldc (v := -1000000001) d_X9_saves_14 tw_576 ?_
      exact g_ireturn d_X9_saves_16 rfl rfl rfl rfl ⟨rfl, hK0, (-1000000001 : Int32), rfl⟩
set_option maxRecDepth 100000 in
set_option maxHeartbeats 4000000 in
theorem ct_X9_best (set : Int32) (c : Int32) (what : Int32) (I : Iv) (J : Jv)  : Ct m_X9_best [.ref 0, .int set, .int c, .int what] SHF I J (fun r S' I' J' => S' = SHF ∧ XT I' J' = XT I J ∧ ∃ v : Int32, r = some (.int v)) := by
  refine ct_of 1 (by decide +kernel) rfl rfl ?_
  have hK0 : XT I J = XT I J := rfl
  refine g_iload_n d_X9_best_0 rfl ?_
  refine g_S1 d_X9_best_1 cs_X9_best_X9_isSet lk_RX9_151 im_X9_isSet (Nat.le_of_ble_eq_true rfl) ⟨rfl, rfl⟩ ⟨Nat.zero_le _, Nat.zero_le _⟩ (ct_X9_isSet set I J ) (fun r1 S1 Ic2 Jc3 q1_0 => ?_)
  obtain ⟨rfl, rfl, rfl, r5, rfl, hz1, hr1_5⟩ := q1_0
  refine g_st (st' := [.int r5]) rfl ?_
  refine g_if_ne d_X9_best_4 (fun h4 => ?_) (fun h4 => ?_)
  · skip
    refine g_iload_n d_X9_best_10 rfl ?_
    refine g_if_lt d_X9_best_11 (fun h11 => ?_) (fun h11 => ?_)
    · skip
      refine g_ldc (v := -1000000002) d_X9_best_30 tw_396 ?_
      exact g_ireturn d_X9_best_32 rfl rfl rfl rfl ⟨rfl, hK0, (-1000000002 : Int32), rfl⟩
    · skip
      refine g_iload_n d_X9_best_14 rfl ?_
      refine g_sipush (v := 9999) d_X9_best_15 kS_9999 ?_
      refine g_icmp_gt d_X9_best_18 (fun h18 => ?_) (fun h18 => ?_)
      · skip
        refine g_ldc (v := -1000000002) d_X9_best_30 tw_396 ?_
        exact g_ireturn d_X9_best_32 rfl rfl rfl rfl ⟨rfl, hK0, (-1000000002 : Int32), rfl⟩
      · skip
        refine g_iload_n d_X9_best_21 rfl ?_
        refine g_if_lt d_X9_best_22 (fun h22 => ?_) (fun h22 => ?_)
        · skip
          refine g_ldc (v := -1000000002) d_X9_best_30 tw_396 ?_
          exact g_ireturn d_X9_best_32 rfl rfl rfl rfl ⟨rfl, hK0, (-1000000002 : Int32), rfl⟩
        · skip
          refine g_iload_n d_X9_best_25 rfl ?_
          refine g_iconst (v := 2) d_X9_best_26 kI_2 ?_
          refine g_icmp_le d_X9_best_27 (fun h27 => ?_) (fun h27 => ?_)
          · skip
            refine g_aload_n d_X9_best_33 rfl ?_
            refine g_getR d_X9_best_34 fq_RX9_64 rfl rfl ?_
            refine g_iload_n d_X9_best_37 rfl ?_
            refine g_iconst (v := 2) d_X9_best_38 kI_2 ?_
            refine g_V2 d_X9_best_39 cs_X9_best_X1_learnParts lk_RX9_330 im_X1_learnParts se_X1_learnParts rfl rfl rfl (Nat.le_of_ble_eq_true rfl) ⟨rfl, rfl⟩ ⟨Nat.zero_le _, Nat.zero_le _⟩ (ct_X1_learnParts set (2 : Int32) I J (by grind)) (fun r39 S39 I7 J8 q39_8 => ?_)
            obtain ⟨rfl, hc39_9, rfl⟩ := q39_8
            refine g_st (st' := []) rfl ?_
            have hK12 : XT I7 J8 = XT I J := hc39_9.trans hK0
            refine g_aload_n d_X9_best_42 rfl ?_
            refine g_getR d_X9_best_43 fq_RX9_80 rfl rfl ?_
            refine g_iload_n d_X9_best_46 rfl ?_
            refine g_iload_n d_X9_best_47 rfl ?_
            refine g_aload_n d_X9_best_48 rfl ?_
            refine g_getR d_X9_best_49 fq_RX9_42 rfl rfl ?_
            refine g_getZ d_X9_best_52 fq_RX9_93 rfl rfl (fun hz52 => ?_)
            refine g_V3 d_X9_best_55 cs_X9_best_X4_bestPart lk_RX9_333 im_X4_bestPart se_X4_bestPart rfl rfl rfl (Nat.le_of_ble_eq_true rfl) ⟨rfl, rfl⟩ ⟨Nat.zero_le _, Nat.zero_le _⟩ (ct_X4_bestPart set c (I7 16 12) I7 J8 (by grind)) (fun r55 S55 Ic14 Jc15 q55_12 => ?_)
            obtain ⟨rfl, rfl, rfl, r17, rfl⟩ := q55_12
            refine g_st (st' := [.int r17]) rfl ?_
            refine g_istore (L' := [some (.ref 0), some (.int set), some (.int c), some (.int what), some (.int r17)]) d_X9_best_58 (by decide) rfl ?_
            refine g_iload_n d_X9_best_60 rfl ?_
            by_cases h61_0 : what = (0 : Int32)
            · skip
              refine g_lookup (show Dj (yc m_X9_best) 61 (.lookupswitch 48 #[(0, 27), (1, 30)]) 27 88 (27) 88 from ⟨by decide +kernel, rfl, rfl⟩) (by decide) (by rw [h61_0]; decide) ?_
              refine g_iload d_X9_best_88 rfl ?_
              exact g_ireturn d_X9_best_90 rfl rfl rfl rfl ⟨rfl, hK12, r17, rfl⟩
            by_cases h61_1 : what = (1 : Int32)
            · skip
              refine g_lookup (show Dj (yc m_X9_best) 61 (.lookupswitch 48 #[(0, 27), (1, 30)]) 27 88 (30) 91 from ⟨by decide +kernel, rfl, rfl⟩) (by decide) (by rw [h61_1]; decide) ?_
              refine g_aload_n d_X9_best_91 rfl ?_
              refine g_getR d_X9_best_92 fq_RX9_80 rfl rfl ?_
              refine g_iload_n d_X9_best_95 rfl ?_
              refine g_iload d_X9_best_96 rfl ?_
              refine g_aload_n d_X9_best_98 rfl ?_
              refine g_getR d_X9_best_99 fq_RX9_42 rfl rfl ?_
              refine g_getZ d_X9_best_102 fq_RX9_93 rfl rfl (fun hz102 => ?_)
              refine g_V3 d_X9_best_105 cs_X9_best_X4_saved lk_RX9_326 im_X4_saved se_X4_saved rfl rfl rfl (Nat.le_of_ble_eq_true rfl) ⟨rfl, rfl⟩ ⟨Nat.zero_le _, Nat.zero_le _⟩ (ct_X4_saved set r17 (I7 16 12) I7 J8 ) (fun r105 S105 Ic20 Jc21 q105_18 => ?_)
              obtain ⟨rfl, rfl, rfl, r23, rfl⟩ := q105_18
              refine g_st (st' := [.int r23]) rfl ?_
              exact g_ireturn d_X9_best_108 rfl rfl rfl rfl ⟨rfl, hK12, r23, rfl⟩
            refine g_lookup (show Dj (yc m_X9_best) 61 (.lookupswitch 48 #[(0, 27), (1, 30)]) 27 88 (48) 109 from ⟨by decide +kernel, rfl, rfl⟩) (by decide) (by show Op.lookupswitch.offset [(0, 27), (1, 30)] 48 _ = _; rw [lv_osw (a := 0) h61_0 (by decide)]; rw [lv_osw (a := 1) h61_1 (by decide)]; rfl) ?_
            refine g_aload_n d_X9_best_109 rfl ?_
            refine g_getR d_X9_best_110 fq_RX9_80 rfl rfl ?_
            refine g_iload d_X9_best_113 rfl ?_
            refine g_V1 d_X9_best_115 cs_X9_best_X4_costOf lk_RX9_336 im_X4_costOf se_X4_costOf rfl rfl rfl (Nat.le_of_ble_eq_true rfl) ⟨rfl, rfl⟩ ⟨Nat.zero_le _, Nat.zero_le _⟩ (ct_X4_costOf r17 I7 J8 ) (fun r115 S115 Ic26 Jc27 q115_24 => ?_)
            obtain ⟨rfl, rfl, rfl, r29, rfl⟩ := q115_24
            refine g_st (st' := [.int r29]) rfl ?_
            exact g_ireturn d_X9_best_118 rfl rfl rfl rfl ⟨rfl, hK12, r29, rfl⟩
          · skip
            refine g_ldc (v := -1000000002) d_X9_best_30 tw_396 ?_
            exact g_ireturn d_X9_best_32 rfl rfl rfl rfl ⟨rfl, hK0, (-1000000002 : Int32), rfl⟩
  · skip
    refine g_ldc (v := -1000000001) d_X9_best_7 tw_576 ?_
    exact g_ireturn d_X9_best_9 rfl rfl rfl rfl ⟨rfl, hK0, (-1000000001 : Int32), rfl⟩
set_option maxRecDepth 100000 in
set_option maxHeartbeats 4000000 in
theorem ct_X9_pays (set : Int32) (c : Int32) (u : Int32) (I : Iv) (J : Jv)  : Ct m_X9_pays [.ref 0, .int set, .int c, .int u] SHF I J (fun r S' I' J' => S' = SHF ∧ XT I' J' = XT I J ∧ ∃ v : Int32, r = some (.int v)) := by
  refine ct_of 0 (by decide +kernel) rfl rfl ?_
  have hK0 : XT I J = XT I J := rfl
  refine g_iload_n d_X9_pays_0 rfl ?_
  refine g_S1 d_X9_pays_1 cs_X9_pays_X9_isSet lk_RX9_151 im_X9_isSet (Nat.le_of_ble_eq_true rfl) ⟨rfl, rfl⟩ ⟨Nat.zero_le _, Nat.zero_le _⟩ (ct_X9_isSet set I J ) (fun r1 S1 Ic2 Jc3 q1_0 => ?_)
  obtain ⟨rfl, rfl, rfl, r5, rfl, hz1, hr1_5⟩ := q1_0
  refine g_st (st' := [.int r5]) rfl ?_
  refine g_if_ne d_X9_pays_4 (fun h4 => ?_) (fun h4 => ?_)
  · skip
    refine g_iload_n d_X9_pays_10 rfl ?_
    refine g_if_lt d_X9_pays_11 (fun h11 => ?_) (fun h11 => ?_)
    · skip
      refine g_ldc (v := -1000000002) d_X9_pays_32 tw_396 ?_
      exact g_ireturn d_X9_pays_34 rfl rfl rfl rfl ⟨rfl, hK0, (-1000000002 : Int32), rfl⟩
    · skip
      refine g_iload_n d_X9_pays_14 rfl ?_
      refine g_ldcw (v := 99999) d_X9_pays_15 tw_793 ?_
      refine g_icmp_gt d_X9_pays_18 (fun h18 => ?_) (fun h18 => ?_)
      · skip
        refine g_ldc (v := -1000000002) d_X9_pays_32 tw_396 ?_
        exact g_ireturn d_X9_pays_34 rfl rfl rfl rfl ⟨rfl, hK0, (-1000000002 : Int32), rfl⟩
      · skip
        refine g_iload_n d_X9_pays_21 rfl ?_
        refine g_if_lt d_X9_pays_22 (fun h22 => ?_) (fun h22 => ?_)
        · skip
          refine g_ldc (v := -1000000002) d_X9_pays_32 tw_396 ?_
          exact g_ireturn d_X9_pays_34 rfl rfl rfl rfl ⟨rfl, hK0, (-1000000002 : Int32), rfl⟩
        · skip
          refine g_iload_n d_X9_pays_25 rfl ?_
          refine g_sipush (v := 9999) d_X9_pays_26 kS_9999 ?_
          refine g_icmp_le d_X9_pays_29 (fun h29 => ?_) (fun h29 => ?_)
          · skip
            refine g_aload_n d_X9_pays_35 rfl ?_
            refine g_getR d_X9_pays_36 fq_RX9_64 rfl rfl ?_
            refine g_iload_n d_X9_pays_39 rfl ?_
            refine g_iconst (v := 2) d_X9_pays_40 kI_2 ?_
            refine g_V2 d_X9_pays_41 cs_X9_pays_X1_learn lk_RX9_253 im_X1_learn se_X1_learn rfl rfl rfl (Nat.le_of_ble_eq_true rfl) ⟨rfl, rfl⟩ ⟨Nat.zero_le _, Nat.zero_le _⟩ (ct_X1_learn set (2 : Int32) I J ) (fun r41 S41 I7 J8 q41_8 => ?_)
            obtain ⟨rfl, hc41_9, rfl⟩ := q41_8
            refine g_st (st' := []) rfl ?_
            have hK12 : XT I7 J8 = XT I J := hc41_9.trans hK0
            refine g_aload_n d_X9_pays_44 rfl ?_
            refine g_getR d_X9_pays_45 fq_RX9_80 rfl rfl ?_
            refine g_iload_n d_X9_pays_48 rfl ?_
            refine g_iload_n d_X9_pays_49 rfl ?_
            refine g_iload_n d_X9_pays_50 rfl ?_
            refine g_aload_n d_X9_pays_51 rfl ?_
            refine g_getR d_X9_pays_52 fq_RX9_42 rfl rfl ?_
            refine g_getZ d_X9_pays_55 fq_RX9_93 rfl rfl (fun hz55 => ?_)
            refine g_V4 d_X9_pays_58 cs_X9_pays_X4_yearsToPay lk_RX9_339 im_X4_yearsToPay se_X4_yearsToPay rfl rfl rfl (Nat.le_of_ble_eq_true rfl) ⟨rfl, rfl⟩ ⟨Nat.zero_le _, Nat.zero_le _⟩ (ct_X4_yearsToPay set c u (I7 16 12) I7 J8 ) (fun r58 S58 Ic14 Jc15 q58_12 => ?_)
            obtain ⟨rfl, rfl, rfl, r17, rfl⟩ := q58_12
            refine g_st (st' := [.int r17]) rfl ?_
            exact g_ireturn d_X9_pays_61 rfl rfl rfl rfl ⟨rfl, hK12, r17, rfl⟩
          · skip
            refine g_ldc (v := -1000000002) d_X9_pays_32 tw_396 ?_
            exact g_ireturn d_X9_pays_34 rfl rfl rfl rfl ⟨rfl, hK0, (-1000000002 : Int32), rfl⟩
  · skip
    refine g_ldc (v := -1000000001) d_X9_pays_7 tw_576 ?_
    exact g_ireturn d_X9_pays_9 rfl rfl rfl rfl ⟨rfl, hK0, (-1000000001 : Int32), rfl⟩
set_option maxRecDepth 100000 in
set_option maxHeartbeats 4000000 in
theorem ct_X9_ice (set : Int32) (n : Int32) (b : Int32) (I : Iv) (J : Jv)  : Ct m_X9_ice [.ref 0, .int set, .int n, .int b] SHF I J (fun r S' I' J' => S' = SHF ∧ XT I' J' = XT I J ∧ ∃ v : Int32, r = some (.int v)) := by
  refine ct_of 0 (by decide +kernel) rfl rfl ?_
  have hK0 : XT I J = XT I J := rfl
  refine g_iload_n d_X9_ice_0 rfl ?_
  refine g_S1 d_X9_ice_1 cs_X9_ice_X9_isSet lk_RX9_151 im_X9_isSet (Nat.le_of_ble_eq_true rfl) ⟨rfl, rfl⟩ ⟨Nat.zero_le _, Nat.zero_le _⟩ (ct_X9_isSet set I J ) (fun r1 S1 Ic2 Jc3 q1_0 => ?_)
  obtain ⟨rfl, rfl, rfl, r5, rfl, hz1, hr1_5⟩ := q1_0
  refine g_st (st' := [.int r5]) rfl ?_
  refine g_if_ne d_X9_ice_4 (fun h4 => ?_) (fun h4 => ?_)
  · skip
    refine g_iload_n d_X9_ice_10 rfl ?_
    refine g_iconst (v := 1) d_X9_ice_11 kI_1 ?_
    refine g_icmp_lt d_X9_ice_12 (fun h12 => ?_) (fun h12 => ?_)
    · skip
      refine g_ldc (v := -1000000002) d_X9_ice_32 tw_396 ?_
      exact g_ireturn d_X9_ice_34 rfl rfl rfl rfl ⟨rfl, hK0, (-1000000002 : Int32), rfl⟩
    · skip
      refine g_iload_n d_X9_ice_15 rfl ?_
      refine g_bipush (v := 20) d_X9_ice_16 kB_20 ?_
      refine g_icmp_gt d_X9_ice_18 (fun h18 => ?_) (fun h18 => ?_)
      · skip
        refine g_ldc (v := -1000000002) d_X9_ice_32 tw_396 ?_
        exact g_ireturn d_X9_ice_34 rfl rfl rfl rfl ⟨rfl, hK0, (-1000000002 : Int32), rfl⟩
      · skip
        refine g_iload_n d_X9_ice_21 rfl ?_
        refine g_if_lt d_X9_ice_22 (fun h22 => ?_) (fun h22 => ?_)
        · skip
          refine g_ldc (v := -1000000002) d_X9_ice_32 tw_396 ?_
          exact g_ireturn d_X9_ice_34 rfl rfl rfl rfl ⟨rfl, hK0, (-1000000002 : Int32), rfl⟩
        · skip
          refine g_iload_n d_X9_ice_25 rfl ?_
          refine g_sipush (v := 999) d_X9_ice_26 kS_999 ?_
          refine g_icmp_le d_X9_ice_29 (fun h29 => ?_) (fun h29 => ?_)
          · skip
            refine g_aload_n d_X9_ice_35 rfl ?_
            refine g_getR d_X9_ice_36 fq_RX9_80 rfl rfl ?_
            refine g_iload_n d_X9_ice_39 rfl ?_
            refine g_iload_n d_X9_ice_40 rfl ?_
            refine g_iload_n d_X9_ice_41 rfl ?_
            refine g_aload_n d_X9_ice_42 rfl ?_
            refine g_getR d_X9_ice_43 fq_RX9_42 rfl rfl ?_
            refine g_getZ d_X9_ice_46 fq_RX9_93 rfl rfl (fun hz46 => ?_)
            refine g_V4 d_X9_ice_49 cs_X9_ice_X4_bestThawing lk_RX9_343 im_X4_bestThawing se_X4_bestThawing rfl rfl rfl (Nat.le_of_ble_eq_true rfl) ⟨rfl, rfl⟩ ⟨Nat.zero_le _, Nat.zero_le _⟩ (ct_X4_bestThawing set n b (I 16 12) I J (by grind)) (fun r49 S49 I7 J8 q49_8 => ?_)
            obtain ⟨rfl, hc49_9, r11, rfl⟩ := q49_8
            refine g_st (st' := [.int r11]) rfl ?_
            have hK13 : XT I7 J8 = XT I J := hc49_9.trans hK0
            exact g_ireturn d_X9_ice_52 rfl rfl rfl rfl ⟨rfl, hK13, r11, rfl⟩
          · skip
            refine g_ldc (v := -1000000002) d_X9_ice_32 tw_396 ?_
            exact g_ireturn d_X9_ice_34 rfl rfl rfl rfl ⟨rfl, hK0, (-1000000002 : Int32), rfl⟩
  · skip
    refine g_ldc (v := -1000000001) d_X9_ice_7 tw_576 ?_
    exact g_ireturn d_X9_ice_9 rfl rfl rfl rfl ⟨rfl, hK0, (-1000000001 : Int32), rfl⟩
set_option maxRecDepth 100000 in
set_option maxHeartbeats 4000000 in
theorem ct_X9_lying (f : Int32) (I : Iv) (J : Jv)  : Ct m_X9_lying [.ref 0, .int f] SHF I J (fun r S' I' J' => S' = SHF ∧ XT I' J' = XT I J ∧ ∃ v : Int32, r = some (.int v)) := by
  refine ct_of 0 (by decide +kernel) rfl rfl ?_
  have hK0 : XT I J = XT I J := rfl
  refine g_iload_n d_X9_lying_0 rfl ?_
  refine g_iconst (v := -1) d_X9_lying_1 kI_m1 ?_
  have J_19 : G m_X9_lying (rq m_X9_lying (fun r S' I' J' => S' = SHF ∧ XT I' J' = XT I J ∧ ∃ v : Int32, r = some (.int v))) 0 0 19 [some (.ref 0), some (.int f)] [] SHF I J := by
    skip
    refine g_aload_n d_X9_lying_19 rfl ?_
    refine g_getR d_X9_lying_20 fq_RX9_42 rfl rfl ?_
    refine g_V0 d_X9_lying_23 cs_X9_lying_X6_foodsThere lk_RX9_241 im_X6_foodsThere se_X6_foodsThere rfl rfl rfl (Nat.le_of_ble_eq_true rfl) ⟨rfl, rfl⟩ ⟨Nat.zero_le _, Nat.zero_le _⟩ (ct_X6_foodsThere  I J stA_16) (fun r23 S23 Ic2 Jc3 q23_0 => ?_)
    obtain ⟨rfl, rfl, rfl, r5, rfl⟩ := q23_0
    refine g_st (st' := [.int r5]) rfl ?_
    refine g_bipush (v := 6) d_X9_lying_26 kB_6 ?_
    refine g_icmp_le d_X9_lying_28 (fun h28 => ?_) (fun h28 => ?_)
    · skip
      refine g_aload_n d_X9_lying_35 rfl ?_
      refine g_getR d_X9_lying_36 fq_RX9_89 rfl rfl ?_
      refine g_V0 d_X9_lying_39 cs_X9_lying_X8_findBestRow lk_RX9_346 im_X8_findBestRow se_X8_findBestRow rfl rfl rfl (Nat.le_of_ble_eq_true rfl) ⟨rfl, rfl⟩ ⟨Nat.zero_le _, Nat.zero_le _⟩ (ct_X8_findBestRow  I J ) (fun r39 S39 I7 J8 q39_8 => ?_)
      obtain ⟨rfl, hc39_9, rfl⟩ := q39_8
      refine g_st (st' := []) rfl ?_
      have hK12 : XT I7 J8 = XT I J := hc39_9.trans hK0
      refine g_iload_n d_X9_lying_42 rfl ?_
      refine g_iconst (v := -1) d_X9_lying_43 kI_m1 ?_
      refine g_icmp_ne d_X9_lying_44 (fun h44 => ?_) (fun h44 => ?_)
      · skip
        refine g_aload_n d_X9_lying_57 rfl ?_
        refine g_getR d_X9_lying_58 fq_RX9_89 rfl rfl ?_
        refine g_iload_n d_X9_lying_61 rfl ?_
        refine g_V1 d_X9_lying_62 cs_X9_lying_X8_shelfInBestRow lk_RX9_352 im_X8_shelfInBestRow se_X8_shelfInBestRow rfl rfl rfl (Nat.le_of_ble_eq_true rfl) ⟨rfl, rfl⟩ ⟨Nat.zero_le _, Nat.zero_le _⟩ (ct_X8_shelfInBestRow f I7 J8 ) (fun r62 S62 I13 J14 q62_14 => ?_)
        obtain ⟨rfl, hc62_15, r17, rfl⟩ := q62_14
        refine g_st (st' := [.int r17]) rfl ?_
        have hK19 : XT I13 J14 = XT I J := hc62_15.trans hK12
        exact g_ireturn d_X9_lying_65 rfl rfl rfl rfl ⟨rfl, hK19, r17, rfl⟩
      · skip
        refine g_aload_n d_X9_lying_47 rfl ?_
        refine g_getR d_X9_lying_48 fq_RX9_89 rfl rfl ?_
        refine g_getI d_X9_lying_51 fq_RX9_349 rfl rfl ?_
        refine g_goto d_X9_lying_54 ?_
        exact g_ireturn d_X9_lying_65 rfl rfl rfl rfl ⟨rfl, hK12, (I7 67 8), rfl⟩
    · skip
      refine g_ldcw (v := -1000000003) d_X9_lying_31 tw_937 ?_
      exact g_ireturn d_X9_lying_34 rfl rfl rfl rfl ⟨rfl, hK0, (-1000000003 : Int32), rfl⟩
  refine g_icmp_eq d_X9_lying_2 (fun h2 => ?_) (fun h2 => ?_)
  · skip
    exact J_19
  · skip
    refine g_aload_n d_X9_lying_5 rfl ?_
    refine g_getR d_X9_lying_6 fq_RX9_42 rfl rfl ?_
    refine g_iload_n d_X9_lying_9 rfl ?_
    refine g_V1 d_X9_lying_10 cs_X9_lying_X6_hasFood lk_RX9_191 im_X6_hasFood se_X6_hasFood rfl rfl rfl (Nat.le_of_ble_eq_true rfl) ⟨rfl, rfl⟩ ⟨Nat.zero_le _, Nat.zero_le _⟩ (ct_X6_hasFood f I J stA_16) (fun r10 S10 Ic21 Jc22 q10_19 => ?_)
    obtain ⟨rfl, rfl, rfl, r24, rfl, hz10, hr10_24⟩ := q10_19
    refine g_st (st' := [.int r24]) rfl ?_
    refine g_if_ne d_X9_lying_13 (fun h13 => ?_) (fun h13 => ?_)
    · skip
      exact J_19
    · skip
      refine g_ldc (v := -1000000001) d_X9_lying_16 tw_576 ?_
      exact g_ireturn d_X9_lying_18 rfl rfl rfl rfl ⟨rfl, hK0, (-1000000001 : Int32), rfl⟩
set_option maxRecDepth 100000 in
set_option maxHeartbeats 4000000 in
theorem ct_X9_bulb (what : Int32) (I : Iv) (J : Jv)  : Ct m_X9_bulb [.ref 0, .int what] SHF I J (fun r S' I' J' => S' = SHF ∧ XT I' J' = XT I J ∧ ∃ v : Int32, r = some (.int v)) := by
  refine ct_of 0 (by decide +kernel) rfl rfl ?_
  have hK0 : XT I J = XT I J := rfl
  refine g_iload_n d_X9_bulb_0 rfl ?_
  refine g_if_lt d_X9_bulb_1 (fun h1 => ?_) (fun h1 => ?_)
  · skip
    refine g_ldc (v := -1000000002) d_X9_bulb_9 tw_396 ?_
    exact g_ireturn d_X9_bulb_11 rfl rfl rfl rfl ⟨rfl, hK0, (-1000000002 : Int32), rfl⟩
  · skip
    refine g_iload_n d_X9_bulb_4 rfl ?_
    refine g_iconst (v := 1) d_X9_bulb_5 kI_1 ?_
    refine g_icmp_le d_X9_bulb_6 (fun h6 => ?_) (fun h6 => ?_)
    · skip
      refine g_aload_n d_X9_bulb_12 rfl ?_
      refine g_getR d_X9_bulb_13 fq_RX9_89 rfl rfl ?_
      refine g_V0 d_X9_bulb_16 cs_X9_bulb_X8_findBestBulb lk_RX9_355 im_X8_findBestBulb se_X8_findBestBulb rfl rfl rfl (Nat.le_of_ble_eq_true rfl) ⟨rfl, rfl⟩ ⟨Nat.zero_le _, Nat.zero_le _⟩ (ct_X8_findBestBulb  I J ) (fun r16 S16 I1 J2 q16_2 => ?_)
      obtain ⟨rfl, hc16_3, rfl⟩ := q16_2
      refine g_st (st' := []) rfl ?_
      have hK6 : XT I1 J2 = XT I J := hc16_3.trans hK0
      refine g_iload_n d_X9_bulb_19 rfl ?_
      refine g_if_ne d_X9_bulb_20 (fun h20 => ?_) (fun h20 => ?_)
      · skip
        refine g_aload_n d_X9_bulb_33 rfl ?_
        refine g_getR d_X9_bulb_34 fq_RX9_89 rfl rfl ?_
        refine g_getI d_X9_bulb_37 fq_RX9_349 rfl rfl ?_
        exact g_ireturn d_X9_bulb_40 rfl rfl rfl rfl ⟨rfl, hK6, (I1 67 8), rfl⟩
      · skip
        refine g_aload_n d_X9_bulb_23 rfl ?_
        refine g_getR d_X9_bulb_24 fq_RX9_89 rfl rfl ?_
        refine g_getI d_X9_bulb_27 fq_RX9_358 rfl rfl ?_
        refine g_goto d_X9_bulb_30 ?_
        exact g_ireturn d_X9_bulb_40 rfl rfl rfl rfl ⟨rfl, hK6, (I1 67 7), rfl⟩
    · skip
      refine g_ldc (v := -1000000002) d_X9_bulb_9 tw_396 ?_
      exact g_ireturn d_X9_bulb_11 rfl rfl rfl rfl ⟨rfl, hK0, (-1000000002 : Int32), rfl⟩
set_option maxRecDepth 100000 in
set_option maxHeartbeats 4000000 in
theorem ct_X9_without (f : Int32) (I : Iv) (J : Jv)  : Ct m_X9_without [.ref 0, .int f] SHF I J (fun r S' I' J' => S' = SHF ∧ XT I' J' = XT I J ∧ ∃ v : Int32, r = some (.int v)) := by
  refine ct_of 0 (by decide +kernel) rfl rfl ?_
  have hK0 : XT I J = XT I J := rfl
  refine g_aload_n d_X9_without_0 rfl ?_
  refine g_getR d_X9_without_1 fq_RX9_42 rfl rfl ?_
  refine g_iload_n d_X9_without_4 rfl ?_
  refine g_V1 d_X9_without_5 cs_X9_without_X6_hasFood lk_RX9_191 im_X6_hasFood se_X6_hasFood rfl rfl rfl (Nat.le_of_ble_eq_true rfl) ⟨rfl, rfl⟩ ⟨Nat.zero_le _, Nat.zero_le _⟩ (ct_X6_hasFood f I J stA_16) (fun r5 S5 Ic2 Jc3 q5_0 => ?_)
  obtain ⟨rfl, rfl, rfl, r5, rfl, hz5, hr5_5⟩ := q5_0
  refine g_st (st' := [.int r5]) rfl ?_
  refine g_if_eq d_X9_without_8 (fun h8 => ?_) (fun h8 => ?_)
  · skip
    refine g_ldc (v := -1000000001) d_X9_without_22 tw_576 ?_
    exact g_ireturn d_X9_without_24 rfl rfl rfl rfl ⟨rfl, hK0, (-1000000001 : Int32), rfl⟩
  · skip
    refine g_aload_n d_X9_without_11 rfl ?_
    refine g_getR d_X9_without_12 fq_RX9_89 rfl rfl ?_
    refine g_iload_n d_X9_without_15 rfl ?_
    refine g_V1 d_X9_without_16 cs_X9_without_X8_ticksWithoutCurrent lk_RX9_361 im_X8_ticksWithoutCurrent se_X8_ticksWithoutCurrent rfl rfl rfl (Nat.le_of_ble_eq_true rfl) ⟨rfl, rfl⟩ ⟨Nat.zero_le _, Nat.zero_le _⟩ (ct_X8_ticksWithoutCurrent f I J ) (fun r16 S16 I7 J8 q16_8 => ?_)
    obtain ⟨rfl, hc16_9, r11, rfl⟩ := q16_8
    refine g_st (st' := [.int r11]) rfl ?_
    have hK13 : XT I7 J8 = XT I J := hc16_9.trans hK0
    refine g_goto d_X9_without_19 ?_
    exact g_ireturn d_X9_without_24 rfl rfl rfl rfl ⟨rfl, hK13, r11, rfl⟩
set_option maxRecDepth 100000 in
set_option maxHeartbeats 4000000 in
theorem ct_X9_cheap (a : Int32) (b : Int32) (v_ : Int32) (I : Iv) (J : Jv)  : Ct m_X9_cheap [.ref 0, .int a, .int b, .int v_] SHF I J (fun r S' I' J' => S' = SHF ∧ XT I' J' = XT I J ∧ ∃ v : Int32, r = some (.int v)) := by
  refine ct_of 0 (by decide +kernel) rfl rfl ?_
  have hK0 : XT I J = XT I J := rfl
  refine g_iload_n d_X9_cheap_0 rfl ?_
  refine g_S1 d_X9_cheap_1 cs_X9_cheap_X9_isPrice lk_RX9_311 im_X9_isPrice (Nat.le_of_ble_eq_true rfl) ⟨rfl, rfl⟩ ⟨Nat.zero_le _, Nat.zero_le _⟩ (ct_X9_isPrice v_ I J ) (fun r1 S1 Ic2 Jc3 q1_0 => ?_)
  obtain ⟨rfl, rfl, rfl, r5, rfl, hz1, hr1_5⟩ := q1_0
  refine g_st (st' := [.int r5]) rfl ?_
  refine g_if_ne d_X9_cheap_4 (fun h4 => ?_) (fun h4 => ?_)
  · skip
    refine g_iload_n d_X9_cheap_10 rfl ?_
    refine g_iconst (v := -1) d_X9_cheap_11 kI_m1 ?_
    have J_33 : G m_X9_cheap (rq m_X9_cheap (fun r S' I' J' => S' = SHF ∧ XT I' J' = XT I J ∧ ∃ v : Int32, r = some (.int v))) 0 0 33 [some (.ref 0), some (.int a), some (.int b), some (.int v_)] [] SHF I J := by
      skip
      refine g_aload_n d_X9_cheap_33 rfl ?_
      refine g_getR d_X9_cheap_34 fq_RX9_89 rfl rfl ?_
      refine g_iload_n d_X9_cheap_37 rfl ?_
      refine g_putI d_X9_cheap_38 fq_RX9_364 rfl rfl ?_
      refine g_nmI (fun I7 eI7 => ?_)
      have hK8 : XT I7 J = XT I J := (by rw [eI7]; exact (xt_wI rfl).trans hK0)
      refine g_aload_n d_X9_cheap_41 rfl ?_
      refine g_getR d_X9_cheap_42 fq_RX9_89 rfl rfl ?_
      refine g_iload_n d_X9_cheap_45 rfl ?_
      refine g_iconst (v := -1) d_X9_cheap_46 kI_m1 ?_
      have J_55 : ∀ (w9 : Int32), G m_X9_cheap (rq m_X9_cheap (fun r S' I' J' => S' = SHF ∧ XT I' J' = XT I J ∧ ∃ v : Int32, r = some (.int v))) 0 0 55 [some (.ref 0), some (.int a), some (.int b), some (.int v_)] [.int w9, .ref 67] SHF I7 J := by
        intro w9
        refine g_putI d_X9_cheap_55 fq_RX9_367 rfl rfl ?_
        refine g_nmI (fun I10 eI10 => ?_)
        have hK11 : XT I10 J = XT I J := (by rw [eI10]; exact (xt_wI rfl).trans hK8)
        refine g_aload_n d_X9_cheap_58 rfl ?_
        refine g_getR d_X9_cheap_59 fq_RX9_89 rfl rfl ?_
        refine g_iload_n d_X9_cheap_62 rfl ?_
        refine g_putI d_X9_cheap_63 fq_RX9_370 rfl rfl ?_
        refine g_nmI (fun I12 eI12 => ?_)
        have hK13 : XT I12 J = XT I J := (by rw [eI12]; exact (xt_wI rfl).trans hK11)
        refine g_iconst (v := 1) d_X9_cheap_66 kI_1 ?_
        exact g_ireturn d_X9_cheap_67 rfl rfl rfl rfl ⟨rfl, hK13, (1 : Int32), rfl⟩
      refine g_icmp_ne d_X9_cheap_47 (fun h47 => ?_) (fun h47 => ?_)
      · skip
        refine g_iload_n d_X9_cheap_54 rfl ?_
        exact J_55 b
      · skip
        refine g_iconst (v := -1) d_X9_cheap_50 kI_m1 ?_
        refine g_goto d_X9_cheap_51 ?_
        exact J_55 ((-1 : Int32))
    refine g_icmp_eq d_X9_cheap_12 (fun h12 => ?_) (fun h12 => ?_)
    · skip
      exact J_33
    · skip
      refine g_iload_n d_X9_cheap_15 rfl ?_
      refine g_if_lt d_X9_cheap_16 (fun h16 => ?_) (fun h16 => ?_)
      · skip
        refine g_ldc (v := -1000000002) d_X9_cheap_30 tw_396 ?_
        exact g_ireturn d_X9_cheap_32 rfl rfl rfl rfl ⟨rfl, hK0, (-1000000002 : Int32), rfl⟩
      · skip
        refine g_iload_n d_X9_cheap_19 rfl ?_
        refine g_bipush (v := 24) d_X9_cheap_20 kB_24 ?_
        refine g_icmp_gt d_X9_cheap_22 (fun h22 => ?_) (fun h22 => ?_)
        · skip
          refine g_ldc (v := -1000000002) d_X9_cheap_30 tw_396 ?_
          exact g_ireturn d_X9_cheap_32 rfl rfl rfl rfl ⟨rfl, hK0, (-1000000002 : Int32), rfl⟩
        · skip
          refine g_iload_n d_X9_cheap_25 rfl ?_
          refine g_iload_n d_X9_cheap_26 rfl ?_
          refine g_icmp_gt d_X9_cheap_27 (fun h27 => ?_) (fun h27 => ?_)
          · skip
            exact J_33
          · skip
            refine g_ldc (v := -1000000002) d_X9_cheap_30 tw_396 ?_
            exact g_ireturn d_X9_cheap_32 rfl rfl rfl rfl ⟨rfl, hK0, (-1000000002 : Int32), rfl⟩
  · skip
    refine g_ldc (v := -1000000002) d_X9_cheap_7 tw_396 ?_
    exact g_ireturn d_X9_cheap_9 rfl rfl rfl rfl ⟨rfl, hK0, (-1000000002 : Int32), rfl⟩
set_option maxRecDepth 100000 in
set_option maxHeartbeats 4000000 in
theorem ct_X9_store (n : Int32) (what : Int32) (I : Iv) (J : Jv)  : Ct m_X9_store [.ref 0, .int n, .int what] SHF I J (fun r S' I' J' => S' = SHF ∧ XT I' J' = XT I J ∧ ∃ v : Int32, r = some (.int v)) := by
  refine ct_of 0 (by decide +kernel) rfl rfl ?_
  have hK0 : XT I J = XT I J := rfl
  refine g_iload_n d_X9_store_0 rfl ?_
  refine g_iconst (v := 1) d_X9_store_1 kI_1 ?_
  refine g_icmp_lt d_X9_store_2 (fun h2 => ?_) (fun h2 => ?_)
  · skip
    refine g_ldc (v := -1000000002) d_X9_store_20 tw_396 ?_
    exact g_ireturn d_X9_store_22 rfl rfl rfl rfl ⟨rfl, hK0, (-1000000002 : Int32), rfl⟩
  · skip
    refine g_iload_n d_X9_store_5 rfl ?_
    refine g_bipush (v := 6) d_X9_store_6 kB_6 ?_
    refine g_icmp_gt d_X9_store_8 (fun h8 => ?_) (fun h8 => ?_)
    · skip
      refine g_ldc (v := -1000000002) d_X9_store_20 tw_396 ?_
      exact g_ireturn d_X9_store_22 rfl rfl rfl rfl ⟨rfl, hK0, (-1000000002 : Int32), rfl⟩
    · skip
      refine g_iload_n d_X9_store_11 rfl ?_
      refine g_if_lt d_X9_store_12 (fun h12 => ?_) (fun h12 => ?_)
      · skip
        refine g_ldc (v := -1000000002) d_X9_store_20 tw_396 ?_
        exact g_ireturn d_X9_store_22 rfl rfl rfl rfl ⟨rfl, hK0, (-1000000002 : Int32), rfl⟩
      · skip
        refine g_iload_n d_X9_store_15 rfl ?_
        refine g_iconst (v := 1) d_X9_store_16 kI_1 ?_
        refine g_icmp_le d_X9_store_17 (fun h17 => ?_) (fun h17 => ?_)
        · skip
          refine g_aload_n d_X9_store_23 rfl ?_
          refine g_getR d_X9_store_24 fq_RX9_89 rfl rfl ?_
          refine g_iload_n d_X9_store_27 rfl ?_
          refine g_aload_n d_X9_store_28 rfl ?_
          refine g_getR d_X9_store_29 fq_RX9_80 rfl rfl ?_
          refine g_getI d_X9_store_32 fq_RX9_314 rfl rfl ?_
          refine g_V2 d_X9_store_35 cs_X9_store_X8_findBestStore lk_RX9_373 im_X8_findBestStore se_X8_findBestStore rfl rfl rfl (Nat.le_of_ble_eq_true rfl) ⟨rfl, rfl⟩ ⟨Nat.zero_le _, Nat.zero_le _⟩ (ct_X8_findBestStore n (I 65 2) I J ) (fun r35 S35 I1 J2 q35_2 => ?_)
          obtain ⟨rfl, hc35_3, rfl⟩ := q35_2
          refine g_st (st' := []) rfl ?_
          have hK6 : XT I1 J2 = XT I J := hc35_3.trans hK0
          refine g_iload_n d_X9_store_38 rfl ?_
          refine g_if_ne d_X9_store_39 (fun h39 => ?_) (fun h39 => ?_)
          · skip
            refine g_aload_n d_X9_store_52 rfl ?_
            refine g_getR d_X9_store_53 fq_RX9_89 rfl rfl ?_
            refine g_getI d_X9_store_56 fq_RX9_349 rfl rfl ?_
            exact g_ireturn d_X9_store_59 rfl rfl rfl rfl ⟨rfl, hK6, (I1 67 8), rfl⟩
          · skip
            refine g_aload_n d_X9_store_42 rfl ?_
            refine g_getR d_X9_store_43 fq_RX9_89 rfl rfl ?_
            refine g_getI d_X9_store_46 fq_RX9_358 rfl rfl ?_
            refine g_goto d_X9_store_49 ?_
            exact g_ireturn d_X9_store_59 rfl rfl rfl rfl ⟨rfl, hK6, (I1 67 7), rfl⟩
        · skip
          refine g_ldc (v := -1000000002) d_X9_store_20 tw_396 ?_
          exact g_ireturn d_X9_store_22 rfl rfl rfl rfl ⟨rfl, hK0, (-1000000002 : Int32), rfl⟩
set_option maxRecDepth 100000 in
set_option maxHeartbeats 4000000 in
theorem ct_X9_seed (v_ : Int32) (I : Iv) (J : Jv)  : Ct m_X9_seed [.ref 0, .int v_] SHF I J (fun r S' I' J' => S' = SHF ∧ XT I' J' = XT I J ∧ ∃ v : Int32, r = some (.int v)) := by
  refine ct_of 1 (by decide +kernel) rfl rfl ?_
  have hK0 : XT I J = XT I J := rfl
  refine g_iload_n d_X9_seed_0 rfl ?_
  refine g_if_ge d_X9_seed_1 (fun h1 => ?_) (fun h1 => ?_)
  · skip
    refine g_aload_n d_X9_seed_7 rfl ?_
    refine g_getR d_X9_seed_8 fq_RX9_42 rfl rfl ?_
    refine g_getI d_X9_seed_11 fq_RX9_376 rfl rfl ?_
    refine g_topI (fun v1 ev1 => ?_)
    refine g_istore_n (L' := [some (.ref 0), some (.int v_), some (.int v1)]) d_X9_seed_14 (by decide) rfl ?_
    refine g_aload_n d_X9_seed_15 rfl ?_
    refine g_getR d_X9_seed_16 fq_RX9_42 rfl rfl ?_
    refine g_iload_n d_X9_seed_19 rfl ?_
    refine g_putI d_X9_seed_20 fq_RX9_376 rfl rfl ?_
    refine g_nmI (fun I2 eI2 => ?_)
    have hK3 : XT I2 J = XT I J := (by rw [eI2]; exact (xt_wI rfl).trans hK0)
    refine g_iload_n d_X9_seed_23 rfl ?_
    exact g_ireturn d_X9_seed_24 rfl rfl rfl rfl ⟨rfl, hK3, v1, rfl⟩
  · skip
    refine g_ldc (v := -1000000002) d_X9_seed_4 tw_396 ?_
    exact g_ireturn d_X9_seed_6 rfl rfl rfl rfl ⟨rfl, hK0, (-1000000002 : Int32), rfl⟩
set_option maxRecDepth 100000 in
set_option maxHeartbeats 4000000 in
theorem ct_X9_imageOf (i : Int32) (I : Iv) (J : Jv)  : Ct m_X9_imageOf [.ref 0, .int i] SHF I J (fun r S' I' J' => S' = SHF ∧ I = I' ∧ J = J' ∧ ∃ a : Nat, r = some (.ref a) ∧ a = iA i) := by
  refine ct_of 0 (by decide +kernel) rfl rfl ?_
  refine g_iload_n d_X9_imageOf_0 rfl ?_
  refine g_if_ne d_X9_imageOf_1 (fun h1 => ?_) (fun h1 => ?_)
  · skip
    refine g_aload_n d_X9_imageOf_11 rfl ?_
    refine g_getR d_X9_imageOf_12 fq_RX9_49 rfl rfl ?_
    exact g_areturn d_X9_imageOf_15 rfl rfl rfl (Or.inl ⟨_, rfl⟩) ⟨rfl, rfl, rfl, 34, rfl, (by simp [iA, *])⟩
  · skip
    refine g_aload_n d_X9_imageOf_4 rfl ?_
    refine g_getR d_X9_imageOf_5 fq_RX9_46 rfl rfl ?_
    refine g_goto d_X9_imageOf_8 ?_
    exact g_areturn d_X9_imageOf_15 rfl rfl rfl (Or.inl ⟨_, rfl⟩) ⟨rfl, rfl, rfl, 25, rfl, (by simp [iA, *])⟩
set_option maxRecDepth 100000 in
set_option maxHeartbeats 4000000 in
theorem ct_X9_keep (i : Int32) (I : Iv) (J : Jv)  : Ct m_X9_keep [.ref 0, .int i] SHF I J (fun r S' I' J' => S' = SHF ∧ True ∧ ∃ v : Int32, r = some (.int v) ∧ ((0 ≤ i ∧ i ≤ 1 ∧ v = 1 ∧ XT I' J' = XT (wI (kp I i) 43 i.toNatClampNeg 1) J) ∨ (¬ (0 ≤ i ∧ i ≤ 1) ∧ v = -1000000001 ∧ XT I' J' = XT I J))) := by
  refine ct_of 0 (by decide +kernel) rfl rfl ?_
  have hK0 : XT I J = XT I J := rfl
  refine g_iload_n d_X9_keep_0 rfl ?_
  refine g_if_lt d_X9_keep_1 (fun h1 => ?_) (fun h1 => ?_)
  · skip
    refine g_ldc (v := -1000000001) d_X9_keep_9 tw_576 ?_
    exact g_ireturn d_X9_keep_11 rfl rfl rfl rfl ⟨rfl, trivial, (-1000000001 : Int32), rfl, by grind⟩
  · skip
    refine g_iload_n d_X9_keep_4 rfl ?_
    refine g_iconst (v := 1) d_X9_keep_5 kI_1 ?_
    refine g_icmp_le d_X9_keep_6 (fun h6 => ?_) (fun h6 => ?_)
    · skip
      refine g_aload_n d_X9_keep_12 rfl ?_
      refine g_iload_n d_X9_keep_13 rfl ?_
      refine g_V1 d_X9_keep_14 cs_X9_keep_X9_imageOf lk_RX9_379 im_X9_imageOf se_X9_imageOf rfl rfl rfl (Nat.le_of_ble_eq_true rfl) ⟨rfl, rfl⟩ ⟨Nat.zero_le _, Nat.zero_le _⟩ (ct_X9_imageOf i I J ) (fun r14 S14 Ic2 Jc3 q14_0 => ?_)
      obtain ⟨rfl, rfl, rfl, r5, rfl, hr14_5⟩ := q14_0
      refine g_st (st' := [.ref r5]) rfl ?_
      subst hr14_5
      refine g_aload_n d_X9_keep_17 rfl ?_
      refine g_getR d_X9_keep_18 fq_RX9_42 rfl rfl ?_
      refine g_V1 d_X9_keep_21 cs_X9_keep_X6_copyFrom lk_RX9_383 im_X6_copyFrom se_X6_copyFrom (sa0 (stA_iA i)) rfl rfl (Nat.le_of_ble_eq_true rfl) ⟨rfl, rfl⟩ ⟨Nat.zero_le _, Nat.zero_le _⟩ (ct_X6_copyFrom  I J (stA_iA _) stA_16 (iA_16 _)) (fun r21 S21 I7 J8 q21_8 => ?_)
      obtain ⟨rfl, hc21_9, rfl, hr21_10⟩ := q21_8
      refine g_st (st' := []) rfl ?_
      have hK12 : XT I7 J8 = XT (kp I i) J := (xt_keep (i := i) hc21_9 hr21_10).trans (kp_cong hK0)
      refine g_aload_n d_X9_keep_24 rfl ?_
      refine g_getR d_X9_keep_25 fq_RX9_52 rfl rfl ?_
      refine g_iload_n d_X9_keep_28 rfl ?_
      refine g_iconst (v := 1) d_X9_keep_29 kI_1 ?_
      refine g_bastore (N := 2) d_X9_keep_30 rfl kT_2 (by constructor <;> grind) rfl (Or.inr rfl) ?_
      refine g_nmI (fun I13 eI13 => ?_)
      have hK14 : XT I13 J8 = XT (wI (kp I i) 43 i.toNatClampNeg (1 : Int32)) J := ((congrArg (fun q => XT q _) eI13).trans (xt_cong hK12))
      refine g_iconst (v := 1) d_X9_keep_31 kI_1 ?_
      exact g_ireturn d_X9_keep_32 rfl rfl rfl rfl ⟨rfl, trivial, (1 : Int32), rfl, by grind⟩
    · skip
      refine g_ldc (v := -1000000001) d_X9_keep_9 tw_576 ?_
      exact g_ireturn d_X9_keep_11 rfl rfl rfl rfl ⟨rfl, trivial, (-1000000001 : Int32), rfl, by grind⟩
set_option maxRecDepth 100000 in
set_option maxHeartbeats 4000000 in
theorem ct_X9_goBack (i : Int32) (I : Iv) (J : Jv)  : Ct m_X9_goBack [.ref 0, .int i] SHF I J (fun r S' I' J' => S' = SHF ∧ True ∧ ∃ v : Int32, r = some (.int v) ∧ ((0 ≤ i ∧ i ≤ 1 ∧ ¬ I 43 i.toNatClampNeg = 0 ∧ v = 1 ∧ XT I' J' = XT (gb I i) J) ∨ (¬ (0 ≤ i ∧ i ≤ 1) ∧ v = -1000000001 ∧ XT I' J' = XT I J) ∨ (0 ≤ i ∧ i ≤ 1 ∧ I 43 i.toNatClampNeg = 0 ∧ v = -1000000003 ∧ XT I' J' = XT I J))) := by
  refine ct_of 0 (by decide +kernel) rfl rfl ?_
  have hK0 : XT I J = XT I J := rfl
  refine g_iload_n d_X9_goBack_0 rfl ?_
  refine g_if_lt d_X9_goBack_1 (fun h1 => ?_) (fun h1 => ?_)
  · skip
    refine g_ldc (v := -1000000001) d_X9_goBack_9 tw_576 ?_
    exact g_ireturn d_X9_goBack_11 rfl rfl rfl rfl ⟨rfl, trivial, (-1000000001 : Int32), rfl, by grind⟩
  · skip
    refine g_iload_n d_X9_goBack_4 rfl ?_
    refine g_iconst (v := 1) d_X9_goBack_5 kI_1 ?_
    refine g_icmp_le d_X9_goBack_6 (fun h6 => ?_) (fun h6 => ?_)
    · skip
      refine g_aload_n d_X9_goBack_12 rfl ?_
      refine g_getR d_X9_goBack_13 fq_RX9_52 rfl rfl ?_
      refine g_iload_n d_X9_goBack_16 rfl ?_
      refine g_baload (N := 2) d_X9_goBack_17 rfl kT_2 (by constructor <;> grind) rfl (fun hz17 => ?_)
      refine g_if_ne d_X9_goBack_18 (fun h18 => ?_) (fun h18 => ?_)
      · skip
        refine g_aload_n d_X9_goBack_25 rfl ?_
        refine g_getR d_X9_goBack_26 fq_RX9_42 rfl rfl ?_
        refine g_aload_n d_X9_goBack_29 rfl ?_
        refine g_iload_n d_X9_goBack_30 rfl ?_
        refine g_V1 d_X9_goBack_31 cs_X9_goBack_X9_imageOf lk_RX9_379 im_X9_imageOf se_X9_imageOf rfl rfl rfl (Nat.le_of_ble_eq_true rfl) ⟨rfl, rfl⟩ ⟨Nat.zero_le _, Nat.zero_le _⟩ (ct_X9_imageOf i I J ) (fun r31 S31 Ic2 Jc3 q31_0 => ?_)
        obtain ⟨rfl, rfl, rfl, r5, rfl, hr31_5⟩ := q31_0
        refine g_st (st' := [.ref r5, .ref 16]) rfl ?_
        subst hr31_5
        refine g_V1 d_X9_goBack_34 cs_X9_goBack_X6_copyFrom lk_RX9_383 im_X6_copyFrom se_X6_copyFrom rfl rfl rfl (Nat.le_of_ble_eq_true rfl) ⟨rfl, rfl⟩ ⟨Nat.zero_le _, Nat.zero_le _⟩ (ct_X6_copyFrom  I J stA_16 (stA_iA _) (Ne.symm (iA_16 _))) (fun r34 S34 I7 J8 q34_8 => ?_)
        obtain ⟨rfl, hc34_9, rfl, hr34_10⟩ := q34_8
        refine g_st (st' := []) rfl ?_
        have hK12 : XT I7 J8 = XT (gb I i) J := (xt_back (i := i) hc34_9 hr34_10)
        refine g_iconst (v := 1) d_X9_goBack_37 kI_1 ?_
        exact g_ireturn d_X9_goBack_38 rfl rfl rfl rfl ⟨rfl, trivial, (1 : Int32), rfl, by grind⟩
      · skip
        refine g_ldcw (v := -1000000003) d_X9_goBack_21 tw_937 ?_
        exact g_ireturn d_X9_goBack_24 rfl rfl rfl rfl ⟨rfl, trivial, (-1000000003 : Int32), rfl, by grind⟩
    · skip
      refine g_ldc (v := -1000000001) d_X9_goBack_9 tw_576 ?_
      exact g_ireturn d_X9_goBack_11 rfl rfl rfl rfl ⟨rfl, trivial, (-1000000001 : Int32), rfl, by grind⟩
set_option maxRecDepth 100000 in
set_option maxHeartbeats 4000000 in
theorem ct_X9_forget  (I : Iv) (J : Jv)  : Ct m_X9_forget [.ref 0] SHF I J (fun r S' I' J' => S' = SHF ∧ XT I' J' = XT (rI I 58 (I' 58)) J ∧ ∃ v : Int32, r = some (.int v) ∧ v = cn (I 58) 7 ∧ (∀ k, k < 7 → I' 58 k = 0)) := by
  refine ct_of 2 (by decide +kernel) rfl rfl ?_
  have hK0 : XT I J = XT (rI I 58 (I 58)) J := (by rw [rI_own])
  refine g_aload_n d_X9_forget_0 rfl ?_
  refine g_getR d_X9_forget_1 fq_RX9_73 rfl rfl ?_
  refine g_V0 d_X9_forget_4 cs_X9_forget_X2_howManySeen lk_RX9_272 im_X2_howManySeen se_X2_howManySeen rfl rfl rfl (Nat.le_of_ble_eq_true rfl) ⟨rfl, rfl⟩ ⟨Nat.zero_le _, Nat.zero_le _⟩ (ct_X2_howManySeen  I J ) (fun r4 S4 Ic2 Jc3 q4_0 => ?_)
  obtain ⟨rfl, rfl, rfl, r5, rfl, hr4_5⟩ := q4_0
  refine g_st (st' := [.int r5]) rfl ?_
  have hcn := hr4_5
  refine g_istore_n (L' := [some (.ref 0), some (.int r5), none]) d_X9_forget_7 (by decide) rfl ?_
  refine g_iconst (v := 0) d_X9_forget_8 kI_0 ?_
  refine g_istore_n (L' := [some (.ref 0), some (.int r5), some (.int (0 : Int32))]) d_X9_forget_9 (by decide) rfl ?_
  have K_10 : ∀ (nu : Nat) (x7 : Int32) (I8 : Iv), mU (7 : Int32) x7 = nu → (XT I8 J = XT (rI I 58 (I8 58)) J) → ((0 : Int32) ≤ x7) → (∀ k, k < x7.toNatClampNeg → I8 58 k = 0) → (x7 ≤ 7) → G m_X9_forget (rq m_X9_forget (fun r S' I' J' => S' = SHF ∧ XT I' J' = XT (rI I 58 (I' 58)) J ∧ ∃ v : Int32, r = some (.int v) ∧ v = cn (I 58) 7 ∧ (∀ k, k < 7 → I' 58 k = 0))) 0 0 10 [some (.ref 0), some (.int r5), some (.int x7)] [] SHF I8 J := by
    intro nu
    induction nu using Nat.strongRecOn with
    | ind nu ih_10 =>
      intro x7 I8 hmu_10 hK9 hl10 hf_10 hi_10
      refine g_iload_n d_X9_forget_10 rfl ?_
      refine g_bipush (v := 7) d_X9_forget_11 kB_7 ?_
      refine g_icmp_ge d_X9_forget_13 (fun h13 => ?_) (fun h13 => ?_)
      · skip
        refine g_iload_n d_X9_forget_32 rfl ?_
        exact g_ireturn d_X9_forget_33 rfl rfl rfl rfl ⟨rfl, hK9, r5, rfl, ⟨hcn, fun k hk => hf_10 k (by rw [show x7 = 7 by grind, kN_7]; exact hk)⟩⟩
      · skip
        refine g_aload_n d_X9_forget_16 rfl ?_
        refine g_getR d_X9_forget_17 fq_RX9_73 rfl rfl ?_
        refine g_getR d_X9_forget_20 fq_RX9_263 rfl rfl ?_
        refine g_iload_n d_X9_forget_23 rfl ?_
        refine g_iconst (v := 0) d_X9_forget_24 kI_0 ?_
        refine g_bastore (N := 7) d_X9_forget_25 rfl kT_7 ⟨hl10, Int32.not_le.mp h13⟩ rfl (Or.inl rfl) ?_
        refine g_nmI (fun I11 eI11 => ?_)
        have hK12 : XT I11 J = XT (rI I 58 (I11 58)) J := (by rw [eI11]; exact xt_forg hK9)
        refine g_iinc (v := (x7 + (1 : Int32))) (L' := [some (.ref 0), some (.int r5), some (.int (x7 + (1 : Int32)))]) d_X9_forget_26 rfl (by rw [kI_1]) (by decide) rfl ?_
        refine g_goto d_X9_forget_29 ?_
        exact ih_10 _ (by rw [← hmu_10]; exact mu_up h13) (x7 + (1 : Int32)) I11 rfl hK12 (lo_up hl10 h13) (by rw [eI11]; exact cn_clr hl10 h13 hf_10) (by grind)
  exact K_10 _ (0 : Int32) I rfl hK0 (Int32.le_refl _) (fun k hk => absurd hk (by rw [kN_0]; omega)) (by decide)
