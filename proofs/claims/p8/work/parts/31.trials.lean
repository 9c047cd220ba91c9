set_option maxRecDepth 100000 in
set_option maxHeartbeats 4000000 in
theorem ct_X8_boxBulb  (I : Iv) (J : Jv)  : Ct m_X8_boxBulb [.ref 67] SHF I J (fun r S' I' J' => S' = SHF ∧ I = I' ∧ J = J' ∧ ∃ v : Int32, r = some (.int v)) := by
  refine ct_of 0 (by decide +kernel) rfl rfl ?_
  refine g_aload_n d_X8_boxBulb_0 rfl ?_
  refine g_getR d_X8_boxBulb_1 fq_RX8_29 rfl rfl ?_
  refine g_getR d_X8_boxBulb_4 fq_RX8_120 rfl rfl ?_
  refine g_getR d_X8_boxBulb_7 fq_RX8_124 rfl rfl ?_
  refine g_bipush (v := 8) d_X8_boxBulb_10 kB_8 ?_
  refine g_iaload (N := 15) d_X8_boxBulb_12 rfl kT_15 ⟨by decide, by decide⟩ kN_8 ?_
  exact g_ireturn d_X8_boxBulb_13 rfl rfl rfl rfl ⟨rfl, rfl, rfl, (I 8 8), rfl⟩
set_option maxRecDepth 100000 in
set_option maxHeartbeats 4000000 in
theorem ct_X8_isCheapHour (h : Int32) (I : Iv) (J : Jv)  : Ct m_X8_isCheapHour [.ref 67, .int h] SHF I J (fun r S' I' J' => S' = SHF ∧ I = I' ∧ J = J' ∧ ∃ v : Int32, r = some (.int v) ∧ (v = 0 ∨ v = 1)) := by
  refine ct_of 0 (by decide +kernel) rfl rfl ?_
  refine g_aload_n d_X8_isCheapHour_0 rfl ?_
  refine g_getI d_X8_isCheapHour_1 fq_RX8_22 rfl rfl ?_
  refine g_iconst (v := -1) d_X8_isCheapHour_4 kI_m1 ?_
  refine g_icmp_eq d_X8_isCheapHour_5 (fun h5 => ?_) (fun h5 => ?_)
  · skip
    refine g_iconst (v := 0) d_X8_isCheapHour_28 kI_0 ?_
    exact g_ireturn d_X8_isCheapHour_29 rfl rfl rfl rfl ⟨rfl, rfl, rfl, (0 : Int32), rfl, Or.inl rfl⟩
  · skip
    refine g_aload_n d_X8_isCheapHour_8 rfl ?_
    refine g_getI d_X8_isCheapHour_9 fq_RX8_22 rfl rfl ?_
    refine g_iload_n d_X8_isCheapHour_12 rfl ?_
    refine g_icmp_gt d_X8_isCheapHour_13 (fun h13 => ?_) (fun h13 => ?_)
    · skip
      refine g_iconst (v := 0) d_X8_isCheapHour_28 kI_0 ?_
      exact g_ireturn d_X8_isCheapHour_29 rfl rfl rfl rfl ⟨rfl, rfl, rfl, (0 : Int32), rfl, Or.inl rfl⟩
    · skip
      refine g_iload_n d_X8_isCheapHour_16 rfl ?_
      refine g_aload_n d_X8_isCheapHour_17 rfl ?_
      refine g_getI d_X8_isCheapHour_18 fq_RX8_26 rfl rfl ?_
      refine g_icmp_ge d_X8_isCheapHour_21 (fun h21 => ?_) (fun h21 => ?_)
      · skip
        refine g_iconst (v := 0) d_X8_isCheapHour_28 kI_0 ?_
        exact g_ireturn d_X8_isCheapHour_29 rfl rfl rfl rfl ⟨rfl, rfl, rfl, (0 : Int32), rfl, Or.inl rfl⟩
      · skip
        refine g_iconst (v := 1) d_X8_isCheapHour_24 kI_1 ?_
        refine g_goto d_X8_isCheapHour_25 ?_
        exact g_ireturn d_X8_isCheapHour_29 rfl rfl rfl rfl ⟨rfl, rfl, rfl, (1 : Int32), rfl, Or.inr rfl⟩
set_option maxRecDepth 100000 in
set_option maxHeartbeats 4000000 in
theorem ct_X8_takeIfMore (choice : Int32) (much : Int32) (I : Iv) (J : Jv)  : Ct m_X8_takeIfMore [.ref 67, .int choice, .int much] SHF I J (fun r S' I' J' => S' = SHF ∧ XT I' J' = XT I J ∧ r = none) := by
  refine ct_of 0 (by decide +kernel) rfl rfl ?_
  have hK0 : XT I J = XT I J := rfl
  refine g_iload_n d_X8_takeIfMore_0 rfl ?_
  refine g_aload_n d_X8_takeIfMore_1 rfl ?_
  refine g_getI d_X8_takeIfMore_2 fq_RX8_43 rfl rfl ?_
  refine g_icmp_le d_X8_takeIfMore_5 (fun h5 => ?_) (fun h5 => ?_)
  · skip
    exact g_return d_X8_takeIfMore_18 rfl rfl rfl ⟨rfl, hK0, rfl⟩
  · skip
    refine g_aload_n d_X8_takeIfMore_8 rfl ?_
    refine g_iload_n d_X8_takeIfMore_9 rfl ?_
    refine g_putI d_X8_takeIfMore_10 fq_RX8_40 rfl rfl ?_
    refine g_nmI (fun I1 eI1 => ?_)
    have hK2 : XT I1 J = XT I J := (by rw [eI1]; exact (xt_wI rfl).trans hK0)
    refine g_aload_n d_X8_takeIfMore_13 rfl ?_
    refine g_iload_n d_X8_takeIfMore_14 rfl ?_
    refine g_putI d_X8_takeIfMore_15 fq_RX8_43 rfl rfl ?_
    refine g_nmI (fun I3 eI3 => ?_)
    have hK4 : XT I3 J = XT I J := (by rw [eI3]; exact (xt_wI rfl).trans hK2)
    exact g_return d_X8_takeIfMore_18 rfl rfl rfl ⟨rfl, hK4, rfl⟩
set_option maxRecDepth 100000 in
set_option maxHeartbeats 4000000 in
theorem ct_X8_layByRow (rw_ : Int32) {q : Nat} (I : Iv) (J : Jv) (hq : q = 72 ∨ q = 77) : Ct m_X8_layByRow [.ref 67, .int rw_, .ref q] SHF I J (fun r S' I' J' => S' = SHF ∧ XT I' J' = XT I J ∧ r = none) := by
  refine ct_of 2 (by decide +kernel) rfl rfl ?_
  have hK0 : XT I J = XT I J := rfl
  refine g_iload_n d_X8_layByRow_0 rfl ?_
  refine g_istore_n (L' := [some (.ref 67), some (.int rw_), some (.ref q), some (.int rw_), none]) d_X8_layByRow_1 (by decide) rfl ?_
  refine g_bipush (v := 7) d_X8_layByRow_2 kB_7 ?_
  refine g_istore (L' := [some (.ref 67), some (.int rw_), some (.ref q), some (.int rw_), some (.int (7 : Int32))]) d_X8_layByRow_4 (by decide) rfl ?_
  have K_6 : ∀ (nu : Nat) (x1 : Int32) (x2 : Int32) (I3 : Iv), mD x2 = nu → (XT I3 J = XT I J) → (x2 ≤ (7 : Int32)) → G m_X8_layByRow (rq m_X8_layByRow (fun r S' I' J' => S' = SHF ∧ XT I' J' = XT I J ∧ r = none)) 0 0 6 [some (.ref 67), some (.int rw_), some (.ref q), some (.int x1), some (.int x2)] [] SHF I3 J := by
    intro nu
    induction nu using Nat.strongRecOn with
    | ind nu ih_6 =>
      intro x1 x2 I3 hmu_6 hK4 hl5
      refine g_iload d_X8_layByRow_6 rfl ?_
      refine g_if_lt d_X8_layByRow_8 (fun h8 => ?_) (fun h8 => ?_)
      · skip
        exact g_return d_X8_layByRow_48 rfl rfl rfl ⟨rfl, hK4, rfl⟩
      · skip
        refine g_aload_n d_X8_layByRow_11 rfl ?_
        refine g_getR d_X8_layByRow_12 fq_RX8_33 rfl rfl ?_
        refine g_getR d_X8_layByRow_15 fq_RX8_68 rfl rfl ?_
        refine g_iload d_X8_layByRow_18 rfl ?_
        refine g_baload (N := 8) d_X8_layByRow_20 rfl kT_8 (by constructor <;> grind) rfl (fun hz20 => ?_)
        refine g_if_eq d_X8_layByRow_21 (fun h21 => ?_) (fun h21 => ?_)
        · skip
          refine g_iinc (v := (x2 + (-1 : Int32))) (L' := [some (.ref 67), some (.int rw_), some (.ref q), some (.int x1), some (.int (x2 + (-1 : Int32)))]) d_X8_layByRow_42 rfl (by rw [kI_m1]) (by decide) rfl ?_
          refine g_goto d_X8_layByRow_45 ?_
          exact ih_6 _ (by rw [← hmu_6]; exact mu_dn h8) x1 (x2 + (-1 : Int32)) I3 rfl hK4 (hi_dn hl5 h8)
        · skip
          refine g_iload d_X8_layByRow_24 rfl ?_
          refine g_aload_n d_X8_layByRow_26 rfl ?_
          refine g_alen (v := 8) d_X8_layByRow_27 (sq hq) (Or.inl rfl) rfl ?_
          refine g_icmp_ge d_X8_layByRow_28 (fun h28 => ?_) (fun h28 => ?_)
          · skip
            refine g_iinc (v := (x2 + (-1 : Int32))) (L' := [some (.ref 67), some (.int rw_), some (.ref q), some (.int x1), some (.int (x2 + (-1 : Int32)))]) d_X8_layByRow_42 rfl (by rw [kI_m1]) (by decide) rfl ?_
            refine g_goto d_X8_layByRow_45 ?_
            exact ih_6 _ (by rw [← hmu_6]; exact mu_dn h8) x1 (x2 + (-1 : Int32)) I3 rfl hK4 (hi_dn hl5 h8)
          · skip
            refine g_aload_n d_X8_layByRow_31 rfl ?_
            refine g_iload d_X8_layByRow_32 rfl ?_
            refine g_iload_n d_X8_layByRow_34 rfl ?_
            refine g_iconst (v := 3) d_X8_layByRow_35 kI_3 ?_
            refine g_irem d_X8_layByRow_36 (by decide) ?_
            refine g_iastore (N := 8) d_X8_layByRow_37 (sq hq) kT_8 (by constructor <;> grind) rfl  ?_
            refine g_nmI (fun I6 eI6 => ?_)
            have hK7 : XT I6 J = XT I J := (by rw [eI6]; exact (xt_wI (sqx hq)).trans hK4)
            refine g_iload_n d_X8_layByRow_38 rfl ?_
            refine g_iconst (v := 3) d_X8_layByRow_39 kI_3 ?_
            refine g_idiv d_X8_layByRow_40 (by decide) ?_
            refine g_topI (fun v8 ev8 => ?_)
            refine g_istore_n (L' := [some (.ref 67), some (.int rw_), some (.ref q), some (.int v8), some (.int x2)]) d_X8_layByRow_41 (by decide) rfl ?_
            refine g_iinc (v := (x2 + (-1 : Int32))) (L' := [some (.ref 67), some (.int rw_), some (.ref q), some (.int v8), some (.int (x2 + (-1 : Int32)))]) d_X8_layByRow_42 rfl (by rw [kI_m1]) (by decide) rfl ?_
            refine g_goto d_X8_layByRow_45 ?_
            exact ih_6 _ (by rw [← hmu_6]; exact mu_dn h8) v8 (x2 + (-1 : Int32)) I6 rfl hK7 (hi_dn hl5 h8)
  exact K_6 _ rw_ (7 : Int32) I rfl hK0 (Int32.le_refl _)
set_option maxRecDepth 100000 in
set_option maxHeartbeats 4000000 in
theorem ct_X8_shelfInBestRow (f : Int32) (I : Iv) (J : Jv)  : Ct m_X8_shelfInBestRow [.ref 67, .int f] SHF I J (fun r S' I' J' => S' = SHF ∧ XT I' J' = XT I J ∧ ∃ v : Int32, r = some (.int v)) := by
  refine ct_of 0 (by decide +kernel) rfl rfl ?_
  have hK0 : XT I J = XT I J := rfl
  refine g_aload_n d_X8_shelfInBestRow_0 rfl ?_
  refine g_aload_n d_X8_shelfInBestRow_1 rfl ?_
  refine g_getI d_X8_shelfInBestRow_2 fq_RX8_40 rfl rfl ?_
  refine g_aload_n d_X8_shelfInBestRow_5 rfl ?_
  refine g_getR d_X8_shelfInBestRow_6 fq_RX8_18 rfl rfl ?_
  refine g_V2 d_X8_shelfInBestRow_9 cs_X8_shelfInBestRow_X8_layByRow lk_RX8_53 im_X8_layByRow se_X8_layByRow rfl rfl rfl (Nat.le_of_ble_eq_true rfl) ⟨rfl, rfl⟩ ⟨Nat.zero_le _, Nat.zero_le _⟩ (ct_X8_layByRow (I 67 7) I J (by grind)) (fun r9 S9 I1 J2 q9_2 => ?_)
  obtain ⟨rfl, hc9_3, rfl⟩ := q9_2
  refine g_st (st' := []) rfl ?_
  have hK6 : XT I1 J2 = XT I J := hc9_3.trans hK0
  refine g_iload_n d_X8_shelfInBestRow_12 rfl ?_
  refine g_if_lt d_X8_shelfInBestRow_13 (fun h13 => ?_) (fun h13 => ?_)
  · skip
    refine g_iconst (v := -1) d_X8_shelfInBestRow_31 kI_m1 ?_
    exact g_ireturn d_X8_shelfInBestRow_32 rfl rfl rfl rfl ⟨rfl, hK6, (-1 : Int32), rfl⟩
  · skip
    refine g_iload_n d_X8_shelfInBestRow_16 rfl ?_
    refine g_bipush (v := 8) d_X8_shelfInBestRow_17 kB_8 ?_
    refine g_icmp_ge d_X8_shelfInBestRow_19 (fun h19 => ?_) (fun h19 => ?_)
    · skip
      refine g_iconst (v := -1) d_X8_shelfInBestRow_31 kI_m1 ?_
      exact g_ireturn d_X8_shelfInBestRow_32 rfl rfl rfl rfl ⟨rfl, hK6, (-1 : Int32), rfl⟩
    · skip
      refine g_aload_n d_X8_shelfInBestRow_22 rfl ?_
      refine g_getR d_X8_shelfInBestRow_23 fq_RX8_18 rfl rfl ?_
      refine g_iload_n d_X8_shelfInBestRow_26 rfl ?_
      refine g_iaload (N := 8) d_X8_shelfInBestRow_27 rfl kT_8 (by constructor <;> grind) rfl ?_
      refine g_goto d_X8_shelfInBestRow_28 ?_
      exact g_ireturn d_X8_shelfInBestRow_32 rfl rfl rfl rfl ⟨rfl, hK6, (I1 77 f.toNatClampNeg), rfl⟩
set_option maxRecDepth 100000 in
set_option maxHeartbeats 4000000 in
theorem ct_X8_withinOnSecondDay (bulb : Int32) (I : Iv) (J : Jv)  : Ct m_X8_withinOnSecondDay [.ref 67, .int bulb] SHF I J (fun r S' I' J' => S' = SHF ∧ XT I' J' = XT I J ∧ ∃ v : Int32, r = some (.int v)) := by
  refine ct_of 2 (by decide +kernel) rfl rfl ?_
  have hK0 : XT I J = XT I J := rfl
  refine g_iconst (v := 0) d_X8_withinOnSecondDay_0 kI_0 ?_
  refine g_istore_n (L' := [some (.ref 67), some (.int bulb), some (.int (0 : Int32)), none]) d_X8_withinOnSecondDay_1 (by decide) rfl ?_
  refine g_aload_n d_X8_withinOnSecondDay_2 rfl ?_
  refine g_getR d_X8_withinOnSecondDay_3 fq_RX8_29 rfl rfl ?_
  refine g_aload_n d_X8_withinOnSecondDay_6 rfl ?_
  refine g_getR d_X8_withinOnSecondDay_7 fq_RX8_12 rfl rfl ?_
  refine g_sipush (v := 288) d_X8_withinOnSecondDay_10 kS_288 ?_
  refine g_iload_n d_X8_withinOnSecondDay_13 rfl ?_
  refine g_V3 d_X8_withinOnSecondDay_14 cs_X8_withinOnSecondDay_X7_passByDay lk_RX8_72 im_X7_passByDay se_X7_passByDay rfl rfl rfl (Nat.le_of_ble_eq_true rfl) ⟨rfl, rfl⟩ ⟨Nat.zero_le _, Nat.zero_le _⟩ (ct_X7_passByDay (288 : Int32) bulb I J stA_68 (by grind)) (fun r14 S14 I1 J2 q14_2 => ?_)
  obtain ⟨rfl, hc14_3, rfl, hr14_4⟩ := q14_2
  refine g_st (st' := []) rfl ?_
  have hK6 : XT I1 J2 = XT I J := (xt_fsx (Or.inr rfl) hc14_3).trans hK0
  refine g_iconst (v := 0) d_X8_withinOnSecondDay_17 kI_0 ?_
  refine g_istore_n (L' := [some (.ref 67), some (.int bulb), some (.int (0 : Int32)), some (.int (0 : Int32))]) d_X8_withinOnSecondDay_18 (by decide) rfl ?_
  have K_19 : ∀ (nu : Nat) (x7 : Int32) (x8 : Int32) (I9 : Iv) (J10 : Jv), mU (288 : Int32) x8 = nu → (XT I9 J10 = XT I J) → ((0 : Int32) ≤ x8) → G m_X8_withinOnSecondDay (rq m_X8_withinOnSecondDay (fun r S' I' J' => S' = SHF ∧ XT I' J' = XT I J ∧ ∃ v : Int32, r = some (.int v))) 0 0 19 [some (.ref 67), some (.int bulb), some (.int x7), some (.int x8)] [] SHF I9 J10 := by
    intro nu
    induction nu using Nat.strongRecOn with
    | ind nu ih_19 =>
      intro x7 x8 I9 J10 hmu_19 hK11 hl12
      refine g_iload_n d_X8_withinOnSecondDay_19 rfl ?_
      refine g_sipush (v := 288) d_X8_withinOnSecondDay_20 kS_288 ?_
      refine g_icmp_ge d_X8_withinOnSecondDay_23 (fun h23 => ?_) (fun h23 => ?_)
      · skip
        refine g_iload_n d_X8_withinOnSecondDay_55 rfl ?_
        exact g_ireturn d_X8_withinOnSecondDay_56 rfl rfl rfl rfl ⟨rfl, hK11, x7, rfl⟩
      · skip
        refine g_aload_n d_X8_withinOnSecondDay_26 rfl ?_
        refine g_getR d_X8_withinOnSecondDay_27 fq_RX8_29 rfl rfl ?_
        refine g_aload_n d_X8_withinOnSecondDay_30 rfl ?_
        refine g_getR d_X8_withinOnSecondDay_31 fq_RX8_12 rfl rfl ?_
        refine g_iconst (v := 1) d_X8_withinOnSecondDay_34 kI_1 ?_
        refine g_iload_n d_X8_withinOnSecondDay_35 rfl ?_
        refine g_V3 d_X8_withinOnSecondDay_36 cs_X8_withinOnSecondDay_X7_passByDay lk_RX8_72 im_X7_passByDay se_X7_passByDay rfl rfl rfl (Nat.le_of_ble_eq_true rfl) ⟨rfl, rfl⟩ ⟨Nat.zero_le _, Nat.zero_le _⟩ (ct_X7_passByDay (1 : Int32) bulb I9 J10 stA_68 (by grind)) (fun r36 S36 I13 J14 q36_14 => ?_)
        obtain ⟨rfl, hc36_15, rfl, hr36_16⟩ := q36_14
        refine g_st (st' := []) rfl ?_
        have hK18 : XT I13 J14 = XT I J := (xt_fsx (Or.inr rfl) hc36_15).trans hK11
        refine g_iload_n d_X8_withinOnSecondDay_39 rfl ?_
        refine g_aload_n d_X8_withinOnSecondDay_40 rfl ?_
        refine g_getR d_X8_withinOnSecondDay_41 fq_RX8_12 rfl rfl ?_
        refine g_V0 d_X8_withinOnSecondDay_44 cs_X8_withinOnSecondDay_X6_foodsWithin lk_RX8_78 im_X6_foodsWithin se_X6_foodsWithin rfl rfl rfl (Nat.le_of_ble_eq_true rfl) ⟨rfl, rfl⟩ ⟨Nat.zero_le _, Nat.zero_le _⟩ (ct_X6_foodsWithin  I13 J14 stA_68) (fun r44 S44 Ic20 Jc21 q44_18 => ?_)
        obtain ⟨rfl, rfl, rfl, r23, rfl⟩ := q44_18
        refine g_st (st' := [.int r23, .int x7]) rfl ?_
        refine g_iadd d_X8_withinOnSecondDay_47 ?_
        refine g_topI (fun v25 ev25 => ?_)
        refine g_istore_n (L' := [some (.ref 67), some (.int bulb), some (.int v25), some (.int x8)]) d_X8_withinOnSecondDay_48 (by decide) rfl ?_
        refine g_iinc (v := (x8 + (1 : Int32))) (L' := [some (.ref 67), some (.int bulb), some (.int v25), some (.int (x8 + (1 : Int32)))]) d_X8_withinOnSecondDay_49 rfl (by rw [kI_1]) (by decide) rfl ?_
        refine g_goto d_X8_withinOnSecondDay_52 ?_
        exact ih_19 _ (by rw [← hmu_19]; exact mu_up h23) v25 (x8 + (1 : Int32)) I13 J14 rfl hK18 (lo_up hl12 h23)
  exact K_19 _ (0 : Int32) (0 : Int32) I1 J2 rfl hK6 (Int32.le_refl _)
set_option maxRecDepth 100000 in
set_option maxHeartbeats 4000000 in
theorem ct_X8_findBestRow  (I : Iv) (J : Jv)  : Ct m_X8_findBestRow [.ref 67] SHF I J (fun r S' I' J' => S' = SHF ∧ XT I' J' = XT I J ∧ r = none) := by
  refine ct_of 3 (by decide +kernel) rfl rfl ?_
  have hK0 : XT I J = XT I J := rfl
  refine g_aload_n d_X8_findBestRow_0 rfl ?_
  refine g_getR d_X8_findBestRow_1 fq_RX8_33 rfl rfl ?_
  refine g_V0 d_X8_findBestRow_4 cs_X8_findBestRow_X6_foodsThere lk_RX8_36 im_X6_foodsThere se_X6_foodsThere rfl rfl rfl (Nat.le_of_ble_eq_true rfl) ⟨rfl, rfl⟩ ⟨Nat.zero_le _, Nat.zero_le _⟩ (ct_X6_foodsThere  I J stA_16) (fun r4 S4 Ic2 Jc3 q4_0 => ?_)
  obtain ⟨rfl, rfl, rfl, r5, rfl⟩ := q4_0
  refine g_st (st' := [.int r5]) rfl ?_
  refine g_istore_n (L' := [some (.ref 67), some (.int r5), none, none]) d_X8_findBestRow_7 (by decide) rfl ?_
  refine g_iconst (v := 1) d_X8_findBestRow_8 kI_1 ?_
  refine g_istore_n (L' := [some (.ref 67), some (.int r5), some (.int (1 : Int32)), none]) d_X8_findBestRow_9 (by decide) rfl ?_
  refine g_iconst (v := 0) d_X8_findBestRow_10 kI_0 ?_
  refine g_istore_n (L' := [some (.ref 67), some (.int r5), some (.int (1 : Int32)), some (.int (0 : Int32))]) d_X8_findBestRow_11 (by decide) rfl ?_
  have K_12 : ∀ (nu : Nat) (x7 : Int32) (x8 : Int32), mU r5 x8 = nu → ((0 : Int32) ≤ x8) → G m_X8_findBestRow (rq m_X8_findBestRow (fun r S' I' J' => S' = SHF ∧ XT I' J' = XT I J ∧ r = none)) 0 0 12 [some (.ref 67), some (.int r5), some (.int x7), some (.int x8)] [] SHF I J := by
    intro nu
    induction nu using Nat.strongRecOn with
    | ind nu ih_12 =>
      intro x7 x8 hmu_12 hl9
      refine g_iload_n d_X8_findBestRow_12 rfl ?_
      refine g_iload_n d_X8_findBestRow_13 rfl ?_
      have J_33 : G m_X8_findBestRow (rq m_X8_findBestRow (fun r S' I' J' => S' = SHF ∧ XT I' J' = XT I J ∧ r = none)) 0 0 33 [some (.ref 67), some (.int r5), some (.int x7), some (.int x8)] [] SHF I J := by
        skip
        refine g_aload_n d_X8_findBestRow_33 rfl ?_
        refine g_iconst (v := 0) d_X8_findBestRow_34 kI_0 ?_
        refine g_putI d_X8_findBestRow_35 fq_RX8_40 rfl rfl ?_
        refine g_nmI (fun I10 eI10 => ?_)
        have hK11 : XT I10 J = XT I J := (by rw [eI10]; exact (xt_wI rfl).trans hK0)
        refine g_aload_n d_X8_findBestRow_38 rfl ?_
        refine g_iconst (v := -1) d_X8_findBestRow_39 kI_m1 ?_
        refine g_putI d_X8_findBestRow_40 fq_RX8_43 rfl rfl ?_
        refine g_nmI (fun I12 eI12 => ?_)
        have hK13 : XT I12 J = XT I J := (by rw [eI12]; exact (xt_wI rfl).trans hK11)
        refine g_iconst (v := 0) d_X8_findBestRow_43 kI_0 ?_
        refine g_istore_n (L' := [some (.ref 67), some (.int r5), some (.int x7), some (.int (0 : Int32))]) d_X8_findBestRow_44 (by decide) rfl ?_
        have K_45 : ∀ (nu : Nat) (x14 : Int32) (I15 : Iv) (J16 : Jv), mU x7 x14 = nu → (XT I15 J16 = XT I J) → ((0 : Int32) ≤ x14) → G m_X8_findBestRow (rq m_X8_findBestRow (fun r S' I' J' => S' = SHF ∧ XT I' J' = XT I J ∧ r = none)) 0 0 45 [some (.ref 67), some (.int r5), some (.int x7), some (.int x14)] [] SHF I15 J16 := by
          intro nu
          induction nu using Nat.strongRecOn with
          | ind nu ih_45 =>
            intro x14 I15 J16 hmu_45 hK17 hl18
            refine g_iload_n d_X8_findBestRow_45 rfl ?_
            refine g_iload_n d_X8_findBestRow_46 rfl ?_
            refine g_icmp_ge d_X8_findBestRow_47 (fun h47 => ?_) (fun h47 => ?_)
            · skip
              exact g_return d_X8_findBestRow_104 rfl rfl rfl ⟨rfl, hK17, rfl⟩
            · skip
              refine g_aload_n d_X8_findBestRow_50 rfl ?_
              refine g_getI d_X8_findBestRow_51 fq_RX8_43 rfl rfl ?_
              refine g_iload_n d_X8_findBestRow_54 rfl ?_
              refine g_sipush (v := 288) d_X8_findBestRow_55 kS_288 ?_
              refine g_imul d_X8_findBestRow_58 ?_
              refine g_icmp_ge d_X8_findBestRow_59 (fun h59 => ?_) (fun h59 => ?_)
              · skip
                exact g_return d_X8_findBestRow_104 rfl rfl rfl ⟨rfl, hK17, rfl⟩
              · skip
                refine g_aload_n d_X8_findBestRow_62 rfl ?_
                refine g_getR d_X8_findBestRow_63 fq_RX8_12 rfl rfl ?_
                refine g_aload_n d_X8_findBestRow_66 rfl ?_
                refine g_getR d_X8_findBestRow_67 fq_RX8_33 rfl rfl ?_
                refine g_V1 d_X8_findBestRow_70 cs_X8_findBestRow_X6_copyFrom lk_RX8_46 im_X6_copyFrom se_X6_copyFrom rfl rfl rfl (Nat.le_of_ble_eq_true rfl) ⟨rfl, rfl⟩ ⟨Nat.zero_le _, Nat.zero_le _⟩ (ct_X6_copyFrom  I15 J16 stA_68 stA_16 (by decide)) (fun r70 S70 I19 J20 q70_20 => ?_)
                obtain ⟨rfl, hc70_21, rfl, hr70_22⟩ := q70_20
                refine g_st (st' := []) rfl ?_
                have hK24 : XT I19 J20 = XT I J := (xt_copyT (Or.inr rfl) hc70_21).trans hK17
                refine g_aload_n d_X8_findBestRow_73 rfl ?_
                refine g_iload_n d_X8_findBestRow_74 rfl ?_
                refine g_aload_n d_X8_findBestRow_75 rfl ?_
                refine g_getR d_X8_findBestRow_76 fq_RX8_12 rfl rfl ?_
                refine g_getR d_X8_findBestRow_79 fq_RX8_50 rfl rfl ?_
                refine g_V2 d_X8_findBestRow_82 cs_X8_findBestRow_X8_layByRow lk_RX8_53 im_X8_layByRow se_X8_layByRow rfl rfl rfl (Nat.le_of_ble_eq_true rfl) ⟨rfl, rfl⟩ ⟨Nat.zero_le _, Nat.zero_le _⟩ (ct_X8_layByRow x14 I19 J20 (by grind)) (fun r82 S82 I25 J26 q82_26 => ?_)
                obtain ⟨rfl, hc82_27, rfl⟩ := q82_26
                refine g_st (st' := []) rfl ?_
                have hK30 : XT I25 J26 = XT I J := hc82_27.trans hK24
                refine g_aload_n d_X8_findBestRow_85 rfl ?_
                refine g_iload_n d_X8_findBestRow_86 rfl ?_
                refine g_aload_n d_X8_findBestRow_87 rfl ?_
                refine g_aload_n d_X8_findBestRow_88 rfl ?_
                refine g_V0 d_X8_findBestRow_89 cs_X8_findBestRow_X8_boxBulb lk_RX8_57 im_X8_boxBulb se_X8_boxBulb rfl rfl rfl (Nat.le_of_ble_eq_true rfl) ⟨rfl, rfl⟩ ⟨Nat.zero_le _, Nat.zero_le _⟩ (ct_X8_boxBulb  I25 J26 ) (fun r89 S89 Ic32 Jc33 q89_30 => ?_)
                obtain ⟨rfl, rfl, rfl, r35, rfl⟩ := q89_30
                refine g_st (st' := [.int r35, .ref 67, .int x14, .ref 67]) rfl ?_
                refine g_V1 d_X8_findBestRow_92 cs_X8_findBestRow_X8_withinOnSecondDay lk_RX8_60 im_X8_withinOnSecondDay se_X8_withinOnSecondDay rfl rfl rfl (Nat.le_of_ble_eq_true rfl) ⟨rfl, rfl⟩ ⟨Nat.zero_le _, Nat.zero_le _⟩ (ct_X8_withinOnSecondDay r35 I25 J26 ) (fun r92 S92 I37 J38 q92_38 => ?_)
                obtain ⟨rfl, hc92_39, r41, rfl⟩ := q92_38
                refine g_st (st' := [.int r41, .int x14, .ref 67]) rfl ?_
                have hK43 : XT I37 J38 = XT I J := hc92_39.trans hK30
                refine g_V2 d_X8_findBestRow_95 cs_X8_findBestRow_X8_takeIfMore lk_RX8_64 im_X8_takeIfMore se_X8_takeIfMore rfl rfl rfl (Nat.le_of_ble_eq_true rfl) ⟨rfl, rfl⟩ ⟨Nat.zero_le _, Nat.zero_le _⟩ (ct_X8_takeIfMore x14 r41 I37 J38 ) (fun r95 S95 I44 J45 q95_45 => ?_)
                obtain ⟨rfl, hc95_46, rfl⟩ := q95_45
                refine g_st (st' := []) rfl ?_
                have hK49 : XT I44 J45 = XT I J := hc95_46.trans hK43
                refine g_iinc (v := (x14 + (1 : Int32))) (L' := [some (.ref 67), some (.int r5), some (.int x7), some (.int (x14 + (1 : Int32)))]) d_X8_findBestRow_98 rfl (by rw [kI_1]) (by decide) rfl ?_
                refine g_goto d_X8_findBestRow_101 ?_
                exact ih_45 _ (by rw [← hmu_45]; exact mu_up h47) (x14 + (1 : Int32)) I44 J45 rfl hK49 (lo_up hl18 h47)
        exact K_45 _ (0 : Int32) I12 J rfl hK13 (Int32.le_refl _)
      refine g_icmp_ge d_X8_findBestRow_14 (fun h14 => ?_) (fun h14 => ?_)
      · skip
        exact J_33
      · skip
        refine g_iload_n d_X8_findBestRow_17 rfl ?_
        refine g_bipush (v := 6) d_X8_findBestRow_18 kB_6 ?_
        refine g_icmp_ge d_X8_findBestRow_20 (fun h20 => ?_) (fun h20 => ?_)
        · skip
          exact J_33
        · skip
          refine g_iload_n d_X8_findBestRow_23 rfl ?_
          refine g_iconst (v := 3) d_X8_findBestRow_24 kI_3 ?_
          refine g_imul d_X8_findBestRow_25 ?_
          refine g_topI (fun v50 ev50 => ?_)
          refine g_istore_n (L' := [some (.ref 67), some (.int r5), some (.int v50), some (.int x8)]) d_X8_findBestRow_26 (by decide) rfl ?_
          refine g_iinc (v := (x8 + (1 : Int32))) (L' := [some (.ref 67), some (.int r5), some (.int v50), some (.int (x8 + (1 : Int32)))]) d_X8_findBestRow_27 rfl (by rw [kI_1]) (by decide) rfl ?_
          refine g_goto d_X8_findBestRow_30 ?_
          exact ih_12 _ (by rw [← hmu_12]; exact mu_up h14) v50 (x8 + (1 : Int32)) rfl (lo_up hl9 h14)
  exact K_12 _ (1 : Int32) (0 : Int32) rfl (Int32.le_refl _)
set_option maxRecDepth 100000 in
set_option maxHeartbeats 4000000 in
theorem ct_X8_findBestBulb  (I : Iv) (J : Jv)  : Ct m_X8_findBestBulb [.ref 67] SHF I J (fun r S' I' J' => S' = SHF ∧ XT I' J' = XT I J ∧ r = none) := by
  refine ct_of 1 (by decide +kernel) rfl rfl ?_
  have hK0 : XT I J = XT I J := rfl
  refine g_aload_n d_X8_findBestBulb_0 rfl ?_
  refine g_iconst (v := 0) d_X8_findBestBulb_1 kI_0 ?_
  refine g_putI d_X8_findBestBulb_2 fq_RX8_40 rfl rfl ?_
  refine g_nmI (fun I1 eI1 => ?_)
  have hK2 : XT I1 J = XT I J := (by rw [eI1]; exact (xt_wI rfl).trans hK0)
  refine g_aload_n d_X8_findBestBulb_5 rfl ?_
  refine g_iconst (v := -1) d_X8_findBestBulb_6 kI_m1 ?_
  refine g_putI d_X8_findBestBulb_7 fq_RX8_43 rfl rfl ?_
  refine g_nmI (fun I3 eI3 => ?_)
  have hK4 : XT I3 J = XT I J := (by rw [eI3]; exact (xt_wI rfl).trans hK2)
  refine g_iconst (v := 0) d_X8_findBestBulb_10 kI_0 ?_
  refine g_istore_n (L' := [some (.ref 67), some (.int (0 : Int32))]) d_X8_findBestBulb_11 (by decide) rfl ?_
  have K_12 : ∀ (nu : Nat) (x5 : Int32) (I6 : Iv) (J7 : Jv), mU (3 : Int32) x5 = nu → (XT I6 J7 = XT I J) → ((0 : Int32) ≤ x5) → G m_X8_findBestBulb (rq m_X8_findBestBulb (fun r S' I' J' => S' = SHF ∧ XT I' J' = XT I J ∧ r = none)) 0 0 12 [some (.ref 67), some (.int x5)] [] SHF I6 J7 := by
    intro nu
    induction nu using Nat.strongRecOn with
    | ind nu ih_12 =>
      intro x5 I6 J7 hmu_12 hK8 hl9
      refine g_iload_n d_X8_findBestBulb_12 rfl ?_
      refine g_iconst (v := 3) d_X8_findBestBulb_13 kI_3 ?_
      refine g_icmp_ge d_X8_findBestBulb_14 (fun h14 => ?_) (fun h14 => ?_)
      · skip
        exact g_return d_X8_findBestBulb_44 rfl rfl rfl ⟨rfl, hK8, rfl⟩
      · skip
        refine g_aload_n d_X8_findBestBulb_17 rfl ?_
        refine g_getR d_X8_findBestBulb_18 fq_RX8_12 rfl rfl ?_
        refine g_aload_n d_X8_findBestBulb_21 rfl ?_
        refine g_getR d_X8_findBestBulb_22 fq_RX8_33 rfl rfl ?_
        refine g_V1 d_X8_findBestBulb_25 cs_X8_findBestBulb_X6_copyFrom lk_RX8_46 im_X6_copyFrom se_X6_copyFrom rfl rfl rfl (Nat.le_of_ble_eq_true rfl) ⟨rfl, rfl⟩ ⟨Nat.zero_le _, Nat.zero_le _⟩ (ct_X6_copyFrom  I6 J7 stA_68 stA_16 (by decide)) (fun r25 S25 I10 J11 q25_11 => ?_)
        obtain ⟨rfl, hc25_12, rfl, hr25_13⟩ := q25_11
        refine g_st (st' := []) rfl ?_
        have hK15 : XT I10 J11 = XT I J := (xt_copyT (Or.inr rfl) hc25_12).trans hK8
        refine g_aload_n d_X8_findBestBulb_28 rfl ?_
        refine g_iload_n d_X8_findBestBulb_29 rfl ?_
        refine g_aload_n d_X8_findBestBulb_30 rfl ?_
        refine g_iload_n d_X8_findBestBulb_31 rfl ?_
        refine g_V1 d_X8_findBestBulb_32 cs_X8_findBestBulb_X8_withinOnSecondDay lk_RX8_60 im_X8_withinOnSecondDay se_X8_withinOnSecondDay rfl rfl rfl (Nat.le_of_ble_eq_true rfl) ⟨rfl, rfl⟩ ⟨Nat.zero_le _, Nat.zero_le _⟩ (ct_X8_withinOnSecondDay x5 I10 J11 ) (fun r32 S32 I16 J17 q32_17 => ?_)
        obtain ⟨rfl, hc32_18, r20, rfl⟩ := q32_17
        refine g_st (st' := [.int r20, .int x5, .ref 67]) rfl ?_
        have hK22 : XT I16 J17 = XT I J := hc32_18.trans hK15
        refine g_V2 d_X8_findBestBulb_35 cs_X8_findBestBulb_X8_takeIfMore lk_RX8_64 im_X8_takeIfMore se_X8_takeIfMore rfl rfl rfl (Nat.le_of_ble_eq_true rfl) ⟨rfl, rfl⟩ ⟨Nat.zero_le _, Nat.zero_le _⟩ (ct_X8_takeIfMore x5 r20 I16 J17 ) (fun r35 S35 I23 J24 q35_24 => ?_)
        obtain ⟨rfl, hc35_25, rfl⟩ := q35_24
        refine g_st (st' := []) rfl ?_
        have hK28 : XT I23 J24 = XT I J := hc35_25.trans hK22
        refine g_iinc (v := (x5 + (1 : Int32))) (L' := [some (.ref 67), some (.int (x5 + (1 : Int32)))]) d_X8_findBestBulb_38 rfl (by rw [kI_1]) (by decide) rfl ?_
        refine g_goto d_X8_findBestBulb_41 ?_
        exact ih_12 _ (by rw [← hmu_12]; exact mu_up h14) (x5 + (1 : Int32)) I23 J24 rfl hK28 (lo_up hl9 h14)
  exact K_12 _ (0 : Int32) I3 J rfl hK4 (Int32.le_refl _)
set_option maxRecDepth 100000 in
set_option maxHeartbeats 4000000 in
theorem ct_X8_ticksWithoutCurrent (f : Int32) (I : Iv) (J : Jv)  : Ct m_X8_ticksWithoutCurrent [.ref 67, .int f] SHF I J (fun r S' I' J' => S' = SHF ∧ XT I' J' = XT I J ∧ ∃ v : Int32, r = some (.int v)) := by
  refine ct_of 1 (by decide +kernel) rfl rfl ?_
  have hK0 : XT I J = XT I J := rfl
  refine g_aload_n d_X8_ticksWithoutCurrent_0 rfl ?_
  refine g_getR d_X8_ticksWithoutCurrent_1 fq_RX8_12 rfl rfl ?_
  refine g_aload_n d_X8_ticksWithoutCurrent_4 rfl ?_
  refine g_getR d_X8_ticksWithoutCurrent_5 fq_RX8_33 rfl rfl ?_
  refine g_V1 d_X8_ticksWithoutCurrent_8 cs_X8_ticksWithoutCurrent_X6_copyFrom lk_RX8_46 im_X6_copyFrom se_X6_copyFrom rfl rfl rfl (Nat.le_of_ble_eq_true rfl) ⟨rfl, rfl⟩ ⟨Nat.zero_le _, Nat.zero_le _⟩ (ct_X6_copyFrom  I J stA_68 stA_16 (by decide)) (fun r8 S8 I1 J2 q8_2 => ?_)
  obtain ⟨rfl, hc8_3, rfl, hr8_4⟩ := q8_2
  refine g_st (st' := []) rfl ?_
  have hK6 : XT I1 J2 = XT I J := (xt_copyT (Or.inr rfl) hc8_3).trans hK0
  refine g_aload_n d_X8_ticksWithoutCurrent_11 rfl ?_
  refine g_getR d_X8_ticksWithoutCurrent_12 fq_RX8_12 rfl rfl ?_
  refine g_iconst (v := 0) d_X8_ticksWithoutCurrent_15 kI_0 ?_
  refine g_putZ d_X8_ticksWithoutCurrent_16 fq_RX8_81 rfl rfl (Or.inl rfl) ?_
  refine g_nmI (fun I7 eI7 => ?_)
  have hK8 : XT I7 J2 = XT I J := (by rw [eI7]; exact (xt_wI rfl).trans hK6)
  refine g_iconst (v := 0) d_X8_ticksWithoutCurrent_19 kI_0 ?_
  refine g_istore_n (L' := [some (.ref 67), some (.int f), some (.int (0 : Int32))]) d_X8_ticksWithoutCurrent_20 (by decide) rfl ?_
  have K_21 : ∀ (nu : Nat) (x9 : Int32) (I10 : Iv) (J11 : Jv), mUe (864 : Int32) x9 = nu → (XT I10 J11 = XT I J) → ((0 : Int32) ≤ x9) → G m_X8_ticksWithoutCurrent (rq m_X8_ticksWithoutCurrent (fun r S' I' J' => S' = SHF ∧ XT I' J' = XT I J ∧ ∃ v : Int32, r = some (.int v))) 0 0 21 [some (.ref 67), some (.int f), some (.int x9)] [] SHF I10 J11 := by
    intro nu
    induction nu using Nat.strongRecOn with
    | ind nu ih_21 =>
      intro x9 I10 J11 hmu_21 hK12 hl13
      refine g_iload_n d_X8_ticksWithoutCurrent_21 rfl ?_
      refine g_sipush (v := 864) d_X8_ticksWithoutCurrent_22 kS_864 ?_
      refine g_icmp_gt d_X8_ticksWithoutCurrent_25 (fun h25 => ?_) (fun h25 => ?_)
      · skip
        refine g_iconst (v := -1) d_X8_ticksWithoutCurrent_63 kI_m1 ?_
        exact g_ireturn d_X8_ticksWithoutCurrent_64 rfl rfl rfl rfl ⟨rfl, hK12, (-1 : Int32), rfl⟩
      · skip
        refine g_aload_n d_X8_ticksWithoutCurrent_28 rfl ?_
        refine g_getR d_X8_ticksWithoutCurrent_29 fq_RX8_29 rfl rfl ?_
        refine g_aload_n d_X8_ticksWithoutCurrent_32 rfl ?_
        refine g_getR d_X8_ticksWithoutCurrent_33 fq_RX8_12 rfl rfl ?_
        refine g_iconst (v := 1) d_X8_ticksWithoutCurrent_36 kI_1 ?_
        refine g_aload_n d_X8_ticksWithoutCurrent_37 rfl ?_
        refine g_V0 d_X8_ticksWithoutCurrent_38 cs_X8_ticksWithoutCurrent_X8_boxBulb lk_RX8_57 im_X8_boxBulb se_X8_boxBulb rfl rfl rfl (Nat.le_of_ble_eq_true rfl) ⟨rfl, rfl⟩ ⟨Nat.zero_le _, Nat.zero_le _⟩ (ct_X8_boxBulb  I10 J11 ) (fun r38 S38 Ic15 Jc16 q38_13 => ?_)
        obtain ⟨rfl, rfl, rfl, r18, rfl⟩ := q38_13
        refine g_st (st' := [.int r18, .int (1 : Int32), .ref 68, .ref 13]) rfl ?_
        refine g_V3 d_X8_ticksWithoutCurrent_41 cs_X8_ticksWithoutCurrent_X7_passByDay lk_RX8_72 im_X7_passByDay se_X7_passByDay rfl rfl rfl (Nat.le_of_ble_eq_true rfl) ⟨rfl, rfl⟩ ⟨Nat.zero_le _, Nat.zero_le _⟩ (ct_X7_passByDay (1 : Int32) r18 I10 J11 stA_68 (by grind)) (fun r41 S41 I20 J21 q41_21 => ?_)
        obtain ⟨rfl, hc41_22, rfl, hr41_23⟩ := q41_21
        refine g_st (st' := []) rfl ?_
        have hK25 : XT I20 J21 = XT I J := (xt_fsx (Or.inr rfl) hc41_22).trans hK12
        refine g_aload_n d_X8_ticksWithoutCurrent_44 rfl ?_
        refine g_getR d_X8_ticksWithoutCurrent_45 fq_RX8_12 rfl rfl ?_
        refine g_iload_n d_X8_ticksWithoutCurrent_48 rfl ?_
        refine g_V1 d_X8_ticksWithoutCurrent_49 cs_X8_ticksWithoutCurrent_X6_isWithin lk_RX8_85 im_X6_isWithin se_X6_isWithin rfl rfl rfl (Nat.le_of_ble_eq_true rfl) ⟨rfl, rfl⟩ ⟨Nat.zero_le _, Nat.zero_le _⟩ (ct_X6_isWithin f I20 J21 stA_68) (fun r49 S49 Ic27 Jc28 q49_25 => ?_)
        obtain ⟨rfl, rfl, rfl, r30, rfl, hz49⟩ := q49_25
        refine g_st (st' := [.int r30]) rfl ?_
        refine g_if_ne d_X8_ticksWithoutCurrent_52 (fun h52 => ?_) (fun h52 => ?_)
        · skip
          refine g_iinc (v := (x9 + (1 : Int32))) (L' := [some (.ref 67), some (.int f), some (.int (x9 + (1 : Int32)))]) d_X8_ticksWithoutCurrent_57 rfl (by rw [kI_1]) (by decide) rfl ?_
          refine g_goto d_X8_ticksWithoutCurrent_60 ?_
          exact ih_21 _ (by rw [← hmu_21]; exact mu_upe h25 (by decide)) (x9 + (1 : Int32)) I20 J21 rfl hK25 (lo_upe hl13 h25 (by decide))
        · skip
          refine g_iload_n d_X8_ticksWithoutCurrent_55 rfl ?_
          exact g_ireturn d_X8_ticksWithoutCurrent_56 rfl rfl rfl rfl ⟨rfl, hK25, x9, rfl⟩
  exact K_21 _ (0 : Int32) I7 J2 rfl hK8 (Int32.le_refl _)
set_option maxRecDepth 100000 in
set_option maxHeartbeats 4000000 in
theorem ct_X8_paidStoring (n : Int32) (d : Int32) (price : Int32) (I : Iv) (J : Jv)  : Ct m_X8_paidStoring [.ref 67, .int n, .int d, .int price] SHF I J (fun r S' I' J' => S' = SHF ∧ XT I' J' = XT I J ∧ ∃ v : Int32, r = some (.int v)) := by
  refine ct_of 7 (by decide +kernel) rfl rfl ?_
  have hK0 : XT I J = XT I J := rfl
  refine g_aload_n d_X8_paidStoring_0 rfl ?_
  refine g_getR d_X8_paidStoring_1 fq_RX8_33 rfl rfl ?_
  refine g_V0 d_X8_paidStoring_4 cs_X8_paidStoring_X6_foodsThere lk_RX8_36 im_X6_foodsThere se_X6_foodsThere rfl rfl rfl (Nat.le_of_ble_eq_true rfl) ⟨rfl, rfl⟩ ⟨Nat.zero_le _, Nat.zero_le _⟩ (ct_X6_foodsThere  I J stA_16) (fun r4 S4 Ic2 Jc3 q4_0 => ?_)
  obtain ⟨rfl, rfl, rfl, r5, rfl⟩ := q4_0
  refine g_st (st' := [.int r5]) rfl ?_
  refine g_istore (L' := [some (.ref 67), some (.int n), some (.int d), some (.int price), some (.int r5), none, none, none, none, none, none]) d_X8_paidStoring_7 (by decide) rfl ?_
  refine g_lconst d_X8_paidStoring_9 kL_0 ?_
  refine g_lstore (L' := [some (.ref 67), some (.int n), some (.int d), some (.int price), some (.int r5), some (.long (0 : Int64)), none, none, none, none, none]) d_X8_paidStoring_10 (by decide) rfl ?_
  refine g_aload_n d_X8_paidStoring_12 rfl ?_
  refine g_getR d_X8_paidStoring_13 fq_RX8_12 rfl rfl ?_
  refine g_aload_n d_X8_paidStoring_16 rfl ?_
  refine g_getR d_X8_paidStoring_17 fq_RX8_33 rfl rfl ?_
  refine g_V1 d_X8_paidStoring_20 cs_X8_paidStoring_X6_copyFrom lk_RX8_46 im_X6_copyFrom se_X6_copyFrom rfl rfl rfl (Nat.le_of_ble_eq_true rfl) ⟨rfl, rfl⟩ ⟨Nat.zero_le _, Nat.zero_le _⟩ (ct_X6_copyFrom  I J stA_68 stA_16 (by decide)) (fun r20 S20 I7 J8 q20_8 => ?_)
  obtain ⟨rfl, hc20_9, rfl, hr20_10⟩ := q20_8
  refine g_st (st' := []) rfl ?_
  have hK12 : XT I7 J8 = XT I J := (xt_copyT (Or.inr rfl) hc20_9).trans hK0
  refine g_iconst (v := 0) d_X8_paidStoring_23 kI_0 ?_
  refine g_istore (L' := [some (.ref 67), some (.int n), some (.int d), some (.int price), some (.int r5), some (.long (0 : Int64)), none, some (.int (0 : Int32)), none, none, none]) d_X8_paidStoring_24 (by decide) rfl ?_
  have K_26 : ∀ (nu : Nat) (x13 : Int64) (x14 : Int32) (I15 : Iv) (J16 : Jv), mU (n * (288 : Int32)) x14 = nu → (XT I15 J16 = XT I J) → ((0 : Int32) ≤ x14) → G m_X8_paidStoring (rq m_X8_paidStoring (fun r S' I' J' => S' = SHF ∧ XT I' J' = XT I J ∧ ∃ v : Int32, r = some (.int v))) 0 0 26 [some (.ref 67), some (.int n), some (.int d), some (.int price), some (.int r5), some (.long x13), none, some (.int x14), none, none, none] [] SHF I15 J16 := by
    intro nu
    induction nu using Nat.strongRecOn with
    | ind nu ih_26 =>
      intro x13 x14 I15 J16 hmu_26 hK17 hl18
      refine g_iload d_X8_paidStoring_26 rfl ?_
      refine g_iload_n d_X8_paidStoring_28 rfl ?_
      refine g_sipush (v := 288) d_X8_paidStoring_29 kS_288 ?_
      refine g_imul d_X8_paidStoring_32 ?_
      refine g_icmp_ge d_X8_paidStoring_33 (fun h33 => ?_) (fun h33 => ?_)
      · skip
        refine g_lload d_X8_paidStoring_157 rfl ?_
        refine g_ldc2 (v := 1000) d_X8_paidStoring_159 tw_1064 ?_
        refine g_ldiv d_X8_paidStoring_162 (by decide) ?_
        refine g_l2i d_X8_paidStoring_163 ?_
        exact g_ireturn d_X8_paidStoring_164 rfl rfl rfl rfl ⟨rfl, hK17, (Int64.toInt32 (x13 / (1000 : Int64))), rfl⟩
      · skip
        refine g_aload_n d_X8_paidStoring_36 rfl ?_
        refine g_getR d_X8_paidStoring_37 fq_RX8_12 rfl rfl ?_
        refine g_V0 d_X8_paidStoring_40 cs_X8_paidStoring_X6_tickOfDay lk_RX8_93 im_X6_tickOfDay se_X6_tickOfDay rfl rfl rfl (Nat.le_of_ble_eq_true rfl) ⟨rfl, rfl⟩ ⟨Nat.zero_le _, Nat.zero_le _⟩ (ct_X6_tickOfDay  I15 J16 stA_68) (fun r40 S40 Ic20 Jc21 q40_18 => ?_)
        obtain ⟨rfl, rfl, rfl, r23, rfl, hr40_23⟩ := q40_18
        refine g_st (st' := [.int r23]) rfl ?_
        refine g_istore (L' := [some (.ref 67), some (.int n), some (.int d), some (.int price), some (.int r5), some (.long x13), none, some (.int x14), some (.int r23), none, none]) d_X8_paidStoring_43 (by decide) rfl ?_
        refine g_aload_n d_X8_paidStoring_45 rfl ?_
        refine g_iload d_X8_paidStoring_46 rfl ?_
        refine g_bipush (v := 12) d_X8_paidStoring_48 kB_12 ?_
        refine g_idiv d_X8_paidStoring_50 (by decide) ?_
        refine g_V1 d_X8_paidStoring_51 cs_X8_paidStoring_X8_isCheapHour lk_RX8_96 im_X8_isCheapHour se_X8_isCheapHour rfl rfl rfl (Nat.le_of_ble_eq_true rfl) ⟨rfl, rfl⟩ ⟨Nat.zero_le _, Nat.zero_le _⟩ (ct_X8_isCheapHour (r23 / (12 : Int32)) I15 J16 ) (fun r51 S51 Ic26 Jc27 q51_24 => ?_)
        obtain ⟨rfl, rfl, rfl, r29, rfl, hz51⟩ := q51_24
        refine g_st (st' := [.int r29]) rfl ?_
        refine g_istore (L' := [some (.ref 67), some (.int n), some (.int d), some (.int price), some (.int r5), some (.long x13), none, some (.int x14), some (.int r23), some (.int r29), none]) d_X8_paidStoring_54 (by decide) rfl ?_
        refine g_aload_n d_X8_paidStoring_56 rfl ?_
        refine g_getR d_X8_paidStoring_57 fq_RX8_12 rfl rfl ?_
        refine g_getR d_X8_paidStoring_60 fq_RX8_99 rfl rfl ?_
        refine g_iconst (v := 1) d_X8_paidStoring_63 kI_1 ?_
        refine g_iaload (N := 8) d_X8_paidStoring_64 rfl kT_8 ⟨by decide, by decide⟩ kN_1 ?_
        refine g_topI (fun v31 ev31 => ?_)
        refine g_istore (L' := [some (.ref 67), some (.int n), some (.int d), some (.int price), some (.int r5), some (.long x13), none, some (.int x14), some (.int r23), some (.int r29), some (.int v31)]) d_X8_paidStoring_65 (by decide) rfl ?_
        refine g_aload_n d_X8_paidStoring_67 rfl ?_
        refine g_getR d_X8_paidStoring_68 fq_RX8_29 rfl rfl ?_
        refine g_aload_n d_X8_paidStoring_71 rfl ?_
        refine g_getR d_X8_paidStoring_72 fq_RX8_12 rfl rfl ?_
        refine g_aload_n d_X8_paidStoring_75 rfl ?_
        refine g_getR d_X8_paidStoring_76 fq_RX8_29 rfl rfl ?_
        refine g_getR d_X8_paidStoring_79 fq_RX8_102 rfl rfl ?_
        refine g_iload d_X8_paidStoring_82 rfl ?_
        refine g_V1 d_X8_paidStoring_84 cs_X8_paidStoring_X3_isOpenIn lk_RX8_106 im_X3_isOpenIn se_X3_isOpenIn rfl rfl rfl (Nat.le_of_ble_eq_true rfl) ⟨rfl, rfl⟩ ⟨Nat.zero_le _, Nat.zero_le _⟩ (ct_X3_isOpenIn r23 I15 J16 ) (fun r84 S84 Ic33 Jc34 q84_31 => ?_)
        obtain ⟨rfl, rfl, rfl, r36, rfl, hz84⟩ := q84_31
        refine g_st (st' := [.int r36, .ref 68, .ref 13]) rfl ?_
        refine g_aload_n d_X8_paidStoring_87 rfl ?_
        refine g_V0 d_X8_paidStoring_88 cs_X8_paidStoring_X8_boxBulb lk_RX8_57 im_X8_boxBulb se_X8_boxBulb rfl rfl rfl (Nat.le_of_ble_eq_true rfl) ⟨rfl, rfl⟩ ⟨Nat.zero_le _, Nat.zero_le _⟩ (ct_X8_boxBulb  I15 J16 ) (fun r88 S88 Ic39 Jc40 q88_37 => ?_)
        obtain ⟨rfl, rfl, rfl, r42, rfl⟩ := q88_37
        refine g_st (st' := [.int r42, .int r36, .ref 68, .ref 13]) rfl ?_
        refine g_iload d_X8_paidStoring_91 rfl ?_
        have J_101 : ∀ (w44 : Int32), G m_X8_paidStoring (rq m_X8_paidStoring (fun r S' I' J' => S' = SHF ∧ XT I' J' = XT I J ∧ ∃ v : Int32, r = some (.int v))) 0 0 101 [some (.ref 67), some (.int n), some (.int d), some (.int price), some (.int r5), some (.long x13), none, some (.int x14), some (.int r23), some (.int r29), some (.int v31)] [.int w44, .int r42, .int r36, .ref 68, .ref 13] SHF I15 J16 := by
          intro w44
          refine g_V4 d_X8_paidStoring_101 cs_X8_paidStoring_X7_pass lk_RX8_111 im_X7_pass se_X7_pass rfl rfl rfl (Nat.le_of_ble_eq_true rfl) ⟨rfl, rfl⟩ ⟨Nat.zero_le _, Nat.zero_le _⟩ (ct_X7_pass r36 r42 w44 I15 J16 stA_68) (fun r101 S101 I45 J46 q101_46 => ?_)
          obtain ⟨rfl, hc101_47, rfl, hr101_48⟩ := q101_46
          refine g_st (st' := []) rfl ?_
          have hK50 : XT I45 J46 = XT I J := (xt_fsx (Or.inr rfl) hc101_47).trans hK17
          refine g_aload_n d_X8_paidStoring_104 rfl ?_
          refine g_getR d_X8_paidStoring_105 fq_RX8_12 rfl rfl ?_
          refine g_V0 d_X8_paidStoring_108 cs_X8_paidStoring_X6_foodsWithin lk_RX8_78 im_X6_foodsWithin se_X6_foodsWithin rfl rfl rfl (Nat.le_of_ble_eq_true rfl) ⟨rfl, rfl⟩ ⟨Nat.zero_le _, Nat.zero_le _⟩ (ct_X6_foodsWithin  I45 J46 stA_68) (fun r108 S108 Ic52 Jc53 q108_50 => ?_)
          obtain ⟨rfl, rfl, rfl, r55, rfl⟩ := q108_50
          refine g_st (st' := [.int r55]) rfl ?_
          refine g_iload d_X8_paidStoring_111 rfl ?_
          refine g_icmp_ge d_X8_paidStoring_113 (fun h113 => ?_) (fun h113 => ?_)
          · skip
            refine g_lload d_X8_paidStoring_118 rfl ?_
            refine g_aload_n d_X8_paidStoring_120 rfl ?_
            refine g_getR d_X8_paidStoring_121 fq_RX8_12 rfl rfl ?_
            refine g_getR d_X8_paidStoring_124 fq_RX8_99 rfl rfl ?_
            refine g_iconst (v := 1) d_X8_paidStoring_127 kI_1 ?_
            refine g_iaload (N := 8) d_X8_paidStoring_128 rfl kT_8 ⟨by decide, by decide⟩ kN_1 ?_
            refine g_iload d_X8_paidStoring_129 rfl ?_
            refine g_isub d_X8_paidStoring_131 ?_
            refine g_i2l d_X8_paidStoring_132 ?_
            refine g_iload d_X8_paidStoring_133 rfl ?_
            have J_146 : ∀ (w57 : Int32), G m_X8_paidStoring (rq m_X8_paidStoring (fun r S' I' J' => S' = SHF ∧ XT I' J' = XT I J ∧ ∃ v : Int32, r = some (.int v))) 0 0 146 [some (.ref 67), some (.int n), some (.int d), some (.int price), some (.int r5), some (.long x13), none, some (.int x14), some (.int r23), some (.int r29), some (.int v31)] [.int w57, .long (Int32.toInt64 ((I45 76 1) - v31)), .long x13] SHF I45 J46 := by
              intro w57
              refine g_i2l d_X8_paidStoring_146 ?_
              refine g_lmul d_X8_paidStoring_147 ?_
              refine g_ladd d_X8_paidStoring_148 ?_
              refine g_topJ (fun v58 ev58 => ?_)
              refine g_lstore (L' := [some (.ref 67), some (.int n), some (.int d), some (.int price), some (.int r5), some (.long v58), none, some (.int x14), some (.int r23), some (.int r29), some (.int v31)]) d_X8_paidStoring_149 (by decide) rfl ?_
              refine g_iinc (v := (x14 + (1 : Int32))) (L' := [some (.ref 67), some (.int n), some (.int d), some (.int price), some (.int r5), some (.long v58), none, some (.int (x14 + (1 : Int32))), some (.int r23), some (.int r29), some (.int v31)]) d_X8_paidStoring_151 rfl (by rw [kI_1]) (by decide) rfl ?_
              refine g_goto d_X8_paidStoring_154 ?_
              refine g_sb [some (.ref 67), some (.int n), some (.int d), some (.int price), some (.int r5), some (.long v58), none, some (.int (x14 + (1 : Int32))), none, none, none] (by simp [subL]) ?_
              exact ih_26 _ (by rw [← hmu_26]; exact mu_up h33) v58 (x14 + (1 : Int32)) I45 J46 rfl hK50 (lo_up hl18 h33)
            refine g_if_eq d_X8_paidStoring_135 (fun h135 => ?_) (fun h135 => ?_)
            · skip
              refine g_iload_n d_X8_paidStoring_145 rfl ?_
              exact J_146 price
            · skip
              refine g_aload_n d_X8_paidStoring_138 rfl ?_
              refine g_getI d_X8_paidStoring_139 fq_RX8_115 rfl rfl ?_
              refine g_goto d_X8_paidStoring_142 ?_
              exact J_146 ((I45 67 6))
          · skip
            refine g_iconst (v := -1) d_X8_paidStoring_116 kI_m1 ?_
            exact g_ireturn d_X8_paidStoring_117 rfl rfl rfl rfl ⟨rfl, hK50, (-1 : Int32), rfl⟩
        refine g_if_eq d_X8_paidStoring_93 (fun h93 => ?_) (fun h93 => ?_)
        · skip
          refine g_iconst (v := 0) d_X8_paidStoring_100 kI_0 ?_
          exact J_101 ((0 : Int32))
        · skip
          refine g_iload_n d_X8_paidStoring_96 rfl ?_
          refine g_goto d_X8_paidStoring_97 ?_
          exact J_101 d
  exact K_26 _ (0 : Int64) (0 : Int32) I7 J8 rfl hK12 (Int32.le_refl _)
set_option maxRecDepth 100000 in
set_option maxHeartbeats 4000000 in
theorem ct_X8_findBestStore (n : Int32) (price : Int32) (I : Iv) (J : Jv)  : Ct m_X8_findBestStore [.ref 67, .int n, .int price] SHF I J (fun r S' I' J' => S' = SHF ∧ XT I' J' = XT I J ∧ r = none) := by
  refine ct_of 2 (by decide +kernel) rfl rfl ?_
  have hK0 : XT I J = XT I J := rfl
  refine g_aload_n d_X8_findBestStore_0 rfl ?_
  refine g_iconst (v := -1) d_X8_findBestStore_1 kI_m1 ?_
  refine g_putI d_X8_findBestStore_2 fq_RX8_40 rfl rfl ?_
  refine g_nmI (fun I1 eI1 => ?_)
  have hK2 : XT I1 J = XT I J := (by rw [eI1]; exact (xt_wI rfl).trans hK0)
  refine g_aload_n d_X8_findBestStore_5 rfl ?_
  refine g_iconst (v := -1) d_X8_findBestStore_6 kI_m1 ?_
  refine g_putI d_X8_findBestStore_7 fq_RX8_43 rfl rfl ?_
  refine g_nmI (fun I3 eI3 => ?_)
  have hK4 : XT I3 J = XT I J := (by rw [eI3]; exact (xt_wI rfl).trans hK2)
  refine g_iconst (v := 0) d_X8_findBestStore_10 kI_0 ?_
  refine g_istore_n (L' := [some (.ref 67), some (.int n), some (.int price), some (.int (0 : Int32)), none]) d_X8_findBestStore_11 (by decide) rfl ?_
  have K_12 : ∀ (nu : Nat) (x5 : Int32) (I6 : Iv) (J7 : Jv), mUe 40 x5 = nu → (XT I6 J7 = XT I J) → G m_X8_findBestStore (rq m_X8_findBestStore (fun r S' I' J' => S' = SHF ∧ XT I' J' = XT I J ∧ r = none)) 0 0 12 [some (.ref 67), some (.int n), some (.int price), some (.int x5), none] [] SHF I6 J7 := by
    intro nu
    induction nu using Nat.strongRecOn with
    | ind nu ih_12 =>
      intro x5 I6 J7 hmu_12 hK8
      refine g_iload_n d_X8_findBestStore_12 rfl ?_
      refine g_bipush (v := 40) d_X8_findBestStore_13 kB_40 ?_
      refine g_icmp_gt d_X8_findBestStore_15 (fun h15 => ?_) (fun h15 => ?_)
      · skip
        exact g_return d_X8_findBestStore_67 rfl rfl rfl ⟨rfl, hK8, rfl⟩
      · skip
        refine g_aload_n d_X8_findBestStore_18 rfl ?_
        refine g_iload_n d_X8_findBestStore_19 rfl ?_
        refine g_iload_n d_X8_findBestStore_20 rfl ?_
        refine g_iload_n d_X8_findBestStore_21 rfl ?_
        refine g_V3 d_X8_findBestStore_22 cs_X8_findBestStore_X8_paidStoring lk_RX8_89 im_X8_paidStoring se_X8_paidStoring rfl rfl rfl (Nat.le_of_ble_eq_true rfl) ⟨rfl, rfl⟩ ⟨Nat.zero_le _, Nat.zero_le _⟩ (ct_X8_paidStoring n x5 price I6 J7 ) (fun r22 S22 I9 J10 q22_10 => ?_)
        obtain ⟨rfl, hc22_11, r13, rfl⟩ := q22_10
        refine g_st (st' := [.int r13]) rfl ?_
        have hK15 : XT I9 J10 = XT I J := hc22_11.trans hK8
        refine g_istore (L' := [some (.ref 67), some (.int n), some (.int price), some (.int x5), some (.int r13)]) d_X8_findBestStore_25 (by decide) rfl ?_
        refine g_iload d_X8_findBestStore_27 rfl ?_
        refine g_iconst (v := -1) d_X8_findBestStore_29 kI_m1 ?_
        refine g_icmp_eq d_X8_findBestStore_30 (fun h30 => ?_) (fun h30 => ?_)
        · skip
          refine g_iinc (v := (x5 + (5 : Int32))) (L' := [some (.ref 67), some (.int n), some (.int price), some (.int (x5 + (5 : Int32))), some (.int r13)]) d_X8_findBestStore_61 rfl (by rw [kI_5]) (by decide) rfl ?_
          refine g_goto d_X8_findBestStore_64 ?_
          refine g_sb [some (.ref 67), some (.int n), some (.int price), some (.int (x5 + (5 : Int32))), none] (by simp [subL]) ?_
          exact ih_12 _ (by rw [← hmu_12]; exact mu_up5 h15) (x5 + (5 : Int32)) I9 J10 rfl hK15
        · skip
          refine g_aload_n d_X8_findBestStore_33 rfl ?_
          refine g_getI d_X8_findBestStore_34 fq_RX8_40 rfl rfl ?_
          refine g_iconst (v := -1) d_X8_findBestStore_37 kI_m1 ?_
          have J_50 : G m_X8_findBestStore (rq m_X8_findBestStore (fun r S' I' J' => S' = SHF ∧ XT I' J' = XT I J ∧ r = none)) 0 0 50 [some (.ref 67), some (.int n), some (.int price), some (.int x5), some (.int r13)] [] SHF I9 J10 := by
            skip
            refine g_aload_n d_X8_findBestStore_50 rfl ?_
            refine g_iload_n d_X8_findBestStore_51 rfl ?_
            refine g_putI d_X8_findBestStore_52 fq_RX8_40 rfl rfl ?_
            refine g_nmI (fun I16 eI16 => ?_)
            have hK17 : XT I16 J10 = XT I J := (by rw [eI16]; exact (xt_wI rfl).trans hK15)
            refine g_aload_n d_X8_findBestStore_55 rfl ?_
            refine g_iload d_X8_findBestStore_56 rfl ?_
            refine g_putI d_X8_findBestStore_58 fq_RX8_43 rfl rfl ?_
            refine g_nmI (fun I18 eI18 => ?_)
            have hK19 : XT I18 J10 = XT I J := (by rw [eI18]; exact (xt_wI rfl).trans hK17)
            refine g_iinc (v := (x5 + (5 : Int32))) (L' := [some (.ref 67), some (.int n), some (.int price), some (.int (x5 + (5 : Int32))), some (.int r13)]) d_X8_findBestStore_61 rfl (by rw [kI_5]) (by decide) rfl ?_
            refine g_goto d_X8_findBestStore_64 ?_
            refine g_sb [some (.ref 67), some (.int n), some (.int price), some (.int (x5 + (5 : Int32))), none] (by simp [subL]) ?_
            exact ih_12 _ (by rw [← hmu_12]; exact mu_up5 h15) (x5 + (5 : Int32)) I18 J10 rfl hK19
          refine g_icmp_eq d_X8_findBestStore_38 (fun h38 => ?_) (fun h38 => ?_)
          · skip
            exact J_50
          · skip
            refine g_iload d_X8_findBestStore_41 rfl ?_
            refine g_aload_n d_X8_findBestStore_43 rfl ?_
            refine g_getI d_X8_findBestStore_44 fq_RX8_43 rfl rfl ?_
            refine g_icmp_ge d_X8_findBestStore_47 (fun h47 => ?_) (fun h47 => ?_)
            · skip
              refine g_iinc (v := (x5 + (5 : Int32))) (L' := [some (.ref 67), some (.int n), some (.int price), some (.int (x5 + (5 : Int32))), some (.int r13)]) d_X8_findBestStore_61 rfl (by rw [kI_5]) (by decide) rfl ?_
              refine g_goto d_X8_findBestStore_64 ?_
              refine g_sb [some (.ref 67), some (.int n), some (.int price), some (.int (x5 + (5 : Int32))), none] (by simp [subL]) ?_
              exact ih_12 _ (by rw [← hmu_12]; exact mu_up5 h15) (x5 + (5 : Int32)) I9 J10 rfl hK15
            · skip
              exact J_50
  exact K_12 _ (0 : Int32) I3 J rfl hK4
