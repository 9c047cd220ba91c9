noncomputable def fn_X8_boxBulb (I : Iv) (J : Jv) : Int32 × Iv × Jv :=
  ((I 8 8), I, J)
set_option maxRecDepth 100000 in
set_option maxHeartbeats 4000000 in
theorem ct_X8_boxBulb  (I : Iv) (J : Jv)  : Ct m_X8_boxBulb [.ref 67] SHF I J (fun r S' I' J' => S' = SHF ∧ I = I' ∧ J = J' ∧ ∃ v : Int32, r = some (.int v) ∧ fn_X8_boxBulb I J = (v, I', J')) := by
  refine ct_of 0 (by decide +kernel) rfl rfl ?_
  have hF := fe_of (fn_X8_boxBulb.eq_1 I J)
  refine g_aload_n d_X8_boxBulb_0 rfl ?_
  refine g_getR d_X8_boxBulb_1 fq_RX8_29 rfl rfl ?_
  refine g_getR d_X8_boxBulb_4 fq_RX8_120 rfl rfl ?_
  refine g_getR d_X8_boxBulb_7 fq_RX8_124 rfl rfl ?_
  refine g_bipush (v := 8) d_X8_boxBulb_10 kB_8 ?_
  refine g_iaload (N := 15) d_X8_boxBulb_12 rfl kT_15 ⟨by decide, by decide⟩ kN_8 ?_
  exact g_ireturn d_X8_boxBulb_13 rfl rfl rfl rfl ⟨rfl, rfl, rfl, (I 8 8), rfl, hF⟩
noncomputable def fn_X8_isCheapHour (h : Int32) (I : Iv) (J : Jv) : Int32 × Iv × Jv :=
  if (I 67 4) = (-1 : Int32) then ((0 : Int32), I, J) else if h < (I 67 4) then ((0 : Int32), I, J) else if (I 67 5) ≤ h then ((0 : Int32), I, J) else ((1 : Int32), I, J)
set_option maxRecDepth 100000 in
set_option maxHeartbeats 4000000 in
theorem ct_X8_isCheapHour (h : Int32) (I : Iv) (J : Jv)  : Ct m_X8_isCheapHour [.ref 67, .int h] SHF I J (fun r S' I' J' => S' = SHF ∧ I = I' ∧ J = J' ∧ ∃ v : Int32, r = some (.int v) ∧ (v = 0 ∨ v = 1) ∧ fn_X8_isCheapHour h I J = (v, I', J')) := by
  refine ct_of 0 (by decide +kernel) rfl rfl ?_
  have hF := fe_of (fn_X8_isCheapHour.eq_1 h I J)
  refine g_aload_n d_X8_isCheapHour_0 rfl ?_
  refine g_getI d_X8_isCheapHour_1 fq_RX8_22 rfl rfl ?_
  refine g_iconst (v := -1) d_X8_isCheapHour_4 kI_m1 ?_
  refine g_icmp_eq d_X8_isCheapHour_5 (fun h5 => ?_) (fun h5 => ?_)
  · skip
    replace hF := fe_pos hF h5
    refine g_iconst (v := 0) d_X8_isCheapHour_28 kI_0 ?_
    exact g_ireturn d_X8_isCheapHour_29 rfl rfl rfl rfl ⟨rfl, rfl, rfl, (0 : Int32), rfl, Or.inl rfl, hF⟩
  · skip
    replace hF := fe_neg hF h5
    refine g_aload_n d_X8_isCheapHour_8 rfl ?_
    refine g_getI d_X8_isCheapHour_9 fq_RX8_22 rfl rfl ?_
    refine g_iload_n d_X8_isCheapHour_12 rfl ?_
    refine g_icmp_gt d_X8_isCheapHour_13 (fun h13 => ?_) (fun h13 => ?_)
    · skip
      replace hF := fe_pos hF h13
      refine g_iconst (v := 0) d_X8_isCheapHour_28 kI_0 ?_
      exact g_ireturn d_X8_isCheapHour_29 rfl rfl rfl rfl ⟨rfl, rfl, rfl, (0 : Int32), rfl, Or.inl rfl, hF⟩
    · skip
      replace hF := fe_neg hF h13
      refine g_iload_n d_X8_isCheapHour_16 rfl ?_
      refine g_aload_n d_X8_isCheapHour_17 rfl ?_
      refine g_getI d_X8_isCheapHour_18 fq_RX8_26 rfl rfl ?_
      refine g_icmp_ge d_X8_isCheapHour_21 (fun h21 => ?_) (fun h21 => ?_)
      · skip
        replace hF := fe_pos hF h21
        refine g_iconst (v := 0) d_X8_isCheapHour_28 kI_0 ?_
        exact g_ireturn d_X8_isCheapHour_29 rfl rfl rfl rfl ⟨rfl, rfl, rfl, (0 : Int32), rfl, Or.inl rfl, hF⟩
      · skip
        replace hF := fe_neg hF h21
        refine g_iconst (v := 1) d_X8_isCheapHour_24 kI_1 ?_
        refine g_goto d_X8_isCheapHour_25 ?_
        exact g_ireturn d_X8_isCheapHour_29 rfl rfl rfl rfl ⟨rfl, rfl, rfl, (1 : Int32), rfl, Or.inr rfl, hF⟩
noncomputable def fn_X8_takeIfMore (choice : Int32) (much : Int32) (I : Iv) (J : Jv) : Iv × Jv :=
  if much ≤ (I 67 8) then (I, J) else l_t (wI I 67 7 choice) (fun (I1 : Iv) => l_t (wI I1 67 8 much) (fun (I3 : Iv) => (I3, J)))
set_option maxRecDepth 100000 in
set_option maxHeartbeats 4000000 in
theorem ct_X8_takeIfMore (choice : Int32) (much : Int32) (I : Iv) (J : Jv)  : Ct m_X8_takeIfMore [.ref 67, .int choice, .int much] SHF I J (fun r S' I' J' => S' = SHF ∧ XT I' J' = XT I J ∧ r = none ∧ fn_X8_takeIfMore choice much I J = (I', J')) := by
  refine ct_of 0 (by decide +kernel) rfl rfl ?_
  have hK0 : XT I J = XT I J := rfl
  have hF := fe_of (fn_X8_takeIfMore.eq_1 choice much I J)
  refine g_iload_n d_X8_takeIfMore_0 rfl ?_
  refine g_aload_n d_X8_takeIfMore_1 rfl ?_
  refine g_getI d_X8_takeIfMore_2 fq_RX8_43 rfl rfl ?_
  refine g_icmp_le d_X8_takeIfMore_5 (fun h5 => ?_) (fun h5 => ?_)
  · skip
    replace hF := fe_pos hF h5
    exact g_return d_X8_takeIfMore_18 rfl rfl rfl ⟨rfl, hK0, rfl, hF⟩
  · skip
    replace hF := fe_neg hF h5
    refine g_aload_n d_X8_takeIfMore_8 rfl ?_
    refine g_iload_n d_X8_takeIfMore_9 rfl ?_
    refine g_putI d_X8_takeIfMore_10 fq_RX8_40 rfl rfl ?_
    refine g_nmI (fun I1 eI1 => ?_)
    replace hF := fe_lt hF eI1
    have hK2 : XT I1 J = XT I J := (by rw [eI1]; exact (xt_wI rfl).trans hK0)
    refine g_aload_n d_X8_takeIfMore_13 rfl ?_
    refine g_iload_n d_X8_takeIfMore_14 rfl ?_
    refine g_putI d_X8_takeIfMore_15 fq_RX8_43 rfl rfl ?_
    refine g_nmI (fun I3 eI3 => ?_)
    replace hF := fe_lt hF eI3
    have hK4 : XT I3 J = XT I J := (by rw [eI3]; exact (xt_wI rfl).trans hK2)
    exact g_return d_X8_takeIfMore_18 rfl rfl rfl ⟨rfl, hK4, rfl, hF⟩
noncomputable def fl_X8_layByRow_6_0 (J : Jv) (q : Nat) (Kf0 : Int32 → Int32 → Iv → Iv × Jv) : Nat → Int32 → Int32 → Iv → Iv × Jv
  | 0, x1, x2, I3 => (I3, J)
  | kf0 + 1, x1, x2, I3 => if x2 < 0 then Kf0 x1 x2 I3 else if (I3 19 x2.toNatClampNeg) = 0 then fl_X8_layByRow_6_0 J q Kf0 kf0 x1 (x2 + (-1 : Int32)) I3 else if (8 : Int32) ≤ x2 then fl_X8_layByRow_6_0 J q Kf0 kf0 x1 (x2 + (-1 : Int32)) I3 else l_t (wI I3 q (x2.toNatClampNeg) (x1 - x1 / (3 : Int32) * (3 : Int32))) (fun (I6 : Iv) => l_t ((x1 / (3 : Int32))) (fun (v8 : Int32) => fl_X8_layByRow_6_0 J q Kf0 kf0 v8 (x2 + (-1 : Int32)) I6))
noncomputable def fn_X8_layByRow (q : Nat) (rw_ : Int32) (I : Iv) (J : Jv) : Iv × Jv :=
  fl_X8_layByRow_6_0 J q (fun (x1 : Int32) (x2 : Int32) (I3 : Iv) => (I3, J)) (mD ((7 : Int32)) + 1) rw_ (7 : Int32) I
set_option maxRecDepth 100000 in
set_option maxHeartbeats 4000000 in
theorem ct_X8_layByRow (rw_ : Int32) {q : Nat} (I : Iv) (J : Jv) (hq : q = 72 ∨ q = 77) : Ct m_X8_layByRow [.ref 67, .int rw_, .ref q] SHF I J (fun r S' I' J' => S' = SHF ∧ XT I' J' = XT I J ∧ r = none ∧ fn_X8_layByRow q rw_ I J = (I', J')) := by
  refine ct_of 2 (by decide +kernel) rfl rfl ?_
  have hK0 : XT I J = XT I J := rfl
  have hF := fe_of (fn_X8_layByRow.eq_1 q rw_ I J)
  refine g_iload_n d_X8_layByRow_0 rfl ?_
  refine g_istore_n (L' := [some (.ref 67), some (.int rw_), some (.ref q), some (.int rw_), none]) d_X8_layByRow_1 (by decide) rfl ?_
  refine g_bipush (v := 7) d_X8_layByRow_2 kB_7 ?_
  refine g_istore (L' := [some (.ref 67), some (.int rw_), some (.ref q), some (.int rw_), some (.int (7 : Int32))]) d_X8_layByRow_4 (by decide) rfl ?_
  obtain ⟨Kf0, hKf0, hF⟩ := fe_kx (f := fun K => fl_X8_layByRow_6_0 J q K (mD ((7 : Int32)) + 1) rw_ (7 : Int32) I) hF
  have K_6 : ∀ (nu : Nat) (x1 : Int32) (x2 : Int32) (I3 : Iv), mD x2 = nu → (XT I3 J = XT I J) → (x2 ≤ (7 : Int32)) → (∃ kq : Nat, nu < kq ∧ (fun kq => FE (fn_X8_layByRow q rw_ I J) (fun _ => fl_X8_layByRow_6_0 J q Kf0 kq x1 x2 I3)) kq) → G m_X8_layByRow (rq m_X8_layByRow (fun r S' I' J' => S' = SHF ∧ XT I' J' = XT I J ∧ r = none ∧ fn_X8_layByRow q rw_ I J = (I', J'))) 0 0 6 [some (.ref 67), some (.int rw_), some (.ref q), some (.int x1), some (.int x2)] [] SHF I3 J := by
    intro nu
    induction nu using Nat.strongRecOn with
    | ind nu ih_6 =>
      intro x1 x2 I3 hmu_6 hK4 hl5 hF_Kf0
      obtain ⟨kf0, hkf0, hF⟩ := fe_fu (P := fun kq => FE (fn_X8_layByRow q rw_ I J) (fun _ => fl_X8_layByRow_6_0 J q Kf0 kq x1 x2 I3)) hF_Kf0
      replace hF := fe_eq hF (fl_X8_layByRow_6_0.eq_2 _ _ _ _ _ _ _)
      refine g_iload d_X8_layByRow_6 rfl ?_
      refine g_if_lt d_X8_layByRow_8 (fun h8 => ?_) (fun h8 => ?_)
      · skip
        replace hF := fe_pos hF h8
        replace hF := fe_eq hF (congrFun (congrFun (congrFun hKf0 x1) x2) I3)
        exact g_return d_X8_layByRow_48 rfl rfl rfl ⟨rfl, hK4, rfl, hF⟩
      · skip
        replace hF := fe_neg hF h8
        refine g_aload_n d_X8_layByRow_11 rfl ?_
        refine g_getR d_X8_layByRow_12 fq_RX8_33 rfl rfl ?_
        refine g_getR d_X8_layByRow_15 fq_RX8_68 rfl rfl ?_
        refine g_iload d_X8_layByRow_18 rfl ?_
        refine g_baload (N := 8) d_X8_layByRow_20 rfl kT_8 (by constructor <;> grind) rfl (fun hz20 => ?_)
        refine g_if_eq d_X8_layByRow_21 (fun h21 => ?_) (fun h21 => ?_)
        · skip
          replace hF := fe_pos hF h21
          refine g_iinc (v := (x2 + (-1 : Int32))) (L' := [some (.ref 67), some (.int rw_), some (.ref q), some (.int x1), some (.int (x2 + (-1 : Int32)))]) d_X8_layByRow_42 rfl (by rw [kI_m1]) (by decide) rfl ?_
          refine g_goto d_X8_layByRow_45 ?_
          exact ih_6 _ (by rw [← hmu_6]; exact mu_dn h8) x1 (x2 + (-1 : Int32)) I3 rfl hK4 (hi_dn hl5 h8) ⟨kf0, Nat.lt_of_lt_of_le (by rw [← hmu_6]; exact mu_dn h8) hkf0, hF⟩
        · skip
          replace hF := fe_neg hF h21
          refine g_iload d_X8_layByRow_24 rfl ?_
          refine g_aload_n d_X8_layByRow_26 rfl ?_
          refine g_alen (v := 8) d_X8_layByRow_27 (sq hq) (Or.inl rfl) rfl ?_
          refine g_icmp_ge d_X8_layByRow_28 (fun h28 => ?_) (fun h28 => ?_)
          · skip
            replace hF := fe_pos hF h28
            refine g_iinc (v := (x2 + (-1 : Int32))) (L' := [some (.ref 67), some (.int rw_), some (.ref q), some (.int x1), some (.int (x2 + (-1 : Int32)))]) d_X8_layByRow_42 rfl (by rw [kI_m1]) (by decide) rfl ?_
            refine g_goto d_X8_layByRow_45 ?_
            exact ih_6 _ (by rw [← hmu_6]; exact mu_dn h8) x1 (x2 + (-1 : Int32)) I3 rfl hK4 (hi_dn hl5 h8) ⟨kf0, Nat.lt_of_lt_of_le (by rw [← hmu_6]; exact mu_dn h8) hkf0, hF⟩
          · skip
            replace hF := fe_neg hF h28
            refine g_aload_n d_X8_layByRow_31 rfl ?_
            refine g_iload d_X8_layByRow_32 rfl ?_
            refine g_iload_n d_X8_layByRow_34 rfl ?_
            refine g_iconst (v := 3) d_X8_layByRow_35 kI_3 ?_
            refine g_irem d_X8_layByRow_36 (by decide) ?_
            refine g_iastore (N := 8) d_X8_layByRow_37 (sq hq) kT_8 (by constructor <;> grind) rfl  ?_
            refine g_nmI (fun I6 eI6 => ?_)
            replace hF := fe_lt hF eI6
            have hK7 : XT I6 J = XT I J := (by rw [eI6]; exact (xt_wI (sqx hq)).trans hK4)
            refine g_iload_n d_X8_layByRow_38 rfl ?_
            refine g_iconst (v := 3) d_X8_layByRow_39 kI_3 ?_
            refine g_idiv d_X8_layByRow_40 (by decide) ?_
            refine g_topI (fun v8 ev8 => ?_)
            replace hF := fe_lt hF ev8
            refine g_istore_n (L' := [some (.ref 67), some (.int rw_), some (.ref q), some (.int v8), some (.int x2)]) d_X8_layByRow_41 (by decide) rfl ?_
            refine g_iinc (v := (x2 + (-1 : Int32))) (L' := [some (.ref 67), some (.int rw_), some (.ref q), some (.int v8), some (.int (x2 + (-1 : Int32)))]) d_X8_layByRow_42 rfl (by rw [kI_m1]) (by decide) rfl ?_
            refine g_goto d_X8_layByRow_45 ?_
            exact ih_6 _ (by rw [← hmu_6]; exact mu_dn h8) v8 (x2 + (-1 : Int32)) I6 rfl hK7 (hi_dn hl5 h8) ⟨kf0, Nat.lt_of_lt_of_le (by rw [← hmu_6]; exact mu_dn h8) hkf0, hF⟩
  exact K_6 _ rw_ (7 : Int32) I rfl hK0 (Int32.le_refl _) ⟨_, Nat.lt_succ_self _, hF⟩
noncomputable def fn_X8_shelfInBestRow (f : Int32) (I : Iv) (J : Jv) : Int32 × Iv × Jv :=
  b_n2 (fn_X8_layByRow 77 (I 67 7) I J) (fun (I1 : Iv) (J2 : Jv) => if f < 0 then ((-1 : Int32), I1, J2) else if (8 : Int32) ≤ f then ((-1 : Int32), I1, J2) else ((I1 77 f.toNatClampNeg), I1, J2))
set_option maxRecDepth 100000 in
set_option maxHeartbeats 4000000 in
theorem ct_X8_shelfInBestRow (f : Int32) (I : Iv) (J : Jv)  : Ct m_X8_shelfInBestRow [.ref 67, .int f] SHF I J (fun r S' I' J' => S' = SHF ∧ XT I' J' = XT I J ∧ ∃ v : Int32, r = some (.int v) ∧ fn_X8_shelfInBestRow f I J = (v, I', J')) := by
  refine ct_of 0 (by decide +kernel) rfl rfl ?_
  have hK0 : XT I J = XT I J := rfl
  have hF := fe_of (fn_X8_shelfInBestRow.eq_1 f I J)
  refine g_aload_n d_X8_shelfInBestRow_0 rfl ?_
  refine g_aload_n d_X8_shelfInBestRow_1 rfl ?_
  refine g_getI d_X8_shelfInBestRow_2 fq_RX8_40 rfl rfl ?_
  refine g_aload_n d_X8_shelfInBestRow_5 rfl ?_
  refine g_getR d_X8_shelfInBestRow_6 fq_RX8_18 rfl rfl ?_
  refine g_V2 d_X8_shelfInBestRow_9 cs_X8_shelfInBestRow_X8_layByRow lk_RX8_53 im_X8_layByRow se_X8_layByRow rfl rfl rfl (Nat.le_of_ble_eq_true rfl) ⟨rfl, rfl⟩ ⟨Nat.zero_le _, Nat.zero_le _⟩ (ct_X8_layByRow (I 67 7) I J (by grind)) (fun r9 S9 I1 J2 q9_2 => ?_)
  obtain ⟨rfl, hc9_3, rfl, hf9_4⟩ := q9_2
  replace hF := fe_b2 hF hf9_4
  refine g_st (st' := []) rfl ?_
  have hK7 : XT I1 J2 = XT I J := hc9_3.trans hK0
  refine g_iload_n d_X8_shelfInBestRow_12 rfl ?_
  refine g_if_lt d_X8_shelfInBestRow_13 (fun h13 => ?_) (fun h13 => ?_)
  · skip
    replace hF := fe_pos hF h13
    refine g_iconst (v := -1) d_X8_shelfInBestRow_31 kI_m1 ?_
    exact g_ireturn d_X8_shelfInBestRow_32 rfl rfl rfl rfl ⟨rfl, hK7, (-1 : Int32), rfl, hF⟩
  · skip
    replace hF := fe_neg hF h13
    refine g_iload_n d_X8_shelfInBestRow_16 rfl ?_
    refine g_bipush (v := 8) d_X8_shelfInBestRow_17 kB_8 ?_
    refine g_icmp_ge d_X8_shelfInBestRow_19 (fun h19 => ?_) (fun h19 => ?_)
    · skip
      replace hF := fe_pos hF h19
      refine g_iconst (v := -1) d_X8_shelfInBestRow_31 kI_m1 ?_
      exact g_ireturn d_X8_shelfInBestRow_32 rfl rfl rfl rfl ⟨rfl, hK7, (-1 : Int32), rfl, hF⟩
    · skip
      replace hF := fe_neg hF h19
      refine g_aload_n d_X8_shelfInBestRow_22 rfl ?_
      refine g_getR d_X8_shelfInBestRow_23 fq_RX8_18 rfl rfl ?_
      refine g_iload_n d_X8_shelfInBestRow_26 rfl ?_
      refine g_iaload (N := 8) d_X8_shelfInBestRow_27 rfl kT_8 (by constructor <;> grind) rfl ?_
      refine g_goto d_X8_shelfInBestRow_28 ?_
      exact g_ireturn d_X8_shelfInBestRow_32 rfl rfl rfl rfl ⟨rfl, hK7, (I1 77 f.toNatClampNeg), rfl, hF⟩
noncomputable def fl_X8_withinOnSecondDay_19_0 (bulb : Int32) (Kf0 : Int32 → Int32 → Iv → Jv → Int32 × Iv × Jv) : Nat → Int32 → Int32 → Iv → Jv → Int32 × Iv × Jv
  | 0, x8, x9, I10, J11 => (0, I10, J11)
  | kf0 + 1, x8, x9, I10, J11 => if (288 : Int32) ≤ x9 then Kf0 x8 x9 I10 J11 else b_n2 (fn_X7_passByDay 68 (1 : Int32) bulb I10 J11) (fun (I14 : Iv) (J15 : Jv) => b_n3 (fn_X6_foodsWithin 68 I14 J15) (fun (r26 : Int32) (_ : Iv) (_ : Jv) => l_t ((x8 + r26)) (fun (v28 : Int32) => fl_X8_withinOnSecondDay_19_0 bulb Kf0 kf0 v28 (x9 + (1 : Int32)) I14 J15)))
noncomputable def fn_X8_withinOnSecondDay (bulb : Int32) (I : Iv) (J : Jv) : Int32 × Iv × Jv :=
  b_n2 (fn_X7_passByDay 68 (288 : Int32) bulb I J) (fun (I1 : Iv) (J2 : Jv) => fl_X8_withinOnSecondDay_19_0 bulb (fun (x8 : Int32) (x9 : Int32) (I10 : Iv) (J11 : Jv) => (x8, I10, J11)) (mU (288 : Int32) ((0 : Int32)) + 1) (0 : Int32) (0 : Int32) I1 J2)
set_option maxRecDepth 100000 in
set_option maxHeartbeats 4000000 in
theorem ct_X8_withinOnSecondDay (bulb : Int32) (I : Iv) (J : Jv)  : Ct m_X8_withinOnSecondDay [.ref 67, .int bulb] SHF I J (fun r S' I' J' => S' = SHF ∧ XT I' J' = XT I J ∧ ∃ v : Int32, r = some (.int v) ∧ fn_X8_withinOnSecondDay bulb I J = (v, I', J')) := by
  refine ct_of 2 (by decide +kernel) rfl rfl ?_
  have hK0 : XT I J = XT I J := rfl
  have hF := fe_of (fn_X8_withinOnSecondDay.eq_1 bulb I J)
  refine g_iconst (v := 0) d_X8_withinOnSecondDay_0 kI_0 ?_
  refine g_istore_n (L' := [some (.ref 67), some (.int bulb), some (.int (0 : Int32)), none]) d_X8_withinOnSecondDay_1 (by decide) rfl ?_
  refine g_aload_n d_X8_withinOnSecondDay_2 rfl ?_
  refine g_getR d_X8_withinOnSecondDay_3 fq_RX8_29 rfl rfl ?_
  refine g_aload_n d_X8_withinOnSecondDay_6 rfl ?_
  refine g_getR d_X8_withinOnSecondDay_7 fq_RX8_12 rfl rfl ?_
  refine g_sipush (v := 288) d_X8_withinOnSecondDay_10 kS_288 ?_
  refine g_iload_n d_X8_withinOnSecondDay_13 rfl ?_
  refine g_V3 d_X8_withinOnSecondDay_14 cs_X8_withinOnSecondDay_X7_passByDay lk_RX8_72 im_X7_passByDay se_X7_passByDay rfl rfl rfl (Nat.le_of_ble_eq_true rfl) ⟨rfl, rfl⟩ ⟨Nat.zero_le _, Nat.zero_le _⟩ (ct_X7_passByDay (288 : Int32) bulb I J stA_68 (by grind)) (fun r14 S14 I1 J2 q14_2 => ?_)
  obtain ⟨rfl, hc14_3, rfl, hf14_4, hr14_5⟩ := q14_2
  replace hF := fe_b2 hF hf14_4
  refine g_st (st' := []) rfl ?_
  have hK7 : XT I1 J2 = XT I J := (xt_fsx (Or.inr rfl) hc14_3).trans hK0
  refine g_iconst (v := 0) d_X8_withinOnSecondDay_17 kI_0 ?_
  refine g_istore_n (L' := [some (.ref 67), some (.int bulb), some (.int (0 : Int32)), some (.int (0 : Int32))]) d_X8_withinOnSecondDay_18 (by decide) rfl ?_
  obtain ⟨Kf0, hKf0, hF⟩ := fe_kx (f := fun K => fl_X8_withinOnSecondDay_19_0 bulb K (mU (288 : Int32) ((0 : Int32)) + 1) (0 : Int32) (0 : Int32) I1 J2) hF
  have K_19 : ∀ (nu : Nat) (x8 : Int32) (x9 : Int32) (I10 : Iv) (J11 : Jv), mU (288 : Int32) x9 = nu → (XT I10 J11 = XT I J) → ((0 : Int32) ≤ x9) → (∃ kq : Nat, nu < kq ∧ (fun kq => FE (fn_X8_withinOnSecondDay bulb I J) (fun _ => fl_X8_withinOnSecondDay_19_0 bulb Kf0 kq x8 x9 I10 J11)) kq) → G m_X8_withinOnSecondDay (rq m_X8_withinOnSecondDay (fun r S' I' J' => S' = SHF ∧ XT I' J' = XT I J ∧ ∃ v : Int32, r = some (.int v) ∧ fn_X8_withinOnSecondDay bulb I J = (v, I', J'))) 0 0 19 [some (.ref 67), some (.int bulb), some (.int x8), some (.int x9)] [] SHF I10 J11 := by
    intro nu
    induction nu using Nat.strongRecOn with
    | ind nu ih_19 =>
      intro x8 x9 I10 J11 hmu_19 hK12 hl13 hF_Kf0
      obtain ⟨kf0, hkf0, hF⟩ := fe_fu (P := fun kq => FE (fn_X8_withinOnSecondDay bulb I J) (fun _ => fl_X8_withinOnSecondDay_19_0 bulb Kf0 kq x8 x9 I10 J11)) hF_Kf0
      replace hF := fe_eq hF (fl_X8_withinOnSecondDay_19_0.eq_2 _ _ _ _ _ _ _)
      refine g_iload_n d_X8_withinOnSecondDay_19 rfl ?_
      refine g_sipush (v := 288) d_X8_withinOnSecondDay_20 kS_288 ?_
      refine g_icmp_ge d_X8_withinOnSecondDay_23 (fun h23 => ?_) (fun h23 => ?_)
      · skip
        replace hF := fe_pos hF h23
        replace hF := fe_eq hF (congrFun (congrFun (congrFun (congrFun hKf0 x8) x9) I10) J11)
        refine g_iload_n d_X8_withinOnSecondDay_55 rfl ?_
        exact g_ireturn d_X8_withinOnSecondDay_56 rfl rfl rfl rfl ⟨rfl, hK12, x8, rfl, hF⟩
      · skip
        replace hF := fe_neg hF h23
        refine g_aload_n d_X8_withinOnSecondDay_26 rfl ?_
        refine g_getR d_X8_withinOnSecondDay_27 fq_RX8_29 rfl rfl ?_
        refine g_aload_n d_X8_withinOnSecondDay_30 rfl ?_
        refine g_getR d_X8_withinOnSecondDay_31 fq_RX8_12 rfl rfl ?_
        refine g_iconst (v := 1) d_X8_withinOnSecondDay_34 kI_1 ?_
        refine g_iload_n d_X8_withinOnSecondDay_35 rfl ?_
        refine g_V3 d_X8_withinOnSecondDay_36 cs_X8_withinOnSecondDay_X7_passByDay lk_RX8_72 im_X7_passByDay se_X7_passByDay rfl rfl rfl (Nat.le_of_ble_eq_true rfl) ⟨rfl, rfl⟩ ⟨Nat.zero_le _, Nat.zero_le _⟩ (ct_X7_passByDay (1 : Int32) bulb I10 J11 stA_68 (by grind)) (fun r36 S36 I14 J15 q36_15 => ?_)
        obtain ⟨rfl, hc36_16, rfl, hf36_17, hr36_18⟩ := q36_15
        replace hF := fe_b2 hF hf36_17
        refine g_st (st' := []) rfl ?_
        have hK20 : XT I14 J15 = XT I J := (xt_fsx (Or.inr rfl) hc36_16).trans hK12
        refine g_iload_n d_X8_withinOnSecondDay_39 rfl ?_
        refine g_aload_n d_X8_withinOnSecondDay_40 rfl ?_
        refine g_getR d_X8_withinOnSecondDay_41 fq_RX8_12 rfl rfl ?_
        refine g_V0 d_X8_withinOnSecondDay_44 cs_X8_withinOnSecondDay_X6_foodsWithin lk_RX8_78 im_X6_foodsWithin se_X6_foodsWithin rfl rfl rfl (Nat.le_of_ble_eq_true rfl) ⟨rfl, rfl⟩ ⟨Nat.zero_le _, Nat.zero_le _⟩ (ct_X6_foodsWithin  I14 J15 stA_68) (fun r44 S44 Ic22 Jc23 q44_20 => ?_)
        obtain ⟨rfl, rfl, rfl, r26, rfl, hf44_24⟩ := q44_20
        replace hF := fe_b3 hF hf44_24
        refine g_st (st' := [.int r26, .int x8]) rfl ?_
        refine g_iadd d_X8_withinOnSecondDay_47 ?_
        refine g_topI (fun v28 ev28 => ?_)
        replace hF := fe_lt hF ev28
        refine g_istore_n (L' := [some (.ref 67), some (.int bulb), some (.int v28), some (.int x9)]) d_X8_withinOnSecondDay_48 (by decide) rfl ?_
        refine g_iinc (v := (x9 + (1 : Int32))) (L' := [some (.ref 67), some (.int bulb), some (.int v28), some (.int (x9 + (1 : Int32)))]) d_X8_withinOnSecondDay_49 rfl (by rw [kI_1]) (by decide) rfl ?_
        refine g_goto d_X8_withinOnSecondDay_52 ?_
        exact ih_19 _ (by rw [← hmu_19]; exact mu_up h23) v28 (x9 + (1 : Int32)) I14 J15 rfl hK20 (lo_up hl13 h23) ⟨kf0, Nat.lt_of_lt_of_le (by rw [← hmu_19]; exact mu_up h23) hkf0, hF⟩
  exact K_19 _ (0 : Int32) (0 : Int32) I1 J2 rfl hK7 (Int32.le_refl _) ⟨_, Nat.lt_succ_self _, hF⟩
noncomputable def fl_X8_findBestRow_45_2 (r6 : Int32) (x8 : Int32) (Kf2 : Int32 → Iv → Jv → Iv × Jv) : Nat → Int32 → Iv → Jv → Iv × Jv
  | 0, x15, I16, J17 => (I16, J17)
  | kf2 + 1, x15, I16, J17 => if x8 ≤ x15 then Kf2 x15 I16 J17 else if (r6 * (288 : Int32)) ≤ (I16 67 8) then Kf2 x15 I16 J17 else b_n2 (fn_X6_copyFrom 68 16 I16 J17) (fun (I20 : Iv) (J21 : Jv) => b_n2 (fn_X8_layByRow 72 x15 I20 J21) (fun (I27 : Iv) (J28 : Jv) => b_n3 (fn_X8_boxBulb I27 J28) (fun (r39 : Int32) (_ : Iv) (_ : Jv) => b_n3 (fn_X8_withinOnSecondDay r39 I27 J28) (fun (r46 : Int32) (I41 : Iv) (J42 : Jv) => b_n2 (fn_X8_takeIfMore x15 r46 I41 J42) (fun (I49 : Iv) (J50 : Jv) => fl_X8_findBestRow_45_2 r6 x8 Kf2 kf2 (x15 + (1 : Int32)) I49 J50)))))
noncomputable def fl_X8_findBestRow_12_0 (I : Iv) (J : Jv) (r6 : Int32) (Kf0 : Int32 → Int32 → Iv × Jv) : Nat → Int32 → Int32 → Iv × Jv
  | 0, x8, x9 => (I, J)
  | kf0 + 1, x8, x9 => j_n (Kf0 x8 x9) (fun (j33_1 : Iv × Jv) => if r6 ≤ x9 then j33_1 else if (6 : Int32) ≤ x9 then j33_1 else l_t ((x8 * (3 : Int32))) (fun (v56 : Int32) => fl_X8_findBestRow_12_0 I J r6 Kf0 kf0 v56 (x9 + (1 : Int32))))
noncomputable def fn_X8_findBestRow (I : Iv) (J : Jv) : Iv × Jv :=
  b_n3 (fn_X6_foodsThere 16 I J) (fun (r6 : Int32) (_ : Iv) (_ : Jv) => fl_X8_findBestRow_12_0 I J r6 (fun (x8 : Int32) (x9 : Int32) => l_t (wI I 67 7 (0 : Int32)) (fun (I11 : Iv) => l_t (wI I11 67 8 (-1 : Int32)) (fun (I13 : Iv) => fl_X8_findBestRow_45_2 r6 x8 (fun (x15 : Int32) (I16 : Iv) (J17 : Jv) => (I16, J17)) (mU x8 ((0 : Int32)) + 1) (0 : Int32) I13 J))) (mU r6 ((0 : Int32)) + 1) (1 : Int32) (0 : Int32))
set_option maxRecDepth 100000 in
set_option maxHeartbeats 4000000 in
theorem ct_X8_findBestRow  (I : Iv) (J : Jv)  : Ct m_X8_findBestRow [.ref 67] SHF I J (fun r S' I' J' => S' = SHF ∧ XT I' J' = XT I J ∧ r = none ∧ fn_X8_findBestRow I J = (I', J')) := by
  refine ct_of 3 (by decide +kernel) rfl rfl ?_
  have hK0 : XT I J = XT I J := rfl
  have hF := fe_of (fn_X8_findBestRow.eq_1 I J)
  refine g_aload_n d_X8_findBestRow_0 rfl ?_
  refine g_getR d_X8_findBestRow_1 fq_RX8_33 rfl rfl ?_
  refine g_V0 d_X8_findBestRow_4 cs_X8_findBestRow_X6_foodsThere lk_RX8_36 im_X6_foodsThere se_X6_foodsThere rfl rfl rfl (Nat.le_of_ble_eq_true rfl) ⟨rfl, rfl⟩ ⟨Nat.zero_le _, Nat.zero_le _⟩ (ct_X6_foodsThere  I J stA_16) (fun r4 S4 Ic2 Jc3 q4_0 => ?_)
  obtain ⟨rfl, rfl, rfl, r6, rfl, hf4_4⟩ := q4_0
  replace hF := fe_b3 hF hf4_4
  refine g_st (st' := [.int r6]) rfl ?_
  refine g_istore_n (L' := [some (.ref 67), some (.int r6), none, none]) d_X8_findBestRow_7 (by decide) rfl ?_
  refine g_iconst (v := 1) d_X8_findBestRow_8 kI_1 ?_
  refine g_istore_n (L' := [some (.ref 67), some (.int r6), some (.int (1 : Int32)), none]) d_X8_findBestRow_9 (by decide) rfl ?_
  refine g_iconst (v := 0) d_X8_findBestRow_10 kI_0 ?_
  refine g_istore_n (L' := [some (.ref 67), some (.int r6), some (.int (1 : Int32)), some (.int (0 : Int32))]) d_X8_findBestRow_11 (by decide) rfl ?_
  obtain ⟨Kf0, hKf0, hF⟩ := fe_kx (f := fun K => fl_X8_findBestRow_12_0 I J r6 K (mU r6 ((0 : Int32)) + 1) (1 : Int32) (0 : Int32)) hF
  have K_12 : ∀ (nu : Nat) (x8 : Int32) (x9 : Int32), mU r6 x9 = nu → ((0 : Int32) ≤ x9) → (∃ kq : Nat, nu < kq ∧ (fun kq => FE (fn_X8_findBestRow I J) (fun _ => fl_X8_findBestRow_12_0 I J r6 Kf0 kq x8 x9)) kq) → G m_X8_findBestRow (rq m_X8_findBestRow (fun r S' I' J' => S' = SHF ∧ XT I' J' = XT I J ∧ r = none ∧ fn_X8_findBestRow I J = (I', J'))) 0 0 12 [some (.ref 67), some (.int r6), some (.int x8), some (.int x9)] [] SHF I J := by
    intro nu
    induction nu using Nat.strongRecOn with
    | ind nu ih_12 =>
      intro x8 x9 hmu_12 hl10 hF_Kf0
      obtain ⟨kf0, hkf0, hF⟩ := fe_fu (P := fun kq => FE (fn_X8_findBestRow I J) (fun _ => fl_X8_findBestRow_12_0 I J r6 Kf0 kq x8 x9)) hF_Kf0
      replace hF := fe_eq hF (fl_X8_findBestRow_12_0.eq_2 _ _ _ _ _ _ _)
      refine g_iload_n d_X8_findBestRow_12 rfl ?_
      refine g_iload_n d_X8_findBestRow_13 rfl ?_
      obtain ⟨j33_1, hj33_1, hF⟩ := fe_jx hF
      have J_33 : (FE (fn_X8_findBestRow I J) (fun _ => j33_1)) → G m_X8_findBestRow (rq m_X8_findBestRow (fun r S' I' J' => S' = SHF ∧ XT I' J' = XT I J ∧ r = none ∧ fn_X8_findBestRow I J = (I', J'))) 0 0 33 [some (.ref 67), some (.int r6), some (.int x8), some (.int x9)] [] SHF I J := by
        intro hF_j33_1
        have hF := fe_eq hF_j33_1 hj33_1
        replace hF := fe_eq hF (congrFun (congrFun hKf0 x8) x9)
        refine g_aload_n d_X8_findBestRow_33 rfl ?_
        refine g_iconst (v := 0) d_X8_findBestRow_34 kI_0 ?_
        refine g_putI d_X8_findBestRow_35 fq_RX8_40 rfl rfl ?_
        refine g_nmI (fun I11 eI11 => ?_)
        replace hF := fe_lt hF eI11
        have hK12 : XT I11 J = XT I J := (by rw [eI11]; exact (xt_wI rfl).trans hK0)
        refine g_aload_n d_X8_findBestRow_38 rfl ?_
        refine g_iconst (v := -1) d_X8_findBestRow_39 kI_m1 ?_
        refine g_putI d_X8_findBestRow_40 fq_RX8_43 rfl rfl ?_
        refine g_nmI (fun I13 eI13 => ?_)
        replace hF := fe_lt hF eI13
        have hK14 : XT I13 J = XT I J := (by rw [eI13]; exact (xt_wI rfl).trans hK12)
        refine g_iconst (v := 0) d_X8_findBestRow_43 kI_0 ?_
        refine g_istore_n (L' := [some (.ref 67), some (.int r6), some (.int x8), some (.int (0 : Int32))]) d_X8_findBestRow_44 (by decide) rfl ?_
        obtain ⟨Kf2, hKf2, hF⟩ := fe_kx (f := fun K => fl_X8_findBestRow_45_2 r6 x8 K (mU x8 ((0 : Int32)) + 1) (0 : Int32) I13 J) hF
        have K_45 : ∀ (nu : Nat) (x15 : Int32) (I16 : Iv) (J17 : Jv), mU x8 x15 = nu → (XT I16 J17 = XT I J) → ((0 : Int32) ≤ x15) → (∃ kq : Nat, nu < kq ∧ (fun kq => FE (fn_X8_findBestRow I J) (fun _ => fl_X8_findBestRow_45_2 r6 x8 Kf2 kq x15 I16 J17)) kq) → G m_X8_findBestRow (rq m_X8_findBestRow (fun r S' I' J' => S' = SHF ∧ XT I' J' = XT I J ∧ r = none ∧ fn_X8_findBestRow I J = (I', J'))) 0 0 45 [some (.ref 67), some (.int r6), some (.int x8), some (.int x15)] [] SHF I16 J17 := by
          intro nu
          induction nu using Nat.strongRecOn with
          | ind nu ih_45 =>
            intro x15 I16 J17 hmu_45 hK18 hl19 hF_Kf2
            obtain ⟨kf2, hkf2, hF⟩ := fe_fu (P := fun kq => FE (fn_X8_findBestRow I J) (fun _ => fl_X8_findBestRow_45_2 r6 x8 Kf2 kq x15 I16 J17)) hF_Kf2
            replace hF := fe_eq hF (fl_X8_findBestRow_45_2.eq_2 _ _ _ _ _ _ _)
            refine g_iload_n d_X8_findBestRow_45 rfl ?_
            refine g_iload_n d_X8_findBestRow_46 rfl ?_
            refine g_icmp_ge d_X8_findBestRow_47 (fun h47 => ?_) (fun h47 => ?_)
            · skip
              replace hF := fe_pos hF h47
              replace hF := fe_eq hF (congrFun (congrFun (congrFun hKf2 x15) I16) J17)
              exact g_return d_X8_findBestRow_104 rfl rfl rfl ⟨rfl, hK18, rfl, hF⟩
            · skip
              replace hF := fe_neg hF h47
              refine g_aload_n d_X8_findBestRow_50 rfl ?_
              refine g_getI d_X8_findBestRow_51 fq_RX8_43 rfl rfl ?_
              refine g_iload_n d_X8_findBestRow_54 rfl ?_
              refine g_sipush (v := 288) d_X8_findBestRow_55 kS_288 ?_
              refine g_imul d_X8_findBestRow_58 ?_
              refine g_icmp_ge d_X8_findBestRow_59 (fun h59 => ?_) (fun h59 => ?_)
              · skip
                replace hF := fe_pos hF h59
                replace hF := fe_eq hF (congrFun (congrFun (congrFun hKf2 x15) I16) J17)
                exact g_return d_X8_findBestRow_104 rfl rfl rfl ⟨rfl, hK18, rfl, hF⟩
              · skip
                replace hF := fe_neg hF h59
                refine g_aload_n d_X8_findBestRow_62 rfl ?_
                refine g_getR d_X8_findBestRow_63 fq_RX8_12 rfl rfl ?_
                refine g_aload_n d_X8_findBestRow_66 rfl ?_
                refine g_getR d_X8_findBestRow_67 fq_RX8_33 rfl rfl ?_
                refine g_V1 d_X8_findBestRow_70 cs_X8_findBestRow_X6_copyFrom lk_RX8_46 im_X6_copyFrom se_X6_copyFrom rfl rfl rfl (Nat.le_of_ble_eq_true rfl) ⟨rfl, rfl⟩ ⟨Nat.zero_le _, Nat.zero_le _⟩ (ct_X6_copyFrom  I16 J17 stA_68 stA_16 (by decide)) (fun r70 S70 I20 J21 q70_21 => ?_)
                obtain ⟨rfl, hc70_22, rfl, hf70_23, hr70_24⟩ := q70_21
                replace hF := fe_b2 hF hf70_23
                refine g_st (st' := []) rfl ?_
                have hK26 : XT I20 J21 = XT I J := (xt_copyT (Or.inr rfl) hc70_22).trans hK18
                refine g_aload_n d_X8_findBestRow_73 rfl ?_
                refine g_iload_n d_X8_findBestRow_74 rfl ?_
                refine g_aload_n d_X8_findBestRow_75 rfl ?_
                refine g_getR d_X8_findBestRow_76 fq_RX8_12 rfl rfl ?_
                refine g_getR d_X8_findBestRow_79 fq_RX8_50 rfl rfl ?_
                refine g_V2 d_X8_findBestRow_82 cs_X8_findBestRow_X8_layByRow lk_RX8_53 im_X8_layByRow se_X8_layByRow rfl rfl rfl (Nat.le_of_ble_eq_true rfl) ⟨rfl, rfl⟩ ⟨Nat.zero_le _, Nat.zero_le _⟩ (ct_X8_layByRow x15 I20 J21 (by grind)) (fun r82 S82 I27 J28 q82_28 => ?_)
                obtain ⟨rfl, hc82_29, rfl, hf82_30⟩ := q82_28
                replace hF := fe_b2 hF hf82_30
                refine g_st (st' := []) rfl ?_
                have hK33 : XT I27 J28 = XT I J := hc82_29.trans hK26
                refine g_aload_n d_X8_findBestRow_85 rfl ?_
                refine g_iload_n d_X8_findBestRow_86 rfl ?_
                refine g_aload_n d_X8_findBestRow_87 rfl ?_
                refine g_aload_n d_X8_findBestRow_88 rfl ?_
                refine g_V0 d_X8_findBestRow_89 cs_X8_findBestRow_X8_boxBulb lk_RX8_57 im_X8_boxBulb se_X8_boxBulb rfl rfl rfl (Nat.le_of_ble_eq_true rfl) ⟨rfl, rfl⟩ ⟨Nat.zero_le _, Nat.zero_le _⟩ (ct_X8_boxBulb  I27 J28 ) (fun r89 S89 Ic35 Jc36 q89_33 => ?_)
                obtain ⟨rfl, rfl, rfl, r39, rfl, hf89_37⟩ := q89_33
                replace hF := fe_b3 hF hf89_37
                refine g_st (st' := [.int r39, .ref 67, .int x15, .ref 67]) rfl ?_
                refine g_V1 d_X8_findBestRow_92 cs_X8_findBestRow_X8_withinOnSecondDay lk_RX8_60 im_X8_withinOnSecondDay se_X8_withinOnSecondDay rfl rfl rfl (Nat.le_of_ble_eq_true rfl) ⟨rfl, rfl⟩ ⟨Nat.zero_le _, Nat.zero_le _⟩ (ct_X8_withinOnSecondDay r39 I27 J28 ) (fun r92 S92 I41 J42 q92_42 => ?_)
                obtain ⟨rfl, hc92_43, r46, rfl, hf92_44⟩ := q92_42
                replace hF := fe_b3 hF hf92_44
                refine g_st (st' := [.int r46, .int x15, .ref 67]) rfl ?_
                have hK48 : XT I41 J42 = XT I J := hc92_43.trans hK33
                refine g_V2 d_X8_findBestRow_95 cs_X8_findBestRow_X8_takeIfMore lk_RX8_64 im_X8_takeIfMore se_X8_takeIfMore rfl rfl rfl (Nat.le_of_ble_eq_true rfl) ⟨rfl, rfl⟩ ⟨Nat.zero_le _, Nat.zero_le _⟩ (ct_X8_takeIfMore x15 r46 I41 J42 ) (fun r95 S95 I49 J50 q95_50 => ?_)
                obtain ⟨rfl, hc95_51, rfl, hf95_52⟩ := q95_50
                replace hF := fe_b2 hF hf95_52
                refine g_st (st' := []) rfl ?_
                have hK55 : XT I49 J50 = XT I J := hc95_51.trans hK48
                refine g_iinc (v := (x15 + (1 : Int32))) (L' := [some (.ref 67), some (.int r6), some (.int x8), some (.int (x15 + (1 : Int32)))]) d_X8_findBestRow_98 rfl (by rw [kI_1]) (by decide) rfl ?_
                refine g_goto d_X8_findBestRow_101 ?_
                exact ih_45 _ (by rw [← hmu_45]; exact mu_up h47) (x15 + (1 : Int32)) I49 J50 rfl hK55 (lo_up hl19 h47) ⟨kf2, Nat.lt_of_lt_of_le (by rw [← hmu_45]; exact mu_up h47) hkf2, hF⟩
        exact K_45 _ (0 : Int32) I13 J rfl hK14 (Int32.le_refl _) ⟨_, Nat.lt_succ_self _, hF⟩
      refine g_icmp_ge d_X8_findBestRow_14 (fun h14 => ?_) (fun h14 => ?_)
      · skip
        replace hF := fe_pos hF h14
        exact J_33 hF
      · skip
        replace hF := fe_neg hF h14
        refine g_iload_n d_X8_findBestRow_17 rfl ?_
        refine g_bipush (v := 6) d_X8_findBestRow_18 kB_6 ?_
        refine g_icmp_ge d_X8_findBestRow_20 (fun h20 => ?_) (fun h20 => ?_)
        · skip
          replace hF := fe_pos hF h20
          exact J_33 hF
        · skip
          replace hF := fe_neg hF h20
          refine g_iload_n d_X8_findBestRow_23 rfl ?_
          refine g_iconst (v := 3) d_X8_findBestRow_24 kI_3 ?_
          refine g_imul d_X8_findBestRow_25 ?_
          refine g_topI (fun v56 ev56 => ?_)
          replace hF := fe_lt hF ev56
          refine g_istore_n (L' := [some (.ref 67), some (.int r6), some (.int v56), some (.int x9)]) d_X8_findBestRow_26 (by decide) rfl ?_
          refine g_iinc (v := (x9 + (1 : Int32))) (L' := [some (.ref 67), some (.int r6), some (.int v56), some (.int (x9 + (1 : Int32)))]) d_X8_findBestRow_27 rfl (by rw [kI_1]) (by decide) rfl ?_
          refine g_goto d_X8_findBestRow_30 ?_
          exact ih_12 _ (by rw [← hmu_12]; exact mu_up h14) v56 (x9 + (1 : Int32)) rfl (lo_up hl10 h14) ⟨kf0, Nat.lt_of_lt_of_le (by rw [← hmu_12]; exact mu_up h14) hkf0, hF⟩
  exact K_12 _ (1 : Int32) (0 : Int32) rfl (Int32.le_refl _) ⟨_, Nat.lt_succ_self _, hF⟩
noncomputable def fl_X8_findBestBulb_12_0 (Kf0 : Int32 → Iv → Jv → Iv × Jv) : Nat → Int32 → Iv → Jv → Iv × Jv
  | 0, x5, I6, J7 => (I6, J7)
  | kf0 + 1, x5, I6, J7 => if (3 : Int32) ≤ x5 then Kf0 x5 I6 J7 else b_n2 (fn_X6_copyFrom 68 16 I6 J7) (fun (I10 : Iv) (J11 : Jv) => b_n3 (fn_X8_withinOnSecondDay x5 I10 J11) (fun (r22 : Int32) (I17 : Iv) (J18 : Jv) => b_n2 (fn_X8_takeIfMore x5 r22 I17 J18) (fun (I25 : Iv) (J26 : Jv) => fl_X8_findBestBulb_12_0  Kf0 kf0 (x5 + (1 : Int32)) I25 J26)))
noncomputable def fn_X8_findBestBulb (I : Iv) (J : Jv) : Iv × Jv :=
  l_t (wI I 67 7 (0 : Int32)) (fun (I1 : Iv) => l_t (wI I1 67 8 (-1 : Int32)) (fun (I3 : Iv) => fl_X8_findBestBulb_12_0  (fun (x5 : Int32) (I6 : Iv) (J7 : Jv) => (I6, J7)) (mU (3 : Int32) ((0 : Int32)) + 1) (0 : Int32) I3 J))
set_option maxRecDepth 100000 in
set_option maxHeartbeats 4000000 in
theorem ct_X8_findBestBulb  (I : Iv) (J : Jv)  : Ct m_X8_findBestBulb [.ref 67] SHF I J (fun r S' I' J' => S' = SHF ∧ XT I' J' = XT I J ∧ r = none ∧ fn_X8_findBestBulb I J = (I', J')) := by
  refine ct_of 1 (by decide +kernel) rfl rfl ?_
  have hK0 : XT I J = XT I J := rfl
  have hF := fe_of (fn_X8_findBestBulb.eq_1 I J)
  refine g_aload_n d_X8_findBestBulb_0 rfl ?_
  refine g_iconst (v := 0) d_X8_findBestBulb_1 kI_0 ?_
  refine g_putI d_X8_findBestBulb_2 fq_RX8_40 rfl rfl ?_
  refine g_nmI (fun I1 eI1 => ?_)
  replace hF := fe_lt hF eI1
  have hK2 : XT I1 J = XT I J := (by rw [eI1]; exact (xt_wI rfl).trans hK0)
  refine g_aload_n d_X8_findBestBulb_5 rfl ?_
  refine g_iconst (v := -1) d_X8_findBestBulb_6 kI_m1 ?_
  refine g_putI d_X8_findBestBulb_7 fq_RX8_43 rfl rfl ?_
  refine g_nmI (fun I3 eI3 => ?_)
  replace hF := fe_lt hF eI3
  have hK4 : XT I3 J = XT I J := (by rw [eI3]; exact (xt_wI rfl).trans hK2)
  refine g_iconst (v := 0) d_X8_findBestBulb_10 kI_0 ?_
  refine g_istore_n (L' := [some (.ref 67), some (.int (0 : Int32))]) d_X8_findBestBulb_11 (by decide) rfl ?_
  obtain ⟨Kf0, hKf0, hF⟩ := fe_kx (f := fun K => fl_X8_findBestBulb_12_0  K (mU (3 : Int32) ((0 : Int32)) + 1) (0 : Int32) I3 J) hF
  have K_12 : ∀ (nu : Nat) (x5 : Int32) (I6 : Iv) (J7 : Jv), mU (3 : Int32) x5 = nu → (XT I6 J7 = XT I J) → ((0 : Int32) ≤ x5) → (∃ kq : Nat, nu < kq ∧ (fun kq => FE (fn_X8_findBestBulb I J) (fun _ => fl_X8_findBestBulb_12_0  Kf0 kq x5 I6 J7)) kq) → G m_X8_findBestBulb (rq m_X8_findBestBulb (fun r S' I' J' => S' = SHF ∧ XT I' J' = XT I J ∧ r = none ∧ fn_X8_findBestBulb I J = (I', J'))) 0 0 12 [some (.ref 67), some (.int x5)] [] SHF I6 J7 := by
    intro nu
    induction nu using Nat.strongRecOn with
    | ind nu ih_12 =>
      intro x5 I6 J7 hmu_12 hK8 hl9 hF_Kf0
      obtain ⟨kf0, hkf0, hF⟩ := fe_fu (P := fun kq => FE (fn_X8_findBestBulb I J) (fun _ => fl_X8_findBestBulb_12_0  Kf0 kq x5 I6 J7)) hF_Kf0
      replace hF := fe_eq hF (fl_X8_findBestBulb_12_0.eq_2 _ _ _ _ _)
      refine g_iload_n d_X8_findBestBulb_12 rfl ?_
      refine g_iconst (v := 3) d_X8_findBestBulb_13 kI_3 ?_
      refine g_icmp_ge d_X8_findBestBulb_14 (fun h14 => ?_) (fun h14 => ?_)
      · skip
        replace hF := fe_pos hF h14
        replace hF := fe_eq hF (congrFun (congrFun (congrFun hKf0 x5) I6) J7)
        exact g_return d_X8_findBestBulb_44 rfl rfl rfl ⟨rfl, hK8, rfl, hF⟩
      · skip
        replace hF := fe_neg hF h14
        refine g_aload_n d_X8_findBestBulb_17 rfl ?_
        refine g_getR d_X8_findBestBulb_18 fq_RX8_12 rfl rfl ?_
        refine g_aload_n d_X8_findBestBulb_21 rfl ?_
        refine g_getR d_X8_findBestBulb_22 fq_RX8_33 rfl rfl ?_
        refine g_V1 d_X8_findBestBulb_25 cs_X8_findBestBulb_X6_copyFrom lk_RX8_46 im_X6_copyFrom se_X6_copyFrom rfl rfl rfl (Nat.le_of_ble_eq_true rfl) ⟨rfl, rfl⟩ ⟨Nat.zero_le _, Nat.zero_le _⟩ (ct_X6_copyFrom  I6 J7 stA_68 stA_16 (by decide)) (fun r25 S25 I10 J11 q25_11 => ?_)
        obtain ⟨rfl, hc25_12, rfl, hf25_13, hr25_14⟩ := q25_11
        replace hF := fe_b2 hF hf25_13
        refine g_st (st' := []) rfl ?_
        have hK16 : XT I10 J11 = XT I J := (xt_copyT (Or.inr rfl) hc25_12).trans hK8
        refine g_aload_n d_X8_findBestBulb_28 rfl ?_
        refine g_iload_n d_X8_findBestBulb_29 rfl ?_
        refine g_aload_n d_X8_findBestBulb_30 rfl ?_
        refine g_iload_n d_X8_findBestBulb_31 rfl ?_
        refine g_V1 d_X8_findBestBulb_32 cs_X8_findBestBulb_X8_withinOnSecondDay lk_RX8_60 im_X8_withinOnSecondDay se_X8_withinOnSecondDay rfl rfl rfl (Nat.le_of_ble_eq_true rfl) ⟨rfl, rfl⟩ ⟨Nat.zero_le _, Nat.zero_le _⟩ (ct_X8_withinOnSecondDay x5 I10 J11 ) (fun r32 S32 I17 J18 q32_18 => ?_)
        obtain ⟨rfl, hc32_19, r22, rfl, hf32_20⟩ := q32_18
        replace hF := fe_b3 hF hf32_20
        refine g_st (st' := [.int r22, .int x5, .ref 67]) rfl ?_
        have hK24 : XT I17 J18 = XT I J := hc32_19.trans hK16
        refine g_V2 d_X8_findBestBulb_35 cs_X8_findBestBulb_X8_takeIfMore lk_RX8_64 im_X8_takeIfMore se_X8_takeIfMore rfl rfl rfl (Nat.le_of_ble_eq_true rfl) ⟨rfl, rfl⟩ ⟨Nat.zero_le _, Nat.zero_le _⟩ (ct_X8_takeIfMore x5 r22 I17 J18 ) (fun r35 S35 I25 J26 q35_26 => ?_)
        obtain ⟨rfl, hc35_27, rfl, hf35_28⟩ := q35_26
        replace hF := fe_b2 hF hf35_28
        refine g_st (st' := []) rfl ?_
        have hK31 : XT I25 J26 = XT I J := hc35_27.trans hK24
        refine g_iinc (v := (x5 + (1 : Int32))) (L' := [some (.ref 67), some (.int (x5 + (1 : Int32)))]) d_X8_findBestBulb_38 rfl (by rw [kI_1]) (by decide) rfl ?_
        refine g_goto d_X8_findBestBulb_41 ?_
        exact ih_12 _ (by rw [← hmu_12]; exact mu_up h14) (x5 + (1 : Int32)) I25 J26 rfl hK31 (lo_up hl9 h14) ⟨kf0, Nat.lt_of_lt_of_le (by rw [← hmu_12]; exact mu_up h14) hkf0, hF⟩
  exact K_12 _ (0 : Int32) I3 J rfl hK4 (Int32.le_refl _) ⟨_, Nat.lt_succ_self _, hF⟩
noncomputable def fl_X8_ticksWithoutCurrent_21_0 (f : Int32) (Kf0 : Int32 → Iv → Jv → Int32 × Iv × Jv) : Nat → Int32 → Iv → Jv → Int32 × Iv × Jv
  | 0, x10, I11, J12 => (0, I11, J12)
  | kf0 + 1, x10, I11, J12 => if (864 : Int32) < x10 then Kf0 x10 I11 J12 else b_n3 (fn_X8_boxBulb I11 J12) (fun (r20 : Int32) (_ : Iv) (_ : Jv) => b_n2 (fn_X7_passByDay 68 (1 : Int32) r20 I11 J12) (fun (I22 : Iv) (J23 : Jv) => b_n3 (fn_X6_isWithin 68 f I22 J23) (fun (r34 : Int32) (_ : Iv) (_ : Jv) => if r34 = 0 then (x10, I22, J23) else fl_X8_ticksWithoutCurrent_21_0 f Kf0 kf0 (x10 + (1 : Int32)) I22 J23)))
noncomputable def fn_X8_ticksWithoutCurrent (f : Int32) (I : Iv) (J : Jv) : Int32 × Iv × Jv :=
  b_n2 (fn_X6_copyFrom 68 16 I J) (fun (I1 : Iv) (J2 : Jv) => l_t (wI I1 68 12 (0 : Int32)) (fun (I8 : Iv) => fl_X8_ticksWithoutCurrent_21_0 f (fun (x10 : Int32) (I11 : Iv) (J12 : Jv) => ((-1 : Int32), I11, J12)) (mUe (864 : Int32) ((0 : Int32)) + 1) (0 : Int32) I8 J2))
set_option maxRecDepth 100000 in
set_option maxHeartbeats 4000000 in
theorem ct_X8_ticksWithoutCurrent (f : Int32) (I : Iv) (J : Jv)  : Ct m_X8_ticksWithoutCurrent [.ref 67, .int f] SHF I J (fun r S' I' J' => S' = SHF ∧ XT I' J' = XT I J ∧ ∃ v : Int32, r = some (.int v) ∧ fn_X8_ticksWithoutCurrent f I J = (v, I', J')) := by
  refine ct_of 1 (by decide +kernel) rfl rfl ?_
  have hK0 : XT I J = XT I J := rfl
  have hF := fe_of (fn_X8_ticksWithoutCurrent.eq_1 f I J)
  refine g_aload_n d_X8_ticksWithoutCurrent_0 rfl ?_
  refine g_getR d_X8_ticksWithoutCurrent_1 fq_RX8_12 rfl rfl ?_
  refine g_aload_n d_X8_ticksWithoutCurrent_4 rfl ?_
  refine g_getR d_X8_ticksWithoutCurrent_5 fq_RX8_33 rfl rfl ?_
  refine g_V1 d_X8_ticksWithoutCurrent_8 cs_X8_ticksWithoutCurrent_X6_copyFrom lk_RX8_46 im_X6_copyFrom se_X6_copyFrom rfl rfl rfl (Nat.le_of_ble_eq_true rfl) ⟨rfl, rfl⟩ ⟨Nat.zero_le _, Nat.zero_le _⟩ (ct_X6_copyFrom  I J stA_68 stA_16 (by decide)) (fun r8 S8 I1 J2 q8_2 => ?_)
  obtain ⟨rfl, hc8_3, rfl, hf8_4, hr8_5⟩ := q8_2
  replace hF := fe_b2 hF hf8_4
  refine g_st (st' := []) rfl ?_
  have hK7 : XT I1 J2 = XT I J := (xt_copyT (Or.inr rfl) hc8_3).trans hK0
  refine g_aload_n d_X8_ticksWithoutCurrent_11 rfl ?_
  refine g_getR d_X8_ticksWithoutCurrent_12 fq_RX8_12 rfl rfl ?_
  refine g_iconst (v := 0) d_X8_ticksWithoutCurrent_15 kI_0 ?_
  refine g_putZ d_X8_ticksWithoutCurrent_16 fq_RX8_81 rfl rfl (Or.inl rfl) ?_
  refine g_nmI (fun I8 eI8 => ?_)
  replace hF := fe_lt hF eI8
  have hK9 : XT I8 J2 = XT I J := (by rw [eI8]; exact (xt_wI rfl).trans hK7)
  refine g_iconst (v := 0) d_X8_ticksWithoutCurrent_19 kI_0 ?_
  refine g_istore_n (L' := [some (.ref 67), some (.int f), some (.int (0 : Int32))]) d_X8_ticksWithoutCurrent_20 (by decide) rfl ?_
  obtain ⟨Kf0, hKf0, hF⟩ := fe_kx (f := fun K => fl_X8_ticksWithoutCurrent_21_0 f K (mUe (864 : Int32) ((0 : Int32)) + 1) (0 : Int32) I8 J2) hF
  have K_21 : ∀ (nu : Nat) (x10 : Int32) (I11 : Iv) (J12 : Jv), mUe (864 : Int32) x10 = nu → (XT I11 J12 = XT I J) → ((0 : Int32) ≤ x10) → (∃ kq : Nat, nu < kq ∧ (fun kq => FE (fn_X8_ticksWithoutCurrent f I J) (fun _ => fl_X8_ticksWithoutCurrent_21_0 f Kf0 kq x10 I11 J12)) kq) → G m_X8_ticksWithoutCurrent (rq m_X8_ticksWithoutCurrent (fun r S' I' J' => S' = SHF ∧ XT I' J' = XT I J ∧ ∃ v : Int32, r = some (.int v) ∧ fn_X8_ticksWithoutCurrent f I J = (v, I', J'))) 0 0 21 [some (.ref 67), some (.int f), some (.int x10)] [] SHF I11 J12 := by
    intro nu
    induction nu using Nat.strongRecOn with
    | ind nu ih_21 =>
      intro x10 I11 J12 hmu_21 hK13 hl14 hF_Kf0
      obtain ⟨kf0, hkf0, hF⟩ := fe_fu (P := fun kq => FE (fn_X8_ticksWithoutCurrent f I J) (fun _ => fl_X8_ticksWithoutCurrent_21_0 f Kf0 kq x10 I11 J12)) hF_Kf0
      replace hF := fe_eq hF (fl_X8_ticksWithoutCurrent_21_0.eq_2 _ _ _ _ _ _)
      refine g_iload_n d_X8_ticksWithoutCurrent_21 rfl ?_
      refine g_sipush (v := 864) d_X8_ticksWithoutCurrent_22 kS_864 ?_
      refine g_icmp_gt d_X8_ticksWithoutCurrent_25 (fun h25 => ?_) (fun h25 => ?_)
      · skip
        replace hF := fe_pos hF h25
        replace hF := fe_eq hF (congrFun (congrFun (congrFun hKf0 x10) I11) J12)
        refine g_iconst (v := -1) d_X8_ticksWithoutCurrent_63 kI_m1 ?_
        exact g_ireturn d_X8_ticksWithoutCurrent_64 rfl rfl rfl rfl ⟨rfl, hK13, (-1 : Int32), rfl, hF⟩
      · skip
        replace hF := fe_neg hF h25
        refine g_aload_n d_X8_ticksWithoutCurrent_28 rfl ?_
        refine g_getR d_X8_ticksWithoutCurrent_29 fq_RX8_29 rfl rfl ?_
        refine g_aload_n d_X8_ticksWithoutCurrent_32 rfl ?_
        refine g_getR d_X8_ticksWithoutCurrent_33 fq_RX8_12 rfl rfl ?_
        refine g_iconst (v := 1) d_X8_ticksWithoutCurrent_36 kI_1 ?_
        refine g_aload_n d_X8_ticksWithoutCurrent_37 rfl ?_
        refine g_V0 d_X8_ticksWithoutCurrent_38 cs_X8_ticksWithoutCurrent_X8_boxBulb lk_RX8_57 im_X8_boxBulb se_X8_boxBulb rfl rfl rfl (Nat.le_of_ble_eq_true rfl) ⟨rfl, rfl⟩ ⟨Nat.zero_le _, Nat.zero_le _⟩ (ct_X8_boxBulb  I11 J12 ) (fun r38 S38 Ic16 Jc17 q38_14 => ?_)
        obtain ⟨rfl, rfl, rfl, r20, rfl, hf38_18⟩ := q38_14
        replace hF := fe_b3 hF hf38_18
        refine g_st (st' := [.int r20, .int (1 : Int32), .ref 68, .ref 13]) rfl ?_
        refine g_V3 d_X8_ticksWithoutCurrent_41 cs_X8_ticksWithoutCurrent_X7_passByDay lk_RX8_72 im_X7_passByDay se_X7_passByDay rfl rfl rfl (Nat.le_of_ble_eq_true rfl) ⟨rfl, rfl⟩ ⟨Nat.zero_le _, Nat.zero_le _⟩ (ct_X7_passByDay (1 : Int32) r20 I11 J12 stA_68 (by grind)) (fun r41 S41 I22 J23 q41_23 => ?_)
        obtain ⟨rfl, hc41_24, rfl, hf41_25, hr41_26⟩ := q41_23
        replace hF := fe_b2 hF hf41_25
        refine g_st (st' := []) rfl ?_
        have hK28 : XT I22 J23 = XT I J := (xt_fsx (Or.inr rfl) hc41_24).trans hK13
        refine g_aload_n d_X8_ticksWithoutCurrent_44 rfl ?_
        refine g_getR d_X8_ticksWithoutCurrent_45 fq_RX8_12 rfl rfl ?_
        refine g_iload_n d_X8_ticksWithoutCurrent_48 rfl ?_
        refine g_V1 d_X8_ticksWithoutCurrent_49 cs_X8_ticksWithoutCurrent_X6_isWithin lk_RX8_85 im_X6_isWithin se_X6_isWithin rfl rfl rfl (Nat.le_of_ble_eq_true rfl) ⟨rfl, rfl⟩ ⟨Nat.zero_le _, Nat.zero_le _⟩ (ct_X6_isWithin f I22 J23 stA_68) (fun r49 S49 Ic30 Jc31 q49_28 => ?_)
        obtain ⟨rfl, rfl, rfl, r34, rfl, hz49, hf49_32⟩ := q49_28
        replace hF := fe_b3 hF hf49_32
        refine g_st (st' := [.int r34]) rfl ?_
        refine g_if_ne d_X8_ticksWithoutCurrent_52 (fun h52 => ?_) (fun h52 => ?_)
        · skip
          replace hF := fe_neg hF h52
          refine g_iinc (v := (x10 + (1 : Int32))) (L' := [some (.ref 67), some (.int f), some (.int (x10 + (1 : Int32)))]) d_X8_ticksWithoutCurrent_57 rfl (by rw [kI_1]) (by decide) rfl ?_
          refine g_goto d_X8_ticksWithoutCurrent_60 ?_
          exact ih_21 _ (by rw [← hmu_21]; exact mu_upe h25 (by decide)) (x10 + (1 : Int32)) I22 J23 rfl hK28 (lo_upe hl14 h25 (by decide)) ⟨kf0, Nat.lt_of_lt_of_le (by rw [← hmu_21]; exact mu_upe h25 (by decide)) hkf0, hF⟩
        · skip
          replace hF := fe_pos hF h52
          refine g_iload_n d_X8_ticksWithoutCurrent_55 rfl ?_
          exact g_ireturn d_X8_ticksWithoutCurrent_56 rfl rfl rfl rfl ⟨rfl, hK28, x10, rfl, hF⟩
  exact K_21 _ (0 : Int32) I8 J2 rfl hK9 (Int32.le_refl _) ⟨_, Nat.lt_succ_self _, hF⟩
noncomputable def fl_X8_paidStoring_26_0 (n : Int32) (d : Int32) (price : Int32) (r6 : Int32) (Kf0 : Int64 → Int32 → Iv → Jv → Int32 × Iv × Jv) : Nat → Int64 → Int32 → Iv → Jv → Int32 × Iv × Jv
  | 0, x15, x16, I17, J18 => (0, I17, J18)
  | kf0 + 1, x15, x16, I17, J18 => if (n * (288 : Int32)) ≤ x16 then Kf0 x15 x16 I17 J18 else b_n3 (fn_X6_tickOfDay 68 I17 J18) (fun (r26 : Int32) (_ : Iv) (_ : Jv) => b_n3 (fn_X8_isCheapHour (r26 / (12 : Int32)) I17 J18) (fun (r33 : Int32) (_ : Iv) (_ : Jv) => l_t ((I17 76 1)) (fun (v35 : Int32) => b_n3 (fn_X3_isOpenIn r26 I17 J18) (fun (r41 : Int32) (_ : Iv) (_ : Jv) => b_n3 (fn_X8_boxBulb I17 J18) (fun (r48 : Int32) (_ : Iv) (_ : Jv) => j_n (fun (w50 : Int32) => b_n2 (fn_X7_pass 68 r41 r48 w50 I17 J18) (fun (I51 : Iv) (J52 : Jv) => b_n3 (fn_X6_foodsWithin 68 I51 J52) (fun (r63 : Int32) (_ : Iv) (_ : Jv) => if r6 ≤ r63 then j_n (fun (w65 : Int32) => l_t ((x15 + ((Int32.toInt64 ((I51 76 1) - v35)) * (Int32.toInt64 w65)))) (fun (v66 : Int64) => fl_X8_paidStoring_26_0 n d price r6 Kf0 kf0 v66 (x16 + (1 : Int32)) I51 J52)) (fun (j146_2 : Int32 → Int32 × Iv × Jv) => if r33 = 0 then j146_2 price else j146_2 ((I51 67 6))) else ((-1 : Int32), I51, J52)))) (fun (j101_1 : Int32 → Int32 × Iv × Jv) => if r33 = 0 then j101_1 ((0 : Int32)) else j101_1 d))))))
noncomputable def fn_X8_paidStoring (n : Int32) (d : Int32) (price : Int32) (I : Iv) (J : Jv) : Int32 × Iv × Jv :=
  b_n3 (fn_X6_foodsThere 16 I J) (fun (r6 : Int32) (_ : Iv) (_ : Jv) => b_n2 (fn_X6_copyFrom 68 16 I J) (fun (I8 : Iv) (J9 : Jv) => fl_X8_paidStoring_26_0 n d price r6 (fun (x15 : Int64) (x16 : Int32) (I17 : Iv) (J18 : Jv) => ((Int64.toInt32 (x15 / (1000 : Int64))), I17, J18)) (mU (n * (288 : Int32)) ((0 : Int32)) + 1) (0 : Int64) (0 : Int32) I8 J9))
set_option maxRecDepth 100000 in
set_option maxHeartbeats 4000000 in
theorem ct_X8_paidStoring (n : Int32) (d : Int32) (price : Int32) (I : Iv) (J : Jv)  : Ct m_X8_paidStoring [.ref 67, .int n, .int d, .int price] SHF I J (fun r S' I' J' => S' = SHF ∧ XT I' J' = XT I J ∧ ∃ v : Int32, r = some (.int v) ∧ fn_X8_paidStoring n d price I J = (v, I', J')) := by
  refine ct_of 7 (by decide +kernel) rfl rfl ?_
  have hK0 : XT I J = XT I J := rfl
  have hF := fe_of (fn_X8_paidStoring.eq_1 n d price I J)
  refine g_aload_n d_X8_paidStoring_0 rfl ?_
  refine g_getR d_X8_paidStoring_1 fq_RX8_33 rfl rfl ?_
  refine g_V0 d_X8_paidStoring_4 cs_X8_paidStoring_X6_foodsThere lk_RX8_36 im_X6_foodsThere se_X6_foodsThere rfl rfl rfl (Nat.le_of_ble_eq_true rfl) ⟨rfl, rfl⟩ ⟨Nat.zero_le _, Nat.zero_le _⟩ (ct_X6_foodsThere  I J stA_16) (fun r4 S4 Ic2 Jc3 q4_0 => ?_)
  obtain ⟨rfl, rfl, rfl, r6, rfl, hf4_4⟩ := q4_0
  replace hF := fe_b3 hF hf4_4
  refine g_st (st' := [.int r6]) rfl ?_
  refine g_istore (L' := [some (.ref 67), some (.int n), some (.int d), some (.int price), some (.int r6), none, none, none, none, none, none]) d_X8_paidStoring_7 (by decide) rfl ?_
  refine g_lconst d_X8_paidStoring_9 kL_0 ?_
  refine g_lstore (L' := [some (.ref 67), some (.int n), some (.int d), some (.int price), some (.int r6), some (.long (0 : Int64)), none, none, none, none, none]) d_X8_paidStoring_10 (by decide) rfl ?_
  refine g_aload_n d_X8_paidStoring_12 rfl ?_
  refine g_getR d_X8_paidStoring_13 fq_RX8_12 rfl rfl ?_
  refine g_aload_n d_X8_paidStoring_16 rfl ?_
  refine g_getR d_X8_paidStoring_17 fq_RX8_33 rfl rfl ?_
  refine g_V1 d_X8_paidStoring_20 cs_X8_paidStoring_X6_copyFrom lk_RX8_46 im_X6_copyFrom se_X6_copyFrom rfl rfl rfl (Nat.le_of_ble_eq_true rfl) ⟨rfl, rfl⟩ ⟨Nat.zero_le _, Nat.zero_le _⟩ (ct_X6_copyFrom  I J stA_68 stA_16 (by decide)) (fun r20 S20 I8 J9 q20_9 => ?_)
  obtain ⟨rfl, hc20_10, rfl, hf20_11, hr20_12⟩ := q20_9
  replace hF := fe_b2 hF hf20_11
  refine g_st (st' := []) rfl ?_
  have hK14 : XT I8 J9 = XT I J := (xt_copyT (Or.inr rfl) hc20_10).trans hK0
  refine g_iconst (v := 0) d_X8_paidStoring_23 kI_0 ?_
  refine g_istore (L' := [some (.ref 67), some (.int n), some (.int d), some (.int price), some (.int r6), some (.long (0 : Int64)), none, some (.int (0 : Int32)), none, none, none]) d_X8_paidStoring_24 (by decide) rfl ?_
  obtain ⟨Kf0, hKf0, hF⟩ := fe_kx (f := fun K => fl_X8_paidStoring_26_0 n d price r6 K (mU (n * (288 : Int32)) ((0 : Int32)) + 1) (0 : Int64) (0 : Int32) I8 J9) hF
  have K_26 : ∀ (nu : Nat) (x15 : Int64) (x16 : Int32) (I17 : Iv) (J18 : Jv), mU (n * (288 : Int32)) x16 = nu → (XT I17 J18 = XT I J) → ((0 : Int32) ≤ x16) → (∃ kq : Nat, nu < kq ∧ (fun kq => FE (fn_X8_paidStoring n d price I J) (fun _ => fl_X8_paidStoring_26_0 n d price r6 Kf0 kq x15 x16 I17 J18)) kq) → G m_X8_paidStoring (rq m_X8_paidStoring (fun r S' I' J' => S' = SHF ∧ XT I' J' = XT I J ∧ ∃ v : Int32, r = some (.int v) ∧ fn_X8_paidStoring n d price I J = (v, I', J'))) 0 0 26 [some (.ref 67), some (.int n), some (.int d), some (.int price), some (.int r6), some (.long x15), none, some (.int x16), none, none, none] [] SHF I17 J18 := by
    intro nu
    induction nu using Nat.strongRecOn with
    | ind nu ih_26 =>
      intro x15 x16 I17 J18 hmu_26 hK19 hl20 hF_Kf0
      obtain ⟨kf0, hkf0, hF⟩ := fe_fu (P := fun kq => FE (fn_X8_paidStoring n d price I J) (fun _ => fl_X8_paidStoring_26_0 n d price r6 Kf0 kq x15 x16 I17 J18)) hF_Kf0
      replace hF := fe_eq hF (fl_X8_paidStoring_26_0.eq_2 _ _ _ _ _ _ _ _ _ _)
      refine g_iload d_X8_paidStoring_26 rfl ?_
      refine g_iload_n d_X8_paidStoring_28 rfl ?_
      refine g_sipush (v := 288) d_X8_paidStoring_29 kS_288 ?_
      refine g_imul d_X8_paidStoring_32 ?_
      refine g_icmp_ge d_X8_paidStoring_33 (fun h33 => ?_) (fun h33 => ?_)
      · skip
        replace hF := fe_pos hF h33
        replace hF := fe_eq hF (congrFun (congrFun (congrFun (congrFun hKf0 x15) x16) I17) J18)
        refine g_lload d_X8_paidStoring_157 rfl ?_
        refine g_ldc2 (v := 1000) d_X8_paidStoring_159 tw_1064 ?_
        refine g_ldiv d_X8_paidStoring_162 (by decide) ?_
        refine g_l2i d_X8_paidStoring_163 ?_
        exact g_ireturn d_X8_paidStoring_164 rfl rfl rfl rfl ⟨rfl, hK19, (Int64.toInt32 (x15 / (1000 : Int64))), rfl, hF⟩
      · skip
        replace hF := fe_neg hF h33
        refine g_aload_n d_X8_paidStoring_36 rfl ?_
        refine g_getR d_X8_paidStoring_37 fq_RX8_12 rfl rfl ?_
        refine g_V0 d_X8_paidStoring_40 cs_X8_paidStoring_X6_tickOfDay lk_RX8_93 im_X6_tickOfDay se_X6_tickOfDay rfl rfl rfl (Nat.le_of_ble_eq_true rfl) ⟨rfl, rfl⟩ ⟨Nat.zero_le _, Nat.zero_le _⟩ (ct_X6_tickOfDay  I17 J18 stA_68) (fun r40 S40 Ic22 Jc23 q40_20 => ?_)
        obtain ⟨rfl, rfl, rfl, r26, rfl, hf40_24, hr40_26⟩ := q40_20
        replace hF := fe_b3 hF hf40_24
        refine g_st (st' := [.int r26]) rfl ?_
        refine g_istore (L' := [some (.ref 67), some (.int n), some (.int d), some (.int price), some (.int r6), some (.long x15), none, some (.int x16), some (.int r26), none, none]) d_X8_paidStoring_43 (by decide) rfl ?_
        refine g_aload_n d_X8_paidStoring_45 rfl ?_
        refine g_iload d_X8_paidStoring_46 rfl ?_
        refine g_bipush (v := 12) d_X8_paidStoring_48 kB_12 ?_
        refine g_idiv d_X8_paidStoring_50 (by decide) ?_
        refine g_V1 d_X8_paidStoring_51 cs_X8_paidStoring_X8_isCheapHour lk_RX8_96 im_X8_isCheapHour se_X8_isCheapHour rfl rfl rfl (Nat.le_of_ble_eq_true rfl) ⟨rfl, rfl⟩ ⟨Nat.zero_le _, Nat.zero_le _⟩ (ct_X8_isCheapHour (r26 / (12 : Int32)) I17 J18 ) (fun r51 S51 Ic29 Jc30 q51_27 => ?_)
        obtain ⟨rfl, rfl, rfl, r33, rfl, hz51, hf51_31⟩ := q51_27
        replace hF := fe_b3 hF hf51_31
        refine g_st (st' := [.int r33]) rfl ?_
        refine g_istore (L' := [some (.ref 67), some (.int n), some (.int d), some (.int price), some (.int r6), some (.long x15), none, some (.int x16), some (.int r26), some (.int r33), none]) d_X8_paidStoring_54 (by decide) rfl ?_
        refine g_aload_n d_X8_paidStoring_56 rfl ?_
        refine g_getR d_X8_paidStoring_57 fq_RX8_12 rfl rfl ?_
        refine g_getR d_X8_paidStoring_60 fq_RX8_99 rfl rfl ?_
        refine g_iconst (v := 1) d_X8_paidStoring_63 kI_1 ?_
        refine g_iaload (N := 8) d_X8_paidStoring_64 rfl kT_8 ⟨by decide, by decide⟩ kN_1 ?_
        refine g_topI (fun v35 ev35 => ?_)
        replace hF := fe_lt hF ev35
        refine g_istore (L' := [some (.ref 67), some (.int n), some (.int d), some (.int price), some (.int r6), some (.long x15), none, some (.int x16), some (.int r26), some (.int r33), some (.int v35)]) d_X8_paidStoring_65 (by decide) rfl ?_
        refine g_aload_n d_X8_paidStoring_67 rfl ?_
        refine g_getR d_X8_paidStoring_68 fq_RX8_29 rfl rfl ?_
        refine g_aload_n d_X8_paidStoring_71 rfl ?_
        refine g_getR d_X8_paidStoring_72 fq_RX8_12 rfl rfl ?_
        refine g_aload_n d_X8_paidStoring_75 rfl ?_
        refine g_getR d_X8_paidStoring_76 fq_RX8_29 rfl rfl ?_
        refine g_getR d_X8_paidStoring_79 fq_RX8_102 rfl rfl ?_
        refine g_iload d_X8_paidStoring_82 rfl ?_
        refine g_V1 d_X8_paidStoring_84 cs_X8_paidStoring_X3_isOpenIn lk_RX8_106 im_X3_isOpenIn se_X3_isOpenIn rfl rfl rfl (Nat.le_of_ble_eq_true rfl) ⟨rfl, rfl⟩ ⟨Nat.zero_le _, Nat.zero_le _⟩ (ct_X3_isOpenIn r26 I17 J18 ) (fun r84 S84 Ic37 Jc38 q84_35 => ?_)
        obtain ⟨rfl, rfl, rfl, r41, rfl, hz84, hf84_39⟩ := q84_35
        replace hF := fe_b3 hF hf84_39
        refine g_st (st' := [.int r41, .ref 68, .ref 13]) rfl ?_
        refine g_aload_n d_X8_paidStoring_87 rfl ?_
        refine g_V0 d_X8_paidStoring_88 cs_X8_paidStoring_X8_boxBulb lk_RX8_57 im_X8_boxBulb se_X8_boxBulb rfl rfl rfl (Nat.le_of_ble_eq_true rfl) ⟨rfl, rfl⟩ ⟨Nat.zero_le _, Nat.zero_le _⟩ (ct_X8_boxBulb  I17 J18 ) (fun r88 S88 Ic44 Jc45 q88_42 => ?_)
        obtain ⟨rfl, rfl, rfl, r48, rfl, hf88_46⟩ := q88_42
        replace hF := fe_b3 hF hf88_46
        refine g_st (st' := [.int r48, .int r41, .ref 68, .ref 13]) rfl ?_
        refine g_iload d_X8_paidStoring_91 rfl ?_
        obtain ⟨j101_1, hj101_1, hF⟩ := fe_jx hF
        have J_101 : ∀ (w50 : Int32), (FE (fn_X8_paidStoring n d price I J) (fun _ => j101_1 w50)) → G m_X8_paidStoring (rq m_X8_paidStoring (fun r S' I' J' => S' = SHF ∧ XT I' J' = XT I J ∧ ∃ v : Int32, r = some (.int v) ∧ fn_X8_paidStoring n d price I J = (v, I', J'))) 0 0 101 [some (.ref 67), some (.int n), some (.int d), some (.int price), some (.int r6), some (.long x15), none, some (.int x16), some (.int r26), some (.int r33), some (.int v35)] [.int w50, .int r48, .int r41, .ref 68, .ref 13] SHF I17 J18 := by
          intro w50 hF_j101_1
          have hF := fe_eq hF_j101_1 (congrFun hj101_1 w50)
          refine g_V4 d_X8_paidStoring_101 cs_X8_paidStoring_X7_pass lk_RX8_111 im_X7_pass se_X7_pass rfl rfl rfl (Nat.le_of_ble_eq_true rfl) ⟨rfl, rfl⟩ ⟨Nat.zero_le _, Nat.zero_le _⟩ (ct_X7_pass r41 r48 w50 I17 J18 stA_68) (fun r101 S101 I51 J52 q101_52 => ?_)
          obtain ⟨rfl, hc101_53, rfl, hf101_54, hr101_55⟩ := q101_52
          replace hF := fe_b2 hF hf101_54
          refine g_st (st' := []) rfl ?_
          have hK57 : XT I51 J52 = XT I J := (xt_fsx (Or.inr rfl) hc101_53).trans hK19
          refine g_aload_n d_X8_paidStoring_104 rfl ?_
          refine g_getR d_X8_paidStoring_105 fq_RX8_12 rfl rfl ?_
          refine g_V0 d_X8_paidStoring_108 cs_X8_paidStoring_X6_foodsWithin lk_RX8_78 im_X6_foodsWithin se_X6_foodsWithin rfl rfl rfl (Nat.le_of_ble_eq_true rfl) ⟨rfl, rfl⟩ ⟨Nat.zero_le _, Nat.zero_le _⟩ (ct_X6_foodsWithin  I51 J52 stA_68) (fun r108 S108 Ic59 Jc60 q108_57 => ?_)
          obtain ⟨rfl, rfl, rfl, r63, rfl, hf108_61⟩ := q108_57
          replace hF := fe_b3 hF hf108_61
          refine g_st (st' := [.int r63]) rfl ?_
          refine g_iload d_X8_paidStoring_111 rfl ?_
          refine g_icmp_ge d_X8_paidStoring_113 (fun h113 => ?_) (fun h113 => ?_)
          · skip
            replace hF := fe_pos hF h113
            refine g_lload d_X8_paidStoring_118 rfl ?_
            refine g_aload_n d_X8_paidStoring_120 rfl ?_
            refine g_getR d_X8_paidStoring_121 fq_RX8_12 rfl rfl ?_
            refine g_getR d_X8_paidStoring_124 fq_RX8_99 rfl rfl ?_
            refine g_iconst (v := 1) d_X8_paidStoring_127 kI_1 ?_
            refine g_iaload (N := 8) d_X8_paidStoring_128 rfl kT_8 ⟨by decide, by decide⟩ kN_1 ?_
            refine g_iload d_X8_paidStoring_129 rfl ?_
            refine g_isub d_X8_paidStoring_131 ?_
            refine g_i2l d_X8_paidStoring_132 ?_
            refine g_iload d_X8_paidStoring_133 rfl ?_
            obtain ⟨j146_2, hj146_2, hF⟩ := fe_jx hF
            have J_146 : ∀ (w65 : Int32), (FE (fn_X8_paidStoring n d price I J) (fun _ => j146_2 w65)) → G m_X8_paidStoring (rq m_X8_paidStoring (fun r S' I' J' => S' = SHF ∧ XT I' J' = XT I J ∧ ∃ v : Int32, r = some (.int v) ∧ fn_X8_paidStoring n d price I J = (v, I', J'))) 0 0 146 [some (.ref 67), some (.int n), some (.int d), some (.int price), some (.int r6), some (.long x15), none, some (.int x16), some (.int r26), some (.int r33), some (.int v35)] [.int w65, .long (Int32.toInt64 ((I51 76 1) - v35)), .long x15] SHF I51 J52 := by
              intro w65 hF_j146_2
              have hF := fe_eq hF_j146_2 (congrFun hj146_2 w65)
              refine g_i2l d_X8_paidStoring_146 ?_
              refine g_lmul d_X8_paidStoring_147 ?_
              refine g_ladd d_X8_paidStoring_148 ?_
              refine g_topJ (fun v66 ev66 => ?_)
              replace hF := fe_lt hF ev66
              refine g_lstore (L' := [some (.ref 67), some (.int n), some (.int d), some (.int price), some (.int r6), some (.long v66), none, some (.int x16), some (.int r26), some (.int r33), some (.int v35)]) d_X8_paidStoring_149 (by decide) rfl ?_
              refine g_iinc (v := (x16 + (1 : Int32))) (L' := [some (.ref 67), some (.int n), some (.int d), some (.int price), some (.int r6), some (.long v66), none, some (.int (x16 + (1 : Int32))), some (.int r26), some (.int r33), some (.int v35)]) d_X8_paidStoring_151 rfl (by rw [kI_1]) (by decide) rfl ?_
              refine g_goto d_X8_paidStoring_154 ?_
              refine g_sb [some (.ref 67), some (.int n), some (.int d), some (.int price), some (.int r6), some (.long v66), none, some (.int (x16 + (1 : Int32))), none, none, none] (by simp [subL]) ?_
              exact ih_26 _ (by rw [← hmu_26]; exact mu_up h33) v66 (x16 + (1 : Int32)) I51 J52 rfl hK57 (lo_up hl20 h33) ⟨kf0, Nat.lt_of_lt_of_le (by rw [← hmu_26]; exact mu_up h33) hkf0, hF⟩
            refine g_if_eq d_X8_paidStoring_135 (fun h135 => ?_) (fun h135 => ?_)
            · skip
              replace hF := fe_pos hF h135
              refine g_iload_n d_X8_paidStoring_145 rfl ?_
              exact J_146 price hF
            · skip
              replace hF := fe_neg hF h135
              refine g_aload_n d_X8_paidStoring_138 rfl ?_
              refine g_getI d_X8_paidStoring_139 fq_RX8_115 rfl rfl ?_
              refine g_goto d_X8_paidStoring_142 ?_
              exact J_146 ((I51 67 6)) hF
          · skip
            replace hF := fe_neg hF h113
            refine g_iconst (v := -1) d_X8_paidStoring_116 kI_m1 ?_
            exact g_ireturn d_X8_paidStoring_117 rfl rfl rfl rfl ⟨rfl, hK57, (-1 : Int32), rfl, hF⟩
        refine g_if_eq d_X8_paidStoring_93 (fun h93 => ?_) (fun h93 => ?_)
        · skip
          replace hF := fe_pos hF h93
          refine g_iconst (v := 0) d_X8_paidStoring_100 kI_0 ?_
          exact J_101 ((0 : Int32)) hF
        · skip
          replace hF := fe_neg hF h93
          refine g_iload_n d_X8_paidStoring_96 rfl ?_
          refine g_goto d_X8_paidStoring_97 ?_
          exact J_101 d hF
  exact K_26 _ (0 : Int64) (0 : Int32) I8 J9 rfl hK14 (Int32.le_refl _) ⟨_, Nat.lt_succ_self _, hF⟩
noncomputable def fl_X8_findBestStore_12_0 (n : Int32) (price : Int32) (Kf0 : Int32 → Iv → Jv → Iv × Jv) : Nat → Int32 → Iv → Jv → Iv × Jv
  | 0, x5, I6, J7 => (I6, J7)
  | kf0 + 1, x5, I6, J7 => if (40 : Int32) < x5 then Kf0 x5 I6 J7 else b_n3 (fn_X8_paidStoring n x5 price I6 J7) (fun (r14 : Int32) (I9 : Iv) (J10 : Jv) => if r14 = (-1 : Int32) then fl_X8_findBestStore_12_0 n price Kf0 kf0 (x5 + (5 : Int32)) I9 J10 else j_n (l_t (wI I9 67 7 x5) (fun (I17 : Iv) => l_t (wI I17 67 8 r14) (fun (I19 : Iv) => fl_X8_findBestStore_12_0 n price Kf0 kf0 (x5 + (5 : Int32)) I19 J10))) (fun (j50_1 : Iv × Jv) => if (I9 67 7) = (-1 : Int32) then j50_1 else if (I9 67 8) ≤ r14 then fl_X8_findBestStore_12_0 n price Kf0 kf0 (x5 + (5 : Int32)) I9 J10 else j50_1))
noncomputable def fn_X8_findBestStore (n : Int32) (price : Int32) (I : Iv) (J : Jv) : Iv × Jv :=
  l_t (wI I 67 7 (-1 : Int32)) (fun (I1 : Iv) => l_t (wI I1 67 8 (-1 : Int32)) (fun (I3 : Iv) => fl_X8_findBestStore_12_0 n price (fun (x5 : Int32) (I6 : Iv) (J7 : Jv) => (I6, J7)) (mUe 40 ((0 : Int32)) + 1) (0 : Int32) I3 J))
set_option maxRecDepth 100000 in
set_option maxHeartbeats 4000000 in
theorem ct_X8_findBestStore (n : Int32) (price : Int32) (I : Iv) (J : Jv)  : Ct m_X8_findBestStore [.ref 67, .int n, .int price] SHF I J (fun r S' I' J' => S' = SHF ∧ XT I' J' = XT I J ∧ r = none ∧ fn_X8_findBestStore n price I J = (I', J')) := by
  refine ct_of 2 (by decide +kernel) rfl rfl ?_
  have hK0 : XT I J = XT I J := rfl
  have hF := fe_of (fn_X8_findBestStore.eq_1 n price I J)
  refine g_aload_n d_X8_findBestStore_0 rfl ?_
  refine g_iconst (v := -1) d_X8_findBestStore_1 kI_m1 ?_
  refine g_putI d_X8_findBestStore_2 fq_RX8_40 rfl rfl ?_
  refine g_nmI (fun I1 eI1 => ?_)
  replace hF := fe_lt hF eI1
  have hK2 : XT I1 J = XT I J := (by rw [eI1]; exact (xt_wI rfl).trans hK0)
  refine g_aload_n d_X8_findBestStore_5 rfl ?_
  refine g_iconst (v := -1) d_X8_findBestStore_6 kI_m1 ?_
  refine g_putI d_X8_findBestStore_7 fq_RX8_43 rfl rfl ?_
  refine g_nmI (fun I3 eI3 => ?_)
  replace hF := fe_lt hF eI3
  have hK4 : XT I3 J = XT I J := (by rw [eI3]; exact (xt_wI rfl).trans hK2)
  refine g_iconst (v := 0) d_X8_findBestStore_10 kI_0 ?_
  refine g_istore_n (L' := [some (.ref 67), some (.int n), some (.int price), some (.int (0 : Int32)), none]) d_X8_findBestStore_11 (by decide) rfl ?_
  obtain ⟨Kf0, hKf0, hF⟩ := fe_kx (f := fun K => fl_X8_findBestStore_12_0 n price K (mUe 40 ((0 : Int32)) + 1) (0 : Int32) I3 J) hF
  have K_12 : ∀ (nu : Nat) (x5 : Int32) (I6 : Iv) (J7 : Jv), mUe 40 x5 = nu → (XT I6 J7 = XT I J) → (∃ kq : Nat, nu < kq ∧ (fun kq => FE (fn_X8_findBestStore n price I J) (fun _ => fl_X8_findBestStore_12_0 n price Kf0 kq x5 I6 J7)) kq) → G m_X8_findBestStore (rq m_X8_findBestStore (fun r S' I' J' => S' = SHF ∧ XT I' J' = XT I J ∧ r = none ∧ fn_X8_findBestStore n price I J = (I', J'))) 0 0 12 [some (.ref 67), some (.int n), some (.int price), some (.int x5), none] [] SHF I6 J7 := by
    intro nu
    induction nu using Nat.strongRecOn with
    | ind nu ih_12 =>
      intro x5 I6 J7 hmu_12 hK8 hF_Kf0
      obtain ⟨kf0, hkf0, hF⟩ := fe_fu (P := fun kq => FE (fn_X8_findBestStore n price I J) (fun _ => fl_X8_findBestStore_12_0 n price Kf0 kq x5 I6 J7)) hF_Kf0
      replace hF := fe_eq hF (fl_X8_findBestStore_12_0.eq_2 _ _ _ _ _ _ _)
      refine g_iload_n d_X8_findBestStore_12 rfl ?_
      refine g_bipush (v := 40) d_X8_findBestStore_13 kB_40 ?_
      refine g_icmp_gt d_X8_findBestStore_15 (fun h15 => ?_) (fun h15 => ?_)
      · skip
        replace hF := fe_pos hF h15
        replace hF := fe_eq hF (congrFun (congrFun (congrFun hKf0 x5) I6) J7)
        exact g_return d_X8_findBestStore_67 rfl rfl rfl ⟨rfl, hK8, rfl, hF⟩
      · skip
        replace hF := fe_neg hF h15
        refine g_aload_n d_X8_findBestStore_18 rfl ?_
        refine g_iload_n d_X8_findBestStore_19 rfl ?_
        refine g_iload_n d_X8_findBestStore_20 rfl ?_
        refine g_iload_n d_X8_findBestStore_21 rfl ?_
        refine g_V3 d_X8_findBestStore_22 cs_X8_findBestStore_X8_paidStoring lk_RX8_89 im_X8_paidStoring se_X8_paidStoring rfl rfl rfl (Nat.le_of_ble_eq_true rfl) ⟨rfl, rfl⟩ ⟨Nat.zero_le _, Nat.zero_le _⟩ (ct_X8_paidStoring n x5 price I6 J7 ) (fun r22 S22 I9 J10 q22_10 => ?_)
        obtain ⟨rfl, hc22_11, r14, rfl, hf22_12⟩ := q22_10
        replace hF := fe_b3 hF hf22_12
        refine g_st (st' := [.int r14]) rfl ?_
        have hK16 : XT I9 J10 = XT I J := hc22_11.trans hK8
        refine g_istore (L' := [some (.ref 67), some (.int n), some (.int price), some (.int x5), some (.int r14)]) d_X8_findBestStore_25 (by decide) rfl ?_
        refine g_iload d_X8_findBestStore_27 rfl ?_
        refine g_iconst (v := -1) d_X8_findBestStore_29 kI_m1 ?_
        refine g_icmp_eq d_X8_findBestStore_30 (fun h30 => ?_) (fun h30 => ?_)
        · skip
          replace hF := fe_pos hF h30
          refine g_iinc (v := (x5 + (5 : Int32))) (L' := [some (.ref 67), some (.int n), some (.int price), some (.int (x5 + (5 : Int32))), some (.int r14)]) d_X8_findBestStore_61 rfl (by rw [kI_5]) (by decide) rfl ?_
          refine g_goto d_X8_findBestStore_64 ?_
          refine g_sb [some (.ref 67), some (.int n), some (.int price), some (.int (x5 + (5 : Int32))), none] (by simp [subL]) ?_
          exact ih_12 _ (by rw [← hmu_12]; exact mu_up5 h15) (x5 + (5 : Int32)) I9 J10 rfl hK16 ⟨kf0, Nat.lt_of_lt_of_le (by rw [← hmu_12]; exact mu_up5 h15) hkf0, hF⟩
        · skip
          replace hF := fe_neg hF h30
          refine g_aload_n d_X8_findBestStore_33 rfl ?_
          refine g_getI d_X8_findBestStore_34 fq_RX8_40 rfl rfl ?_
          refine g_iconst (v := -1) d_X8_findBestStore_37 kI_m1 ?_
          obtain ⟨j50_1, hj50_1, hF⟩ := fe_jx hF
          have J_50 : (FE (fn_X8_findBestStore n price I J) (fun _ => j50_1)) → G m_X8_findBestStore (rq m_X8_findBestStore (fun r S' I' J' => S' = SHF ∧ XT I' J' = XT I J ∧ r = none ∧ fn_X8_findBestStore n price I J = (I', J'))) 0 0 50 [some (.ref 67), some (.int n), some (.int price), some (.int x5), some (.int r14)] [] SHF I9 J10 := by
            intro hF_j50_1
            have hF := fe_eq hF_j50_1 hj50_1
            refine g_aload_n d_X8_findBestStore_50 rfl ?_
            refine g_iload_n d_X8_findBestStore_51 rfl ?_
            refine g_putI d_X8_findBestStore_52 fq_RX8_40 rfl rfl ?_
            refine g_nmI (fun I17 eI17 => ?_)
            replace hF := fe_lt hF eI17
            have hK18 : XT I17 J10 = XT I J := (by rw [eI17]; exact (xt_wI rfl).trans hK16)
            refine g_aload_n d_X8_findBestStore_55 rfl ?_
            refine g_iload d_X8_findBestStore_56 rfl ?_
            refine g_putI d_X8_findBestStore_58 fq_RX8_43 rfl rfl ?_
            refine g_nmI (fun I19 eI19 => ?_)
            replace hF := fe_lt hF eI19
            have hK20 : XT I19 J10 = XT I J := (by rw [eI19]; exact (xt_wI rfl).trans hK18)
            refine g_iinc (v := (x5 + (5 : Int32))) (L' := [some (.ref 67), some (.int n), some (.int price), some (.int (x5 + (5 : Int32))), some (.int r14)]) d_X8_findBestStore_61 rfl (by rw [kI_5]) (by decide) rfl ?_
            refine g_goto d_X8_findBestStore_64 ?_
            refine g_sb [some (.ref 67), some (.int n), some (.int price), some (.int (x5 + (5 : Int32))), none] (by simp [subL]) ?_
            exact ih_12 _ (by rw [← hmu_12]; exact mu_up5 h15) (x5 + (5 : Int32)) I19 J10 rfl hK20 ⟨kf0, Nat.lt_of_lt_of_le (by rw [← hmu_12]; exact mu_up5 h15) hkf0, hF⟩
          refine g_icmp_eq d_X8_findBestStore_38 (fun h38 => ?_) (fun h38 => ?_)
          · skip
            replace hF := fe_pos hF h38
            exact J_50 hF
          · skip
            replace hF := fe_neg hF h38
            refine g_iload d_X8_findBestStore_41 rfl ?_
            refine g_aload_n d_X8_findBestStore_43 rfl ?_
            refine g_getI d_X8_findBestStore_44 fq_RX8_43 rfl rfl ?_
            refine g_icmp_ge d_X8_findBestStore_47 (fun h47 => ?_) (fun h47 => ?_)
            · skip
              replace hF := fe_pos hF h47
              refine g_iinc (v := (x5 + (5 : Int32))) (L' := [some (.ref 67), some (.int n), some (.int price), some (.int (x5 + (5 : Int32))), some (.int r14)]) d_X8_findBestStore_61 rfl (by rw [kI_5]) (by decide) rfl ?_
              refine g_goto d_X8_findBestStore_64 ?_
              refine g_sb [some (.ref 67), some (.int n), some (.int price), some (.int (x5 + (5 : Int32))), none] (by simp [subL]) ?_
              exact ih_12 _ (by rw [← hmu_12]; exact mu_up5 h15) (x5 + (5 : Int32)) I9 J10 rfl hK16 ⟨kf0, Nat.lt_of_lt_of_le (by rw [← hmu_12]; exact mu_up5 h15) hkf0, hF⟩
            · skip
              replace hF := fe_neg hF h47
              exact J_50 hF
  exact K_12 _ (0 : Int32) I3 J rfl hK4 ⟨_, Nat.lt_succ_self _, hF⟩
