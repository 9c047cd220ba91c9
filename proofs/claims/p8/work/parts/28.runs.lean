set_option maxRecDepth 100000 in
set_option maxHeartbeats 4000000 in
theorem ct_X1_forgetSigns  (I : Iv) (J : Jv)  : Ct m_X1_forgetSigns [.ref 45] SHF I J (fun r S' I' J' => S' = SHF ∧ XT I' J' = XT I J ∧ r = none) := by
  refine ct_of 0 (by decide +kernel) rfl rfl ?_
  have hK0 : XT I J = XT I J := rfl
  refine g_aload_n d_X1_forgetSigns_0 rfl ?_
  refine g_getR d_X1_forgetSigns_1 fq_RX1_18 rfl rfl ?_
  refine g_iconst (v := 0) d_X1_forgetSigns_4 kI_0 ?_
  refine g_S2 d_X1_forgetSigns_5 cs_X1_forgetSigns_J7_fill_53178 lk_RX1_29 im_J7_fill_53178 (Nat.le_of_ble_eq_true rfl) ⟨rfl, rfl⟩ ⟨Nat.zero_le _, Nat.zero_le _⟩ (ct_fillI SHF rfl kT_128 (by decide) (0 : Int32) I J) (fun r5 S5 I1 J2 q5_2 => ?_)
  obtain ⟨rfl, hc5_3, rfl⟩ := q5_2
  refine g_st (st' := []) rfl ?_
  have hK6 : XT I1 J2 = XT I J := (by obtain ⟨e1, e2⟩ := hc5_3; rw [← e1, e2]; exact (xt_rowI rfl (fun b hb => cI_row hb)).trans hK0)
  exact g_return d_X1_forgetSigns_8 rfl rfl rfl ⟨rfl, hK6, rfl⟩
set_option maxRecDepth 100000 in
set_option maxHeartbeats 4000000 in
theorem ct_X1_placeOf (set : Int32) (n : Int32) (I : Iv) (J : Jv)  : Ct m_X1_placeOf [.int set, .int n] SHF I J (fun r S' I' J' => S' = SHF ∧ I = I' ∧ J = J' ∧ ∃ v : Int32, r = some (.int v) ∧ v = (set * 6 + n - 1) * 7) := by
  refine ct_of 0 (by decide +kernel) rfl rfl ?_
  refine g_iload_n d_X1_placeOf_0 rfl ?_
  refine g_bipush (v := 6) d_X1_placeOf_1 kB_6 ?_
  refine g_imul d_X1_placeOf_3 ?_
  refine g_iload_n d_X1_placeOf_4 rfl ?_
  refine g_iadd d_X1_placeOf_5 ?_
  refine g_iconst (v := 1) d_X1_placeOf_6 kI_1 ?_
  refine g_isub d_X1_placeOf_7 ?_
  refine g_bipush (v := 7) d_X1_placeOf_8 kB_7 ?_
  refine g_imul d_X1_placeOf_10 ?_
  exact g_ireturn d_X1_placeOf_11 rfl rfl rfl rfl ⟨rfl, rfl, rfl, ((((set * (6 : Int32)) + n) - (1 : Int32)) * (7 : Int32)), rfl, rfl⟩
set_option maxRecDepth 100000 in
set_option maxHeartbeats 4000000 in
theorem ct_X1_signOf (set : Int32) (n : Int32) (what : Int32) (I : Iv) (J : Jv)  : Ct m_X1_signOf [.ref 45, .int set, .int n, .int what] SHF I J (fun r S' I' J' => S' = SHF ∧ I = I' ∧ J = J' ∧ ∃ v : Int32, r = some (.int v)) := by
  refine ct_of 0 (by decide +kernel) rfl rfl ?_
  refine g_iload_n d_X1_signOf_0 rfl ?_
  refine g_S1 d_X1_signOf_1 cs_X1_signOf_X9_isSet lk_RX1_35 im_X9_isSet (Nat.le_of_ble_eq_true rfl) ⟨rfl, rfl⟩ ⟨Nat.zero_le _, Nat.zero_le _⟩ (ct_X9_isSet set I J ) (fun r1 S1 Ic2 Jc3 q1_0 => ?_)
  obtain ⟨rfl, rfl, rfl, r5, rfl, hz1, hr1_5⟩ := q1_0
  refine g_st (st' := [.int r5]) rfl ?_
  refine g_if_eq d_X1_signOf_4 (fun h4 => ?_) (fun h4 => ?_)
  · skip
    refine g_iconst (v := 0) d_X1_signOf_21 kI_0 ?_
    exact g_ireturn d_X1_signOf_22 rfl rfl rfl rfl ⟨rfl, rfl, rfl, (0 : Int32), rfl⟩
  · skip
    refine g_iload_n d_X1_signOf_7 rfl ?_
    refine g_S1 d_X1_signOf_8 cs_X1_signOf_X9_areSignDays lk_RX1_39 im_X9_areSignDays (Nat.le_of_ble_eq_true rfl) ⟨rfl, rfl⟩ ⟨Nat.zero_le _, Nat.zero_le _⟩ (ct_X9_areSignDays n I J ) (fun r8 S8 Ic8 Jc9 q8_6 => ?_)
    obtain ⟨rfl, rfl, rfl, r11, rfl, hz8, hr8_11⟩ := q8_6
    refine g_st (st' := [.int r11]) rfl ?_
    refine g_if_eq d_X1_signOf_11 (fun h11 => ?_) (fun h11 => ?_)
    · skip
      refine g_iconst (v := 0) d_X1_signOf_21 kI_0 ?_
      exact g_ireturn d_X1_signOf_22 rfl rfl rfl rfl ⟨rfl, rfl, rfl, (0 : Int32), rfl⟩
    · skip
      refine g_iload_n d_X1_signOf_14 rfl ?_
      refine g_S1 d_X1_signOf_15 cs_X1_signOf_X9_isSign lk_RX1_42 im_X9_isSign (Nat.le_of_ble_eq_true rfl) ⟨rfl, rfl⟩ ⟨Nat.zero_le _, Nat.zero_le _⟩ (ct_X9_isSign what I J ) (fun r15 S15 Ic14 Jc15 q15_12 => ?_)
      obtain ⟨rfl, rfl, rfl, r17, rfl, hz15, hr15_17⟩ := q15_12
      refine g_st (st' := [.int r17]) rfl ?_
      refine g_if_ne d_X1_signOf_18 (fun h18 => ?_) (fun h18 => ?_)
      · skip
        refine g_aload_n d_X1_signOf_23 rfl ?_
        refine g_getR d_X1_signOf_24 fq_RX1_22 rfl rfl ?_
        refine g_iload_n d_X1_signOf_27 rfl ?_
        refine g_iload_n d_X1_signOf_28 rfl ?_
        refine g_S2 d_X1_signOf_29 cs_X1_signOf_X1_placeOf lk_RX1_45 im_X1_placeOf (Nat.le_of_ble_eq_true rfl) ⟨rfl, rfl⟩ ⟨Nat.zero_le _, Nat.zero_le _⟩ (ct_X1_placeOf set n I J ) (fun r29 S29 Ic20 Jc21 q29_18 => ?_)
        obtain ⟨rfl, rfl, rfl, r23, rfl, hr29_23⟩ := q29_18
        refine g_st (st' := [.int r23, .ref 56]) rfl ?_
        refine g_iload_n d_X1_signOf_32 rfl ?_
        refine g_iadd d_X1_signOf_33 ?_
        refine g_iaload (N := 5376) d_X1_signOf_34 rfl kT_5376 (by constructor <;> grind) rfl ?_
        exact g_ireturn d_X1_signOf_35 rfl rfl rfl rfl ⟨rfl, rfl, rfl, (I 56 ((r23 + what)).toNatClampNeg), rfl⟩
      · skip
        refine g_iconst (v := 0) d_X1_signOf_21 kI_0 ?_
        exact g_ireturn d_X1_signOf_22 rfl rfl rfl rfl ⟨rfl, rfl, rfl, (0 : Int32), rfl⟩
set_option maxRecDepth 100000 in
set_option maxHeartbeats 4000000 in
theorem ct_X1_begin (set : Int32) (cur : Int32) (I : Iv) (J : Jv) (hc : cur = 0 ∨ cur = 1) : Ct m_X1_begin [.ref 45, .int set, .int cur] SHF I J (fun r S' I' J' => S' = SHF ∧ XT I' J' = XT I J ∧ r = none) := by
  refine ct_of 0 (by decide +kernel) rfl rfl ?_
  have hK0 : XT I J = XT I J := rfl
  refine g_aload_n d_X1_begin_0 rfl ?_
  refine g_getR d_X1_begin_1 fq_RX1_12 rfl rfl ?_
  refine g_iload_n d_X1_begin_4 rfl ?_
  refine g_putI d_X1_begin_5 fq_RX1_90 rfl rfl ?_
  refine g_nmI (fun I1 eI1 => ?_)
  have hK2 : XT I1 J = XT I J := (by rw [eI1]; exact (xt_wI rfl).trans hK0)
  refine g_aload_n d_X1_begin_8 rfl ?_
  refine g_getR d_X1_begin_9 fq_RX1_12 rfl rfl ?_
  refine g_iload_n d_X1_begin_12 rfl ?_
  refine g_putZ d_X1_begin_13 fq_RX1_94 rfl rfl (by assumption) ?_
  refine g_nmI (fun I3 eI3 => ?_)
  have hK4 : XT I3 J = XT I J := (by rw [eI3]; exact (xt_wI rfl).trans hK2)
  refine g_aload_n d_X1_begin_16 rfl ?_
  refine g_getR d_X1_begin_17 fq_RX1_12 rfl rfl ?_
  refine g_V0 d_X1_begin_20 cs_X1_begin_X6_becomeFresh lk_RX1_98 im_X6_becomeFresh se_X6_becomeFresh rfl rfl rfl (Nat.le_of_ble_eq_true rfl) ⟨rfl, rfl⟩ ⟨Nat.zero_le _, Nat.zero_le _⟩ (ct_X6_becomeFresh  I3 J stA_46) (fun r20 S20 I5 J6 q20_6 => ?_)
  obtain ⟨rfl, hc20_7, rfl, hr20_8⟩ := q20_6
  refine g_st (st' := []) rfl ?_
  have hK10 : XT I5 J6 = XT I J := (xt_fsx (Or.inl rfl) hc20_7).trans hK4
  exact g_return d_X1_begin_23 rfl rfl rfl ⟨rfl, hK10, rfl⟩
set_option maxRecDepth 100000 in
set_option maxHeartbeats 4000000 in
theorem ct_X1_learn (set : Int32) (n : Int32) (I : Iv) (J : Jv)  : Ct m_X1_learn [.ref 45, .int set, .int n] SHF I J (fun r S' I' J' => S' = SHF ∧ XT I' J' = XT I J ∧ r = none) := by
  refine ct_of 6 (by decide +kernel) rfl rfl ?_
  have hK0 : XT I J = XT I J := rfl
  refine g_iload_n d_X1_learn_0 rfl ?_
  refine g_S1 d_X1_learn_1 cs_X1_learn_X9_isSet lk_RX1_35 im_X9_isSet (Nat.le_of_ble_eq_true rfl) ⟨rfl, rfl⟩ ⟨Nat.zero_le _, Nat.zero_le _⟩ (ct_X9_isSet set I J ) (fun r1 S1 Ic2 Jc3 q1_0 => ?_)
  obtain ⟨rfl, rfl, rfl, r5, rfl, hz1, hr1_5⟩ := q1_0
  refine g_st (st' := [.int r5]) rfl ?_
  refine g_if_eq d_X1_learn_4 (fun h4 => ?_) (fun h4 => ?_)
  · skip
    exact g_return d_X1_learn_24 rfl rfl rfl ⟨rfl, hK0, rfl⟩
  · skip
    refine g_iload_n d_X1_learn_7 rfl ?_
    refine g_S1 d_X1_learn_8 cs_X1_learn_X9_areSignDays lk_RX1_39 im_X9_areSignDays (Nat.le_of_ble_eq_true rfl) ⟨rfl, rfl⟩ ⟨Nat.zero_le _, Nat.zero_le _⟩ (ct_X9_areSignDays n I J ) (fun r8 S8 Ic8 Jc9 q8_6 => ?_)
    obtain ⟨rfl, rfl, rfl, r11, rfl, hz8, hr8_11⟩ := q8_6
    refine g_st (st' := [.int r11]) rfl ?_
    refine g_if_eq d_X1_learn_11 (fun h11 => ?_) (fun h11 => ?_)
    · skip
      exact g_return d_X1_learn_24 rfl rfl rfl ⟨rfl, hK0, rfl⟩
    · skip
      refine g_aload_n d_X1_learn_14 rfl ?_
      refine g_getR d_X1_learn_15 fq_RX1_18 rfl rfl ?_
      refine g_iload_n d_X1_learn_18 rfl ?_
      refine g_iaload (N := 128) d_X1_learn_19 rfl kT_128 (by constructor <;> grind) rfl ?_
      refine g_iload_n d_X1_learn_20 rfl ?_
      refine g_icmp_lt d_X1_learn_21 (fun h21 => ?_) (fun h21 => ?_)
      · skip
        refine g_aload_n d_X1_learn_25 rfl ?_
        refine g_iload_n d_X1_learn_26 rfl ?_
        refine g_iconst (v := 1) d_X1_learn_27 kI_1 ?_
        refine g_V2 d_X1_learn_28 cs_X1_learn_X1_begin lk_RX1_60 im_X1_begin se_X1_begin rfl rfl rfl (Nat.le_of_ble_eq_true rfl) ⟨rfl, rfl⟩ ⟨Nat.zero_le _, Nat.zero_le _⟩ (ct_X1_begin set (1 : Int32) I J (by grind)) (fun r28 S28 I13 J14 q28_14 => ?_)
        obtain ⟨rfl, hc28_15, rfl⟩ := q28_14
        refine g_st (st' := []) rfl ?_
        have hK18 : XT I13 J14 = XT I J := hc28_15.trans hK0
        refine g_iconst (v := 1) d_X1_learn_31 kI_1 ?_
        refine g_istore_n (L' := [some (.ref 45), some (.int set), some (.int n), some (.int (1 : Int32)), none, none, none, none, none]) d_X1_learn_32 (by decide) rfl ?_
        have K_33 : ∀ (nu : Nat) (x19 : Int32) (I20 : Iv) (J21 : Jv), mUe n x19 = nu → (XT I20 J21 = XT I J) → ((1 : Int32) ≤ x19) → G m_X1_learn (rq m_X1_learn (fun r S' I' J' => S' = SHF ∧ XT I' J' = XT I J ∧ r = none)) 0 0 33 [some (.ref 45), some (.int set), some (.int n), some (.int x19), none, none, none, none, none] [] SHF I20 J21 := by
          intro nu
          induction nu using Nat.strongRecOn with
          | ind nu ih_33 =>
            intro x19 I20 J21 hmu_33 hK22 hl23
            refine g_iload_n d_X1_learn_33 rfl ?_
            refine g_iload_n d_X1_learn_34 rfl ?_
            refine g_icmp_gt d_X1_learn_35 (fun h35 => ?_) (fun h35 => ?_)
            · skip
              refine g_aload_n d_X1_learn_227 rfl ?_
              refine g_getR d_X1_learn_228 fq_RX1_18 rfl rfl ?_
              refine g_iload_n d_X1_learn_231 rfl ?_
              refine g_iload_n d_X1_learn_232 rfl ?_
              refine g_iastore (N := 128) d_X1_learn_233 rfl kT_128 (by constructor <;> grind) rfl  ?_
              refine g_nmI (fun I24 eI24 => ?_)
              have hK25 : XT I24 J21 = XT I J := (by rw [eI24]; exact (xt_wI rfl).trans hK22)
              exact g_return d_X1_learn_234 rfl rfl rfl ⟨rfl, hK25, rfl⟩
            · skip
              refine g_aload_n d_X1_learn_38 rfl ?_
              refine g_getR d_X1_learn_39 fq_RX1_12 rfl rfl ?_
              refine g_getR d_X1_learn_42 fq_RX1_64 rfl rfl ?_
              refine g_iconst (v := 3) d_X1_learn_45 kI_3 ?_
              refine g_iaload (N := 8) d_X1_learn_46 rfl kT_8 ⟨by decide, by decide⟩ kN_3 ?_
              refine g_topI (fun v26 ev26 => ?_)
              refine g_istore (L' := [some (.ref 45), some (.int set), some (.int n), some (.int x19), some (.int v26), none, none, none, none]) d_X1_learn_47 (by decide) rfl ?_
              refine g_aload_n d_X1_learn_49 rfl ?_
              refine g_getR d_X1_learn_50 fq_RX1_12 rfl rfl ?_
              refine g_getR d_X1_learn_53 fq_RX1_64 rfl rfl ?_
              refine g_iconst (v := 2) d_X1_learn_56 kI_2 ?_
              refine g_iaload (N := 8) d_X1_learn_57 rfl kT_8 ⟨by decide, by decide⟩ kN_2 ?_
              refine g_topI (fun v27 ev27 => ?_)
              refine g_istore (L' := [some (.ref 45), some (.int set), some (.int n), some (.int x19), some (.int v26), some (.int v27), none, none, none]) d_X1_learn_58 (by decide) rfl ?_
              refine g_aload_n d_X1_learn_60 rfl ?_
              refine g_getR d_X1_learn_61 fq_RX1_12 rfl rfl ?_
              refine g_getR d_X1_learn_64 fq_RX1_64 rfl rfl ?_
              refine g_iconst (v := 1) d_X1_learn_67 kI_1 ?_
              refine g_iaload (N := 8) d_X1_learn_68 rfl kT_8 ⟨by decide, by decide⟩ kN_1 ?_
              refine g_topI (fun v28 ev28 => ?_)
              refine g_istore (L' := [some (.ref 45), some (.int set), some (.int n), some (.int x19), some (.int v26), some (.int v27), some (.int v28), none, none]) d_X1_learn_69 (by decide) rfl ?_
              refine g_aload_n d_X1_learn_71 rfl ?_
              refine g_getR d_X1_learn_72 fq_RX1_25 rfl rfl ?_
              refine g_aload_n d_X1_learn_75 rfl ?_
              refine g_getR d_X1_learn_76 fq_RX1_12 rfl rfl ?_
              refine g_sipush (v := 288) d_X1_learn_79 kS_288 ?_
              refine g_aload_n d_X1_learn_82 rfl ?_
              refine g_getR d_X1_learn_83 fq_RX1_25 rfl rfl ?_
              refine g_getR d_X1_learn_86 fq_RX1_67 rfl rfl ?_
              refine g_getR d_X1_learn_89 fq_RX1_73 rfl rfl ?_
              refine g_bipush (v := 8) d_X1_learn_92 kB_8 ?_
              refine g_iaload (N := 15) d_X1_learn_94 rfl kT_15 ⟨by decide, by decide⟩ kN_8 ?_
              refine g_V3 d_X1_learn_95 cs_X1_learn_X7_passByDay lk_RX1_78 im_X7_passByDay se_X7_passByDay rfl rfl rfl (Nat.le_of_ble_eq_true rfl) ⟨rfl, rfl⟩ ⟨Nat.zero_le _, Nat.zero_le _⟩ (ct_X7_passByDay (288 : Int32) (I20 8 8) I20 J21 stA_46 (by grind)) (fun r95 S95 I29 J30 q95_30 => ?_)
              obtain ⟨rfl, hc95_31, rfl, hr95_32⟩ := q95_30
              refine g_st (st' := []) rfl ?_
              have hK34 : XT I29 J30 = XT I J := (xt_fsx (Or.inl rfl) hc95_31).trans hK22
              refine g_iload_n d_X1_learn_98 rfl ?_
              refine g_iload_n d_X1_learn_99 rfl ?_
              refine g_S2 d_X1_learn_100 cs_X1_learn_X1_placeOf lk_RX1_45 im_X1_placeOf (Nat.le_of_ble_eq_true rfl) ⟨rfl, rfl⟩ ⟨Nat.zero_le _, Nat.zero_le _⟩ (ct_X1_placeOf set x19 I29 J30 ) (fun r100 S100 Ic36 Jc37 q100_34 => ?_)
              obtain ⟨rfl, rfl, rfl, r39, rfl, hr100_39⟩ := q100_34
              refine g_st (st' := [.int r39]) rfl ?_
              refine g_istore (L' := [some (.ref 45), some (.int set), some (.int n), some (.int x19), some (.int v26), some (.int v27), some (.int v28), some (.int r39), none]) d_X1_learn_103 (by decide) rfl ?_
              refine g_aload_n d_X1_learn_105 rfl ?_
              refine g_getR d_X1_learn_106 fq_RX1_22 rfl rfl ?_
              refine g_iload d_X1_learn_109 rfl ?_
              refine g_aload_n d_X1_learn_111 rfl ?_
              refine g_getR d_X1_learn_112 fq_RX1_12 rfl rfl ?_
              refine g_getR d_X1_learn_115 fq_RX1_64 rfl rfl ?_
              refine g_iconst (v := 3) d_X1_learn_118 kI_3 ?_
              refine g_iaload (N := 8) d_X1_learn_119 rfl kT_8 ⟨by decide, by decide⟩ kN_3 ?_
              refine g_iload d_X1_learn_120 rfl ?_
              refine g_isub d_X1_learn_122 ?_
              refine g_iastore (N := 5376) d_X1_learn_123 rfl kT_5376 (by constructor <;> grind) rfl  ?_
              refine g_nmI (fun I41 eI41 => ?_)
              have hK42 : XT I41 J30 = XT I J := (by rw [eI41]; exact (xt_wI rfl).trans hK34)
              refine g_aload_n d_X1_learn_124 rfl ?_
              refine g_getR d_X1_learn_125 fq_RX1_22 rfl rfl ?_
              refine g_iload d_X1_learn_128 rfl ?_
              refine g_iconst (v := 1) d_X1_learn_130 kI_1 ?_
              refine g_iadd d_X1_learn_131 ?_
              refine g_aload_n d_X1_learn_132 rfl ?_
              refine g_getR d_X1_learn_133 fq_RX1_12 rfl rfl ?_
              refine g_getR d_X1_learn_136 fq_RX1_64 rfl rfl ?_
              refine g_iconst (v := 2) d_X1_learn_139 kI_2 ?_
              refine g_iaload (N := 8) d_X1_learn_140 rfl kT_8 ⟨by decide, by decide⟩ kN_2 ?_
              refine g_iload d_X1_learn_141 rfl ?_
              refine g_isub d_X1_learn_143 ?_
              refine g_iastore (N := 5376) d_X1_learn_144 rfl kT_5376 (by constructor <;> grind) rfl  ?_
              refine g_nmI (fun I43 eI43 => ?_)
              have hK44 : XT I43 J30 = XT I J := (by rw [eI43]; exact (xt_wI rfl).trans hK42)
              refine g_iconst (v := 0) d_X1_learn_145 kI_0 ?_
              refine g_istore (L' := [some (.ref 45), some (.int set), some (.int n), some (.int x19), some (.int v26), some (.int v27), some (.int v28), some (.int r39), some (.int (0 : Int32))]) d_X1_learn_146 (by decide) rfl ?_
              have K_148 : ∀ (nu : Nat) (x45 : Int32) (I46 : Iv), mU (3 : Int32) x45 = nu → (XT I46 J30 = XT I J) → ((0 : Int32) ≤ x45) → G m_X1_learn (rq m_X1_learn (fun r S' I' J' => S' = SHF ∧ XT I' J' = XT I J ∧ r = none)) 0 0 148 [some (.ref 45), some (.int set), some (.int n), some (.int x19), some (.int v26), some (.int v27), some (.int v28), some (.int r39), some (.int x45)] [] SHF I46 J30 := by
                intro nu
                induction nu using Nat.strongRecOn with
                | ind nu ih_148 =>
                  intro x45 I46 hmu_148 hK47 hl48
                  refine g_iload d_X1_learn_148 rfl ?_
                  refine g_iconst (v := 3) d_X1_learn_150 kI_3 ?_
                  refine g_icmp_ge d_X1_learn_151 (fun h151 => ?_) (fun h151 => ?_)
                  · skip
                    refine g_aload_n d_X1_learn_181 rfl ?_
                    refine g_getR d_X1_learn_182 fq_RX1_22 rfl rfl ?_
                    refine g_iload d_X1_learn_185 rfl ?_
                    refine g_iconst (v := 5) d_X1_learn_187 kI_5 ?_
                    refine g_iadd d_X1_learn_188 ?_
                    refine g_aload_n d_X1_learn_189 rfl ?_
                    refine g_getR d_X1_learn_190 fq_RX1_12 rfl rfl ?_
                    refine g_getR d_X1_learn_193 fq_RX1_64 rfl rfl ?_
                    refine g_iconst (v := 5) d_X1_learn_196 kI_5 ?_
                    refine g_iaload (N := 8) d_X1_learn_197 rfl kT_8 ⟨by decide, by decide⟩ kN_5 ?_
                    refine g_iastore (N := 5376) d_X1_learn_198 rfl kT_5376 (by constructor <;> grind) rfl  ?_
                    refine g_nmI (fun I49 eI49 => ?_)
                    have hK50 : XT I49 J30 = XT I J := (by rw [eI49]; exact (xt_wI rfl).trans hK47)
                    refine g_aload_n d_X1_learn_199 rfl ?_
                    refine g_getR d_X1_learn_200 fq_RX1_22 rfl rfl ?_
                    refine g_iload d_X1_learn_203 rfl ?_
                    refine g_bipush (v := 6) d_X1_learn_205 kB_6 ?_
                    refine g_iadd d_X1_learn_207 ?_
                    refine g_aload_n d_X1_learn_208 rfl ?_
                    refine g_getR d_X1_learn_209 fq_RX1_12 rfl rfl ?_
                    refine g_getR d_X1_learn_212 fq_RX1_64 rfl rfl ?_
                    refine g_iconst (v := 1) d_X1_learn_215 kI_1 ?_
                    refine g_iaload (N := 8) d_X1_learn_216 rfl kT_8 ⟨by decide, by decide⟩ kN_1 ?_
                    refine g_iload d_X1_learn_217 rfl ?_
                    refine g_isub d_X1_learn_219 ?_
                    refine g_iastore (N := 5376) d_X1_learn_220 rfl kT_5376 (by constructor <;> grind) rfl  ?_
                    refine g_nmI (fun I51 eI51 => ?_)
                    have hK52 : XT I51 J30 = XT I J := (by rw [eI51]; exact (xt_wI rfl).trans hK50)
                    refine g_iinc (v := (x19 + (1 : Int32))) (L' := [some (.ref 45), some (.int set), some (.int n), some (.int (x19 + (1 : Int32))), some (.int v26), some (.int v27), some (.int v28), some (.int r39), some (.int x45)]) d_X1_learn_221 rfl (by rw [kI_1]) (by decide) rfl ?_
                    refine g_goto d_X1_learn_224 ?_
                    refine g_sb [some (.ref 45), some (.int set), some (.int n), some (.int (x19 + (1 : Int32))), none, none, none, none, none] (by simp [subL]) ?_
                    exact ih_33 _ (by rw [← hmu_33]; exact mu_upe h35 (by grind)) (x19 + (1 : Int32)) I51 J30 rfl hK52 (lo_upe hl23 h35 (by grind))
                  · skip
                    refine g_aload_n d_X1_learn_154 rfl ?_
                    refine g_getR d_X1_learn_155 fq_RX1_22 rfl rfl ?_
                    refine g_iload d_X1_learn_158 rfl ?_
                    refine g_iconst (v := 2) d_X1_learn_160 kI_2 ?_
                    refine g_iadd d_X1_learn_161 ?_
                    refine g_iload d_X1_learn_162 rfl ?_
                    refine g_iadd d_X1_learn_164 ?_
                    refine g_aload_n d_X1_learn_165 rfl ?_
                    refine g_getR d_X1_learn_166 fq_RX1_12 rfl rfl ?_
                    refine g_iload d_X1_learn_169 rfl ?_
                    refine g_V1 d_X1_learn_171 cs_X1_learn_X6_warmthOf lk_RX1_82 im_X6_warmthOf se_X6_warmthOf rfl rfl rfl (Nat.le_of_ble_eq_true rfl) ⟨rfl, rfl⟩ ⟨Nat.zero_le _, Nat.zero_le _⟩ (ct_X6_warmthOf x45 I46 J30 stA_46) (fun r171 S171 Ic54 Jc55 q171_52 => ?_)
                    obtain ⟨rfl, rfl, rfl, r57, rfl⟩ := q171_52
                    refine g_st (st' := [.int r57, .int ((r39 + (2 : Int32)) + x45), .ref 56]) rfl ?_
                    refine g_iastore (N := 5376) d_X1_learn_174 rfl kT_5376 (by constructor <;> grind) rfl  ?_
                    refine g_nmI (fun I59 eI59 => ?_)
                    have hK60 : XT I59 J30 = XT I J := (by rw [eI59]; exact (xt_wI rfl).trans hK47)
                    refine g_iinc (v := (x45 + (1 : Int32))) (L' := [some (.ref 45), some (.int set), some (.int n), some (.int x19), some (.int v26), some (.int v27), some (.int v28), some (.int r39), some (.int (x45 + (1 : Int32)))]) d_X1_learn_175 rfl (by rw [kI_1]) (by decide) rfl ?_
                    refine g_goto d_X1_learn_178 ?_
                    exact ih_148 _ (by rw [← hmu_148]; exact mu_up h151) (x45 + (1 : Int32)) I59 rfl hK60 (lo_up hl48 h151)
              exact K_148 _ (0 : Int32) I43 rfl hK44 (Int32.le_refl _)
        exact K_33 _ (1 : Int32) I13 J14 rfl hK18 (Int32.le_refl _)
      · skip
        exact g_return d_X1_learn_24 rfl rfl rfl ⟨rfl, hK0, rfl⟩
set_option maxRecDepth 100000 in
set_option maxHeartbeats 4000000 in
theorem ct_X1_learnCouldBe (n : Int32) (I : Iv) (J : Jv)  : Ct m_X1_learnCouldBe [.ref 45, .int n] SHF I J (fun r S' I' J' => S' = SHF ∧ XT I' J' = XT I J ∧ r = none) := by
  refine ct_of 1 (by decide +kernel) rfl rfl ?_
  have hK0 : XT I J = XT I J := rfl
  refine g_iconst (v := 0) d_X1_learnCouldBe_0 kI_0 ?_
  refine g_istore_n (L' := [some (.ref 45), some (.int n), some (.int (0 : Int32))]) d_X1_learnCouldBe_1 (by decide) rfl ?_
  have K_2 : ∀ (nu : Nat) (x1 : Int32) (I2 : Iv) (J3 : Jv), mU (29 : Int32) x1 = nu → (XT I2 J3 = XT I J) → ((0 : Int32) ≤ x1) → G m_X1_learnCouldBe (rq m_X1_learnCouldBe (fun r S' I' J' => S' = SHF ∧ XT I' J' = XT I J ∧ r = none)) 0 0 2 [some (.ref 45), some (.int n), some (.int x1)] [] SHF I2 J3 := by
    intro nu
    induction nu using Nat.strongRecOn with
    | ind nu ih_2 =>
      intro x1 I2 J3 hmu_2 hK4 hl5
      refine g_iload_n d_X1_learnCouldBe_2 rfl ?_
      refine g_gets (j := 3) d_X1_learnCouldBe_3 rfl sl_RX1_49 ?_
      refine g_tlen (j := 3) (v := 29) d_X1_learnCouldBe_6 rfl rfl ?_
      refine g_icmp_ge d_X1_learnCouldBe_7 (fun h7 => ?_) (fun h7 => ?_)
      · skip
        exact g_return d_X1_learnCouldBe_26 rfl rfl rfl ⟨rfl, hK4, rfl⟩
      · skip
        refine g_aload_n d_X1_learnCouldBe_10 rfl ?_
        refine g_gets (j := 3) d_X1_learnCouldBe_11 rfl sl_RX1_49 ?_
        refine g_iload_n d_X1_learnCouldBe_14 rfl ?_
        refine g_tload (j := 3) (N := 29) d_X1_learnCouldBe_15 rfl kT_29 ⟨hl5, Int32.not_le.mp h7⟩ rfl ?_
        refine g_topI (fun t6 et6 => ?_)
        refine g_iload_n d_X1_learnCouldBe_16 rfl ?_
        refine g_V2 d_X1_learnCouldBe_17 cs_X1_learnCouldBe_X1_learn lk_RX1_52 im_X1_learn se_X1_learn rfl rfl rfl (Nat.le_of_ble_eq_true rfl) ⟨rfl, rfl⟩ ⟨Nat.zero_le _, Nat.zero_le _⟩ (ct_X1_learn t6 n I2 J3 ) (fun r17 S17 I7 J8 q17_8 => ?_)
        obtain ⟨rfl, hc17_9, rfl⟩ := q17_8
        refine g_st (st' := []) rfl ?_
        have hK12 : XT I7 J8 = XT I J := hc17_9.trans hK4
        refine g_iinc (v := (x1 + (1 : Int32))) (L' := [some (.ref 45), some (.int n), some (.int (x1 + (1 : Int32)))]) d_X1_learnCouldBe_20 rfl (by rw [kI_1]) (by decide) rfl ?_
        refine g_goto d_X1_learnCouldBe_23 ?_
        exact ih_2 _ (by rw [← hmu_2]; exact mu_up h7) (x1 + (1 : Int32)) I7 J8 rfl hK12 (lo_up hl5 h7)
  exact K_2 _ (0 : Int32) I J rfl hK0 (Int32.le_refl _)
set_option maxRecDepth 100000 in
set_option maxHeartbeats 4000000 in
theorem ct_X1_learnParts (set : Int32) (n : Int32) (I : Iv) (J : Jv) (hs : 0 ≤ set ∧ set ≤ 127) : Ct m_X1_learnParts [.ref 45, .int set, .int n] SHF I J (fun r S' I' J' => S' = SHF ∧ XT I' J' = XT I J ∧ r = none) := by
  refine ct_of 1 (by decide +kernel) rfl rfl ?_
  have hK0 : XT I J = XT I J := rfl
  refine g_iconst (v := 0) d_X1_learnParts_0 kI_0 ?_
  refine g_istore_n (L' := [some (.ref 45), some (.int set), some (.int n), some (.int (0 : Int32))]) d_X1_learnParts_1 (by decide) rfl ?_
  have K_2 : ∀ (nu : Nat) (x1 : Int32) (I2 : Iv) (J3 : Jv), mUe set x1 = nu → (XT I2 J3 = XT I J) → ((0 : Int32) ≤ x1) → G m_X1_learnParts (rq m_X1_learnParts (fun r S' I' J' => S' = SHF ∧ XT I' J' = XT I J ∧ r = none)) 0 0 2 [some (.ref 45), some (.int set), some (.int n), some (.int x1)] [] SHF I2 J3 := by
    intro nu
    induction nu using Nat.strongRecOn with
    | ind nu ih_2 =>
      intro x1 I2 J3 hmu_2 hK4 hl5
      refine g_iload_n d_X1_learnParts_2 rfl ?_
      refine g_iload_n d_X1_learnParts_3 rfl ?_
      refine g_icmp_gt d_X1_learnParts_4 (fun h4 => ?_) (fun h4 => ?_)
      · skip
        exact g_return d_X1_learnParts_27 rfl rfl rfl ⟨rfl, hK4, rfl⟩
      · skip
        refine g_iload_n d_X1_learnParts_7 rfl ?_
        refine g_iload_n d_X1_learnParts_8 rfl ?_
        refine g_S2 d_X1_learnParts_9 cs_X1_learnParts_X9_isPart lk_RX1_56 im_X9_isPart (Nat.le_of_ble_eq_true rfl) ⟨rfl, rfl⟩ ⟨Nat.zero_le _, Nat.zero_le _⟩ (ct_X9_isPart x1 set I2 J3 ) (fun r9 S9 Ic7 Jc8 q9_5 => ?_)
        obtain ⟨rfl, rfl, rfl, r10, rfl, hz9⟩ := q9_5
        refine g_st (st' := [.int r10]) rfl ?_
        refine g_if_eq d_X1_learnParts_12 (fun h12 => ?_) (fun h12 => ?_)
        · skip
          refine g_iinc (v := (x1 + (1 : Int32))) (L' := [some (.ref 45), some (.int set), some (.int n), some (.int (x1 + (1 : Int32)))]) d_X1_learnParts_21 rfl (by rw [kI_1]) (by decide) rfl ?_
          refine g_goto d_X1_learnParts_24 ?_
          exact ih_2 _ (by rw [← hmu_2]; exact mu_upe h4 (by grind)) (x1 + (1 : Int32)) I2 J3 rfl hK4 (lo_upe hl5 h4 (by grind))
        · skip
          refine g_aload_n d_X1_learnParts_15 rfl ?_
          refine g_iload_n d_X1_learnParts_16 rfl ?_
          refine g_iload_n d_X1_learnParts_17 rfl ?_
          refine g_V2 d_X1_learnParts_18 cs_X1_learnParts_X1_learn lk_RX1_52 im_X1_learn se_X1_learn rfl rfl rfl (Nat.le_of_ble_eq_true rfl) ⟨rfl, rfl⟩ ⟨Nat.zero_le _, Nat.zero_le _⟩ (ct_X1_learn x1 n I2 J3 ) (fun r18 S18 I12 J13 q18_13 => ?_)
          obtain ⟨rfl, hc18_14, rfl⟩ := q18_13
          refine g_st (st' := []) rfl ?_
          have hK17 : XT I12 J13 = XT I J := hc18_14.trans hK4
          refine g_iinc (v := (x1 + (1 : Int32))) (L' := [some (.ref 45), some (.int set), some (.int n), some (.int (x1 + (1 : Int32)))]) d_X1_learnParts_21 rfl (by rw [kI_1]) (by decide) rfl ?_
          refine g_goto d_X1_learnParts_24 ?_
          exact ih_2 _ (by rw [← hmu_2]; exact mu_upe h4 (by grind)) (x1 + (1 : Int32)) I12 J13 rfl hK17 (lo_upe hl5 h4 (by grind))
  exact K_2 _ (0 : Int32) I J rfl hK0 (Int32.le_refl _)
set_option maxRecDepth 100000 in
set_option maxHeartbeats 4000000 in
theorem ct_X1_firstDay (set : Int32) (fur : Int32) (cur : Int32) (I : Iv) (J : Jv) (hc : cur = 0 ∨ cur = 1) : Ct m_X1_firstDay [.ref 45, .int set, .int fur, .int cur] SHF I J (fun r S' I' J' => S' = SHF ∧ XT I' J' = XT I J ∧ ∃ v : Int32, r = some (.int v)) := by
  refine ct_of 3 (by decide +kernel) rfl rfl ?_
  have hK0 : XT I J = XT I J := rfl
  refine g_aload_n d_X1_firstDay_0 rfl ?_
  refine g_iload_n d_X1_firstDay_1 rfl ?_
  refine g_iload_n d_X1_firstDay_2 rfl ?_
  refine g_V2 d_X1_firstDay_3 cs_X1_firstDay_X1_begin lk_RX1_60 im_X1_begin se_X1_begin rfl rfl rfl (Nat.le_of_ble_eq_true rfl) ⟨rfl, rfl⟩ ⟨Nat.zero_le _, Nat.zero_le _⟩ (ct_X1_begin set cur I J hc) (fun r3 S3 I1 J2 q3_2 => ?_)
  obtain ⟨rfl, hc3_3, rfl⟩ := q3_2
  refine g_st (st' := []) rfl ?_
  have hK6 : XT I1 J2 = XT I J := hc3_3.trans hK0
  refine g_iconst (v := 1) d_X1_firstDay_6 kI_1 ?_
  refine g_istore (L' := [some (.ref 45), some (.int set), some (.int fur), some (.int cur), some (.int (1 : Int32)), none, none]) d_X1_firstDay_7 (by decide) rfl ?_
  have K_9 : ∀ (nu : Nat) (x7 : Int32) (I8 : Iv) (J9 : Jv), mUe (30 : Int32) x7 = nu → (XT I8 J9 = XT I J) → ((1 : Int32) ≤ x7) → G m_X1_firstDay (rq m_X1_firstDay (fun r S' I' J' => S' = SHF ∧ XT I' J' = XT I J ∧ ∃ v : Int32, r = some (.int v))) 0 0 9 [some (.ref 45), some (.int set), some (.int fur), some (.int cur), some (.int x7), none, none] [] SHF I8 J9 := by
    intro nu
    induction nu using Nat.strongRecOn with
    | ind nu ih_9 =>
      intro x7 I8 J9 hmu_9 hK10 hl11
      refine g_iload d_X1_firstDay_9 rfl ?_
      refine g_bipush (v := 30) d_X1_firstDay_11 kB_30 ?_
      refine g_icmp_gt d_X1_firstDay_13 (fun h13 => ?_) (fun h13 => ?_)
      · skip
        refine g_iconst (v := -1) d_X1_firstDay_120 kI_m1 ?_
        exact g_ireturn d_X1_firstDay_121 rfl rfl rfl rfl ⟨rfl, hK10, (-1 : Int32), rfl⟩
      · skip
        refine g_aload_n d_X1_firstDay_16 rfl ?_
        refine g_getR d_X1_firstDay_17 fq_RX1_12 rfl rfl ?_
        refine g_getR d_X1_firstDay_20 fq_RX1_64 rfl rfl ?_
        refine g_iconst (v := 3) d_X1_firstDay_23 kI_3 ?_
        refine g_iaload (N := 8) d_X1_firstDay_24 rfl kT_8 ⟨by decide, by decide⟩ kN_3 ?_
        refine g_topI (fun v12 ev12 => ?_)
        refine g_istore (L' := [some (.ref 45), some (.int set), some (.int fur), some (.int cur), some (.int x7), some (.int v12), none]) d_X1_firstDay_25 (by decide) rfl ?_
        refine g_aload_n d_X1_firstDay_27 rfl ?_
        refine g_getR d_X1_firstDay_28 fq_RX1_25 rfl rfl ?_
        refine g_aload_n d_X1_firstDay_31 rfl ?_
        refine g_getR d_X1_firstDay_32 fq_RX1_12 rfl rfl ?_
        refine g_sipush (v := 288) d_X1_firstDay_35 kS_288 ?_
        refine g_aload_n d_X1_firstDay_38 rfl ?_
        refine g_getR d_X1_firstDay_39 fq_RX1_25 rfl rfl ?_
        refine g_getR d_X1_firstDay_42 fq_RX1_67 rfl rfl ?_
        refine g_getR d_X1_firstDay_45 fq_RX1_73 rfl rfl ?_
        refine g_bipush (v := 8) d_X1_firstDay_48 kB_8 ?_
        refine g_iaload (N := 15) d_X1_firstDay_50 rfl kT_15 ⟨by decide, by decide⟩ kN_8 ?_
        refine g_V3 d_X1_firstDay_51 cs_X1_firstDay_X7_passByDay lk_RX1_78 im_X7_passByDay se_X7_passByDay rfl rfl rfl (Nat.le_of_ble_eq_true rfl) ⟨rfl, rfl⟩ ⟨Nat.zero_le _, Nat.zero_le _⟩ (ct_X7_passByDay (288 : Int32) (I8 8 8) I8 J9 stA_46 (by grind)) (fun r51 S51 I13 J14 q51_14 => ?_)
        obtain ⟨rfl, hc51_15, rfl, hr51_16⟩ := q51_14
        refine g_st (st' := []) rfl ?_
        have hK18 : XT I13 J14 = XT I J := (xt_fsx (Or.inl rfl) hc51_15).trans hK10
        refine g_iload_n d_X1_firstDay_54 rfl ?_
        have J_104 : ∀ (w19 : Int32), (w19 = 0 ∨ w19 = 1) → G m_X1_firstDay (rq m_X1_firstDay (fun r S' I' J' => S' = SHF ∧ XT I' J' = XT I J ∧ ∃ v : Int32, r = some (.int v))) 0 0 104 [some (.ref 45), some (.int set), some (.int fur), some (.int cur), some (.int x7), some (.int v12), none] [.int w19] SHF I13 J14 := by
          intro w19 hw19
          refine g_istore (L' := [some (.ref 45), some (.int set), some (.int fur), some (.int cur), some (.int x7), some (.int v12), some (.int w19)]) d_X1_firstDay_104 (by decide) rfl ?_
          refine g_iload d_X1_firstDay_106 rfl ?_
          refine g_if_eq d_X1_firstDay_108 (fun h108 => ?_) (fun h108 => ?_)
          · skip
            refine g_iinc (v := (x7 + (1 : Int32))) (L' := [some (.ref 45), some (.int set), some (.int fur), some (.int cur), some (.int (x7 + (1 : Int32))), some (.int v12), some (.int w19)]) d_X1_firstDay_114 rfl (by rw [kI_1]) (by decide) rfl ?_
            refine g_goto d_X1_firstDay_117 ?_
            refine g_sb [some (.ref 45), some (.int set), some (.int fur), some (.int cur), some (.int (x7 + (1 : Int32))), none, none] (by simp [subL]) ?_
            exact ih_9 _ (by rw [← hmu_9]; exact mu_upe h13 (by decide)) (x7 + (1 : Int32)) I13 J14 rfl hK18 (lo_upe hl11 h13 (by decide))
          · skip
            refine g_iload d_X1_firstDay_111 rfl ?_
            exact g_ireturn d_X1_firstDay_113 rfl rfl rfl rfl ⟨rfl, hK18, x7, rfl⟩
        refine g_if_eq d_X1_firstDay_55 (fun h55 => ?_) (fun h55 => ?_)
        · skip
          refine g_aload_n d_X1_firstDay_81 rfl ?_
          refine g_getR d_X1_firstDay_82 fq_RX1_12 rfl rfl ?_
          refine g_getR d_X1_firstDay_85 fq_RX1_64 rfl rfl ?_
          refine g_iconst (v := 3) d_X1_firstDay_88 kI_3 ?_
          refine g_iaload (N := 8) d_X1_firstDay_89 rfl kT_8 ⟨by decide, by decide⟩ kN_3 ?_
          refine g_iload d_X1_firstDay_90 rfl ?_
          refine g_isub d_X1_firstDay_92 ?_
          refine g_sipush (v := 288) d_X1_firstDay_93 kS_288 ?_
          refine g_icmp_ne d_X1_firstDay_96 (fun h96 => ?_) (fun h96 => ?_)
          · skip
            refine g_iconst (v := 0) d_X1_firstDay_103 kI_0 ?_
            exact J_104 ((0 : Int32)) (Or.inl rfl)
          · skip
            refine g_iconst (v := 1) d_X1_firstDay_99 kI_1 ?_
            refine g_goto d_X1_firstDay_100 ?_
            exact J_104 ((1 : Int32)) (Or.inr rfl)
        · skip
          refine g_aload_n d_X1_firstDay_58 rfl ?_
          refine g_getR d_X1_firstDay_59 fq_RX1_12 rfl rfl ?_
          refine g_getR d_X1_firstDay_62 fq_RX1_64 rfl rfl ?_
          refine g_iconst (v := 5) d_X1_firstDay_65 kI_5 ?_
          refine g_iaload (N := 8) d_X1_firstDay_66 rfl kT_8 ⟨by decide, by decide⟩ kN_5 ?_
          refine g_sipush (v := 600) d_X1_firstDay_67 kS_600 ?_
          refine g_icmp_lt d_X1_firstDay_70 (fun h70 => ?_) (fun h70 => ?_)
          · skip
            refine g_iconst (v := 0) d_X1_firstDay_77 kI_0 ?_
            refine g_goto d_X1_firstDay_78 ?_
            exact J_104 ((0 : Int32)) (Or.inl rfl)
          · skip
            refine g_iconst (v := 1) d_X1_firstDay_73 kI_1 ?_
            refine g_goto d_X1_firstDay_74 ?_
            exact J_104 ((1 : Int32)) (Or.inr rfl)
  exact K_9 _ (1 : Int32) I1 J2 rfl hK6 (Int32.le_refl _)
set_option maxRecDepth 100000 in
set_option maxHeartbeats 4000000 in
theorem ct_X1_usedThawing (set : Int32) (n : Int32) (p : Int32) (cur : Int32) (I : Iv) (J : Jv) (hc : cur = 0 ∨ cur = 1) : Ct m_X1_usedThawing [.ref 45, .int set, .int n, .int p, .int cur] SHF I J (fun r S' I' J' => S' = SHF ∧ XT I' J' = XT I J ∧ ∃ v : Int32, r = some (.int v)) := by
  refine ct_of 1 (by decide +kernel) rfl rfl ?_
  have hK0 : XT I J = XT I J := rfl
  refine g_aload_n d_X1_usedThawing_0 rfl ?_
  refine g_iload_n d_X1_usedThawing_1 rfl ?_
  refine g_iload d_X1_usedThawing_2 rfl ?_
  refine g_V2 d_X1_usedThawing_4 cs_X1_usedThawing_X1_begin lk_RX1_60 im_X1_begin se_X1_begin rfl rfl rfl (Nat.le_of_ble_eq_true rfl) ⟨rfl, rfl⟩ ⟨Nat.zero_le _, Nat.zero_le _⟩ (ct_X1_begin set cur I J hc) (fun r4 S4 I1 J2 q4_2 => ?_)
  obtain ⟨rfl, hc4_3, rfl⟩ := q4_2
  refine g_st (st' := []) rfl ?_
  have hK6 : XT I1 J2 = XT I J := hc4_3.trans hK0
  refine g_iconst (v := 0) d_X1_usedThawing_7 kI_0 ?_
  refine g_istore (L' := [some (.ref 45), some (.int set), some (.int n), some (.int p), some (.int cur), some (.int (0 : Int32))]) d_X1_usedThawing_8 (by decide) rfl ?_
  have K_10 : ∀ (nu : Nat) (x7 : Int32) (I8 : Iv) (J9 : Jv), mU n x7 = nu → (XT I8 J9 = XT I J) → ((0 : Int32) ≤ x7) → G m_X1_usedThawing (rq m_X1_usedThawing (fun r S' I' J' => S' = SHF ∧ XT I' J' = XT I J ∧ ∃ v : Int32, r = some (.int v))) 0 0 10 [some (.ref 45), some (.int set), some (.int n), some (.int p), some (.int cur), some (.int x7)] [] SHF I8 J9 := by
    intro nu
    induction nu using Nat.strongRecOn with
    | ind nu ih_10 =>
      intro x7 I8 J9 hmu_10 hK10 hl11
      refine g_iload d_X1_usedThawing_10 rfl ?_
      refine g_iload_n d_X1_usedThawing_12 rfl ?_
      refine g_icmp_ge d_X1_usedThawing_13 (fun h13 => ?_) (fun h13 => ?_)
      · skip
        refine g_aload_n d_X1_usedThawing_73 rfl ?_
        refine g_getR d_X1_usedThawing_74 fq_RX1_12 rfl rfl ?_
        refine g_getR d_X1_usedThawing_77 fq_RX1_64 rfl rfl ?_
        refine g_iconst (v := 1) d_X1_usedThawing_80 kI_1 ?_
        refine g_iaload (N := 8) d_X1_usedThawing_81 rfl kT_8 ⟨by decide, by decide⟩ kN_1 ?_
        exact g_ireturn d_X1_usedThawing_82 rfl rfl rfl rfl ⟨rfl, hK10, (I8 54 1), rfl⟩
      · skip
        refine g_iload d_X1_usedThawing_16 rfl ?_
        have J_40 : ∀ (I12 : Iv), ∀ (J13 : Jv), (XT I12 J13 = XT I J) → G m_X1_usedThawing (rq m_X1_usedThawing (fun r S' I' J' => S' = SHF ∧ XT I' J' = XT I J ∧ ∃ v : Int32, r = some (.int v))) 0 0 40 [some (.ref 45), some (.int set), some (.int n), some (.int p), some (.int cur), some (.int x7)] [] SHF I12 J13 := by
          intro I12 J13 hK14
          refine g_aload_n d_X1_usedThawing_40 rfl ?_
          refine g_getR d_X1_usedThawing_41 fq_RX1_25 rfl rfl ?_
          refine g_aload_n d_X1_usedThawing_44 rfl ?_
          refine g_getR d_X1_usedThawing_45 fq_RX1_12 rfl rfl ?_
          refine g_sipush (v := 288) d_X1_usedThawing_48 kS_288 ?_
          refine g_aload_n d_X1_usedThawing_51 rfl ?_
          refine g_getR d_X1_usedThawing_52 fq_RX1_25 rfl rfl ?_
          refine g_getR d_X1_usedThawing_55 fq_RX1_67 rfl rfl ?_
          refine g_getR d_X1_usedThawing_58 fq_RX1_73 rfl rfl ?_
          refine g_bipush (v := 8) d_X1_usedThawing_61 kB_8 ?_
          refine g_iaload (N := 15) d_X1_usedThawing_63 rfl kT_15 ⟨by decide, by decide⟩ kN_8 ?_
          refine g_V3 d_X1_usedThawing_64 cs_X1_usedThawing_X7_passByDay lk_RX1_78 im_X7_passByDay se_X7_passByDay rfl rfl rfl (Nat.le_of_ble_eq_true rfl) ⟨rfl, rfl⟩ ⟨Nat.zero_le _, Nat.zero_le _⟩ (ct_X7_passByDay (288 : Int32) (I12 8 8) I12 J13 stA_46 (by grind)) (fun r64 S64 I15 J16 q64_16 => ?_)
          obtain ⟨rfl, hc64_17, rfl, hr64_18⟩ := q64_16
          refine g_st (st' := []) rfl ?_
          have hK20 : XT I15 J16 = XT I J := (xt_fsx (Or.inl rfl) hc64_17).trans hK14
          refine g_iinc (v := (x7 + (1 : Int32))) (L' := [some (.ref 45), some (.int set), some (.int n), some (.int p), some (.int cur), some (.int (x7 + (1 : Int32)))]) d_X1_usedThawing_67 rfl (by rw [kI_1]) (by decide) rfl ?_
          refine g_goto d_X1_usedThawing_70 ?_
          exact ih_10 _ (by rw [← hmu_10]; exact mu_up h13) (x7 + (1 : Int32)) I15 J16 rfl hK20 (lo_up hl11 h13)
        refine g_if_le d_X1_usedThawing_18 (fun h18 => ?_) (fun h18 => ?_)
        · skip
          exact J_40 I8 J9 hK10
        · skip
          refine g_iload_n d_X1_usedThawing_21 rfl ?_
          refine g_if_le d_X1_usedThawing_22 (fun h22 => ?_) (fun h22 => ?_)
          · skip
            exact J_40 I8 J9 hK10
          · skip
            refine g_iload d_X1_usedThawing_25 rfl ?_
            refine g_iload_n d_X1_usedThawing_27 rfl ?_
            refine g_irem d_X1_usedThawing_28 (by grind) ?_
            refine g_if_ne d_X1_usedThawing_29 (fun h29 => ?_) (fun h29 => ?_)
            · skip
              exact J_40 I8 J9 hK10
            · skip
              refine g_aload_n d_X1_usedThawing_32 rfl ?_
              refine g_getR d_X1_usedThawing_33 fq_RX1_12 rfl rfl ?_
              refine g_V0 d_X1_usedThawing_36 cs_X1_usedThawing_X6_letOffIce lk_RX1_86 im_X6_letOffIce se_X6_letOffIce rfl rfl rfl (Nat.le_of_ble_eq_true rfl) ⟨rfl, rfl⟩ ⟨Nat.zero_le _, Nat.zero_le _⟩ (ct_X6_letOffIce  I8 J9 stA_46) (fun r36 S36 I21 J22 q36_22 => ?_)
              obtain ⟨rfl, hc36_23, r25, rfl⟩ := q36_22
              refine g_st (st' := [.int r25]) rfl ?_
              have hK27 : XT I21 J22 = XT I J := (xt_fsx (Or.inl rfl) hc36_23.1).trans hK10
              refine g_pop d_X1_usedThawing_39 rfl ?_
              exact J_40 I21 J22 hK27
  exact K_10 _ (0 : Int32) I1 J2 rfl hK6 (Int32.le_refl _)
