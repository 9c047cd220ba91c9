set_option maxRecDepth 100000 in
set_option maxHeartbeats 4000000 in
theorem ct_X4_yearByUse (used : Int32) (I : Iv) (J : Jv)  : Ct m_X4_yearByUse [.ref 65, .int used] SHF I J (fun r S' I' J' => S' = SHF ∧ I = I' ∧ J = J' ∧ ∃ v : Int32, r = some (.int v)) := by
  refine ct_of 0 (by decide +kernel) rfl rfl ?_
  refine g_iload_n d_X4_yearByUse_0 rfl ?_
  refine g_i2l d_X4_yearByUse_1 ?_
  refine g_ldc2 (v := 365) d_X4_yearByUse_2 tw_928 ?_
  refine g_lmul d_X4_yearByUse_5 ?_
  refine g_aload_n d_X4_yearByUse_6 rfl ?_
  refine g_getI d_X4_yearByUse_7 fq_RX4_15 rfl rfl ?_
  refine g_i2l d_X4_yearByUse_10 ?_
  refine g_lmul d_X4_yearByUse_11 ?_
  refine g_ldc2 (v := 1000) d_X4_yearByUse_12 tw_929 ?_
  refine g_ldiv d_X4_yearByUse_15 (by decide) ?_
  refine g_l2i d_X4_yearByUse_16 ?_
  exact g_ireturn d_X4_yearByUse_17 rfl rfl rfl rfl ⟨rfl, rfl, rfl, (Int64.toInt32 ((((Int32.toInt64 used) * (365 : Int64)) * (Int32.toInt64 (I 65 2))) / (1000 : Int64))), rfl⟩
set_option maxRecDepth 100000 in
set_option maxHeartbeats 4000000 in
theorem ct_X4_yearOf (set : Int32) (cur : Int32) (I : Iv) (J : Jv)  : Ct m_X4_yearOf [.ref 65, .int set, .int cur] SHF I J (fun r S' I' J' => S' = SHF ∧ I = I' ∧ J = J' ∧ ∃ v : Int32, r = some (.int v)) := by
  refine ct_of 0 (by decide +kernel) rfl rfl ?_
  refine g_iload_n d_X4_yearOf_0 rfl ?_
  refine g_if_eq d_X4_yearOf_1 (fun h1 => ?_) (fun h1 => ?_)
  · skip
    refine g_iconst (v := 0) d_X4_yearOf_22 kI_0 ?_
    exact g_ireturn d_X4_yearOf_23 rfl rfl rfl rfl ⟨rfl, rfl, rfl, (0 : Int32), rfl⟩
  · skip
    refine g_aload_n d_X4_yearOf_4 rfl ?_
    refine g_aload_n d_X4_yearOf_5 rfl ?_
    refine g_getR d_X4_yearOf_6 fq_RX4_19 rfl rfl ?_
    refine g_iload_n d_X4_yearOf_9 rfl ?_
    refine g_iconst (v := 2) d_X4_yearOf_10 kI_2 ?_
    refine g_bipush (v := 6) d_X4_yearOf_11 kB_6 ?_
    refine g_V3 d_X4_yearOf_13 cs_X4_yearOf_X1_signOf lk_RX4_29 im_X1_signOf se_X1_signOf rfl rfl rfl (Nat.le_of_ble_eq_true rfl) ⟨rfl, rfl⟩ ⟨Nat.zero_le _, Nat.zero_le _⟩ (ct_X1_signOf set (2 : Int32) (6 : Int32) I J ) (fun r13 S13 Ic2 Jc3 q13_0 => ?_)
    obtain ⟨rfl, rfl, rfl, r5, rfl⟩ := q13_0
    refine g_st (st' := [.int r5, .ref 65]) rfl ?_
    refine g_V1 d_X4_yearOf_16 cs_X4_yearOf_X4_yearByUse lk_RX4_35 im_X4_yearByUse se_X4_yearByUse rfl rfl rfl (Nat.le_of_ble_eq_true rfl) ⟨rfl, rfl⟩ ⟨Nat.zero_le _, Nat.zero_le _⟩ (ct_X4_yearByUse r5 I J ) (fun r16 S16 Ic8 Jc9 q16_6 => ?_)
    obtain ⟨rfl, rfl, rfl, r11, rfl⟩ := q16_6
    refine g_st (st' := [.int r11]) rfl ?_
    refine g_goto d_X4_yearOf_19 ?_
    exact g_ireturn d_X4_yearOf_23 rfl rfl rfl rfl ⟨rfl, rfl, rfl, r11, rfl⟩
set_option maxRecDepth 100000 in
set_option maxHeartbeats 4000000 in
theorem ct_X4_saved (set : Int32) (part : Int32) (cur : Int32) (I : Iv) (J : Jv)  : Ct m_X4_saved [.ref 65, .int set, .int part, .int cur] SHF I J (fun r S' I' J' => S' = SHF ∧ I = I' ∧ J = J' ∧ ∃ v : Int32, r = some (.int v)) := by
  refine ct_of 0 (by decide +kernel) rfl rfl ?_
  refine g_aload_n d_X4_saved_0 rfl ?_
  refine g_iload_n d_X4_saved_1 rfl ?_
  refine g_iload_n d_X4_saved_2 rfl ?_
  refine g_V2 d_X4_saved_3 cs_X4_saved_X4_yearOf lk_RX4_43 im_X4_yearOf se_X4_yearOf rfl rfl rfl (Nat.le_of_ble_eq_true rfl) ⟨rfl, rfl⟩ ⟨Nat.zero_le _, Nat.zero_le _⟩ (ct_X4_yearOf set cur I J ) (fun r3 S3 Ic2 Jc3 q3_0 => ?_)
  obtain ⟨rfl, rfl, rfl, r5, rfl⟩ := q3_0
  refine g_st (st' := [.int r5]) rfl ?_
  refine g_aload_n d_X4_saved_6 rfl ?_
  refine g_iload_n d_X4_saved_7 rfl ?_
  refine g_iload_n d_X4_saved_8 rfl ?_
  refine g_iconst (v := -1) d_X4_saved_9 kI_m1 ?_
  refine g_ixor d_X4_saved_10 ?_
  refine g_iand d_X4_saved_11 ?_
  refine g_iload_n d_X4_saved_12 rfl ?_
  refine g_V2 d_X4_saved_13 cs_X4_saved_X4_yearOf lk_RX4_43 im_X4_yearOf se_X4_yearOf rfl rfl rfl (Nat.le_of_ble_eq_true rfl) ⟨rfl, rfl⟩ ⟨Nat.zero_le _, Nat.zero_le _⟩ (ct_X4_yearOf (set &&& (part ^^^ (-1 : Int32))) cur I J ) (fun r13 S13 Ic8 Jc9 q13_6 => ?_)
  obtain ⟨rfl, rfl, rfl, r11, rfl⟩ := q13_6
  refine g_st (st' := [.int r11, .int r5]) rfl ?_
  refine g_isub d_X4_saved_16 ?_
  exact g_ireturn d_X4_saved_17 rfl rfl rfl rfl ⟨rfl, rfl, rfl, (r5 - r11), rfl⟩
set_option maxRecDepth 100000 in
set_option maxHeartbeats 4000000 in
theorem ct_X4_costOf (part : Int32) (I : Iv) (J : Jv)  : Ct m_X4_costOf [.ref 65, .int part] SHF I J (fun r S' I' J' => S' = SHF ∧ I = I' ∧ J = J' ∧ ∃ v : Int32, r = some (.int v)) := by
  refine ct_of 2 (by decide +kernel) rfl rfl ?_
  refine g_iconst (v := 0) d_X4_costOf_0 kI_0 ?_
  refine g_istore_n (L' := [some (.ref 65), some (.int part), some (.int (0 : Int32)), none]) d_X4_costOf_1 (by decide) rfl ?_
  refine g_iconst (v := 0) d_X4_costOf_2 kI_0 ?_
  refine g_istore_n (L' := [some (.ref 65), some (.int part), some (.int (0 : Int32)), some (.int (0 : Int32))]) d_X4_costOf_3 (by decide) rfl ?_
  have K_4 : ∀ (nu : Nat) (x1 : Int32) (x2 : Int32), mU (7 : Int32) x2 = nu → ((0 : Int32) ≤ x2) → G m_X4_costOf (rq m_X4_costOf (fun r S' I' J' => S' = SHF ∧ I = I' ∧ J = J' ∧ ∃ v : Int32, r = some (.int v))) 0 0 4 [some (.ref 65), some (.int part), some (.int x1), some (.int x2)] [] SHF I J := by
    intro nu
    induction nu using Nat.strongRecOn with
    | ind nu ih_4 =>
      intro x1 x2 hmu_4 hl3
      refine g_iload_n d_X4_costOf_4 rfl ?_
      refine g_bipush (v := 7) d_X4_costOf_5 kB_7 ?_
      refine g_icmp_ge d_X4_costOf_7 (fun h7 => ?_) (fun h7 => ?_)
      · skip
        refine g_iload_n d_X4_costOf_33 rfl ?_
        exact g_ireturn d_X4_costOf_34 rfl rfl rfl rfl ⟨rfl, rfl, rfl, x1, rfl⟩
      · skip
        refine g_iload_n d_X4_costOf_10 rfl ?_
        refine g_iload_n d_X4_costOf_11 rfl ?_
        refine g_ishr d_X4_costOf_12 ?_
        refine g_iconst (v := 1) d_X4_costOf_13 kI_1 ?_
        refine g_iand d_X4_costOf_14 ?_
        refine g_if_eq d_X4_costOf_15 (fun h15 => ?_) (fun h15 => ?_)
        · skip
          refine g_iinc (v := (x2 + (1 : Int32))) (L' := [some (.ref 65), some (.int part), some (.int x1), some (.int (x2 + (1 : Int32)))]) d_X4_costOf_27 rfl (by rw [kI_1]) (by decide) rfl ?_
          refine g_goto d_X4_costOf_30 ?_
          exact ih_4 _ (by rw [← hmu_4]; exact mu_up h7) x1 (x2 + (1 : Int32)) rfl (lo_up hl3 h7)
        · skip
          refine g_iload_n d_X4_costOf_18 rfl ?_
          refine g_aload_n d_X4_costOf_19 rfl ?_
          refine g_getR d_X4_costOf_20 fq_RX4_9 rfl rfl ?_
          refine g_iload_n d_X4_costOf_23 rfl ?_
          refine g_iaload (N := 7) d_X4_costOf_24 rfl kT_7 ⟨hl3, Int32.not_le.mp h7⟩ rfl ?_
          refine g_iadd d_X4_costOf_25 ?_
          refine g_topI (fun v4 ev4 => ?_)
          refine g_istore_n (L' := [some (.ref 65), some (.int part), some (.int v4), some (.int x2)]) d_X4_costOf_26 (by decide) rfl ?_
          refine g_iinc (v := (x2 + (1 : Int32))) (L' := [some (.ref 65), some (.int part), some (.int v4), some (.int (x2 + (1 : Int32)))]) d_X4_costOf_27 rfl (by rw [kI_1]) (by decide) rfl ?_
          refine g_goto d_X4_costOf_30 ?_
          exact ih_4 _ (by rw [← hmu_4]; exact mu_up h7) v4 (x2 + (1 : Int32)) rfl (lo_up hl3 h7)
  exact K_4 _ (0 : Int32) (0 : Int32) rfl (Int32.le_refl _)
set_option maxRecDepth 100000 in
set_option maxHeartbeats 4000000 in
theorem ct_X4_bestPart (set : Int32) (c : Int32) (cur : Int32) (I : Iv) (J : Jv) (hs : 0 ≤ set ∧ set ≤ 127) : Ct m_X4_bestPart [.ref 65, .int set, .int c, .int cur] SHF I J (fun r S' I' J' => S' = SHF ∧ I = I' ∧ J = J' ∧ ∃ v : Int32, r = some (.int v)) := by
  refine ct_of 6 (by decide +kernel) rfl rfl ?_
  refine g_iconst (v := 0) d_X4_bestPart_0 kI_0 ?_
  refine g_istore (L' := [some (.ref 65), some (.int set), some (.int c), some (.int cur), some (.int (0 : Int32)), none, none, none, none, none]) d_X4_bestPart_1 (by decide) rfl ?_
  refine g_iconst (v := 0) d_X4_bestPart_3 kI_0 ?_
  refine g_istore (L' := [some (.ref 65), some (.int set), some (.int c), some (.int cur), some (.int (0 : Int32)), some (.int (0 : Int32)), none, none, none, none]) d_X4_bestPart_4 (by decide) rfl ?_
  refine g_iconst (v := 0) d_X4_bestPart_6 kI_0 ?_
  refine g_istore (L' := [some (.ref 65), some (.int set), some (.int c), some (.int cur), some (.int (0 : Int32)), some (.int (0 : Int32)), some (.int (0 : Int32)), none, none, none]) d_X4_bestPart_7 (by decide) rfl ?_
  refine g_iconst (v := 1) d_X4_bestPart_9 kI_1 ?_
  refine g_istore (L' := [some (.ref 65), some (.int set), some (.int c), some (.int cur), some (.int (0 : Int32)), some (.int (0 : Int32)), some (.int (0 : Int32)), some (.int (1 : Int32)), none, none]) d_X4_bestPart_10 (by decide) rfl ?_
  have K_12 : ∀ (nu : Nat) (x1 : Int32) (x2 : Int32) (x3 : Int32) (x4 : Int32), mUe set x4 = nu → ((1 : Int32) ≤ x4) → G m_X4_bestPart (rq m_X4_bestPart (fun r S' I' J' => S' = SHF ∧ I = I' ∧ J = J' ∧ ∃ v : Int32, r = some (.int v))) 0 0 12 [some (.ref 65), some (.int set), some (.int c), some (.int cur), some (.int x1), some (.int x2), some (.int x3), some (.int x4), none, none] [] SHF I J := by
    intro nu
    induction nu using Nat.strongRecOn with
    | ind nu ih_12 =>
      intro x1 x2 x3 x4 hmu_12 hl5
      refine g_iload d_X4_bestPart_12 rfl ?_
      refine g_iload_n d_X4_bestPart_14 rfl ?_
      refine g_icmp_gt d_X4_bestPart_15 (fun h15 => ?_) (fun h15 => ?_)
      · skip
        refine g_iload d_X4_bestPart_93 rfl ?_
        exact g_ireturn d_X4_bestPart_95 rfl rfl rfl rfl ⟨rfl, rfl, rfl, x1, rfl⟩
      · skip
        refine g_aload_n d_X4_bestPart_18 rfl ?_
        refine g_iload d_X4_bestPart_19 rfl ?_
        refine g_V1 d_X4_bestPart_21 cs_X4_bestPart_X4_costOf lk_RX4_47 im_X4_costOf se_X4_costOf rfl rfl rfl (Nat.le_of_ble_eq_true rfl) ⟨rfl, rfl⟩ ⟨Nat.zero_le _, Nat.zero_le _⟩ (ct_X4_costOf x4 I J ) (fun r21 S21 Ic7 Jc8 q21_5 => ?_)
        obtain ⟨rfl, rfl, rfl, r10, rfl⟩ := q21_5
        refine g_st (st' := [.int r10]) rfl ?_
        refine g_istore (L' := [some (.ref 65), some (.int set), some (.int c), some (.int cur), some (.int x1), some (.int x2), some (.int x3), some (.int x4), some (.int r10), none]) d_X4_bestPart_24 (by decide) rfl ?_
        refine g_iload d_X4_bestPart_26 rfl ?_
        refine g_iload_n d_X4_bestPart_28 rfl ?_
        refine g_S2 d_X4_bestPart_29 cs_X4_bestPart_X9_isPart lk_RX4_50 im_X9_isPart (Nat.le_of_ble_eq_true rfl) ⟨rfl, rfl⟩ ⟨Nat.zero_le _, Nat.zero_le _⟩ (ct_X9_isPart x4 set I J ) (fun r29 S29 Ic13 Jc14 q29_11 => ?_)
        obtain ⟨rfl, rfl, rfl, r16, rfl, hz29⟩ := q29_11
        refine g_st (st' := [.int r16]) rfl ?_
        refine g_if_eq d_X4_bestPart_32 (fun h32 => ?_) (fun h32 => ?_)
        · skip
          refine g_iinc (v := (x4 + (1 : Int32))) (L' := [some (.ref 65), some (.int set), some (.int c), some (.int cur), some (.int x1), some (.int x2), some (.int x3), some (.int (x4 + (1 : Int32))), some (.int r10), none]) d_X4_bestPart_87 rfl (by rw [kI_1]) (by decide) rfl ?_
          refine g_goto d_X4_bestPart_90 ?_
          refine g_sb [some (.ref 65), some (.int set), some (.int c), some (.int cur), some (.int x1), some (.int x2), some (.int x3), some (.int (x4 + (1 : Int32))), none, none] (by simp [subL]) ?_
          exact ih_12 _ (by rw [← hmu_12]; exact mu_upe h15 (by grind)) x1 x2 x3 (x4 + (1 : Int32)) rfl (lo_upe hl5 h15 (by grind))
        · skip
          refine g_iload d_X4_bestPart_35 rfl ?_
          refine g_iload_n d_X4_bestPart_37 rfl ?_
          refine g_icmp_le d_X4_bestPart_38 (fun h38 => ?_) (fun h38 => ?_)
          · skip
            refine g_aload_n d_X4_bestPart_44 rfl ?_
            refine g_iload_n d_X4_bestPart_45 rfl ?_
            refine g_iload d_X4_bestPart_46 rfl ?_
            refine g_iload_n d_X4_bestPart_48 rfl ?_
            refine g_V3 d_X4_bestPart_49 cs_X4_bestPart_X4_saved lk_RX4_54 im_X4_saved se_X4_saved rfl rfl rfl (Nat.le_of_ble_eq_true rfl) ⟨rfl, rfl⟩ ⟨Nat.zero_le _, Nat.zero_le _⟩ (ct_X4_saved set x4 cur I J ) (fun r49 S49 Ic19 Jc20 q49_17 => ?_)
            obtain ⟨rfl, rfl, rfl, r22, rfl⟩ := q49_17
            refine g_st (st' := [.int r22]) rfl ?_
            refine g_istore (L' := [some (.ref 65), some (.int set), some (.int c), some (.int cur), some (.int x1), some (.int x2), some (.int x3), some (.int x4), some (.int r10), some (.int r22)]) d_X4_bestPart_52 (by decide) rfl ?_
            refine g_iload d_X4_bestPart_54 rfl ?_
            refine g_iload d_X4_bestPart_56 rfl ?_
            have J_75 : G m_X4_bestPart (rq m_X4_bestPart (fun r S' I' J' => S' = SHF ∧ I = I' ∧ J = J' ∧ ∃ v : Int32, r = some (.int v))) 0 0 75 [some (.ref 65), some (.int set), some (.int c), some (.int cur), some (.int x1), some (.int x2), some (.int x3), some (.int x4), some (.int r10), some (.int r22)] [] SHF I J := by
              skip
              refine g_iload d_X4_bestPart_75 rfl ?_
              refine g_istore (L' := [some (.ref 65), some (.int set), some (.int c), some (.int cur), some (.int x4), some (.int x2), some (.int x3), some (.int x4), some (.int r10), some (.int r22)]) d_X4_bestPart_77 (by decide) rfl ?_
              refine g_iload d_X4_bestPart_79 rfl ?_
              refine g_istore (L' := [some (.ref 65), some (.int set), some (.int c), some (.int cur), some (.int x4), some (.int r22), some (.int x3), some (.int x4), some (.int r10), some (.int r22)]) d_X4_bestPart_81 (by decide) rfl ?_
              refine g_iload d_X4_bestPart_83 rfl ?_
              refine g_istore (L' := [some (.ref 65), some (.int set), some (.int c), some (.int cur), some (.int x4), some (.int r22), some (.int r10), some (.int x4), some (.int r10), some (.int r22)]) d_X4_bestPart_85 (by decide) rfl ?_
              refine g_iinc (v := (x4 + (1 : Int32))) (L' := [some (.ref 65), some (.int set), some (.int c), some (.int cur), some (.int x4), some (.int r22), some (.int r10), some (.int (x4 + (1 : Int32))), some (.int r10), some (.int r22)]) d_X4_bestPart_87 rfl (by rw [kI_1]) (by decide) rfl ?_
              refine g_goto d_X4_bestPart_90 ?_
              refine g_sb [some (.ref 65), some (.int set), some (.int c), some (.int cur), some (.int x4), some (.int r22), some (.int r10), some (.int (x4 + (1 : Int32))), none, none] (by simp [subL]) ?_
              exact ih_12 _ (by rw [← hmu_12]; exact mu_upe h15 (by grind)) x4 r22 r10 (x4 + (1 : Int32)) rfl (lo_upe hl5 h15 (by grind))
            refine g_icmp_gt d_X4_bestPart_58 (fun h58 => ?_) (fun h58 => ?_)
            · skip
              exact J_75
            · skip
              refine g_iload d_X4_bestPart_61 rfl ?_
              refine g_iload d_X4_bestPart_63 rfl ?_
              refine g_icmp_ne d_X4_bestPart_65 (fun h65 => ?_) (fun h65 => ?_)
              · skip
                refine g_iinc (v := (x4 + (1 : Int32))) (L' := [some (.ref 65), some (.int set), some (.int c), some (.int cur), some (.int x1), some (.int x2), some (.int x3), some (.int (x4 + (1 : Int32))), some (.int r10), some (.int r22)]) d_X4_bestPart_87 rfl (by rw [kI_1]) (by decide) rfl ?_
                refine g_goto d_X4_bestPart_90 ?_
                refine g_sb [some (.ref 65), some (.int set), some (.int c), some (.int cur), some (.int x1), some (.int x2), some (.int x3), some (.int (x4 + (1 : Int32))), none, none] (by simp [subL]) ?_
                exact ih_12 _ (by rw [← hmu_12]; exact mu_upe h15 (by grind)) x1 x2 x3 (x4 + (1 : Int32)) rfl (lo_upe hl5 h15 (by grind))
              · skip
                refine g_iload d_X4_bestPart_68 rfl ?_
                refine g_iload d_X4_bestPart_70 rfl ?_
                refine g_icmp_ge d_X4_bestPart_72 (fun h72 => ?_) (fun h72 => ?_)
                · skip
                  refine g_iinc (v := (x4 + (1 : Int32))) (L' := [some (.ref 65), some (.int set), some (.int c), some (.int cur), some (.int x1), some (.int x2), some (.int x3), some (.int (x4 + (1 : Int32))), some (.int r10), some (.int r22)]) d_X4_bestPart_87 rfl (by rw [kI_1]) (by decide) rfl ?_
                  refine g_goto d_X4_bestPart_90 ?_
                  refine g_sb [some (.ref 65), some (.int set), some (.int c), some (.int cur), some (.int x1), some (.int x2), some (.int x3), some (.int (x4 + (1 : Int32))), none, none] (by simp [subL]) ?_
                  exact ih_12 _ (by rw [← hmu_12]; exact mu_upe h15 (by grind)) x1 x2 x3 (x4 + (1 : Int32)) rfl (lo_upe hl5 h15 (by grind))
                · skip
                  exact J_75
          · skip
            refine g_goto d_X4_bestPart_41 ?_
            refine g_iinc (v := (x4 + (1 : Int32))) (L' := [some (.ref 65), some (.int set), some (.int c), some (.int cur), some (.int x1), some (.int x2), some (.int x3), some (.int (x4 + (1 : Int32))), some (.int r10), none]) d_X4_bestPart_87 rfl (by rw [kI_1]) (by decide) rfl ?_
            refine g_goto d_X4_bestPart_90 ?_
            refine g_sb [some (.ref 65), some (.int set), some (.int c), some (.int cur), some (.int x1), some (.int x2), some (.int x3), some (.int (x4 + (1 : Int32))), none, none] (by simp [subL]) ?_
            exact ih_12 _ (by rw [← hmu_12]; exact mu_upe h15 (by grind)) x1 x2 x3 (x4 + (1 : Int32)) rfl (lo_upe hl5 h15 (by grind))
  exact K_12 _ (0 : Int32) (0 : Int32) (0 : Int32) (1 : Int32) rfl (Int32.le_refl _)
set_option maxRecDepth 100000 in
set_option maxHeartbeats 4000000 in
theorem ct_X4_yearsToPay (set : Int32) (c : Int32) (u : Int32) (cur : Int32) (I : Iv) (J : Jv)  : Ct m_X4_yearsToPay [.ref 65, .int set, .int c, .int u, .int cur] SHF I J (fun r S' I' J' => S' = SHF ∧ I = I' ∧ J = J' ∧ ∃ v : Int32, r = some (.int v)) := by
  refine ct_of 3 (by decide +kernel) rfl rfl ?_
  refine g_aload_n d_X4_yearsToPay_0 rfl ?_
  refine g_iload_n d_X4_yearsToPay_1 rfl ?_
  refine g_iload d_X4_yearsToPay_2 rfl ?_
  refine g_V2 d_X4_yearsToPay_4 cs_X4_yearsToPay_X4_yearOf lk_RX4_43 im_X4_yearOf se_X4_yearOf rfl rfl rfl (Nat.le_of_ble_eq_true rfl) ⟨rfl, rfl⟩ ⟨Nat.zero_le _, Nat.zero_le _⟩ (ct_X4_yearOf set cur I J ) (fun r4 S4 Ic2 Jc3 q4_0 => ?_)
  obtain ⟨rfl, rfl, rfl, r5, rfl⟩ := q4_0
  refine g_st (st' := [.int r5]) rfl ?_
  refine g_aload_n d_X4_yearsToPay_7 rfl ?_
  refine g_iload_n d_X4_yearsToPay_8 rfl ?_
  refine g_V1 d_X4_yearsToPay_9 cs_X4_yearsToPay_X4_yearByUse lk_RX4_35 im_X4_yearByUse se_X4_yearByUse rfl rfl rfl (Nat.le_of_ble_eq_true rfl) ⟨rfl, rfl⟩ ⟨Nat.zero_le _, Nat.zero_le _⟩ (ct_X4_yearByUse u I J ) (fun r9 S9 Ic8 Jc9 q9_6 => ?_)
  obtain ⟨rfl, rfl, rfl, r11, rfl⟩ := q9_6
  refine g_st (st' := [.int r11, .int r5]) rfl ?_
  refine g_isub d_X4_yearsToPay_12 ?_
  refine g_i2l d_X4_yearsToPay_13 ?_
  refine g_topJ (fun v13 ev13 => ?_)
  refine g_lstore (L' := [some (.ref 65), some (.int set), some (.int c), some (.int u), some (.int cur), some (.long v13), none, none]) d_X4_yearsToPay_14 (by decide) rfl ?_
  refine g_iconst (v := 1) d_X4_yearsToPay_16 kI_1 ?_
  refine g_istore (L' := [some (.ref 65), some (.int set), some (.int c), some (.int u), some (.int cur), some (.long v13), none, some (.int (1 : Int32))]) d_X4_yearsToPay_17 (by decide) rfl ?_
  have K_19 : ∀ (nu : Nat) (x14 : Int32), mUe (30 : Int32) x14 = nu → ((1 : Int32) ≤ x14) → G m_X4_yearsToPay (rq m_X4_yearsToPay (fun r S' I' J' => S' = SHF ∧ I = I' ∧ J = J' ∧ ∃ v : Int32, r = some (.int v))) 0 0 19 [some (.ref 65), some (.int set), some (.int c), some (.int u), some (.int cur), some (.long v13), none, some (.int x14)] [] SHF I J := by
    intro nu
    induction nu using Nat.strongRecOn with
    | ind nu ih_19 =>
      intro x14 hmu_19 hl15
      refine g_iload d_X4_yearsToPay_19 rfl ?_
      refine g_bipush (v := 30) d_X4_yearsToPay_21 kB_30 ?_
      refine g_icmp_gt d_X4_yearsToPay_23 (fun h23 => ?_) (fun h23 => ?_)
      · skip
        refine g_iconst (v := -1) d_X4_yearsToPay_47 kI_m1 ?_
        exact g_ireturn d_X4_yearsToPay_48 rfl rfl rfl rfl ⟨rfl, rfl, rfl, (-1 : Int32), rfl⟩
      · skip
        refine g_iload d_X4_yearsToPay_26 rfl ?_
        refine g_i2l d_X4_yearsToPay_28 ?_
        refine g_lload d_X4_yearsToPay_29 rfl ?_
        refine g_lmul d_X4_yearsToPay_31 ?_
        refine g_iload_n d_X4_yearsToPay_32 rfl ?_
        refine g_i2l d_X4_yearsToPay_33 ?_
        refine g_lcmp_lt d_X4_yearsToPay_34 d_X4_yearsToPay_35 (fun h35 => ?_) (fun h35 => ?_)
        · skip
          refine g_iinc (v := (x14 + (1 : Int32))) (L' := [some (.ref 65), some (.int set), some (.int c), some (.int u), some (.int cur), some (.long v13), none, some (.int (x14 + (1 : Int32)))]) d_X4_yearsToPay_41 rfl (by rw [kI_1]) (by decide) rfl ?_
          refine g_goto d_X4_yearsToPay_44 ?_
          exact ih_19 _ (by rw [← hmu_19]; exact mu_upe h23 (by decide)) (x14 + (1 : Int32)) rfl (lo_upe hl15 h23 (by decide))
        · skip
          refine g_iload d_X4_yearsToPay_38 rfl ?_
          exact g_ireturn d_X4_yearsToPay_40 rfl rfl rfl rfl ⟨rfl, rfl, rfl, x14, rfl⟩
  exact K_19 _ (1 : Int32) rfl (Int32.le_refl _)
set_option maxRecDepth 100000 in
set_option maxHeartbeats 4000000 in
theorem ct_X4_bestThawing (set : Int32) (n : Int32) (b : Int32) (cur : Int32) (I : Iv) (J : Jv) (hc : cur = 0 ∨ cur = 1) : Ct m_X4_bestThawing [.ref 65, .int set, .int n, .int b, .int cur] SHF I J (fun r S' I' J' => S' = SHF ∧ XT I' J' = XT I J ∧ ∃ v : Int32, r = some (.int v)) := by
  refine ct_of 9 (by decide +kernel) rfl rfl ?_
  have hK0 : XT I J = XT I J := rfl
  refine g_iconst (v := 0) d_X4_bestThawing_0 kI_0 ?_
  refine g_istore (L' := [some (.ref 65), some (.int set), some (.int n), some (.int b), some (.int cur), some (.int (0 : Int32)), none, none, none, none, none, none, none, none]) d_X4_bestThawing_1 (by decide) rfl ?_
  refine g_lconst d_X4_bestThawing_3 kL_0 ?_
  refine g_lstore (L' := [some (.ref 65), some (.int set), some (.int n), some (.int b), some (.int cur), some (.int (0 : Int32)), some (.long (0 : Int64)), none, none, none, none, none, none, none]) d_X4_bestThawing_4 (by decide) rfl ?_
  refine g_iconst (v := 0) d_X4_bestThawing_6 kI_0 ?_
  refine g_istore (L' := [some (.ref 65), some (.int set), some (.int n), some (.int b), some (.int cur), some (.int (0 : Int32)), some (.long (0 : Int64)), none, some (.int (0 : Int32)), none, none, none, none, none]) d_X4_bestThawing_7 (by decide) rfl ?_
  have K_9 : ∀ (nu : Nat) (x1 : Int32) (x2 : Int64) (x3 : Int32) (I4 : Iv) (J5 : Jv), mU n x3 = nu → (XT I4 J5 = XT I J) → ((0 : Int32) ≤ x3) → G m_X4_bestThawing (rq m_X4_bestThawing (fun r S' I' J' => S' = SHF ∧ XT I' J' = XT I J ∧ ∃ v : Int32, r = some (.int v))) 0 0 9 [some (.ref 65), some (.int set), some (.int n), some (.int b), some (.int cur), some (.int x1), some (.long x2), none, some (.int x3), none, none, none, none, none] [] SHF I4 J5 := by
    intro nu
    induction nu using Nat.strongRecOn with
    | ind nu ih_9 =>
      intro x1 x2 x3 I4 J5 hmu_9 hK6 hl7
      refine g_iload d_X4_bestThawing_9 rfl ?_
      refine g_iload_n d_X4_bestThawing_11 rfl ?_
      refine g_icmp_ge d_X4_bestThawing_12 (fun h12 => ?_) (fun h12 => ?_)
      · skip
        refine g_iload d_X4_bestThawing_96 rfl ?_
        exact g_ireturn d_X4_bestThawing_98 rfl rfl rfl rfl ⟨rfl, hK6, x1, rfl⟩
      · skip
        refine g_aload_n d_X4_bestThawing_15 rfl ?_
        refine g_getR d_X4_bestThawing_16 fq_RX4_19 rfl rfl ?_
        refine g_iload_n d_X4_bestThawing_19 rfl ?_
        refine g_iload_n d_X4_bestThawing_20 rfl ?_
        refine g_iload d_X4_bestThawing_21 rfl ?_
        refine g_iload d_X4_bestThawing_23 rfl ?_
        refine g_V4 d_X4_bestThawing_25 cs_X4_bestThawing_X1_usedThawing lk_RX4_58 im_X1_usedThawing se_X1_usedThawing rfl rfl rfl (Nat.le_of_ble_eq_true rfl) ⟨rfl, rfl⟩ ⟨Nat.zero_le _, Nat.zero_le _⟩ (ct_X1_usedThawing set n x3 cur I4 J5 hc) (fun r25 S25 I8 J9 q25_9 => ?_)
        obtain ⟨rfl, hc25_10, r12, rfl⟩ := q25_9
        refine g_st (st' := [.int r12]) rfl ?_
        have hK14 : XT I8 J9 = XT I J := hc25_10.trans hK6
        refine g_i2l d_X4_bestThawing_28 ?_
        refine g_topJ (fun v15 ev15 => ?_)
        refine g_lstore (L' := [some (.ref 65), some (.int set), some (.int n), some (.int b), some (.int cur), some (.int x1), some (.long x2), none, some (.int x3), some (.long v15), none, none, none, none]) d_X4_bestThawing_29 (by decide) rfl ?_
        refine g_iload d_X4_bestThawing_31 rfl ?_
        have J_46 : ∀ (w16 : Int32), G m_X4_bestThawing (rq m_X4_bestThawing (fun r S' I' J' => S' = SHF ∧ XT I' J' = XT I J ∧ ∃ v : Int32, r = some (.int v))) 0 0 46 [some (.ref 65), some (.int set), some (.int n), some (.int b), some (.int cur), some (.int x1), some (.long x2), none, some (.int x3), some (.long v15), none, none, none, none] [.int w16] SHF I8 J9 := by
          intro w16
          refine g_istore (L' := [some (.ref 65), some (.int set), some (.int n), some (.int b), some (.int cur), some (.int x1), some (.long x2), none, some (.int x3), some (.long v15), none, some (.int w16), none, none]) d_X4_bestThawing_46 (by decide) rfl ?_
          refine g_lload d_X4_bestThawing_48 rfl ?_
          refine g_aload_n d_X4_bestThawing_50 rfl ?_
          refine g_getI d_X4_bestThawing_51 fq_RX4_15 rfl rfl ?_
          refine g_i2l d_X4_bestThawing_54 ?_
          refine g_lmul d_X4_bestThawing_55 ?_
          refine g_ldc2 (v := 1000) d_X4_bestThawing_56 tw_929 ?_
          refine g_ldiv d_X4_bestThawing_59 (by decide) ?_
          refine g_iload d_X4_bestThawing_60 rfl ?_
          refine g_i2l d_X4_bestThawing_62 ?_
          refine g_iload_n d_X4_bestThawing_63 rfl ?_
          refine g_i2l d_X4_bestThawing_64 ?_
          refine g_lmul d_X4_bestThawing_65 ?_
          refine g_ladd d_X4_bestThawing_66 ?_
          refine g_topJ (fun v17 ev17 => ?_)
          refine g_lstore (L' := [some (.ref 65), some (.int set), some (.int n), some (.int b), some (.int cur), some (.int x1), some (.long x2), none, some (.int x3), some (.long v15), none, some (.int w16), some (.long v17), none]) d_X4_bestThawing_67 (by decide) rfl ?_
          refine g_iload d_X4_bestThawing_69 rfl ?_
          have J_82 : G m_X4_bestThawing (rq m_X4_bestThawing (fun r S' I' J' => S' = SHF ∧ XT I' J' = XT I J ∧ ∃ v : Int32, r = some (.int v))) 0 0 82 [some (.ref 65), some (.int set), some (.int n), some (.int b), some (.int cur), some (.int x1), some (.long x2), none, some (.int x3), some (.long v15), none, some (.int w16), some (.long v17), none] [] SHF I8 J9 := by
            skip
            refine g_iload d_X4_bestThawing_82 rfl ?_
            refine g_istore (L' := [some (.ref 65), some (.int set), some (.int n), some (.int b), some (.int cur), some (.int x3), some (.long x2), none, some (.int x3), some (.long v15), none, some (.int w16), some (.long v17), none]) d_X4_bestThawing_84 (by decide) rfl ?_
            refine g_lload d_X4_bestThawing_86 rfl ?_
            refine g_lstore (L' := [some (.ref 65), some (.int set), some (.int n), some (.int b), some (.int cur), some (.int x3), some (.long v17), none, some (.int x3), some (.long v15), none, some (.int w16), some (.long v17), none]) d_X4_bestThawing_88 (by decide) rfl ?_
            refine g_iinc (v := (x3 + (1 : Int32))) (L' := [some (.ref 65), some (.int set), some (.int n), some (.int b), some (.int cur), some (.int x3), some (.long v17), none, some (.int (x3 + (1 : Int32))), some (.long v15), none, some (.int w16), some (.long v17), none]) d_X4_bestThawing_90 rfl (by rw [kI_1]) (by decide) rfl ?_
            refine g_goto d_X4_bestThawing_93 ?_
            refine g_sb [some (.ref 65), some (.int set), some (.int n), some (.int b), some (.int cur), some (.int x3), some (.long v17), none, some (.int (x3 + (1 : Int32))), none, none, none, none, none] (by simp [subL]) ?_
            exact ih_9 _ (by rw [← hmu_9]; exact mu_up h12) x3 v17 (x3 + (1 : Int32)) I8 J9 rfl hK14 (lo_up hl7 h12)
          refine g_if_eq d_X4_bestThawing_71 (fun h71 => ?_) (fun h71 => ?_)
          · skip
            exact J_82
          · skip
            refine g_lload d_X4_bestThawing_74 rfl ?_
            refine g_lload d_X4_bestThawing_76 rfl ?_
            refine g_lcmp_ge d_X4_bestThawing_78 d_X4_bestThawing_79 (fun h79 => ?_) (fun h79 => ?_)
            · skip
              refine g_iinc (v := (x3 + (1 : Int32))) (L' := [some (.ref 65), some (.int set), some (.int n), some (.int b), some (.int cur), some (.int x1), some (.long x2), none, some (.int (x3 + (1 : Int32))), some (.long v15), none, some (.int w16), some (.long v17), none]) d_X4_bestThawing_90 rfl (by rw [kI_1]) (by decide) rfl ?_
              refine g_goto d_X4_bestThawing_93 ?_
              refine g_sb [some (.ref 65), some (.int set), some (.int n), some (.int b), some (.int cur), some (.int x1), some (.long x2), none, some (.int (x3 + (1 : Int32))), none, none, none, none, none] (by simp [subL]) ?_
              exact ih_9 _ (by rw [← hmu_9]; exact mu_up h12) x1 x2 (x3 + (1 : Int32)) I8 J9 rfl hK14 (lo_up hl7 h12)
            · skip
              exact J_82
        refine g_if_le d_X4_bestThawing_33 (fun h33 => ?_) (fun h33 => ?_)
        · skip
          refine g_iconst (v := 0) d_X4_bestThawing_45 kI_0 ?_
          exact J_46 ((0 : Int32))
        · skip
          refine g_iload_n d_X4_bestThawing_36 rfl ?_
          refine g_iconst (v := 1) d_X4_bestThawing_37 kI_1 ?_
          refine g_isub d_X4_bestThawing_38 ?_
          refine g_iload d_X4_bestThawing_39 rfl ?_
          refine g_idiv d_X4_bestThawing_41 (by grind) ?_
          refine g_goto d_X4_bestThawing_42 ?_
          exact J_46 (((n - (1 : Int32)) / x3))
  exact K_9 _ (0 : Int32) (0 : Int64) (0 : Int32) I J rfl hK0 (Int32.le_refl _)
