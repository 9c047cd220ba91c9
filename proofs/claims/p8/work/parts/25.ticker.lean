set_option maxRecDepth 100000 in
set_option maxHeartbeats 4000000 in
theorem ct_X3_isOpenIn (t : Int32) (I : Iv) (J : Jv)  : Ct m_X3_isOpenIn [.ref 9, .int t] SHF I J (fun r S' I' J' => S' = SHF ∧ I = I' ∧ J = J' ∧ ∃ v : Int32, r = some (.int v) ∧ (v = 0 ∨ v = 1)) := by
  refine ct_of 0 (by decide +kernel) rfl rfl ?_
  refine g_iload_n d_X3_isOpenIn_0 rfl ?_
  refine g_if_lt d_X3_isOpenIn_1 (fun h1 => ?_) (fun h1 => ?_)
  · skip
    refine g_iconst (v := 0) d_X3_isOpenIn_24 kI_0 ?_
    exact g_ireturn d_X3_isOpenIn_25 rfl rfl rfl rfl ⟨rfl, rfl, rfl, (0 : Int32), rfl, Or.inl rfl⟩
  · skip
    refine g_iload_n d_X3_isOpenIn_4 rfl ?_
    refine g_sipush (v := 288) d_X3_isOpenIn_5 kS_288 ?_
    refine g_icmp_ge d_X3_isOpenIn_8 (fun h8 => ?_) (fun h8 => ?_)
    · skip
      refine g_iconst (v := 0) d_X3_isOpenIn_24 kI_0 ?_
      exact g_ireturn d_X3_isOpenIn_25 rfl rfl rfl rfl ⟨rfl, rfl, rfl, (0 : Int32), rfl, Or.inl rfl⟩
    · skip
      refine g_aload_n d_X3_isOpenIn_11 rfl ?_
      refine g_getR d_X3_isOpenIn_12 fq_RX3_18 rfl rfl ?_
      refine g_iload_n d_X3_isOpenIn_15 rfl ?_
      refine g_baload (N := 288) d_X3_isOpenIn_16 rfl kT_288 (by constructor <;> grind) rfl (fun hz16 => ?_)
      refine g_if_eq d_X3_isOpenIn_17 (fun h17 => ?_) (fun h17 => ?_)
      · skip
        refine g_iconst (v := 0) d_X3_isOpenIn_24 kI_0 ?_
        exact g_ireturn d_X3_isOpenIn_25 rfl rfl rfl rfl ⟨rfl, rfl, rfl, (0 : Int32), rfl, Or.inl rfl⟩
      · skip
        refine g_iconst (v := 1) d_X3_isOpenIn_20 kI_1 ?_
        refine g_goto d_X3_isOpenIn_21 ?_
        exact g_ireturn d_X3_isOpenIn_25 rfl rfl rfl rfl ⟨rfl, rfl, rfl, (1 : Int32), rfl, Or.inr rfl⟩
set_option maxRecDepth 100000 in
set_option maxHeartbeats 4000000 in
theorem ct_X0_sealOf {o : Nat} (I : Iv) (J : Jv) (ho : StA o) : Ct m_X0_sealOf [.ref 7, .ref o] SHF I J (fun r S' I' J' => S' = SHF ∧ I = I' ∧ J = J' ∧ ∃ v : Int32, r = some (.int v)) := by
  refine ct_of 0 (by decide +kernel) rfl rfl ?_
  refine g_aload_n d_X0_sealOf_0 rfl ?_
  refine g_iconst (v := 1) d_X0_sealOf_1 kI_1 ?_
  refine g_V1 d_X0_sealOf_2 cs_X0_sealOf_X6_has lk_RX0_24 im_X6_has se_X6_has (sa0 ho) rfl rfl (Nat.le_of_ble_eq_true rfl) ⟨rfl, rfl⟩ ⟨Nat.zero_le _, Nat.zero_le _⟩ (ct_X6_has (1 : Int32) I J ho) (fun r2 S2 Ic2 Jc3 q2_0 => ?_)
  obtain ⟨rfl, rfl, rfl, r5, rfl, hz2⟩ := q2_0
  refine g_st (st' := [.int r5]) rfl ?_
  refine g_if_eq d_X0_sealOf_5 (fun h5 => ?_) (fun h5 => ?_)
  · skip
    refine g_aload_n d_X0_sealOf_22 rfl ?_
    refine g_getR d_X0_sealOf_23 fq_RX0_9 rfl rfl ?_
    refine g_iconst (v := 2) d_X0_sealOf_26 kI_2 ?_
    refine g_iaload (N := 15) d_X0_sealOf_27 rfl kT_15 ⟨by decide, by decide⟩ kN_2 ?_
    exact g_ireturn d_X0_sealOf_28 rfl rfl rfl rfl ⟨rfl, rfl, rfl, (I 8 2), rfl⟩
  · skip
    refine g_iconst (v := 4) d_X0_sealOf_8 kI_4 ?_
    refine g_aload_n d_X0_sealOf_9 rfl ?_
    refine g_getR d_X0_sealOf_10 fq_RX0_9 rfl rfl ?_
    refine g_iconst (v := 2) d_X0_sealOf_13 kI_2 ?_
    refine g_iaload (N := 15) d_X0_sealOf_14 rfl kT_15 ⟨by decide, by decide⟩ kN_2 ?_
    refine g_imul d_X0_sealOf_15 ?_
    refine g_bipush (v := 12) d_X0_sealOf_16 kB_12 ?_
    refine g_iadd d_X0_sealOf_18 ?_
    refine g_goto d_X0_sealOf_19 ?_
    exact g_ireturn d_X0_sealOf_28 rfl rfl rfl rfl ⟨rfl, rfl, rfl, (((4 : Int32) * (I 8 2)) + (12 : Int32)), rfl⟩
set_option maxRecDepth 100000 in
set_option maxHeartbeats 4000000 in
theorem ct_X0_powerOf {o : Nat} (I : Iv) (J : Jv) (ho : StA o) : Ct m_X0_powerOf [.ref 7, .ref o] SHF I J (fun r S' I' J' => S' = SHF ∧ I = I' ∧ J = J' ∧ ∃ v : Int32, r = some (.int v)) := by
  refine ct_of 1 (by decide +kernel) rfl rfl ?_
  refine g_aload_n d_X0_powerOf_0 rfl ?_
  refine g_getR d_X0_powerOf_1 fq_RX0_9 rfl rfl ?_
  refine g_iconst (v := 0) d_X0_powerOf_4 kI_0 ?_
  refine g_iaload (N := 15) d_X0_powerOf_5 rfl kT_15 ⟨by decide, by decide⟩ kN_0 ?_
  refine g_topI (fun v1 ev1 => ?_)
  refine g_istore_n (L' := [some (.ref 7), some (.ref o), some (.int v1)]) d_X0_powerOf_6 (by decide) rfl ?_
  refine g_aload_n d_X0_powerOf_7 rfl ?_
  refine g_iconst (v := 4) d_X0_powerOf_8 kI_4 ?_
  refine g_V1 d_X0_powerOf_9 cs_X0_powerOf_X6_has lk_RX0_24 im_X6_has se_X6_has (sa0 ho) rfl rfl (Nat.le_of_ble_eq_true rfl) ⟨rfl, rfl⟩ ⟨Nat.zero_le _, Nat.zero_le _⟩ (ct_X6_has (4 : Int32) I J ho) (fun r9 S9 Ic3 Jc4 q9_1 => ?_)
  obtain ⟨rfl, rfl, rfl, r6, rfl, hz9⟩ := q9_1
  refine g_st (st' := [.int r6]) rfl ?_
  have J_25 : ∀ (y8 : Int32), G m_X0_powerOf (rq m_X0_powerOf (fun r S' I' J' => S' = SHF ∧ I = I' ∧ J = J' ∧ ∃ v : Int32, r = some (.int v))) 0 0 25 [some (.ref 7), some (.ref o), some (.int y8)] [] SHF I J := by
    intro y8
    refine g_aload_n d_X0_powerOf_25 rfl ?_
    refine g_bipush (v := 8) d_X0_powerOf_26 kB_8 ?_
    refine g_V1 d_X0_powerOf_28 cs_X0_powerOf_X6_has lk_RX0_24 im_X6_has se_X6_has (sa0 ho) rfl rfl (Nat.le_of_ble_eq_true rfl) ⟨rfl, rfl⟩ ⟨Nat.zero_le _, Nat.zero_le _⟩ (ct_X6_has (8 : Int32) I J ho) (fun r28 S28 Ic10 Jc11 q28_8 => ?_)
    obtain ⟨rfl, rfl, rfl, r13, rfl, hz28⟩ := q28_8
    refine g_st (st' := [.int r13]) rfl ?_
    refine g_if_eq d_X0_powerOf_31 (fun h31 => ?_) (fun h31 => ?_)
    · skip
      refine g_iload_n d_X0_powerOf_44 rfl ?_
      exact g_ireturn d_X0_powerOf_45 rfl rfl rfl rfl ⟨rfl, rfl, rfl, y8, rfl⟩
    · skip
      refine g_iload_n d_X0_powerOf_34 rfl ?_
      refine g_iload_n d_X0_powerOf_35 rfl ?_
      refine g_bipush (v := 45) d_X0_powerOf_36 kB_45 ?_
      refine g_imul d_X0_powerOf_38 ?_
      refine g_bipush (v := 100) d_X0_powerOf_39 kB_100 ?_
      refine g_idiv d_X0_powerOf_41 (by decide) ?_
      refine g_isub d_X0_powerOf_42 ?_
      refine g_topI (fun v15 ev15 => ?_)
      refine g_istore_n (L' := [some (.ref 7), some (.ref o), some (.int v15)]) d_X0_powerOf_43 (by decide) rfl ?_
      refine g_iload_n d_X0_powerOf_44 rfl ?_
      exact g_ireturn d_X0_powerOf_45 rfl rfl rfl rfl ⟨rfl, rfl, rfl, v15, rfl⟩
  refine g_if_eq d_X0_powerOf_12 (fun h12 => ?_) (fun h12 => ?_)
  · skip
    exact J_25 v1
  · skip
    refine g_iload_n d_X0_powerOf_15 rfl ?_
    refine g_iload_n d_X0_powerOf_16 rfl ?_
    refine g_bipush (v := 50) d_X0_powerOf_17 kB_50 ?_
    refine g_imul d_X0_powerOf_19 ?_
    refine g_bipush (v := 100) d_X0_powerOf_20 kB_100 ?_
    refine g_idiv d_X0_powerOf_22 (by decide) ?_
    refine g_isub d_X0_powerOf_23 ?_
    refine g_topI (fun v16 ev16 => ?_)
    refine g_istore_n (L' := [some (.ref 7), some (.ref o), some (.int v16)]) d_X0_powerOf_24 (by decide) rfl ?_
    exact J_25 v16
set_option maxRecDepth 100000 in
set_option maxHeartbeats 4000000 in
theorem ct_X0_roomOf {o : Nat} (I : Iv) (J : Jv) (ho : StA o) : Ct m_X0_roomOf [.ref 7, .ref o] SHF I J (fun r S' I' J' => S' = SHF ∧ I = I' ∧ J = J' ∧ ∃ v : Int32, r = some (.int v)) := by
  refine ct_of 3 (by decide +kernel) rfl rfl ?_
  refine g_aload_n d_X0_roomOf_0 rfl ?_
  refine g_getR d_X0_roomOf_1 fq_RX0_9 rfl rfl ?_
  refine g_bipush (v := 11) d_X0_roomOf_4 kB_11 ?_
  refine g_iaload (N := 15) d_X0_roomOf_6 rfl kT_15 ⟨by decide, by decide⟩ kN_11 ?_
  refine g_bipush (v := 10) d_X0_roomOf_7 kB_10 ?_
  refine g_imul d_X0_roomOf_9 ?_
  refine g_topI (fun v1 ev1 => ?_)
  refine g_istore_n (L' := [some (.ref 7), some (.ref o), some (.int v1), none, none]) d_X0_roomOf_10 (by decide) rfl ?_
  refine g_aload_n d_X0_roomOf_11 rfl ?_
  refine g_V0 d_X0_roomOf_12 cs_X0_roomOf_X6_tickOfDay lk_RX0_30 im_X6_tickOfDay se_X6_tickOfDay (sa0 ho) rfl rfl (Nat.le_of_ble_eq_true rfl) ⟨rfl, rfl⟩ ⟨Nat.zero_le _, Nat.zero_le _⟩ (ct_X6_tickOfDay  I J ho) (fun r12 S12 Ic3 Jc4 q12_1 => ?_)
  obtain ⟨rfl, rfl, rfl, r6, rfl, hr12_6⟩ := q12_1
  refine g_st (st' := [.int r6]) rfl ?_
  refine g_bipush (v := 12) d_X0_roomOf_15 kB_12 ?_
  refine g_idiv d_X0_roomOf_17 (by decide) ?_
  refine g_topI (fun v8 ev8 => ?_)
  refine g_istore_n (L' := [some (.ref 7), some (.ref o), some (.int v1), some (.int v8), none]) d_X0_roomOf_18 (by decide) rfl ?_
  refine g_aload_n d_X0_roomOf_19 rfl ?_
  refine g_getR d_X0_roomOf_20 fq_RX0_9 rfl rfl ?_
  refine g_bipush (v := 12) d_X0_roomOf_23 kB_12 ?_
  refine g_iaload (N := 15) d_X0_roomOf_25 rfl kT_15 ⟨by decide, by decide⟩ kN_12 ?_
  refine g_iconst (v := -1) d_X0_roomOf_26 kI_m1 ?_
  have J_57 : ∀ (w9 : Int32), (w9 = 0 ∨ w9 = 1) → G m_X0_roomOf (rq m_X0_roomOf (fun r S' I' J' => S' = SHF ∧ I = I' ∧ J = J' ∧ ∃ v : Int32, r = some (.int v))) 0 0 57 [some (.ref 7), some (.ref o), some (.int v1), some (.int v8), none] [.int w9] SHF I J := by
    intro w9 hw9
    refine g_istore (L' := [some (.ref 7), some (.ref o), some (.int v1), some (.int v8), some (.int w9)]) d_X0_roomOf_57 (by decide) rfl ?_
    refine g_iload d_X0_roomOf_59 rfl ?_
    have J_77 : ∀ (y10 : Int32), G m_X0_roomOf (rq m_X0_roomOf (fun r S' I' J' => S' = SHF ∧ I = I' ∧ J = J' ∧ ∃ v : Int32, r = some (.int v))) 0 0 77 [some (.ref 7), some (.ref o), some (.int y10), some (.int v8), some (.int w9)] [] SHF I J := by
      intro y10
      refine g_aload_n d_X0_roomOf_77 rfl ?_
      refine g_bipush (v := 64) d_X0_roomOf_78 kB_64 ?_
      refine g_V1 d_X0_roomOf_80 cs_X0_roomOf_X6_has lk_RX0_24 im_X6_has se_X6_has (sa0 ho) rfl rfl (Nat.le_of_ble_eq_true rfl) ⟨rfl, rfl⟩ ⟨Nat.zero_le _, Nat.zero_le _⟩ (ct_X6_has (64 : Int32) I J ho) (fun r80 S80 Ic12 Jc13 q80_10 => ?_)
      obtain ⟨rfl, rfl, rfl, r15, rfl, hz80⟩ := q80_10
      refine g_st (st' := [.int r15]) rfl ?_
      refine g_if_eq d_X0_roomOf_83 (fun h83 => ?_) (fun h83 => ?_)
      · skip
        refine g_iload_n d_X0_roomOf_94 rfl ?_
        exact g_ireturn d_X0_roomOf_95 rfl rfl rfl rfl ⟨rfl, rfl, rfl, y10, rfl⟩
      · skip
        refine g_iload_n d_X0_roomOf_86 rfl ?_
        refine g_sipush (v := 800) d_X0_roomOf_87 kS_800 ?_
        refine g_iadd d_X0_roomOf_90 ?_
        refine g_goto d_X0_roomOf_91 ?_
        exact g_ireturn d_X0_roomOf_95 rfl rfl rfl rfl ⟨rfl, rfl, rfl, (y10 + (800 : Int32)), rfl⟩
    refine g_if_eq d_X0_roomOf_61 (fun h61 => ?_) (fun h61 => ?_)
    · skip
      exact J_77 v1
    · skip
      refine g_iload_n d_X0_roomOf_64 rfl ?_
      refine g_aload_n d_X0_roomOf_65 rfl ?_
      refine g_getR d_X0_roomOf_66 fq_RX0_9 rfl rfl ?_
      refine g_bipush (v := 14) d_X0_roomOf_69 kB_14 ?_
      refine g_iaload (N := 15) d_X0_roomOf_71 rfl kT_15 ⟨by decide, by decide⟩ kN_14 ?_
      refine g_bipush (v := 10) d_X0_roomOf_72 kB_10 ?_
      refine g_imul d_X0_roomOf_74 ?_
      refine g_iadd d_X0_roomOf_75 ?_
      refine g_topI (fun v17 ev17 => ?_)
      refine g_istore_n (L' := [some (.ref 7), some (.ref o), some (.int v17), some (.int v8), some (.int w9)]) d_X0_roomOf_76 (by decide) rfl ?_
      exact J_77 v17
  have J_56 : G m_X0_roomOf (rq m_X0_roomOf (fun r S' I' J' => S' = SHF ∧ I = I' ∧ J = J' ∧ ∃ v : Int32, r = some (.int v))) 0 0 56 [some (.ref 7), some (.ref o), some (.int v1), some (.int v8), none] [] SHF I J := by
    skip
    refine g_iconst (v := 0) d_X0_roomOf_56 kI_0 ?_
    exact J_57 ((0 : Int32)) (Or.inl rfl)
  refine g_icmp_eq d_X0_roomOf_27 (fun h27 => ?_) (fun h27 => ?_)
  · skip
    exact J_56
  · skip
    refine g_aload_n d_X0_roomOf_30 rfl ?_
    refine g_getR d_X0_roomOf_31 fq_RX0_9 rfl rfl ?_
    refine g_bipush (v := 12) d_X0_roomOf_34 kB_12 ?_
    refine g_iaload (N := 15) d_X0_roomOf_36 rfl kT_15 ⟨by decide, by decide⟩ kN_12 ?_
    refine g_iload_n d_X0_roomOf_37 rfl ?_
    refine g_icmp_gt d_X0_roomOf_38 (fun h38 => ?_) (fun h38 => ?_)
    · skip
      exact J_56
    · skip
      refine g_iload_n d_X0_roomOf_41 rfl ?_
      refine g_aload_n d_X0_roomOf_42 rfl ?_
      refine g_getR d_X0_roomOf_43 fq_RX0_9 rfl rfl ?_
      refine g_bipush (v := 13) d_X0_roomOf_46 kB_13 ?_
      refine g_iaload (N := 15) d_X0_roomOf_48 rfl kT_15 ⟨by decide, by decide⟩ kN_13 ?_
      refine g_icmp_ge d_X0_roomOf_49 (fun h49 => ?_) (fun h49 => ?_)
      · skip
        exact J_56
      · skip
        refine g_iconst (v := 1) d_X0_roomOf_52 kI_1 ?_
        refine g_goto d_X0_roomOf_53 ?_
        exact J_57 ((1 : Int32)) (Or.inr rfl)
set_option maxRecDepth 100000 in
set_option maxHeartbeats 4000000 in
theorem ct_X7_lookAtWarmths {o : Nat} (I : Iv) (J : Jv) (ho : StA o) : Ct m_X7_lookAtWarmths [.ref 13, .ref o] SHF I J (fun r S' I' J' => S' = SHF ∧ FS o I J I' J' ∧ r = none) := by
  refine ct_of 1 (by decide +kernel) rfl rfl ?_
  have hK0 : FS o I J I J := fs_rfl
  refine g_iconst (v := 0) d_X7_lookAtWarmths_0 kI_0 ?_
  refine g_istore_n (L' := [some (.ref 13), some (.ref o), some (.int (0 : Int32))]) d_X7_lookAtWarmths_1 (by decide) rfl ?_
  have K_2 : ∀ (nu : Nat) (x1 : Int32) (I2 : Iv), mU (12 : Int32) x1 = nu → (FS o I J I2 J) → ((0 : Int32) ≤ x1) → G m_X7_lookAtWarmths (rq m_X7_lookAtWarmths (fun r S' I' J' => S' = SHF ∧ FS o I J I' J' ∧ r = none)) 0 0 2 [some (.ref 13), some (.ref o), some (.int x1)] [] SHF I2 J := by
    intro nu
    induction nu using Nat.strongRecOn with
    | ind nu ih_2 =>
      intro x1 I2 hmu_2 hK3 hl4
      refine g_iload_n d_X7_lookAtWarmths_2 rfl ?_
      refine g_bipush (v := 12) d_X7_lookAtWarmths_3 kB_12 ?_
      refine g_icmp_ge d_X7_lookAtWarmths_5 (fun h5 => ?_) (fun h5 => ?_)
      · skip
        exact g_return d_X7_lookAtWarmths_25 rfl rfl rfl ⟨rfl, hK3, rfl⟩
      · skip
        refine g_aload_n d_X7_lookAtWarmths_8 rfl ?_
        refine g_getR d_X7_lookAtWarmths_9 fq_RX7_9 rfl rfl ?_
        refine g_iload_n d_X7_lookAtWarmths_12 rfl ?_
        refine g_aload_n d_X7_lookAtWarmths_13 rfl ?_
        refine g_iload_n d_X7_lookAtWarmths_14 rfl ?_
        refine g_V1 d_X7_lookAtWarmths_15 cs_X7_lookAtWarmths_X6_warmthOf lk_RX7_92 im_X6_warmthOf se_X6_warmthOf (sa0 ho) rfl rfl (Nat.le_of_ble_eq_true rfl) ⟨rfl, rfl⟩ ⟨Nat.zero_le _, Nat.zero_le _⟩ (ct_X6_warmthOf x1 I2 J ho) (fun r15 S15 Ic6 Jc7 q15_4 => ?_)
        obtain ⟨rfl, rfl, rfl, r9, rfl⟩ := q15_4
        refine g_st (st' := [.int r9, .int x1, .ref 14]) rfl ?_
        refine g_iastore (N := 12) d_X7_lookAtWarmths_18 rfl kT_12 ⟨hl4, Int32.not_le.mp h5⟩ rfl  ?_
        refine g_nmI (fun I11 eI11 => ?_)
        have hK12 : FS o I J I11 J := (by rw [eI11]; exact fs_wI ho hK3 (by omega))
        refine g_iinc (v := (x1 + (1 : Int32))) (L' := [some (.ref 13), some (.ref o), some (.int (x1 + (1 : Int32)))]) d_X7_lookAtWarmths_19 rfl (by rw [kI_1]) (by decide) rfl ?_
        refine g_goto d_X7_lookAtWarmths_22 ?_
        exact ih_2 _ (by rw [← hmu_2]; exact mu_up h5) (x1 + (1 : Int32)) I11 rfl hK12 (lo_up hl4 h5)
  exact K_2 _ (0 : Int32) I rfl hK0 (Int32.le_refl _)
set_option maxRecDepth 100000 in
set_option maxHeartbeats 4000000 in
theorem ct_X7_switchMachine (bulb : Int32) (less : Int32) {o : Nat} (I : Iv) (J : Jv) (ho : StA o) : Ct m_X7_switchMachine [.ref 13, .ref o, .int bulb, .int less] SHF I J (fun r S' I' J' => S' = SHF ∧ FS o I J I' J' ∧ r = none) := by
  refine ct_of 2 (by decide +kernel) rfl rfl ?_
  have hK0 : FS o I J I J := fs_rfl
  refine g_iload_n d_X7_switchMachine_0 rfl ?_
  have J_19 : ∀ (w1 : Int32), G m_X7_switchMachine (rq m_X7_switchMachine (fun r S' I' J' => S' = SHF ∧ FS o I J I' J' ∧ r = none)) 0 0 19 [some (.ref 13), some (.ref o), some (.int bulb), some (.int less), none, none] [.int w1] SHF I J := by
    intro w1
    refine g_istore (L' := [some (.ref 13), some (.ref o), some (.int bulb), some (.int less), some (.int w1), none]) d_X7_switchMachine_19 (by decide) rfl ?_
    refine g_aload_n d_X7_switchMachine_21 rfl ?_
    refine g_aload_n d_X7_switchMachine_22 rfl ?_
    refine g_getZ d_X7_switchMachine_23 fq_RX7_96 (sa0 ho) rfl (fun hz23 => ?_)
    have J_49 : ∀ (w2 : Int32), G m_X7_switchMachine (rq m_X7_switchMachine (fun r S' I' J' => S' = SHF ∧ FS o I J I' J' ∧ r = none)) 0 0 49 [some (.ref 13), some (.ref o), some (.int bulb), some (.int less), some (.int w1), none] [.int w2, .ref o] SHF I J := by
      intro w2
      refine g_putI d_X7_switchMachine_49 fq_RX7_99 (sa0 ho) rfl ?_
      refine g_nmI (fun I3 eI3 => ?_)
      have hK4 : FS o I J I3 J := (by rw [eI3]; exact fs_wI ho hK0 (by omega))
      refine g_aload_n d_X7_switchMachine_52 rfl ?_
      refine g_getZ d_X7_switchMachine_53 fq_RX7_76 (sa0 ho) rfl (fun hz53 => ?_)
      refine g_topI (fun v5 ev5 => ?_)
      refine g_istore (L' := [some (.ref 13), some (.ref o), some (.int bulb), some (.int less), some (.int w1), some (.int v5)]) d_X7_switchMachine_56 (by decide) rfl ?_
      refine g_aload_n d_X7_switchMachine_58 rfl ?_
      refine g_getZ d_X7_switchMachine_59 fq_RX7_66 (sa0 ho) rfl (fun hz59 => ?_)
      have J_139 : ∀ (I6 : Iv), (FS o I J I6 J) → G m_X7_switchMachine (rq m_X7_switchMachine (fun r S' I' J' => S' = SHF ∧ FS o I J I' J' ∧ r = none)) 0 0 139 [some (.ref 13), some (.ref o), some (.int bulb), some (.int less), some (.int w1), some (.int v5)] [] SHF I6 J := by
        intro I6 hK7
        refine g_aload_n d_X7_switchMachine_139 rfl ?_
        refine g_getZ d_X7_switchMachine_140 fq_RX7_76 (sa0 ho) rfl (fun hz140 => ?_)
        refine g_if_eq d_X7_switchMachine_143 (fun h143 => ?_) (fun h143 => ?_)
        · skip
          exact g_return d_X7_switchMachine_161 rfl rfl rfl ⟨rfl, hK7, rfl⟩
        · skip
          refine g_iload d_X7_switchMachine_146 rfl ?_
          refine g_if_ne d_X7_switchMachine_148 (fun h148 => ?_) (fun h148 => ?_)
          · skip
            exact g_return d_X7_switchMachine_161 rfl rfl rfl ⟨rfl, hK7, rfl⟩
          · skip
            refine g_aload_n d_X7_switchMachine_151 rfl ?_
            refine g_getR d_X7_switchMachine_152 fq_RX7_89 (sa0 ho) rfl ?_
            refine g_iconst (v := 2) d_X7_switchMachine_155 kI_2 ?_
            refine g_dup2 d_X7_switchMachine_156 rfl rfl ?_
            refine g_iaload (N := 8) d_X7_switchMachine_157 (sa8 ho) kT_8 ⟨by decide, by decide⟩ kN_2 ?_
            refine g_iconst (v := 1) d_X7_switchMachine_158 kI_1 ?_
            refine g_iadd d_X7_switchMachine_159 ?_
            refine g_iastore (N := 8) d_X7_switchMachine_160 (sa8 ho) kT_8 ⟨by decide, by decide⟩ kN_2  ?_
            refine g_nmI (fun I8 eI8 => ?_)
            have hK9 : FS o I J I8 J := (by rw [eI8]; exact fs_wI ho hK7 (by omega))
            exact g_return d_X7_switchMachine_161 rfl rfl rfl ⟨rfl, hK9, rfl⟩
      refine g_if_ne d_X7_switchMachine_62 (fun h62 => ?_) (fun h62 => ?_)
      · skip
        refine g_aload_n d_X7_switchMachine_73 rfl ?_
        refine g_bipush (v := 16) d_X7_switchMachine_74 kB_16 ?_
        refine g_V1 d_X7_switchMachine_76 cs_X7_switchMachine_X6_has lk_RX7_70 im_X6_has se_X6_has (sa0 ho) rfl rfl (Nat.le_of_ble_eq_true rfl) ⟨rfl, rfl⟩ ⟨Nat.zero_le _, Nat.zero_le _⟩ (ct_X6_has (16 : Int32) I3 J ho) (fun r76 S76 Ic11 Jc12 q76_9 => ?_)
        obtain ⟨rfl, rfl, rfl, r14, rfl, hz76⟩ := q76_9
        refine g_st (st' := [.int r14]) rfl ?_
        have J_104 : G m_X7_switchMachine (rq m_X7_switchMachine (fun r S' I' J' => S' = SHF ∧ FS o I J I' J' ∧ r = none)) 0 0 104 [some (.ref 13), some (.ref o), some (.int bulb), some (.int less), some (.int w1), some (.int v5)] [] SHF I3 J := by
          skip
          refine g_aload_n d_X7_switchMachine_104 rfl ?_
          refine g_iconst (v := 1) d_X7_switchMachine_105 kI_1 ?_
          refine g_putZ d_X7_switchMachine_106 fq_RX7_76 (sa0 ho) rfl (Or.inr rfl) ?_
          refine g_nmI (fun I16 eI16 => ?_)
          have hK17 : FS o I J I16 J := (by rw [eI16]; exact fs_wI ho hK4 (by omega))
          refine g_goto d_X7_switchMachine_109 ?_
          exact J_139 I16 hK17
        refine g_if_ne d_X7_switchMachine_79 (fun h79 => ?_) (fun h79 => ?_)
        · skip
          exact J_104
        · skip
          refine g_aload_n d_X7_switchMachine_82 rfl ?_
          refine g_getI d_X7_switchMachine_83 fq_RX7_99 (sa0 ho) rfl ?_
          refine g_aload_n d_X7_switchMachine_86 rfl ?_
          refine g_getR d_X7_switchMachine_87 fq_RX7_19 rfl rfl ?_
          refine g_getR d_X7_switchMachine_90 fq_RX7_60 rfl rfl ?_
          refine g_bipush (v := 6) d_X7_switchMachine_93 kB_6 ?_
          refine g_iaload (N := 15) d_X7_switchMachine_95 rfl kT_15 ⟨by decide, by decide⟩ kN_6 ?_
          refine g_iload_n d_X7_switchMachine_96 rfl ?_
          refine g_isub d_X7_switchMachine_97 ?_
          refine g_bipush (v := 10) d_X7_switchMachine_98 kB_10 ?_
          refine g_imul d_X7_switchMachine_100 ?_
          refine g_icmp_lt d_X7_switchMachine_101 (fun h101 => ?_) (fun h101 => ?_)
          · skip
            refine g_aload_n d_X7_switchMachine_112 rfl ?_
            refine g_getI d_X7_switchMachine_113 fq_RX7_99 (sa0 ho) rfl ?_
            refine g_aload_n d_X7_switchMachine_116 rfl ?_
            refine g_getR d_X7_switchMachine_117 fq_RX7_19 rfl rfl ?_
            refine g_getR d_X7_switchMachine_120 fq_RX7_60 rfl rfl ?_
            refine g_bipush (v := 7) d_X7_switchMachine_123 kB_7 ?_
            refine g_iaload (N := 15) d_X7_switchMachine_125 rfl kT_15 ⟨by decide, by decide⟩ kN_7 ?_
            refine g_iload_n d_X7_switchMachine_126 rfl ?_
            refine g_isub d_X7_switchMachine_127 ?_
            refine g_bipush (v := 10) d_X7_switchMachine_128 kB_10 ?_
            refine g_imul d_X7_switchMachine_130 ?_
            refine g_icmp_gt d_X7_switchMachine_131 (fun h131 => ?_) (fun h131 => ?_)
            · skip
              exact J_139 I3 hK4
            · skip
              refine g_aload_n d_X7_switchMachine_134 rfl ?_
              refine g_iconst (v := 0) d_X7_switchMachine_135 kI_0 ?_
              refine g_putZ d_X7_switchMachine_136 fq_RX7_76 (sa0 ho) rfl (Or.inl rfl) ?_
              refine g_nmI (fun I18 eI18 => ?_)
              have hK19 : FS o I J I18 J := (by rw [eI18]; exact fs_wI ho hK4 (by omega))
              exact J_139 I18 hK19
          · skip
            exact J_104
      · skip
        refine g_aload_n d_X7_switchMachine_65 rfl ?_
        refine g_iconst (v := 0) d_X7_switchMachine_66 kI_0 ?_
        refine g_putZ d_X7_switchMachine_67 fq_RX7_76 (sa0 ho) rfl (Or.inl rfl) ?_
        refine g_nmI (fun I20 eI20 => ?_)
        have hK21 : FS o I J I20 J := (by rw [eI20]; exact fs_wI ho hK4 (by omega))
        refine g_goto d_X7_switchMachine_70 ?_
        exact J_139 I20 hK21
    refine g_if_eq d_X7_switchMachine_26 (fun h26 => ?_) (fun h26 => ?_)
    · skip
      refine g_iload d_X7_switchMachine_47 rfl ?_
      exact J_49 w1
    · skip
      refine g_aload_n d_X7_switchMachine_29 rfl ?_
      refine g_getI d_X7_switchMachine_30 fq_RX7_99 (sa0 ho) rfl ?_
      refine g_iload d_X7_switchMachine_33 rfl ?_
      refine g_aload_n d_X7_switchMachine_35 rfl ?_
      refine g_getI d_X7_switchMachine_36 fq_RX7_99 (sa0 ho) rfl ?_
      refine g_isub d_X7_switchMachine_39 ?_
      refine g_bipush (v := 8) d_X7_switchMachine_40 kB_8 ?_
      refine g_idiv d_X7_switchMachine_42 (by decide) ?_
      refine g_iadd d_X7_switchMachine_43 ?_
      refine g_goto d_X7_switchMachine_44 ?_
      exact J_49 (((I o 9) + ((w1 - (I o 9)) / (8 : Int32))))
  have J_18 : G m_X7_switchMachine (rq m_X7_switchMachine (fun r S' I' J' => S' = SHF ∧ FS o I J I' J' ∧ r = none)) 0 0 18 [some (.ref 13), some (.ref o), some (.int bulb), some (.int less), none, none] [] SHF I J := by
    skip
    refine g_iconst (v := 0) d_X7_switchMachine_18 kI_0 ?_
    exact J_19 ((0 : Int32))
  refine g_if_lt d_X7_switchMachine_1 (fun h1 => ?_) (fun h1 => ?_)
  · skip
    exact J_18
  · skip
    refine g_iload_n d_X7_switchMachine_4 rfl ?_
    refine g_iconst (v := 3) d_X7_switchMachine_5 kI_3 ?_
    refine g_icmp_ge d_X7_switchMachine_6 (fun h6 => ?_) (fun h6 => ?_)
    · skip
      exact J_18
    · skip
      refine g_aload_n d_X7_switchMachine_9 rfl ?_
      refine g_getR d_X7_switchMachine_10 fq_RX7_9 rfl rfl ?_
      refine g_iload_n d_X7_switchMachine_13 rfl ?_
      refine g_iaload (N := 12) d_X7_switchMachine_14 rfl kT_12 (by constructor <;> grind) rfl ?_
      refine g_goto d_X7_switchMachine_15 ?_
      exact J_19 ((I 14 bulb.toNatClampNeg))
set_option maxRecDepth 100000 in
set_option maxHeartbeats 4000000 in
theorem ct_X7_flow (ease : Int32) (from_ : Int32) (to_ : Int32) (fur : Int32) (I : Iv) (J : Jv)  : Ct m_X7_flow [.ref 13, .int ease, .int from_, .int to_, .int fur] SHF I J (fun r S' I' J' => S' = SHF ∧ (I = I' ∧ ∀ b, b ≠ 15 → J' b = J b) ∧ r = none) := by
  refine ct_of 4 (by decide +kernel) rfl rfl ?_
  have hK0 : (I = I ∧ ∀ b, b ≠ 15 → J b = J b) := ⟨rfl, fun _ _ => rfl⟩
  refine g_iload_n d_X7_flow_0 rfl ?_
  refine g_if_lt d_X7_flow_1 (fun h1 => ?_) (fun h1 => ?_)
  · skip
    exact g_return d_X7_flow_25 rfl rfl rfl ⟨rfl, hK0, rfl⟩
  · skip
    refine g_iload_n d_X7_flow_4 rfl ?_
    refine g_bipush (v := 12) d_X7_flow_5 kB_12 ?_
    refine g_icmp_ge d_X7_flow_7 (fun h7 => ?_) (fun h7 => ?_)
    · skip
      exact g_return d_X7_flow_25 rfl rfl rfl ⟨rfl, hK0, rfl⟩
    · skip
      refine g_iload_n d_X7_flow_10 rfl ?_
      refine g_if_lt d_X7_flow_11 (fun h11 => ?_) (fun h11 => ?_)
      · skip
        exact g_return d_X7_flow_25 rfl rfl rfl ⟨rfl, hK0, rfl⟩
      · skip
        refine g_iload_n d_X7_flow_14 rfl ?_
        refine g_bipush (v := 12) d_X7_flow_15 kB_12 ?_
        refine g_icmp_ge d_X7_flow_17 (fun h17 => ?_) (fun h17 => ?_)
        · skip
          exact g_return d_X7_flow_25 rfl rfl rfl ⟨rfl, hK0, rfl⟩
        · skip
          refine g_iload d_X7_flow_20 rfl ?_
          refine g_if_ge d_X7_flow_22 (fun h22 => ?_) (fun h22 => ?_)
          · skip
            refine g_iload_n d_X7_flow_26 rfl ?_
            refine g_i2l d_X7_flow_27 ?_
            refine g_aload_n d_X7_flow_28 rfl ?_
            refine g_getR d_X7_flow_29 fq_RX7_9 rfl rfl ?_
            refine g_iload_n d_X7_flow_32 rfl ?_
            refine g_iaload (N := 12) d_X7_flow_33 rfl kT_12 (by constructor <;> grind) rfl ?_
            refine g_aload_n d_X7_flow_34 rfl ?_
            refine g_getR d_X7_flow_35 fq_RX7_9 rfl rfl ?_
            refine g_iload_n d_X7_flow_38 rfl ?_
            refine g_iaload (N := 12) d_X7_flow_39 rfl kT_12 (by constructor <;> grind) rfl ?_
            refine g_isub d_X7_flow_40 ?_
            refine g_i2l d_X7_flow_41 ?_
            refine g_lmul d_X7_flow_42 ?_
            refine g_ldc2 (v := 100) d_X7_flow_43 tw_682 ?_
            refine g_ldiv d_X7_flow_46 (by decide) ?_
            refine g_topJ (fun v1 ev1 => ?_)
            refine g_lstore (L' := [some (.ref 13), some (.int ease), some (.int from_), some (.int to_), some (.int fur), some (.long v1), none, none, none]) d_X7_flow_47 (by decide) rfl ?_
            refine g_lload d_X7_flow_49 rfl ?_
            refine g_ldc2 (v := 1000) d_X7_flow_51 tw_687 ?_
            refine g_lmul d_X7_flow_54 ?_
            refine g_sipush (v := 1000) d_X7_flow_55 kS_1000 ?_
            refine g_iload d_X7_flow_58 rfl ?_
            refine g_iadd d_X7_flow_60 ?_
            refine g_i2l d_X7_flow_61 ?_
            refine g_ldiv d_X7_flow_62 (ne_i2l0 (by grind)) ?_
            refine g_topJ (fun v2 ev2 => ?_)
            refine g_lstore (L' := [some (.ref 13), some (.int ease), some (.int from_), some (.int to_), some (.int fur), some (.long v1), none, some (.long v2), none]) d_X7_flow_63 (by decide) rfl ?_
            refine g_aload_n d_X7_flow_65 rfl ?_
            refine g_getR d_X7_flow_66 fq_RX7_15 rfl rfl ?_
            refine g_iload_n d_X7_flow_69 rfl ?_
            refine g_dup2 d_X7_flow_70 rfl rfl ?_
            refine g_laload (N := 12) d_X7_flow_71 rfl kT_12 (by constructor <;> grind) rfl ?_
            refine g_lload d_X7_flow_72 rfl ?_
            refine g_lsub d_X7_flow_74 ?_
            refine g_lastore (N := 12) d_X7_flow_75 rfl kT_12 (by constructor <;> grind) rfl  ?_
            refine g_nmJ (fun J3 eJ3 => ?_)
            have hK4 : (I = I ∧ ∀ b, b ≠ 15 → J3 b = J b) := ⟨hK0.1, fun b hb => by rw [eJ3]; exact (wJ_row hb).trans (hK0.2 b hb)⟩
            refine g_aload_n d_X7_flow_76 rfl ?_
            refine g_getR d_X7_flow_77 fq_RX7_15 rfl rfl ?_
            refine g_iload_n d_X7_flow_80 rfl ?_
            refine g_dup2 d_X7_flow_81 rfl rfl ?_
            refine g_laload (N := 12) d_X7_flow_82 rfl kT_12 (by constructor <;> grind) rfl ?_
            refine g_lload d_X7_flow_83 rfl ?_
            refine g_ladd d_X7_flow_85 ?_
            refine g_lastore (N := 12) d_X7_flow_86 rfl kT_12 (by constructor <;> grind) rfl  ?_
            refine g_nmJ (fun J5 eJ5 => ?_)
            have hK6 : (I = I ∧ ∀ b, b ≠ 15 → J5 b = J b) := ⟨hK4.1, fun b hb => by rw [eJ5]; exact (wJ_row hb).trans (hK4.2 b hb)⟩
            exact g_return d_X7_flow_87 rfl rfl rfl ⟨rfl, hK6, rfl⟩
          · skip
            exact g_return d_X7_flow_25 rfl rfl rfl ⟨rfl, hK0, rfl⟩
set_option maxRecDepth 100000 in
set_option maxHeartbeats 4000000 in
theorem ct_X7_exchange (room : Int32) (leak : Int32) {o : Nat} (I : Iv) (J : Jv) (ho : StA o) : Ct m_X7_exchange [.ref 13, .ref o, .int room, .int leak] SHF I J (fun r S' I' J' => S' = SHF ∧ FS o I J I' J' ∧ r = none) := by
  refine ct_of 3 (by decide +kernel) rfl rfl ?_
  have hK0 : FS o I J I J := fs_rfl
  refine g_aload_n d_X7_exchange_0 rfl ?_
  refine g_getR d_X7_exchange_1 fq_RX7_15 rfl rfl ?_
  refine g_lconst d_X7_exchange_4 kL_0 ?_
  refine g_S2 d_X7_exchange_5 cs_X7_exchange_J7_fill_d0a16 lk_RX7_103 im_J7_fill_d0a16 (Nat.le_of_ble_eq_true rfl) ⟨rfl, rfl⟩ ⟨Nat.zero_le _, Nat.zero_le _⟩ (ct_fillJ SHF rfl kT_12 (by decide) (0 : Int64) I J) (fun r5 S5 I1 J2 q5_2 => ?_)
  obtain ⟨rfl, hc5_3, rfl⟩ := q5_2
  refine g_st (st' := []) rfl ?_
  have hK6 : FS o I J I1 J2 := (by obtain ⟨e1, e2⟩ := hc5_3; rw [← e1, e2]; exact fs_rowJ hK0 (fun b hb => cJ_row hb) (by omega))
  refine g_iconst (v := 0) d_X7_exchange_8 kI_0 ?_
  refine g_istore (L' := [some (.ref 13), some (.ref o), some (.int room), some (.int leak), some (.int (0 : Int32)), none, none]) d_X7_exchange_9 (by decide) rfl ?_
  have K_11 : ∀ (nu : Nat) (x7 : Int32) (J8 : Jv), mU (3 : Int32) x7 = nu → (FS o I J I1 J8) → ((0 : Int32) ≤ x7) → G m_X7_exchange (rq m_X7_exchange (fun r S' I' J' => S' = SHF ∧ FS o I J I' J' ∧ r = none)) 0 0 11 [some (.ref 13), some (.ref o), some (.int room), some (.int leak), some (.int x7), none, none] [] SHF I1 J8 := by
    intro nu
    induction nu using Nat.strongRecOn with
    | ind nu ih_11 =>
      intro x7 J8 hmu_11 hK9 hl10
      refine g_iload d_X7_exchange_11 rfl ?_
      refine g_iconst (v := 3) d_X7_exchange_13 kI_3 ?_
      refine g_icmp_ge d_X7_exchange_14 (fun h14 => ?_) (fun h14 => ?_)
      · skip
        refine g_iconst (v := 0) d_X7_exchange_65 kI_0 ?_
        refine g_istore (L' := [some (.ref 13), some (.ref o), some (.int room), some (.int leak), some (.int (0 : Int32)), none, none]) d_X7_exchange_66 (by decide) rfl ?_
        have K_68 : ∀ (nu : Nat) (x11 : Int32) (I12 : Iv) (J13 : Jv), mU (2 : Int32) x11 = nu → (FS o I J I12 J13) → ((0 : Int32) ≤ x11) → G m_X7_exchange (rq m_X7_exchange (fun r S' I' J' => S' = SHF ∧ FS o I J I' J' ∧ r = none)) 0 0 68 [some (.ref 13), some (.ref o), some (.int room), some (.int leak), some (.int x11), none, none] [] SHF I12 J13 := by
          intro nu
          induction nu using Nat.strongRecOn with
          | ind nu ih_68 =>
            intro x11 I12 J13 hmu_68 hK14 hl15
            refine g_iload d_X7_exchange_68 rfl ?_
            refine g_iconst (v := 2) d_X7_exchange_70 kI_2 ?_
            refine g_icmp_ge d_X7_exchange_71 (fun h71 => ?_) (fun h71 => ?_)
            · skip
              refine g_aload_n d_X7_exchange_100 rfl ?_
              refine g_aload_n d_X7_exchange_101 rfl ?_
              refine g_getR d_X7_exchange_102 fq_RX7_19 rfl rfl ?_
              refine g_getR d_X7_exchange_105 fq_RX7_60 rfl rfl ?_
              refine g_iconst (v := 4) d_X7_exchange_108 kI_4 ?_
              refine g_iaload (N := 15) d_X7_exchange_109 rfl kT_15 ⟨by decide, by decide⟩ kN_4 ?_
              refine g_iconst (v := 0) d_X7_exchange_110 kI_0 ?_
              refine g_iconst (v := 3) d_X7_exchange_111 kI_3 ?_
              refine g_aload_n d_X7_exchange_112 rfl ?_
              refine g_getR d_X7_exchange_113 fq_RX7_89 (sa0 ho) rfl ?_
              refine g_iconst (v := 5) d_X7_exchange_116 kI_5 ?_
              refine g_iaload (N := 8) d_X7_exchange_117 (sa8 ho) kT_8 ⟨by decide, by decide⟩ kN_5 ?_
              refine g_V4 d_X7_exchange_118 cs_X7_exchange_X7_flow lk_RX7_114 im_X7_flow se_X7_flow rfl rfl rfl (Nat.le_of_ble_eq_true rfl) ⟨rfl, rfl⟩ ⟨Nat.zero_le _, Nat.zero_le _⟩ (ct_X7_flow (I12 8 4) (0 : Int32) (3 : Int32) (I12 (o + 8) 5) I12 J13 ) (fun r118 S118 I16 J17 q118_17 => ?_)
              obtain ⟨rfl, hc118_18, rfl⟩ := q118_17
              refine g_st (st' := []) rfl ?_
              have hK21 : FS o I J I16 J17 := (fs_flow hK14 hc118_18)
              refine g_iconst (v := 0) d_X7_exchange_121 kI_0 ?_
              refine g_istore (L' := [some (.ref 13), some (.ref o), some (.int room), some (.int leak), some (.int (0 : Int32)), none, none]) d_X7_exchange_122 (by decide) rfl ?_
              have K_124 : ∀ (nu : Nat) (x22 : Int32) (I23 : Iv) (J24 : Jv), mU (8 : Int32) x22 = nu → (FS o I J I23 J24) → ((0 : Int32) ≤ x22) → G m_X7_exchange (rq m_X7_exchange (fun r S' I' J' => S' = SHF ∧ FS o I J I' J' ∧ r = none)) 0 0 124 [some (.ref 13), some (.ref o), some (.int room), some (.int leak), some (.int x22), none, none] [] SHF I23 J24 := by
                intro nu
                induction nu using Nat.strongRecOn with
                | ind nu ih_124 =>
                  intro x22 I23 J24 hmu_124 hK25 hl26
                  refine g_iload d_X7_exchange_124 rfl ?_
                  refine g_bipush (v := 8) d_X7_exchange_126 kB_8 ?_
                  refine g_icmp_ge d_X7_exchange_128 (fun h128 => ?_) (fun h128 => ?_)
                  · skip
                    refine g_iconst (v := 0) d_X7_exchange_172 kI_0 ?_
                    refine g_istore (L' := [some (.ref 13), some (.ref o), some (.int room), some (.int leak), some (.int (0 : Int32)), none, none]) d_X7_exchange_173 (by decide) rfl ?_
                    have K_175 : ∀ (nu : Nat) (x27 : Int32) (J28 : Jv), mU (12 : Int32) x27 = nu → (FS o I J I23 J28) → ((0 : Int32) ≤ x27) → G m_X7_exchange (rq m_X7_exchange (fun r S' I' J' => S' = SHF ∧ FS o I J I' J' ∧ r = none)) 0 0 175 [some (.ref 13), some (.ref o), some (.int room), some (.int leak), some (.int x27), none, none] [] SHF I23 J28 := by
                      intro nu
                      induction nu using Nat.strongRecOn with
                      | ind nu ih_175 =>
                        intro x27 J28 hmu_175 hK29 hl30
                        refine g_iload d_X7_exchange_175 rfl ?_
                        refine g_bipush (v := 12) d_X7_exchange_177 kB_12 ?_
                        refine g_icmp_ge d_X7_exchange_179 (fun h179 => ?_) (fun h179 => ?_)
                        · skip
                          exact g_return d_X7_exchange_205 rfl rfl rfl ⟨rfl, hK29, rfl⟩
                        · skip
                          refine g_aload_n d_X7_exchange_182 rfl ?_
                          refine g_getR d_X7_exchange_183 fq_RX7_125 (sa0 ho) rfl ?_
                          refine g_iload d_X7_exchange_186 rfl ?_
                          refine g_dup2 d_X7_exchange_188 rfl rfl ?_
                          refine g_laload (N := 12) d_X7_exchange_189 (sa1 ho) kT_12 ⟨hl30, Int32.not_le.mp h179⟩ rfl ?_
                          refine g_aload_n d_X7_exchange_190 rfl ?_
                          refine g_getR d_X7_exchange_191 fq_RX7_15 rfl rfl ?_
                          refine g_iload d_X7_exchange_194 rfl ?_
                          refine g_laload (N := 12) d_X7_exchange_196 rfl kT_12 ⟨hl30, Int32.not_le.mp h179⟩ rfl ?_
                          refine g_ladd d_X7_exchange_197 ?_
                          refine g_lastore (N := 12) d_X7_exchange_198 (sa1 ho) kT_12 ⟨hl30, Int32.not_le.mp h179⟩ rfl  ?_
                          refine g_nmJ (fun J31 eJ31 => ?_)
                          have hK32 : FS o I J I23 J31 := (by rw [eJ31]; exact fs_wJ hK29 (by omega))
                          refine g_iinc (v := (x27 + (1 : Int32))) (L' := [some (.ref 13), some (.ref o), some (.int room), some (.int leak), some (.int (x27 + (1 : Int32))), none, none]) d_X7_exchange_199 rfl (by rw [kI_1]) (by decide) rfl ?_
                          refine g_goto d_X7_exchange_202 ?_
                          exact ih_175 _ (by rw [← hmu_175]; exact mu_up h179) (x27 + (1 : Int32)) J31 rfl hK32 (lo_up hl30 h179)
                    exact K_175 _ (0 : Int32) J24 rfl hK25 (Int32.le_refl _)
                  · skip
                    refine g_aload_n d_X7_exchange_131 rfl ?_
                    refine g_getR d_X7_exchange_132 fq_RX7_118 (sa0 ho) rfl ?_
                    refine g_iload d_X7_exchange_135 rfl ?_
                    refine g_baload (N := 8) d_X7_exchange_137 (sa3 ho) kT_8 ⟨hl26, Int32.not_le.mp h128⟩ rfl (fun hz137 => ?_)
                    refine g_if_eq d_X7_exchange_138 (fun h138 => ?_) (fun h138 => ?_)
                    · skip
                      refine g_iinc (v := (x22 + (1 : Int32))) (L' := [some (.ref 13), some (.ref o), some (.int room), some (.int leak), some (.int (x22 + (1 : Int32))), none, none]) d_X7_exchange_166 rfl (by rw [kI_1]) (by decide) rfl ?_
                      refine g_goto d_X7_exchange_169 ?_
                      exact ih_124 _ (by rw [← hmu_124]; exact mu_up h128) (x22 + (1 : Int32)) I23 J24 rfl hK25 (lo_up hl26 h128)
                    · skip
                      refine g_aload_n d_X7_exchange_141 rfl ?_
                      refine g_aload_n d_X7_exchange_142 rfl ?_
                      refine g_getR d_X7_exchange_143 fq_RX7_19 rfl rfl ?_
                      refine g_getR d_X7_exchange_146 fq_RX7_60 rfl rfl ?_
                      refine g_iconst (v := 5) d_X7_exchange_149 kI_5 ?_
                      refine g_iaload (N := 15) d_X7_exchange_150 rfl kT_15 ⟨by decide, by decide⟩ kN_5 ?_
                      refine g_aload_n d_X7_exchange_151 rfl ?_
                      refine g_getR d_X7_exchange_152 fq_RX7_122 (sa0 ho) rfl ?_
                      refine g_iload d_X7_exchange_155 rfl ?_
                      refine g_iaload (N := 8) d_X7_exchange_157 (sa4 ho) kT_8 ⟨hl26, Int32.not_le.mp h128⟩ rfl ?_
                      refine g_iconst (v := 4) d_X7_exchange_158 kI_4 ?_
                      refine g_iload d_X7_exchange_159 rfl ?_
                      refine g_iadd d_X7_exchange_161 ?_
                      refine g_iconst (v := 0) d_X7_exchange_162 kI_0 ?_
                      refine g_V4 d_X7_exchange_163 cs_X7_exchange_X7_flow lk_RX7_114 im_X7_flow se_X7_flow rfl rfl rfl (Nat.le_of_ble_eq_true rfl) ⟨rfl, rfl⟩ ⟨Nat.zero_le _, Nat.zero_le _⟩ (ct_X7_flow (I23 8 5) (I23 (o + 4) x22.toNatClampNeg) ((4 : Int32) + x22) (0 : Int32) I23 J24 ) (fun r163 S163 I33 J34 q163_34 => ?_)
                      obtain ⟨rfl, hc163_35, rfl⟩ := q163_34
                      refine g_st (st' := []) rfl ?_
                      have hK38 : FS o I J I33 J34 := (fs_flow hK25 hc163_35)
                      refine g_iinc (v := (x22 + (1 : Int32))) (L' := [some (.ref 13), some (.ref o), some (.int room), some (.int leak), some (.int (x22 + (1 : Int32))), none, none]) d_X7_exchange_166 rfl (by rw [kI_1]) (by decide) rfl ?_
                      refine g_goto d_X7_exchange_169 ?_
                      exact ih_124 _ (by rw [← hmu_124]; exact mu_up h128) (x22 + (1 : Int32)) I33 J34 rfl hK38 (lo_up hl26 h128)
              exact K_124 _ (0 : Int32) I16 J17 rfl hK21 (Int32.le_refl _)
            · skip
              refine g_aload_n d_X7_exchange_74 rfl ?_
              refine g_aload_n d_X7_exchange_75 rfl ?_
              refine g_getR d_X7_exchange_76 fq_RX7_19 rfl rfl ?_
              refine g_getR d_X7_exchange_79 fq_RX7_60 rfl rfl ?_
              refine g_iconst (v := 3) d_X7_exchange_82 kI_3 ?_
              refine g_iaload (N := 15) d_X7_exchange_83 rfl kT_15 ⟨by decide, by decide⟩ kN_3 ?_
              refine g_iload d_X7_exchange_84 rfl ?_
              refine g_iload d_X7_exchange_86 rfl ?_
              refine g_iconst (v := 1) d_X7_exchange_88 kI_1 ?_
              refine g_iadd d_X7_exchange_89 ?_
              refine g_iconst (v := 0) d_X7_exchange_90 kI_0 ?_
              refine g_V4 d_X7_exchange_91 cs_X7_exchange_X7_flow lk_RX7_114 im_X7_flow se_X7_flow rfl rfl rfl (Nat.le_of_ble_eq_true rfl) ⟨rfl, rfl⟩ ⟨Nat.zero_le _, Nat.zero_le _⟩ (ct_X7_flow (I12 8 3) x11 (x11 + (1 : Int32)) (0 : Int32) I12 J13 ) (fun r91 S91 I39 J40 q91_40 => ?_)
              obtain ⟨rfl, hc91_41, rfl⟩ := q91_40
              refine g_st (st' := []) rfl ?_
              have hK44 : FS o I J I39 J40 := (fs_flow hK14 hc91_41)
              refine g_iinc (v := (x11 + (1 : Int32))) (L' := [some (.ref 13), some (.ref o), some (.int room), some (.int leak), some (.int (x11 + (1 : Int32))), none, none]) d_X7_exchange_94 rfl (by rw [kI_1]) (by decide) rfl ?_
              refine g_goto d_X7_exchange_97 ?_
              exact ih_68 _ (by rw [← hmu_68]; exact mu_up h71) (x11 + (1 : Int32)) I39 J40 rfl hK44 (lo_up hl15 h71)
        exact K_68 _ (0 : Int32) I1 J8 rfl hK9 (Int32.le_refl _)
      · skip
        refine g_iload_n d_X7_exchange_17 rfl ?_
        refine g_i2l d_X7_exchange_18 ?_
        refine g_iload_n d_X7_exchange_19 rfl ?_
        refine g_aload_n d_X7_exchange_20 rfl ?_
        refine g_getR d_X7_exchange_21 fq_RX7_9 rfl rfl ?_
        refine g_iload d_X7_exchange_24 rfl ?_
        refine g_iaload (N := 12) d_X7_exchange_26 rfl kT_12 (by constructor <;> grind) rfl ?_
        refine g_isub d_X7_exchange_27 ?_
        refine g_i2l d_X7_exchange_28 ?_
        refine g_lmul d_X7_exchange_29 ?_
        refine g_ldc2 (v := 100) d_X7_exchange_30 tw_682 ?_
        refine g_ldiv d_X7_exchange_33 (by decide) ?_
        refine g_topJ (fun v45 ev45 => ?_)
        refine g_lstore (L' := [some (.ref 13), some (.ref o), some (.int room), some (.int leak), some (.int x7), some (.long v45), none]) d_X7_exchange_34 (by decide) rfl ?_
        refine g_aload_n d_X7_exchange_36 rfl ?_
        refine g_getR d_X7_exchange_37 fq_RX7_15 rfl rfl ?_
        refine g_iload d_X7_exchange_40 rfl ?_
        refine g_dup2 d_X7_exchange_42 rfl rfl ?_
        refine g_laload (N := 12) d_X7_exchange_43 rfl kT_12 (by constructor <;> grind) rfl ?_
        refine g_lload d_X7_exchange_44 rfl ?_
        refine g_ladd d_X7_exchange_46 ?_
        refine g_lastore (N := 12) d_X7_exchange_47 rfl kT_12 (by constructor <;> grind) rfl  ?_
        refine g_nmJ (fun J46 eJ46 => ?_)
        have hK47 : FS o I J I1 J46 := (by rw [eJ46]; exact fs_wJ hK9 (by omega))
        refine g_aload_n d_X7_exchange_48 rfl ?_
        refine g_getR d_X7_exchange_49 fq_RX7_111 (sa0 ho) rfl ?_
        refine g_iconst (v := 1) d_X7_exchange_52 kI_1 ?_
        refine g_dup2 d_X7_exchange_53 rfl rfl ?_
        refine g_laload (N := 6) d_X7_exchange_54 (sa7 ho) kT_6 ⟨by decide, by decide⟩ kN_1 ?_
        refine g_lload d_X7_exchange_55 rfl ?_
        refine g_ladd d_X7_exchange_57 ?_
        refine g_lastore (N := 6) d_X7_exchange_58 (sa7 ho) kT_6 ⟨by decide, by decide⟩ kN_1  ?_
        refine g_nmJ (fun J48 eJ48 => ?_)
        have hK49 : FS o I J I1 J48 := (by rw [eJ48]; exact fs_wJ hK47 (by omega))
        refine g_iinc (v := (x7 + (1 : Int32))) (L' := [some (.ref 13), some (.ref o), some (.int room), some (.int leak), some (.int (x7 + (1 : Int32))), some (.long v45), none]) d_X7_exchange_59 rfl (by rw [kI_1]) (by decide) rfl ?_
        refine g_goto d_X7_exchange_62 ?_
        refine g_sb [some (.ref 13), some (.ref o), some (.int room), some (.int leak), some (.int (x7 + (1 : Int32))), none, none] (by simp [subL]) ?_
        exact ih_11 _ (by rw [← hmu_11]; exact mu_up h14) (x7 + (1 : Int32)) J48 rfl hK49 (lo_up hl10 h14)
  exact K_11 _ (0 : Int32) J2 rfl hK6 (Int32.le_refl _)
set_option maxRecDepth 100000 in
set_option maxHeartbeats 4000000 in
theorem ct_X7_giveLight {o : Nat} (I : Iv) (J : Jv) (ho : StA o) : Ct m_X7_giveLight [.ref 13, .ref o] SHF I J (fun r S' I' J' => S' = SHF ∧ FS o I J I' J' ∧ r = none) := by
  refine ct_of 2 (by decide +kernel) rfl rfl ?_
  have hK0 : FS o I J I J := fs_rfl
  refine g_aload_n d_X7_giveLight_0 rfl ?_
  refine g_getR d_X7_giveLight_1 fq_RX7_19 rfl rfl ?_
  refine g_getR d_X7_giveLight_4 fq_RX7_60 rfl rfl ?_
  refine g_bipush (v := 10) d_X7_giveLight_7 kB_10 ?_
  refine g_iaload (N := 15) d_X7_giveLight_9 rfl kT_15 ⟨by decide, by decide⟩ kN_10 ?_
  refine g_i2l d_X7_giveLight_10 ?_
  refine g_ldc2 (v := 5) d_X7_giveLight_11 tw_692 ?_
  refine g_lmul d_X7_giveLight_14 ?_
  refine g_topJ (fun v1 ev1 => ?_)
  refine g_lstore_n (L' := [some (.ref 13), some (.ref o), some (.long v1), none]) d_X7_giveLight_15 (by decide) rfl ?_
  refine g_aload_n d_X7_giveLight_16 rfl ?_
  refine g_getR d_X7_giveLight_17 fq_RX7_125 (sa0 ho) rfl ?_
  refine g_iconst (v := 0) d_X7_giveLight_20 kI_0 ?_
  refine g_dup2 d_X7_giveLight_21 rfl rfl ?_
  refine g_laload (N := 12) d_X7_giveLight_22 (sa1 ho) kT_12 ⟨by decide, by decide⟩ kN_0 ?_
  refine g_lload_n d_X7_giveLight_23 rfl ?_
  refine g_ladd d_X7_giveLight_24 ?_
  refine g_lastore (N := 12) d_X7_giveLight_25 (sa1 ho) kT_12 ⟨by decide, by decide⟩ kN_0  ?_
  refine g_nmJ (fun J2 eJ2 => ?_)
  have hK3 : FS o I J I J2 := (by rw [eJ2]; exact fs_wJ hK0 (by omega))
  refine g_aload_n d_X7_giveLight_26 rfl ?_
  refine g_getR d_X7_giveLight_27 fq_RX7_111 (sa0 ho) rfl ?_
  refine g_iconst (v := 3) d_X7_giveLight_30 kI_3 ?_
  refine g_dup2 d_X7_giveLight_31 rfl rfl ?_
  refine g_laload (N := 6) d_X7_giveLight_32 (sa7 ho) kT_6 ⟨by decide, by decide⟩ kN_3 ?_
  refine g_lload_n d_X7_giveLight_33 rfl ?_
  refine g_ladd d_X7_giveLight_34 ?_
  refine g_lastore (N := 6) d_X7_giveLight_35 (sa7 ho) kT_6 ⟨by decide, by decide⟩ kN_3  ?_
  refine g_nmJ (fun J4 eJ4 => ?_)
  have hK5 : FS o I J I J4 := (by rw [eJ4]; exact fs_wJ hK3 (by omega))
  refine g_aload_n d_X7_giveLight_36 rfl ?_
  refine g_getR d_X7_giveLight_37 fq_RX7_89 (sa0 ho) rfl ?_
  refine g_iconst (v := 1) d_X7_giveLight_40 kI_1 ?_
  refine g_dup2 d_X7_giveLight_41 rfl rfl ?_
  refine g_iaload (N := 8) d_X7_giveLight_42 (sa8 ho) kT_8 ⟨by decide, by decide⟩ kN_1 ?_
  refine g_aload_n d_X7_giveLight_43 rfl ?_
  refine g_getR d_X7_giveLight_44 fq_RX7_19 rfl rfl ?_
  refine g_getR d_X7_giveLight_47 fq_RX7_60 rfl rfl ?_
  refine g_bipush (v := 10) d_X7_giveLight_50 kB_10 ?_
  refine g_iaload (N := 15) d_X7_giveLight_52 rfl kT_15 ⟨by decide, by decide⟩ kN_10 ?_
  refine g_iadd d_X7_giveLight_53 ?_
  refine g_iastore (N := 8) d_X7_giveLight_54 (sa8 ho) kT_8 ⟨by decide, by decide⟩ kN_1  ?_
  refine g_nmI (fun I6 eI6 => ?_)
  have hK7 : FS o I J I6 J4 := (by rw [eI6]; exact fs_wI ho hK5 (by omega))
  exact g_return d_X7_giveLight_55 rfl rfl rfl ⟨rfl, hK7, rfl⟩
set_option maxRecDepth 100000 in
set_option maxHeartbeats 4000000 in
theorem ct_X7_moveOut (power : Int32) {o : Nat} (I : Iv) (J : Jv) (ho : StA o) : Ct m_X7_moveOut [.ref 13, .ref o, .int power] SHF I J (fun r S' I' J' => S' = SHF ∧ FS o I J I' J' ∧ r = none) := by
  refine ct_of 1 (by decide +kernel) rfl rfl ?_
  have hK0 : FS o I J I J := fs_rfl
  refine g_iconst (v := 0) d_X7_moveOut_0 kI_0 ?_
  refine g_iload_n d_X7_moveOut_1 rfl ?_
  refine g_mmax d_X7_moveOut_2 tw_701 tw_555 tw_18 tw_556 ⟨by decide, by decide⟩ ⟨Nat.zero_le _, Nat.zero_le _⟩ (Nat.le_of_ble_eq_true rfl) ?_
  refine g_topI (fun v1 ev1 => ?_)
  refine g_istore_n (L' := [some (.ref 13), some (.ref o), some (.int power), some (.int v1)]) d_X7_moveOut_5 (by decide) rfl ?_
  refine g_aload_n d_X7_moveOut_6 rfl ?_
  refine g_getR d_X7_moveOut_7 fq_RX7_125 (sa0 ho) rfl ?_
  refine g_iconst (v := 3) d_X7_moveOut_10 kI_3 ?_
  refine g_dup2 d_X7_moveOut_11 rfl rfl ?_
  refine g_laload (N := 12) d_X7_moveOut_12 (sa1 ho) kT_12 ⟨by decide, by decide⟩ kN_3 ?_
  refine g_iload_n d_X7_moveOut_13 rfl ?_
  refine g_i2l d_X7_moveOut_14 ?_
  refine g_lsub d_X7_moveOut_15 ?_
  refine g_lastore (N := 12) d_X7_moveOut_16 (sa1 ho) kT_12 ⟨by decide, by decide⟩ kN_3  ?_
  refine g_nmJ (fun J2 eJ2 => ?_)
  have hK3 : FS o I J I J2 := (by rw [eJ2]; exact fs_wJ hK0 (by omega))
  refine g_aload_n d_X7_moveOut_17 rfl ?_
  refine g_getR d_X7_moveOut_18 fq_RX7_111 (sa0 ho) rfl ?_
  refine g_iconst (v := 4) d_X7_moveOut_21 kI_4 ?_
  refine g_dup2 d_X7_moveOut_22 rfl rfl ?_
  refine g_laload (N := 6) d_X7_moveOut_23 (sa7 ho) kT_6 ⟨by decide, by decide⟩ kN_4 ?_
  refine g_iload_n d_X7_moveOut_24 rfl ?_
  refine g_i2l d_X7_moveOut_25 ?_
  refine g_ladd d_X7_moveOut_26 ?_
  refine g_lastore (N := 6) d_X7_moveOut_27 (sa7 ho) kT_6 ⟨by decide, by decide⟩ kN_4  ?_
  refine g_nmJ (fun J4 eJ4 => ?_)
  have hK5 : FS o I J I J4 := (by rw [eJ4]; exact fs_wJ hK3 (by omega))
  refine g_aload_n d_X7_moveOut_28 rfl ?_
  refine g_getR d_X7_moveOut_29 fq_RX7_89 (sa0 ho) rfl ?_
  refine g_iconst (v := 3) d_X7_moveOut_32 kI_3 ?_
  refine g_dup2 d_X7_moveOut_33 rfl rfl ?_
  refine g_iaload (N := 8) d_X7_moveOut_34 (sa8 ho) kT_8 ⟨by decide, by decide⟩ kN_3 ?_
  refine g_iconst (v := 1) d_X7_moveOut_35 kI_1 ?_
  refine g_iadd d_X7_moveOut_36 ?_
  refine g_iastore (N := 8) d_X7_moveOut_37 (sa8 ho) kT_8 ⟨by decide, by decide⟩ kN_3  ?_
  refine g_nmI (fun I6 eI6 => ?_)
  have hK7 : FS o I J I6 J4 := (by rw [eI6]; exact fs_wI ho hK5 (by omega))
  refine g_aload_n d_X7_moveOut_38 rfl ?_
  refine g_getR d_X7_moveOut_39 fq_RX7_89 (sa0 ho) rfl ?_
  refine g_iconst (v := 1) d_X7_moveOut_42 kI_1 ?_
  refine g_dup2 d_X7_moveOut_43 rfl rfl ?_
  refine g_iaload (N := 8) d_X7_moveOut_44 (sa8 ho) kT_8 ⟨by decide, by decide⟩ kN_1 ?_
  refine g_aload_n d_X7_moveOut_45 rfl ?_
  refine g_getR d_X7_moveOut_46 fq_RX7_19 rfl rfl ?_
  refine g_getR d_X7_moveOut_49 fq_RX7_60 rfl rfl ?_
  refine g_bipush (v := 9) d_X7_moveOut_52 kB_9 ?_
  refine g_iaload (N := 15) d_X7_moveOut_54 rfl kT_15 ⟨by decide, by decide⟩ kN_9 ?_
  refine g_iadd d_X7_moveOut_55 ?_
  refine g_iastore (N := 8) d_X7_moveOut_56 (sa8 ho) kT_8 ⟨by decide, by decide⟩ kN_1  ?_
  refine g_nmI (fun I8 eI8 => ?_)
  have hK9 : FS o I J I8 J4 := (by rw [eI8]; exact fs_wI ho hK7 (by omega))
  exact g_return d_X7_moveOut_57 rfl rfl rfl ⟨rfl, hK9, rfl⟩
set_option maxRecDepth 100000 in
set_option maxHeartbeats 4000000 in
theorem ct_X7_takeWet (wet : Int32) {o : Nat} (I : Iv) (J : Jv) (ho : StA o) : Ct m_X7_takeWet [.ref 13, .ref o, .int wet] SHF I J (fun r S' I' J' => S' = SHF ∧ FS o I J I' J' ∧ r = none) := by
  refine ct_of 2 (by decide +kernel) rfl rfl ?_
  have hK0 : FS o I J I J := fs_rfl
  refine g_aload_n d_X7_takeWet_0 rfl ?_
  refine g_getR d_X7_takeWet_1 fq_RX7_89 (sa0 ho) rfl ?_
  refine g_iconst (v := 4) d_X7_takeWet_4 kI_4 ?_
  refine g_dup2 d_X7_takeWet_5 rfl rfl ?_
  refine g_iaload (N := 8) d_X7_takeWet_6 (sa8 ho) kT_8 ⟨by decide, by decide⟩ kN_4 ?_
  refine g_iload_n d_X7_takeWet_7 rfl ?_
  refine g_iadd d_X7_takeWet_8 ?_
  refine g_iastore (N := 8) d_X7_takeWet_9 (sa8 ho) kT_8 ⟨by decide, by decide⟩ kN_4  ?_
  refine g_nmI (fun I1 eI1 => ?_)
  have hK2 : FS o I J I1 J := (by rw [eI1]; exact fs_wI ho hK0 (by omega))
  refine g_aload_n d_X7_takeWet_10 rfl ?_
  refine g_iconst (v := 3) d_X7_takeWet_11 kI_3 ?_
  refine g_V1 d_X7_takeWet_12 cs_X7_takeWet_X6_warmthOf lk_RX7_92 im_X6_warmthOf se_X6_warmthOf (sa0 ho) rfl rfl (Nat.le_of_ble_eq_true rfl) ⟨rfl, rfl⟩ ⟨Nat.zero_le _, Nat.zero_le _⟩ (ct_X6_warmthOf (3 : Int32) I1 J ho) (fun r12 S12 Ic4 Jc5 q12_2 => ?_)
  obtain ⟨rfl, rfl, rfl, r7, rfl⟩ := q12_2
  refine g_st (st' := [.int r7]) rfl ?_
  refine g_istore_n (L' := [some (.ref 13), some (.ref o), some (.int wet), some (.int r7), none]) d_X7_takeWet_15 (by decide) rfl ?_
  refine g_iload_n d_X7_takeWet_16 rfl ?_
  refine g_if_ge d_X7_takeWet_17 (fun h17 => ?_) (fun h17 => ?_)
  · skip
    refine g_aload_n d_X7_takeWet_64 rfl ?_
    refine g_getR d_X7_takeWet_65 fq_RX7_89 (sa0 ho) rfl ?_
    refine g_iconst (v := 5) d_X7_takeWet_68 kI_5 ?_
    refine g_iaload (N := 8) d_X7_takeWet_69 (sa8 ho) kT_8 ⟨by decide, by decide⟩ kN_5 ?_
    refine g_iload_n d_X7_takeWet_70 rfl ?_
    refine g_bipush (v := 20) d_X7_takeWet_71 kB_20 ?_
    refine g_idiv d_X7_takeWet_73 (by decide) ?_
    refine g_iconst (v := 1) d_X7_takeWet_74 kI_1 ?_
    refine g_iadd d_X7_takeWet_75 ?_
    refine g_mmin d_X7_takeWet_76 tw_706 tw_707 tw_18 tw_708 ⟨by decide, by decide⟩ ⟨Nat.zero_le _, Nat.zero_le _⟩ (Nat.le_of_ble_eq_true rfl) ?_
    refine g_topI (fun v9 ev9 => ?_)
    refine g_istore (L' := [some (.ref 13), some (.ref o), some (.int wet), some (.int r7), some (.int v9)]) d_X7_takeWet_79 (by decide) rfl ?_
    refine g_aload_n d_X7_takeWet_81 rfl ?_
    refine g_getR d_X7_takeWet_82 fq_RX7_89 (sa0 ho) rfl ?_
    refine g_iconst (v := 5) d_X7_takeWet_85 kI_5 ?_
    refine g_dup2 d_X7_takeWet_86 rfl rfl ?_
    refine g_iaload (N := 8) d_X7_takeWet_87 (sa8 ho) kT_8 ⟨by decide, by decide⟩ kN_5 ?_
    refine g_iload d_X7_takeWet_88 rfl ?_
    refine g_isub d_X7_takeWet_90 ?_
    refine g_iastore (N := 8) d_X7_takeWet_91 (sa8 ho) kT_8 ⟨by decide, by decide⟩ kN_5  ?_
    refine g_nmI (fun I10 eI10 => ?_)
    have hK11 : FS o I J I10 J := (by rw [eI10]; exact fs_wI ho hK2 (by omega))
    refine g_aload_n d_X7_takeWet_92 rfl ?_
    refine g_getR d_X7_takeWet_93 fq_RX7_89 (sa0 ho) rfl ?_
    refine g_bipush (v := 6) d_X7_takeWet_96 kB_6 ?_
    refine g_dup2 d_X7_takeWet_98 rfl rfl ?_
    refine g_iaload (N := 8) d_X7_takeWet_99 (sa8 ho) kT_8 ⟨by decide, by decide⟩ kN_6 ?_
    refine g_iload d_X7_takeWet_100 rfl ?_
    refine g_iadd d_X7_takeWet_102 ?_
    refine g_iastore (N := 8) d_X7_takeWet_103 (sa8 ho) kT_8 ⟨by decide, by decide⟩ kN_6  ?_
    refine g_nmI (fun I12 eI12 => ?_)
    have hK13 : FS o I J I12 J := (by rw [eI12]; exact fs_wI ho hK11 (by omega))
    refine g_aload_n d_X7_takeWet_104 rfl ?_
    refine g_getR d_X7_takeWet_105 fq_RX7_89 (sa0 ho) rfl ?_
    refine g_bipush (v := 7) d_X7_takeWet_108 kB_7 ?_
    refine g_dup2 d_X7_takeWet_110 rfl rfl ?_
    refine g_iaload (N := 8) d_X7_takeWet_111 (sa8 ho) kT_8 ⟨by decide, by decide⟩ kN_7 ?_
    refine g_iload_n d_X7_takeWet_112 rfl ?_
    refine g_iadd d_X7_takeWet_113 ?_
    refine g_iastore (N := 8) d_X7_takeWet_114 (sa8 ho) kT_8 ⟨by decide, by decide⟩ kN_7  ?_
    refine g_nmI (fun I14 eI14 => ?_)
    have hK15 : FS o I J I14 J := (by rw [eI14]; exact fs_wI ho hK13 (by omega))
    exact g_return d_X7_takeWet_115 rfl rfl rfl ⟨rfl, hK15, rfl⟩
  · skip
    refine g_iload_n d_X7_takeWet_20 rfl ?_
    refine g_sipush (v := 9999) d_X7_takeWet_21 kS_9999 ?_
    refine g_aload_n d_X7_takeWet_24 rfl ?_
    refine g_getR d_X7_takeWet_25 fq_RX7_89 (sa0 ho) rfl ?_
    refine g_iconst (v := 5) d_X7_takeWet_28 kI_5 ?_
    refine g_iaload (N := 8) d_X7_takeWet_29 (sa8 ho) kT_8 ⟨by decide, by decide⟩ kN_5 ?_
    refine g_isub d_X7_takeWet_30 ?_
    refine g_mmin d_X7_takeWet_31 tw_706 tw_707 tw_18 tw_708 ⟨by decide, by decide⟩ ⟨Nat.zero_le _, Nat.zero_le _⟩ (Nat.le_of_ble_eq_true rfl) ?_
    refine g_topI (fun v16 ev16 => ?_)
    refine g_istore (L' := [some (.ref 13), some (.ref o), some (.int wet), some (.int r7), some (.int v16)]) d_X7_takeWet_34 (by decide) rfl ?_
    refine g_aload_n d_X7_takeWet_36 rfl ?_
    refine g_getR d_X7_takeWet_37 fq_RX7_89 (sa0 ho) rfl ?_
    refine g_iconst (v := 5) d_X7_takeWet_40 kI_5 ?_
    refine g_dup2 d_X7_takeWet_41 rfl rfl ?_
    refine g_iaload (N := 8) d_X7_takeWet_42 (sa8 ho) kT_8 ⟨by decide, by decide⟩ kN_5 ?_
    refine g_iload d_X7_takeWet_43 rfl ?_
    refine g_iadd d_X7_takeWet_45 ?_
    refine g_iastore (N := 8) d_X7_takeWet_46 (sa8 ho) kT_8 ⟨by decide, by decide⟩ kN_5  ?_
    refine g_nmI (fun I17 eI17 => ?_)
    have hK18 : FS o I J I17 J := (by rw [eI17]; exact fs_wI ho hK2 (by omega))
    refine g_aload_n d_X7_takeWet_47 rfl ?_
    refine g_getR d_X7_takeWet_48 fq_RX7_89 (sa0 ho) rfl ?_
    refine g_bipush (v := 7) d_X7_takeWet_51 kB_7 ?_
    refine g_dup2 d_X7_takeWet_53 rfl rfl ?_
    refine g_iaload (N := 8) d_X7_takeWet_54 (sa8 ho) kT_8 ⟨by decide, by decide⟩ kN_7 ?_
    refine g_iload_n d_X7_takeWet_55 rfl ?_
    refine g_iload d_X7_takeWet_56 rfl ?_
    refine g_isub d_X7_takeWet_58 ?_
    refine g_iadd d_X7_takeWet_59 ?_
    refine g_iastore (N := 8) d_X7_takeWet_60 (sa8 ho) kT_8 ⟨by decide, by decide⟩ kN_7  ?_
    refine g_nmI (fun I19 eI19 => ?_)
    have hK20 : FS o I J I19 J := (by rw [eI19]; exact fs_wI ho hK18 (by omega))
    refine g_goto d_X7_takeWet_61 ?_
    exact g_return d_X7_takeWet_115 rfl rfl rfl ⟨rfl, hK20, rfl⟩
set_option maxRecDepth 100000 in
set_option maxHeartbeats 4000000 in
theorem ct_X7_pass (open_ : Int32) (bulb : Int32) (less : Int32) {o : Nat} (I : Iv) (J : Jv) (ho : StA o) : Ct m_X7_pass [.ref 13, .ref o, .int open_, .int bulb, .int less] SHF I J (fun r S' I' J' => S' = SHF ∧ FSx o I J I' J' ∧ r = none ∧ I' (o + 8) 0 = I (o + 8) 0 + 1) := by
  refine ct_of 2 (by decide +kernel) rfl rfl ?_
  have hK0 : FS o I J I J := fs_rfl
  refine g_aload_n d_X7_pass_0 rfl ?_
  refine g_aload_n d_X7_pass_1 rfl ?_
  refine g_V1 d_X7_pass_2 cs_X7_pass_X7_lookAtWarmths lk_RX7_43 im_X7_lookAtWarmths se_X7_lookAtWarmths rfl rfl rfl (Nat.le_of_ble_eq_true rfl) ⟨rfl, rfl⟩ ⟨Nat.zero_le _, Nat.zero_le _⟩ (ct_X7_lookAtWarmths  I J ho) (fun r2 S2 I1 J2 q2_2 => ?_)
  obtain ⟨rfl, hc2_3, rfl⟩ := q2_2
  refine g_st (st' := []) rfl ?_
  have hK6 : FS o I J I1 J2 := hK0.tr hc2_3
  refine g_aload_n d_X7_pass_5 rfl ?_
  refine g_getR d_X7_pass_6 fq_RX7_19 rfl rfl ?_
  refine g_aload_n d_X7_pass_9 rfl ?_
  refine g_V1 d_X7_pass_10 cs_X7_pass_X0_roomOf lk_RX7_47 im_X0_roomOf se_X0_roomOf rfl rfl rfl (Nat.le_of_ble_eq_true rfl) ⟨rfl, rfl⟩ ⟨Nat.zero_le _, Nat.zero_le _⟩ (ct_X0_roomOf  I1 J2 ho) (fun r10 S10 Ic8 Jc9 q10_6 => ?_)
  obtain ⟨rfl, rfl, rfl, r11, rfl⟩ := q10_6
  refine g_st (st' := [.int r11]) rfl ?_
  refine g_istore (L' := [some (.ref 13), some (.ref o), some (.int open_), some (.int bulb), some (.int less), some (.int r11), none]) d_X7_pass_13 (by decide) rfl ?_
  refine g_aload_n d_X7_pass_15 rfl ?_
  refine g_getR d_X7_pass_16 fq_RX7_19 rfl rfl ?_
  refine g_aload_n d_X7_pass_19 rfl ?_
  refine g_V1 d_X7_pass_20 cs_X7_pass_X0_sealOf lk_RX7_53 im_X0_sealOf se_X0_sealOf rfl rfl rfl (Nat.le_of_ble_eq_true rfl) ⟨rfl, rfl⟩ ⟨Nat.zero_le _, Nat.zero_le _⟩ (ct_X0_sealOf  I1 J2 ho) (fun r20 S20 Ic14 Jc15 q20_12 => ?_)
  obtain ⟨rfl, rfl, rfl, r17, rfl⟩ := q20_12
  refine g_st (st' := [.int r17]) rfl ?_
  refine g_istore (L' := [some (.ref 13), some (.ref o), some (.int open_), some (.int bulb), some (.int less), some (.int r11), some (.int r17)]) d_X7_pass_23 (by decide) rfl ?_
  refine g_aload_n d_X7_pass_25 rfl ?_
  refine g_aload_n d_X7_pass_26 rfl ?_
  refine g_iload_n d_X7_pass_27 rfl ?_
  refine g_iload d_X7_pass_28 rfl ?_
  refine g_V3 d_X7_pass_30 cs_X7_pass_X7_switchMachine lk_RX7_56 im_X7_switchMachine se_X7_switchMachine rfl rfl rfl (Nat.le_of_ble_eq_true rfl) ⟨rfl, rfl⟩ ⟨Nat.zero_le _, Nat.zero_le _⟩ (ct_X7_switchMachine bulb less I1 J2 ho) (fun r30 S30 I19 J20 q30_20 => ?_)
  obtain ⟨rfl, hc30_21, rfl⟩ := q30_20
  refine g_st (st' := []) rfl ?_
  have hK24 : FS o I J I19 J20 := hK6.tr hc30_21
  refine g_aload_n d_X7_pass_33 rfl ?_
  refine g_aload_n d_X7_pass_34 rfl ?_
  refine g_iload d_X7_pass_35 rfl ?_
  refine g_aload_n d_X7_pass_37 rfl ?_
  refine g_getR d_X7_pass_38 fq_RX7_19 rfl rfl ?_
  refine g_getR d_X7_pass_41 fq_RX7_60 rfl rfl ?_
  refine g_iconst (v := 1) d_X7_pass_44 kI_1 ?_
  refine g_iaload (N := 15) d_X7_pass_45 rfl kT_15 ⟨by decide, by decide⟩ kN_1 ?_
  refine g_iload d_X7_pass_46 rfl ?_
  refine g_iadd d_X7_pass_48 ?_
  refine g_iload_n d_X7_pass_49 rfl ?_
  have J_59 : ∀ (w25 : Int32), G m_X7_pass (rq m_X7_pass (fun r S' I' J' => S' = SHF ∧ FSx o I J I' J' ∧ r = none ∧ I' (o + 8) 0 = I (o + 8) 0 + 1)) 0 0 59 [some (.ref 13), some (.ref o), some (.int open_), some (.int bulb), some (.int less), some (.int r11), some (.int r17)] [.int w25, .int ((I19 8 1) + r17), .int r11, .ref o, .ref 13] SHF I19 J20 := by
    intro w25
    refine g_iadd d_X7_pass_59 ?_
    refine g_V3 d_X7_pass_60 cs_X7_pass_X7_exchange lk_RX7_63 im_X7_exchange se_X7_exchange rfl rfl rfl (Nat.le_of_ble_eq_true rfl) ⟨rfl, rfl⟩ ⟨Nat.zero_le _, Nat.zero_le _⟩ (ct_X7_exchange r11 (((I19 8 1) + r17) + w25) I19 J20 ho) (fun r60 S60 I26 J27 q60_27 => ?_)
    obtain ⟨rfl, hc60_28, rfl⟩ := q60_27
    refine g_st (st' := []) rfl ?_
    have hK31 : FS o I J I26 J27 := hK24.tr hc60_28
    refine g_aload_n d_X7_pass_63 rfl ?_
    refine g_getZ d_X7_pass_64 fq_RX7_66 (sa0 ho) rfl (fun hz64 => ?_)
    have J_88 : ∀ (I32 : Iv), ∀ (J33 : Jv), (FS o I J I32 J33) → G m_X7_pass (rq m_X7_pass (fun r S' I' J' => S' = SHF ∧ FSx o I J I' J' ∧ r = none ∧ I' (o + 8) 0 = I (o + 8) 0 + 1)) 0 0 88 [some (.ref 13), some (.ref o), some (.int open_), some (.int bulb), some (.int less), some (.int r11), some (.int r17)] [] SHF I32 J33 := by
      intro I32 J33 hK34
      refine g_aload_n d_X7_pass_88 rfl ?_
      refine g_getZ d_X7_pass_89 fq_RX7_76 (sa0 ho) rfl (fun hz89 => ?_)
      have J_121 : ∀ (I35 : Iv), ∀ (J36 : Jv), (FS o I J I35 J36) → G m_X7_pass (rq m_X7_pass (fun r S' I' J' => S' = SHF ∧ FSx o I J I' J' ∧ r = none ∧ I' (o + 8) 0 = I (o + 8) 0 + 1)) 0 0 121 [some (.ref 13), some (.ref o), some (.int open_), some (.int bulb), some (.int less), some (.int r11), some (.int r17)] [] SHF I35 J36 := by
        intro I35 J36 hK37
        refine g_aload_n d_X7_pass_121 rfl ?_
        refine g_aload_n d_X7_pass_122 rfl ?_
        refine g_iload d_X7_pass_123 rfl ?_
        refine g_iload_n d_X7_pass_125 rfl ?_
        have J_135 : ∀ (w38 : Int32), G m_X7_pass (rq m_X7_pass (fun r S' I' J' => S' = SHF ∧ FSx o I J I' J' ∧ r = none ∧ I' (o + 8) 0 = I (o + 8) 0 + 1)) 0 0 135 [some (.ref 13), some (.ref o), some (.int open_), some (.int bulb), some (.int less), some (.int r11), some (.int r17)] [.int w38, .int r17, .ref o, .ref 13] SHF I35 J36 := by
          intro w38
          refine g_iadd d_X7_pass_135 ?_
          refine g_V2 d_X7_pass_136 cs_X7_pass_X7_takeWet lk_RX7_86 im_X7_takeWet se_X7_takeWet rfl rfl rfl (Nat.le_of_ble_eq_true rfl) ⟨rfl, rfl⟩ ⟨Nat.zero_le _, Nat.zero_le _⟩ (ct_X7_takeWet (r17 + w38) I35 J36 ho) (fun r136 S136 I39 J40 q136_40 => ?_)
          obtain ⟨rfl, hc136_41, rfl⟩ := q136_40
          refine g_st (st' := []) rfl ?_
          have hK44 : FS o I J I39 J40 := hK37.tr hc136_41
          refine g_aload_n d_X7_pass_139 rfl ?_
          refine g_getR d_X7_pass_140 fq_RX7_89 (sa0 ho) rfl ?_
          refine g_iconst (v := 0) d_X7_pass_143 kI_0 ?_
          refine g_dup2 d_X7_pass_144 rfl rfl ?_
          refine g_iaload (N := 8) d_X7_pass_145 (sa8 ho) kT_8 ⟨by decide, by decide⟩ kN_0 ?_
          refine g_iconst (v := 1) d_X7_pass_146 kI_1 ?_
          refine g_iadd d_X7_pass_147 ?_
          refine g_iastore (N := 8) d_X7_pass_148 (sa8 ho) kT_8 ⟨by decide, by decide⟩ kN_0  ?_
          refine g_nmI (fun I45 eI45 => ?_)
          have hK46 : FSx o I J I45 J40 := (by rw [eI45]; exact fsx_wI ho (hK44).1 (by omega))
          have htk : I45 (o + 8) 0 = I (o + 8) 0 + 1 := by rw [eI45]; simp [wI, (hK44).2]
          exact g_return d_X7_pass_149 rfl rfl rfl ⟨rfl, hK46, rfl, htk⟩
        refine g_if_eq d_X7_pass_126 (fun h126 => ?_) (fun h126 => ?_)
        · skip
          refine g_iconst (v := 0) d_X7_pass_134 kI_0 ?_
          exact J_135 ((0 : Int32))
        · skip
          refine g_bipush (v := 20) d_X7_pass_129 kB_20 ?_
          refine g_goto d_X7_pass_131 ?_
          exact J_135 ((20 : Int32))
      refine g_if_eq d_X7_pass_92 (fun h92 => ?_) (fun h92 => ?_)
      · skip
        exact J_121 I32 J33 hK34
      · skip
        refine g_aload_n d_X7_pass_95 rfl ?_
        refine g_aload_n d_X7_pass_96 rfl ?_
        refine g_aload_n d_X7_pass_97 rfl ?_
        refine g_getR d_X7_pass_98 fq_RX7_19 rfl rfl ?_
        refine g_aload_n d_X7_pass_101 rfl ?_
        refine g_V1 d_X7_pass_102 cs_X7_pass_X0_powerOf lk_RX7_79 im_X0_powerOf se_X0_powerOf rfl rfl rfl (Nat.le_of_ble_eq_true rfl) ⟨rfl, rfl⟩ ⟨Nat.zero_le _, Nat.zero_le _⟩ (ct_X0_powerOf  I32 J33 ho) (fun r102 S102 Ic48 Jc49 q102_46 => ?_)
        obtain ⟨rfl, rfl, rfl, r51, rfl⟩ := q102_46
        refine g_st (st' := [.int r51, .ref o, .ref 13]) rfl ?_
        refine g_iload d_X7_pass_105 rfl ?_
        refine g_aload_n d_X7_pass_107 rfl ?_
        refine g_getR d_X7_pass_108 fq_RX7_9 rfl rfl ?_
        refine g_iconst (v := 3) d_X7_pass_111 kI_3 ?_
        refine g_iaload (N := 12) d_X7_pass_112 rfl kT_12 ⟨by decide, by decide⟩ kN_3 ?_
        refine g_isub d_X7_pass_113 ?_
        refine g_bipush (v := 8) d_X7_pass_114 kB_8 ?_
        refine g_idiv d_X7_pass_116 (by decide) ?_
        refine g_isub d_X7_pass_117 ?_
        refine g_V2 d_X7_pass_118 cs_X7_pass_X7_moveOut lk_RX7_82 im_X7_moveOut se_X7_moveOut rfl rfl rfl (Nat.le_of_ble_eq_true rfl) ⟨rfl, rfl⟩ ⟨Nat.zero_le _, Nat.zero_le _⟩ (ct_X7_moveOut (r51 - ((r11 - (I32 14 3)) / (8 : Int32))) I32 J33 ho) (fun r118 S118 I53 J54 q118_54 => ?_)
        obtain ⟨rfl, hc118_55, rfl⟩ := q118_54
        refine g_st (st' := []) rfl ?_
        have hK58 : FS o I J I53 J54 := hK34.tr hc118_55
        exact J_121 I53 J54 hK58
    refine g_if_eq d_X7_pass_67 (fun h67 => ?_) (fun h67 => ?_)
    · skip
      exact J_88 I26 J27 hK31
    · skip
      refine g_iload_n d_X7_pass_70 rfl ?_
      have J_83 : G m_X7_pass (rq m_X7_pass (fun r S' I' J' => S' = SHF ∧ FSx o I J I' J' ∧ r = none ∧ I' (o + 8) 0 = I (o + 8) 0 + 1)) 0 0 83 [some (.ref 13), some (.ref o), some (.int open_), some (.int bulb), some (.int less), some (.int r11), some (.int r17)] [] SHF I26 J27 := by
        skip
        refine g_aload_n d_X7_pass_83 rfl ?_
        refine g_aload_n d_X7_pass_84 rfl ?_
        refine g_V1 d_X7_pass_85 cs_X7_pass_X7_giveLight lk_RX7_73 im_X7_giveLight se_X7_giveLight rfl rfl rfl (Nat.le_of_ble_eq_true rfl) ⟨rfl, rfl⟩ ⟨Nat.zero_le _, Nat.zero_le _⟩ (ct_X7_giveLight  I26 J27 ho) (fun r85 S85 I59 J60 q85_60 => ?_)
        obtain ⟨rfl, hc85_61, rfl⟩ := q85_60
        refine g_st (st' := []) rfl ?_
        have hK64 : FS o I J I59 J60 := hK31.tr hc85_61
        exact J_88 I59 J60 hK64
      refine g_if_ne d_X7_pass_71 (fun h71 => ?_) (fun h71 => ?_)
      · skip
        exact J_83
      · skip
        refine g_aload_n d_X7_pass_74 rfl ?_
        refine g_bipush (v := 32) d_X7_pass_75 kB_32 ?_
        refine g_V1 d_X7_pass_77 cs_X7_pass_X6_has lk_RX7_70 im_X6_has se_X6_has (sa0 ho) rfl rfl (Nat.le_of_ble_eq_true rfl) ⟨rfl, rfl⟩ ⟨Nat.zero_le _, Nat.zero_le _⟩ (ct_X6_has (32 : Int32) I26 J27 ho) (fun r77 S77 Ic66 Jc67 q77_64 => ?_)
        obtain ⟨rfl, rfl, rfl, r69, rfl, hz77⟩ := q77_64
        refine g_st (st' := [.int r69]) rfl ?_
        refine g_if_eq d_X7_pass_80 (fun h80 => ?_) (fun h80 => ?_)
        · skip
          exact J_88 I26 J27 hK31
        · skip
          exact J_83
  refine g_if_eq d_X7_pass_50 (fun h50 => ?_) (fun h50 => ?_)
  · skip
    refine g_iconst (v := 0) d_X7_pass_58 kI_0 ?_
    exact J_59 ((0 : Int32))
  · skip
    refine g_bipush (v := 60) d_X7_pass_53 kB_60 ?_
    refine g_goto d_X7_pass_55 ?_
    exact J_59 ((60 : Int32))
set_option maxRecDepth 100000 in
set_option maxHeartbeats 4000000 in
theorem ct_X7_passByDay (n : Int32) (bulb : Int32) {o : Nat} (I : Iv) (J : Jv) (ho : StA o) (hn : 0 ≤ n) : Ct m_X7_passByDay [.ref 13, .ref o, .int n, .int bulb] SHF I J (fun r S' I' J' => S' = SHF ∧ FSx o I J I' J' ∧ r = none ∧ I' (o + 8) 0 = I (o + 8) 0 + n) := by
  refine ct_of 1 (by decide +kernel) rfl rfl ?_
  have hK0 : FSx o I J I J := fsx_rfl
  refine g_iconst (v := 0) d_X7_passByDay_0 kI_0 ?_
  refine g_istore (L' := [some (.ref 13), some (.ref o), some (.int n), some (.int bulb), some (.int (0 : Int32))]) d_X7_passByDay_1 (by decide) rfl ?_
  have K_3 : ∀ (nu : Nat) (x1 : Int32) (I2 : Iv) (J3 : Jv), mU n x1 = nu → (FSx o I J I2 J3) → ((0 : Int32) ≤ x1) → (I2 (o + 8) 0 = I (o + 8) 0 + x1) → (x1 ≤ n) → G m_X7_passByDay (rq m_X7_passByDay (fun r S' I' J' => S' = SHF ∧ FSx o I J I' J' ∧ r = none ∧ I' (o + 8) 0 = I (o + 8) 0 + n)) 0 0 3 [some (.ref 13), some (.ref o), some (.int n), some (.int bulb), some (.int x1)] [] SHF I2 J3 := by
    intro nu
    induction nu using Nat.strongRecOn with
    | ind nu ih_3 =>
      intro x1 I2 J3 hmu_3 hK4 hl5 htk_3 htn_3
      refine g_iload d_X7_passByDay_3 rfl ?_
      refine g_iload_n d_X7_passByDay_5 rfl ?_
      refine g_icmp_ge d_X7_passByDay_6 (fun h6 => ?_) (fun h6 => ?_)
      · skip
        exact g_return d_X7_passByDay_33 rfl rfl rfl ⟨rfl, hK4, rfl, by grind⟩
      · skip
        refine g_aload_n d_X7_passByDay_9 rfl ?_
        refine g_aload_n d_X7_passByDay_10 rfl ?_
        refine g_aload_n d_X7_passByDay_11 rfl ?_
        refine g_getR d_X7_passByDay_12 fq_RX7_23 rfl rfl ?_
        refine g_aload_n d_X7_passByDay_15 rfl ?_
        refine g_V0 d_X7_passByDay_16 cs_X7_passByDay_X6_tickOfDay lk_RX7_27 im_X6_tickOfDay se_X6_tickOfDay (sa0 ho) rfl rfl (Nat.le_of_ble_eq_true rfl) ⟨rfl, rfl⟩ ⟨Nat.zero_le _, Nat.zero_le _⟩ (ct_X6_tickOfDay  I2 J3 ho) (fun r16 S16 Ic7 Jc8 q16_5 => ?_)
        obtain ⟨rfl, rfl, rfl, r10, rfl, hr16_10⟩ := q16_5
        refine g_st (st' := [.int r10, .ref 9, .ref o, .ref 13]) rfl ?_
        refine g_V1 d_X7_passByDay_19 cs_X7_passByDay_X3_isOpenIn lk_RX7_33 im_X3_isOpenIn se_X3_isOpenIn rfl rfl rfl (Nat.le_of_ble_eq_true rfl) ⟨rfl, rfl⟩ ⟨Nat.zero_le _, Nat.zero_le _⟩ (ct_X3_isOpenIn r10 I2 J3 ) (fun r19 S19 Ic13 Jc14 q19_11 => ?_)
        obtain ⟨rfl, rfl, rfl, r16, rfl, hz19⟩ := q19_11
        refine g_st (st' := [.int r16, .ref o, .ref 13]) rfl ?_
        refine g_iload_n d_X7_passByDay_22 rfl ?_
        refine g_iconst (v := 0) d_X7_passByDay_23 kI_0 ?_
        refine g_V4 d_X7_passByDay_24 cs_X7_passByDay_X7_pass lk_RX7_39 im_X7_pass se_X7_pass rfl rfl rfl (Nat.le_of_ble_eq_true rfl) ⟨rfl, rfl⟩ ⟨Nat.zero_le _, Nat.zero_le _⟩ (ct_X7_pass r16 bulb (0 : Int32) I2 J3 ho) (fun r24 S24 I18 J19 q24_19 => ?_)
        obtain ⟨rfl, hc24_20, rfl, hr24_21⟩ := q24_19
        refine g_st (st' := []) rfl ?_
        have hK23 : FSx o I J I18 J19 := hK4.tr hc24_20
        refine g_iinc (v := (x1 + (1 : Int32))) (L' := [some (.ref 13), some (.ref o), some (.int n), some (.int bulb), some (.int (x1 + (1 : Int32)))]) d_X7_passByDay_27 rfl (by rw [kI_1]) (by decide) rfl ?_
        refine g_goto d_X7_passByDay_30 ?_
        exact ih_3 _ (by rw [← hmu_3]; exact mu_up h6) (x1 + (1 : Int32)) I18 J19 rfl hK23 (lo_up hl5 h6) (by grind) (by grind)
  exact K_3 _ (0 : Int32) I J rfl hK0 (Int32.le_refl _) (by grind) hn
