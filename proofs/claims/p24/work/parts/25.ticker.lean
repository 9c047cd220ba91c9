noncomputable def fn_X3_isOpenIn (t : Int32) (I : Iv) (J : Jv) : Int32 × Iv × Jv :=
  if t < 0 then ((0 : Int32), I, J) else if (288 : Int32) ≤ t then ((0 : Int32), I, J) else if (I 12 t.toNatClampNeg) = 0 then ((0 : Int32), I, J) else ((1 : Int32), I, J)
set_option maxRecDepth 100000 in
set_option maxHeartbeats 4000000 in
theorem ct_X3_isOpenIn (t : Int32) (I : Iv) (J : Jv)  : Ct m_X3_isOpenIn [.ref 9, .int t] SHF I J (fun r S' I' J' => S' = SHF ∧ I = I' ∧ J = J' ∧ ∃ v : Int32, r = some (.int v) ∧ (v = 0 ∨ v = 1) ∧ fn_X3_isOpenIn t I J = (v, I', J')) := by
  refine ct_of 0 (by decide +kernel) rfl rfl ?_
  have hF := fe_of (fn_X3_isOpenIn.eq_1 t I J)
  refine g_iload_n d_X3_isOpenIn_0 rfl ?_
  refine g_if_lt d_X3_isOpenIn_1 (fun h1 => ?_) (fun h1 => ?_)
  · skip
    replace hF := fe_pos hF h1
    refine g_iconst (v := 0) d_X3_isOpenIn_24 kI_0 ?_
    exact g_ireturn d_X3_isOpenIn_25 rfl rfl rfl rfl ⟨rfl, rfl, rfl, (0 : Int32), rfl, Or.inl rfl, hF⟩
  · skip
    replace hF := fe_neg hF h1
    refine g_iload_n d_X3_isOpenIn_4 rfl ?_
    refine g_sipush (v := 288) d_X3_isOpenIn_5 kS_288 ?_
    refine g_icmp_ge d_X3_isOpenIn_8 (fun h8 => ?_) (fun h8 => ?_)
    · skip
      replace hF := fe_pos hF h8
      refine g_iconst (v := 0) d_X3_isOpenIn_24 kI_0 ?_
      exact g_ireturn d_X3_isOpenIn_25 rfl rfl rfl rfl ⟨rfl, rfl, rfl, (0 : Int32), rfl, Or.inl rfl, hF⟩
    · skip
      replace hF := fe_neg hF h8
      refine g_aload_n d_X3_isOpenIn_11 rfl ?_
      refine g_getR d_X3_isOpenIn_12 fq_RX3_18 rfl rfl ?_
      refine g_iload_n d_X3_isOpenIn_15 rfl ?_
      refine g_baload (N := 288) d_X3_isOpenIn_16 rfl kT_288 (by constructor <;> grind) rfl (fun hz16 => ?_)
      refine g_if_eq d_X3_isOpenIn_17 (fun h17 => ?_) (fun h17 => ?_)
      · skip
        replace hF := fe_pos hF h17
        refine g_iconst (v := 0) d_X3_isOpenIn_24 kI_0 ?_
        exact g_ireturn d_X3_isOpenIn_25 rfl rfl rfl rfl ⟨rfl, rfl, rfl, (0 : Int32), rfl, Or.inl rfl, hF⟩
      · skip
        replace hF := fe_neg hF h17
        refine g_iconst (v := 1) d_X3_isOpenIn_20 kI_1 ?_
        refine g_goto d_X3_isOpenIn_21 ?_
        exact g_ireturn d_X3_isOpenIn_25 rfl rfl rfl rfl ⟨rfl, rfl, rfl, (1 : Int32), rfl, Or.inr rfl, hF⟩
noncomputable def fn_X0_sealOf (o : Nat) (I : Iv) (J : Jv) : Int32 × Iv × Jv :=
  b_n3 (fn_X6_has o (1 : Int32) I J) (fun (r6 : Int32) (_ : Iv) (_ : Jv) => if r6 = 0 then ((I 8 2), I, J) else ((((4 : Int32) * (I 8 2)) + (12 : Int32)), I, J))
set_option maxRecDepth 100000 in
set_option maxHeartbeats 4000000 in
theorem ct_X0_sealOf {o : Nat} (I : Iv) (J : Jv) (ho : StA o) : Ct m_X0_sealOf [.ref 7, .ref o] SHF I J (fun r S' I' J' => S' = SHF ∧ I = I' ∧ J = J' ∧ ∃ v : Int32, r = some (.int v) ∧ fn_X0_sealOf o I J = (v, I', J')) := by
  refine ct_of 0 (by decide +kernel) rfl rfl ?_
  have hF := fe_of (fn_X0_sealOf.eq_1 o I J)
  refine g_aload_n d_X0_sealOf_0 rfl ?_
  refine g_iconst (v := 1) d_X0_sealOf_1 kI_1 ?_
  refine g_V1 d_X0_sealOf_2 cs_X0_sealOf_X6_has lk_RX0_24 im_X6_has se_X6_has (sa0 ho) rfl rfl (Nat.le_of_ble_eq_true rfl) ⟨rfl, rfl⟩ ⟨Nat.zero_le _, Nat.zero_le _⟩ (ct_X6_has (1 : Int32) I J ho) (fun r2 S2 Ic2 Jc3 q2_0 => ?_)
  obtain ⟨rfl, rfl, rfl, r6, rfl, hz2, hf2_4⟩ := q2_0
  replace hF := fe_b3 hF hf2_4
  refine g_st (st' := [.int r6]) rfl ?_
  refine g_if_eq d_X0_sealOf_5 (fun h5 => ?_) (fun h5 => ?_)
  · skip
    replace hF := fe_pos hF h5
    refine g_aload_n d_X0_sealOf_22 rfl ?_
    refine g_getR d_X0_sealOf_23 fq_RX0_9 rfl rfl ?_
    refine g_iconst (v := 2) d_X0_sealOf_26 kI_2 ?_
    refine g_iaload (N := 15) d_X0_sealOf_27 rfl kT_15 ⟨by decide, by decide⟩ kN_2 ?_
    exact g_ireturn d_X0_sealOf_28 rfl rfl rfl rfl ⟨rfl, rfl, rfl, (I 8 2), rfl, hF⟩
  · skip
    replace hF := fe_neg hF h5
    refine g_iconst (v := 4) d_X0_sealOf_8 kI_4 ?_
    refine g_aload_n d_X0_sealOf_9 rfl ?_
    refine g_getR d_X0_sealOf_10 fq_RX0_9 rfl rfl ?_
    refine g_iconst (v := 2) d_X0_sealOf_13 kI_2 ?_
    refine g_iaload (N := 15) d_X0_sealOf_14 rfl kT_15 ⟨by decide, by decide⟩ kN_2 ?_
    refine g_imul d_X0_sealOf_15 ?_
    refine g_bipush (v := 12) d_X0_sealOf_16 kB_12 ?_
    refine g_iadd d_X0_sealOf_18 ?_
    refine g_goto d_X0_sealOf_19 ?_
    exact g_ireturn d_X0_sealOf_28 rfl rfl rfl rfl ⟨rfl, rfl, rfl, (((4 : Int32) * (I 8 2)) + (12 : Int32)), rfl, hF⟩
noncomputable def fn_X0_powerOf (o : Nat) (I : Iv) (J : Jv) : Int32 × Iv × Jv :=
  l_t ((I 8 0)) (fun (v1 : Int32) => b_n3 (fn_X6_has o (4 : Int32) I J) (fun (r7 : Int32) (_ : Iv) (_ : Jv) => j_n (fun (y9 : Int32) => b_n3 (fn_X6_has o (8 : Int32) I J) (fun (r15 : Int32) (_ : Iv) (_ : Jv) => if r15 = 0 then (y9, I, J) else l_t ((y9 - ((y9 * (45 : Int32)) / (100 : Int32)))) (fun (v17 : Int32) => (v17, I, J)))) (fun (j25_0 : Int32 → Int32 × Iv × Jv) => if r7 = 0 then j25_0 v1 else l_t ((v1 - ((v1 * (50 : Int32)) / (100 : Int32)))) (fun (v18 : Int32) => j25_0 v18))))
set_option maxRecDepth 100000 in
set_option maxHeartbeats 4000000 in
theorem ct_X0_powerOf {o : Nat} (I : Iv) (J : Jv) (ho : StA o) : Ct m_X0_powerOf [.ref 7, .ref o] SHF I J (fun r S' I' J' => S' = SHF ∧ I = I' ∧ J = J' ∧ ∃ v : Int32, r = some (.int v) ∧ fn_X0_powerOf o I J = (v, I', J')) := by
  refine ct_of 1 (by decide +kernel) rfl rfl ?_
  have hF := fe_of (fn_X0_powerOf.eq_1 o I J)
  refine g_aload_n d_X0_powerOf_0 rfl ?_
  refine g_getR d_X0_powerOf_1 fq_RX0_9 rfl rfl ?_
  refine g_iconst (v := 0) d_X0_powerOf_4 kI_0 ?_
  refine g_iaload (N := 15) d_X0_powerOf_5 rfl kT_15 ⟨by decide, by decide⟩ kN_0 ?_
  refine g_topI (fun v1 ev1 => ?_)
  replace hF := fe_lt hF ev1
  refine g_istore_n (L' := [some (.ref 7), some (.ref o), some (.int v1)]) d_X0_powerOf_6 (by decide) rfl ?_
  refine g_aload_n d_X0_powerOf_7 rfl ?_
  refine g_iconst (v := 4) d_X0_powerOf_8 kI_4 ?_
  refine g_V1 d_X0_powerOf_9 cs_X0_powerOf_X6_has lk_RX0_24 im_X6_has se_X6_has (sa0 ho) rfl rfl (Nat.le_of_ble_eq_true rfl) ⟨rfl, rfl⟩ ⟨Nat.zero_le _, Nat.zero_le _⟩ (ct_X6_has (4 : Int32) I J ho) (fun r9 S9 Ic3 Jc4 q9_1 => ?_)
  obtain ⟨rfl, rfl, rfl, r7, rfl, hz9, hf9_5⟩ := q9_1
  replace hF := fe_b3 hF hf9_5
  refine g_st (st' := [.int r7]) rfl ?_
  obtain ⟨j25_0, hj25_0, hF⟩ := fe_jx hF
  have J_25 : ∀ (y9 : Int32), (FE (fn_X0_powerOf o I J) (fun _ => j25_0 y9)) → G m_X0_powerOf (rq m_X0_powerOf (fun r S' I' J' => S' = SHF ∧ I = I' ∧ J = J' ∧ ∃ v : Int32, r = some (.int v) ∧ fn_X0_powerOf o I J = (v, I', J'))) 0 0 25 [some (.ref 7), some (.ref o), some (.int y9)] [] SHF I J := by
    intro y9 hF_j25_0
    have hF := fe_eq hF_j25_0 (congrFun hj25_0 y9)
    refine g_aload_n d_X0_powerOf_25 rfl ?_
    refine g_bipush (v := 8) d_X0_powerOf_26 kB_8 ?_
    refine g_V1 d_X0_powerOf_28 cs_X0_powerOf_X6_has lk_RX0_24 im_X6_has se_X6_has (sa0 ho) rfl rfl (Nat.le_of_ble_eq_true rfl) ⟨rfl, rfl⟩ ⟨Nat.zero_le _, Nat.zero_le _⟩ (ct_X6_has (8 : Int32) I J ho) (fun r28 S28 Ic11 Jc12 q28_9 => ?_)
    obtain ⟨rfl, rfl, rfl, r15, rfl, hz28, hf28_13⟩ := q28_9
    replace hF := fe_b3 hF hf28_13
    refine g_st (st' := [.int r15]) rfl ?_
    refine g_if_eq d_X0_powerOf_31 (fun h31 => ?_) (fun h31 => ?_)
    · skip
      replace hF := fe_pos hF h31
      refine g_iload_n d_X0_powerOf_44 rfl ?_
      exact g_ireturn d_X0_powerOf_45 rfl rfl rfl rfl ⟨rfl, rfl, rfl, y9, rfl, hF⟩
    · skip
      replace hF := fe_neg hF h31
      refine g_iload_n d_X0_powerOf_34 rfl ?_
      refine g_iload_n d_X0_powerOf_35 rfl ?_
      refine g_bipush (v := 45) d_X0_powerOf_36 kB_45 ?_
      refine g_imul d_X0_powerOf_38 ?_
      refine g_bipush (v := 100) d_X0_powerOf_39 kB_100 ?_
      refine g_idiv d_X0_powerOf_41 (by decide) ?_
      refine g_isub d_X0_powerOf_42 ?_
      refine g_topI (fun v17 ev17 => ?_)
      replace hF := fe_lt hF ev17
      refine g_istore_n (L' := [some (.ref 7), some (.ref o), some (.int v17)]) d_X0_powerOf_43 (by decide) rfl ?_
      refine g_iload_n d_X0_powerOf_44 rfl ?_
      exact g_ireturn d_X0_powerOf_45 rfl rfl rfl rfl ⟨rfl, rfl, rfl, v17, rfl, hF⟩
  refine g_if_eq d_X0_powerOf_12 (fun h12 => ?_) (fun h12 => ?_)
  · skip
    replace hF := fe_pos hF h12
    exact J_25 v1 hF
  · skip
    replace hF := fe_neg hF h12
    refine g_iload_n d_X0_powerOf_15 rfl ?_
    refine g_iload_n d_X0_powerOf_16 rfl ?_
    refine g_bipush (v := 50) d_X0_powerOf_17 kB_50 ?_
    refine g_imul d_X0_powerOf_19 ?_
    refine g_bipush (v := 100) d_X0_powerOf_20 kB_100 ?_
    refine g_idiv d_X0_powerOf_22 (by decide) ?_
    refine g_isub d_X0_powerOf_23 ?_
    refine g_topI (fun v18 ev18 => ?_)
    replace hF := fe_lt hF ev18
    refine g_istore_n (L' := [some (.ref 7), some (.ref o), some (.int v18)]) d_X0_powerOf_24 (by decide) rfl ?_
    exact J_25 v18 hF
noncomputable def fn_X0_roomOf (o : Nat) (I : Iv) (J : Jv) : Int32 × Iv × Jv :=
  l_t (((I 8 11) * (10 : Int32))) (fun (v1 : Int32) => b_n3 (fn_X6_tickOfDay o I J) (fun (r7 : Int32) (_ : Iv) (_ : Jv) => l_t ((r7 / (12 : Int32))) (fun (v9 : Int32) => j_n (fun (w10 : Int32) => j_n (fun (y11 : Int32) => b_n3 (fn_X6_has o (64 : Int32) I J) (fun (r17 : Int32) (_ : Iv) (_ : Jv) => if r17 = 0 then (y11, I, J) else ((y11 + (800 : Int32)), I, J))) (fun (j77_1 : Int32 → Int32 × Iv × Jv) => if w10 = 0 then j77_1 v1 else l_t ((v1 + ((I 8 14) * (10 : Int32)))) (fun (v19 : Int32) => j77_1 v19))) (fun (j57_0 : Int32 → Int32 × Iv × Jv) => j_n (j57_0 ((0 : Int32))) (fun (j56_2 : Int32 × Iv × Jv) => if (I 8 12) = (-1 : Int32) then j56_2 else if v9 < (I 8 12) then j56_2 else if (I 8 13) ≤ v9 then j56_2 else j57_0 ((1 : Int32)))))))
set_option maxRecDepth 100000 in
set_option maxHeartbeats 4000000 in
theorem ct_X0_roomOf {o : Nat} (I : Iv) (J : Jv) (ho : StA o) : Ct m_X0_roomOf [.ref 7, .ref o] SHF I J (fun r S' I' J' => S' = SHF ∧ I = I' ∧ J = J' ∧ ∃ v : Int32, r = some (.int v) ∧ fn_X0_roomOf o I J = (v, I', J')) := by
  refine ct_of 3 (by decide +kernel) rfl rfl ?_
  have hF := fe_of (fn_X0_roomOf.eq_1 o I J)
  refine g_aload_n d_X0_roomOf_0 rfl ?_
  refine g_getR d_X0_roomOf_1 fq_RX0_9 rfl rfl ?_
  refine g_bipush (v := 11) d_X0_roomOf_4 kB_11 ?_
  refine g_iaload (N := 15) d_X0_roomOf_6 rfl kT_15 ⟨by decide, by decide⟩ kN_11 ?_
  refine g_bipush (v := 10) d_X0_roomOf_7 kB_10 ?_
  refine g_imul d_X0_roomOf_9 ?_
  refine g_topI (fun v1 ev1 => ?_)
  replace hF := fe_lt hF ev1
  refine g_istore_n (L' := [some (.ref 7), some (.ref o), some (.int v1), none, none]) d_X0_roomOf_10 (by decide) rfl ?_
  refine g_aload_n d_X0_roomOf_11 rfl ?_
  refine g_V0 d_X0_roomOf_12 cs_X0_roomOf_X6_tickOfDay lk_RX0_30 im_X6_tickOfDay se_X6_tickOfDay (sa0 ho) rfl rfl (Nat.le_of_ble_eq_true rfl) ⟨rfl, rfl⟩ ⟨Nat.zero_le _, Nat.zero_le _⟩ (ct_X6_tickOfDay  I J ho) (fun r12 S12 Ic3 Jc4 q12_1 => ?_)
  obtain ⟨rfl, rfl, rfl, r7, rfl, hf12_5, hr12_7⟩ := q12_1
  replace hF := fe_b3 hF hf12_5
  refine g_st (st' := [.int r7]) rfl ?_
  refine g_bipush (v := 12) d_X0_roomOf_15 kB_12 ?_
  refine g_idiv d_X0_roomOf_17 (by decide) ?_
  refine g_topI (fun v9 ev9 => ?_)
  replace hF := fe_lt hF ev9
  refine g_istore_n (L' := [some (.ref 7), some (.ref o), some (.int v1), some (.int v9), none]) d_X0_roomOf_18 (by decide) rfl ?_
  refine g_aload_n d_X0_roomOf_19 rfl ?_
  refine g_getR d_X0_roomOf_20 fq_RX0_9 rfl rfl ?_
  refine g_bipush (v := 12) d_X0_roomOf_23 kB_12 ?_
  refine g_iaload (N := 15) d_X0_roomOf_25 rfl kT_15 ⟨by decide, by decide⟩ kN_12 ?_
  refine g_iconst (v := -1) d_X0_roomOf_26 kI_m1 ?_
  obtain ⟨j57_0, hj57_0, hF⟩ := fe_jx hF
  have J_57 : ∀ (w10 : Int32), (w10 = 0 ∨ w10 = 1) → (FE (fn_X0_roomOf o I J) (fun _ => j57_0 w10)) → G m_X0_roomOf (rq m_X0_roomOf (fun r S' I' J' => S' = SHF ∧ I = I' ∧ J = J' ∧ ∃ v : Int32, r = some (.int v) ∧ fn_X0_roomOf o I J = (v, I', J'))) 0 0 57 [some (.ref 7), some (.ref o), some (.int v1), some (.int v9), none] [.int w10] SHF I J := by
    intro w10 hw10 hF_j57_0
    have hF := fe_eq hF_j57_0 (congrFun hj57_0 w10)
    refine g_istore (L' := [some (.ref 7), some (.ref o), some (.int v1), some (.int v9), some (.int w10)]) d_X0_roomOf_57 (by decide) rfl ?_
    refine g_iload d_X0_roomOf_59 rfl ?_
    obtain ⟨j77_1, hj77_1, hF⟩ := fe_jx hF
    have J_77 : ∀ (y11 : Int32), (FE (fn_X0_roomOf o I J) (fun _ => j77_1 y11)) → G m_X0_roomOf (rq m_X0_roomOf (fun r S' I' J' => S' = SHF ∧ I = I' ∧ J = J' ∧ ∃ v : Int32, r = some (.int v) ∧ fn_X0_roomOf o I J = (v, I', J'))) 0 0 77 [some (.ref 7), some (.ref o), some (.int y11), some (.int v9), some (.int w10)] [] SHF I J := by
      intro y11 hF_j77_1
      have hF := fe_eq hF_j77_1 (congrFun hj77_1 y11)
      refine g_aload_n d_X0_roomOf_77 rfl ?_
      refine g_bipush (v := 64) d_X0_roomOf_78 kB_64 ?_
      refine g_V1 d_X0_roomOf_80 cs_X0_roomOf_X6_has lk_RX0_24 im_X6_has se_X6_has (sa0 ho) rfl rfl (Nat.le_of_ble_eq_true rfl) ⟨rfl, rfl⟩ ⟨Nat.zero_le _, Nat.zero_le _⟩ (ct_X6_has (64 : Int32) I J ho) (fun r80 S80 Ic13 Jc14 q80_11 => ?_)
      obtain ⟨rfl, rfl, rfl, r17, rfl, hz80, hf80_15⟩ := q80_11
      replace hF := fe_b3 hF hf80_15
      refine g_st (st' := [.int r17]) rfl ?_
      refine g_if_eq d_X0_roomOf_83 (fun h83 => ?_) (fun h83 => ?_)
      · skip
        replace hF := fe_pos hF h83
        refine g_iload_n d_X0_roomOf_94 rfl ?_
        exact g_ireturn d_X0_roomOf_95 rfl rfl rfl rfl ⟨rfl, rfl, rfl, y11, rfl, hF⟩
      · skip
        replace hF := fe_neg hF h83
        refine g_iload_n d_X0_roomOf_86 rfl ?_
        refine g_sipush (v := 800) d_X0_roomOf_87 kS_800 ?_
        refine g_iadd d_X0_roomOf_90 ?_
        refine g_goto d_X0_roomOf_91 ?_
        exact g_ireturn d_X0_roomOf_95 rfl rfl rfl rfl ⟨rfl, rfl, rfl, (y11 + (800 : Int32)), rfl, hF⟩
    refine g_if_eq d_X0_roomOf_61 (fun h61 => ?_) (fun h61 => ?_)
    · skip
      replace hF := fe_pos hF h61
      exact J_77 v1 hF
    · skip
      replace hF := fe_neg hF h61
      refine g_iload_n d_X0_roomOf_64 rfl ?_
      refine g_aload_n d_X0_roomOf_65 rfl ?_
      refine g_getR d_X0_roomOf_66 fq_RX0_9 rfl rfl ?_
      refine g_bipush (v := 14) d_X0_roomOf_69 kB_14 ?_
      refine g_iaload (N := 15) d_X0_roomOf_71 rfl kT_15 ⟨by decide, by decide⟩ kN_14 ?_
      refine g_bipush (v := 10) d_X0_roomOf_72 kB_10 ?_
      refine g_imul d_X0_roomOf_74 ?_
      refine g_iadd d_X0_roomOf_75 ?_
      refine g_topI (fun v19 ev19 => ?_)
      replace hF := fe_lt hF ev19
      refine g_istore_n (L' := [some (.ref 7), some (.ref o), some (.int v19), some (.int v9), some (.int w10)]) d_X0_roomOf_76 (by decide) rfl ?_
      exact J_77 v19 hF
  obtain ⟨j56_2, hj56_2, hF⟩ := fe_jx hF
  have J_56 : (FE (fn_X0_roomOf o I J) (fun _ => j56_2)) → G m_X0_roomOf (rq m_X0_roomOf (fun r S' I' J' => S' = SHF ∧ I = I' ∧ J = J' ∧ ∃ v : Int32, r = some (.int v) ∧ fn_X0_roomOf o I J = (v, I', J'))) 0 0 56 [some (.ref 7), some (.ref o), some (.int v1), some (.int v9), none] [] SHF I J := by
    intro hF_j56_2
    have hF := fe_eq hF_j56_2 hj56_2
    refine g_iconst (v := 0) d_X0_roomOf_56 kI_0 ?_
    exact J_57 ((0 : Int32)) (Or.inl rfl) hF
  refine g_icmp_eq d_X0_roomOf_27 (fun h27 => ?_) (fun h27 => ?_)
  · skip
    replace hF := fe_pos hF h27
    exact J_56 hF
  · skip
    replace hF := fe_neg hF h27
    refine g_aload_n d_X0_roomOf_30 rfl ?_
    refine g_getR d_X0_roomOf_31 fq_RX0_9 rfl rfl ?_
    refine g_bipush (v := 12) d_X0_roomOf_34 kB_12 ?_
    refine g_iaload (N := 15) d_X0_roomOf_36 rfl kT_15 ⟨by decide, by decide⟩ kN_12 ?_
    refine g_iload_n d_X0_roomOf_37 rfl ?_
    refine g_icmp_gt d_X0_roomOf_38 (fun h38 => ?_) (fun h38 => ?_)
    · skip
      replace hF := fe_pos hF h38
      exact J_56 hF
    · skip
      replace hF := fe_neg hF h38
      refine g_iload_n d_X0_roomOf_41 rfl ?_
      refine g_aload_n d_X0_roomOf_42 rfl ?_
      refine g_getR d_X0_roomOf_43 fq_RX0_9 rfl rfl ?_
      refine g_bipush (v := 13) d_X0_roomOf_46 kB_13 ?_
      refine g_iaload (N := 15) d_X0_roomOf_48 rfl kT_15 ⟨by decide, by decide⟩ kN_13 ?_
      refine g_icmp_ge d_X0_roomOf_49 (fun h49 => ?_) (fun h49 => ?_)
      · skip
        replace hF := fe_pos hF h49
        exact J_56 hF
      · skip
        replace hF := fe_neg hF h49
        refine g_iconst (v := 1) d_X0_roomOf_52 kI_1 ?_
        refine g_goto d_X0_roomOf_53 ?_
        exact J_57 ((1 : Int32)) (Or.inr rfl) hF
noncomputable def fl_X7_lookAtWarmths_2_0 (J : Jv) (o : Nat) (Kf0 : Int32 → Iv → Iv × Jv) : Nat → Int32 → Iv → Iv × Jv
  | 0, x1, I2 => (I2, J)
  | kf0 + 1, x1, I2 => if (12 : Int32) ≤ x1 then Kf0 x1 I2 else b_n3 (fn_X6_warmthOf o x1 I2 J) (fun (r10 : Int32) (_ : Iv) (_ : Jv) => l_t (wI I2 14 (x1.toNatClampNeg) r10) (fun (I12 : Iv) => fl_X7_lookAtWarmths_2_0 J o Kf0 kf0 (x1 + (1 : Int32)) I12))
noncomputable def fn_X7_lookAtWarmths (o : Nat) (I : Iv) (J : Jv) : Iv × Jv :=
  fl_X7_lookAtWarmths_2_0 J o (fun (x1 : Int32) (I2 : Iv) => (I2, J)) (mU (12 : Int32) ((0 : Int32)) + 1) (0 : Int32) I
set_option maxRecDepth 100000 in
set_option maxHeartbeats 4000000 in
theorem ct_X7_lookAtWarmths {o : Nat} (I : Iv) (J : Jv) (ho : StA o) : Ct m_X7_lookAtWarmths [.ref 13, .ref o] SHF I J (fun r S' I' J' => S' = SHF ∧ FS o I J I' J' ∧ r = none ∧ fn_X7_lookAtWarmths o I J = (I', J')) := by
  refine ct_of 1 (by decide +kernel) rfl rfl ?_
  have hK0 : FS o I J I J := fs_rfl
  have hF := fe_of (fn_X7_lookAtWarmths.eq_1 o I J)
  refine g_iconst (v := 0) d_X7_lookAtWarmths_0 kI_0 ?_
  refine g_istore_n (L' := [some (.ref 13), some (.ref o), some (.int (0 : Int32))]) d_X7_lookAtWarmths_1 (by decide) rfl ?_
  obtain ⟨Kf0, hKf0, hF⟩ := fe_kx (f := fun K => fl_X7_lookAtWarmths_2_0 J o K (mU (12 : Int32) ((0 : Int32)) + 1) (0 : Int32) I) hF
  have K_2 : ∀ (nu : Nat) (x1 : Int32) (I2 : Iv), mU (12 : Int32) x1 = nu → (FS o I J I2 J) → ((0 : Int32) ≤ x1) → (∃ kq : Nat, nu < kq ∧ (fun kq => FE (fn_X7_lookAtWarmths o I J) (fun _ => fl_X7_lookAtWarmths_2_0 J o Kf0 kq x1 I2)) kq) → G m_X7_lookAtWarmths (rq m_X7_lookAtWarmths (fun r S' I' J' => S' = SHF ∧ FS o I J I' J' ∧ r = none ∧ fn_X7_lookAtWarmths o I J = (I', J'))) 0 0 2 [some (.ref 13), some (.ref o), some (.int x1)] [] SHF I2 J := by
    intro nu
    induction nu using Nat.strongRecOn with
    | ind nu ih_2 =>
      intro x1 I2 hmu_2 hK3 hl4 hF_Kf0
      obtain ⟨kf0, hkf0, hF⟩ := fe_fu (P := fun kq => FE (fn_X7_lookAtWarmths o I J) (fun _ => fl_X7_lookAtWarmths_2_0 J o Kf0 kq x1 I2)) hF_Kf0
      replace hF := fe_eq hF (fl_X7_lookAtWarmths_2_0.eq_2 _ _ _ _ _ _)
      refine g_iload_n d_X7_lookAtWarmths_2 rfl ?_
      refine g_bipush (v := 12) d_X7_lookAtWarmths_3 kB_12 ?_
      refine g_icmp_ge d_X7_lookAtWarmths_5 (fun h5 => ?_) (fun h5 => ?_)
      · skip
        replace hF := fe_pos hF h5
        replace hF := fe_eq hF (congrFun (congrFun hKf0 x1) I2)
        exact g_return d_X7_lookAtWarmths_25 rfl rfl rfl ⟨rfl, hK3, rfl, hF⟩
      · skip
        replace hF := fe_neg hF h5
        refine g_aload_n d_X7_lookAtWarmths_8 rfl ?_
        refine g_getR d_X7_lookAtWarmths_9 fq_RX7_9 rfl rfl ?_
        refine g_iload_n d_X7_lookAtWarmths_12 rfl ?_
        refine g_aload_n d_X7_lookAtWarmths_13 rfl ?_
        refine g_iload_n d_X7_lookAtWarmths_14 rfl ?_
        refine g_V1 d_X7_lookAtWarmths_15 cs_X7_lookAtWarmths_X6_warmthOf lk_RX7_92 im_X6_warmthOf se_X6_warmthOf (sa0 ho) rfl rfl (Nat.le_of_ble_eq_true rfl) ⟨rfl, rfl⟩ ⟨Nat.zero_le _, Nat.zero_le _⟩ (ct_X6_warmthOf x1 I2 J ho) (fun r15 S15 Ic6 Jc7 q15_4 => ?_)
        obtain ⟨rfl, rfl, rfl, r10, rfl, hf15_8⟩ := q15_4
        replace hF := fe_b3 hF hf15_8
        refine g_st (st' := [.int r10, .int x1, .ref 14]) rfl ?_
        refine g_iastore (N := 12) d_X7_lookAtWarmths_18 rfl kT_12 ⟨hl4, Int32.not_le.mp h5⟩ rfl  ?_
        refine g_nmI (fun I12 eI12 => ?_)
        replace hF := fe_lt hF eI12
        have hK13 : FS o I J I12 J := (by rw [eI12]; exact fs_wI ho hK3 (by omega))
        refine g_iinc (v := (x1 + (1 : Int32))) (L' := [some (.ref 13), some (.ref o), some (.int (x1 + (1 : Int32)))]) d_X7_lookAtWarmths_19 rfl (by rw [kI_1]) (by decide) rfl ?_
        refine g_goto d_X7_lookAtWarmths_22 ?_
        exact ih_2 _ (by rw [← hmu_2]; exact mu_up h5) (x1 + (1 : Int32)) I12 rfl hK13 (lo_up hl4 h5) ⟨kf0, Nat.lt_of_lt_of_le (by rw [← hmu_2]; exact mu_up h5) hkf0, hF⟩
  exact K_2 _ (0 : Int32) I rfl hK0 (Int32.le_refl _) ⟨_, Nat.lt_succ_self _, hF⟩
noncomputable def fn_X7_switchMachine (o : Nat) (bulb : Int32) (less : Int32) (I : Iv) (J : Jv) : Iv × Jv :=
  j_n (fun (w1 : Int32) => j_n (fun (w2 : Int32) => l_t (wI I o 9 w2) (fun (I3 : Iv) => l_t ((I3 o 10)) (fun (v5 : Int32) => j_n (fun (I6 : Iv) => if (I6 o 10) = 0 then (I6, J) else if v5 = 0 then l_t (wI I6 (o + 8) 2 ((I6 (o + 8) 2) + (1 : Int32))) (fun (I8 : Iv) => (I8, J)) else (I6, J)) (fun (j139_2 : Iv → Iv × Jv) => if (I3 o 12) = 0 then l_t (wI I3 o 10 (0 : Int32)) (fun (I21 : Iv) => j139_2 I21) else b_n3 (fn_X6_has o (16 : Int32) I3 J) (fun (r15 : Int32) (_ : Iv) (_ : Jv) => j_n (l_t (wI I3 o 10 (1 : Int32)) (fun (I17 : Iv) => j139_2 I17)) (fun (j104_3 : Iv × Jv) => if r15 = 0 then if (I3 o 9) < (((I3 8 6) - less) * (10 : Int32)) then if (((I3 8 7) - less) * (10 : Int32)) < (I3 o 9) then j139_2 I3 else l_t (wI I3 o 10 (0 : Int32)) (fun (I19 : Iv) => j139_2 I19) else j104_3 else j104_3)))))) (fun (j49_1 : Int32 → Iv × Jv) => if (I o 11) = 0 then j49_1 w1 else j49_1 (((I o 9) + ((w1 - (I o 9)) / (8 : Int32)))))) (fun (j19_0 : Int32 → Iv × Jv) => j_n (j19_0 ((0 : Int32))) (fun (j18_4 : Iv × Jv) => if bulb < 0 then j18_4 else if (3 : Int32) ≤ bulb then j18_4 else j19_0 ((I 14 bulb.toNatClampNeg))))
set_option maxRecDepth 100000 in
set_option maxHeartbeats 4000000 in
theorem ct_X7_switchMachine (bulb : Int32) (less : Int32) {o : Nat} (I : Iv) (J : Jv) (ho : StA o) : Ct m_X7_switchMachine [.ref 13, .ref o, .int bulb, .int less] SHF I J (fun r S' I' J' => S' = SHF ∧ FS o I J I' J' ∧ r = none ∧ fn_X7_switchMachine o bulb less I J = (I', J')) := by
  refine ct_of 2 (by decide +kernel) rfl rfl ?_
  have hK0 : FS o I J I J := fs_rfl
  have hF := fe_of (fn_X7_switchMachine.eq_1 o bulb less I J)
  refine g_iload_n d_X7_switchMachine_0 rfl ?_
  obtain ⟨j19_0, hj19_0, hF⟩ := fe_jx hF
  have J_19 : ∀ (w1 : Int32), (FE (fn_X7_switchMachine o bulb less I J) (fun _ => j19_0 w1)) → G m_X7_switchMachine (rq m_X7_switchMachine (fun r S' I' J' => S' = SHF ∧ FS o I J I' J' ∧ r = none ∧ fn_X7_switchMachine o bulb less I J = (I', J'))) 0 0 19 [some (.ref 13), some (.ref o), some (.int bulb), some (.int less), none, none] [.int w1] SHF I J := by
    intro w1 hF_j19_0
    have hF := fe_eq hF_j19_0 (congrFun hj19_0 w1)
    refine g_istore (L' := [some (.ref 13), some (.ref o), some (.int bulb), some (.int less), some (.int w1), none]) d_X7_switchMachine_19 (by decide) rfl ?_
    refine g_aload_n d_X7_switchMachine_21 rfl ?_
    refine g_aload_n d_X7_switchMachine_22 rfl ?_
    refine g_getZ d_X7_switchMachine_23 fq_RX7_96 (sa0 ho) rfl (fun hz23 => ?_)
    obtain ⟨j49_1, hj49_1, hF⟩ := fe_jx hF
    have J_49 : ∀ (w2 : Int32), (FE (fn_X7_switchMachine o bulb less I J) (fun _ => j49_1 w2)) → G m_X7_switchMachine (rq m_X7_switchMachine (fun r S' I' J' => S' = SHF ∧ FS o I J I' J' ∧ r = none ∧ fn_X7_switchMachine o bulb less I J = (I', J'))) 0 0 49 [some (.ref 13), some (.ref o), some (.int bulb), some (.int less), some (.int w1), none] [.int w2, .ref o] SHF I J := by
      intro w2 hF_j49_1
      have hF := fe_eq hF_j49_1 (congrFun hj49_1 w2)
      refine g_putI d_X7_switchMachine_49 fq_RX7_99 (sa0 ho) rfl ?_
      refine g_nmI (fun I3 eI3 => ?_)
      replace hF := fe_lt hF eI3
      have hK4 : FS o I J I3 J := (by rw [eI3]; exact fs_wI ho hK0 (by omega))
      refine g_aload_n d_X7_switchMachine_52 rfl ?_
      refine g_getZ d_X7_switchMachine_53 fq_RX7_76 (sa0 ho) rfl (fun hz53 => ?_)
      refine g_topI (fun v5 ev5 => ?_)
      replace hF := fe_lt hF ev5
      refine g_istore (L' := [some (.ref 13), some (.ref o), some (.int bulb), some (.int less), some (.int w1), some (.int v5)]) d_X7_switchMachine_56 (by decide) rfl ?_
      refine g_aload_n d_X7_switchMachine_58 rfl ?_
      refine g_getZ d_X7_switchMachine_59 fq_RX7_66 (sa0 ho) rfl (fun hz59 => ?_)
      obtain ⟨j139_2, hj139_2, hF⟩ := fe_jx hF
      have J_139 : ∀ (I6 : Iv), (FS o I J I6 J) → (FE (fn_X7_switchMachine o bulb less I J) (fun _ => j139_2 I6)) → G m_X7_switchMachine (rq m_X7_switchMachine (fun r S' I' J' => S' = SHF ∧ FS o I J I' J' ∧ r = none ∧ fn_X7_switchMachine o bulb less I J = (I', J'))) 0 0 139 [some (.ref 13), some (.ref o), some (.int bulb), some (.int less), some (.int w1), some (.int v5)] [] SHF I6 J := by
        intro I6 hK7 hF_j139_2
        have hF := fe_eq hF_j139_2 (congrFun hj139_2 I6)
        refine g_aload_n d_X7_switchMachine_139 rfl ?_
        refine g_getZ d_X7_switchMachine_140 fq_RX7_76 (sa0 ho) rfl (fun hz140 => ?_)
        refine g_if_eq d_X7_switchMachine_143 (fun h143 => ?_) (fun h143 => ?_)
        · skip
          replace hF := fe_pos hF h143
          exact g_return d_X7_switchMachine_161 rfl rfl rfl ⟨rfl, hK7, rfl, hF⟩
        · skip
          replace hF := fe_neg hF h143
          refine g_iload d_X7_switchMachine_146 rfl ?_
          refine g_if_ne d_X7_switchMachine_148 (fun h148 => ?_) (fun h148 => ?_)
          · skip
            replace hF := fe_neg hF h148
            exact g_return d_X7_switchMachine_161 rfl rfl rfl ⟨rfl, hK7, rfl, hF⟩
          · skip
            replace hF := fe_pos hF h148
            refine g_aload_n d_X7_switchMachine_151 rfl ?_
            refine g_getR d_X7_switchMachine_152 fq_RX7_89 (sa0 ho) rfl ?_
            refine g_iconst (v := 2) d_X7_switchMachine_155 kI_2 ?_
            refine g_dup2 d_X7_switchMachine_156 rfl rfl ?_
            refine g_iaload (N := 8) d_X7_switchMachine_157 (sa8 ho) kT_8 ⟨by decide, by decide⟩ kN_2 ?_
            refine g_iconst (v := 1) d_X7_switchMachine_158 kI_1 ?_
            refine g_iadd d_X7_switchMachine_159 ?_
            refine g_iastore (N := 8) d_X7_switchMachine_160 (sa8 ho) kT_8 ⟨by decide, by decide⟩ kN_2  ?_
            refine g_nmI (fun I8 eI8 => ?_)
            replace hF := fe_lt hF eI8
            have hK9 : FS o I J I8 J := (by rw [eI8]; exact fs_wI ho hK7 (by omega))
            exact g_return d_X7_switchMachine_161 rfl rfl rfl ⟨rfl, hK9, rfl, hF⟩
      refine g_if_ne d_X7_switchMachine_62 (fun h62 => ?_) (fun h62 => ?_)
      · skip
        replace hF := fe_neg hF h62
        refine g_aload_n d_X7_switchMachine_73 rfl ?_
        refine g_bipush (v := 16) d_X7_switchMachine_74 kB_16 ?_
        refine g_V1 d_X7_switchMachine_76 cs_X7_switchMachine_X6_has lk_RX7_70 im_X6_has se_X6_has (sa0 ho) rfl rfl (Nat.le_of_ble_eq_true rfl) ⟨rfl, rfl⟩ ⟨Nat.zero_le _, Nat.zero_le _⟩ (ct_X6_has (16 : Int32) I3 J ho) (fun r76 S76 Ic11 Jc12 q76_9 => ?_)
        obtain ⟨rfl, rfl, rfl, r15, rfl, hz76, hf76_13⟩ := q76_9
        replace hF := fe_b3 hF hf76_13
        refine g_st (st' := [.int r15]) rfl ?_
        obtain ⟨j104_3, hj104_3, hF⟩ := fe_jx hF
        have J_104 : (FE (fn_X7_switchMachine o bulb less I J) (fun _ => j104_3)) → G m_X7_switchMachine (rq m_X7_switchMachine (fun r S' I' J' => S' = SHF ∧ FS o I J I' J' ∧ r = none ∧ fn_X7_switchMachine o bulb less I J = (I', J'))) 0 0 104 [some (.ref 13), some (.ref o), some (.int bulb), some (.int less), some (.int w1), some (.int v5)] [] SHF I3 J := by
          intro hF_j104_3
          have hF := fe_eq hF_j104_3 hj104_3
          refine g_aload_n d_X7_switchMachine_104 rfl ?_
          refine g_iconst (v := 1) d_X7_switchMachine_105 kI_1 ?_
          refine g_putZ d_X7_switchMachine_106 fq_RX7_76 (sa0 ho) rfl (Or.inr rfl) ?_
          refine g_nmI (fun I17 eI17 => ?_)
          replace hF := fe_lt hF eI17
          have hK18 : FS o I J I17 J := (by rw [eI17]; exact fs_wI ho hK4 (by omega))
          refine g_goto d_X7_switchMachine_109 ?_
          exact J_139 I17 hK18 hF
        refine g_if_ne d_X7_switchMachine_79 (fun h79 => ?_) (fun h79 => ?_)
        · skip
          replace hF := fe_neg hF h79
          exact J_104 hF
        · skip
          replace hF := fe_pos hF h79
          refine g_aload_n d_X7_switchMachine_82 rfl ?_
          refine g_getI d_X7_switchMachine_83 fq_RX7_99 (sa0 ho) rfl ?_
          refine g_aload_n d_X7_switchMachine_86 rfl ?_
          refine g_getR d_X7_switchMachine_87 fq_RX7_19 rfl rfl ?_
          refine g_getR d_X7_switchMachine_90 fq_RX7_60 rfl rfl ?_
          refine g_bipush (v := 6) d_X7_switchMachine_93 kB_6 ?_
          refine g_iaload (N := 15) d_X7_switchMachine_95 rfl kT_15 ⟨by decide, by decide⟩ kN_6 ?_
          refine g_iload_n d_X7_switchMachine_96 rfl ?_
          refine g_isub d_X7_switchMachine_97 ?_
          refine g_bipush (v := 10) d_X7_switchMachine_98 kB_10 ?_
          refine g_imul d_X7_switchMachine_100 ?_
          refine g_icmp_lt d_X7_switchMachine_101 (fun h101 => ?_) (fun h101 => ?_)
          · skip
            replace hF := fe_pos hF h101
            refine g_aload_n d_X7_switchMachine_112 rfl ?_
            refine g_getI d_X7_switchMachine_113 fq_RX7_99 (sa0 ho) rfl ?_
            refine g_aload_n d_X7_switchMachine_116 rfl ?_
            refine g_getR d_X7_switchMachine_117 fq_RX7_19 rfl rfl ?_
            refine g_getR d_X7_switchMachine_120 fq_RX7_60 rfl rfl ?_
            refine g_bipush (v := 7) d_X7_switchMachine_123 kB_7 ?_
            refine g_iaload (N := 15) d_X7_switchMachine_125 rfl kT_15 ⟨by decide, by decide⟩ kN_7 ?_
            refine g_iload_n d_X7_switchMachine_126 rfl ?_
            refine g_isub d_X7_switchMachine_127 ?_
            refine g_bipush (v := 10) d_X7_switchMachine_128 kB_10 ?_
            refine g_imul d_X7_switchMachine_130 ?_
            refine g_icmp_gt d_X7_switchMachine_131 (fun h131 => ?_) (fun h131 => ?_)
            · skip
              replace hF := fe_pos hF h131
              exact J_139 I3 hK4 hF
            · skip
              replace hF := fe_neg hF h131
              refine g_aload_n d_X7_switchMachine_134 rfl ?_
              refine g_iconst (v := 0) d_X7_switchMachine_135 kI_0 ?_
              refine g_putZ d_X7_switchMachine_136 fq_RX7_76 (sa0 ho) rfl (Or.inl rfl) ?_
              refine g_nmI (fun I19 eI19 => ?_)
              replace hF := fe_lt hF eI19
              have hK20 : FS o I J I19 J := (by rw [eI19]; exact fs_wI ho hK4 (by omega))
              exact J_139 I19 hK20 hF
          · skip
            replace hF := fe_neg hF h101
            exact J_104 hF
      · skip
        replace hF := fe_pos hF h62
        refine g_aload_n d_X7_switchMachine_65 rfl ?_
        refine g_iconst (v := 0) d_X7_switchMachine_66 kI_0 ?_
        refine g_putZ d_X7_switchMachine_67 fq_RX7_76 (sa0 ho) rfl (Or.inl rfl) ?_
        refine g_nmI (fun I21 eI21 => ?_)
        replace hF := fe_lt hF eI21
        have hK22 : FS o I J I21 J := (by rw [eI21]; exact fs_wI ho hK4 (by omega))
        refine g_goto d_X7_switchMachine_70 ?_
        exact J_139 I21 hK22 hF
    refine g_if_eq d_X7_switchMachine_26 (fun h26 => ?_) (fun h26 => ?_)
    · skip
      replace hF := fe_pos hF h26
      refine g_iload d_X7_switchMachine_47 rfl ?_
      exact J_49 w1 hF
    · skip
      replace hF := fe_neg hF h26
      refine g_aload_n d_X7_switchMachine_29 rfl ?_
      refine g_getI d_X7_switchMachine_30 fq_RX7_99 (sa0 ho) rfl ?_
      refine g_iload d_X7_switchMachine_33 rfl ?_
      refine g_aload_n d_X7_switchMachine_35 rfl ?_
      refine g_getI d_X7_switchMachine_36 fq_RX7_99 (sa0 ho) rfl ?_
      refine g_isub d_X7_switchMachine_39 ?_
      refine g_bipush (v := 8) d_X7_switchMachine_40 kB_8 ?_
      refine g_idiv d_X7_switchMachine_42 (by decide) ?_
      refine g_iadd d_X7_switchMachine_43 ?_
      refine g_goto d_X7_switchMachine_44 ?_
      exact J_49 (((I o 9) + ((w1 - (I o 9)) / (8 : Int32)))) hF
  obtain ⟨j18_4, hj18_4, hF⟩ := fe_jx hF
  have J_18 : (FE (fn_X7_switchMachine o bulb less I J) (fun _ => j18_4)) → G m_X7_switchMachine (rq m_X7_switchMachine (fun r S' I' J' => S' = SHF ∧ FS o I J I' J' ∧ r = none ∧ fn_X7_switchMachine o bulb less I J = (I', J'))) 0 0 18 [some (.ref 13), some (.ref o), some (.int bulb), some (.int less), none, none] [] SHF I J := by
    intro hF_j18_4
    have hF := fe_eq hF_j18_4 hj18_4
    refine g_iconst (v := 0) d_X7_switchMachine_18 kI_0 ?_
    exact J_19 ((0 : Int32)) hF
  refine g_if_lt d_X7_switchMachine_1 (fun h1 => ?_) (fun h1 => ?_)
  · skip
    replace hF := fe_pos hF h1
    exact J_18 hF
  · skip
    replace hF := fe_neg hF h1
    refine g_iload_n d_X7_switchMachine_4 rfl ?_
    refine g_iconst (v := 3) d_X7_switchMachine_5 kI_3 ?_
    refine g_icmp_ge d_X7_switchMachine_6 (fun h6 => ?_) (fun h6 => ?_)
    · skip
      replace hF := fe_pos hF h6
      exact J_18 hF
    · skip
      replace hF := fe_neg hF h6
      refine g_aload_n d_X7_switchMachine_9 rfl ?_
      refine g_getR d_X7_switchMachine_10 fq_RX7_9 rfl rfl ?_
      refine g_iload_n d_X7_switchMachine_13 rfl ?_
      refine g_iaload (N := 12) d_X7_switchMachine_14 rfl kT_12 (by constructor <;> grind) rfl ?_
      refine g_goto d_X7_switchMachine_15 ?_
      exact J_19 ((I 14 bulb.toNatClampNeg)) hF
noncomputable def fn_X7_flow (ease : Int32) (from_ : Int32) (to_ : Int32) (fur : Int32) (I : Iv) (J : Jv) : Iv × Jv :=
  if from_ < 0 then (I, J) else if (12 : Int32) ≤ from_ then (I, J) else if to_ < 0 then (I, J) else if (12 : Int32) ≤ to_ then (I, J) else if 0 ≤ fur then l_t ((((Int32.toInt64 ease) * (Int32.toInt64 ((I 14 from_.toNatClampNeg) - (I 14 to_.toNatClampNeg)))) / (100 : Int64))) (fun (v1 : Int64) => l_t (((v1 * (1000 : Int64)) / (Int32.toInt64 ((1000 : Int32) + fur)))) (fun (v2 : Int64) => l_t (wJ J 15 (from_.toNatClampNeg) ((J 15 from_.toNatClampNeg) - v2)) (fun (J3 : Jv) => l_t (wJ J3 15 (to_.toNatClampNeg) ((J3 15 to_.toNatClampNeg) + v2)) (fun (J5 : Jv) => (I, J5))))) else (I, J)
set_option maxRecDepth 100000 in
set_option maxHeartbeats 4000000 in
theorem ct_X7_flow (ease : Int32) (from_ : Int32) (to_ : Int32) (fur : Int32) (I : Iv) (J : Jv)  : Ct m_X7_flow [.ref 13, .int ease, .int from_, .int to_, .int fur] SHF I J (fun r S' I' J' => S' = SHF ∧ (I = I' ∧ ∀ b, b ≠ 15 → J' b = J b) ∧ r = none ∧ fn_X7_flow ease from_ to_ fur I J = (I', J')) := by
  refine ct_of 4 (by decide +kernel) rfl rfl ?_
  have hK0 : (I = I ∧ ∀ b, b ≠ 15 → J b = J b) := ⟨rfl, fun _ _ => rfl⟩
  have hF := fe_of (fn_X7_flow.eq_1 ease from_ to_ fur I J)
  refine g_iload_n d_X7_flow_0 rfl ?_
  refine g_if_lt d_X7_flow_1 (fun h1 => ?_) (fun h1 => ?_)
  · skip
    replace hF := fe_pos hF h1
    exact g_return d_X7_flow_25 rfl rfl rfl ⟨rfl, hK0, rfl, hF⟩
  · skip
    replace hF := fe_neg hF h1
    refine g_iload_n d_X7_flow_4 rfl ?_
    refine g_bipush (v := 12) d_X7_flow_5 kB_12 ?_
    refine g_icmp_ge d_X7_flow_7 (fun h7 => ?_) (fun h7 => ?_)
    · skip
      replace hF := fe_pos hF h7
      exact g_return d_X7_flow_25 rfl rfl rfl ⟨rfl, hK0, rfl, hF⟩
    · skip
      replace hF := fe_neg hF h7
      refine g_iload_n d_X7_flow_10 rfl ?_
      refine g_if_lt d_X7_flow_11 (fun h11 => ?_) (fun h11 => ?_)
      · skip
        replace hF := fe_pos hF h11
        exact g_return d_X7_flow_25 rfl rfl rfl ⟨rfl, hK0, rfl, hF⟩
      · skip
        replace hF := fe_neg hF h11
        refine g_iload_n d_X7_flow_14 rfl ?_
        refine g_bipush (v := 12) d_X7_flow_15 kB_12 ?_
        refine g_icmp_ge d_X7_flow_17 (fun h17 => ?_) (fun h17 => ?_)
        · skip
          replace hF := fe_pos hF h17
          exact g_return d_X7_flow_25 rfl rfl rfl ⟨rfl, hK0, rfl, hF⟩
        · skip
          replace hF := fe_neg hF h17
          refine g_iload d_X7_flow_20 rfl ?_
          refine g_if_ge d_X7_flow_22 (fun h22 => ?_) (fun h22 => ?_)
          · skip
            replace hF := fe_pos hF h22
            refine g_iload_n d_X7_flow_26 rfl ?_
            refine g_i2l d_X7_flow_27 ?_
            refine g_aload_n d_X7_flow_28 rfl ?_
            refine g_getR d_X7_flow_29 fq_RX7_9 rfl rfl ?_
            refine g_iload_n d_X7_flow_32 rfl ?_
            refine g_iaload (N := 12) d_X7_flow_33 rfl kT_12 (by constructor <;> grind) rfl ?_
            refine g_aload_n d_X7_flow_34 rfl ?_
            refine g_getR d_X7_flow_35 fq_RX7_9 rfl rfl ?_
            refine g_iload_n d_X7_flow_38 rfl ?_
            refine g_iaload (N := 12) d_X7_flow_39 rfl kT_12 (by constructor <;> grind) rfl ?_
            refine g_isub d_X7_flow_40 ?_
            refine g_i2l d_X7_flow_41 ?_
            refine g_lmul d_X7_flow_42 ?_
            refine g_ldc2 (v := 100) d_X7_flow_43 tw_682 ?_
            refine g_ldiv d_X7_flow_46 (by decide) ?_
            refine g_topJ (fun v1 ev1 => ?_)
            replace hF := fe_lt hF ev1
            refine g_lstore (L' := [some (.ref 13), some (.int ease), some (.int from_), some (.int to_), some (.int fur), some (.long v1), none, none, none]) d_X7_flow_47 (by decide) rfl ?_
            refine g_lload d_X7_flow_49 rfl ?_
            refine g_ldc2 (v := 1000) d_X7_flow_51 tw_687 ?_
            refine g_lmul d_X7_flow_54 ?_
            refine g_sipush (v := 1000) d_X7_flow_55 kS_1000 ?_
            refine g_iload d_X7_flow_58 rfl ?_
            refine g_iadd d_X7_flow_60 ?_
            refine g_i2l d_X7_flow_61 ?_
            refine g_ldiv d_X7_flow_62 (ne_i2l0 (by grind)) ?_
            refine g_topJ (fun v2 ev2 => ?_)
            replace hF := fe_lt hF ev2
            refine g_lstore (L' := [some (.ref 13), some (.int ease), some (.int from_), some (.int to_), some (.int fur), some (.long v1), none, some (.long v2), none]) d_X7_flow_63 (by decide) rfl ?_
            refine g_aload_n d_X7_flow_65 rfl ?_
            refine g_getR d_X7_flow_66 fq_RX7_15 rfl rfl ?_
            refine g_iload_n d_X7_flow_69 rfl ?_
            refine g_dup2 d_X7_flow_70 rfl rfl ?_
            refine g_laload (N := 12) d_X7_flow_71 rfl kT_12 (by constructor <;> grind) rfl ?_
            refine g_lload d_X7_flow_72 rfl ?_
            refine g_lsub d_X7_flow_74 ?_
            refine g_lastore (N := 12) d_X7_flow_75 rfl kT_12 (by constructor <;> grind) rfl  ?_
            refine g_nmJ (fun J3 eJ3 => ?_)
            replace hF := fe_lt hF eJ3
            have hK4 : (I = I ∧ ∀ b, b ≠ 15 → J3 b = J b) := ⟨hK0.1, fun b hb => by rw [eJ3]; exact (wJ_row hb).trans (hK0.2 b hb)⟩
            refine g_aload_n d_X7_flow_76 rfl ?_
            refine g_getR d_X7_flow_77 fq_RX7_15 rfl rfl ?_
            refine g_iload_n d_X7_flow_80 rfl ?_
            refine g_dup2 d_X7_flow_81 rfl rfl ?_
            refine g_laload (N := 12) d_X7_flow_82 rfl kT_12 (by constructor <;> grind) rfl ?_
            refine g_lload d_X7_flow_83 rfl ?_
            refine g_ladd d_X7_flow_85 ?_
            refine g_lastore (N := 12) d_X7_flow_86 rfl kT_12 (by constructor <;> grind) rfl  ?_
            refine g_nmJ (fun J5 eJ5 => ?_)
            replace hF := fe_lt hF eJ5
            have hK6 : (I = I ∧ ∀ b, b ≠ 15 → J5 b = J b) := ⟨hK4.1, fun b hb => by rw [eJ5]; exact (wJ_row hb).trans (hK4.2 b hb)⟩
            exact g_return d_X7_flow_87 rfl rfl rfl ⟨rfl, hK6, rfl, hF⟩
          · skip
            replace hF := fe_neg hF h22
            exact g_return d_X7_flow_25 rfl rfl rfl ⟨rfl, hK0, rfl, hF⟩
noncomputable def fl_X7_exchange_175_3 (o : Nat) (I25 : Iv) (Kf3 : Int32 → Jv → Iv × Jv) : Nat → Int32 → Jv → Iv × Jv
  | 0, x29, J30 => (I25, J30)
  | kf3 + 1, x29, J30 => if (12 : Int32) ≤ x29 then Kf3 x29 J30 else l_t (wJ J30 (o + 1) (x29.toNatClampNeg) ((J30 (o + 1) x29.toNatClampNeg) + (J30 15 x29.toNatClampNeg))) (fun (J33 : Jv) => fl_X7_exchange_175_3 o I25 Kf3 kf3 (x29 + (1 : Int32)) J33)
noncomputable def fl_X7_exchange_124_2 (o : Nat) (Kf2 : Int32 → Iv → Jv → Iv × Jv) : Nat → Int32 → Iv → Jv → Iv × Jv
  | 0, x24, I25, J26 => (I25, J26)
  | kf2 + 1, x24, I25, J26 => if (8 : Int32) ≤ x24 then Kf2 x24 I25 J26 else if (I25 (o + 3) x24.toNatClampNeg) = 0 then fl_X7_exchange_124_2 o Kf2 kf2 (x24 + (1 : Int32)) I25 J26 else b_n2 (fn_X7_flow (I25 8 5) (I25 (o + 4) x24.toNatClampNeg) ((4 : Int32) + x24) (0 : Int32) I25 J26) (fun (I35 : Iv) (J36 : Jv) => fl_X7_exchange_124_2 o Kf2 kf2 (x24 + (1 : Int32)) I35 J36)
noncomputable def fl_X7_exchange_68_1 (Kf1 : Int32 → Iv → Jv → Iv × Jv) : Nat → Int32 → Iv → Jv → Iv × Jv
  | 0, x12, I13, J14 => (I13, J14)
  | kf1 + 1, x12, I13, J14 => if (2 : Int32) ≤ x12 then Kf1 x12 I13 J14 else b_n2 (fn_X7_flow (I13 8 3) x12 (x12 + (1 : Int32)) (0 : Int32) I13 J14) (fun (I42 : Iv) (J43 : Jv) => fl_X7_exchange_68_1  Kf1 kf1 (x12 + (1 : Int32)) I42 J43)
noncomputable def fl_X7_exchange_11_0 (room : Int32) (leak : Int32) (o : Nat) (I1 : Iv) (Kf0 : Int32 → Jv → Iv × Jv) : Nat → Int32 → Jv → Iv × Jv
  | 0, x8, J9 => (I1, J9)
  | kf0 + 1, x8, J9 => if (3 : Int32) ≤ x8 then Kf0 x8 J9 else l_t ((((Int32.toInt64 leak) * (Int32.toInt64 (room - (I1 14 x8.toNatClampNeg)))) / (100 : Int64))) (fun (v49 : Int64) => l_t (wJ J9 15 (x8.toNatClampNeg) ((J9 15 x8.toNatClampNeg) + v49)) (fun (J50 : Jv) => l_t (wJ J50 (o + 7) 1 ((J50 (o + 7) 1) + v49)) (fun (J52 : Jv) => fl_X7_exchange_11_0 room leak o I1 Kf0 kf0 (x8 + (1 : Int32)) J52)))
noncomputable def fn_X7_exchange (o : Nat) (room : Int32) (leak : Int32) (I : Iv) (J : Jv) : Iv × Jv :=
  l_t (cJ J 15 12 (fun _ => (0 : Int64))) (fun (J2 : Jv) => l_t I (fun (I1 : Iv) => fl_X7_exchange_11_0 room leak o I1 (fun (x8 : Int32) (J9 : Jv) => fl_X7_exchange_68_1  (fun (x12 : Int32) (I13 : Iv) (J14 : Jv) => b_n2 (fn_X7_flow (I13 8 4) (0 : Int32) (3 : Int32) (I13 (o + 8) 5) I13 J14) (fun (I17 : Iv) (J18 : Jv) => fl_X7_exchange_124_2 o (fun (x24 : Int32) (I25 : Iv) (J26 : Jv) => fl_X7_exchange_175_3 o I25 (fun (x29 : Int32) (J30 : Jv) => (I25, J30)) (mU (12 : Int32) ((0 : Int32)) + 1) (0 : Int32) J26) (mU (8 : Int32) ((0 : Int32)) + 1) (0 : Int32) I17 J18)) (mU (2 : Int32) ((0 : Int32)) + 1) (0 : Int32) I1 J9) (mU (3 : Int32) ((0 : Int32)) + 1) (0 : Int32) J2))
set_option maxRecDepth 100000 in
set_option maxHeartbeats 4000000 in
theorem ct_X7_exchange (room : Int32) (leak : Int32) {o : Nat} (I : Iv) (J : Jv) (ho : StA o) : Ct m_X7_exchange [.ref 13, .ref o, .int room, .int leak] SHF I J (fun r S' I' J' => S' = SHF ∧ FS o I J I' J' ∧ r = none ∧ fn_X7_exchange o room leak I J = (I', J')) := by
  refine ct_of 3 (by decide +kernel) rfl rfl ?_
  have hK0 : FS o I J I J := fs_rfl
  have hF := fe_of (fn_X7_exchange.eq_1 o room leak I J)
  refine g_aload_n d_X7_exchange_0 rfl ?_
  refine g_getR d_X7_exchange_1 fq_RX7_15 rfl rfl ?_
  refine g_lconst d_X7_exchange_4 kL_0 ?_
  refine g_S2 d_X7_exchange_5 cs_X7_exchange_J7_fill_d0a16 lk_RX7_103 im_J7_fill_d0a16 (Nat.le_of_ble_eq_true rfl) ⟨rfl, rfl⟩ ⟨Nat.zero_le _, Nat.zero_le _⟩ (ct_fillJ SHF rfl kT_12 (by decide) (0 : Int64) I J) (fun r5 S5 I1 J2 q5_2 => ?_)
  obtain ⟨rfl, hc5_3, rfl⟩ := q5_2
  replace hF := fe_lt hF hc5_3.2
  replace hF := fe_lt hF hc5_3.1.symm
  refine g_st (st' := []) rfl ?_
  have hK7 : FS o I J I1 J2 := (by obtain ⟨e1, e2⟩ := hc5_3; rw [← e1, e2]; exact fs_rowJ hK0 (fun b hb => cJ_row hb) (by omega))
  refine g_iconst (v := 0) d_X7_exchange_8 kI_0 ?_
  refine g_istore (L' := [some (.ref 13), some (.ref o), some (.int room), some (.int leak), some (.int (0 : Int32)), none, none]) d_X7_exchange_9 (by decide) rfl ?_
  obtain ⟨Kf0, hKf0, hF⟩ := fe_kx (f := fun K => fl_X7_exchange_11_0 room leak o I1 K (mU (3 : Int32) ((0 : Int32)) + 1) (0 : Int32) J2) hF
  have K_11 : ∀ (nu : Nat) (x8 : Int32) (J9 : Jv), mU (3 : Int32) x8 = nu → (FS o I J I1 J9) → ((0 : Int32) ≤ x8) → (∃ kq : Nat, nu < kq ∧ (fun kq => FE (fn_X7_exchange o room leak I J) (fun _ => fl_X7_exchange_11_0 room leak o I1 Kf0 kq x8 J9)) kq) → G m_X7_exchange (rq m_X7_exchange (fun r S' I' J' => S' = SHF ∧ FS o I J I' J' ∧ r = none ∧ fn_X7_exchange o room leak I J = (I', J'))) 0 0 11 [some (.ref 13), some (.ref o), some (.int room), some (.int leak), some (.int x8), none, none] [] SHF I1 J9 := by
    intro nu
    induction nu using Nat.strongRecOn with
    | ind nu ih_11 =>
      intro x8 J9 hmu_11 hK10 hl11 hF_Kf0
      obtain ⟨kf0, hkf0, hF⟩ := fe_fu (P := fun kq => FE (fn_X7_exchange o room leak I J) (fun _ => fl_X7_exchange_11_0 room leak o I1 Kf0 kq x8 J9)) hF_Kf0
      replace hF := fe_eq hF (fl_X7_exchange_11_0.eq_2 _ _ _ _ _ _ _ _)
      refine g_iload d_X7_exchange_11 rfl ?_
      refine g_iconst (v := 3) d_X7_exchange_13 kI_3 ?_
      refine g_icmp_ge d_X7_exchange_14 (fun h14 => ?_) (fun h14 => ?_)
      · skip
        replace hF := fe_pos hF h14
        replace hF := fe_eq hF (congrFun (congrFun hKf0 x8) J9)
        refine g_iconst (v := 0) d_X7_exchange_65 kI_0 ?_
        refine g_istore (L' := [some (.ref 13), some (.ref o), some (.int room), some (.int leak), some (.int (0 : Int32)), none, none]) d_X7_exchange_66 (by decide) rfl ?_
        obtain ⟨Kf1, hKf1, hF⟩ := fe_kx (f := fun K => fl_X7_exchange_68_1  K (mU (2 : Int32) ((0 : Int32)) + 1) (0 : Int32) I1 J9) hF
        have K_68 : ∀ (nu : Nat) (x12 : Int32) (I13 : Iv) (J14 : Jv), mU (2 : Int32) x12 = nu → (FS o I J I13 J14) → ((0 : Int32) ≤ x12) → (∃ kq : Nat, nu < kq ∧ (fun kq => FE (fn_X7_exchange o room leak I J) (fun _ => fl_X7_exchange_68_1  Kf1 kq x12 I13 J14)) kq) → G m_X7_exchange (rq m_X7_exchange (fun r S' I' J' => S' = SHF ∧ FS o I J I' J' ∧ r = none ∧ fn_X7_exchange o room leak I J = (I', J'))) 0 0 68 [some (.ref 13), some (.ref o), some (.int room), some (.int leak), some (.int x12), none, none] [] SHF I13 J14 := by
          intro nu
          induction nu using Nat.strongRecOn with
          | ind nu ih_68 =>
            intro x12 I13 J14 hmu_68 hK15 hl16 hF_Kf1
            obtain ⟨kf1, hkf1, hF⟩ := fe_fu (P := fun kq => FE (fn_X7_exchange o room leak I J) (fun _ => fl_X7_exchange_68_1  Kf1 kq x12 I13 J14)) hF_Kf1
            replace hF := fe_eq hF (fl_X7_exchange_68_1.eq_2 _ _ _ _ _)
            refine g_iload d_X7_exchange_68 rfl ?_
            refine g_iconst (v := 2) d_X7_exchange_70 kI_2 ?_
            refine g_icmp_ge d_X7_exchange_71 (fun h71 => ?_) (fun h71 => ?_)
            · skip
              replace hF := fe_pos hF h71
              replace hF := fe_eq hF (congrFun (congrFun (congrFun hKf1 x12) I13) J14)
              refine g_aload_n d_X7_exchange_100 rfl ?_
              refine g_aload_n d_X7_exchange_101 rfl ?_
              refine g_getR d_X7_exchange_102 fq_RX7_19 rfl rfl ?_
              refine g_getR d_X7_exchange_105 fq_RX7_60 rfl rfl ?_
              refine g_iconst (v := 4) d_X7_exchange_108 kI_4 ?_
              refine g_iaload (N := 15) d_X7_exchange_109 rfl kT_15 ⟨by decide, by decide⟩ kN_4 ?_
              refine g_iconst (v := 0) d_X7_exchange_110 kI_0 ?_
              refine g_iconst (v := 3) d_X7_exchange_111 kI_3 ?_
              refine g_aload_n d_X7_exchange_112 rfl ?_
              refine g_getR d_X7_exchange_113 fq_RX7_89 (sa0 ho) rfl ?_
              refine g_iconst (v := 5) d_X7_exchange_116 kI_5 ?_
              refine g_iaload (N := 8) d_X7_exchange_117 (sa8 ho) kT_8 ⟨by decide, by decide⟩ kN_5 ?_
              refine g_V4 d_X7_exchange_118 cs_X7_exchange_X7_flow lk_RX7_114 im_X7_flow se_X7_flow rfl rfl rfl (Nat.le_of_ble_eq_true rfl) ⟨rfl, rfl⟩ ⟨Nat.zero_le _, Nat.zero_le _⟩ (ct_X7_flow (I13 8 4) (0 : Int32) (3 : Int32) (I13 (o + 8) 5) I13 J14 ) (fun r118 S118 I17 J18 q118_18 => ?_)
              obtain ⟨rfl, hc118_19, rfl, hf118_20⟩ := q118_18
              replace hF := fe_b2 hF hf118_20
              refine g_st (st' := []) rfl ?_
              have hK23 : FS o I J I17 J18 := (fs_flow hK15 hc118_19)
              refine g_iconst (v := 0) d_X7_exchange_121 kI_0 ?_
              refine g_istore (L' := [some (.ref 13), some (.ref o), some (.int room), some (.int leak), some (.int (0 : Int32)), none, none]) d_X7_exchange_122 (by decide) rfl ?_
              obtain ⟨Kf2, hKf2, hF⟩ := fe_kx (f := fun K => fl_X7_exchange_124_2 o K (mU (8 : Int32) ((0 : Int32)) + 1) (0 : Int32) I17 J18) hF
              have K_124 : ∀ (nu : Nat) (x24 : Int32) (I25 : Iv) (J26 : Jv), mU (8 : Int32) x24 = nu → (FS o I J I25 J26) → ((0 : Int32) ≤ x24) → (∃ kq : Nat, nu < kq ∧ (fun kq => FE (fn_X7_exchange o room leak I J) (fun _ => fl_X7_exchange_124_2 o Kf2 kq x24 I25 J26)) kq) → G m_X7_exchange (rq m_X7_exchange (fun r S' I' J' => S' = SHF ∧ FS o I J I' J' ∧ r = none ∧ fn_X7_exchange o room leak I J = (I', J'))) 0 0 124 [some (.ref 13), some (.ref o), some (.int room), some (.int leak), some (.int x24), none, none] [] SHF I25 J26 := by
                intro nu
                induction nu using Nat.strongRecOn with
                | ind nu ih_124 =>
                  intro x24 I25 J26 hmu_124 hK27 hl28 hF_Kf2
                  obtain ⟨kf2, hkf2, hF⟩ := fe_fu (P := fun kq => FE (fn_X7_exchange o room leak I J) (fun _ => fl_X7_exchange_124_2 o Kf2 kq x24 I25 J26)) hF_Kf2
                  replace hF := fe_eq hF (fl_X7_exchange_124_2.eq_2 _ _ _ _ _ _)
                  refine g_iload d_X7_exchange_124 rfl ?_
                  refine g_bipush (v := 8) d_X7_exchange_126 kB_8 ?_
                  refine g_icmp_ge d_X7_exchange_128 (fun h128 => ?_) (fun h128 => ?_)
                  · skip
                    replace hF := fe_pos hF h128
                    replace hF := fe_eq hF (congrFun (congrFun (congrFun hKf2 x24) I25) J26)
                    refine g_iconst (v := 0) d_X7_exchange_172 kI_0 ?_
                    refine g_istore (L' := [some (.ref 13), some (.ref o), some (.int room), some (.int leak), some (.int (0 : Int32)), none, none]) d_X7_exchange_173 (by decide) rfl ?_
                    obtain ⟨Kf3, hKf3, hF⟩ := fe_kx (f := fun K => fl_X7_exchange_175_3 o I25 K (mU (12 : Int32) ((0 : Int32)) + 1) (0 : Int32) J26) hF
                    have K_175 : ∀ (nu : Nat) (x29 : Int32) (J30 : Jv), mU (12 : Int32) x29 = nu → (FS o I J I25 J30) → ((0 : Int32) ≤ x29) → (∃ kq : Nat, nu < kq ∧ (fun kq => FE (fn_X7_exchange o room leak I J) (fun _ => fl_X7_exchange_175_3 o I25 Kf3 kq x29 J30)) kq) → G m_X7_exchange (rq m_X7_exchange (fun r S' I' J' => S' = SHF ∧ FS o I J I' J' ∧ r = none ∧ fn_X7_exchange o room leak I J = (I', J'))) 0 0 175 [some (.ref 13), some (.ref o), some (.int room), some (.int leak), some (.int x29), none, none] [] SHF I25 J30 := by
                      intro nu
                      induction nu using Nat.strongRecOn with
                      | ind nu ih_175 =>
                        intro x29 J30 hmu_175 hK31 hl32 hF_Kf3
                        obtain ⟨kf3, hkf3, hF⟩ := fe_fu (P := fun kq => FE (fn_X7_exchange o room leak I J) (fun _ => fl_X7_exchange_175_3 o I25 Kf3 kq x29 J30)) hF_Kf3
                        replace hF := fe_eq hF (fl_X7_exchange_175_3.eq_2 _ _ _ _ _ _)
                        refine g_iload d_X7_exchange_175 rfl ?_
                        refine g_bipush (v := 12) d_X7_exchange_177 kB_12 ?_
                        refine g_icmp_ge d_X7_exchange_179 (fun h179 => ?_) (fun h179 => ?_)
                        · skip
                          replace hF := fe_pos hF h179
                          replace hF := fe_eq hF (congrFun (congrFun hKf3 x29) J30)
                          exact g_return d_X7_exchange_205 rfl rfl rfl ⟨rfl, hK31, rfl, hF⟩
                        · skip
                          replace hF := fe_neg hF h179
                          refine g_aload_n d_X7_exchange_182 rfl ?_
                          refine g_getR d_X7_exchange_183 fq_RX7_125 (sa0 ho) rfl ?_
                          refine g_iload d_X7_exchange_186 rfl ?_
                          refine g_dup2 d_X7_exchange_188 rfl rfl ?_
                          refine g_laload (N := 12) d_X7_exchange_189 (sa1 ho) kT_12 ⟨hl32, Int32.not_le.mp h179⟩ rfl ?_
                          refine g_aload_n d_X7_exchange_190 rfl ?_
                          refine g_getR d_X7_exchange_191 fq_RX7_15 rfl rfl ?_
                          refine g_iload d_X7_exchange_194 rfl ?_
                          refine g_laload (N := 12) d_X7_exchange_196 rfl kT_12 ⟨hl32, Int32.not_le.mp h179⟩ rfl ?_
                          refine g_ladd d_X7_exchange_197 ?_
                          refine g_lastore (N := 12) d_X7_exchange_198 (sa1 ho) kT_12 ⟨hl32, Int32.not_le.mp h179⟩ rfl  ?_
                          refine g_nmJ (fun J33 eJ33 => ?_)
                          replace hF := fe_lt hF eJ33
                          have hK34 : FS o I J I25 J33 := (by rw [eJ33]; exact fs_wJ hK31 (by omega))
                          refine g_iinc (v := (x29 + (1 : Int32))) (L' := [some (.ref 13), some (.ref o), some (.int room), some (.int leak), some (.int (x29 + (1 : Int32))), none, none]) d_X7_exchange_199 rfl (by rw [kI_1]) (by decide) rfl ?_
                          refine g_goto d_X7_exchange_202 ?_
                          exact ih_175 _ (by rw [← hmu_175]; exact mu_up h179) (x29 + (1 : Int32)) J33 rfl hK34 (lo_up hl32 h179) ⟨kf3, Nat.lt_of_lt_of_le (by rw [← hmu_175]; exact mu_up h179) hkf3, hF⟩
                    exact K_175 _ (0 : Int32) J26 rfl hK27 (Int32.le_refl _) ⟨_, Nat.lt_succ_self _, hF⟩
                  · skip
                    replace hF := fe_neg hF h128
                    refine g_aload_n d_X7_exchange_131 rfl ?_
                    refine g_getR d_X7_exchange_132 fq_RX7_118 (sa0 ho) rfl ?_
                    refine g_iload d_X7_exchange_135 rfl ?_
                    refine g_baload (N := 8) d_X7_exchange_137 (sa3 ho) kT_8 ⟨hl28, Int32.not_le.mp h128⟩ rfl (fun hz137 => ?_)
                    refine g_if_eq d_X7_exchange_138 (fun h138 => ?_) (fun h138 => ?_)
                    · skip
                      replace hF := fe_pos hF h138
                      refine g_iinc (v := (x24 + (1 : Int32))) (L' := [some (.ref 13), some (.ref o), some (.int room), some (.int leak), some (.int (x24 + (1 : Int32))), none, none]) d_X7_exchange_166 rfl (by rw [kI_1]) (by decide) rfl ?_
                      refine g_goto d_X7_exchange_169 ?_
                      exact ih_124 _ (by rw [← hmu_124]; exact mu_up h128) (x24 + (1 : Int32)) I25 J26 rfl hK27 (lo_up hl28 h128) ⟨kf2, Nat.lt_of_lt_of_le (by rw [← hmu_124]; exact mu_up h128) hkf2, hF⟩
                    · skip
                      replace hF := fe_neg hF h138
                      refine g_aload_n d_X7_exchange_141 rfl ?_
                      refine g_aload_n d_X7_exchange_142 rfl ?_
                      refine g_getR d_X7_exchange_143 fq_RX7_19 rfl rfl ?_
                      refine g_getR d_X7_exchange_146 fq_RX7_60 rfl rfl ?_
                      refine g_iconst (v := 5) d_X7_exchange_149 kI_5 ?_
                      refine g_iaload (N := 15) d_X7_exchange_150 rfl kT_15 ⟨by decide, by decide⟩ kN_5 ?_
                      refine g_aload_n d_X7_exchange_151 rfl ?_
                      refine g_getR d_X7_exchange_152 fq_RX7_122 (sa0 ho) rfl ?_
                      refine g_iload d_X7_exchange_155 rfl ?_
                      refine g_iaload (N := 8) d_X7_exchange_157 (sa4 ho) kT_8 ⟨hl28, Int32.not_le.mp h128⟩ rfl ?_
                      refine g_iconst (v := 4) d_X7_exchange_158 kI_4 ?_
                      refine g_iload d_X7_exchange_159 rfl ?_
                      refine g_iadd d_X7_exchange_161 ?_
                      refine g_iconst (v := 0) d_X7_exchange_162 kI_0 ?_
                      refine g_V4 d_X7_exchange_163 cs_X7_exchange_X7_flow lk_RX7_114 im_X7_flow se_X7_flow rfl rfl rfl (Nat.le_of_ble_eq_true rfl) ⟨rfl, rfl⟩ ⟨Nat.zero_le _, Nat.zero_le _⟩ (ct_X7_flow (I25 8 5) (I25 (o + 4) x24.toNatClampNeg) ((4 : Int32) + x24) (0 : Int32) I25 J26 ) (fun r163 S163 I35 J36 q163_36 => ?_)
                      obtain ⟨rfl, hc163_37, rfl, hf163_38⟩ := q163_36
                      replace hF := fe_b2 hF hf163_38
                      refine g_st (st' := []) rfl ?_
                      have hK41 : FS o I J I35 J36 := (fs_flow hK27 hc163_37)
                      refine g_iinc (v := (x24 + (1 : Int32))) (L' := [some (.ref 13), some (.ref o), some (.int room), some (.int leak), some (.int (x24 + (1 : Int32))), none, none]) d_X7_exchange_166 rfl (by rw [kI_1]) (by decide) rfl ?_
                      refine g_goto d_X7_exchange_169 ?_
                      exact ih_124 _ (by rw [← hmu_124]; exact mu_up h128) (x24 + (1 : Int32)) I35 J36 rfl hK41 (lo_up hl28 h128) ⟨kf2, Nat.lt_of_lt_of_le (by rw [← hmu_124]; exact mu_up h128) hkf2, hF⟩
              exact K_124 _ (0 : Int32) I17 J18 rfl hK23 (Int32.le_refl _) ⟨_, Nat.lt_succ_self _, hF⟩
            · skip
              replace hF := fe_neg hF h71
              refine g_aload_n d_X7_exchange_74 rfl ?_
              refine g_aload_n d_X7_exchange_75 rfl ?_
              refine g_getR d_X7_exchange_76 fq_RX7_19 rfl rfl ?_
              refine g_getR d_X7_exchange_79 fq_RX7_60 rfl rfl ?_
              refine g_iconst (v := 3) d_X7_exchange_82 kI_3 ?_
              refine g_iaload (N := 15) d_X7_exchange_83 rfl kT_15 ⟨by decide, by decide⟩ kN_3 ?_
              refine g_iload d_X7_exchange_84 rfl ?_
              refine g_iload d_X7_exchange_86 rfl ?_
              refine g_iconst (v := 1) d_X7_exchange_88 kI_1 ?_
              refine g_iadd d_X7_exchange_89 ?_
              refine g_iconst (v := 0) d_X7_exchange_90 kI_0 ?_
              refine g_V4 d_X7_exchange_91 cs_X7_exchange_X7_flow lk_RX7_114 im_X7_flow se_X7_flow rfl rfl rfl (Nat.le_of_ble_eq_true rfl) ⟨rfl, rfl⟩ ⟨Nat.zero_le _, Nat.zero_le _⟩ (ct_X7_flow (I13 8 3) x12 (x12 + (1 : Int32)) (0 : Int32) I13 J14 ) (fun r91 S91 I42 J43 q91_43 => ?_)
              obtain ⟨rfl, hc91_44, rfl, hf91_45⟩ := q91_43
              replace hF := fe_b2 hF hf91_45
              refine g_st (st' := []) rfl ?_
              have hK48 : FS o I J I42 J43 := (fs_flow hK15 hc91_44)
              refine g_iinc (v := (x12 + (1 : Int32))) (L' := [some (.ref 13), some (.ref o), some (.int room), some (.int leak), some (.int (x12 + (1 : Int32))), none, none]) d_X7_exchange_94 rfl (by rw [kI_1]) (by decide) rfl ?_
              refine g_goto d_X7_exchange_97 ?_
              exact ih_68 _ (by rw [← hmu_68]; exact mu_up h71) (x12 + (1 : Int32)) I42 J43 rfl hK48 (lo_up hl16 h71) ⟨kf1, Nat.lt_of_lt_of_le (by rw [← hmu_68]; exact mu_up h71) hkf1, hF⟩
        exact K_68 _ (0 : Int32) I1 J9 rfl hK10 (Int32.le_refl _) ⟨_, Nat.lt_succ_self _, hF⟩
      · skip
        replace hF := fe_neg hF h14
        refine g_iload_n d_X7_exchange_17 rfl ?_
        refine g_i2l d_X7_exchange_18 ?_
        refine g_iload_n d_X7_exchange_19 rfl ?_
        refine g_aload_n d_X7_exchange_20 rfl ?_
        refine g_getR d_X7_exchange_21 fq_RX7_9 rfl rfl ?_
        refine g_iload d_X7_exchange_24 rfl ?_
        refine g_iaload (N := 12) d_X7_exchange_26 rfl kT_12 (by constructor <;> grind) rfl ?_
        refine g_isub d_X7_exchange_27 ?_
        refine g_i2l d_X7_exchange_28 ?_
        refine g_lmul d_X7_exchange_29 ?_
        refine g_ldc2 (v := 100) d_X7_exchange_30 tw_682 ?_
        refine g_ldiv d_X7_exchange_33 (by decide) ?_
        refine g_topJ (fun v49 ev49 => ?_)
        replace hF := fe_lt hF ev49
        refine g_lstore (L' := [some (.ref 13), some (.ref o), some (.int room), some (.int leak), some (.int x8), some (.long v49), none]) d_X7_exchange_34 (by decide) rfl ?_
        refine g_aload_n d_X7_exchange_36 rfl ?_
        refine g_getR d_X7_exchange_37 fq_RX7_15 rfl rfl ?_
        refine g_iload d_X7_exchange_40 rfl ?_
        refine g_dup2 d_X7_exchange_42 rfl rfl ?_
        refine g_laload (N := 12) d_X7_exchange_43 rfl kT_12 (by constructor <;> grind) rfl ?_
        refine g_lload d_X7_exchange_44 rfl ?_
        refine g_ladd d_X7_exchange_46 ?_
        refine g_lastore (N := 12) d_X7_exchange_47 rfl kT_12 (by constructor <;> grind) rfl  ?_
        refine g_nmJ (fun J50 eJ50 => ?_)
        replace hF := fe_lt hF eJ50
        have hK51 : FS o I J I1 J50 := (by rw [eJ50]; exact fs_wJ hK10 (by omega))
        refine g_aload_n d_X7_exchange_48 rfl ?_
        refine g_getR d_X7_exchange_49 fq_RX7_111 (sa0 ho) rfl ?_
        refine g_iconst (v := 1) d_X7_exchange_52 kI_1 ?_
        refine g_dup2 d_X7_exchange_53 rfl rfl ?_
        refine g_laload (N := 6) d_X7_exchange_54 (sa7 ho) kT_6 ⟨by decide, by decide⟩ kN_1 ?_
        refine g_lload d_X7_exchange_55 rfl ?_
        refine g_ladd d_X7_exchange_57 ?_
        refine g_lastore (N := 6) d_X7_exchange_58 (sa7 ho) kT_6 ⟨by decide, by decide⟩ kN_1  ?_
        refine g_nmJ (fun J52 eJ52 => ?_)
        replace hF := fe_lt hF eJ52
        have hK53 : FS o I J I1 J52 := (by rw [eJ52]; exact fs_wJ hK51 (by omega))
        refine g_iinc (v := (x8 + (1 : Int32))) (L' := [some (.ref 13), some (.ref o), some (.int room), some (.int leak), some (.int (x8 + (1 : Int32))), some (.long v49), none]) d_X7_exchange_59 rfl (by rw [kI_1]) (by decide) rfl ?_
        refine g_goto d_X7_exchange_62 ?_
        refine g_sb [some (.ref 13), some (.ref o), some (.int room), some (.int leak), some (.int (x8 + (1 : Int32))), none, none] (by simp [subL]) ?_
        exact ih_11 _ (by rw [← hmu_11]; exact mu_up h14) (x8 + (1 : Int32)) J52 rfl hK53 (lo_up hl11 h14) ⟨kf0, Nat.lt_of_lt_of_le (by rw [← hmu_11]; exact mu_up h14) hkf0, hF⟩
  exact K_11 _ (0 : Int32) J2 rfl hK7 (Int32.le_refl _) ⟨_, Nat.lt_succ_self _, hF⟩
noncomputable def fn_X7_giveLight (o : Nat) (I : Iv) (J : Jv) : Iv × Jv :=
  l_t (((Int32.toInt64 (I 8 10)) * (5 : Int64))) (fun (v1 : Int64) => l_t (wJ J (o + 1) 0 ((J (o + 1) 0) + v1)) (fun (J2 : Jv) => l_t (wJ J2 (o + 7) 3 ((J2 (o + 7) 3) + v1)) (fun (J4 : Jv) => l_t (wI I (o + 8) 1 ((I (o + 8) 1) + (I 8 10))) (fun (I6 : Iv) => (I6, J4)))))
set_option maxRecDepth 100000 in
set_option maxHeartbeats 4000000 in
theorem ct_X7_giveLight {o : Nat} (I : Iv) (J : Jv) (ho : StA o) : Ct m_X7_giveLight [.ref 13, .ref o] SHF I J (fun r S' I' J' => S' = SHF ∧ FS o I J I' J' ∧ r = none ∧ fn_X7_giveLight o I J = (I', J')) := by
  refine ct_of 2 (by decide +kernel) rfl rfl ?_
  have hK0 : FS o I J I J := fs_rfl
  have hF := fe_of (fn_X7_giveLight.eq_1 o I J)
  refine g_aload_n d_X7_giveLight_0 rfl ?_
  refine g_getR d_X7_giveLight_1 fq_RX7_19 rfl rfl ?_
  refine g_getR d_X7_giveLight_4 fq_RX7_60 rfl rfl ?_
  refine g_bipush (v := 10) d_X7_giveLight_7 kB_10 ?_
  refine g_iaload (N := 15) d_X7_giveLight_9 rfl kT_15 ⟨by decide, by decide⟩ kN_10 ?_
  refine g_i2l d_X7_giveLight_10 ?_
  refine g_ldc2 (v := 5) d_X7_giveLight_11 tw_692 ?_
  refine g_lmul d_X7_giveLight_14 ?_
  refine g_topJ (fun v1 ev1 => ?_)
  replace hF := fe_lt hF ev1
  refine g_lstore_n (L' := [some (.ref 13), some (.ref o), some (.long v1), none]) d_X7_giveLight_15 (by decide) rfl ?_
  refine g_aload_n d_X7_giveLight_16 rfl ?_
  refine g_getR d_X7_giveLight_17 fq_RX7_125 (sa0 ho) rfl ?_
  refine g_iconst (v := 0) d_X7_giveLight_20 kI_0 ?_
  refine g_dup2 d_X7_giveLight_21 rfl rfl ?_
  refine g_laload (N := 12) d_X7_giveLight_22 (sa1 ho) kT_12 ⟨by decide, by decide⟩ kN_0 ?_
  refine g_lload_n d_X7_giveLight_23 rfl ?_
  refine g_ladd d_X7_giveLight_24 ?_
  refine g_lastore (N := 12) d_X7_giveLight_25 (sa1 ho) kT_12 ⟨by decide, by decide⟩ kN_0  ?_
  refine g_nmJ (fun J2 eJ2 => ?_)
  replace hF := fe_lt hF eJ2
  have hK3 : FS o I J I J2 := (by rw [eJ2]; exact fs_wJ hK0 (by omega))
  refine g_aload_n d_X7_giveLight_26 rfl ?_
  refine g_getR d_X7_giveLight_27 fq_RX7_111 (sa0 ho) rfl ?_
  refine g_iconst (v := 3) d_X7_giveLight_30 kI_3 ?_
  refine g_dup2 d_X7_giveLight_31 rfl rfl ?_
  refine g_laload (N := 6) d_X7_giveLight_32 (sa7 ho) kT_6 ⟨by decide, by decide⟩ kN_3 ?_
  refine g_lload_n d_X7_giveLight_33 rfl ?_
  refine g_ladd d_X7_giveLight_34 ?_
  refine g_lastore (N := 6) d_X7_giveLight_35 (sa7 ho) kT_6 ⟨by decide, by decide⟩ kN_3  ?_
  refine g_nmJ (fun J4 eJ4 => ?_)
  replace hF := fe_lt hF eJ4
  have hK5 : FS o I J I J4 := (by rw [eJ4]; exact fs_wJ hK3 (by omega))
  refine g_aload_n d_X7_giveLight_36 rfl ?_
  refine g_getR d_X7_giveLight_37 fq_RX7_89 (sa0 ho) rfl ?_
  refine g_iconst (v := 1) d_X7_giveLight_40 kI_1 ?_
  refine g_dup2 d_X7_giveLight_41 rfl rfl ?_
  refine g_iaload (N := 8) d_X7_giveLight_42 (sa8 ho) kT_8 ⟨by decide, by decide⟩ kN_1 ?_
  refine g_aload_n d_X7_giveLight_43 rfl ?_
  refine g_getR d_X7_giveLight_44 fq_RX7_19 rfl rfl ?_
  refine g_getR d_X7_giveLight_47 fq_RX7_60 rfl rfl ?_
  refine g_bipush (v := 10) d_X7_giveLight_50 kB_10 ?_
  refine g_iaload (N := 15) d_X7_giveLight_52 rfl kT_15 ⟨by decide, by decide⟩ kN_10 ?_
  refine g_iadd d_X7_giveLight_53 ?_
  refine g_iastore (N := 8) d_X7_giveLight_54 (sa8 ho) kT_8 ⟨by decide, by decide⟩ kN_1  ?_
  refine g_nmI (fun I6 eI6 => ?_)
  replace hF := fe_lt hF eI6
  have hK7 : FS o I J I6 J4 := (by rw [eI6]; exact fs_wI ho hK5 (by omega))
  exact g_return d_X7_giveLight_55 rfl rfl rfl ⟨rfl, hK7, rfl, hF⟩
noncomputable def fn_X7_moveOut (o : Nat) (power : Int32) (I : Iv) (J : Jv) : Iv × Jv :=
  l_t ((if (0 : Int32) < power then power else (0 : Int32))) (fun (v1 : Int32) => l_t (wJ J (o + 1) 3 ((J (o + 1) 3) - (Int32.toInt64 v1))) (fun (J2 : Jv) => l_t (wJ J2 (o + 7) 4 ((J2 (o + 7) 4) + (Int32.toInt64 v1))) (fun (J4 : Jv) => l_t (wI I (o + 8) 3 ((I (o + 8) 3) + (1 : Int32))) (fun (I6 : Iv) => l_t (wI I6 (o + 8) 1 ((I6 (o + 8) 1) + (I6 8 9))) (fun (I8 : Iv) => (I8, J4))))))
set_option maxRecDepth 100000 in
set_option maxHeartbeats 4000000 in
theorem ct_X7_moveOut (power : Int32) {o : Nat} (I : Iv) (J : Jv) (ho : StA o) : Ct m_X7_moveOut [.ref 13, .ref o, .int power] SHF I J (fun r S' I' J' => S' = SHF ∧ FS o I J I' J' ∧ r = none ∧ fn_X7_moveOut o power I J = (I', J')) := by
  refine ct_of 1 (by decide +kernel) rfl rfl ?_
  have hK0 : FS o I J I J := fs_rfl
  have hF := fe_of (fn_X7_moveOut.eq_1 o power I J)
  refine g_iconst (v := 0) d_X7_moveOut_0 kI_0 ?_
  refine g_iload_n d_X7_moveOut_1 rfl ?_
  refine g_mmax d_X7_moveOut_2 tw_701 tw_555 tw_18 tw_556 ⟨by decide, by decide⟩ ⟨Nat.zero_le _, Nat.zero_le _⟩ (Nat.le_of_ble_eq_true rfl) ?_
  refine g_topI (fun v1 ev1 => ?_)
  replace hF := fe_lt hF ev1
  refine g_istore_n (L' := [some (.ref 13), some (.ref o), some (.int power), some (.int v1)]) d_X7_moveOut_5 (by decide) rfl ?_
  refine g_aload_n d_X7_moveOut_6 rfl ?_
  refine g_getR d_X7_moveOut_7 fq_RX7_125 (sa0 ho) rfl ?_
  refine g_iconst (v := 3) d_X7_moveOut_10 kI_3 ?_
  refine g_dup2 d_X7_moveOut_11 rfl rfl ?_
  refine g_laload (N := 12) d_X7_moveOut_12 (sa1 ho) kT_12 ⟨by decide, by decide⟩ kN_3 ?_
  refine g_iload_n d_X7_moveOut_13 rfl ?_
  refine g_i2l d_X7_moveOut_14 ?_
  refine g_lsub d_X7_moveOut_15 ?_
  refine g_lastore (N := 12) d_X7_moveOut_16 (sa1 ho) kT_12 ⟨by decide, by decide⟩ kN_3  ?_
  refine g_nmJ (fun J2 eJ2 => ?_)
  replace hF := fe_lt hF eJ2
  have hK3 : FS o I J I J2 := (by rw [eJ2]; exact fs_wJ hK0 (by omega))
  refine g_aload_n d_X7_moveOut_17 rfl ?_
  refine g_getR d_X7_moveOut_18 fq_RX7_111 (sa0 ho) rfl ?_
  refine g_iconst (v := 4) d_X7_moveOut_21 kI_4 ?_
  refine g_dup2 d_X7_moveOut_22 rfl rfl ?_
  refine g_laload (N := 6) d_X7_moveOut_23 (sa7 ho) kT_6 ⟨by decide, by decide⟩ kN_4 ?_
  refine g_iload_n d_X7_moveOut_24 rfl ?_
  refine g_i2l d_X7_moveOut_25 ?_
  refine g_ladd d_X7_moveOut_26 ?_
  refine g_lastore (N := 6) d_X7_moveOut_27 (sa7 ho) kT_6 ⟨by decide, by decide⟩ kN_4  ?_
  refine g_nmJ (fun J4 eJ4 => ?_)
  replace hF := fe_lt hF eJ4
  have hK5 : FS o I J I J4 := (by rw [eJ4]; exact fs_wJ hK3 (by omega))
  refine g_aload_n d_X7_moveOut_28 rfl ?_
  refine g_getR d_X7_moveOut_29 fq_RX7_89 (sa0 ho) rfl ?_
  refine g_iconst (v := 3) d_X7_moveOut_32 kI_3 ?_
  refine g_dup2 d_X7_moveOut_33 rfl rfl ?_
  refine g_iaload (N := 8) d_X7_moveOut_34 (sa8 ho) kT_8 ⟨by decide, by decide⟩ kN_3 ?_
  refine g_iconst (v := 1) d_X7_moveOut_35 kI_1 ?_
  refine g_iadd d_X7_moveOut_36 ?_
  refine g_iastore (N := 8) d_X7_moveOut_37 (sa8 ho) kT_8 ⟨by decide, by decide⟩ kN_3  ?_
  refine g_nmI (fun I6 eI6 => ?_)
  replace hF := fe_lt hF eI6
  have hK7 : FS o I J I6 J4 := (by rw [eI6]; exact fs_wI ho hK5 (by omega))
  refine g_aload_n d_X7_moveOut_38 rfl ?_
  refine g_getR d_X7_moveOut_39 fq_RX7_89 (sa0 ho) rfl ?_
  refine g_iconst (v := 1) d_X7_moveOut_42 kI_1 ?_
  refine g_dup2 d_X7_moveOut_43 rfl rfl ?_
  refine g_iaload (N := 8) d_X7_moveOut_44 (sa8 ho) kT_8 ⟨by decide, by decide⟩ kN_1 ?_
  refine g_aload_n d_X7_moveOut_45 rfl ?_
  refine g_getR d_X7_moveOut_46 fq_RX7_19 rfl rfl ?_
  refine g_getR d_X7_moveOut_49 fq_RX7_60 rfl rfl ?_
  refine g_bipush (v := 9) d_X7_moveOut_52 kB_9 ?_
  refine g_iaload (N := 15) d_X7_moveOut_54 rfl kT_15 ⟨by decide, by decide⟩ kN_9 ?_
  refine g_iadd d_X7_moveOut_55 ?_
  refine g_iastore (N := 8) d_X7_moveOut_56 (sa8 ho) kT_8 ⟨by decide, by decide⟩ kN_1  ?_
  refine g_nmI (fun I8 eI8 => ?_)
  replace hF := fe_lt hF eI8
  have hK9 : FS o I J I8 J4 := (by rw [eI8]; exact fs_wI ho hK7 (by omega))
  exact g_return d_X7_moveOut_57 rfl rfl rfl ⟨rfl, hK9, rfl, hF⟩
noncomputable def fn_X7_takeWet (o : Nat) (wet : Int32) (I : Iv) (J : Jv) : Iv × Jv :=
  l_t (wI I (o + 8) 4 ((I (o + 8) 4) + wet)) (fun (I1 : Iv) => b_n3 (fn_X6_warmthOf o (3 : Int32) I1 J) (fun (r8 : Int32) (_ : Iv) (_ : Jv) => if 0 ≤ r8 then l_t ((if ((r8 / (20 : Int32)) + (1 : Int32)) < (I1 (o + 8) 5) then ((r8 / (20 : Int32)) + (1 : Int32)) else (I1 (o + 8) 5))) (fun (v10 : Int32) => l_t (wI I1 (o + 8) 5 ((I1 (o + 8) 5) - v10)) (fun (I11 : Iv) => l_t (wI I11 (o + 8) 6 ((I11 (o + 8) 6) + v10)) (fun (I13 : Iv) => l_t (wI I13 (o + 8) 7 ((I13 (o + 8) 7) + wet)) (fun (I15 : Iv) => (I15, J))))) else l_t ((if ((9999 : Int32) - (I1 (o + 8) 5)) < wet then ((9999 : Int32) - (I1 (o + 8) 5)) else wet)) (fun (v17 : Int32) => l_t (wI I1 (o + 8) 5 ((I1 (o + 8) 5) + v17)) (fun (I18 : Iv) => l_t (wI I18 (o + 8) 7 ((I18 (o + 8) 7) + (wet - v17))) (fun (I20 : Iv) => (I20, J))))))
set_option maxRecDepth 100000 in
set_option maxHeartbeats 4000000 in
theorem ct_X7_takeWet (wet : Int32) {o : Nat} (I : Iv) (J : Jv) (ho : StA o) : Ct m_X7_takeWet [.ref 13, .ref o, .int wet] SHF I J (fun r S' I' J' => S' = SHF ∧ FS o I J I' J' ∧ r = none ∧ fn_X7_takeWet o wet I J = (I', J')) := by
  refine ct_of 2 (by decide +kernel) rfl rfl ?_
  have hK0 : FS o I J I J := fs_rfl
  have hF := fe_of (fn_X7_takeWet.eq_1 o wet I J)
  refine g_aload_n d_X7_takeWet_0 rfl ?_
  refine g_getR d_X7_takeWet_1 fq_RX7_89 (sa0 ho) rfl ?_
  refine g_iconst (v := 4) d_X7_takeWet_4 kI_4 ?_
  refine g_dup2 d_X7_takeWet_5 rfl rfl ?_
  refine g_iaload (N := 8) d_X7_takeWet_6 (sa8 ho) kT_8 ⟨by decide, by decide⟩ kN_4 ?_
  refine g_iload_n d_X7_takeWet_7 rfl ?_
  refine g_iadd d_X7_takeWet_8 ?_
  refine g_iastore (N := 8) d_X7_takeWet_9 (sa8 ho) kT_8 ⟨by decide, by decide⟩ kN_4  ?_
  refine g_nmI (fun I1 eI1 => ?_)
  replace hF := fe_lt hF eI1
  have hK2 : FS o I J I1 J := (by rw [eI1]; exact fs_wI ho hK0 (by omega))
  refine g_aload_n d_X7_takeWet_10 rfl ?_
  refine g_iconst (v := 3) d_X7_takeWet_11 kI_3 ?_
  refine g_V1 d_X7_takeWet_12 cs_X7_takeWet_X6_warmthOf lk_RX7_92 im_X6_warmthOf se_X6_warmthOf (sa0 ho) rfl rfl (Nat.le_of_ble_eq_true rfl) ⟨rfl, rfl⟩ ⟨Nat.zero_le _, Nat.zero_le _⟩ (ct_X6_warmthOf (3 : Int32) I1 J ho) (fun r12 S12 Ic4 Jc5 q12_2 => ?_)
  obtain ⟨rfl, rfl, rfl, r8, rfl, hf12_6⟩ := q12_2
  replace hF := fe_b3 hF hf12_6
  refine g_st (st' := [.int r8]) rfl ?_
  refine g_istore_n (L' := [some (.ref 13), some (.ref o), some (.int wet), some (.int r8), none]) d_X7_takeWet_15 (by decide) rfl ?_
  refine g_iload_n d_X7_takeWet_16 rfl ?_
  refine g_if_ge d_X7_takeWet_17 (fun h17 => ?_) (fun h17 => ?_)
  · skip
    replace hF := fe_pos hF h17
    refine g_aload_n d_X7_takeWet_64 rfl ?_
    refine g_getR d_X7_takeWet_65 fq_RX7_89 (sa0 ho) rfl ?_
    refine g_iconst (v := 5) d_X7_takeWet_68 kI_5 ?_
    refine g_iaload (N := 8) d_X7_takeWet_69 (sa8 ho) kT_8 ⟨by decide, by decide⟩ kN_5 ?_
    refine g_iload_n d_X7_takeWet_70 rfl ?_
    refine g_bipush (v := 20) d_X7_takeWet_71 kB_20 ?_
    refine g_idiv d_X7_takeWet_73 (by decide) ?_
    refine g_iconst (v := 1) d_X7_takeWet_74 kI_1 ?_
    refine g_iadd d_X7_takeWet_75 ?_
    refine g_mmin d_X7_takeWet_76 tw_706 tw_707 tw_18 tw_708 ⟨by decide, by decide⟩ ⟨Nat.zero_le _, Nat.zero_le _⟩ (Nat.le_of_ble_eq_true rfl) ?_
    refine g_topI (fun v10 ev10 => ?_)
    replace hF := fe_lt hF ev10
    refine g_istore (L' := [some (.ref 13), some (.ref o), some (.int wet), some (.int r8), some (.int v10)]) d_X7_takeWet_79 (by decide) rfl ?_
    refine g_aload_n d_X7_takeWet_81 rfl ?_
    refine g_getR d_X7_takeWet_82 fq_RX7_89 (sa0 ho) rfl ?_
    refine g_iconst (v := 5) d_X7_takeWet_85 kI_5 ?_
    refine g_dup2 d_X7_takeWet_86 rfl rfl ?_
    refine g_iaload (N := 8) d_X7_takeWet_87 (sa8 ho) kT_8 ⟨by decide, by decide⟩ kN_5 ?_
    refine g_iload d_X7_takeWet_88 rfl ?_
    refine g_isub d_X7_takeWet_90 ?_
    refine g_iastore (N := 8) d_X7_takeWet_91 (sa8 ho) kT_8 ⟨by decide, by decide⟩ kN_5  ?_
    refine g_nmI (fun I11 eI11 => ?_)
    replace hF := fe_lt hF eI11
    have hK12 : FS o I J I11 J := (by rw [eI11]; exact fs_wI ho hK2 (by omega))
    refine g_aload_n d_X7_takeWet_92 rfl ?_
    refine g_getR d_X7_takeWet_93 fq_RX7_89 (sa0 ho) rfl ?_
    refine g_bipush (v := 6) d_X7_takeWet_96 kB_6 ?_
    refine g_dup2 d_X7_takeWet_98 rfl rfl ?_
    refine g_iaload (N := 8) d_X7_takeWet_99 (sa8 ho) kT_8 ⟨by decide, by decide⟩ kN_6 ?_
    refine g_iload d_X7_takeWet_100 rfl ?_
    refine g_iadd d_X7_takeWet_102 ?_
    refine g_iastore (N := 8) d_X7_takeWet_103 (sa8 ho) kT_8 ⟨by decide, by decide⟩ kN_6  ?_
    refine g_nmI (fun I13 eI13 => ?_)
    replace hF := fe_lt hF eI13
    have hK14 : FS o I J I13 J := (by rw [eI13]; exact fs_wI ho hK12 (by omega))
    refine g_aload_n d_X7_takeWet_104 rfl ?_
    refine g_getR d_X7_takeWet_105 fq_RX7_89 (sa0 ho) rfl ?_
    refine g_bipush (v := 7) d_X7_takeWet_108 kB_7 ?_
    refine g_dup2 d_X7_takeWet_110 rfl rfl ?_
    refine g_iaload (N := 8) d_X7_takeWet_111 (sa8 ho) kT_8 ⟨by decide, by decide⟩ kN_7 ?_
    refine g_iload_n d_X7_takeWet_112 rfl ?_
    refine g_iadd d_X7_takeWet_113 ?_
    refine g_iastore (N := 8) d_X7_takeWet_114 (sa8 ho) kT_8 ⟨by decide, by decide⟩ kN_7  ?_
    refine g_nmI (fun I15 eI15 => ?_)
    replace hF := fe_lt hF eI15
    have hK16 : FS o I J I15 J := (by rw [eI15]; exact fs_wI ho hK14 (by omega))
    exact g_return d_X7_takeWet_115 rfl rfl rfl ⟨rfl, hK16, rfl, hF⟩
  · skip
    replace hF := fe_neg hF h17
    refine g_iload_n d_X7_takeWet_20 rfl ?_
    refine g_sipush (v := 9999) d_X7_takeWet_21 kS_9999 ?_
    refine g_aload_n d_X7_takeWet_24 rfl ?_
    refine g_getR d_X7_takeWet_25 fq_RX7_89 (sa0 ho) rfl ?_
    refine g_iconst (v := 5) d_X7_takeWet_28 kI_5 ?_
    refine g_iaload (N := 8) d_X7_takeWet_29 (sa8 ho) kT_8 ⟨by decide, by decide⟩ kN_5 ?_
    refine g_isub d_X7_takeWet_30 ?_
    refine g_mmin d_X7_takeWet_31 tw_706 tw_707 tw_18 tw_708 ⟨by decide, by decide⟩ ⟨Nat.zero_le _, Nat.zero_le _⟩ (Nat.le_of_ble_eq_true rfl) ?_
    refine g_topI (fun v17 ev17 => ?_)
    replace hF := fe_lt hF ev17
    refine g_istore (L' := [some (.ref 13), some (.ref o), some (.int wet), some (.int r8), some (.int v17)]) d_X7_takeWet_34 (by decide) rfl ?_
    refine g_aload_n d_X7_takeWet_36 rfl ?_
    refine g_getR d_X7_takeWet_37 fq_RX7_89 (sa0 ho) rfl ?_
    refine g_iconst (v := 5) d_X7_takeWet_40 kI_5 ?_
    refine g_dup2 d_X7_takeWet_41 rfl rfl ?_
    refine g_iaload (N := 8) d_X7_takeWet_42 (sa8 ho) kT_8 ⟨by decide, by decide⟩ kN_5 ?_
    refine g_iload d_X7_takeWet_43 rfl ?_
    refine g_iadd d_X7_takeWet_45 ?_
    refine g_iastore (N := 8) d_X7_takeWet_46 (sa8 ho) kT_8 ⟨by decide, by decide⟩ kN_5  ?_
    refine g_nmI (fun I18 eI18 => ?_)
    replace hF := fe_lt hF eI18
    have hK19 : FS o I J I18 J := (by rw [eI18]; exact fs_wI ho hK2 (by omega))
    refine g_aload_n d_X7_takeWet_47 rfl ?_
    refine g_getR d_X7_takeWet_48 fq_RX7_89 (sa0 ho) rfl ?_
    refine g_bipush (v := 7) d_X7_takeWet_51 kB_7 ?_
    refine g_dup2 d_X7_takeWet_53 rfl rfl ?_
    refine g_iaload (N := 8) d_X7_takeWet_54 (sa8 ho) kT_8 ⟨by decide, by decide⟩ kN_7 ?_
    refine g_iload_n d_X7_takeWet_55 rfl ?_
    refine g_iload d_X7_takeWet_56 rfl ?_
    refine g_isub d_X7_takeWet_58 ?_
    refine g_iadd d_X7_takeWet_59 ?_
    refine g_iastore (N := 8) d_X7_takeWet_60 (sa8 ho) kT_8 ⟨by decide, by decide⟩ kN_7  ?_
    refine g_nmI (fun I20 eI20 => ?_)
    replace hF := fe_lt hF eI20
    have hK21 : FS o I J I20 J := (by rw [eI20]; exact fs_wI ho hK19 (by omega))
    refine g_goto d_X7_takeWet_61 ?_
    exact g_return d_X7_takeWet_115 rfl rfl rfl ⟨rfl, hK21, rfl, hF⟩
noncomputable def fn_X7_pass (o : Nat) (open_ : Int32) (bulb : Int32) (less : Int32) (I : Iv) (J : Jv) : Iv × Jv :=
  b_n2 (fn_X7_lookAtWarmths o I J) (fun (I1 : Iv) (J2 : Jv) => b_n3 (fn_X0_roomOf o I1 J2) (fun (r13 : Int32) (_ : Iv) (_ : Jv) => b_n3 (fn_X0_sealOf o I1 J2) (fun (r20 : Int32) (_ : Iv) (_ : Jv) => b_n2 (fn_X7_switchMachine o bulb less I1 J2) (fun (I22 : Iv) (J23 : Jv) => j_n (fun (w29 : Int32) => b_n2 (fn_X7_exchange o r13 (((I22 8 1) + r20) + w29) I22 J23) (fun (I30 : Iv) (J31 : Jv) => j_n (fun (I37 : Iv) (J38 : Jv) => j_n (fun (I40 : Iv) (J41 : Jv) => j_n (fun (w43 : Int32) => b_n2 (fn_X7_takeWet o (r20 + w43) I40 J41) (fun (I44 : Iv) (J45 : Jv) => l_t (wI I44 (o + 8) 0 ((I44 (o + 8) 0) + (1 : Int32))) (fun (I51 : Iv) => (I51, J45)))) (fun (j135_3 : Int32 → Iv × Jv) => if open_ = 0 then j135_3 ((0 : Int32)) else j135_3 ((20 : Int32)))) (fun (j121_2 : Iv → Jv → Iv × Jv) => if (I37 o 10) = 0 then j121_2 I37 J38 else b_n3 (fn_X0_powerOf o I37 J38) (fun (r58 : Int32) (_ : Iv) (_ : Jv) => b_n2 (fn_X7_moveOut o (r58 - ((r13 - (I37 14 3)) / (8 : Int32))) I37 J38) (fun (I60 : Iv) (J61 : Jv) => j121_2 I60 J61)))) (fun (j88_1 : Iv → Jv → Iv × Jv) => if (I30 o 12) = 0 then j88_1 I30 J31 else j_n (b_n2 (fn_X7_giveLight o I30 J31) (fun (I67 : Iv) (J68 : Jv) => j88_1 I67 J68)) (fun (j83_4 : Iv × Jv) => if open_ = 0 then b_n3 (fn_X6_has o (32 : Int32) I30 J31) (fun (r79 : Int32) (_ : Iv) (_ : Jv) => if r79 = 0 then j88_1 I30 J31 else j83_4) else j83_4)))) (fun (j59_0 : Int32 → Iv × Jv) => if open_ = 0 then j59_0 ((0 : Int32)) else j59_0 ((60 : Int32)))))))
set_option maxRecDepth 100000 in
set_option maxHeartbeats 4000000 in
theorem ct_X7_pass (open_ : Int32) (bulb : Int32) (less : Int32) {o : Nat} (I : Iv) (J : Jv) (ho : StA o) : Ct m_X7_pass [.ref 13, .ref o, .int open_, .int bulb, .int less] SHF I J (fun r S' I' J' => S' = SHF ∧ FSx o I J I' J' ∧ r = none ∧ fn_X7_pass o open_ bulb less I J = (I', J') ∧ I' (o + 8) 0 = I (o + 8) 0 + 1) := by
  refine ct_of 2 (by decide +kernel) rfl rfl ?_
  have hK0 : FS o I J I J := fs_rfl
  have hF := fe_of (fn_X7_pass.eq_1 o open_ bulb less I J)
  refine g_aload_n d_X7_pass_0 rfl ?_
  refine g_aload_n d_X7_pass_1 rfl ?_
  refine g_V1 d_X7_pass_2 cs_X7_pass_X7_lookAtWarmths lk_RX7_43 im_X7_lookAtWarmths se_X7_lookAtWarmths rfl rfl rfl (Nat.le_of_ble_eq_true rfl) ⟨rfl, rfl⟩ ⟨Nat.zero_le _, Nat.zero_le _⟩ (ct_X7_lookAtWarmths  I J ho) (fun r2 S2 I1 J2 q2_2 => ?_)
  obtain ⟨rfl, hc2_3, rfl, hf2_4⟩ := q2_2
  replace hF := fe_b2 hF hf2_4
  refine g_st (st' := []) rfl ?_
  have hK7 : FS o I J I1 J2 := hK0.tr hc2_3
  refine g_aload_n d_X7_pass_5 rfl ?_
  refine g_getR d_X7_pass_6 fq_RX7_19 rfl rfl ?_
  refine g_aload_n d_X7_pass_9 rfl ?_
  refine g_V1 d_X7_pass_10 cs_X7_pass_X0_roomOf lk_RX7_47 im_X0_roomOf se_X0_roomOf rfl rfl rfl (Nat.le_of_ble_eq_true rfl) ⟨rfl, rfl⟩ ⟨Nat.zero_le _, Nat.zero_le _⟩ (ct_X0_roomOf  I1 J2 ho) (fun r10 S10 Ic9 Jc10 q10_7 => ?_)
  obtain ⟨rfl, rfl, rfl, r13, rfl, hf10_11⟩ := q10_7
  replace hF := fe_b3 hF hf10_11
  refine g_st (st' := [.int r13]) rfl ?_
  refine g_istore (L' := [some (.ref 13), some (.ref o), some (.int open_), some (.int bulb), some (.int less), some (.int r13), none]) d_X7_pass_13 (by decide) rfl ?_
  refine g_aload_n d_X7_pass_15 rfl ?_
  refine g_getR d_X7_pass_16 fq_RX7_19 rfl rfl ?_
  refine g_aload_n d_X7_pass_19 rfl ?_
  refine g_V1 d_X7_pass_20 cs_X7_pass_X0_sealOf lk_RX7_53 im_X0_sealOf se_X0_sealOf rfl rfl rfl (Nat.le_of_ble_eq_true rfl) ⟨rfl, rfl⟩ ⟨Nat.zero_le _, Nat.zero_le _⟩ (ct_X0_sealOf  I1 J2 ho) (fun r20 S20 Ic16 Jc17 q20_14 => ?_)
  obtain ⟨rfl, rfl, rfl, r20, rfl, hf20_18⟩ := q20_14
  replace hF := fe_b3 hF hf20_18
  refine g_st (st' := [.int r20]) rfl ?_
  refine g_istore (L' := [some (.ref 13), some (.ref o), some (.int open_), some (.int bulb), some (.int less), some (.int r13), some (.int r20)]) d_X7_pass_23 (by decide) rfl ?_
  refine g_aload_n d_X7_pass_25 rfl ?_
  refine g_aload_n d_X7_pass_26 rfl ?_
  refine g_iload_n d_X7_pass_27 rfl ?_
  refine g_iload d_X7_pass_28 rfl ?_
  refine g_V3 d_X7_pass_30 cs_X7_pass_X7_switchMachine lk_RX7_56 im_X7_switchMachine se_X7_switchMachine rfl rfl rfl (Nat.le_of_ble_eq_true rfl) ⟨rfl, rfl⟩ ⟨Nat.zero_le _, Nat.zero_le _⟩ (ct_X7_switchMachine bulb less I1 J2 ho) (fun r30 S30 I22 J23 q30_23 => ?_)
  obtain ⟨rfl, hc30_24, rfl, hf30_25⟩ := q30_23
  replace hF := fe_b2 hF hf30_25
  refine g_st (st' := []) rfl ?_
  have hK28 : FS o I J I22 J23 := hK7.tr hc30_24
  refine g_aload_n d_X7_pass_33 rfl ?_
  refine g_aload_n d_X7_pass_34 rfl ?_
  refine g_iload d_X7_pass_35 rfl ?_
  refine g_aload_n d_X7_pass_37 rfl ?_
  refine g_getR d_X7_pass_38 fq_RX7_19 rfl rfl ?_
  refine g_getR d_X7_pass_41 fq_RX7_60 rfl rfl ?_
  refine g_iconst (v := 1) d_X7_pass_44 kI_1 ?_
  refine g_iaload (N := 15) d_X7_pass_45 rfl kT_15 ⟨by decide, by decide⟩ kN_1 ?_
  refine g_iload d_X7_pass_46 rfl ?_
  refine g_iadd d_X7_pass_48 ?_
  refine g_iload_n d_X7_pass_49 rfl ?_
  obtain ⟨j59_0, hj59_0, hF⟩ := fe_jx hF
  have J_59 : ∀ (w29 : Int32), (FE (fn_X7_pass o open_ bulb less I J) (fun _ => j59_0 w29)) → G m_X7_pass (rq m_X7_pass (fun r S' I' J' => S' = SHF ∧ FSx o I J I' J' ∧ r = none ∧ fn_X7_pass o open_ bulb less I J = (I', J') ∧ I' (o + 8) 0 = I (o + 8) 0 + 1)) 0 0 59 [some (.ref 13), some (.ref o), some (.int open_), some (.int bulb), some (.int less), some (.int r13), some (.int r20)] [.int w29, .int ((I22 8 1) + r20), .int r13, .ref o, .ref 13] SHF I22 J23 := by
    intro w29 hF_j59_0
    have hF := fe_eq hF_j59_0 (congrFun hj59_0 w29)
    refine g_iadd d_X7_pass_59 ?_
    refine g_V3 d_X7_pass_60 cs_X7_pass_X7_exchange lk_RX7_63 im_X7_exchange se_X7_exchange rfl rfl rfl (Nat.le_of_ble_eq_true rfl) ⟨rfl, rfl⟩ ⟨Nat.zero_le _, Nat.zero_le _⟩ (ct_X7_exchange r13 (((I22 8 1) + r20) + w29) I22 J23 ho) (fun r60 S60 I30 J31 q60_31 => ?_)
    obtain ⟨rfl, hc60_32, rfl, hf60_33⟩ := q60_31
    replace hF := fe_b2 hF hf60_33
    refine g_st (st' := []) rfl ?_
    have hK36 : FS o I J I30 J31 := hK28.tr hc60_32
    refine g_aload_n d_X7_pass_63 rfl ?_
    refine g_getZ d_X7_pass_64 fq_RX7_66 (sa0 ho) rfl (fun hz64 => ?_)
    obtain ⟨j88_1, hj88_1, hF⟩ := fe_jx hF
    have J_88 : ∀ (I37 : Iv), ∀ (J38 : Jv), (FS o I J I37 J38) → (FE (fn_X7_pass o open_ bulb less I J) (fun _ => j88_1 I37 J38)) → G m_X7_pass (rq m_X7_pass (fun r S' I' J' => S' = SHF ∧ FSx o I J I' J' ∧ r = none ∧ fn_X7_pass o open_ bulb less I J = (I', J') ∧ I' (o + 8) 0 = I (o + 8) 0 + 1)) 0 0 88 [some (.ref 13), some (.ref o), some (.int open_), some (.int bulb), some (.int less), some (.int r13), some (.int r20)] [] SHF I37 J38 := by
      intro I37 J38 hK39 hF_j88_1
      have hF := fe_eq hF_j88_1 (congrFun (congrFun hj88_1 I37) J38)
      refine g_aload_n d_X7_pass_88 rfl ?_
      refine g_getZ d_X7_pass_89 fq_RX7_76 (sa0 ho) rfl (fun hz89 => ?_)
      obtain ⟨j121_2, hj121_2, hF⟩ := fe_jx hF
      have J_121 : ∀ (I40 : Iv), ∀ (J41 : Jv), (FS o I J I40 J41) → (FE (fn_X7_pass o open_ bulb less I J) (fun _ => j121_2 I40 J41)) → G m_X7_pass (rq m_X7_pass (fun r S' I' J' => S' = SHF ∧ FSx o I J I' J' ∧ r = none ∧ fn_X7_pass o open_ bulb less I J = (I', J') ∧ I' (o + 8) 0 = I (o + 8) 0 + 1)) 0 0 121 [some (.ref 13), some (.ref o), some (.int open_), some (.int bulb), some (.int less), some (.int r13), some (.int r20)] [] SHF I40 J41 := by
        intro I40 J41 hK42 hF_j121_2
        have hF := fe_eq hF_j121_2 (congrFun (congrFun hj121_2 I40) J41)
        refine g_aload_n d_X7_pass_121 rfl ?_
        refine g_aload_n d_X7_pass_122 rfl ?_
        refine g_iload d_X7_pass_123 rfl ?_
        refine g_iload_n d_X7_pass_125 rfl ?_
        obtain ⟨j135_3, hj135_3, hF⟩ := fe_jx hF
        have J_135 : ∀ (w43 : Int32), (FE (fn_X7_pass o open_ bulb less I J) (fun _ => j135_3 w43)) → G m_X7_pass (rq m_X7_pass (fun r S' I' J' => S' = SHF ∧ FSx o I J I' J' ∧ r = none ∧ fn_X7_pass o open_ bulb less I J = (I', J') ∧ I' (o + 8) 0 = I (o + 8) 0 + 1)) 0 0 135 [some (.ref 13), some (.ref o), some (.int open_), some (.int bulb), some (.int less), some (.int r13), some (.int r20)] [.int w43, .int r20, .ref o, .ref 13] SHF I40 J41 := by
          intro w43 hF_j135_3
          have hF := fe_eq hF_j135_3 (congrFun hj135_3 w43)
          refine g_iadd d_X7_pass_135 ?_
          refine g_V2 d_X7_pass_136 cs_X7_pass_X7_takeWet lk_RX7_86 im_X7_takeWet se_X7_takeWet rfl rfl rfl (Nat.le_of_ble_eq_true rfl) ⟨rfl, rfl⟩ ⟨Nat.zero_le _, Nat.zero_le _⟩ (ct_X7_takeWet (r20 + w43) I40 J41 ho) (fun r136 S136 I44 J45 q136_45 => ?_)
          obtain ⟨rfl, hc136_46, rfl, hf136_47⟩ := q136_45
          replace hF := fe_b2 hF hf136_47
          refine g_st (st' := []) rfl ?_
          have hK50 : FS o I J I44 J45 := hK42.tr hc136_46
          refine g_aload_n d_X7_pass_139 rfl ?_
          refine g_getR d_X7_pass_140 fq_RX7_89 (sa0 ho) rfl ?_
          refine g_iconst (v := 0) d_X7_pass_143 kI_0 ?_
          refine g_dup2 d_X7_pass_144 rfl rfl ?_
          refine g_iaload (N := 8) d_X7_pass_145 (sa8 ho) kT_8 ⟨by decide, by decide⟩ kN_0 ?_
          refine g_iconst (v := 1) d_X7_pass_146 kI_1 ?_
          refine g_iadd d_X7_pass_147 ?_
          refine g_iastore (N := 8) d_X7_pass_148 (sa8 ho) kT_8 ⟨by decide, by decide⟩ kN_0  ?_
          refine g_nmI (fun I51 eI51 => ?_)
          replace hF := fe_lt hF eI51
          have hK52 : FSx o I J I51 J45 := (by rw [eI51]; exact fsx_wI ho (hK50).1 (by omega))
          have htk : I51 (o + 8) 0 = I (o + 8) 0 + 1 := by rw [eI51]; simp [wI, (hK50).2]
          exact g_return d_X7_pass_149 rfl rfl rfl ⟨rfl, hK52, rfl, hF, htk⟩
        refine g_if_eq d_X7_pass_126 (fun h126 => ?_) (fun h126 => ?_)
        · skip
          replace hF := fe_pos hF h126
          refine g_iconst (v := 0) d_X7_pass_134 kI_0 ?_
          exact J_135 ((0 : Int32)) hF
        · skip
          replace hF := fe_neg hF h126
          refine g_bipush (v := 20) d_X7_pass_129 kB_20 ?_
          refine g_goto d_X7_pass_131 ?_
          exact J_135 ((20 : Int32)) hF
      refine g_if_eq d_X7_pass_92 (fun h92 => ?_) (fun h92 => ?_)
      · skip
        replace hF := fe_pos hF h92
        exact J_121 I37 J38 hK39 hF
      · skip
        replace hF := fe_neg hF h92
        refine g_aload_n d_X7_pass_95 rfl ?_
        refine g_aload_n d_X7_pass_96 rfl ?_
        refine g_aload_n d_X7_pass_97 rfl ?_
        refine g_getR d_X7_pass_98 fq_RX7_19 rfl rfl ?_
        refine g_aload_n d_X7_pass_101 rfl ?_
        refine g_V1 d_X7_pass_102 cs_X7_pass_X0_powerOf lk_RX7_79 im_X0_powerOf se_X0_powerOf rfl rfl rfl (Nat.le_of_ble_eq_true rfl) ⟨rfl, rfl⟩ ⟨Nat.zero_le _, Nat.zero_le _⟩ (ct_X0_powerOf  I37 J38 ho) (fun r102 S102 Ic54 Jc55 q102_52 => ?_)
        obtain ⟨rfl, rfl, rfl, r58, rfl, hf102_56⟩ := q102_52
        replace hF := fe_b3 hF hf102_56
        refine g_st (st' := [.int r58, .ref o, .ref 13]) rfl ?_
        refine g_iload d_X7_pass_105 rfl ?_
        refine g_aload_n d_X7_pass_107 rfl ?_
        refine g_getR d_X7_pass_108 fq_RX7_9 rfl rfl ?_
        refine g_iconst (v := 3) d_X7_pass_111 kI_3 ?_
        refine g_iaload (N := 12) d_X7_pass_112 rfl kT_12 ⟨by decide, by decide⟩ kN_3 ?_
        refine g_isub d_X7_pass_113 ?_
        refine g_bipush (v := 8) d_X7_pass_114 kB_8 ?_
        refine g_idiv d_X7_pass_116 (by decide) ?_
        refine g_isub d_X7_pass_117 ?_
        refine g_V2 d_X7_pass_118 cs_X7_pass_X7_moveOut lk_RX7_82 im_X7_moveOut se_X7_moveOut rfl rfl rfl (Nat.le_of_ble_eq_true rfl) ⟨rfl, rfl⟩ ⟨Nat.zero_le _, Nat.zero_le _⟩ (ct_X7_moveOut (r58 - ((r13 - (I37 14 3)) / (8 : Int32))) I37 J38 ho) (fun r118 S118 I60 J61 q118_61 => ?_)
        obtain ⟨rfl, hc118_62, rfl, hf118_63⟩ := q118_61
        replace hF := fe_b2 hF hf118_63
        refine g_st (st' := []) rfl ?_
        have hK66 : FS o I J I60 J61 := hK39.tr hc118_62
        exact J_121 I60 J61 hK66 hF
    refine g_if_eq d_X7_pass_67 (fun h67 => ?_) (fun h67 => ?_)
    · skip
      replace hF := fe_pos hF h67
      exact J_88 I30 J31 hK36 hF
    · skip
      replace hF := fe_neg hF h67
      refine g_iload_n d_X7_pass_70 rfl ?_
      obtain ⟨j83_4, hj83_4, hF⟩ := fe_jx hF
      have J_83 : (FE (fn_X7_pass o open_ bulb less I J) (fun _ => j83_4)) → G m_X7_pass (rq m_X7_pass (fun r S' I' J' => S' = SHF ∧ FSx o I J I' J' ∧ r = none ∧ fn_X7_pass o open_ bulb less I J = (I', J') ∧ I' (o + 8) 0 = I (o + 8) 0 + 1)) 0 0 83 [some (.ref 13), some (.ref o), some (.int open_), some (.int bulb), some (.int less), some (.int r13), some (.int r20)] [] SHF I30 J31 := by
        intro hF_j83_4
        have hF := fe_eq hF_j83_4 hj83_4
        refine g_aload_n d_X7_pass_83 rfl ?_
        refine g_aload_n d_X7_pass_84 rfl ?_
        refine g_V1 d_X7_pass_85 cs_X7_pass_X7_giveLight lk_RX7_73 im_X7_giveLight se_X7_giveLight rfl rfl rfl (Nat.le_of_ble_eq_true rfl) ⟨rfl, rfl⟩ ⟨Nat.zero_le _, Nat.zero_le _⟩ (ct_X7_giveLight  I30 J31 ho) (fun r85 S85 I67 J68 q85_68 => ?_)
        obtain ⟨rfl, hc85_69, rfl, hf85_70⟩ := q85_68
        replace hF := fe_b2 hF hf85_70
        refine g_st (st' := []) rfl ?_
        have hK73 : FS o I J I67 J68 := hK36.tr hc85_69
        exact J_88 I67 J68 hK73 hF
      refine g_if_ne d_X7_pass_71 (fun h71 => ?_) (fun h71 => ?_)
      · skip
        replace hF := fe_neg hF h71
        exact J_83 hF
      · skip
        replace hF := fe_pos hF h71
        refine g_aload_n d_X7_pass_74 rfl ?_
        refine g_bipush (v := 32) d_X7_pass_75 kB_32 ?_
        refine g_V1 d_X7_pass_77 cs_X7_pass_X6_has lk_RX7_70 im_X6_has se_X6_has (sa0 ho) rfl rfl (Nat.le_of_ble_eq_true rfl) ⟨rfl, rfl⟩ ⟨Nat.zero_le _, Nat.zero_le _⟩ (ct_X6_has (32 : Int32) I30 J31 ho) (fun r77 S77 Ic75 Jc76 q77_73 => ?_)
        obtain ⟨rfl, rfl, rfl, r79, rfl, hz77, hf77_77⟩ := q77_73
        replace hF := fe_b3 hF hf77_77
        refine g_st (st' := [.int r79]) rfl ?_
        refine g_if_eq d_X7_pass_80 (fun h80 => ?_) (fun h80 => ?_)
        · skip
          replace hF := fe_pos hF h80
          exact J_88 I30 J31 hK36 hF
        · skip
          replace hF := fe_neg hF h80
          exact J_83 hF
  refine g_if_eq d_X7_pass_50 (fun h50 => ?_) (fun h50 => ?_)
  · skip
    replace hF := fe_pos hF h50
    refine g_iconst (v := 0) d_X7_pass_58 kI_0 ?_
    exact J_59 ((0 : Int32)) hF
  · skip
    replace hF := fe_neg hF h50
    refine g_bipush (v := 60) d_X7_pass_53 kB_60 ?_
    refine g_goto d_X7_pass_55 ?_
    exact J_59 ((60 : Int32)) hF
noncomputable def fl_X7_passByDay_3_0 (n : Int32) (bulb : Int32) (o : Nat) (Kf0 : Int32 → Iv → Jv → Iv × Jv) : Nat → Int32 → Iv → Jv → Iv × Jv
  | 0, x1, I2, J3 => (I2, J3)
  | kf0 + 1, x1, I2, J3 => if n ≤ x1 then Kf0 x1 I2 J3 else b_n3 (fn_X6_tickOfDay o I2 J3) (fun (r11 : Int32) (_ : Iv) (_ : Jv) => b_n3 (fn_X3_isOpenIn r11 I2 J3) (fun (r18 : Int32) (_ : Iv) (_ : Jv) => b_n2 (fn_X7_pass o r18 bulb (0 : Int32) I2 J3) (fun (I20 : Iv) (J21 : Jv) => fl_X7_passByDay_3_0 n bulb o Kf0 kf0 (x1 + (1 : Int32)) I20 J21)))
noncomputable def fn_X7_passByDay (o : Nat) (n : Int32) (bulb : Int32) (I : Iv) (J : Jv) : Iv × Jv :=
  fl_X7_passByDay_3_0 n bulb o (fun (x1 : Int32) (I2 : Iv) (J3 : Jv) => (I2, J3)) (mU n ((0 : Int32)) + 1) (0 : Int32) I J
set_option maxRecDepth 100000 in
set_option maxHeartbeats 4000000 in
theorem ct_X7_passByDay (n : Int32) (bulb : Int32) {o : Nat} (I : Iv) (J : Jv) (ho : StA o) (hn : 0 ≤ n) : Ct m_X7_passByDay [.ref 13, .ref o, .int n, .int bulb] SHF I J (fun r S' I' J' => S' = SHF ∧ FSx o I J I' J' ∧ r = none ∧ fn_X7_passByDay o n bulb I J = (I', J') ∧ I' (o + 8) 0 = I (o + 8) 0 + n) := by
  refine ct_of 1 (by decide +kernel) rfl rfl ?_
  have hK0 : FSx o I J I J := fsx_rfl
  have hF := fe_of (fn_X7_passByDay.eq_1 o n bulb I J)
  refine g_iconst (v := 0) d_X7_passByDay_0 kI_0 ?_
  refine g_istore (L' := [some (.ref 13), some (.ref o), some (.int n), some (.int bulb), some (.int (0 : Int32))]) d_X7_passByDay_1 (by decide) rfl ?_
  obtain ⟨Kf0, hKf0, hF⟩ := fe_kx (f := fun K => fl_X7_passByDay_3_0 n bulb o K (mU n ((0 : Int32)) + 1) (0 : Int32) I J) hF
  have K_3 : ∀ (nu : Nat) (x1 : Int32) (I2 : Iv) (J3 : Jv), mU n x1 = nu → (FSx o I J I2 J3) → ((0 : Int32) ≤ x1) → (I2 (o + 8) 0 = I (o + 8) 0 + x1) → (x1 ≤ n) → (∃ kq : Nat, nu < kq ∧ (fun kq => FE (fn_X7_passByDay o n bulb I J) (fun _ => fl_X7_passByDay_3_0 n bulb o Kf0 kq x1 I2 J3)) kq) → G m_X7_passByDay (rq m_X7_passByDay (fun r S' I' J' => S' = SHF ∧ FSx o I J I' J' ∧ r = none ∧ fn_X7_passByDay o n bulb I J = (I', J') ∧ I' (o + 8) 0 = I (o + 8) 0 + n)) 0 0 3 [some (.ref 13), some (.ref o), some (.int n), some (.int bulb), some (.int x1)] [] SHF I2 J3 := by
    intro nu
    induction nu using Nat.strongRecOn with
    | ind nu ih_3 =>
      intro x1 I2 J3 hmu_3 hK4 hl5 htk_3 htn_3 hF_Kf0
      obtain ⟨kf0, hkf0, hF⟩ := fe_fu (P := fun kq => FE (fn_X7_passByDay o n bulb I J) (fun _ => fl_X7_passByDay_3_0 n bulb o Kf0 kq x1 I2 J3)) hF_Kf0
      replace hF := fe_eq hF (fl_X7_passByDay_3_0.eq_2 _ _ _ _ _ _ _ _)
      refine g_iload d_X7_passByDay_3 rfl ?_
      refine g_iload_n d_X7_passByDay_5 rfl ?_
      refine g_icmp_ge d_X7_passByDay_6 (fun h6 => ?_) (fun h6 => ?_)
      · skip
        replace hF := fe_pos hF h6
        replace hF := fe_eq hF (congrFun (congrFun (congrFun hKf0 x1) I2) J3)
        exact g_return d_X7_passByDay_33 rfl rfl rfl ⟨rfl, hK4, rfl, hF, by grind⟩
      · skip
        replace hF := fe_neg hF h6
        refine g_aload_n d_X7_passByDay_9 rfl ?_
        refine g_aload_n d_X7_passByDay_10 rfl ?_
        refine g_aload_n d_X7_passByDay_11 rfl ?_
        refine g_getR d_X7_passByDay_12 fq_RX7_23 rfl rfl ?_
        refine g_aload_n d_X7_passByDay_15 rfl ?_
        refine g_V0 d_X7_passByDay_16 cs_X7_passByDay_X6_tickOfDay lk_RX7_27 im_X6_tickOfDay se_X6_tickOfDay (sa0 ho) rfl rfl (Nat.le_of_ble_eq_true rfl) ⟨rfl, rfl⟩ ⟨Nat.zero_le _, Nat.zero_le _⟩ (ct_X6_tickOfDay  I2 J3 ho) (fun r16 S16 Ic7 Jc8 q16_5 => ?_)
        obtain ⟨rfl, rfl, rfl, r11, rfl, hf16_9, hr16_11⟩ := q16_5
        replace hF := fe_b3 hF hf16_9
        refine g_st (st' := [.int r11, .ref 9, .ref o, .ref 13]) rfl ?_
        refine g_V1 d_X7_passByDay_19 cs_X7_passByDay_X3_isOpenIn lk_RX7_33 im_X3_isOpenIn se_X3_isOpenIn rfl rfl rfl (Nat.le_of_ble_eq_true rfl) ⟨rfl, rfl⟩ ⟨Nat.zero_le _, Nat.zero_le _⟩ (ct_X3_isOpenIn r11 I2 J3 ) (fun r19 S19 Ic14 Jc15 q19_12 => ?_)
        obtain ⟨rfl, rfl, rfl, r18, rfl, hz19, hf19_16⟩ := q19_12
        replace hF := fe_b3 hF hf19_16
        refine g_st (st' := [.int r18, .ref o, .ref 13]) rfl ?_
        refine g_iload_n d_X7_passByDay_22 rfl ?_
        refine g_iconst (v := 0) d_X7_passByDay_23 kI_0 ?_
        refine g_V4 d_X7_passByDay_24 cs_X7_passByDay_X7_pass lk_RX7_39 im_X7_pass se_X7_pass rfl rfl rfl (Nat.le_of_ble_eq_true rfl) ⟨rfl, rfl⟩ ⟨Nat.zero_le _, Nat.zero_le _⟩ (ct_X7_pass r18 bulb (0 : Int32) I2 J3 ho) (fun r24 S24 I20 J21 q24_21 => ?_)
        obtain ⟨rfl, hc24_22, rfl, hf24_23, hr24_24⟩ := q24_21
        replace hF := fe_b2 hF hf24_23
        refine g_st (st' := []) rfl ?_
        have hK26 : FSx o I J I20 J21 := hK4.tr hc24_22
        refine g_iinc (v := (x1 + (1 : Int32))) (L' := [some (.ref 13), some (.ref o), some (.int n), some (.int bulb), some (.int (x1 + (1 : Int32)))]) d_X7_passByDay_27 rfl (by rw [kI_1]) (by decide) rfl ?_
        refine g_goto d_X7_passByDay_30 ?_
        exact ih_3 _ (by rw [← hmu_3]; exact mu_up h6) (x1 + (1 : Int32)) I20 J21 rfl hK26 (lo_up hl5 h6) (by grind) (by grind) ⟨kf0, Nat.lt_of_lt_of_le (by rw [← hmu_3]; exact mu_up h6) hkf0, hF⟩
  exact K_3 _ (0 : Int32) I J rfl hK0 (Int32.le_refl _) (by grind) hn ⟨_, Nat.lt_succ_self _, hF⟩
