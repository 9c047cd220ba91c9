noncomputable def fn_X4_yearByUse (used : Int32) (I : Iv) (J : Jv) : Int32 × Iv × Jv :=
  ((Int64.toInt32 ((((Int32.toInt64 used) * (365 : Int64)) * (Int32.toInt64 (I 65 2))) / (1000 : Int64))), I, J)
set_option maxRecDepth 100000 in
set_option maxHeartbeats 4000000 in
theorem ct_X4_yearByUse (used : Int32) (I : Iv) (J : Jv)  : Ct m_X4_yearByUse [.ref 65, .int used] SHF I J (fun r S' I' J' => S' = SHF ∧ I = I' ∧ J = J' ∧ ∃ v : Int32, r = some (.int v) ∧ fn_X4_yearByUse used I J = (v, I', J')) := by
  refine ct_of 0 (by decide +kernel) rfl rfl ?_
  have hF := fe_of (fn_X4_yearByUse.eq_1 used I J)
  refine g_iload_n d_X4_yearByUse_0 rfl ?_
  refine g_i2l d_X4_yearByUse_1 ?_
  refine g_ldc2 (v := 365) d_X4_yearByUse_2 tw_928 ?_
  refine g_lmul d_X4_yearByUse_5 ?_
  refine g_aload_n d_X4_yearByUse_6 rfl ?_
  refine g_getI d_X4_yearByUse_7 fq_RX4_15 rfl rfl ?_
  refine g_i2l d_X4_yearByUse_10 ?_
  refine g_lmul d_X4_yearByUse_11 ?_
  refine g_ldc2 (v := 1000) d_X4_yearByUse_12 tw_929 ?_
  refine g_ldiv d_X4_yearByUse_15 (by decide) ?_
  refine g_l2i d_X4_yearByUse_16 ?_
  exact g_ireturn d_X4_yearByUse_17 rfl rfl rfl rfl ⟨rfl, rfl, rfl, (Int64.toInt32 ((((Int32.toInt64 used) * (365 : Int64)) * (Int32.toInt64 (I 65 2))) / (1000 : Int64))), rfl, hF⟩
noncomputable def fn_X4_yearOf (set : Int32) (cur : Int32) (I : Iv) (J : Jv) : Int32 × Iv × Jv :=
  if cur = 0 then ((0 : Int32), I, J) else b_n3 (fn_X1_signOf set (2 : Int32) (6 : Int32) I J) (fun (r6 : Int32) (_ : Iv) (_ : Jv) => b_n3 (fn_X4_yearByUse r6 I J) (fun (r13 : Int32) (_ : Iv) (_ : Jv) => (r13, I, J)))
set_option maxRecDepth 100000 in
set_option maxHeartbeats 4000000 in
theorem ct_X4_yearOf (set : Int32) (cur : Int32) (I : Iv) (J : Jv)  : Ct m_X4_yearOf [.ref 65, .int set, .int cur] SHF I J (fun r S' I' J' => S' = SHF ∧ I = I' ∧ J = J' ∧ ∃ v : Int32, r = some (.int v) ∧ fn_X4_yearOf set cur I J = (v, I', J')) := by
  refine ct_of 0 (by decide +kernel) rfl rfl ?_
  have hF := fe_of (fn_X4_yearOf.eq_1 set cur I J)
  refine g_iload_n d_X4_yearOf_0 rfl ?_
  refine g_if_eq d_X4_yearOf_1 (fun h1 => ?_) (fun h1 => ?_)
  · skip
    replace hF := fe_pos hF h1
    refine g_iconst (v := 0) d_X4_yearOf_22 kI_0 ?_
    exact g_ireturn d_X4_yearOf_23 rfl rfl rfl rfl ⟨rfl, rfl, rfl, (0 : Int32), rfl, hF⟩
  · skip
    replace hF := fe_neg hF h1
    refine g_aload_n d_X4_yearOf_4 rfl ?_
    refine g_aload_n d_X4_yearOf_5 rfl ?_
    refine g_getR d_X4_yearOf_6 fq_RX4_19 rfl rfl ?_
    refine g_iload_n d_X4_yearOf_9 rfl ?_
    refine g_iconst (v := 2) d_X4_yearOf_10 kI_2 ?_
    refine g_bipush (v := 6) d_X4_yearOf_11 kB_6 ?_
    refine g_V3 d_X4_yearOf_13 cs_X4_yearOf_X1_signOf lk_RX4_29 im_X1_signOf se_X1_signOf rfl rfl rfl (Nat.le_of_ble_eq_true rfl) ⟨rfl, rfl⟩ ⟨Nat.zero_le _, Nat.zero_le _⟩ (ct_X1_signOf set (2 : Int32) (6 : Int32) I J ) (fun r13 S13 Ic2 Jc3 q13_0 => ?_)
    obtain ⟨rfl, rfl, rfl, r6, rfl, hf13_4⟩ := q13_0
    replace hF := fe_b3 hF hf13_4
    refine g_st (st' := [.int r6, .ref 65]) rfl ?_
    refine g_V1 d_X4_yearOf_16 cs_X4_yearOf_X4_yearByUse lk_RX4_35 im_X4_yearByUse se_X4_yearByUse rfl rfl rfl (Nat.le_of_ble_eq_true rfl) ⟨rfl, rfl⟩ ⟨Nat.zero_le _, Nat.zero_le _⟩ (ct_X4_yearByUse r6 I J ) (fun r16 S16 Ic9 Jc10 q16_7 => ?_)
    obtain ⟨rfl, rfl, rfl, r13, rfl, hf16_11⟩ := q16_7
    replace hF := fe_b3 hF hf16_11
    refine g_st (st' := [.int r13]) rfl ?_
    refine g_goto d_X4_yearOf_19 ?_
    exact g_ireturn d_X4_yearOf_23 rfl rfl rfl rfl ⟨rfl, rfl, rfl, r13, rfl, hF⟩
noncomputable def fn_X4_saved (set : Int32) (part : Int32) (cur : Int32) (I : Iv) (J : Jv) : Int32 × Iv × Jv :=
  b_n3 (fn_X4_yearOf set cur I J) (fun (r6 : Int32) (_ : Iv) (_ : Jv) => b_n3 (fn_X4_yearOf (set &&& (part ^^^ (-1 : Int32))) cur I J) (fun (r13 : Int32) (_ : Iv) (_ : Jv) => ((r6 - r13), I, J)))
set_option maxRecDepth 100000 in
set_option maxHeartbeats 4000000 in
theorem ct_X4_saved (set : Int32) (part : Int32) (cur : Int32) (I : Iv) (J : Jv)  : Ct m_X4_saved [.ref 65, .int set, .int part, .int cur] SHF I J (fun r S' I' J' => S' = SHF ∧ I = I' ∧ J = J' ∧ ∃ v : Int32, r = some (.int v) ∧ fn_X4_saved set part cur I J = (v, I', J')) := by
  refine ct_of 0 (by decide +kernel) rfl rfl ?_
  have hF := fe_of (fn_X4_saved.eq_1 set part cur I J)
  refine g_aload_n d_X4_saved_0 rfl ?_
  refine g_iload_n d_X4_saved_1 rfl ?_
  refine g_iload_n d_X4_saved_2 rfl ?_
  refine g_V2 d_X4_saved_3 cs_X4_saved_X4_yearOf lk_RX4_43 im_X4_yearOf se_X4_yearOf rfl rfl rfl (Nat.le_of_ble_eq_true rfl) ⟨rfl, rfl⟩ ⟨Nat.zero_le _, Nat.zero_le _⟩ (ct_X4_yearOf set cur I J ) (fun r3 S3 Ic2 Jc3 q3_0 => ?_)
  obtain ⟨rfl, rfl, rfl, r6, rfl, hf3_4⟩ := q3_0
  replace hF := fe_b3 hF hf3_4
  refine g_st (st' := [.int r6]) rfl ?_
  refine g_aload_n d_X4_saved_6 rfl ?_
  refine g_iload_n d_X4_saved_7 rfl ?_
  refine g_iload_n d_X4_saved_8 rfl ?_
  refine g_iconst (v := -1) d_X4_saved_9 kI_m1 ?_
  refine g_ixor d_X4_saved_10 ?_
  refine g_iand d_X4_saved_11 ?_
  refine g_iload_n d_X4_saved_12 rfl ?_
  refine g_V2 d_X4_saved_13 cs_X4_saved_X4_yearOf lk_RX4_43 im_X4_yearOf se_X4_yearOf rfl rfl rfl (Nat.le_of_ble_eq_true rfl) ⟨rfl, rfl⟩ ⟨Nat.zero_le _, Nat.zero_le _⟩ (ct_X4_yearOf (set &&& (part ^^^ (-1 : Int32))) cur I J ) (fun r13 S13 Ic9 Jc10 q13_7 => ?_)
  obtain ⟨rfl, rfl, rfl, r13, rfl, hf13_11⟩ := q13_7
  replace hF := fe_b3 hF hf13_11
  refine g_st (st' := [.int r13, .int r6]) rfl ?_
  refine g_isub d_X4_saved_16 ?_
  exact g_ireturn d_X4_saved_17 rfl rfl rfl rfl ⟨rfl, rfl, rfl, (r6 - r13), rfl, hF⟩
noncomputable def fl_X4_costOf_4_0 (I : Iv) (J : Jv) (part : Int32) (Kf0 : Int32 → Int32 → Int32 × Iv × Jv) : Nat → Int32 → Int32 → Int32 × Iv × Jv
  | 0, x1, x2 => (0, I, J)
  | kf0 + 1, x1, x2 => if (7 : Int32) ≤ x2 then Kf0 x1 x2 else if ((part >>> (x2 &&& 31)) &&& (1 : Int32)) = 0 then fl_X4_costOf_4_0 I J part Kf0 kf0 x1 (x2 + (1 : Int32)) else l_t ((x1 + (I 66 x2.toNatClampNeg))) (fun (v4 : Int32) => fl_X4_costOf_4_0 I J part Kf0 kf0 v4 (x2 + (1 : Int32)))
noncomputable def fn_X4_costOf (part : Int32) (I : Iv) (J : Jv) : Int32 × Iv × Jv :=
  fl_X4_costOf_4_0 I J part (fun (x1 : Int32) (x2 : Int32) => (x1, I, J)) (mU (7 : Int32) ((0 : Int32)) + 1) (0 : Int32) (0 : Int32)
set_option maxRecDepth 100000 in
set_option maxHeartbeats 4000000 in
theorem ct_X4_costOf (part : Int32) (I : Iv) (J : Jv)  : Ct m_X4_costOf [.ref 65, .int part] SHF I J (fun r S' I' J' => S' = SHF ∧ I = I' ∧ J = J' ∧ ∃ v : Int32, r = some (.int v) ∧ fn_X4_costOf part I J = (v, I', J')) := by
  refine ct_of 2 (by decide +kernel) rfl rfl ?_
  have hF := fe_of (fn_X4_costOf.eq_1 part I J)
  refine g_iconst (v := 0) d_X4_costOf_0 kI_0 ?_
  refine g_istore_n (L' := [some (.ref 65), some (.int part), some (.int (0 : Int32)), none]) d_X4_costOf_1 (by decide) rfl ?_
  refine g_iconst (v := 0) d_X4_costOf_2 kI_0 ?_
  refine g_istore_n (L' := [some (.ref 65), some (.int part), some (.int (0 : Int32)), some (.int (0 : Int32))]) d_X4_costOf_3 (by decide) rfl ?_
  obtain ⟨Kf0, hKf0, hF⟩ := fe_kx (f := fun K => fl_X4_costOf_4_0 I J part K (mU (7 : Int32) ((0 : Int32)) + 1) (0 : Int32) (0 : Int32)) hF
  have K_4 : ∀ (nu : Nat) (x1 : Int32) (x2 : Int32), mU (7 : Int32) x2 = nu → ((0 : Int32) ≤ x2) → (∃ kq : Nat, nu < kq ∧ (fun kq => FE (fn_X4_costOf part I J) (fun _ => fl_X4_costOf_4_0 I J part Kf0 kq x1 x2)) kq) → G m_X4_costOf (rq m_X4_costOf (fun r S' I' J' => S' = SHF ∧ I = I' ∧ J = J' ∧ ∃ v : Int32, r = some (.int v) ∧ fn_X4_costOf part I J = (v, I', J'))) 0 0 4 [some (.ref 65), some (.int part), some (.int x1), some (.int x2)] [] SHF I J := by
    intro nu
    induction nu using Nat.strongRecOn with
    | ind nu ih_4 =>
      intro x1 x2 hmu_4 hl3 hF_Kf0
      obtain ⟨kf0, hkf0, hF⟩ := fe_fu (P := fun kq => FE (fn_X4_costOf part I J) (fun _ => fl_X4_costOf_4_0 I J part Kf0 kq x1 x2)) hF_Kf0
      replace hF := fe_eq hF (fl_X4_costOf_4_0.eq_2 _ _ _ _ _ _ _)
      refine g_iload_n d_X4_costOf_4 rfl ?_
      refine g_bipush (v := 7) d_X4_costOf_5 kB_7 ?_
      refine g_icmp_ge d_X4_costOf_7 (fun h7 => ?_) (fun h7 => ?_)
      · skip
        replace hF := fe_pos hF h7
        replace hF := fe_eq hF (congrFun (congrFun hKf0 x1) x2)
        refine g_iload_n d_X4_costOf_33 rfl ?_
        exact g_ireturn d_X4_costOf_34 rfl rfl rfl rfl ⟨rfl, rfl, rfl, x1, rfl, hF⟩
      · skip
        replace hF := fe_neg hF h7
        refine g_iload_n d_X4_costOf_10 rfl ?_
        refine g_iload_n d_X4_costOf_11 rfl ?_
        refine g_ishr d_X4_costOf_12 ?_
        refine g_iconst (v := 1) d_X4_costOf_13 kI_1 ?_
        refine g_iand d_X4_costOf_14 ?_
        refine g_if_eq d_X4_costOf_15 (fun h15 => ?_) (fun h15 => ?_)
        · skip
          replace hF := fe_pos hF h15
          refine g_iinc (v := (x2 + (1 : Int32))) (L' := [some (.ref 65), some (.int part), some (.int x1), some (.int (x2 + (1 : Int32)))]) d_X4_costOf_27 rfl (by rw [kI_1]) (by decide) rfl ?_
          refine g_goto d_X4_costOf_30 ?_
          exact ih_4 _ (by rw [← hmu_4]; exact mu_up h7) x1 (x2 + (1 : Int32)) rfl (lo_up hl3 h7) ⟨kf0, Nat.lt_of_lt_of_le (by rw [← hmu_4]; exact mu_up h7) hkf0, hF⟩
        · skip
          replace hF := fe_neg hF h15
          refine g_iload_n d_X4_costOf_18 rfl ?_
          refine g_aload_n d_X4_costOf_19 rfl ?_
          refine g_getR d_X4_costOf_20 fq_RX4_9 rfl rfl ?_
          refine g_iload_n d_X4_costOf_23 rfl ?_
          refine g_iaload (N := 7) d_X4_costOf_24 rfl kT_7 ⟨hl3, Int32.not_le.mp h7⟩ rfl ?_
          refine g_iadd d_X4_costOf_25 ?_
          refine g_topI (fun v4 ev4 => ?_)
          replace hF := fe_lt hF ev4
          refine g_istore_n (L' := [some (.ref 65), some (.int part), some (.int v4), some (.int x2)]) d_X4_costOf_26 (by decide) rfl ?_
          refine g_iinc (v := (x2 + (1 : Int32))) (L' := [some (.ref 65), some (.int part), some (.int v4), some (.int (x2 + (1 : Int32)))]) d_X4_costOf_27 rfl (by rw [kI_1]) (by decide) rfl ?_
          refine g_goto d_X4_costOf_30 ?_
          exact ih_4 _ (by rw [← hmu_4]; exact mu_up h7) v4 (x2 + (1 : Int32)) rfl (lo_up hl3 h7) ⟨kf0, Nat.lt_of_lt_of_le (by rw [← hmu_4]; exact mu_up h7) hkf0, hF⟩
  exact K_4 _ (0 : Int32) (0 : Int32) rfl (Int32.le_refl _) ⟨_, Nat.lt_succ_self _, hF⟩
noncomputable def fl_X4_bestPart_12_0 (I : Iv) (J : Jv) (set : Int32) (c : Int32) (cur : Int32) (Kf0 : Int32 → Int32 → Int32 → Int32 → Int32 × Iv × Jv) : Nat → Int32 → Int32 → Int32 → Int32 → Int32 × Iv × Jv
  | 0, x1, x2, x3, x4 => (0, I, J)
  | kf0 + 1, x1, x2, x3, x4 => if set < x4 then Kf0 x1 x2 x3 x4 else b_n3 (fn_X4_costOf x4 I J) (fun (r11 : Int32) (_ : Iv) (_ : Jv) => b_n3 (fn_X9_isPart x4 set I J) (fun (r18 : Int32) (_ : Iv) (_ : Jv) => if r18 = 0 then fl_X4_bestPart_12_0 I J set c cur Kf0 kf0 x1 x2 x3 (x4 + (1 : Int32)) else if r11 ≤ c then b_n3 (fn_X4_saved set x4 cur I J) (fun (r25 : Int32) (_ : Iv) (_ : Jv) => j_n (fl_X4_bestPart_12_0 I J set c cur Kf0 kf0 x4 r25 r11 (x4 + (1 : Int32))) (fun (j75_1 : Int32 × Iv × Jv) => if x2 < r25 then j75_1 else if r25 = x2 then if x3 ≤ r11 then fl_X4_bestPart_12_0 I J set c cur Kf0 kf0 x1 x2 x3 (x4 + (1 : Int32)) else j75_1 else fl_X4_bestPart_12_0 I J set c cur Kf0 kf0 x1 x2 x3 (x4 + (1 : Int32)))) else fl_X4_bestPart_12_0 I J set c cur Kf0 kf0 x1 x2 x3 (x4 + (1 : Int32))))
noncomputable def fn_X4_bestPart (set : Int32) (c : Int32) (cur : Int32) (I : Iv) (J : Jv) : Int32 × Iv × Jv :=
  fl_X4_bestPart_12_0 I J set c cur (fun (x1 : Int32) (x2 : Int32) (x3 : Int32) (x4 : Int32) => (x1, I, J)) (mUe set ((1 : Int32)) + 1) (0 : Int32) (0 : Int32) (0 : Int32) (1 : Int32)
set_option maxRecDepth 100000 in
set_option maxHeartbeats 4000000 in
theorem ct_X4_bestPart (set : Int32) (c : Int32) (cur : Int32) (I : Iv) (J : Jv) (hs : 0 ≤ set ∧ set ≤ 127) : Ct m_X4_bestPart [.ref 65, .int set, .int c, .int cur] SHF I J (fun r S' I' J' => S' = SHF ∧ I = I' ∧ J = J' ∧ ∃ v : Int32, r = some (.int v) ∧ fn_X4_bestPart set c cur I J = (v, I', J')) := by
  refine ct_of 6 (by decide +kernel) rfl rfl ?_
  have hF := fe_of (fn_X4_bestPart.eq_1 set c cur I J)
  refine g_iconst (v := 0) d_X4_bestPart_0 kI_0 ?_
  refine g_istore (L' := [some (.ref 65), some (.int set), some (.int c), some (.int cur), some (.int (0 : Int32)), none, none, none, none, none]) d_X4_bestPart_1 (by decide) rfl ?_
  refine g_iconst (v := 0) d_X4_bestPart_3 kI_0 ?_
  refine g_istore (L' := [some (.ref 65), some (.int set), some (.int c), some (.int cur), some (.int (0 : Int32)), some (.int (0 : Int32)), none, none, none, none]) d_X4_bestPart_4 (by decide) rfl ?_
  refine g_iconst (v := 0) d_X4_bestPart_6 kI_0 ?_
  refine g_istore (L' := [some (.ref 65), some (.int set), some (.int c), some (.int cur), some (.int (0 : Int32)), some (.int (0 : Int32)), some (.int (0 : Int32)), none, none, none]) d_X4_bestPart_7 (by decide) rfl ?_
  refine g_iconst (v := 1) d_X4_bestPart_9 kI_1 ?_
  refine g_istore (L' := [some (.ref 65), some (.int set), some (.int c), some (.int cur), some (.int (0 : Int32)), some (.int (0 : Int32)), some (.int (0 : Int32)), some (.int (1 : Int32)), none, none]) d_X4_bestPart_10 (by decide) rfl ?_
  obtain ⟨Kf0, hKf0, hF⟩ := fe_kx (f := fun K => fl_X4_bestPart_12_0 I J set c cur K (mUe set ((1 : Int32)) + 1) (0 : Int32) (0 : Int32) (0 : Int32) (1 : Int32)) hF
  have K_12 : ∀ (nu : Nat) (x1 : Int32) (x2 : Int32) (x3 : Int32) (x4 : Int32), mUe set x4 = nu → ((1 : Int32) ≤ x4) → (∃ kq : Nat, nu < kq ∧ (fun kq => FE (fn_X4_bestPart set c cur I J) (fun _ => fl_X4_bestPart_12_0 I J set c cur Kf0 kq x1 x2 x3 x4)) kq) → G m_X4_bestPart (rq m_X4_bestPart (fun r S' I' J' => S' = SHF ∧ I = I' ∧ J = J' ∧ ∃ v : Int32, r = some (.int v) ∧ fn_X4_bestPart set c cur I J = (v, I', J'))) 0 0 12 [some (.ref 65), some (.int set), some (.int c), some (.int cur), some (.int x1), some (.int x2), some (.int x3), some (.int x4), none, none] [] SHF I J := by
    intro nu
    induction nu using Nat.strongRecOn with
    | ind nu ih_12 =>
      intro x1 x2 x3 x4 hmu_12 hl5 hF_Kf0
      obtain ⟨kf0, hkf0, hF⟩ := fe_fu (P := fun kq => FE (fn_X4_bestPart set c cur I J) (fun _ => fl_X4_bestPart_12_0 I J set c cur Kf0 kq x1 x2 x3 x4)) hF_Kf0
      replace hF := fe_eq hF (fl_X4_bestPart_12_0.eq_2 _ _ _ _ _ _ _ _ _ _ _)
      refine g_iload d_X4_bestPart_12 rfl ?_
      refine g_iload_n d_X4_bestPart_14 rfl ?_
      refine g_icmp_gt d_X4_bestPart_15 (fun h15 => ?_) (fun h15 => ?_)
      · skip
        replace hF := fe_pos hF h15
        replace hF := fe_eq hF (congrFun (congrFun (congrFun (congrFun hKf0 x1) x2) x3) x4)
        refine g_iload d_X4_bestPart_93 rfl ?_
        exact g_ireturn d_X4_bestPart_95 rfl rfl rfl rfl ⟨rfl, rfl, rfl, x1, rfl, hF⟩
      · skip
        replace hF := fe_neg hF h15
        refine g_aload_n d_X4_bestPart_18 rfl ?_
        refine g_iload d_X4_bestPart_19 rfl ?_
        refine g_V1 d_X4_bestPart_21 cs_X4_bestPart_X4_costOf lk_RX4_47 im_X4_costOf se_X4_costOf rfl rfl rfl (Nat.le_of_ble_eq_true rfl) ⟨rfl, rfl⟩ ⟨Nat.zero_le _, Nat.zero_le _⟩ (ct_X4_costOf x4 I J ) (fun r21 S21 Ic7 Jc8 q21_5 => ?_)
        obtain ⟨rfl, rfl, rfl, r11, rfl, hf21_9⟩ := q21_5
        replace hF := fe_b3 hF hf21_9
        refine g_st (st' := [.int r11]) rfl ?_
        refine g_istore (L' := [some (.ref 65), some (.int set), some (.int c), some (.int cur), some (.int x1), some (.int x2), some (.int x3), some (.int x4), some (.int r11), none]) d_X4_bestPart_24 (by decide) rfl ?_
        refine g_iload d_X4_bestPart_26 rfl ?_
        refine g_iload_n d_X4_bestPart_28 rfl ?_
        refine g_S2 d_X4_bestPart_29 cs_X4_bestPart_X9_isPart lk_RX4_50 im_X9_isPart (Nat.le_of_ble_eq_true rfl) ⟨rfl, rfl⟩ ⟨Nat.zero_le _, Nat.zero_le _⟩ (ct_X9_isPart x4 set I J ) (fun r29 S29 Ic14 Jc15 q29_12 => ?_)
        obtain ⟨rfl, rfl, rfl, r18, rfl, hz29, hf29_16⟩ := q29_12
        replace hF := fe_b3 hF hf29_16
        refine g_st (st' := [.int r18]) rfl ?_
        refine g_if_eq d_X4_bestPart_32 (fun h32 => ?_) (fun h32 => ?_)
        · skip
          replace hF := fe_pos hF h32
          refine g_iinc (v := (x4 + (1 : Int32))) (L' := [some (.ref 65), some (.int set), some (.int c), some (.int cur), some (.int x1), some (.int x2), some (.int x3), some (.int (x4 + (1 : Int32))), some (.int r11), none]) d_X4_bestPart_87 rfl (by rw [kI_1]) (by decide) rfl ?_
          refine g_goto d_X4_bestPart_90 ?_
          refine g_sb [some (.ref 65), some (.int set), some (.int c), some (.int cur), some (.int x1), some (.int x2), some (.int x3), some (.int (x4 + (1 : Int32))), none, none] (by simp [subL]) ?_
          exact ih_12 _ (by rw [← hmu_12]; exact mu_upe h15 (by grind)) x1 x2 x3 (x4 + (1 : Int32)) rfl (lo_upe hl5 h15 (by grind)) ⟨kf0, Nat.lt_of_lt_of_le (by rw [← hmu_12]; exact mu_upe h15 (by grind)) hkf0, hF⟩
        · skip
          replace hF := fe_neg hF h32
          refine g_iload d_X4_bestPart_35 rfl ?_
          refine g_iload_n d_X4_bestPart_37 rfl ?_
          refine g_icmp_le d_X4_bestPart_38 (fun h38 => ?_) (fun h38 => ?_)
          · skip
            replace hF := fe_pos hF h38
            refine g_aload_n d_X4_bestPart_44 rfl ?_
            refine g_iload_n d_X4_bestPart_45 rfl ?_
            refine g_iload d_X4_bestPart_46 rfl ?_
            refine g_iload_n d_X4_bestPart_48 rfl ?_
            refine g_V3 d_X4_bestPart_49 cs_X4_bestPart_X4_saved lk_RX4_54 im_X4_saved se_X4_saved rfl rfl rfl (Nat.le_of_ble_eq_true rfl) ⟨rfl, rfl⟩ ⟨Nat.zero_le _, Nat.zero_le _⟩ (ct_X4_saved set x4 cur I J ) (fun r49 S49 Ic21 Jc22 q49_19 => ?_)
            obtain ⟨rfl, rfl, rfl, r25, rfl, hf49_23⟩ := q49_19
            replace hF := fe_b3 hF hf49_23
            refine g_st (st' := [.int r25]) rfl ?_
            refine g_istore (L' := [some (.ref 65), some (.int set), some (.int c), some (.int cur), some (.int x1), some (.int x2), some (.int x3), some (.int x4), some (.int r11), some (.int r25)]) d_X4_bestPart_52 (by decide) rfl ?_
            refine g_iload d_X4_bestPart_54 rfl ?_
            refine g_iload d_X4_bestPart_56 rfl ?_
            obtain ⟨j75_1, hj75_1, hF⟩ := fe_jx hF
            have J_75 : (FE (fn_X4_bestPart set c cur I J) (fun _ => j75_1)) → G m_X4_bestPart (rq m_X4_bestPart (fun r S' I' J' => S' = SHF ∧ I = I' ∧ J = J' ∧ ∃ v : Int32, r = some (.int v) ∧ fn_X4_bestPart set c cur I J = (v, I', J'))) 0 0 75 [some (.ref 65), some (.int set), some (.int c), some (.int cur), some (.int x1), some (.int x2), some (.int x3), some (.int x4), some (.int r11), some (.int r25)] [] SHF I J := by
              intro hF_j75_1
              have hF := fe_eq hF_j75_1 hj75_1
              refine g_iload d_X4_bestPart_75 rfl ?_
              refine g_istore (L' := [some (.ref 65), some (.int set), some (.int c), some (.int cur), some (.int x4), some (.int x2), some (.int x3), some (.int x4), some (.int r11), some (.int r25)]) d_X4_bestPart_77 (by decide) rfl ?_
              refine g_iload d_X4_bestPart_79 rfl ?_
              refine g_istore (L' := [some (.ref 65), some (.int set), some (.int c), some (.int cur), some (.int x4), some (.int r25), some (.int x3), some (.int x4), some (.int r11), some (.int r25)]) d_X4_bestPart_81 (by decide) rfl ?_
              refine g_iload d_X4_bestPart_83 rfl ?_
              refine g_istore (L' := [some (.ref 65), some (.int set), some (.int c), some (.int cur), some (.int x4), some (.int r25), some (.int r11), some (.int x4), some (.int r11), some (.int r25)]) d_X4_bestPart_85 (by decide) rfl ?_
              refine g_iinc (v := (x4 + (1 : Int32))) (L' := [some (.ref 65), some (.int set), some (.int c), some (.int cur), some (.int x4), some (.int r25), some (.int r11), some (.int (x4 + (1 : Int32))), some (.int r11), some (.int r25)]) d_X4_bestPart_87 rfl (by rw [kI_1]) (by decide) rfl ?_
              refine g_goto d_X4_bestPart_90 ?_
              refine g_sb [some (.ref 65), some (.int set), some (.int c), some (.int cur), some (.int x4), some (.int r25), some (.int r11), some (.int (x4 + (1 : Int32))), none, none] (by simp [subL]) ?_
              exact ih_12 _ (by rw [← hmu_12]; exact mu_upe h15 (by grind)) x4 r25 r11 (x4 + (1 : Int32)) rfl (lo_upe hl5 h15 (by grind)) ⟨kf0, Nat.lt_of_lt_of_le (by rw [← hmu_12]; exact mu_upe h15 (by grind)) hkf0, hF⟩
            refine g_icmp_gt d_X4_bestPart_58 (fun h58 => ?_) (fun h58 => ?_)
            · skip
              replace hF := fe_pos hF h58
              exact J_75 hF
            · skip
              replace hF := fe_neg hF h58
              refine g_iload d_X4_bestPart_61 rfl ?_
              refine g_iload d_X4_bestPart_63 rfl ?_
              refine g_icmp_ne d_X4_bestPart_65 (fun h65 => ?_) (fun h65 => ?_)
              · skip
                replace hF := fe_neg hF h65
                refine g_iinc (v := (x4 + (1 : Int32))) (L' := [some (.ref 65), some (.int set), some (.int c), some (.int cur), some (.int x1), some (.int x2), some (.int x3), some (.int (x4 + (1 : Int32))), some (.int r11), some (.int r25)]) d_X4_bestPart_87 rfl (by rw [kI_1]) (by decide) rfl ?_
                refine g_goto d_X4_bestPart_90 ?_
                refine g_sb [some (.ref 65), some (.int set), some (.int c), some (.int cur), some (.int x1), some (.int x2), some (.int x3), some (.int (x4 + (1 : Int32))), none, none] (by simp [subL]) ?_
                exact ih_12 _ (by rw [← hmu_12]; exact mu_upe h15 (by grind)) x1 x2 x3 (x4 + (1 : Int32)) rfl (lo_upe hl5 h15 (by grind)) ⟨kf0, Nat.lt_of_lt_of_le (by rw [← hmu_12]; exact mu_upe h15 (by grind)) hkf0, hF⟩
              · skip
                replace hF := fe_pos hF h65
                refine g_iload d_X4_bestPart_68 rfl ?_
                refine g_iload d_X4_bestPart_70 rfl ?_
                refine g_icmp_ge d_X4_bestPart_72 (fun h72 => ?_) (fun h72 => ?_)
                · skip
                  replace hF := fe_pos hF h72
                  refine g_iinc (v := (x4 + (1 : Int32))) (L' := [some (.ref 65), some (.int set), some (.int c), some (.int cur), some (.int x1), some (.int x2), some (.int x3), some (.int (x4 + (1 : Int32))), some (.int r11), some (.int r25)]) d_X4_bestPart_87 rfl (by rw [kI_1]) (by decide) rfl ?_
                  refine g_goto d_X4_bestPart_90 ?_
                  refine g_sb [some (.ref 65), some (.int set), some (.int c), some (.int cur), some (.int x1), some (.int x2), some (.int x3), some (.int (x4 + (1 : Int32))), none, none] (by simp [subL]) ?_
                  exact ih_12 _ (by rw [← hmu_12]; exact mu_upe h15 (by grind)) x1 x2 x3 (x4 + (1 : Int32)) rfl (lo_upe hl5 h15 (by grind)) ⟨kf0, Nat.lt_of_lt_of_le (by rw [← hmu_12]; exact mu_upe h15 (by grind)) hkf0, hF⟩
                · skip
                  replace hF := fe_neg hF h72
                  exact J_75 hF
          · skip
            replace hF := fe_neg hF h38
            refine g_goto d_X4_bestPart_41 ?_
            refine g_iinc (v := (x4 + (1 : Int32))) (L' := [some (.ref 65), some (.int set), some (.int c), some (.int cur), some (.int x1), some (.int x2), some (.int x3), some (.int (x4 + (1 : Int32))), some (.int r11), none]) d_X4_bestPart_87 rfl (by rw [kI_1]) (by decide) rfl ?_
            refine g_goto d_X4_bestPart_90 ?_
            refine g_sb [some (.ref 65), some (.int set), some (.int c), some (.int cur), some (.int x1), some (.int x2), some (.int x3), some (.int (x4 + (1 : Int32))), none, none] (by simp [subL]) ?_
            exact ih_12 _ (by rw [← hmu_12]; exact mu_upe h15 (by grind)) x1 x2 x3 (x4 + (1 : Int32)) rfl (lo_upe hl5 h15 (by grind)) ⟨kf0, Nat.lt_of_lt_of_le (by rw [← hmu_12]; exact mu_upe h15 (by grind)) hkf0, hF⟩
  exact K_12 _ (0 : Int32) (0 : Int32) (0 : Int32) (1 : Int32) rfl (Int32.le_refl _) ⟨_, Nat.lt_succ_self _, hF⟩
noncomputable def fl_X4_yearsToPay_19_0 (I : Iv) (J : Jv) (c : Int32) (v15 : Int64) (Kf0 : Int32 → Int32 × Iv × Jv) : Nat → Int32 → Int32 × Iv × Jv
  | 0, x16 => (0, I, J)
  | kf0 + 1, x16 => if (30 : Int32) < x16 then Kf0 x16 else if ((Int32.toInt64 x16) * v15) < (Int32.toInt64 c) then fl_X4_yearsToPay_19_0 I J c v15 Kf0 kf0 (x16 + (1 : Int32)) else (x16, I, J)
noncomputable def fn_X4_yearsToPay (set : Int32) (c : Int32) (u : Int32) (cur : Int32) (I : Iv) (J : Jv) : Int32 × Iv × Jv :=
  b_n3 (fn_X4_yearOf set cur I J) (fun (r6 : Int32) (_ : Iv) (_ : Jv) => b_n3 (fn_X4_yearByUse u I J) (fun (r13 : Int32) (_ : Iv) (_ : Jv) => l_t ((Int32.toInt64 (r6 - r13))) (fun (v15 : Int64) => fl_X4_yearsToPay_19_0 I J c v15 (fun (x16 : Int32) => ((-1 : Int32), I, J)) (mUe (30 : Int32) ((1 : Int32)) + 1) (1 : Int32))))
set_option maxRecDepth 100000 in
set_option maxHeartbeats 4000000 in
theorem ct_X4_yearsToPay (set : Int32) (c : Int32) (u : Int32) (cur : Int32) (I : Iv) (J : Jv)  : Ct m_X4_yearsToPay [.ref 65, .int set, .int c, .int u, .int cur] SHF I J (fun r S' I' J' => S' = SHF ∧ I = I' ∧ J = J' ∧ ∃ v : Int32, r = some (.int v) ∧ fn_X4_yearsToPay set c u cur I J = (v, I', J')) := by
  refine ct_of 3 (by decide +kernel) rfl rfl ?_
  have hF := fe_of (fn_X4_yearsToPay.eq_1 set c u cur I J)
  refine g_aload_n d_X4_yearsToPay_0 rfl ?_
  refine g_iload_n d_X4_yearsToPay_1 rfl ?_
  refine g_iload d_X4_yearsToPay_2 rfl ?_
  refine g_V2 d_X4_yearsToPay_4 cs_X4_yearsToPay_X4_yearOf lk_RX4_43 im_X4_yearOf se_X4_yearOf rfl rfl rfl (Nat.le_of_ble_eq_true rfl) ⟨rfl, rfl⟩ ⟨Nat.zero_le _, Nat.zero_le _⟩ (ct_X4_yearOf set cur I J ) (fun r4 S4 Ic2 Jc3 q4_0 => ?_)
  obtain ⟨rfl, rfl, rfl, r6, rfl, hf4_4⟩ := q4_0
  replace hF := fe_b3 hF hf4_4
  refine g_st (st' := [.int r6]) rfl ?_
  refine g_aload_n d_X4_yearsToPay_7 rfl ?_
  refine g_iload_n d_X4_yearsToPay_8 rfl ?_
  refine g_V1 d_X4_yearsToPay_9 cs_X4_yearsToPay_X4_yearByUse lk_RX4_35 im_X4_yearByUse se_X4_yearByUse rfl rfl rfl (Nat.le_of_ble_eq_true rfl) ⟨rfl, rfl⟩ ⟨Nat.zero_le _, Nat.zero_le _⟩ (ct_X4_yearByUse u I J ) (fun r9 S9 Ic9 Jc10 q9_7 => ?_)
  obtain ⟨rfl, rfl, rfl, r13, rfl, hf9_11⟩ := q9_7
  replace hF := fe_b3 hF hf9_11
  refine g_st (st' := [.int r13, .int r6]) rfl ?_
  refine g_isub d_X4_yearsToPay_12 ?_
  refine g_i2l d_X4_yearsToPay_13 ?_
  refine g_topJ (fun v15 ev15 => ?_)
  replace hF := fe_lt hF ev15
  refine g_lstore (L' := [some (.ref 65), some (.int set), some (.int c), some (.int u), some (.int cur), some (.long v15), none, none]) d_X4_yearsToPay_14 (by decide) rfl ?_
  refine g_iconst (v := 1) d_X4_yearsToPay_16 kI_1 ?_
  refine g_istore (L' := [some (.ref 65), some (.int set), some (.int c), some (.int u), some (.int cur), some (.long v15), none, some (.int (1 : Int32))]) d_X4_yearsToPay_17 (by decide) rfl ?_
  obtain ⟨Kf0, hKf0, hF⟩ := fe_kx (f := fun K => fl_X4_yearsToPay_19_0 I J c v15 K (mUe (30 : Int32) ((1 : Int32)) + 1) (1 : Int32)) hF
  have K_19 : ∀ (nu : Nat) (x16 : Int32), mUe (30 : Int32) x16 = nu → ((1 : Int32) ≤ x16) → (∃ kq : Nat, nu < kq ∧ (fun kq => FE (fn_X4_yearsToPay set c u cur I J) (fun _ => fl_X4_yearsToPay_19_0 I J c v15 Kf0 kq x16)) kq) → G m_X4_yearsToPay (rq m_X4_yearsToPay (fun r S' I' J' => S' = SHF ∧ I = I' ∧ J = J' ∧ ∃ v : Int32, r = some (.int v) ∧ fn_X4_yearsToPay set c u cur I J = (v, I', J'))) 0 0 19 [some (.ref 65), some (.int set), some (.int c), some (.int u), some (.int cur), some (.long v15), none, some (.int x16)] [] SHF I J := by
    intro nu
    induction nu using Nat.strongRecOn with
    | ind nu ih_19 =>
      intro x16 hmu_19 hl17 hF_Kf0
      obtain ⟨kf0, hkf0, hF⟩ := fe_fu (P := fun kq => FE (fn_X4_yearsToPay set c u cur I J) (fun _ => fl_X4_yearsToPay_19_0 I J c v15 Kf0 kq x16)) hF_Kf0
      replace hF := fe_eq hF (fl_X4_yearsToPay_19_0.eq_2 _ _ _ _ _ _ _)
      refine g_iload d_X4_yearsToPay_19 rfl ?_
      refine g_bipush (v := 30) d_X4_yearsToPay_21 kB_30 ?_
      refine g_icmp_gt d_X4_yearsToPay_23 (fun h23 => ?_) (fun h23 => ?_)
      · skip
        replace hF := fe_pos hF h23
        replace hF := fe_eq hF (congrFun hKf0 x16)
        refine g_iconst (v := -1) d_X4_yearsToPay_47 kI_m1 ?_
        exact g_ireturn d_X4_yearsToPay_48 rfl rfl rfl rfl ⟨rfl, rfl, rfl, (-1 : Int32), rfl, hF⟩
      · skip
        replace hF := fe_neg hF h23
        refine g_iload d_X4_yearsToPay_26 rfl ?_
        refine g_i2l d_X4_yearsToPay_28 ?_
        refine g_lload d_X4_yearsToPay_29 rfl ?_
        refine g_lmul d_X4_yearsToPay_31 ?_
        refine g_iload_n d_X4_yearsToPay_32 rfl ?_
        refine g_i2l d_X4_yearsToPay_33 ?_
        refine g_lcmp_lt d_X4_yearsToPay_34 d_X4_yearsToPay_35 (fun h35 => ?_) (fun h35 => ?_)
        · skip
          replace hF := fe_pos hF h35
          refine g_iinc (v := (x16 + (1 : Int32))) (L' := [some (.ref 65), some (.int set), some (.int c), some (.int u), some (.int cur), some (.long v15), none, some (.int (x16 + (1 : Int32)))]) d_X4_yearsToPay_41 rfl (by rw [kI_1]) (by decide) rfl ?_
          refine g_goto d_X4_yearsToPay_44 ?_
          exact ih_19 _ (by rw [← hmu_19]; exact mu_upe h23 (by decide)) (x16 + (1 : Int32)) rfl (lo_upe hl17 h23 (by decide)) ⟨kf0, Nat.lt_of_lt_of_le (by rw [← hmu_19]; exact mu_upe h23 (by decide)) hkf0, hF⟩
        · skip
          replace hF := fe_neg hF h35
          refine g_iload d_X4_yearsToPay_38 rfl ?_
          exact g_ireturn d_X4_yearsToPay_40 rfl rfl rfl rfl ⟨rfl, rfl, rfl, x16, rfl, hF⟩
  exact K_19 _ (1 : Int32) rfl (Int32.le_refl _) ⟨_, Nat.lt_succ_self _, hF⟩
noncomputable def fl_X4_bestThawing_9_0 (set : Int32) (n : Int32) (b : Int32) (cur : Int32) (Kf0 : Int32 → Int64 → Int32 → Iv → Jv → Int32 × Iv × Jv) : Nat → Int32 → Int64 → Int32 → Iv → Jv → Int32 × Iv × Jv
  | 0, x1, x2, x3, I4, J5 => (0, I4, J5)
  | kf0 + 1, x1, x2, x3, I4, J5 => if n ≤ x3 then Kf0 x1 x2 x3 I4 J5 else b_n3 (fn_X1_usedThawing set n x3 cur I4 J5) (fun (r13 : Int32) (I8 : Iv) (J9 : Jv) => l_t ((Int32.toInt64 r13)) (fun (v16 : Int64) => j_n (fun (w17 : Int32) => l_t ((((v16 * (Int32.toInt64 (I8 65 2))) / (1000 : Int64)) + ((Int32.toInt64 w17) * (Int32.toInt64 b)))) (fun (v18 : Int64) => j_n (fl_X4_bestThawing_9_0 set n b cur Kf0 kf0 x3 v18 (x3 + (1 : Int32)) I8 J9) (fun (j82_2 : Int32 × Iv × Jv) => if x3 = 0 then j82_2 else if x2 ≤ v18 then fl_X4_bestThawing_9_0 set n b cur Kf0 kf0 x1 x2 (x3 + (1 : Int32)) I8 J9 else j82_2))) (fun (j46_1 : Int32 → Int32 × Iv × Jv) => if x3 ≤ 0 then j46_1 ((0 : Int32)) else j46_1 (((n - (1 : Int32)) / x3)))))
noncomputable def fn_X4_bestThawing (set : Int32) (n : Int32) (b : Int32) (cur : Int32) (I : Iv) (J : Jv) : Int32 × Iv × Jv :=
  fl_X4_bestThawing_9_0 set n b cur (fun (x1 : Int32) (x2 : Int64) (x3 : Int32) (I4 : Iv) (J5 : Jv) => (x1, I4, J5)) (mU n ((0 : Int32)) + 1) (0 : Int32) (0 : Int64) (0 : Int32) I J
set_option maxRecDepth 100000 in
set_option maxHeartbeats 4000000 in
theorem ct_X4_bestThawing (set : Int32) (n : Int32) (b : Int32) (cur : Int32) (I : Iv) (J : Jv) (hc : cur = 0 ∨ cur = 1) : Ct m_X4_bestThawing [.ref 65, .int set, .int n, .int b, .int cur] SHF I J (fun r S' I' J' => S' = SHF ∧ XT I' J' = XT I J ∧ ∃ v : Int32, r = some (.int v) ∧ fn_X4_bestThawing set n b cur I J = (v, I', J')) := by
  refine ct_of 9 (by decide +kernel) rfl rfl ?_
  have hK0 : XT I J = XT I J := rfl
  have hF := fe_of (fn_X4_bestThawing.eq_1 set n b cur I J)
  refine g_iconst (v := 0) d_X4_bestThawing_0 kI_0 ?_
  refine g_istore (L' := [some (.ref 65), some (.int set), some (.int n), some (.int b), some (.int cur), some (.int (0 : Int32)), none, none, none, none, none, none, none, none]) d_X4_bestThawing_1 (by decide) rfl ?_
  refine g_lconst d_X4_bestThawing_3 kL_0 ?_
  refine g_lstore (L' := [some (.ref 65), some (.int set), some (.int n), some (.int b), some (.int cur), some (.int (0 : Int32)), some (.long (0 : Int64)), none, none, none, none, none, none, none]) d_X4_bestThawing_4 (by decide) rfl ?_
  refine g_iconst (v := 0) d_X4_bestThawing_6 kI_0 ?_
  refine g_istore (L' := [some (.ref 65), some (.int set), some (.int n), some (.int b), some (.int cur), some (.int (0 : Int32)), some (.long (0 : Int64)), none, some (.int (0 : Int32)), none, none, none, none, none]) d_X4_bestThawing_7 (by decide) rfl ?_
  obtain ⟨Kf0, hKf0, hF⟩ := fe_kx (f := fun K => fl_X4_bestThawing_9_0 set n b cur K (mU n ((0 : Int32)) + 1) (0 : Int32) (0 : Int64) (0 : Int32) I J) hF
  have K_9 : ∀ (nu : Nat) (x1 : Int32) (x2 : Int64) (x3 : Int32) (I4 : Iv) (J5 : Jv), mU n x3 = nu → (XT I4 J5 = XT I J) → ((0 : Int32) ≤ x3) → (∃ kq : Nat, nu < kq ∧ (fun kq => FE (fn_X4_bestThawing set n b cur I J) (fun _ => fl_X4_bestThawing_9_0 set n b cur Kf0 kq x1 x2 x3 I4 J5)) kq) → G m_X4_bestThawing (rq m_X4_bestThawing (fun r S' I' J' => S' = SHF ∧ XT I' J' = XT I J ∧ ∃ v : Int32, r = some (.int v) ∧ fn_X4_bestThawing set n b cur I J = (v, I', J'))) 0 0 9 [some (.ref 65), some (.int set), some (.int n), some (.int b), some (.int cur), some (.int x1), some (.long x2), none, some (.int x3), none, none, none, none, none] [] SHF I4 J5 := by
    intro nu
    induction nu using Nat.strongRecOn with
    | ind nu ih_9 =>
      intro x1 x2 x3 I4 J5 hmu_9 hK6 hl7 hF_Kf0
      obtain ⟨kf0, hkf0, hF⟩ := fe_fu (P := fun kq => FE (fn_X4_bestThawing set n b cur I J) (fun _ => fl_X4_bestThawing_9_0 set n b cur Kf0 kq x1 x2 x3 I4 J5)) hF_Kf0
      replace hF := fe_eq hF (fl_X4_bestThawing_9_0.eq_2 _ _ _ _ _ _ _ _ _ _ _)
      refine g_iload d_X4_bestThawing_9 rfl ?_
      refine g_iload_n d_X4_bestThawing_11 rfl ?_
      refine g_icmp_ge d_X4_bestThawing_12 (fun h12 => ?_) (fun h12 => ?_)
      · skip
        replace hF := fe_pos hF h12
        replace hF := fe_eq hF (congrFun (congrFun (congrFun (congrFun (congrFun hKf0 x1) x2) x3) I4) J5)
        refine g_iload d_X4_bestThawing_96 rfl ?_
        exact g_ireturn d_X4_bestThawing_98 rfl rfl rfl rfl ⟨rfl, hK6, x1, rfl, hF⟩
      · skip
        replace hF := fe_neg hF h12
        refine g_aload_n d_X4_bestThawing_15 rfl ?_
        refine g_getR d_X4_bestThawing_16 fq_RX4_19 rfl rfl ?_
        refine g_iload_n d_X4_bestThawing_19 rfl ?_
        refine g_iload_n d_X4_bestThawing_20 rfl ?_
        refine g_iload d_X4_bestThawing_21 rfl ?_
        refine g_iload d_X4_bestThawing_23 rfl ?_
        refine g_V4 d_X4_bestThawing_25 cs_X4_bestThawing_X1_usedThawing lk_RX4_58 im_X1_usedThawing se_X1_usedThawing rfl rfl rfl (Nat.le_of_ble_eq_true rfl) ⟨rfl, rfl⟩ ⟨Nat.zero_le _, Nat.zero_le _⟩ (ct_X1_usedThawing set n x3 cur I4 J5 hc) (fun r25 S25 I8 J9 q25_9 => ?_)
        obtain ⟨rfl, hc25_10, r13, rfl, hf25_11⟩ := q25_9
        replace hF := fe_b3 hF hf25_11
        refine g_st (st' := [.int r13]) rfl ?_
        have hK15 : XT I8 J9 = XT I J := hc25_10.trans hK6
        refine g_i2l d_X4_bestThawing_28 ?_
        refine g_topJ (fun v16 ev16 => ?_)
        replace hF := fe_lt hF ev16
        refine g_lstore (L' := [some (.ref 65), some (.int set), some (.int n), some (.int b), some (.int cur), some (.int x1), some (.long x2), none, some (.int x3), some (.long v16), none, none, none, none]) d_X4_bestThawing_29 (by decide) rfl ?_
        refine g_iload d_X4_bestThawing_31 rfl ?_
        obtain ⟨j46_1, hj46_1, hF⟩ := fe_jx hF
        have J_46 : ∀ (w17 : Int32), (FE (fn_X4_bestThawing set n b cur I J) (fun _ => j46_1 w17)) → G m_X4_bestThawing (rq m_X4_bestThawing (fun r S' I' J' => S' = SHF ∧ XT I' J' = XT I J ∧ ∃ v : Int32, r = some (.int v) ∧ fn_X4_bestThawing set n b cur I J = (v, I', J'))) 0 0 46 [some (.ref 65), some (.int set), some (.int n), some (.int b), some (.int cur), some (.int x1), some (.long x2), none, some (.int x3), some (.long v16), none, none, none, none] [.int w17] SHF I8 J9 := by
          intro w17 hF_j46_1
          have hF := fe_eq hF_j46_1 (congrFun hj46_1 w17)
          refine g_istore (L' := [some (.ref 65), some (.int set), some (.int n), some (.int b), some (.int cur), some (.int x1), some (.long x2), none, some (.int x3), some (.long v16), none, some (.int w17), none, none]) d_X4_bestThawing_46 (by decide) rfl ?_
          refine g_lload d_X4_bestThawing_48 rfl ?_
          refine g_aload_n d_X4_bestThawing_50 rfl ?_
          refine g_getI d_X4_bestThawing_51 fq_RX4_15 rfl rfl ?_
          refine g_i2l d_X4_bestThawing_54 ?_
          refine g_lmul d_X4_bestThawing_55 ?_
          refine g_ldc2 (v := 1000) d_X4_bestThawing_56 tw_929 ?_
          refine g_ldiv d_X4_bestThawing_59 (by decide) ?_
          refine g_iload d_X4_bestThawing_60 rfl ?_
          refine g_i2l d_X4_bestThawing_62 ?_
          refine g_iload_n d_X4_bestThawing_63 rfl ?_
          refine g_i2l d_X4_bestThawing_64 ?_
          refine g_lmul d_X4_bestThawing_65 ?_
          refine g_ladd d_X4_bestThawing_66 ?_
          refine g_topJ (fun v18 ev18 => ?_)
          replace hF := fe_lt hF ev18
          refine g_lstore (L' := [some (.ref 65), some (.int set), some (.int n), some (.int b), some (.int cur), some (.int x1), some (.long x2), none, some (.int x3), some (.long v16), none, some (.int w17), some (.long v18), none]) d_X4_bestThawing_67 (by decide) rfl ?_
          refine g_iload d_X4_bestThawing_69 rfl ?_
          obtain ⟨j82_2, hj82_2, hF⟩ := fe_jx hF
          have J_82 : (FE (fn_X4_bestThawing set n b cur I J) (fun _ => j82_2)) → G m_X4_bestThawing (rq m_X4_bestThawing (fun r S' I' J' => S' = SHF ∧ XT I' J' = XT I J ∧ ∃ v : Int32, r = some (.int v) ∧ fn_X4_bestThawing set n b cur I J = (v, I', J'))) 0 0 82 [some (.ref 65), some (.int set), some (.int n), some (.int b), some (.int cur), some (.int x1), some (.long x2), none, some (.int x3), some (.long v16), none, some (.int w17), some (.long v18), none] [] SHF I8 J9 := by
            intro hF_j82_2
            have hF := fe_eq hF_j82_2 hj82_2
            refine g_iload d_X4_bestThawing_82 rfl ?_
            refine g_istore (L' := [some (.ref 65), some (.int set), some (.int n), some (.int b), some (.int cur), some (.int x3), some (.long x2), none, some (.int x3), some (.long v16), none, some (.int w17), some (.long v18), none]) d_X4_bestThawing_84 (by decide) rfl ?_
            refine g_lload d_X4_bestThawing_86 rfl ?_
            refine g_lstore (L' := [some (.ref 65), some (.int set), some (.int n), some (.int b), some (.int cur), some (.int x3), some (.long v18), none, some (.int x3), some (.long v16), none, some (.int w17), some (.long v18), none]) d_X4_bestThawing_88 (by decide) rfl ?_
            refine g_iinc (v := (x3 + (1 : Int32))) (L' := [some (.ref 65), some (.int set), some (.int n), some (.int b), some (.int cur), some (.int x3), some (.long v18), none, some (.int (x3 + (1 : Int32))), some (.long v16), none, some (.int w17), some (.long v18), none]) d_X4_bestThawing_90 rfl (by rw [kI_1]) (by decide) rfl ?_
            refine g_goto d_X4_bestThawing_93 ?_
            refine g_sb [some (.ref 65), some (.int set), some (.int n), some (.int b), some (.int cur), some (.int x3), some (.long v18), none, some (.int (x3 + (1 : Int32))), none, none, none, none, none] (by simp [subL]) ?_
            exact ih_9 _ (by rw [← hmu_9]; exact mu_up h12) x3 v18 (x3 + (1 : Int32)) I8 J9 rfl hK15 (lo_up hl7 h12) ⟨kf0, Nat.lt_of_lt_of_le (by rw [← hmu_9]; exact mu_up h12) hkf0, hF⟩
          refine g_if_eq d_X4_bestThawing_71 (fun h71 => ?_) (fun h71 => ?_)
          · skip
            replace hF := fe_pos hF h71
            exact J_82 hF
          · skip
            replace hF := fe_neg hF h71
            refine g_lload d_X4_bestThawing_74 rfl ?_
            refine g_lload d_X4_bestThawing_76 rfl ?_
            refine g_lcmp_ge d_X4_bestThawing_78 d_X4_bestThawing_79 (fun h79 => ?_) (fun h79 => ?_)
            · skip
              replace hF := fe_pos hF h79
              refine g_iinc (v := (x3 + (1 : Int32))) (L' := [some (.ref 65), some (.int set), some (.int n), some (.int b), some (.int cur), some (.int x1), some (.long x2), none, some (.int (x3 + (1 : Int32))), some (.long v16), none, some (.int w17), some (.long v18), none]) d_X4_bestThawing_90 rfl (by rw [kI_1]) (by decide) rfl ?_
              refine g_goto d_X4_bestThawing_93 ?_
              refine g_sb [some (.ref 65), some (.int set), some (.int n), some (.int b), some (.int cur), some (.int x1), some (.long x2), none, some (.int (x3 + (1 : Int32))), none, none, none, none, none] (by simp [subL]) ?_
              exact ih_9 _ (by rw [← hmu_9]; exact mu_up h12) x1 x2 (x3 + (1 : Int32)) I8 J9 rfl hK15 (lo_up hl7 h12) ⟨kf0, Nat.lt_of_lt_of_le (by rw [← hmu_9]; exact mu_up h12) hkf0, hF⟩
            · skip
              replace hF := fe_neg hF h79
              exact J_82 hF
        refine g_if_le d_X4_bestThawing_33 (fun h33 => ?_) (fun h33 => ?_)
        · skip
          replace hF := fe_pos hF h33
          refine g_iconst (v := 0) d_X4_bestThawing_45 kI_0 ?_
          exact J_46 ((0 : Int32)) hF
        · skip
          replace hF := fe_neg hF h33
          refine g_iload_n d_X4_bestThawing_36 rfl ?_
          refine g_iconst (v := 1) d_X4_bestThawing_37 kI_1 ?_
          refine g_isub d_X4_bestThawing_38 ?_
          refine g_iload d_X4_bestThawing_39 rfl ?_
          refine g_idiv d_X4_bestThawing_41 (by grind) ?_
          refine g_goto d_X4_bestThawing_42 ?_
          exact J_46 (((n - (1 : Int32)) / x3)) hF
  exact K_9 _ (0 : Int32) (0 : Int64) (0 : Int32) I J rfl hK0 (Int32.le_refl _) ⟨_, Nat.lt_succ_self _, hF⟩
