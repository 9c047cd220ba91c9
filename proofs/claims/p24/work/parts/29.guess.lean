noncomputable def fl_X2_howManySeen_4_0 (I : Iv) (J : Jv) (Kf0 : Int32 → Int32 → Int32 × Iv × Jv) : Nat → Int32 → Int32 → Int32 × Iv × Jv
  | 0, x1, x2 => (0, I, J)
  | kf0 + 1, x1, x2 => if (7 : Int32) ≤ x2 then Kf0 x1 x2 else if (I 58 x2.toNatClampNeg) = 0 then fl_X2_howManySeen_4_0 I J Kf0 kf0 x1 (x2 + (1 : Int32)) else fl_X2_howManySeen_4_0 I J Kf0 kf0 (x1 + (1 : Int32)) (x2 + (1 : Int32))
noncomputable def fn_X2_howManySeen (I : Iv) (J : Jv) : Int32 × Iv × Jv :=
  fl_X2_howManySeen_4_0 I J (fun (x1 : Int32) (x2 : Int32) => (x1, I, J)) (mU (7 : Int32) ((0 : Int32)) + 1) (0 : Int32) (0 : Int32)
set_option maxRecDepth 100000 in
set_option maxHeartbeats 4000000 in
theorem ct_X2_howManySeen  (I : Iv) (J : Jv)  : Ct m_X2_howManySeen [.ref 57] SHF I J (fun r S' I' J' => S' = SHF ∧ I = I' ∧ J = J' ∧ ∃ v : Int32, r = some (.int v) ∧ fn_X2_howManySeen I J = (v, I', J') ∧ v = cn (I 58) 7) := by
  refine ct_of 2 (by decide +kernel) rfl rfl ?_
  have hF := fe_of (fn_X2_howManySeen.eq_1 I J)
  refine g_iconst (v := 0) d_X2_howManySeen_0 kI_0 ?_
  refine g_istore_n (L' := [some (.ref 57), some (.int (0 : Int32)), none]) d_X2_howManySeen_1 (by decide) rfl ?_
  refine g_iconst (v := 0) d_X2_howManySeen_2 kI_0 ?_
  refine g_istore_n (L' := [some (.ref 57), some (.int (0 : Int32)), some (.int (0 : Int32))]) d_X2_howManySeen_3 (by decide) rfl ?_
  obtain ⟨Kf0, hKf0, hF⟩ := fe_kx (f := fun K => fl_X2_howManySeen_4_0 I J K (mU (7 : Int32) ((0 : Int32)) + 1) (0 : Int32) (0 : Int32)) hF
  have K_4 : ∀ (nu : Nat) (x1 : Int32) (x2 : Int32), mU (7 : Int32) x2 = nu → ((0 : Int32) ≤ x2) → (x1 = cn (I 58) x2.toNatClampNeg) → (x2 ≤ 7) → (∃ kq : Nat, nu < kq ∧ (fun kq => FE (fn_X2_howManySeen I J) (fun _ => fl_X2_howManySeen_4_0 I J Kf0 kq x1 x2)) kq) → G m_X2_howManySeen (rq m_X2_howManySeen (fun r S' I' J' => S' = SHF ∧ I = I' ∧ J = J' ∧ ∃ v : Int32, r = some (.int v) ∧ fn_X2_howManySeen I J = (v, I', J') ∧ v = cn (I 58) 7)) 0 0 4 [some (.ref 57), some (.int x1), some (.int x2)] [] SHF I J := by
    intro nu
    induction nu using Nat.strongRecOn with
    | ind nu ih_4 =>
      intro x1 x2 hmu_4 hl3 hn_4 hi_4 hF_Kf0
      obtain ⟨kf0, hkf0, hF⟩ := fe_fu (P := fun kq => FE (fn_X2_howManySeen I J) (fun _ => fl_X2_howManySeen_4_0 I J Kf0 kq x1 x2)) hF_Kf0
      replace hF := fe_eq hF (fl_X2_howManySeen_4_0.eq_2 _ _ _ _ _ _)
      refine g_iload_n d_X2_howManySeen_4 rfl ?_
      refine g_bipush (v := 7) d_X2_howManySeen_5 kB_7 ?_
      refine g_icmp_ge d_X2_howManySeen_7 (fun h7 => ?_) (fun h7 => ?_)
      · skip
        replace hF := fe_pos hF h7
        replace hF := fe_eq hF (congrFun (congrFun hKf0 x1) x2)
        refine g_iload_n d_X2_howManySeen_28 rfl ?_
        exact g_ireturn d_X2_howManySeen_29 rfl rfl rfl rfl ⟨rfl, rfl, rfl, x1, rfl, hF, (by rw [hn_4, show x2 = 7 by grind, kN_7])⟩
      · skip
        replace hF := fe_neg hF h7
        refine g_aload_n d_X2_howManySeen_10 rfl ?_
        refine g_getR d_X2_howManySeen_11 fq_RX2_9 rfl rfl ?_
        refine g_iload_n d_X2_howManySeen_14 rfl ?_
        refine g_baload (N := 7) d_X2_howManySeen_15 rfl kT_7 ⟨hl3, Int32.not_le.mp h7⟩ rfl (fun hz15 => ?_)
        refine g_if_eq d_X2_howManySeen_16 (fun h16 => ?_) (fun h16 => ?_)
        · skip
          replace hF := fe_pos hF h16
          refine g_iinc (v := (x2 + (1 : Int32))) (L' := [some (.ref 57), some (.int x1), some (.int (x2 + (1 : Int32)))]) d_X2_howManySeen_22 rfl (by rw [kI_1]) (by decide) rfl ?_
          refine g_goto d_X2_howManySeen_25 ?_
          exact ih_4 _ (by rw [← hmu_4]; exact mu_up h7) x1 (x2 + (1 : Int32)) rfl (lo_up hl3 h7) (by rw [cn_step hl3 h7 hn_4]; first | (rw [if_pos h16]; simp; done) | (rw [if_neg h16])) (by grind) ⟨kf0, Nat.lt_of_lt_of_le (by rw [← hmu_4]; exact mu_up h7) hkf0, hF⟩
        · skip
          replace hF := fe_neg hF h16
          refine g_iinc (v := (x1 + (1 : Int32))) (L' := [some (.ref 57), some (.int (x1 + (1 : Int32))), some (.int x2)]) d_X2_howManySeen_19 rfl (by rw [kI_1]) (by decide) rfl ?_
          refine g_iinc (v := (x2 + (1 : Int32))) (L' := [some (.ref 57), some (.int (x1 + (1 : Int32))), some (.int (x2 + (1 : Int32)))]) d_X2_howManySeen_22 rfl (by rw [kI_1]) (by decide) rfl ?_
          refine g_goto d_X2_howManySeen_25 ?_
          exact ih_4 _ (by rw [← hmu_4]; exact mu_up h7) (x1 + (1 : Int32)) (x2 + (1 : Int32)) rfl (lo_up hl3 h7) (by rw [cn_step hl3 h7 hn_4]; first | (rw [if_pos h16]; simp; done) | (rw [if_neg h16])) (by grind) ⟨kf0, Nat.lt_of_lt_of_le (by rw [← hmu_4]; exact mu_up h7) hkf0, hF⟩
  exact K_4 _ (0 : Int32) (0 : Int32) rfl (Int32.le_refl _) (by rw [kN_0]; rfl) (by decide) ⟨_, Nat.lt_succ_self _, hF⟩
noncomputable def fn_X2_exactOf (what : Int32) (I : Iv) (J : Jv) : Int32 × Iv × Jv :=
  if (I 58 what.toNatClampNeg) = 0 then ((50 : Int32), I, J) else if (I 60 what.toNatClampNeg) ≤ 0 then ((50 : Int32), I, J) else ((I 60 what.toNatClampNeg), I, J)
set_option maxRecDepth 100000 in
set_option maxHeartbeats 4000000 in
theorem ct_X2_exactOf (what : Int32) (I : Iv) (J : Jv) (hwh : 0 ≤ what ∧ what < 7) : Ct m_X2_exactOf [.ref 57, .int what] SHF I J (fun r S' I' J' => S' = SHF ∧ I = I' ∧ J = J' ∧ ∃ v : Int32, r = some (.int v) ∧ fn_X2_exactOf what I J = (v, I', J') ∧ 1 ≤ v) := by
  refine ct_of 0 (by decide +kernel) rfl rfl ?_
  have hF := fe_of (fn_X2_exactOf.eq_1 what I J)
  refine g_aload_n d_X2_exactOf_0 rfl ?_
  refine g_getR d_X2_exactOf_1 fq_RX2_9 rfl rfl ?_
  refine g_iload_n d_X2_exactOf_4 rfl ?_
  refine g_baload (N := 7) d_X2_exactOf_5 rfl kT_7 (by constructor <;> grind) rfl (fun hz5 => ?_)
  refine g_if_eq d_X2_exactOf_6 (fun h6 => ?_) (fun h6 => ?_)
  · skip
    replace hF := fe_pos hF h6
    refine g_bipush (v := 50) d_X2_exactOf_27 kB_50 ?_
    exact g_ireturn d_X2_exactOf_29 rfl rfl rfl rfl ⟨rfl, rfl, rfl, (50 : Int32), rfl, hF, by grind⟩
  · skip
    replace hF := fe_neg hF h6
    refine g_aload_n d_X2_exactOf_9 rfl ?_
    refine g_getR d_X2_exactOf_10 fq_RX2_19 rfl rfl ?_
    refine g_iload_n d_X2_exactOf_13 rfl ?_
    refine g_iaload (N := 7) d_X2_exactOf_14 rfl kT_7 (by constructor <;> grind) rfl ?_
    refine g_if_le d_X2_exactOf_15 (fun h15 => ?_) (fun h15 => ?_)
    · skip
      replace hF := fe_pos hF h15
      refine g_bipush (v := 50) d_X2_exactOf_27 kB_50 ?_
      exact g_ireturn d_X2_exactOf_29 rfl rfl rfl rfl ⟨rfl, rfl, rfl, (50 : Int32), rfl, hF, by grind⟩
    · skip
      replace hF := fe_neg hF h15
      refine g_aload_n d_X2_exactOf_18 rfl ?_
      refine g_getR d_X2_exactOf_19 fq_RX2_19 rfl rfl ?_
      refine g_iload_n d_X2_exactOf_22 rfl ?_
      refine g_iaload (N := 7) d_X2_exactOf_23 rfl kT_7 (by constructor <;> grind) rfl ?_
      refine g_goto d_X2_exactOf_24 ?_
      exact g_ireturn d_X2_exactOf_29 rfl rfl rfl rfl ⟨rfl, rfl, rfl, (I 60 what.toNatClampNeg), rfl, hF, by grind⟩
noncomputable def fn_X2_halvings (set : Int32) (n : Int32) (what : Int32) (I : Iv) (J : Jv) : Int32 × Iv × Jv :=
  b_n3 (fn_X1_signOf set n what I J) (fun (r6 : Int32) (_ : Iv) (_ : Jv) => l_t ((if 0 ≤ ((I 59 what.toNatClampNeg) - r6) then ((I 59 what.toNatClampNeg) - r6) else 0 - ((I 59 what.toNatClampNeg) - r6))) (fun (v8 : Int32) => b_n3 (fn_X2_exactOf what I J) (fun (r14 : Int32) (_ : Iv) (_ : Jv) => ((if (v8 / r14) < (20 : Int32) then (v8 / r14) else (20 : Int32)), I, J))))
set_option maxRecDepth 100000 in
set_option maxHeartbeats 4000000 in
theorem ct_X2_halvings (set : Int32) (n : Int32) (what : Int32) (I : Iv) (J : Jv) (hwh : 0 ≤ what ∧ what < 7) : Ct m_X2_halvings [.ref 57, .int set, .int n, .int what] SHF I J (fun r S' I' J' => S' = SHF ∧ I = I' ∧ J = J' ∧ ∃ v : Int32, r = some (.int v) ∧ fn_X2_halvings set n what I J = (v, I', J')) := by
  refine ct_of 1 (by decide +kernel) rfl rfl ?_
  have hF := fe_of (fn_X2_halvings.eq_1 set n what I J)
  refine g_aload_n d_X2_halvings_0 rfl ?_
  refine g_getR d_X2_halvings_1 fq_RX2_15 rfl rfl ?_
  refine g_iload_n d_X2_halvings_4 rfl ?_
  refine g_iaload (N := 7) d_X2_halvings_5 rfl kT_7 (by constructor <;> grind) rfl ?_
  refine g_aload_n d_X2_halvings_6 rfl ?_
  refine g_getR d_X2_halvings_7 fq_RX2_38 rfl rfl ?_
  refine g_iload_n d_X2_halvings_10 rfl ?_
  refine g_iload_n d_X2_halvings_11 rfl ?_
  refine g_iload_n d_X2_halvings_12 rfl ?_
  refine g_V3 d_X2_halvings_13 cs_X2_halvings_X1_signOf lk_RX2_72 im_X1_signOf se_X1_signOf rfl rfl rfl (Nat.le_of_ble_eq_true rfl) ⟨rfl, rfl⟩ ⟨Nat.zero_le _, Nat.zero_le _⟩ (ct_X1_signOf set n what I J ) (fun r13 S13 Ic2 Jc3 q13_0 => ?_)
  obtain ⟨rfl, rfl, rfl, r6, rfl, hf13_4⟩ := q13_0
  replace hF := fe_b3 hF hf13_4
  refine g_st (st' := [.int r6, .int (I 59 what.toNatClampNeg)]) rfl ?_
  refine g_isub d_X2_halvings_16 ?_
  refine g_mabs d_X2_halvings_17 tw_848 tw_849 tw_18 tw_850 ⟨by decide, by decide⟩ ⟨Nat.zero_le _, Nat.zero_le _⟩ (Nat.le_of_ble_eq_true rfl) ?_
  refine g_topI (fun v8 ev8 => ?_)
  replace hF := fe_lt hF ev8
  refine g_istore (L' := [some (.ref 57), some (.int set), some (.int n), some (.int what), some (.int v8)]) d_X2_halvings_20 (by decide) rfl ?_
  refine g_bipush (v := 20) d_X2_halvings_22 kB_20 ?_
  refine g_iload d_X2_halvings_24 rfl ?_
  refine g_aload_n d_X2_halvings_26 rfl ?_
  refine g_iload_n d_X2_halvings_27 rfl ?_
  refine g_V1 d_X2_halvings_28 cs_X2_halvings_X2_exactOf lk_RX2_83 im_X2_exactOf se_X2_exactOf rfl rfl rfl (Nat.le_of_ble_eq_true rfl) ⟨rfl, rfl⟩ ⟨Nat.zero_le _, Nat.zero_le _⟩ (ct_X2_exactOf what I J hwh) (fun r28 S28 Ic10 Jc11 q28_8 => ?_)
  obtain ⟨rfl, rfl, rfl, r14, rfl, hf28_12, hr28_14⟩ := q28_8
  replace hF := fe_b3 hF hf28_12
  refine g_st (st' := [.int r14, .int v8, .int (20 : Int32)]) rfl ?_
  refine g_idiv d_X2_halvings_31 (by grind) ?_
  refine g_mmin d_X2_halvings_32 tw_855 tw_707 tw_18 tw_708 ⟨by decide, by decide⟩ ⟨Nat.zero_le _, Nat.zero_le _⟩ (Nat.le_of_ble_eq_true rfl) ?_
  exact g_ireturn d_X2_halvings_35 rfl rfl rfl rfl ⟨rfl, rfl, rfl, (if (v8 / r14) < (20 : Int32) then (v8 / r14) else (20 : Int32)), rfl, hF⟩
noncomputable def fl_X2_weightOf_61_1 (I : Iv) (J : Jv) (set : Int32) (n : Int32) (Kf1 : Int64 → Int32 → Int64 × Iv × Jv) : Nat → Int64 → Int32 → Int64 × Iv × Jv
  | 0, x4, x5 => (0, I, J)
  | kf1 + 1, x4, x5 => if (7 : Int32) ≤ x5 then Kf1 x4 x5 else if (I 58 x5.toNatClampNeg) = 0 then fl_X2_weightOf_61_1 I J set n Kf1 kf1 x4 (x5 + (1 : Int32)) else b_n3 (fn_X2_halvings set n x5 I J) (fun (r12 : Int32) (_ : Iv) (_ : Jv) => l_t ((x4 >>> (r12.toInt64 &&& 63))) (fun (v14 : Int64) => fl_X2_weightOf_61_1 I J set n Kf1 kf1 v14 (x5 + (1 : Int32))))
noncomputable def fl_X2_weightOf_7_0 (I : Iv) (J : Jv) (set : Int32) (Kf0 : Int64 → Int32 → Int64 × Iv × Jv) : Nat → Int64 → Int32 → Int64 × Iv × Jv
  | 0, x1, x2 => (0, I, J)
  | kf0 + 1, x1, x2 => if (7 : Int32) ≤ x2 then Kf0 x1 x2 else j_n (fun (w15 : Int32) => l_t (((x1 * (Int32.toInt64 w15)) / (1000 : Int64))) (fun (v16 : Int64) => fl_X2_weightOf_7_0 I J set Kf0 kf0 v16 (x2 + (1 : Int32)))) (fun (j45_2 : Int32 → Int64 × Iv × Jv) => if ((set >>> (x2 &&& 31)) &&& (1 : Int32)) = 0 then j45_2 (((1000 : Int32) - (I 61 x2.toNatClampNeg))) else j45_2 ((I 61 x2.toNatClampNeg)))
noncomputable def fn_X2_weightOf (set : Int32) (n : Int32) (I : Iv) (J : Jv) : Int64 × Iv × Jv :=
  fl_X2_weightOf_7_0 I J set (fun (x1 : Int64) (x2 : Int32) => fl_X2_weightOf_61_1 I J set n (fun (x4 : Int64) (x5 : Int32) => (x4, I, J)) (mU (7 : Int32) ((0 : Int32)) + 1) x1 (0 : Int32)) (mU (7 : Int32) ((0 : Int32)) + 1) (1000000 : Int64) (0 : Int32)
set_option maxRecDepth 100000 in
set_option maxHeartbeats 4000000 in
theorem ct_X2_weightOf (set : Int32) (n : Int32) (I : Iv) (J : Jv) (hpri : PRI I) : Ct m_X2_weightOf [.ref 57, .int set, .int n] SHF I J (fun r S' I' J' => S' = SHF ∧ I = I' ∧ J = J' ∧ ∃ v : Int64, r = some (.long v) ∧ fn_X2_weightOf set n I J = (v, I', J') ∧ 0 ≤ v ∧ v ≤ 1000000) := by
  refine ct_of 3 (by decide +kernel) rfl rfl ?_
  have hF := fe_of (fn_X2_weightOf.eq_1 set n I J)
  refine g_ldc2 (v := 1000000) d_X2_weightOf_0 tw_841 ?_
  refine g_lstore_n (L' := [some (.ref 57), some (.int set), some (.int n), some (.long (1000000 : Int64)), none, none]) d_X2_weightOf_3 (by decide) rfl ?_
  refine g_iconst (v := 0) d_X2_weightOf_4 kI_0 ?_
  refine g_istore (L' := [some (.ref 57), some (.int set), some (.int n), some (.long (1000000 : Int64)), none, some (.int (0 : Int32))]) d_X2_weightOf_5 (by decide) rfl ?_
  obtain ⟨Kf0, hKf0, hF⟩ := fe_kx (f := fun K => fl_X2_weightOf_7_0 I J set K (mU (7 : Int32) ((0 : Int32)) + 1) (1000000 : Int64) (0 : Int32)) hF
  have K_7 : ∀ (nu : Nat) (x1 : Int64) (x2 : Int32), mU (7 : Int32) x2 = nu → ((0 : Int32) ≤ x2) → (0 ≤ x1 ∧ x1 ≤ 1000000) → (∃ kq : Nat, nu < kq ∧ (fun kq => FE (fn_X2_weightOf set n I J) (fun _ => fl_X2_weightOf_7_0 I J set Kf0 kq x1 x2)) kq) → G m_X2_weightOf (rq m_X2_weightOf (fun r S' I' J' => S' = SHF ∧ I = I' ∧ J = J' ∧ ∃ v : Int64, r = some (.long v) ∧ fn_X2_weightOf set n I J = (v, I', J') ∧ 0 ≤ v ∧ v ≤ 1000000)) 0 0 7 [some (.ref 57), some (.int set), some (.int n), some (.long x1), none, some (.int x2)] [] SHF I J := by
    intro nu
    induction nu using Nat.strongRecOn with
    | ind nu ih_7 =>
      intro x1 x2 hmu_7 hl3 hw_7 hF_Kf0
      obtain ⟨kf0, hkf0, hF⟩ := fe_fu (P := fun kq => FE (fn_X2_weightOf set n I J) (fun _ => fl_X2_weightOf_7_0 I J set Kf0 kq x1 x2)) hF_Kf0
      replace hF := fe_eq hF (fl_X2_weightOf_7_0.eq_2 _ _ _ _ _ _ _)
      refine g_iload d_X2_weightOf_7 rfl ?_
      refine g_bipush (v := 7) d_X2_weightOf_9 kB_7 ?_
      refine g_icmp_ge d_X2_weightOf_11 (fun h11 => ?_) (fun h11 => ?_)
      · skip
        replace hF := fe_pos hF h11
        replace hF := fe_eq hF (congrFun (congrFun hKf0 x1) x2)
        refine g_iconst (v := 0) d_X2_weightOf_58 kI_0 ?_
        refine g_istore (L' := [some (.ref 57), some (.int set), some (.int n), some (.long x1), none, some (.int (0 : Int32))]) d_X2_weightOf_59 (by decide) rfl ?_
        obtain ⟨Kf1, hKf1, hF⟩ := fe_kx (f := fun K => fl_X2_weightOf_61_1 I J set n K (mU (7 : Int32) ((0 : Int32)) + 1) x1 (0 : Int32)) hF
        have K_61 : ∀ (nu : Nat) (x4 : Int64) (x5 : Int32), mU (7 : Int32) x5 = nu → ((0 : Int32) ≤ x5) → (0 ≤ x4 ∧ x4 ≤ 1000000) → (∃ kq : Nat, nu < kq ∧ (fun kq => FE (fn_X2_weightOf set n I J) (fun _ => fl_X2_weightOf_61_1 I J set n Kf1 kq x4 x5)) kq) → G m_X2_weightOf (rq m_X2_weightOf (fun r S' I' J' => S' = SHF ∧ I = I' ∧ J = J' ∧ ∃ v : Int64, r = some (.long v) ∧ fn_X2_weightOf set n I J = (v, I', J') ∧ 0 ≤ v ∧ v ≤ 1000000)) 0 0 61 [some (.ref 57), some (.int set), some (.int n), some (.long x4), none, some (.int x5)] [] SHF I J := by
          intro nu
          induction nu using Nat.strongRecOn with
          | ind nu ih_61 =>
            intro x4 x5 hmu_61 hl6 hw_61 hF_Kf1
            obtain ⟨kf1, hkf1, hF⟩ := fe_fu (P := fun kq => FE (fn_X2_weightOf set n I J) (fun _ => fl_X2_weightOf_61_1 I J set n Kf1 kq x4 x5)) hF_Kf1
            replace hF := fe_eq hF (fl_X2_weightOf_61_1.eq_2 _ _ _ _ _ _ _ _)
            refine g_iload d_X2_weightOf_61 rfl ?_
            refine g_bipush (v := 7) d_X2_weightOf_63 kB_7 ?_
            refine g_icmp_ge d_X2_weightOf_65 (fun h65 => ?_) (fun h65 => ?_)
            · skip
              replace hF := fe_pos hF h65
              replace hF := fe_eq hF (congrFun (congrFun hKf1 x4) x5)
              refine g_lload_n d_X2_weightOf_95 rfl ?_
              exact g_lreturn d_X2_weightOf_96 rfl rfl rfl ⟨rfl, rfl, rfl, x4, rfl, hF, hw_61⟩
            · skip
              replace hF := fe_neg hF h65
              refine g_aload_n d_X2_weightOf_68 rfl ?_
              refine g_getR d_X2_weightOf_69 fq_RX2_9 rfl rfl ?_
              refine g_iload d_X2_weightOf_72 rfl ?_
              refine g_baload (N := 7) d_X2_weightOf_74 rfl kT_7 ⟨hl6, Int32.not_le.mp h65⟩ rfl (fun hz74 => ?_)
              refine g_if_eq d_X2_weightOf_75 (fun h75 => ?_) (fun h75 => ?_)
              · skip
                replace hF := fe_pos hF h75
                refine g_iinc (v := (x5 + (1 : Int32))) (L' := [some (.ref 57), some (.int set), some (.int n), some (.long x4), none, some (.int (x5 + (1 : Int32)))]) d_X2_weightOf_89 rfl (by rw [kI_1]) (by decide) rfl ?_
                refine g_goto d_X2_weightOf_92 ?_
                exact ih_61 _ (by rw [← hmu_61]; exact mu_up h65) x4 (x5 + (1 : Int32)) rfl (lo_up hl6 h65) (by first | exact hw_61 | (rw [ex4]; exact wshift hw_61.1 hw_61.2)) ⟨kf1, Nat.lt_of_lt_of_le (by rw [← hmu_61]; exact mu_up h65) hkf1, hF⟩
              · skip
                replace hF := fe_neg hF h75
                refine g_lload_n d_X2_weightOf_78 rfl ?_
                refine g_aload_n d_X2_weightOf_79 rfl ?_
                refine g_iload_n d_X2_weightOf_80 rfl ?_
                refine g_iload_n d_X2_weightOf_81 rfl ?_
                refine g_iload d_X2_weightOf_82 rfl ?_
                refine g_V3 d_X2_weightOf_84 cs_X2_weightOf_X2_halvings lk_RX2_68 im_X2_halvings se_X2_halvings rfl rfl rfl (Nat.le_of_ble_eq_true rfl) ⟨rfl, rfl⟩ ⟨Nat.zero_le _, Nat.zero_le _⟩ (ct_X2_halvings set n x5 I J (by grind)) (fun r84 S84 Ic8 Jc9 q84_6 => ?_)
                obtain ⟨rfl, rfl, rfl, r12, rfl, hf84_10⟩ := q84_6
                replace hF := fe_b3 hF hf84_10
                refine g_st (st' := [.int r12, .long x4]) rfl ?_
                refine g_lshr d_X2_weightOf_87 ?_
                refine g_topJ (fun v14 ev14 => ?_)
                replace hF := fe_lt hF ev14
                refine g_lstore_n (L' := [some (.ref 57), some (.int set), some (.int n), some (.long v14), none, some (.int x5)]) d_X2_weightOf_88 (by decide) rfl ?_
                refine g_iinc (v := (x5 + (1 : Int32))) (L' := [some (.ref 57), some (.int set), some (.int n), some (.long v14), none, some (.int (x5 + (1 : Int32)))]) d_X2_weightOf_89 rfl (by rw [kI_1]) (by decide) rfl ?_
                refine g_goto d_X2_weightOf_92 ?_
                exact ih_61 _ (by rw [← hmu_61]; exact mu_up h65) v14 (x5 + (1 : Int32)) rfl (lo_up hl6 h65) (by first | exact hw_61 | (rw [ev14]; exact wshift hw_61.1 hw_61.2)) ⟨kf1, Nat.lt_of_lt_of_le (by rw [← hmu_61]; exact mu_up h65) hkf1, hF⟩
        exact K_61 _ x1 (0 : Int32) rfl (Int32.le_refl _) hw_7 ⟨_, Nat.lt_succ_self _, hF⟩
      · skip
        replace hF := fe_neg hF h11
        refine g_lload_n d_X2_weightOf_14 rfl ?_
        refine g_iload_n d_X2_weightOf_15 rfl ?_
        refine g_iload d_X2_weightOf_16 rfl ?_
        refine g_ishr d_X2_weightOf_18 ?_
        refine g_iconst (v := 1) d_X2_weightOf_19 kI_1 ?_
        refine g_iand d_X2_weightOf_20 ?_
        obtain ⟨j45_2, hj45_2, hF⟩ := fe_jx hF
        have J_45 : ∀ (w15 : Int32), (0 ≤ w15 ∧ w15 ≤ 1000) → (FE (fn_X2_weightOf set n I J) (fun _ => j45_2 w15)) → G m_X2_weightOf (rq m_X2_weightOf (fun r S' I' J' => S' = SHF ∧ I = I' ∧ J = J' ∧ ∃ v : Int64, r = some (.long v) ∧ fn_X2_weightOf set n I J = (v, I', J') ∧ 0 ≤ v ∧ v ≤ 1000000)) 0 0 45 [some (.ref 57), some (.int set), some (.int n), some (.long x1), none, some (.int x2)] [.int w15, .long x1] SHF I J := by
          intro w15 hp_45 hF_j45_2
          have hF := fe_eq hF_j45_2 (congrFun hj45_2 w15)
          refine g_i2l d_X2_weightOf_45 ?_
          refine g_lmul d_X2_weightOf_46 ?_
          refine g_ldc2 (v := 1000) d_X2_weightOf_47 tw_842 ?_
          refine g_ldiv d_X2_weightOf_50 (by decide) ?_
          refine g_topJ (fun v16 ev16 => ?_)
          replace hF := fe_lt hF ev16
          refine g_lstore_n (L' := [some (.ref 57), some (.int set), some (.int n), some (.long v16), none, some (.int x2)]) d_X2_weightOf_51 (by decide) rfl ?_
          have hw2 : 0 ≤ v16 ∧ v16 ≤ 1000000 := by rw [ev16]; exact wstep hw_7.1 hw_7.2 hp_45.1 hp_45.2
          refine g_iinc (v := (x2 + (1 : Int32))) (L' := [some (.ref 57), some (.int set), some (.int n), some (.long v16), none, some (.int (x2 + (1 : Int32)))]) d_X2_weightOf_52 rfl (by rw [kI_1]) (by decide) rfl ?_
          refine g_goto d_X2_weightOf_55 ?_
          exact ih_7 _ (by rw [← hmu_7]; exact mu_up h11) v16 (x2 + (1 : Int32)) rfl (lo_up hl3 h11) hw2 ⟨kf0, Nat.lt_of_lt_of_le (by rw [← hmu_7]; exact mu_up h11) hkf0, hF⟩
        refine g_if_eq d_X2_weightOf_21 (fun h21 => ?_) (fun h21 => ?_)
        · skip
          replace hF := fe_pos hF h21
          refine g_sipush (v := 1000) d_X2_weightOf_34 kS_1000 ?_
          refine g_aload_n d_X2_weightOf_37 rfl ?_
          refine g_getR d_X2_weightOf_38 fq_RX2_22 rfl rfl ?_
          refine g_iload d_X2_weightOf_41 rfl ?_
          refine g_iaload (N := 7) d_X2_weightOf_43 rfl kT_7 ⟨hl3, Int32.not_le.mp h11⟩ rfl ?_
          refine g_isub d_X2_weightOf_44 ?_
          exact J_45 (((1000 : Int32) - (I 61 x2.toNatClampNeg))) (by have hq := pri_at hpri (x := x2) (by grind) (by grind); constructor <;> grind) hF
        · skip
          replace hF := fe_neg hF h21
          refine g_aload_n d_X2_weightOf_24 rfl ?_
          refine g_getR d_X2_weightOf_25 fq_RX2_22 rfl rfl ?_
          refine g_iload d_X2_weightOf_28 rfl ?_
          refine g_iaload (N := 7) d_X2_weightOf_30 rfl kT_7 ⟨hl3, Int32.not_le.mp h11⟩ rfl ?_
          refine g_goto d_X2_weightOf_31 ?_
          exact J_45 ((I 61 x2.toNatClampNeg)) (by have hq := pri_at hpri (x := x2) (by grind) (by grind); constructor <;> grind) hF
  exact K_7 _ (1000000 : Int64) (0 : Int32) rfl (Int32.le_refl _) (by decide) ⟨_, Nat.lt_succ_self _, hF⟩
noncomputable def fl_X2_weighAll_5_0 (I : Iv) (n : Int32) (Kf0 : Int64 → Int32 → Jv → Int64 × Iv × Jv) : Nat → Int64 → Int32 → Jv → Int64 × Iv × Jv
  | 0, x1, x2, J3 => (0, I, J3)
  | kf0 + 1, x1, x2, J3 => if (29 : Int32) ≤ x2 then Kf0 x1 x2 J3 else l_t ((((stI.getD 3 default).2).getD x2.toNatClampNeg 0)) (fun (t6 : Int32) => b_n3 (fn_X2_weightOf t6 n I J3) (fun (r12 : Int64) (_ : Iv) (_ : Jv) => l_t (wJ J3 63 (x2.toNatClampNeg) r12) (fun (J14 : Jv) => l_t ((x1 + (J14 63 x2.toNatClampNeg))) (fun (v16 : Int64) => fl_X2_weighAll_5_0 I n Kf0 kf0 v16 (x2 + (1 : Int32)) J14))))
noncomputable def fn_X2_weighAll (n : Int32) (I : Iv) (J : Jv) : Int64 × Iv × Jv :=
  fl_X2_weighAll_5_0 I n (fun (x1 : Int64) (x2 : Int32) (J3 : Jv) => (x1, I, J3)) (mU (29 : Int32) ((0 : Int32)) + 1) (0 : Int64) (0 : Int32) J
set_option maxRecDepth 100000 in
set_option maxHeartbeats 4000000 in
theorem ct_X2_weighAll (n : Int32) (I : Iv) (J : Jv) (hpri : PRI I) : Ct m_X2_weighAll [.ref 57, .int n] SHF I J (fun r S' I' J' => S' = SHF ∧ XT I' J' = XT I J ∧ ∃ v : Int64, r = some (.long v) ∧ fn_X2_weighAll n I J = (v, I', J') ∧ 0 ≤ v ∧ v ≤ 29000000) := by
  refine ct_of 3 (by decide +kernel) rfl rfl ?_
  have hK0 : XT I J = XT I J := rfl
  have hF := fe_of (fn_X2_weighAll.eq_1 n I J)
  refine g_lconst d_X2_weighAll_0 kL_0 ?_
  refine g_lstore_n (L' := [some (.ref 57), some (.int n), some (.long (0 : Int64)), none, none]) d_X2_weighAll_1 (by decide) rfl ?_
  refine g_iconst (v := 0) d_X2_weighAll_2 kI_0 ?_
  refine g_istore (L' := [some (.ref 57), some (.int n), some (.long (0 : Int64)), none, some (.int (0 : Int32))]) d_X2_weighAll_3 (by decide) rfl ?_
  obtain ⟨Kf0, hKf0, hF⟩ := fe_kx (f := fun K => fl_X2_weighAll_5_0 I n K (mU (29 : Int32) ((0 : Int32)) + 1) (0 : Int64) (0 : Int32) J) hF
  have K_5 : ∀ (nu : Nat) (x1 : Int64) (x2 : Int32) (J3 : Jv), mU (29 : Int32) x2 = nu → (XT I J3 = XT I J) → ((0 : Int32) ≤ x2) → (0 ≤ Int64.toInt x1 ∧ Int64.toInt x1 ≤ Int32.toInt x2 * 1000000) → (x2 ≤ 29) → (∃ kq : Nat, nu < kq ∧ (fun kq => FE (fn_X2_weighAll n I J) (fun _ => fl_X2_weighAll_5_0 I n Kf0 kq x1 x2 J3)) kq) → G m_X2_weighAll (rq m_X2_weighAll (fun r S' I' J' => S' = SHF ∧ XT I' J' = XT I J ∧ ∃ v : Int64, r = some (.long v) ∧ fn_X2_weighAll n I J = (v, I', J') ∧ 0 ≤ v ∧ v ≤ 29000000)) 0 0 5 [some (.ref 57), some (.int n), some (.long x1), none, some (.int x2)] [] SHF I J3 := by
    intro nu
    induction nu using Nat.strongRecOn with
    | ind nu ih_5 =>
      intro x1 x2 J3 hmu_5 hK4 hl5 ha_5 hi29_5 hF_Kf0
      obtain ⟨kf0, hkf0, hF⟩ := fe_fu (P := fun kq => FE (fn_X2_weighAll n I J) (fun _ => fl_X2_weighAll_5_0 I n Kf0 kq x1 x2 J3)) hF_Kf0
      replace hF := fe_eq hF (fl_X2_weighAll_5_0.eq_2 _ _ _ _ _ _ _)
      refine g_iload d_X2_weighAll_5 rfl ?_
      refine g_gets (j := 3) d_X2_weighAll_7 rfl sl_RX2_28 ?_
      refine g_tlen (j := 3) (v := 29) d_X2_weighAll_10 rfl rfl ?_
      refine g_icmp_ge d_X2_weighAll_11 (fun h11 => ?_) (fun h11 => ?_)
      · skip
        replace hF := fe_pos hF h11
        replace hF := fe_eq hF (congrFun (congrFun (congrFun hKf0 x1) x2) J3)
        refine g_lload_n d_X2_weighAll_48 rfl ?_
        exact g_lreturn d_X2_weighAll_49 rfl rfl rfl ⟨rfl, hK4, x1, rfl, hF, (wall_end ha_5 hi29_5)⟩
      · skip
        replace hF := fe_neg hF h11
        refine g_aload_n d_X2_weighAll_14 rfl ?_
        refine g_getR d_X2_weighAll_15 fq_RX2_31 rfl rfl ?_
        refine g_iload d_X2_weighAll_18 rfl ?_
        refine g_aload_n d_X2_weighAll_20 rfl ?_
        refine g_gets (j := 3) d_X2_weighAll_21 rfl sl_RX2_28 ?_
        refine g_iload d_X2_weighAll_24 rfl ?_
        refine g_tload (j := 3) (N := 29) d_X2_weighAll_26 rfl kT_29 ⟨hl5, Int32.not_le.mp h11⟩ rfl ?_
        refine g_topI (fun t6 et6 => ?_)
        replace hF := fe_lt hF et6
        refine g_iload_n d_X2_weighAll_27 rfl ?_
        refine g_V2 d_X2_weighAll_28 cs_X2_weighAll_X2_weightOf lk_RX2_62 im_X2_weightOf se_X2_weightOf rfl rfl rfl (Nat.le_of_ble_eq_true rfl) ⟨rfl, rfl⟩ ⟨Nat.zero_le _, Nat.zero_le _⟩ (ct_X2_weightOf t6 n I J3 hpri) (fun r28 S28 Ic8 Jc9 q28_6 => ?_)
        obtain ⟨rfl, rfl, rfl, r12, rfl, hf28_10, hr28_12⟩ := q28_6
        replace hF := fe_b3 hF hf28_10
        refine g_st (st' := [.long r12, .int x2, .ref 63]) rfl ?_
        refine g_lastore (N := 29) d_X2_weighAll_31 rfl kT_29 ⟨hl5, Int32.not_le.mp h11⟩ rfl  ?_
        refine g_nmJ (fun J14 eJ14 => ?_)
        replace hF := fe_lt hF eJ14
        have hK15 : XT I J14 = XT I J := (by rw [eJ14]; exact (xt_wJ (by decide)).trans hK4)
        have hwz : 0 ≤ J14 63 x2.toNatClampNeg ∧ J14 63 x2.toNatClampNeg ≤ 1000000 := by rw [eJ14]; simp only [wJ, and_self, if_true]; exact hr28_12
        refine g_lload_n d_X2_weighAll_32 rfl ?_
        refine g_aload_n d_X2_weighAll_33 rfl ?_
        refine g_getR d_X2_weighAll_34 fq_RX2_31 rfl rfl ?_
        refine g_iload d_X2_weighAll_37 rfl ?_
        refine g_laload (N := 29) d_X2_weighAll_39 rfl kT_29 ⟨hl5, Int32.not_le.mp h11⟩ rfl ?_
        refine g_ladd d_X2_weighAll_40 ?_
        refine g_topJ (fun v16 ev16 => ?_)
        replace hF := fe_lt hF ev16
        refine g_lstore_n (L' := [some (.ref 57), some (.int n), some (.long v16), none, some (.int x2)]) d_X2_weighAll_41 (by decide) rfl ?_
        refine g_iinc (v := (x2 + (1 : Int32))) (L' := [some (.ref 57), some (.int n), some (.long v16), none, some (.int (x2 + (1 : Int32)))]) d_X2_weighAll_42 rfl (by rw [kI_1]) (by decide) rfl ?_
        refine g_goto d_X2_weighAll_45 ?_
        exact ih_5 _ (by rw [← hmu_5]; exact mu_up h11) v16 (x2 + (1 : Int32)) J14 rfl hK15 (lo_up hl5 h11) (by rw [ev16]; exact wall_step ha_5 h11 hwz.1 hwz.2) (by grind) ⟨kf0, Nat.lt_of_lt_of_le (by rw [← hmu_5]; exact mu_up h11) hkf0, hF⟩
  exact K_5 _ (0 : Int64) (0 : Int32) J rfl hK0 (Int32.le_refl _) (by decide) (by decide) ⟨_, Nat.lt_succ_self _, hF⟩
noncomputable def fn_X2_share (i : Int32) (all : Int64) (I : Iv) (J : Jv) : Int32 × Iv × Jv :=
  if all ≤ (0 : Int64) then ((0 : Int32), I, J) else if i < 0 then ((0 : Int32), I, J) else if (29 : Int32) ≤ i then ((0 : Int32), I, J) else ((Int64.toInt32 (((1000000 : Int64) * (J 63 i.toNatClampNeg)) / all)), I, J)
set_option maxRecDepth 100000 in
set_option maxHeartbeats 4000000 in
theorem ct_X2_share (i : Int32) (all : Int64) (I : Iv) (J : Jv)  : Ct m_X2_share [.ref 57, .int i, .long all] SHF I J (fun r S' I' J' => S' = SHF ∧ I = I' ∧ J = J' ∧ ∃ v : Int32, r = some (.int v) ∧ fn_X2_share i all I J = (v, I', J')) := by
  refine ct_of 0 (by decide +kernel) rfl rfl ?_
  have hF := fe_of (fn_X2_share.eq_1 i all I J)
  refine g_lload_n d_X2_share_0 rfl ?_
  refine g_lconst d_X2_share_1 kL_0 ?_
  refine g_lcmp_le d_X2_share_2 d_X2_share_3 (fun h3 => ?_) (fun h3 => ?_)
  · skip
    replace hF := fe_pos hF h3
    refine g_iconst (v := 0) d_X2_share_35 kI_0 ?_
    exact g_ireturn d_X2_share_36 rfl rfl rfl rfl ⟨rfl, rfl, rfl, (0 : Int32), rfl, hF⟩
  · skip
    replace hF := fe_neg hF h3
    refine g_iload_n d_X2_share_6 rfl ?_
    refine g_if_lt d_X2_share_7 (fun h7 => ?_) (fun h7 => ?_)
    · skip
      replace hF := fe_pos hF h7
      refine g_iconst (v := 0) d_X2_share_35 kI_0 ?_
      exact g_ireturn d_X2_share_36 rfl rfl rfl rfl ⟨rfl, rfl, rfl, (0 : Int32), rfl, hF⟩
    · skip
      replace hF := fe_neg hF h7
      refine g_iload_n d_X2_share_10 rfl ?_
      refine g_aload_n d_X2_share_11 rfl ?_
      refine g_getR d_X2_share_12 fq_RX2_31 rfl rfl ?_
      refine g_alen (v := 29) d_X2_share_15 rfl (Or.inr (Or.inl rfl)) rfl ?_
      refine g_icmp_ge d_X2_share_16 (fun h16 => ?_) (fun h16 => ?_)
      · skip
        replace hF := fe_pos hF h16
        refine g_iconst (v := 0) d_X2_share_35 kI_0 ?_
        exact g_ireturn d_X2_share_36 rfl rfl rfl rfl ⟨rfl, rfl, rfl, (0 : Int32), rfl, hF⟩
      · skip
        replace hF := fe_neg hF h16
        refine g_ldc2 (v := 1000000) d_X2_share_19 tw_841 ?_
        refine g_aload_n d_X2_share_22 rfl ?_
        refine g_getR d_X2_share_23 fq_RX2_31 rfl rfl ?_
        refine g_iload_n d_X2_share_26 rfl ?_
        refine g_laload (N := 29) d_X2_share_27 rfl kT_29 (by constructor <;> grind) rfl ?_
        refine g_lmul d_X2_share_28 ?_
        refine g_lload_n d_X2_share_29 rfl ?_
        refine g_ldiv d_X2_share_30 (by grind) ?_
        refine g_l2i d_X2_share_31 ?_
        refine g_goto d_X2_share_32 ?_
        exact g_ireturn d_X2_share_36 rfl rfl rfl rfl ⟨rfl, rfl, rfl, (Int64.toInt32 (((1000000 : Int64) * (J 63 i.toNatClampNeg)) / all)), rfl, hF⟩
noncomputable def fl_X2_isFirstOfClass_2_0 (I : Iv) (J : Jv) (i : Int32) (Kf0 : Int32 → Int32 × Iv × Jv) : Nat → Int32 → Int32 × Iv × Jv
  | 0, x1 => (0, I, J)
  | kf0 + 1, x1 => if i ≤ x1 then Kf0 x1 else if (I 64 x1.toNatClampNeg) = (I 64 i.toNatClampNeg) then ((0 : Int32), I, J) else fl_X2_isFirstOfClass_2_0 I J i Kf0 kf0 (x1 + (1 : Int32))
noncomputable def fn_X2_isFirstOfClass (i : Int32) (I : Iv) (J : Jv) : Int32 × Iv × Jv :=
  fl_X2_isFirstOfClass_2_0 I J i (fun (x1 : Int32) => ((1 : Int32), I, J)) (mU i ((0 : Int32)) + 1) (0 : Int32)
set_option maxRecDepth 100000 in
set_option maxHeartbeats 4000000 in
theorem ct_X2_isFirstOfClass (i : Int32) (I : Iv) (J : Jv) (hi : 0 ≤ i ∧ i < 29) : Ct m_X2_isFirstOfClass [.ref 57, .int i] SHF I J (fun r S' I' J' => S' = SHF ∧ I = I' ∧ J = J' ∧ ∃ v : Int32, r = some (.int v) ∧ (v = 0 ∨ v = 1) ∧ fn_X2_isFirstOfClass i I J = (v, I', J')) := by
  refine ct_of 1 (by decide +kernel) rfl rfl ?_
  have hF := fe_of (fn_X2_isFirstOfClass.eq_1 i I J)
  refine g_iconst (v := 0) d_X2_isFirstOfClass_0 kI_0 ?_
  refine g_istore_n (L' := [some (.ref 57), some (.int i), some (.int (0 : Int32))]) d_X2_isFirstOfClass_1 (by decide) rfl ?_
  obtain ⟨Kf0, hKf0, hF⟩ := fe_kx (f := fun K => fl_X2_isFirstOfClass_2_0 I J i K (mU i ((0 : Int32)) + 1) (0 : Int32)) hF
  have K_2 : ∀ (nu : Nat) (x1 : Int32), mU i x1 = nu → ((0 : Int32) ≤ x1) → (∃ kq : Nat, nu < kq ∧ (fun kq => FE (fn_X2_isFirstOfClass i I J) (fun _ => fl_X2_isFirstOfClass_2_0 I J i Kf0 kq x1)) kq) → G m_X2_isFirstOfClass (rq m_X2_isFirstOfClass (fun r S' I' J' => S' = SHF ∧ I = I' ∧ J = J' ∧ ∃ v : Int32, r = some (.int v) ∧ (v = 0 ∨ v = 1) ∧ fn_X2_isFirstOfClass i I J = (v, I', J'))) 0 0 2 [some (.ref 57), some (.int i), some (.int x1)] [] SHF I J := by
    intro nu
    induction nu using Nat.strongRecOn with
    | ind nu ih_2 =>
      intro x1 hmu_2 hl2 hF_Kf0
      obtain ⟨kf0, hkf0, hF⟩ := fe_fu (P := fun kq => FE (fn_X2_isFirstOfClass i I J) (fun _ => fl_X2_isFirstOfClass_2_0 I J i Kf0 kq x1)) hF_Kf0
      replace hF := fe_eq hF (fl_X2_isFirstOfClass_2_0.eq_2 _ _ _ _ _ _)
      refine g_iload_n d_X2_isFirstOfClass_2 rfl ?_
      refine g_iload_n d_X2_isFirstOfClass_3 rfl ?_
      refine g_icmp_ge d_X2_isFirstOfClass_4 (fun h4 => ?_) (fun h4 => ?_)
      · skip
        replace hF := fe_pos hF h4
        replace hF := fe_eq hF (congrFun hKf0 x1)
        refine g_iconst (v := 1) d_X2_isFirstOfClass_30 kI_1 ?_
        exact g_ireturn d_X2_isFirstOfClass_31 rfl rfl rfl rfl ⟨rfl, rfl, rfl, (1 : Int32), rfl, Or.inr rfl, hF⟩
      · skip
        replace hF := fe_neg hF h4
        refine g_aload_n d_X2_isFirstOfClass_7 rfl ?_
        refine g_getR d_X2_isFirstOfClass_8 fq_RX2_35 rfl rfl ?_
        refine g_iload_n d_X2_isFirstOfClass_11 rfl ?_
        refine g_iaload (N := 29) d_X2_isFirstOfClass_12 rfl kT_29 (by constructor <;> grind) rfl ?_
        refine g_aload_n d_X2_isFirstOfClass_13 rfl ?_
        refine g_getR d_X2_isFirstOfClass_14 fq_RX2_35 rfl rfl ?_
        refine g_iload_n d_X2_isFirstOfClass_17 rfl ?_
        refine g_iaload (N := 29) d_X2_isFirstOfClass_18 rfl kT_29 (by constructor <;> grind) rfl ?_
        refine g_icmp_ne d_X2_isFirstOfClass_19 (fun h19 => ?_) (fun h19 => ?_)
        · skip
          replace hF := fe_neg hF h19
          refine g_iinc (v := (x1 + (1 : Int32))) (L' := [some (.ref 57), some (.int i), some (.int (x1 + (1 : Int32)))]) d_X2_isFirstOfClass_24 rfl (by rw [kI_1]) (by decide) rfl ?_
          refine g_goto d_X2_isFirstOfClass_27 ?_
          exact ih_2 _ (by rw [← hmu_2]; exact mu_up h4) (x1 + (1 : Int32)) rfl (lo_up hl2 h4) ⟨kf0, Nat.lt_of_lt_of_le (by rw [← hmu_2]; exact mu_up h4) hkf0, hF⟩
        · skip
          replace hF := fe_pos hF h19
          refine g_iconst (v := 0) d_X2_isFirstOfClass_22 kI_0 ?_
          exact g_ireturn d_X2_isFirstOfClass_23 rfl rfl rfl rfl ⟨rfl, rfl, rfl, (0 : Int32), rfl, Or.inl rfl, hF⟩
  exact K_2 _ (0 : Int32) rfl (Int32.le_refl _) ⟨_, Nat.lt_succ_self _, hF⟩
noncomputable def fl_X2_weightOfClass_5_0 (I : Iv) (J : Jv) (i : Int32) (Kf0 : Int64 → Int32 → Int64 × Iv × Jv) : Nat → Int64 → Int32 → Int64 × Iv × Jv
  | 0, x1, x2 => (0, I, J)
  | kf0 + 1, x1, x2 => if (29 : Int32) ≤ x2 then Kf0 x1 x2 else if (I 64 x2.toNatClampNeg) = (I 64 i.toNatClampNeg) then l_t ((x1 + (J 63 x2.toNatClampNeg))) (fun (v3 : Int64) => fl_X2_weightOfClass_5_0 I J i Kf0 kf0 v3 (x2 + (1 : Int32))) else fl_X2_weightOfClass_5_0 I J i Kf0 kf0 x1 (x2 + (1 : Int32))
noncomputable def fn_X2_weightOfClass (i : Int32) (I : Iv) (J : Jv) : Int64 × Iv × Jv :=
  fl_X2_weightOfClass_5_0 I J i (fun (x1 : Int64) (x2 : Int32) => (x1, I, J)) (mU (29 : Int32) i + 1) (0 : Int64) i
set_option maxRecDepth 100000 in
set_option maxHeartbeats 4000000 in
theorem ct_X2_weightOfClass (i : Int32) (I : Iv) (J : Jv) (hi : 0 ≤ i ∧ i < 29) : Ct m_X2_weightOfClass [.ref 57, .int i] SHF I J (fun r S' I' J' => S' = SHF ∧ I = I' ∧ J = J' ∧ ∃ v : Int64, r = some (.long v) ∧ fn_X2_weightOfClass i I J = (v, I', J')) := by
  refine ct_of 3 (by decide +kernel) rfl rfl ?_
  have hF := fe_of (fn_X2_weightOfClass.eq_1 i I J)
  refine g_lconst d_X2_weightOfClass_0 kL_0 ?_
  refine g_lstore_n (L' := [some (.ref 57), some (.int i), some (.long (0 : Int64)), none, none]) d_X2_weightOfClass_1 (by decide) rfl ?_
  refine g_iload_n d_X2_weightOfClass_2 rfl ?_
  refine g_istore (L' := [some (.ref 57), some (.int i), some (.long (0 : Int64)), none, some (.int i)]) d_X2_weightOfClass_3 (by decide) rfl ?_
  obtain ⟨Kf0, hKf0, hF⟩ := fe_kx (f := fun K => fl_X2_weightOfClass_5_0 I J i K (mU (29 : Int32) i + 1) (0 : Int64) i) hF
  have K_5 : ∀ (nu : Nat) (x1 : Int64) (x2 : Int32), mU (29 : Int32) x2 = nu → (0 ≤ x2) → (∃ kq : Nat, nu < kq ∧ (fun kq => FE (fn_X2_weightOfClass i I J) (fun _ => fl_X2_weightOfClass_5_0 I J i Kf0 kq x1 x2)) kq) → G m_X2_weightOfClass (rq m_X2_weightOfClass (fun r S' I' J' => S' = SHF ∧ I = I' ∧ J = J' ∧ ∃ v : Int64, r = some (.long v) ∧ fn_X2_weightOfClass i I J = (v, I', J'))) 0 0 5 [some (.ref 57), some (.int i), some (.long x1), none, some (.int x2)] [] SHF I J := by
    intro nu
    induction nu using Nat.strongRecOn with
    | ind nu ih_5 =>
      intro x1 x2 hmu_5 h0_5 hF_Kf0
      obtain ⟨kf0, hkf0, hF⟩ := fe_fu (P := fun kq => FE (fn_X2_weightOfClass i I J) (fun _ => fl_X2_weightOfClass_5_0 I J i Kf0 kq x1 x2)) hF_Kf0
      replace hF := fe_eq hF (fl_X2_weightOfClass_5_0.eq_2 _ _ _ _ _ _ _)
      refine g_iload d_X2_weightOfClass_5 rfl ?_
      refine g_aload_n d_X2_weightOfClass_7 rfl ?_
      refine g_getR d_X2_weightOfClass_8 fq_RX2_35 rfl rfl ?_
      refine g_alen (v := 29) d_X2_weightOfClass_11 rfl (Or.inl rfl) rfl ?_
      refine g_icmp_ge d_X2_weightOfClass_12 (fun h12 => ?_) (fun h12 => ?_)
      · skip
        replace hF := fe_pos hF h12
        replace hF := fe_eq hF (congrFun (congrFun hKf0 x1) x2)
        refine g_lload_n d_X2_weightOfClass_47 rfl ?_
        exact g_lreturn d_X2_weightOfClass_48 rfl rfl rfl ⟨rfl, rfl, rfl, x1, rfl, hF⟩
      · skip
        replace hF := fe_neg hF h12
        refine g_aload_n d_X2_weightOfClass_15 rfl ?_
        refine g_getR d_X2_weightOfClass_16 fq_RX2_35 rfl rfl ?_
        refine g_iload d_X2_weightOfClass_19 rfl ?_
        refine g_iaload (N := 29) d_X2_weightOfClass_21 rfl kT_29 (by constructor <;> grind) rfl ?_
        refine g_aload_n d_X2_weightOfClass_22 rfl ?_
        refine g_getR d_X2_weightOfClass_23 fq_RX2_35 rfl rfl ?_
        refine g_iload_n d_X2_weightOfClass_26 rfl ?_
        refine g_iaload (N := 29) d_X2_weightOfClass_27 rfl kT_29 (by constructor <;> grind) rfl ?_
        refine g_icmp_ne d_X2_weightOfClass_28 (fun h28 => ?_) (fun h28 => ?_)
        · skip
          replace hF := fe_neg hF h28
          refine g_iinc (v := (x2 + (1 : Int32))) (L' := [some (.ref 57), some (.int i), some (.long x1), none, some (.int (x2 + (1 : Int32)))]) d_X2_weightOfClass_41 rfl (by rw [kI_1]) (by decide) rfl ?_
          refine g_goto d_X2_weightOfClass_44 ?_
          exact ih_5 _ (by rw [← hmu_5]; exact mu_up h12) x1 (x2 + (1 : Int32)) rfl (by grind) ⟨kf0, Nat.lt_of_lt_of_le (by rw [← hmu_5]; exact mu_up h12) hkf0, hF⟩
        · skip
          replace hF := fe_pos hF h28
          refine g_lload_n d_X2_weightOfClass_31 rfl ?_
          refine g_aload_n d_X2_weightOfClass_32 rfl ?_
          refine g_getR d_X2_weightOfClass_33 fq_RX2_31 rfl rfl ?_
          refine g_iload d_X2_weightOfClass_36 rfl ?_
          refine g_laload (N := 29) d_X2_weightOfClass_38 rfl kT_29 (by constructor <;> grind) rfl ?_
          refine g_ladd d_X2_weightOfClass_39 ?_
          refine g_topJ (fun v3 ev3 => ?_)
          replace hF := fe_lt hF ev3
          refine g_lstore_n (L' := [some (.ref 57), some (.int i), some (.long v3), none, some (.int x2)]) d_X2_weightOfClass_40 (by decide) rfl ?_
          refine g_iinc (v := (x2 + (1 : Int32))) (L' := [some (.ref 57), some (.int i), some (.long v3), none, some (.int (x2 + (1 : Int32)))]) d_X2_weightOfClass_41 rfl (by rw [kI_1]) (by decide) rfl ?_
          refine g_goto d_X2_weightOfClass_44 ?_
          exact ih_5 _ (by rw [← hmu_5]; exact mu_up h12) v3 (x2 + (1 : Int32)) rfl (by grind) ⟨kf0, Nat.lt_of_lt_of_le (by rw [← hmu_5]; exact mu_up h12) hkf0, hF⟩
  exact K_5 _ (0 : Int64) i rfl (by grind) ⟨_, Nat.lt_succ_self _, hF⟩
noncomputable def fl_X2_tellingBy_61_1 (J : Jv) (I2 : Iv) (Kf1 : Int64 → Int32 → Int32 × Iv × Jv) : Nat → Int64 → Int32 → Int32 × Iv × Jv
  | 0, x5, x6 => (0, I2, J)
  | kf1 + 1, x5, x6 => if (29 : Int32) ≤ x6 then Kf1 x5 x6 else b_n3 (fn_X2_isFirstOfClass x6 I2 J) (fun (r13 : Int32) (_ : Iv) (_ : Jv) => if r13 = 0 then fl_X2_tellingBy_61_1 J I2 Kf1 kf1 x5 (x6 + (1 : Int32)) else b_n3 (fn_X2_weightOfClass x6 I2 J) (fun (r20 : Int64) (_ : Iv) (_ : Jv) => l_t ((x5 + (r20 * r20))) (fun (v22 : Int64) => fl_X2_tellingBy_61_1 J I2 Kf1 kf1 v22 (x6 + (1 : Int32)))))
noncomputable def fl_X2_tellingBy_11_0 (J : Jv) (what : Int32) (n : Int32) (Kf0 : Int32 → Iv → Int32 × Iv × Jv) : Nat → Int32 → Iv → Int32 × Iv × Jv
  | 0, x1, I2 => (0, I2, J)
  | kf0 + 1, x1, I2 => if (29 : Int32) ≤ x1 then Kf0 x1 I2 else l_t ((((stI.getD 3 default).2).getD x1.toNatClampNeg 0)) (fun (t23 : Int32) => b_n3 (fn_X1_signOf t23 n what I2 J) (fun (r29 : Int32) (_ : Iv) (_ : Jv) => b_n3 (fn_X2_exactOf what I2 J) (fun (r36 : Int32) (_ : Iv) (_ : Jv) => l_t (wI I2 64 (x1.toNatClampNeg) (r29 / r36)) (fun (I38 : Iv) => fl_X2_tellingBy_11_0 J what n Kf0 kf0 (x1 + (1 : Int32)) I38))))
noncomputable def fn_X2_tellingBy (what : Int32) (n : Int32) (all : Int64) (I : Iv) (J : Jv) : Int32 × Iv × Jv :=
  if (0 : Int64) < all then fl_X2_tellingBy_11_0 J what n (fun (x1 : Int32) (I2 : Iv) => fl_X2_tellingBy_61_1 J I2 (fun (x5 : Int64) (x6 : Int32) => ((Int64.toInt32 ((1000 : Int64) - (((1000 : Int64) * x5) / (all * all)))), I2, J)) (mU (29 : Int32) ((0 : Int32)) + 1) (0 : Int64) (0 : Int32)) (mU (29 : Int32) ((0 : Int32)) + 1) (0 : Int32) I else ((0 : Int32), I, J)
set_option maxRecDepth 100000 in
set_option maxHeartbeats 4000000 in
theorem ct_X2_tellingBy (what : Int32) (n : Int32) (all : Int64) (I : Iv) (J : Jv) (hwh : 0 ≤ what ∧ what < 7) (hall : all ≤ 29000000) : Ct m_X2_tellingBy [.ref 57, .int what, .int n, .long all] SHF I J (fun r S' I' J' => S' = SHF ∧ XT I' J' = XT I J ∧ ∃ v : Int32, r = some (.int v) ∧ fn_X2_tellingBy what n all I J = (v, I', J')) := by
  refine ct_of 5 (by decide +kernel) rfl rfl ?_
  have hK0 : XT I J = XT I J := rfl
  have hF := fe_of (fn_X2_tellingBy.eq_1 what n all I J)
  refine g_lload_n d_X2_tellingBy_0 rfl ?_
  refine g_lconst d_X2_tellingBy_1 kL_0 ?_
  refine g_lcmp_gt d_X2_tellingBy_2 d_X2_tellingBy_3 (fun h3 => ?_) (fun h3 => ?_)
  · skip
    replace hF := fe_pos hF h3
    refine g_iconst (v := 0) d_X2_tellingBy_8 kI_0 ?_
    refine g_istore (L' := [some (.ref 57), some (.int what), some (.int n), some (.long all), none, some (.int (0 : Int32)), none, none, none, none]) d_X2_tellingBy_9 (by decide) rfl ?_
    obtain ⟨Kf0, hKf0, hF⟩ := fe_kx (f := fun K => fl_X2_tellingBy_11_0 J what n K (mU (29 : Int32) ((0 : Int32)) + 1) (0 : Int32) I) hF
    have K_11 : ∀ (nu : Nat) (x1 : Int32) (I2 : Iv), mU (29 : Int32) x1 = nu → (XT I2 J = XT I J) → ((0 : Int32) ≤ x1) → (∃ kq : Nat, nu < kq ∧ (fun kq => FE (fn_X2_tellingBy what n all I J) (fun _ => fl_X2_tellingBy_11_0 J what n Kf0 kq x1 I2)) kq) → G m_X2_tellingBy (rq m_X2_tellingBy (fun r S' I' J' => S' = SHF ∧ XT I' J' = XT I J ∧ ∃ v : Int32, r = some (.int v) ∧ fn_X2_tellingBy what n all I J = (v, I', J'))) 0 0 11 [some (.ref 57), some (.int what), some (.int n), some (.long all), none, some (.int x1), none, none, none, none] [] SHF I2 J := by
      intro nu
      induction nu using Nat.strongRecOn with
      | ind nu ih_11 =>
        intro x1 I2 hmu_11 hK3 hl4 hF_Kf0
        obtain ⟨kf0, hkf0, hF⟩ := fe_fu (P := fun kq => FE (fn_X2_tellingBy what n all I J) (fun _ => fl_X2_tellingBy_11_0 J what n Kf0 kq x1 I2)) hF_Kf0
        replace hF := fe_eq hF (fl_X2_tellingBy_11_0.eq_2 _ _ _ _ _ _ _)
        refine g_iload d_X2_tellingBy_11 rfl ?_
        refine g_aload_n d_X2_tellingBy_13 rfl ?_
        refine g_getR d_X2_tellingBy_14 fq_RX2_35 rfl rfl ?_
        refine g_alen (v := 29) d_X2_tellingBy_17 rfl (Or.inl rfl) rfl ?_
        refine g_icmp_ge d_X2_tellingBy_18 (fun h18 => ?_) (fun h18 => ?_)
        · skip
          replace hF := fe_pos hF h18
          replace hF := fe_eq hF (congrFun (congrFun hKf0 x1) I2)
          refine g_lconst d_X2_tellingBy_55 kL_0 ?_
          refine g_lstore (L' := [some (.ref 57), some (.int what), some (.int n), some (.long all), none, some (.long (0 : Int64)), none, none, none, none]) d_X2_tellingBy_56 (by decide) rfl ?_
          refine g_iconst (v := 0) d_X2_tellingBy_58 kI_0 ?_
          refine g_istore (L' := [some (.ref 57), some (.int what), some (.int n), some (.long all), none, some (.long (0 : Int64)), none, some (.int (0 : Int32)), none, none]) d_X2_tellingBy_59 (by decide) rfl ?_
          obtain ⟨Kf1, hKf1, hF⟩ := fe_kx (f := fun K => fl_X2_tellingBy_61_1 J I2 K (mU (29 : Int32) ((0 : Int32)) + 1) (0 : Int64) (0 : Int32)) hF
          have K_61 : ∀ (nu : Nat) (x5 : Int64) (x6 : Int32), mU (29 : Int32) x6 = nu → ((0 : Int32) ≤ x6) → (∃ kq : Nat, nu < kq ∧ (fun kq => FE (fn_X2_tellingBy what n all I J) (fun _ => fl_X2_tellingBy_61_1 J I2 Kf1 kq x5 x6)) kq) → G m_X2_tellingBy (rq m_X2_tellingBy (fun r S' I' J' => S' = SHF ∧ XT I' J' = XT I J ∧ ∃ v : Int32, r = some (.int v) ∧ fn_X2_tellingBy what n all I J = (v, I', J'))) 0 0 61 [some (.ref 57), some (.int what), some (.int n), some (.long all), none, some (.long x5), none, some (.int x6), none, none] [] SHF I2 J := by
            intro nu
            induction nu using Nat.strongRecOn with
            | ind nu ih_61 =>
              intro x5 x6 hmu_61 hl7 hF_Kf1
              obtain ⟨kf1, hkf1, hF⟩ := fe_fu (P := fun kq => FE (fn_X2_tellingBy what n all I J) (fun _ => fl_X2_tellingBy_61_1 J I2 Kf1 kq x5 x6)) hF_Kf1
              replace hF := fe_eq hF (fl_X2_tellingBy_61_1.eq_2 _ _ _ _ _ _)
              refine g_iload d_X2_tellingBy_61 rfl ?_
              refine g_aload_n d_X2_tellingBy_63 rfl ?_
              refine g_getR d_X2_tellingBy_64 fq_RX2_35 rfl rfl ?_
              refine g_alen (v := 29) d_X2_tellingBy_67 rfl (Or.inl rfl) rfl ?_
              refine g_icmp_ge d_X2_tellingBy_68 (fun h68 => ?_) (fun h68 => ?_)
              · skip
                replace hF := fe_pos hF h68
                replace hF := fe_eq hF (congrFun (congrFun hKf1 x5) x6)
                refine g_ldc2 (v := 1000) d_X2_tellingBy_104 tw_842 ?_
                refine g_ldc2 (v := 1000) d_X2_tellingBy_107 tw_842 ?_
                refine g_lload d_X2_tellingBy_110 rfl ?_
                refine g_lmul d_X2_tellingBy_112 ?_
                refine g_lload_n d_X2_tellingBy_113 rfl ?_
                refine g_lload_n d_X2_tellingBy_114 rfl ?_
                refine g_lmul d_X2_tellingBy_115 ?_
                refine g_ldiv d_X2_tellingBy_116 (ne_sq (by grind) hall) ?_
                refine g_lsub d_X2_tellingBy_117 ?_
                refine g_l2i d_X2_tellingBy_118 ?_
                exact g_ireturn d_X2_tellingBy_119 rfl rfl rfl rfl ⟨rfl, hK3, (Int64.toInt32 ((1000 : Int64) - (((1000 : Int64) * x5) / (all * all)))), rfl, hF⟩
              · skip
                replace hF := fe_neg hF h68
                refine g_aload_n d_X2_tellingBy_71 rfl ?_
                refine g_iload d_X2_tellingBy_72 rfl ?_
                refine g_V1 d_X2_tellingBy_74 cs_X2_tellingBy_X2_isFirstOfClass lk_RX2_90 im_X2_isFirstOfClass se_X2_isFirstOfClass rfl rfl rfl (Nat.le_of_ble_eq_true rfl) ⟨rfl, rfl⟩ ⟨Nat.zero_le _, Nat.zero_le _⟩ (ct_X2_isFirstOfClass x6 I2 J (by grind)) (fun r74 S74 Ic9 Jc10 q74_7 => ?_)
                obtain ⟨rfl, rfl, rfl, r13, rfl, hz74, hf74_11⟩ := q74_7
                replace hF := fe_b3 hF hf74_11
                refine g_st (st' := [.int r13]) rfl ?_
                refine g_if_eq d_X2_tellingBy_77 (fun h77 => ?_) (fun h77 => ?_)
                · skip
                  replace hF := fe_pos hF h77
                  refine g_iinc (v := (x6 + (1 : Int32))) (L' := [some (.ref 57), some (.int what), some (.int n), some (.long all), none, some (.long x5), none, some (.int (x6 + (1 : Int32))), none, none]) d_X2_tellingBy_98 rfl (by rw [kI_1]) (by decide) rfl ?_
                  refine g_goto d_X2_tellingBy_101 ?_
                  exact ih_61 _ (by rw [← hmu_61]; exact mu_up h68) x5 (x6 + (1 : Int32)) rfl (lo_up hl7 h68) ⟨kf1, Nat.lt_of_lt_of_le (by rw [← hmu_61]; exact mu_up h68) hkf1, hF⟩
                · skip
                  replace hF := fe_neg hF h77
                  refine g_aload_n d_X2_tellingBy_80 rfl ?_
                  refine g_iload d_X2_tellingBy_81 rfl ?_
                  refine g_V1 d_X2_tellingBy_83 cs_X2_tellingBy_X2_weightOfClass lk_RX2_94 im_X2_weightOfClass se_X2_weightOfClass rfl rfl rfl (Nat.le_of_ble_eq_true rfl) ⟨rfl, rfl⟩ ⟨Nat.zero_le _, Nat.zero_le _⟩ (ct_X2_weightOfClass x6 I2 J (by grind)) (fun r83 S83 Ic16 Jc17 q83_14 => ?_)
                  obtain ⟨rfl, rfl, rfl, r20, rfl, hf83_18⟩ := q83_14
                  replace hF := fe_b3 hF hf83_18
                  refine g_st (st' := [.long r20]) rfl ?_
                  refine g_lstore (L' := [some (.ref 57), some (.int what), some (.int n), some (.long all), none, some (.long x5), none, some (.int x6), some (.long r20), none]) d_X2_tellingBy_86 (by decide) rfl ?_
                  refine g_lload d_X2_tellingBy_88 rfl ?_
                  refine g_lload d_X2_tellingBy_90 rfl ?_
                  refine g_lload d_X2_tellingBy_92 rfl ?_
                  refine g_lmul d_X2_tellingBy_94 ?_
                  refine g_ladd d_X2_tellingBy_95 ?_
                  refine g_topJ (fun v22 ev22 => ?_)
                  replace hF := fe_lt hF ev22
                  refine g_lstore (L' := [some (.ref 57), some (.int what), some (.int n), some (.long all), none, some (.long v22), none, some (.int x6), some (.long r20), none]) d_X2_tellingBy_96 (by decide) rfl ?_
                  refine g_iinc (v := (x6 + (1 : Int32))) (L' := [some (.ref 57), some (.int what), some (.int n), some (.long all), none, some (.long v22), none, some (.int (x6 + (1 : Int32))), some (.long r20), none]) d_X2_tellingBy_98 rfl (by rw [kI_1]) (by decide) rfl ?_
                  refine g_goto d_X2_tellingBy_101 ?_
                  refine g_sb [some (.ref 57), some (.int what), some (.int n), some (.long all), none, some (.long v22), none, some (.int (x6 + (1 : Int32))), none, none] (by simp [subL]) ?_
                  exact ih_61 _ (by rw [← hmu_61]; exact mu_up h68) v22 (x6 + (1 : Int32)) rfl (lo_up hl7 h68) ⟨kf1, Nat.lt_of_lt_of_le (by rw [← hmu_61]; exact mu_up h68) hkf1, hF⟩
          exact K_61 _ (0 : Int64) (0 : Int32) rfl (Int32.le_refl _) ⟨_, Nat.lt_succ_self _, hF⟩
        · skip
          replace hF := fe_neg hF h18
          refine g_aload_n d_X2_tellingBy_21 rfl ?_
          refine g_getR d_X2_tellingBy_22 fq_RX2_35 rfl rfl ?_
          refine g_iload d_X2_tellingBy_25 rfl ?_
          refine g_aload_n d_X2_tellingBy_27 rfl ?_
          refine g_getR d_X2_tellingBy_28 fq_RX2_38 rfl rfl ?_
          refine g_gets (j := 3) d_X2_tellingBy_31 rfl sl_RX2_28 ?_
          refine g_iload d_X2_tellingBy_34 rfl ?_
          refine g_tload (j := 3) (N := 29) d_X2_tellingBy_36 rfl kT_29 ⟨hl4, Int32.not_le.mp h18⟩ rfl ?_
          refine g_topI (fun t23 et23 => ?_)
          replace hF := fe_lt hF et23
          refine g_iload_n d_X2_tellingBy_37 rfl ?_
          refine g_iload_n d_X2_tellingBy_38 rfl ?_
          refine g_V3 d_X2_tellingBy_39 cs_X2_tellingBy_X1_signOf lk_RX2_72 im_X1_signOf se_X1_signOf rfl rfl rfl (Nat.le_of_ble_eq_true rfl) ⟨rfl, rfl⟩ ⟨Nat.zero_le _, Nat.zero_le _⟩ (ct_X1_signOf t23 n what I2 J ) (fun r39 S39 Ic25 Jc26 q39_23 => ?_)
          obtain ⟨rfl, rfl, rfl, r29, rfl, hf39_27⟩ := q39_23
          replace hF := fe_b3 hF hf39_27
          refine g_st (st' := [.int r29, .int x1, .ref 64]) rfl ?_
          refine g_aload_n d_X2_tellingBy_42 rfl ?_
          refine g_iload_n d_X2_tellingBy_43 rfl ?_
          refine g_V1 d_X2_tellingBy_44 cs_X2_tellingBy_X2_exactOf lk_RX2_83 im_X2_exactOf se_X2_exactOf rfl rfl rfl (Nat.le_of_ble_eq_true rfl) ⟨rfl, rfl⟩ ⟨Nat.zero_le _, Nat.zero_le _⟩ (ct_X2_exactOf what I2 J hwh) (fun r44 S44 Ic32 Jc33 q44_30 => ?_)
          obtain ⟨rfl, rfl, rfl, r36, rfl, hf44_34, hr44_36⟩ := q44_30
          replace hF := fe_b3 hF hf44_34
          refine g_st (st' := [.int r36, .int r29, .int x1, .ref 64]) rfl ?_
          refine g_idiv d_X2_tellingBy_47 (by grind) ?_
          refine g_iastore (N := 29) d_X2_tellingBy_48 rfl kT_29 ⟨hl4, Int32.not_le.mp h18⟩ rfl  ?_
          refine g_nmI (fun I38 eI38 => ?_)
          replace hF := fe_lt hF eI38
          have hK39 : XT I38 J = XT I J := (by rw [eI38]; exact (xt_wI rfl).trans hK3)
          refine g_iinc (v := (x1 + (1 : Int32))) (L' := [some (.ref 57), some (.int what), some (.int n), some (.long all), none, some (.int (x1 + (1 : Int32))), none, none, none, none]) d_X2_tellingBy_49 rfl (by rw [kI_1]) (by decide) rfl ?_
          refine g_goto d_X2_tellingBy_52 ?_
          exact ih_11 _ (by rw [← hmu_11]; exact mu_up h18) (x1 + (1 : Int32)) I38 rfl hK39 (lo_up hl4 h18) ⟨kf0, Nat.lt_of_lt_of_le (by rw [← hmu_11]; exact mu_up h18) hkf0, hF⟩
    exact K_11 _ (0 : Int32) I rfl hK0 (Int32.le_refl _) ⟨_, Nat.lt_succ_self _, hF⟩
  · skip
    replace hF := fe_neg hF h3
    refine g_iconst (v := 0) d_X2_tellingBy_6 kI_0 ?_
    exact g_ireturn d_X2_tellingBy_7 rfl rfl rfl rfl ⟨rfl, hK0, (0 : Int32), rfl, hF⟩
noncomputable def fl_X2_oddsOf_9_0 (set : Int32) (I1 : Iv) (J2 : Jv) (r6 : Int64) (Kf0 : Int32 → Int32 × Iv × Jv) : Nat → Int32 → Int32 × Iv × Jv
  | 0, x9 => (0, I1, J2)
  | kf0 + 1, x9 => if (29 : Int32) ≤ x9 then Kf0 x9 else l_t ((((stI.getD 3 default).2).getD x9.toNatClampNeg 0)) (fun (t11 : Int32) => if t11 = set then b_n3 (fn_X2_share x9 r6 I1 J2) (fun (r17 : Int32) (_ : Iv) (_ : Jv) => (r17, I1, J2)) else fl_X2_oddsOf_9_0 set I1 J2 r6 Kf0 kf0 (x9 + (1 : Int32)))
noncomputable def fn_X2_oddsOf (set : Int32) (n : Int32) (I : Iv) (J : Jv) : Int32 × Iv × Jv :=
  b_n3 (fn_X2_weighAll n I J) (fun (r6 : Int64) (I1 : Iv) (J2 : Jv) => fl_X2_oddsOf_9_0 set I1 J2 r6 (fun (x9 : Int32) => ((0 : Int32), I1, J2)) (mU (29 : Int32) ((0 : Int32)) + 1) (0 : Int32))
set_option maxRecDepth 100000 in
set_option maxHeartbeats 4000000 in
theorem ct_X2_oddsOf (set : Int32) (n : Int32) (I : Iv) (J : Jv) (hpri : PRI I) : Ct m_X2_oddsOf [.ref 57, .int set, .int n] SHF I J (fun r S' I' J' => S' = SHF ∧ XT I' J' = XT I J ∧ ∃ v : Int32, r = some (.int v) ∧ fn_X2_oddsOf set n I J = (v, I', J')) := by
  refine ct_of 3 (by decide +kernel) rfl rfl ?_
  have hK0 : XT I J = XT I J := rfl
  have hF := fe_of (fn_X2_oddsOf.eq_1 set n I J)
  refine g_aload_n d_X2_oddsOf_0 rfl ?_
  refine g_iload_n d_X2_oddsOf_1 rfl ?_
  refine g_V1 d_X2_oddsOf_2 cs_X2_oddsOf_X2_weighAll lk_RX2_48 im_X2_weighAll se_X2_weighAll rfl rfl rfl (Nat.le_of_ble_eq_true rfl) ⟨rfl, rfl⟩ ⟨Nat.zero_le _, Nat.zero_le _⟩ (ct_X2_weighAll n I J hpri) (fun r2 S2 I1 J2 q2_2 => ?_)
  obtain ⟨rfl, hc2_3, r6, rfl, hf2_4, hr2_6⟩ := q2_2
  replace hF := fe_b3 hF hf2_4
  refine g_st (st' := [.long r6]) rfl ?_
  have hK8 : XT I1 J2 = XT I J := hc2_3.trans hK0
  refine g_lstore_n (L' := [some (.ref 57), some (.int set), some (.int n), some (.long r6), none, none]) d_X2_oddsOf_5 (by decide) rfl ?_
  refine g_iconst (v := 0) d_X2_oddsOf_6 kI_0 ?_
  refine g_istore (L' := [some (.ref 57), some (.int set), some (.int n), some (.long r6), none, some (.int (0 : Int32))]) d_X2_oddsOf_7 (by decide) rfl ?_
  obtain ⟨Kf0, hKf0, hF⟩ := fe_kx (f := fun K => fl_X2_oddsOf_9_0 set I1 J2 r6 K (mU (29 : Int32) ((0 : Int32)) + 1) (0 : Int32)) hF
  have K_9 : ∀ (nu : Nat) (x9 : Int32), mU (29 : Int32) x9 = nu → ((0 : Int32) ≤ x9) → (∃ kq : Nat, nu < kq ∧ (fun kq => FE (fn_X2_oddsOf set n I J) (fun _ => fl_X2_oddsOf_9_0 set I1 J2 r6 Kf0 kq x9)) kq) → G m_X2_oddsOf (rq m_X2_oddsOf (fun r S' I' J' => S' = SHF ∧ XT I' J' = XT I J ∧ ∃ v : Int32, r = some (.int v) ∧ fn_X2_oddsOf set n I J = (v, I', J'))) 0 0 9 [some (.ref 57), some (.int set), some (.int n), some (.long r6), none, some (.int x9)] [] SHF I1 J2 := by
    intro nu
    induction nu using Nat.strongRecOn with
    | ind nu ih_9 =>
      intro x9 hmu_9 hl10 hF_Kf0
      obtain ⟨kf0, hkf0, hF⟩ := fe_fu (P := fun kq => FE (fn_X2_oddsOf set n I J) (fun _ => fl_X2_oddsOf_9_0 set I1 J2 r6 Kf0 kq x9)) hF_Kf0
      replace hF := fe_eq hF (fl_X2_oddsOf_9_0.eq_2 _ _ _ _ _ _ _)
      refine g_iload d_X2_oddsOf_9 rfl ?_
      refine g_gets (j := 3) d_X2_oddsOf_11 rfl sl_RX2_28 ?_
      refine g_tlen (j := 3) (v := 29) d_X2_oddsOf_14 rfl rfl ?_
      refine g_icmp_ge d_X2_oddsOf_15 (fun h15 => ?_) (fun h15 => ?_)
      · skip
        replace hF := fe_pos hF h15
        replace hF := fe_eq hF (congrFun hKf0 x9)
        refine g_iconst (v := 0) d_X2_oddsOf_42 kI_0 ?_
        exact g_ireturn d_X2_oddsOf_43 rfl rfl rfl rfl ⟨rfl, hK8, (0 : Int32), rfl, hF⟩
      · skip
        replace hF := fe_neg hF h15
        refine g_gets (j := 3) d_X2_oddsOf_18 rfl sl_RX2_28 ?_
        refine g_iload d_X2_oddsOf_21 rfl ?_
        refine g_tload (j := 3) (N := 29) d_X2_oddsOf_23 rfl kT_29 ⟨hl10, Int32.not_le.mp h15⟩ rfl ?_
        refine g_topI (fun t11 et11 => ?_)
        replace hF := fe_lt hF et11
        refine g_iload_n d_X2_oddsOf_24 rfl ?_
        refine g_icmp_ne d_X2_oddsOf_25 (fun h25 => ?_) (fun h25 => ?_)
        · skip
          replace hF := fe_neg hF h25
          refine g_iinc (v := (x9 + (1 : Int32))) (L' := [some (.ref 57), some (.int set), some (.int n), some (.long r6), none, some (.int (x9 + (1 : Int32)))]) d_X2_oddsOf_36 rfl (by rw [kI_1]) (by decide) rfl ?_
          refine g_goto d_X2_oddsOf_39 ?_
          exact ih_9 _ (by rw [← hmu_9]; exact mu_up h15) (x9 + (1 : Int32)) rfl (lo_up hl10 h15) ⟨kf0, Nat.lt_of_lt_of_le (by rw [← hmu_9]; exact mu_up h15) hkf0, hF⟩
        · skip
          replace hF := fe_pos hF h25
          refine g_aload_n d_X2_oddsOf_28 rfl ?_
          refine g_iload d_X2_oddsOf_29 rfl ?_
          refine g_lload_n d_X2_oddsOf_31 rfl ?_
          refine g_V2 d_X2_oddsOf_32 cs_X2_oddsOf_X2_share lk_RX2_52 im_X2_share se_X2_share rfl rfl rfl (Nat.le_of_ble_eq_true rfl) ⟨rfl, rfl⟩ ⟨Nat.zero_le _, Nat.zero_le _⟩ (ct_X2_share x9 r6 I1 J2 ) (fun r32 S32 Ic13 Jc14 q32_11 => ?_)
          obtain ⟨rfl, rfl, rfl, r17, rfl, hf32_15⟩ := q32_11
          replace hF := fe_b3 hF hf32_15
          refine g_st (st' := [.int r17]) rfl ?_
          exact g_ireturn d_X2_oddsOf_35 rfl rfl rfl rfl ⟨rfl, hK8, r17, rfl, hF⟩
  exact K_9 _ (0 : Int32) rfl (Int32.le_refl _) ⟨_, Nat.lt_succ_self _, hF⟩
noncomputable def fl_X2_oddsWith_12_0 (k : Int32) (I1 : Iv) (J2 : Jv) (r6 : Int64) (Kf0 : Int32 → Int32 → Int32 × Iv × Jv) : Nat → Int32 → Int32 → Int32 × Iv × Jv
  | 0, x9, x10 => (0, I1, J2)
  | kf0 + 1, x9, x10 => if (29 : Int32) ≤ x10 then Kf0 x9 x10 else l_t ((((stI.getD 3 default).2).getD x10.toNatClampNeg 0)) (fun (t12 : Int32) => if ((t12 >>> (k &&& 31)) &&& (1 : Int32)) = 0 then fl_X2_oddsWith_12_0 k I1 J2 r6 Kf0 kf0 x9 (x10 + (1 : Int32)) else b_n3 (fn_X2_share x10 r6 I1 J2) (fun (r18 : Int32) (_ : Iv) (_ : Jv) => l_t ((x9 + r18)) (fun (v20 : Int32) => fl_X2_oddsWith_12_0 k I1 J2 r6 Kf0 kf0 v20 (x10 + (1 : Int32)))))
noncomputable def fn_X2_oddsWith (k : Int32) (n : Int32) (I : Iv) (J : Jv) : Int32 × Iv × Jv :=
  b_n3 (fn_X2_weighAll n I J) (fun (r6 : Int64) (I1 : Iv) (J2 : Jv) => fl_X2_oddsWith_12_0 k I1 J2 r6 (fun (x9 : Int32) (x10 : Int32) => (x9, I1, J2)) (mU (29 : Int32) ((0 : Int32)) + 1) (0 : Int32) (0 : Int32))
set_option maxRecDepth 100000 in
set_option maxHeartbeats 4000000 in
theorem ct_X2_oddsWith (k : Int32) (n : Int32) (I : Iv) (J : Jv) (hpri : PRI I) : Ct m_X2_oddsWith [.ref 57, .int k, .int n] SHF I J (fun r S' I' J' => S' = SHF ∧ XT I' J' = XT I J ∧ ∃ v : Int32, r = some (.int v) ∧ fn_X2_oddsWith k n I J = (v, I', J')) := by
  refine ct_of 4 (by decide +kernel) rfl rfl ?_
  have hK0 : XT I J = XT I J := rfl
  have hF := fe_of (fn_X2_oddsWith.eq_1 k n I J)
  refine g_aload_n d_X2_oddsWith_0 rfl ?_
  refine g_iload_n d_X2_oddsWith_1 rfl ?_
  refine g_V1 d_X2_oddsWith_2 cs_X2_oddsWith_X2_weighAll lk_RX2_48 im_X2_weighAll se_X2_weighAll rfl rfl rfl (Nat.le_of_ble_eq_true rfl) ⟨rfl, rfl⟩ ⟨Nat.zero_le _, Nat.zero_le _⟩ (ct_X2_weighAll n I J hpri) (fun r2 S2 I1 J2 q2_2 => ?_)
  obtain ⟨rfl, hc2_3, r6, rfl, hf2_4, hr2_6⟩ := q2_2
  replace hF := fe_b3 hF hf2_4
  refine g_st (st' := [.long r6]) rfl ?_
  have hK8 : XT I1 J2 = XT I J := hc2_3.trans hK0
  refine g_lstore_n (L' := [some (.ref 57), some (.int k), some (.int n), some (.long r6), none, none, none]) d_X2_oddsWith_5 (by decide) rfl ?_
  refine g_iconst (v := 0) d_X2_oddsWith_6 kI_0 ?_
  refine g_istore (L' := [some (.ref 57), some (.int k), some (.int n), some (.long r6), none, some (.int (0 : Int32)), none]) d_X2_oddsWith_7 (by decide) rfl ?_
  refine g_iconst (v := 0) d_X2_oddsWith_9 kI_0 ?_
  refine g_istore (L' := [some (.ref 57), some (.int k), some (.int n), some (.long r6), none, some (.int (0 : Int32)), some (.int (0 : Int32))]) d_X2_oddsWith_10 (by decide) rfl ?_
  obtain ⟨Kf0, hKf0, hF⟩ := fe_kx (f := fun K => fl_X2_oddsWith_12_0 k I1 J2 r6 K (mU (29 : Int32) ((0 : Int32)) + 1) (0 : Int32) (0 : Int32)) hF
  have K_12 : ∀ (nu : Nat) (x9 : Int32) (x10 : Int32), mU (29 : Int32) x10 = nu → ((0 : Int32) ≤ x10) → (∃ kq : Nat, nu < kq ∧ (fun kq => FE (fn_X2_oddsWith k n I J) (fun _ => fl_X2_oddsWith_12_0 k I1 J2 r6 Kf0 kq x9 x10)) kq) → G m_X2_oddsWith (rq m_X2_oddsWith (fun r S' I' J' => S' = SHF ∧ XT I' J' = XT I J ∧ ∃ v : Int32, r = some (.int v) ∧ fn_X2_oddsWith k n I J = (v, I', J'))) 0 0 12 [some (.ref 57), some (.int k), some (.int n), some (.long r6), none, some (.int x9), some (.int x10)] [] SHF I1 J2 := by
    intro nu
    induction nu using Nat.strongRecOn with
    | ind nu ih_12 =>
      intro x9 x10 hmu_12 hl11 hF_Kf0
      obtain ⟨kf0, hkf0, hF⟩ := fe_fu (P := fun kq => FE (fn_X2_oddsWith k n I J) (fun _ => fl_X2_oddsWith_12_0 k I1 J2 r6 Kf0 kq x9 x10)) hF_Kf0
      replace hF := fe_eq hF (fl_X2_oddsWith_12_0.eq_2 _ _ _ _ _ _ _ _)
      refine g_iload d_X2_oddsWith_12 rfl ?_
      refine g_gets (j := 3) d_X2_oddsWith_14 rfl sl_RX2_28 ?_
      refine g_tlen (j := 3) (v := 29) d_X2_oddsWith_17 rfl rfl ?_
      refine g_icmp_ge d_X2_oddsWith_18 (fun h18 => ?_) (fun h18 => ?_)
      · skip
        replace hF := fe_pos hF h18
        replace hF := fe_eq hF (congrFun (congrFun hKf0 x9) x10)
        refine g_iload d_X2_oddsWith_52 rfl ?_
        exact g_ireturn d_X2_oddsWith_54 rfl rfl rfl rfl ⟨rfl, hK8, x9, rfl, hF⟩
      · skip
        replace hF := fe_neg hF h18
        refine g_gets (j := 3) d_X2_oddsWith_21 rfl sl_RX2_28 ?_
        refine g_iload d_X2_oddsWith_24 rfl ?_
        refine g_tload (j := 3) (N := 29) d_X2_oddsWith_26 rfl kT_29 ⟨hl11, Int32.not_le.mp h18⟩ rfl ?_
        refine g_topI (fun t12 et12 => ?_)
        replace hF := fe_lt hF et12
        refine g_iload_n d_X2_oddsWith_27 rfl ?_
        refine g_ishr d_X2_oddsWith_28 ?_
        refine g_iconst (v := 1) d_X2_oddsWith_29 kI_1 ?_
        refine g_iand d_X2_oddsWith_30 ?_
        refine g_if_eq d_X2_oddsWith_31 (fun h31 => ?_) (fun h31 => ?_)
        · skip
          replace hF := fe_pos hF h31
          refine g_iinc (v := (x10 + (1 : Int32))) (L' := [some (.ref 57), some (.int k), some (.int n), some (.long r6), none, some (.int x9), some (.int (x10 + (1 : Int32)))]) d_X2_oddsWith_46 rfl (by rw [kI_1]) (by decide) rfl ?_
          refine g_goto d_X2_oddsWith_49 ?_
          exact ih_12 _ (by rw [← hmu_12]; exact mu_up h18) x9 (x10 + (1 : Int32)) rfl (lo_up hl11 h18) ⟨kf0, Nat.lt_of_lt_of_le (by rw [← hmu_12]; exact mu_up h18) hkf0, hF⟩
        · skip
          replace hF := fe_neg hF h31
          refine g_iload d_X2_oddsWith_34 rfl ?_
          refine g_aload_n d_X2_oddsWith_36 rfl ?_
          refine g_iload d_X2_oddsWith_37 rfl ?_
          refine g_lload_n d_X2_oddsWith_39 rfl ?_
          refine g_V2 d_X2_oddsWith_40 cs_X2_oddsWith_X2_share lk_RX2_52 im_X2_share se_X2_share rfl rfl rfl (Nat.le_of_ble_eq_true rfl) ⟨rfl, rfl⟩ ⟨Nat.zero_le _, Nat.zero_le _⟩ (ct_X2_share x10 r6 I1 J2 ) (fun r40 S40 Ic14 Jc15 q40_12 => ?_)
          obtain ⟨rfl, rfl, rfl, r18, rfl, hf40_16⟩ := q40_12
          replace hF := fe_b3 hF hf40_16
          refine g_st (st' := [.int r18, .int x9]) rfl ?_
          refine g_iadd d_X2_oddsWith_43 ?_
          refine g_topI (fun v20 ev20 => ?_)
          replace hF := fe_lt hF ev20
          refine g_istore (L' := [some (.ref 57), some (.int k), some (.int n), some (.long r6), none, some (.int v20), some (.int x10)]) d_X2_oddsWith_44 (by decide) rfl ?_
          refine g_iinc (v := (x10 + (1 : Int32))) (L' := [some (.ref 57), some (.int k), some (.int n), some (.long r6), none, some (.int v20), some (.int (x10 + (1 : Int32)))]) d_X2_oddsWith_46 rfl (by rw [kI_1]) (by decide) rfl ?_
          refine g_goto d_X2_oddsWith_49 ?_
          exact ih_12 _ (by rw [← hmu_12]; exact mu_up h18) v20 (x10 + (1 : Int32)) rfl (lo_up hl11 h18) ⟨kf0, Nat.lt_of_lt_of_le (by rw [← hmu_12]; exact mu_up h18) hkf0, hF⟩
  exact K_12 _ (0 : Int32) (0 : Int32) rfl (Int32.le_refl _) ⟨_, Nat.lt_succ_self _, hF⟩
noncomputable def fn_X2_howMuchTells (what : Int32) (n : Int32) (I : Iv) (J : Jv) : Int32 × Iv × Jv :=
  b_n3 (fn_X2_weighAll n I J) (fun (r6 : Int64) (I1 : Iv) (J2 : Jv) => b_n3 (fn_X2_tellingBy what n r6 I1 J2) (fun (r14 : Int32) (I9 : Iv) (J10 : Jv) => (r14, I9, J10)))
set_option maxRecDepth 100000 in
set_option maxHeartbeats 4000000 in
theorem ct_X2_howMuchTells (what : Int32) (n : Int32) (I : Iv) (J : Jv) (hpri : PRI I) (hwh : 0 ≤ what ∧ what < 7) : Ct m_X2_howMuchTells [.ref 57, .int what, .int n] SHF I J (fun r S' I' J' => S' = SHF ∧ XT I' J' = XT I J ∧ ∃ v : Int32, r = some (.int v) ∧ fn_X2_howMuchTells what n I J = (v, I', J')) := by
  refine ct_of 0 (by decide +kernel) rfl rfl ?_
  have hK0 : XT I J = XT I J := rfl
  have hF := fe_of (fn_X2_howMuchTells.eq_1 what n I J)
  refine g_aload_n d_X2_howMuchTells_0 rfl ?_
  refine g_iload_n d_X2_howMuchTells_1 rfl ?_
  refine g_iload_n d_X2_howMuchTells_2 rfl ?_
  refine g_aload_n d_X2_howMuchTells_3 rfl ?_
  refine g_iload_n d_X2_howMuchTells_4 rfl ?_
  refine g_V1 d_X2_howMuchTells_5 cs_X2_howMuchTells_X2_weighAll lk_RX2_48 im_X2_weighAll se_X2_weighAll rfl rfl rfl (Nat.le_of_ble_eq_true rfl) ⟨rfl, rfl⟩ ⟨Nat.zero_le _, Nat.zero_le _⟩ (ct_X2_weighAll n I J hpri) (fun r5 S5 I1 J2 q5_2 => ?_)
  obtain ⟨rfl, hc5_3, r6, rfl, hf5_4, hr5_6⟩ := q5_2
  replace hF := fe_b3 hF hf5_4
  refine g_st (st' := [.long r6, .int n, .int what, .ref 57]) rfl ?_
  have hK8 : XT I1 J2 = XT I J := hc5_3.trans hK0
  refine g_V3 d_X2_howMuchTells_8 cs_X2_howMuchTells_X2_tellingBy lk_RX2_56 im_X2_tellingBy se_X2_tellingBy rfl rfl rfl (Nat.le_of_ble_eq_true rfl) ⟨rfl, rfl⟩ ⟨Nat.zero_le _, Nat.zero_le _⟩ (ct_X2_tellingBy what n r6 I1 J2 hwh (by grind)) (fun r8 S8 I9 J10 q8_10 => ?_)
  obtain ⟨rfl, hc8_11, r14, rfl, hf8_12⟩ := q8_10
  replace hF := fe_b3 hF hf8_12
  refine g_st (st' := [.int r14]) rfl ?_
  have hK16 : XT I9 J10 = XT I J := hc8_11.trans hK8
  exact g_ireturn d_X2_howMuchTells_11 rfl rfl rfl rfl ⟨rfl, hK16, r14, rfl, hF⟩
noncomputable def fl_X2_nextSign_15_0 (n : Int32) (r6 : Int64) (Kf0 : Int32 → Int32 → Int32 → Iv → Jv → Int32 × Iv × Jv) : Nat → Int32 → Int32 → Int32 → Iv → Jv → Int32 × Iv × Jv
  | 0, x9, x10, x11, I12, J13 => (0, I12, J13)
  | kf0 + 1, x9, x10, x11, I12, J13 => if (7 : Int32) ≤ x11 then Kf0 x9 x10 x11 I12 J13 else if (I12 58 x11.toNatClampNeg) = 0 then b_n3 (fn_X2_tellingBy x11 n r6 I12 J13) (fun (r21 : Int32) (I16 : Iv) (J17 : Jv) => l_t ((r21 - (I16 62 x11.toNatClampNeg))) (fun (v24 : Int32) => j_n (fl_X2_nextSign_15_0 n r6 Kf0 kf0 x11 v24 (x11 + (1 : Int32)) I16 J17) (fun (j66_1 : Int32 × Iv × Jv) => if x9 = (-1 : Int32) then j66_1 else if v24 ≤ x10 then fl_X2_nextSign_15_0 n r6 Kf0 kf0 x9 x10 (x11 + (1 : Int32)) I16 J17 else j66_1))) else fl_X2_nextSign_15_0 n r6 Kf0 kf0 x9 x10 (x11 + (1 : Int32)) I12 J13
noncomputable def fn_X2_nextSign (n : Int32) (I : Iv) (J : Jv) : Int32 × Iv × Jv :=
  b_n3 (fn_X2_weighAll n I J) (fun (r6 : Int64) (I1 : Iv) (J2 : Jv) => fl_X2_nextSign_15_0 n r6 (fun (x9 : Int32) (x10 : Int32) (x11 : Int32) (I12 : Iv) (J13 : Jv) => (x9, I12, J13)) (mU (7 : Int32) ((0 : Int32)) + 1) (-1 : Int32) (0 : Int32) (0 : Int32) I1 J2)
set_option maxRecDepth 100000 in
set_option maxHeartbeats 4000000 in
theorem ct_X2_nextSign (n : Int32) (I : Iv) (J : Jv) (hpri : PRI I) : Ct m_X2_nextSign [.ref 57, .int n] SHF I J (fun r S' I' J' => S' = SHF ∧ XT I' J' = XT I J ∧ ∃ v : Int32, r = some (.int v) ∧ fn_X2_nextSign n I J = (v, I', J')) := by
  refine ct_of 6 (by decide +kernel) rfl rfl ?_
  have hK0 : XT I J = XT I J := rfl
  have hF := fe_of (fn_X2_nextSign.eq_1 n I J)
  refine g_aload_n d_X2_nextSign_0 rfl ?_
  refine g_iload_n d_X2_nextSign_1 rfl ?_
  refine g_V1 d_X2_nextSign_2 cs_X2_nextSign_X2_weighAll lk_RX2_48 im_X2_weighAll se_X2_weighAll rfl rfl rfl (Nat.le_of_ble_eq_true rfl) ⟨rfl, rfl⟩ ⟨Nat.zero_le _, Nat.zero_le _⟩ (ct_X2_weighAll n I J hpri) (fun r2 S2 I1 J2 q2_2 => ?_)
  obtain ⟨rfl, hc2_3, r6, rfl, hf2_4, hr2_6⟩ := q2_2
  replace hF := fe_b3 hF hf2_4
  refine g_st (st' := [.long r6]) rfl ?_
  have hK8 : XT I1 J2 = XT I J := hc2_3.trans hK0
  refine g_lstore_n (L' := [some (.ref 57), some (.int n), some (.long r6), none, none, none, none, none]) d_X2_nextSign_5 (by decide) rfl ?_
  refine g_iconst (v := -1) d_X2_nextSign_6 kI_m1 ?_
  refine g_istore (L' := [some (.ref 57), some (.int n), some (.long r6), none, some (.int (-1 : Int32)), none, none, none]) d_X2_nextSign_7 (by decide) rfl ?_
  refine g_iconst (v := 0) d_X2_nextSign_9 kI_0 ?_
  refine g_istore (L' := [some (.ref 57), some (.int n), some (.long r6), none, some (.int (-1 : Int32)), some (.int (0 : Int32)), none, none]) d_X2_nextSign_10 (by decide) rfl ?_
  refine g_iconst (v := 0) d_X2_nextSign_12 kI_0 ?_
  refine g_istore (L' := [some (.ref 57), some (.int n), some (.long r6), none, some (.int (-1 : Int32)), some (.int (0 : Int32)), some (.int (0 : Int32)), none]) d_X2_nextSign_13 (by decide) rfl ?_
  obtain ⟨Kf0, hKf0, hF⟩ := fe_kx (f := fun K => fl_X2_nextSign_15_0 n r6 K (mU (7 : Int32) ((0 : Int32)) + 1) (-1 : Int32) (0 : Int32) (0 : Int32) I1 J2) hF
  have K_15 : ∀ (nu : Nat) (x9 : Int32) (x10 : Int32) (x11 : Int32) (I12 : Iv) (J13 : Jv), mU (7 : Int32) x11 = nu → (XT I12 J13 = XT I J) → ((0 : Int32) ≤ x11) → (∃ kq : Nat, nu < kq ∧ (fun kq => FE (fn_X2_nextSign n I J) (fun _ => fl_X2_nextSign_15_0 n r6 Kf0 kq x9 x10 x11 I12 J13)) kq) → G m_X2_nextSign (rq m_X2_nextSign (fun r S' I' J' => S' = SHF ∧ XT I' J' = XT I J ∧ ∃ v : Int32, r = some (.int v) ∧ fn_X2_nextSign n I J = (v, I', J'))) 0 0 15 [some (.ref 57), some (.int n), some (.long r6), none, some (.int x9), some (.int x10), some (.int x11), none] [] SHF I12 J13 := by
    intro nu
    induction nu using Nat.strongRecOn with
    | ind nu ih_15 =>
      intro x9 x10 x11 I12 J13 hmu_15 hK14 hl15 hF_Kf0
      obtain ⟨kf0, hkf0, hF⟩ := fe_fu (P := fun kq => FE (fn_X2_nextSign n I J) (fun _ => fl_X2_nextSign_15_0 n r6 Kf0 kq x9 x10 x11 I12 J13)) hF_Kf0
      replace hF := fe_eq hF (fl_X2_nextSign_15_0.eq_2 _ _ _ _ _ _ _ _ _)
      refine g_iload d_X2_nextSign_15 rfl ?_
      refine g_bipush (v := 7) d_X2_nextSign_17 kB_7 ?_
      refine g_icmp_ge d_X2_nextSign_19 (fun h19 => ?_) (fun h19 => ?_)
      · skip
        replace hF := fe_pos hF h19
        replace hF := fe_eq hF (congrFun (congrFun (congrFun (congrFun (congrFun hKf0 x9) x10) x11) I12) J13)
        refine g_iload d_X2_nextSign_80 rfl ?_
        exact g_ireturn d_X2_nextSign_82 rfl rfl rfl rfl ⟨rfl, hK14, x9, rfl, hF⟩
      · skip
        replace hF := fe_neg hF h19
        refine g_aload_n d_X2_nextSign_22 rfl ?_
        refine g_getR d_X2_nextSign_23 fq_RX2_9 rfl rfl ?_
        refine g_iload d_X2_nextSign_26 rfl ?_
        refine g_baload (N := 7) d_X2_nextSign_28 rfl kT_7 ⟨hl15, Int32.not_le.mp h19⟩ rfl (fun hz28 => ?_)
        refine g_if_eq d_X2_nextSign_29 (fun h29 => ?_) (fun h29 => ?_)
        · skip
          replace hF := fe_pos hF h29
          refine g_aload_n d_X2_nextSign_35 rfl ?_
          refine g_iload d_X2_nextSign_36 rfl ?_
          refine g_iload_n d_X2_nextSign_38 rfl ?_
          refine g_lload_n d_X2_nextSign_39 rfl ?_
          refine g_V3 d_X2_nextSign_40 cs_X2_nextSign_X2_tellingBy lk_RX2_56 im_X2_tellingBy se_X2_tellingBy rfl rfl rfl (Nat.le_of_ble_eq_true rfl) ⟨rfl, rfl⟩ ⟨Nat.zero_le _, Nat.zero_le _⟩ (ct_X2_tellingBy x11 n r6 I12 J13 (by grind) (by grind)) (fun r40 S40 I16 J17 q40_17 => ?_)
          obtain ⟨rfl, hc40_18, r21, rfl, hf40_19⟩ := q40_17
          replace hF := fe_b3 hF hf40_19
          refine g_st (st' := [.int r21]) rfl ?_
          have hK23 : XT I16 J17 = XT I J := hc40_18.trans hK14
          refine g_aload_n d_X2_nextSign_43 rfl ?_
          refine g_getR d_X2_nextSign_44 fq_RX2_25 rfl rfl ?_
          refine g_iload d_X2_nextSign_47 rfl ?_
          refine g_iaload (N := 7) d_X2_nextSign_49 rfl kT_7 ⟨hl15, Int32.not_le.mp h19⟩ rfl ?_
          refine g_isub d_X2_nextSign_50 ?_
          refine g_topI (fun v24 ev24 => ?_)
          replace hF := fe_lt hF ev24
          refine g_istore (L' := [some (.ref 57), some (.int n), some (.long r6), none, some (.int x9), some (.int x10), some (.int x11), some (.int v24)]) d_X2_nextSign_51 (by decide) rfl ?_
          refine g_iload d_X2_nextSign_53 rfl ?_
          refine g_iconst (v := -1) d_X2_nextSign_55 kI_m1 ?_
          obtain ⟨j66_1, hj66_1, hF⟩ := fe_jx hF
          have J_66 : (FE (fn_X2_nextSign n I J) (fun _ => j66_1)) → G m_X2_nextSign (rq m_X2_nextSign (fun r S' I' J' => S' = SHF ∧ XT I' J' = XT I J ∧ ∃ v : Int32, r = some (.int v) ∧ fn_X2_nextSign n I J = (v, I', J'))) 0 0 66 [some (.ref 57), some (.int n), some (.long r6), none, some (.int x9), some (.int x10), some (.int x11), some (.int v24)] [] SHF I16 J17 := by
            intro hF_j66_1
            have hF := fe_eq hF_j66_1 hj66_1
            refine g_iload d_X2_nextSign_66 rfl ?_
            refine g_istore (L' := [some (.ref 57), some (.int n), some (.long r6), none, some (.int x11), some (.int x10), some (.int x11), some (.int v24)]) d_X2_nextSign_68 (by decide) rfl ?_
            refine g_iload d_X2_nextSign_70 rfl ?_
            refine g_istore (L' := [some (.ref 57), some (.int n), some (.long r6), none, some (.int x11), some (.int v24), some (.int x11), some (.int v24)]) d_X2_nextSign_72 (by decide) rfl ?_
            refine g_iinc (v := (x11 + (1 : Int32))) (L' := [some (.ref 57), some (.int n), some (.long r6), none, some (.int x11), some (.int v24), some (.int (x11 + (1 : Int32))), some (.int v24)]) d_X2_nextSign_74 rfl (by rw [kI_1]) (by decide) rfl ?_
            refine g_goto d_X2_nextSign_77 ?_
            refine g_sb [some (.ref 57), some (.int n), some (.long r6), none, some (.int x11), some (.int v24), some (.int (x11 + (1 : Int32))), none] (by simp [subL]) ?_
            exact ih_15 _ (by rw [← hmu_15]; exact mu_up h19) x11 v24 (x11 + (1 : Int32)) I16 J17 rfl hK23 (lo_up hl15 h19) ⟨kf0, Nat.lt_of_lt_of_le (by rw [← hmu_15]; exact mu_up h19) hkf0, hF⟩
          refine g_icmp_eq d_X2_nextSign_56 (fun h56 => ?_) (fun h56 => ?_)
          · skip
            replace hF := fe_pos hF h56
            exact J_66 hF
          · skip
            replace hF := fe_neg hF h56
            refine g_iload d_X2_nextSign_59 rfl ?_
            refine g_iload d_X2_nextSign_61 rfl ?_
            refine g_icmp_le d_X2_nextSign_63 (fun h63 => ?_) (fun h63 => ?_)
            · skip
              replace hF := fe_pos hF h63
              refine g_iinc (v := (x11 + (1 : Int32))) (L' := [some (.ref 57), some (.int n), some (.long r6), none, some (.int x9), some (.int x10), some (.int (x11 + (1 : Int32))), some (.int v24)]) d_X2_nextSign_74 rfl (by rw [kI_1]) (by decide) rfl ?_
              refine g_goto d_X2_nextSign_77 ?_
              refine g_sb [some (.ref 57), some (.int n), some (.long r6), none, some (.int x9), some (.int x10), some (.int (x11 + (1 : Int32))), none] (by simp [subL]) ?_
              exact ih_15 _ (by rw [← hmu_15]; exact mu_up h19) x9 x10 (x11 + (1 : Int32)) I16 J17 rfl hK23 (lo_up hl15 h19) ⟨kf0, Nat.lt_of_lt_of_le (by rw [← hmu_15]; exact mu_up h19) hkf0, hF⟩
            · skip
              replace hF := fe_neg hF h63
              exact J_66 hF
        · skip
          replace hF := fe_neg hF h29
          refine g_goto d_X2_nextSign_32 ?_
          refine g_iinc (v := (x11 + (1 : Int32))) (L' := [some (.ref 57), some (.int n), some (.long r6), none, some (.int x9), some (.int x10), some (.int (x11 + (1 : Int32))), none]) d_X2_nextSign_74 rfl (by rw [kI_1]) (by decide) rfl ?_
          refine g_goto d_X2_nextSign_77 ?_
          exact ih_15 _ (by rw [← hmu_15]; exact mu_up h19) x9 x10 (x11 + (1 : Int32)) I12 J13 rfl hK14 (lo_up hl15 h19) ⟨kf0, Nat.lt_of_lt_of_le (by rw [← hmu_15]; exact mu_up h19) hkf0, hF⟩
  exact K_15 _ (-1 : Int32) (0 : Int32) (0 : Int32) I1 J2 rfl hK8 (Int32.le_refl _) ⟨_, Nat.lt_succ_self _, hF⟩
