noncomputable def fn_X1_forgetSigns (I : Iv) (J : Jv) : Iv × Jv :=
  l_t (cI I 55 128 (fun _ => (0 : Int32))) (fun (I1 : Iv) => l_t J (fun (J2 : Jv) => (I1, J2)))
set_option maxRecDepth 100000 in
set_option maxHeartbeats 4000000 in
theorem ct_X1_forgetSigns  (I : Iv) (J : Jv)  : Ct m_X1_forgetSigns [.ref 45] SHF I J (fun r S' I' J' => S' = SHF ∧ XT I' J' = XT I J ∧ r = none ∧ fn_X1_forgetSigns I J = (I', J')) := by
  refine ct_of 0 (by decide +kernel) rfl rfl ?_
  have hK0 : XT I J = XT I J := rfl
  have hF := fe_of (fn_X1_forgetSigns.eq_1 I J)
  refine g_aload_n d_X1_forgetSigns_0 rfl ?_
  refine g_getR d_X1_forgetSigns_1 fq_RX1_18 rfl rfl ?_
  refine g_iconst (v := 0) d_X1_forgetSigns_4 kI_0 ?_
  refine g_S2 d_X1_forgetSigns_5 cs_X1_forgetSigns_J7_fill_53178 lk_RX1_29 im_J7_fill_53178 (Nat.le_of_ble_eq_true rfl) ⟨rfl, rfl⟩ ⟨Nat.zero_le _, Nat.zero_le _⟩ (ct_fillI SHF rfl kT_128 (by decide) (0 : Int32) I J) (fun r5 S5 I1 J2 q5_2 => ?_)
  obtain ⟨rfl, hc5_3, rfl⟩ := q5_2
  replace hF := fe_lt hF hc5_3.2
  replace hF := fe_lt hF hc5_3.1.symm
  refine g_st (st' := []) rfl ?_
  have hK7 : XT I1 J2 = XT I J := (by obtain ⟨e1, e2⟩ := hc5_3; rw [← e1, e2]; exact (xt_rowI rfl (fun b hb => cI_row hb)).trans hK0)
  exact g_return d_X1_forgetSigns_8 rfl rfl rfl ⟨rfl, hK7, rfl, hF⟩
noncomputable def fn_X1_placeOf (set : Int32) (n : Int32) (I : Iv) (J : Jv) : Int32 × Iv × Jv :=
  (((((set * (6 : Int32)) + n) - (1 : Int32)) * (7 : Int32)), I, J)
set_option maxRecDepth 100000 in
set_option maxHeartbeats 4000000 in
theorem ct_X1_placeOf (set : Int32) (n : Int32) (I : Iv) (J : Jv)  : Ct m_X1_placeOf [.int set, .int n] SHF I J (fun r S' I' J' => S' = SHF ∧ I = I' ∧ J = J' ∧ ∃ v : Int32, r = some (.int v) ∧ fn_X1_placeOf set n I J = (v, I', J') ∧ v = (set * 6 + n - 1) * 7) := by
  refine ct_of 0 (by decide +kernel) rfl rfl ?_
  have hF := fe_of (fn_X1_placeOf.eq_1 set n I J)
  refine g_iload_n d_X1_placeOf_0 rfl ?_
  refine g_bipush (v := 6) d_X1_placeOf_1 kB_6 ?_
  refine g_imul d_X1_placeOf_3 ?_
  refine g_iload_n d_X1_placeOf_4 rfl ?_
  refine g_iadd d_X1_placeOf_5 ?_
  refine g_iconst (v := 1) d_X1_placeOf_6 kI_1 ?_
  refine g_isub d_X1_placeOf_7 ?_
  refine g_bipush (v := 7) d_X1_placeOf_8 kB_7 ?_
  refine g_imul d_X1_placeOf_10 ?_
  exact g_ireturn d_X1_placeOf_11 rfl rfl rfl rfl ⟨rfl, rfl, rfl, ((((set * (6 : Int32)) + n) - (1 : Int32)) * (7 : Int32)), rfl, hF, rfl⟩
noncomputable def fn_X1_signOf (set : Int32) (n : Int32) (what : Int32) (I : Iv) (J : Jv) : Int32 × Iv × Jv :=
  b_n3 (fn_X9_isSet set I J) (fun (r6 : Int32) (_ : Iv) (_ : Jv) => if r6 = 0 then ((0 : Int32), I, J) else b_n3 (fn_X9_areSignDays n I J) (fun (r13 : Int32) (_ : Iv) (_ : Jv) => if r13 = 0 then ((0 : Int32), I, J) else b_n3 (fn_X9_isSign what I J) (fun (r20 : Int32) (_ : Iv) (_ : Jv) => if r20 = 0 then ((0 : Int32), I, J) else b_n3 (fn_X1_placeOf set n I J) (fun (r27 : Int32) (_ : Iv) (_ : Jv) => ((I 56 ((r27 + what)).toNatClampNeg), I, J)))))
set_option maxRecDepth 100000 in
set_option maxHeartbeats 4000000 in
theorem ct_X1_signOf (set : Int32) (n : Int32) (what : Int32) (I : Iv) (J : Jv)  : Ct m_X1_signOf [.ref 45, .int set, .int n, .int what] SHF I J (fun r S' I' J' => S' = SHF ∧ I = I' ∧ J = J' ∧ ∃ v : Int32, r = some (.int v) ∧ fn_X1_signOf set n what I J = (v, I', J')) := by
  refine ct_of 0 (by decide +kernel) rfl rfl ?_
  have hF := fe_of (fn_X1_signOf.eq_1 set n what I J)
  refine g_iload_n d_X1_signOf_0 rfl ?_
  refine g_S1 d_X1_signOf_1 cs_X1_signOf_X9_isSet lk_RX1_35 im_X9_isSet (Nat.le_of_ble_eq_true rfl) ⟨rfl, rfl⟩ ⟨Nat.zero_le _, Nat.zero_le _⟩ (ct_X9_isSet set I J ) (fun r1 S1 Ic2 Jc3 q1_0 => ?_)
  obtain ⟨rfl, rfl, rfl, r6, rfl, hz1, hf1_4, hr1_6⟩ := q1_0
  replace hF := fe_b3 hF hf1_4
  refine g_st (st' := [.int r6]) rfl ?_
  refine g_if_eq d_X1_signOf_4 (fun h4 => ?_) (fun h4 => ?_)
  · skip
    replace hF := fe_pos hF h4
    refine g_iconst (v := 0) d_X1_signOf_21 kI_0 ?_
    exact g_ireturn d_X1_signOf_22 rfl rfl rfl rfl ⟨rfl, rfl, rfl, (0 : Int32), rfl, hF⟩
  · skip
    replace hF := fe_neg hF h4
    refine g_iload_n d_X1_signOf_7 rfl ?_
    refine g_S1 d_X1_signOf_8 cs_X1_signOf_X9_areSignDays lk_RX1_39 im_X9_areSignDays (Nat.le_of_ble_eq_true rfl) ⟨rfl, rfl⟩ ⟨Nat.zero_le _, Nat.zero_le _⟩ (ct_X9_areSignDays n I J ) (fun r8 S8 Ic9 Jc10 q8_7 => ?_)
    obtain ⟨rfl, rfl, rfl, r13, rfl, hz8, hf8_11, hr8_13⟩ := q8_7
    replace hF := fe_b3 hF hf8_11
    refine g_st (st' := [.int r13]) rfl ?_
    refine g_if_eq d_X1_signOf_11 (fun h11 => ?_) (fun h11 => ?_)
    · skip
      replace hF := fe_pos hF h11
      refine g_iconst (v := 0) d_X1_signOf_21 kI_0 ?_
      exact g_ireturn d_X1_signOf_22 rfl rfl rfl rfl ⟨rfl, rfl, rfl, (0 : Int32), rfl, hF⟩
    · skip
      replace hF := fe_neg hF h11
      refine g_iload_n d_X1_signOf_14 rfl ?_
      refine g_S1 d_X1_signOf_15 cs_X1_signOf_X9_isSign lk_RX1_42 im_X9_isSign (Nat.le_of_ble_eq_true rfl) ⟨rfl, rfl⟩ ⟨Nat.zero_le _, Nat.zero_le _⟩ (ct_X9_isSign what I J ) (fun r15 S15 Ic16 Jc17 q15_14 => ?_)
      obtain ⟨rfl, rfl, rfl, r20, rfl, hz15, hf15_18, hr15_20⟩ := q15_14
      replace hF := fe_b3 hF hf15_18
      refine g_st (st' := [.int r20]) rfl ?_
      refine g_if_ne d_X1_signOf_18 (fun h18 => ?_) (fun h18 => ?_)
      · skip
        replace hF := fe_neg hF h18
        refine g_aload_n d_X1_signOf_23 rfl ?_
        refine g_getR d_X1_signOf_24 fq_RX1_22 rfl rfl ?_
        refine g_iload_n d_X1_signOf_27 rfl ?_
        refine g_iload_n d_X1_signOf_28 rfl ?_
        refine g_S2 d_X1_signOf_29 cs_X1_signOf_X1_placeOf lk_RX1_45 im_X1_placeOf (Nat.le_of_ble_eq_true rfl) ⟨rfl, rfl⟩ ⟨Nat.zero_le _, Nat.zero_le _⟩ (ct_X1_placeOf set n I J ) (fun r29 S29 Ic23 Jc24 q29_21 => ?_)
        obtain ⟨rfl, rfl, rfl, r27, rfl, hf29_25, hr29_27⟩ := q29_21
        replace hF := fe_b3 hF hf29_25
        refine g_st (st' := [.int r27, .ref 56]) rfl ?_
        refine g_iload_n d_X1_signOf_32 rfl ?_
        refine g_iadd d_X1_signOf_33 ?_
        refine g_iaload (N := 5376) d_X1_signOf_34 rfl kT_5376 (by constructor <;> grind) rfl ?_
        exact g_ireturn d_X1_signOf_35 rfl rfl rfl rfl ⟨rfl, rfl, rfl, (I 56 ((r27 + what)).toNatClampNeg), rfl, hF⟩
      · skip
        replace hF := fe_pos hF h18
        refine g_iconst (v := 0) d_X1_signOf_21 kI_0 ?_
        exact g_ireturn d_X1_signOf_22 rfl rfl rfl rfl ⟨rfl, rfl, rfl, (0 : Int32), rfl, hF⟩
noncomputable def fn_X1_begin (set : Int32) (cur : Int32) (I : Iv) (J : Jv) : Iv × Jv :=
  l_t (wI I 46 8 set) (fun (I1 : Iv) => l_t (wI I1 46 12 cur) (fun (I3 : Iv) => b_n2 (fn_X6_becomeFresh 46 I3 J) (fun (I5 : Iv) (J6 : Jv) => (I5, J6))))
set_option maxRecDepth 100000 in
set_option maxHeartbeats 4000000 in
theorem ct_X1_begin (set : Int32) (cur : Int32) (I : Iv) (J : Jv) (hc : cur = 0 ∨ cur = 1) : Ct m_X1_begin [.ref 45, .int set, .int cur] SHF I J (fun r S' I' J' => S' = SHF ∧ XT I' J' = XT I J ∧ r = none ∧ fn_X1_begin set cur I J = (I', J')) := by
  refine ct_of 0 (by decide +kernel) rfl rfl ?_
  have hK0 : XT I J = XT I J := rfl
  have hF := fe_of (fn_X1_begin.eq_1 set cur I J)
  refine g_aload_n d_X1_begin_0 rfl ?_
  refine g_getR d_X1_begin_1 fq_RX1_12 rfl rfl ?_
  refine g_iload_n d_X1_begin_4 rfl ?_
  refine g_putI d_X1_begin_5 fq_RX1_90 rfl rfl ?_
  refine g_nmI (fun I1 eI1 => ?_)
  replace hF := fe_lt hF eI1
  have hK2 : XT I1 J = XT I J := (by rw [eI1]; exact (xt_wI rfl).trans hK0)
  refine g_aload_n d_X1_begin_8 rfl ?_
  refine g_getR d_X1_begin_9 fq_RX1_12 rfl rfl ?_
  refine g_iload_n d_X1_begin_12 rfl ?_
  refine g_putZ d_X1_begin_13 fq_RX1_94 rfl rfl (by assumption) ?_
  refine g_nmI (fun I3 eI3 => ?_)
  replace hF := fe_lt hF eI3
  have hK4 : XT I3 J = XT I J := (by rw [eI3]; exact (xt_wI rfl).trans hK2)
  refine g_aload_n d_X1_begin_16 rfl ?_
  refine g_getR d_X1_begin_17 fq_RX1_12 rfl rfl ?_
  refine g_V0 d_X1_begin_20 cs_X1_begin_X6_becomeFresh lk_RX1_98 im_X6_becomeFresh se_X6_becomeFresh rfl rfl rfl (Nat.le_of_ble_eq_true rfl) ⟨rfl, rfl⟩ ⟨Nat.zero_le _, Nat.zero_le _⟩ (ct_X6_becomeFresh  I3 J stA_46) (fun r20 S20 I5 J6 q20_6 => ?_)
  obtain ⟨rfl, hc20_7, rfl, hf20_8, hr20_9⟩ := q20_6
  replace hF := fe_b2 hF hf20_8
  refine g_st (st' := []) rfl ?_
  have hK11 : XT I5 J6 = XT I J := (xt_fsx (Or.inl rfl) hc20_7).trans hK4
  exact g_return d_X1_begin_23 rfl rfl rfl ⟨rfl, hK11, rfl, hF⟩
noncomputable def fl_X1_learn_148_1 (J33 : Jv) (r44 : Int32) (Kf1 : Int32 → Iv → Iv × Jv) : Nat → Int32 → Iv → Iv × Jv
  | 0, x50, I51 => (I51, J33)
  | kf1 + 1, x50, I51 => if (3 : Int32) ≤ x50 then Kf1 x50 I51 else b_n3 (fn_X6_warmthOf 46 x50 I51 J33) (fun (r63 : Int32) (_ : Iv) (_ : Jv) => l_t (wI I51 56 ((((r44 + (2 : Int32)) + x50)).toNatClampNeg) r63) (fun (I65 : Iv) => fl_X1_learn_148_1 J33 r44 Kf1 kf1 (x50 + (1 : Int32)) I65))
noncomputable def fl_X1_learn_33_0 (set : Int32) (n : Int32) (Kf0 : Int32 → Iv → Jv → Iv × Jv) : Nat → Int32 → Iv → Jv → Iv × Jv
  | 0, x22, I23, J24 => (I23, J24)
  | kf0 + 1, x22, I23, J24 => if n < x22 then Kf0 x22 I23 J24 else l_t ((I23 54 3)) (fun (v29 : Int32) => l_t ((I23 54 2)) (fun (v30 : Int32) => l_t ((I23 54 1)) (fun (v31 : Int32) => b_n2 (fn_X7_passByDay 46 (288 : Int32) (I23 8 8) I23 J24) (fun (I32 : Iv) (J33 : Jv) => b_n3 (fn_X1_placeOf set x22 I32 J33) (fun (r44 : Int32) (_ : Iv) (_ : Jv) => l_t (wI I32 56 (r44.toNatClampNeg) ((I32 54 3) - v29)) (fun (I46 : Iv) => l_t (wI I46 56 (((r44 + (1 : Int32))).toNatClampNeg) ((I46 54 2) - v30)) (fun (I48 : Iv) => fl_X1_learn_148_1 J33 r44 (fun (x50 : Int32) (I51 : Iv) => l_t (wI I51 56 (((r44 + (5 : Int32))).toNatClampNeg) (I51 54 5)) (fun (I54 : Iv) => l_t (wI I54 56 (((r44 + (6 : Int32))).toNatClampNeg) ((I54 54 1) - v31)) (fun (I56 : Iv) => fl_X1_learn_33_0 set n Kf0 kf0 (x22 + (1 : Int32)) I56 J33))) (mU (3 : Int32) ((0 : Int32)) + 1) (0 : Int32) I48)))))))
noncomputable def fn_X1_learn (set : Int32) (n : Int32) (I : Iv) (J : Jv) : Iv × Jv :=
  b_n3 (fn_X9_isSet set I J) (fun (r6 : Int32) (_ : Iv) (_ : Jv) => if r6 = 0 then (I, J) else b_n3 (fn_X9_areSignDays n I J) (fun (r13 : Int32) (_ : Iv) (_ : Jv) => if r13 = 0 then (I, J) else if (I 55 set.toNatClampNeg) < n then b_n2 (fn_X1_begin set (1 : Int32) I J) (fun (I15 : Iv) (J16 : Jv) => fl_X1_learn_33_0 set n (fun (x22 : Int32) (I23 : Iv) (J24 : Jv) => l_t (wI I23 55 (set.toNatClampNeg) n) (fun (I27 : Iv) => (I27, J24))) (mUe n ((1 : Int32)) + 1) (1 : Int32) I15 J16) else (I, J)))
set_option maxRecDepth 100000 in
set_option maxHeartbeats 4000000 in
theorem ct_X1_learn (set : Int32) (n : Int32) (I : Iv) (J : Jv)  : Ct m_X1_learn [.ref 45, .int set, .int n] SHF I J (fun r S' I' J' => S' = SHF ∧ XT I' J' = XT I J ∧ r = none ∧ fn_X1_learn set n I J = (I', J')) := by
  refine ct_of 6 (by decide +kernel) rfl rfl ?_
  have hK0 : XT I J = XT I J := rfl
  have hF := fe_of (fn_X1_learn.eq_1 set n I J)
  refine g_iload_n d_X1_learn_0 rfl ?_
  refine g_S1 d_X1_learn_1 cs_X1_learn_X9_isSet lk_RX1_35 im_X9_isSet (Nat.le_of_ble_eq_true rfl) ⟨rfl, rfl⟩ ⟨Nat.zero_le _, Nat.zero_le _⟩ (ct_X9_isSet set I J ) (fun r1 S1 Ic2 Jc3 q1_0 => ?_)
  obtain ⟨rfl, rfl, rfl, r6, rfl, hz1, hf1_4, hr1_6⟩ := q1_0
  replace hF := fe_b3 hF hf1_4
  refine g_st (st' := [.int r6]) rfl ?_
  refine g_if_eq d_X1_learn_4 (fun h4 => ?_) (fun h4 => ?_)
  · skip
    replace hF := fe_pos hF h4
    exact g_return d_X1_learn_24 rfl rfl rfl ⟨rfl, hK0, rfl, hF⟩
  · skip
    replace hF := fe_neg hF h4
    refine g_iload_n d_X1_learn_7 rfl ?_
    refine g_S1 d_X1_learn_8 cs_X1_learn_X9_areSignDays lk_RX1_39 im_X9_areSignDays (Nat.le_of_ble_eq_true rfl) ⟨rfl, rfl⟩ ⟨Nat.zero_le _, Nat.zero_le _⟩ (ct_X9_areSignDays n I J ) (fun r8 S8 Ic9 Jc10 q8_7 => ?_)
    obtain ⟨rfl, rfl, rfl, r13, rfl, hz8, hf8_11, hr8_13⟩ := q8_7
    replace hF := fe_b3 hF hf8_11
    refine g_st (st' := [.int r13]) rfl ?_
    refine g_if_eq d_X1_learn_11 (fun h11 => ?_) (fun h11 => ?_)
    · skip
      replace hF := fe_pos hF h11
      exact g_return d_X1_learn_24 rfl rfl rfl ⟨rfl, hK0, rfl, hF⟩
    · skip
      replace hF := fe_neg hF h11
      refine g_aload_n d_X1_learn_14 rfl ?_
      refine g_getR d_X1_learn_15 fq_RX1_18 rfl rfl ?_
      refine g_iload_n d_X1_learn_18 rfl ?_
      refine g_iaload (N := 128) d_X1_learn_19 rfl kT_128 (by constructor <;> grind) rfl ?_
      refine g_iload_n d_X1_learn_20 rfl ?_
      refine g_icmp_lt d_X1_learn_21 (fun h21 => ?_) (fun h21 => ?_)
      · skip
        replace hF := fe_pos hF h21
        refine g_aload_n d_X1_learn_25 rfl ?_
        refine g_iload_n d_X1_learn_26 rfl ?_
        refine g_iconst (v := 1) d_X1_learn_27 kI_1 ?_
        refine g_V2 d_X1_learn_28 cs_X1_learn_X1_begin lk_RX1_60 im_X1_begin se_X1_begin rfl rfl rfl (Nat.le_of_ble_eq_true rfl) ⟨rfl, rfl⟩ ⟨Nat.zero_le _, Nat.zero_le _⟩ (ct_X1_begin set (1 : Int32) I J (by grind)) (fun r28 S28 I15 J16 q28_16 => ?_)
        obtain ⟨rfl, hc28_17, rfl, hf28_18⟩ := q28_16
        replace hF := fe_b2 hF hf28_18
        refine g_st (st' := []) rfl ?_
        have hK21 : XT I15 J16 = XT I J := hc28_17.trans hK0
        refine g_iconst (v := 1) d_X1_learn_31 kI_1 ?_
        refine g_istore_n (L' := [some (.ref 45), some (.int set), some (.int n), some (.int (1 : Int32)), none, none, none, none, none]) d_X1_learn_32 (by decide) rfl ?_
        obtain ⟨Kf0, hKf0, hF⟩ := fe_kx (f := fun K => fl_X1_learn_33_0 set n K (mUe n ((1 : Int32)) + 1) (1 : Int32) I15 J16) hF
        have K_33 : ∀ (nu : Nat) (x22 : Int32) (I23 : Iv) (J24 : Jv), mUe n x22 = nu → (XT I23 J24 = XT I J) → ((1 : Int32) ≤ x22) → (∃ kq : Nat, nu < kq ∧ (fun kq => FE (fn_X1_learn set n I J) (fun _ => fl_X1_learn_33_0 set n Kf0 kq x22 I23 J24)) kq) → G m_X1_learn (rq m_X1_learn (fun r S' I' J' => S' = SHF ∧ XT I' J' = XT I J ∧ r = none ∧ fn_X1_learn set n I J = (I', J'))) 0 0 33 [some (.ref 45), some (.int set), some (.int n), some (.int x22), none, none, none, none, none] [] SHF I23 J24 := by
          intro nu
          induction nu using Nat.strongRecOn with
          | ind nu ih_33 =>
            intro x22 I23 J24 hmu_33 hK25 hl26 hF_Kf0
            obtain ⟨kf0, hkf0, hF⟩ := fe_fu (P := fun kq => FE (fn_X1_learn set n I J) (fun _ => fl_X1_learn_33_0 set n Kf0 kq x22 I23 J24)) hF_Kf0
            replace hF := fe_eq hF (fl_X1_learn_33_0.eq_2 _ _ _ _ _ _ _)
            refine g_iload_n d_X1_learn_33 rfl ?_
            refine g_iload_n d_X1_learn_34 rfl ?_
            refine g_icmp_gt d_X1_learn_35 (fun h35 => ?_) (fun h35 => ?_)
            · skip
              replace hF := fe_pos hF h35
              replace hF := fe_eq hF (congrFun (congrFun (congrFun hKf0 x22) I23) J24)
              refine g_aload_n d_X1_learn_227 rfl ?_
              refine g_getR d_X1_learn_228 fq_RX1_18 rfl rfl ?_
              refine g_iload_n d_X1_learn_231 rfl ?_
              refine g_iload_n d_X1_learn_232 rfl ?_
              refine g_iastore (N := 128) d_X1_learn_233 rfl kT_128 (by constructor <;> grind) rfl  ?_
              refine g_nmI (fun I27 eI27 => ?_)
              replace hF := fe_lt hF eI27
              have hK28 : XT I27 J24 = XT I J := (by rw [eI27]; exact (xt_wI rfl).trans hK25)
              exact g_return d_X1_learn_234 rfl rfl rfl ⟨rfl, hK28, rfl, hF⟩
            · skip
              replace hF := fe_neg hF h35
              refine g_aload_n d_X1_learn_38 rfl ?_
              refine g_getR d_X1_learn_39 fq_RX1_12 rfl rfl ?_
              refine g_getR d_X1_learn_42 fq_RX1_64 rfl rfl ?_
              refine g_iconst (v := 3) d_X1_learn_45 kI_3 ?_
              refine g_iaload (N := 8) d_X1_learn_46 rfl kT_8 ⟨by decide, by decide⟩ kN_3 ?_
              refine g_topI (fun v29 ev29 => ?_)
              replace hF := fe_lt hF ev29
              refine g_istore (L' := [some (.ref 45), some (.int set), some (.int n), some (.int x22), some (.int v29), none, none, none, none]) d_X1_learn_47 (by decide) rfl ?_
              refine g_aload_n d_X1_learn_49 rfl ?_
              refine g_getR d_X1_learn_50 fq_RX1_12 rfl rfl ?_
              refine g_getR d_X1_learn_53 fq_RX1_64 rfl rfl ?_
              refine g_iconst (v := 2) d_X1_learn_56 kI_2 ?_
              refine g_iaload (N := 8) d_X1_learn_57 rfl kT_8 ⟨by decide, by decide⟩ kN_2 ?_
              refine g_topI (fun v30 ev30 => ?_)
              replace hF := fe_lt hF ev30
              refine g_istore (L' := [some (.ref 45), some (.int set), some (.int n), some (.int x22), some (.int v29), some (.int v30), none, none, none]) d_X1_learn_58 (by decide) rfl ?_
              refine g_aload_n d_X1_learn_60 rfl ?_
              refine g_getR d_X1_learn_61 fq_RX1_12 rfl rfl ?_
              refine g_getR d_X1_learn_64 fq_RX1_64 rfl rfl ?_
              refine g_iconst (v := 1) d_X1_learn_67 kI_1 ?_
              refine g_iaload (N := 8) d_X1_learn_68 rfl kT_8 ⟨by decide, by decide⟩ kN_1 ?_
              refine g_topI (fun v31 ev31 => ?_)
              replace hF := fe_lt hF ev31
              refine g_istore (L' := [some (.ref 45), some (.int set), some (.int n), some (.int x22), some (.int v29), some (.int v30), some (.int v31), none, none]) d_X1_learn_69 (by decide) rfl ?_
              refine g_aload_n d_X1_learn_71 rfl ?_
              refine g_getR d_X1_learn_72 fq_RX1_25 rfl rfl ?_
              refine g_aload_n d_X1_learn_75 rfl ?_
              refine g_getR d_X1_learn_76 fq_RX1_12 rfl rfl ?_
              refine g_sipush (v := 288) d_X1_learn_79 kS_288 ?_
              refine g_aload_n d_X1_learn_82 rfl ?_
              refine g_getR d_X1_learn_83 fq_RX1_25 rfl rfl ?_
              refine g_getR d_X1_learn_86 fq_RX1_67 rfl rfl ?_
              refine g_getR d_X1_learn_89 fq_RX1_73 rfl rfl ?_
              refine g_bipush (v := 8) d_X1_learn_92 kB_8 ?_
              refine g_iaload (N := 15) d_X1_learn_94 rfl kT_15 ⟨by decide, by decide⟩ kN_8 ?_
              refine g_V3 d_X1_learn_95 cs_X1_learn_X7_passByDay lk_RX1_78 im_X7_passByDay se_X7_passByDay rfl rfl rfl (Nat.le_of_ble_eq_true rfl) ⟨rfl, rfl⟩ ⟨Nat.zero_le _, Nat.zero_le _⟩ (ct_X7_passByDay (288 : Int32) (I23 8 8) I23 J24 stA_46 (by grind)) (fun r95 S95 I32 J33 q95_33 => ?_)
              obtain ⟨rfl, hc95_34, rfl, hf95_35, hr95_36⟩ := q95_33
              replace hF := fe_b2 hF hf95_35
              refine g_st (st' := []) rfl ?_
              have hK38 : XT I32 J33 = XT I J := (xt_fsx (Or.inl rfl) hc95_34).trans hK25
              refine g_iload_n d_X1_learn_98 rfl ?_
              refine g_iload_n d_X1_learn_99 rfl ?_
              refine g_S2 d_X1_learn_100 cs_X1_learn_X1_placeOf lk_RX1_45 im_X1_placeOf (Nat.le_of_ble_eq_true rfl) ⟨rfl, rfl⟩ ⟨Nat.zero_le _, Nat.zero_le _⟩ (ct_X1_placeOf set x22 I32 J33 ) (fun r100 S100 Ic40 Jc41 q100_38 => ?_)
              obtain ⟨rfl, rfl, rfl, r44, rfl, hf100_42, hr100_44⟩ := q100_38
              replace hF := fe_b3 hF hf100_42
              refine g_st (st' := [.int r44]) rfl ?_
              refine g_istore (L' := [some (.ref 45), some (.int set), some (.int n), some (.int x22), some (.int v29), some (.int v30), some (.int v31), some (.int r44), none]) d_X1_learn_103 (by decide) rfl ?_
              refine g_aload_n d_X1_learn_105 rfl ?_
              refine g_getR d_X1_learn_106 fq_RX1_22 rfl rfl ?_
              refine g_iload d_X1_learn_109 rfl ?_
              refine g_aload_n d_X1_learn_111 rfl ?_
              refine g_getR d_X1_learn_112 fq_RX1_12 rfl rfl ?_
              refine g_getR d_X1_learn_115 fq_RX1_64 rfl rfl ?_
              refine g_iconst (v := 3) d_X1_learn_118 kI_3 ?_
              refine g_iaload (N := 8) d_X1_learn_119 rfl kT_8 ⟨by decide, by decide⟩ kN_3 ?_
              refine g_iload d_X1_learn_120 rfl ?_
              refine g_isub d_X1_learn_122 ?_
              refine g_iastore (N := 5376) d_X1_learn_123 rfl kT_5376 (by constructor <;> grind) rfl  ?_
              refine g_nmI (fun I46 eI46 => ?_)
              replace hF := fe_lt hF eI46
              have hK47 : XT I46 J33 = XT I J := (by rw [eI46]; exact (xt_wI rfl).trans hK38)
              refine g_aload_n d_X1_learn_124 rfl ?_
              refine g_getR d_X1_learn_125 fq_RX1_22 rfl rfl ?_
              refine g_iload d_X1_learn_128 rfl ?_
              refine g_iconst (v := 1) d_X1_learn_130 kI_1 ?_
              refine g_iadd d_X1_learn_131 ?_
              refine g_aload_n d_X1_learn_132 rfl ?_
              refine g_getR d_X1_learn_133 fq_RX1_12 rfl rfl ?_
              refine g_getR d_X1_learn_136 fq_RX1_64 rfl rfl ?_
              refine g_iconst (v := 2) d_X1_learn_139 kI_2 ?_
              refine g_iaload (N := 8) d_X1_learn_140 rfl kT_8 ⟨by decide, by decide⟩ kN_2 ?_
              refine g_iload d_X1_learn_141 rfl ?_
              refine g_isub d_X1_learn_143 ?_
              refine g_iastore (N := 5376) d_X1_learn_144 rfl kT_5376 (by constructor <;> grind) rfl  ?_
              refine g_nmI (fun I48 eI48 => ?_)
              replace hF := fe_lt hF eI48
              have hK49 : XT I48 J33 = XT I J := (by rw [eI48]; exact (xt_wI rfl).trans hK47)
              refine g_iconst (v := 0) d_X1_learn_145 kI_0 ?_
              refine g_istore (L' := [some (.ref 45), some (.int set), some (.int n), some (.int x22), some (.int v29), some (.int v30), some (.int v31), some (.int r44), some (.int (0 : Int32))]) d_X1_learn_146 (by decide) rfl ?_
              obtain ⟨Kf1, hKf1, hF⟩ := fe_kx (f := fun K => fl_X1_learn_148_1 J33 r44 K (mU (3 : Int32) ((0 : Int32)) + 1) (0 : Int32) I48) hF
              have K_148 : ∀ (nu : Nat) (x50 : Int32) (I51 : Iv), mU (3 : Int32) x50 = nu → (XT I51 J33 = XT I J) → ((0 : Int32) ≤ x50) → (∃ kq : Nat, nu < kq ∧ (fun kq => FE (fn_X1_learn set n I J) (fun _ => fl_X1_learn_148_1 J33 r44 Kf1 kq x50 I51)) kq) → G m_X1_learn (rq m_X1_learn (fun r S' I' J' => S' = SHF ∧ XT I' J' = XT I J ∧ r = none ∧ fn_X1_learn set n I J = (I', J'))) 0 0 148 [some (.ref 45), some (.int set), some (.int n), some (.int x22), some (.int v29), some (.int v30), some (.int v31), some (.int r44), some (.int x50)] [] SHF I51 J33 := by
                intro nu
                induction nu using Nat.strongRecOn with
                | ind nu ih_148 =>
                  intro x50 I51 hmu_148 hK52 hl53 hF_Kf1
                  obtain ⟨kf1, hkf1, hF⟩ := fe_fu (P := fun kq => FE (fn_X1_learn set n I J) (fun _ => fl_X1_learn_148_1 J33 r44 Kf1 kq x50 I51)) hF_Kf1
                  replace hF := fe_eq hF (fl_X1_learn_148_1.eq_2 _ _ _ _ _ _)
                  refine g_iload d_X1_learn_148 rfl ?_
                  refine g_iconst (v := 3) d_X1_learn_150 kI_3 ?_
                  refine g_icmp_ge d_X1_learn_151 (fun h151 => ?_) (fun h151 => ?_)
                  · skip
                    replace hF := fe_pos hF h151
                    replace hF := fe_eq hF (congrFun (congrFun hKf1 x50) I51)
                    refine g_aload_n d_X1_learn_181 rfl ?_
                    refine g_getR d_X1_learn_182 fq_RX1_22 rfl rfl ?_
                    refine g_iload d_X1_learn_185 rfl ?_
                    refine g_iconst (v := 5) d_X1_learn_187 kI_5 ?_
                    refine g_iadd d_X1_learn_188 ?_
                    refine g_aload_n d_X1_learn_189 rfl ?_
                    refine g_getR d_X1_learn_190 fq_RX1_12 rfl rfl ?_
                    refine g_getR d_X1_learn_193 fq_RX1_64 rfl rfl ?_
                    refine g_iconst (v := 5) d_X1_learn_196 kI_5 ?_
                    refine g_iaload (N := 8) d_X1_learn_197 rfl kT_8 ⟨by decide, by decide⟩ kN_5 ?_
                    refine g_iastore (N := 5376) d_X1_learn_198 rfl kT_5376 (by constructor <;> grind) rfl  ?_
                    refine g_nmI (fun I54 eI54 => ?_)
                    replace hF := fe_lt hF eI54
                    have hK55 : XT I54 J33 = XT I J := (by rw [eI54]; exact (xt_wI rfl).trans hK52)
                    refine g_aload_n d_X1_learn_199 rfl ?_
                    refine g_getR d_X1_learn_200 fq_RX1_22 rfl rfl ?_
                    refine g_iload d_X1_learn_203 rfl ?_
                    refine g_bipush (v := 6) d_X1_learn_205 kB_6 ?_
                    refine g_iadd d_X1_learn_207 ?_
                    refine g_aload_n d_X1_learn_208 rfl ?_
                    refine g_getR d_X1_learn_209 fq_RX1_12 rfl rfl ?_
                    refine g_getR d_X1_learn_212 fq_RX1_64 rfl rfl ?_
                    refine g_iconst (v := 1) d_X1_learn_215 kI_1 ?_
                    refine g_iaload (N := 8) d_X1_learn_216 rfl kT_8 ⟨by decide, by decide⟩ kN_1 ?_
                    refine g_iload d_X1_learn_217 rfl ?_
                    refine g_isub d_X1_learn_219 ?_
                    refine g_iastore (N := 5376) d_X1_learn_220 rfl kT_5376 (by constructor <;> grind) rfl  ?_
                    refine g_nmI (fun I56 eI56 => ?_)
                    replace hF := fe_lt hF eI56
                    have hK57 : XT I56 J33 = XT I J := (by rw [eI56]; exact (xt_wI rfl).trans hK55)
                    refine g_iinc (v := (x22 + (1 : Int32))) (L' := [some (.ref 45), some (.int set), some (.int n), some (.int (x22 + (1 : Int32))), some (.int v29), some (.int v30), some (.int v31), some (.int r44), some (.int x50)]) d_X1_learn_221 rfl (by rw [kI_1]) (by decide) rfl ?_
                    refine g_goto d_X1_learn_224 ?_
                    refine g_sb [some (.ref 45), some (.int set), some (.int n), some (.int (x22 + (1 : Int32))), none, none, none, none, none] (by simp [subL]) ?_
                    exact ih_33 _ (by rw [← hmu_33]; exact mu_upe h35 (by grind)) (x22 + (1 : Int32)) I56 J33 rfl hK57 (lo_upe hl26 h35 (by grind)) ⟨kf0, Nat.lt_of_lt_of_le (by rw [← hmu_33]; exact mu_upe h35 (by grind)) hkf0, hF⟩
                  · skip
                    replace hF := fe_neg hF h151
                    refine g_aload_n d_X1_learn_154 rfl ?_
                    refine g_getR d_X1_learn_155 fq_RX1_22 rfl rfl ?_
                    refine g_iload d_X1_learn_158 rfl ?_
                    refine g_iconst (v := 2) d_X1_learn_160 kI_2 ?_
                    refine g_iadd d_X1_learn_161 ?_
                    refine g_iload d_X1_learn_162 rfl ?_
                    refine g_iadd d_X1_learn_164 ?_
                    refine g_aload_n d_X1_learn_165 rfl ?_
                    refine g_getR d_X1_learn_166 fq_RX1_12 rfl rfl ?_
                    refine g_iload d_X1_learn_169 rfl ?_
                    refine g_V1 d_X1_learn_171 cs_X1_learn_X6_warmthOf lk_RX1_82 im_X6_warmthOf se_X6_warmthOf rfl rfl rfl (Nat.le_of_ble_eq_true rfl) ⟨rfl, rfl⟩ ⟨Nat.zero_le _, Nat.zero_le _⟩ (ct_X6_warmthOf x50 I51 J33 stA_46) (fun r171 S171 Ic59 Jc60 q171_57 => ?_)
                    obtain ⟨rfl, rfl, rfl, r63, rfl, hf171_61⟩ := q171_57
                    replace hF := fe_b3 hF hf171_61
                    refine g_st (st' := [.int r63, .int ((r44 + (2 : Int32)) + x50), .ref 56]) rfl ?_
                    refine g_iastore (N := 5376) d_X1_learn_174 rfl kT_5376 (by constructor <;> grind) rfl  ?_
                    refine g_nmI (fun I65 eI65 => ?_)
                    replace hF := fe_lt hF eI65
                    have hK66 : XT I65 J33 = XT I J := (by rw [eI65]; exact (xt_wI rfl).trans hK52)
                    refine g_iinc (v := (x50 + (1 : Int32))) (L' := [some (.ref 45), some (.int set), some (.int n), some (.int x22), some (.int v29), some (.int v30), some (.int v31), some (.int r44), some (.int (x50 + (1 : Int32)))]) d_X1_learn_175 rfl (by rw [kI_1]) (by decide) rfl ?_
                    refine g_goto d_X1_learn_178 ?_
                    exact ih_148 _ (by rw [← hmu_148]; exact mu_up h151) (x50 + (1 : Int32)) I65 rfl hK66 (lo_up hl53 h151) ⟨kf1, Nat.lt_of_lt_of_le (by rw [← hmu_148]; exact mu_up h151) hkf1, hF⟩
              exact K_148 _ (0 : Int32) I48 rfl hK49 (Int32.le_refl _) ⟨_, Nat.lt_succ_self _, hF⟩
        exact K_33 _ (1 : Int32) I15 J16 rfl hK21 (Int32.le_refl _) ⟨_, Nat.lt_succ_self _, hF⟩
      · skip
        replace hF := fe_neg hF h21
        exact g_return d_X1_learn_24 rfl rfl rfl ⟨rfl, hK0, rfl, hF⟩
noncomputable def fl_X1_learnCouldBe_2_0 (n : Int32) (Kf0 : Int32 → Iv → Jv → Iv × Jv) : Nat → Int32 → Iv → Jv → Iv × Jv
  | 0, x1, I2, J3 => (I2, J3)
  | kf0 + 1, x1, I2, J3 => if (29 : Int32) ≤ x1 then Kf0 x1 I2 J3 else l_t ((((stI.getD 3 default).2).getD x1.toNatClampNeg 0)) (fun (t6 : Int32) => b_n2 (fn_X1_learn t6 n I2 J3) (fun (I7 : Iv) (J8 : Jv) => fl_X1_learnCouldBe_2_0 n Kf0 kf0 (x1 + (1 : Int32)) I7 J8))
noncomputable def fn_X1_learnCouldBe (n : Int32) (I : Iv) (J : Jv) : Iv × Jv :=
  fl_X1_learnCouldBe_2_0 n (fun (x1 : Int32) (I2 : Iv) (J3 : Jv) => (I2, J3)) (mU (29 : Int32) ((0 : Int32)) + 1) (0 : Int32) I J
set_option maxRecDepth 100000 in
set_option maxHeartbeats 4000000 in
theorem ct_X1_learnCouldBe (n : Int32) (I : Iv) (J : Jv)  : Ct m_X1_learnCouldBe [.ref 45, .int n] SHF I J (fun r S' I' J' => S' = SHF ∧ XT I' J' = XT I J ∧ r = none ∧ fn_X1_learnCouldBe n I J = (I', J')) := by
  refine ct_of 1 (by decide +kernel) rfl rfl ?_
  have hK0 : XT I J = XT I J := rfl
  have hF := fe_of (fn_X1_learnCouldBe.eq_1 n I J)
  refine g_iconst (v := 0) d_X1_learnCouldBe_0 kI_0 ?_
  refine g_istore_n (L' := [some (.ref 45), some (.int n), some (.int (0 : Int32))]) d_X1_learnCouldBe_1 (by decide) rfl ?_
  obtain ⟨Kf0, hKf0, hF⟩ := fe_kx (f := fun K => fl_X1_learnCouldBe_2_0 n K (mU (29 : Int32) ((0 : Int32)) + 1) (0 : Int32) I J) hF
  have K_2 : ∀ (nu : Nat) (x1 : Int32) (I2 : Iv) (J3 : Jv), mU (29 : Int32) x1 = nu → (XT I2 J3 = XT I J) → ((0 : Int32) ≤ x1) → (∃ kq : Nat, nu < kq ∧ (fun kq => FE (fn_X1_learnCouldBe n I J) (fun _ => fl_X1_learnCouldBe_2_0 n Kf0 kq x1 I2 J3)) kq) → G m_X1_learnCouldBe (rq m_X1_learnCouldBe (fun r S' I' J' => S' = SHF ∧ XT I' J' = XT I J ∧ r = none ∧ fn_X1_learnCouldBe n I J = (I', J'))) 0 0 2 [some (.ref 45), some (.int n), some (.int x1)] [] SHF I2 J3 := by
    intro nu
    induction nu using Nat.strongRecOn with
    | ind nu ih_2 =>
      intro x1 I2 J3 hmu_2 hK4 hl5 hF_Kf0
      obtain ⟨kf0, hkf0, hF⟩ := fe_fu (P := fun kq => FE (fn_X1_learnCouldBe n I J) (fun _ => fl_X1_learnCouldBe_2_0 n Kf0 kq x1 I2 J3)) hF_Kf0
      replace hF := fe_eq hF (fl_X1_learnCouldBe_2_0.eq_2 _ _ _ _ _ _)
      refine g_iload_n d_X1_learnCouldBe_2 rfl ?_
      refine g_gets (j := 3) d_X1_learnCouldBe_3 rfl sl_RX1_49 ?_
      refine g_tlen (j := 3) (v := 29) d_X1_learnCouldBe_6 rfl rfl ?_
      refine g_icmp_ge d_X1_learnCouldBe_7 (fun h7 => ?_) (fun h7 => ?_)
      · skip
        replace hF := fe_pos hF h7
        replace hF := fe_eq hF (congrFun (congrFun (congrFun hKf0 x1) I2) J3)
        exact g_return d_X1_learnCouldBe_26 rfl rfl rfl ⟨rfl, hK4, rfl, hF⟩
      · skip
        replace hF := fe_neg hF h7
        refine g_aload_n d_X1_learnCouldBe_10 rfl ?_
        refine g_gets (j := 3) d_X1_learnCouldBe_11 rfl sl_RX1_49 ?_
        refine g_iload_n d_X1_learnCouldBe_14 rfl ?_
        refine g_tload (j := 3) (N := 29) d_X1_learnCouldBe_15 rfl kT_29 ⟨hl5, Int32.not_le.mp h7⟩ rfl ?_
        refine g_topI (fun t6 et6 => ?_)
        replace hF := fe_lt hF et6
        refine g_iload_n d_X1_learnCouldBe_16 rfl ?_
        refine g_V2 d_X1_learnCouldBe_17 cs_X1_learnCouldBe_X1_learn lk_RX1_52 im_X1_learn se_X1_learn rfl rfl rfl (Nat.le_of_ble_eq_true rfl) ⟨rfl, rfl⟩ ⟨Nat.zero_le _, Nat.zero_le _⟩ (ct_X1_learn t6 n I2 J3 ) (fun r17 S17 I7 J8 q17_8 => ?_)
        obtain ⟨rfl, hc17_9, rfl, hf17_10⟩ := q17_8
        replace hF := fe_b2 hF hf17_10
        refine g_st (st' := []) rfl ?_
        have hK13 : XT I7 J8 = XT I J := hc17_9.trans hK4
        refine g_iinc (v := (x1 + (1 : Int32))) (L' := [some (.ref 45), some (.int n), some (.int (x1 + (1 : Int32)))]) d_X1_learnCouldBe_20 rfl (by rw [kI_1]) (by decide) rfl ?_
        refine g_goto d_X1_learnCouldBe_23 ?_
        exact ih_2 _ (by rw [← hmu_2]; exact mu_up h7) (x1 + (1 : Int32)) I7 J8 rfl hK13 (lo_up hl5 h7) ⟨kf0, Nat.lt_of_lt_of_le (by rw [← hmu_2]; exact mu_up h7) hkf0, hF⟩
  exact K_2 _ (0 : Int32) I J rfl hK0 (Int32.le_refl _) ⟨_, Nat.lt_succ_self _, hF⟩
noncomputable def fl_X1_learnParts_2_0 (set : Int32) (n : Int32) (Kf0 : Int32 → Iv → Jv → Iv × Jv) : Nat → Int32 → Iv → Jv → Iv × Jv
  | 0, x1, I2, J3 => (I2, J3)
  | kf0 + 1, x1, I2, J3 => if set < x1 then Kf0 x1 I2 J3 else b_n3 (fn_X9_isPart x1 set I2 J3) (fun (r11 : Int32) (_ : Iv) (_ : Jv) => if r11 = 0 then fl_X1_learnParts_2_0 set n Kf0 kf0 (x1 + (1 : Int32)) I2 J3 else b_n2 (fn_X1_learn x1 n I2 J3) (fun (I13 : Iv) (J14 : Jv) => fl_X1_learnParts_2_0 set n Kf0 kf0 (x1 + (1 : Int32)) I13 J14))
noncomputable def fn_X1_learnParts (set : Int32) (n : Int32) (I : Iv) (J : Jv) : Iv × Jv :=
  fl_X1_learnParts_2_0 set n (fun (x1 : Int32) (I2 : Iv) (J3 : Jv) => (I2, J3)) (mUe set ((0 : Int32)) + 1) (0 : Int32) I J
set_option maxRecDepth 100000 in
set_option maxHeartbeats 4000000 in
theorem ct_X1_learnParts (set : Int32) (n : Int32) (I : Iv) (J : Jv) (hs : 0 ≤ set ∧ set ≤ 127) : Ct m_X1_learnParts [.ref 45, .int set, .int n] SHF I J (fun r S' I' J' => S' = SHF ∧ XT I' J' = XT I J ∧ r = none ∧ fn_X1_learnParts set n I J = (I', J')) := by
  refine ct_of 1 (by decide +kernel) rfl rfl ?_
  have hK0 : XT I J = XT I J := rfl
  have hF := fe_of (fn_X1_learnParts.eq_1 set n I J)
  refine g_iconst (v := 0) d_X1_learnParts_0 kI_0 ?_
  refine g_istore_n (L' := [some (.ref 45), some (.int set), some (.int n), some (.int (0 : Int32))]) d_X1_learnParts_1 (by decide) rfl ?_
  obtain ⟨Kf0, hKf0, hF⟩ := fe_kx (f := fun K => fl_X1_learnParts_2_0 set n K (mUe set ((0 : Int32)) + 1) (0 : Int32) I J) hF
  have K_2 : ∀ (nu : Nat) (x1 : Int32) (I2 : Iv) (J3 : Jv), mUe set x1 = nu → (XT I2 J3 = XT I J) → ((0 : Int32) ≤ x1) → (∃ kq : Nat, nu < kq ∧ (fun kq => FE (fn_X1_learnParts set n I J) (fun _ => fl_X1_learnParts_2_0 set n Kf0 kq x1 I2 J3)) kq) → G m_X1_learnParts (rq m_X1_learnParts (fun r S' I' J' => S' = SHF ∧ XT I' J' = XT I J ∧ r = none ∧ fn_X1_learnParts set n I J = (I', J'))) 0 0 2 [some (.ref 45), some (.int set), some (.int n), some (.int x1)] [] SHF I2 J3 := by
    intro nu
    induction nu using Nat.strongRecOn with
    | ind nu ih_2 =>
      intro x1 I2 J3 hmu_2 hK4 hl5 hF_Kf0
      obtain ⟨kf0, hkf0, hF⟩ := fe_fu (P := fun kq => FE (fn_X1_learnParts set n I J) (fun _ => fl_X1_learnParts_2_0 set n Kf0 kq x1 I2 J3)) hF_Kf0
      replace hF := fe_eq hF (fl_X1_learnParts_2_0.eq_2 _ _ _ _ _ _ _)
      refine g_iload_n d_X1_learnParts_2 rfl ?_
      refine g_iload_n d_X1_learnParts_3 rfl ?_
      refine g_icmp_gt d_X1_learnParts_4 (fun h4 => ?_) (fun h4 => ?_)
      · skip
        replace hF := fe_pos hF h4
        replace hF := fe_eq hF (congrFun (congrFun (congrFun hKf0 x1) I2) J3)
        exact g_return d_X1_learnParts_27 rfl rfl rfl ⟨rfl, hK4, rfl, hF⟩
      · skip
        replace hF := fe_neg hF h4
        refine g_iload_n d_X1_learnParts_7 rfl ?_
        refine g_iload_n d_X1_learnParts_8 rfl ?_
        refine g_S2 d_X1_learnParts_9 cs_X1_learnParts_X9_isPart lk_RX1_56 im_X9_isPart (Nat.le_of_ble_eq_true rfl) ⟨rfl, rfl⟩ ⟨Nat.zero_le _, Nat.zero_le _⟩ (ct_X9_isPart x1 set I2 J3 ) (fun r9 S9 Ic7 Jc8 q9_5 => ?_)
        obtain ⟨rfl, rfl, rfl, r11, rfl, hz9, hf9_9⟩ := q9_5
        replace hF := fe_b3 hF hf9_9
        refine g_st (st' := [.int r11]) rfl ?_
        refine g_if_eq d_X1_learnParts_12 (fun h12 => ?_) (fun h12 => ?_)
        · skip
          replace hF := fe_pos hF h12
          refine g_iinc (v := (x1 + (1 : Int32))) (L' := [some (.ref 45), some (.int set), some (.int n), some (.int (x1 + (1 : Int32)))]) d_X1_learnParts_21 rfl (by rw [kI_1]) (by decide) rfl ?_
          refine g_goto d_X1_learnParts_24 ?_
          exact ih_2 _ (by rw [← hmu_2]; exact mu_upe h4 (by grind)) (x1 + (1 : Int32)) I2 J3 rfl hK4 (lo_upe hl5 h4 (by grind)) ⟨kf0, Nat.lt_of_lt_of_le (by rw [← hmu_2]; exact mu_upe h4 (by grind)) hkf0, hF⟩
        · skip
          replace hF := fe_neg hF h12
          refine g_aload_n d_X1_learnParts_15 rfl ?_
          refine g_iload_n d_X1_learnParts_16 rfl ?_
          refine g_iload_n d_X1_learnParts_17 rfl ?_
          refine g_V2 d_X1_learnParts_18 cs_X1_learnParts_X1_learn lk_RX1_52 im_X1_learn se_X1_learn rfl rfl rfl (Nat.le_of_ble_eq_true rfl) ⟨rfl, rfl⟩ ⟨Nat.zero_le _, Nat.zero_le _⟩ (ct_X1_learn x1 n I2 J3 ) (fun r18 S18 I13 J14 q18_14 => ?_)
          obtain ⟨rfl, hc18_15, rfl, hf18_16⟩ := q18_14
          replace hF := fe_b2 hF hf18_16
          refine g_st (st' := []) rfl ?_
          have hK19 : XT I13 J14 = XT I J := hc18_15.trans hK4
          refine g_iinc (v := (x1 + (1 : Int32))) (L' := [some (.ref 45), some (.int set), some (.int n), some (.int (x1 + (1 : Int32)))]) d_X1_learnParts_21 rfl (by rw [kI_1]) (by decide) rfl ?_
          refine g_goto d_X1_learnParts_24 ?_
          exact ih_2 _ (by rw [← hmu_2]; exact mu_upe h4 (by grind)) (x1 + (1 : Int32)) I13 J14 rfl hK19 (lo_upe hl5 h4 (by grind)) ⟨kf0, Nat.lt_of_lt_of_le (by rw [← hmu_2]; exact mu_upe h4 (by grind)) hkf0, hF⟩
  exact K_2 _ (0 : Int32) I J rfl hK0 (Int32.le_refl _) ⟨_, Nat.lt_succ_self _, hF⟩
noncomputable def fl_X1_firstDay_9_0 (fur : Int32) (Kf0 : Int32 → Iv → Jv → Int32 × Iv × Jv) : Nat → Int32 → Iv → Jv → Int32 × Iv × Jv
  | 0, x8, I9, J10 => (0, I9, J10)
  | kf0 + 1, x8, I9, J10 => if (30 : Int32) < x8 then Kf0 x8 I9 J10 else l_t ((I9 54 3)) (fun (v13 : Int32) => b_n2 (fn_X7_passByDay 46 (288 : Int32) (I9 8 8) I9 J10) (fun (I14 : Iv) (J15 : Jv) => j_n (fun (w21 : Int32) => if w21 = 0 then fl_X1_firstDay_9_0 fur Kf0 kf0 (x8 + (1 : Int32)) I14 J15 else (x8, I14, J15)) (fun (j104_1 : Int32 → Int32 × Iv × Jv) => if fur = 0 then if ((I14 54 3) - v13) = (288 : Int32) then j104_1 ((1 : Int32)) else j104_1 ((0 : Int32)) else if (I14 54 5) < (600 : Int32) then j104_1 ((0 : Int32)) else j104_1 ((1 : Int32)))))
noncomputable def fn_X1_firstDay (set : Int32) (fur : Int32) (cur : Int32) (I : Iv) (J : Jv) : Int32 × Iv × Jv :=
  b_n2 (fn_X1_begin set cur I J) (fun (I1 : Iv) (J2 : Jv) => fl_X1_firstDay_9_0 fur (fun (x8 : Int32) (I9 : Iv) (J10 : Jv) => ((-1 : Int32), I9, J10)) (mUe (30 : Int32) ((1 : Int32)) + 1) (1 : Int32) I1 J2)
set_option maxRecDepth 100000 in
set_option maxHeartbeats 4000000 in
theorem ct_X1_firstDay (set : Int32) (fur : Int32) (cur : Int32) (I : Iv) (J : Jv) (hc : cur = 0 ∨ cur = 1) : Ct m_X1_firstDay [.ref 45, .int set, .int fur, .int cur] SHF I J (fun r S' I' J' => S' = SHF ∧ XT I' J' = XT I J ∧ ∃ v : Int32, r = some (.int v) ∧ fn_X1_firstDay set fur cur I J = (v, I', J')) := by
  refine ct_of 3 (by decide +kernel) rfl rfl ?_
  have hK0 : XT I J = XT I J := rfl
  have hF := fe_of (fn_X1_firstDay.eq_1 set fur cur I J)
  refine g_aload_n d_X1_firstDay_0 rfl ?_
  refine g_iload_n d_X1_firstDay_1 rfl ?_
  refine g_iload_n d_X1_firstDay_2 rfl ?_
  refine g_V2 d_X1_firstDay_3 cs_X1_firstDay_X1_begin lk_RX1_60 im_X1_begin se_X1_begin rfl rfl rfl (Nat.le_of_ble_eq_true rfl) ⟨rfl, rfl⟩ ⟨Nat.zero_le _, Nat.zero_le _⟩ (ct_X1_begin set cur I J hc) (fun r3 S3 I1 J2 q3_2 => ?_)
  obtain ⟨rfl, hc3_3, rfl, hf3_4⟩ := q3_2
  replace hF := fe_b2 hF hf3_4
  refine g_st (st' := []) rfl ?_
  have hK7 : XT I1 J2 = XT I J := hc3_3.trans hK0
  refine g_iconst (v := 1) d_X1_firstDay_6 kI_1 ?_
  refine g_istore (L' := [some (.ref 45), some (.int set), some (.int fur), some (.int cur), some (.int (1 : Int32)), none, none]) d_X1_firstDay_7 (by decide) rfl ?_
  obtain ⟨Kf0, hKf0, hF⟩ := fe_kx (f := fun K => fl_X1_firstDay_9_0 fur K (mUe (30 : Int32) ((1 : Int32)) + 1) (1 : Int32) I1 J2) hF
  have K_9 : ∀ (nu : Nat) (x8 : Int32) (I9 : Iv) (J10 : Jv), mUe (30 : Int32) x8 = nu → (XT I9 J10 = XT I J) → ((1 : Int32) ≤ x8) → (∃ kq : Nat, nu < kq ∧ (fun kq => FE (fn_X1_firstDay set fur cur I J) (fun _ => fl_X1_firstDay_9_0 fur Kf0 kq x8 I9 J10)) kq) → G m_X1_firstDay (rq m_X1_firstDay (fun r S' I' J' => S' = SHF ∧ XT I' J' = XT I J ∧ ∃ v : Int32, r = some (.int v) ∧ fn_X1_firstDay set fur cur I J = (v, I', J'))) 0 0 9 [some (.ref 45), some (.int set), some (.int fur), some (.int cur), some (.int x8), none, none] [] SHF I9 J10 := by
    intro nu
    induction nu using Nat.strongRecOn with
    | ind nu ih_9 =>
      intro x8 I9 J10 hmu_9 hK11 hl12 hF_Kf0
      obtain ⟨kf0, hkf0, hF⟩ := fe_fu (P := fun kq => FE (fn_X1_firstDay set fur cur I J) (fun _ => fl_X1_firstDay_9_0 fur Kf0 kq x8 I9 J10)) hF_Kf0
      replace hF := fe_eq hF (fl_X1_firstDay_9_0.eq_2 _ _ _ _ _ _)
      refine g_iload d_X1_firstDay_9 rfl ?_
      refine g_bipush (v := 30) d_X1_firstDay_11 kB_30 ?_
      refine g_icmp_gt d_X1_firstDay_13 (fun h13 => ?_) (fun h13 => ?_)
      · skip
        replace hF := fe_pos hF h13
        replace hF := fe_eq hF (congrFun (congrFun (congrFun hKf0 x8) I9) J10)
        refine g_iconst (v := -1) d_X1_firstDay_120 kI_m1 ?_
        exact g_ireturn d_X1_firstDay_121 rfl rfl rfl rfl ⟨rfl, hK11, (-1 : Int32), rfl, hF⟩
      · skip
        replace hF := fe_neg hF h13
        refine g_aload_n d_X1_firstDay_16 rfl ?_
        refine g_getR d_X1_firstDay_17 fq_RX1_12 rfl rfl ?_
        refine g_getR d_X1_firstDay_20 fq_RX1_64 rfl rfl ?_
        refine g_iconst (v := 3) d_X1_firstDay_23 kI_3 ?_
        refine g_iaload (N := 8) d_X1_firstDay_24 rfl kT_8 ⟨by decide, by decide⟩ kN_3 ?_
        refine g_topI (fun v13 ev13 => ?_)
        replace hF := fe_lt hF ev13
        refine g_istore (L' := [some (.ref 45), some (.int set), some (.int fur), some (.int cur), some (.int x8), some (.int v13), none]) d_X1_firstDay_25 (by decide) rfl ?_
        refine g_aload_n d_X1_firstDay_27 rfl ?_
        refine g_getR d_X1_firstDay_28 fq_RX1_25 rfl rfl ?_
        refine g_aload_n d_X1_firstDay_31 rfl ?_
        refine g_getR d_X1_firstDay_32 fq_RX1_12 rfl rfl ?_
        refine g_sipush (v := 288) d_X1_firstDay_35 kS_288 ?_
        refine g_aload_n d_X1_firstDay_38 rfl ?_
        refine g_getR d_X1_firstDay_39 fq_RX1_25 rfl rfl ?_
        refine g_getR d_X1_firstDay_42 fq_RX1_67 rfl rfl ?_
        refine g_getR d_X1_firstDay_45 fq_RX1_73 rfl rfl ?_
        refine g_bipush (v := 8) d_X1_firstDay_48 kB_8 ?_
        refine g_iaload (N := 15) d_X1_firstDay_50 rfl kT_15 ⟨by decide, by decide⟩ kN_8 ?_
        refine g_V3 d_X1_firstDay_51 cs_X1_firstDay_X7_passByDay lk_RX1_78 im_X7_passByDay se_X7_passByDay rfl rfl rfl (Nat.le_of_ble_eq_true rfl) ⟨rfl, rfl⟩ ⟨Nat.zero_le _, Nat.zero_le _⟩ (ct_X7_passByDay (288 : Int32) (I9 8 8) I9 J10 stA_46 (by grind)) (fun r51 S51 I14 J15 q51_15 => ?_)
        obtain ⟨rfl, hc51_16, rfl, hf51_17, hr51_18⟩ := q51_15
        replace hF := fe_b2 hF hf51_17
        refine g_st (st' := []) rfl ?_
        have hK20 : XT I14 J15 = XT I J := (xt_fsx (Or.inl rfl) hc51_16).trans hK11
        refine g_iload_n d_X1_firstDay_54 rfl ?_
        obtain ⟨j104_1, hj104_1, hF⟩ := fe_jx hF
        have J_104 : ∀ (w21 : Int32), (w21 = 0 ∨ w21 = 1) → (FE (fn_X1_firstDay set fur cur I J) (fun _ => j104_1 w21)) → G m_X1_firstDay (rq m_X1_firstDay (fun r S' I' J' => S' = SHF ∧ XT I' J' = XT I J ∧ ∃ v : Int32, r = some (.int v) ∧ fn_X1_firstDay set fur cur I J = (v, I', J'))) 0 0 104 [some (.ref 45), some (.int set), some (.int fur), some (.int cur), some (.int x8), some (.int v13), none] [.int w21] SHF I14 J15 := by
          intro w21 hw21 hF_j104_1
          have hF := fe_eq hF_j104_1 (congrFun hj104_1 w21)
          refine g_istore (L' := [some (.ref 45), some (.int set), some (.int fur), some (.int cur), some (.int x8), some (.int v13), some (.int w21)]) d_X1_firstDay_104 (by decide) rfl ?_
          refine g_iload d_X1_firstDay_106 rfl ?_
          refine g_if_eq d_X1_firstDay_108 (fun h108 => ?_) (fun h108 => ?_)
          · skip
            replace hF := fe_pos hF h108
            refine g_iinc (v := (x8 + (1 : Int32))) (L' := [some (.ref 45), some (.int set), some (.int fur), some (.int cur), some (.int (x8 + (1 : Int32))), some (.int v13), some (.int w21)]) d_X1_firstDay_114 rfl (by rw [kI_1]) (by decide) rfl ?_
            refine g_goto d_X1_firstDay_117 ?_
            refine g_sb [some (.ref 45), some (.int set), some (.int fur), some (.int cur), some (.int (x8 + (1 : Int32))), none, none] (by simp [subL]) ?_
            exact ih_9 _ (by rw [← hmu_9]; exact mu_upe h13 (by decide)) (x8 + (1 : Int32)) I14 J15 rfl hK20 (lo_upe hl12 h13 (by decide)) ⟨kf0, Nat.lt_of_lt_of_le (by rw [← hmu_9]; exact mu_upe h13 (by decide)) hkf0, hF⟩
          · skip
            replace hF := fe_neg hF h108
            refine g_iload d_X1_firstDay_111 rfl ?_
            exact g_ireturn d_X1_firstDay_113 rfl rfl rfl rfl ⟨rfl, hK20, x8, rfl, hF⟩
        refine g_if_eq d_X1_firstDay_55 (fun h55 => ?_) (fun h55 => ?_)
        · skip
          replace hF := fe_pos hF h55
          refine g_aload_n d_X1_firstDay_81 rfl ?_
          refine g_getR d_X1_firstDay_82 fq_RX1_12 rfl rfl ?_
          refine g_getR d_X1_firstDay_85 fq_RX1_64 rfl rfl ?_
          refine g_iconst (v := 3) d_X1_firstDay_88 kI_3 ?_
          refine g_iaload (N := 8) d_X1_firstDay_89 rfl kT_8 ⟨by decide, by decide⟩ kN_3 ?_
          refine g_iload d_X1_firstDay_90 rfl ?_
          refine g_isub d_X1_firstDay_92 ?_
          refine g_sipush (v := 288) d_X1_firstDay_93 kS_288 ?_
          refine g_icmp_ne d_X1_firstDay_96 (fun h96 => ?_) (fun h96 => ?_)
          · skip
            replace hF := fe_neg hF h96
            refine g_iconst (v := 0) d_X1_firstDay_103 kI_0 ?_
            exact J_104 ((0 : Int32)) (Or.inl rfl) hF
          · skip
            replace hF := fe_pos hF h96
            refine g_iconst (v := 1) d_X1_firstDay_99 kI_1 ?_
            refine g_goto d_X1_firstDay_100 ?_
            exact J_104 ((1 : Int32)) (Or.inr rfl) hF
        · skip
          replace hF := fe_neg hF h55
          refine g_aload_n d_X1_firstDay_58 rfl ?_
          refine g_getR d_X1_firstDay_59 fq_RX1_12 rfl rfl ?_
          refine g_getR d_X1_firstDay_62 fq_RX1_64 rfl rfl ?_
          refine g_iconst (v := 5) d_X1_firstDay_65 kI_5 ?_
          refine g_iaload (N := 8) d_X1_firstDay_66 rfl kT_8 ⟨by decide, by decide⟩ kN_5 ?_
          refine g_sipush (v := 600) d_X1_firstDay_67 kS_600 ?_
          refine g_icmp_lt d_X1_firstDay_70 (fun h70 => ?_) (fun h70 => ?_)
          · skip
            replace hF := fe_pos hF h70
            refine g_iconst (v := 0) d_X1_firstDay_77 kI_0 ?_
            refine g_goto d_X1_firstDay_78 ?_
            exact J_104 ((0 : Int32)) (Or.inl rfl) hF
          · skip
            replace hF := fe_neg hF h70
            refine g_iconst (v := 1) d_X1_firstDay_73 kI_1 ?_
            refine g_goto d_X1_firstDay_74 ?_
            exact J_104 ((1 : Int32)) (Or.inr rfl) hF
  exact K_9 _ (1 : Int32) I1 J2 rfl hK7 (Int32.le_refl _) ⟨_, Nat.lt_succ_self _, hF⟩
noncomputable def fl_X1_usedThawing_10_0 (n : Int32) (p : Int32) (Kf0 : Int32 → Iv → Jv → Int32 × Iv × Jv) : Nat → Int32 → Iv → Jv → Int32 × Iv × Jv
  | 0, x8, I9, J10 => (0, I9, J10)
  | kf0 + 1, x8, I9, J10 => if n ≤ x8 then Kf0 x8 I9 J10 else j_n (fun (I13 : Iv) (J14 : Jv) => b_n2 (fn_X7_passByDay 46 (288 : Int32) (I13 8 8) I13 J14) (fun (I16 : Iv) (J17 : Jv) => fl_X1_usedThawing_10_0 n p Kf0 kf0 (x8 + (1 : Int32)) I16 J17)) (fun (j40_1 : Iv → Jv → Int32 × Iv × Jv) => if x8 ≤ 0 then j40_1 I9 J10 else if p ≤ 0 then j40_1 I9 J10 else if (x8 - x8 / p * p) = 0 then b_n3 (fn_X6_letOffIce 46 I9 J10) (fun (r28 : Int32) (I23 : Iv) (J24 : Jv) => j40_1 I23 J24) else j40_1 I9 J10)
noncomputable def fn_X1_usedThawing (set : Int32) (n : Int32) (p : Int32) (cur : Int32) (I : Iv) (J : Jv) : Int32 × Iv × Jv :=
  b_n2 (fn_X1_begin set cur I J) (fun (I1 : Iv) (J2 : Jv) => fl_X1_usedThawing_10_0 n p (fun (x8 : Int32) (I9 : Iv) (J10 : Jv) => ((I9 54 1), I9, J10)) (mU n ((0 : Int32)) + 1) (0 : Int32) I1 J2)
set_option maxRecDepth 100000 in
set_option maxHeartbeats 4000000 in
theorem ct_X1_usedThawing (set : Int32) (n : Int32) (p : Int32) (cur : Int32) (I : Iv) (J : Jv) (hc : cur = 0 ∨ cur = 1) : Ct m_X1_usedThawing [.ref 45, .int set, .int n, .int p, .int cur] SHF I J (fun r S' I' J' => S' = SHF ∧ XT I' J' = XT I J ∧ ∃ v : Int32, r = some (.int v) ∧ fn_X1_usedThawing set n p cur I J = (v, I', J')) := by
  refine ct_of 1 (by decide +kernel) rfl rfl ?_
  have hK0 : XT I J = XT I J := rfl
  have hF := fe_of (fn_X1_usedThawing.eq_1 set n p cur I J)
  refine g_aload_n d_X1_usedThawing_0 rfl ?_
  refine g_iload_n d_X1_usedThawing_1 rfl ?_
  refine g_iload d_X1_usedThawing_2 rfl ?_
  refine g_V2 d_X1_usedThawing_4 cs_X1_usedThawing_X1_begin lk_RX1_60 im_X1_begin se_X1_begin rfl rfl rfl (Nat.le_of_ble_eq_true rfl) ⟨rfl, rfl⟩ ⟨Nat.zero_le _, Nat.zero_le _⟩ (ct_X1_begin set cur I J hc) (fun r4 S4 I1 J2 q4_2 => ?_)
  obtain ⟨rfl, hc4_3, rfl, hf4_4⟩ := q4_2
  replace hF := fe_b2 hF hf4_4
  refine g_st (st' := []) rfl ?_
  have hK7 : XT I1 J2 = XT I J := hc4_3.trans hK0
  refine g_iconst (v := 0) d_X1_usedThawing_7 kI_0 ?_
  refine g_istore (L' := [some (.ref 45), some (.int set), some (.int n), some (.int p), some (.int cur), some (.int (0 : Int32))]) d_X1_usedThawing_8 (by decide) rfl ?_
  obtain ⟨Kf0, hKf0, hF⟩ := fe_kx (f := fun K => fl_X1_usedThawing_10_0 n p K (mU n ((0 : Int32)) + 1) (0 : Int32) I1 J2) hF
  have K_10 : ∀ (nu : Nat) (x8 : Int32) (I9 : Iv) (J10 : Jv), mU n x8 = nu → (XT I9 J10 = XT I J) → ((0 : Int32) ≤ x8) → (∃ kq : Nat, nu < kq ∧ (fun kq => FE (fn_X1_usedThawing set n p cur I J) (fun _ => fl_X1_usedThawing_10_0 n p Kf0 kq x8 I9 J10)) kq) → G m_X1_usedThawing (rq m_X1_usedThawing (fun r S' I' J' => S' = SHF ∧ XT I' J' = XT I J ∧ ∃ v : Int32, r = some (.int v) ∧ fn_X1_usedThawing set n p cur I J = (v, I', J'))) 0 0 10 [some (.ref 45), some (.int set), some (.int n), some (.int p), some (.int cur), some (.int x8)] [] SHF I9 J10 := by
    intro nu
    induction nu using Nat.strongRecOn with
    | ind nu ih_10 =>
      intro x8 I9 J10 hmu_10 hK11 hl12 hF_Kf0
      obtain ⟨kf0, hkf0, hF⟩ := fe_fu (P := fun kq => FE (fn_X1_usedThawing set n p cur I J) (fun _ => fl_X1_usedThawing_10_0 n p Kf0 kq x8 I9 J10)) hF_Kf0
      replace hF := fe_eq hF (fl_X1_usedThawing_10_0.eq_2 _ _ _ _ _ _ _)
      refine g_iload d_X1_usedThawing_10 rfl ?_
      refine g_iload_n d_X1_usedThawing_12 rfl ?_
      refine g_icmp_ge d_X1_usedThawing_13 (fun h13 => ?_) (fun h13 => ?_)
      · skip
        replace hF := fe_pos hF h13
        replace hF := fe_eq hF (congrFun (congrFun (congrFun hKf0 x8) I9) J10)
        refine g_aload_n d_X1_usedThawing_73 rfl ?_
        refine g_getR d_X1_usedThawing_74 fq_RX1_12 rfl rfl ?_
        refine g_getR d_X1_usedThawing_77 fq_RX1_64 rfl rfl ?_
        refine g_iconst (v := 1) d_X1_usedThawing_80 kI_1 ?_
        refine g_iaload (N := 8) d_X1_usedThawing_81 rfl kT_8 ⟨by decide, by decide⟩ kN_1 ?_
        exact g_ireturn d_X1_usedThawing_82 rfl rfl rfl rfl ⟨rfl, hK11, (I9 54 1), rfl, hF⟩
      · skip
        replace hF := fe_neg hF h13
        refine g_iload d_X1_usedThawing_16 rfl ?_
        obtain ⟨j40_1, hj40_1, hF⟩ := fe_jx hF
        have J_40 : ∀ (I13 : Iv), ∀ (J14 : Jv), (XT I13 J14 = XT I J) → (FE (fn_X1_usedThawing set n p cur I J) (fun _ => j40_1 I13 J14)) → G m_X1_usedThawing (rq m_X1_usedThawing (fun r S' I' J' => S' = SHF ∧ XT I' J' = XT I J ∧ ∃ v : Int32, r = some (.int v) ∧ fn_X1_usedThawing set n p cur I J = (v, I', J'))) 0 0 40 [some (.ref 45), some (.int set), some (.int n), some (.int p), some (.int cur), some (.int x8)] [] SHF I13 J14 := by
          intro I13 J14 hK15 hF_j40_1
          have hF := fe_eq hF_j40_1 (congrFun (congrFun hj40_1 I13) J14)
          refine g_aload_n d_X1_usedThawing_40 rfl ?_
          refine g_getR d_X1_usedThawing_41 fq_RX1_25 rfl rfl ?_
          refine g_aload_n d_X1_usedThawing_44 rfl ?_
          refine g_getR d_X1_usedThawing_45 fq_RX1_12 rfl rfl ?_
          refine g_sipush (v := 288) d_X1_usedThawing_48 kS_288 ?_
          refine g_aload_n d_X1_usedThawing_51 rfl ?_
          refine g_getR d_X1_usedThawing_52 fq_RX1_25 rfl rfl ?_
          refine g_getR d_X1_usedThawing_55 fq_RX1_67 rfl rfl ?_
          refine g_getR d_X1_usedThawing_58 fq_RX1_73 rfl rfl ?_
          refine g_bipush (v := 8) d_X1_usedThawing_61 kB_8 ?_
          refine g_iaload (N := 15) d_X1_usedThawing_63 rfl kT_15 ⟨by decide, by decide⟩ kN_8 ?_
          refine g_V3 d_X1_usedThawing_64 cs_X1_usedThawing_X7_passByDay lk_RX1_78 im_X7_passByDay se_X7_passByDay rfl rfl rfl (Nat.le_of_ble_eq_true rfl) ⟨rfl, rfl⟩ ⟨Nat.zero_le _, Nat.zero_le _⟩ (ct_X7_passByDay (288 : Int32) (I13 8 8) I13 J14 stA_46 (by grind)) (fun r64 S64 I16 J17 q64_17 => ?_)
          obtain ⟨rfl, hc64_18, rfl, hf64_19, hr64_20⟩ := q64_17
          replace hF := fe_b2 hF hf64_19
          refine g_st (st' := []) rfl ?_
          have hK22 : XT I16 J17 = XT I J := (xt_fsx (Or.inl rfl) hc64_18).trans hK15
          refine g_iinc (v := (x8 + (1 : Int32))) (L' := [some (.ref 45), some (.int set), some (.int n), some (.int p), some (.int cur), some (.int (x8 + (1 : Int32)))]) d_X1_usedThawing_67 rfl (by rw [kI_1]) (by decide) rfl ?_
          refine g_goto d_X1_usedThawing_70 ?_
          exact ih_10 _ (by rw [← hmu_10]; exact mu_up h13) (x8 + (1 : Int32)) I16 J17 rfl hK22 (lo_up hl12 h13) ⟨kf0, Nat.lt_of_lt_of_le (by rw [← hmu_10]; exact mu_up h13) hkf0, hF⟩
        refine g_if_le d_X1_usedThawing_18 (fun h18 => ?_) (fun h18 => ?_)
        · skip
          replace hF := fe_pos hF h18
          exact J_40 I9 J10 hK11 hF
        · skip
          replace hF := fe_neg hF h18
          refine g_iload_n d_X1_usedThawing_21 rfl ?_
          refine g_if_le d_X1_usedThawing_22 (fun h22 => ?_) (fun h22 => ?_)
          · skip
            replace hF := fe_pos hF h22
            exact J_40 I9 J10 hK11 hF
          · skip
            replace hF := fe_neg hF h22
            refine g_iload d_X1_usedThawing_25 rfl ?_
            refine g_iload_n d_X1_usedThawing_27 rfl ?_
            refine g_irem d_X1_usedThawing_28 (by grind) ?_
            refine g_if_ne d_X1_usedThawing_29 (fun h29 => ?_) (fun h29 => ?_)
            · skip
              replace hF := fe_neg hF h29
              exact J_40 I9 J10 hK11 hF
            · skip
              replace hF := fe_pos hF h29
              refine g_aload_n d_X1_usedThawing_32 rfl ?_
              refine g_getR d_X1_usedThawing_33 fq_RX1_12 rfl rfl ?_
              refine g_V0 d_X1_usedThawing_36 cs_X1_usedThawing_X6_letOffIce lk_RX1_86 im_X6_letOffIce se_X6_letOffIce rfl rfl rfl (Nat.le_of_ble_eq_true rfl) ⟨rfl, rfl⟩ ⟨Nat.zero_le _, Nat.zero_le _⟩ (ct_X6_letOffIce  I9 J10 stA_46) (fun r36 S36 I23 J24 q36_24 => ?_)
              obtain ⟨rfl, hc36_25, r28, rfl, hf36_26⟩ := q36_24
              replace hF := fe_b3 hF hf36_26
              refine g_st (st' := [.int r28]) rfl ?_
              have hK30 : XT I23 J24 = XT I J := (xt_fsx (Or.inl rfl) hc36_25.1).trans hK11
              refine g_pop d_X1_usedThawing_39 rfl ?_
              exact J_40 I23 J24 hK30 hF
  exact K_10 _ (0 : Int32) I1 J2 rfl hK7 (Int32.le_refl _) ⟨_, Nat.lt_succ_self _, hF⟩
