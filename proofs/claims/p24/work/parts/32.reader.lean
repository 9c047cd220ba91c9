noncomputable def fn_X5_isFigure (x : Int32) (I : Iv) (J : Jv) : Int32 × Iv × Jv :=
  if x < (48 : Int32) then ((0 : Int32), I, J) else if (57 : Int32) < x then ((0 : Int32), I, J) else ((1 : Int32), I, J)
set_option maxRecDepth 100000 in
set_option maxHeartbeats 4000000 in
theorem ct_X5_isFigure (x : Int32) (I : Iv) (J : Jv)  : Ct m_X5_isFigure [.int x] SHF I J (fun r S' I' J' => S' = SHF ∧ I = I' ∧ J = J' ∧ ∃ v : Int32, r = some (.int v) ∧ (v = 0 ∨ v = 1) ∧ fn_X5_isFigure x I J = (v, I', J')) := by
  refine ct_of 0 (by decide +kernel) rfl rfl ?_
  have hF := fe_of (fn_X5_isFigure.eq_1 x I J)
  refine g_iload_n d_X5_isFigure_0 rfl ?_
  refine g_bipush (v := 48) d_X5_isFigure_1 kB_48 ?_
  refine g_icmp_lt d_X5_isFigure_3 (fun h3 => ?_) (fun h3 => ?_)
  · skip
    replace hF := fe_pos hF h3
    refine g_iconst (v := 0) d_X5_isFigure_16 kI_0 ?_
    exact g_ireturn d_X5_isFigure_17 rfl rfl rfl rfl ⟨rfl, rfl, rfl, (0 : Int32), rfl, Or.inl rfl, hF⟩
  · skip
    replace hF := fe_neg hF h3
    refine g_iload_n d_X5_isFigure_6 rfl ?_
    refine g_bipush (v := 57) d_X5_isFigure_7 kB_57 ?_
    refine g_icmp_gt d_X5_isFigure_9 (fun h9 => ?_) (fun h9 => ?_)
    · skip
      replace hF := fe_pos hF h9
      refine g_iconst (v := 0) d_X5_isFigure_16 kI_0 ?_
      exact g_ireturn d_X5_isFigure_17 rfl rfl rfl rfl ⟨rfl, rfl, rfl, (0 : Int32), rfl, Or.inl rfl, hF⟩
    · skip
      replace hF := fe_neg hF h9
      refine g_iconst (v := 1) d_X5_isFigure_12 kI_1 ?_
      refine g_goto d_X5_isFigure_13 ?_
      exact g_ireturn d_X5_isFigure_17 rfl rfl rfl rfl ⟨rfl, rfl, rfl, (1 : Int32), rfl, Or.inr rfl, hF⟩
noncomputable def fn_X5_isLetter (x : Int32) (I : Iv) (J : Jv) : Int32 × Iv × Jv :=
  if x < (97 : Int32) then ((0 : Int32), I, J) else if (122 : Int32) < x then ((0 : Int32), I, J) else ((1 : Int32), I, J)
set_option maxRecDepth 100000 in
set_option maxHeartbeats 4000000 in
theorem ct_X5_isLetter (x : Int32) (I : Iv) (J : Jv)  : Ct m_X5_isLetter [.int x] SHF I J (fun r S' I' J' => S' = SHF ∧ I = I' ∧ J = J' ∧ ∃ v : Int32, r = some (.int v) ∧ (v = 0 ∨ v = 1) ∧ fn_X5_isLetter x I J = (v, I', J')) := by
  refine ct_of 0 (by decide +kernel) rfl rfl ?_
  have hF := fe_of (fn_X5_isLetter.eq_1 x I J)
  refine g_iload_n d_X5_isLetter_0 rfl ?_
  refine g_bipush (v := 97) d_X5_isLetter_1 kB_97 ?_
  refine g_icmp_lt d_X5_isLetter_3 (fun h3 => ?_) (fun h3 => ?_)
  · skip
    replace hF := fe_pos hF h3
    refine g_iconst (v := 0) d_X5_isLetter_16 kI_0 ?_
    exact g_ireturn d_X5_isLetter_17 rfl rfl rfl rfl ⟨rfl, rfl, rfl, (0 : Int32), rfl, Or.inl rfl, hF⟩
  · skip
    replace hF := fe_neg hF h3
    refine g_iload_n d_X5_isLetter_6 rfl ?_
    refine g_bipush (v := 122) d_X5_isLetter_7 kB_122 ?_
    refine g_icmp_gt d_X5_isLetter_9 (fun h9 => ?_) (fun h9 => ?_)
    · skip
      replace hF := fe_pos hF h9
      refine g_iconst (v := 0) d_X5_isLetter_16 kI_0 ?_
      exact g_ireturn d_X5_isLetter_17 rfl rfl rfl rfl ⟨rfl, rfl, rfl, (0 : Int32), rfl, Or.inl rfl, hF⟩
    · skip
      replace hF := fe_neg hF h9
      refine g_iconst (v := 1) d_X5_isLetter_12 kI_1 ?_
      refine g_goto d_X5_isLetter_13 ?_
      exact g_ireturn d_X5_isLetter_17 rfl rfl rfl rfl ⟨rfl, rfl, rfl, (1 : Int32), rfl, Or.inr rfl, hF⟩
noncomputable def fn_X5_faultAt (number : Int32) (where_ : Int32) (I : Iv) (J : Jv) : Iv × Jv :=
  l_t (wI I 1 3 number) (fun (I1 : Iv) => l_t (wI I1 1 4 where_) (fun (I3 : Iv) => (I3, J)))
set_option maxRecDepth 100000 in
set_option maxHeartbeats 4000000 in
theorem ct_X5_faultAt (number : Int32) (where_ : Int32) (I : Iv) (J : Jv) (hr0 : RDI I) : Ct m_X5_faultAt [.ref 1, .int number, .int where_] SHF I J (fun r S' I' J' => S' = SHF ∧ (XT I' J' = XT I J ∧ RDI I' ∧ I 1 2 ≤ I' 1 2) ∧ r = none ∧ fn_X5_faultAt number where_ I J = (I', J')) := by
  refine ct_of 0 (by decide +kernel) rfl rfl ?_
  have hK0 : (XT I J = XT I J ∧ RDI I ∧ I 1 2 ≤ I 1 2) := ⟨rfl, hr0, Int32.le_refl _⟩
  have hF := fe_of (fn_X5_faultAt.eq_1 number where_ I J)
  refine g_aload_n d_X5_faultAt_0 rfl ?_
  refine g_iload_n d_X5_faultAt_1 rfl ?_
  refine g_putI d_X5_faultAt_2 fq_RX5_50 rfl rfl ?_
  refine g_nmI (fun I1 eI1 => ?_)
  replace hF := fe_lt hF eI1
  have hK2 : (XT I1 J = XT I J ∧ RDI I1 ∧ I 1 2 ≤ I1 1 2) := (by rw [eI1]; exact ⟨(xt_wI rfl).trans hK0.1, (rd_wI hK0.2.1 (by omega)).1, by rw [(rd_wI hK0.2.1 (by omega)).2]; exact hK0.2.2⟩)
  refine g_aload_n d_X5_faultAt_5 rfl ?_
  refine g_iload_n d_X5_faultAt_6 rfl ?_
  refine g_putI d_X5_faultAt_7 fq_RX5_15 rfl rfl ?_
  refine g_nmI (fun I3 eI3 => ?_)
  replace hF := fe_lt hF eI3
  have hK4 : (XT I3 J = XT I J ∧ RDI I3 ∧ I 1 2 ≤ I3 1 2) := (by rw [eI3]; exact ⟨(xt_wI rfl).trans hK2.1, (rd_wI hK2.2.1 (by omega)).1, by rw [(rd_wI hK2.2.1 (by omega)).2]; exact hK2.2.2⟩)
  exact g_return d_X5_faultAt_10 rfl rfl rfl ⟨rfl, hK4, rfl, hF⟩
noncomputable def fl_X5_skipBlanks_0_0 (J : Jv) (Kf0 : Iv → Iv × Jv) : Nat → Iv → Iv × Jv
  | 0, I1 => (I1, J)
  | kf0 + 1, I1 => if (I1 1 1) ≤ (I1 1 2) then Kf0 I1 else if (I1 2 ((I1 1 2)).toNatClampNeg) = (32 : Int32) then l_t (wI I1 1 2 ((I1 1 2) + (1 : Int32))) (fun (I3 : Iv) => fl_X5_skipBlanks_0_0 J Kf0 kf0 I3) else Kf0 I1
noncomputable def fn_X5_skipBlanks (I : Iv) (J : Jv) : Iv × Jv :=
  fl_X5_skipBlanks_0_0 J (fun (I1 : Iv) => (I1, J)) (mU (I 1 1) (I 1 2) + 1) I
set_option maxRecDepth 100000 in
set_option maxHeartbeats 4000000 in
theorem ct_X5_skipBlanks  (I : Iv) (J : Jv) (hr0 : RDI I) : Ct m_X5_skipBlanks [.ref 1] SHF I J (fun r S' I' J' => S' = SHF ∧ (XT I' J' = XT I J ∧ RDI I' ∧ I 1 2 ≤ I' 1 2) ∧ r = none ∧ fn_X5_skipBlanks I J = (I', J')) := by
  refine ct_of 0 (by decide +kernel) rfl rfl ?_
  have hK0 : (XT I J = XT I J ∧ RDI I ∧ I 1 2 ≤ I 1 2) := ⟨rfl, hr0, Int32.le_refl _⟩
  have hF := fe_of (fn_X5_skipBlanks.eq_1 I J)
  obtain ⟨Kf0, hKf0, hF⟩ := fe_kx (f := fun K => fl_X5_skipBlanks_0_0 J K (mU (I 1 1) (I 1 2) + 1) I) hF
  have K_0 : ∀ (nu : Nat) (I1 : Iv), mU (I1 1 1) (I1 1 2) = nu → ((XT I1 J = XT I J ∧ RDI I1 ∧ I 1 2 ≤ I1 1 2)) → (∃ kq : Nat, nu < kq ∧ (fun kq => FE (fn_X5_skipBlanks I J) (fun _ => fl_X5_skipBlanks_0_0 J Kf0 kq I1)) kq) → G m_X5_skipBlanks (rq m_X5_skipBlanks (fun r S' I' J' => S' = SHF ∧ (XT I' J' = XT I J ∧ RDI I' ∧ I 1 2 ≤ I' 1 2) ∧ r = none ∧ fn_X5_skipBlanks I J = (I', J'))) 0 0 0 [some (.ref 1)] [] SHF I1 J := by
    intro nu
    induction nu using Nat.strongRecOn with
    | ind nu ih_0 =>
      intro I1 hmu_0 hK2 hF_Kf0
      obtain ⟨kf0, hkf0, hF⟩ := fe_fu (P := fun kq => FE (fn_X5_skipBlanks I J) (fun _ => fl_X5_skipBlanks_0_0 J Kf0 kq I1)) hF_Kf0
      replace hF := fe_eq hF (fl_X5_skipBlanks_0_0.eq_2 _ _ _ _)
      refine g_aload_n d_X5_skipBlanks_0 rfl ?_
      refine g_getI d_X5_skipBlanks_1 fq_RX5_53 rfl rfl ?_
      refine g_aload_n d_X5_skipBlanks_4 rfl ?_
      refine g_getI d_X5_skipBlanks_5 fq_RX5_33 rfl rfl ?_
      refine g_icmp_ge d_X5_skipBlanks_8 (fun h8 => ?_) (fun h8 => ?_)
      · skip
        replace hF := fe_pos hF h8
        replace hF := fe_eq hF (congrFun hKf0 I1)
        exact g_return d_X5_skipBlanks_38 rfl rfl rfl ⟨rfl, hK2, rfl, hF⟩
      · skip
        replace hF := fe_neg hF h8
        refine g_aload_n d_X5_skipBlanks_11 rfl ?_
        refine g_getR d_X5_skipBlanks_12 fq_RX5_9 rfl rfl ?_
        refine g_aload_n d_X5_skipBlanks_15 rfl ?_
        refine g_getI d_X5_skipBlanks_16 fq_RX5_53 rfl rfl ?_
        refine g_caload (N := 300) d_X5_skipBlanks_19 rfl kT_300 (by constructor <;> grind) rfl ?_
        refine g_bipush (v := 32) d_X5_skipBlanks_20 kB_32 ?_
        refine g_icmp_ne d_X5_skipBlanks_22 (fun h22 => ?_) (fun h22 => ?_)
        · skip
          replace hF := fe_neg hF h22
          replace hF := fe_eq hF (congrFun hKf0 I1)
          exact g_return d_X5_skipBlanks_38 rfl rfl rfl ⟨rfl, hK2, rfl, hF⟩
        · skip
          replace hF := fe_pos hF h22
          refine g_aload_n d_X5_skipBlanks_25 rfl ?_
          refine g_dup d_X5_skipBlanks_26 rfl ?_
          refine g_getI d_X5_skipBlanks_27 fq_RX5_53 rfl rfl ?_
          refine g_iconst (v := 1) d_X5_skipBlanks_30 kI_1 ?_
          refine g_iadd d_X5_skipBlanks_31 ?_
          refine g_putI d_X5_skipBlanks_32 fq_RX5_53 rfl rfl ?_
          refine g_nmI (fun I3 eI3 => ?_)
          replace hF := fe_lt hF eI3
          have hK4 : (XT I3 J = XT I J ∧ RDI I3 ∧ I 1 2 ≤ I3 1 2) := (by rw [eI3]; exact ⟨(xt_wI rfl).trans hK2.1, (rd_at hK2.2.1 h8).1, Int32.le_trans hK2.2.2 (rd_at hK2.2.1 h8).2⟩)
          refine g_goto d_X5_skipBlanks_35 ?_
          exact ih_0 _ (by rw [← hmu_0]; exact (by rw [eI3]; exact rd_step h8)) I3 rfl hK4 ⟨kf0, Nat.lt_of_lt_of_le (by rw [← hmu_0]; exact (by rw [eI3]; exact rd_step h8)) hkf0, hF⟩
  exact K_0 _ I rfl hK0 ⟨_, Nat.lt_succ_self _, hF⟩
noncomputable def fl_X5_readWord_0_0 (J : Jv) (Kf0 : Iv → Iv × Jv) : Nat → Iv → Iv × Jv
  | 0, I1 => (I1, J)
  | kf0 + 1, I1 => if (I1 1 1) ≤ (I1 1 2) then Kf0 I1 else b_n3 (fn_X5_isLetter (I1 2 ((I1 1 2)).toNatClampNeg) I1 J) (fun (r8 : Int32) (_ : Iv) (_ : Jv) => if r8 = 0 then Kf0 I1 else l_t (wI I1 1 2 ((I1 1 2) + (1 : Int32))) (fun (I10 : Iv) => fl_X5_readWord_0_0 J Kf0 kf0 I10))
noncomputable def fn_X5_readWord (I : Iv) (J : Jv) : Iv × Jv :=
  fl_X5_readWord_0_0 J (fun (I1 : Iv) => (I1, J)) (mU (I 1 1) (I 1 2) + 1) I
set_option maxRecDepth 100000 in
set_option maxHeartbeats 4000000 in
theorem ct_X5_readWord  (I : Iv) (J : Jv) (hr0 : RDI I) : Ct m_X5_readWord [.ref 1] SHF I J (fun r S' I' J' => S' = SHF ∧ (XT I' J' = XT I J ∧ RDI I' ∧ I 1 2 ≤ I' 1 2) ∧ r = none ∧ fn_X5_readWord I J = (I', J')) := by
  refine ct_of 0 (by decide +kernel) rfl rfl ?_
  have hK0 : (XT I J = XT I J ∧ RDI I ∧ I 1 2 ≤ I 1 2) := ⟨rfl, hr0, Int32.le_refl _⟩
  have hF := fe_of (fn_X5_readWord.eq_1 I J)
  obtain ⟨Kf0, hKf0, hF⟩ := fe_kx (f := fun K => fl_X5_readWord_0_0 J K (mU (I 1 1) (I 1 2) + 1) I) hF
  have K_0 : ∀ (nu : Nat) (I1 : Iv), mU (I1 1 1) (I1 1 2) = nu → ((XT I1 J = XT I J ∧ RDI I1 ∧ I 1 2 ≤ I1 1 2)) → (∃ kq : Nat, nu < kq ∧ (fun kq => FE (fn_X5_readWord I J) (fun _ => fl_X5_readWord_0_0 J Kf0 kq I1)) kq) → G m_X5_readWord (rq m_X5_readWord (fun r S' I' J' => S' = SHF ∧ (XT I' J' = XT I J ∧ RDI I' ∧ I 1 2 ≤ I' 1 2) ∧ r = none ∧ fn_X5_readWord I J = (I', J'))) 0 0 0 [some (.ref 1)] [] SHF I1 J := by
    intro nu
    induction nu using Nat.strongRecOn with
    | ind nu ih_0 =>
      intro I1 hmu_0 hK2 hF_Kf0
      obtain ⟨kf0, hkf0, hF⟩ := fe_fu (P := fun kq => FE (fn_X5_readWord I J) (fun _ => fl_X5_readWord_0_0 J Kf0 kq I1)) hF_Kf0
      replace hF := fe_eq hF (fl_X5_readWord_0_0.eq_2 _ _ _ _)
      refine g_aload_n d_X5_readWord_0 rfl ?_
      refine g_getI d_X5_readWord_1 fq_RX5_53 rfl rfl ?_
      refine g_aload_n d_X5_readWord_4 rfl ?_
      refine g_getI d_X5_readWord_5 fq_RX5_33 rfl rfl ?_
      refine g_icmp_ge d_X5_readWord_8 (fun h8 => ?_) (fun h8 => ?_)
      · skip
        replace hF := fe_pos hF h8
        replace hF := fe_eq hF (congrFun hKf0 I1)
        exact g_return d_X5_readWord_39 rfl rfl rfl ⟨rfl, hK2, rfl, hF⟩
      · skip
        replace hF := fe_neg hF h8
        refine g_aload_n d_X5_readWord_11 rfl ?_
        refine g_getR d_X5_readWord_12 fq_RX5_9 rfl rfl ?_
        refine g_aload_n d_X5_readWord_15 rfl ?_
        refine g_getI d_X5_readWord_16 fq_RX5_53 rfl rfl ?_
        refine g_caload (N := 300) d_X5_readWord_19 rfl kT_300 (by constructor <;> grind) rfl ?_
        refine g_S1 d_X5_readWord_20 cs_X5_readWord_X5_isLetter lk_RX5_106 im_X5_isLetter (Nat.le_of_ble_eq_true rfl) ⟨rfl, rfl⟩ ⟨Nat.zero_le _, Nat.zero_le _⟩ (ct_X5_isLetter (I1 2 ((I1 1 2)).toNatClampNeg) I1 J ) (fun r20 S20 Ic4 Jc5 q20_2 => ?_)
        obtain ⟨rfl, rfl, rfl, r8, rfl, hz20, hf20_6⟩ := q20_2
        replace hF := fe_b3 hF hf20_6
        refine g_st (st' := [.int r8]) rfl ?_
        refine g_if_eq d_X5_readWord_23 (fun h23 => ?_) (fun h23 => ?_)
        · skip
          replace hF := fe_pos hF h23
          replace hF := fe_eq hF (congrFun hKf0 I1)
          exact g_return d_X5_readWord_39 rfl rfl rfl ⟨rfl, hK2, rfl, hF⟩
        · skip
          replace hF := fe_neg hF h23
          refine g_aload_n d_X5_readWord_26 rfl ?_
          refine g_dup d_X5_readWord_27 rfl ?_
          refine g_getI d_X5_readWord_28 fq_RX5_53 rfl rfl ?_
          refine g_iconst (v := 1) d_X5_readWord_31 kI_1 ?_
          refine g_iadd d_X5_readWord_32 ?_
          refine g_putI d_X5_readWord_33 fq_RX5_53 rfl rfl ?_
          refine g_nmI (fun I10 eI10 => ?_)
          replace hF := fe_lt hF eI10
          have hK11 : (XT I10 J = XT I J ∧ RDI I10 ∧ I 1 2 ≤ I10 1 2) := (by rw [eI10]; exact ⟨(xt_wI rfl).trans hK2.1, (rd_at hK2.2.1 h8).1, Int32.le_trans hK2.2.2 (rd_at hK2.2.1 h8).2⟩)
          refine g_goto d_X5_readWord_36 ?_
          exact ih_0 _ (by rw [← hmu_0]; exact (by rw [eI10]; exact rd_step h8)) I10 rfl hK11 ⟨kf0, Nat.lt_of_lt_of_le (by rw [← hmu_0]; exact (by rw [eI10]; exact rd_step h8)) hkf0, hF⟩
  exact K_0 _ I rfl hK0 ⟨_, Nat.lt_succ_self _, hF⟩
noncomputable def fn_X5_begin (I : Iv) (J : Jv) : Iv × Jv :=
  l_t (wI I 1 2 (0 : Int32)) (fun (I1 : Iv) => l_t (wI I1 1 3 (0 : Int32)) (fun (I3 : Iv) => l_t (wI I3 1 4 (-1 : Int32)) (fun (I5 : Iv) => l_t (wI I5 1 5 (0 : Int32)) (fun (I7 : Iv) => b_n2 (fn_X5_skipBlanks I7 J) (fun (I9 : Iv) (J10 : Jv) => (I9, J10))))))
set_option maxRecDepth 100000 in
set_option maxHeartbeats 4000000 in
theorem ct_X5_begin  (I : Iv) (J : Jv) (hln : 0 ≤ I 1 1 ∧ I 1 1 ≤ 300) : Ct m_X5_begin [.ref 1] SHF I J (fun r S' I' J' => S' = SHF ∧ (XT I' J' = XT I J ∧ RDI I') ∧ r = none ∧ fn_X5_begin I J = (I', J')) := by
  refine ct_of 0 (by decide +kernel) rfl rfl ?_
  have hK0 : XT I J = XT I J := rfl
  have hF := fe_of (fn_X5_begin.eq_1 I J)
  refine g_aload_n d_X5_begin_0 rfl ?_
  refine g_iconst (v := 0) d_X5_begin_1 kI_0 ?_
  refine g_putI d_X5_begin_2 fq_RX5_53 rfl rfl ?_
  refine g_nmI (fun I1 eI1 => ?_)
  replace hF := fe_lt hF eI1
  have hK2 : XT I1 J = XT I J := (by rw [eI1]; exact (xt_wI rfl).trans hK0)
  refine g_aload_n d_X5_begin_5 rfl ?_
  refine g_iconst (v := 0) d_X5_begin_6 kI_0 ?_
  refine g_putI d_X5_begin_7 fq_RX5_50 rfl rfl ?_
  refine g_nmI (fun I3 eI3 => ?_)
  replace hF := fe_lt hF eI3
  have hK4 : XT I3 J = XT I J := (by rw [eI3]; exact (xt_wI rfl).trans hK2)
  refine g_aload_n d_X5_begin_10 rfl ?_
  refine g_iconst (v := -1) d_X5_begin_11 kI_m1 ?_
  refine g_putI d_X5_begin_12 fq_RX5_15 rfl rfl ?_
  refine g_nmI (fun I5 eI5 => ?_)
  replace hF := fe_lt hF eI5
  have hK6 : XT I5 J = XT I J := (by rw [eI5]; exact (xt_wI rfl).trans hK4)
  refine g_aload_n d_X5_begin_15 rfl ?_
  refine g_iconst (v := 0) d_X5_begin_16 kI_0 ?_
  refine g_putI d_X5_begin_17 fq_RX5_69 rfl rfl ?_
  refine g_nmI (fun I7 eI7 => ?_)
  replace hF := fe_lt hF eI7
  have hK8 : XT I7 J = XT I J := (by rw [eI7]; exact (xt_wI rfl).trans hK6)
  refine g_aload_n d_X5_begin_20 rfl ?_
  refine g_V0 d_X5_begin_21 cs_X5_begin_X5_skipBlanks lk_RX5_59 im_X5_skipBlanks se_X5_skipBlanks rfl rfl rfl (Nat.le_of_ble_eq_true rfl) ⟨rfl, rfl⟩ ⟨Nat.zero_le _, Nat.zero_le _⟩ (ct_X5_skipBlanks  I7 J (by simp only [eI1, eI3, eI5, eI7, RDI]; simp [wI]; exact hln)) (fun r21 S21 I9 J10 q21_10 => ?_)
  obtain ⟨rfl, hc21_11, rfl, hf21_12⟩ := q21_10
  replace hF := fe_b2 hF hf21_12
  refine g_st (st' := []) rfl ?_
  have hK15 : XT I9 J10 = XT I J := (hc21_11).1.trans hK8
  have hrd : RDI I9 := (hc21_11).2.1
  exact g_return d_X5_begin_24 rfl rfl rfl ⟨rfl, ⟨hK15, hrd⟩, rfl, hF⟩
noncomputable def fn_X5_wordOf (x : Int32) (I : Iv) (J : Jv) : Nat × Iv × Jv :=
  if (x).toInt < 0 ∨ 11 < (x).toInt then ((2000000 + 12), I, J) else l_t ((x).toInt - (0)).toNat (fun (sw0 : Nat) => if sw0 = 0 then ((2000000 + 0), I, J) else if sw0 = 1 then ((2000000 + 1), I, J) else if sw0 = 2 then ((2000000 + 2), I, J) else if sw0 = 3 then ((2000000 + 3), I, J) else if sw0 = 4 then ((2000000 + 4), I, J) else if sw0 = 5 then ((2000000 + 5), I, J) else if sw0 = 6 then ((2000000 + 6), I, J) else if sw0 = 7 then ((2000000 + 7), I, J) else if sw0 = 8 then ((2000000 + 8), I, J) else if sw0 = 9 then ((2000000 + 9), I, J) else if sw0 = 10 then ((2000000 + 10), I, J) else if sw0 = 11 then ((2000000 + 11), I, J) else (0, I, J))
set_option maxRecDepth 100000 in
set_option maxHeartbeats 4000000 in
theorem ct_X5_wordOf (x : Int32) (I : Iv) (J : Jv)  : Ct m_X5_wordOf [.int x] SHF I J (fun r S' I' J' => S' = SHF ∧ I = I' ∧ J = J' ∧ ∃ a : Nat, r = some (.ref a) ∧ fn_X5_wordOf x I J = (a, I', J') ∧ ∃ j : Nat, j < 14 ∧ a = 2000000 + j) := by
  refine ct_of 0 (by decide +kernel) rfl rfl ?_
  have hF := fe_of (fn_X5_wordOf.eq_1 x I J)
  refine g_iload_n d_X5_wordOf_0 rfl ?_
  rcases sw_split x (0) (11) with h1 | h1
  · skip
    refine g_swOut d_X5_wordOf_1 h1 ?_
    replace hF := fe_pos hF h1
    refine g_ldcS (j := 12) d_X5_wordOf_100 rfl rfl ?_
    exact g_areturn d_X5_wordOf_102 rfl rfl rfl (Or.inl ⟨_, rfl⟩) ⟨rfl, rfl, rfl, (2000000 + 12), rfl, hF, ⟨_, by decide, rfl⟩⟩
  · skip
    replace hF := fe_neg hF (fun q => by rcases q with q | q; exact h1.1 q; exact h1.2 q)
    have hz : ∃ k : Nat, k < 12 ∧ (x).toInt = (0 : Int) + (k : Int) := by obtain ⟨k, h1, h2⟩ := sw_k h1; exact ⟨k, by omega, h2⟩
    obtain ⟨k, hk, hz⟩ := hz
    match k, hk, hz with
    | 0, _, hz =>
      refine g_swIn d_X5_wordOf_1_0 (by rw [hz]; decide) (by rw [hz]; decide) (by rw [hz]; rfl) ?_
      replace hF := fe_lt (v := 0) hF (by rw [hz]; rfl)
      replace hF := fe_pos hF rfl
      refine g_ldcS (j := 0) d_X5_wordOf_64 rfl rfl ?_
      exact g_areturn d_X5_wordOf_66 rfl rfl rfl (Or.inl ⟨_, rfl⟩) ⟨rfl, rfl, rfl, (2000000 + 0), rfl, hF, ⟨_, by decide, rfl⟩⟩
    | 1, _, hz =>
      refine g_swIn d_X5_wordOf_1_1 (by rw [hz]; decide) (by rw [hz]; decide) (by rw [hz]; rfl) ?_
      replace hF := fe_lt (v := 1) hF (by rw [hz]; rfl)
      replace hF := fe_neg hF (by decide)
      replace hF := fe_pos hF rfl
      refine g_ldcS (j := 1) d_X5_wordOf_67 rfl rfl ?_
      exact g_areturn d_X5_wordOf_69 rfl rfl rfl (Or.inl ⟨_, rfl⟩) ⟨rfl, rfl, rfl, (2000000 + 1), rfl, hF, ⟨_, by decide, rfl⟩⟩
    | 2, _, hz =>
      refine g_swIn d_X5_wordOf_1_2 (by rw [hz]; decide) (by rw [hz]; decide) (by rw [hz]; rfl) ?_
      replace hF := fe_lt (v := 2) hF (by rw [hz]; rfl)
      replace hF := fe_neg hF (by decide)
      replace hF := fe_neg hF (by decide)
      replace hF := fe_pos hF rfl
      refine g_ldcS (j := 2) d_X5_wordOf_70 rfl rfl ?_
      exact g_areturn d_X5_wordOf_72 rfl rfl rfl (Or.inl ⟨_, rfl⟩) ⟨rfl, rfl, rfl, (2000000 + 2), rfl, hF, ⟨_, by decide, rfl⟩⟩
    | 3, _, hz =>
      refine g_swIn d_X5_wordOf_1_3 (by rw [hz]; decide) (by rw [hz]; decide) (by rw [hz]; rfl) ?_
      replace hF := fe_lt (v := 3) hF (by rw [hz]; rfl)
      replace hF := fe_neg hF (by decide)
      replace hF := fe_neg hF (by decide)
      replace hF := fe_neg hF (by decide)
      replace hF := fe_pos hF rfl
      refine g_ldcS (j := 3) d_X5_wordOf_73 rfl rfl ?_
      exact g_areturn d_X5_wordOf_75 rfl rfl rfl (Or.inl ⟨_, rfl⟩) ⟨rfl, rfl, rfl, (2000000 + 3), rfl, hF, ⟨_, by decide, rfl⟩⟩
    | 4, _, hz =>
      refine g_swIn d_X5_wordOf_1_4 (by rw [hz]; decide) (by rw [hz]; decide) (by rw [hz]; rfl) ?_
      replace hF := fe_lt (v := 4) hF (by rw [hz]; rfl)
      replace hF := fe_neg hF (by decide)
      replace hF := fe_neg hF (by decide)
      replace hF := fe_neg hF (by decide)
      replace hF := fe_neg hF (by decide)
      replace hF := fe_pos hF rfl
      refine g_ldcS (j := 4) d_X5_wordOf_76 rfl rfl ?_
      exact g_areturn d_X5_wordOf_78 rfl rfl rfl (Or.inl ⟨_, rfl⟩) ⟨rfl, rfl, rfl, (2000000 + 4), rfl, hF, ⟨_, by decide, rfl⟩⟩
    | 5, _, hz =>
      refine g_swIn d_X5_wordOf_1_5 (by rw [hz]; decide) (by rw [hz]; decide) (by rw [hz]; rfl) ?_
      replace hF := fe_lt (v := 5) hF (by rw [hz]; rfl)
      replace hF := fe_neg hF (by decide)
      replace hF := fe_neg hF (by decide)
      replace hF := fe_neg hF (by decide)
      replace hF := fe_neg hF (by decide)
      replace hF := fe_neg hF (by decide)
      replace hF := fe_pos hF rfl
      refine g_ldcS (j := 5) d_X5_wordOf_79 rfl rfl ?_
      exact g_areturn d_X5_wordOf_81 rfl rfl rfl (Or.inl ⟨_, rfl⟩) ⟨rfl, rfl, rfl, (2000000 + 5), rfl, hF, ⟨_, by decide, rfl⟩⟩
    | 6, _, hz =>
      refine g_swIn d_X5_wordOf_1_6 (by rw [hz]; decide) (by rw [hz]; decide) (by rw [hz]; rfl) ?_
      replace hF := fe_lt (v := 6) hF (by rw [hz]; rfl)
      replace hF := fe_neg hF (by decide)
      replace hF := fe_neg hF (by decide)
      replace hF := fe_neg hF (by decide)
      replace hF := fe_neg hF (by decide)
      replace hF := fe_neg hF (by decide)
      replace hF := fe_neg hF (by decide)
      replace hF := fe_pos hF rfl
      refine g_ldcS (j := 6) d_X5_wordOf_82 rfl rfl ?_
      exact g_areturn d_X5_wordOf_84 rfl rfl rfl (Or.inl ⟨_, rfl⟩) ⟨rfl, rfl, rfl, (2000000 + 6), rfl, hF, ⟨_, by decide, rfl⟩⟩
    | 7, _, hz =>
      refine g_swIn d_X5_wordOf_1_7 (by rw [hz]; decide) (by rw [hz]; decide) (by rw [hz]; rfl) ?_
      replace hF := fe_lt (v := 7) hF (by rw [hz]; rfl)
      replace hF := fe_neg hF (by decide)
      replace hF := fe_neg hF (by decide)
      replace hF := fe_neg hF (by decide)
      replace hF := fe_neg hF (by decide)
      replace hF := fe_neg hF (by decide)
      replace hF := fe_neg hF (by decide)
      replace hF := fe_neg hF (by decide)
      replace hF := fe_pos hF rfl
      refine g_ldcS (j := 7) d_X5_wordOf_85 rfl rfl ?_
      exact g_areturn d_X5_wordOf_87 rfl rfl rfl (Or.inl ⟨_, rfl⟩) ⟨rfl, rfl, rfl, (2000000 + 7), rfl, hF, ⟨_, by decide, rfl⟩⟩
    | 8, _, hz =>
      refine g_swIn d_X5_wordOf_1_8 (by rw [hz]; decide) (by rw [hz]; decide) (by rw [hz]; rfl) ?_
      replace hF := fe_lt (v := 8) hF (by rw [hz]; rfl)
      replace hF := fe_neg hF (by decide)
      replace hF := fe_neg hF (by decide)
      replace hF := fe_neg hF (by decide)
      replace hF := fe_neg hF (by decide)
      replace hF := fe_neg hF (by decide)
      replace hF := fe_neg hF (by decide)
      replace hF := fe_neg hF (by decide)
      replace hF := fe_neg hF (by decide)
      replace hF := fe_pos hF rfl
      refine g_ldcS (j := 8) d_X5_wordOf_88 rfl rfl ?_
      exact g_areturn d_X5_wordOf_90 rfl rfl rfl (Or.inl ⟨_, rfl⟩) ⟨rfl, rfl, rfl, (2000000 + 8), rfl, hF, ⟨_, by decide, rfl⟩⟩
    | 9, _, hz =>
      refine g_swIn d_X5_wordOf_1_9 (by rw [hz]; decide) (by rw [hz]; decide) (by rw [hz]; rfl) ?_
      replace hF := fe_lt (v := 9) hF (by rw [hz]; rfl)
      replace hF := fe_neg hF (by decide)
      replace hF := fe_neg hF (by decide)
      replace hF := fe_neg hF (by decide)
      replace hF := fe_neg hF (by decide)
      replace hF := fe_neg hF (by decide)
      replace hF := fe_neg hF (by decide)
      replace hF := fe_neg hF (by decide)
      replace hF := fe_neg hF (by decide)
      replace hF := fe_neg hF (by decide)
      replace hF := fe_pos hF rfl
      refine g_ldcS (j := 9) d_X5_wordOf_91 rfl rfl ?_
      exact g_areturn d_X5_wordOf_93 rfl rfl rfl (Or.inl ⟨_, rfl⟩) ⟨rfl, rfl, rfl, (2000000 + 9), rfl, hF, ⟨_, by decide, rfl⟩⟩
    | 10, _, hz =>
      refine g_swIn d_X5_wordOf_1_10 (by rw [hz]; decide) (by rw [hz]; decide) (by rw [hz]; rfl) ?_
      replace hF := fe_lt (v := 10) hF (by rw [hz]; rfl)
      replace hF := fe_neg hF (by decide)
      replace hF := fe_neg hF (by decide)
      replace hF := fe_neg hF (by decide)
      replace hF := fe_neg hF (by decide)
      replace hF := fe_neg hF (by decide)
      replace hF := fe_neg hF (by decide)
      replace hF := fe_neg hF (by decide)
      replace hF := fe_neg hF (by decide)
      replace hF := fe_neg hF (by decide)
      replace hF := fe_neg hF (by decide)
      replace hF := fe_pos hF rfl
      refine g_ldcS (j := 10) d_X5_wordOf_94 rfl rfl ?_
      exact g_areturn d_X5_wordOf_96 rfl rfl rfl (Or.inl ⟨_, rfl⟩) ⟨rfl, rfl, rfl, (2000000 + 10), rfl, hF, ⟨_, by decide, rfl⟩⟩
    | 11, _, hz =>
      refine g_swIn d_X5_wordOf_1_11 (by rw [hz]; decide) (by rw [hz]; decide) (by rw [hz]; rfl) ?_
      replace hF := fe_lt (v := 11) hF (by rw [hz]; rfl)
      replace hF := fe_neg hF (by decide)
      replace hF := fe_neg hF (by decide)
      replace hF := fe_neg hF (by decide)
      replace hF := fe_neg hF (by decide)
      replace hF := fe_neg hF (by decide)
      replace hF := fe_neg hF (by decide)
      replace hF := fe_neg hF (by decide)
      replace hF := fe_neg hF (by decide)
      replace hF := fe_neg hF (by decide)
      replace hF := fe_neg hF (by decide)
      replace hF := fe_neg hF (by decide)
      replace hF := fe_pos hF rfl
      refine g_ldcS (j := 11) d_X5_wordOf_97 rfl rfl ?_
      exact g_areturn d_X5_wordOf_99 rfl rfl rfl (Or.inl ⟨_, rfl⟩) ⟨rfl, rfl, rfl, (2000000 + 11), rfl, hF, ⟨_, by decide, rfl⟩⟩
    | k + 12, hk, _ => exact absurd hk (by omega)
noncomputable def fl_X5_isWord_17_0 (I : Iv) (J : Jv) (first : Int32) (j : Nat) (Kf0 : Int32 → Int32 × Iv × Jv) : Nat → Int32 → Int32 × Iv × Jv
  | 0, x8 => (0, I, J)
  | kf0 + 1, x8 => l_t (Int32.ofNat (sB j).length) (fun (r15 : Int32) => if (Int32.ofNat (sB j).length) ≤ x8 then Kf0 x8 else l_t ((sB j).getD (x8).toNatClampNeg 0) (fun (r22 : Int32) => if (I 2 ((first + x8)).toNatClampNeg) = r22 then fl_X5_isWord_17_0 I J first j Kf0 kf0 (x8 + (1 : Int32)) else ((0 : Int32), I, J)))
noncomputable def fn_X5_isWord (j : Nat) (first : Int32) (I : Iv) (J : Jv) : Int32 × Iv × Jv :=
  l_t (Int32.ofNat (sB j).length) (fun (r6 : Int32) => if ((I 1 2) - first) = (Int32.ofNat (sB j).length) then fl_X5_isWord_17_0 I J first j (fun (x8 : Int32) => ((1 : Int32), I, J)) (mU (Int32.ofNat (sB j).length) ((0 : Int32)) + 1) (0 : Int32) else ((0 : Int32), I, J))
set_option maxRecDepth 100000 in
set_option maxHeartbeats 4000000 in
theorem ct_X5_isWord (first : Int32) {j : Nat} (I : Iv) (J : Jv) (hj : j < 14) (hf : 0 ≤ first ∧ first ≤ I 1 2) (hr0 : RDI I) : Ct m_X5_isWord [.ref 1, .ref (2000000 + j), .int first] SHF I J (fun r S' I' J' => S' = SHF ∧ I = I' ∧ J = J' ∧ ∃ v : Int32, r = some (.int v) ∧ (v = 0 ∨ v = 1) ∧ fn_X5_isWord j first I J = (v, I', J')) := by
  refine ct_of 1 (by decide +kernel) rfl rfl ?_
  have hF := fe_of (fn_X5_isWord.eq_1 j first I J)
  refine g_aload_n d_X5_isWord_0 rfl ?_
  refine g_getI d_X5_isWord_1 fq_RX5_53 rfl rfl ?_
  refine g_iload_n d_X5_isWord_4 rfl ?_
  refine g_isub d_X5_isWord_5 ?_
  refine g_aload_n d_X5_isWord_6 rfl ?_
  refine g_T0 d_X5_isWord_7 cs_X5_isWord_J0_length_8abf5 lk_RX5_113 im_J0_length_8abf5 se_J0_length_8abf5 hj rfl (Nat.le_of_ble_eq_true rfl) ⟨rfl, rfl⟩ ⟨Nat.zero_le _, Nat.zero_le _⟩ (ct_J0_length_8abf5 hj I J) (fun r7 S7 Ic2 Jc3 q7_0 => ?_)
  obtain ⟨rfl, rfl, rfl, r6, rfl, hr7_6⟩ := q7_0
  replace hF := fe_lt hF hr7_6
  refine g_st (st' := [.int r6, .int ((I 1 2) - first)]) rfl ?_
  subst hr7_6
  refine g_icmp_eq d_X5_isWord_10 (fun h10 => ?_) (fun h10 => ?_)
  · skip
    replace hF := fe_pos hF h10
    refine g_iconst (v := 0) d_X5_isWord_15 kI_0 ?_
    refine g_istore_n (L' := [some (.ref 1), some (.ref (2000000 + j)), some (.int first), some (.int (0 : Int32))]) d_X5_isWord_16 (by decide) rfl ?_
    obtain ⟨Kf0, hKf0, hF⟩ := fe_kx (f := fun K => fl_X5_isWord_17_0 I J first j K (mU (Int32.ofNat (sB j).length) ((0 : Int32)) + 1) (0 : Int32)) hF
    have K_17 : ∀ (nu : Nat) (x8 : Int32), mU (Int32.ofNat (sB j).length) x8 = nu → ((0 : Int32) ≤ x8) → (∃ kq : Nat, nu < kq ∧ (fun kq => FE (fn_X5_isWord j first I J) (fun _ => fl_X5_isWord_17_0 I J first j Kf0 kq x8)) kq) → G m_X5_isWord (rq m_X5_isWord (fun r S' I' J' => S' = SHF ∧ I = I' ∧ J = J' ∧ ∃ v : Int32, r = some (.int v) ∧ (v = 0 ∨ v = 1) ∧ fn_X5_isWord j first I J = (v, I', J'))) 0 0 17 [some (.ref 1), some (.ref (2000000 + j)), some (.int first), some (.int x8)] [] SHF I J := by
      intro nu
      induction nu using Nat.strongRecOn with
      | ind nu ih_17 =>
        intro x8 hmu_17 hl9 hF_Kf0
        obtain ⟨kf0, hkf0, hF⟩ := fe_fu (P := fun kq => FE (fn_X5_isWord j first I J) (fun _ => fl_X5_isWord_17_0 I J first j Kf0 kq x8)) hF_Kf0
        replace hF := fe_eq hF (fl_X5_isWord_17_0.eq_2 _ _ _ _ _ _ _)
        refine g_iload_n d_X5_isWord_17 rfl ?_
        refine g_aload_n d_X5_isWord_18 rfl ?_
        refine g_T0 d_X5_isWord_19 cs_X5_isWord_J0_length_8abf5 lk_RX5_113 im_J0_length_8abf5 se_J0_length_8abf5 hj rfl (Nat.le_of_ble_eq_true rfl) ⟨rfl, rfl⟩ ⟨Nat.zero_le _, Nat.zero_le _⟩ (ct_J0_length_8abf5 hj I J) (fun r19 S19 Ic11 Jc12 q19_9 => ?_)
        obtain ⟨rfl, rfl, rfl, r15, rfl, hr19_15⟩ := q19_9
        replace hF := fe_lt hF hr19_15
        refine g_st (st' := [.int r15, .int x8]) rfl ?_
        subst hr19_15
        refine g_icmp_ge d_X5_isWord_22 (fun h22 => ?_) (fun h22 => ?_)
        · skip
          replace hF := fe_pos hF h22
          replace hF := fe_eq hF (congrFun hKf0 x8)
          refine g_iconst (v := 1) d_X5_isWord_49 kI_1 ?_
          exact g_ireturn d_X5_isWord_50 rfl rfl rfl rfl ⟨rfl, rfl, rfl, (1 : Int32), rfl, Or.inr rfl, hF⟩
        · skip
          replace hF := fe_neg hF h22
          refine g_aload_n d_X5_isWord_25 rfl ?_
          refine g_getR d_X5_isWord_26 fq_RX5_9 rfl rfl ?_
          refine g_iload_n d_X5_isWord_29 rfl ?_
          refine g_iload_n d_X5_isWord_30 rfl ?_
          refine g_iadd d_X5_isWord_31 ?_
          refine g_caload (N := 300) d_X5_isWord_32 rfl kT_300 (by constructor <;> grind) rfl ?_
          refine g_aload_n d_X5_isWord_33 rfl ?_
          refine g_iload_n d_X5_isWord_34 rfl ?_
          refine g_T1 d_X5_isWord_35 cs_X5_isWord_J0_charAt_5068e lk_RX5_118 im_J0_charAt_5068e se_J0_charAt_5068e hj rfl (Nat.le_of_ble_eq_true rfl) ⟨rfl, rfl⟩ ⟨Nat.zero_le _, Nat.zero_le _⟩ (ct_J0_charAt_5068e hj x8 (by constructor <;> grind) I J) (fun r35 S35 Ic18 Jc19 q35_16 => ?_)
          obtain ⟨rfl, rfl, rfl, r22, rfl, hr35_22⟩ := q35_16
          replace hF := fe_lt hF hr35_22
          refine g_st (st' := [.int r22, .int (I 2 ((first + x8)).toNatClampNeg)]) rfl ?_
          refine g_icmp_eq d_X5_isWord_38 (fun h38 => ?_) (fun h38 => ?_)
          · skip
            replace hF := fe_pos hF h38
            refine g_iinc (v := (x8 + (1 : Int32))) (L' := [some (.ref 1), some (.ref (2000000 + j)), some (.int first), some (.int (x8 + (1 : Int32)))]) d_X5_isWord_43 rfl (by rw [kI_1]) (by decide) rfl ?_
            refine g_goto d_X5_isWord_46 ?_
            exact ih_17 _ (by rw [← hmu_17]; exact mu_up h22) (x8 + (1 : Int32)) rfl (lo_up hl9 h22) ⟨kf0, Nat.lt_of_lt_of_le (by rw [← hmu_17]; exact mu_up h22) hkf0, hF⟩
          · skip
            replace hF := fe_neg hF h38
            refine g_iconst (v := 0) d_X5_isWord_41 kI_0 ?_
            exact g_ireturn d_X5_isWord_42 rfl rfl rfl rfl ⟨rfl, rfl, rfl, (0 : Int32), rfl, Or.inl rfl, hF⟩
    exact K_17 _ (0 : Int32) rfl (Int32.le_refl _) ⟨_, Nat.lt_succ_self _, hF⟩
  · skip
    replace hF := fe_neg hF h10
    refine g_iconst (v := 0) d_X5_isWord_13 kI_0 ?_
    exact g_ireturn d_X5_isWord_14 rfl rfl rfl rfl ⟨rfl, rfl, rfl, (0 : Int32), rfl, Or.inl rfl, hF⟩
noncomputable def fl_X5_clauseFrom_2_0 (I : Iv) (J : Jv) (first : Int32) (Kf0 : Int32 → Int32 × Iv × Jv) : Nat → Int32 → Int32 × Iv × Jv
  | 0, x1 => (0, I, J)
  | kf0 + 1, x1 => if (13 : Int32) ≤ x1 then Kf0 x1 else b_n3 (fn_X5_wordOf x1 I J) (fun (r8 : Nat) (_ : Iv) (_ : Jv) => l_t (r8 - 2000000) (fun (j : Nat) => b_n3 (fn_X5_isWord j first I J) (fun (r15 : Int32) (_ : Iv) (_ : Jv) => if r15 = 0 then fl_X5_clauseFrom_2_0 I J first Kf0 kf0 (x1 + (1 : Int32)) else (x1, I, J))))
noncomputable def fn_X5_clauseFrom (first : Int32) (I : Iv) (J : Jv) : Int32 × Iv × Jv :=
  fl_X5_clauseFrom_2_0 I J first (fun (x1 : Int32) => ((-1 : Int32), I, J)) (mU (13 : Int32) ((0 : Int32)) + 1) (0 : Int32)
set_option maxRecDepth 100000 in
set_option maxHeartbeats 4000000 in
theorem ct_X5_clauseFrom (first : Int32) (I : Iv) (J : Jv) (hf : 0 ≤ first ∧ first ≤ I 1 2) (hr0 : RDI I) : Ct m_X5_clauseFrom [.ref 1, .int first] SHF I J (fun r S' I' J' => S' = SHF ∧ I = I' ∧ J = J' ∧ ∃ v : Int32, r = some (.int v) ∧ fn_X5_clauseFrom first I J = (v, I', J')) := by
  refine ct_of 1 (by decide +kernel) rfl rfl ?_
  have hF := fe_of (fn_X5_clauseFrom.eq_1 first I J)
  refine g_iconst (v := 0) d_X5_clauseFrom_0 kI_0 ?_
  refine g_istore_n (L' := [some (.ref 1), some (.int first), some (.int (0 : Int32))]) d_X5_clauseFrom_1 (by decide) rfl ?_
  obtain ⟨Kf0, hKf0, hF⟩ := fe_kx (f := fun K => fl_X5_clauseFrom_2_0 I J first K (mU (13 : Int32) ((0 : Int32)) + 1) (0 : Int32)) hF
  have K_2 : ∀ (nu : Nat) (x1 : Int32), mU (13 : Int32) x1 = nu → ((0 : Int32) ≤ x1) → (∃ kq : Nat, nu < kq ∧ (fun kq => FE (fn_X5_clauseFrom first I J) (fun _ => fl_X5_clauseFrom_2_0 I J first Kf0 kq x1)) kq) → G m_X5_clauseFrom (rq m_X5_clauseFrom (fun r S' I' J' => S' = SHF ∧ I = I' ∧ J = J' ∧ ∃ v : Int32, r = some (.int v) ∧ fn_X5_clauseFrom first I J = (v, I', J'))) 0 0 2 [some (.ref 1), some (.int first), some (.int x1)] [] SHF I J := by
    intro nu
    induction nu using Nat.strongRecOn with
    | ind nu ih_2 =>
      intro x1 hmu_2 hl2 hF_Kf0
      obtain ⟨kf0, hkf0, hF⟩ := fe_fu (P := fun kq => FE (fn_X5_clauseFrom first I J) (fun _ => fl_X5_clauseFrom_2_0 I J first Kf0 kq x1)) hF_Kf0
      replace hF := fe_eq hF (fl_X5_clauseFrom_2_0.eq_2 _ _ _ _ _ _)
      refine g_iload_n d_X5_clauseFrom_2 rfl ?_
      refine g_bipush (v := 13) d_X5_clauseFrom_3 kB_13 ?_
      refine g_icmp_ge d_X5_clauseFrom_5 (fun h5 => ?_) (fun h5 => ?_)
      · skip
        replace hF := fe_pos hF h5
        replace hF := fe_eq hF (congrFun hKf0 x1)
        refine g_iconst (v := -1) d_X5_clauseFrom_28 kI_m1 ?_
        exact g_ireturn d_X5_clauseFrom_29 rfl rfl rfl rfl ⟨rfl, rfl, rfl, (-1 : Int32), rfl, hF⟩
      · skip
        replace hF := fe_neg hF h5
        refine g_aload_n d_X5_clauseFrom_8 rfl ?_
        refine g_iload_n d_X5_clauseFrom_9 rfl ?_
        refine g_S1 d_X5_clauseFrom_10 cs_X5_clauseFrom_X5_wordOf lk_RX5_109 im_X5_wordOf (Nat.le_of_ble_eq_true rfl) ⟨rfl, rfl⟩ ⟨Nat.zero_le _, Nat.zero_le _⟩ (ct_X5_wordOf x1 I J ) (fun r10 S10 Ic4 Jc5 q10_2 => ?_)
        obtain ⟨rfl, rfl, rfl, r8, rfl, hf10_6, hr10_8⟩ := q10_2
        replace hF := fe_b3 hF hf10_6
        refine g_st (st' := [.ref r8, .ref 1]) rfl ?_
        obtain ⟨j, hj, rfl⟩ := hr10_8
        replace hF := fe_lt (v := j) hF (by omega)
        refine g_iload_n d_X5_clauseFrom_13 rfl ?_
        refine g_V2 d_X5_clauseFrom_14 cs_X5_clauseFrom_X5_isWord lk_RX5_98 im_X5_isWord se_X5_isWord rfl rfl rfl (Nat.le_of_ble_eq_true rfl) ⟨rfl, rfl⟩ ⟨Nat.zero_le _, Nat.zero_le _⟩ (ct_X5_isWord first I J (by grind) hf hr0) (fun r14 S14 Ic11 Jc12 q14_9 => ?_)
        obtain ⟨rfl, rfl, rfl, r15, rfl, hz14, hf14_13⟩ := q14_9
        replace hF := fe_b3 hF hf14_13
        refine g_st (st' := [.int r15]) rfl ?_
        refine g_if_eq d_X5_clauseFrom_17 (fun h17 => ?_) (fun h17 => ?_)
        · skip
          replace hF := fe_pos hF h17
          refine g_iinc (v := (x1 + (1 : Int32))) (L' := [some (.ref 1), some (.int first), some (.int (x1 + (1 : Int32)))]) d_X5_clauseFrom_22 rfl (by rw [kI_1]) (by decide) rfl ?_
          refine g_goto d_X5_clauseFrom_25 ?_
          exact ih_2 _ (by rw [← hmu_2]; exact mu_up h5) (x1 + (1 : Int32)) rfl (lo_up hl2 h5) ⟨kf0, Nat.lt_of_lt_of_le (by rw [← hmu_2]; exact mu_up h5) hkf0, hF⟩
        · skip
          replace hF := fe_neg hF h17
          refine g_iload_n d_X5_clauseFrom_20 rfl ?_
          exact g_ireturn d_X5_clauseFrom_21 rfl rfl rfl rfl ⟨rfl, rfl, rfl, x1, rfl, hF⟩
  exact K_2 _ (0 : Int32) rfl (Int32.le_refl _) ⟨_, Nat.lt_succ_self _, hF⟩
noncomputable def fl_X5_readNumber_21_0 (J2 : Jv) (v8 : Int32) (Kf0 : Int32 → Iv → Int32 × Iv × Jv) : Nat → Int32 → Iv → Int32 × Iv × Jv
  | 0, x9, I10 => (0, I10, J2)
  | kf0 + 1, x9, I10 => j_n (Kf0 x9 I10) (fun (j90_1 : Int32 × Iv × Jv) => if (I10 1 1) ≤ (I10 1 2) then j90_1 else b_n3 (fn_X5_isFigure (I10 2 ((I10 1 2)).toNatClampNeg) I10 J2) (fun (r31 : Int32) (_ : Iv) (_ : Jv) => if r31 = 0 then j90_1 else j_n (fun (y33 : Int32) => l_t (wI I10 1 2 ((I10 1 2) + (1 : Int32))) (fun (I34 : Iv) => fl_X5_readNumber_21_0 J2 v8 Kf0 kf0 y33 I34)) (fun (j77_3 : Int32 → Int32 × Iv × Jv) => if (3 : Int32) ≤ ((I10 1 2) - v8) then j77_3 x9 else l_t (((x9 * (10 : Int32)) + ((I10 2 ((I10 1 2)).toNatClampNeg) - (48 : Int32)))) (fun (v36 : Int32) => j77_3 v36))))
noncomputable def fn_X5_readNumber (least : Int32) (most : Int32) (I : Iv) (J : Jv) : Int32 × Iv × Jv :=
  if (I 1 3) = 0 then b_n2 (fn_X5_skipBlanks I J) (fun (I1 : Iv) (J2 : Jv) => l_t ((I1 1 2)) (fun (v8 : Int32) => fl_X5_readNumber_21_0 J2 v8 (fun (x9 : Int32) (I10 : Iv) => if (I10 1 2) = v8 then b_n2 (fn_X5_faultAt (1 : Int32) v8 I10 J2) (fun (I19 : Iv) (J20 : Jv) => (x9, I19, J20)) else j_n (b_n2 (fn_X5_faultAt (2 : Int32) v8 I10 J2) (fun (I12 : Iv) (J13 : Jv) => (x9, I12, J13))) (fun (j129_2 : Int32 × Iv × Jv) => if (3 : Int32) < ((I10 1 2) - v8) then j129_2 else if x9 < least then j129_2 else if x9 ≤ most then (x9, I10, J2) else j129_2)) (mU (I1 1 1) (I1 1 2) + 1) (0 : Int32) I1)) else ((0 : Int32), I, J)
set_option maxRecDepth 100000 in
set_option maxHeartbeats 4000000 in
theorem ct_X5_readNumber (least : Int32) (most : Int32) (I : Iv) (J : Jv) (hr0 : RDI I) : Ct m_X5_readNumber [.ref 1, .int least, .int most] SHF I J (fun r S' I' J' => S' = SHF ∧ (XT I' J' = XT I J ∧ RDI I' ∧ I 1 2 ≤ I' 1 2) ∧ ∃ v : Int32, r = some (.int v) ∧ fn_X5_readNumber least most I J = (v, I', J')) := by
  refine ct_of 2 (by decide +kernel) rfl rfl ?_
  have hK0 : (XT I J = XT I J ∧ RDI I ∧ I 1 2 ≤ I 1 2) := ⟨rfl, hr0, Int32.le_refl _⟩
  have hF := fe_of (fn_X5_readNumber.eq_1 least most I J)
  refine g_aload_n d_X5_readNumber_0 rfl ?_
  refine g_getI d_X5_readNumber_1 fq_RX5_50 rfl rfl ?_
  refine g_if_eq d_X5_readNumber_4 (fun h4 => ?_) (fun h4 => ?_)
  · skip
    replace hF := fe_pos hF h4
    refine g_aload_n d_X5_readNumber_9 rfl ?_
    refine g_V0 d_X5_readNumber_10 cs_X5_readNumber_X5_skipBlanks lk_RX5_59 im_X5_skipBlanks se_X5_skipBlanks rfl rfl rfl (Nat.le_of_ble_eq_true rfl) ⟨rfl, rfl⟩ ⟨Nat.zero_le _, Nat.zero_le _⟩ (ct_X5_skipBlanks  I J hr0) (fun r10 S10 I1 J2 q10_2 => ?_)
    obtain ⟨rfl, hc10_3, rfl, hf10_4⟩ := q10_2
    replace hF := fe_b2 hF hf10_4
    refine g_st (st' := []) rfl ?_
    have hK7 : (XT I1 J2 = XT I J ∧ RDI I1 ∧ I 1 2 ≤ I1 1 2) := ⟨hc10_3.1.trans hK0.1, hc10_3.2.1, Int32.le_trans hK0.2.2 hc10_3.2.2⟩
    refine g_aload_n d_X5_readNumber_13 rfl ?_
    refine g_getI d_X5_readNumber_14 fq_RX5_53 rfl rfl ?_
    refine g_topI (fun v8 ev8 => ?_)
    replace hF := fe_lt hF ev8
    refine g_istore_n (L' := [some (.ref 1), some (.int least), some (.int most), some (.int v8), none]) d_X5_readNumber_17 (by decide) rfl ?_
    refine g_iconst (v := 0) d_X5_readNumber_18 kI_0 ?_
    refine g_istore (L' := [some (.ref 1), some (.int least), some (.int most), some (.int v8), some (.int (0 : Int32))]) d_X5_readNumber_19 (by decide) rfl ?_
    obtain ⟨Kf0, hKf0, hF⟩ := fe_kx (f := fun K => fl_X5_readNumber_21_0 J2 v8 K (mU (I1 1 1) (I1 1 2) + 1) (0 : Int32) I1) hF
    have K_21 : ∀ (nu : Nat) (x9 : Int32) (I10 : Iv), mU (I10 1 1) (I10 1 2) = nu → ((XT I10 J2 = XT I J ∧ RDI I10 ∧ I 1 2 ≤ I10 1 2)) → (∃ kq : Nat, nu < kq ∧ (fun kq => FE (fn_X5_readNumber least most I J) (fun _ => fl_X5_readNumber_21_0 J2 v8 Kf0 kq x9 I10)) kq) → G m_X5_readNumber (rq m_X5_readNumber (fun r S' I' J' => S' = SHF ∧ (XT I' J' = XT I J ∧ RDI I' ∧ I 1 2 ≤ I' 1 2) ∧ ∃ v : Int32, r = some (.int v) ∧ fn_X5_readNumber least most I J = (v, I', J'))) 0 0 21 [some (.ref 1), some (.int least), some (.int most), some (.int v8), some (.int x9)] [] SHF I10 J2 := by
      intro nu
      induction nu using Nat.strongRecOn with
      | ind nu ih_21 =>
        intro x9 I10 hmu_21 hK11 hF_Kf0
        obtain ⟨kf0, hkf0, hF⟩ := fe_fu (P := fun kq => FE (fn_X5_readNumber least most I J) (fun _ => fl_X5_readNumber_21_0 J2 v8 Kf0 kq x9 I10)) hF_Kf0
        replace hF := fe_eq hF (fl_X5_readNumber_21_0.eq_2 _ _ _ _ _ _)
        refine g_aload_n d_X5_readNumber_21 rfl ?_
        refine g_getI d_X5_readNumber_22 fq_RX5_53 rfl rfl ?_
        refine g_aload_n d_X5_readNumber_25 rfl ?_
        refine g_getI d_X5_readNumber_26 fq_RX5_33 rfl rfl ?_
        obtain ⟨j90_1, hj90_1, hF⟩ := fe_jx hF
        have J_90 : (FE (fn_X5_readNumber least most I J) (fun _ => j90_1)) → G m_X5_readNumber (rq m_X5_readNumber (fun r S' I' J' => S' = SHF ∧ (XT I' J' = XT I J ∧ RDI I' ∧ I 1 2 ≤ I' 1 2) ∧ ∃ v : Int32, r = some (.int v) ∧ fn_X5_readNumber least most I J = (v, I', J'))) 0 0 90 [some (.ref 1), some (.int least), some (.int most), some (.int v8), some (.int x9)] [] SHF I10 J2 := by
          intro hF_j90_1
          have hF := fe_eq hF_j90_1 hj90_1
          replace hF := fe_eq hF (congrFun (congrFun hKf0 x9) I10)
          refine g_aload_n d_X5_readNumber_90 rfl ?_
          refine g_getI d_X5_readNumber_91 fq_RX5_53 rfl rfl ?_
          refine g_iload_n d_X5_readNumber_94 rfl ?_
          refine g_icmp_ne d_X5_readNumber_95 (fun h95 => ?_) (fun h95 => ?_)
          · skip
            replace hF := fe_neg hF h95
            refine g_aload_n d_X5_readNumber_107 rfl ?_
            refine g_getI d_X5_readNumber_108 fq_RX5_53 rfl rfl ?_
            refine g_iload_n d_X5_readNumber_111 rfl ?_
            refine g_isub d_X5_readNumber_112 ?_
            refine g_iconst (v := 3) d_X5_readNumber_113 kI_3 ?_
            obtain ⟨j129_2, hj129_2, hF⟩ := fe_jx hF
            have J_129 : (FE (fn_X5_readNumber least most I J) (fun _ => j129_2)) → G m_X5_readNumber (rq m_X5_readNumber (fun r S' I' J' => S' = SHF ∧ (XT I' J' = XT I J ∧ RDI I' ∧ I 1 2 ≤ I' 1 2) ∧ ∃ v : Int32, r = some (.int v) ∧ fn_X5_readNumber least most I J = (v, I', J'))) 0 0 129 [some (.ref 1), some (.int least), some (.int most), some (.int v8), some (.int x9)] [] SHF I10 J2 := by
              intro hF_j129_2
              have hF := fe_eq hF_j129_2 hj129_2
              refine g_aload_n d_X5_readNumber_129 rfl ?_
              refine g_iconst (v := 2) d_X5_readNumber_130 kI_2 ?_
              refine g_iload_n d_X5_readNumber_131 rfl ?_
              refine g_V2 d_X5_readNumber_132 cs_X5_readNumber_X5_faultAt lk_RX5_62 im_X5_faultAt se_X5_faultAt rfl rfl rfl (Nat.le_of_ble_eq_true rfl) ⟨rfl, rfl⟩ ⟨Nat.zero_le _, Nat.zero_le _⟩ (ct_X5_faultAt (2 : Int32) v8 I10 J2 (hK11.2.1)) (fun r132 S132 I12 J13 q132_13 => ?_)
              obtain ⟨rfl, hc132_14, rfl, hf132_15⟩ := q132_13
              replace hF := fe_b2 hF hf132_15
              refine g_st (st' := []) rfl ?_
              have hK18 : (XT I12 J13 = XT I J ∧ RDI I12 ∧ I 1 2 ≤ I12 1 2) := ⟨hc132_14.1.trans hK11.1, hc132_14.2.1, Int32.le_trans hK11.2.2 hc132_14.2.2⟩
              refine g_iload d_X5_readNumber_135 rfl ?_
              exact g_ireturn d_X5_readNumber_137 rfl rfl rfl rfl ⟨rfl, hK18, x9, rfl, hF⟩
            refine g_icmp_gt d_X5_readNumber_114 (fun h114 => ?_) (fun h114 => ?_)
            · skip
              replace hF := fe_pos hF h114
              exact J_129 hF
            · skip
              replace hF := fe_neg hF h114
              refine g_iload d_X5_readNumber_117 rfl ?_
              refine g_iload_n d_X5_readNumber_119 rfl ?_
              refine g_icmp_lt d_X5_readNumber_120 (fun h120 => ?_) (fun h120 => ?_)
              · skip
                replace hF := fe_pos hF h120
                exact J_129 hF
              · skip
                replace hF := fe_neg hF h120
                refine g_iload d_X5_readNumber_123 rfl ?_
                refine g_iload_n d_X5_readNumber_125 rfl ?_
                refine g_icmp_le d_X5_readNumber_126 (fun h126 => ?_) (fun h126 => ?_)
                · skip
                  replace hF := fe_pos hF h126
                  refine g_iload d_X5_readNumber_135 rfl ?_
                  exact g_ireturn d_X5_readNumber_137 rfl rfl rfl rfl ⟨rfl, hK11, x9, rfl, hF⟩
                · skip
                  replace hF := fe_neg hF h126
                  exact J_129 hF
          · skip
            replace hF := fe_pos hF h95
            refine g_aload_n d_X5_readNumber_98 rfl ?_
            refine g_iconst (v := 1) d_X5_readNumber_99 kI_1 ?_
            refine g_iload_n d_X5_readNumber_100 rfl ?_
            refine g_V2 d_X5_readNumber_101 cs_X5_readNumber_X5_faultAt lk_RX5_62 im_X5_faultAt se_X5_faultAt rfl rfl rfl (Nat.le_of_ble_eq_true rfl) ⟨rfl, rfl⟩ ⟨Nat.zero_le _, Nat.zero_le _⟩ (ct_X5_faultAt (1 : Int32) v8 I10 J2 (hK11.2.1)) (fun r101 S101 I19 J20 q101_20 => ?_)
            obtain ⟨rfl, hc101_21, rfl, hf101_22⟩ := q101_20
            replace hF := fe_b2 hF hf101_22
            refine g_st (st' := []) rfl ?_
            have hK25 : (XT I19 J20 = XT I J ∧ RDI I19 ∧ I 1 2 ≤ I19 1 2) := ⟨hc101_21.1.trans hK11.1, hc101_21.2.1, Int32.le_trans hK11.2.2 hc101_21.2.2⟩
            refine g_goto d_X5_readNumber_104 ?_
            refine g_iload d_X5_readNumber_135 rfl ?_
            exact g_ireturn d_X5_readNumber_137 rfl rfl rfl rfl ⟨rfl, hK25, x9, rfl, hF⟩
        refine g_icmp_ge d_X5_readNumber_29 (fun h29 => ?_) (fun h29 => ?_)
        · skip
          replace hF := fe_pos hF h29
          exact J_90 hF
        · skip
          replace hF := fe_neg hF h29
          refine g_aload_n d_X5_readNumber_32 rfl ?_
          refine g_getR d_X5_readNumber_33 fq_RX5_9 rfl rfl ?_
          refine g_aload_n d_X5_readNumber_36 rfl ?_
          refine g_getI d_X5_readNumber_37 fq_RX5_53 rfl rfl ?_
          refine g_caload (N := 300) d_X5_readNumber_40 rfl kT_300 (by constructor <;> grind) rfl ?_
          refine g_S1 d_X5_readNumber_41 cs_X5_readNumber_X5_isFigure lk_RX5_102 im_X5_isFigure (Nat.le_of_ble_eq_true rfl) ⟨rfl, rfl⟩ ⟨Nat.zero_le _, Nat.zero_le _⟩ (ct_X5_isFigure (I10 2 ((I10 1 2)).toNatClampNeg) I10 J2 ) (fun r41 S41 Ic27 Jc28 q41_25 => ?_)
          obtain ⟨rfl, rfl, rfl, r31, rfl, hz41, hf41_29⟩ := q41_25
          replace hF := fe_b3 hF hf41_29
          refine g_st (st' := [.int r31]) rfl ?_
          refine g_if_eq d_X5_readNumber_44 (fun h44 => ?_) (fun h44 => ?_)
          · skip
            replace hF := fe_pos hF h44
            exact J_90 hF
          · skip
            replace hF := fe_neg hF h44
            refine g_aload_n d_X5_readNumber_47 rfl ?_
            refine g_getI d_X5_readNumber_48 fq_RX5_53 rfl rfl ?_
            refine g_iload_n d_X5_readNumber_51 rfl ?_
            refine g_isub d_X5_readNumber_52 ?_
            refine g_iconst (v := 3) d_X5_readNumber_53 kI_3 ?_
            obtain ⟨j77_3, hj77_3, hF⟩ := fe_jx hF
            have J_77 : ∀ (y33 : Int32), (FE (fn_X5_readNumber least most I J) (fun _ => j77_3 y33)) → G m_X5_readNumber (rq m_X5_readNumber (fun r S' I' J' => S' = SHF ∧ (XT I' J' = XT I J ∧ RDI I' ∧ I 1 2 ≤ I' 1 2) ∧ ∃ v : Int32, r = some (.int v) ∧ fn_X5_readNumber least most I J = (v, I', J'))) 0 0 77 [some (.ref 1), some (.int least), some (.int most), some (.int v8), some (.int y33)] [] SHF I10 J2 := by
              intro y33 hF_j77_3
              have hF := fe_eq hF_j77_3 (congrFun hj77_3 y33)
              refine g_aload_n d_X5_readNumber_77 rfl ?_
              refine g_dup d_X5_readNumber_78 rfl ?_
              refine g_getI d_X5_readNumber_79 fq_RX5_53 rfl rfl ?_
              refine g_iconst (v := 1) d_X5_readNumber_82 kI_1 ?_
              refine g_iadd d_X5_readNumber_83 ?_
              refine g_putI d_X5_readNumber_84 fq_RX5_53 rfl rfl ?_
              refine g_nmI (fun I34 eI34 => ?_)
              replace hF := fe_lt hF eI34
              have hK35 : (XT I34 J2 = XT I J ∧ RDI I34 ∧ I 1 2 ≤ I34 1 2) := (by rw [eI34]; exact ⟨(xt_wI rfl).trans hK11.1, (rd_at hK11.2.1 h29).1, Int32.le_trans hK11.2.2 (rd_at hK11.2.1 h29).2⟩)
              refine g_goto d_X5_readNumber_87 ?_
              exact ih_21 _ (by rw [← hmu_21]; exact (by rw [eI34]; exact rd_step h29)) y33 I34 rfl hK35 ⟨kf0, Nat.lt_of_lt_of_le (by rw [← hmu_21]; exact (by rw [eI34]; exact rd_step h29)) hkf0, hF⟩
            refine g_icmp_ge d_X5_readNumber_54 (fun h54 => ?_) (fun h54 => ?_)
            · skip
              replace hF := fe_pos hF h54
              exact J_77 x9 hF
            · skip
              replace hF := fe_neg hF h54
              refine g_iload d_X5_readNumber_57 rfl ?_
              refine g_bipush (v := 10) d_X5_readNumber_59 kB_10 ?_
              refine g_imul d_X5_readNumber_61 ?_
              refine g_aload_n d_X5_readNumber_62 rfl ?_
              refine g_getR d_X5_readNumber_63 fq_RX5_9 rfl rfl ?_
              refine g_aload_n d_X5_readNumber_66 rfl ?_
              refine g_getI d_X5_readNumber_67 fq_RX5_53 rfl rfl ?_
              refine g_caload (N := 300) d_X5_readNumber_70 rfl kT_300 (by constructor <;> grind) rfl ?_
              refine g_bipush (v := 48) d_X5_readNumber_71 kB_48 ?_
              refine g_isub d_X5_readNumber_73 ?_
              refine g_iadd d_X5_readNumber_74 ?_
              refine g_topI (fun v36 ev36 => ?_)
              replace hF := fe_lt hF ev36
              refine g_istore (L' := [some (.ref 1), some (.int least), some (.int most), some (.int v8), some (.int v36)]) d_X5_readNumber_75 (by decide) rfl ?_
              exact J_77 v36 hF
    exact K_21 _ (0 : Int32) I1 rfl hK7 ⟨_, Nat.lt_succ_self _, hF⟩
  · skip
    replace hF := fe_neg hF h4
    refine g_iconst (v := 0) d_X5_readNumber_7 kI_0 ?_
    exact g_ireturn d_X5_readNumber_8 rfl rfl rfl rfl ⟨rfl, hK0, (0 : Int32), rfl, hF⟩
noncomputable def fn_X5_readClauseEnd (I : Iv) (J : Jv) : Iv × Jv :=
  if (I 1 3) = 0 then b_n2 (fn_X5_skipBlanks I J) (fun (I1 : Iv) (J2 : Jv) => j_n (b_n2 (fn_X5_faultAt (1 : Int32) (I1 1 2) I1 J2) (fun (I8 : Iv) (J9 : Jv) => (I8, J9))) (fun (j60_0 : Iv × Jv) => if (I1 1 1) ≤ (I1 1 2) then j60_0 else if (I1 2 ((I1 1 2)).toNatClampNeg) = (59 : Int32) then l_t (wI I1 1 2 ((I1 1 2) + (1 : Int32))) (fun (I15 : Iv) => l_t (wI I15 1 5 ((I15 1 5) + (1 : Int32))) (fun (I17 : Iv) => (I17, J2))) else j60_0)) else (I, J)
set_option maxRecDepth 100000 in
set_option maxHeartbeats 4000000 in
theorem ct_X5_readClauseEnd  (I : Iv) (J : Jv) (hr0 : RDI I) : Ct m_X5_readClauseEnd [.ref 1] SHF I J (fun r S' I' J' => S' = SHF ∧ (XT I' J' = XT I J ∧ RDI I' ∧ I 1 2 ≤ I' 1 2) ∧ r = none ∧ fn_X5_readClauseEnd I J = (I', J')) := by
  refine ct_of 0 (by decide +kernel) rfl rfl ?_
  have hK0 : (XT I J = XT I J ∧ RDI I ∧ I 1 2 ≤ I 1 2) := ⟨rfl, hr0, Int32.le_refl _⟩
  have hF := fe_of (fn_X5_readClauseEnd.eq_1 I J)
  refine g_aload_n d_X5_readClauseEnd_0 rfl ?_
  refine g_getI d_X5_readClauseEnd_1 fq_RX5_50 rfl rfl ?_
  refine g_if_eq d_X5_readClauseEnd_4 (fun h4 => ?_) (fun h4 => ?_)
  · skip
    replace hF := fe_pos hF h4
    refine g_aload_n d_X5_readClauseEnd_8 rfl ?_
    refine g_V0 d_X5_readClauseEnd_9 cs_X5_readClauseEnd_X5_skipBlanks lk_RX5_59 im_X5_skipBlanks se_X5_skipBlanks rfl rfl rfl (Nat.le_of_ble_eq_true rfl) ⟨rfl, rfl⟩ ⟨Nat.zero_le _, Nat.zero_le _⟩ (ct_X5_skipBlanks  I J hr0) (fun r9 S9 I1 J2 q9_2 => ?_)
    obtain ⟨rfl, hc9_3, rfl, hf9_4⟩ := q9_2
    replace hF := fe_b2 hF hf9_4
    refine g_st (st' := []) rfl ?_
    have hK7 : (XT I1 J2 = XT I J ∧ RDI I1 ∧ I 1 2 ≤ I1 1 2) := ⟨hc9_3.1.trans hK0.1, hc9_3.2.1, Int32.le_trans hK0.2.2 hc9_3.2.2⟩
    refine g_aload_n d_X5_readClauseEnd_12 rfl ?_
    refine g_getI d_X5_readClauseEnd_13 fq_RX5_53 rfl rfl ?_
    refine g_aload_n d_X5_readClauseEnd_16 rfl ?_
    refine g_getI d_X5_readClauseEnd_17 fq_RX5_33 rfl rfl ?_
    obtain ⟨j60_0, hj60_0, hF⟩ := fe_jx hF
    have J_60 : (FE (fn_X5_readClauseEnd I J) (fun _ => j60_0)) → G m_X5_readClauseEnd (rq m_X5_readClauseEnd (fun r S' I' J' => S' = SHF ∧ (XT I' J' = XT I J ∧ RDI I' ∧ I 1 2 ≤ I' 1 2) ∧ r = none ∧ fn_X5_readClauseEnd I J = (I', J'))) 0 0 60 [some (.ref 1)] [] SHF I1 J2 := by
      intro hF_j60_0
      have hF := fe_eq hF_j60_0 hj60_0
      refine g_aload_n d_X5_readClauseEnd_60 rfl ?_
      refine g_iconst (v := 1) d_X5_readClauseEnd_61 kI_1 ?_
      refine g_aload_n d_X5_readClauseEnd_62 rfl ?_
      refine g_getI d_X5_readClauseEnd_63 fq_RX5_53 rfl rfl ?_
      refine g_V2 d_X5_readClauseEnd_66 cs_X5_readClauseEnd_X5_faultAt lk_RX5_62 im_X5_faultAt se_X5_faultAt rfl rfl rfl (Nat.le_of_ble_eq_true rfl) ⟨rfl, rfl⟩ ⟨Nat.zero_le _, Nat.zero_le _⟩ (ct_X5_faultAt (1 : Int32) (I1 1 2) I1 J2 (hK7.2.1)) (fun r66 S66 I8 J9 q66_9 => ?_)
      obtain ⟨rfl, hc66_10, rfl, hf66_11⟩ := q66_9
      replace hF := fe_b2 hF hf66_11
      refine g_st (st' := []) rfl ?_
      have hK14 : (XT I8 J9 = XT I J ∧ RDI I8 ∧ I 1 2 ≤ I8 1 2) := ⟨hc66_10.1.trans hK7.1, hc66_10.2.1, Int32.le_trans hK7.2.2 hc66_10.2.2⟩
      exact g_return d_X5_readClauseEnd_69 rfl rfl rfl ⟨rfl, hK14, rfl, hF⟩
    refine g_icmp_ge d_X5_readClauseEnd_20 (fun h20 => ?_) (fun h20 => ?_)
    · skip
      replace hF := fe_pos hF h20
      exact J_60 hF
    · skip
      replace hF := fe_neg hF h20
      refine g_aload_n d_X5_readClauseEnd_23 rfl ?_
      refine g_getR d_X5_readClauseEnd_24 fq_RX5_9 rfl rfl ?_
      refine g_aload_n d_X5_readClauseEnd_27 rfl ?_
      refine g_getI d_X5_readClauseEnd_28 fq_RX5_53 rfl rfl ?_
      refine g_caload (N := 300) d_X5_readClauseEnd_31 rfl kT_300 (by constructor <;> grind) rfl ?_
      refine g_bipush (v := 59) d_X5_readClauseEnd_32 kB_59 ?_
      refine g_icmp_ne d_X5_readClauseEnd_34 (fun h34 => ?_) (fun h34 => ?_)
      · skip
        replace hF := fe_neg hF h34
        exact J_60 hF
      · skip
        replace hF := fe_pos hF h34
        refine g_aload_n d_X5_readClauseEnd_37 rfl ?_
        refine g_dup d_X5_readClauseEnd_38 rfl ?_
        refine g_getI d_X5_readClauseEnd_39 fq_RX5_53 rfl rfl ?_
        refine g_iconst (v := 1) d_X5_readClauseEnd_42 kI_1 ?_
        refine g_iadd d_X5_readClauseEnd_43 ?_
        refine g_putI d_X5_readClauseEnd_44 fq_RX5_53 rfl rfl ?_
        refine g_nmI (fun I15 eI15 => ?_)
        replace hF := fe_lt hF eI15
        have hK16 : (XT I15 J2 = XT I J ∧ RDI I15 ∧ I 1 2 ≤ I15 1 2) := (by rw [eI15]; exact ⟨(xt_wI rfl).trans hK7.1, (rd_at hK7.2.1 h20).1, Int32.le_trans hK7.2.2 (rd_at hK7.2.1 h20).2⟩)
        refine g_aload_n d_X5_readClauseEnd_47 rfl ?_
        refine g_dup d_X5_readClauseEnd_48 rfl ?_
        refine g_getI d_X5_readClauseEnd_49 fq_RX5_69 rfl rfl ?_
        refine g_iconst (v := 1) d_X5_readClauseEnd_52 kI_1 ?_
        refine g_iadd d_X5_readClauseEnd_53 ?_
        refine g_putI d_X5_readClauseEnd_54 fq_RX5_69 rfl rfl ?_
        refine g_nmI (fun I17 eI17 => ?_)
        replace hF := fe_lt hF eI17
        have hK18 : (XT I17 J2 = XT I J ∧ RDI I17 ∧ I 1 2 ≤ I17 1 2) := (by rw [eI17]; exact ⟨(xt_wI rfl).trans hK16.1, (rd_cl hK16.2.1 (by rw [eI15]; simp [wI]; grind)).1, by rw [(rd_cl hK16.2.1 (by rw [eI15]; simp [wI]; grind)).2]; exact hK16.2.2⟩)
        refine g_goto d_X5_readClauseEnd_57 ?_
        exact g_return d_X5_readClauseEnd_69 rfl rfl rfl ⟨rfl, hK18, rfl, hF⟩
  · skip
    replace hF := fe_neg hF h4
    exact g_return d_X5_readClauseEnd_7 rfl rfl rfl ⟨rfl, hK0, rfl, hF⟩
noncomputable def fn_X5_readClauseNumbers (clause : Int32) (I : Iv) (J : Jv) : Iv × Jv :=
  l_t ((((stI.getD 1 default).2).getD clause.toNatClampNeg 0)) (fun (t1 : Int32) => l_t ((((stI.getD 2 default).2).getD clause.toNatClampNeg 0)) (fun (t2 : Int32) => b_n3 (fn_X5_readNumber t1 t2 I J) (fun (r8 : Int32) (I3 : Iv) (J4 : Jv) => l_t (wI I3 4 (clause.toNatClampNeg) r8) (fun (I11 : Iv) => if clause = (12 : Int32) then l_t ((((stI.getD 2 default).2).getD 13 0)) (fun (t13 : Int32) => b_n3 (fn_X5_readNumber ((I11 4 12) + (1 : Int32)) t13 I11 J4) (fun (r19 : Int32) (I14 : Iv) (J15 : Jv) => l_t (wI I14 4 13 r19) (fun (I22 : Iv) => l_t ((((stI.getD 1 default).2).getD 14 0)) (fun (t24 : Int32) => l_t ((((stI.getD 2 default).2).getD 14 0)) (fun (t25 : Int32) => b_n3 (fn_X5_readNumber t24 t25 I22 J15) (fun (r31 : Int32) (I26 : Iv) (J27 : Jv) => l_t (wI I26 4 14 r31) (fun (I34 : Iv) => (I34, J27)))))))) else (I11, J4)))))
set_option maxRecDepth 100000 in
set_option maxHeartbeats 4000000 in
theorem ct_X5_readClauseNumbers (clause : Int32) (I : Iv) (J : Jv) (hr0 : RDI I) (hcl : 0 ≤ clause ∧ clause < 13) : Ct m_X5_readClauseNumbers [.ref 1, .int clause] SHF I J (fun r S' I' J' => S' = SHF ∧ (XT I' J' = XT I J ∧ RDI I' ∧ I 1 2 ≤ I' 1 2) ∧ r = none ∧ fn_X5_readClauseNumbers clause I J = (I', J')) := by
  refine ct_of 0 (by decide +kernel) rfl rfl ?_
  have hK0 : (XT I J = XT I J ∧ RDI I ∧ I 1 2 ≤ I 1 2) := ⟨rfl, hr0, Int32.le_refl _⟩
  have hF := fe_of (fn_X5_readClauseNumbers.eq_1 clause I J)
  refine g_aload_n d_X5_readClauseNumbers_0 rfl ?_
  refine g_getR d_X5_readClauseNumbers_1 fq_RX5_23 rfl rfl ?_
  refine g_iload_n d_X5_readClauseNumbers_4 rfl ?_
  refine g_aload_n d_X5_readClauseNumbers_5 rfl ?_
  refine g_gets (j := 1) d_X5_readClauseNumbers_6 rfl sl_RX5_86 ?_
  refine g_iload_n d_X5_readClauseNumbers_9 rfl ?_
  refine g_tload (j := 1) (N := 15) d_X5_readClauseNumbers_10 rfl kT_15 (by constructor <;> grind) rfl ?_
  refine g_topI (fun t1 et1 => ?_)
  replace hF := fe_lt hF et1
  refine g_gets (j := 2) d_X5_readClauseNumbers_11 rfl sl_RX5_89 ?_
  refine g_iload_n d_X5_readClauseNumbers_14 rfl ?_
  refine g_tload (j := 2) (N := 15) d_X5_readClauseNumbers_15 rfl kT_15 (by constructor <;> grind) rfl ?_
  refine g_topI (fun t2 et2 => ?_)
  replace hF := fe_lt hF et2
  refine g_V2 d_X5_readClauseNumbers_16 cs_X5_readClauseNumbers_X5_readNumber lk_RX5_92 im_X5_readNumber se_X5_readNumber rfl rfl rfl (Nat.le_of_ble_eq_true rfl) ⟨rfl, rfl⟩ ⟨Nat.zero_le _, Nat.zero_le _⟩ (ct_X5_readNumber t1 t2 I J hr0) (fun r16 S16 I3 J4 q16_4 => ?_)
  obtain ⟨rfl, hc16_5, r8, rfl, hf16_6⟩ := q16_4
  replace hF := fe_b3 hF hf16_6
  refine g_st (st' := [.int r8, .int clause, .ref 4]) rfl ?_
  have hK10 : (XT I3 J4 = XT I J ∧ RDI I3 ∧ I 1 2 ≤ I3 1 2) := ⟨hc16_5.1.trans hK0.1, hc16_5.2.1, Int32.le_trans hK0.2.2 hc16_5.2.2⟩
  refine g_iastore (N := 15) d_X5_readClauseNumbers_19 rfl kT_15 (by constructor <;> grind) rfl  ?_
  refine g_nmI (fun I11 eI11 => ?_)
  replace hF := fe_lt hF eI11
  have hK12 : (XT I11 J4 = XT I J ∧ RDI I11 ∧ I 1 2 ≤ I11 1 2) := (by rw [eI11]; exact ⟨(xt_wI rfl).trans hK10.1, (rd_wI hK10.2.1 (by omega)).1, by rw [(rd_wI hK10.2.1 (by omega)).2]; exact hK10.2.2⟩)
  refine g_iload_n d_X5_readClauseNumbers_20 rfl ?_
  refine g_bipush (v := 12) d_X5_readClauseNumbers_21 kB_12 ?_
  refine g_icmp_ne d_X5_readClauseNumbers_23 (fun h23 => ?_) (fun h23 => ?_)
  · skip
    replace hF := fe_neg hF h23
    exact g_return d_X5_readClauseNumbers_75 rfl rfl rfl ⟨rfl, hK12, rfl, hF⟩
  · skip
    replace hF := fe_pos hF h23
    refine g_aload_n d_X5_readClauseNumbers_26 rfl ?_
    refine g_getR d_X5_readClauseNumbers_27 fq_RX5_23 rfl rfl ?_
    refine g_bipush (v := 13) d_X5_readClauseNumbers_30 kB_13 ?_
    refine g_aload_n d_X5_readClauseNumbers_32 rfl ?_
    refine g_aload_n d_X5_readClauseNumbers_33 rfl ?_
    refine g_getR d_X5_readClauseNumbers_34 fq_RX5_23 rfl rfl ?_
    refine g_bipush (v := 12) d_X5_readClauseNumbers_37 kB_12 ?_
    refine g_iaload (N := 15) d_X5_readClauseNumbers_39 rfl kT_15 ⟨by decide, by decide⟩ kN_12 ?_
    refine g_iconst (v := 1) d_X5_readClauseNumbers_40 kI_1 ?_
    refine g_iadd d_X5_readClauseNumbers_41 ?_
    refine g_gets (j := 2) d_X5_readClauseNumbers_42 rfl sl_RX5_89 ?_
    refine g_bipush (v := 13) d_X5_readClauseNumbers_45 kB_13 ?_
    refine g_tload (j := 2) (N := 15) d_X5_readClauseNumbers_47 rfl kT_15 ⟨by decide, by decide⟩ kN_13 ?_
    refine g_topI (fun t13 et13 => ?_)
    replace hF := fe_lt hF et13
    refine g_V2 d_X5_readClauseNumbers_48 cs_X5_readClauseNumbers_X5_readNumber lk_RX5_92 im_X5_readNumber se_X5_readNumber rfl rfl rfl (Nat.le_of_ble_eq_true rfl) ⟨rfl, rfl⟩ ⟨Nat.zero_le _, Nat.zero_le _⟩ (ct_X5_readNumber ((I11 4 12) + (1 : Int32)) t13 I11 J4 (hK12.2.1)) (fun r48 S48 I14 J15 q48_15 => ?_)
    obtain ⟨rfl, hc48_16, r19, rfl, hf48_17⟩ := q48_15
    replace hF := fe_b3 hF hf48_17
    refine g_st (st' := [.int r19, .int (13 : Int32), .ref 4]) rfl ?_
    have hK21 : (XT I14 J15 = XT I J ∧ RDI I14 ∧ I 1 2 ≤ I14 1 2) := ⟨hc48_16.1.trans hK12.1, hc48_16.2.1, Int32.le_trans hK12.2.2 hc48_16.2.2⟩
    refine g_iastore (N := 15) d_X5_readClauseNumbers_51 rfl kT_15 ⟨by decide, by decide⟩ kN_13  ?_
    refine g_nmI (fun I22 eI22 => ?_)
    replace hF := fe_lt hF eI22
    have hK23 : (XT I22 J15 = XT I J ∧ RDI I22 ∧ I 1 2 ≤ I22 1 2) := (by rw [eI22]; exact ⟨(xt_wI rfl).trans hK21.1, (rd_wI hK21.2.1 (by omega)).1, by rw [(rd_wI hK21.2.1 (by omega)).2]; exact hK21.2.2⟩)
    refine g_aload_n d_X5_readClauseNumbers_52 rfl ?_
    refine g_getR d_X5_readClauseNumbers_53 fq_RX5_23 rfl rfl ?_
    refine g_bipush (v := 14) d_X5_readClauseNumbers_56 kB_14 ?_
    refine g_aload_n d_X5_readClauseNumbers_58 rfl ?_
    refine g_gets (j := 1) d_X5_readClauseNumbers_59 rfl sl_RX5_86 ?_
    refine g_bipush (v := 14) d_X5_readClauseNumbers_62 kB_14 ?_
    refine g_tload (j := 1) (N := 15) d_X5_readClauseNumbers_64 rfl kT_15 ⟨by decide, by decide⟩ kN_14 ?_
    refine g_topI (fun t24 et24 => ?_)
    replace hF := fe_lt hF et24
    refine g_gets (j := 2) d_X5_readClauseNumbers_65 rfl sl_RX5_89 ?_
    refine g_bipush (v := 14) d_X5_readClauseNumbers_68 kB_14 ?_
    refine g_tload (j := 2) (N := 15) d_X5_readClauseNumbers_70 rfl kT_15 ⟨by decide, by decide⟩ kN_14 ?_
    refine g_topI (fun t25 et25 => ?_)
    replace hF := fe_lt hF et25
    refine g_V2 d_X5_readClauseNumbers_71 cs_X5_readClauseNumbers_X5_readNumber lk_RX5_92 im_X5_readNumber se_X5_readNumber rfl rfl rfl (Nat.le_of_ble_eq_true rfl) ⟨rfl, rfl⟩ ⟨Nat.zero_le _, Nat.zero_le _⟩ (ct_X5_readNumber t24 t25 I22 J15 (hK23.2.1)) (fun r71 S71 I26 J27 q71_27 => ?_)
    obtain ⟨rfl, hc71_28, r31, rfl, hf71_29⟩ := q71_27
    replace hF := fe_b3 hF hf71_29
    refine g_st (st' := [.int r31, .int (14 : Int32), .ref 4]) rfl ?_
    have hK33 : (XT I26 J27 = XT I J ∧ RDI I26 ∧ I 1 2 ≤ I26 1 2) := ⟨hc71_28.1.trans hK23.1, hc71_28.2.1, Int32.le_trans hK23.2.2 hc71_28.2.2⟩
    refine g_iastore (N := 15) d_X5_readClauseNumbers_74 rfl kT_15 ⟨by decide, by decide⟩ kN_14  ?_
    refine g_nmI (fun I34 eI34 => ?_)
    replace hF := fe_lt hF eI34
    have hK35 : (XT I34 J27 = XT I J ∧ RDI I34 ∧ I 1 2 ≤ I34 1 2) := (by rw [eI34]; exact ⟨(xt_wI rfl).trans hK33.1, (rd_wI hK33.2.1 (by omega)).1, by rw [(rd_wI hK33.2.1 (by omega)).2]; exact hK33.2.2⟩)
    exact g_return d_X5_readClauseNumbers_75 rfl rfl rfl ⟨rfl, hK35, rfl, hF⟩
noncomputable def fn_X5_readClause (I : Iv) (J : Jv) : Iv × Jv :=
  l_t ((I 1 2)) (fun (v1 : Int32) => b_n2 (fn_X5_readWord I J) (fun (I2 : Iv) (J3 : Jv) => b_n3 (fn_X5_clauseFrom v1 I2 J3) (fun (r14 : Int32) (_ : Iv) (_ : Jv) => j_n (b_n2 (fn_X5_faultAt (1 : Int32) v1 I2 J3) (fun (I16 : Iv) (J17 : Jv) => (I16, J17))) (fun (j25_0 : Iv × Jv) => if r14 < 0 then j25_0 else if r14 < (13 : Int32) then if (I2 3 r14.toNatClampNeg) = 0 then l_t (wI I2 3 (r14.toNatClampNeg) (1 : Int32)) (fun (I23 : Iv) => b_n2 (fn_X5_readClauseNumbers r14 I23 J3) (fun (I25 : Iv) (J26 : Jv) => b_n2 (fn_X5_readClauseEnd I25 J26) (fun (I32 : Iv) (J33 : Jv) => (I32, J33)))) else b_n2 (fn_X5_faultAt (3 : Int32) v1 I2 J3) (fun (I39 : Iv) (J40 : Jv) => (I39, J40)) else j25_0))))
set_option maxRecDepth 100000 in
set_option maxHeartbeats 4000000 in
theorem ct_X5_readClause  (I : Iv) (J : Jv) (hr0 : RDI I) : Ct m_X5_readClause [.ref 1] SHF I J (fun r S' I' J' => S' = SHF ∧ (XT I' J' = XT I J ∧ RDI I' ∧ I 1 2 ≤ I' 1 2) ∧ r = none ∧ fn_X5_readClause I J = (I', J')) := by
  refine ct_of 2 (by decide +kernel) rfl rfl ?_
  have hK0 : (XT I J = XT I J ∧ RDI I ∧ I 1 2 ≤ I 1 2) := ⟨rfl, hr0, Int32.le_refl _⟩
  have hF := fe_of (fn_X5_readClause.eq_1 I J)
  refine g_aload_n d_X5_readClause_0 rfl ?_
  refine g_getI d_X5_readClause_1 fq_RX5_53 rfl rfl ?_
  refine g_topI (fun v1 ev1 => ?_)
  replace hF := fe_lt hF ev1
  refine g_istore_n (L' := [some (.ref 1), some (.int v1), none]) d_X5_readClause_4 (by decide) rfl ?_
  refine g_aload_n d_X5_readClause_5 rfl ?_
  refine g_V0 d_X5_readClause_6 cs_X5_readClause_X5_readWord lk_RX5_72 im_X5_readWord se_X5_readWord rfl rfl rfl (Nat.le_of_ble_eq_true rfl) ⟨rfl, rfl⟩ ⟨Nat.zero_le _, Nat.zero_le _⟩ (ct_X5_readWord  I J hr0) (fun r6 S6 I2 J3 q6_3 => ?_)
  obtain ⟨rfl, hc6_4, rfl, hf6_5⟩ := q6_3
  replace hF := fe_b2 hF hf6_5
  refine g_st (st' := []) rfl ?_
  have hK8 : (XT I2 J3 = XT I J ∧ RDI I2 ∧ I 1 2 ≤ I2 1 2) := ⟨hc6_4.1.trans hK0.1, hc6_4.2.1, Int32.le_trans hK0.2.2 hc6_4.2.2⟩
  refine g_aload_n d_X5_readClause_9 rfl ?_
  refine g_iload_n d_X5_readClause_10 rfl ?_
  refine g_V1 d_X5_readClause_11 cs_X5_readClause_X5_clauseFrom lk_RX5_75 im_X5_clauseFrom se_X5_clauseFrom rfl rfl rfl (Nat.le_of_ble_eq_true rfl) ⟨rfl, rfl⟩ ⟨Nat.zero_le _, Nat.zero_le _⟩ (ct_X5_clauseFrom v1 I2 J3 (by grind) (hK8.2.1)) (fun r11 S11 Ic10 Jc11 q11_8 => ?_)
  obtain ⟨rfl, rfl, rfl, r14, rfl, hf11_12⟩ := q11_8
  replace hF := fe_b3 hF hf11_12
  refine g_st (st' := [.int r14]) rfl ?_
  refine g_istore_n (L' := [some (.ref 1), some (.int v1), some (.int r14)]) d_X5_readClause_14 (by decide) rfl ?_
  refine g_iload_n d_X5_readClause_15 rfl ?_
  obtain ⟨j25_0, hj25_0, hF⟩ := fe_jx hF
  have J_25 : (FE (fn_X5_readClause I J) (fun _ => j25_0)) → G m_X5_readClause (rq m_X5_readClause (fun r S' I' J' => S' = SHF ∧ (XT I' J' = XT I J ∧ RDI I' ∧ I 1 2 ≤ I' 1 2) ∧ r = none ∧ fn_X5_readClause I J = (I', J'))) 0 0 25 [some (.ref 1), some (.int v1), some (.int r14)] [] SHF I2 J3 := by
    intro hF_j25_0
    have hF := fe_eq hF_j25_0 hj25_0
    refine g_aload_n d_X5_readClause_25 rfl ?_
    refine g_iconst (v := 1) d_X5_readClause_26 kI_1 ?_
    refine g_iload_n d_X5_readClause_27 rfl ?_
    refine g_V2 d_X5_readClause_28 cs_X5_readClause_X5_faultAt lk_RX5_62 im_X5_faultAt se_X5_faultAt rfl rfl rfl (Nat.le_of_ble_eq_true rfl) ⟨rfl, rfl⟩ ⟨Nat.zero_le _, Nat.zero_le _⟩ (ct_X5_faultAt (1 : Int32) v1 I2 J3 (hK8.2.1)) (fun r28 S28 I16 J17 q28_17 => ?_)
    obtain ⟨rfl, hc28_18, rfl, hf28_19⟩ := q28_17
    replace hF := fe_b2 hF hf28_19
    refine g_st (st' := []) rfl ?_
    have hK22 : (XT I16 J17 = XT I J ∧ RDI I16 ∧ I 1 2 ≤ I16 1 2) := ⟨hc28_18.1.trans hK8.1, hc28_18.2.1, Int32.le_trans hK8.2.2 hc28_18.2.2⟩
    refine g_goto d_X5_readClause_31 ?_
    exact g_return d_X5_readClause_68 rfl rfl rfl ⟨rfl, hK22, rfl, hF⟩
  refine g_if_lt d_X5_readClause_16 (fun h16 => ?_) (fun h16 => ?_)
  · skip
    replace hF := fe_pos hF h16
    exact J_25 hF
  · skip
    replace hF := fe_neg hF h16
    refine g_iload_n d_X5_readClause_19 rfl ?_
    refine g_bipush (v := 13) d_X5_readClause_20 kB_13 ?_
    refine g_icmp_lt d_X5_readClause_22 (fun h22 => ?_) (fun h22 => ?_)
    · skip
      replace hF := fe_pos hF h22
      refine g_aload_n d_X5_readClause_34 rfl ?_
      refine g_getR d_X5_readClause_35 fq_RX5_19 rfl rfl ?_
      refine g_iload_n d_X5_readClause_38 rfl ?_
      refine g_baload (N := 13) d_X5_readClause_39 rfl kT_13 (by constructor <;> grind) rfl (fun hz39 => ?_)
      refine g_if_eq d_X5_readClause_40 (fun h40 => ?_) (fun h40 => ?_)
      · skip
        replace hF := fe_pos hF h40
        refine g_aload_n d_X5_readClause_52 rfl ?_
        refine g_getR d_X5_readClause_53 fq_RX5_19 rfl rfl ?_
        refine g_iload_n d_X5_readClause_56 rfl ?_
        refine g_iconst (v := 1) d_X5_readClause_57 kI_1 ?_
        refine g_bastore (N := 13) d_X5_readClause_58 rfl kT_13 (by constructor <;> grind) rfl (Or.inr rfl) ?_
        refine g_nmI (fun I23 eI23 => ?_)
        replace hF := fe_lt hF eI23
        have hK24 : (XT I23 J3 = XT I J ∧ RDI I23 ∧ I 1 2 ≤ I23 1 2) := (by rw [eI23]; exact ⟨(xt_wI rfl).trans hK8.1, (rd_wI hK8.2.1 (by omega)).1, by rw [(rd_wI hK8.2.1 (by omega)).2]; exact hK8.2.2⟩)
        refine g_aload_n d_X5_readClause_59 rfl ?_
        refine g_iload_n d_X5_readClause_60 rfl ?_
        refine g_V1 d_X5_readClause_61 cs_X5_readClause_X5_readClauseNumbers lk_RX5_79 im_X5_readClauseNumbers se_X5_readClauseNumbers rfl rfl rfl (Nat.le_of_ble_eq_true rfl) ⟨rfl, rfl⟩ ⟨Nat.zero_le _, Nat.zero_le _⟩ (ct_X5_readClauseNumbers r14 I23 J3 (hK24.2.1) (by grind)) (fun r61 S61 I25 J26 q61_26 => ?_)
        obtain ⟨rfl, hc61_27, rfl, hf61_28⟩ := q61_26
        replace hF := fe_b2 hF hf61_28
        refine g_st (st' := []) rfl ?_
        have hK31 : (XT I25 J26 = XT I J ∧ RDI I25 ∧ I 1 2 ≤ I25 1 2) := ⟨hc61_27.1.trans hK24.1, hc61_27.2.1, Int32.le_trans hK24.2.2 hc61_27.2.2⟩
        refine g_aload_n d_X5_readClause_64 rfl ?_
        refine g_V0 d_X5_readClause_65 cs_X5_readClause_X5_readClauseEnd lk_RX5_83 im_X5_readClauseEnd se_X5_readClauseEnd rfl rfl rfl (Nat.le_of_ble_eq_true rfl) ⟨rfl, rfl⟩ ⟨Nat.zero_le _, Nat.zero_le _⟩ (ct_X5_readClauseEnd  I25 J26 (hK31.2.1)) (fun r65 S65 I32 J33 q65_33 => ?_)
        obtain ⟨rfl, hc65_34, rfl, hf65_35⟩ := q65_33
        replace hF := fe_b2 hF hf65_35
        refine g_st (st' := []) rfl ?_
        have hK38 : (XT I32 J33 = XT I J ∧ RDI I32 ∧ I 1 2 ≤ I32 1 2) := ⟨hc65_34.1.trans hK31.1, hc65_34.2.1, Int32.le_trans hK31.2.2 hc65_34.2.2⟩
        exact g_return d_X5_readClause_68 rfl rfl rfl ⟨rfl, hK38, rfl, hF⟩
      · skip
        replace hF := fe_neg hF h40
        refine g_aload_n d_X5_readClause_43 rfl ?_
        refine g_iconst (v := 3) d_X5_readClause_44 kI_3 ?_
        refine g_iload_n d_X5_readClause_45 rfl ?_
        refine g_V2 d_X5_readClause_46 cs_X5_readClause_X5_faultAt lk_RX5_62 im_X5_faultAt se_X5_faultAt rfl rfl rfl (Nat.le_of_ble_eq_true rfl) ⟨rfl, rfl⟩ ⟨Nat.zero_le _, Nat.zero_le _⟩ (ct_X5_faultAt (3 : Int32) v1 I2 J3 (hK8.2.1)) (fun r46 S46 I39 J40 q46_40 => ?_)
        obtain ⟨rfl, hc46_41, rfl, hf46_42⟩ := q46_40
        replace hF := fe_b2 hF hf46_42
        refine g_st (st' := []) rfl ?_
        have hK45 : (XT I39 J40 = XT I J ∧ RDI I39 ∧ I 1 2 ≤ I39 1 2) := ⟨hc46_41.1.trans hK8.1, hc46_41.2.1, Int32.le_trans hK8.2.2 hc46_41.2.2⟩
        refine g_goto d_X5_readClause_49 ?_
        exact g_return d_X5_readClause_68 rfl rfl rfl ⟨rfl, hK45, rfl, hF⟩
    · skip
      replace hF := fe_neg hF h22
      exact J_25 hF
noncomputable def fn_X5_readOpening (I : Iv) (J : Jv) : Iv × Jv :=
  l_t ((I 1 2)) (fun (v1 : Int32) => b_n2 (fn_X5_readWord I J) (fun (I2 : Iv) (J3 : Jv) => b_n3 (fn_X5_isWord 13 v1 I2 J3) (fun (r14 : Int32) (_ : Iv) (_ : Jv) => if r14 = 0 then b_n2 (fn_X5_faultAt (1 : Int32) v1 I2 J3) (fun (I52 : Iv) (J53 : Jv) => (I52, J53)) else if (I2 1 5) < (12 : Int32) then l_t ((I2 1 5)) (fun (v16 : Int32) => j_n (fun (w17 : Int32) => b_n3 (fn_X5_readNumber w17 (287 : Int32) I2 J3) (fun (r23 : Int32) (I18 : Iv) (J19 : Jv) => l_t (wI I18 5 (v16.toNatClampNeg) r23) (fun (I26 : Iv) => b_n3 (fn_X5_readNumber (1 : Int32) (20 : Int32) I26 J19) (fun (r33 : Int32) (I28 : Iv) (J29 : Jv) => l_t (wI I28 6 (v16.toNatClampNeg) r33) (fun (I36 : Iv) => b_n2 (fn_X5_readClauseEnd I36 J29) (fun (I38 : Iv) (J39 : Jv) => (I38, J39))))))) (fun (j69_0 : Int32 → Iv × Jv) => if v16 ≤ 0 then j69_0 ((0 : Int32)) else j69_0 (((I2 5 ((v16 - (1 : Int32))).toNatClampNeg) + (1 : Int32))))) else b_n2 (fn_X5_faultAt (3 : Int32) v1 I2 J3) (fun (I45 : Iv) (J46 : Jv) => (I45, J46)))))
set_option maxRecDepth 100000 in
set_option maxHeartbeats 4000000 in
theorem ct_X5_readOpening  (I : Iv) (J : Jv) (hr0 : RDI I) : Ct m_X5_readOpening [.ref 1] SHF I J (fun r S' I' J' => S' = SHF ∧ (XT I' J' = XT I J ∧ RDI I' ∧ I 1 2 ≤ I' 1 2) ∧ r = none ∧ fn_X5_readOpening I J = (I', J')) := by
  refine ct_of 3 (by decide +kernel) rfl rfl ?_
  have hK0 : (XT I J = XT I J ∧ RDI I ∧ I 1 2 ≤ I 1 2) := ⟨rfl, hr0, Int32.le_refl _⟩
  have hF := fe_of (fn_X5_readOpening.eq_1 I J)
  refine g_aload_n d_X5_readOpening_0 rfl ?_
  refine g_getI d_X5_readOpening_1 fq_RX5_53 rfl rfl ?_
  refine g_topI (fun v1 ev1 => ?_)
  replace hF := fe_lt hF ev1
  refine g_istore_n (L' := [some (.ref 1), some (.int v1), none, none]) d_X5_readOpening_4 (by decide) rfl ?_
  refine g_aload_n d_X5_readOpening_5 rfl ?_
  refine g_V0 d_X5_readOpening_6 cs_X5_readOpening_X5_readWord lk_RX5_72 im_X5_readWord se_X5_readWord rfl rfl rfl (Nat.le_of_ble_eq_true rfl) ⟨rfl, rfl⟩ ⟨Nat.zero_le _, Nat.zero_le _⟩ (ct_X5_readWord  I J hr0) (fun r6 S6 I2 J3 q6_3 => ?_)
  obtain ⟨rfl, hc6_4, rfl, hf6_5⟩ := q6_3
  replace hF := fe_b2 hF hf6_5
  refine g_st (st' := []) rfl ?_
  have hK8 : (XT I2 J3 = XT I J ∧ RDI I2 ∧ I 1 2 ≤ I2 1 2) := ⟨hc6_4.1.trans hK0.1, hc6_4.2.1, Int32.le_trans hK0.2.2 hc6_4.2.2⟩
  refine g_aload_n d_X5_readOpening_9 rfl ?_
  refine g_ldcS (j := 13) d_X5_readOpening_10 rfl rfl ?_
  refine g_iload_n d_X5_readOpening_12 rfl ?_
  refine g_V2 d_X5_readOpening_13 cs_X5_readOpening_X5_isWord lk_RX5_98 im_X5_isWord se_X5_isWord rfl rfl rfl (Nat.le_of_ble_eq_true rfl) ⟨rfl, rfl⟩ ⟨Nat.zero_le _, Nat.zero_le _⟩ (ct_X5_isWord v1 I2 J3 (by grind) (by grind) (hK8.2.1)) (fun r13 S13 Ic10 Jc11 q13_8 => ?_)
  obtain ⟨rfl, rfl, rfl, r14, rfl, hz13, hf13_12⟩ := q13_8
  replace hF := fe_b3 hF hf13_12
  refine g_st (st' := [.int r14]) rfl ?_
  refine g_if_ne d_X5_readOpening_16 (fun h16 => ?_) (fun h16 => ?_)
  · skip
    replace hF := fe_neg hF h16
    refine g_aload_n d_X5_readOpening_28 rfl ?_
    refine g_getI d_X5_readOpening_29 fq_RX5_69 rfl rfl ?_
    refine g_bipush (v := 12) d_X5_readOpening_32 kB_12 ?_
    refine g_icmp_lt d_X5_readOpening_34 (fun h34 => ?_) (fun h34 => ?_)
    · skip
      replace hF := fe_pos hF h34
      refine g_aload_n d_X5_readOpening_46 rfl ?_
      refine g_getI d_X5_readOpening_47 fq_RX5_69 rfl rfl ?_
      refine g_topI (fun v16 ev16 => ?_)
      replace hF := fe_lt hF ev16
      refine g_istore_n (L' := [some (.ref 1), some (.int v1), some (.int v16), none]) d_X5_readOpening_50 (by decide) rfl ?_
      refine g_iload_n d_X5_readOpening_51 rfl ?_
      obtain ⟨j69_0, hj69_0, hF⟩ := fe_jx hF
      have J_69 : ∀ (w17 : Int32), (FE (fn_X5_readOpening I J) (fun _ => j69_0 w17)) → G m_X5_readOpening (rq m_X5_readOpening (fun r S' I' J' => S' = SHF ∧ (XT I' J' = XT I J ∧ RDI I' ∧ I 1 2 ≤ I' 1 2) ∧ r = none ∧ fn_X5_readOpening I J = (I', J'))) 0 0 69 [some (.ref 1), some (.int v1), some (.int v16), none] [.int w17] SHF I2 J3 := by
        intro w17 hF_j69_0
        have hF := fe_eq hF_j69_0 (congrFun hj69_0 w17)
        refine g_istore_n (L' := [some (.ref 1), some (.int v1), some (.int v16), some (.int w17)]) d_X5_readOpening_69 (by decide) rfl ?_
        refine g_aload_n d_X5_readOpening_70 rfl ?_
        refine g_getR d_X5_readOpening_71 fq_RX5_27 rfl rfl ?_
        refine g_iload_n d_X5_readOpening_74 rfl ?_
        refine g_aload_n d_X5_readOpening_75 rfl ?_
        refine g_iload_n d_X5_readOpening_76 rfl ?_
        refine g_sipush (v := 287) d_X5_readOpening_77 kS_287 ?_
        refine g_V2 d_X5_readOpening_80 cs_X5_readOpening_X5_readNumber lk_RX5_92 im_X5_readNumber se_X5_readNumber rfl rfl rfl (Nat.le_of_ble_eq_true rfl) ⟨rfl, rfl⟩ ⟨Nat.zero_le _, Nat.zero_le _⟩ (ct_X5_readNumber w17 (287 : Int32) I2 J3 (hK8.2.1)) (fun r80 S80 I18 J19 q80_19 => ?_)
        obtain ⟨rfl, hc80_20, r23, rfl, hf80_21⟩ := q80_19
        replace hF := fe_b3 hF hf80_21
        refine g_st (st' := [.int r23, .int v16, .ref 5]) rfl ?_
        have hK25 : (XT I18 J19 = XT I J ∧ RDI I18 ∧ I 1 2 ≤ I18 1 2) := ⟨hc80_20.1.trans hK8.1, hc80_20.2.1, Int32.le_trans hK8.2.2 hc80_20.2.2⟩
        refine g_iastore (N := 12) d_X5_readOpening_83 rfl kT_12 (by constructor <;> grind) rfl  ?_
        refine g_nmI (fun I26 eI26 => ?_)
        replace hF := fe_lt hF eI26
        have hK27 : (XT I26 J19 = XT I J ∧ RDI I26 ∧ I 1 2 ≤ I26 1 2) := (by rw [eI26]; exact ⟨(xt_wI rfl).trans hK25.1, (rd_wI hK25.2.1 (by omega)).1, by rw [(rd_wI hK25.2.1 (by omega)).2]; exact hK25.2.2⟩)
        refine g_aload_n d_X5_readOpening_84 rfl ?_
        refine g_getR d_X5_readOpening_85 fq_RX5_30 rfl rfl ?_
        refine g_iload_n d_X5_readOpening_88 rfl ?_
        refine g_aload_n d_X5_readOpening_89 rfl ?_
        refine g_iconst (v := 1) d_X5_readOpening_90 kI_1 ?_
        refine g_bipush (v := 20) d_X5_readOpening_91 kB_20 ?_
        refine g_V2 d_X5_readOpening_93 cs_X5_readOpening_X5_readNumber lk_RX5_92 im_X5_readNumber se_X5_readNumber rfl rfl rfl (Nat.le_of_ble_eq_true rfl) ⟨rfl, rfl⟩ ⟨Nat.zero_le _, Nat.zero_le _⟩ (ct_X5_readNumber (1 : Int32) (20 : Int32) I26 J19 (hK27.2.1)) (fun r93 S93 I28 J29 q93_29 => ?_)
        obtain ⟨rfl, hc93_30, r33, rfl, hf93_31⟩ := q93_29
        replace hF := fe_b3 hF hf93_31
        refine g_st (st' := [.int r33, .int v16, .ref 6]) rfl ?_
        have hK35 : (XT I28 J29 = XT I J ∧ RDI I28 ∧ I 1 2 ≤ I28 1 2) := ⟨hc93_30.1.trans hK27.1, hc93_30.2.1, Int32.le_trans hK27.2.2 hc93_30.2.2⟩
        refine g_iastore (N := 12) d_X5_readOpening_96 rfl kT_12 (by constructor <;> grind) rfl  ?_
        refine g_nmI (fun I36 eI36 => ?_)
        replace hF := fe_lt hF eI36
        have hK37 : (XT I36 J29 = XT I J ∧ RDI I36 ∧ I 1 2 ≤ I36 1 2) := (by rw [eI36]; exact ⟨(xt_wI rfl).trans hK35.1, (rd_wI hK35.2.1 (by omega)).1, by rw [(rd_wI hK35.2.1 (by omega)).2]; exact hK35.2.2⟩)
        refine g_aload_n d_X5_readOpening_97 rfl ?_
        refine g_V0 d_X5_readOpening_98 cs_X5_readOpening_X5_readClauseEnd lk_RX5_83 im_X5_readClauseEnd se_X5_readClauseEnd rfl rfl rfl (Nat.le_of_ble_eq_true rfl) ⟨rfl, rfl⟩ ⟨Nat.zero_le _, Nat.zero_le _⟩ (ct_X5_readClauseEnd  I36 J29 (hK37.2.1)) (fun r98 S98 I38 J39 q98_39 => ?_)
        obtain ⟨rfl, hc98_40, rfl, hf98_41⟩ := q98_39
        replace hF := fe_b2 hF hf98_41
        refine g_st (st' := []) rfl ?_
        have hK44 : (XT I38 J39 = XT I J ∧ RDI I38 ∧ I 1 2 ≤ I38 1 2) := ⟨hc98_40.1.trans hK37.1, hc98_40.2.1, Int32.le_trans hK37.2.2 hc98_40.2.2⟩
        exact g_return d_X5_readOpening_101 rfl rfl rfl ⟨rfl, hK44, rfl, hF⟩
      refine g_if_le d_X5_readOpening_52 (fun h52 => ?_) (fun h52 => ?_)
      · skip
        replace hF := fe_pos hF h52
        refine g_iconst (v := 0) d_X5_readOpening_68 kI_0 ?_
        exact J_69 ((0 : Int32)) hF
      · skip
        replace hF := fe_neg hF h52
        refine g_aload_n d_X5_readOpening_55 rfl ?_
        refine g_getR d_X5_readOpening_56 fq_RX5_27 rfl rfl ?_
        refine g_iload_n d_X5_readOpening_59 rfl ?_
        refine g_iconst (v := 1) d_X5_readOpening_60 kI_1 ?_
        refine g_isub d_X5_readOpening_61 ?_
        refine g_iaload (N := 12) d_X5_readOpening_62 rfl kT_12 (by constructor <;> grind) rfl ?_
        refine g_iconst (v := 1) d_X5_readOpening_63 kI_1 ?_
        refine g_iadd d_X5_readOpening_64 ?_
        refine g_goto d_X5_readOpening_65 ?_
        exact J_69 (((I2 5 ((v16 - (1 : Int32))).toNatClampNeg) + (1 : Int32))) hF
    · skip
      replace hF := fe_neg hF h34
      refine g_aload_n d_X5_readOpening_37 rfl ?_
      refine g_iconst (v := 3) d_X5_readOpening_38 kI_3 ?_
      refine g_iload_n d_X5_readOpening_39 rfl ?_
      refine g_V2 d_X5_readOpening_40 cs_X5_readOpening_X5_faultAt lk_RX5_62 im_X5_faultAt se_X5_faultAt rfl rfl rfl (Nat.le_of_ble_eq_true rfl) ⟨rfl, rfl⟩ ⟨Nat.zero_le _, Nat.zero_le _⟩ (ct_X5_faultAt (3 : Int32) v1 I2 J3 (hK8.2.1)) (fun r40 S40 I45 J46 q40_46 => ?_)
      obtain ⟨rfl, hc40_47, rfl, hf40_48⟩ := q40_46
      replace hF := fe_b2 hF hf40_48
      refine g_st (st' := []) rfl ?_
      have hK51 : (XT I45 J46 = XT I J ∧ RDI I45 ∧ I 1 2 ≤ I45 1 2) := ⟨hc40_47.1.trans hK8.1, hc40_47.2.1, Int32.le_trans hK8.2.2 hc40_47.2.2⟩
      refine g_goto d_X5_readOpening_43 ?_
      exact g_return d_X5_readOpening_101 rfl rfl rfl ⟨rfl, hK51, rfl, hF⟩
  · skip
    replace hF := fe_pos hF h16
    refine g_aload_n d_X5_readOpening_19 rfl ?_
    refine g_iconst (v := 1) d_X5_readOpening_20 kI_1 ?_
    refine g_iload_n d_X5_readOpening_21 rfl ?_
    refine g_V2 d_X5_readOpening_22 cs_X5_readOpening_X5_faultAt lk_RX5_62 im_X5_faultAt se_X5_faultAt rfl rfl rfl (Nat.le_of_ble_eq_true rfl) ⟨rfl, rfl⟩ ⟨Nat.zero_le _, Nat.zero_le _⟩ (ct_X5_faultAt (1 : Int32) v1 I2 J3 (hK8.2.1)) (fun r22 S22 I52 J53 q22_53 => ?_)
    obtain ⟨rfl, hc22_54, rfl, hf22_55⟩ := q22_53
    replace hF := fe_b2 hF hf22_55
    refine g_st (st' := []) rfl ?_
    have hK58 : (XT I52 J53 = XT I J ∧ RDI I52 ∧ I 1 2 ≤ I52 1 2) := ⟨hc22_54.1.trans hK8.1, hc22_54.2.1, Int32.le_trans hK8.2.2 hc22_54.2.2⟩
    refine g_goto d_X5_readOpening_25 ?_
    exact g_return d_X5_readOpening_101 rfl rfl rfl ⟨rfl, hK58, rfl, hF⟩
noncomputable def fl_X5_readBox_41_1 (Kf1 : Int32 → Iv → Jv → Iv × Jv) : Nat → Int32 → Iv → Jv → Iv × Jv
  | 0, x14, I15, J16 => (I15, J16)
  | kf1 + 1, x14, I15, J16 => j_n (Kf1 x14 I15 J16) (fun (j80_2 : Iv × Jv) => if (300 : Int32) < x14 then j80_2 else if (I15 1 3) = 0 then if (I15 1 1) ≤ (I15 1 2) then j80_2 else b_n2 (fn_X5_readClause I15 J16) (fun (I26 : Iv) (J27 : Jv) => b_n2 (fn_X5_skipBlanks I26 J27) (fun (I33 : Iv) (J34 : Jv) => fl_X5_readBox_41_1  Kf1 kf1 (x14 + (1 : Int32)) I33 J34)) else j80_2)
noncomputable def fl_X5_readBox_6_0 (J2 : Jv) (Kf0 : Int32 → Iv → Iv × Jv) : Nat → Int32 → Iv → Iv × Jv
  | 0, x8, I9 => (I9, J2)
  | kf0 + 1, x8, I9 => if (13 : Int32) ≤ x8 then Kf0 x8 I9 else l_t (wI I9 3 (x8.toNatClampNeg) (0 : Int32)) (fun (I40 : Iv) => fl_X5_readBox_6_0 J2 Kf0 kf0 (x8 + (1 : Int32)) I40)
noncomputable def fn_X5_readBox (I : Iv) (J : Jv) : Iv × Jv :=
  b_n2 (fn_X5_begin I J) (fun (I1 : Iv) (J2 : Jv) => fl_X5_readBox_6_0 J2 (fun (x8 : Int32) (I9 : Iv) => l_t (cI I9 4 15 (fun i => (((stI.getD 0 default).2).getD i 0))) (fun (I12 : Iv) => fl_X5_readBox_41_1  (fun (x14 : Int32) (I15 : Iv) (J16 : Jv) => if (I15 1 3) = 0 then if (I15 4 7) < (I15 4 6) then (I15, J16) else b_n2 (fn_X5_faultAt (4 : Int32) (I15 1 1) I15 J16) (fun (I19 : Iv) (J20 : Jv) => (I19, J20)) else (I15, J16)) (mUe (300 : Int32) ((0 : Int32)) + 1) (0 : Int32) I12 J2)) (mU (13 : Int32) ((0 : Int32)) + 1) (0 : Int32) I1)
set_option maxRecDepth 100000 in
set_option maxHeartbeats 4000000 in
theorem ct_X5_readBox  (I : Iv) (J : Jv) (hln : 0 ≤ I 1 1 ∧ I 1 1 ≤ 300) : Ct m_X5_readBox [.ref 1] SHF I J (fun r S' I' J' => S' = SHF ∧ XT I' J' = XT I J ∧ r = none ∧ fn_X5_readBox I J = (I', J')) := by
  refine ct_of 1 (by decide +kernel) rfl rfl ?_
  have hK0 : XT I J = XT I J := rfl
  have hF := fe_of (fn_X5_readBox.eq_1 I J)
  refine g_aload_n d_X5_readBox_0 rfl ?_
  refine g_V0 d_X5_readBox_1 cs_X5_readBox_X5_begin lk_RX5_38 im_X5_begin se_X5_begin rfl rfl rfl (Nat.le_of_ble_eq_true rfl) ⟨rfl, rfl⟩ ⟨Nat.zero_le _, Nat.zero_le _⟩ (ct_X5_begin  I J hln) (fun r1 S1 I1 J2 q1_2 => ?_)
  obtain ⟨rfl, hc1_3, rfl, hf1_4⟩ := q1_2
  replace hF := fe_b2 hF hf1_4
  refine g_st (st' := []) rfl ?_
  have hK7 : (XT I1 J2 = XT I J ∧ RDI I1) := ⟨(hc1_3).1.trans hK0, (hc1_3).2⟩
  refine g_iconst (v := 0) d_X5_readBox_4 kI_0 ?_
  refine g_istore_n (L' := [some (.ref 1), some (.int (0 : Int32))]) d_X5_readBox_5 (by decide) rfl ?_
  obtain ⟨Kf0, hKf0, hF⟩ := fe_kx (f := fun K => fl_X5_readBox_6_0 J2 K (mU (13 : Int32) ((0 : Int32)) + 1) (0 : Int32) I1) hF
  have K_6 : ∀ (nu : Nat) (x8 : Int32) (I9 : Iv), mU (13 : Int32) x8 = nu → ((XT I9 J2 = XT I J ∧ RDI I9)) → ((0 : Int32) ≤ x8) → (∃ kq : Nat, nu < kq ∧ (fun kq => FE (fn_X5_readBox I J) (fun _ => fl_X5_readBox_6_0 J2 Kf0 kq x8 I9)) kq) → G m_X5_readBox (rq m_X5_readBox (fun r S' I' J' => S' = SHF ∧ XT I' J' = XT I J ∧ r = none ∧ fn_X5_readBox I J = (I', J'))) 0 0 6 [some (.ref 1), some (.int x8)] [] SHF I9 J2 := by
    intro nu
    induction nu using Nat.strongRecOn with
    | ind nu ih_6 =>
      intro x8 I9 hmu_6 hK10 hl11 hF_Kf0
      obtain ⟨kf0, hkf0, hF⟩ := fe_fu (P := fun kq => FE (fn_X5_readBox I J) (fun _ => fl_X5_readBox_6_0 J2 Kf0 kq x8 I9)) hF_Kf0
      replace hF := fe_eq hF (fl_X5_readBox_6_0.eq_2 _ _ _ _ _)
      refine g_iload_n d_X5_readBox_6 rfl ?_
      refine g_bipush (v := 13) d_X5_readBox_7 kB_13 ?_
      refine g_icmp_ge d_X5_readBox_9 (fun h9 => ?_) (fun h9 => ?_)
      · skip
        replace hF := fe_pos hF h9
        replace hF := fe_eq hF (congrFun (congrFun hKf0 x8) I9)
        refine g_gets (j := 0) d_X5_readBox_25 rfl sl_RX5_41 ?_
        refine g_iconst (v := 0) d_X5_readBox_28 kI_0 ?_
        refine g_aload_n d_X5_readBox_29 rfl ?_
        refine g_getR d_X5_readBox_30 fq_RX5_23 rfl rfl ?_
        refine g_iconst (v := 0) d_X5_readBox_33 kI_0 ?_
        refine g_bipush (v := 15) d_X5_readBox_34 kB_15 ?_
        refine g_copyT (a0 := 0) (j := 0) d_X5_readBox_36 ⟨tw_420, tw_85, tw_84, tw_4, by decide, by decide⟩ rfl rfl rfl rfl rfl ⟨kN_0, by decide⟩ ⟨kN_0, by decide⟩ ⟨kN_15, by decide⟩ (Nat.le_of_ble_eq_true rfl) ?_
        refine g_nmI (fun I12 eI12 => ?_)
        replace hF := fe_lt hF eI12
        have hK13 : (XT I12 J2 = XT I J ∧ RDI I12) := (by rw [eI12]; exact ⟨(xt_rowI rfl (fun b hb => cI_row hb)).trans hK10.1, (rd_row hK10.2 (cI_row (by decide))).1⟩)
        refine g_iconst (v := 0) d_X5_readBox_39 kI_0 ?_
        refine g_istore_n (L' := [some (.ref 1), some (.int (0 : Int32))]) d_X5_readBox_40 (by decide) rfl ?_
        obtain ⟨Kf1, hKf1, hF⟩ := fe_kx (f := fun K => fl_X5_readBox_41_1  K (mUe (300 : Int32) ((0 : Int32)) + 1) (0 : Int32) I12 J2) hF
        have K_41 : ∀ (nu : Nat) (x14 : Int32) (I15 : Iv) (J16 : Jv), mUe (300 : Int32) x14 = nu → ((XT I15 J16 = XT I J ∧ RDI I15)) → ((0 : Int32) ≤ x14) → (∃ kq : Nat, nu < kq ∧ (fun kq => FE (fn_X5_readBox I J) (fun _ => fl_X5_readBox_41_1  Kf1 kq x14 I15 J16)) kq) → G m_X5_readBox (rq m_X5_readBox (fun r S' I' J' => S' = SHF ∧ XT I' J' = XT I J ∧ r = none ∧ fn_X5_readBox I J = (I', J'))) 0 0 41 [some (.ref 1), some (.int x14)] [] SHF I15 J16 := by
          intro nu
          induction nu using Nat.strongRecOn with
          | ind nu ih_41 =>
            intro x14 I15 J16 hmu_41 hK17 hl18 hF_Kf1
            obtain ⟨kf1, hkf1, hF⟩ := fe_fu (P := fun kq => FE (fn_X5_readBox I J) (fun _ => fl_X5_readBox_41_1  Kf1 kq x14 I15 J16)) hF_Kf1
            replace hF := fe_eq hF (fl_X5_readBox_41_1.eq_2 _ _ _ _ _)
            refine g_iload_n d_X5_readBox_41 rfl ?_
            refine g_sipush (v := 300) d_X5_readBox_42 kS_300 ?_
            obtain ⟨j80_2, hj80_2, hF⟩ := fe_jx hF
            have J_80 : (FE (fn_X5_readBox I J) (fun _ => j80_2)) → G m_X5_readBox (rq m_X5_readBox (fun r S' I' J' => S' = SHF ∧ XT I' J' = XT I J ∧ r = none ∧ fn_X5_readBox I J = (I', J'))) 0 0 80 [some (.ref 1), some (.int x14)] [] SHF I15 J16 := by
              intro hF_j80_2
              have hF := fe_eq hF_j80_2 hj80_2
              replace hF := fe_eq hF (congrFun (congrFun (congrFun hKf1 x14) I15) J16)
              refine g_aload_n d_X5_readBox_80 rfl ?_
              refine g_getI d_X5_readBox_81 fq_RX5_50 rfl rfl ?_
              refine g_if_ne d_X5_readBox_84 (fun h84 => ?_) (fun h84 => ?_)
              · skip
                replace hF := fe_neg hF h84
                exact g_return d_X5_readBox_113 rfl rfl rfl ⟨rfl, (hK17).1, rfl, hF⟩
              · skip
                replace hF := fe_pos hF h84
                refine g_aload_n d_X5_readBox_87 rfl ?_
                refine g_getR d_X5_readBox_88 fq_RX5_23 rfl rfl ?_
                refine g_bipush (v := 7) d_X5_readBox_91 kB_7 ?_
                refine g_iaload (N := 15) d_X5_readBox_93 rfl kT_15 ⟨by decide, by decide⟩ kN_7 ?_
                refine g_aload_n d_X5_readBox_94 rfl ?_
                refine g_getR d_X5_readBox_95 fq_RX5_23 rfl rfl ?_
                refine g_bipush (v := 6) d_X5_readBox_98 kB_6 ?_
                refine g_iaload (N := 15) d_X5_readBox_100 rfl kT_15 ⟨by decide, by decide⟩ kN_6 ?_
                refine g_icmp_lt d_X5_readBox_101 (fun h101 => ?_) (fun h101 => ?_)
                · skip
                  replace hF := fe_pos hF h101
                  exact g_return d_X5_readBox_113 rfl rfl rfl ⟨rfl, (hK17).1, rfl, hF⟩
                · skip
                  replace hF := fe_neg hF h101
                  refine g_aload_n d_X5_readBox_104 rfl ?_
                  refine g_iconst (v := 4) d_X5_readBox_105 kI_4 ?_
                  refine g_aload_n d_X5_readBox_106 rfl ?_
                  refine g_getI d_X5_readBox_107 fq_RX5_33 rfl rfl ?_
                  refine g_V2 d_X5_readBox_110 cs_X5_readBox_X5_faultAt lk_RX5_62 im_X5_faultAt se_X5_faultAt rfl rfl rfl (Nat.le_of_ble_eq_true rfl) ⟨rfl, rfl⟩ ⟨Nat.zero_le _, Nat.zero_le _⟩ (ct_X5_faultAt (4 : Int32) (I15 1 1) I15 J16 (hK17.2)) (fun r110 S110 I19 J20 q110_20 => ?_)
                  obtain ⟨rfl, hc110_21, rfl, hf110_22⟩ := q110_20
                  replace hF := fe_b2 hF hf110_22
                  refine g_st (st' := []) rfl ?_
                  have hK25 : (XT I19 J20 = XT I J ∧ RDI I19) := ⟨hc110_21.1.trans hK17.1, hc110_21.2.1⟩
                  exact g_return d_X5_readBox_113 rfl rfl rfl ⟨rfl, (hK25).1, rfl, hF⟩
            refine g_icmp_gt d_X5_readBox_45 (fun h45 => ?_) (fun h45 => ?_)
            · skip
              replace hF := fe_pos hF h45
              exact J_80 hF
            · skip
              replace hF := fe_neg hF h45
              refine g_aload_n d_X5_readBox_48 rfl ?_
              refine g_getI d_X5_readBox_49 fq_RX5_50 rfl rfl ?_
              refine g_if_ne d_X5_readBox_52 (fun h52 => ?_) (fun h52 => ?_)
              · skip
                replace hF := fe_neg hF h52
                exact J_80 hF
              · skip
                replace hF := fe_pos hF h52
                refine g_aload_n d_X5_readBox_55 rfl ?_
                refine g_getI d_X5_readBox_56 fq_RX5_53 rfl rfl ?_
                refine g_aload_n d_X5_readBox_59 rfl ?_
                refine g_getI d_X5_readBox_60 fq_RX5_33 rfl rfl ?_
                refine g_icmp_ge d_X5_readBox_63 (fun h63 => ?_) (fun h63 => ?_)
                · skip
                  replace hF := fe_pos hF h63
                  exact J_80 hF
                · skip
                  replace hF := fe_neg hF h63
                  refine g_aload_n d_X5_readBox_66 rfl ?_
                  refine g_V0 d_X5_readBox_67 cs_X5_readBox_X5_readClause lk_RX5_56 im_X5_readClause se_X5_readClause rfl rfl rfl (Nat.le_of_ble_eq_true rfl) ⟨rfl, rfl⟩ ⟨Nat.zero_le _, Nat.zero_le _⟩ (ct_X5_readClause  I15 J16 (hK17.2)) (fun r67 S67 I26 J27 q67_27 => ?_)
                  obtain ⟨rfl, hc67_28, rfl, hf67_29⟩ := q67_27
                  replace hF := fe_b2 hF hf67_29
                  refine g_st (st' := []) rfl ?_
                  have hK32 : (XT I26 J27 = XT I J ∧ RDI I26) := ⟨hc67_28.1.trans hK17.1, hc67_28.2.1⟩
                  refine g_aload_n d_X5_readBox_70 rfl ?_
                  refine g_V0 d_X5_readBox_71 cs_X5_readBox_X5_skipBlanks lk_RX5_59 im_X5_skipBlanks se_X5_skipBlanks rfl rfl rfl (Nat.le_of_ble_eq_true rfl) ⟨rfl, rfl⟩ ⟨Nat.zero_le _, Nat.zero_le _⟩ (ct_X5_skipBlanks  I26 J27 (hK32.2)) (fun r71 S71 I33 J34 q71_34 => ?_)
                  obtain ⟨rfl, hc71_35, rfl, hf71_36⟩ := q71_34
                  replace hF := fe_b2 hF hf71_36
                  refine g_st (st' := []) rfl ?_
                  have hK39 : (XT I33 J34 = XT I J ∧ RDI I33) := ⟨hc71_35.1.trans hK32.1, hc71_35.2.1⟩
                  refine g_iinc (v := (x14 + (1 : Int32))) (L' := [some (.ref 1), some (.int (x14 + (1 : Int32)))]) d_X5_readBox_74 rfl (by rw [kI_1]) (by decide) rfl ?_
                  refine g_goto d_X5_readBox_77 ?_
                  exact ih_41 _ (by rw [← hmu_41]; exact mu_upe h45 (by decide)) (x14 + (1 : Int32)) I33 J34 rfl hK39 (lo_upe hl18 h45 (by decide)) ⟨kf1, Nat.lt_of_lt_of_le (by rw [← hmu_41]; exact mu_upe h45 (by decide)) hkf1, hF⟩
        exact K_41 _ (0 : Int32) I12 J2 rfl hK13 (Int32.le_refl _) ⟨_, Nat.lt_succ_self _, hF⟩
      · skip
        replace hF := fe_neg hF h9
        refine g_aload_n d_X5_readBox_12 rfl ?_
        refine g_getR d_X5_readBox_13 fq_RX5_19 rfl rfl ?_
        refine g_iload_n d_X5_readBox_16 rfl ?_
        refine g_iconst (v := 0) d_X5_readBox_17 kI_0 ?_
        refine g_bastore (N := 13) d_X5_readBox_18 rfl kT_13 ⟨hl11, Int32.not_le.mp h9⟩ rfl (Or.inl rfl) ?_
        refine g_nmI (fun I40 eI40 => ?_)
        replace hF := fe_lt hF eI40
        have hK41 : (XT I40 J2 = XT I J ∧ RDI I40) := (by rw [eI40]; exact ⟨(xt_wI rfl).trans hK10.1, (rd_wI hK10.2 (by omega)).1⟩)
        refine g_iinc (v := (x8 + (1 : Int32))) (L' := [some (.ref 1), some (.int (x8 + (1 : Int32)))]) d_X5_readBox_19 rfl (by rw [kI_1]) (by decide) rfl ?_
        refine g_goto d_X5_readBox_22 ?_
        exact ih_6 _ (by rw [← hmu_6]; exact mu_up h9) (x8 + (1 : Int32)) I40 rfl hK41 (lo_up hl11 h9) ⟨kf0, Nat.lt_of_lt_of_le (by rw [← hmu_6]; exact mu_up h9) hkf0, hF⟩
  exact K_6 _ (0 : Int32) I1 rfl hK7 (Int32.le_refl _) ⟨_, Nat.lt_succ_self _, hF⟩
noncomputable def fl_X5_readDay_6_0 (Kf0 : Int32 → Iv → Jv → Iv × Jv) : Nat → Int32 → Iv → Jv → Iv × Jv
  | 0, x8, I9, J10 => (I9, J10)
  | kf0 + 1, x8, I9, J10 => if (300 : Int32) < x8 then Kf0 x8 I9 J10 else if (I9 1 3) = 0 then if (I9 1 1) ≤ (I9 1 2) then Kf0 x8 I9 J10 else b_n2 (fn_X5_readOpening I9 J10) (fun (I13 : Iv) (J14 : Jv) => b_n2 (fn_X5_skipBlanks I13 J14) (fun (I20 : Iv) (J21 : Jv) => fl_X5_readDay_6_0  Kf0 kf0 (x8 + (1 : Int32)) I20 J21)) else Kf0 x8 I9 J10
noncomputable def fn_X5_readDay (I : Iv) (J : Jv) : Iv × Jv :=
  b_n2 (fn_X5_begin I J) (fun (I1 : Iv) (J2 : Jv) => fl_X5_readDay_6_0  (fun (x8 : Int32) (I9 : Iv) (J10 : Jv) => (I9, J10)) (mUe (300 : Int32) ((0 : Int32)) + 1) (0 : Int32) I1 J2)
set_option maxRecDepth 100000 in
set_option maxHeartbeats 4000000 in
theorem ct_X5_readDay  (I : Iv) (J : Jv) (hln : 0 ≤ I 1 1 ∧ I 1 1 ≤ 300) : Ct m_X5_readDay [.ref 1] SHF I J (fun r S' I' J' => S' = SHF ∧ XT I' J' = XT I J ∧ r = none ∧ fn_X5_readDay I J = (I', J')) := by
  refine ct_of 1 (by decide +kernel) rfl rfl ?_
  have hK0 : XT I J = XT I J := rfl
  have hF := fe_of (fn_X5_readDay.eq_1 I J)
  refine g_aload_n d_X5_readDay_0 rfl ?_
  refine g_V0 d_X5_readDay_1 cs_X5_readDay_X5_begin lk_RX5_38 im_X5_begin se_X5_begin rfl rfl rfl (Nat.le_of_ble_eq_true rfl) ⟨rfl, rfl⟩ ⟨Nat.zero_le _, Nat.zero_le _⟩ (ct_X5_begin  I J hln) (fun r1 S1 I1 J2 q1_2 => ?_)
  obtain ⟨rfl, hc1_3, rfl, hf1_4⟩ := q1_2
  replace hF := fe_b2 hF hf1_4
  refine g_st (st' := []) rfl ?_
  have hK7 : (XT I1 J2 = XT I J ∧ RDI I1) := ⟨(hc1_3).1.trans hK0, (hc1_3).2⟩
  refine g_iconst (v := 0) d_X5_readDay_4 kI_0 ?_
  refine g_istore_n (L' := [some (.ref 1), some (.int (0 : Int32))]) d_X5_readDay_5 (by decide) rfl ?_
  obtain ⟨Kf0, hKf0, hF⟩ := fe_kx (f := fun K => fl_X5_readDay_6_0  K (mUe (300 : Int32) ((0 : Int32)) + 1) (0 : Int32) I1 J2) hF
  have K_6 : ∀ (nu : Nat) (x8 : Int32) (I9 : Iv) (J10 : Jv), mUe (300 : Int32) x8 = nu → ((XT I9 J10 = XT I J ∧ RDI I9)) → ((0 : Int32) ≤ x8) → (∃ kq : Nat, nu < kq ∧ (fun kq => FE (fn_X5_readDay I J) (fun _ => fl_X5_readDay_6_0  Kf0 kq x8 I9 J10)) kq) → G m_X5_readDay (rq m_X5_readDay (fun r S' I' J' => S' = SHF ∧ XT I' J' = XT I J ∧ r = none ∧ fn_X5_readDay I J = (I', J'))) 0 0 6 [some (.ref 1), some (.int x8)] [] SHF I9 J10 := by
    intro nu
    induction nu using Nat.strongRecOn with
    | ind nu ih_6 =>
      intro x8 I9 J10 hmu_6 hK11 hl12 hF_Kf0
      obtain ⟨kf0, hkf0, hF⟩ := fe_fu (P := fun kq => FE (fn_X5_readDay I J) (fun _ => fl_X5_readDay_6_0  Kf0 kq x8 I9 J10)) hF_Kf0
      replace hF := fe_eq hF (fl_X5_readDay_6_0.eq_2 _ _ _ _ _)
      refine g_iload_n d_X5_readDay_6 rfl ?_
      refine g_sipush (v := 300) d_X5_readDay_7 kS_300 ?_
      refine g_icmp_gt d_X5_readDay_10 (fun h10 => ?_) (fun h10 => ?_)
      · skip
        replace hF := fe_pos hF h10
        replace hF := fe_eq hF (congrFun (congrFun (congrFun hKf0 x8) I9) J10)
        exact g_return d_X5_readDay_45 rfl rfl rfl ⟨rfl, (hK11).1, rfl, hF⟩
      · skip
        replace hF := fe_neg hF h10
        refine g_aload_n d_X5_readDay_13 rfl ?_
        refine g_getI d_X5_readDay_14 fq_RX5_50 rfl rfl ?_
        refine g_if_ne d_X5_readDay_17 (fun h17 => ?_) (fun h17 => ?_)
        · skip
          replace hF := fe_neg hF h17
          replace hF := fe_eq hF (congrFun (congrFun (congrFun hKf0 x8) I9) J10)
          exact g_return d_X5_readDay_45 rfl rfl rfl ⟨rfl, (hK11).1, rfl, hF⟩
        · skip
          replace hF := fe_pos hF h17
          refine g_aload_n d_X5_readDay_20 rfl ?_
          refine g_getI d_X5_readDay_21 fq_RX5_53 rfl rfl ?_
          refine g_aload_n d_X5_readDay_24 rfl ?_
          refine g_getI d_X5_readDay_25 fq_RX5_33 rfl rfl ?_
          refine g_icmp_ge d_X5_readDay_28 (fun h28 => ?_) (fun h28 => ?_)
          · skip
            replace hF := fe_pos hF h28
            replace hF := fe_eq hF (congrFun (congrFun (congrFun hKf0 x8) I9) J10)
            exact g_return d_X5_readDay_45 rfl rfl rfl ⟨rfl, (hK11).1, rfl, hF⟩
          · skip
            replace hF := fe_neg hF h28
            refine g_aload_n d_X5_readDay_31 rfl ?_
            refine g_V0 d_X5_readDay_32 cs_X5_readDay_X5_readOpening lk_RX5_66 im_X5_readOpening se_X5_readOpening rfl rfl rfl (Nat.le_of_ble_eq_true rfl) ⟨rfl, rfl⟩ ⟨Nat.zero_le _, Nat.zero_le _⟩ (ct_X5_readOpening  I9 J10 (hK11.2)) (fun r32 S32 I13 J14 q32_14 => ?_)
            obtain ⟨rfl, hc32_15, rfl, hf32_16⟩ := q32_14
            replace hF := fe_b2 hF hf32_16
            refine g_st (st' := []) rfl ?_
            have hK19 : (XT I13 J14 = XT I J ∧ RDI I13) := ⟨hc32_15.1.trans hK11.1, hc32_15.2.1⟩
            refine g_aload_n d_X5_readDay_35 rfl ?_
            refine g_V0 d_X5_readDay_36 cs_X5_readDay_X5_skipBlanks lk_RX5_59 im_X5_skipBlanks se_X5_skipBlanks rfl rfl rfl (Nat.le_of_ble_eq_true rfl) ⟨rfl, rfl⟩ ⟨Nat.zero_le _, Nat.zero_le _⟩ (ct_X5_skipBlanks  I13 J14 (hK19.2)) (fun r36 S36 I20 J21 q36_21 => ?_)
            obtain ⟨rfl, hc36_22, rfl, hf36_23⟩ := q36_21
            replace hF := fe_b2 hF hf36_23
            refine g_st (st' := []) rfl ?_
            have hK26 : (XT I20 J21 = XT I J ∧ RDI I20) := ⟨hc36_22.1.trans hK19.1, hc36_22.2.1⟩
            refine g_iinc (v := (x8 + (1 : Int32))) (L' := [some (.ref 1), some (.int (x8 + (1 : Int32)))]) d_X5_readDay_39 rfl (by rw [kI_1]) (by decide) rfl ?_
            refine g_goto d_X5_readDay_42 ?_
            exact ih_6 _ (by rw [← hmu_6]; exact mu_upe h10 (by decide)) (x8 + (1 : Int32)) I20 J21 rfl hK26 (lo_upe hl12 h10 (by decide)) ⟨kf0, Nat.lt_of_lt_of_le (by rw [← hmu_6]; exact mu_upe h10 (by decide)) hkf0, hF⟩
  exact K_6 _ (0 : Int32) I1 J2 rfl hK7 (Int32.le_refl _) ⟨_, Nat.lt_succ_self _, hF⟩
noncomputable def fl_X5_append_19_0 (J : Jv) (bytes : Int64) (Kf0 : Int32 → Iv → Int32 × Iv × Jv) : Nat → Int32 → Iv → Int32 × Iv × Jv
  | 0, x2, I3 => (0, I3, J)
  | kf0 + 1, x2, I3 => if x2 < 0 then Kf0 x2 I3 else if (300 : Int32) ≤ (I3 1 1) then fl_X5_append_19_0 J bytes Kf0 kf0 (x2 + (-1 : Int32)) I3 else l_t (wI I3 1 1 ((I3 1 1) + (1 : Int32))) (fun (I6 : Iv) => l_t (wI I6 2 (((I3 1 1)).toNatClampNeg) ((Int32.toUInt32 (Int64.toInt32 ((bytes.toUInt64 >>> (((8 : Int32) * x2).toInt64.toUInt64 &&& Int64.toUInt64 63)).toInt64 &&& (255 : Int64))) % 65536).toInt32)) (fun (I8 : Iv) => fl_X5_append_19_0 J bytes Kf0 kf0 (x2 + (-1 : Int32)) I8))
noncomputable def fn_X5_append (n : Int32) (bytes : Int64) (I : Iv) (J : Jv) : Int32 × Iv × Jv :=
  if n ≤ ((300 : Int32) - (I 1 1)) then l_t ((n - (1 : Int32))) (fun (v1 : Int32) => fl_X5_append_19_0 J bytes (fun (x2 : Int32) (I3 : Iv) => ((1 : Int32), I3, J)) (mD v1 + 1) v1 I) else ((0 : Int32), I, J)
set_option maxRecDepth 100000 in
set_option maxHeartbeats 4000000 in
theorem ct_X5_append (n : Int32) (bytes : Int64) (I : Iv) (J : Jv) (hln : 0 ≤ I 1 1 ∧ I 1 1 ≤ 300) (hn : 1 ≤ n ∧ n ≤ 8) : Ct m_X5_append [.ref 1, .int n, .long bytes] SHF I J (fun r S' I' J' => S' = SHF ∧ True ∧ ∃ v : Int32, r = some (.int v) ∧ (v = 0 ∨ v = 1) ∧ fn_X5_append n bytes I J = (v, I', J') ∧ ((v = 0 ∧ ¬ n ≤ 300 - I 1 1 ∧ XT I' J' = XT I J) ∨ (v = 1 ∧ n ≤ 300 - I 1 1 ∧ XT I' J' = XT (wI I 1 1 (I 1 1 + n)) J))) := by
  refine ct_of 1 (by decide +kernel) rfl rfl ?_
  have hK0 : XT I J = XT (wI I 1 1 (I 1 1)) J := (by rw [wI_own])
  have hF := fe_of (fn_X5_append.eq_1 n bytes I J)
  refine g_iload_n d_X5_append_0 rfl ?_
  refine g_sipush (v := 300) d_X5_append_1 kS_300 ?_
  refine g_aload_n d_X5_append_4 rfl ?_
  refine g_getI d_X5_append_5 fq_RX5_33 rfl rfl ?_
  refine g_isub d_X5_append_8 ?_
  refine g_icmp_le d_X5_append_9 (fun h9 => ?_) (fun h9 => ?_)
  · skip
    replace hF := fe_pos hF h9
    refine g_iload_n d_X5_append_14 rfl ?_
    refine g_iconst (v := 1) d_X5_append_15 kI_1 ?_
    refine g_isub d_X5_append_16 ?_
    refine g_topI (fun v1 ev1 => ?_)
    replace hF := fe_lt hF ev1
    refine g_istore (L' := [some (.ref 1), some (.int n), some (.long bytes), none, some (.int v1)]) d_X5_append_17 (by decide) rfl ?_
    obtain ⟨Kf0, hKf0, hF⟩ := fe_kx (f := fun K => fl_X5_append_19_0 J bytes K (mD v1 + 1) v1 I) hF
    have K_19 : ∀ (nu : Nat) (x2 : Int32) (I3 : Iv), mD x2 = nu → (XT I3 J = XT (wI I 1 1 (I3 1 1)) J) → (x2 ≤ v1) → (I3 1 1 = I 1 1 + (n - 1 - x2)) → (-1 ≤ x2) → (∃ kq : Nat, nu < kq ∧ (fun kq => FE (fn_X5_append n bytes I J) (fun _ => fl_X5_append_19_0 J bytes Kf0 kq x2 I3)) kq) → G m_X5_append (rq m_X5_append (fun r S' I' J' => S' = SHF ∧ True ∧ ∃ v : Int32, r = some (.int v) ∧ (v = 0 ∨ v = 1) ∧ fn_X5_append n bytes I J = (v, I', J') ∧ ((v = 0 ∧ ¬ n ≤ 300 - I 1 1 ∧ XT I' J' = XT I J) ∨ (v = 1 ∧ n ≤ 300 - I 1 1 ∧ XT I' J' = XT (wI I 1 1 (I 1 1 + n)) J)))) 0 0 19 [some (.ref 1), some (.int n), some (.long bytes), none, some (.int x2)] [] SHF I3 J := by
      intro nu
      induction nu using Nat.strongRecOn with
      | ind nu ih_19 =>
        intro x2 I3 hmu_19 hK4 hl5 hlen_19 hlo_19 hF_Kf0
        obtain ⟨kf0, hkf0, hF⟩ := fe_fu (P := fun kq => FE (fn_X5_append n bytes I J) (fun _ => fl_X5_append_19_0 J bytes Kf0 kq x2 I3)) hF_Kf0
        replace hF := fe_eq hF (fl_X5_append_19_0.eq_2 _ _ _ _ _ _)
        refine g_iload d_X5_append_19 rfl ?_
        refine g_if_lt d_X5_append_21 (fun h21 => ?_) (fun h21 => ?_)
        · skip
          replace hF := fe_pos hF h21
          replace hF := fe_eq hF (congrFun (congrFun hKf0 x2) I3)
          refine g_iconst (v := 1) d_X5_append_69 kI_1 ?_
          exact g_ireturn d_X5_append_70 rfl rfl rfl rfl ⟨rfl, trivial, (1 : Int32), rfl, Or.inr rfl, hF, (Or.inr ⟨rfl, by grind, (hK4).trans (by rw [show I3 1 1 = I 1 1 + n by grind])⟩)⟩
        · skip
          replace hF := fe_neg hF h21
          refine g_aload_n d_X5_append_24 rfl ?_
          refine g_getI d_X5_append_25 fq_RX5_33 rfl rfl ?_
          refine g_sipush (v := 300) d_X5_append_28 kS_300 ?_
          refine g_icmp_ge d_X5_append_31 (fun h31 => ?_) (fun h31 => ?_)
          · skip
            replace hF := fe_pos hF h31
            refine g_iinc (v := (x2 + (-1 : Int32))) (L' := [some (.ref 1), some (.int n), some (.long bytes), none, some (.int (x2 + (-1 : Int32)))]) d_X5_append_63 rfl (by rw [kI_m1]) (by decide) rfl ?_
            refine g_goto d_X5_append_66 ?_
            exact ih_19 _ (by rw [← hmu_19]; exact mu_dn h21) (x2 + (-1 : Int32)) I3 rfl hK4 (hi_dn hl5 h21) (by grind) (by grind) ⟨kf0, Nat.lt_of_lt_of_le (by rw [← hmu_19]; exact mu_dn h21) hkf0, hF⟩
          · skip
            replace hF := fe_neg hF h31
            refine g_aload_n d_X5_append_34 rfl ?_
            refine g_getR d_X5_append_35 fq_RX5_9 rfl rfl ?_
            refine g_aload_n d_X5_append_38 rfl ?_
            refine g_dup d_X5_append_39 rfl ?_
            refine g_getI d_X5_append_40 fq_RX5_33 rfl rfl ?_
            refine g_dup_x1 d_X5_append_43 rfl rfl ?_
            refine g_iconst (v := 1) d_X5_append_44 kI_1 ?_
            refine g_iadd d_X5_append_45 ?_
            refine g_putI d_X5_append_46 fq_RX5_33 rfl rfl ?_
            refine g_nmI (fun I6 eI6 => ?_)
            replace hF := fe_lt hF eI6
            have hK7 : XT I6 J = XT (wI I 1 1 (I6 1 1)) J := (by rw [eI6, wI_self]; exact xt_app hK4)
            have hl46 : I6 1 1 = I3 1 1 + 1 := by rw [eI6]; simp [wI]
            refine g_lload_n d_X5_append_49 rfl ?_
            refine g_bipush (v := 8) d_X5_append_50 kB_8 ?_
            refine g_iload d_X5_append_52 rfl ?_
            refine g_imul d_X5_append_54 ?_
            refine g_lushr d_X5_append_55 ?_
            refine g_ldc2 (v := 255) d_X5_append_56 tw_401 ?_
            refine g_land d_X5_append_59 ?_
            refine g_l2i d_X5_append_60 ?_
            refine g_i2c d_X5_append_61 ?_
            refine g_castore (N := 300) d_X5_append_62 rfl kT_300 (by constructor <;> grind) rfl (nar_c _) (fit_c _) ?_
            refine g_nmI (fun I8 eI8 => ?_)
            replace hF := fe_lt hF eI8
            have hK9 : XT I8 J = XT (wI I 1 1 (I8 1 1)) J := (by rw [eI8]; exact (xt_wI rfl).trans hK7)
            have hl62 : I8 1 1 = I6 1 1 := by rw [eI8]; simp [wI]
            refine g_iinc (v := (x2 + (-1 : Int32))) (L' := [some (.ref 1), some (.int n), some (.long bytes), none, some (.int (x2 + (-1 : Int32)))]) d_X5_append_63 rfl (by rw [kI_m1]) (by decide) rfl ?_
            refine g_goto d_X5_append_66 ?_
            exact ih_19 _ (by rw [← hmu_19]; exact mu_dn h21) (x2 + (-1 : Int32)) I8 rfl hK9 (hi_dn hl5 h21) (by grind) (by grind) ⟨kf0, Nat.lt_of_lt_of_le (by rw [← hmu_19]; exact mu_dn h21) hkf0, hF⟩
    exact K_19 _ v1 I rfl hK0 (Int32.le_refl _) (by grind) (by grind) ⟨_, Nat.lt_succ_self _, hF⟩
  · skip
    replace hF := fe_neg hF h9
    refine g_iconst (v := 0) d_X5_append_12 kI_0 ?_
    exact g_ireturn d_X5_append_13 rfl rfl rfl rfl ⟨rfl, trivial, (0 : Int32), rfl, Or.inl rfl, hF, (Or.inl ⟨rfl, by grind, rfl⟩)⟩
