noncomputable def fl_X10_here_0_0 (J : Jv) (Kf0 : Iv → Int32 × Iv × Jv) : Nat → Iv → Int32 × Iv × Jv
  | 0, I1 => (0, I1, J)
  | kf0 + 1, I1 => j_n (Kf0 I1) (fun (j38_1 : Int32 × Iv × Jv) => if (I1 78 11) ≤ (I1 78 12) then j38_1 else if (I1 87 ((I1 78 12)).toNatClampNeg) = (32 : Int32) then l_t (wI I1 78 12 ((I1 78 12) + (1 : Int32))) (fun (I3 : Iv) => fl_X10_here_0_0 J Kf0 kf0 I3) else j38_1)
noncomputable def fn_X10_here (I : Iv) (J : Jv) : Int32 × Iv × Jv :=
  fl_X10_here_0_0 J (fun (I1 : Iv) => if (I1 78 11) ≤ (I1 78 12) then ((-1 : Int32), I1, J) else ((I1 87 ((I1 78 12)).toNatClampNeg), I1, J)) (mU (I 78 11) (I 78 12) + 1) I
set_option maxRecDepth 100000 in
set_option maxHeartbeats 4000000 in
theorem ct_X10_here  (I : Iv) (J : Jv) (hpa : PA I) : Ct m_X10_here [.ref 78] SHF I J (fun r S' I' J' => S' = SHF ∧ (J = J' ∧ PF I I') ∧ ∃ v : Int32, r = some (.int v) ∧ fn_X10_here I J = (v, I', J') ∧ ((v = -1 ∧ ¬ I' 78 12 < I' 78 11) ∨ I' 78 12 < I' 78 11) ∧ I' 78 15 = I 78 15) := by
  refine ct_of 0 (by decide +kernel) rfl rfl ?_
  have hK0 : PF I I := (pf_rfl hpa)
  have hF := fe_of (fn_X10_here.eq_1 I J)
  obtain ⟨Kf0, hKf0, hF⟩ := fe_kx (f := fun K => fl_X10_here_0_0 J K (mU (I 78 11) (I 78 12) + 1) I) hF
  have K_0 : ∀ (nu : Nat) (I1 : Iv), mU (I1 78 11) (I1 78 12) = nu → (PF I I1) → (I1 78 15 = I 78 15) → (∃ kq : Nat, nu < kq ∧ (fun kq => FE (fn_X10_here I J) (fun _ => fl_X10_here_0_0 J Kf0 kq I1)) kq) → G m_X10_here (rq m_X10_here (fun r S' I' J' => S' = SHF ∧ (J = J' ∧ PF I I') ∧ ∃ v : Int32, r = some (.int v) ∧ fn_X10_here I J = (v, I', J') ∧ ((v = -1 ∧ ¬ I' 78 12 < I' 78 11) ∨ I' 78 12 < I' 78 11) ∧ I' 78 15 = I 78 15)) 0 0 0 [some (.ref 78)] [] SHF I1 J := by
    intro nu
    induction nu using Nat.strongRecOn with
    | ind nu ih_0 =>
      intro I1 hmu_0 hK2 hff_0 hF_Kf0
      obtain ⟨kf0, hkf0, hF⟩ := fe_fu (P := fun kq => FE (fn_X10_here I J) (fun _ => fl_X10_here_0_0 J Kf0 kq I1)) hF_Kf0
      replace hF := fe_eq hF (fl_X10_here_0_0.eq_2 _ _ _ _)
      refine g_aload_n d_X10_here_0 rfl ?_
      refine g_getI d_X10_here_1 fq_RX10_107 rfl rfl ?_
      refine g_aload_n d_X10_here_4 rfl ?_
      refine g_getI d_X10_here_5 fq_RX10_101 rfl rfl ?_
      obtain ⟨j38_1, hj38_1, hF⟩ := fe_jx hF
      have J_38 : (FE (fn_X10_here I J) (fun _ => j38_1)) → G m_X10_here (rq m_X10_here (fun r S' I' J' => S' = SHF ∧ (J = J' ∧ PF I I') ∧ ∃ v : Int32, r = some (.int v) ∧ fn_X10_here I J = (v, I', J') ∧ ((v = -1 ∧ ¬ I' 78 12 < I' 78 11) ∨ I' 78 12 < I' 78 11) ∧ I' 78 15 = I 78 15)) 0 0 38 [some (.ref 78)] [] SHF I1 J := by
        intro hF_j38_1
        have hF := fe_eq hF_j38_1 hj38_1
        replace hF := fe_eq hF (congrFun hKf0 I1)
        refine g_aload_n d_X10_here_38 rfl ?_
        refine g_getI d_X10_here_39 fq_RX10_107 rfl rfl ?_
        refine g_aload_n d_X10_here_42 rfl ?_
        refine g_getI d_X10_here_43 fq_RX10_101 rfl rfl ?_
        refine g_icmp_ge d_X10_here_46 (fun h46 => ?_) (fun h46 => ?_)
        · skip
          replace hF := fe_pos hF h46
          refine g_iconst (v := -1) d_X10_here_61 kI_m1 ?_
          exact g_ireturn d_X10_here_62 rfl rfl rfl rfl ⟨rfl, ⟨rfl, hK2⟩, (-1 : Int32), rfl, hF, ⟨by grind, hff_0⟩⟩
        · skip
          replace hF := fe_neg hF h46
          refine g_aload_n d_X10_here_49 rfl ?_
          refine g_getR d_X10_here_50 fq_RX10_36 rfl rfl ?_
          refine g_aload_n d_X10_here_53 rfl ?_
          refine g_getI d_X10_here_54 fq_RX10_107 rfl rfl ?_
          refine g_iaload (N := 300) d_X10_here_57 rfl kT_300 (by have hp := (hK2).2.2.1; constructor <;> grind) rfl ?_
          refine g_goto d_X10_here_58 ?_
          exact g_ireturn d_X10_here_62 rfl rfl rfl rfl ⟨rfl, ⟨rfl, hK2⟩, (I1 87 ((I1 78 12)).toNatClampNeg), rfl, hF, ⟨by grind, hff_0⟩⟩
      refine g_icmp_ge d_X10_here_8 (fun h8 => ?_) (fun h8 => ?_)
      · skip
        replace hF := fe_pos hF h8
        exact J_38 hF
      · skip
        replace hF := fe_neg hF h8
        refine g_aload_n d_X10_here_11 rfl ?_
        refine g_getR d_X10_here_12 fq_RX10_36 rfl rfl ?_
        refine g_aload_n d_X10_here_15 rfl ?_
        refine g_getI d_X10_here_16 fq_RX10_107 rfl rfl ?_
        refine g_iaload (N := 300) d_X10_here_19 rfl kT_300 (by have hp := (hK2).2.2.1; constructor <;> grind) rfl ?_
        refine g_bipush (v := 32) d_X10_here_20 kB_32 ?_
        refine g_icmp_ne d_X10_here_22 (fun h22 => ?_) (fun h22 => ?_)
        · skip
          replace hF := fe_neg hF h22
          exact J_38 hF
        · skip
          replace hF := fe_pos hF h22
          refine g_aload_n d_X10_here_25 rfl ?_
          refine g_dup d_X10_here_26 rfl ?_
          refine g_getI d_X10_here_27 fq_RX10_107 rfl rfl ?_
          refine g_iconst (v := 1) d_X10_here_30 kI_1 ?_
          refine g_iadd d_X10_here_31 ?_
          refine g_putI d_X10_here_32 fq_RX10_107 rfl rfl ?_
          refine g_nmI (fun I3 eI3 => ?_)
          replace hF := fe_lt hF eI3
          have hK4 : PF I I3 := (by rw [eI3]; exact pf_at hK2 h8)
          refine g_goto d_X10_here_35 ?_
          exact ih_0 _ (by rw [← hmu_0]; exact (by rw [eI3]; exact pstep h8)) I3 rfl hK4 (by rw [eI3, wI_ne (by omega)]; exact hff_0) ⟨kf0, Nat.lt_of_lt_of_le (by rw [← hmu_0]; exact (by rw [eI3]; exact pstep h8)) hkf0, hF⟩
  exact K_0 _ I rfl hK0 (by grind) ⟨_, Nat.lt_succ_self _, hF⟩
noncomputable def fn_X10_want (good : Int32) (number : Int32) (where_ : Int32) (I : Iv) (J : Jv) : Int32 × Iv × Jv :=
  j_n (fun (I1 : Iv) => if (I1 78 15) = 0 then ((1 : Int32), I1, J) else ((0 : Int32), I1, J)) (fun (j21_0 : Iv → Int32 × Iv × Jv) => if good = 0 then if (I 78 15) = 0 then l_t (wI I 78 15 number) (fun (I3 : Iv) => l_t (wI I3 78 16 where_) (fun (I5 : Iv) => j21_0 I5)) else j21_0 I else j21_0 I)
set_option maxRecDepth 100000 in
set_option maxHeartbeats 4000000 in
theorem ct_X10_want (good : Int32) (number : Int32) (where_ : Int32) (I : Iv) (J : Jv) (hpa : PA I) (hnum : 1 ≤ number) : Ct m_X10_want [.ref 78, .int good, .int number, .int where_] SHF I J (fun r S' I' J' => S' = SHF ∧ (J = J' ∧ PF I I') ∧ ∃ v : Int32, r = some (.int v) ∧ (v = 0 ∨ v = 1) ∧ fn_X10_want good number where_ I J = (v, I', J') ∧ ((v = 1 → I' 78 15 = 0 ∧ ¬ good = 0) ∧ (v = 0 → ¬ I' 78 15 = 0)) ∧ (I' 78 12 = I 78 12 ∧ I' 78 13 = I 78 13 ∧ I' 78 14 = I 78 14) ∧ (I' 78 15 = 0 → ¬ good = 0)) := by
  refine ct_of 0 (by decide +kernel) rfl rfl ?_
  have hK0 : PF I I := (pf_rfl hpa)
  have hF := fe_of (fn_X10_want.eq_1 good number where_ I J)
  refine g_iload_n d_X10_want_0 rfl ?_
  obtain ⟨j21_0, hj21_0, hF⟩ := fe_jx hF
  have J_21 : ∀ (I1 : Iv), (PF I I1) → ((I1 78 12 = I 78 12 ∧ I1 78 13 = I 78 13 ∧ I1 78 14 = I 78 14) ∧ (I1 78 15 = 0 → ¬ good = 0)) → (FE (fn_X10_want good number where_ I J) (fun _ => j21_0 I1)) → G m_X10_want (rq m_X10_want (fun r S' I' J' => S' = SHF ∧ (J = J' ∧ PF I I') ∧ ∃ v : Int32, r = some (.int v) ∧ (v = 0 ∨ v = 1) ∧ fn_X10_want good number where_ I J = (v, I', J') ∧ ((v = 1 → I' 78 15 = 0 ∧ ¬ good = 0) ∧ (v = 0 → ¬ I' 78 15 = 0)) ∧ (I' 78 12 = I 78 12 ∧ I' 78 13 = I 78 13 ∧ I' 78 14 = I 78 14) ∧ (I' 78 15 = 0 → ¬ good = 0))) 0 0 21 [some (.ref 78), some (.int good), some (.int number), some (.int where_)] [] SHF I1 J := by
    intro I1 hK2 hw_21 hF_j21_0
    have hF := fe_eq hF_j21_0 (congrFun hj21_0 I1)
    refine g_aload_n d_X10_want_21 rfl ?_
    refine g_getI d_X10_want_22 fq_RX10_110 rfl rfl ?_
    refine g_if_ne d_X10_want_25 (fun h25 => ?_) (fun h25 => ?_)
    · skip
      replace hF := fe_neg hF h25
      refine g_iconst (v := 0) d_X10_want_32 kI_0 ?_
      exact g_ireturn d_X10_want_33 rfl rfl rfl rfl ⟨rfl, ⟨rfl, hK2⟩, (0 : Int32), rfl, Or.inl rfl, hF, by grind⟩
    · skip
      replace hF := fe_pos hF h25
      refine g_iconst (v := 1) d_X10_want_28 kI_1 ?_
      refine g_goto d_X10_want_29 ?_
      exact g_ireturn d_X10_want_33 rfl rfl rfl rfl ⟨rfl, ⟨rfl, hK2⟩, (1 : Int32), rfl, Or.inr rfl, hF, by grind⟩
  refine g_if_ne d_X10_want_1 (fun h1 => ?_) (fun h1 => ?_)
  · skip
    replace hF := fe_neg hF h1
    exact J_21 I hK0 (by first | (refine ⟨⟨rfl, rfl, rfl⟩, ?_⟩; grind) | (simp only []; simp [wI]; grind)) hF
  · skip
    replace hF := fe_pos hF h1
    refine g_aload_n d_X10_want_4 rfl ?_
    refine g_getI d_X10_want_5 fq_RX10_110 rfl rfl ?_
    refine g_if_ne d_X10_want_8 (fun h8 => ?_) (fun h8 => ?_)
    · skip
      replace hF := fe_neg hF h8
      exact J_21 I hK0 (by first | (refine ⟨⟨rfl, rfl, rfl⟩, ?_⟩; grind) | (simp only []; simp [wI]; grind)) hF
    · skip
      replace hF := fe_pos hF h8
      refine g_aload_n d_X10_want_11 rfl ?_
      refine g_iload_n d_X10_want_12 rfl ?_
      refine g_putI d_X10_want_13 fq_RX10_110 rfl rfl ?_
      refine g_nmI (fun I3 eI3 => ?_)
      replace hF := fe_lt hF eI3
      have hK4 : PF I I3 := (by rw [eI3]; exact pf_15 hK0 h8 hnum)
      refine g_aload_n d_X10_want_16 rfl ?_
      refine g_iload_n d_X10_want_17 rfl ?_
      refine g_putI d_X10_want_18 fq_RX10_39 rfl rfl ?_
      refine g_nmI (fun I5 eI5 => ?_)
      replace hF := fe_lt hF eI5
      have hK6 : PF I I5 := (by rw [eI5]; exact pf_cell hK4 (by decide))
      exact J_21 I5 hK6 (by first | (refine ⟨⟨rfl, rfl, rfl⟩, ?_⟩; grind) | (simp only [eI3, eI5]; simp [wI]; grind)) hF
noncomputable def fl_X10_takeWord_13_0 (J : Jv) (Kf0 : Iv → Iv × Jv) : Nat → Iv → Iv × Jv
  | 0, I11 => (I11, J)
  | kf0 + 1, I11 => j_n (Kf0 I11) (fun (j59_1 : Iv × Jv) => if (I11 78 11) ≤ (I11 78 12) then j59_1 else b_n3 (fn_X10_in (Int32.toInt64 (I11 87 ((I11 78 12)).toNatClampNeg)) (97 : Int64) (122 : Int64) I11 J) (fun (r20 : Int32) (_ : Iv) (_ : Jv) => if r20 = 0 then j59_1 else l_t (wI I11 78 12 ((I11 78 12) + (1 : Int32))) (fun (I22 : Iv) => fl_X10_takeWord_13_0 J Kf0 kf0 I22)))
noncomputable def fn_X10_takeWord (I : Iv) (J : Jv) : Iv × Jv :=
  b_n3 (fn_X10_here I J) (fun (r6 : Int32) (I1 : Iv) (_ : Jv) => l_t (wI I1 78 13 (I1 78 12)) (fun (I9 : Iv) => fl_X10_takeWord_13_0 J (fun (I11 : Iv) => l_t (wI I11 78 14 ((I11 78 12) - (I11 78 13))) (fun (I13 : Iv) => (I13, J))) (mU (I9 78 11) (I9 78 12) + 1) I9))
set_option maxRecDepth 100000 in
set_option maxHeartbeats 4000000 in
theorem ct_X10_takeWord  (I : Iv) (J : Jv) (hpa : PA I) : Ct m_X10_takeWord [.ref 78] SHF I J (fun r S' I' J' => S' = SHF ∧ (J = J' ∧ PF I I') ∧ r = none ∧ fn_X10_takeWord I J = (I', J') ∧ I 78 12 ≤ I' 78 13 ∧ I' 78 13 + I' 78 14 = I' 78 12 ∧ 0 ≤ I' 78 14) := by
  refine ct_of 1 (by decide +kernel) rfl rfl ?_
  have hK0 : PF I I := (pf_rfl hpa)
  have hF := fe_of (fn_X10_takeWord.eq_1 I J)
  refine g_aload_n d_X10_takeWord_0 rfl ?_
  refine g_V0 d_X10_takeWord_1 cs_X10_takeWord_X10_here lk_RX10_113 im_X10_here se_X10_here rfl rfl rfl (Nat.le_of_ble_eq_true rfl) ⟨rfl, rfl⟩ ⟨Nat.zero_le _, Nat.zero_le _⟩ (ct_X10_here  I J hpa) (fun r1 S1 I1 Jc3 q1_1 => ?_)
  obtain ⟨rfl, ⟨rfl, hc1_3⟩, r6, rfl, hf1_4, hr1_6⟩ := q1_1
  replace hF := fe_b3 hF hf1_4
  refine g_st (st' := [.int r6]) rfl ?_
  have hK8 : PF I I1 := hK0.tr hc1_3
  refine g_istore_n (L' := [some (.ref 78), some (.int r6)]) d_X10_takeWord_4 (by decide) rfl ?_
  refine g_aload_n d_X10_takeWord_5 rfl ?_
  refine g_aload_n d_X10_takeWord_6 rfl ?_
  refine g_getI d_X10_takeWord_7 fq_RX10_107 rfl rfl ?_
  refine g_putI d_X10_takeWord_10 fq_RX10_117 rfl rfl ?_
  refine g_nmI (fun I9 eI9 => ?_)
  replace hF := fe_lt hF eI9
  have hK10 : PF I I9 := (by rw [eI9]; exact pf_cell hK8 (by decide))
  have hf10 : I 78 12 ≤ I9 78 13 ∧ I9 78 13 ≤ I9 78 12 := by rw [eI9]; simp only [wI]; simp; exact (hK8).2.2.2.1
  obtain ⟨Kf0, hKf0, hF⟩ := fe_kx (f := fun K => fl_X10_takeWord_13_0 J K (mU (I9 78 11) (I9 78 12) + 1) I9) hF
  have K_13 : ∀ (nu : Nat) (I11 : Iv), mU (I11 78 11) (I11 78 12) = nu → (PF I I11) → (I 78 12 ≤ I11 78 13 ∧ I11 78 13 ≤ I11 78 12) → (∃ kq : Nat, nu < kq ∧ (fun kq => FE (fn_X10_takeWord I J) (fun _ => fl_X10_takeWord_13_0 J Kf0 kq I11)) kq) → G m_X10_takeWord (rq m_X10_takeWord (fun r S' I' J' => S' = SHF ∧ (J = J' ∧ PF I I') ∧ r = none ∧ fn_X10_takeWord I J = (I', J') ∧ I 78 12 ≤ I' 78 13 ∧ I' 78 13 + I' 78 14 = I' 78 12 ∧ 0 ≤ I' 78 14)) 0 0 13 [some (.ref 78), some (.int r6)] [] SHF I11 J := by
    intro nu
    induction nu using Nat.strongRecOn with
    | ind nu ih_13 =>
      intro I11 hmu_13 hK12 hfi_13 hF_Kf0
      obtain ⟨kf0, hkf0, hF⟩ := fe_fu (P := fun kq => FE (fn_X10_takeWord I J) (fun _ => fl_X10_takeWord_13_0 J Kf0 kq I11)) hF_Kf0
      replace hF := fe_eq hF (fl_X10_takeWord_13_0.eq_2 _ _ _ _)
      refine g_aload_n d_X10_takeWord_13 rfl ?_
      refine g_getI d_X10_takeWord_14 fq_RX10_107 rfl rfl ?_
      refine g_aload_n d_X10_takeWord_17 rfl ?_
      refine g_getI d_X10_takeWord_18 fq_RX10_101 rfl rfl ?_
      obtain ⟨j59_1, hj59_1, hF⟩ := fe_jx hF
      have J_59 : (I 78 12 ≤ I11 78 13 ∧ I11 78 13 ≤ I11 78 12) → (FE (fn_X10_takeWord I J) (fun _ => j59_1)) → G m_X10_takeWord (rq m_X10_takeWord (fun r S' I' J' => S' = SHF ∧ (J = J' ∧ PF I I') ∧ r = none ∧ fn_X10_takeWord I J = (I', J') ∧ I 78 12 ≤ I' 78 13 ∧ I' 78 13 + I' 78 14 = I' 78 12 ∧ 0 ≤ I' 78 14)) 0 0 59 [some (.ref 78), some (.int r6)] [] SHF I11 J := by
        intro hfi_59 hF_j59_1
        have hF := fe_eq hF_j59_1 hj59_1
        replace hF := fe_eq hF (congrFun hKf0 I11)
        refine g_aload_n d_X10_takeWord_59 rfl ?_
        refine g_aload_n d_X10_takeWord_60 rfl ?_
        refine g_getI d_X10_takeWord_61 fq_RX10_107 rfl rfl ?_
        refine g_aload_n d_X10_takeWord_64 rfl ?_
        refine g_getI d_X10_takeWord_65 fq_RX10_117 rfl rfl ?_
        refine g_isub d_X10_takeWord_68 ?_
        refine g_putI d_X10_takeWord_69 fq_RX10_124 rfl rfl ?_
        refine g_nmI (fun I13 eI13 => ?_)
        replace hF := fe_lt hF eI13
        have hK14 : PF I I13 := (by rw [eI13]; exact pf_cell hK12 (by decide))
        exact g_return d_X10_takeWord_72 rfl rfl rfl ⟨rfl, ⟨rfl, hK14⟩, rfl, hF, (by have hp := (hK12).2.2.1; rw [eI13]; simp only [wI]; simp; grind)⟩
      refine g_icmp_ge d_X10_takeWord_21 (fun h21 => ?_) (fun h21 => ?_)
      · skip
        replace hF := fe_pos hF h21
        exact J_59 (by grind) hF
      · skip
        replace hF := fe_neg hF h21
        refine g_aload_n d_X10_takeWord_24 rfl ?_
        refine g_getR d_X10_takeWord_25 fq_RX10_36 rfl rfl ?_
        refine g_aload_n d_X10_takeWord_28 rfl ?_
        refine g_getI d_X10_takeWord_29 fq_RX10_107 rfl rfl ?_
        refine g_iaload (N := 300) d_X10_takeWord_32 rfl kT_300 (by have hp := (hK12).2.2.1; constructor <;> grind) rfl ?_
        refine g_i2l d_X10_takeWord_33 ?_
        refine g_ldc2 (v := 97) d_X10_takeWord_34 tw_1240 ?_
        refine g_ldc2 (v := 122) d_X10_takeWord_37 tw_1241 ?_
        refine g_S3 d_X10_takeWord_40 cs_X10_takeWord_X10_in lk_RX10_96 im_X10_in (Nat.le_of_ble_eq_true rfl) ⟨rfl, rfl⟩ ⟨Nat.zero_le _, Nat.zero_le _⟩ (ct_X10_inL (I11 87 ((I11 78 12)).toNatClampNeg) (97 : Int64) (122 : Int64) (97 : Int32) (122 : Int32) (by decide) (by decide) I11 J) (fun r40 S40 Ic16 Jc17 q40_14 => ?_)
        obtain ⟨rfl, rfl, rfl, r20, rfl, hz40, hf40_18, hr40_20⟩ := q40_14
        replace hF := fe_b3 hF hf40_18
        refine g_st (st' := [.int r20]) rfl ?_
        refine g_if_eq d_X10_takeWord_43 (fun h43 => ?_) (fun h43 => ?_)
        · skip
          replace hF := fe_pos hF h43
          exact J_59 (by grind) hF
        · skip
          replace hF := fe_neg hF h43
          refine g_aload_n d_X10_takeWord_46 rfl ?_
          refine g_dup d_X10_takeWord_47 rfl ?_
          refine g_getI d_X10_takeWord_48 fq_RX10_107 rfl rfl ?_
          refine g_iconst (v := 1) d_X10_takeWord_51 kI_1 ?_
          refine g_iadd d_X10_takeWord_52 ?_
          refine g_putI d_X10_takeWord_53 fq_RX10_107 rfl rfl ?_
          refine g_nmI (fun I22 eI22 => ?_)
          replace hF := fe_lt hF eI22
          have hK23 : PF I I22 := (by rw [eI22]; exact pf_at hK12 h21)
          refine g_goto d_X10_takeWord_56 ?_
          exact ih_13 _ (by rw [← hmu_13]; exact (by rw [eI22]; exact pstep h21)) I22 rfl hK23 (by have hp := (hK12).2.2.1; rw [eI22]; simp only [wI]; simp; grind) ⟨kf0, Nat.lt_of_lt_of_le (by rw [← hmu_13]; exact (by rw [eI22]; exact pstep h21)) hkf0, hF⟩
  exact K_13 _ I9 rfl hK10 hf10 ⟨_, Nat.lt_succ_self _, hF⟩
noncomputable def fl_X10_isWord_18_1 (I : Iv) (J : Jv) (n : Int32) (a : Int32) (b : Int32) (c : Int32) (d : Int32) (e : Int32) (Kf1 : Int32 → Int32 → Int32 × Iv × Jv) : Nat → Int32 → Int32 → Int32 × Iv × Jv
  | 0, x2, x3 => (0, I, J)
  | kf1 + 1, x2, x3 => if n ≤ x3 then Kf1 x2 x3 else if x2 = 0 then Kf1 x2 x3 else j_n (fun (w5 : Int32) => if (I 87 (((I 78 13) + x3)).toNatClampNeg) = w5 then fl_X10_isWord_18_1 I J n a b c d e Kf1 kf1 (1 : Int32) (x3 + (1 : Int32)) else fl_X10_isWord_18_1 I J n a b c d e Kf1 kf1 (0 : Int32) (x3 + (1 : Int32))) (fun (j84_2 : Int32 → Int32 × Iv × Jv) => if x3 = 0 then j84_2 a else if x3 = (1 : Int32) then j84_2 b else if x3 = (2 : Int32) then j84_2 c else if x3 = (3 : Int32) then j84_2 d else j84_2 e)
noncomputable def fn_X10_isWord (n : Int32) (a : Int32) (b : Int32) (c : Int32) (d : Int32) (e : Int32) (I : Iv) (J : Jv) : Int32 × Iv × Jv :=
  j_n (fun (w1 : Int32) => fl_X10_isWord_18_1 I J n a b c d e (fun (x2 : Int32) (x3 : Int32) => (x2, I, J)) (mU n ((0 : Int32)) + 1) w1 (0 : Int32)) (fun (j13_0 : Int32 → Int32 × Iv × Jv) => if (I 78 14) = n then j13_0 ((1 : Int32)) else j13_0 ((0 : Int32)))
set_option maxRecDepth 100000 in
set_option maxHeartbeats 4000000 in
theorem ct_X10_isWord (n : Int32) (a : Int32) (b : Int32) (c : Int32) (d : Int32) (e : Int32) (I : Iv) (J : Jv) (hpa : PA I) (hwd : 0 ≤ I 78 13 ∧ I 78 13 + I 78 14 = I 78 12 ∧ 0 ≤ I 78 14) : Ct m_X10_isWord [.ref 78, .int n, .int a, .int b, .int c, .int d, .int e] SHF I J (fun r S' I' J' => S' = SHF ∧ I = I' ∧ J = J' ∧ ∃ v : Int32, r = some (.int v) ∧ (v = 0 ∨ v = 1) ∧ fn_X10_isWord n a b c d e I J = (v, I', J') ∧ (v = 1 → I 78 14 = n)) := by
  refine ct_of 2 (by decide +kernel) rfl rfl ?_
  have hF := fe_of (fn_X10_isWord.eq_1 n a b c d e I J)
  refine g_aload_n d_X10_isWord_0 rfl ?_
  refine g_getI d_X10_isWord_1 fq_RX10_124 rfl rfl ?_
  refine g_iload_n d_X10_isWord_4 rfl ?_
  obtain ⟨j13_0, hj13_0, hF⟩ := fe_jx hF
  have J_13 : ∀ (w1 : Int32), (w1 = 0 ∨ w1 = 1) → (¬ w1 = 0 → I 78 14 = n) → (FE (fn_X10_isWord n a b c d e I J) (fun _ => j13_0 w1)) → G m_X10_isWord (rq m_X10_isWord (fun r S' I' J' => S' = SHF ∧ I = I' ∧ J = J' ∧ ∃ v : Int32, r = some (.int v) ∧ (v = 0 ∨ v = 1) ∧ fn_X10_isWord n a b c d e I J = (v, I', J') ∧ (v = 1 → I 78 14 = n))) 0 0 13 [some (.ref 78), some (.int n), some (.int a), some (.int b), some (.int c), some (.int d), some (.int e), none, none] [.int w1] SHF I J := by
    intro w1 hw1 hs_13 hF_j13_0
    have hF := fe_eq hF_j13_0 (congrFun hj13_0 w1)
    refine g_istore (L' := [some (.ref 78), some (.int n), some (.int a), some (.int b), some (.int c), some (.int d), some (.int e), some (.int w1), none]) d_X10_isWord_13 (by decide) rfl ?_
    refine g_iconst (v := 0) d_X10_isWord_15 kI_0 ?_
    refine g_istore (L' := [some (.ref 78), some (.int n), some (.int a), some (.int b), some (.int c), some (.int d), some (.int e), some (.int w1), some (.int (0 : Int32))]) d_X10_isWord_16 (by decide) rfl ?_
    obtain ⟨Kf1, hKf1, hF⟩ := fe_kx (f := fun K => fl_X10_isWord_18_1 I J n a b c d e K (mU n ((0 : Int32)) + 1) w1 (0 : Int32)) hF
    have K_18 : ∀ (nu : Nat) (x2 : Int32) (x3 : Int32), mU n x3 = nu → ((0 : Int32) ≤ x3) → (x2 = 0 ∨ x2 = 1) → (¬ x2 = 0 → I 78 14 = n) → (∃ kq : Nat, nu < kq ∧ (fun kq => FE (fn_X10_isWord n a b c d e I J) (fun _ => fl_X10_isWord_18_1 I J n a b c d e Kf1 kq x2 x3)) kq) → G m_X10_isWord (rq m_X10_isWord (fun r S' I' J' => S' = SHF ∧ I = I' ∧ J = J' ∧ ∃ v : Int32, r = some (.int v) ∧ (v = 0 ∨ v = 1) ∧ fn_X10_isWord n a b c d e I J = (v, I', J') ∧ (v = 1 → I 78 14 = n))) 0 0 18 [some (.ref 78), some (.int n), some (.int a), some (.int b), some (.int c), some (.int d), some (.int e), some (.int x2), some (.int x3)] [] SHF I J := by
      intro nu
      induction nu using Nat.strongRecOn with
      | ind nu ih_18 =>
        intro x2 x3 hmu_18 hl4 hz_18 hs_18 hF_Kf1
        obtain ⟨kf1, hkf1, hF⟩ := fe_fu (P := fun kq => FE (fn_X10_isWord n a b c d e I J) (fun _ => fl_X10_isWord_18_1 I J n a b c d e Kf1 kq x2 x3)) hF_Kf1
        replace hF := fe_eq hF (fl_X10_isWord_18_1.eq_2 _ _ _ _ _ _ _ _ _ _ _ _)
        refine g_iload d_X10_isWord_18 rfl ?_
        refine g_iload_n d_X10_isWord_20 rfl ?_
        refine g_icmp_ge d_X10_isWord_21 (fun h21 => ?_) (fun h21 => ?_)
        · skip
          replace hF := fe_pos hF h21
          replace hF := fe_eq hF (congrFun (congrFun hKf1 x2) x3)
          refine g_iload d_X10_isWord_100 rfl ?_
          exact g_ireturn d_X10_isWord_102 rfl rfl rfl (nar_z (by assumption)) ⟨rfl, rfl, rfl, x2, rfl, by assumption, hF, by grind⟩
        · skip
          replace hF := fe_neg hF h21
          refine g_iload d_X10_isWord_24 rfl ?_
          refine g_if_eq d_X10_isWord_26 (fun h26 => ?_) (fun h26 => ?_)
          · skip
            replace hF := fe_pos hF h26
            replace hF := fe_eq hF (congrFun (congrFun hKf1 x2) x3)
            refine g_iload d_X10_isWord_100 rfl ?_
            exact g_ireturn d_X10_isWord_102 rfl rfl rfl (nar_z (by assumption)) ⟨rfl, rfl, rfl, x2, rfl, by assumption, hF, by grind⟩
          · skip
            replace hF := fe_neg hF h26
            refine g_aload_n d_X10_isWord_29 rfl ?_
            refine g_getR d_X10_isWord_30 fq_RX10_36 rfl rfl ?_
            refine g_aload_n d_X10_isWord_33 rfl ?_
            refine g_getI d_X10_isWord_34 fq_RX10_117 rfl rfl ?_
            refine g_iload d_X10_isWord_37 rfl ?_
            refine g_iadd d_X10_isWord_39 ?_
            refine g_iaload (N := 300) d_X10_isWord_40 rfl kT_300 (by constructor <;> grind) rfl ?_
            refine g_iload d_X10_isWord_41 rfl ?_
            obtain ⟨j84_2, hj84_2, hF⟩ := fe_jx hF
            have J_84 : ∀ (w5 : Int32), (FE (fn_X10_isWord n a b c d e I J) (fun _ => j84_2 w5)) → G m_X10_isWord (rq m_X10_isWord (fun r S' I' J' => S' = SHF ∧ I = I' ∧ J = J' ∧ ∃ v : Int32, r = some (.int v) ∧ (v = 0 ∨ v = 1) ∧ fn_X10_isWord n a b c d e I J = (v, I', J') ∧ (v = 1 → I 78 14 = n))) 0 0 84 [some (.ref 78), some (.int n), some (.int a), some (.int b), some (.int c), some (.int d), some (.int e), some (.int x2), some (.int x3)] [.int w5, .int (I 87 (((I 78 13) + x3)).toNatClampNeg)] SHF I J := by
              intro w5 hF_j84_2
              have hF := fe_eq hF_j84_2 (congrFun hj84_2 w5)
              refine g_icmp_ne d_X10_isWord_84 (fun h84 => ?_) (fun h84 => ?_)
              · skip
                replace hF := fe_neg hF h84
                refine g_iconst (v := 0) d_X10_isWord_91 kI_0 ?_
                refine g_istore (L' := [some (.ref 78), some (.int n), some (.int a), some (.int b), some (.int c), some (.int d), some (.int e), some (.int (0 : Int32)), some (.int x3)]) d_X10_isWord_92 (by decide) rfl ?_
                refine g_iinc (v := (x3 + (1 : Int32))) (L' := [some (.ref 78), some (.int n), some (.int a), some (.int b), some (.int c), some (.int d), some (.int e), some (.int (0 : Int32)), some (.int (x3 + (1 : Int32)))]) d_X10_isWord_94 rfl (by rw [kI_1]) (by decide) rfl ?_
                refine g_goto d_X10_isWord_97 ?_
                exact ih_18 _ (by rw [← hmu_18]; exact mu_up h21) (0 : Int32) (x3 + (1 : Int32)) rfl (lo_up hl4 h21) (by grind) (by grind) ⟨kf1, Nat.lt_of_lt_of_le (by rw [← hmu_18]; exact mu_up h21) hkf1, hF⟩
              · skip
                replace hF := fe_pos hF h84
                refine g_iconst (v := 1) d_X10_isWord_87 kI_1 ?_
                refine g_goto d_X10_isWord_88 ?_
                refine g_istore (L' := [some (.ref 78), some (.int n), some (.int a), some (.int b), some (.int c), some (.int d), some (.int e), some (.int (1 : Int32)), some (.int x3)]) d_X10_isWord_92 (by decide) rfl ?_
                refine g_iinc (v := (x3 + (1 : Int32))) (L' := [some (.ref 78), some (.int n), some (.int a), some (.int b), some (.int c), some (.int d), some (.int e), some (.int (1 : Int32)), some (.int (x3 + (1 : Int32)))]) d_X10_isWord_94 rfl (by rw [kI_1]) (by decide) rfl ?_
                refine g_goto d_X10_isWord_97 ?_
                exact ih_18 _ (by rw [← hmu_18]; exact mu_up h21) (1 : Int32) (x3 + (1 : Int32)) rfl (lo_up hl4 h21) (by grind) (by grind) ⟨kf1, Nat.lt_of_lt_of_le (by rw [← hmu_18]; exact mu_up h21) hkf1, hF⟩
            refine g_if_ne d_X10_isWord_43 (fun h43 => ?_) (fun h43 => ?_)
            · skip
              replace hF := fe_neg hF h43
              refine g_iload d_X10_isWord_50 rfl ?_
              refine g_iconst (v := 1) d_X10_isWord_52 kI_1 ?_
              refine g_icmp_ne d_X10_isWord_53 (fun h53 => ?_) (fun h53 => ?_)
              · skip
                replace hF := fe_neg hF h53
                refine g_iload d_X10_isWord_60 rfl ?_
                refine g_iconst (v := 2) d_X10_isWord_62 kI_2 ?_
                refine g_icmp_ne d_X10_isWord_63 (fun h63 => ?_) (fun h63 => ?_)
                · skip
                  replace hF := fe_neg hF h63
                  refine g_iload d_X10_isWord_71 rfl ?_
                  refine g_iconst (v := 3) d_X10_isWord_73 kI_3 ?_
                  refine g_icmp_ne d_X10_isWord_74 (fun h74 => ?_) (fun h74 => ?_)
                  · skip
                    replace hF := fe_neg hF h74
                    refine g_iload d_X10_isWord_82 rfl ?_
                    exact J_84 e hF
                  · skip
                    replace hF := fe_pos hF h74
                    refine g_iload d_X10_isWord_77 rfl ?_
                    refine g_goto d_X10_isWord_79 ?_
                    exact J_84 d hF
                · skip
                  replace hF := fe_pos hF h63
                  refine g_iload d_X10_isWord_66 rfl ?_
                  refine g_goto d_X10_isWord_68 ?_
                  exact J_84 c hF
              · skip
                replace hF := fe_pos hF h53
                refine g_iload_n d_X10_isWord_56 rfl ?_
                refine g_goto d_X10_isWord_57 ?_
                exact J_84 b hF
            · skip
              replace hF := fe_pos hF h43
              refine g_iload_n d_X10_isWord_46 rfl ?_
              refine g_goto d_X10_isWord_47 ?_
              exact J_84 a hF
    exact K_18 _ w1 (0 : Int32) rfl (Int32.le_refl _) (by grind) (by grind) ⟨_, Nat.lt_succ_self _, hF⟩
  refine g_icmp_ne d_X10_isWord_5 (fun h5 => ?_) (fun h5 => ?_)
  · skip
    replace hF := fe_neg hF h5
    refine g_iconst (v := 0) d_X10_isWord_12 kI_0 ?_
    exact J_13 ((0 : Int32)) (Or.inl rfl) (by grind) hF
  · skip
    replace hF := fe_pos hF h5
    refine g_iconst (v := 1) d_X10_isWord_8 kI_1 ?_
    refine g_goto d_X10_isWord_9 ?_
    exact J_13 ((1 : Int32)) (Or.inr rfl) (by grind) hF
noncomputable def fn_X10_kindHere (I : Iv) (J : Jv) : Int32 × Iv × Jv :=
  if (4 : Int32) ≤ (I 78 14) then if (I 78 14) = (5 : Int32) then b_n3 (fn_X10_isWord (5 : Int32) (112 : Int32) (111 : Int32) (119 : Int32) (101 : Int32) (114 : Int32) I J) (fun (r55 : Int32) (_ : Iv) (_ : Jv) => if r55 = 0 then b_n3 (fn_X10_isWord (5 : Int32) (115 : Int32) (116 : Int32) (111 : Int32) (118 : Int32) (101 : Int32) I J) (fun (r62 : Int32) (_ : Iv) (_ : Jv) => if r62 = 0 then ((-1 : Int32), I, J) else ((12 : Int32), I, J)) else ((0 : Int32), I, J)) else b_n3 (fn_X10_isWord (4 : Int32) (119 : Int32) (97 : Int32) (108 : Int32) (108 : Int32) (0 : Int32) I J) (fun (r6 : Int32) (_ : Iv) (_ : Jv) => if r6 = 0 then b_n3 (fn_X10_isWord (4 : Int32) (115 : Int32) (101 : Int32) (97 : Int32) (108 : Int32) (0 : Int32) I J) (fun (r13 : Int32) (_ : Iv) (_ : Jv) => if r13 = 0 then b_n3 (fn_X10_isWord (4 : Int32) (99 : Int32) (111 : Int32) (108 : Int32) (100 : Int32) (0 : Int32) I J) (fun (r20 : Int32) (_ : Iv) (_ : Jv) => if r20 = 0 then b_n3 (fn_X10_isWord (4 : Int32) (102 : Int32) (111 : Int32) (111 : Int32) (100 : Int32) (0 : Int32) I J) (fun (r27 : Int32) (_ : Iv) (_ : Jv) => if r27 = 0 then b_n3 (fn_X10_isWord (4 : Int32) (98 : Int32) (117 : Int32) (108 : Int32) (98 : Int32) (0 : Int32) I J) (fun (r34 : Int32) (_ : Iv) (_ : Jv) => if r34 = 0 then b_n3 (fn_X10_isWord (4 : Int32) (108 : Int32) (97 : Int32) (109 : Int32) (112 : Int32) (0 : Int32) I J) (fun (r41 : Int32) (_ : Iv) (_ : Jv) => if r41 = 0 then b_n3 (fn_X10_isWord (4 : Int32) (114 : Int32) (111 : Int32) (111 : Int32) (109 : Int32) (0 : Int32) I J) (fun (r48 : Int32) (_ : Iv) (_ : Jv) => if r48 = 0 then ((-1 : Int32), I, J) else ((11 : Int32), I, J)) else ((10 : Int32), I, J)) else ((8 : Int32), I, J)) else ((5 : Int32), I, J)) else ((4 : Int32), I, J)) else ((2 : Int32), I, J)) else ((1 : Int32), I, J)) else b_n3 (fn_X10_isWord (3 : Int32) (109 : Int32) (105 : Int32) (120 : Int32) (0 : Int32) (0 : Int32) I J) (fun (r69 : Int32) (_ : Iv) (_ : Jv) => if r69 = 0 then b_n3 (fn_X10_isWord (2 : Int32) (111 : Int32) (110 : Int32) (0 : Int32) (0 : Int32) (0 : Int32) I J) (fun (r76 : Int32) (_ : Iv) (_ : Jv) => if r76 = 0 then b_n3 (fn_X10_isWord (3 : Int32) (111 : Int32) (102 : Int32) (102 : Int32) (0 : Int32) (0 : Int32) I J) (fun (r83 : Int32) (_ : Iv) (_ : Jv) => if r83 = 0 then b_n3 (fn_X10_isWord (3 : Int32) (117 : Int32) (115 : Int32) (101 : Int32) (0 : Int32) (0 : Int32) I J) (fun (r90 : Int32) (_ : Iv) (_ : Jv) => if r90 = 0 then ((-1 : Int32), I, J) else ((9 : Int32), I, J)) else ((7 : Int32), I, J)) else ((6 : Int32), I, J)) else ((3 : Int32), I, J))
set_option maxRecDepth 100000 in
set_option maxHeartbeats 4000000 in
theorem ct_X10_kindHere  (I : Iv) (J : Jv) (hpa : PA I) (hwd : 0 ≤ I 78 13 ∧ I 78 13 + I 78 14 = I 78 12 ∧ 0 ≤ I 78 14) : Ct m_X10_kindHere [.ref 78] SHF I J (fun r S' I' J' => S' = SHF ∧ I = I' ∧ J = J' ∧ ∃ v : Int32, r = some (.int v) ∧ fn_X10_kindHere I J = (v, I', J') ∧ (-1 ≤ v ∧ v ≤ 12 ∧ (0 ≤ v → 2 ≤ I 78 14))) := by
  refine ct_of 0 (by decide +kernel) rfl rfl ?_
  have hF := fe_of (fn_X10_kindHere.eq_1 I J)
  refine g_aload_n d_X10_kindHere_0 rfl ?_
  refine g_getI d_X10_kindHere_1 fq_RX10_124 rfl rfl ?_
  refine g_iconst (v := 4) d_X10_kindHere_4 kI_4 ?_
  refine g_icmp_ge d_X10_kindHere_5 (fun h5 => ?_) (fun h5 => ?_)
  · skip
    replace hF := fe_pos hF h5
    refine g_aload_n d_X10_kindHere_92 rfl ?_
    refine g_getI d_X10_kindHere_93 fq_RX10_124 rfl rfl ?_
    refine g_iconst (v := 5) d_X10_kindHere_96 kI_5 ?_
    refine g_icmp_ne d_X10_kindHere_97 (fun h97 => ?_) (fun h97 => ?_)
    · skip
      replace hF := fe_neg hF h97
      refine g_aload_n d_X10_kindHere_147 rfl ?_
      refine g_iconst (v := 4) d_X10_kindHere_148 kI_4 ?_
      refine g_bipush (v := 119) d_X10_kindHere_149 kB_119 ?_
      refine g_bipush (v := 97) d_X10_kindHere_151 kB_97 ?_
      refine g_bipush (v := 108) d_X10_kindHere_153 kB_108 ?_
      refine g_bipush (v := 108) d_X10_kindHere_155 kB_108 ?_
      refine g_iconst (v := 0) d_X10_kindHere_157 kI_0 ?_
      refine g_V6 d_X10_kindHere_158 cs_X10_kindHere_X10_isWord lk_RX10_136 im_X10_isWord se_X10_isWord rfl rfl rfl (Nat.le_of_ble_eq_true rfl) ⟨rfl, rfl⟩ ⟨Nat.zero_le _, Nat.zero_le _⟩ (ct_X10_isWord (4 : Int32) (119 : Int32) (97 : Int32) (108 : Int32) (108 : Int32) (0 : Int32) I J hpa hwd) (fun r158 S158 Ic2 Jc3 q158_0 => ?_)
      obtain ⟨rfl, rfl, rfl, r6, rfl, hz158, hf158_4, hr158_6⟩ := q158_0
      replace hF := fe_b3 hF hf158_4
      refine g_st (st' := [.int r6]) rfl ?_
      refine g_if_eq d_X10_kindHere_161 (fun h161 => ?_) (fun h161 => ?_)
      · skip
        replace hF := fe_pos hF h161
        refine g_aload_n d_X10_kindHere_168 rfl ?_
        refine g_iconst (v := 4) d_X10_kindHere_169 kI_4 ?_
        refine g_bipush (v := 115) d_X10_kindHere_170 kB_115 ?_
        refine g_bipush (v := 101) d_X10_kindHere_172 kB_101 ?_
        refine g_bipush (v := 97) d_X10_kindHere_174 kB_97 ?_
        refine g_bipush (v := 108) d_X10_kindHere_176 kB_108 ?_
        refine g_iconst (v := 0) d_X10_kindHere_178 kI_0 ?_
        refine g_V6 d_X10_kindHere_179 cs_X10_kindHere_X10_isWord lk_RX10_136 im_X10_isWord se_X10_isWord rfl rfl rfl (Nat.le_of_ble_eq_true rfl) ⟨rfl, rfl⟩ ⟨Nat.zero_le _, Nat.zero_le _⟩ (ct_X10_isWord (4 : Int32) (115 : Int32) (101 : Int32) (97 : Int32) (108 : Int32) (0 : Int32) I J hpa hwd) (fun r179 S179 Ic9 Jc10 q179_7 => ?_)
        obtain ⟨rfl, rfl, rfl, r13, rfl, hz179, hf179_11, hr179_13⟩ := q179_7
        replace hF := fe_b3 hF hf179_11
        refine g_st (st' := [.int r13]) rfl ?_
        refine g_if_eq d_X10_kindHere_182 (fun h182 => ?_) (fun h182 => ?_)
        · skip
          replace hF := fe_pos hF h182
          refine g_aload_n d_X10_kindHere_189 rfl ?_
          refine g_iconst (v := 4) d_X10_kindHere_190 kI_4 ?_
          refine g_bipush (v := 99) d_X10_kindHere_191 kB_99 ?_
          refine g_bipush (v := 111) d_X10_kindHere_193 kB_111 ?_
          refine g_bipush (v := 108) d_X10_kindHere_195 kB_108 ?_
          refine g_bipush (v := 100) d_X10_kindHere_197 kB_100 ?_
          refine g_iconst (v := 0) d_X10_kindHere_199 kI_0 ?_
          refine g_V6 d_X10_kindHere_200 cs_X10_kindHere_X10_isWord lk_RX10_136 im_X10_isWord se_X10_isWord rfl rfl rfl (Nat.le_of_ble_eq_true rfl) ⟨rfl, rfl⟩ ⟨Nat.zero_le _, Nat.zero_le _⟩ (ct_X10_isWord (4 : Int32) (99 : Int32) (111 : Int32) (108 : Int32) (100 : Int32) (0 : Int32) I J hpa hwd) (fun r200 S200 Ic16 Jc17 q200_14 => ?_)
          obtain ⟨rfl, rfl, rfl, r20, rfl, hz200, hf200_18, hr200_20⟩ := q200_14
          replace hF := fe_b3 hF hf200_18
          refine g_st (st' := [.int r20]) rfl ?_
          refine g_if_eq d_X10_kindHere_203 (fun h203 => ?_) (fun h203 => ?_)
          · skip
            replace hF := fe_pos hF h203
            refine g_aload_n d_X10_kindHere_210 rfl ?_
            refine g_iconst (v := 4) d_X10_kindHere_211 kI_4 ?_
            refine g_bipush (v := 102) d_X10_kindHere_212 kB_102 ?_
            refine g_bipush (v := 111) d_X10_kindHere_214 kB_111 ?_
            refine g_bipush (v := 111) d_X10_kindHere_216 kB_111 ?_
            refine g_bipush (v := 100) d_X10_kindHere_218 kB_100 ?_
            refine g_iconst (v := 0) d_X10_kindHere_220 kI_0 ?_
            refine g_V6 d_X10_kindHere_221 cs_X10_kindHere_X10_isWord lk_RX10_136 im_X10_isWord se_X10_isWord rfl rfl rfl (Nat.le_of_ble_eq_true rfl) ⟨rfl, rfl⟩ ⟨Nat.zero_le _, Nat.zero_le _⟩ (ct_X10_isWord (4 : Int32) (102 : Int32) (111 : Int32) (111 : Int32) (100 : Int32) (0 : Int32) I J hpa hwd) (fun r221 S221 Ic23 Jc24 q221_21 => ?_)
            obtain ⟨rfl, rfl, rfl, r27, rfl, hz221, hf221_25, hr221_27⟩ := q221_21
            replace hF := fe_b3 hF hf221_25
            refine g_st (st' := [.int r27]) rfl ?_
            refine g_if_eq d_X10_kindHere_224 (fun h224 => ?_) (fun h224 => ?_)
            · skip
              replace hF := fe_pos hF h224
              refine g_aload_n d_X10_kindHere_231 rfl ?_
              refine g_iconst (v := 4) d_X10_kindHere_232 kI_4 ?_
              refine g_bipush (v := 98) d_X10_kindHere_233 kB_98 ?_
              refine g_bipush (v := 117) d_X10_kindHere_235 kB_117 ?_
              refine g_bipush (v := 108) d_X10_kindHere_237 kB_108 ?_
              refine g_bipush (v := 98) d_X10_kindHere_239 kB_98 ?_
              refine g_iconst (v := 0) d_X10_kindHere_241 kI_0 ?_
              refine g_V6 d_X10_kindHere_242 cs_X10_kindHere_X10_isWord lk_RX10_136 im_X10_isWord se_X10_isWord rfl rfl rfl (Nat.le_of_ble_eq_true rfl) ⟨rfl, rfl⟩ ⟨Nat.zero_le _, Nat.zero_le _⟩ (ct_X10_isWord (4 : Int32) (98 : Int32) (117 : Int32) (108 : Int32) (98 : Int32) (0 : Int32) I J hpa hwd) (fun r242 S242 Ic30 Jc31 q242_28 => ?_)
              obtain ⟨rfl, rfl, rfl, r34, rfl, hz242, hf242_32, hr242_34⟩ := q242_28
              replace hF := fe_b3 hF hf242_32
              refine g_st (st' := [.int r34]) rfl ?_
              refine g_if_eq d_X10_kindHere_245 (fun h245 => ?_) (fun h245 => ?_)
              · skip
                replace hF := fe_pos hF h245
                refine g_aload_n d_X10_kindHere_253 rfl ?_
                refine g_iconst (v := 4) d_X10_kindHere_254 kI_4 ?_
                refine g_bipush (v := 108) d_X10_kindHere_255 kB_108 ?_
                refine g_bipush (v := 97) d_X10_kindHere_257 kB_97 ?_
                refine g_bipush (v := 109) d_X10_kindHere_259 kB_109 ?_
                refine g_bipush (v := 112) d_X10_kindHere_261 kB_112 ?_
                refine g_iconst (v := 0) d_X10_kindHere_263 kI_0 ?_
                refine g_V6 d_X10_kindHere_264 cs_X10_kindHere_X10_isWord lk_RX10_136 im_X10_isWord se_X10_isWord rfl rfl rfl (Nat.le_of_ble_eq_true rfl) ⟨rfl, rfl⟩ ⟨Nat.zero_le _, Nat.zero_le _⟩ (ct_X10_isWord (4 : Int32) (108 : Int32) (97 : Int32) (109 : Int32) (112 : Int32) (0 : Int32) I J hpa hwd) (fun r264 S264 Ic37 Jc38 q264_35 => ?_)
                obtain ⟨rfl, rfl, rfl, r41, rfl, hz264, hf264_39, hr264_41⟩ := q264_35
                replace hF := fe_b3 hF hf264_39
                refine g_st (st' := [.int r41]) rfl ?_
                refine g_if_eq d_X10_kindHere_267 (fun h267 => ?_) (fun h267 => ?_)
                · skip
                  replace hF := fe_pos hF h267
                  refine g_aload_n d_X10_kindHere_275 rfl ?_
                  refine g_iconst (v := 4) d_X10_kindHere_276 kI_4 ?_
                  refine g_bipush (v := 114) d_X10_kindHere_277 kB_114 ?_
                  refine g_bipush (v := 111) d_X10_kindHere_279 kB_111 ?_
                  refine g_bipush (v := 111) d_X10_kindHere_281 kB_111 ?_
                  refine g_bipush (v := 109) d_X10_kindHere_283 kB_109 ?_
                  refine g_iconst (v := 0) d_X10_kindHere_285 kI_0 ?_
                  refine g_V6 d_X10_kindHere_286 cs_X10_kindHere_X10_isWord lk_RX10_136 im_X10_isWord se_X10_isWord rfl rfl rfl (Nat.le_of_ble_eq_true rfl) ⟨rfl, rfl⟩ ⟨Nat.zero_le _, Nat.zero_le _⟩ (ct_X10_isWord (4 : Int32) (114 : Int32) (111 : Int32) (111 : Int32) (109 : Int32) (0 : Int32) I J hpa hwd) (fun r286 S286 Ic44 Jc45 q286_42 => ?_)
                  obtain ⟨rfl, rfl, rfl, r48, rfl, hz286, hf286_46, hr286_48⟩ := q286_42
                  replace hF := fe_b3 hF hf286_46
                  refine g_st (st' := [.int r48]) rfl ?_
                  refine g_if_eq d_X10_kindHere_289 (fun h289 => ?_) (fun h289 => ?_)
                  · skip
                    replace hF := fe_pos hF h289
                    refine g_iconst (v := -1) d_X10_kindHere_297 kI_m1 ?_
                    exact g_ireturn d_X10_kindHere_298 rfl rfl rfl rfl ⟨rfl, rfl, rfl, (-1 : Int32), rfl, hF, by grind⟩
                  · skip
                    replace hF := fe_neg hF h289
                    refine g_bipush (v := 11) d_X10_kindHere_292 kB_11 ?_
                    refine g_goto d_X10_kindHere_294 ?_
                    exact g_ireturn d_X10_kindHere_298 rfl rfl rfl rfl ⟨rfl, rfl, rfl, (11 : Int32), rfl, hF, by grind⟩
                · skip
                  replace hF := fe_neg hF h267
                  refine g_bipush (v := 10) d_X10_kindHere_270 kB_10 ?_
                  refine g_goto d_X10_kindHere_272 ?_
                  exact g_ireturn d_X10_kindHere_298 rfl rfl rfl rfl ⟨rfl, rfl, rfl, (10 : Int32), rfl, hF, by grind⟩
              · skip
                replace hF := fe_neg hF h245
                refine g_bipush (v := 8) d_X10_kindHere_248 kB_8 ?_
                refine g_goto d_X10_kindHere_250 ?_
                exact g_ireturn d_X10_kindHere_298 rfl rfl rfl rfl ⟨rfl, rfl, rfl, (8 : Int32), rfl, hF, by grind⟩
            · skip
              replace hF := fe_neg hF h224
              refine g_iconst (v := 5) d_X10_kindHere_227 kI_5 ?_
              refine g_goto d_X10_kindHere_228 ?_
              exact g_ireturn d_X10_kindHere_298 rfl rfl rfl rfl ⟨rfl, rfl, rfl, (5 : Int32), rfl, hF, by grind⟩
          · skip
            replace hF := fe_neg hF h203
            refine g_iconst (v := 4) d_X10_kindHere_206 kI_4 ?_
            refine g_goto d_X10_kindHere_207 ?_
            exact g_ireturn d_X10_kindHere_298 rfl rfl rfl rfl ⟨rfl, rfl, rfl, (4 : Int32), rfl, hF, by grind⟩
        · skip
          replace hF := fe_neg hF h182
          refine g_iconst (v := 2) d_X10_kindHere_185 kI_2 ?_
          refine g_goto d_X10_kindHere_186 ?_
          exact g_ireturn d_X10_kindHere_298 rfl rfl rfl rfl ⟨rfl, rfl, rfl, (2 : Int32), rfl, hF, by grind⟩
      · skip
        replace hF := fe_neg hF h161
        refine g_iconst (v := 1) d_X10_kindHere_164 kI_1 ?_
        refine g_goto d_X10_kindHere_165 ?_
        exact g_ireturn d_X10_kindHere_298 rfl rfl rfl rfl ⟨rfl, rfl, rfl, (1 : Int32), rfl, hF, by grind⟩
    · skip
      replace hF := fe_pos hF h97
      refine g_aload_n d_X10_kindHere_100 rfl ?_
      refine g_iconst (v := 5) d_X10_kindHere_101 kI_5 ?_
      refine g_bipush (v := 112) d_X10_kindHere_102 kB_112 ?_
      refine g_bipush (v := 111) d_X10_kindHere_104 kB_111 ?_
      refine g_bipush (v := 119) d_X10_kindHere_106 kB_119 ?_
      refine g_bipush (v := 101) d_X10_kindHere_108 kB_101 ?_
      refine g_bipush (v := 114) d_X10_kindHere_110 kB_114 ?_
      refine g_V6 d_X10_kindHere_112 cs_X10_kindHere_X10_isWord lk_RX10_136 im_X10_isWord se_X10_isWord rfl rfl rfl (Nat.le_of_ble_eq_true rfl) ⟨rfl, rfl⟩ ⟨Nat.zero_le _, Nat.zero_le _⟩ (ct_X10_isWord (5 : Int32) (112 : Int32) (111 : Int32) (119 : Int32) (101 : Int32) (114 : Int32) I J hpa hwd) (fun r112 S112 Ic51 Jc52 q112_49 => ?_)
      obtain ⟨rfl, rfl, rfl, r55, rfl, hz112, hf112_53, hr112_55⟩ := q112_49
      replace hF := fe_b3 hF hf112_53
      refine g_st (st' := [.int r55]) rfl ?_
      refine g_if_eq d_X10_kindHere_115 (fun h115 => ?_) (fun h115 => ?_)
      · skip
        replace hF := fe_pos hF h115
        refine g_aload_n d_X10_kindHere_122 rfl ?_
        refine g_iconst (v := 5) d_X10_kindHere_123 kI_5 ?_
        refine g_bipush (v := 115) d_X10_kindHere_124 kB_115 ?_
        refine g_bipush (v := 116) d_X10_kindHere_126 kB_116 ?_
        refine g_bipush (v := 111) d_X10_kindHere_128 kB_111 ?_
        refine g_bipush (v := 118) d_X10_kindHere_130 kB_118 ?_
        refine g_bipush (v := 101) d_X10_kindHere_132 kB_101 ?_
        refine g_V6 d_X10_kindHere_134 cs_X10_kindHere_X10_isWord lk_RX10_136 im_X10_isWord se_X10_isWord rfl rfl rfl (Nat.le_of_ble_eq_true rfl) ⟨rfl, rfl⟩ ⟨Nat.zero_le _, Nat.zero_le _⟩ (ct_X10_isWord (5 : Int32) (115 : Int32) (116 : Int32) (111 : Int32) (118 : Int32) (101 : Int32) I J hpa hwd) (fun r134 S134 Ic58 Jc59 q134_56 => ?_)
        obtain ⟨rfl, rfl, rfl, r62, rfl, hz134, hf134_60, hr134_62⟩ := q134_56
        replace hF := fe_b3 hF hf134_60
        refine g_st (st' := [.int r62]) rfl ?_
        refine g_if_eq d_X10_kindHere_137 (fun h137 => ?_) (fun h137 => ?_)
        · skip
          replace hF := fe_pos hF h137
          refine g_iconst (v := -1) d_X10_kindHere_145 kI_m1 ?_
          exact g_ireturn d_X10_kindHere_146 rfl rfl rfl rfl ⟨rfl, rfl, rfl, (-1 : Int32), rfl, hF, by grind⟩
        · skip
          replace hF := fe_neg hF h137
          refine g_bipush (v := 12) d_X10_kindHere_140 kB_12 ?_
          refine g_goto d_X10_kindHere_142 ?_
          exact g_ireturn d_X10_kindHere_146 rfl rfl rfl rfl ⟨rfl, rfl, rfl, (12 : Int32), rfl, hF, by grind⟩
      · skip
        replace hF := fe_neg hF h115
        refine g_iconst (v := 0) d_X10_kindHere_118 kI_0 ?_
        refine g_goto d_X10_kindHere_119 ?_
        exact g_ireturn d_X10_kindHere_146 rfl rfl rfl rfl ⟨rfl, rfl, rfl, (0 : Int32), rfl, hF, by grind⟩
  · skip
    replace hF := fe_neg hF h5
    refine g_aload_n d_X10_kindHere_8 rfl ?_
    refine g_iconst (v := 3) d_X10_kindHere_9 kI_3 ?_
    refine g_bipush (v := 109) d_X10_kindHere_10 kB_109 ?_
    refine g_bipush (v := 105) d_X10_kindHere_12 kB_105 ?_
    refine g_bipush (v := 120) d_X10_kindHere_14 kB_120 ?_
    refine g_iconst (v := 0) d_X10_kindHere_16 kI_0 ?_
    refine g_iconst (v := 0) d_X10_kindHere_17 kI_0 ?_
    refine g_V6 d_X10_kindHere_18 cs_X10_kindHere_X10_isWord lk_RX10_136 im_X10_isWord se_X10_isWord rfl rfl rfl (Nat.le_of_ble_eq_true rfl) ⟨rfl, rfl⟩ ⟨Nat.zero_le _, Nat.zero_le _⟩ (ct_X10_isWord (3 : Int32) (109 : Int32) (105 : Int32) (120 : Int32) (0 : Int32) (0 : Int32) I J hpa hwd) (fun r18 S18 Ic65 Jc66 q18_63 => ?_)
    obtain ⟨rfl, rfl, rfl, r69, rfl, hz18, hf18_67, hr18_69⟩ := q18_63
    replace hF := fe_b3 hF hf18_67
    refine g_st (st' := [.int r69]) rfl ?_
    refine g_if_eq d_X10_kindHere_21 (fun h21 => ?_) (fun h21 => ?_)
    · skip
      replace hF := fe_pos hF h21
      refine g_aload_n d_X10_kindHere_28 rfl ?_
      refine g_iconst (v := 2) d_X10_kindHere_29 kI_2 ?_
      refine g_bipush (v := 111) d_X10_kindHere_30 kB_111 ?_
      refine g_bipush (v := 110) d_X10_kindHere_32 kB_110 ?_
      refine g_iconst (v := 0) d_X10_kindHere_34 kI_0 ?_
      refine g_iconst (v := 0) d_X10_kindHere_35 kI_0 ?_
      refine g_iconst (v := 0) d_X10_kindHere_36 kI_0 ?_
      refine g_V6 d_X10_kindHere_37 cs_X10_kindHere_X10_isWord lk_RX10_136 im_X10_isWord se_X10_isWord rfl rfl rfl (Nat.le_of_ble_eq_true rfl) ⟨rfl, rfl⟩ ⟨Nat.zero_le _, Nat.zero_le _⟩ (ct_X10_isWord (2 : Int32) (111 : Int32) (110 : Int32) (0 : Int32) (0 : Int32) (0 : Int32) I J hpa hwd) (fun r37 S37 Ic72 Jc73 q37_70 => ?_)
      obtain ⟨rfl, rfl, rfl, r76, rfl, hz37, hf37_74, hr37_76⟩ := q37_70
      replace hF := fe_b3 hF hf37_74
      refine g_st (st' := [.int r76]) rfl ?_
      refine g_if_eq d_X10_kindHere_40 (fun h40 => ?_) (fun h40 => ?_)
      · skip
        replace hF := fe_pos hF h40
        refine g_aload_n d_X10_kindHere_48 rfl ?_
        refine g_iconst (v := 3) d_X10_kindHere_49 kI_3 ?_
        refine g_bipush (v := 111) d_X10_kindHere_50 kB_111 ?_
        refine g_bipush (v := 102) d_X10_kindHere_52 kB_102 ?_
        refine g_bipush (v := 102) d_X10_kindHere_54 kB_102 ?_
        refine g_iconst (v := 0) d_X10_kindHere_56 kI_0 ?_
        refine g_iconst (v := 0) d_X10_kindHere_57 kI_0 ?_
        refine g_V6 d_X10_kindHere_58 cs_X10_kindHere_X10_isWord lk_RX10_136 im_X10_isWord se_X10_isWord rfl rfl rfl (Nat.le_of_ble_eq_true rfl) ⟨rfl, rfl⟩ ⟨Nat.zero_le _, Nat.zero_le _⟩ (ct_X10_isWord (3 : Int32) (111 : Int32) (102 : Int32) (102 : Int32) (0 : Int32) (0 : Int32) I J hpa hwd) (fun r58 S58 Ic79 Jc80 q58_77 => ?_)
        obtain ⟨rfl, rfl, rfl, r83, rfl, hz58, hf58_81, hr58_83⟩ := q58_77
        replace hF := fe_b3 hF hf58_81
        refine g_st (st' := [.int r83]) rfl ?_
        refine g_if_eq d_X10_kindHere_61 (fun h61 => ?_) (fun h61 => ?_)
        · skip
          replace hF := fe_pos hF h61
          refine g_aload_n d_X10_kindHere_69 rfl ?_
          refine g_iconst (v := 3) d_X10_kindHere_70 kI_3 ?_
          refine g_bipush (v := 117) d_X10_kindHere_71 kB_117 ?_
          refine g_bipush (v := 115) d_X10_kindHere_73 kB_115 ?_
          refine g_bipush (v := 101) d_X10_kindHere_75 kB_101 ?_
          refine g_iconst (v := 0) d_X10_kindHere_77 kI_0 ?_
          refine g_iconst (v := 0) d_X10_kindHere_78 kI_0 ?_
          refine g_V6 d_X10_kindHere_79 cs_X10_kindHere_X10_isWord lk_RX10_136 im_X10_isWord se_X10_isWord rfl rfl rfl (Nat.le_of_ble_eq_true rfl) ⟨rfl, rfl⟩ ⟨Nat.zero_le _, Nat.zero_le _⟩ (ct_X10_isWord (3 : Int32) (117 : Int32) (115 : Int32) (101 : Int32) (0 : Int32) (0 : Int32) I J hpa hwd) (fun r79 S79 Ic86 Jc87 q79_84 => ?_)
          obtain ⟨rfl, rfl, rfl, r90, rfl, hz79, hf79_88, hr79_90⟩ := q79_84
          replace hF := fe_b3 hF hf79_88
          refine g_st (st' := [.int r90]) rfl ?_
          refine g_if_eq d_X10_kindHere_82 (fun h82 => ?_) (fun h82 => ?_)
          · skip
            replace hF := fe_pos hF h82
            refine g_iconst (v := -1) d_X10_kindHere_90 kI_m1 ?_
            exact g_ireturn d_X10_kindHere_91 rfl rfl rfl rfl ⟨rfl, rfl, rfl, (-1 : Int32), rfl, hF, by grind⟩
          · skip
            replace hF := fe_neg hF h82
            refine g_bipush (v := 9) d_X10_kindHere_85 kB_9 ?_
            refine g_goto d_X10_kindHere_87 ?_
            exact g_ireturn d_X10_kindHere_91 rfl rfl rfl rfl ⟨rfl, rfl, rfl, (9 : Int32), rfl, hF, by grind⟩
        · skip
          replace hF := fe_neg hF h61
          refine g_bipush (v := 7) d_X10_kindHere_64 kB_7 ?_
          refine g_goto d_X10_kindHere_66 ?_
          exact g_ireturn d_X10_kindHere_91 rfl rfl rfl rfl ⟨rfl, rfl, rfl, (7 : Int32), rfl, hF, by grind⟩
      · skip
        replace hF := fe_neg hF h40
        refine g_bipush (v := 6) d_X10_kindHere_43 kB_6 ?_
        refine g_goto d_X10_kindHere_45 ?_
        exact g_ireturn d_X10_kindHere_91 rfl rfl rfl rfl ⟨rfl, rfl, rfl, (6 : Int32), rfl, hF, by grind⟩
    · skip
      replace hF := fe_neg hF h21
      refine g_iconst (v := 3) d_X10_kindHere_24 kI_3 ?_
      refine g_goto d_X10_kindHere_25 ?_
      exact g_ireturn d_X10_kindHere_91 rfl rfl rfl rfl ⟨rfl, rfl, rfl, (3 : Int32), rfl, hF, by grind⟩
noncomputable def fl_X10_takeNumber_41_0 (J : Jv) (Kf0 : Int32 → Iv → Int32 × Iv × Jv) : Nat → Int32 → Iv → Int32 × Iv × Jv
  | 0, x26, I27 => (0, I27, J)
  | kf0 + 1, x26, I27 => j_n (Kf0 x26 I27) (fun (j119_1 : Int32 × Iv × Jv) => if (I27 78 11) ≤ (I27 78 12) then j119_1 else b_n3 (fn_X10_in (Int32.toInt64 (I27 87 ((I27 78 12)).toNatClampNeg)) (48 : Int64) (57 : Int64) I27 J) (fun (r50 : Int32) (_ : Iv) (_ : Jv) => if r50 = 0 then j119_1 else j_n (fun (w52 : Int32) => l_t (wI I27 78 12 ((I27 78 12) + (1 : Int32))) (fun (I53 : Iv) => fl_X10_takeNumber_41_0 J Kf0 kf0 w52 I53)) (fun (j104_4 : Int32 → Int32 × Iv × Jv) => if x26 ≤ (99999 : Int32) then j104_4 (((((10 : Int32) * x26) + (I27 87 ((I27 78 12)).toNatClampNeg)) - (48 : Int32))) else j104_4 x26)))
noncomputable def fn_X10_takeNumber (low : Int32) (high : Int32) (I : Iv) (J : Jv) : Int32 × Iv × Jv :=
  b_n3 (fn_X10_here I J) (fun (r6 : Int32) (I1 : Iv) (_ : Jv) => l_t (wI I1 78 13 (I1 78 12)) (fun (I9 : Iv) => b_n3 (fn_X10_in (Int32.toInt64 r6) (48 : Int64) (57 : Int64) I9 J) (fun (r16 : Int32) (_ : Iv) (_ : Jv) => b_n3 (fn_X10_want r16 (1 : Int32) (I9 78 12) I9 J) (fun (r23 : Int32) (I18 : Iv) (_ : Jv) => if r23 = 0 then ((0 : Int32), I18, J) else fl_X10_takeNumber_41_0 J (fun (x26 : Int32) (I27 : Iv) => j_n (fun (w29 : Int32) => b_n3 (fn_X10_want w29 (2 : Int32) (I27 78 13) I27 J) (fun (r35 : Int32) (I30 : Iv) (_ : Jv) => (x26, I30, J))) (fun (j151_2 : Int32 → Int32 × Iv × Jv) => j_n (j151_2 ((0 : Int32))) (fun (j150_3 : Int32 × Iv × Jv) => if (4 : Int32) ≤ ((I27 78 12) - (I27 78 13)) then j150_3 else b_n3 (fn_X10_in (Int32.toInt64 x26) (Int32.toInt64 low) (Int32.toInt64 high) I27 J) (fun (r43 : Int32) (_ : Iv) (_ : Jv) => if r43 = 0 then j150_3 else j151_2 ((1 : Int32)))))) (mU (I18 78 11) (I18 78 12) + 1) (0 : Int32) I18))))
set_option maxRecDepth 100000 in
set_option maxHeartbeats 4000000 in
theorem ct_X10_takeNumber (low : Int32) (high : Int32) (I : Iv) (J : Jv) (hpa : PA I) : Ct m_X10_takeNumber [.ref 78, .int low, .int high] SHF I J (fun r S' I' J' => S' = SHF ∧ (J = J' ∧ PF I I') ∧ ∃ v : Int32, r = some (.int v) ∧ fn_X10_takeNumber low high I J = (v, I', J') ∧ (I' 78 15 = 0 → low ≤ v ∧ v ≤ high)) := by
  refine ct_of 3 (by decide +kernel) rfl rfl ?_
  have hK0 : PF I I := (pf_rfl hpa)
  have hF := fe_of (fn_X10_takeNumber.eq_1 low high I J)
  refine g_aload_n d_X10_takeNumber_0 rfl ?_
  refine g_V0 d_X10_takeNumber_1 cs_X10_takeNumber_X10_here lk_RX10_113 im_X10_here se_X10_here rfl rfl rfl (Nat.le_of_ble_eq_true rfl) ⟨rfl, rfl⟩ ⟨Nat.zero_le _, Nat.zero_le _⟩ (ct_X10_here  I J hpa) (fun r1 S1 I1 Jc3 q1_1 => ?_)
  obtain ⟨rfl, ⟨rfl, hc1_3⟩, r6, rfl, hf1_4, hr1_6⟩ := q1_1
  replace hF := fe_b3 hF hf1_4
  refine g_st (st' := [.int r6]) rfl ?_
  have hK8 : PF I I1 := hK0.tr hc1_3
  refine g_istore_n (L' := [some (.ref 78), some (.int low), some (.int high), some (.int r6), none, none]) d_X10_takeNumber_4 (by decide) rfl ?_
  refine g_aload_n d_X10_takeNumber_5 rfl ?_
  refine g_aload_n d_X10_takeNumber_6 rfl ?_
  refine g_getI d_X10_takeNumber_7 fq_RX10_107 rfl rfl ?_
  refine g_putI d_X10_takeNumber_10 fq_RX10_117 rfl rfl ?_
  refine g_nmI (fun I9 eI9 => ?_)
  replace hF := fe_lt hF eI9
  have hK10 : PF I I9 := (by rw [eI9]; exact pf_cell hK8 (by decide))
  refine g_aload_n d_X10_takeNumber_13 rfl ?_
  refine g_iload_n d_X10_takeNumber_14 rfl ?_
  refine g_i2l d_X10_takeNumber_15 ?_
  refine g_ldc2 (v := 48) d_X10_takeNumber_16 tw_1258 ?_
  refine g_ldc2 (v := 57) d_X10_takeNumber_19 tw_1259 ?_
  refine g_S3 d_X10_takeNumber_22 cs_X10_takeNumber_X10_in lk_RX10_96 im_X10_in (Nat.le_of_ble_eq_true rfl) ⟨rfl, rfl⟩ ⟨Nat.zero_le _, Nat.zero_le _⟩ (ct_X10_inL r6 (48 : Int64) (57 : Int64) (48 : Int32) (57 : Int32) (by decide) (by decide) I9 J) (fun r22 S22 Ic12 Jc13 q22_10 => ?_)
  obtain ⟨rfl, rfl, rfl, r16, rfl, hz22, hf22_14, hr22_16⟩ := q22_10
  replace hF := fe_b3 hF hf22_14
  refine g_st (st' := [.int r16, .ref 78]) rfl ?_
  refine g_iconst (v := 1) d_X10_takeNumber_25 kI_1 ?_
  refine g_aload_n d_X10_takeNumber_26 rfl ?_
  refine g_getI d_X10_takeNumber_27 fq_RX10_107 rfl rfl ?_
  refine g_V3 d_X10_takeNumber_30 cs_X10_takeNumber_X10_want lk_RX10_131 im_X10_want se_X10_want rfl rfl rfl (Nat.le_of_ble_eq_true rfl) ⟨rfl, rfl⟩ ⟨Nat.zero_le _, Nat.zero_le _⟩ (ct_X10_want r16 (1 : Int32) (I9 78 12) I9 J (hK10.2.2.1) (by grind)) (fun r30 S30 I18 Jc20 q30_18 => ?_)
  obtain ⟨rfl, ⟨rfl, hc30_20⟩, r23, rfl, hz30, hf30_21, hr30_23⟩ := q30_18
  replace hF := fe_b3 hF hf30_21
  refine g_st (st' := [.int r23]) rfl ?_
  have hK25 : PF I I18 := hK10.tr hc30_20
  refine g_if_ne d_X10_takeNumber_33 (fun h33 => ?_) (fun h33 => ?_)
  · skip
    replace hF := fe_neg hF h33
    refine g_iconst (v := 0) d_X10_takeNumber_38 kI_0 ?_
    refine g_istore (L' := [some (.ref 78), some (.int low), some (.int high), some (.int r6), some (.int (0 : Int32)), none]) d_X10_takeNumber_39 (by decide) rfl ?_
    obtain ⟨Kf0, hKf0, hF⟩ := fe_kx (f := fun K => fl_X10_takeNumber_41_0 J K (mU (I18 78 11) (I18 78 12) + 1) (0 : Int32) I18) hF
    have K_41 : ∀ (nu : Nat) (x26 : Int32) (I27 : Iv), mU (I27 78 11) (I27 78 12) = nu → (PF I I27) → (∃ kq : Nat, nu < kq ∧ (fun kq => FE (fn_X10_takeNumber low high I J) (fun _ => fl_X10_takeNumber_41_0 J Kf0 kq x26 I27)) kq) → G m_X10_takeNumber (rq m_X10_takeNumber (fun r S' I' J' => S' = SHF ∧ (J = J' ∧ PF I I') ∧ ∃ v : Int32, r = some (.int v) ∧ fn_X10_takeNumber low high I J = (v, I', J') ∧ (I' 78 15 = 0 → low ≤ v ∧ v ≤ high))) 0 0 41 [some (.ref 78), some (.int low), some (.int high), some (.int r6), some (.int x26), none] [] SHF I27 J := by
      intro nu
      induction nu using Nat.strongRecOn with
      | ind nu ih_41 =>
        intro x26 I27 hmu_41 hK28 hF_Kf0
        obtain ⟨kf0, hkf0, hF⟩ := fe_fu (P := fun kq => FE (fn_X10_takeNumber low high I J) (fun _ => fl_X10_takeNumber_41_0 J Kf0 kq x26 I27)) hF_Kf0
        replace hF := fe_eq hF (fl_X10_takeNumber_41_0.eq_2 _ _ _ _ _)
        refine g_aload_n d_X10_takeNumber_41 rfl ?_
        refine g_getI d_X10_takeNumber_42 fq_RX10_107 rfl rfl ?_
        refine g_aload_n d_X10_takeNumber_45 rfl ?_
        refine g_getI d_X10_takeNumber_46 fq_RX10_101 rfl rfl ?_
        obtain ⟨j119_1, hj119_1, hF⟩ := fe_jx hF
        have J_119 : (FE (fn_X10_takeNumber low high I J) (fun _ => j119_1)) → G m_X10_takeNumber (rq m_X10_takeNumber (fun r S' I' J' => S' = SHF ∧ (J = J' ∧ PF I I') ∧ ∃ v : Int32, r = some (.int v) ∧ fn_X10_takeNumber low high I J = (v, I', J') ∧ (I' 78 15 = 0 → low ≤ v ∧ v ≤ high))) 0 0 119 [some (.ref 78), some (.int low), some (.int high), some (.int r6), some (.int x26), none] [] SHF I27 J := by
          intro hF_j119_1
          have hF := fe_eq hF_j119_1 hj119_1
          replace hF := fe_eq hF (congrFun (congrFun hKf0 x26) I27)
          refine g_aload_n d_X10_takeNumber_119 rfl ?_
          refine g_aload_n d_X10_takeNumber_120 rfl ?_
          refine g_getI d_X10_takeNumber_121 fq_RX10_107 rfl rfl ?_
          refine g_aload_n d_X10_takeNumber_124 rfl ?_
          refine g_getI d_X10_takeNumber_125 fq_RX10_117 rfl rfl ?_
          refine g_isub d_X10_takeNumber_128 ?_
          refine g_iconst (v := 4) d_X10_takeNumber_129 kI_4 ?_
          obtain ⟨j151_2, hj151_2, hF⟩ := fe_jx hF
          have J_151 : ∀ (w29 : Int32), (w29 = 0 ∨ w29 = 1) → (¬ w29 = 0 → low ≤ x26 ∧ x26 ≤ high) → (FE (fn_X10_takeNumber low high I J) (fun _ => j151_2 w29)) → G m_X10_takeNumber (rq m_X10_takeNumber (fun r S' I' J' => S' = SHF ∧ (J = J' ∧ PF I I') ∧ ∃ v : Int32, r = some (.int v) ∧ fn_X10_takeNumber low high I J = (v, I', J') ∧ (I' 78 15 = 0 → low ≤ v ∧ v ≤ high))) 0 0 151 [some (.ref 78), some (.int low), some (.int high), some (.int r6), some (.int x26), none] [.int w29, .ref 78] SHF I27 J := by
            intro w29 hw29 hg_151 hF_j151_2
            have hF := fe_eq hF_j151_2 (congrFun hj151_2 w29)
            refine g_iconst (v := 2) d_X10_takeNumber_151 kI_2 ?_
            refine g_aload_n d_X10_takeNumber_152 rfl ?_
            refine g_getI d_X10_takeNumber_153 fq_RX10_117 rfl rfl ?_
            refine g_V3 d_X10_takeNumber_156 cs_X10_takeNumber_X10_want lk_RX10_131 im_X10_want se_X10_want rfl rfl rfl (Nat.le_of_ble_eq_true rfl) ⟨rfl, rfl⟩ ⟨Nat.zero_le _, Nat.zero_le _⟩ (ct_X10_want w29 (2 : Int32) (I27 78 13) I27 J (hK28.2.2.1) (by grind)) (fun r156 S156 I30 Jc32 q156_30 => ?_)
            obtain ⟨rfl, ⟨rfl, hc156_32⟩, r35, rfl, hz156, hf156_33, hr156_35⟩ := q156_30
            replace hF := fe_b3 hF hf156_33
            refine g_st (st' := [.int r35]) rfl ?_
            have hK37 : PF I I30 := hK28.tr hc156_32
            refine g_istore (L' := [some (.ref 78), some (.int low), some (.int high), some (.int r6), some (.int x26), some (.int r35)]) d_X10_takeNumber_159 (by decide) rfl ?_
            refine g_iload d_X10_takeNumber_161 rfl ?_
            exact g_ireturn d_X10_takeNumber_163 rfl rfl rfl rfl ⟨rfl, ⟨rfl, hK37⟩, x26, rfl, hF, (by grind)⟩
          obtain ⟨j150_3, hj150_3, hF⟩ := fe_jx hF
          have J_150 : (FE (fn_X10_takeNumber low high I J) (fun _ => j150_3)) → G m_X10_takeNumber (rq m_X10_takeNumber (fun r S' I' J' => S' = SHF ∧ (J = J' ∧ PF I I') ∧ ∃ v : Int32, r = some (.int v) ∧ fn_X10_takeNumber low high I J = (v, I', J') ∧ (I' 78 15 = 0 → low ≤ v ∧ v ≤ high))) 0 0 150 [some (.ref 78), some (.int low), some (.int high), some (.int r6), some (.int x26), none] [.ref 78] SHF I27 J := by
            intro hF_j150_3
            have hF := fe_eq hF_j150_3 hj150_3
            refine g_iconst (v := 0) d_X10_takeNumber_150 kI_0 ?_
            exact J_151 ((0 : Int32)) (Or.inl rfl) (by grind) hF
          refine g_icmp_ge d_X10_takeNumber_130 (fun h130 => ?_) (fun h130 => ?_)
          · skip
            replace hF := fe_pos hF h130
            exact J_150 hF
          · skip
            replace hF := fe_neg hF h130
            refine g_iload d_X10_takeNumber_133 rfl ?_
            refine g_i2l d_X10_takeNumber_135 ?_
            refine g_iload_n d_X10_takeNumber_136 rfl ?_
            refine g_i2l d_X10_takeNumber_137 ?_
            refine g_iload_n d_X10_takeNumber_138 rfl ?_
            refine g_i2l d_X10_takeNumber_139 ?_
            refine g_S3 d_X10_takeNumber_140 cs_X10_takeNumber_X10_in lk_RX10_96 im_X10_in (Nat.le_of_ble_eq_true rfl) ⟨rfl, rfl⟩ ⟨Nat.zero_le _, Nat.zero_le _⟩ (ct_X10_inL x26 (Int32.toInt64 low) (Int32.toInt64 high) low high rfl rfl I27 J) (fun r140 S140 Ic39 Jc40 q140_37 => ?_)
            obtain ⟨rfl, rfl, rfl, r43, rfl, hz140, hf140_41, hr140_43⟩ := q140_37
            replace hF := fe_b3 hF hf140_41
            refine g_st (st' := [.int r43, .ref 78]) rfl ?_
            refine g_if_eq d_X10_takeNumber_143 (fun h143 => ?_) (fun h143 => ?_)
            · skip
              replace hF := fe_pos hF h143
              exact J_150 hF
            · skip
              replace hF := fe_neg hF h143
              refine g_iconst (v := 1) d_X10_takeNumber_146 kI_1 ?_
              refine g_goto d_X10_takeNumber_147 ?_
              exact J_151 ((1 : Int32)) (Or.inr rfl) (by grind) hF
        refine g_icmp_ge d_X10_takeNumber_49 (fun h49 => ?_) (fun h49 => ?_)
        · skip
          replace hF := fe_pos hF h49
          exact J_119 hF
        · skip
          replace hF := fe_neg hF h49
          refine g_aload_n d_X10_takeNumber_52 rfl ?_
          refine g_getR d_X10_takeNumber_53 fq_RX10_36 rfl rfl ?_
          refine g_aload_n d_X10_takeNumber_56 rfl ?_
          refine g_getI d_X10_takeNumber_57 fq_RX10_107 rfl rfl ?_
          refine g_iaload (N := 300) d_X10_takeNumber_60 rfl kT_300 (by have hp := (hK28).2.2.1; constructor <;> grind) rfl ?_
          refine g_i2l d_X10_takeNumber_61 ?_
          refine g_ldc2 (v := 48) d_X10_takeNumber_62 tw_1258 ?_
          refine g_ldc2 (v := 57) d_X10_takeNumber_65 tw_1259 ?_
          refine g_S3 d_X10_takeNumber_68 cs_X10_takeNumber_X10_in lk_RX10_96 im_X10_in (Nat.le_of_ble_eq_true rfl) ⟨rfl, rfl⟩ ⟨Nat.zero_le _, Nat.zero_le _⟩ (ct_X10_inL (I27 87 ((I27 78 12)).toNatClampNeg) (48 : Int64) (57 : Int64) (48 : Int32) (57 : Int32) (by decide) (by decide) I27 J) (fun r68 S68 Ic46 Jc47 q68_44 => ?_)
          obtain ⟨rfl, rfl, rfl, r50, rfl, hz68, hf68_48, hr68_50⟩ := q68_44
          replace hF := fe_b3 hF hf68_48
          refine g_st (st' := [.int r50]) rfl ?_
          refine g_if_eq d_X10_takeNumber_71 (fun h71 => ?_) (fun h71 => ?_)
          · skip
            replace hF := fe_pos hF h71
            exact J_119 hF
          · skip
            replace hF := fe_neg hF h71
            refine g_iload d_X10_takeNumber_74 rfl ?_
            refine g_ldc (v := 99999) d_X10_takeNumber_76 tw_1260 ?_
            obtain ⟨j104_4, hj104_4, hF⟩ := fe_jx hF
            have J_104 : ∀ (w52 : Int32), (FE (fn_X10_takeNumber low high I J) (fun _ => j104_4 w52)) → G m_X10_takeNumber (rq m_X10_takeNumber (fun r S' I' J' => S' = SHF ∧ (J = J' ∧ PF I I') ∧ ∃ v : Int32, r = some (.int v) ∧ fn_X10_takeNumber low high I J = (v, I', J') ∧ (I' 78 15 = 0 → low ≤ v ∧ v ≤ high))) 0 0 104 [some (.ref 78), some (.int low), some (.int high), some (.int r6), some (.int x26), none] [.int w52] SHF I27 J := by
              intro w52 hF_j104_4
              have hF := fe_eq hF_j104_4 (congrFun hj104_4 w52)
              refine g_istore (L' := [some (.ref 78), some (.int low), some (.int high), some (.int r6), some (.int w52), none]) d_X10_takeNumber_104 (by decide) rfl ?_
              refine g_aload_n d_X10_takeNumber_106 rfl ?_
              refine g_dup d_X10_takeNumber_107 rfl ?_
              refine g_getI d_X10_takeNumber_108 fq_RX10_107 rfl rfl ?_
              refine g_iconst (v := 1) d_X10_takeNumber_111 kI_1 ?_
              refine g_iadd d_X10_takeNumber_112 ?_
              refine g_putI d_X10_takeNumber_113 fq_RX10_107 rfl rfl ?_
              refine g_nmI (fun I53 eI53 => ?_)
              replace hF := fe_lt hF eI53
              have hK54 : PF I I53 := (by rw [eI53]; exact pf_at hK28 h49)
              refine g_goto d_X10_takeNumber_116 ?_
              exact ih_41 _ (by rw [← hmu_41]; exact (by rw [eI53]; exact pstep h49)) w52 I53 rfl hK54 ⟨kf0, Nat.lt_of_lt_of_le (by rw [← hmu_41]; exact (by rw [eI53]; exact pstep h49)) hkf0, hF⟩
            refine g_icmp_le d_X10_takeNumber_78 (fun h78 => ?_) (fun h78 => ?_)
            · skip
              replace hF := fe_pos hF h78
              refine g_bipush (v := 10) d_X10_takeNumber_86 kB_10 ?_
              refine g_iload d_X10_takeNumber_88 rfl ?_
              refine g_imul d_X10_takeNumber_90 ?_
              refine g_aload_n d_X10_takeNumber_91 rfl ?_
              refine g_getR d_X10_takeNumber_92 fq_RX10_36 rfl rfl ?_
              refine g_aload_n d_X10_takeNumber_95 rfl ?_
              refine g_getI d_X10_takeNumber_96 fq_RX10_107 rfl rfl ?_
              refine g_iaload (N := 300) d_X10_takeNumber_99 rfl kT_300 (by have hp := (hK28).2.2.1; constructor <;> grind) rfl ?_
              refine g_iadd d_X10_takeNumber_100 ?_
              refine g_bipush (v := 48) d_X10_takeNumber_101 kB_48 ?_
              refine g_isub d_X10_takeNumber_103 ?_
              exact J_104 (((((10 : Int32) * x26) + (I27 87 ((I27 78 12)).toNatClampNeg)) - (48 : Int32))) hF
            · skip
              replace hF := fe_neg hF h78
              refine g_iload d_X10_takeNumber_81 rfl ?_
              refine g_goto d_X10_takeNumber_83 ?_
              exact J_104 x26 hF
    exact K_41 _ (0 : Int32) I18 rfl hK25 ⟨_, Nat.lt_succ_self _, hF⟩
  · skip
    replace hF := fe_pos hF h33
    refine g_iconst (v := 0) d_X10_takeNumber_36 kI_0 ?_
    exact g_ireturn d_X10_takeNumber_37 rfl rfl rfl rfl ⟨rfl, ⟨rfl, hK25⟩, (0 : Int32), rfl, hF, (by grind)⟩
noncomputable def fn_X10_takeEnd (I : Iv) (J : Jv) : Iv × Jv :=
  if (I 78 15) = 0 then b_n3 (fn_X10_here I J) (fun (r6 : Int32) (I1 : Iv) (_ : Jv) => j_n (fun (w9 : Int32) => b_n3 (fn_X10_want w9 (1 : Int32) (I1 78 12) I1 J) (fun (r15 : Int32) (I10 : Iv) (_ : Jv) => if r15 = 0 then (I10, J) else l_t (wI I10 78 12 ((I10 78 12) + (1 : Int32))) (fun (I18 : Iv) => (I18, J)))) (fun (j22_0 : Int32 → Iv × Jv) => if r6 = (59 : Int32) then j22_0 ((1 : Int32)) else j22_0 ((0 : Int32)))) else (I, J)
set_option maxRecDepth 100000 in
set_option maxHeartbeats 4000000 in
theorem ct_X10_takeEnd  (I : Iv) (J : Jv) (hpa : PA I) : Ct m_X10_takeEnd [.ref 78] SHF I J (fun r S' I' J' => S' = SHF ∧ (J = J' ∧ PF I I') ∧ r = none ∧ fn_X10_takeEnd I J = (I', J')) := by
  refine ct_of 0 (by decide +kernel) rfl rfl ?_
  have hK0 : PF I I := (pf_rfl hpa)
  have hF := fe_of (fn_X10_takeEnd.eq_1 I J)
  refine g_aload_n d_X10_takeEnd_0 rfl ?_
  refine g_getI d_X10_takeEnd_1 fq_RX10_110 rfl rfl ?_
  refine g_if_ne d_X10_takeEnd_4 (fun h4 => ?_) (fun h4 => ?_)
  · skip
    replace hF := fe_neg hF h4
    exact g_return d_X10_takeEnd_43 rfl rfl rfl ⟨rfl, ⟨rfl, hK0⟩, rfl, hF⟩
  · skip
    replace hF := fe_pos hF h4
    refine g_aload_n d_X10_takeEnd_7 rfl ?_
    refine g_aload_n d_X10_takeEnd_8 rfl ?_
    refine g_V0 d_X10_takeEnd_9 cs_X10_takeEnd_X10_here lk_RX10_113 im_X10_here se_X10_here rfl rfl rfl (Nat.le_of_ble_eq_true rfl) ⟨rfl, rfl⟩ ⟨Nat.zero_le _, Nat.zero_le _⟩ (ct_X10_here  I J hpa) (fun r9 S9 I1 Jc3 q9_1 => ?_)
    obtain ⟨rfl, ⟨rfl, hc9_3⟩, r6, rfl, hf9_4, hr9_6⟩ := q9_1
    replace hF := fe_b3 hF hf9_4
    refine g_st (st' := [.int r6, .ref 78]) rfl ?_
    have hK8 : PF I I1 := hK0.tr hc9_3
    refine g_bipush (v := 59) d_X10_takeEnd_12 kB_59 ?_
    obtain ⟨j22_0, hj22_0, hF⟩ := fe_jx hF
    have J_22 : ∀ (w9 : Int32), (w9 = 0 ∨ w9 = 1) → (¬ w9 = 0 → I1 78 12 < I1 78 11) → (FE (fn_X10_takeEnd I J) (fun _ => j22_0 w9)) → G m_X10_takeEnd (rq m_X10_takeEnd (fun r S' I' J' => S' = SHF ∧ (J = J' ∧ PF I I') ∧ r = none ∧ fn_X10_takeEnd I J = (I', J'))) 0 0 22 [some (.ref 78)] [.int w9, .ref 78] SHF I1 J := by
      intro w9 hw9 hj_22 hF_j22_0
      have hF := fe_eq hF_j22_0 (congrFun hj22_0 w9)
      refine g_iconst (v := 1) d_X10_takeEnd_22 kI_1 ?_
      refine g_aload_n d_X10_takeEnd_23 rfl ?_
      refine g_getI d_X10_takeEnd_24 fq_RX10_107 rfl rfl ?_
      refine g_V3 d_X10_takeEnd_27 cs_X10_takeEnd_X10_want lk_RX10_131 im_X10_want se_X10_want rfl rfl rfl (Nat.le_of_ble_eq_true rfl) ⟨rfl, rfl⟩ ⟨Nat.zero_le _, Nat.zero_le _⟩ (ct_X10_want w9 (1 : Int32) (I1 78 12) I1 J (hK8.2.2.1) (by grind)) (fun r27 S27 I10 Jc12 q27_10 => ?_)
      obtain ⟨rfl, ⟨rfl, hc27_12⟩, r15, rfl, hz27, hf27_13, hr27_15⟩ := q27_10
      replace hF := fe_b3 hF hf27_13
      refine g_st (st' := [.int r15]) rfl ?_
      have hK17 : PF I I10 := hK8.tr hc27_12
      have hz2 := (hc27_12).size
      refine g_if_eq d_X10_takeEnd_30 (fun h30 => ?_) (fun h30 => ?_)
      · skip
        replace hF := fe_pos hF h30
        exact g_return d_X10_takeEnd_43 rfl rfl rfl ⟨rfl, ⟨rfl, hK17⟩, rfl, hF⟩
      · skip
        replace hF := fe_neg hF h30
        refine g_aload_n d_X10_takeEnd_33 rfl ?_
        refine g_dup d_X10_takeEnd_34 rfl ?_
        refine g_getI d_X10_takeEnd_35 fq_RX10_107 rfl rfl ?_
        refine g_iconst (v := 1) d_X10_takeEnd_38 kI_1 ?_
        refine g_iadd d_X10_takeEnd_39 ?_
        refine g_putI d_X10_takeEnd_40 fq_RX10_107 rfl rfl ?_
        refine g_nmI (fun I18 eI18 => ?_)
        replace hF := fe_lt hF eI18
        have hK19 : PF I I18 := (by rw [eI18]; exact pf_at hK17 (by grind))
        exact g_return d_X10_takeEnd_43 rfl rfl rfl ⟨rfl, ⟨rfl, hK19⟩, rfl, hF⟩
    refine g_icmp_ne d_X10_takeEnd_14 (fun h14 => ?_) (fun h14 => ?_)
    · skip
      replace hF := fe_neg hF h14
      refine g_iconst (v := 0) d_X10_takeEnd_21 kI_0 ?_
      exact J_22 ((0 : Int32)) (Or.inl rfl) (by grind) hF
    · skip
      replace hF := fe_pos hF h14
      refine g_iconst (v := 1) d_X10_takeEnd_17 kI_1 ?_
      refine g_goto d_X10_takeEnd_18 ?_
      exact J_22 ((1 : Int32)) (Or.inr rfl) (by grind) hF
noncomputable def fn_X10_takeClause (I : Iv) (J : Jv) : Iv × Jv :=
  b_n2 (fn_X10_takeWord I J) (fun (I1 : Iv) (_ : Jv) => b_n3 (fn_X10_kindHere I1 J) (fun (r13 : Int32) (_ : Iv) (_ : Jv) => j_n (fun (w15 : Int32) => b_n3 (fn_X10_want w15 (1 : Int32) (I1 78 13) I1 J) (fun (r21 : Int32) (I16 : Iv) (_ : Jv) => if r21 = 0 then (I16, J) else b_n3 (fn_X10_has (Int32.toInt64 (I16 78 17)) r13 I16 J) (fun (r29 : Int32) (_ : Iv) (_ : Jv) => j_n (fun (w31 : Int32) => b_n3 (fn_X10_want w31 (3 : Int32) (I16 78 13) I16 J) (fun (r37 : Int32) (I32 : Iv) (_ : Jv) => if r37 = 0 then (I32, J) else l_t (wI I32 78 17 ((I32 78 17) ||| ((1 : Int32) <<< (r13 &&& 31)))) (fun (I40 : Iv) => j_n (fun (I42 : Iv) => b_n2 (fn_X10_takeEnd I42 J) (fun (I44 : Iv) (_ : Jv) => (I44, J))) (fun (j171_2 : Iv → Iv × Jv) => if r13 = (12 : Int32) then b_n3 (fn_X10_takeNumber (0 : Int32) (24 : Int32) I40 J) (fun (r80 : Int32) (I75 : Iv) (_ : Jv) => l_t (wI I75 82 12 r80) (fun (I83 : Iv) => j_n (fun (w85 : Int32) (I86 : Iv) => l_t (wI I86 82 13 w85) (fun (I88 : Iv) => j_n (fun (w90 : Int32) (I91 : Iv) => l_t (wI I91 82 14 w90) (fun (I93 : Iv) => j171_2 I93)) (fun (j149_4 : Int32 → Iv → Iv × Jv) => if (I88 78 15) = 0 then b_n3 (fn_X10_takeNumber (0 : Int32) (200 : Int32) I88 J) (fun (r100 : Int32) (I95 : Iv) (_ : Jv) => j149_4 r100 I95) else j149_4 ((0 : Int32)) I88))) (fun (j123_3 : Int32 → Iv → Iv × Jv) => if (I83 78 15) = 0 then b_n3 (fn_X10_takeNumber ((I83 82 12) + (1 : Int32)) (24 : Int32) I83 J) (fun (r108 : Int32) (I103 : Iv) (_ : Jv) => j123_3 r108 I103) else j123_3 ((0 : Int32)) I83))) else b_n3 (fn_X10_leastOf r13 I40 J) (fun (r56 : Int32) (_ : Iv) (_ : Jv) => b_n3 (fn_X10_mostOf r13 I40 J) (fun (r63 : Int32) (_ : Iv) (_ : Jv) => b_n3 (fn_X10_takeNumber r56 r63 I40 J) (fun (r70 : Int32) (I65 : Iv) (_ : Jv) => l_t (wI I65 82 (r13.toNatClampNeg) r70) (fun (I73 : Iv) => j171_2 I73)))))))) (fun (j48_1 : Int32 → Iv × Jv) => if r29 = 0 then j48_1 ((1 : Int32)) else j48_1 ((0 : Int32)))))) (fun (j19_0 : Int32 → Iv × Jv) => if r13 < 0 then j19_0 ((0 : Int32)) else j19_0 ((1 : Int32)))))
set_option maxRecDepth 100000 in
set_option maxHeartbeats 4000000 in
theorem ct_X10_takeClause  (I : Iv) (J : Jv) (hpa : PA I) (hrk : RK I) : Ct m_X10_takeClause [.ref 78] SHF I J (fun r S' I' J' => S' = SHF ∧ (J = J' ∧ PC I I') ∧ r = none ∧ fn_X10_takeClause I J = (I', J') ∧ (I' 78 15 = 0 → I 78 12 < I' 78 12)) := by
  refine ct_of 1 (by decide +kernel) rfl rfl ?_
  have hK0 : PC I I := (pc_rfl hpa hrk)
  have hF := fe_of (fn_X10_takeClause.eq_1 I J)
  refine g_aload_n d_X10_takeClause_0 rfl ?_
  refine g_V0 d_X10_takeClause_1 cs_X10_takeClause_X10_takeWord lk_RX10_140 im_X10_takeWord se_X10_takeWord rfl rfl rfl (Nat.le_of_ble_eq_true rfl) ⟨rfl, rfl⟩ ⟨Nat.zero_le _, Nat.zero_le _⟩ (ct_X10_takeWord  I J hpa) (fun r1 S1 I1 Jc3 q1_1 => ?_)
  obtain ⟨rfl, ⟨rfl, hc1_3⟩, rfl, hf1_4, hr1_5⟩ := q1_1
  replace hF := fe_b2 hF hf1_4
  refine g_st (st' := []) rfl ?_
  have hK7 : PC I I1 := hK0.pf hc1_3
  have hpa1 := (hc1_3).2.2.1
  refine g_aload_n d_X10_takeClause_4 rfl ?_
  refine g_V0 d_X10_takeClause_5 cs_X10_takeClause_X10_kindHere lk_RX10_143 im_X10_kindHere se_X10_kindHere rfl rfl rfl (Nat.le_of_ble_eq_true rfl) ⟨rfl, rfl⟩ ⟨Nat.zero_le _, Nat.zero_le _⟩ (ct_X10_kindHere  I1 J (hK7.2.2.1) (by have hp := hpa; grind)) (fun r5 S5 Ic9 Jc10 q5_7 => ?_)
  obtain ⟨rfl, rfl, rfl, r13, rfl, hf5_11, hr5_13⟩ := q5_7
  replace hF := fe_b3 hF hf5_11
  refine g_st (st' := [.int r13]) rfl ?_
  refine g_istore_n (L' := [some (.ref 78), some (.int r13)]) d_X10_takeClause_8 (by decide) rfl ?_
  refine g_aload_n d_X10_takeClause_9 rfl ?_
  refine g_iload_n d_X10_takeClause_10 rfl ?_
  obtain ⟨j19_0, hj19_0, hF⟩ := fe_jx hF
  have J_19 : ∀ (w15 : Int32), (w15 = 0 ∨ w15 = 1) → (¬ w15 = 0 → 0 ≤ r13) → (FE (fn_X10_takeClause I J) (fun _ => j19_0 w15)) → G m_X10_takeClause (rq m_X10_takeClause (fun r S' I' J' => S' = SHF ∧ (J = J' ∧ PC I I') ∧ r = none ∧ fn_X10_takeClause I J = (I', J') ∧ (I' 78 15 = 0 → I 78 12 < I' 78 12))) 0 0 19 [some (.ref 78), some (.int r13)] [.int w15, .ref 78] SHF I1 J := by
    intro w15 hw15 hj_19 hF_j19_0
    have hF := fe_eq hF_j19_0 (congrFun hj19_0 w15)
    refine g_iconst (v := 1) d_X10_takeClause_19 kI_1 ?_
    refine g_aload_n d_X10_takeClause_20 rfl ?_
    refine g_getI d_X10_takeClause_21 fq_RX10_117 rfl rfl ?_
    refine g_V3 d_X10_takeClause_24 cs_X10_takeClause_X10_want lk_RX10_131 im_X10_want se_X10_want rfl rfl rfl (Nat.le_of_ble_eq_true rfl) ⟨rfl, rfl⟩ ⟨Nat.zero_le _, Nat.zero_le _⟩ (ct_X10_want w15 (1 : Int32) (I1 78 13) I1 J (hK7.2.2.1) (by decide)) (fun r24 S24 I16 Jc18 q24_16 => ?_)
    obtain ⟨rfl, ⟨rfl, hc24_18⟩, r21, rfl, hz24, hf24_19, hr24_21⟩ := q24_16
    replace hF := fe_b3 hF hf24_19
    refine g_st (st' := [.int r21]) rfl ?_
    have hK23 : PC I I16 := hK7.pf hc24_18
    refine g_if_eq d_X10_takeClause_27 (fun h27 => ?_) (fun h27 => ?_)
    · skip
      replace hF := fe_pos hF h27
      exact g_return d_X10_takeClause_175 rfl rfl rfl ⟨rfl, ⟨rfl, (by first | exact hK23 | exact hk68.tr hK23)⟩, rfl, hF, (by intro hq; first | exact Int32.lt_of_lt_of_le hgt2 (hK23).2.2.2.1 | grind)⟩
    · skip
      replace hF := fe_neg hF h27
      refine g_aload_n d_X10_takeClause_30 rfl ?_
      refine g_aload_n d_X10_takeClause_31 rfl ?_
      refine g_getI d_X10_takeClause_32 fq_RX10_146 rfl rfl ?_
      refine g_i2l d_X10_takeClause_35 ?_
      refine g_iload_n d_X10_takeClause_36 rfl ?_
      refine g_S2 d_X10_takeClause_37 cs_X10_takeClause_X10_has lk_RX10_149 im_X10_has (Nat.le_of_ble_eq_true rfl) ⟨rfl, rfl⟩ ⟨Nat.zero_le _, Nat.zero_le _⟩ (ct_X10_has (Int32.toInt64 (I16 78 17)) r13 I16 J ) (fun r37 S37 Ic25 Jc26 q37_23 => ?_)
      obtain ⟨rfl, rfl, rfl, r29, rfl, hz37, hf37_27⟩ := q37_23
      replace hF := fe_b3 hF hf37_27
      refine g_st (st' := [.int r29, .ref 78]) rfl ?_
      obtain ⟨j48_1, hj48_1, hF⟩ := fe_jx hF
      have J_48 : ∀ (w31 : Int32), (w31 = 0 ∨ w31 = 1) → (FE (fn_X10_takeClause I J) (fun _ => j48_1 w31)) → G m_X10_takeClause (rq m_X10_takeClause (fun r S' I' J' => S' = SHF ∧ (J = J' ∧ PC I I') ∧ r = none ∧ fn_X10_takeClause I J = (I', J') ∧ (I' 78 15 = 0 → I 78 12 < I' 78 12))) 0 0 48 [some (.ref 78), some (.int r13)] [.int w31, .ref 78] SHF I16 J := by
        intro w31 hw31 hF_j48_1
        have hF := fe_eq hF_j48_1 (congrFun hj48_1 w31)
        refine g_iconst (v := 3) d_X10_takeClause_48 kI_3 ?_
        refine g_aload_n d_X10_takeClause_49 rfl ?_
        refine g_getI d_X10_takeClause_50 fq_RX10_117 rfl rfl ?_
        refine g_V3 d_X10_takeClause_53 cs_X10_takeClause_X10_want lk_RX10_131 im_X10_want se_X10_want rfl rfl rfl (Nat.le_of_ble_eq_true rfl) ⟨rfl, rfl⟩ ⟨Nat.zero_le _, Nat.zero_le _⟩ (ct_X10_want w31 (3 : Int32) (I16 78 13) I16 J (hK23.2.2.1) (by decide)) (fun r53 S53 I32 Jc34 q53_32 => ?_)
        obtain ⟨rfl, ⟨rfl, hc53_34⟩, r37, rfl, hz53, hf53_35, hr53_37⟩ := q53_32
        replace hF := fe_b3 hF hf53_35
        refine g_st (st' := [.int r37]) rfl ?_
        have hK39 : PC I I32 := hK23.pf hc53_34
        have hgt : I 78 12 < I32 78 12 := by grind
        refine g_if_eq d_X10_takeClause_56 (fun h56 => ?_) (fun h56 => ?_)
        · skip
          replace hF := fe_pos hF h56
          exact g_return d_X10_takeClause_175 rfl rfl rfl ⟨rfl, ⟨rfl, (by first | exact hK39 | exact hk68.tr hK39)⟩, rfl, hF, (by intro hq; first | exact Int32.lt_of_lt_of_le hgt2 (hK39).2.2.2.1 | grind)⟩
        · skip
          replace hF := fe_neg hF h56
          refine g_aload_n d_X10_takeClause_59 rfl ?_
          refine g_dup d_X10_takeClause_60 rfl ?_
          refine g_getI d_X10_takeClause_61 fq_RX10_146 rfl rfl ?_
          refine g_iconst (v := 1) d_X10_takeClause_64 kI_1 ?_
          refine g_iload_n d_X10_takeClause_65 rfl ?_
          refine g_ishl d_X10_takeClause_66 ?_
          refine g_ior d_X10_takeClause_67 ?_
          refine g_putI d_X10_takeClause_68 fq_RX10_146 rfl rfl ?_
          refine g_nmI (fun I40 eI40 => ?_)
          replace hF := fe_lt hF eI40
          have hK41 : PC I40 I40 := (by rw [eI40]; exact pc_rfl (pc_kinds hK39).2.2.1 (pc_kinds hK39).2.2.2.2.2.1)
          have hk68 : PC I I40 := by rw [eI40]; exact pc_kinds hK39
          have hgt2 : I 78 12 < I40 78 12 := by rw [eI40, wI_ne (by omega)]; exact hgt
          refine g_iload_n d_X10_takeClause_71 rfl ?_
          refine g_bipush (v := 12) d_X10_takeClause_72 kB_12 ?_
          obtain ⟨j171_2, hj171_2, hF⟩ := fe_jx hF
          have J_171 : ∀ (I42 : Iv), (PC I40 I42) → (FE (fn_X10_takeClause I J) (fun _ => j171_2 I42)) → G m_X10_takeClause (rq m_X10_takeClause (fun r S' I' J' => S' = SHF ∧ (J = J' ∧ PC I I') ∧ r = none ∧ fn_X10_takeClause I J = (I', J') ∧ (I' 78 15 = 0 → I 78 12 < I' 78 12))) 0 0 171 [some (.ref 78), some (.int r13)] [] SHF I42 J := by
            intro I42 hK43 hF_j171_2
            have hF := fe_eq hF_j171_2 (congrFun hj171_2 I42)
            refine g_aload_n d_X10_takeClause_171 rfl ?_
            refine g_V0 d_X10_takeClause_172 cs_X10_takeClause_X10_takeEnd lk_RX10_163 im_X10_takeEnd se_X10_takeEnd rfl rfl rfl (Nat.le_of_ble_eq_true rfl) ⟨rfl, rfl⟩ ⟨Nat.zero_le _, Nat.zero_le _⟩ (ct_X10_takeEnd  I42 J (hK43.2.2.1)) (fun r172 S172 I44 Jc46 q172_44 => ?_)
            obtain ⟨rfl, ⟨rfl, hc172_46⟩, rfl, hf172_47⟩ := q172_44
            replace hF := fe_b2 hF hf172_47
            refine g_st (st' := []) rfl ?_
            have hK50 : PC I40 I44 := hK43.pf hc172_46
            exact g_return d_X10_takeClause_175 rfl rfl rfl ⟨rfl, ⟨rfl, (by first | exact hK50 | exact hk68.tr hK50)⟩, rfl, hF, (by intro hq; first | exact Int32.lt_of_lt_of_le hgt2 (hK50).2.2.2.1 | grind)⟩
          refine g_icmp_ne d_X10_takeClause_74 (fun h74 => ?_) (fun h74 => ?_)
          · skip
            replace hF := fe_neg hF h74
            refine g_aload_n d_X10_takeClause_153 rfl ?_
            refine g_getR d_X10_takeClause_154 fq_RX10_21 rfl rfl ?_
            refine g_iload_n d_X10_takeClause_157 rfl ?_
            refine g_aload_n d_X10_takeClause_158 rfl ?_
            refine g_iload_n d_X10_takeClause_159 rfl ?_
            refine g_S1 d_X10_takeClause_160 cs_X10_takeClause_X10_leastOf lk_RX10_157 im_X10_leastOf (Nat.le_of_ble_eq_true rfl) ⟨rfl, rfl⟩ ⟨Nat.zero_le _, Nat.zero_le _⟩ (ct_X10_leastOf r13 I40 J ) (fun r160 S160 Ic52 Jc53 q160_50 => ?_)
            obtain ⟨rfl, rfl, rfl, r56, rfl, hf160_54, hr160_56⟩ := q160_50
            replace hF := fe_b3 hF hf160_54
            refine g_st (st' := [.int r56, .ref 78, .int r13, .ref 82]) rfl ?_
            refine g_iload_n d_X10_takeClause_163 rfl ?_
            refine g_S1 d_X10_takeClause_164 cs_X10_takeClause_X10_mostOf lk_RX10_160 im_X10_mostOf (Nat.le_of_ble_eq_true rfl) ⟨rfl, rfl⟩ ⟨Nat.zero_le _, Nat.zero_le _⟩ (ct_X10_mostOf r13 I40 J ) (fun r164 S164 Ic59 Jc60 q164_57 => ?_)
            obtain ⟨rfl, rfl, rfl, r63, rfl, hf164_61, hr164_63⟩ := q164_57
            replace hF := fe_b3 hF hf164_61
            refine g_st (st' := [.int r63, .int r56, .ref 78, .int r13, .ref 82]) rfl ?_
            refine g_V2 d_X10_takeClause_167 cs_X10_takeClause_X10_takeNumber lk_RX10_153 im_X10_takeNumber se_X10_takeNumber rfl rfl rfl (Nat.le_of_ble_eq_true rfl) ⟨rfl, rfl⟩ ⟨Nat.zero_le _, Nat.zero_le _⟩ (ct_X10_takeNumber r56 r63 I40 J (hK41.2.2.1)) (fun r167 S167 I65 Jc67 q167_65 => ?_)
            obtain ⟨rfl, ⟨rfl, hc167_67⟩, r70, rfl, hf167_68, hr167_70⟩ := q167_65
            replace hF := fe_b3 hF hf167_68
            refine g_st (st' := [.int r70, .int r13, .ref 82]) rfl ?_
            have hK72 : PC I40 I65 := hK41.pf hc167_67
            refine g_iastore (N := 15) d_X10_takeClause_170 rfl kT_15 (by constructor <;> grind) rfl  ?_
            refine g_nmI (fun I73 eI73 => ?_)
            replace hF := fe_lt hF eI73
            have hK74 : PC I40 I73 := (by rw [eI73]; exact pc_read hK72 (fun hh hq => by have h8 := tn_eq (c := 8) (by grind) (by decide) hh; have := hr167_70 hq; grind) (fun hh hq => by have h8 := tn_eq (c := 2) (by grind) (by decide) hh; have := hr167_70 hq; grind))
            exact J_171 I73 hK74 hF
          · skip
            replace hF := fe_pos hF h74
            refine g_aload_n d_X10_takeClause_77 rfl ?_
            refine g_getR d_X10_takeClause_78 fq_RX10_21 rfl rfl ?_
            refine g_bipush (v := 12) d_X10_takeClause_81 kB_12 ?_
            refine g_aload_n d_X10_takeClause_83 rfl ?_
            refine g_iconst (v := 0) d_X10_takeClause_84 kI_0 ?_
            refine g_bipush (v := 24) d_X10_takeClause_85 kB_24 ?_
            refine g_V2 d_X10_takeClause_87 cs_X10_takeClause_X10_takeNumber lk_RX10_153 im_X10_takeNumber se_X10_takeNumber rfl rfl rfl (Nat.le_of_ble_eq_true rfl) ⟨rfl, rfl⟩ ⟨Nat.zero_le _, Nat.zero_le _⟩ (ct_X10_takeNumber (0 : Int32) (24 : Int32) I40 J (hK41.2.2.1)) (fun r87 S87 I75 Jc77 q87_75 => ?_)
            obtain ⟨rfl, ⟨rfl, hc87_77⟩, r80, rfl, hf87_78, hr87_80⟩ := q87_75
            replace hF := fe_b3 hF hf87_78
            refine g_st (st' := [.int r80, .int (12 : Int32), .ref 82]) rfl ?_
            have hK82 : PC I40 I75 := hK41.pf hc87_77
            refine g_iastore (N := 15) d_X10_takeClause_90 rfl kT_15 ⟨by decide, by decide⟩ kN_12  ?_
            refine g_nmI (fun I83 eI83 => ?_)
            replace hF := fe_lt hF eI83
            have hK84 : PC I40 I83 := (by rw [eI83]; exact pc_read hK82 (by intro hh; exact absurd hh (by decide)) (by intro hh; exact absurd hh (by decide)))
            refine g_aload_n d_X10_takeClause_91 rfl ?_
            refine g_getR d_X10_takeClause_92 fq_RX10_21 rfl rfl ?_
            refine g_bipush (v := 13) d_X10_takeClause_95 kB_13 ?_
            refine g_aload_n d_X10_takeClause_97 rfl ?_
            refine g_getI d_X10_takeClause_98 fq_RX10_110 rfl rfl ?_
            obtain ⟨j123_3, hj123_3, hF⟩ := fe_jx hF
            have J_123 : ∀ (w85 : Int32), ∀ (I86 : Iv), (PC I40 I86) → (FE (fn_X10_takeClause I J) (fun _ => j123_3 w85 I86)) → G m_X10_takeClause (rq m_X10_takeClause (fun r S' I' J' => S' = SHF ∧ (J = J' ∧ PC I I') ∧ r = none ∧ fn_X10_takeClause I J = (I', J') ∧ (I' 78 15 = 0 → I 78 12 < I' 78 12))) 0 0 123 [some (.ref 78), some (.int r13)] [.int w85, .int (13 : Int32), .ref 82] SHF I86 J := by
              intro w85 I86 hK87 hF_j123_3
              have hF := fe_eq hF_j123_3 (congrFun (congrFun hj123_3 w85) I86)
              refine g_iastore (N := 15) d_X10_takeClause_123 rfl kT_15 ⟨by decide, by decide⟩ kN_13  ?_
              refine g_nmI (fun I88 eI88 => ?_)
              replace hF := fe_lt hF eI88
              have hK89 : PC I40 I88 := (by rw [eI88]; exact pc_read hK87 (by intro hh; exact absurd hh (by decide)) (by intro hh; exact absurd hh (by decide)))
              refine g_aload_n d_X10_takeClause_124 rfl ?_
              refine g_getR d_X10_takeClause_125 fq_RX10_21 rfl rfl ?_
              refine g_bipush (v := 14) d_X10_takeClause_128 kB_14 ?_
              refine g_aload_n d_X10_takeClause_130 rfl ?_
              refine g_getI d_X10_takeClause_131 fq_RX10_110 rfl rfl ?_
              obtain ⟨j149_4, hj149_4, hF⟩ := fe_jx hF
              have J_149 : ∀ (w90 : Int32), ∀ (I91 : Iv), (PC I40 I91) → (FE (fn_X10_takeClause I J) (fun _ => j149_4 w90 I91)) → G m_X10_takeClause (rq m_X10_takeClause (fun r S' I' J' => S' = SHF ∧ (J = J' ∧ PC I I') ∧ r = none ∧ fn_X10_takeClause I J = (I', J') ∧ (I' 78 15 = 0 → I 78 12 < I' 78 12))) 0 0 149 [some (.ref 78), some (.int r13)] [.int w90, .int (14 : Int32), .ref 82] SHF I91 J := by
                intro w90 I91 hK92 hF_j149_4
                have hF := fe_eq hF_j149_4 (congrFun (congrFun hj149_4 w90) I91)
                refine g_iastore (N := 15) d_X10_takeClause_149 rfl kT_15 ⟨by decide, by decide⟩ kN_14  ?_
                refine g_nmI (fun I93 eI93 => ?_)
                replace hF := fe_lt hF eI93
                have hK94 : PC I40 I93 := (by rw [eI93]; exact pc_read hK92 (by intro hh; exact absurd hh (by decide)) (by intro hh; exact absurd hh (by decide)))
                refine g_goto d_X10_takeClause_150 ?_
                exact J_171 I93 hK94 hF
              refine g_if_ne d_X10_takeClause_134 (fun h134 => ?_) (fun h134 => ?_)
              · skip
                replace hF := fe_neg hF h134
                refine g_iconst (v := 0) d_X10_takeClause_148 kI_0 ?_
                exact J_149 ((0 : Int32)) I88 hK89 hF
              · skip
                replace hF := fe_pos hF h134
                refine g_aload_n d_X10_takeClause_137 rfl ?_
                refine g_iconst (v := 0) d_X10_takeClause_138 kI_0 ?_
                refine g_sipush (v := 200) d_X10_takeClause_139 kS_200 ?_
                refine g_V2 d_X10_takeClause_142 cs_X10_takeClause_X10_takeNumber lk_RX10_153 im_X10_takeNumber se_X10_takeNumber rfl rfl rfl (Nat.le_of_ble_eq_true rfl) ⟨rfl, rfl⟩ ⟨Nat.zero_le _, Nat.zero_le _⟩ (ct_X10_takeNumber (0 : Int32) (200 : Int32) I88 J (hK89.2.2.1)) (fun r142 S142 I95 Jc97 q142_95 => ?_)
                obtain ⟨rfl, ⟨rfl, hc142_97⟩, r100, rfl, hf142_98, hr142_100⟩ := q142_95
                replace hF := fe_b3 hF hf142_98
                refine g_st (st' := [.int r100, .int (14 : Int32), .ref 82]) rfl ?_
                have hK102 : PC I40 I95 := hK89.pf hc142_97
                refine g_goto d_X10_takeClause_145 ?_
                exact J_149 r100 I95 hK102 hF
            refine g_if_ne d_X10_takeClause_101 (fun h101 => ?_) (fun h101 => ?_)
            · skip
              replace hF := fe_neg hF h101
              refine g_iconst (v := 0) d_X10_takeClause_122 kI_0 ?_
              exact J_123 ((0 : Int32)) I83 hK84 hF
            · skip
              replace hF := fe_pos hF h101
              refine g_aload_n d_X10_takeClause_104 rfl ?_
              refine g_aload_n d_X10_takeClause_105 rfl ?_
              refine g_getR d_X10_takeClause_106 fq_RX10_21 rfl rfl ?_
              refine g_bipush (v := 12) d_X10_takeClause_109 kB_12 ?_
              refine g_iaload (N := 15) d_X10_takeClause_111 rfl kT_15 ⟨by decide, by decide⟩ kN_12 ?_
              refine g_iconst (v := 1) d_X10_takeClause_112 kI_1 ?_
              refine g_iadd d_X10_takeClause_113 ?_
              refine g_bipush (v := 24) d_X10_takeClause_114 kB_24 ?_
              refine g_V2 d_X10_takeClause_116 cs_X10_takeClause_X10_takeNumber lk_RX10_153 im_X10_takeNumber se_X10_takeNumber rfl rfl rfl (Nat.le_of_ble_eq_true rfl) ⟨rfl, rfl⟩ ⟨Nat.zero_le _, Nat.zero_le _⟩ (ct_X10_takeNumber ((I83 82 12) + (1 : Int32)) (24 : Int32) I83 J (hK84.2.2.1)) (fun r116 S116 I103 Jc105 q116_103 => ?_)
              obtain ⟨rfl, ⟨rfl, hc116_105⟩, r108, rfl, hf116_106, hr116_108⟩ := q116_103
              replace hF := fe_b3 hF hf116_106
              refine g_st (st' := [.int r108, .int (13 : Int32), .ref 82]) rfl ?_
              have hK110 : PC I40 I103 := hK84.pf hc116_105
              refine g_goto d_X10_takeClause_119 ?_
              exact J_123 r108 I103 hK110 hF
      refine g_if_ne d_X10_takeClause_40 (fun h40 => ?_) (fun h40 => ?_)
      · skip
        replace hF := fe_neg hF h40
        refine g_iconst (v := 0) d_X10_takeClause_47 kI_0 ?_
        exact J_48 ((0 : Int32)) (Or.inl rfl) hF
      · skip
        replace hF := fe_pos hF h40
        refine g_iconst (v := 1) d_X10_takeClause_43 kI_1 ?_
        refine g_goto d_X10_takeClause_44 ?_
        exact J_48 ((1 : Int32)) (Or.inr rfl) hF
  refine g_if_lt d_X10_takeClause_11 (fun h11 => ?_) (fun h11 => ?_)
  · skip
    replace hF := fe_pos hF h11
    refine g_iconst (v := 0) d_X10_takeClause_18 kI_0 ?_
    exact J_19 ((0 : Int32)) (Or.inl rfl) (by grind) hF
  · skip
    replace hF := fe_neg hF h11
    refine g_iconst (v := 1) d_X10_takeClause_14 kI_1 ?_
    refine g_goto d_X10_takeClause_15 ?_
    exact J_19 ((1 : Int32)) (Or.inr rfl) (by grind) hF
noncomputable def fn_X10_beginReading (I : Iv) (J : Jv) : Iv × Jv :=
  l_t (wI I 78 12 (0 : Int32)) (fun (I1 : Iv) => l_t (wI I1 78 15 (0 : Int32)) (fun (I3 : Iv) => l_t (wI I3 78 16 (-1 : Int32)) (fun (I5 : Iv) => (I5, J))))
set_option maxRecDepth 100000 in
set_option maxHeartbeats 4000000 in
theorem ct_X10_beginReading  (I : Iv) (J : Jv)  : Ct m_X10_beginReading [.ref 78] SHF I J (fun r S' I' J' => S' = SHF ∧ (J = J' ∧ (∀ b, b ≠ 78 → I' b = I b) ∧ (∀ k, (k < 12 ∨ 17 < k) → I' 78 k = I 78 k) ∧ I' 78 12 = 0 ∧ I' 78 15 = 0) ∧ r = none ∧ fn_X10_beginReading I J = (I', J')) := by
  refine ct_of 0 (by decide +kernel) rfl rfl ?_
  have hK0 : True := trivial
  have hF := fe_of (fn_X10_beginReading.eq_1 I J)
  refine g_aload_n d_X10_beginReading_0 rfl ?_
  refine g_iconst (v := 0) d_X10_beginReading_1 kI_0 ?_
  refine g_putI d_X10_beginReading_2 fq_RX10_107 rfl rfl ?_
  refine g_nmI (fun I1 eI1 => ?_)
  replace hF := fe_lt hF eI1
  have hK2 : True := trivial
  refine g_aload_n d_X10_beginReading_5 rfl ?_
  refine g_iconst (v := 0) d_X10_beginReading_6 kI_0 ?_
  refine g_putI d_X10_beginReading_7 fq_RX10_110 rfl rfl ?_
  refine g_nmI (fun I3 eI3 => ?_)
  replace hF := fe_lt hF eI3
  have hK4 : True := trivial
  refine g_aload_n d_X10_beginReading_10 rfl ?_
  refine g_iconst (v := -1) d_X10_beginReading_11 kI_m1 ?_
  refine g_putI d_X10_beginReading_12 fq_RX10_39 rfl rfl ?_
  refine g_nmI (fun I5 eI5 => ?_)
  replace hF := fe_lt hF eI5
  have hK6 : True := trivial
  exact g_return d_X10_beginReading_15 rfl rfl rfl ⟨rfl, ⟨rfl, ⟨fun b hb => by simp only [eI1, eI3, eI5]; rw [wI_row hb, wI_row hb, wI_row hb], fun k hk => by simp only [eI1, eI3, eI5]; rw [wI_ne (by omega), wI_ne (by omega), wI_ne (by omega)], by simp only [eI1, eI3, eI5]; simp [wI], by simp only [eI1, eI3, eI5]; simp [wI]⟩⟩, rfl, hF⟩
