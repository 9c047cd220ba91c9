set_option maxRecDepth 100000 in
set_option maxHeartbeats 4000000 in
theorem ct_X10_here  (I : Iv) (J : Jv) (hpa : PA I) : Ct m_X10_here [.ref 78] SHF I J (fun r S' I' J' => S' = SHF ∧ (J = J' ∧ PF I I') ∧ ∃ v : Int32, r = some (.int v) ∧ ((v = -1 ∧ ¬ I' 78 12 < I' 78 11) ∨ I' 78 12 < I' 78 11) ∧ I' 78 15 = I 78 15) := by
  refine ct_of 0 (by decide +kernel) rfl rfl ?_
  have hK0 : PF I I := (pf_rfl hpa)
  have K_0 : ∀ (nu : Nat) (I1 : Iv), mU (I1 78 11) (I1 78 12) = nu → (PF I I1) → (I1 78 15 = I 78 15) → G m_X10_here (rq m_X10_here (fun r S' I' J' => S' = SHF ∧ (J = J' ∧ PF I I') ∧ ∃ v : Int32, r = some (.int v) ∧ ((v = -1 ∧ ¬ I' 78 12 < I' 78 11) ∨ I' 78 12 < I' 78 11) ∧ I' 78 15 = I 78 15)) 0 0 0 [some (.ref 78)] [] SHF I1 J := by
    intro nu
    induction nu using Nat.strongRecOn with
    | ind nu ih_0 =>
      intro I1 hmu_0 hK2 hff_0
      refine g_aload_n d_X10_here_0 rfl ?_
      refine g_getI d_X10_here_1 fq_RX10_107 rfl rfl ?_
      refine g_aload_n d_X10_here_4 rfl ?_
      refine g_getI d_X10_here_5 fq_RX10_101 rfl rfl ?_
      have J_38 : G m_X10_here (rq m_X10_here (fun r S' I' J' => S' = SHF ∧ (J = J' ∧ PF I I') ∧ ∃ v : Int32, r = some (.int v) ∧ ((v = -1 ∧ ¬ I' 78 12 < I' 78 11) ∨ I' 78 12 < I' 78 11) ∧ I' 78 15 = I 78 15)) 0 0 38 [some (.ref 78)] [] SHF I1 J := by
        skip
        refine g_aload_n d_X10_here_38 rfl ?_
        refine g_getI d_X10_here_39 fq_RX10_107 rfl rfl ?_
        refine g_aload_n d_X10_here_42 rfl ?_
        refine g_getI d_X10_here_43 fq_RX10_101 rfl rfl ?_
        refine g_icmp_ge d_X10_here_46 (fun h46 => ?_) (fun h46 => ?_)
        · skip
          refine g_iconst (v := -1) d_X10_here_61 kI_m1 ?_
          exact g_ireturn d_X10_here_62 rfl rfl rfl rfl ⟨rfl, ⟨rfl, hK2⟩, (-1 : Int32), rfl, ⟨by grind, hff_0⟩⟩
        · skip
          refine g_aload_n d_X10_here_49 rfl ?_
          refine g_getR d_X10_here_50 fq_RX10_36 rfl rfl ?_
          refine g_aload_n d_X10_here_53 rfl ?_
          refine g_getI d_X10_here_54 fq_RX10_107 rfl rfl ?_
          refine g_iaload (N := 300) d_X10_here_57 rfl kT_300 (by have hp := (hK2).2.2.1; constructor <;> grind) rfl ?_
          refine g_goto d_X10_here_58 ?_
          exact g_ireturn d_X10_here_62 rfl rfl rfl rfl ⟨rfl, ⟨rfl, hK2⟩, (I1 87 ((I1 78 12)).toNatClampNeg), rfl, ⟨by grind, hff_0⟩⟩
      refine g_icmp_ge d_X10_here_8 (fun h8 => ?_) (fun h8 => ?_)
      · skip
        exact J_38
      · skip
        refine g_aload_n d_X10_here_11 rfl ?_
        refine g_getR d_X10_here_12 fq_RX10_36 rfl rfl ?_
        refine g_aload_n d_X10_here_15 rfl ?_
        refine g_getI d_X10_here_16 fq_RX10_107 rfl rfl ?_
        refine g_iaload (N := 300) d_X10_here_19 rfl kT_300 (by have hp := (hK2).2.2.1; constructor <;> grind) rfl ?_
        refine g_bipush (v := 32) d_X10_here_20 kB_32 ?_
        refine g_icmp_ne d_X10_here_22 (fun h22 => ?_) (fun h22 => ?_)
        · skip
          exact J_38
        · skip
          refine g_aload_n d_X10_here_25 rfl ?_
          refine g_dup d_X10_here_26 rfl ?_
          refine g_getI d_X10_here_27 fq_RX10_107 rfl rfl ?_
          refine g_iconst (v := 1) d_X10_here_30 kI_1 ?_
          refine g_iadd d_X10_here_31 ?_
          refine g_putI d_X10_here_32 fq_RX10_107 rfl rfl ?_
          refine g_nmI (fun I3 eI3 => ?_)
          have hK4 : PF I I3 := (by rw [eI3]; exact pf_at hK2 h8)
          refine g_goto d_X10_here_35 ?_
          exact ih_0 _ (by rw [← hmu_0]; exact (by rw [eI3]; exact pstep h8)) I3 rfl hK4 (by rw [eI3, wI_ne (by omega)]; exact hff_0)
  exact K_0 _ I rfl hK0 (by grind)
set_option maxRecDepth 100000 in
set_option maxHeartbeats 4000000 in
theorem ct_X10_want (good : Int32) (number : Int32) (where_ : Int32) (I : Iv) (J : Jv) (hpa : PA I) (hnum : 1 ≤ number) : Ct m_X10_want [.ref 78, .int good, .int number, .int where_] SHF I J (fun r S' I' J' => S' = SHF ∧ (J = J' ∧ PF I I') ∧ ∃ v : Int32, r = some (.int v) ∧ (v = 0 ∨ v = 1) ∧ ((v = 1 → I' 78 15 = 0 ∧ ¬ good = 0) ∧ (v = 0 → ¬ I' 78 15 = 0)) ∧ (I' 78 12 = I 78 12 ∧ I' 78 13 = I 78 13 ∧ I' 78 14 = I 78 14) ∧ (I' 78 15 = 0 → ¬ good = 0)) := by
  refine ct_of 0 (by decide +kernel) rfl rfl ?_
  have hK0 : PF I I := (pf_rfl hpa)
  refine g_iload_n d_X10_want_0 rfl ?_
  have J_21 : ∀ (I1 : Iv), (PF I I1) → ((I1 78 12 = I 78 12 ∧ I1 78 13 = I 78 13 ∧ I1 78 14 = I 78 14) ∧ (I1 78 15 = 0 → ¬ good = 0)) → G m_X10_want (rq m_X10_want (fun r S' I' J' => S' = SHF ∧ (J = J' ∧ PF I I') ∧ ∃ v : Int32, r = some (.int v) ∧ (v = 0 ∨ v = 1) ∧ ((v = 1 → I' 78 15 = 0 ∧ ¬ good = 0) ∧ (v = 0 → ¬ I' 78 15 = 0)) ∧ (I' 78 12 = I 78 12 ∧ I' 78 13 = I 78 13 ∧ I' 78 14 = I 78 14) ∧ (I' 78 15 = 0 → ¬ good = 0))) 0 0 21 [some (.ref 78), some (.int good), some (.int number), some (.int where_)] [] SHF I1 J := by
    intro I1 hK2 hw_21
    refine g_aload_n d_X10_want_21 rfl ?_
    refine g_getI d_X10_want_22 fq_RX10_110 rfl rfl ?_
    refine g_if_ne d_X10_want_25 (fun h25 => ?_) (fun h25 => ?_)
    · skip
      refine g_iconst (v := 0) d_X10_want_32 kI_0 ?_
      exact g_ireturn d_X10_want_33 rfl rfl rfl rfl ⟨rfl, ⟨rfl, hK2⟩, (0 : Int32), rfl, Or.inl rfl, by grind⟩
    · skip
      refine g_iconst (v := 1) d_X10_want_28 kI_1 ?_
      refine g_goto d_X10_want_29 ?_
      exact g_ireturn d_X10_want_33 rfl rfl rfl rfl ⟨rfl, ⟨rfl, hK2⟩, (1 : Int32), rfl, Or.inr rfl, by grind⟩
  refine g_if_ne d_X10_want_1 (fun h1 => ?_) (fun h1 => ?_)
  · skip
    exact J_21 I hK0 (by first | (refine ⟨⟨rfl, rfl, rfl⟩, ?_⟩; grind) | (simp only []; simp [wI]; grind))
  · skip
    refine g_aload_n d_X10_want_4 rfl ?_
    refine g_getI d_X10_want_5 fq_RX10_110 rfl rfl ?_
    refine g_if_ne d_X10_want_8 (fun h8 => ?_) (fun h8 => ?_)
    · skip
      exact J_21 I hK0 (by first | (refine ⟨⟨rfl, rfl, rfl⟩, ?_⟩; grind) | (simp only []; simp [wI]; grind))
    · skip
      refine g_aload_n d_X10_want_11 rfl ?_
      refine g_iload_n d_X10_want_12 rfl ?_
      refine g_putI d_X10_want_13 fq_RX10_110 rfl rfl ?_
      refine g_nmI (fun I3 eI3 => ?_)
      have hK4 : PF I I3 := (by rw [eI3]; exact pf_15 hK0 h8 hnum)
      refine g_aload_n d_X10_want_16 rfl ?_
      refine g_iload_n d_X10_want_17 rfl ?_
      refine g_putI d_X10_want_18 fq_RX10_39 rfl rfl ?_
      refine g_nmI (fun I5 eI5 => ?_)
      have hK6 : PF I I5 := (by rw [eI5]; exact pf_cell hK4 (by decide))
      exact J_21 I5 hK6 (by first | (refine ⟨⟨rfl, rfl, rfl⟩, ?_⟩; grind) | (simp only [eI3, eI5]; simp [wI]; grind))
set_option maxRecDepth 100000 in
set_option maxHeartbeats 4000000 in
theorem ct_X10_takeWord  (I : Iv) (J : Jv) (hpa : PA I) : Ct m_X10_takeWord [.ref 78] SHF I J (fun r S' I' J' => S' = SHF ∧ (J = J' ∧ PF I I') ∧ r = none ∧ I 78 12 ≤ I' 78 13 ∧ I' 78 13 + I' 78 14 = I' 78 12 ∧ 0 ≤ I' 78 14) := by
  refine ct_of 1 (by decide +kernel) rfl rfl ?_
  have hK0 : PF I I := (pf_rfl hpa)
  refine g_aload_n d_X10_takeWord_0 rfl ?_
  refine g_V0 d_X10_takeWord_1 cs_X10_takeWord_X10_here lk_RX10_113 im_X10_here se_X10_here rfl rfl rfl (Nat.le_of_ble_eq_true rfl) ⟨rfl, rfl⟩ ⟨Nat.zero_le _, Nat.zero_le _⟩ (ct_X10_here  I J hpa) (fun r1 S1 I1 Jc3 q1_1 => ?_)
  obtain ⟨rfl, ⟨rfl, hc1_3⟩, r5, rfl, hr1_5⟩ := q1_1
  refine g_st (st' := [.int r5]) rfl ?_
  have hK7 : PF I I1 := hK0.tr hc1_3
  refine g_istore_n (L' := [some (.ref 78), some (.int r5)]) d_X10_takeWord_4 (by decide) rfl ?_
  refine g_aload_n d_X10_takeWord_5 rfl ?_
  refine g_aload_n d_X10_takeWord_6 rfl ?_
  refine g_getI d_X10_takeWord_7 fq_RX10_107 rfl rfl ?_
  refine g_putI d_X10_takeWord_10 fq_RX10_117 rfl rfl ?_
  refine g_nmI (fun I8 eI8 => ?_)
  have hK9 : PF I I8 := (by rw [eI8]; exact pf_cell hK7 (by decide))
  have hf10 : I 78 12 ≤ I8 78 13 ∧ I8 78 13 ≤ I8 78 12 := by rw [eI8]; simp only [wI]; simp; exact (hK7).2.2.2.1
  have K_13 : ∀ (nu : Nat) (I10 : Iv), mU (I10 78 11) (I10 78 12) = nu → (PF I I10) → (I 78 12 ≤ I10 78 13 ∧ I10 78 13 ≤ I10 78 12) → G m_X10_takeWord (rq m_X10_takeWord (fun r S' I' J' => S' = SHF ∧ (J = J' ∧ PF I I') ∧ r = none ∧ I 78 12 ≤ I' 78 13 ∧ I' 78 13 + I' 78 14 = I' 78 12 ∧ 0 ≤ I' 78 14)) 0 0 13 [some (.ref 78), some (.int r5)] [] SHF I10 J := by
    intro nu
    induction nu using Nat.strongRecOn with
    | ind nu ih_13 =>
      intro I10 hmu_13 hK11 hfi_13
      refine g_aload_n d_X10_takeWord_13 rfl ?_
      refine g_getI d_X10_takeWord_14 fq_RX10_107 rfl rfl ?_
      refine g_aload_n d_X10_takeWord_17 rfl ?_
      refine g_getI d_X10_takeWord_18 fq_RX10_101 rfl rfl ?_
      have J_59 : (I 78 12 ≤ I10 78 13 ∧ I10 78 13 ≤ I10 78 12) → G m_X10_takeWord (rq m_X10_takeWord (fun r S' I' J' => S' = SHF ∧ (J = J' ∧ PF I I') ∧ r = none ∧ I 78 12 ≤ I' 78 13 ∧ I' 78 13 + I' 78 14 = I' 78 12 ∧ 0 ≤ I' 78 14)) 0 0 59 [some (.ref 78), some (.int r5)] [] SHF I10 J := by
        intro hfi_59
        refine g_aload_n d_X10_takeWord_59 rfl ?_
        refine g_aload_n d_X10_takeWord_60 rfl ?_
        refine g_getI d_X10_takeWord_61 fq_RX10_107 rfl rfl ?_
        refine g_aload_n d_X10_takeWord_64 rfl ?_
        refine g_getI d_X10_takeWord_65 fq_RX10_117 rfl rfl ?_
        refine g_isub d_X10_takeWord_68 ?_
        refine g_putI d_X10_takeWord_69 fq_RX10_124 rfl rfl ?_
        refine g_nmI (fun I12 eI12 => ?_)
        have hK13 : PF I I12 := (by rw [eI12]; exact pf_cell hK11 (by decide))
        exact g_return d_X10_takeWord_72 rfl rfl rfl ⟨rfl, ⟨rfl, hK13⟩, rfl, (by have hp := (hK11).2.2.1; rw [eI12]; simp only [wI]; simp; grind)⟩
      refine g_icmp_ge d_X10_takeWord_21 (fun h21 => ?_) (fun h21 => ?_)
      · skip
        exact J_59 (by grind)
      · skip
        refine g_aload_n d_X10_takeWord_24 rfl ?_
        refine g_getR d_X10_takeWord_25 fq_RX10_36 rfl rfl ?_
        refine g_aload_n d_X10_takeWord_28 rfl ?_
        refine g_getI d_X10_takeWord_29 fq_RX10_107 rfl rfl ?_
        refine g_iaload (N := 300) d_X10_takeWord_32 rfl kT_300 (by have hp := (hK11).2.2.1; constructor <;> grind) rfl ?_
        refine g_i2l d_X10_takeWord_33 ?_
        refine g_ldc2 (v := 97) d_X10_takeWord_34 tw_1240 ?_
        refine g_ldc2 (v := 122) d_X10_takeWord_37 tw_1241 ?_
        refine g_S3 d_X10_takeWord_40 cs_X10_takeWord_X10_in lk_RX10_96 im_X10_in (Nat.le_of_ble_eq_true rfl) ⟨rfl, rfl⟩ ⟨Nat.zero_le _, Nat.zero_le _⟩ (ct_X10_inL (I10 87 ((I10 78 12)).toNatClampNeg) (97 : Int64) (122 : Int64) (97 : Int32) (122 : Int32) (by decide) (by decide) I10 J) (fun r40 S40 Ic15 Jc16 q40_13 => ?_)
        obtain ⟨rfl, rfl, rfl, r18, rfl, hz40, hr40_18⟩ := q40_13
        refine g_st (st' := [.int r18]) rfl ?_
        refine g_if_eq d_X10_takeWord_43 (fun h43 => ?_) (fun h43 => ?_)
        · skip
          exact J_59 (by grind)
        · skip
          refine g_aload_n d_X10_takeWord_46 rfl ?_
          refine g_dup d_X10_takeWord_47 rfl ?_
          refine g_getI d_X10_takeWord_48 fq_RX10_107 rfl rfl ?_
          refine g_iconst (v := 1) d_X10_takeWord_51 kI_1 ?_
          refine g_iadd d_X10_takeWord_52 ?_
          refine g_putI d_X10_takeWord_53 fq_RX10_107 rfl rfl ?_
          refine g_nmI (fun I20 eI20 => ?_)
          have hK21 : PF I I20 := (by rw [eI20]; exact pf_at hK11 h21)
          refine g_goto d_X10_takeWord_56 ?_
          exact ih_13 _ (by rw [← hmu_13]; exact (by rw [eI20]; exact pstep h21)) I20 rfl hK21 (by have hp := (hK11).2.2.1; rw [eI20]; simp only [wI]; simp; grind)
  exact K_13 _ I8 rfl hK9 hf10
set_option maxRecDepth 100000 in
set_option maxHeartbeats 4000000 in
theorem ct_X10_isWord (n : Int32) (a : Int32) (b : Int32) (c : Int32) (d : Int32) (e : Int32) (I : Iv) (J : Jv) (hpa : PA I) (hwd : 0 ≤ I 78 13 ∧ I 78 13 + I 78 14 = I 78 12 ∧ 0 ≤ I 78 14) : Ct m_X10_isWord [.ref 78, .int n, .int a, .int b, .int c, .int d, .int e] SHF I J (fun r S' I' J' => S' = SHF ∧ I = I' ∧ J = J' ∧ ∃ v : Int32, r = some (.int v) ∧ (v = 0 ∨ v = 1) ∧ (v = 1 → I 78 14 = n)) := by
  refine ct_of 2 (by decide +kernel) rfl rfl ?_
  refine g_aload_n d_X10_isWord_0 rfl ?_
  refine g_getI d_X10_isWord_1 fq_RX10_124 rfl rfl ?_
  refine g_iload_n d_X10_isWord_4 rfl ?_
  have J_13 : ∀ (w1 : Int32), (w1 = 0 ∨ w1 = 1) → (¬ w1 = 0 → I 78 14 = n) → G m_X10_isWord (rq m_X10_isWord (fun r S' I' J' => S' = SHF ∧ I = I' ∧ J = J' ∧ ∃ v : Int32, r = some (.int v) ∧ (v = 0 ∨ v = 1) ∧ (v = 1 → I 78 14 = n))) 0 0 13 [some (.ref 78), some (.int n), some (.int a), some (.int b), some (.int c), some (.int d), some (.int e), none, none] [.int w1] SHF I J := by
    intro w1 hw1 hs_13
    refine g_istore (L' := [some (.ref 78), some (.int n), some (.int a), some (.int b), some (.int c), some (.int d), some (.int e), some (.int w1), none]) d_X10_isWord_13 (by decide) rfl ?_
    refine g_iconst (v := 0) d_X10_isWord_15 kI_0 ?_
    refine g_istore (L' := [some (.ref 78), some (.int n), some (.int a), some (.int b), some (.int c), some (.int d), some (.int e), some (.int w1), some (.int (0 : Int32))]) d_X10_isWord_16 (by decide) rfl ?_
    have K_18 : ∀ (nu : Nat) (x2 : Int32) (x3 : Int32), mU n x3 = nu → ((0 : Int32) ≤ x3) → (x2 = 0 ∨ x2 = 1) → (¬ x2 = 0 → I 78 14 = n) → G m_X10_isWord (rq m_X10_isWord (fun r S' I' J' => S' = SHF ∧ I = I' ∧ J = J' ∧ ∃ v : Int32, r = some (.int v) ∧ (v = 0 ∨ v = 1) ∧ (v = 1 → I 78 14 = n))) 0 0 18 [some (.ref 78), some (.int n), some (.int a), some (.int b), some (.int c), some (.int d), some (.int e), some (.int x2), some (.int x3)] [] SHF I J := by
      intro nu
      induction nu using Nat.strongRecOn with
      | ind nu ih_18 =>
        intro x2 x3 hmu_18 hl4 hz_18 hs_18
        refine g_iload d_X10_isWord_18 rfl ?_
        refine g_iload_n d_X10_isWord_20 rfl ?_
        refine g_icmp_ge d_X10_isWord_21 (fun h21 => ?_) (fun h21 => ?_)
        · skip
          refine g_iload d_X10_isWord_100 rfl ?_
          exact g_ireturn d_X10_isWord_102 rfl rfl rfl (nar_z (by assumption)) ⟨rfl, rfl, rfl, x2, rfl, by assumption, by grind⟩
        · skip
          refine g_iload d_X10_isWord_24 rfl ?_
          refine g_if_eq d_X10_isWord_26 (fun h26 => ?_) (fun h26 => ?_)
          · skip
            refine g_iload d_X10_isWord_100 rfl ?_
            exact g_ireturn d_X10_isWord_102 rfl rfl rfl (nar_z (by assumption)) ⟨rfl, rfl, rfl, x2, rfl, by assumption, by grind⟩
          · skip
            refine g_aload_n d_X10_isWord_29 rfl ?_
            refine g_getR d_X10_isWord_30 fq_RX10_36 rfl rfl ?_
            refine g_aload_n d_X10_isWord_33 rfl ?_
            refine g_getI d_X10_isWord_34 fq_RX10_117 rfl rfl ?_
            refine g_iload d_X10_isWord_37 rfl ?_
            refine g_iadd d_X10_isWord_39 ?_
            refine g_iaload (N := 300) d_X10_isWord_40 rfl kT_300 (by constructor <;> grind) rfl ?_
            refine g_iload d_X10_isWord_41 rfl ?_
            have J_84 : ∀ (w5 : Int32), G m_X10_isWord (rq m_X10_isWord (fun r S' I' J' => S' = SHF ∧ I = I' ∧ J = J' ∧ ∃ v : Int32, r = some (.int v) ∧ (v = 0 ∨ v = 1) ∧ (v = 1 → I 78 14 = n))) 0 0 84 [some (.ref 78), some (.int n), some (.int a), some (.int b), some (.int c), some (.int d), some (.int e), some (.int x2), some (.int x3)] [.int w5, .int (I 87 (((I 78 13) + x3)).toNatClampNeg)] SHF I J := by
              intro w5
              refine g_icmp_ne d_X10_isWord_84 (fun h84 => ?_) (fun h84 => ?_)
              · skip
                refine g_iconst (v := 0) d_X10_isWord_91 kI_0 ?_
                refine g_istore (L' := [some (.ref 78), some (.int n), some (.int a), some (.int b), some (.int c), some (.int d), some (.int e), some (.int (0 : Int32)), some (.int x3)]) d_X10_isWord_92 (by decide) rfl ?_
                refine g_iinc (v := (x3 + (1 : Int32))) (L' := [some (.ref 78), some (.int n), some (.int a), some (.int b), some (.int c), some (.int d), some (.int e), some (.int (0 : Int32)), some (.int (x3 + (1 : Int32)))]) d_X10_isWord_94 rfl (by rw [kI_1]) (by decide) rfl ?_
                refine g_goto d_X10_isWord_97 ?_
                exact ih_18 _ (by rw [← hmu_18]; exact mu_up h21) (0 : Int32) (x3 + (1 : Int32)) rfl (lo_up hl4 h21) (by grind) (by grind)
              · skip
                refine g_iconst (v := 1) d_X10_isWord_87 kI_1 ?_
                refine g_goto d_X10_isWord_88 ?_
                refine g_istore (L' := [some (.ref 78), some (.int n), some (.int a), some (.int b), some (.int c), some (.int d), some (.int e), some (.int (1 : Int32)), some (.int x3)]) d_X10_isWord_92 (by decide) rfl ?_
                refine g_iinc (v := (x3 + (1 : Int32))) (L' := [some (.ref 78), some (.int n), some (.int a), some (.int b), some (.int c), some (.int d), some (.int e), some (.int (1 : Int32)), some (.int (x3 + (1 : Int32)))]) d_X10_isWord_94 rfl (by rw [kI_1]) (by decide) rfl ?_
                refine g_goto d_X10_isWord_97 ?_
                exact ih_18 _ (by rw [← hmu_18]; exact mu_up h21) (1 : Int32) (x3 + (1 : Int32)) rfl (lo_up hl4 h21) (by grind) (by grind)
            refine g_if_ne d_X10_isWord_43 (fun h43 => ?_) (fun h43 => ?_)
            · skip
              refine g_iload d_X10_isWord_50 rfl ?_
              refine g_iconst (v := 1) d_X10_isWord_52 kI_1 ?_
              refine g_icmp_ne d_X10_isWord_53 (fun h53 => ?_) (fun h53 => ?_)
              · skip
                refine g_iload d_X10_isWord_60 rfl ?_
                refine g_iconst (v := 2) d_X10_isWord_62 kI_2 ?_
                refine g_icmp_ne d_X10_isWord_63 (fun h63 => ?_) (fun h63 => ?_)
                · skip
                  refine g_iload d_X10_isWord_71 rfl ?_
                  refine g_iconst (v := 3) d_X10_isWord_73 kI_3 ?_
                  refine g_icmp_ne d_X10_isWord_74 (fun h74 => ?_) (fun h74 => ?_)
                  · skip
                    refine g_iload d_X10_isWord_82 rfl ?_
                    exact J_84 e
                  · skip
                    refine g_iload d_X10_isWord_77 rfl ?_
                    refine g_goto d_X10_isWord_79 ?_
                    exact J_84 d
                · skip
                  refine g_iload d_X10_isWord_66 rfl ?_
                  refine g_goto d_X10_isWord_68 ?_
                  exact J_84 c
              · skip
                refine g_iload_n d_X10_isWord_56 rfl ?_
                refine g_goto d_X10_isWord_57 ?_
                exact J_84 b
            · skip
              refine g_iload_n d_X10_isWord_46 rfl ?_
              refine g_goto d_X10_isWord_47 ?_
              exact J_84 a
    exact K_18 _ w1 (0 : Int32) rfl (Int32.le_refl _) (by grind) (by grind)
  refine g_icmp_ne d_X10_isWord_5 (fun h5 => ?_) (fun h5 => ?_)
  · skip
    refine g_iconst (v := 0) d_X10_isWord_12 kI_0 ?_
    exact J_13 ((0 : Int32)) (Or.inl rfl) (by grind)
  · skip
    refine g_iconst (v := 1) d_X10_isWord_8 kI_1 ?_
    refine g_goto d_X10_isWord_9 ?_
    exact J_13 ((1 : Int32)) (Or.inr rfl) (by grind)
set_option maxRecDepth 100000 in
set_option maxHeartbeats 4000000 in
theorem ct_X10_kindHere  (I : Iv) (J : Jv) (hpa : PA I) (hwd : 0 ≤ I 78 13 ∧ I 78 13 + I 78 14 = I 78 12 ∧ 0 ≤ I 78 14) : Ct m_X10_kindHere [.ref 78] SHF I J (fun r S' I' J' => S' = SHF ∧ I = I' ∧ J = J' ∧ ∃ v : Int32, r = some (.int v) ∧ (-1 ≤ v ∧ v ≤ 12 ∧ (0 ≤ v → 2 ≤ I 78 14))) := by
  refine ct_of 0 (by decide +kernel) rfl rfl ?_
  refine g_aload_n d_X10_kindHere_0 rfl ?_
  refine g_getI d_X10_kindHere_1 fq_RX10_124 rfl rfl ?_
  refine g_iconst (v := 4) d_X10_kindHere_4 kI_4 ?_
  refine g_icmp_ge d_X10_kindHere_5 (fun h5 => ?_) (fun h5 => ?_)
  · skip
    refine g_aload_n d_X10_kindHere_92 rfl ?_
    refine g_getI d_X10_kindHere_93 fq_RX10_124 rfl rfl ?_
    refine g_iconst (v := 5) d_X10_kindHere_96 kI_5 ?_
    refine g_icmp_ne d_X10_kindHere_97 (fun h97 => ?_) (fun h97 => ?_)
    · skip
      refine g_aload_n d_X10_kindHere_147 rfl ?_
      refine g_iconst (v := 4) d_X10_kindHere_148 kI_4 ?_
      refine g_bipush (v := 119) d_X10_kindHere_149 kB_119 ?_
      refine g_bipush (v := 97) d_X10_kindHere_151 kB_97 ?_
      refine g_bipush (v := 108) d_X10_kindHere_153 kB_108 ?_
      refine g_bipush (v := 108) d_X10_kindHere_155 kB_108 ?_
      refine g_iconst (v := 0) d_X10_kindHere_157 kI_0 ?_
      refine g_V6 d_X10_kindHere_158 cs_X10_kindHere_X10_isWord lk_RX10_136 im_X10_isWord se_X10_isWord rfl rfl rfl (Nat.le_of_ble_eq_true rfl) ⟨rfl, rfl⟩ ⟨Nat.zero_le _, Nat.zero_le _⟩ (ct_X10_isWord (4 : Int32) (119 : Int32) (97 : Int32) (108 : Int32) (108 : Int32) (0 : Int32) I J hpa hwd) (fun r158 S158 Ic2 Jc3 q158_0 => ?_)
      obtain ⟨rfl, rfl, rfl, r5, rfl, hz158, hr158_5⟩ := q158_0
      refine g_st (st' := [.int r5]) rfl ?_
      refine g_if_eq d_X10_kindHere_161 (fun h161 => ?_) (fun h161 => ?_)
      · skip
        refine g_aload_n d_X10_kindHere_168 rfl ?_
        refine g_iconst (v := 4) d_X10_kindHere_169 kI_4 ?_
        refine g_bipush (v := 115) d_X10_kindHere_170 kB_115 ?_
        refine g_bipush (v := 101) d_X10_kindHere_172 kB_101 ?_
        refine g_bipush (v := 97) d_X10_kindHere_174 kB_97 ?_
        refine g_bipush (v := 108) d_X10_kindHere_176 kB_108 ?_
        refine g_iconst (v := 0) d_X10_kindHere_178 kI_0 ?_
        refine g_V6 d_X10_kindHere_179 cs_X10_kindHere_X10_isWord lk_RX10_136 im_X10_isWord se_X10_isWord rfl rfl rfl (Nat.le_of_ble_eq_true rfl) ⟨rfl, rfl⟩ ⟨Nat.zero_le _, Nat.zero_le _⟩ (ct_X10_isWord (4 : Int32) (115 : Int32) (101 : Int32) (97 : Int32) (108 : Int32) (0 : Int32) I J hpa hwd) (fun r179 S179 Ic8 Jc9 q179_6 => ?_)
        obtain ⟨rfl, rfl, rfl, r11, rfl, hz179, hr179_11⟩ := q179_6
        refine g_st (st' := [.int r11]) rfl ?_
        refine g_if_eq d_X10_kindHere_182 (fun h182 => ?_) (fun h182 => ?_)
        · skip
          refine g_aload_n d_X10_kindHere_189 rfl ?_
          refine g_iconst (v := 4) d_X10_kindHere_190 kI_4 ?_
          refine g_bipush (v := 99) d_X10_kindHere_191 kB_99 ?_
          refine g_bipush (v := 111) d_X10_kindHere_193 kB_111 ?_
          refine g_bipush (v := 108) d_X10_kindHere_195 kB_108 ?_
          refine g_bipush (v := 100) d_X10_kindHere_197 kB_100 ?_
          refine g_iconst (v := 0) d_X10_kindHere_199 kI_0 ?_
          refine g_V6 d_X10_kindHere_200 cs_X10_kindHere_X10_isWord lk_RX10_136 im_X10_isWord se_X10_isWord rfl rfl rfl (Nat.le_of_ble_eq_true rfl) ⟨rfl, rfl⟩ ⟨Nat.zero_le _, Nat.zero_le _⟩ (ct_X10_isWord (4 : Int32) (99 : Int32) (111 : Int32) (108 : Int32) (100 : Int32) (0 : Int32) I J hpa hwd) (fun r200 S200 Ic14 Jc15 q200_12 => ?_)
          obtain ⟨rfl, rfl, rfl, r17, rfl, hz200, hr200_17⟩ := q200_12
          refine g_st (st' := [.int r17]) rfl ?_
          refine g_if_eq d_X10_kindHere_203 (fun h203 => ?_) (fun h203 => ?_)
          · skip
            refine g_aload_n d_X10_kindHere_210 rfl ?_
            refine g_iconst (v := 4) d_X10_kindHere_211 kI_4 ?_
            refine g_bipush (v := 102) d_X10_kindHere_212 kB_102 ?_
            refine g_bipush (v := 111) d_X10_kindHere_214 kB_111 ?_
            refine g_bipush (v := 111) d_X10_kindHere_216 kB_111 ?_
            refine g_bipush (v := 100) d_X10_kindHere_218 kB_100 ?_
            refine g_iconst (v := 0) d_X10_kindHere_220 kI_0 ?_
            refine g_V6 d_X10_kindHere_221 cs_X10_kindHere_X10_isWord lk_RX10_136 im_X10_isWord se_X10_isWord rfl rfl rfl (Nat.le_of_ble_eq_true rfl) ⟨rfl, rfl⟩ ⟨Nat.zero_le _, Nat.zero_le _⟩ (ct_X10_isWord (4 : Int32) (102 : Int32) (111 : Int32) (111 : Int32) (100 : Int32) (0 : Int32) I J hpa hwd) (fun r221 S221 Ic20 Jc21 q221_18 => ?_)
            obtain ⟨rfl, rfl, rfl, r23, rfl, hz221, hr221_23⟩ := q221_18
            refine g_st (st' := [.int r23]) rfl ?_
            refine g_if_eq d_X10_kindHere_224 (fun h224 => ?_) (fun h224 => ?_)
            · skip
              refine g_aload_n d_X10_kindHere_231 rfl ?_
              refine g_iconst (v := 4) d_X10_kindHere_232 kI_4 ?_
              refine g_bipush (v := 98) d_X10_kindHere_233 kB_98 ?_
              refine g_bipush (v := 117) d_X10_kindHere_235 kB_117 ?_
              refine g_bipush (v := 108) d_X10_kindHere_237 kB_108 ?_
              refine g_bipush (v := 98) d_X10_kindHere_239 kB_98 ?_
              refine g_iconst (v := 0) d_X10_kindHere_241 kI_0 ?_
              refine g_V6 d_X10_kindHere_242 cs_X10_kindHere_X10_isWord lk_RX10_136 im_X10_isWord se_X10_isWord rfl rfl rfl (Nat.le_of_ble_eq_true rfl) ⟨rfl, rfl⟩ ⟨Nat.zero_le _, Nat.zero_le _⟩ (ct_X10_isWord (4 : Int32) (98 : Int32) (117 : Int32) (108 : Int32) (98 : Int32) (0 : Int32) I J hpa hwd) (fun r242 S242 Ic26 Jc27 q242_24 => ?_)
              obtain ⟨rfl, rfl, rfl, r29, rfl, hz242, hr242_29⟩ := q242_24
              refine g_st (st' := [.int r29]) rfl ?_
              refine g_if_eq d_X10_kindHere_245 (fun h245 => ?_) (fun h245 => ?_)
              · skip
                refine g_aload_n d_X10_kindHere_253 rfl ?_
                refine g_iconst (v := 4) d_X10_kindHere_254 kI_4 ?_
                refine g_bipush (v := 108) d_X10_kindHere_255 kB_108 ?_
                refine g_bipush (v := 97) d_X10_kindHere_257 kB_97 ?_
                refine g_bipush (v := 109) d_X10_kindHere_259 kB_109 ?_
                refine g_bipush (v := 112) d_X10_kindHere_261 kB_112 ?_
                refine g_iconst (v := 0) d_X10_kindHere_263 kI_0 ?_
                refine g_V6 d_X10_kindHere_264 cs_X10_kindHere_X10_isWord lk_RX10_136 im_X10_isWord se_X10_isWord rfl rfl rfl (Nat.le_of_ble_eq_true rfl) ⟨rfl, rfl⟩ ⟨Nat.zero_le _, Nat.zero_le _⟩ (ct_X10_isWord (4 : Int32) (108 : Int32) (97 : Int32) (109 : Int32) (112 : Int32) (0 : Int32) I J hpa hwd) (fun r264 S264 Ic32 Jc33 q264_30 => ?_)
                obtain ⟨rfl, rfl, rfl, r35, rfl, hz264, hr264_35⟩ := q264_30
                refine g_st (st' := [.int r35]) rfl ?_
                refine g_if_eq d_X10_kindHere_267 (fun h267 => ?_) (fun h267 => ?_)
                · skip
                  refine g_aload_n d_X10_kindHere_275 rfl ?_
                  refine g_iconst (v := 4) d_X10_kindHere_276 kI_4 ?_
                  refine g_bipush (v := 114) d_X10_kindHere_277 kB_114 ?_
                  refine g_bipush (v := 111) d_X10_kindHere_279 kB_111 ?_
                  refine g_bipush (v := 111) d_X10_kindHere_281 kB_111 ?_
                  refine g_bipush (v := 109) d_X10_kindHere_283 kB_109 ?_
                  refine g_iconst (v := 0) d_X10_kindHere_285 kI_0 ?_
                  refine g_V6 d_X10_kindHere_286 cs_X10_kindHere_X10_isWord lk_RX10_136 im_X10_isWord se_X10_isWord rfl rfl rfl (Nat.le_of_ble_eq_true rfl) ⟨rfl, rfl⟩ ⟨Nat.zero_le _, Nat.zero_le _⟩ (ct_X10_isWord (4 : Int32) (114 : Int32) (111 : Int32) (111 : Int32) (109 : Int32) (0 : Int32) I J hpa hwd) (fun r286 S286 Ic38 Jc39 q286_36 => ?_)
                  obtain ⟨rfl, rfl, rfl, r41, rfl, hz286, hr286_41⟩ := q286_36
                  refine g_st (st' := [.int r41]) rfl ?_
                  refine g_if_eq d_X10_kindHere_289 (fun h289 => ?_) (fun h289 => ?_)
                  · skip
                    refine g_iconst (v := -1) d_X10_kindHere_297 kI_m1 ?_
                    exact g_ireturn d_X10_kindHere_298 rfl rfl rfl rfl ⟨rfl, rfl, rfl, (-1 : Int32), rfl, by grind⟩
                  · skip
                    refine g_bipush (v := 11) d_X10_kindHere_292 kB_11 ?_
                    refine g_goto d_X10_kindHere_294 ?_
                    exact g_ireturn d_X10_kindHere_298 rfl rfl rfl rfl ⟨rfl, rfl, rfl, (11 : Int32), rfl, by grind⟩
                · skip
                  refine g_bipush (v := 10) d_X10_kindHere_270 kB_10 ?_
                  refine g_goto d_X10_kindHere_272 ?_
                  exact g_ireturn d_X10_kindHere_298 rfl rfl rfl rfl ⟨rfl, rfl, rfl, (10 : Int32), rfl, by grind⟩
              · skip
                refine g_bipush (v := 8) d_X10_kindHere_248 kB_8 ?_
                refine g_goto d_X10_kindHere_250 ?_
                exact g_ireturn d_X10_kindHere_298 rfl rfl rfl rfl ⟨rfl, rfl, rfl, (8 : Int32), rfl, by grind⟩
            · skip
              refine g_iconst (v := 5) d_X10_kindHere_227 kI_5 ?_
              refine g_goto d_X10_kindHere_228 ?_
              exact g_ireturn d_X10_kindHere_298 rfl rfl rfl rfl ⟨rfl, rfl, rfl, (5 : Int32), rfl, by grind⟩
          · skip
            refine g_iconst (v := 4) d_X10_kindHere_206 kI_4 ?_
            refine g_goto d_X10_kindHere_207 ?_
            exact g_ireturn d_X10_kindHere_298 rfl rfl rfl rfl ⟨rfl, rfl, rfl, (4 : Int32), rfl, by grind⟩
        · skip
          refine g_iconst (v := 2) d_X10_kindHere_185 kI_2 ?_
          refine g_goto d_X10_kindHere_186 ?_
          exact g_ireturn d_X10_kindHere_298 rfl rfl rfl rfl ⟨rfl, rfl, rfl, (2 : Int32), rfl, by grind⟩
      · skip
        refine g_iconst (v := 1) d_X10_kindHere_164 kI_1 ?_
        refine g_goto d_X10_kindHere_165 ?_
        exact g_ireturn d_X10_kindHere_298 rfl rfl rfl rfl ⟨rfl, rfl, rfl, (1 : Int32), rfl, by grind⟩
    · skip
      refine g_aload_n d_X10_kindHere_100 rfl ?_
      refine g_iconst (v := 5) d_X10_kindHere_101 kI_5 ?_
      refine g_bipush (v := 112) d_X10_kindHere_102 kB_112 ?_
      refine g_bipush (v := 111) d_X10_kindHere_104 kB_111 ?_
      refine g_bipush (v := 119) d_X10_kindHere_106 kB_119 ?_
      refine g_bipush (v := 101) d_X10_kindHere_108 kB_101 ?_
      refine g_bipush (v := 114) d_X10_kindHere_110 kB_114 ?_
      refine g_V6 d_X10_kindHere_112 cs_X10_kindHere_X10_isWord lk_RX10_136 im_X10_isWord se_X10_isWord rfl rfl rfl (Nat.le_of_ble_eq_true rfl) ⟨rfl, rfl⟩ ⟨Nat.zero_le _, Nat.zero_le _⟩ (ct_X10_isWord (5 : Int32) (112 : Int32) (111 : Int32) (119 : Int32) (101 : Int32) (114 : Int32) I J hpa hwd) (fun r112 S112 Ic44 Jc45 q112_42 => ?_)
      obtain ⟨rfl, rfl, rfl, r47, rfl, hz112, hr112_47⟩ := q112_42
      refine g_st (st' := [.int r47]) rfl ?_
      refine g_if_eq d_X10_kindHere_115 (fun h115 => ?_) (fun h115 => ?_)
      · skip
        refine g_aload_n d_X10_kindHere_122 rfl ?_
        refine g_iconst (v := 5) d_X10_kindHere_123 kI_5 ?_
        refine g_bipush (v := 115) d_X10_kindHere_124 kB_115 ?_
        refine g_bipush (v := 116) d_X10_kindHere_126 kB_116 ?_
        refine g_bipush (v := 111) d_X10_kindHere_128 kB_111 ?_
        refine g_bipush (v := 118) d_X10_kindHere_130 kB_118 ?_
        refine g_bipush (v := 101) d_X10_kindHere_132 kB_101 ?_
        refine g_V6 d_X10_kindHere_134 cs_X10_kindHere_X10_isWord lk_RX10_136 im_X10_isWord se_X10_isWord rfl rfl rfl (Nat.le_of_ble_eq_true rfl) ⟨rfl, rfl⟩ ⟨Nat.zero_le _, Nat.zero_le _⟩ (ct_X10_isWord (5 : Int32) (115 : Int32) (116 : Int32) (111 : Int32) (118 : Int32) (101 : Int32) I J hpa hwd) (fun r134 S134 Ic50 Jc51 q134_48 => ?_)
        obtain ⟨rfl, rfl, rfl, r53, rfl, hz134, hr134_53⟩ := q134_48
        refine g_st (st' := [.int r53]) rfl ?_
        refine g_if_eq d_X10_kindHere_137 (fun h137 => ?_) (fun h137 => ?_)
        · skip
          refine g_iconst (v := -1) d_X10_kindHere_145 kI_m1 ?_
          exact g_ireturn d_X10_kindHere_146 rfl rfl rfl rfl ⟨rfl, rfl, rfl, (-1 : Int32), rfl, by grind⟩
        · skip
          refine g_bipush (v := 12) d_X10_kindHere_140 kB_12 ?_
          refine g_goto d_X10_kindHere_142 ?_
          exact g_ireturn d_X10_kindHere_146 rfl rfl rfl rfl ⟨rfl, rfl, rfl, (12 : Int32), rfl, by grind⟩
      · skip
        refine g_iconst (v := 0) d_X10_kindHere_118 kI_0 ?_
        refine g_goto d_X10_kindHere_119 ?_
        exact g_ireturn d_X10_kindHere_146 rfl rfl rfl rfl ⟨rfl, rfl, rfl, (0 : Int32), rfl, by grind⟩
  · skip
    refine g_aload_n d_X10_kindHere_8 rfl ?_
    refine g_iconst (v := 3) d_X10_kindHere_9 kI_3 ?_
    refine g_bipush (v := 109) d_X10_kindHere_10 kB_109 ?_
    refine g_bipush (v := 105) d_X10_kindHere_12 kB_105 ?_
    refine g_bipush (v := 120) d_X10_kindHere_14 kB_120 ?_
    refine g_iconst (v := 0) d_X10_kindHere_16 kI_0 ?_
    refine g_iconst (v := 0) d_X10_kindHere_17 kI_0 ?_
    refine g_V6 d_X10_kindHere_18 cs_X10_kindHere_X10_isWord lk_RX10_136 im_X10_isWord se_X10_isWord rfl rfl rfl (Nat.le_of_ble_eq_true rfl) ⟨rfl, rfl⟩ ⟨Nat.zero_le _, Nat.zero_le _⟩ (ct_X10_isWord (3 : Int32) (109 : Int32) (105 : Int32) (120 : Int32) (0 : Int32) (0 : Int32) I J hpa hwd) (fun r18 S18 Ic56 Jc57 q18_54 => ?_)
    obtain ⟨rfl, rfl, rfl, r59, rfl, hz18, hr18_59⟩ := q18_54
    refine g_st (st' := [.int r59]) rfl ?_
    refine g_if_eq d_X10_kindHere_21 (fun h21 => ?_) (fun h21 => ?_)
    · skip
      refine g_aload_n d_X10_kindHere_28 rfl ?_
      refine g_iconst (v := 2) d_X10_kindHere_29 kI_2 ?_
      refine g_bipush (v := 111) d_X10_kindHere_30 kB_111 ?_
      refine g_bipush (v := 110) d_X10_kindHere_32 kB_110 ?_
      refine g_iconst (v := 0) d_X10_kindHere_34 kI_0 ?_
      refine g_iconst (v := 0) d_X10_kindHere_35 kI_0 ?_
      refine g_iconst (v := 0) d_X10_kindHere_36 kI_0 ?_
      refine g_V6 d_X10_kindHere_37 cs_X10_kindHere_X10_isWord lk_RX10_136 im_X10_isWord se_X10_isWord rfl rfl rfl (Nat.le_of_ble_eq_true rfl) ⟨rfl, rfl⟩ ⟨Nat.zero_le _, Nat.zero_le _⟩ (ct_X10_isWord (2 : Int32) (111 : Int32) (110 : Int32) (0 : Int32) (0 : Int32) (0 : Int32) I J hpa hwd) (fun r37 S37 Ic62 Jc63 q37_60 => ?_)
      obtain ⟨rfl, rfl, rfl, r65, rfl, hz37, hr37_65⟩ := q37_60
      refine g_st (st' := [.int r65]) rfl ?_
      refine g_if_eq d_X10_kindHere_40 (fun h40 => ?_) (fun h40 => ?_)
      · skip
        refine g_aload_n d_X10_kindHere_48 rfl ?_
        refine g_iconst (v := 3) d_X10_kindHere_49 kI_3 ?_
        refine g_bipush (v := 111) d_X10_kindHere_50 kB_111 ?_
        refine g_bipush (v := 102) d_X10_kindHere_52 kB_102 ?_
        refine g_bipush (v := 102) d_X10_kindHere_54 kB_102 ?_
        refine g_iconst (v := 0) d_X10_kindHere_56 kI_0 ?_
        refine g_iconst (v := 0) d_X10_kindHere_57 kI_0 ?_
        refine g_V6 d_X10_kindHere_58 cs_X10_kindHere_X10_isWord lk_RX10_136 im_X10_isWord se_X10_isWord rfl rfl rfl (Nat.le_of_ble_eq_true rfl) ⟨rfl, rfl⟩ ⟨Nat.zero_le _, Nat.zero_le _⟩ (ct_X10_isWord (3 : Int32) (111 : Int32) (102 : Int32) (102 : Int32) (0 : Int32) (0 : Int32) I J hpa hwd) (fun r58 S58 Ic68 Jc69 q58_66 => ?_)
        obtain ⟨rfl, rfl, rfl, r71, rfl, hz58, hr58_71⟩ := q58_66
        refine g_st (st' := [.int r71]) rfl ?_
        refine g_if_eq d_X10_kindHere_61 (fun h61 => ?_) (fun h61 => ?_)
        · skip
          refine g_aload_n d_X10_kindHere_69 rfl ?_
          refine g_iconst (v := 3) d_X10_kindHere_70 kI_3 ?_
          refine g_bipush (v := 117) d_X10_kindHere_71 kB_117 ?_
          refine g_bipush (v := 115) d_X10_kindHere_73 kB_115 ?_
          refine g_bipush (v := 101) d_X10_kindHere_75 kB_101 ?_
          refine g_iconst (v := 0) d_X10_kindHere_77 kI_0 ?_
          refine g_iconst (v := 0) d_X10_kindHere_78 kI_0 ?_
          refine g_V6 d_X10_kindHere_79 cs_X10_kindHere_X10_isWord lk_RX10_136 im_X10_isWord se_X10_isWord rfl rfl rfl (Nat.le_of_ble_eq_true rfl) ⟨rfl, rfl⟩ ⟨Nat.zero_le _, Nat.zero_le _⟩ (ct_X10_isWord (3 : Int32) (117 : Int32) (115 : Int32) (101 : Int32) (0 : Int32) (0 : Int32) I J hpa hwd) (fun r79 S79 Ic74 Jc75 q79_72 => ?_)
          obtain ⟨rfl, rfl, rfl, r77, rfl, hz79, hr79_77⟩ := q79_72
          refine g_st (st' := [.int r77]) rfl ?_
          refine g_if_eq d_X10_kindHere_82 (fun h82 => ?_) (fun h82 => ?_)
          · skip
            refine g_iconst (v := -1) d_X10_kindHere_90 kI_m1 ?_
            exact g_ireturn d_X10_kindHere_91 rfl rfl rfl rfl ⟨rfl, rfl, rfl, (-1 : Int32), rfl, by grind⟩
          · skip
            refine g_bipush (v := 9) d_X10_kindHere_85 kB_9 ?_
            refine g_goto d_X10_kindHere_87 ?_
            exact g_ireturn d_X10_kindHere_91 rfl rfl rfl rfl ⟨rfl, rfl, rfl, (9 : Int32), rfl, by grind⟩
        · skip
          refine g_bipush (v := 7) d_X10_kindHere_64 kB_7 ?_
          refine g_goto d_X10_kindHere_66 ?_
          exact g_ireturn d_X10_kindHere_91 rfl rfl rfl rfl ⟨rfl, rfl, rfl, (7 : Int32), rfl, by grind⟩
      · skip
        refine g_bipush (v := 6) d_X10_kindHere_43 kB_6 ?_
        refine g_goto d_X10_kindHere_45 ?_
        exact g_ireturn d_X10_kindHere_91 rfl rfl rfl rfl ⟨rfl, rfl, rfl, (6 : Int32), rfl, by grind⟩
    · skip
      refine g_iconst (v := 3) d_X10_kindHere_24 kI_3 ?_
      refine g_goto d_X10_kindHere_25 ?_
      exact g_ireturn d_X10_kindHere_91 rfl rfl rfl rfl ⟨rfl, rfl, rfl, (3 : Int32), rfl, by grind⟩
set_option maxRecDepth 100000 in
set_option maxHeartbeats 4000000 in
theorem ct_X10_takeNumber (low : Int32) (high : Int32) (I : Iv) (J : Jv) (hpa : PA I) : Ct m_X10_takeNumber [.ref 78, .int low, .int high] SHF I J (fun r S' I' J' => S' = SHF ∧ (J = J' ∧ PF I I') ∧ ∃ v : Int32, r = some (.int v) ∧ (I' 78 15 = 0 → low ≤ v ∧ v ≤ high)) := by
  refine ct_of 3 (by decide +kernel) rfl rfl ?_
  have hK0 : PF I I := (pf_rfl hpa)
  refine g_aload_n d_X10_takeNumber_0 rfl ?_
  refine g_V0 d_X10_takeNumber_1 cs_X10_takeNumber_X10_here lk_RX10_113 im_X10_here se_X10_here rfl rfl rfl (Nat.le_of_ble_eq_true rfl) ⟨rfl, rfl⟩ ⟨Nat.zero_le _, Nat.zero_le _⟩ (ct_X10_here  I J hpa) (fun r1 S1 I1 Jc3 q1_1 => ?_)
  obtain ⟨rfl, ⟨rfl, hc1_3⟩, r5, rfl, hr1_5⟩ := q1_1
  refine g_st (st' := [.int r5]) rfl ?_
  have hK7 : PF I I1 := hK0.tr hc1_3
  refine g_istore_n (L' := [some (.ref 78), some (.int low), some (.int high), some (.int r5), none, none]) d_X10_takeNumber_4 (by decide) rfl ?_
  refine g_aload_n d_X10_takeNumber_5 rfl ?_
  refine g_aload_n d_X10_takeNumber_6 rfl ?_
  refine g_getI d_X10_takeNumber_7 fq_RX10_107 rfl rfl ?_
  refine g_putI d_X10_takeNumber_10 fq_RX10_117 rfl rfl ?_
  refine g_nmI (fun I8 eI8 => ?_)
  have hK9 : PF I I8 := (by rw [eI8]; exact pf_cell hK7 (by decide))
  refine g_aload_n d_X10_takeNumber_13 rfl ?_
  refine g_iload_n d_X10_takeNumber_14 rfl ?_
  refine g_i2l d_X10_takeNumber_15 ?_
  refine g_ldc2 (v := 48) d_X10_takeNumber_16 tw_1258 ?_
  refine g_ldc2 (v := 57) d_X10_takeNumber_19 tw_1259 ?_
  refine g_S3 d_X10_takeNumber_22 cs_X10_takeNumber_X10_in lk_RX10_96 im_X10_in (Nat.le_of_ble_eq_true rfl) ⟨rfl, rfl⟩ ⟨Nat.zero_le _, Nat.zero_le _⟩ (ct_X10_inL r5 (48 : Int64) (57 : Int64) (48 : Int32) (57 : Int32) (by decide) (by decide) I8 J) (fun r22 S22 Ic11 Jc12 q22_9 => ?_)
  obtain ⟨rfl, rfl, rfl, r14, rfl, hz22, hr22_14⟩ := q22_9
  refine g_st (st' := [.int r14, .ref 78]) rfl ?_
  refine g_iconst (v := 1) d_X10_takeNumber_25 kI_1 ?_
  refine g_aload_n d_X10_takeNumber_26 rfl ?_
  refine g_getI d_X10_takeNumber_27 fq_RX10_107 rfl rfl ?_
  refine g_V3 d_X10_takeNumber_30 cs_X10_takeNumber_X10_want lk_RX10_131 im_X10_want se_X10_want rfl rfl rfl (Nat.le_of_ble_eq_true rfl) ⟨rfl, rfl⟩ ⟨Nat.zero_le _, Nat.zero_le _⟩ (ct_X10_want r14 (1 : Int32) (I8 78 12) I8 J (hK9.2.2.1) (by grind)) (fun r30 S30 I16 Jc18 q30_16 => ?_)
  obtain ⟨rfl, ⟨rfl, hc30_18⟩, r20, rfl, hz30, hr30_20⟩ := q30_16
  refine g_st (st' := [.int r20]) rfl ?_
  have hK22 : PF I I16 := hK9.tr hc30_18
  refine g_if_ne d_X10_takeNumber_33 (fun h33 => ?_) (fun h33 => ?_)
  · skip
    refine g_iconst (v := 0) d_X10_takeNumber_38 kI_0 ?_
    refine g_istore (L' := [some (.ref 78), some (.int low), some (.int high), some (.int r5), some (.int (0 : Int32)), none]) d_X10_takeNumber_39 (by decide) rfl ?_
    have K_41 : ∀ (nu : Nat) (x23 : Int32) (I24 : Iv), mU (I24 78 11) (I24 78 12) = nu → (PF I I24) → G m_X10_takeNumber (rq m_X10_takeNumber (fun r S' I' J' => S' = SHF ∧ (J = J' ∧ PF I I') ∧ ∃ v : Int32, r = some (.int v) ∧ (I' 78 15 = 0 → low ≤ v ∧ v ≤ high))) 0 0 41 [some (.ref 78), some (.int low), some (.int high), some (.int r5), some (.int x23), none] [] SHF I24 J := by
      intro nu
      induction nu using Nat.strongRecOn with
      | ind nu ih_41 =>
        intro x23 I24 hmu_41 hK25
        refine g_aload_n d_X10_takeNumber_41 rfl ?_
        refine g_getI d_X10_takeNumber_42 fq_RX10_107 rfl rfl ?_
        refine g_aload_n d_X10_takeNumber_45 rfl ?_
        refine g_getI d_X10_takeNumber_46 fq_RX10_101 rfl rfl ?_
        have J_119 : G m_X10_takeNumber (rq m_X10_takeNumber (fun r S' I' J' => S' = SHF ∧ (J = J' ∧ PF I I') ∧ ∃ v : Int32, r = some (.int v) ∧ (I' 78 15 = 0 → low ≤ v ∧ v ≤ high))) 0 0 119 [some (.ref 78), some (.int low), some (.int high), some (.int r5), some (.int x23), none] [] SHF I24 J := by
          skip
          refine g_aload_n d_X10_takeNumber_119 rfl ?_
          refine g_aload_n d_X10_takeNumber_120 rfl ?_
          refine g_getI d_X10_takeNumber_121 fq_RX10_107 rfl rfl ?_
          refine g_aload_n d_X10_takeNumber_124 rfl ?_
          refine g_getI d_X10_takeNumber_125 fq_RX10_117 rfl rfl ?_
          refine g_isub d_X10_takeNumber_128 ?_
          refine g_iconst (v := 4) d_X10_takeNumber_129 kI_4 ?_
          have J_151 : ∀ (w26 : Int32), (w26 = 0 ∨ w26 = 1) → (¬ w26 = 0 → low ≤ x23 ∧ x23 ≤ high) → G m_X10_takeNumber (rq m_X10_takeNumber (fun r S' I' J' => S' = SHF ∧ (J = J' ∧ PF I I') ∧ ∃ v : Int32, r = some (.int v) ∧ (I' 78 15 = 0 → low ≤ v ∧ v ≤ high))) 0 0 151 [some (.ref 78), some (.int low), some (.int high), some (.int r5), some (.int x23), none] [.int w26, .ref 78] SHF I24 J := by
            intro w26 hw26 hg_151
            refine g_iconst (v := 2) d_X10_takeNumber_151 kI_2 ?_
            refine g_aload_n d_X10_takeNumber_152 rfl ?_
            refine g_getI d_X10_takeNumber_153 fq_RX10_117 rfl rfl ?_
            refine g_V3 d_X10_takeNumber_156 cs_X10_takeNumber_X10_want lk_RX10_131 im_X10_want se_X10_want rfl rfl rfl (Nat.le_of_ble_eq_true rfl) ⟨rfl, rfl⟩ ⟨Nat.zero_le _, Nat.zero_le _⟩ (ct_X10_want w26 (2 : Int32) (I24 78 13) I24 J (hK25.2.2.1) (by grind)) (fun r156 S156 I27 Jc29 q156_27 => ?_)
            obtain ⟨rfl, ⟨rfl, hc156_29⟩, r31, rfl, hz156, hr156_31⟩ := q156_27
            refine g_st (st' := [.int r31]) rfl ?_
            have hK33 : PF I I27 := hK25.tr hc156_29
            refine g_istore (L' := [some (.ref 78), some (.int low), some (.int high), some (.int r5), some (.int x23), some (.int r31)]) d_X10_takeNumber_159 (by decide) rfl ?_
            refine g_iload d_X10_takeNumber_161 rfl ?_
            exact g_ireturn d_X10_takeNumber_163 rfl rfl rfl rfl ⟨rfl, ⟨rfl, hK33⟩, x23, rfl, (by grind)⟩
          have J_150 : G m_X10_takeNumber (rq m_X10_takeNumber (fun r S' I' J' => S' = SHF ∧ (J = J' ∧ PF I I') ∧ ∃ v : Int32, r = some (.int v) ∧ (I' 78 15 = 0 → low ≤ v ∧ v ≤ high))) 0 0 150 [some (.ref 78), some (.int low), some (.int high), some (.int r5), some (.int x23), none] [.ref 78] SHF I24 J := by
            skip
            refine g_iconst (v := 0) d_X10_takeNumber_150 kI_0 ?_
            exact J_151 ((0 : Int32)) (Or.inl rfl) (by grind)
          refine g_icmp_ge d_X10_takeNumber_130 (fun h130 => ?_) (fun h130 => ?_)
          · skip
            exact J_150
          · skip
            refine g_iload d_X10_takeNumber_133 rfl ?_
            refine g_i2l d_X10_takeNumber_135 ?_
            refine g_iload_n d_X10_takeNumber_136 rfl ?_
            refine g_i2l d_X10_takeNumber_137 ?_
            refine g_iload_n d_X10_takeNumber_138 rfl ?_
            refine g_i2l d_X10_takeNumber_139 ?_
            refine g_S3 d_X10_takeNumber_140 cs_X10_takeNumber_X10_in lk_RX10_96 im_X10_in (Nat.le_of_ble_eq_true rfl) ⟨rfl, rfl⟩ ⟨Nat.zero_le _, Nat.zero_le _⟩ (ct_X10_inL x23 (Int32.toInt64 low) (Int32.toInt64 high) low high rfl rfl I24 J) (fun r140 S140 Ic35 Jc36 q140_33 => ?_)
            obtain ⟨rfl, rfl, rfl, r38, rfl, hz140, hr140_38⟩ := q140_33
            refine g_st (st' := [.int r38, .ref 78]) rfl ?_
            refine g_if_eq d_X10_takeNumber_143 (fun h143 => ?_) (fun h143 => ?_)
            · skip
              exact J_150
            · skip
              refine g_iconst (v := 1) d_X10_takeNumber_146 kI_1 ?_
              refine g_goto d_X10_takeNumber_147 ?_
              exact J_151 ((1 : Int32)) (Or.inr rfl) (by grind)
        refine g_icmp_ge d_X10_takeNumber_49 (fun h49 => ?_) (fun h49 => ?_)
        · skip
          exact J_119
        · skip
          refine g_aload_n d_X10_takeNumber_52 rfl ?_
          refine g_getR d_X10_takeNumber_53 fq_RX10_36 rfl rfl ?_
          refine g_aload_n d_X10_takeNumber_56 rfl ?_
          refine g_getI d_X10_takeNumber_57 fq_RX10_107 rfl rfl ?_
          refine g_iaload (N := 300) d_X10_takeNumber_60 rfl kT_300 (by have hp := (hK25).2.2.1; constructor <;> grind) rfl ?_
          refine g_i2l d_X10_takeNumber_61 ?_
          refine g_ldc2 (v := 48) d_X10_takeNumber_62 tw_1258 ?_
          refine g_ldc2 (v := 57) d_X10_takeNumber_65 tw_1259 ?_
          refine g_S3 d_X10_takeNumber_68 cs_X10_takeNumber_X10_in lk_RX10_96 im_X10_in (Nat.le_of_ble_eq_true rfl) ⟨rfl, rfl⟩ ⟨Nat.zero_le _, Nat.zero_le _⟩ (ct_X10_inL (I24 87 ((I24 78 12)).toNatClampNeg) (48 : Int64) (57 : Int64) (48 : Int32) (57 : Int32) (by decide) (by decide) I24 J) (fun r68 S68 Ic41 Jc42 q68_39 => ?_)
          obtain ⟨rfl, rfl, rfl, r44, rfl, hz68, hr68_44⟩ := q68_39
          refine g_st (st' := [.int r44]) rfl ?_
          refine g_if_eq d_X10_takeNumber_71 (fun h71 => ?_) (fun h71 => ?_)
          · skip
            exact J_119
          · skip
            refine g_iload d_X10_takeNumber_74 rfl ?_
            refine g_ldc (v := 99999) d_X10_takeNumber_76 tw_1260 ?_
            have J_104 : ∀ (w46 : Int32), G m_X10_takeNumber (rq m_X10_takeNumber (fun r S' I' J' => S' = SHF ∧ (J = J' ∧ PF I I') ∧ ∃ v : Int32, r = some (.int v) ∧ (I' 78 15 = 0 → low ≤ v ∧ v ≤ high))) 0 0 104 [some (.ref 78), some (.int low), some (.int high), some (.int r5), some (.int x23), none] [.int w46] SHF I24 J := by
              intro w46
              refine g_istore (L' := [some (.ref 78), some (.int low), some (.int high), some (.int r5), some (.int w46), none]) d_X10_takeNumber_104 (by decide) rfl ?_
              refine g_aload_n d_X10_takeNumber_106 rfl ?_
              refine g_dup d_X10_takeNumber_107 rfl ?_
              refine g_getI d_X10_takeNumber_108 fq_RX10_107 rfl rfl ?_
              refine g_iconst (v := 1) d_X10_takeNumber_111 kI_1 ?_
              refine g_iadd d_X10_takeNumber_112 ?_
              refine g_putI d_X10_takeNumber_113 fq_RX10_107 rfl rfl ?_
              refine g_nmI (fun I47 eI47 => ?_)
              have hK48 : PF I I47 := (by rw [eI47]; exact pf_at hK25 h49)
              refine g_goto d_X10_takeNumber_116 ?_
              exact ih_41 _ (by rw [← hmu_41]; exact (by rw [eI47]; exact pstep h49)) w46 I47 rfl hK48
            refine g_icmp_le d_X10_takeNumber_78 (fun h78 => ?_) (fun h78 => ?_)
            · skip
              refine g_bipush (v := 10) d_X10_takeNumber_86 kB_10 ?_
              refine g_iload d_X10_takeNumber_88 rfl ?_
              refine g_imul d_X10_takeNumber_90 ?_
              refine g_aload_n d_X10_takeNumber_91 rfl ?_
              refine g_getR d_X10_takeNumber_92 fq_RX10_36 rfl rfl ?_
              refine g_aload_n d_X10_takeNumber_95 rfl ?_
              refine g_getI d_X10_takeNumber_96 fq_RX10_107 rfl rfl ?_
              refine g_iaload (N := 300) d_X10_takeNumber_99 rfl kT_300 (by have hp := (hK25).2.2.1; constructor <;> grind) rfl ?_
              refine g_iadd d_X10_takeNumber_100 ?_
              refine g_bipush (v := 48) d_X10_takeNumber_101 kB_48 ?_
              refine g_isub d_X10_takeNumber_103 ?_
              exact J_104 (((((10 : Int32) * x23) + (I24 87 ((I24 78 12)).toNatClampNeg)) - (48 : Int32)))
            · skip
              refine g_iload d_X10_takeNumber_81 rfl ?_
              refine g_goto d_X10_takeNumber_83 ?_
              exact J_104 x23
    exact K_41 _ (0 : Int32) I16 rfl hK22
  · skip
    refine g_iconst (v := 0) d_X10_takeNumber_36 kI_0 ?_
    exact g_ireturn d_X10_takeNumber_37 rfl rfl rfl rfl ⟨rfl, ⟨rfl, hK22⟩, (0 : Int32), rfl, (by grind)⟩
set_option maxRecDepth 100000 in
set_option maxHeartbeats 4000000 in
theorem ct_X10_takeEnd  (I : Iv) (J : Jv) (hpa : PA I) : Ct m_X10_takeEnd [.ref 78] SHF I J (fun r S' I' J' => S' = SHF ∧ (J = J' ∧ PF I I') ∧ r = none) := by
  refine ct_of 0 (by decide +kernel) rfl rfl ?_
  have hK0 : PF I I := (pf_rfl hpa)
  refine g_aload_n d_X10_takeEnd_0 rfl ?_
  refine g_getI d_X10_takeEnd_1 fq_RX10_110 rfl rfl ?_
  refine g_if_ne d_X10_takeEnd_4 (fun h4 => ?_) (fun h4 => ?_)
  · skip
    exact g_return d_X10_takeEnd_43 rfl rfl rfl ⟨rfl, ⟨rfl, hK0⟩, rfl⟩
  · skip
    refine g_aload_n d_X10_takeEnd_7 rfl ?_
    refine g_aload_n d_X10_takeEnd_8 rfl ?_
    refine g_V0 d_X10_takeEnd_9 cs_X10_takeEnd_X10_here lk_RX10_113 im_X10_here se_X10_here rfl rfl rfl (Nat.le_of_ble_eq_true rfl) ⟨rfl, rfl⟩ ⟨Nat.zero_le _, Nat.zero_le _⟩ (ct_X10_here  I J hpa) (fun r9 S9 I1 Jc3 q9_1 => ?_)
    obtain ⟨rfl, ⟨rfl, hc9_3⟩, r5, rfl, hr9_5⟩ := q9_1
    refine g_st (st' := [.int r5, .ref 78]) rfl ?_
    have hK7 : PF I I1 := hK0.tr hc9_3
    refine g_bipush (v := 59) d_X10_takeEnd_12 kB_59 ?_
    have J_22 : ∀ (w8 : Int32), (w8 = 0 ∨ w8 = 1) → (¬ w8 = 0 → I1 78 12 < I1 78 11) → G m_X10_takeEnd (rq m_X10_takeEnd (fun r S' I' J' => S' = SHF ∧ (J = J' ∧ PF I I') ∧ r = none)) 0 0 22 [some (.ref 78)] [.int w8, .ref 78] SHF I1 J := by
      intro w8 hw8 hj_22
      refine g_iconst (v := 1) d_X10_takeEnd_22 kI_1 ?_
      refine g_aload_n d_X10_takeEnd_23 rfl ?_
      refine g_getI d_X10_takeEnd_24 fq_RX10_107 rfl rfl ?_
      refine g_V3 d_X10_takeEnd_27 cs_X10_takeEnd_X10_want lk_RX10_131 im_X10_want se_X10_want rfl rfl rfl (Nat.le_of_ble_eq_true rfl) ⟨rfl, rfl⟩ ⟨Nat.zero_le _, Nat.zero_le _⟩ (ct_X10_want w8 (1 : Int32) (I1 78 12) I1 J (hK7.2.2.1) (by grind)) (fun r27 S27 I9 Jc11 q27_9 => ?_)
      obtain ⟨rfl, ⟨rfl, hc27_11⟩, r13, rfl, hz27, hr27_13⟩ := q27_9
      refine g_st (st' := [.int r13]) rfl ?_
      have hK15 : PF I I9 := hK7.tr hc27_11
      have hz2 := (hc27_11).size
      refine g_if_eq d_X10_takeEnd_30 (fun h30 => ?_) (fun h30 => ?_)
      · skip
        exact g_return d_X10_takeEnd_43 rfl rfl rfl ⟨rfl, ⟨rfl, hK15⟩, rfl⟩
      · skip
        refine g_aload_n d_X10_takeEnd_33 rfl ?_
        refine g_dup d_X10_takeEnd_34 rfl ?_
        refine g_getI d_X10_takeEnd_35 fq_RX10_107 rfl rfl ?_
        refine g_iconst (v := 1) d_X10_takeEnd_38 kI_1 ?_
        refine g_iadd d_X10_takeEnd_39 ?_
        refine g_putI d_X10_takeEnd_40 fq_RX10_107 rfl rfl ?_
        refine g_nmI (fun I16 eI16 => ?_)
        have hK17 : PF I I16 := (by rw [eI16]; exact pf_at hK15 (by grind))
        exact g_return d_X10_takeEnd_43 rfl rfl rfl ⟨rfl, ⟨rfl, hK17⟩, rfl⟩
    refine g_icmp_ne d_X10_takeEnd_14 (fun h14 => ?_) (fun h14 => ?_)
    · skip
      refine g_iconst (v := 0) d_X10_takeEnd_21 kI_0 ?_
      exact J_22 ((0 : Int32)) (Or.inl rfl) (by grind)
    · skip
      refine g_iconst (v := 1) d_X10_takeEnd_17 kI_1 ?_
      refine g_goto d_X10_takeEnd_18 ?_
      exact J_22 ((1 : Int32)) (Or.inr rfl) (by grind)
set_option maxRecDepth 100000 in
set_option maxHeartbeats 4000000 in
theorem ct_X10_takeClause  (I : Iv) (J : Jv) (hpa : PA I) (hrk : RK I) : Ct m_X10_takeClause [.ref 78] SHF I J (fun r S' I' J' => S' = SHF ∧ (J = J' ∧ PC I I') ∧ r = none ∧ (I' 78 15 = 0 → I 78 12 < I' 78 12)) := by
  refine ct_of 1 (by decide +kernel) rfl rfl ?_
  have hK0 : PC I I := (pc_rfl hpa hrk)
  refine g_aload_n d_X10_takeClause_0 rfl ?_
  refine g_V0 d_X10_takeClause_1 cs_X10_takeClause_X10_takeWord lk_RX10_140 im_X10_takeWord se_X10_takeWord rfl rfl rfl (Nat.le_of_ble_eq_true rfl) ⟨rfl, rfl⟩ ⟨Nat.zero_le _, Nat.zero_le _⟩ (ct_X10_takeWord  I J hpa) (fun r1 S1 I1 Jc3 q1_1 => ?_)
  obtain ⟨rfl, ⟨rfl, hc1_3⟩, rfl, hr1_4⟩ := q1_1
  refine g_st (st' := []) rfl ?_
  have hK6 : PC I I1 := hK0.pf hc1_3
  have hpa1 := (hc1_3).2.2.1
  refine g_aload_n d_X10_takeClause_4 rfl ?_
  refine g_V0 d_X10_takeClause_5 cs_X10_takeClause_X10_kindHere lk_RX10_143 im_X10_kindHere se_X10_kindHere rfl rfl rfl (Nat.le_of_ble_eq_true rfl) ⟨rfl, rfl⟩ ⟨Nat.zero_le _, Nat.zero_le _⟩ (ct_X10_kindHere  I1 J (hK6.2.2.1) (by have hp := hpa; grind)) (fun r5 S5 Ic8 Jc9 q5_6 => ?_)
  obtain ⟨rfl, rfl, rfl, r11, rfl, hr5_11⟩ := q5_6
  refine g_st (st' := [.int r11]) rfl ?_
  refine g_istore_n (L' := [some (.ref 78), some (.int r11)]) d_X10_takeClause_8 (by decide) rfl ?_
  refine g_aload_n d_X10_takeClause_9 rfl ?_
  refine g_iload_n d_X10_takeClause_10 rfl ?_
  have J_19 : ∀ (w13 : Int32), (w13 = 0 ∨ w13 = 1) → (¬ w13 = 0 → 0 ≤ r11) → G m_X10_takeClause (rq m_X10_takeClause (fun r S' I' J' => S' = SHF ∧ (J = J' ∧ PC I I') ∧ r = none ∧ (I' 78 15 = 0 → I 78 12 < I' 78 12))) 0 0 19 [some (.ref 78), some (.int r11)] [.int w13, .ref 78] SHF I1 J := by
    intro w13 hw13 hj_19
    refine g_iconst (v := 1) d_X10_takeClause_19 kI_1 ?_
    refine g_aload_n d_X10_takeClause_20 rfl ?_
    refine g_getI d_X10_takeClause_21 fq_RX10_117 rfl rfl ?_
    refine g_V3 d_X10_takeClause_24 cs_X10_takeClause_X10_want lk_RX10_131 im_X10_want se_X10_want rfl rfl rfl (Nat.le_of_ble_eq_true rfl) ⟨rfl, rfl⟩ ⟨Nat.zero_le _, Nat.zero_le _⟩ (ct_X10_want w13 (1 : Int32) (I1 78 13) I1 J (hK6.2.2.1) (by decide)) (fun r24 S24 I14 Jc16 q24_14 => ?_)
    obtain ⟨rfl, ⟨rfl, hc24_16⟩, r18, rfl, hz24, hr24_18⟩ := q24_14
    refine g_st (st' := [.int r18]) rfl ?_
    have hK20 : PC I I14 := hK6.pf hc24_16
    refine g_if_eq d_X10_takeClause_27 (fun h27 => ?_) (fun h27 => ?_)
    · skip
      exact g_return d_X10_takeClause_175 rfl rfl rfl ⟨rfl, ⟨rfl, (by first | exact hK20 | exact hk68.tr hK20)⟩, rfl, (by intro hq; first | exact Int32.lt_of_lt_of_le hgt2 (hK20).2.2.2.1 | grind)⟩
    · skip
      refine g_aload_n d_X10_takeClause_30 rfl ?_
      refine g_aload_n d_X10_takeClause_31 rfl ?_
      refine g_getI d_X10_takeClause_32 fq_RX10_146 rfl rfl ?_
      refine g_i2l d_X10_takeClause_35 ?_
      refine g_iload_n d_X10_takeClause_36 rfl ?_
      refine g_S2 d_X10_takeClause_37 cs_X10_takeClause_X10_has lk_RX10_149 im_X10_has (Nat.le_of_ble_eq_true rfl) ⟨rfl, rfl⟩ ⟨Nat.zero_le _, Nat.zero_le _⟩ (ct_X10_has (Int32.toInt64 (I14 78 17)) r11 I14 J ) (fun r37 S37 Ic22 Jc23 q37_20 => ?_)
      obtain ⟨rfl, rfl, rfl, r25, rfl, hz37⟩ := q37_20
      refine g_st (st' := [.int r25, .ref 78]) rfl ?_
      have J_48 : ∀ (w27 : Int32), (w27 = 0 ∨ w27 = 1) → G m_X10_takeClause (rq m_X10_takeClause (fun r S' I' J' => S' = SHF ∧ (J = J' ∧ PC I I') ∧ r = none ∧ (I' 78 15 = 0 → I 78 12 < I' 78 12))) 0 0 48 [some (.ref 78), some (.int r11)] [.int w27, .ref 78] SHF I14 J := by
        intro w27 hw27
        refine g_iconst (v := 3) d_X10_takeClause_48 kI_3 ?_
        refine g_aload_n d_X10_takeClause_49 rfl ?_
        refine g_getI d_X10_takeClause_50 fq_RX10_117 rfl rfl ?_
        refine g_V3 d_X10_takeClause_53 cs_X10_takeClause_X10_want lk_RX10_131 im_X10_want se_X10_want rfl rfl rfl (Nat.le_of_ble_eq_true rfl) ⟨rfl, rfl⟩ ⟨Nat.zero_le _, Nat.zero_le _⟩ (ct_X10_want w27 (3 : Int32) (I14 78 13) I14 J (hK20.2.2.1) (by decide)) (fun r53 S53 I28 Jc30 q53_28 => ?_)
        obtain ⟨rfl, ⟨rfl, hc53_30⟩, r32, rfl, hz53, hr53_32⟩ := q53_28
        refine g_st (st' := [.int r32]) rfl ?_
        have hK34 : PC I I28 := hK20.pf hc53_30
        have hgt : I 78 12 < I28 78 12 := by grind
        refine g_if_eq d_X10_takeClause_56 (fun h56 => ?_) (fun h56 => ?_)
        · skip
          exact g_return d_X10_takeClause_175 rfl rfl rfl ⟨rfl, ⟨rfl, (by first | exact hK34 | exact hk68.tr hK34)⟩, rfl, (by intro hq; first | exact Int32.lt_of_lt_of_le hgt2 (hK34).2.2.2.1 | grind)⟩
        · skip
          refine g_aload_n d_X10_takeClause_59 rfl ?_
          refine g_dup d_X10_takeClause_60 rfl ?_
          refine g_getI d_X10_takeClause_61 fq_RX10_146 rfl rfl ?_
          refine g_iconst (v := 1) d_X10_takeClause_64 kI_1 ?_
          refine g_iload_n d_X10_takeClause_65 rfl ?_
          refine g_ishl d_X10_takeClause_66 ?_
          refine g_ior d_X10_takeClause_67 ?_
          refine g_putI d_X10_takeClause_68 fq_RX10_146 rfl rfl ?_
          refine g_nmI (fun I35 eI35 => ?_)
          have hK36 : PC I35 I35 := (by rw [eI35]; exact pc_rfl (pc_kinds hK34).2.2.1 (pc_kinds hK34).2.2.2.2.2.1)
          have hk68 : PC I I35 := by rw [eI35]; exact pc_kinds hK34
          have hgt2 : I 78 12 < I35 78 12 := by rw [eI35, wI_ne (by omega)]; exact hgt
          refine g_iload_n d_X10_takeClause_71 rfl ?_
          refine g_bipush (v := 12) d_X10_takeClause_72 kB_12 ?_
          have J_171 : ∀ (I37 : Iv), (PC I35 I37) → G m_X10_takeClause (rq m_X10_takeClause (fun r S' I' J' => S' = SHF ∧ (J = J' ∧ PC I I') ∧ r = none ∧ (I' 78 15 = 0 → I 78 12 < I' 78 12))) 0 0 171 [some (.ref 78), some (.int r11)] [] SHF I37 J := by
            intro I37 hK38
            refine g_aload_n d_X10_takeClause_171 rfl ?_
            refine g_V0 d_X10_takeClause_172 cs_X10_takeClause_X10_takeEnd lk_RX10_163 im_X10_takeEnd se_X10_takeEnd rfl rfl rfl (Nat.le_of_ble_eq_true rfl) ⟨rfl, rfl⟩ ⟨Nat.zero_le _, Nat.zero_le _⟩ (ct_X10_takeEnd  I37 J (hK38.2.2.1)) (fun r172 S172 I39 Jc41 q172_39 => ?_)
            obtain ⟨rfl, ⟨rfl, hc172_41⟩, rfl⟩ := q172_39
            refine g_st (st' := []) rfl ?_
            have hK44 : PC I35 I39 := hK38.pf hc172_41
            exact g_return d_X10_takeClause_175 rfl rfl rfl ⟨rfl, ⟨rfl, (by first | exact hK44 | exact hk68.tr hK44)⟩, rfl, (by intro hq; first | exact Int32.lt_of_lt_of_le hgt2 (hK44).2.2.2.1 | grind)⟩
          refine g_icmp_ne d_X10_takeClause_74 (fun h74 => ?_) (fun h74 => ?_)
          · skip
            refine g_aload_n d_X10_takeClause_153 rfl ?_
            refine g_getR d_X10_takeClause_154 fq_RX10_21 rfl rfl ?_
            refine g_iload_n d_X10_takeClause_157 rfl ?_
            refine g_aload_n d_X10_takeClause_158 rfl ?_
            refine g_iload_n d_X10_takeClause_159 rfl ?_
            refine g_S1 d_X10_takeClause_160 cs_X10_takeClause_X10_leastOf lk_RX10_157 im_X10_leastOf (Nat.le_of_ble_eq_true rfl) ⟨rfl, rfl⟩ ⟨Nat.zero_le _, Nat.zero_le _⟩ (ct_X10_leastOf r11 I35 J ) (fun r160 S160 Ic46 Jc47 q160_44 => ?_)
            obtain ⟨rfl, rfl, rfl, r49, rfl, hr160_49⟩ := q160_44
            refine g_st (st' := [.int r49, .ref 78, .int r11, .ref 82]) rfl ?_
            refine g_iload_n d_X10_takeClause_163 rfl ?_
            refine g_S1 d_X10_takeClause_164 cs_X10_takeClause_X10_mostOf lk_RX10_160 im_X10_mostOf (Nat.le_of_ble_eq_true rfl) ⟨rfl, rfl⟩ ⟨Nat.zero_le _, Nat.zero_le _⟩ (ct_X10_mostOf r11 I35 J ) (fun r164 S164 Ic52 Jc53 q164_50 => ?_)
            obtain ⟨rfl, rfl, rfl, r55, rfl, hr164_55⟩ := q164_50
            refine g_st (st' := [.int r55, .int r49, .ref 78, .int r11, .ref 82]) rfl ?_
            refine g_V2 d_X10_takeClause_167 cs_X10_takeClause_X10_takeNumber lk_RX10_153 im_X10_takeNumber se_X10_takeNumber rfl rfl rfl (Nat.le_of_ble_eq_true rfl) ⟨rfl, rfl⟩ ⟨Nat.zero_le _, Nat.zero_le _⟩ (ct_X10_takeNumber r49 r55 I35 J (hK36.2.2.1)) (fun r167 S167 I57 Jc59 q167_57 => ?_)
            obtain ⟨rfl, ⟨rfl, hc167_59⟩, r61, rfl, hr167_61⟩ := q167_57
            refine g_st (st' := [.int r61, .int r11, .ref 82]) rfl ?_
            have hK63 : PC I35 I57 := hK36.pf hc167_59
            refine g_iastore (N := 15) d_X10_takeClause_170 rfl kT_15 (by constructor <;> grind) rfl  ?_
            refine g_nmI (fun I64 eI64 => ?_)
            have hK65 : PC I35 I64 := (by rw [eI64]; exact pc_read hK63 (fun hh hq => by have h8 := tn_eq (c := 8) (by grind) (by decide) hh; have := hr167_61 hq; grind) (fun hh hq => by have h8 := tn_eq (c := 2) (by grind) (by decide) hh; have := hr167_61 hq; grind))
            exact J_171 I64 hK65
          · skip
            refine g_aload_n d_X10_takeClause_77 rfl ?_
            refine g_getR d_X10_takeClause_78 fq_RX10_21 rfl rfl ?_
            refine g_bipush (v := 12) d_X10_takeClause_81 kB_12 ?_
            refine g_aload_n d_X10_takeClause_83 rfl ?_
            refine g_iconst (v := 0) d_X10_takeClause_84 kI_0 ?_
            refine g_bipush (v := 24) d_X10_takeClause_85 kB_24 ?_
            refine g_V2 d_X10_takeClause_87 cs_X10_takeClause_X10_takeNumber lk_RX10_153 im_X10_takeNumber se_X10_takeNumber rfl rfl rfl (Nat.le_of_ble_eq_true rfl) ⟨rfl, rfl⟩ ⟨Nat.zero_le _, Nat.zero_le _⟩ (ct_X10_takeNumber (0 : Int32) (24 : Int32) I35 J (hK36.2.2.1)) (fun r87 S87 I66 Jc68 q87_66 => ?_)
            obtain ⟨rfl, ⟨rfl, hc87_68⟩, r70, rfl, hr87_70⟩ := q87_66
            refine g_st (st' := [.int r70, .int (12 : Int32), .ref 82]) rfl ?_
            have hK72 : PC I35 I66 := hK36.pf hc87_68
            refine g_iastore (N := 15) d_X10_takeClause_90 rfl kT_15 ⟨by decide, by decide⟩ kN_12  ?_
            refine g_nmI (fun I73 eI73 => ?_)
            have hK74 : PC I35 I73 := (by rw [eI73]; exact pc_read hK72 (by intro hh; exact absurd hh (by decide)) (by intro hh; exact absurd hh (by decide)))
            refine g_aload_n d_X10_takeClause_91 rfl ?_
            refine g_getR d_X10_takeClause_92 fq_RX10_21 rfl rfl ?_
            refine g_bipush (v := 13) d_X10_takeClause_95 kB_13 ?_
            refine g_aload_n d_X10_takeClause_97 rfl ?_
            refine g_getI d_X10_takeClause_98 fq_RX10_110 rfl rfl ?_
            have J_123 : ∀ (w75 : Int32), ∀ (I76 : Iv), (PC I35 I76) → G m_X10_takeClause (rq m_X10_takeClause (fun r S' I' J' => S' = SHF ∧ (J = J' ∧ PC I I') ∧ r = none ∧ (I' 78 15 = 0 → I 78 12 < I' 78 12))) 0 0 123 [some (.ref 78), some (.int r11)] [.int w75, .int (13 : Int32), .ref 82] SHF I76 J := by
              intro w75 I76 hK77
              refine g_iastore (N := 15) d_X10_takeClause_123 rfl kT_15 ⟨by decide, by decide⟩ kN_13  ?_
              refine g_nmI (fun I78 eI78 => ?_)
              have hK79 : PC I35 I78 := (by rw [eI78]; exact pc_read hK77 (by intro hh; exact absurd hh (by decide)) (by intro hh; exact absurd hh (by decide)))
              refine g_aload_n d_X10_takeClause_124 rfl ?_
              refine g_getR d_X10_takeClause_125 fq_RX10_21 rfl rfl ?_
              refine g_bipush (v := 14) d_X10_takeClause_128 kB_14 ?_
              refine g_aload_n d_X10_takeClause_130 rfl ?_
              refine g_getI d_X10_takeClause_131 fq_RX10_110 rfl rfl ?_
              have J_149 : ∀ (w80 : Int32), ∀ (I81 : Iv), (PC I35 I81) → G m_X10_takeClause (rq m_X10_takeClause (fun r S' I' J' => S' = SHF ∧ (J = J' ∧ PC I I') ∧ r = none ∧ (I' 78 15 = 0 → I 78 12 < I' 78 12))) 0 0 149 [some (.ref 78), some (.int r11)] [.int w80, .int (14 : Int32), .ref 82] SHF I81 J := by
                intro w80 I81 hK82
                refine g_iastore (N := 15) d_X10_takeClause_149 rfl kT_15 ⟨by decide, by decide⟩ kN_14  ?_
                refine g_nmI (fun I83 eI83 => ?_)
                have hK84 : PC I35 I83 := (by rw [eI83]; exact pc_read hK82 (by intro hh; exact absurd hh (by decide)) (by intro hh; exact absurd hh (by decide)))
                refine g_goto d_X10_takeClause_150 ?_
                exact J_171 I83 hK84
              refine g_if_ne d_X10_takeClause_134 (fun h134 => ?_) (fun h134 => ?_)
              · skip
                refine g_iconst (v := 0) d_X10_takeClause_148 kI_0 ?_
                exact J_149 ((0 : Int32)) I78 hK79
              · skip
                refine g_aload_n d_X10_takeClause_137 rfl ?_
                refine g_iconst (v := 0) d_X10_takeClause_138 kI_0 ?_
                refine g_sipush (v := 200) d_X10_takeClause_139 kS_200 ?_
                refine g_V2 d_X10_takeClause_142 cs_X10_takeClause_X10_takeNumber lk_RX10_153 im_X10_takeNumber se_X10_takeNumber rfl rfl rfl (Nat.le_of_ble_eq_true rfl) ⟨rfl, rfl⟩ ⟨Nat.zero_le _, Nat.zero_le _⟩ (ct_X10_takeNumber (0 : Int32) (200 : Int32) I78 J (hK79.2.2.1)) (fun r142 S142 I85 Jc87 q142_85 => ?_)
                obtain ⟨rfl, ⟨rfl, hc142_87⟩, r89, rfl, hr142_89⟩ := q142_85
                refine g_st (st' := [.int r89, .int (14 : Int32), .ref 82]) rfl ?_
                have hK91 : PC I35 I85 := hK79.pf hc142_87
                refine g_goto d_X10_takeClause_145 ?_
                exact J_149 r89 I85 hK91
            refine g_if_ne d_X10_takeClause_101 (fun h101 => ?_) (fun h101 => ?_)
            · skip
              refine g_iconst (v := 0) d_X10_takeClause_122 kI_0 ?_
              exact J_123 ((0 : Int32)) I73 hK74
            · skip
              refine g_aload_n d_X10_takeClause_104 rfl ?_
              refine g_aload_n d_X10_takeClause_105 rfl ?_
              refine g_getR d_X10_takeClause_106 fq_RX10_21 rfl rfl ?_
              refine g_bipush (v := 12) d_X10_takeClause_109 kB_12 ?_
              refine g_iaload (N := 15) d_X10_takeClause_111 rfl kT_15 ⟨by decide, by decide⟩ kN_12 ?_
              refine g_iconst (v := 1) d_X10_takeClause_112 kI_1 ?_
              refine g_iadd d_X10_takeClause_113 ?_
              refine g_bipush (v := 24) d_X10_takeClause_114 kB_24 ?_
              refine g_V2 d_X10_takeClause_116 cs_X10_takeClause_X10_takeNumber lk_RX10_153 im_X10_takeNumber se_X10_takeNumber rfl rfl rfl (Nat.le_of_ble_eq_true rfl) ⟨rfl, rfl⟩ ⟨Nat.zero_le _, Nat.zero_le _⟩ (ct_X10_takeNumber ((I73 82 12) + (1 : Int32)) (24 : Int32) I73 J (hK74.2.2.1)) (fun r116 S116 I92 Jc94 q116_92 => ?_)
              obtain ⟨rfl, ⟨rfl, hc116_94⟩, r96, rfl, hr116_96⟩ := q116_92
              refine g_st (st' := [.int r96, .int (13 : Int32), .ref 82]) rfl ?_
              have hK98 : PC I35 I92 := hK74.pf hc116_94
              refine g_goto d_X10_takeClause_119 ?_
              exact J_123 r96 I92 hK98
      refine g_if_ne d_X10_takeClause_40 (fun h40 => ?_) (fun h40 => ?_)
      · skip
        refine g_iconst (v := 0) d_X10_takeClause_47 kI_0 ?_
        exact J_48 ((0 : Int32)) (Or.inl rfl)
      · skip
        refine g_iconst (v := 1) d_X10_takeClause_43 kI_1 ?_
        refine g_goto d_X10_takeClause_44 ?_
        exact J_48 ((1 : Int32)) (Or.inr rfl)
  refine g_if_lt d_X10_takeClause_11 (fun h11 => ?_) (fun h11 => ?_)
  · skip
    refine g_iconst (v := 0) d_X10_takeClause_18 kI_0 ?_
    exact J_19 ((0 : Int32)) (Or.inl rfl) (by grind)
  · skip
    refine g_iconst (v := 1) d_X10_takeClause_14 kI_1 ?_
    refine g_goto d_X10_takeClause_15 ?_
    exact J_19 ((1 : Int32)) (Or.inr rfl) (by grind)
set_option maxRecDepth 100000 in
set_option maxHeartbeats 4000000 in
theorem ct_X10_beginReading  (I : Iv) (J : Jv)  : Ct m_X10_beginReading [.ref 78] SHF I J (fun r S' I' J' => S' = SHF ∧ (J = J' ∧ (∀ b, b ≠ 78 → I' b = I b) ∧ (∀ k, (k < 12 ∨ 17 < k) → I' 78 k = I 78 k) ∧ I' 78 12 = 0 ∧ I' 78 15 = 0) ∧ r = none) := by
  refine ct_of 0 (by decide +kernel) rfl rfl ?_
  have hK0 : True := trivial
  refine g_aload_n d_X10_beginReading_0 rfl ?_
  refine g_iconst (v := 0) d_X10_beginReading_1 kI_0 ?_
  refine g_putI d_X10_beginReading_2 fq_RX10_107 rfl rfl ?_
  refine g_nmI (fun I1 eI1 => ?_)
  have hK2 : True := trivial
  refine g_aload_n d_X10_beginReading_5 rfl ?_
  refine g_iconst (v := 0) d_X10_beginReading_6 kI_0 ?_
  refine g_putI d_X10_beginReading_7 fq_RX10_110 rfl rfl ?_
  refine g_nmI (fun I3 eI3 => ?_)
  have hK4 : True := trivial
  refine g_aload_n d_X10_beginReading_10 rfl ?_
  refine g_iconst (v := -1) d_X10_beginReading_11 kI_m1 ?_
  refine g_putI d_X10_beginReading_12 fq_RX10_39 rfl rfl ?_
  refine g_nmI (fun I5 eI5 => ?_)
  have hK6 : True := trivial
  exact g_return d_X10_beginReading_15 rfl rfl rfl ⟨rfl, ⟨rfl, ⟨fun b hb => by simp only [eI1, eI3, eI5]; rw [wI_row hb, wI_row hb, wI_row hb], fun k hk => by simp only [eI1, eI3, eI5]; rw [wI_ne (by omega), wI_ne (by omega), wI_ne (by omega)], by simp only [eI1, eI3, eI5]; simp [wI], by simp only [eI1, eI3, eI5]; simp [wI]⟩⟩, rfl⟩
