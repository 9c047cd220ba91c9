set_option maxRecDepth 100000 in
set_option maxHeartbeats 4000000 in
theorem ct_X2_howManySeen  (I : Iv) (J : Jv)  : Ct m_X2_howManySeen [.ref 57] SHF I J (fun r S' I' J' => S' = SHF ∧ I = I' ∧ J = J' ∧ ∃ v : Int32, r = some (.int v) ∧ v = cn (I 58) 7) := by
  refine ct_of 2 (by decide +kernel) rfl rfl ?_
  refine g_iconst (v := 0) d_X2_howManySeen_0 kI_0 ?_
  refine g_istore_n (L' := [some (.ref 57), some (.int (0 : Int32)), none]) d_X2_howManySeen_1 (by decide) rfl ?_
  refine g_iconst (v := 0) d_X2_howManySeen_2 kI_0 ?_
  refine g_istore_n (L' := [some (.ref 57), some (.int (0 : Int32)), some (.int (0 : Int32))]) d_X2_howManySeen_3 (by decide) rfl ?_
  have K_4 : ∀ (nu : Nat) (x1 : Int32) (x2 : Int32), mU (7 : Int32) x2 = nu → ((0 : Int32) ≤ x2) → (x1 = cn (I 58) x2.toNatClampNeg) → (x2 ≤ 7) → G m_X2_howManySeen (rq m_X2_howManySeen (fun r S' I' J' => S' = SHF ∧ I = I' ∧ J = J' ∧ ∃ v : Int32, r = some (.int v) ∧ v = cn (I 58) 7)) 0 0 4 [some (.ref 57), some (.int x1), some (.int x2)] [] SHF I J := by
    intro nu
    induction nu using Nat.strongRecOn with
    | ind nu ih_4 =>
      intro x1 x2 hmu_4 hl3 hn_4 hi_4
      refine g_iload_n d_X2_howManySeen_4 rfl ?_
      refine g_bipush (v := 7) d_X2_howManySeen_5 kB_7 ?_
      refine g_icmp_ge d_X2_howManySeen_7 (fun h7 => ?_) (fun h7 => ?_)
      · skip
        refine g_iload_n d_X2_howManySeen_28 rfl ?_
        exact g_ireturn d_X2_howManySeen_29 rfl rfl rfl rfl ⟨rfl, rfl, rfl, x1, rfl, (by rw [hn_4, show x2 = 7 by grind, kN_7])⟩
      · skip
        refine g_aload_n d_X2_howManySeen_10 rfl ?_
        refine g_getR d_X2_howManySeen_11 fq_RX2_9 rfl rfl ?_
        refine g_iload_n d_X2_howManySeen_14 rfl ?_
        refine g_baload (N := 7) d_X2_howManySeen_15 rfl kT_7 ⟨hl3, Int32.not_le.mp h7⟩ rfl (fun hz15 => ?_)
        refine g_if_eq d_X2_howManySeen_16 (fun h16 => ?_) (fun h16 => ?_)
        · skip
          refine g_iinc (v := (x2 + (1 : Int32))) (L' := [some (.ref 57), some (.int x1), some (.int (x2 + (1 : Int32)))]) d_X2_howManySeen_22 rfl (by rw [kI_1]) (by decide) rfl ?_
          refine g_goto d_X2_howManySeen_25 ?_
          exact ih_4 _ (by rw [← hmu_4]; exact mu_up h7) x1 (x2 + (1 : Int32)) rfl (lo_up hl3 h7) (by rw [cn_step hl3 h7 hn_4]; first | (rw [if_pos h16]; simp; done) | (rw [if_neg h16])) (by grind)
        · skip
          refine g_iinc (v := (x1 + (1 : Int32))) (L' := [some (.ref 57), some (.int (x1 + (1 : Int32))), some (.int x2)]) d_X2_howManySeen_19 rfl (by rw [kI_1]) (by decide) rfl ?_
          refine g_iinc (v := (x2 + (1 : Int32))) (L' := [some (.ref 57), some (.int (x1 + (1 : Int32))), some (.int (x2 + (1 : Int32)))]) d_X2_howManySeen_22 rfl (by rw [kI_1]) (by decide) rfl ?_
          refine g_goto d_X2_howManySeen_25 ?_
          exact ih_4 _ (by rw [← hmu_4]; exact mu_up h7) (x1 + (1 : Int32)) (x2 + (1 : Int32)) rfl (lo_up hl3 h7) (by rw [cn_step hl3 h7 hn_4]; first | (rw [if_pos h16]; simp; done) | (rw [if_neg h16])) (by grind)
  exact K_4 _ (0 : Int32) (0 : Int32) rfl (Int32.le_refl _) (by rw [kN_0]; rfl) (by decide)
set_option maxRecDepth 100000 in
set_option maxHeartbeats 4000000 in
theorem ct_X2_exactOf (what : Int32) (I : Iv) (J : Jv) (hwh : 0 ≤ what ∧ what < 7) : Ct m_X2_exactOf [.ref 57, .int what] SHF I J (fun r S' I' J' => S' = SHF ∧ I = I' ∧ J = J' ∧ ∃ v : Int32, r = some (.int v) ∧ 1 ≤ v) := by
  refine ct_of 0 (by decide +kernel) rfl rfl ?_
  refine g_aload_n d_X2_exactOf_0 rfl ?_
  refine g_getR d_X2_exactOf_1 fq_RX2_9 rfl rfl ?_
  refine g_iload_n d_X2_exactOf_4 rfl ?_
  refine g_baload (N := 7) d_X2_exactOf_5 rfl kT_7 (by constructor <;> grind) rfl (fun hz5 => ?_)
  refine g_if_eq d_X2_exactOf_6 (fun h6 => ?_) (fun h6 => ?_)
  · skip
    refine g_bipush (v := 50) d_X2_exactOf_27 kB_50 ?_
    exact g_ireturn d_X2_exactOf_29 rfl rfl rfl rfl ⟨rfl, rfl, rfl, (50 : Int32), rfl, by grind⟩
  · skip
    refine g_aload_n d_X2_exactOf_9 rfl ?_
    refine g_getR d_X2_exactOf_10 fq_RX2_19 rfl rfl ?_
    refine g_iload_n d_X2_exactOf_13 rfl ?_
    refine g_iaload (N := 7) d_X2_exactOf_14 rfl kT_7 (by constructor <;> grind) rfl ?_
    refine g_if_le d_X2_exactOf_15 (fun h15 => ?_) (fun h15 => ?_)
    · skip
      refine g_bipush (v := 50) d_X2_exactOf_27 kB_50 ?_
      exact g_ireturn d_X2_exactOf_29 rfl rfl rfl rfl ⟨rfl, rfl, rfl, (50 : Int32), rfl, by grind⟩
    · skip
      refine g_aload_n d_X2_exactOf_18 rfl ?_
      refine g_getR d_X2_exactOf_19 fq_RX2_19 rfl rfl ?_
      refine g_iload_n d_X2_exactOf_22 rfl ?_
      refine g_iaload (N := 7) d_X2_exactOf_23 rfl kT_7 (by constructor <;> grind) rfl ?_
      refine g_goto d_X2_exactOf_24 ?_
      exact g_ireturn d_X2_exactOf_29 rfl rfl rfl rfl ⟨rfl, rfl, rfl, (I 60 what.toNatClampNeg), rfl, by grind⟩
set_option maxRecDepth 100000 in
set_option maxHeartbeats 4000000 in
theorem ct_X2_halvings (set : Int32) (n : Int32) (what : Int32) (I : Iv) (J : Jv) (hwh : 0 ≤ what ∧ what < 7) : Ct m_X2_halvings [.ref 57, .int set, .int n, .int what] SHF I J (fun r S' I' J' => S' = SHF ∧ I = I' ∧ J = J' ∧ ∃ v : Int32, r = some (.int v)) := by
  refine ct_of 1 (by decide +kernel) rfl rfl ?_
  refine g_aload_n d_X2_halvings_0 rfl ?_
  refine g_getR d_X2_halvings_1 fq_RX2_15 rfl rfl ?_
  refine g_iload_n d_X2_halvings_4 rfl ?_
  refine g_iaload (N := 7) d_X2_halvings_5 rfl kT_7 (by constructor <;> grind) rfl ?_
  refine g_aload_n d_X2_halvings_6 rfl ?_
  refine g_getR d_X2_halvings_7 fq_RX2_38 rfl rfl ?_
  refine g_iload_n d_X2_halvings_10 rfl ?_
  refine g_iload_n d_X2_halvings_11 rfl ?_
  refine g_iload_n d_X2_halvings_12 rfl ?_
  refine g_V3 d_X2_halvings_13 cs_X2_halvings_X1_signOf lk_RX2_72 im_X1_signOf se_X1_signOf rfl rfl rfl (Nat.le_of_ble_eq_true rfl) ⟨rfl, rfl⟩ ⟨Nat.zero_le _, Nat.zero_le _⟩ (ct_X1_signOf set n what I J ) (fun r13 S13 Ic2 Jc3 q13_0 => ?_)
  obtain ⟨rfl, rfl, rfl, r5, rfl⟩ := q13_0
  refine g_st (st' := [.int r5, .int (I 59 what.toNatClampNeg)]) rfl ?_
  refine g_isub d_X2_halvings_16 ?_
  refine g_mabs d_X2_halvings_17 tw_848 tw_849 tw_18 tw_850 ⟨by decide, by decide⟩ ⟨Nat.zero_le _, Nat.zero_le _⟩ (Nat.le_of_ble_eq_true rfl) ?_
  refine g_topI (fun v7 ev7 => ?_)
  refine g_istore (L' := [some (.ref 57), some (.int set), some (.int n), some (.int what), some (.int v7)]) d_X2_halvings_20 (by decide) rfl ?_
  refine g_bipush (v := 20) d_X2_halvings_22 kB_20 ?_
  refine g_iload d_X2_halvings_24 rfl ?_
  refine g_aload_n d_X2_halvings_26 rfl ?_
  refine g_iload_n d_X2_halvings_27 rfl ?_
  refine g_V1 d_X2_halvings_28 cs_X2_halvings_X2_exactOf lk_RX2_83 im_X2_exactOf se_X2_exactOf rfl rfl rfl (Nat.le_of_ble_eq_true rfl) ⟨rfl, rfl⟩ ⟨Nat.zero_le _, Nat.zero_le _⟩ (ct_X2_exactOf what I J hwh) (fun r28 S28 Ic9 Jc10 q28_7 => ?_)
  obtain ⟨rfl, rfl, rfl, r12, rfl, hr28_12⟩ := q28_7
  refine g_st (st' := [.int r12, .int v7, .int (20 : Int32)]) rfl ?_
  refine g_idiv d_X2_halvings_31 (by grind) ?_
  refine g_mmin d_X2_halvings_32 tw_855 tw_707 tw_18 tw_708 ⟨by decide, by decide⟩ ⟨Nat.zero_le _, Nat.zero_le _⟩ (Nat.le_of_ble_eq_true rfl) ?_
  exact g_ireturn d_X2_halvings_35 rfl rfl rfl rfl ⟨rfl, rfl, rfl, (if (v7 / r12) < (20 : Int32) then (v7 / r12) else (20 : Int32)), rfl⟩
set_option maxRecDepth 100000 in
set_option maxHeartbeats 4000000 in
theorem ct_X2_weightOf (set : Int32) (n : Int32) (I : Iv) (J : Jv) (hpri : PRI I) : Ct m_X2_weightOf [.ref 57, .int set, .int n] SHF I J (fun r S' I' J' => S' = SHF ∧ I = I' ∧ J = J' ∧ ∃ v : Int64, r = some (.long v) ∧ 0 ≤ v ∧ v ≤ 1000000) := by
  refine ct_of 3 (by decide +kernel) rfl rfl ?_
  refine g_ldc2 (v := 1000000) d_X2_weightOf_0 tw_841 ?_
  refine g_lstore_n (L' := [some (.ref 57), some (.int set), some (.int n), some (.long (1000000 : Int64)), none, none]) d_X2_weightOf_3 (by decide) rfl ?_
  refine g_iconst (v := 0) d_X2_weightOf_4 kI_0 ?_
  refine g_istore (L' := [some (.ref 57), some (.int set), some (.int n), some (.long (1000000 : Int64)), none, some (.int (0 : Int32))]) d_X2_weightOf_5 (by decide) rfl ?_
  have K_7 : ∀ (nu : Nat) (x1 : Int64) (x2 : Int32), mU (7 : Int32) x2 = nu → ((0 : Int32) ≤ x2) → (0 ≤ x1 ∧ x1 ≤ 1000000) → G m_X2_weightOf (rq m_X2_weightOf (fun r S' I' J' => S' = SHF ∧ I = I' ∧ J = J' ∧ ∃ v : Int64, r = some (.long v) ∧ 0 ≤ v ∧ v ≤ 1000000)) 0 0 7 [some (.ref 57), some (.int set), some (.int n), some (.long x1), none, some (.int x2)] [] SHF I J := by
    intro nu
    induction nu using Nat.strongRecOn with
    | ind nu ih_7 =>
      intro x1 x2 hmu_7 hl3 hw_7
      refine g_iload d_X2_weightOf_7 rfl ?_
      refine g_bipush (v := 7) d_X2_weightOf_9 kB_7 ?_
      refine g_icmp_ge d_X2_weightOf_11 (fun h11 => ?_) (fun h11 => ?_)
      · skip
        refine g_iconst (v := 0) d_X2_weightOf_58 kI_0 ?_
        refine g_istore (L' := [some (.ref 57), some (.int set), some (.int n), some (.long x1), none, some (.int (0 : Int32))]) d_X2_weightOf_59 (by decide) rfl ?_
        have K_61 : ∀ (nu : Nat) (x4 : Int64) (x5 : Int32), mU (7 : Int32) x5 = nu → ((0 : Int32) ≤ x5) → (0 ≤ x4 ∧ x4 ≤ 1000000) → G m_X2_weightOf (rq m_X2_weightOf (fun r S' I' J' => S' = SHF ∧ I = I' ∧ J = J' ∧ ∃ v : Int64, r = some (.long v) ∧ 0 ≤ v ∧ v ≤ 1000000)) 0 0 61 [some (.ref 57), some (.int set), some (.int n), some (.long x4), none, some (.int x5)] [] SHF I J := by
          intro nu
          induction nu using Nat.strongRecOn with
          | ind nu ih_61 =>
            intro x4 x5 hmu_61 hl6 hw_61
            refine g_iload d_X2_weightOf_61 rfl ?_
            refine g_bipush (v := 7) d_X2_weightOf_63 kB_7 ?_
            refine g_icmp_ge d_X2_weightOf_65 (fun h65 => ?_) (fun h65 => ?_)
            · skip
              refine g_lload_n d_X2_weightOf_95 rfl ?_
              exact g_lreturn d_X2_weightOf_96 rfl rfl rfl ⟨rfl, rfl, rfl, x4, rfl, hw_61⟩
            · skip
              refine g_aload_n d_X2_weightOf_68 rfl ?_
              refine g_getR d_X2_weightOf_69 fq_RX2_9 rfl rfl ?_
              refine g_iload d_X2_weightOf_72 rfl ?_
              refine g_baload (N := 7) d_X2_weightOf_74 rfl kT_7 ⟨hl6, Int32.not_le.mp h65⟩ rfl (fun hz74 => ?_)
              refine g_if_eq d_X2_weightOf_75 (fun h75 => ?_) (fun h75 => ?_)
              · skip
                refine g_iinc (v := (x5 + (1 : Int32))) (L' := [some (.ref 57), some (.int set), some (.int n), some (.long x4), none, some (.int (x5 + (1 : Int32)))]) d_X2_weightOf_89 rfl (by rw [kI_1]) (by decide) rfl ?_
                refine g_goto d_X2_weightOf_92 ?_
                exact ih_61 _ (by rw [← hmu_61]; exact mu_up h65) x4 (x5 + (1 : Int32)) rfl (lo_up hl6 h65) (by first | exact hw_61 | (rw [ex4]; exact wshift hw_61.1 hw_61.2))
              · skip
                refine g_lload_n d_X2_weightOf_78 rfl ?_
                refine g_aload_n d_X2_weightOf_79 rfl ?_
                refine g_iload_n d_X2_weightOf_80 rfl ?_
                refine g_iload_n d_X2_weightOf_81 rfl ?_
                refine g_iload d_X2_weightOf_82 rfl ?_
                refine g_V3 d_X2_weightOf_84 cs_X2_weightOf_X2_halvings lk_RX2_68 im_X2_halvings se_X2_halvings rfl rfl rfl (Nat.le_of_ble_eq_true rfl) ⟨rfl, rfl⟩ ⟨Nat.zero_le _, Nat.zero_le _⟩ (ct_X2_halvings set n x5 I J (by grind)) (fun r84 S84 Ic8 Jc9 q84_6 => ?_)
                obtain ⟨rfl, rfl, rfl, r11, rfl⟩ := q84_6
                refine g_st (st' := [.int r11, .long x4]) rfl ?_
                refine g_lshr d_X2_weightOf_87 ?_
                refine g_topJ (fun v13 ev13 => ?_)
                refine g_lstore_n (L' := [some (.ref 57), some (.int set), some (.int n), some (.long v13), none, some (.int x5)]) d_X2_weightOf_88 (by decide) rfl ?_
                refine g_iinc (v := (x5 + (1 : Int32))) (L' := [some (.ref 57), some (.int set), some (.int n), some (.long v13), none, some (.int (x5 + (1 : Int32)))]) d_X2_weightOf_89 rfl (by rw [kI_1]) (by decide) rfl ?_
                refine g_goto d_X2_weightOf_92 ?_
                exact ih_61 _ (by rw [← hmu_61]; exact mu_up h65) v13 (x5 + (1 : Int32)) rfl (lo_up hl6 h65) (by first | exact hw_61 | (rw [ev13]; exact wshift hw_61.1 hw_61.2))
        exact K_61 _ x1 (0 : Int32) rfl (Int32.le_refl _) hw_7
      · skip
        refine g_lload_n d_X2_weightOf_14 rfl ?_
        refine g_iload_n d_X2_weightOf_15 rfl ?_
        refine g_iload d_X2_weightOf_16 rfl ?_
        refine g_ishr d_X2_weightOf_18 ?_
        refine g_iconst (v := 1) d_X2_weightOf_19 kI_1 ?_
        refine g_iand d_X2_weightOf_20 ?_
        have J_45 : ∀ (w14 : Int32), (0 ≤ w14 ∧ w14 ≤ 1000) → G m_X2_weightOf (rq m_X2_weightOf (fun r S' I' J' => S' = SHF ∧ I = I' ∧ J = J' ∧ ∃ v : Int64, r = some (.long v) ∧ 0 ≤ v ∧ v ≤ 1000000)) 0 0 45 [some (.ref 57), some (.int set), some (.int n), some (.long x1), none, some (.int x2)] [.int w14, .long x1] SHF I J := by
          intro w14 hp_45
          refine g_i2l d_X2_weightOf_45 ?_
          refine g_lmul d_X2_weightOf_46 ?_
          refine g_ldc2 (v := 1000) d_X2_weightOf_47 tw_842 ?_
          refine g_ldiv d_X2_weightOf_50 (by decide) ?_
          refine g_topJ (fun v15 ev15 => ?_)
          refine g_lstore_n (L' := [some (.ref 57), some (.int set), some (.int n), some (.long v15), none, some (.int x2)]) d_X2_weightOf_51 (by decide) rfl ?_
          have hw2 : 0 ≤ v15 ∧ v15 ≤ 1000000 := by rw [ev15]; exact wstep hw_7.1 hw_7.2 hp_45.1 hp_45.2
          refine g_iinc (v := (x2 + (1 : Int32))) (L' := [some (.ref 57), some (.int set), some (.int n), some (.long v15), none, some (.int (x2 + (1 : Int32)))]) d_X2_weightOf_52 rfl (by rw [kI_1]) (by decide) rfl ?_
          refine g_goto d_X2_weightOf_55 ?_
          exact ih_7 _ (by rw [← hmu_7]; exact mu_up h11) v15 (x2 + (1 : Int32)) rfl (lo_up hl3 h11) hw2
        refine g_if_eq d_X2_weightOf_21 (fun h21 => ?_) (fun h21 => ?_)
        · skip
          refine g_sipush (v := 1000) d_X2_weightOf_34 kS_1000 ?_
          refine g_aload_n d_X2_weightOf_37 rfl ?_
          refine g_getR d_X2_weightOf_38 fq_RX2_22 rfl rfl ?_
          refine g_iload d_X2_weightOf_41 rfl ?_
          refine g_iaload (N := 7) d_X2_weightOf_43 rfl kT_7 ⟨hl3, Int32.not_le.mp h11⟩ rfl ?_
          refine g_isub d_X2_weightOf_44 ?_
          exact J_45 (((1000 : Int32) - (I 61 x2.toNatClampNeg))) (by have hq := pri_at hpri (x := x2) (by grind) (by grind); constructor <;> grind)
        · skip
          refine g_aload_n d_X2_weightOf_24 rfl ?_
          refine g_getR d_X2_weightOf_25 fq_RX2_22 rfl rfl ?_
          refine g_iload d_X2_weightOf_28 rfl ?_
          refine g_iaload (N := 7) d_X2_weightOf_30 rfl kT_7 ⟨hl3, Int32.not_le.mp h11⟩ rfl ?_
          refine g_goto d_X2_weightOf_31 ?_
          exact J_45 ((I 61 x2.toNatClampNeg)) (by have hq := pri_at hpri (x := x2) (by grind) (by grind); constructor <;> grind)
  exact K_7 _ (1000000 : Int64) (0 : Int32) rfl (Int32.le_refl _) (by decide)
set_option maxRecDepth 100000 in
set_option maxHeartbeats 4000000 in
theorem ct_X2_weighAll (n : Int32) (I : Iv) (J : Jv) (hpri : PRI I) : Ct m_X2_weighAll [.ref 57, .int n] SHF I J (fun r S' I' J' => S' = SHF ∧ XT I' J' = XT I J ∧ ∃ v : Int64, r = some (.long v) ∧ 0 ≤ v ∧ v ≤ 29000000) := by
  refine ct_of 3 (by decide +kernel) rfl rfl ?_
  have hK0 : XT I J = XT I J := rfl
  refine g_lconst d_X2_weighAll_0 kL_0 ?_
  refine g_lstore_n (L' := [some (.ref 57), some (.int n), some (.long (0 : Int64)), none, none]) d_X2_weighAll_1 (by decide) rfl ?_
  refine g_iconst (v := 0) d_X2_weighAll_2 kI_0 ?_
  refine g_istore (L' := [some (.ref 57), some (.int n), some (.long (0 : Int64)), none, some (.int (0 : Int32))]) d_X2_weighAll_3 (by decide) rfl ?_
  have K_5 : ∀ (nu : Nat) (x1 : Int64) (x2 : Int32) (J3 : Jv), mU (29 : Int32) x2 = nu → (XT I J3 = XT I J) → ((0 : Int32) ≤ x2) → (0 ≤ Int64.toInt x1 ∧ Int64.toInt x1 ≤ Int32.toInt x2 * 1000000) → (x2 ≤ 29) → G m_X2_weighAll (rq m_X2_weighAll (fun r S' I' J' => S' = SHF ∧ XT I' J' = XT I J ∧ ∃ v : Int64, r = some (.long v) ∧ 0 ≤ v ∧ v ≤ 29000000)) 0 0 5 [some (.ref 57), some (.int n), some (.long x1), none, some (.int x2)] [] SHF I J3 := by
    intro nu
    induction nu using Nat.strongRecOn with
    | ind nu ih_5 =>
      intro x1 x2 J3 hmu_5 hK4 hl5 ha_5 hi29_5
      refine g_iload d_X2_weighAll_5 rfl ?_
      refine g_gets (j := 3) d_X2_weighAll_7 rfl sl_RX2_28 ?_
      refine g_tlen (j := 3) (v := 29) d_X2_weighAll_10 rfl rfl ?_
      refine g_icmp_ge d_X2_weighAll_11 (fun h11 => ?_) (fun h11 => ?_)
      · skip
        refine g_lload_n d_X2_weighAll_48 rfl ?_
        exact g_lreturn d_X2_weighAll_49 rfl rfl rfl ⟨rfl, hK4, x1, rfl, (wall_end ha_5 hi29_5)⟩
      · skip
        refine g_aload_n d_X2_weighAll_14 rfl ?_
        refine g_getR d_X2_weighAll_15 fq_RX2_31 rfl rfl ?_
        refine g_iload d_X2_weighAll_18 rfl ?_
        refine g_aload_n d_X2_weighAll_20 rfl ?_
        refine g_gets (j := 3) d_X2_weighAll_21 rfl sl_RX2_28 ?_
        refine g_iload d_X2_weighAll_24 rfl ?_
        refine g_tload (j := 3) (N := 29) d_X2_weighAll_26 rfl kT_29 ⟨hl5, Int32.not_le.mp h11⟩ rfl ?_
        refine g_topI (fun t6 et6 => ?_)
        refine g_iload_n d_X2_weighAll_27 rfl ?_
        refine g_V2 d_X2_weighAll_28 cs_X2_weighAll_X2_weightOf lk_RX2_62 im_X2_weightOf se_X2_weightOf rfl rfl rfl (Nat.le_of_ble_eq_true rfl) ⟨rfl, rfl⟩ ⟨Nat.zero_le _, Nat.zero_le _⟩ (ct_X2_weightOf t6 n I J3 hpri) (fun r28 S28 Ic8 Jc9 q28_6 => ?_)
        obtain ⟨rfl, rfl, rfl, r11, rfl, hr28_11⟩ := q28_6
        refine g_st (st' := [.long r11, .int x2, .ref 63]) rfl ?_
        refine g_lastore (N := 29) d_X2_weighAll_31 rfl kT_29 ⟨hl5, Int32.not_le.mp h11⟩ rfl  ?_
        refine g_nmJ (fun J13 eJ13 => ?_)
        have hK14 : XT I J13 = XT I J := (by rw [eJ13]; exact (xt_wJ (by decide)).trans hK4)
        have hwz : 0 ≤ J13 63 x2.toNatClampNeg ∧ J13 63 x2.toNatClampNeg ≤ 1000000 := by rw [eJ13]; simp only [wJ, and_self, if_true]; exact hr28_11
        refine g_lload_n d_X2_weighAll_32 rfl ?_
        refine g_aload_n d_X2_weighAll_33 rfl ?_
        refine g_getR d_X2_weighAll_34 fq_RX2_31 rfl rfl ?_
        refine g_iload d_X2_weighAll_37 rfl ?_
        refine g_laload (N := 29) d_X2_weighAll_39 rfl kT_29 ⟨hl5, Int32.not_le.mp h11⟩ rfl ?_
        refine g_ladd d_X2_weighAll_40 ?_
        refine g_topJ (fun v15 ev15 => ?_)
        refine g_lstore_n (L' := [some (.ref 57), some (.int n), some (.long v15), none, some (.int x2)]) d_X2_weighAll_41 (by decide) rfl ?_
        refine g_iinc (v := (x2 + (1 : Int32))) (L' := [some (.ref 57), some (.int n), some (.long v15), none, some (.int (x2 + (1 : Int32)))]) d_X2_weighAll_42 rfl (by rw [kI_1]) (by decide) rfl ?_
        refine g_goto d_X2_weighAll_45 ?_
        exact ih_5 _ (by rw [← hmu_5]; exact mu_up h11) v15 (x2 + (1 : Int32)) J13 rfl hK14 (lo_up hl5 h11) (by rw [ev15]; exact wall_step ha_5 h11 hwz.1 hwz.2) (by grind)
  exact K_5 _ (0 : Int64) (0 : Int32) J rfl hK0 (Int32.le_refl _) (by decide) (by decide)
set_option maxRecDepth 100000 in
set_option maxHeartbeats 4000000 in
theorem ct_X2_share (i : Int32) (all : Int64) (I : Iv) (J : Jv)  : Ct m_X2_share [.ref 57, .int i, .long all] SHF I J (fun r S' I' J' => S' = SHF ∧ I = I' ∧ J = J' ∧ ∃ v : Int32, r = some (.int v)) := by
  refine ct_of 0 (by decide +kernel) rfl rfl ?_
  refine g_lload_n d_X2_share_0 rfl ?_
  refine g_lconst d_X2_share_1 kL_0 ?_
  refine g_lcmp_le d_X2_share_2 d_X2_share_3 (fun h3 => ?_) (fun h3 => ?_)
  · skip
    refine g_iconst (v := 0) d_X2_share_35 kI_0 ?_
    exact g_ireturn d_X2_share_36 rfl rfl rfl rfl ⟨rfl, rfl, rfl, (0 : Int32), rfl⟩
  · skip
    refine g_iload_n d_X2_share_6 rfl ?_
    refine g_if_lt d_X2_share_7 (fun h7 => ?_) (fun h7 => ?_)
    · skip
      refine g_iconst (v := 0) d_X2_share_35 kI_0 ?_
      exact g_ireturn d_X2_share_36 rfl rfl rfl rfl ⟨rfl, rfl, rfl, (0 : Int32), rfl⟩
    · skip
      refine g_iload_n d_X2_share_10 rfl ?_
      refine g_aload_n d_X2_share_11 rfl ?_
      refine g_getR d_X2_share_12 fq_RX2_31 rfl rfl ?_
      refine g_alen (v := 29) d_X2_share_15 rfl (Or.inr (Or.inl rfl)) rfl ?_
      refine g_icmp_ge d_X2_share_16 (fun h16 => ?_) (fun h16 => ?_)
      · skip
        refine g_iconst (v := 0) d_X2_share_35 kI_0 ?_
        exact g_ireturn d_X2_share_36 rfl rfl rfl rfl ⟨rfl, rfl, rfl, (0 : Int32), rfl⟩
      · skip
        refine g_ldc2 (v := 1000000) d_X2_share_19 tw_841 ?_
        refine g_aload_n d_X2_share_22 rfl ?_
        refine g_getR d_X2_share_23 fq_RX2_31 rfl rfl ?_
        refine g_iload_n d_X2_share_26 rfl ?_
        refine g_laload (N := 29) d_X2_share_27 rfl kT_29 (by constructor <;> grind) rfl ?_
        refine g_lmul d_X2_share_28 ?_
        refine g_lload_n d_X2_share_29 rfl ?_
        refine g_ldiv d_X2_share_30 (by grind) ?_
        refine g_l2i d_X2_share_31 ?_
        refine g_goto d_X2_share_32 ?_
        exact g_ireturn d_X2_share_36 rfl rfl rfl rfl ⟨rfl, rfl, rfl, (Int64.toInt32 (((1000000 : Int64) * (J 63 i.toNatClampNeg)) / all)), rfl⟩
set_option maxRecDepth 100000 in
set_option maxHeartbeats 4000000 in
theorem ct_X2_isFirstOfClass (i : Int32) (I : Iv) (J : Jv) (hi : 0 ≤ i ∧ i < 29) : Ct m_X2_isFirstOfClass [.ref 57, .int i] SHF I J (fun r S' I' J' => S' = SHF ∧ I = I' ∧ J = J' ∧ ∃ v : Int32, r = some (.int v) ∧ (v = 0 ∨ v = 1)) := by
  refine ct_of 1 (by decide +kernel) rfl rfl ?_
  refine g_iconst (v := 0) d_X2_isFirstOfClass_0 kI_0 ?_
  refine g_istore_n (L' := [some (.ref 57), some (.int i), some (.int (0 : Int32))]) d_X2_isFirstOfClass_1 (by decide) rfl ?_
  have K_2 : ∀ (nu : Nat) (x1 : Int32), mU i x1 = nu → ((0 : Int32) ≤ x1) → G m_X2_isFirstOfClass (rq m_X2_isFirstOfClass (fun r S' I' J' => S' = SHF ∧ I = I' ∧ J = J' ∧ ∃ v : Int32, r = some (.int v) ∧ (v = 0 ∨ v = 1))) 0 0 2 [some (.ref 57), some (.int i), some (.int x1)] [] SHF I J := by
    intro nu
    induction nu using Nat.strongRecOn with
    | ind nu ih_2 =>
      intro x1 hmu_2 hl2
      refine g_iload_n d_X2_isFirstOfClass_2 rfl ?_
      refine g_iload_n d_X2_isFirstOfClass_3 rfl ?_
      refine g_icmp_ge d_X2_isFirstOfClass_4 (fun h4 => ?_) (fun h4 => ?_)
      · skip
        refine g_iconst (v := 1) d_X2_isFirstOfClass_30 kI_1 ?_
        exact g_ireturn d_X2_isFirstOfClass_31 rfl rfl rfl rfl ⟨rfl, rfl, rfl, (1 : Int32), rfl, Or.inr rfl⟩
      · skip
        refine g_aload_n d_X2_isFirstOfClass_7 rfl ?_
        refine g_getR d_X2_isFirstOfClass_8 fq_RX2_35 rfl rfl ?_
        refine g_iload_n d_X2_isFirstOfClass_11 rfl ?_
        refine g_iaload (N := 29) d_X2_isFirstOfClass_12 rfl kT_29 (by constructor <;> grind) rfl ?_
        refine g_aload_n d_X2_isFirstOfClass_13 rfl ?_
        refine g_getR d_X2_isFirstOfClass_14 fq_RX2_35 rfl rfl ?_
        refine g_iload_n d_X2_isFirstOfClass_17 rfl ?_
        refine g_iaload (N := 29) d_X2_isFirstOfClass_18 rfl kT_29 (by constructor <;> grind) rfl ?_
        refine g_icmp_ne d_X2_isFirstOfClass_19 (fun h19 => ?_) (fun h19 => ?_)
        · skip
          refine g_iinc (v := (x1 + (1 : Int32))) (L' := [some (.ref 57), some (.int i), some (.int (x1 + (1 : Int32)))]) d_X2_isFirstOfClass_24 rfl (by rw [kI_1]) (by decide) rfl ?_
          refine g_goto d_X2_isFirstOfClass_27 ?_
          exact ih_2 _ (by rw [← hmu_2]; exact mu_up h4) (x1 + (1 : Int32)) rfl (lo_up hl2 h4)
        · skip
          refine g_iconst (v := 0) d_X2_isFirstOfClass_22 kI_0 ?_
          exact g_ireturn d_X2_isFirstOfClass_23 rfl rfl rfl rfl ⟨rfl, rfl, rfl, (0 : Int32), rfl, Or.inl rfl⟩
  exact K_2 _ (0 : Int32) rfl (Int32.le_refl _)
set_option maxRecDepth 100000 in
set_option maxHeartbeats 4000000 in
theorem ct_X2_weightOfClass (i : Int32) (I : Iv) (J : Jv) (hi : 0 ≤ i ∧ i < 29) : Ct m_X2_weightOfClass [.ref 57, .int i] SHF I J (fun r S' I' J' => S' = SHF ∧ I = I' ∧ J = J' ∧ ∃ v : Int64, r = some (.long v)) := by
  refine ct_of 3 (by decide +kernel) rfl rfl ?_
  refine g_lconst d_X2_weightOfClass_0 kL_0 ?_
  refine g_lstore_n (L' := [some (.ref 57), some (.int i), some (.long (0 : Int64)), none, none]) d_X2_weightOfClass_1 (by decide) rfl ?_
  refine g_iload_n d_X2_weightOfClass_2 rfl ?_
  refine g_istore (L' := [some (.ref 57), some (.int i), some (.long (0 : Int64)), none, some (.int i)]) d_X2_weightOfClass_3 (by decide) rfl ?_
  have K_5 : ∀ (nu : Nat) (x1 : Int64) (x2 : Int32), mU (29 : Int32) x2 = nu → (0 ≤ x2) → G m_X2_weightOfClass (rq m_X2_weightOfClass (fun r S' I' J' => S' = SHF ∧ I = I' ∧ J = J' ∧ ∃ v : Int64, r = some (.long v))) 0 0 5 [some (.ref 57), some (.int i), some (.long x1), none, some (.int x2)] [] SHF I J := by
    intro nu
    induction nu using Nat.strongRecOn with
    | ind nu ih_5 =>
      intro x1 x2 hmu_5 h0_5
      refine g_iload d_X2_weightOfClass_5 rfl ?_
      refine g_aload_n d_X2_weightOfClass_7 rfl ?_
      refine g_getR d_X2_weightOfClass_8 fq_RX2_35 rfl rfl ?_
      refine g_alen (v := 29) d_X2_weightOfClass_11 rfl (Or.inl rfl) rfl ?_
      refine g_icmp_ge d_X2_weightOfClass_12 (fun h12 => ?_) (fun h12 => ?_)
      · skip
        refine g_lload_n d_X2_weightOfClass_47 rfl ?_
        exact g_lreturn d_X2_weightOfClass_48 rfl rfl rfl ⟨rfl, rfl, rfl, x1, rfl⟩
      · skip
        refine g_aload_n d_X2_weightOfClass_15 rfl ?_
        refine g_getR d_X2_weightOfClass_16 fq_RX2_35 rfl rfl ?_
        refine g_iload d_X2_weightOfClass_19 rfl ?_
        refine g_iaload (N := 29) d_X2_weightOfClass_21 rfl kT_29 (by constructor <;> grind) rfl ?_
        refine g_aload_n d_X2_weightOfClass_22 rfl ?_
        refine g_getR d_X2_weightOfClass_23 fq_RX2_35 rfl rfl ?_
        refine g_iload_n d_X2_weightOfClass_26 rfl ?_
        refine g_iaload (N := 29) d_X2_weightOfClass_27 rfl kT_29 (by constructor <;> grind) rfl ?_
        refine g_icmp_ne d_X2_weightOfClass_28 (fun h28 => ?_) (fun h28 => ?_)
        · skip
          refine g_iinc (v := (x2 + (1 : Int32))) (L' := [some (.ref 57), some (.int i), some (.long x1), none, some (.int (x2 + (1 : Int32)))]) d_X2_weightOfClass_41 rfl (by rw [kI_1]) (by decide) rfl ?_
          refine g_goto d_X2_weightOfClass_44 ?_
          exact ih_5 _ (by rw [← hmu_5]; exact mu_up h12) x1 (x2 + (1 : Int32)) rfl (by grind)
        · skip
          refine g_lload_n d_X2_weightOfClass_31 rfl ?_
          refine g_aload_n d_X2_weightOfClass_32 rfl ?_
          refine g_getR d_X2_weightOfClass_33 fq_RX2_31 rfl rfl ?_
          refine g_iload d_X2_weightOfClass_36 rfl ?_
          refine g_laload (N := 29) d_X2_weightOfClass_38 rfl kT_29 (by constructor <;> grind) rfl ?_
          refine g_ladd d_X2_weightOfClass_39 ?_
          refine g_topJ (fun v3 ev3 => ?_)
          refine g_lstore_n (L' := [some (.ref 57), some (.int i), some (.long v3), none, some (.int x2)]) d_X2_weightOfClass_40 (by decide) rfl ?_
          refine g_iinc (v := (x2 + (1 : Int32))) (L' := [some (.ref 57), some (.int i), some (.long v3), none, some (.int (x2 + (1 : Int32)))]) d_X2_weightOfClass_41 rfl (by rw [kI_1]) (by decide) rfl ?_
          refine g_goto d_X2_weightOfClass_44 ?_
          exact ih_5 _ (by rw [← hmu_5]; exact mu_up h12) v3 (x2 + (1 : Int32)) rfl (by grind)
  exact K_5 _ (0 : Int64) i rfl (by grind)
set_option maxRecDepth 100000 in
set_option maxHeartbeats 4000000 in
theorem ct_X2_tellingBy (what : Int32) (n : Int32) (all : Int64) (I : Iv) (J : Jv) (hwh : 0 ≤ what ∧ what < 7) (hall : all ≤ 29000000) : Ct m_X2_tellingBy [.ref 57, .int what, .int n, .long all] SHF I J (fun r S' I' J' => S' = SHF ∧ XT I' J' = XT I J ∧ ∃ v : Int32, r = some (.int v)) := by
  refine ct_of 5 (by decide +kernel) rfl rfl ?_
  have hK0 : XT I J = XT I J := rfl
  refine g_lload_n d_X2_tellingBy_0 rfl ?_
  refine g_lconst d_X2_tellingBy_1 kL_0 ?_
  refine g_lcmp_gt d_X2_tellingBy_2 d_X2_tellingBy_3 (fun h3 => ?_) (fun h3 => ?_)
  · skip
    refine g_iconst (v := 0) d_X2_tellingBy_8 kI_0 ?_
    refine g_istore (L' := [some (.ref 57), some (.int what), some (.int n), some (.long all), none, some (.int (0 : Int32)), none, none, none, none]) d_X2_tellingBy_9 (by decide) rfl ?_
    have K_11 : ∀ (nu : Nat) (x1 : Int32) (I2 : Iv), mU (29 : Int32) x1 = nu → (XT I2 J = XT I J) → ((0 : Int32) ≤ x1) → G m_X2_tellingBy (rq m_X2_tellingBy (fun r S' I' J' => S' = SHF ∧ XT I' J' = XT I J ∧ ∃ v : Int32, r = some (.int v))) 0 0 11 [some (.ref 57), some (.int what), some (.int n), some (.long all), none, some (.int x1), none, none, none, none] [] SHF I2 J := by
      intro nu
      induction nu using Nat.strongRecOn with
      | ind nu ih_11 =>
        intro x1 I2 hmu_11 hK3 hl4
        refine g_iload d_X2_tellingBy_11 rfl ?_
        refine g_aload_n d_X2_tellingBy_13 rfl ?_
        refine g_getR d_X2_tellingBy_14 fq_RX2_35 rfl rfl ?_
        refine g_alen (v := 29) d_X2_tellingBy_17 rfl (Or.inl rfl) rfl ?_
        refine g_icmp_ge d_X2_tellingBy_18 (fun h18 => ?_) (fun h18 => ?_)
        · skip
          refine g_lconst d_X2_tellingBy_55 kL_0 ?_
          refine g_lstore (L' := [some (.ref 57), some (.int what), some (.int n), some (.long all), none, some (.long (0 : Int64)), none, none, none, none]) d_X2_tellingBy_56 (by decide) rfl ?_
          refine g_iconst (v := 0) d_X2_tellingBy_58 kI_0 ?_
          refine g_istore (L' := [some (.ref 57), some (.int what), some (.int n), some (.long all), none, some (.long (0 : Int64)), none, some (.int (0 : Int32)), none, none]) d_X2_tellingBy_59 (by decide) rfl ?_
          have K_61 : ∀ (nu : Nat) (x5 : Int64) (x6 : Int32), mU (29 : Int32) x6 = nu → ((0 : Int32) ≤ x6) → G m_X2_tellingBy (rq m_X2_tellingBy (fun r S' I' J' => S' = SHF ∧ XT I' J' = XT I J ∧ ∃ v : Int32, r = some (.int v))) 0 0 61 [some (.ref 57), some (.int what), some (.int n), some (.long all), none, some (.long x5), none, some (.int x6), none, none] [] SHF I2 J := by
            intro nu
            induction nu using Nat.strongRecOn with
            | ind nu ih_61 =>
              intro x5 x6 hmu_61 hl7
              refine g_iload d_X2_tellingBy_61 rfl ?_
              refine g_aload_n d_X2_tellingBy_63 rfl ?_
              refine g_getR d_X2_tellingBy_64 fq_RX2_35 rfl rfl ?_
              refine g_alen (v := 29) d_X2_tellingBy_67 rfl (Or.inl rfl) rfl ?_
              refine g_icmp_ge d_X2_tellingBy_68 (fun h68 => ?_) (fun h68 => ?_)
              · skip
                refine g_ldc2 (v := 1000) d_X2_tellingBy_104 tw_842 ?_
                refine g_ldc2 (v := 1000) d_X2_tellingBy_107 tw_842 ?_
                refine g_lload d_X2_tellingBy_110 rfl ?_
                refine g_lmul d_X2_tellingBy_112 ?_
                refine g_lload_n d_X2_tellingBy_113 rfl ?_
                refine g_lload_n d_X2_tellingBy_114 rfl ?_
                refine g_lmul d_X2_tellingBy_115 ?_
                refine g_ldiv d_X2_tellingBy_116 (ne_sq (by grind) hall) ?_
                refine g_lsub d_X2_tellingBy_117 ?_
                refine g_l2i d_X2_tellingBy_118 ?_
                exact g_ireturn d_X2_tellingBy_119 rfl rfl rfl rfl ⟨rfl, hK3, (Int64.toInt32 ((1000 : Int64) - (((1000 : Int64) * x5) / (all * all)))), rfl⟩
              · skip
                refine g_aload_n d_X2_tellingBy_71 rfl ?_
                refine g_iload d_X2_tellingBy_72 rfl ?_
                refine g_V1 d_X2_tellingBy_74 cs_X2_tellingBy_X2_isFirstOfClass lk_RX2_90 im_X2_isFirstOfClass se_X2_isFirstOfClass rfl rfl rfl (Nat.le_of_ble_eq_true rfl) ⟨rfl, rfl⟩ ⟨Nat.zero_le _, Nat.zero_le _⟩ (ct_X2_isFirstOfClass x6 I2 J (by grind)) (fun r74 S74 Ic9 Jc10 q74_7 => ?_)
                obtain ⟨rfl, rfl, rfl, r12, rfl, hz74⟩ := q74_7
                refine g_st (st' := [.int r12]) rfl ?_
                refine g_if_eq d_X2_tellingBy_77 (fun h77 => ?_) (fun h77 => ?_)
                · skip
                  refine g_iinc (v := (x6 + (1 : Int32))) (L' := [some (.ref 57), some (.int what), some (.int n), some (.long all), none, some (.long x5), none, some (.int (x6 + (1 : Int32))), none, none]) d_X2_tellingBy_98 rfl (by rw [kI_1]) (by decide) rfl ?_
                  refine g_goto d_X2_tellingBy_101 ?_
                  exact ih_61 _ (by rw [← hmu_61]; exact mu_up h68) x5 (x6 + (1 : Int32)) rfl (lo_up hl7 h68)
                · skip
                  refine g_aload_n d_X2_tellingBy_80 rfl ?_
                  refine g_iload d_X2_tellingBy_81 rfl ?_
                  refine g_V1 d_X2_tellingBy_83 cs_X2_tellingBy_X2_weightOfClass lk_RX2_94 im_X2_weightOfClass se_X2_weightOfClass rfl rfl rfl (Nat.le_of_ble_eq_true rfl) ⟨rfl, rfl⟩ ⟨Nat.zero_le _, Nat.zero_le _⟩ (ct_X2_weightOfClass x6 I2 J (by grind)) (fun r83 S83 Ic15 Jc16 q83_13 => ?_)
                  obtain ⟨rfl, rfl, rfl, r18, rfl⟩ := q83_13
                  refine g_st (st' := [.long r18]) rfl ?_
                  refine g_lstore (L' := [some (.ref 57), some (.int what), some (.int n), some (.long all), none, some (.long x5), none, some (.int x6), some (.long r18), none]) d_X2_tellingBy_86 (by decide) rfl ?_
                  refine g_lload d_X2_tellingBy_88 rfl ?_
                  refine g_lload d_X2_tellingBy_90 rfl ?_
                  refine g_lload d_X2_tellingBy_92 rfl ?_
                  refine g_lmul d_X2_tellingBy_94 ?_
                  refine g_ladd d_X2_tellingBy_95 ?_
                  refine g_topJ (fun v20 ev20 => ?_)
                  refine g_lstore (L' := [some (.ref 57), some (.int what), some (.int n), some (.long all), none, some (.long v20), none, some (.int x6), some (.long r18), none]) d_X2_tellingBy_96 (by decide) rfl ?_
                  refine g_iinc (v := (x6 + (1 : Int32))) (L' := [some (.ref 57), some (.int what), some (.int n), some (.long all), none, some (.long v20), none, some (.int (x6 + (1 : Int32))), some (.long r18), none]) d_X2_tellingBy_98 rfl (by rw [kI_1]) (by decide) rfl ?_
                  refine g_goto d_X2_tellingBy_101 ?_
                  refine g_sb [some (.ref 57), some (.int what), some (.int n), some (.long all), none, some (.long v20), none, some (.int (x6 + (1 : Int32))), none, none] (by simp [subL]) ?_
                  exact ih_61 _ (by rw [← hmu_61]; exact mu_up h68) v20 (x6 + (1 : Int32)) rfl (lo_up hl7 h68)
          exact K_61 _ (0 : Int64) (0 : Int32) rfl (Int32.le_refl _)
        · skip
          refine g_aload_n d_X2_tellingBy_21 rfl ?_
          refine g_getR d_X2_tellingBy_22 fq_RX2_35 rfl rfl ?_
          refine g_iload d_X2_tellingBy_25 rfl ?_
          refine g_aload_n d_X2_tellingBy_27 rfl ?_
          refine g_getR d_X2_tellingBy_28 fq_RX2_38 rfl rfl ?_
          refine g_gets (j := 3) d_X2_tellingBy_31 rfl sl_RX2_28 ?_
          refine g_iload d_X2_tellingBy_34 rfl ?_
          refine g_tload (j := 3) (N := 29) d_X2_tellingBy_36 rfl kT_29 ⟨hl4, Int32.not_le.mp h18⟩ rfl ?_
          refine g_topI (fun t21 et21 => ?_)
          refine g_iload_n d_X2_tellingBy_37 rfl ?_
          refine g_iload_n d_X2_tellingBy_38 rfl ?_
          refine g_V3 d_X2_tellingBy_39 cs_X2_tellingBy_X1_signOf lk_RX2_72 im_X1_signOf se_X1_signOf rfl rfl rfl (Nat.le_of_ble_eq_true rfl) ⟨rfl, rfl⟩ ⟨Nat.zero_le _, Nat.zero_le _⟩ (ct_X1_signOf t21 n what I2 J ) (fun r39 S39 Ic23 Jc24 q39_21 => ?_)
          obtain ⟨rfl, rfl, rfl, r26, rfl⟩ := q39_21
          refine g_st (st' := [.int r26, .int x1, .ref 64]) rfl ?_
          refine g_aload_n d_X2_tellingBy_42 rfl ?_
          refine g_iload_n d_X2_tellingBy_43 rfl ?_
          refine g_V1 d_X2_tellingBy_44 cs_X2_tellingBy_X2_exactOf lk_RX2_83 im_X2_exactOf se_X2_exactOf rfl rfl rfl (Nat.le_of_ble_eq_true rfl) ⟨rfl, rfl⟩ ⟨Nat.zero_le _, Nat.zero_le _⟩ (ct_X2_exactOf what I2 J hwh) (fun r44 S44 Ic29 Jc30 q44_27 => ?_)
          obtain ⟨rfl, rfl, rfl, r32, rfl, hr44_32⟩ := q44_27
          refine g_st (st' := [.int r32, .int r26, .int x1, .ref 64]) rfl ?_
          refine g_idiv d_X2_tellingBy_47 (by grind) ?_
          refine g_iastore (N := 29) d_X2_tellingBy_48 rfl kT_29 ⟨hl4, Int32.not_le.mp h18⟩ rfl  ?_
          refine g_nmI (fun I34 eI34 => ?_)
          have hK35 : XT I34 J = XT I J := (by rw [eI34]; exact (xt_wI rfl).trans hK3)
          refine g_iinc (v := (x1 + (1 : Int32))) (L' := [some (.ref 57), some (.int what), some (.int n), some (.long all), none, some (.int (x1 + (1 : Int32))), none, none, none, none]) d_X2_tellingBy_49 rfl (by rw [kI_1]) (by decide) rfl ?_
          refine g_goto d_X2_tellingBy_52 ?_
          exact ih_11 _ (by rw [← hmu_11]; exact mu_up h18) (x1 + (1 : Int32)) I34 rfl hK35 (lo_up hl4 h18)
    exact K_11 _ (0 : Int32) I rfl hK0 (Int32.le_refl _)
  · skip
    refine g_iconst (v := 0) d_X2_tellingBy_6 kI_0 ?_
    exact g_ireturn d_X2_tellingBy_7 rfl rfl rfl rfl ⟨rfl, hK0, (0 : Int32), rfl⟩
set_option maxRecDepth 100000 in
set_option maxHeartbeats 4000000 in
theorem ct_X2_oddsOf (set : Int32) (n : Int32) (I : Iv) (J : Jv) (hpri : PRI I) : Ct m_X2_oddsOf [.ref 57, .int set, .int n] SHF I J (fun r S' I' J' => S' = SHF ∧ XT I' J' = XT I J ∧ ∃ v : Int32, r = some (.int v)) := by
  refine ct_of 3 (by decide +kernel) rfl rfl ?_
  have hK0 : XT I J = XT I J := rfl
  refine g_aload_n d_X2_oddsOf_0 rfl ?_
  refine g_iload_n d_X2_oddsOf_1 rfl ?_
  refine g_V1 d_X2_oddsOf_2 cs_X2_oddsOf_X2_weighAll lk_RX2_48 im_X2_weighAll se_X2_weighAll rfl rfl rfl (Nat.le_of_ble_eq_true rfl) ⟨rfl, rfl⟩ ⟨Nat.zero_le _, Nat.zero_le _⟩ (ct_X2_weighAll n I J hpri) (fun r2 S2 I1 J2 q2_2 => ?_)
  obtain ⟨rfl, hc2_3, r5, rfl, hr2_5⟩ := q2_2
  refine g_st (st' := [.long r5]) rfl ?_
  have hK7 : XT I1 J2 = XT I J := hc2_3.trans hK0
  refine g_lstore_n (L' := [some (.ref 57), some (.int set), some (.int n), some (.long r5), none, none]) d_X2_oddsOf_5 (by decide) rfl ?_
  refine g_iconst (v := 0) d_X2_oddsOf_6 kI_0 ?_
  refine g_istore (L' := [some (.ref 57), some (.int set), some (.int n), some (.long r5), none, some (.int (0 : Int32))]) d_X2_oddsOf_7 (by decide) rfl ?_
  have K_9 : ∀ (nu : Nat) (x8 : Int32), mU (29 : Int32) x8 = nu → ((0 : Int32) ≤ x8) → G m_X2_oddsOf (rq m_X2_oddsOf (fun r S' I' J' => S' = SHF ∧ XT I' J' = XT I J ∧ ∃ v : Int32, r = some (.int v))) 0 0 9 [some (.ref 57), some (.int set), some (.int n), some (.long r5), none, some (.int x8)] [] SHF I1 J2 := by
    intro nu
    induction nu using Nat.strongRecOn with
    | ind nu ih_9 =>
      intro x8 hmu_9 hl9
      refine g_iload d_X2_oddsOf_9 rfl ?_
      refine g_gets (j := 3) d_X2_oddsOf_11 rfl sl_RX2_28 ?_
      refine g_tlen (j := 3) (v := 29) d_X2_oddsOf_14 rfl rfl ?_
      refine g_icmp_ge d_X2_oddsOf_15 (fun h15 => ?_) (fun h15 => ?_)
      · skip
        refine g_iconst (v := 0) d_X2_oddsOf_42 kI_0 ?_
        exact g_ireturn d_X2_oddsOf_43 rfl rfl rfl rfl ⟨rfl, hK7, (0 : Int32), rfl⟩
      · skip
        refine g_gets (j := 3) d_X2_oddsOf_18 rfl sl_RX2_28 ?_
        refine g_iload d_X2_oddsOf_21 rfl ?_
        refine g_tload (j := 3) (N := 29) d_X2_oddsOf_23 rfl kT_29 ⟨hl9, Int32.not_le.mp h15⟩ rfl ?_
        refine g_topI (fun t10 et10 => ?_)
        refine g_iload_n d_X2_oddsOf_24 rfl ?_
        refine g_icmp_ne d_X2_oddsOf_25 (fun h25 => ?_) (fun h25 => ?_)
        · skip
          refine g_iinc (v := (x8 + (1 : Int32))) (L' := [some (.ref 57), some (.int set), some (.int n), some (.long r5), none, some (.int (x8 + (1 : Int32)))]) d_X2_oddsOf_36 rfl (by rw [kI_1]) (by decide) rfl ?_
          refine g_goto d_X2_oddsOf_39 ?_
          exact ih_9 _ (by rw [← hmu_9]; exact mu_up h15) (x8 + (1 : Int32)) rfl (lo_up hl9 h15)
        · skip
          refine g_aload_n d_X2_oddsOf_28 rfl ?_
          refine g_iload d_X2_oddsOf_29 rfl ?_
          refine g_lload_n d_X2_oddsOf_31 rfl ?_
          refine g_V2 d_X2_oddsOf_32 cs_X2_oddsOf_X2_share lk_RX2_52 im_X2_share se_X2_share rfl rfl rfl (Nat.le_of_ble_eq_true rfl) ⟨rfl, rfl⟩ ⟨Nat.zero_le _, Nat.zero_le _⟩ (ct_X2_share x8 r5 I1 J2 ) (fun r32 S32 Ic12 Jc13 q32_10 => ?_)
          obtain ⟨rfl, rfl, rfl, r15, rfl⟩ := q32_10
          refine g_st (st' := [.int r15]) rfl ?_
          exact g_ireturn d_X2_oddsOf_35 rfl rfl rfl rfl ⟨rfl, hK7, r15, rfl⟩
  exact K_9 _ (0 : Int32) rfl (Int32.le_refl _)
set_option maxRecDepth 100000 in
set_option maxHeartbeats 4000000 in
theorem ct_X2_oddsWith (k : Int32) (n : Int32) (I : Iv) (J : Jv) (hpri : PRI I) : Ct m_X2_oddsWith [.ref 57, .int k, .int n] SHF I J (fun r S' I' J' => S' = SHF ∧ XT I' J' = XT I J ∧ ∃ v : Int32, r = some (.int v)) := by
  refine ct_of 4 (by decide +kernel) rfl rfl ?_
  have hK0 : XT I J = XT I J := rfl
  refine g_aload_n d_X2_oddsWith_0 rfl ?_
  refine g_iload_n d_X2_oddsWith_1 rfl ?_
  refine g_V1 d_X2_oddsWith_2 cs_X2_oddsWith_X2_weighAll lk_RX2_48 im_X2_weighAll se_X2_weighAll rfl rfl rfl (Nat.le_of_ble_eq_true rfl) ⟨rfl, rfl⟩ ⟨Nat.zero_le _, Nat.zero_le _⟩ (ct_X2_weighAll n I J hpri) (fun r2 S2 I1 J2 q2_2 => ?_)
  obtain ⟨rfl, hc2_3, r5, rfl, hr2_5⟩ := q2_2
  refine g_st (st' := [.long r5]) rfl ?_
  have hK7 : XT I1 J2 = XT I J := hc2_3.trans hK0
  refine g_lstore_n (L' := [some (.ref 57), some (.int k), some (.int n), some (.long r5), none, none, none]) d_X2_oddsWith_5 (by decide) rfl ?_
  refine g_iconst (v := 0) d_X2_oddsWith_6 kI_0 ?_
  refine g_istore (L' := [some (.ref 57), some (.int k), some (.int n), some (.long r5), none, some (.int (0 : Int32)), none]) d_X2_oddsWith_7 (by decide) rfl ?_
  refine g_iconst (v := 0) d_X2_oddsWith_9 kI_0 ?_
  refine g_istore (L' := [some (.ref 57), some (.int k), some (.int n), some (.long r5), none, some (.int (0 : Int32)), some (.int (0 : Int32))]) d_X2_oddsWith_10 (by decide) rfl ?_
  have K_12 : ∀ (nu : Nat) (x8 : Int32) (x9 : Int32), mU (29 : Int32) x9 = nu → ((0 : Int32) ≤ x9) → G m_X2_oddsWith (rq m_X2_oddsWith (fun r S' I' J' => S' = SHF ∧ XT I' J' = XT I J ∧ ∃ v : Int32, r = some (.int v))) 0 0 12 [some (.ref 57), some (.int k), some (.int n), some (.long r5), none, some (.int x8), some (.int x9)] [] SHF I1 J2 := by
    intro nu
    induction nu using Nat.strongRecOn with
    | ind nu ih_12 =>
      intro x8 x9 hmu_12 hl10
      refine g_iload d_X2_oddsWith_12 rfl ?_
      refine g_gets (j := 3) d_X2_oddsWith_14 rfl sl_RX2_28 ?_
      refine g_tlen (j := 3) (v := 29) d_X2_oddsWith_17 rfl rfl ?_
      refine g_icmp_ge d_X2_oddsWith_18 (fun h18 => ?_) (fun h18 => ?_)
      · skip
        refine g_iload d_X2_oddsWith_52 rfl ?_
        exact g_ireturn d_X2_oddsWith_54 rfl rfl rfl rfl ⟨rfl, hK7, x8, rfl⟩
      · skip
        refine g_gets (j := 3) d_X2_oddsWith_21 rfl sl_RX2_28 ?_
        refine g_iload d_X2_oddsWith_24 rfl ?_
        refine g_tload (j := 3) (N := 29) d_X2_oddsWith_26 rfl kT_29 ⟨hl10, Int32.not_le.mp h18⟩ rfl ?_
        refine g_topI (fun t11 et11 => ?_)
        refine g_iload_n d_X2_oddsWith_27 rfl ?_
        refine g_ishr d_X2_oddsWith_28 ?_
        refine g_iconst (v := 1) d_X2_oddsWith_29 kI_1 ?_
        refine g_iand d_X2_oddsWith_30 ?_
        refine g_if_eq d_X2_oddsWith_31 (fun h31 => ?_) (fun h31 => ?_)
        · skip
          refine g_iinc (v := (x9 + (1 : Int32))) (L' := [some (.ref 57), some (.int k), some (.int n), some (.long r5), none, some (.int x8), some (.int (x9 + (1 : Int32)))]) d_X2_oddsWith_46 rfl (by rw [kI_1]) (by decide) rfl ?_
          refine g_goto d_X2_oddsWith_49 ?_
          exact ih_12 _ (by rw [← hmu_12]; exact mu_up h18) x8 (x9 + (1 : Int32)) rfl (lo_up hl10 h18)
        · skip
          refine g_iload d_X2_oddsWith_34 rfl ?_
          refine g_aload_n d_X2_oddsWith_36 rfl ?_
          refine g_iload d_X2_oddsWith_37 rfl ?_
          refine g_lload_n d_X2_oddsWith_39 rfl ?_
          refine g_V2 d_X2_oddsWith_40 cs_X2_oddsWith_X2_share lk_RX2_52 im_X2_share se_X2_share rfl rfl rfl (Nat.le_of_ble_eq_true rfl) ⟨rfl, rfl⟩ ⟨Nat.zero_le _, Nat.zero_le _⟩ (ct_X2_share x9 r5 I1 J2 ) (fun r40 S40 Ic13 Jc14 q40_11 => ?_)
          obtain ⟨rfl, rfl, rfl, r16, rfl⟩ := q40_11
          refine g_st (st' := [.int r16, .int x8]) rfl ?_
          refine g_iadd d_X2_oddsWith_43 ?_
          refine g_topI (fun v18 ev18 => ?_)
          refine g_istore (L' := [some (.ref 57), some (.int k), some (.int n), some (.long r5), none, some (.int v18), some (.int x9)]) d_X2_oddsWith_44 (by decide) rfl ?_
          refine g_iinc (v := (x9 + (1 : Int32))) (L' := [some (.ref 57), some (.int k), some (.int n), some (.long r5), none, some (.int v18), some (.int (x9 + (1 : Int32)))]) d_X2_oddsWith_46 rfl (by rw [kI_1]) (by decide) rfl ?_
          refine g_goto d_X2_oddsWith_49 ?_
          exact ih_12 _ (by rw [← hmu_12]; exact mu_up h18) v18 (x9 + (1 : Int32)) rfl (lo_up hl10 h18)
  exact K_12 _ (0 : Int32) (0 : Int32) rfl (Int32.le_refl _)
set_option maxRecDepth 100000 in
set_option maxHeartbeats 4000000 in
theorem ct_X2_howMuchTells (what : Int32) (n : Int32) (I : Iv) (J : Jv) (hpri : PRI I) (hwh : 0 ≤ what ∧ what < 7) : Ct m_X2_howMuchTells [.ref 57, .int what, .int n] SHF I J (fun r S' I' J' => S' = SHF ∧ XT I' J' = XT I J ∧ ∃ v : Int32, r = some (.int v)) := by
  refine ct_of 0 (by decide +kernel) rfl rfl ?_
  have hK0 : XT I J = XT I J := rfl
  refine g_aload_n d_X2_howMuchTells_0 rfl ?_
  refine g_iload_n d_X2_howMuchTells_1 rfl ?_
  refine g_iload_n d_X2_howMuchTells_2 rfl ?_
  refine g_aload_n d_X2_howMuchTells_3 rfl ?_
  refine g_iload_n d_X2_howMuchTells_4 rfl ?_
  refine g_V1 d_X2_howMuchTells_5 cs_X2_howMuchTells_X2_weighAll lk_RX2_48 im_X2_weighAll se_X2_weighAll rfl rfl rfl (Nat.le_of_ble_eq_true rfl) ⟨rfl, rfl⟩ ⟨Nat.zero_le _, Nat.zero_le _⟩ (ct_X2_weighAll n I J hpri) (fun r5 S5 I1 J2 q5_2 => ?_)
  obtain ⟨rfl, hc5_3, r5, rfl, hr5_5⟩ := q5_2
  refine g_st (st' := [.long r5, .int n, .int what, .ref 57]) rfl ?_
  have hK7 : XT I1 J2 = XT I J := hc5_3.trans hK0
  refine g_V3 d_X2_howMuchTells_8 cs_X2_howMuchTells_X2_tellingBy lk_RX2_56 im_X2_tellingBy se_X2_tellingBy rfl rfl rfl (Nat.le_of_ble_eq_true rfl) ⟨rfl, rfl⟩ ⟨Nat.zero_le _, Nat.zero_le _⟩ (ct_X2_tellingBy what n r5 I1 J2 hwh (by grind)) (fun r8 S8 I8 J9 q8_9 => ?_)
  obtain ⟨rfl, hc8_10, r12, rfl⟩ := q8_9
  refine g_st (st' := [.int r12]) rfl ?_
  have hK14 : XT I8 J9 = XT I J := hc8_10.trans hK7
  exact g_ireturn d_X2_howMuchTells_11 rfl rfl rfl rfl ⟨rfl, hK14, r12, rfl⟩
set_option maxRecDepth 100000 in
set_option maxHeartbeats 4000000 in
theorem ct_X2_nextSign (n : Int32) (I : Iv) (J : Jv) (hpri : PRI I) : Ct m_X2_nextSign [.ref 57, .int n] SHF I J (fun r S' I' J' => S' = SHF ∧ XT I' J' = XT I J ∧ ∃ v : Int32, r = some (.int v)) := by
  refine ct_of 6 (by decide +kernel) rfl rfl ?_
  have hK0 : XT I J = XT I J := rfl
  refine g_aload_n d_X2_nextSign_0 rfl ?_
  refine g_iload_n d_X2_nextSign_1 rfl ?_
  refine g_V1 d_X2_nextSign_2 cs_X2_nextSign_X2_weighAll lk_RX2_48 im_X2_weighAll se_X2_weighAll rfl rfl rfl (Nat.le_of_ble_eq_true rfl) ⟨rfl, rfl⟩ ⟨Nat.zero_le _, Nat.zero_le _⟩ (ct_X2_weighAll n I J hpri) (fun r2 S2 I1 J2 q2_2 => ?_)
  obtain ⟨rfl, hc2_3, r5, rfl, hr2_5⟩ := q2_2
  refine g_st (st' := [.long r5]) rfl ?_
  have hK7 : XT I1 J2 = XT I J := hc2_3.trans hK0
  refine g_lstore_n (L' := [some (.ref 57), some (.int n), some (.long r5), none, none, none, none, none]) d_X2_nextSign_5 (by decide) rfl ?_
  refine g_iconst (v := -1) d_X2_nextSign_6 kI_m1 ?_
  refine g_istore (L' := [some (.ref 57), some (.int n), some (.long r5), none, some (.int (-1 : Int32)), none, none, none]) d_X2_nextSign_7 (by decide) rfl ?_
  refine g_iconst (v := 0) d_X2_nextSign_9 kI_0 ?_
  refine g_istore (L' := [some (.ref 57), some (.int n), some (.long r5), none, some (.int (-1 : Int32)), some (.int (0 : Int32)), none, none]) d_X2_nextSign_10 (by decide) rfl ?_
  refine g_iconst (v := 0) d_X2_nextSign_12 kI_0 ?_
  refine g_istore (L' := [some (.ref 57), some (.int n), some (.long r5), none, some (.int (-1 : Int32)), some (.int (0 : Int32)), some (.int (0 : Int32)), none]) d_X2_nextSign_13 (by decide) rfl ?_
  have K_15 : ∀ (nu : Nat) (x8 : Int32) (x9 : Int32) (x10 : Int32) (I11 : Iv) (J12 : Jv), mU (7 : Int32) x10 = nu → (XT I11 J12 = XT I J) → ((0 : Int32) ≤ x10) → G m_X2_nextSign (rq m_X2_nextSign (fun r S' I' J' => S' = SHF ∧ XT I' J' = XT I J ∧ ∃ v : Int32, r = some (.int v))) 0 0 15 [some (.ref 57), some (.int n), some (.long r5), none, some (.int x8), some (.int x9), some (.int x10), none] [] SHF I11 J12 := by
    intro nu
    induction nu using Nat.strongRecOn with
    | ind nu ih_15 =>
      intro x8 x9 x10 I11 J12 hmu_15 hK13 hl14
      refine g_iload d_X2_nextSign_15 rfl ?_
      refine g_bipush (v := 7) d_X2_nextSign_17 kB_7 ?_
      refine g_icmp_ge d_X2_nextSign_19 (fun h19 => ?_) (fun h19 => ?_)
      · skip
        refine g_iload d_X2_nextSign_80 rfl ?_
        exact g_ireturn d_X2_nextSign_82 rfl rfl rfl rfl ⟨rfl, hK13, x8, rfl⟩
      · skip
        refine g_aload_n d_X2_nextSign_22 rfl ?_
        refine g_getR d_X2_nextSign_23 fq_RX2_9 rfl rfl ?_
        refine g_iload d_X2_nextSign_26 rfl ?_
        refine g_baload (N := 7) d_X2_nextSign_28 rfl kT_7 ⟨hl14, Int32.not_le.mp h19⟩ rfl (fun hz28 => ?_)
        refine g_if_eq d_X2_nextSign_29 (fun h29 => ?_) (fun h29 => ?_)
        · skip
          refine g_aload_n d_X2_nextSign_35 rfl ?_
          refine g_iload d_X2_nextSign_36 rfl ?_
          refine g_iload_n d_X2_nextSign_38 rfl ?_
          refine g_lload_n d_X2_nextSign_39 rfl ?_
          refine g_V3 d_X2_nextSign_40 cs_X2_nextSign_X2_tellingBy lk_RX2_56 im_X2_tellingBy se_X2_tellingBy rfl rfl rfl (Nat.le_of_ble_eq_true rfl) ⟨rfl, rfl⟩ ⟨Nat.zero_le _, Nat.zero_le _⟩ (ct_X2_tellingBy x10 n r5 I11 J12 (by grind) (by grind)) (fun r40 S40 I15 J16 q40_16 => ?_)
          obtain ⟨rfl, hc40_17, r19, rfl⟩ := q40_16
          refine g_st (st' := [.int r19]) rfl ?_
          have hK21 : XT I15 J16 = XT I J := hc40_17.trans hK13
          refine g_aload_n d_X2_nextSign_43 rfl ?_
          refine g_getR d_X2_nextSign_44 fq_RX2_25 rfl rfl ?_
          refine g_iload d_X2_nextSign_47 rfl ?_
          refine g_iaload (N := 7) d_X2_nextSign_49 rfl kT_7 ⟨hl14, Int32.not_le.mp h19⟩ rfl ?_
          refine g_isub d_X2_nextSign_50 ?_
          refine g_topI (fun v22 ev22 => ?_)
          refine g_istore (L' := [some (.ref 57), some (.int n), some (.long r5), none, some (.int x8), some (.int x9), some (.int x10), some (.int v22)]) d_X2_nextSign_51 (by decide) rfl ?_
          refine g_iload d_X2_nextSign_53 rfl ?_
          refine g_iconst (v := -1) d_X2_nextSign_55 kI_m1 ?_
          have J_66 : G m_X2_nextSign (rq m_X2_nextSign (fun r S' I' J' => S' = SHF ∧ XT I' J' = XT I J ∧ ∃ v : Int32, r = some (.int v))) 0 0 66 [some (.ref 57), some (.int n), some (.long r5), none, some (.int x8), some (.int x9), some (.int x10), some (.int v22)] [] SHF I15 J16 := by
            skip
            refine g_iload d_X2_nextSign_66 rfl ?_
            refine g_istore (L' := [some (.ref 57), some (.int n), some (.long r5), none, some (.int x10), some (.int x9), some (.int x10), some (.int v22)]) d_X2_nextSign_68 (by decide) rfl ?_
            refine g_iload d_X2_nextSign_70 rfl ?_
            refine g_istore (L' := [some (.ref 57), some (.int n), some (.long r5), none, some (.int x10), some (.int v22), some (.int x10), some (.int v22)]) d_X2_nextSign_72 (by decide) rfl ?_
            refine g_iinc (v := (x10 + (1 : Int32))) (L' := [some (.ref 57), some (.int n), some (.long r5), none, some (.int x10), some (.int v22), some (.int (x10 + (1 : Int32))), some (.int v22)]) d_X2_nextSign_74 rfl (by rw [kI_1]) (by decide) rfl ?_
            refine g_goto d_X2_nextSign_77 ?_
            refine g_sb [some (.ref 57), some (.int n), some (.long r5), none, some (.int x10), some (.int v22), some (.int (x10 + (1 : Int32))), none] (by simp [subL]) ?_
            exact ih_15 _ (by rw [← hmu_15]; exact mu_up h19) x10 v22 (x10 + (1 : Int32)) I15 J16 rfl hK21 (lo_up hl14 h19)
          refine g_icmp_eq d_X2_nextSign_56 (fun h56 => ?_) (fun h56 => ?_)
          · skip
            exact J_66
          · skip
            refine g_iload d_X2_nextSign_59 rfl ?_
            refine g_iload d_X2_nextSign_61 rfl ?_
            refine g_icmp_le d_X2_nextSign_63 (fun h63 => ?_) (fun h63 => ?_)
            · skip
              refine g_iinc (v := (x10 + (1 : Int32))) (L' := [some (.ref 57), some (.int n), some (.long r5), none, some (.int x8), some (.int x9), some (.int (x10 + (1 : Int32))), some (.int v22)]) d_X2_nextSign_74 rfl (by rw [kI_1]) (by decide) rfl ?_
              refine g_goto d_X2_nextSign_77 ?_
              refine g_sb [some (.ref 57), some (.int n), some (.long r5), none, some (.int x8), some (.int x9), some (.int (x10 + (1 : Int32))), none] (by simp [subL]) ?_
              exact ih_15 _ (by rw [← hmu_15]; exact mu_up h19) x8 x9 (x10 + (1 : Int32)) I15 J16 rfl hK21 (lo_up hl14 h19)
            · skip
              exact J_66
        · skip
          refine g_goto d_X2_nextSign_32 ?_
          refine g_iinc (v := (x10 + (1 : Int32))) (L' := [some (.ref 57), some (.int n), some (.long r5), none, some (.int x8), some (.int x9), some (.int (x10 + (1 : Int32))), none]) d_X2_nextSign_74 rfl (by rw [kI_1]) (by decide) rfl ?_
          refine g_goto d_X2_nextSign_77 ?_
          exact ih_15 _ (by rw [← hmu_15]; exact mu_up h19) x8 x9 (x10 + (1 : Int32)) I11 J12 rfl hK13 (lo_up hl14 h19)
  exact K_15 _ (-1 : Int32) (0 : Int32) (0 : Int32) I1 J2 rfl hK7 (Int32.le_refl _)
