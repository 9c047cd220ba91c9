set_option maxRecDepth 100000 in
set_option maxHeartbeats 4000000 in
theorem ct_X5_isFigure (x : Int32) (I : Iv) (J : Jv)  : Ct m_X5_isFigure [.int x] SHF I J (fun r S' I' J' => S' = SHF ∧ I = I' ∧ J = J' ∧ ∃ v : Int32, r = some (.int v) ∧ (v = 0 ∨ v = 1)) := by
  refine ct_of 0 (by decide +kernel) rfl rfl ?_
  refine g_iload_n d_X5_isFigure_0 rfl ?_
  refine g_bipush (v := 48) d_X5_isFigure_1 kB_48 ?_
  refine g_icmp_lt d_X5_isFigure_3 (fun h3 => ?_) (fun h3 => ?_)
  · skip
    refine g_iconst (v := 0) d_X5_isFigure_16 kI_0 ?_
    exact g_ireturn d_X5_isFigure_17 rfl rfl rfl rfl ⟨rfl, rfl, rfl, (0 : Int32), rfl, Or.inl rfl⟩
  · skip
    refine g_iload_n d_X5_isFigure_6 rfl ?_
    refine g_bipush (v := 57) d_X5_isFigure_7 kB_57 ?_
    refine g_icmp_gt d_X5_isFigure_9 (fun h9 => ?_) (fun h9 => ?_)
    · skip
      refine g_iconst (v := 0) d_X5_isFigure_16 kI_0 ?_
      exact g_ireturn d_X5_isFigure_17 rfl rfl rfl rfl ⟨rfl, rfl, rfl, (0 : Int32), rfl, Or.inl rfl⟩
    · skip
      refine g_iconst (v := 1) d_X5_isFigure_12 kI_1 ?_
      refine g_goto d_X5_isFigure_13 ?_
      exact g_ireturn d_X5_isFigure_17 rfl rfl rfl rfl ⟨rfl, rfl, rfl, (1 : Int32), rfl, Or.inr rfl⟩
set_option maxRecDepth 100000 in
set_option maxHeartbeats 4000000 in
theorem ct_X5_isLetter (x : Int32) (I : Iv) (J : Jv)  : Ct m_X5_isLetter [.int x] SHF I J (fun r S' I' J' => S' = SHF ∧ I = I' ∧ J = J' ∧ ∃ v : Int32, r = some (.int v) ∧ (v = 0 ∨ v = 1)) := by
  refine ct_of 0 (by decide +kernel) rfl rfl ?_
  refine g_iload_n d_X5_isLetter_0 rfl ?_
  refine g_bipush (v := 97) d_X5_isLetter_1 kB_97 ?_
  refine g_icmp_lt d_X5_isLetter_3 (fun h3 => ?_) (fun h3 => ?_)
  · skip
    refine g_iconst (v := 0) d_X5_isLetter_16 kI_0 ?_
    exact g_ireturn d_X5_isLetter_17 rfl rfl rfl rfl ⟨rfl, rfl, rfl, (0 : Int32), rfl, Or.inl rfl⟩
  · skip
    refine g_iload_n d_X5_isLetter_6 rfl ?_
    refine g_bipush (v := 122) d_X5_isLetter_7 kB_122 ?_
    refine g_icmp_gt d_X5_isLetter_9 (fun h9 => ?_) (fun h9 => ?_)
    · skip
      refine g_iconst (v := 0) d_X5_isLetter_16 kI_0 ?_
      exact g_ireturn d_X5_isLetter_17 rfl rfl rfl rfl ⟨rfl, rfl, rfl, (0 : Int32), rfl, Or.inl rfl⟩
    · skip
      refine g_iconst (v := 1) d_X5_isLetter_12 kI_1 ?_
      refine g_goto d_X5_isLetter_13 ?_
      exact g_ireturn d_X5_isLetter_17 rfl rfl rfl rfl ⟨rfl, rfl, rfl, (1 : Int32), rfl, Or.inr rfl⟩
set_option maxRecDepth 100000 in
set_option maxHeartbeats 4000000 in
theorem ct_X5_faultAt (number : Int32) (where_ : Int32) (I : Iv) (J : Jv) (hr0 : RDI I) : Ct m_X5_faultAt [.ref 1, .int number, .int where_] SHF I J (fun r S' I' J' => S' = SHF ∧ (XT I' J' = XT I J ∧ RDI I' ∧ I 1 2 ≤ I' 1 2) ∧ r = none) := by
  refine ct_of 0 (by decide +kernel) rfl rfl ?_
  have hK0 : (XT I J = XT I J ∧ RDI I ∧ I 1 2 ≤ I 1 2) := ⟨rfl, hr0, Int32.le_refl _⟩
  refine g_aload_n d_X5_faultAt_0 rfl ?_
  refine g_iload_n d_X5_faultAt_1 rfl ?_
  refine g_putI d_X5_faultAt_2 fq_RX5_50 rfl rfl ?_
  refine g_nmI (fun I1 eI1 => ?_)
  have hK2 : (XT I1 J = XT I J ∧ RDI I1 ∧ I 1 2 ≤ I1 1 2) := (by rw [eI1]; exact ⟨(xt_wI rfl).trans hK0.1, (rd_wI hK0.2.1 (by omega)).1, by rw [(rd_wI hK0.2.1 (by omega)).2]; exact hK0.2.2⟩)
  refine g_aload_n d_X5_faultAt_5 rfl ?_
  refine g_iload_n d_X5_faultAt_6 rfl ?_
  refine g_putI d_X5_faultAt_7 fq_RX5_15 rfl rfl ?_
  refine g_nmI (fun I3 eI3 => ?_)
  have hK4 : (XT I3 J = XT I J ∧ RDI I3 ∧ I 1 2 ≤ I3 1 2) := (by rw [eI3]; exact ⟨(xt_wI rfl).trans hK2.1, (rd_wI hK2.2.1 (by omega)).1, by rw [(rd_wI hK2.2.1 (by omega)).2]; exact hK2.2.2⟩)
  exact g_return d_X5_faultAt_10 rfl rfl rfl ⟨rfl, hK4, rfl⟩
set_option maxRecDepth 100000 in
set_option maxHeartbeats 4000000 in
theorem ct_X5_skipBlanks  (I : Iv) (J : Jv) (hr0 : RDI I) : Ct m_X5_skipBlanks [.ref 1] SHF I J (fun r S' I' J' => S' = SHF ∧ (XT I' J' = XT I J ∧ RDI I' ∧ I 1 2 ≤ I' 1 2) ∧ r = none) := by
  refine ct_of 0 (by decide +kernel) rfl rfl ?_
  have hK0 : (XT I J = XT I J ∧ RDI I ∧ I 1 2 ≤ I 1 2) := ⟨rfl, hr0, Int32.le_refl _⟩
  have K_0 : ∀ (nu : Nat) (I1 : Iv), mU (I1 1 1) (I1 1 2) = nu → ((XT I1 J = XT I J ∧ RDI I1 ∧ I 1 2 ≤ I1 1 2)) → G m_X5_skipBlanks (rq m_X5_skipBlanks (fun r S' I' J' => S' = SHF ∧ (XT I' J' = XT I J ∧ RDI I' ∧ I 1 2 ≤ I' 1 2) ∧ r = none)) 0 0 0 [some (.ref 1)] [] SHF I1 J := by
    intro nu
    induction nu using Nat.strongRecOn with
    | ind nu ih_0 =>
      intro I1 hmu_0 hK2
      refine g_aload_n d_X5_skipBlanks_0 rfl ?_
      refine g_getI d_X5_skipBlanks_1 fq_RX5_53 rfl rfl ?_
      refine g_aload_n d_X5_skipBlanks_4 rfl ?_
      refine g_getI d_X5_skipBlanks_5 fq_RX5_33 rfl rfl ?_
      refine g_icmp_ge d_X5_skipBlanks_8 (fun h8 => ?_) (fun h8 => ?_)
      · skip
        exact g_return d_X5_skipBlanks_38 rfl rfl rfl ⟨rfl, hK2, rfl⟩
      · skip
        refine g_aload_n d_X5_skipBlanks_11 rfl ?_
        refine g_getR d_X5_skipBlanks_12 fq_RX5_9 rfl rfl ?_
        refine g_aload_n d_X5_skipBlanks_15 rfl ?_
        refine g_getI d_X5_skipBlanks_16 fq_RX5_53 rfl rfl ?_
        refine g_caload (N := 300) d_X5_skipBlanks_19 rfl kT_300 (by constructor <;> grind) rfl ?_
        refine g_bipush (v := 32) d_X5_skipBlanks_20 kB_32 ?_
        refine g_icmp_ne d_X5_skipBlanks_22 (fun h22 => ?_) (fun h22 => ?_)
        · skip
          exact g_return d_X5_skipBlanks_38 rfl rfl rfl ⟨rfl, hK2, rfl⟩
        · skip
          refine g_aload_n d_X5_skipBlanks_25 rfl ?_
          refine g_dup d_X5_skipBlanks_26 rfl ?_
          refine g_getI d_X5_skipBlanks_27 fq_RX5_53 rfl rfl ?_
          refine g_iconst (v := 1) d_X5_skipBlanks_30 kI_1 ?_
          refine g_iadd d_X5_skipBlanks_31 ?_
          refine g_putI d_X5_skipBlanks_32 fq_RX5_53 rfl rfl ?_
          refine g_nmI (fun I3 eI3 => ?_)
          have hK4 : (XT I3 J = XT I J ∧ RDI I3 ∧ I 1 2 ≤ I3 1 2) := (by rw [eI3]; exact ⟨(xt_wI rfl).trans hK2.1, (rd_at hK2.2.1 h8).1, Int32.le_trans hK2.2.2 (rd_at hK2.2.1 h8).2⟩)
          refine g_goto d_X5_skipBlanks_35 ?_
          exact ih_0 _ (by rw [← hmu_0]; exact (by rw [eI3]; exact rd_step h8)) I3 rfl hK4
  exact K_0 _ I rfl hK0
set_option maxRecDepth 100000 in
set_option maxHeartbeats 4000000 in
theorem ct_X5_readWord  (I : Iv) (J : Jv) (hr0 : RDI I) : Ct m_X5_readWord [.ref 1] SHF I J (fun r S' I' J' => S' = SHF ∧ (XT I' J' = XT I J ∧ RDI I' ∧ I 1 2 ≤ I' 1 2) ∧ r = none) := by
  refine ct_of 0 (by decide +kernel) rfl rfl ?_
  have hK0 : (XT I J = XT I J ∧ RDI I ∧ I 1 2 ≤ I 1 2) := ⟨rfl, hr0, Int32.le_refl _⟩
  have K_0 : ∀ (nu : Nat) (I1 : Iv), mU (I1 1 1) (I1 1 2) = nu → ((XT I1 J = XT I J ∧ RDI I1 ∧ I 1 2 ≤ I1 1 2)) → G m_X5_readWord (rq m_X5_readWord (fun r S' I' J' => S' = SHF ∧ (XT I' J' = XT I J ∧ RDI I' ∧ I 1 2 ≤ I' 1 2) ∧ r = none)) 0 0 0 [some (.ref 1)] [] SHF I1 J := by
    intro nu
    induction nu using Nat.strongRecOn with
    | ind nu ih_0 =>
      intro I1 hmu_0 hK2
      refine g_aload_n d_X5_readWord_0 rfl ?_
      refine g_getI d_X5_readWord_1 fq_RX5_53 rfl rfl ?_
      refine g_aload_n d_X5_readWord_4 rfl ?_
      refine g_getI d_X5_readWord_5 fq_RX5_33 rfl rfl ?_
      refine g_icmp_ge d_X5_readWord_8 (fun h8 => ?_) (fun h8 => ?_)
      · skip
        exact g_return d_X5_readWord_39 rfl rfl rfl ⟨rfl, hK2, rfl⟩
      · skip
        refine g_aload_n d_X5_readWord_11 rfl ?_
        refine g_getR d_X5_readWord_12 fq_RX5_9 rfl rfl ?_
        refine g_aload_n d_X5_readWord_15 rfl ?_
        refine g_getI d_X5_readWord_16 fq_RX5_53 rfl rfl ?_
        refine g_caload (N := 300) d_X5_readWord_19 rfl kT_300 (by constructor <;> grind) rfl ?_
        refine g_S1 d_X5_readWord_20 cs_X5_readWord_X5_isLetter lk_RX5_106 im_X5_isLetter (Nat.le_of_ble_eq_true rfl) ⟨rfl, rfl⟩ ⟨Nat.zero_le _, Nat.zero_le _⟩ (ct_X5_isLetter (I1 2 ((I1 1 2)).toNatClampNeg) I1 J ) (fun r20 S20 Ic4 Jc5 q20_2 => ?_)
        obtain ⟨rfl, rfl, rfl, r7, rfl, hz20⟩ := q20_2
        refine g_st (st' := [.int r7]) rfl ?_
        refine g_if_eq d_X5_readWord_23 (fun h23 => ?_) (fun h23 => ?_)
        · skip
          exact g_return d_X5_readWord_39 rfl rfl rfl ⟨rfl, hK2, rfl⟩
        · skip
          refine g_aload_n d_X5_readWord_26 rfl ?_
          refine g_dup d_X5_readWord_27 rfl ?_
          refine g_getI d_X5_readWord_28 fq_RX5_53 rfl rfl ?_
          refine g_iconst (v := 1) d_X5_readWord_31 kI_1 ?_
          refine g_iadd d_X5_readWord_32 ?_
          refine g_putI d_X5_readWord_33 fq_RX5_53 rfl rfl ?_
          refine g_nmI (fun I9 eI9 => ?_)
          have hK10 : (XT I9 J = XT I J ∧ RDI I9 ∧ I 1 2 ≤ I9 1 2) := (by rw [eI9]; exact ⟨(xt_wI rfl).trans hK2.1, (rd_at hK2.2.1 h8).1, Int32.le_trans hK2.2.2 (rd_at hK2.2.1 h8).2⟩)
          refine g_goto d_X5_readWord_36 ?_
          exact ih_0 _ (by rw [← hmu_0]; exact (by rw [eI9]; exact rd_step h8)) I9 rfl hK10
  exact K_0 _ I rfl hK0
set_option maxRecDepth 100000 in
set_option maxHeartbeats 4000000 in
theorem ct_X5_begin  (I : Iv) (J : Jv) (hln : 0 ≤ I 1 1 ∧ I 1 1 ≤ 300) : Ct m_X5_begin [.ref 1] SHF I J (fun r S' I' J' => S' = SHF ∧ (XT I' J' = XT I J ∧ RDI I') ∧ r = none) := by
  refine ct_of 0 (by decide +kernel) rfl rfl ?_
  have hK0 : XT I J = XT I J := rfl
  refine g_aload_n d_X5_begin_0 rfl ?_
  refine g_iconst (v := 0) d_X5_begin_1 kI_0 ?_
  refine g_putI d_X5_begin_2 fq_RX5_53 rfl rfl ?_
  refine g_nmI (fun I1 eI1 => ?_)
  have hK2 : XT I1 J = XT I J := (by rw [eI1]; exact (xt_wI rfl).trans hK0)
  refine g_aload_n d_X5_begin_5 rfl ?_
  refine g_iconst (v := 0) d_X5_begin_6 kI_0 ?_
  refine g_putI d_X5_begin_7 fq_RX5_50 rfl rfl ?_
  refine g_nmI (fun I3 eI3 => ?_)
  have hK4 : XT I3 J = XT I J := (by rw [eI3]; exact (xt_wI rfl).trans hK2)
  refine g_aload_n d_X5_begin_10 rfl ?_
  refine g_iconst (v := -1) d_X5_begin_11 kI_m1 ?_
  refine g_putI d_X5_begin_12 fq_RX5_15 rfl rfl ?_
  refine g_nmI (fun I5 eI5 => ?_)
  have hK6 : XT I5 J = XT I J := (by rw [eI5]; exact (xt_wI rfl).trans hK4)
  refine g_aload_n d_X5_begin_15 rfl ?_
  refine g_iconst (v := 0) d_X5_begin_16 kI_0 ?_
  refine g_putI d_X5_begin_17 fq_RX5_69 rfl rfl ?_
  refine g_nmI (fun I7 eI7 => ?_)
  have hK8 : XT I7 J = XT I J := (by rw [eI7]; exact (xt_wI rfl).trans hK6)
  refine g_aload_n d_X5_begin_20 rfl ?_
  refine g_V0 d_X5_begin_21 cs_X5_begin_X5_skipBlanks lk_RX5_59 im_X5_skipBlanks se_X5_skipBlanks rfl rfl rfl (Nat.le_of_ble_eq_true rfl) ⟨rfl, rfl⟩ ⟨Nat.zero_le _, Nat.zero_le _⟩ (ct_X5_skipBlanks  I7 J (by simp only [eI1, eI3, eI5, eI7, RDI]; simp [wI]; exact hln)) (fun r21 S21 I9 J10 q21_10 => ?_)
  obtain ⟨rfl, hc21_11, rfl⟩ := q21_10
  refine g_st (st' := []) rfl ?_
  have hK14 : XT I9 J10 = XT I J := (hc21_11).1.trans hK8
  have hrd : RDI I9 := (hc21_11).2.1
  exact g_return d_X5_begin_24 rfl rfl rfl ⟨rfl, ⟨hK14, hrd⟩, rfl⟩
set_option maxRecDepth 100000 in
set_option maxHeartbeats 4000000 in
theorem ct_X5_wordOf (x : Int32) (I : Iv) (J : Jv)  : Ct m_X5_wordOf [.int x] SHF I J (fun r S' I' J' => S' = SHF ∧ I = I' ∧ J = J' ∧ ∃ a : Nat, r = some (.ref a) ∧ ∃ j : Nat, j < 14 ∧ a = 2000000 + j) := by
  refine ct_of 0 (by decide +kernel) rfl rfl ?_
  refine g_iload_n d_X5_wordOf_0 rfl ?_
  rcases sw_split x (0) (11) with h1 | h1
  · skip
    refine g_swOut d_X5_wordOf_1 h1 ?_
    refine g_ldcS (j := 12) d_X5_wordOf_100 rfl rfl ?_
    exact g_areturn d_X5_wordOf_102 rfl rfl rfl (Or.inl ⟨_, rfl⟩) ⟨rfl, rfl, rfl, (2000000 + 12), rfl, ⟨_, by decide, rfl⟩⟩
  · skip
    have hz : ∃ k : Nat, k < 12 ∧ (x).toInt = (0 : Int) + (k : Int) := by obtain ⟨k, h1, h2⟩ := sw_k h1; exact ⟨k, by omega, h2⟩
    obtain ⟨k, hk, hz⟩ := hz
    match k, hk, hz with
    | 0, _, hz =>
      refine g_swIn d_X5_wordOf_1_0 (by rw [hz]; decide) (by rw [hz]; decide) (by rw [hz]; rfl) ?_
      refine g_ldcS (j := 0) d_X5_wordOf_64 rfl rfl ?_
      exact g_areturn d_X5_wordOf_66 rfl rfl rfl (Or.inl ⟨_, rfl⟩) ⟨rfl, rfl, rfl, (2000000 + 0), rfl, ⟨_, by decide, rfl⟩⟩
    | 1, _, hz =>
      refine g_swIn d_X5_wordOf_1_1 (by rw [hz]; decide) (by rw [hz]; decide) (by rw [hz]; rfl) ?_
      refine g_ldcS (j := 1) d_X5_wordOf_67 rfl rfl ?_
      exact g_areturn d_X5_wordOf_69 rfl rfl rfl (Or.inl ⟨_, rfl⟩) ⟨rfl, rfl, rfl, (2000000 + 1), rfl, ⟨_, by decide, rfl⟩⟩
    | 2, _, hz =>
      refine g_swIn d_X5_wordOf_1_2 (by rw [hz]; decide) (by rw [hz]; decide) (by rw [hz]; rfl) ?_
      refine g_ldcS (j := 2) d_X5_wordOf_70 rfl rfl ?_
      exact g_areturn d_X5_wordOf_72 rfl rfl rfl (Or.inl ⟨_, rfl⟩) ⟨rfl, rfl, rfl, (2000000 + 2), rfl, ⟨_, by decide, rfl⟩⟩
    | 3, _, hz =>
      refine g_swIn d_X5_wordOf_1_3 (by rw [hz]; decide) (by rw [hz]; decide) (by rw [hz]; rfl) ?_
      refine g_ldcS (j := 3) d_X5_wordOf_73 rfl rfl ?_
      exact g_areturn d_X5_wordOf_75 rfl rfl rfl (Or.inl ⟨_, rfl⟩) ⟨rfl, rfl, rfl, (2000000 + 3), rfl, ⟨_, by decide, rfl⟩⟩
    | 4, _, hz =>
      refine g_swIn d_X5_wordOf_1_4 (by rw [hz]; decide) (by rw [hz]; decide) (by rw [hz]; rfl) ?_
      refine g_ldcS (j := 4) d_X5_wordOf_76 rfl rfl ?_
      exact g_areturn d_X5_wordOf_78 rfl rfl rfl (Or.inl ⟨_, rfl⟩) ⟨rfl, rfl, rfl, (2000000 + 4), rfl, ⟨_, by decide, rfl⟩⟩
    | 5, _, hz =>
      refine g_swIn d_X5_wordOf_1_5 (by rw [hz]; decide) (by rw [hz]; decide) (by rw [hz]; rfl) ?_
      refine g_ldcS (j := 5) d_X5_wordOf_79 rfl rfl ?_
      exact g_areturn d_X5_wordOf_81 rfl rfl rfl (Or.inl ⟨_, rfl⟩) ⟨rfl, rfl, rfl, (2000000 + 5), rfl, ⟨_, by decide, rfl⟩⟩
    | 6, _, hz =>
      refine g_swIn d_X5_wordOf_1_6 (by rw [hz]; decide) (by rw [hz]; decide) (by rw [hz]; rfl) ?_
      refine g_ldcS (j := 6) d_X5_wordOf_82 rfl rfl ?_
      exact g_areturn d_X5_wordOf_84 rfl rfl rfl (Or.inl ⟨_, rfl⟩) ⟨rfl, rfl, rfl, (2000000 + 6), rfl, ⟨_, by decide, rfl⟩⟩
    | 7, _, hz =>
      refine g_swIn d_X5_wordOf_1_7 (by rw [hz]; decide) (by rw [hz]; decide) (by rw [hz]; rfl) ?_
      refine g_ldcS (j := 7) d_X5_wordOf_85 rfl rfl ?_
      exact g_areturn d_X5_wordOf_87 rfl rfl rfl (Or.inl ⟨_, rfl⟩) ⟨rfl, rfl, rfl, (2000000 + 7), rfl, ⟨_, by decide, rfl⟩⟩
    | 8, _, hz =>
      refine g_swIn d_X5_wordOf_1_8 (by rw [hz]; decide) (by rw [hz]; decide) (by rw [hz]; rfl) ?_
      refine g_ldcS (j := 8) d_X5_wordOf_88 rfl rfl ?_
      exact g_areturn d_X5_wordOf_90 rfl rfl rfl (Or.inl ⟨_, rfl⟩) ⟨rfl, rfl, rfl, (2000000 + 8), rfl, ⟨_, by decide, rfl⟩⟩
    | 9, _, hz =>
      refine g_swIn d_X5_wordOf_1_9 (by rw [hz]; decide) (by rw [hz]; decide) (by rw [hz]; rfl) ?_
      refine g_ldcS (j := 9) d_X5_wordOf_91 rfl rfl ?_
      exact g_areturn d_X5_wordOf_93 rfl rfl rfl (Or.inl ⟨_, rfl⟩) ⟨rfl, rfl, rfl, (2000000 + 9), rfl, ⟨_, by decide, rfl⟩⟩
    | 10, _, hz =>
      refine g_swIn d_X5_wordOf_1_10 (by rw [hz]; decide) (by rw [hz]; decide) (by rw [hz]; rfl) ?_
      refine g_ldcS (j := 10) d_X5_wordOf_94 rfl rfl ?_
      exact g_areturn d_X5_wordOf_96 rfl rfl rfl (Or.inl ⟨_, rfl⟩) ⟨rfl, rfl, rfl, (2000000 + 10), rfl, ⟨_, by decide, rfl⟩⟩
    | 11, _, hz =>
      refine g_swIn d_X5_wordOf_1_11 (by rw [hz]; decide) (by rw [hz]; decide) (by rw [hz]; rfl) ?_
      refine g_ldcS (j := 11) d_X5_wordOf_97 rfl rfl ?_
      exact g_areturn d_X5_wordOf_99 rfl rfl rfl (Or.inl ⟨_, rfl⟩) ⟨rfl, rfl, rfl, (2000000 + 11), rfl, ⟨_, by decide, rfl⟩⟩
    | k + 12, hk, _ => exact absurd hk (by omega)
set_option maxRecDepth 100000 in
set_option maxHeartbeats 4000000 in
theorem ct_X5_isWord (first : Int32) {j : Nat} (I : Iv) (J : Jv) (hj : j < 14) (hf : 0 ≤ first ∧ first ≤ I 1 2) (hr0 : RDI I) : Ct m_X5_isWord [.ref 1, .ref (2000000 + j), .int first] SHF I J (fun r S' I' J' => S' = SHF ∧ I = I' ∧ J = J' ∧ ∃ v : Int32, r = some (.int v) ∧ (v = 0 ∨ v = 1)) := by
  refine ct_of 1 (by decide +kernel) rfl rfl ?_
  refine g_aload_n d_X5_isWord_0 rfl ?_
  refine g_getI d_X5_isWord_1 fq_RX5_53 rfl rfl ?_
  refine g_iload_n d_X5_isWord_4 rfl ?_
  refine g_isub d_X5_isWord_5 ?_
  refine g_aload_n d_X5_isWord_6 rfl ?_
  refine g_T0 d_X5_isWord_7 cs_X5_isWord_J0_length_8abf5 lk_RX5_113 im_J0_length_8abf5 se_J0_length_8abf5 hj rfl (Nat.le_of_ble_eq_true rfl) ⟨rfl, rfl⟩ ⟨Nat.zero_le _, Nat.zero_le _⟩ (ct_J0_length_8abf5 hj I J) (fun r7 S7 Ic2 Jc3 q7_0 => ?_)
  obtain ⟨rfl, rfl, rfl, r5, rfl, hr7_5⟩ := q7_0
  refine g_st (st' := [.int r5, .int ((I 1 2) - first)]) rfl ?_
  subst hr7_5
  refine g_icmp_eq d_X5_isWord_10 (fun h10 => ?_) (fun h10 => ?_)
  · skip
    refine g_iconst (v := 0) d_X5_isWord_15 kI_0 ?_
    refine g_istore_n (L' := [some (.ref 1), some (.ref (2000000 + j)), some (.int first), some (.int (0 : Int32))]) d_X5_isWord_16 (by decide) rfl ?_
    have K_17 : ∀ (nu : Nat) (x7 : Int32), mU (Int32.ofNat (sB j).length) x7 = nu → ((0 : Int32) ≤ x7) → G m_X5_isWord (rq m_X5_isWord (fun r S' I' J' => S' = SHF ∧ I = I' ∧ J = J' ∧ ∃ v : Int32, r = some (.int v) ∧ (v = 0 ∨ v = 1))) 0 0 17 [some (.ref 1), some (.ref (2000000 + j)), some (.int first), some (.int x7)] [] SHF I J := by
      intro nu
      induction nu using Nat.strongRecOn with
      | ind nu ih_17 =>
        intro x7 hmu_17 hl8
        refine g_iload_n d_X5_isWord_17 rfl ?_
        refine g_aload_n d_X5_isWord_18 rfl ?_
        refine g_T0 d_X5_isWord_19 cs_X5_isWord_J0_length_8abf5 lk_RX5_113 im_J0_length_8abf5 se_J0_length_8abf5 hj rfl (Nat.le_of_ble_eq_true rfl) ⟨rfl, rfl⟩ ⟨Nat.zero_le _, Nat.zero_le _⟩ (ct_J0_length_8abf5 hj I J) (fun r19 S19 Ic10 Jc11 q19_8 => ?_)
        obtain ⟨rfl, rfl, rfl, r13, rfl, hr19_13⟩ := q19_8
        refine g_st (st' := [.int r13, .int x7]) rfl ?_
        subst hr19_13
        refine g_icmp_ge d_X5_isWord_22 (fun h22 => ?_) (fun h22 => ?_)
        · skip
          refine g_iconst (v := 1) d_X5_isWord_49 kI_1 ?_
          exact g_ireturn d_X5_isWord_50 rfl rfl rfl rfl ⟨rfl, rfl, rfl, (1 : Int32), rfl, Or.inr rfl⟩
        · skip
          refine g_aload_n d_X5_isWord_25 rfl ?_
          refine g_getR d_X5_isWord_26 fq_RX5_9 rfl rfl ?_
          refine g_iload_n d_X5_isWord_29 rfl ?_
          refine g_iload_n d_X5_isWord_30 rfl ?_
          refine g_iadd d_X5_isWord_31 ?_
          refine g_caload (N := 300) d_X5_isWord_32 rfl kT_300 (by constructor <;> grind) rfl ?_
          refine g_aload_n d_X5_isWord_33 rfl ?_
          refine g_iload_n d_X5_isWord_34 rfl ?_
          refine g_T1 d_X5_isWord_35 cs_X5_isWord_J0_charAt_5068e lk_RX5_118 im_J0_charAt_5068e se_J0_charAt_5068e hj rfl (Nat.le_of_ble_eq_true rfl) ⟨rfl, rfl⟩ ⟨Nat.zero_le _, Nat.zero_le _⟩ (ct_J0_charAt_5068e hj x7 (by constructor <;> grind) I J) (fun r35 S35 Ic16 Jc17 q35_14 => ?_)
          obtain ⟨rfl, rfl, rfl, r19, rfl, hr35_19⟩ := q35_14
          refine g_st (st' := [.int r19, .int (I 2 ((first + x7)).toNatClampNeg)]) rfl ?_
          refine g_icmp_eq d_X5_isWord_38 (fun h38 => ?_) (fun h38 => ?_)
          · skip
            refine g_iinc (v := (x7 + (1 : Int32))) (L' := [some (.ref 1), some (.ref (2000000 + j)), some (.int first), some (.int (x7 + (1 : Int32)))]) d_X5_isWord_43 rfl (by rw [kI_1]) (by decide) rfl ?_
            refine g_goto d_X5_isWord_46 ?_
            exact ih_17 _ (by rw [← hmu_17]; exact mu_up h22) (x7 + (1 : Int32)) rfl (lo_up hl8 h22)
          · skip
            refine g_iconst (v := 0) d_X5_isWord_41 kI_0 ?_
            exact g_ireturn d_X5_isWord_42 rfl rfl rfl rfl ⟨rfl, rfl, rfl, (0 : Int32), rfl, Or.inl rfl⟩
    exact K_17 _ (0 : Int32) rfl (Int32.le_refl _)
  · skip
    refine g_iconst (v := 0) d_X5_isWord_13 kI_0 ?_
    exact g_ireturn d_X5_isWord_14 rfl rfl rfl rfl ⟨rfl, rfl, rfl, (0 : Int32), rfl, Or.inl rfl⟩
set_option maxRecDepth 100000 in
set_option maxHeartbeats 4000000 in
theorem ct_X5_clauseFrom (first : Int32) (I : Iv) (J : Jv) (hf : 0 ≤ first ∧ first ≤ I 1 2) (hr0 : RDI I) : Ct m_X5_clauseFrom [.ref 1, .int first] SHF I J (fun r S' I' J' => S' = SHF ∧ I = I' ∧ J = J' ∧ ∃ v : Int32, r = some (.int v)) := by
  refine ct_of 1 (by decide +kernel) rfl rfl ?_
  refine g_iconst (v := 0) d_X5_clauseFrom_0 kI_0 ?_
  refine g_istore_n (L' := [some (.ref 1), some (.int first), some (.int (0 : Int32))]) d_X5_clauseFrom_1 (by decide) rfl ?_
  have K_2 : ∀ (nu : Nat) (x1 : Int32), mU (13 : Int32) x1 = nu → ((0 : Int32) ≤ x1) → G m_X5_clauseFrom (rq m_X5_clauseFrom (fun r S' I' J' => S' = SHF ∧ I = I' ∧ J = J' ∧ ∃ v : Int32, r = some (.int v))) 0 0 2 [some (.ref 1), some (.int first), some (.int x1)] [] SHF I J := by
    intro nu
    induction nu using Nat.strongRecOn with
    | ind nu ih_2 =>
      intro x1 hmu_2 hl2
      refine g_iload_n d_X5_clauseFrom_2 rfl ?_
      refine g_bipush (v := 13) d_X5_clauseFrom_3 kB_13 ?_
      refine g_icmp_ge d_X5_clauseFrom_5 (fun h5 => ?_) (fun h5 => ?_)
      · skip
        refine g_iconst (v := -1) d_X5_clauseFrom_28 kI_m1 ?_
        exact g_ireturn d_X5_clauseFrom_29 rfl rfl rfl rfl ⟨rfl, rfl, rfl, (-1 : Int32), rfl⟩
      · skip
        refine g_aload_n d_X5_clauseFrom_8 rfl ?_
        refine g_iload_n d_X5_clauseFrom_9 rfl ?_
        refine g_S1 d_X5_clauseFrom_10 cs_X5_clauseFrom_X5_wordOf lk_RX5_109 im_X5_wordOf (Nat.le_of_ble_eq_true rfl) ⟨rfl, rfl⟩ ⟨Nat.zero_le _, Nat.zero_le _⟩ (ct_X5_wordOf x1 I J ) (fun r10 S10 Ic4 Jc5 q10_2 => ?_)
        obtain ⟨rfl, rfl, rfl, r7, rfl, hr10_7⟩ := q10_2
        refine g_st (st' := [.ref r7, .ref 1]) rfl ?_
        obtain ⟨j, hj, rfl⟩ := hr10_7
        refine g_iload_n d_X5_clauseFrom_13 rfl ?_
        refine g_V2 d_X5_clauseFrom_14 cs_X5_clauseFrom_X5_isWord lk_RX5_98 im_X5_isWord se_X5_isWord rfl rfl rfl (Nat.le_of_ble_eq_true rfl) ⟨rfl, rfl⟩ ⟨Nat.zero_le _, Nat.zero_le _⟩ (ct_X5_isWord first I J (by grind) hf hr0) (fun r14 S14 Ic10 Jc11 q14_8 => ?_)
        obtain ⟨rfl, rfl, rfl, r13, rfl, hz14⟩ := q14_8
        refine g_st (st' := [.int r13]) rfl ?_
        refine g_if_eq d_X5_clauseFrom_17 (fun h17 => ?_) (fun h17 => ?_)
        · skip
          refine g_iinc (v := (x1 + (1 : Int32))) (L' := [some (.ref 1), some (.int first), some (.int (x1 + (1 : Int32)))]) d_X5_clauseFrom_22 rfl (by rw [kI_1]) (by decide) rfl ?_
          refine g_goto d_X5_clauseFrom_25 ?_
          exact ih_2 _ (by rw [← hmu_2]; exact mu_up h5) (x1 + (1 : Int32)) rfl (lo_up hl2 h5)
        · skip
          refine g_iload_n d_X5_clauseFrom_20 rfl ?_
          exact g_ireturn d_X5_clauseFrom_21 rfl rfl rfl rfl ⟨rfl, rfl, rfl, x1, rfl⟩
  exact K_2 _ (0 : Int32) rfl (Int32.le_refl _)
set_option maxRecDepth 100000 in
set_option maxHeartbeats 4000000 in
theorem ct_X5_readNumber (least : Int32) (most : Int32) (I : Iv) (J : Jv) (hr0 : RDI I) : Ct m_X5_readNumber [.ref 1, .int least, .int most] SHF I J (fun r S' I' J' => S' = SHF ∧ (XT I' J' = XT I J ∧ RDI I' ∧ I 1 2 ≤ I' 1 2) ∧ ∃ v : Int32, r = some (.int v)) := by
  refine ct_of 2 (by decide +kernel) rfl rfl ?_
  have hK0 : (XT I J = XT I J ∧ RDI I ∧ I 1 2 ≤ I 1 2) := ⟨rfl, hr0, Int32.le_refl _⟩
  refine g_aload_n d_X5_readNumber_0 rfl ?_
  refine g_getI d_X5_readNumber_1 fq_RX5_50 rfl rfl ?_
  refine g_if_eq d_X5_readNumber_4 (fun h4 => ?_) (fun h4 => ?_)
  · skip
    refine g_aload_n d_X5_readNumber_9 rfl ?_
    refine g_V0 d_X5_readNumber_10 cs_X5_readNumber_X5_skipBlanks lk_RX5_59 im_X5_skipBlanks se_X5_skipBlanks rfl rfl rfl (Nat.le_of_ble_eq_true rfl) ⟨rfl, rfl⟩ ⟨Nat.zero_le _, Nat.zero_le _⟩ (ct_X5_skipBlanks  I J hr0) (fun r10 S10 I1 J2 q10_2 => ?_)
    obtain ⟨rfl, hc10_3, rfl⟩ := q10_2
    refine g_st (st' := []) rfl ?_
    have hK6 : (XT I1 J2 = XT I J ∧ RDI I1 ∧ I 1 2 ≤ I1 1 2) := ⟨hc10_3.1.trans hK0.1, hc10_3.2.1, Int32.le_trans hK0.2.2 hc10_3.2.2⟩
    refine g_aload_n d_X5_readNumber_13 rfl ?_
    refine g_getI d_X5_readNumber_14 fq_RX5_53 rfl rfl ?_
    refine g_topI (fun v7 ev7 => ?_)
    refine g_istore_n (L' := [some (.ref 1), some (.int least), some (.int most), some (.int v7), none]) d_X5_readNumber_17 (by decide) rfl ?_
    refine g_iconst (v := 0) d_X5_readNumber_18 kI_0 ?_
    refine g_istore (L' := [some (.ref 1), some (.int least), some (.int most), some (.int v7), some (.int (0 : Int32))]) d_X5_readNumber_19 (by decide) rfl ?_
    have K_21 : ∀ (nu : Nat) (x8 : Int32) (I9 : Iv), mU (I9 1 1) (I9 1 2) = nu → ((XT I9 J2 = XT I J ∧ RDI I9 ∧ I 1 2 ≤ I9 1 2)) → G m_X5_readNumber (rq m_X5_readNumber (fun r S' I' J' => S' = SHF ∧ (XT I' J' = XT I J ∧ RDI I' ∧ I 1 2 ≤ I' 1 2) ∧ ∃ v : Int32, r = some (.int v))) 0 0 21 [some (.ref 1), some (.int least), some (.int most), some (.int v7), some (.int x8)] [] SHF I9 J2 := by
      intro nu
      induction nu using Nat.strongRecOn with
      | ind nu ih_21 =>
        intro x8 I9 hmu_21 hK10
        refine g_aload_n d_X5_readNumber_21 rfl ?_
        refine g_getI d_X5_readNumber_22 fq_RX5_53 rfl rfl ?_
        refine g_aload_n d_X5_readNumber_25 rfl ?_
        refine g_getI d_X5_readNumber_26 fq_RX5_33 rfl rfl ?_
        have J_90 : G m_X5_readNumber (rq m_X5_readNumber (fun r S' I' J' => S' = SHF ∧ (XT I' J' = XT I J ∧ RDI I' ∧ I 1 2 ≤ I' 1 2) ∧ ∃ v : Int32, r = some (.int v))) 0 0 90 [some (.ref 1), some (.int least), some (.int most), some (.int v7), some (.int x8)] [] SHF I9 J2 := by
          skip
          refine g_aload_n d_X5_readNumber_90 rfl ?_
          refine g_getI d_X5_readNumber_91 fq_RX5_53 rfl rfl ?_
          refine g_iload_n d_X5_readNumber_94 rfl ?_
          refine g_icmp_ne d_X5_readNumber_95 (fun h95 => ?_) (fun h95 => ?_)
          · skip
            refine g_aload_n d_X5_readNumber_107 rfl ?_
            refine g_getI d_X5_readNumber_108 fq_RX5_53 rfl rfl ?_
            refine g_iload_n d_X5_readNumber_111 rfl ?_
            refine g_isub d_X5_readNumber_112 ?_
            refine g_iconst (v := 3) d_X5_readNumber_113 kI_3 ?_
            have J_129 : G m_X5_readNumber (rq m_X5_readNumber (fun r S' I' J' => S' = SHF ∧ (XT I' J' = XT I J ∧ RDI I' ∧ I 1 2 ≤ I' 1 2) ∧ ∃ v : Int32, r = some (.int v))) 0 0 129 [some (.ref 1), some (.int least), some (.int most), some (.int v7), some (.int x8)] [] SHF I9 J2 := by
              skip
              refine g_aload_n d_X5_readNumber_129 rfl ?_
              refine g_iconst (v := 2) d_X5_readNumber_130 kI_2 ?_
              refine g_iload_n d_X5_readNumber_131 rfl ?_
              refine g_V2 d_X5_readNumber_132 cs_X5_readNumber_X5_faultAt lk_RX5_62 im_X5_faultAt se_X5_faultAt rfl rfl rfl (Nat.le_of_ble_eq_true rfl) ⟨rfl, rfl⟩ ⟨Nat.zero_le _, Nat.zero_le _⟩ (ct_X5_faultAt (2 : Int32) v7 I9 J2 (hK10.2.1)) (fun r132 S132 I11 J12 q132_12 => ?_)
              obtain ⟨rfl, hc132_13, rfl⟩ := q132_12
              refine g_st (st' := []) rfl ?_
              have hK16 : (XT I11 J12 = XT I J ∧ RDI I11 ∧ I 1 2 ≤ I11 1 2) := ⟨hc132_13.1.trans hK10.1, hc132_13.2.1, Int32.le_trans hK10.2.2 hc132_13.2.2⟩
              refine g_iload d_X5_readNumber_135 rfl ?_
              exact g_ireturn d_X5_readNumber_137 rfl rfl rfl rfl ⟨rfl, hK16, x8, rfl⟩
            refine g_icmp_gt d_X5_readNumber_114 (fun h114 => ?_) (fun h114 => ?_)
            · skip
              exact J_129
            · skip
              refine g_iload d_X5_readNumber_117 rfl ?_
              refine g_iload_n d_X5_readNumber_119 rfl ?_
              refine g_icmp_lt d_X5_readNumber_120 (fun h120 => ?_) (fun h120 => ?_)
              · skip
                exact J_129
              · skip
                refine g_iload d_X5_readNumber_123 rfl ?_
                refine g_iload_n d_X5_readNumber_125 rfl ?_
                refine g_icmp_le d_X5_readNumber_126 (fun h126 => ?_) (fun h126 => ?_)
                · skip
                  refine g_iload d_X5_readNumber_135 rfl ?_
                  exact g_ireturn d_X5_readNumber_137 rfl rfl rfl rfl ⟨rfl, hK10, x8, rfl⟩
                · skip
                  exact J_129
          · skip
            refine g_aload_n d_X5_readNumber_98 rfl ?_
            refine g_iconst (v := 1) d_X5_readNumber_99 kI_1 ?_
            refine g_iload_n d_X5_readNumber_100 rfl ?_
            refine g_V2 d_X5_readNumber_101 cs_X5_readNumber_X5_faultAt lk_RX5_62 im_X5_faultAt se_X5_faultAt rfl rfl rfl (Nat.le_of_ble_eq_true rfl) ⟨rfl, rfl⟩ ⟨Nat.zero_le _, Nat.zero_le _⟩ (ct_X5_faultAt (1 : Int32) v7 I9 J2 (hK10.2.1)) (fun r101 S101 I17 J18 q101_18 => ?_)
            obtain ⟨rfl, hc101_19, rfl⟩ := q101_18
            refine g_st (st' := []) rfl ?_
            have hK22 : (XT I17 J18 = XT I J ∧ RDI I17 ∧ I 1 2 ≤ I17 1 2) := ⟨hc101_19.1.trans hK10.1, hc101_19.2.1, Int32.le_trans hK10.2.2 hc101_19.2.2⟩
            refine g_goto d_X5_readNumber_104 ?_
            refine g_iload d_X5_readNumber_135 rfl ?_
            exact g_ireturn d_X5_readNumber_137 rfl rfl rfl rfl ⟨rfl, hK22, x8, rfl⟩
        refine g_icmp_ge d_X5_readNumber_29 (fun h29 => ?_) (fun h29 => ?_)
        · skip
          exact J_90
        · skip
          refine g_aload_n d_X5_readNumber_32 rfl ?_
          refine g_getR d_X5_readNumber_33 fq_RX5_9 rfl rfl ?_
          refine g_aload_n d_X5_readNumber_36 rfl ?_
          refine g_getI d_X5_readNumber_37 fq_RX5_53 rfl rfl ?_
          refine g_caload (N := 300) d_X5_readNumber_40 rfl kT_300 (by constructor <;> grind) rfl ?_
          refine g_S1 d_X5_readNumber_41 cs_X5_readNumber_X5_isFigure lk_RX5_102 im_X5_isFigure (Nat.le_of_ble_eq_true rfl) ⟨rfl, rfl⟩ ⟨Nat.zero_le _, Nat.zero_le _⟩ (ct_X5_isFigure (I9 2 ((I9 1 2)).toNatClampNeg) I9 J2 ) (fun r41 S41 Ic24 Jc25 q41_22 => ?_)
          obtain ⟨rfl, rfl, rfl, r27, rfl, hz41⟩ := q41_22
          refine g_st (st' := [.int r27]) rfl ?_
          refine g_if_eq d_X5_readNumber_44 (fun h44 => ?_) (fun h44 => ?_)
          · skip
            exact J_90
          · skip
            refine g_aload_n d_X5_readNumber_47 rfl ?_
            refine g_getI d_X5_readNumber_48 fq_RX5_53 rfl rfl ?_
            refine g_iload_n d_X5_readNumber_51 rfl ?_
            refine g_isub d_X5_readNumber_52 ?_
            refine g_iconst (v := 3) d_X5_readNumber_53 kI_3 ?_
            have J_77 : ∀ (y29 : Int32), G m_X5_readNumber (rq m_X5_readNumber (fun r S' I' J' => S' = SHF ∧ (XT I' J' = XT I J ∧ RDI I' ∧ I 1 2 ≤ I' 1 2) ∧ ∃ v : Int32, r = some (.int v))) 0 0 77 [some (.ref 1), some (.int least), some (.int most), some (.int v7), some (.int y29)] [] SHF I9 J2 := by
              intro y29
              refine g_aload_n d_X5_readNumber_77 rfl ?_
              refine g_dup d_X5_readNumber_78 rfl ?_
              refine g_getI d_X5_readNumber_79 fq_RX5_53 rfl rfl ?_
              refine g_iconst (v := 1) d_X5_readNumber_82 kI_1 ?_
              refine g_iadd d_X5_readNumber_83 ?_
              refine g_putI d_X5_readNumber_84 fq_RX5_53 rfl rfl ?_
              refine g_nmI (fun I30 eI30 => ?_)
              have hK31 : (XT I30 J2 = XT I J ∧ RDI I30 ∧ I 1 2 ≤ I30 1 2) := (by rw [eI30]; exact ⟨(xt_wI rfl).trans hK10.1, (rd_at hK10.2.1 h29).1, Int32.le_trans hK10.2.2 (rd_at hK10.2.1 h29).2⟩)
              refine g_goto d_X5_readNumber_87 ?_
              exact ih_21 _ (by rw [← hmu_21]; exact (by rw [eI30]; exact rd_step h29)) y29 I30 rfl hK31
            refine g_icmp_ge d_X5_readNumber_54 (fun h54 => ?_) (fun h54 => ?_)
            · skip
              exact J_77 x8
            · skip
              refine g_iload d_X5_readNumber_57 rfl ?_
              refine g_bipush (v := 10) d_X5_readNumber_59 kB_10 ?_
              refine g_imul d_X5_readNumber_61 ?_
              refine g_aload_n d_X5_readNumber_62 rfl ?_
              refine g_getR d_X5_readNumber_63 fq_RX5_9 rfl rfl ?_
              refine g_aload_n d_X5_readNumber_66 rfl ?_
              refine g_getI d_X5_readNumber_67 fq_RX5_53 rfl rfl ?_
              refine g_caload (N := 300) d_X5_readNumber_70 rfl kT_300 (by constructor <;> grind) rfl ?_
              refine g_bipush (v := 48) d_X5_readNumber_71 kB_48 ?_
              refine g_isub d_X5_readNumber_73 ?_
              refine g_iadd d_X5_readNumber_74 ?_
              refine g_topI (fun v32 ev32 => ?_)
              refine g_istore (L' := [some (.ref 1), some (.int least), some (.int most), some (.int v7), some (.int v32)]) d_X5_readNumber_75 (by decide) rfl ?_
              exact J_77 v32
    exact K_21 _ (0 : Int32) I1 rfl hK6
  · skip
    refine g_iconst (v := 0) d_X5_readNumber_7 kI_0 ?_
    exact g_ireturn d_X5_readNumber_8 rfl rfl rfl rfl ⟨rfl, hK0, (0 : Int32), rfl⟩
set_option maxRecDepth 100000 in
set_option maxHeartbeats 4000000 in
theorem ct_X5_readClauseEnd  (I : Iv) (J : Jv) (hr0 : RDI I) : Ct m_X5_readClauseEnd [.ref 1] SHF I J (fun r S' I' J' => S' = SHF ∧ (XT I' J' = XT I J ∧ RDI I' ∧ I 1 2 ≤ I' 1 2) ∧ r = none) := by
  refine ct_of 0 (by decide +kernel) rfl rfl ?_
  have hK0 : (XT I J = XT I J ∧ RDI I ∧ I 1 2 ≤ I 1 2) := ⟨rfl, hr0, Int32.le_refl _⟩
  refine g_aload_n d_X5_readClauseEnd_0 rfl ?_
  refine g_getI d_X5_readClauseEnd_1 fq_RX5_50 rfl rfl ?_
  refine g_if_eq d_X5_readClauseEnd_4 (fun h4 => ?_) (fun h4 => ?_)
  · skip
    refine g_aload_n d_X5_readClauseEnd_8 rfl ?_
    refine g_V0 d_X5_readClauseEnd_9 cs_X5_readClauseEnd_X5_skipBlanks lk_RX5_59 im_X5_skipBlanks se_X5_skipBlanks rfl rfl rfl (Nat.le_of_ble_eq_true rfl) ⟨rfl, rfl⟩ ⟨Nat.zero_le _, Nat.zero_le _⟩ (ct_X5_skipBlanks  I J hr0) (fun r9 S9 I1 J2 q9_2 => ?_)
    obtain ⟨rfl, hc9_3, rfl⟩ := q9_2
    refine g_st (st' := []) rfl ?_
    have hK6 : (XT I1 J2 = XT I J ∧ RDI I1 ∧ I 1 2 ≤ I1 1 2) := ⟨hc9_3.1.trans hK0.1, hc9_3.2.1, Int32.le_trans hK0.2.2 hc9_3.2.2⟩
    refine g_aload_n d_X5_readClauseEnd_12 rfl ?_
    refine g_getI d_X5_readClauseEnd_13 fq_RX5_53 rfl rfl ?_
    refine g_aload_n d_X5_readClauseEnd_16 rfl ?_
    refine g_getI d_X5_readClauseEnd_17 fq_RX5_33 rfl rfl ?_
    have J_60 : G m_X5_readClauseEnd (rq m_X5_readClauseEnd (fun r S' I' J' => S' = SHF ∧ (XT I' J' = XT I J ∧ RDI I' ∧ I 1 2 ≤ I' 1 2) ∧ r = none)) 0 0 60 [some (.ref 1)] [] SHF I1 J2 := by
      skip
      refine g_aload_n d_X5_readClauseEnd_60 rfl ?_
      refine g_iconst (v := 1) d_X5_readClauseEnd_61 kI_1 ?_
      refine g_aload_n d_X5_readClauseEnd_62 rfl ?_
      refine g_getI d_X5_readClauseEnd_63 fq_RX5_53 rfl rfl ?_
      refine g_V2 d_X5_readClauseEnd_66 cs_X5_readClauseEnd_X5_faultAt lk_RX5_62 im_X5_faultAt se_X5_faultAt rfl rfl rfl (Nat.le_of_ble_eq_true rfl) ⟨rfl, rfl⟩ ⟨Nat.zero_le _, Nat.zero_le _⟩ (ct_X5_faultAt (1 : Int32) (I1 1 2) I1 J2 (hK6.2.1)) (fun r66 S66 I7 J8 q66_8 => ?_)
      obtain ⟨rfl, hc66_9, rfl⟩ := q66_8
      refine g_st (st' := []) rfl ?_
      have hK12 : (XT I7 J8 = XT I J ∧ RDI I7 ∧ I 1 2 ≤ I7 1 2) := ⟨hc66_9.1.trans hK6.1, hc66_9.2.1, Int32.le_trans hK6.2.2 hc66_9.2.2⟩
      exact g_return d_X5_readClauseEnd_69 rfl rfl rfl ⟨rfl, hK12, rfl⟩
    refine g_icmp_ge d_X5_readClauseEnd_20 (fun h20 => ?_) (fun h20 => ?_)
    · skip
      exact J_60
    · skip
      refine g_aload_n d_X5_readClauseEnd_23 rfl ?_
      refine g_getR d_X5_readClauseEnd_24 fq_RX5_9 rfl rfl ?_
      refine g_aload_n d_X5_readClauseEnd_27 rfl ?_
      refine g_getI d_X5_readClauseEnd_28 fq_RX5_53 rfl rfl ?_
      refine g_caload (N := 300) d_X5_readClauseEnd_31 rfl kT_300 (by constructor <;> grind) rfl ?_
      refine g_bipush (v := 59) d_X5_readClauseEnd_32 kB_59 ?_
      refine g_icmp_ne d_X5_readClauseEnd_34 (fun h34 => ?_) (fun h34 => ?_)
      · skip
        exact J_60
      · skip
        refine g_aload_n d_X5_readClauseEnd_37 rfl ?_
        refine g_dup d_X5_readClauseEnd_38 rfl ?_
        refine g_getI d_X5_readClauseEnd_39 fq_RX5_53 rfl rfl ?_
        refine g_iconst (v := 1) d_X5_readClauseEnd_42 kI_1 ?_
        refine g_iadd d_X5_readClauseEnd_43 ?_
        refine g_putI d_X5_readClauseEnd_44 fq_RX5_53 rfl rfl ?_
        refine g_nmI (fun I13 eI13 => ?_)
        have hK14 : (XT I13 J2 = XT I J ∧ RDI I13 ∧ I 1 2 ≤ I13 1 2) := (by rw [eI13]; exact ⟨(xt_wI rfl).trans hK6.1, (rd_at hK6.2.1 h20).1, Int32.le_trans hK6.2.2 (rd_at hK6.2.1 h20).2⟩)
        refine g_aload_n d_X5_readClauseEnd_47 rfl ?_
        refine g_dup d_X5_readClauseEnd_48 rfl ?_
        refine g_getI d_X5_readClauseEnd_49 fq_RX5_69 rfl rfl ?_
        refine g_iconst (v := 1) d_X5_readClauseEnd_52 kI_1 ?_
        refine g_iadd d_X5_readClauseEnd_53 ?_
        refine g_putI d_X5_readClauseEnd_54 fq_RX5_69 rfl rfl ?_
        refine g_nmI (fun I15 eI15 => ?_)
        have hK16 : (XT I15 J2 = XT I J ∧ RDI I15 ∧ I 1 2 ≤ I15 1 2) := (by rw [eI15]; exact ⟨(xt_wI rfl).trans hK14.1, (rd_cl hK14.2.1 (by rw [eI13]; simp [wI]; grind)).1, by rw [(rd_cl hK14.2.1 (by rw [eI13]; simp [wI]; grind)).2]; exact hK14.2.2⟩)
        refine g_goto d_X5_readClauseEnd_57 ?_
        exact g_return d_X5_readClauseEnd_69 rfl rfl rfl ⟨rfl, hK16, rfl⟩
  · skip
    exact g_return d_X5_readClauseEnd_7 rfl rfl rfl ⟨rfl, hK0, rfl⟩
set_option maxRecDepth 100000 in
set_option maxHeartbeats 4000000 in
theorem ct_X5_readClauseNumbers (clause : Int32) (I : Iv) (J : Jv) (hr0 : RDI I) (hcl : 0 ≤ clause ∧ clause < 13) : Ct m_X5_readClauseNumbers [.ref 1, .int clause] SHF I J (fun r S' I' J' => S' = SHF ∧ (XT I' J' = XT I J ∧ RDI I' ∧ I 1 2 ≤ I' 1 2) ∧ r = none) := by
  refine ct_of 0 (by decide +kernel) rfl rfl ?_
  have hK0 : (XT I J = XT I J ∧ RDI I ∧ I 1 2 ≤ I 1 2) := ⟨rfl, hr0, Int32.le_refl _⟩
  refine g_aload_n d_X5_readClauseNumbers_0 rfl ?_
  refine g_getR d_X5_readClauseNumbers_1 fq_RX5_23 rfl rfl ?_
  refine g_iload_n d_X5_readClauseNumbers_4 rfl ?_
  refine g_aload_n d_X5_readClauseNumbers_5 rfl ?_
  refine g_gets (j := 1) d_X5_readClauseNumbers_6 rfl sl_RX5_86 ?_
  refine g_iload_n d_X5_readClauseNumbers_9 rfl ?_
  refine g_tload (j := 1) (N := 15) d_X5_readClauseNumbers_10 rfl kT_15 (by constructor <;> grind) rfl ?_
  refine g_topI (fun t1 et1 => ?_)
  refine g_gets (j := 2) d_X5_readClauseNumbers_11 rfl sl_RX5_89 ?_
  refine g_iload_n d_X5_readClauseNumbers_14 rfl ?_
  refine g_tload (j := 2) (N := 15) d_X5_readClauseNumbers_15 rfl kT_15 (by constructor <;> grind) rfl ?_
  refine g_topI (fun t2 et2 => ?_)
  refine g_V2 d_X5_readClauseNumbers_16 cs_X5_readClauseNumbers_X5_readNumber lk_RX5_92 im_X5_readNumber se_X5_readNumber rfl rfl rfl (Nat.le_of_ble_eq_true rfl) ⟨rfl, rfl⟩ ⟨Nat.zero_le _, Nat.zero_le _⟩ (ct_X5_readNumber t1 t2 I J hr0) (fun r16 S16 I3 J4 q16_4 => ?_)
  obtain ⟨rfl, hc16_5, r7, rfl⟩ := q16_4
  refine g_st (st' := [.int r7, .int clause, .ref 4]) rfl ?_
  have hK9 : (XT I3 J4 = XT I J ∧ RDI I3 ∧ I 1 2 ≤ I3 1 2) := ⟨hc16_5.1.trans hK0.1, hc16_5.2.1, Int32.le_trans hK0.2.2 hc16_5.2.2⟩
  refine g_iastore (N := 15) d_X5_readClauseNumbers_19 rfl kT_15 (by constructor <;> grind) rfl  ?_
  refine g_nmI (fun I10 eI10 => ?_)
  have hK11 : (XT I10 J4 = XT I J ∧ RDI I10 ∧ I 1 2 ≤ I10 1 2) := (by rw [eI10]; exact ⟨(xt_wI rfl).trans hK9.1, (rd_wI hK9.2.1 (by omega)).1, by rw [(rd_wI hK9.2.1 (by omega)).2]; exact hK9.2.2⟩)
  refine g_iload_n d_X5_readClauseNumbers_20 rfl ?_
  refine g_bipush (v := 12) d_X5_readClauseNumbers_21 kB_12 ?_
  refine g_icmp_ne d_X5_readClauseNumbers_23 (fun h23 => ?_) (fun h23 => ?_)
  · skip
    exact g_return d_X5_readClauseNumbers_75 rfl rfl rfl ⟨rfl, hK11, rfl⟩
  · skip
    refine g_aload_n d_X5_readClauseNumbers_26 rfl ?_
    refine g_getR d_X5_readClauseNumbers_27 fq_RX5_23 rfl rfl ?_
    refine g_bipush (v := 13) d_X5_readClauseNumbers_30 kB_13 ?_
    refine g_aload_n d_X5_readClauseNumbers_32 rfl ?_
    refine g_aload_n d_X5_readClauseNumbers_33 rfl ?_
    refine g_getR d_X5_readClauseNumbers_34 fq_RX5_23 rfl rfl ?_
    refine g_bipush (v := 12) d_X5_readClauseNumbers_37 kB_12 ?_
    refine g_iaload (N := 15) d_X5_readClauseNumbers_39 rfl kT_15 ⟨by decide, by decide⟩ kN_12 ?_
    refine g_iconst (v := 1) d_X5_readClauseNumbers_40 kI_1 ?_
    refine g_iadd d_X5_readClauseNumbers_41 ?_
    refine g_gets (j := 2) d_X5_readClauseNumbers_42 rfl sl_RX5_89 ?_
    refine g_bipush (v := 13) d_X5_readClauseNumbers_45 kB_13 ?_
    refine g_tload (j := 2) (N := 15) d_X5_readClauseNumbers_47 rfl kT_15 ⟨by decide, by decide⟩ kN_13 ?_
    refine g_topI (fun t12 et12 => ?_)
    refine g_V2 d_X5_readClauseNumbers_48 cs_X5_readClauseNumbers_X5_readNumber lk_RX5_92 im_X5_readNumber se_X5_readNumber rfl rfl rfl (Nat.le_of_ble_eq_true rfl) ⟨rfl, rfl⟩ ⟨Nat.zero_le _, Nat.zero_le _⟩ (ct_X5_readNumber ((I10 4 12) + (1 : Int32)) t12 I10 J4 (hK11.2.1)) (fun r48 S48 I13 J14 q48_14 => ?_)
    obtain ⟨rfl, hc48_15, r17, rfl⟩ := q48_14
    refine g_st (st' := [.int r17, .int (13 : Int32), .ref 4]) rfl ?_
    have hK19 : (XT I13 J14 = XT I J ∧ RDI I13 ∧ I 1 2 ≤ I13 1 2) := ⟨hc48_15.1.trans hK11.1, hc48_15.2.1, Int32.le_trans hK11.2.2 hc48_15.2.2⟩
    refine g_iastore (N := 15) d_X5_readClauseNumbers_51 rfl kT_15 ⟨by decide, by decide⟩ kN_13  ?_
    refine g_nmI (fun I20 eI20 => ?_)
    have hK21 : (XT I20 J14 = XT I J ∧ RDI I20 ∧ I 1 2 ≤ I20 1 2) := (by rw [eI20]; exact ⟨(xt_wI rfl).trans hK19.1, (rd_wI hK19.2.1 (by omega)).1, by rw [(rd_wI hK19.2.1 (by omega)).2]; exact hK19.2.2⟩)
    refine g_aload_n d_X5_readClauseNumbers_52 rfl ?_
    refine g_getR d_X5_readClauseNumbers_53 fq_RX5_23 rfl rfl ?_
    refine g_bipush (v := 14) d_X5_readClauseNumbers_56 kB_14 ?_
    refine g_aload_n d_X5_readClauseNumbers_58 rfl ?_
    refine g_gets (j := 1) d_X5_readClauseNumbers_59 rfl sl_RX5_86 ?_
    refine g_bipush (v := 14) d_X5_readClauseNumbers_62 kB_14 ?_
    refine g_tload (j := 1) (N := 15) d_X5_readClauseNumbers_64 rfl kT_15 ⟨by decide, by decide⟩ kN_14 ?_
    refine g_topI (fun t22 et22 => ?_)
    refine g_gets (j := 2) d_X5_readClauseNumbers_65 rfl sl_RX5_89 ?_
    refine g_bipush (v := 14) d_X5_readClauseNumbers_68 kB_14 ?_
    refine g_tload (j := 2) (N := 15) d_X5_readClauseNumbers_70 rfl kT_15 ⟨by decide, by decide⟩ kN_14 ?_
    refine g_topI (fun t23 et23 => ?_)
    refine g_V2 d_X5_readClauseNumbers_71 cs_X5_readClauseNumbers_X5_readNumber lk_RX5_92 im_X5_readNumber se_X5_readNumber rfl rfl rfl (Nat.le_of_ble_eq_true rfl) ⟨rfl, rfl⟩ ⟨Nat.zero_le _, Nat.zero_le _⟩ (ct_X5_readNumber t22 t23 I20 J14 (hK21.2.1)) (fun r71 S71 I24 J25 q71_25 => ?_)
    obtain ⟨rfl, hc71_26, r28, rfl⟩ := q71_25
    refine g_st (st' := [.int r28, .int (14 : Int32), .ref 4]) rfl ?_
    have hK30 : (XT I24 J25 = XT I J ∧ RDI I24 ∧ I 1 2 ≤ I24 1 2) := ⟨hc71_26.1.trans hK21.1, hc71_26.2.1, Int32.le_trans hK21.2.2 hc71_26.2.2⟩
    refine g_iastore (N := 15) d_X5_readClauseNumbers_74 rfl kT_15 ⟨by decide, by decide⟩ kN_14  ?_
    refine g_nmI (fun I31 eI31 => ?_)
    have hK32 : (XT I31 J25 = XT I J ∧ RDI I31 ∧ I 1 2 ≤ I31 1 2) := (by rw [eI31]; exact ⟨(xt_wI rfl).trans hK30.1, (rd_wI hK30.2.1 (by omega)).1, by rw [(rd_wI hK30.2.1 (by omega)).2]; exact hK30.2.2⟩)
    exact g_return d_X5_readClauseNumbers_75 rfl rfl rfl ⟨rfl, hK32, rfl⟩
set_option maxRecDepth 100000 in
set_option maxHeartbeats 4000000 in
theorem ct_X5_readClause  (I : Iv) (J : Jv) (hr0 : RDI I) : Ct m_X5_readClause [.ref 1] SHF I J (fun r S' I' J' => S' = SHF ∧ (XT I' J' = XT I J ∧ RDI I' ∧ I 1 2 ≤ I' 1 2) ∧ r = none) := by
  refine ct_of 2 (by decide +kernel) rfl rfl ?_
  have hK0 : (XT I J = XT I J ∧ RDI I ∧ I 1 2 ≤ I 1 2) := ⟨rfl, hr0, Int32.le_refl _⟩
  refine g_aload_n d_X5_readClause_0 rfl ?_
  refine g_getI d_X5_readClause_1 fq_RX5_53 rfl rfl ?_
  refine g_topI (fun v1 ev1 => ?_)
  refine g_istore_n (L' := [some (.ref 1), some (.int v1), none]) d_X5_readClause_4 (by decide) rfl ?_
  refine g_aload_n d_X5_readClause_5 rfl ?_
  refine g_V0 d_X5_readClause_6 cs_X5_readClause_X5_readWord lk_RX5_72 im_X5_readWord se_X5_readWord rfl rfl rfl (Nat.le_of_ble_eq_true rfl) ⟨rfl, rfl⟩ ⟨Nat.zero_le _, Nat.zero_le _⟩ (ct_X5_readWord  I J hr0) (fun r6 S6 I2 J3 q6_3 => ?_)
  obtain ⟨rfl, hc6_4, rfl⟩ := q6_3
  refine g_st (st' := []) rfl ?_
  have hK7 : (XT I2 J3 = XT I J ∧ RDI I2 ∧ I 1 2 ≤ I2 1 2) := ⟨hc6_4.1.trans hK0.1, hc6_4.2.1, Int32.le_trans hK0.2.2 hc6_4.2.2⟩
  refine g_aload_n d_X5_readClause_9 rfl ?_
  refine g_iload_n d_X5_readClause_10 rfl ?_
  refine g_V1 d_X5_readClause_11 cs_X5_readClause_X5_clauseFrom lk_RX5_75 im_X5_clauseFrom se_X5_clauseFrom rfl rfl rfl (Nat.le_of_ble_eq_true rfl) ⟨rfl, rfl⟩ ⟨Nat.zero_le _, Nat.zero_le _⟩ (ct_X5_clauseFrom v1 I2 J3 (by grind) (hK7.2.1)) (fun r11 S11 Ic9 Jc10 q11_7 => ?_)
  obtain ⟨rfl, rfl, rfl, r12, rfl⟩ := q11_7
  refine g_st (st' := [.int r12]) rfl ?_
  refine g_istore_n (L' := [some (.ref 1), some (.int v1), some (.int r12)]) d_X5_readClause_14 (by decide) rfl ?_
  refine g_iload_n d_X5_readClause_15 rfl ?_
  have J_25 : G m_X5_readClause (rq m_X5_readClause (fun r S' I' J' => S' = SHF ∧ (XT I' J' = XT I J ∧ RDI I' ∧ I 1 2 ≤ I' 1 2) ∧ r = none)) 0 0 25 [some (.ref 1), some (.int v1), some (.int r12)] [] SHF I2 J3 := by
    skip
    refine g_aload_n d_X5_readClause_25 rfl ?_
    refine g_iconst (v := 1) d_X5_readClause_26 kI_1 ?_
    refine g_iload_n d_X5_readClause_27 rfl ?_
    refine g_V2 d_X5_readClause_28 cs_X5_readClause_X5_faultAt lk_RX5_62 im_X5_faultAt se_X5_faultAt rfl rfl rfl (Nat.le_of_ble_eq_true rfl) ⟨rfl, rfl⟩ ⟨Nat.zero_le _, Nat.zero_le _⟩ (ct_X5_faultAt (1 : Int32) v1 I2 J3 (hK7.2.1)) (fun r28 S28 I14 J15 q28_15 => ?_)
    obtain ⟨rfl, hc28_16, rfl⟩ := q28_15
    refine g_st (st' := []) rfl ?_
    have hK19 : (XT I14 J15 = XT I J ∧ RDI I14 ∧ I 1 2 ≤ I14 1 2) := ⟨hc28_16.1.trans hK7.1, hc28_16.2.1, Int32.le_trans hK7.2.2 hc28_16.2.2⟩
    refine g_goto d_X5_readClause_31 ?_
    exact g_return d_X5_readClause_68 rfl rfl rfl ⟨rfl, hK19, rfl⟩
  refine g_if_lt d_X5_readClause_16 (fun h16 => ?_) (fun h16 => ?_)
  · skip
    exact J_25
  · skip
    refine g_iload_n d_X5_readClause_19 rfl ?_
    refine g_bipush (v := 13) d_X5_readClause_20 kB_13 ?_
    refine g_icmp_lt d_X5_readClause_22 (fun h22 => ?_) (fun h22 => ?_)
    · skip
      refine g_aload_n d_X5_readClause_34 rfl ?_
      refine g_getR d_X5_readClause_35 fq_RX5_19 rfl rfl ?_
      refine g_iload_n d_X5_readClause_38 rfl ?_
      refine g_baload (N := 13) d_X5_readClause_39 rfl kT_13 (by constructor <;> grind) rfl (fun hz39 => ?_)
      refine g_if_eq d_X5_readClause_40 (fun h40 => ?_) (fun h40 => ?_)
      · skip
        refine g_aload_n d_X5_readClause_52 rfl ?_
        refine g_getR d_X5_readClause_53 fq_RX5_19 rfl rfl ?_
        refine g_iload_n d_X5_readClause_56 rfl ?_
        refine g_iconst (v := 1) d_X5_readClause_57 kI_1 ?_
        refine g_bastore (N := 13) d_X5_readClause_58 rfl kT_13 (by constructor <;> grind) rfl (Or.inr rfl) ?_
        refine g_nmI (fun I20 eI20 => ?_)
        have hK21 : (XT I20 J3 = XT I J ∧ RDI I20 ∧ I 1 2 ≤ I20 1 2) := (by rw [eI20]; exact ⟨(xt_wI rfl).trans hK7.1, (rd_wI hK7.2.1 (by omega)).1, by rw [(rd_wI hK7.2.1 (by omega)).2]; exact hK7.2.2⟩)
        refine g_aload_n d_X5_readClause_59 rfl ?_
        refine g_iload_n d_X5_readClause_60 rfl ?_
        refine g_V1 d_X5_readClause_61 cs_X5_readClause_X5_readClauseNumbers lk_RX5_79 im_X5_readClauseNumbers se_X5_readClauseNumbers rfl rfl rfl (Nat.le_of_ble_eq_true rfl) ⟨rfl, rfl⟩ ⟨Nat.zero_le _, Nat.zero_le _⟩ (ct_X5_readClauseNumbers r12 I20 J3 (hK21.2.1) (by grind)) (fun r61 S61 I22 J23 q61_23 => ?_)
        obtain ⟨rfl, hc61_24, rfl⟩ := q61_23
        refine g_st (st' := []) rfl ?_
        have hK27 : (XT I22 J23 = XT I J ∧ RDI I22 ∧ I 1 2 ≤ I22 1 2) := ⟨hc61_24.1.trans hK21.1, hc61_24.2.1, Int32.le_trans hK21.2.2 hc61_24.2.2⟩
        refine g_aload_n d_X5_readClause_64 rfl ?_
        refine g_V0 d_X5_readClause_65 cs_X5_readClause_X5_readClauseEnd lk_RX5_83 im_X5_readClauseEnd se_X5_readClauseEnd rfl rfl rfl (Nat.le_of_ble_eq_true rfl) ⟨rfl, rfl⟩ ⟨Nat.zero_le _, Nat.zero_le _⟩ (ct_X5_readClauseEnd  I22 J23 (hK27.2.1)) (fun r65 S65 I28 J29 q65_29 => ?_)
        obtain ⟨rfl, hc65_30, rfl⟩ := q65_29
        refine g_st (st' := []) rfl ?_
        have hK33 : (XT I28 J29 = XT I J ∧ RDI I28 ∧ I 1 2 ≤ I28 1 2) := ⟨hc65_30.1.trans hK27.1, hc65_30.2.1, Int32.le_trans hK27.2.2 hc65_30.2.2⟩
        exact g_return d_X5_readClause_68 rfl rfl rfl ⟨rfl, hK33, rfl⟩
      · skip
        refine g_aload_n d_X5_readClause_43 rfl ?_
        refine g_iconst (v := 3) d_X5_readClause_44 kI_3 ?_
        refine g_iload_n d_X5_readClause_45 rfl ?_
        refine g_V2 d_X5_readClause_46 cs_X5_readClause_X5_faultAt lk_RX5_62 im_X5_faultAt se_X5_faultAt rfl rfl rfl (Nat.le_of_ble_eq_true rfl) ⟨rfl, rfl⟩ ⟨Nat.zero_le _, Nat.zero_le _⟩ (ct_X5_faultAt (3 : Int32) v1 I2 J3 (hK7.2.1)) (fun r46 S46 I34 J35 q46_35 => ?_)
        obtain ⟨rfl, hc46_36, rfl⟩ := q46_35
        refine g_st (st' := []) rfl ?_
        have hK39 : (XT I34 J35 = XT I J ∧ RDI I34 ∧ I 1 2 ≤ I34 1 2) := ⟨hc46_36.1.trans hK7.1, hc46_36.2.1, Int32.le_trans hK7.2.2 hc46_36.2.2⟩
        refine g_goto d_X5_readClause_49 ?_
        exact g_return d_X5_readClause_68 rfl rfl rfl ⟨rfl, hK39, rfl⟩
    · skip
      exact J_25
set_option maxRecDepth 100000 in
set_option maxHeartbeats 4000000 in
theorem ct_X5_readOpening  (I : Iv) (J : Jv) (hr0 : RDI I) : Ct m_X5_readOpening [.ref 1] SHF I J (fun r S' I' J' => S' = SHF ∧ (XT I' J' = XT I J ∧ RDI I' ∧ I 1 2 ≤ I' 1 2) ∧ r = none) := by
  refine ct_of 3 (by decide +kernel) rfl rfl ?_
  have hK0 : (XT I J = XT I J ∧ RDI I ∧ I 1 2 ≤ I 1 2) := ⟨rfl, hr0, Int32.le_refl _⟩
  refine g_aload_n d_X5_readOpening_0 rfl ?_
  refine g_getI d_X5_readOpening_1 fq_RX5_53 rfl rfl ?_
  refine g_topI (fun v1 ev1 => ?_)
  refine g_istore_n (L' := [some (.ref 1), some (.int v1), none, none]) d_X5_readOpening_4 (by decide) rfl ?_
  refine g_aload_n d_X5_readOpening_5 rfl ?_
  refine g_V0 d_X5_readOpening_6 cs_X5_readOpening_X5_readWord lk_RX5_72 im_X5_readWord se_X5_readWord rfl rfl rfl (Nat.le_of_ble_eq_true rfl) ⟨rfl, rfl⟩ ⟨Nat.zero_le _, Nat.zero_le _⟩ (ct_X5_readWord  I J hr0) (fun r6 S6 I2 J3 q6_3 => ?_)
  obtain ⟨rfl, hc6_4, rfl⟩ := q6_3
  refine g_st (st' := []) rfl ?_
  have hK7 : (XT I2 J3 = XT I J ∧ RDI I2 ∧ I 1 2 ≤ I2 1 2) := ⟨hc6_4.1.trans hK0.1, hc6_4.2.1, Int32.le_trans hK0.2.2 hc6_4.2.2⟩
  refine g_aload_n d_X5_readOpening_9 rfl ?_
  refine g_ldcS (j := 13) d_X5_readOpening_10 rfl rfl ?_
  refine g_iload_n d_X5_readOpening_12 rfl ?_
  refine g_V2 d_X5_readOpening_13 cs_X5_readOpening_X5_isWord lk_RX5_98 im_X5_isWord se_X5_isWord rfl rfl rfl (Nat.le_of_ble_eq_true rfl) ⟨rfl, rfl⟩ ⟨Nat.zero_le _, Nat.zero_le _⟩ (ct_X5_isWord v1 I2 J3 (by grind) (by grind) (hK7.2.1)) (fun r13 S13 Ic9 Jc10 q13_7 => ?_)
  obtain ⟨rfl, rfl, rfl, r12, rfl, hz13⟩ := q13_7
  refine g_st (st' := [.int r12]) rfl ?_
  refine g_if_ne d_X5_readOpening_16 (fun h16 => ?_) (fun h16 => ?_)
  · skip
    refine g_aload_n d_X5_readOpening_28 rfl ?_
    refine g_getI d_X5_readOpening_29 fq_RX5_69 rfl rfl ?_
    refine g_bipush (v := 12) d_X5_readOpening_32 kB_12 ?_
    refine g_icmp_lt d_X5_readOpening_34 (fun h34 => ?_) (fun h34 => ?_)
    · skip
      refine g_aload_n d_X5_readOpening_46 rfl ?_
      refine g_getI d_X5_readOpening_47 fq_RX5_69 rfl rfl ?_
      refine g_topI (fun v14 ev14 => ?_)
      refine g_istore_n (L' := [some (.ref 1), some (.int v1), some (.int v14), none]) d_X5_readOpening_50 (by decide) rfl ?_
      refine g_iload_n d_X5_readOpening_51 rfl ?_
      have J_69 : ∀ (w15 : Int32), G m_X5_readOpening (rq m_X5_readOpening (fun r S' I' J' => S' = SHF ∧ (XT I' J' = XT I J ∧ RDI I' ∧ I 1 2 ≤ I' 1 2) ∧ r = none)) 0 0 69 [some (.ref 1), some (.int v1), some (.int v14), none] [.int w15] SHF I2 J3 := by
        intro w15
        refine g_istore_n (L' := [some (.ref 1), some (.int v1), some (.int v14), some (.int w15)]) d_X5_readOpening_69 (by decide) rfl ?_
        refine g_aload_n d_X5_readOpening_70 rfl ?_
        refine g_getR d_X5_readOpening_71 fq_RX5_27 rfl rfl ?_
        refine g_iload_n d_X5_readOpening_74 rfl ?_
        refine g_aload_n d_X5_readOpening_75 rfl ?_
        refine g_iload_n d_X5_readOpening_76 rfl ?_
        refine g_sipush (v := 287) d_X5_readOpening_77 kS_287 ?_
        refine g_V2 d_X5_readOpening_80 cs_X5_readOpening_X5_readNumber lk_RX5_92 im_X5_readNumber se_X5_readNumber rfl rfl rfl (Nat.le_of_ble_eq_true rfl) ⟨rfl, rfl⟩ ⟨Nat.zero_le _, Nat.zero_le _⟩ (ct_X5_readNumber w15 (287 : Int32) I2 J3 (hK7.2.1)) (fun r80 S80 I16 J17 q80_17 => ?_)
        obtain ⟨rfl, hc80_18, r20, rfl⟩ := q80_17
        refine g_st (st' := [.int r20, .int v14, .ref 5]) rfl ?_
        have hK22 : (XT I16 J17 = XT I J ∧ RDI I16 ∧ I 1 2 ≤ I16 1 2) := ⟨hc80_18.1.trans hK7.1, hc80_18.2.1, Int32.le_trans hK7.2.2 hc80_18.2.2⟩
        refine g_iastore (N := 12) d_X5_readOpening_83 rfl kT_12 (by constructor <;> grind) rfl  ?_
        refine g_nmI (fun I23 eI23 => ?_)
        have hK24 : (XT I23 J17 = XT I J ∧ RDI I23 ∧ I 1 2 ≤ I23 1 2) := (by rw [eI23]; exact ⟨(xt_wI rfl).trans hK22.1, (rd_wI hK22.2.1 (by omega)).1, by rw [(rd_wI hK22.2.1 (by omega)).2]; exact hK22.2.2⟩)
        refine g_aload_n d_X5_readOpening_84 rfl ?_
        refine g_getR d_X5_readOpening_85 fq_RX5_30 rfl rfl ?_
        refine g_iload_n d_X5_readOpening_88 rfl ?_
        refine g_aload_n d_X5_readOpening_89 rfl ?_
        refine g_iconst (v := 1) d_X5_readOpening_90 kI_1 ?_
        refine g_bipush (v := 20) d_X5_readOpening_91 kB_20 ?_
        refine g_V2 d_X5_readOpening_93 cs_X5_readOpening_X5_readNumber lk_RX5_92 im_X5_readNumber se_X5_readNumber rfl rfl rfl (Nat.le_of_ble_eq_true rfl) ⟨rfl, rfl⟩ ⟨Nat.zero_le _, Nat.zero_le _⟩ (ct_X5_readNumber (1 : Int32) (20 : Int32) I23 J17 (hK24.2.1)) (fun r93 S93 I25 J26 q93_26 => ?_)
        obtain ⟨rfl, hc93_27, r29, rfl⟩ := q93_26
        refine g_st (st' := [.int r29, .int v14, .ref 6]) rfl ?_
        have hK31 : (XT I25 J26 = XT I J ∧ RDI I25 ∧ I 1 2 ≤ I25 1 2) := ⟨hc93_27.1.trans hK24.1, hc93_27.2.1, Int32.le_trans hK24.2.2 hc93_27.2.2⟩
        refine g_iastore (N := 12) d_X5_readOpening_96 rfl kT_12 (by constructor <;> grind) rfl  ?_
        refine g_nmI (fun I32 eI32 => ?_)
        have hK33 : (XT I32 J26 = XT I J ∧ RDI I32 ∧ I 1 2 ≤ I32 1 2) := (by rw [eI32]; exact ⟨(xt_wI rfl).trans hK31.1, (rd_wI hK31.2.1 (by omega)).1, by rw [(rd_wI hK31.2.1 (by omega)).2]; exact hK31.2.2⟩)
        refine g_aload_n d_X5_readOpening_97 rfl ?_
        refine g_V0 d_X5_readOpening_98 cs_X5_readOpening_X5_readClauseEnd lk_RX5_83 im_X5_readClauseEnd se_X5_readClauseEnd rfl rfl rfl (Nat.le_of_ble_eq_true rfl) ⟨rfl, rfl⟩ ⟨Nat.zero_le _, Nat.zero_le _⟩ (ct_X5_readClauseEnd  I32 J26 (hK33.2.1)) (fun r98 S98 I34 J35 q98_35 => ?_)
        obtain ⟨rfl, hc98_36, rfl⟩ := q98_35
        refine g_st (st' := []) rfl ?_
        have hK39 : (XT I34 J35 = XT I J ∧ RDI I34 ∧ I 1 2 ≤ I34 1 2) := ⟨hc98_36.1.trans hK33.1, hc98_36.2.1, Int32.le_trans hK33.2.2 hc98_36.2.2⟩
        exact g_return d_X5_readOpening_101 rfl rfl rfl ⟨rfl, hK39, rfl⟩
      refine g_if_le d_X5_readOpening_52 (fun h52 => ?_) (fun h52 => ?_)
      · skip
        refine g_iconst (v := 0) d_X5_readOpening_68 kI_0 ?_
        exact J_69 ((0 : Int32))
      · skip
        refine g_aload_n d_X5_readOpening_55 rfl ?_
        refine g_getR d_X5_readOpening_56 fq_RX5_27 rfl rfl ?_
        refine g_iload_n d_X5_readOpening_59 rfl ?_
        refine g_iconst (v := 1) d_X5_readOpening_60 kI_1 ?_
        refine g_isub d_X5_readOpening_61 ?_
        refine g_iaload (N := 12) d_X5_readOpening_62 rfl kT_12 (by constructor <;> grind) rfl ?_
        refine g_iconst (v := 1) d_X5_readOpening_63 kI_1 ?_
        refine g_iadd d_X5_readOpening_64 ?_
        refine g_goto d_X5_readOpening_65 ?_
        exact J_69 (((I2 5 ((v14 - (1 : Int32))).toNatClampNeg) + (1 : Int32)))
    · skip
      refine g_aload_n d_X5_readOpening_37 rfl ?_
      refine g_iconst (v := 3) d_X5_readOpening_38 kI_3 ?_
      refine g_iload_n d_X5_readOpening_39 rfl ?_
      refine g_V2 d_X5_readOpening_40 cs_X5_readOpening_X5_faultAt lk_RX5_62 im_X5_faultAt se_X5_faultAt rfl rfl rfl (Nat.le_of_ble_eq_true rfl) ⟨rfl, rfl⟩ ⟨Nat.zero_le _, Nat.zero_le _⟩ (ct_X5_faultAt (3 : Int32) v1 I2 J3 (hK7.2.1)) (fun r40 S40 I40 J41 q40_41 => ?_)
      obtain ⟨rfl, hc40_42, rfl⟩ := q40_41
      refine g_st (st' := []) rfl ?_
      have hK45 : (XT I40 J41 = XT I J ∧ RDI I40 ∧ I 1 2 ≤ I40 1 2) := ⟨hc40_42.1.trans hK7.1, hc40_42.2.1, Int32.le_trans hK7.2.2 hc40_42.2.2⟩
      refine g_goto d_X5_readOpening_43 ?_
      exact g_return d_X5_readOpening_101 rfl rfl rfl ⟨rfl, hK45, rfl⟩
  · skip
    refine g_aload_n d_X5_readOpening_19 rfl ?_
    refine g_iconst (v := 1) d_X5_readOpening_20 kI_1 ?_
    refine g_iload_n d_X5_readOpening_21 rfl ?_
    refine g_V2 d_X5_readOpening_22 cs_X5_readOpening_X5_faultAt lk_RX5_62 im_X5_faultAt se_X5_faultAt rfl rfl rfl (Nat.le_of_ble_eq_true rfl) ⟨rfl, rfl⟩ ⟨Nat.zero_le _, Nat.zero_le _⟩ (ct_X5_faultAt (1 : Int32) v1 I2 J3 (hK7.2.1)) (fun r22 S22 I46 J47 q22_47 => ?_)
    obtain ⟨rfl, hc22_48, rfl⟩ := q22_47
    refine g_st (st' := []) rfl ?_
    have hK51 : (XT I46 J47 = XT I J ∧ RDI I46 ∧ I 1 2 ≤ I46 1 2) := ⟨hc22_48.1.trans hK7.1, hc22_48.2.1, Int32.le_trans hK7.2.2 hc22_48.2.2⟩
    refine g_goto d_X5_readOpening_25 ?_
    exact g_return d_X5_readOpening_101 rfl rfl rfl ⟨rfl, hK51, rfl⟩
set_option maxRecDepth 100000 in
set_option maxHeartbeats 4000000 in
theorem ct_X5_readBox  (I : Iv) (J : Jv) (hln : 0 ≤ I 1 1 ∧ I 1 1 ≤ 300) : Ct m_X5_readBox [.ref 1] SHF I J (fun r S' I' J' => S' = SHF ∧ XT I' J' = XT I J ∧ r = none) := by
  refine ct_of 1 (by decide +kernel) rfl rfl ?_
  have hK0 : XT I J = XT I J := rfl
  refine g_aload_n d_X5_readBox_0 rfl ?_
  refine g_V0 d_X5_readBox_1 cs_X5_readBox_X5_begin lk_RX5_38 im_X5_begin se_X5_begin rfl rfl rfl (Nat.le_of_ble_eq_true rfl) ⟨rfl, rfl⟩ ⟨Nat.zero_le _, Nat.zero_le _⟩ (ct_X5_begin  I J hln) (fun r1 S1 I1 J2 q1_2 => ?_)
  obtain ⟨rfl, hc1_3, rfl⟩ := q1_2
  refine g_st (st' := []) rfl ?_
  have hK6 : (XT I1 J2 = XT I J ∧ RDI I1) := ⟨(hc1_3).1.trans hK0, (hc1_3).2⟩
  refine g_iconst (v := 0) d_X5_readBox_4 kI_0 ?_
  refine g_istore_n (L' := [some (.ref 1), some (.int (0 : Int32))]) d_X5_readBox_5 (by decide) rfl ?_
  have K_6 : ∀ (nu : Nat) (x7 : Int32) (I8 : Iv), mU (13 : Int32) x7 = nu → ((XT I8 J2 = XT I J ∧ RDI I8)) → ((0 : Int32) ≤ x7) → G m_X5_readBox (rq m_X5_readBox (fun r S' I' J' => S' = SHF ∧ XT I' J' = XT I J ∧ r = none)) 0 0 6 [some (.ref 1), some (.int x7)] [] SHF I8 J2 := by
    intro nu
    induction nu using Nat.strongRecOn with
    | ind nu ih_6 =>
      intro x7 I8 hmu_6 hK9 hl10
      refine g_iload_n d_X5_readBox_6 rfl ?_
      refine g_bipush (v := 13) d_X5_readBox_7 kB_13 ?_
      refine g_icmp_ge d_X5_readBox_9 (fun h9 => ?_) (fun h9 => ?_)
      · skip
        refine g_gets (j := 0) d_X5_readBox_25 rfl sl_RX5_41 ?_
        refine g_iconst (v := 0) d_X5_readBox_28 kI_0 ?_
        refine g_aload_n d_X5_readBox_29 rfl ?_
        refine g_getR d_X5_readBox_30 fq_RX5_23 rfl rfl ?_
        refine g_iconst (v := 0) d_X5_readBox_33 kI_0 ?_
        refine g_bipush (v := 15) d_X5_readBox_34 kB_15 ?_
        refine g_copyT (a0 := 0) (j := 0) d_X5_readBox_36 ⟨tw_420, tw_85, tw_84, tw_4, by decide, by decide⟩ rfl rfl rfl rfl rfl ⟨kN_0, by decide⟩ ⟨kN_0, by decide⟩ ⟨kN_15, by decide⟩ (Nat.le_of_ble_eq_true rfl) ?_
        refine g_nmI (fun I11 eI11 => ?_)
        have hK12 : (XT I11 J2 = XT I J ∧ RDI I11) := (by rw [eI11]; exact ⟨(xt_rowI rfl (fun b hb => cI_row hb)).trans hK9.1, (rd_row hK9.2 (cI_row (by decide))).1⟩)
        refine g_iconst (v := 0) d_X5_readBox_39 kI_0 ?_
        refine g_istore_n (L' := [some (.ref 1), some (.int (0 : Int32))]) d_X5_readBox_40 (by decide) rfl ?_
        have K_41 : ∀ (nu : Nat) (x13 : Int32) (I14 : Iv) (J15 : Jv), mUe (300 : Int32) x13 = nu → ((XT I14 J15 = XT I J ∧ RDI I14)) → ((0 : Int32) ≤ x13) → G m_X5_readBox (rq m_X5_readBox (fun r S' I' J' => S' = SHF ∧ XT I' J' = XT I J ∧ r = none)) 0 0 41 [some (.ref 1), some (.int x13)] [] SHF I14 J15 := by
          intro nu
          induction nu using Nat.strongRecOn with
          | ind nu ih_41 =>
            intro x13 I14 J15 hmu_41 hK16 hl17
            refine g_iload_n d_X5_readBox_41 rfl ?_
            refine g_sipush (v := 300) d_X5_readBox_42 kS_300 ?_
            have J_80 : G m_X5_readBox (rq m_X5_readBox (fun r S' I' J' => S' = SHF ∧ XT I' J' = XT I J ∧ r = none)) 0 0 80 [some (.ref 1), some (.int x13)] [] SHF I14 J15 := by
              skip
              refine g_aload_n d_X5_readBox_80 rfl ?_
              refine g_getI d_X5_readBox_81 fq_RX5_50 rfl rfl ?_
              refine g_if_ne d_X5_readBox_84 (fun h84 => ?_) (fun h84 => ?_)
              · skip
                exact g_return d_X5_readBox_113 rfl rfl rfl ⟨rfl, (hK16).1, rfl⟩
              · skip
                refine g_aload_n d_X5_readBox_87 rfl ?_
                refine g_getR d_X5_readBox_88 fq_RX5_23 rfl rfl ?_
                refine g_bipush (v := 7) d_X5_readBox_91 kB_7 ?_
                refine g_iaload (N := 15) d_X5_readBox_93 rfl kT_15 ⟨by decide, by decide⟩ kN_7 ?_
                refine g_aload_n d_X5_readBox_94 rfl ?_
                refine g_getR d_X5_readBox_95 fq_RX5_23 rfl rfl ?_
                refine g_bipush (v := 6) d_X5_readBox_98 kB_6 ?_
                refine g_iaload (N := 15) d_X5_readBox_100 rfl kT_15 ⟨by decide, by decide⟩ kN_6 ?_
                refine g_icmp_lt d_X5_readBox_101 (fun h101 => ?_) (fun h101 => ?_)
                · skip
                  exact g_return d_X5_readBox_113 rfl rfl rfl ⟨rfl, (hK16).1, rfl⟩
                · skip
                  refine g_aload_n d_X5_readBox_104 rfl ?_
                  refine g_iconst (v := 4) d_X5_readBox_105 kI_4 ?_
                  refine g_aload_n d_X5_readBox_106 rfl ?_
                  refine g_getI d_X5_readBox_107 fq_RX5_33 rfl rfl ?_
                  refine g_V2 d_X5_readBox_110 cs_X5_readBox_X5_faultAt lk_RX5_62 im_X5_faultAt se_X5_faultAt rfl rfl rfl (Nat.le_of_ble_eq_true rfl) ⟨rfl, rfl⟩ ⟨Nat.zero_le _, Nat.zero_le _⟩ (ct_X5_faultAt (4 : Int32) (I14 1 1) I14 J15 (hK16.2)) (fun r110 S110 I18 J19 q110_19 => ?_)
                  obtain ⟨rfl, hc110_20, rfl⟩ := q110_19
                  refine g_st (st' := []) rfl ?_
                  have hK23 : (XT I18 J19 = XT I J ∧ RDI I18) := ⟨hc110_20.1.trans hK16.1, hc110_20.2.1⟩
                  exact g_return d_X5_readBox_113 rfl rfl rfl ⟨rfl, (hK23).1, rfl⟩
            refine g_icmp_gt d_X5_readBox_45 (fun h45 => ?_) (fun h45 => ?_)
            · skip
              exact J_80
            · skip
              refine g_aload_n d_X5_readBox_48 rfl ?_
              refine g_getI d_X5_readBox_49 fq_RX5_50 rfl rfl ?_
              refine g_if_ne d_X5_readBox_52 (fun h52 => ?_) (fun h52 => ?_)
              · skip
                exact J_80
              · skip
                refine g_aload_n d_X5_readBox_55 rfl ?_
                refine g_getI d_X5_readBox_56 fq_RX5_53 rfl rfl ?_
                refine g_aload_n d_X5_readBox_59 rfl ?_
                refine g_getI d_X5_readBox_60 fq_RX5_33 rfl rfl ?_
                refine g_icmp_ge d_X5_readBox_63 (fun h63 => ?_) (fun h63 => ?_)
                · skip
                  exact J_80
                · skip
                  refine g_aload_n d_X5_readBox_66 rfl ?_
                  refine g_V0 d_X5_readBox_67 cs_X5_readBox_X5_readClause lk_RX5_56 im_X5_readClause se_X5_readClause rfl rfl rfl (Nat.le_of_ble_eq_true rfl) ⟨rfl, rfl⟩ ⟨Nat.zero_le _, Nat.zero_le _⟩ (ct_X5_readClause  I14 J15 (hK16.2)) (fun r67 S67 I24 J25 q67_25 => ?_)
                  obtain ⟨rfl, hc67_26, rfl⟩ := q67_25
                  refine g_st (st' := []) rfl ?_
                  have hK29 : (XT I24 J25 = XT I J ∧ RDI I24) := ⟨hc67_26.1.trans hK16.1, hc67_26.2.1⟩
                  refine g_aload_n d_X5_readBox_70 rfl ?_
                  refine g_V0 d_X5_readBox_71 cs_X5_readBox_X5_skipBlanks lk_RX5_59 im_X5_skipBlanks se_X5_skipBlanks rfl rfl rfl (Nat.le_of_ble_eq_true rfl) ⟨rfl, rfl⟩ ⟨Nat.zero_le _, Nat.zero_le _⟩ (ct_X5_skipBlanks  I24 J25 (hK29.2)) (fun r71 S71 I30 J31 q71_31 => ?_)
                  obtain ⟨rfl, hc71_32, rfl⟩ := q71_31
                  refine g_st (st' := []) rfl ?_
                  have hK35 : (XT I30 J31 = XT I J ∧ RDI I30) := ⟨hc71_32.1.trans hK29.1, hc71_32.2.1⟩
                  refine g_iinc (v := (x13 + (1 : Int32))) (L' := [some (.ref 1), some (.int (x13 + (1 : Int32)))]) d_X5_readBox_74 rfl (by rw [kI_1]) (by decide) rfl ?_
                  refine g_goto d_X5_readBox_77 ?_
                  exact ih_41 _ (by rw [← hmu_41]; exact mu_upe h45 (by decide)) (x13 + (1 : Int32)) I30 J31 rfl hK35 (lo_upe hl17 h45 (by decide))
        exact K_41 _ (0 : Int32) I11 J2 rfl hK12 (Int32.le_refl _)
      · skip
        refine g_aload_n d_X5_readBox_12 rfl ?_
        refine g_getR d_X5_readBox_13 fq_RX5_19 rfl rfl ?_
        refine g_iload_n d_X5_readBox_16 rfl ?_
        refine g_iconst (v := 0) d_X5_readBox_17 kI_0 ?_
        refine g_bastore (N := 13) d_X5_readBox_18 rfl kT_13 ⟨hl10, Int32.not_le.mp h9⟩ rfl (Or.inl rfl) ?_
        refine g_nmI (fun I36 eI36 => ?_)
        have hK37 : (XT I36 J2 = XT I J ∧ RDI I36) := (by rw [eI36]; exact ⟨(xt_wI rfl).trans hK9.1, (rd_wI hK9.2 (by omega)).1⟩)
        refine g_iinc (v := (x7 + (1 : Int32))) (L' := [some (.ref 1), some (.int (x7 + (1 : Int32)))]) d_X5_readBox_19 rfl (by rw [kI_1]) (by decide) rfl ?_
        refine g_goto d_X5_readBox_22 ?_
        exact ih_6 _ (by rw [← hmu_6]; exact mu_up h9) (x7 + (1 : Int32)) I36 rfl hK37 (lo_up hl10 h9)
  exact K_6 _ (0 : Int32) I1 rfl hK6 (Int32.le_refl _)
set_option maxRecDepth 100000 in
set_option maxHeartbeats 4000000 in
theorem ct_X5_readDay  (I : Iv) (J : Jv) (hln : 0 ≤ I 1 1 ∧ I 1 1 ≤ 300) : Ct m_X5_readDay [.ref 1] SHF I J (fun r S' I' J' => S' = SHF ∧ XT I' J' = XT I J ∧ r = none) := by
  refine ct_of 1 (by decide +kernel) rfl rfl ?_
  have hK0 : XT I J = XT I J := rfl
  refine g_aload_n d_X5_readDay_0 rfl ?_
  refine g_V0 d_X5_readDay_1 cs_X5_readDay_X5_begin lk_RX5_38 im_X5_begin se_X5_begin rfl rfl rfl (Nat.le_of_ble_eq_true rfl) ⟨rfl, rfl⟩ ⟨Nat.zero_le _, Nat.zero_le _⟩ (ct_X5_begin  I J hln) (fun r1 S1 I1 J2 q1_2 => ?_)
  obtain ⟨rfl, hc1_3, rfl⟩ := q1_2
  refine g_st (st' := []) rfl ?_
  have hK6 : (XT I1 J2 = XT I J ∧ RDI I1) := ⟨(hc1_3).1.trans hK0, (hc1_3).2⟩
  refine g_iconst (v := 0) d_X5_readDay_4 kI_0 ?_
  refine g_istore_n (L' := [some (.ref 1), some (.int (0 : Int32))]) d_X5_readDay_5 (by decide) rfl ?_
  have K_6 : ∀ (nu : Nat) (x7 : Int32) (I8 : Iv) (J9 : Jv), mUe (300 : Int32) x7 = nu → ((XT I8 J9 = XT I J ∧ RDI I8)) → ((0 : Int32) ≤ x7) → G m_X5_readDay (rq m_X5_readDay (fun r S' I' J' => S' = SHF ∧ XT I' J' = XT I J ∧ r = none)) 0 0 6 [some (.ref 1), some (.int x7)] [] SHF I8 J9 := by
    intro nu
    induction nu using Nat.strongRecOn with
    | ind nu ih_6 =>
      intro x7 I8 J9 hmu_6 hK10 hl11
      refine g_iload_n d_X5_readDay_6 rfl ?_
      refine g_sipush (v := 300) d_X5_readDay_7 kS_300 ?_
      refine g_icmp_gt d_X5_readDay_10 (fun h10 => ?_) (fun h10 => ?_)
      · skip
        exact g_return d_X5_readDay_45 rfl rfl rfl ⟨rfl, (hK10).1, rfl⟩
      · skip
        refine g_aload_n d_X5_readDay_13 rfl ?_
        refine g_getI d_X5_readDay_14 fq_RX5_50 rfl rfl ?_
        refine g_if_ne d_X5_readDay_17 (fun h17 => ?_) (fun h17 => ?_)
        · skip
          exact g_return d_X5_readDay_45 rfl rfl rfl ⟨rfl, (hK10).1, rfl⟩
        · skip
          refine g_aload_n d_X5_readDay_20 rfl ?_
          refine g_getI d_X5_readDay_21 fq_RX5_53 rfl rfl ?_
          refine g_aload_n d_X5_readDay_24 rfl ?_
          refine g_getI d_X5_readDay_25 fq_RX5_33 rfl rfl ?_
          refine g_icmp_ge d_X5_readDay_28 (fun h28 => ?_) (fun h28 => ?_)
          · skip
            exact g_return d_X5_readDay_45 rfl rfl rfl ⟨rfl, (hK10).1, rfl⟩
          · skip
            refine g_aload_n d_X5_readDay_31 rfl ?_
            refine g_V0 d_X5_readDay_32 cs_X5_readDay_X5_readOpening lk_RX5_66 im_X5_readOpening se_X5_readOpening rfl rfl rfl (Nat.le_of_ble_eq_true rfl) ⟨rfl, rfl⟩ ⟨Nat.zero_le _, Nat.zero_le _⟩ (ct_X5_readOpening  I8 J9 (hK10.2)) (fun r32 S32 I12 J13 q32_13 => ?_)
            obtain ⟨rfl, hc32_14, rfl⟩ := q32_13
            refine g_st (st' := []) rfl ?_
            have hK17 : (XT I12 J13 = XT I J ∧ RDI I12) := ⟨hc32_14.1.trans hK10.1, hc32_14.2.1⟩
            refine g_aload_n d_X5_readDay_35 rfl ?_
            refine g_V0 d_X5_readDay_36 cs_X5_readDay_X5_skipBlanks lk_RX5_59 im_X5_skipBlanks se_X5_skipBlanks rfl rfl rfl (Nat.le_of_ble_eq_true rfl) ⟨rfl, rfl⟩ ⟨Nat.zero_le _, Nat.zero_le _⟩ (ct_X5_skipBlanks  I12 J13 (hK17.2)) (fun r36 S36 I18 J19 q36_19 => ?_)
            obtain ⟨rfl, hc36_20, rfl⟩ := q36_19
            refine g_st (st' := []) rfl ?_
            have hK23 : (XT I18 J19 = XT I J ∧ RDI I18) := ⟨hc36_20.1.trans hK17.1, hc36_20.2.1⟩
            refine g_iinc (v := (x7 + (1 : Int32))) (L' := [some (.ref 1), some (.int (x7 + (1 : Int32)))]) d_X5_readDay_39 rfl (by rw [kI_1]) (by decide) rfl ?_
            refine g_goto d_X5_readDay_42 ?_
            exact ih_6 _ (by rw [← hmu_6]; exact mu_upe h10 (by decide)) (x7 + (1 : Int32)) I18 J19 rfl hK23 (lo_upe hl11 h10 (by decide))
  exact K_6 _ (0 : Int32) I1 J2 rfl hK6 (Int32.le_refl _)
set_option maxRecDepth 100000 in
set_option maxHeartbeats 4000000 in
theorem ct_X5_append (n : Int32) (bytes : Int64) (I : Iv) (J : Jv) (hln : 0 ≤ I 1 1 ∧ I 1 1 ≤ 300) (hn : 1 ≤ n ∧ n ≤ 8) : Ct m_X5_append [.ref 1, .int n, .long bytes] SHF I J (fun r S' I' J' => S' = SHF ∧ True ∧ ∃ v : Int32, r = some (.int v) ∧ (v = 0 ∨ v = 1) ∧ ((v = 0 ∧ ¬ n ≤ 300 - I 1 1 ∧ XT I' J' = XT I J) ∨ (v = 1 ∧ n ≤ 300 - I 1 1 ∧ XT I' J' = XT (wI I 1 1 (I 1 1 + n)) J))) := by
  refine ct_of 1 (by decide +kernel) rfl rfl ?_
  have hK0 : XT I J = XT (wI I 1 1 (I 1 1)) J := (by rw [wI_own])
  refine g_iload_n d_X5_append_0 rfl ?_
  refine g_sipush (v := 300) d_X5_append_1 kS_300 ?_
  refine g_aload_n d_X5_append_4 rfl ?_
  refine g_getI d_X5_append_5 fq_RX5_33 rfl rfl ?_
  refine g_isub d_X5_append_8 ?_
  refine g_icmp_le d_X5_append_9 (fun h9 => ?_) (fun h9 => ?_)
  · skip
    refine g_iload_n d_X5_append_14 rfl ?_
    refine g_iconst (v := 1) d_X5_append_15 kI_1 ?_
    refine g_isub d_X5_append_16 ?_
    refine g_topI (fun v1 ev1 => ?_)
    refine g_istore (L' := [some (.ref 1), some (.int n), some (.long bytes), none, some (.int v1)]) d_X5_append_17 (by decide) rfl ?_
    have K_19 : ∀ (nu : Nat) (x2 : Int32) (I3 : Iv), mD x2 = nu → (XT I3 J = XT (wI I 1 1 (I3 1 1)) J) → (x2 ≤ v1) → (I3 1 1 = I 1 1 + (n - 1 - x2)) → (-1 ≤ x2) → G m_X5_append (rq m_X5_append (fun r S' I' J' => S' = SHF ∧ True ∧ ∃ v : Int32, r = some (.int v) ∧ (v = 0 ∨ v = 1) ∧ ((v = 0 ∧ ¬ n ≤ 300 - I 1 1 ∧ XT I' J' = XT I J) ∨ (v = 1 ∧ n ≤ 300 - I 1 1 ∧ XT I' J' = XT (wI I 1 1 (I 1 1 + n)) J)))) 0 0 19 [some (.ref 1), some (.int n), some (.long bytes), none, some (.int x2)] [] SHF I3 J := by
      intro nu
      induction nu using Nat.strongRecOn with
      | ind nu ih_19 =>
        intro x2 I3 hmu_19 hK4 hl5 hlen_19 hlo_19
        refine g_iload d_X5_append_19 rfl ?_
        refine g_if_lt d_X5_append_21 (fun h21 => ?_) (fun h21 => ?_)
        · skip
          refine g_iconst (v := 1) d_X5_append_69 kI_1 ?_
          exact g_ireturn d_X5_append_70 rfl rfl rfl rfl ⟨rfl, trivial, (1 : Int32), rfl, Or.inr rfl, (Or.inr ⟨rfl, by grind, (hK4).trans (by rw [show I3 1 1 = I 1 1 + n by grind])⟩)⟩
        · skip
          refine g_aload_n d_X5_append_24 rfl ?_
          refine g_getI d_X5_append_25 fq_RX5_33 rfl rfl ?_
          refine g_sipush (v := 300) d_X5_append_28 kS_300 ?_
          refine g_icmp_ge d_X5_append_31 (fun h31 => ?_) (fun h31 => ?_)
          · skip
            refine g_iinc (v := (x2 + (-1 : Int32))) (L' := [some (.ref 1), some (.int n), some (.long bytes), none, some (.int (x2 + (-1 : Int32)))]) d_X5_append_63 rfl (by rw [kI_m1]) (by decide) rfl ?_
            refine g_goto d_X5_append_66 ?_
            exact ih_19 _ (by rw [← hmu_19]; exact mu_dn h21) (x2 + (-1 : Int32)) I3 rfl hK4 (hi_dn hl5 h21) (by grind) (by grind)
          · skip
            refine g_aload_n d_X5_append_34 rfl ?_
            refine g_getR d_X5_append_35 fq_RX5_9 rfl rfl ?_
            refine g_aload_n d_X5_append_38 rfl ?_
            refine g_dup d_X5_append_39 rfl ?_
            refine g_getI d_X5_append_40 fq_RX5_33 rfl rfl ?_
            refine g_dup_x1 d_X5_append_43 rfl rfl ?_
            refine g_iconst (v := 1) d_X5_append_44 kI_1 ?_
            refine g_iadd d_X5_append_45 ?_
            refine g_putI d_X5_append_46 fq_RX5_33 rfl rfl ?_
            refine g_nmI (fun I6 eI6 => ?_)
            have hK7 : XT I6 J = XT (wI I 1 1 (I6 1 1)) J := (by rw [eI6, wI_self]; exact xt_app hK4)
            have hl46 : I6 1 1 = I3 1 1 + 1 := by rw [eI6]; simp [wI]
            refine g_lload_n d_X5_append_49 rfl ?_
            refine g_bipush (v := 8) d_X5_append_50 kB_8 ?_
            refine g_iload d_X5_append_52 rfl ?_
            refine g_imul d_X5_append_54 ?_
            refine g_lushr d_X5_append_55 ?_
            refine g_ldc2 (v := 255) d_X5_append_56 tw_401 ?_
            refine g_land d_X5_append_59 ?_
            refine g_l2i d_X5_append_60 ?_
            refine g_i2c d_X5_append_61 ?_
            refine g_castore (N := 300) d_X5_append_62 rfl kT_300 (by constructor <;> grind) rfl (nar_c _) (fit_c _) ?_
            refine g_nmI (fun I8 eI8 => ?_)
            have hK9 : XT I8 J = XT (wI I 1 1 (I8 1 1)) J := (by rw [eI8]; exact (xt_wI rfl).trans hK7)
            have hl62 : I8 1 1 = I6 1 1 := by rw [eI8]; simp [wI]
            refine g_iinc (v := (x2 + (-1 : Int32))) (L' := [some (.ref 1), some (.int n), some (.long bytes), none, some (.int (x2 + (-1 : Int32)))]) d_X5_append_63 rfl (by rw [kI_m1]) (by decide) rfl ?_
            refine g_goto d_X5_append_66 ?_
            exact ih_19 _ (by rw [← hmu_19]; exact mu_dn h21) (x2 + (-1 : Int32)) I8 rfl hK9 (hi_dn hl5 h21) (by grind) (by grind)
    exact K_19 _ v1 I rfl hK0 (Int32.le_refl _) (by grind) (by grind)
  · skip
    refine g_iconst (v := 0) d_X5_append_12 kI_0 ?_
    exact g_ireturn d_X5_append_13 rfl rfl rfl rfl ⟨rfl, trivial, (0 : Int32), rfl, Or.inl rfl, (Or.inl ⟨rfl, by grind, rfl⟩)⟩
