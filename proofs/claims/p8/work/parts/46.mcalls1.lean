set_option maxRecDepth 100000 in
set_option maxHeartbeats 4000000 in
theorem ct_X10_melt (x : Int32) (I : Iv) (J : Jv) (hx : HX x) (hfu : FU x.toNatClampNeg J) : Ct m_X10_melt [.ref 78, .int x] SHF I J (fun r S' I' J' => S' = SHF ∧ (I = I' ∧ TK x.toNatClampNeg J J') ∧ ∃ v : Int32, r = some (.int v)) := by
  refine ct_of 5 (by decide +kernel) rfl rfl ?_
  have hK0 : TK x.toNatClampNeg J J := (tk_rfl hfu)
  refine g_aload_n d_X10_melt_0 rfl ?_
  refine g_getR d_X10_melt_1 fq_RX10_7 rfl rfl ?_
  refine g_iload_n d_X10_melt_4 rfl ?_
  refine g_bipush (v := 53) d_X10_melt_5 kB_53 ?_
  refine g_iadd d_X10_melt_7 ?_
  refine g_laload (N := 320) d_X10_melt_8 rfl kT_320 (ixc hx (by decide)) (by rw [tnc hx (by decide), kN_53]) ?_
  refine g_topJ (fun v1 ev1 => ?_)
  refine g_lstore_n (L' := [some (.ref 78), some (.int x), some (.long v1), none, none, none, none]) d_X10_melt_9 (by decide) rfl ?_
  refine g_aload_n d_X10_melt_10 rfl ?_
  refine g_getR d_X10_melt_11 fq_RX10_7 rfl rfl ?_
  refine g_iload_n d_X10_melt_14 rfl ?_
  refine g_bipush (v := 61) d_X10_melt_15 kB_61 ?_
  refine g_iadd d_X10_melt_17 ?_
  refine g_dup2 d_X10_melt_18 rfl rfl ?_
  refine g_laload (N := 320) d_X10_melt_19 rfl kT_320 (ixc hx (by decide)) (by rw [tnc hx (by decide), kN_61]) ?_
  refine g_lload_n d_X10_melt_20 rfl ?_
  refine g_ladd d_X10_melt_21 ?_
  refine g_lastore (N := 320) d_X10_melt_22 rfl kT_320 (ixc hx (by decide)) (by rw [tnc hx (by decide), kN_61])  ?_
  refine g_nmJ (fun J2 eJ2 => ?_)
  have hK3 : TK x.toNatClampNeg J J2 := (by rw [eJ2]; exact tk_w hK0 (by unfold KP; omega) (fun hh => absurd hh (by omega)))
  refine g_aload_n d_X10_melt_23 rfl ?_
  refine g_getR d_X10_melt_24 fq_RX10_7 rfl rfl ?_
  refine g_iload_n d_X10_melt_27 rfl ?_
  refine g_bipush (v := 53) d_X10_melt_28 kB_53 ?_
  refine g_iadd d_X10_melt_30 ?_
  refine g_lconst d_X10_melt_31 kL_0 ?_
  refine g_lastore (N := 320) d_X10_melt_32 rfl kT_320 (ixc hx (by decide)) (by rw [tnc hx (by decide), kN_53])  ?_
  refine g_nmJ (fun J4 eJ4 => ?_)
  have hK5 : TK x.toNatClampNeg J J4 := (by rw [eJ4]; exact tk_w hK3 (by unfold KP; omega) (fun _ => by decide))
  refine g_iconst (v := 0) d_X10_melt_33 kI_0 ?_
  refine g_istore (L' := [some (.ref 78), some (.int x), some (.long v1), none, some (.int (0 : Int32)), none, none]) d_X10_melt_34 (by decide) rfl ?_
  have K_36 : ∀ (nu : Nat) (x6 : Int32) (J7 : Jv), mU (4 : Int32) x6 = nu → (TK x.toNatClampNeg J J7) → ((0 : Int32) ≤ x6) → G m_X10_melt (rq m_X10_melt (fun r S' I' J' => S' = SHF ∧ (I = I' ∧ TK x.toNatClampNeg J J') ∧ ∃ v : Int32, r = some (.int v))) 0 0 36 [some (.ref 78), some (.int x), some (.long v1), none, some (.int x6), none, none] [] SHF I J7 := by
    intro nu
    induction nu using Nat.strongRecOn with
    | ind nu ih_36 =>
      intro x6 J7 hmu_36 hK8 hl9
      refine g_iload d_X10_melt_36 rfl ?_
      refine g_iconst (v := 4) d_X10_melt_38 kI_4 ?_
      refine g_icmp_ge d_X10_melt_39 (fun h39 => ?_) (fun h39 => ?_)
      · skip
        refine g_lload_n d_X10_melt_110 rfl ?_
        refine g_l2i d_X10_melt_111 ?_
        exact g_ireturn d_X10_melt_112 rfl rfl rfl rfl ⟨rfl, ⟨rfl, hK8⟩, (Int64.toInt32 v1), rfl⟩
      · skip
        have hkn : x6.toNatClampNeg < 4 := by have q := tn_lt (n := 4) hl9 h39; rwa [kN_4] at q
        refine g_ldc2 (v := 1000) d_X10_melt_42 tw_1392 ?_
        refine g_aload_n d_X10_melt_45 rfl ?_
        refine g_iload_n d_X10_melt_46 rfl ?_
        refine g_iload d_X10_melt_47 rfl ?_
        refine g_V2 d_X10_melt_49 cs_X10_melt_X10_capOf lk_RX10_192 im_X10_capOf se_X10_capOf rfl rfl rfl (Nat.le_of_ble_eq_true rfl) ⟨rfl, rfl⟩ ⟨Nat.zero_le _, Nat.zero_le _⟩ (ct_X10_capOf x x6 I J7 hx (by grind)) (fun r49 S49 Ic11 Jc12 q49_9 => ?_)
        obtain ⟨rfl, rfl, rfl, r14, rfl, hr49_14⟩ := q49_9
        refine g_st (st' := [.long r14, .long (1000 : Int64)]) rfl ?_
        refine g_lmul d_X10_melt_52 ?_
        refine g_topJ (fun v16 ev16 => ?_)
        refine g_lstore (L' := [some (.ref 78), some (.int x), some (.long v1), none, some (.int x6), some (.long v16), none]) d_X10_melt_53 (by decide) rfl ?_
        refine g_aload_n d_X10_melt_55 rfl ?_
        refine g_iload_n d_X10_melt_56 rfl ?_
        refine g_iload d_X10_melt_57 rfl ?_
        refine g_V2 d_X10_melt_59 cs_X10_melt_X10_warm lk_RX10_200 im_X10_warm se_X10_warm rfl rfl rfl (Nat.le_of_ble_eq_true rfl) ⟨rfl, rfl⟩ ⟨Nat.zero_le _, Nat.zero_le _⟩ (ct_X10_warm x x6 I J7 hx (by grind) (by grind)) (fun r59 S59 Ic18 Jc19 q59_16 => ?_)
        obtain ⟨rfl, rfl, rfl, r21, rfl⟩ := q59_16
        refine g_st (st' := [.long r21]) rfl ?_
        refine g_ldc2 (v := 1000) d_X10_melt_62 tw_1392 ?_
        refine g_lcmp_ge d_X10_melt_65 d_X10_melt_66 (fun h66 => ?_) (fun h66 => ?_)
        · skip
          refine g_iinc (v := (x6 + (1 : Int32))) (L' := [some (.ref 78), some (.int x), some (.long v1), none, some (.int (x6 + (1 : Int32))), some (.long v16), none]) d_X10_melt_104 rfl (by rw [kI_1]) (by decide) rfl ?_
          refine g_goto d_X10_melt_107 ?_
          refine g_sb [some (.ref 78), some (.int x), some (.long v1), none, some (.int (x6 + (1 : Int32))), none, none] (by simp [subL]) ?_
          exact ih_36 _ (by rw [← hmu_36]; exact mu_up h39) (x6 + (1 : Int32)) J7 rfl hK8 (lo_up hl9 h39)
        · skip
          refine g_aload_n d_X10_melt_69 rfl ?_
          refine g_getR d_X10_melt_70 fq_RX10_7 rfl rfl ?_
          refine g_iload_n d_X10_melt_73 rfl ?_
          refine g_bipush (v := 55) d_X10_melt_74 kB_55 ?_
          refine g_iadd d_X10_melt_76 ?_
          refine g_dup2 d_X10_melt_77 rfl rfl ?_
          refine g_laload (N := 320) d_X10_melt_78 rfl kT_320 (ixc hx (by decide)) (by rw [tnc hx (by decide), kN_55]) ?_
          refine g_lload d_X10_melt_79 rfl ?_
          refine g_aload_n d_X10_melt_81 rfl ?_
          refine g_getR d_X10_melt_82 fq_RX10_7 rfl rfl ?_
          refine g_iload_n d_X10_melt_85 rfl ?_
          refine g_iload d_X10_melt_86 rfl ?_
          refine g_iadd d_X10_melt_88 ?_
          refine g_laload (N := 320) d_X10_melt_89 rfl kT_320 (ixc hx (by constructor <;> grind)) (tnc hx (by constructor <;> grind)) ?_
          refine g_lsub d_X10_melt_90 ?_
          refine g_ladd d_X10_melt_91 ?_
          refine g_lastore (N := 320) d_X10_melt_92 rfl kT_320 (ixc hx (by decide)) (by rw [tnc hx (by decide), kN_55])  ?_
          refine g_nmJ (fun J23 eJ23 => ?_)
          have hK24 : TK x.toNatClampNeg J J23 := (by rw [eJ23]; exact tk_w hK8 (by unfold KP; omega) (fun hh => absurd hh (by omega)))
          refine g_aload_n d_X10_melt_93 rfl ?_
          refine g_getR d_X10_melt_94 fq_RX10_7 rfl rfl ?_
          refine g_iload_n d_X10_melt_97 rfl ?_
          refine g_iload d_X10_melt_98 rfl ?_
          refine g_iadd d_X10_melt_100 ?_
          refine g_lload d_X10_melt_101 rfl ?_
          refine g_lastore (N := 320) d_X10_melt_103 rfl kT_320 (ixc hx (by constructor <;> grind)) (tnc hx (by constructor <;> grind))  ?_
          refine g_nmJ (fun J25 eJ25 => ?_)
          have hK26 : TK x.toNatClampNeg J J25 := (by rw [eJ25]; exact tk_w hK24 (by unfold KP; omega) (fun hh => absurd hh (by omega)))
          refine g_iinc (v := (x6 + (1 : Int32))) (L' := [some (.ref 78), some (.int x), some (.long v1), none, some (.int (x6 + (1 : Int32))), some (.long v16), none]) d_X10_melt_104 rfl (by rw [kI_1]) (by decide) rfl ?_
          refine g_goto d_X10_melt_107 ?_
          refine g_sb [some (.ref 78), some (.int x), some (.long v1), none, some (.int (x6 + (1 : Int32))), none, none] (by simp [subL]) ?_
          exact ih_36 _ (by rw [← hmu_36]; exact mu_up h39) (x6 + (1 : Int32)) J25 rfl hK26 (lo_up hl9 h39)
  exact K_36 _ (0 : Int32) J4 rfl hK5 (Int32.le_refl _)
set_option maxRecDepth 100000 in
set_option maxHeartbeats 4000000 in
theorem ct_X10_fault  (I : Iv) (J : Jv)  : Ct m_X10_fault [.ref 78] SHF I J (fun r S' I' J' => S' = SHF ∧ I = I' ∧ J = J' ∧ ∃ v : Int32, r = some (.int v)) := by
  refine ct_of 0 (by decide +kernel) rfl rfl ?_
  refine g_aload_n d_X10_fault_0 rfl ?_
  refine g_getI d_X10_fault_1 fq_RX10_39 rfl rfl ?_
  exact g_ireturn d_X10_fault_4 rfl rfl rfl rfl ⟨rfl, rfl, rfl, (I 78 16), rfl⟩
set_option maxRecDepth 100000 in
set_option maxHeartbeats 4000000 in
theorem ct_X10_opening (i : Int32) (what : Int32) (I : Iv) (J : Jv) (hop2 : 0 ≤ I 78 5 ∧ I 78 5 ≤ 12) : Ct m_X10_opening [.ref 78, .int i, .int what] SHF I J (fun r S' I' J' => S' = SHF ∧ I = I' ∧ J = J' ∧ ∃ v : Int32, r = some (.int v)) := by
  refine ct_of 0 (by decide +kernel) rfl rfl ?_
  refine g_iload_n d_X10_opening_0 rfl ?_
  refine g_i2l d_X10_opening_1 ?_
  refine g_lconst d_X10_opening_2 kL_0 ?_
  refine g_lconst d_X10_opening_3 kL_1 ?_
  refine g_S3 d_X10_opening_4 cs_X10_opening_X10_in lk_RX10_96 im_X10_in (Nat.le_of_ble_eq_true rfl) ⟨rfl, rfl⟩ ⟨Nat.zero_le _, Nat.zero_le _⟩ (ct_X10_inL what (0 : Int64) (1 : Int64) (0 : Int32) (1 : Int32) (by decide) (by decide) I J) (fun r4 S4 Ic2 Jc3 q4_0 => ?_)
  obtain ⟨rfl, rfl, rfl, r5, rfl, hz4, hr4_5⟩ := q4_0
  refine g_st (st' := [.int r5]) rfl ?_
  refine g_if_ne d_X10_opening_7 (fun h7 => ?_) (fun h7 => ?_)
  · skip
    refine g_iload_n d_X10_opening_13 rfl ?_
    refine g_i2l d_X10_opening_14 ?_
    refine g_lconst d_X10_opening_15 kL_0 ?_
    refine g_aload_n d_X10_opening_16 rfl ?_
    refine g_getI d_X10_opening_17 fq_RX10_175 rfl rfl ?_
    refine g_iconst (v := 1) d_X10_opening_20 kI_1 ?_
    refine g_isub d_X10_opening_21 ?_
    refine g_i2l d_X10_opening_22 ?_
    refine g_S3 d_X10_opening_23 cs_X10_opening_X10_in lk_RX10_96 im_X10_in (Nat.le_of_ble_eq_true rfl) ⟨rfl, rfl⟩ ⟨Nat.zero_le _, Nat.zero_le _⟩ (ct_X10_inL i (0 : Int64) (Int32.toInt64 ((I 78 5) - (1 : Int32))) (0 : Int32) ((I 78 5) - (1 : Int32)) (by decide) rfl I J) (fun r23 S23 Ic8 Jc9 q23_6 => ?_)
    obtain ⟨rfl, rfl, rfl, r11, rfl, hz23, hr23_11⟩ := q23_6
    refine g_st (st' := [.int r11]) rfl ?_
    refine g_if_ne d_X10_opening_26 (fun h26 => ?_) (fun h26 => ?_)
    · skip
      refine g_iload_n d_X10_opening_33 rfl ?_
      refine g_if_ne d_X10_opening_34 (fun h34 => ?_) (fun h34 => ?_)
      · skip
        refine g_aload_n d_X10_opening_46 rfl ?_
        refine g_getR d_X10_opening_47 fq_RX10_27 rfl rfl ?_
        refine g_iload_n d_X10_opening_50 rfl ?_
        refine g_iaload (N := 12) d_X10_opening_51 rfl kT_12 (by constructor <;> grind) rfl ?_
        exact g_ireturn d_X10_opening_52 rfl rfl rfl rfl ⟨rfl, rfl, rfl, (I 84 i.toNatClampNeg), rfl⟩
      · skip
        refine g_aload_n d_X10_opening_37 rfl ?_
        refine g_getR d_X10_opening_38 fq_RX10_24 rfl rfl ?_
        refine g_iload_n d_X10_opening_41 rfl ?_
        refine g_iaload (N := 12) d_X10_opening_42 rfl kT_12 (by constructor <;> grind) rfl ?_
        refine g_goto d_X10_opening_43 ?_
        exact g_ireturn d_X10_opening_52 rfl rfl rfl rfl ⟨rfl, rfl, rfl, (I 83 i.toNatClampNeg), rfl⟩
    · skip
      refine g_iconst (v := -1) d_X10_opening_29 kI_m1 ?_
      refine g_goto d_X10_opening_30 ?_
      exact g_ireturn d_X10_opening_52 rfl rfl rfl rfl ⟨rfl, rfl, rfl, (-1 : Int32), rfl⟩
  · skip
    refine g_ldc (v := -1000000002) d_X10_opening_10 tw_1199 ?_
    exact g_ireturn d_X10_opening_12 rfl rfl rfl rfl ⟨rfl, rfl, rfl, (-1000000002 : Int32), rfl⟩
set_option maxRecDepth 100000 in
set_option maxHeartbeats 4000000 in
theorem ct_X10_told (what : Int32) (I : Iv) (J : Jv) (hma : MA I) (hmj : MJ J) : Ct m_X10_told [.ref 78, .int what] SHF I J (fun r S' I' J' => S' = SHF ∧ True ∧ ∃ v : Int32, r = some (.int v) ∧ (MI (bgI I) I' ∧ MK (bgJ I J) J')) := by
  refine ct_of 0 (by decide +kernel) rfl rfl ?_
  have hK0 : (MI I I ∧ MK J J) := ⟨mi_rfl hma, mk_rfl hmj⟩
  refine g_aload_n d_X10_told_0 rfl ?_
  refine g_V0 d_X10_told_1 cs_X10_told_X10_begin lk_RX10_166 im_X10_begin se_X10_begin rfl rfl rfl (Nat.le_of_ble_eq_true rfl) ⟨rfl, rfl⟩ ⟨Nat.zero_le _, Nat.zero_le _⟩ (ct_X10_begin  I J hma hmj) (fun r1 S1 I1 J2 q1_2 => ?_)
  obtain ⟨rfl, hc1_3, rfl, hr1_4⟩ := q1_2
  refine g_st (st' := []) rfl ?_
  have hK6 : (MI (bgI I) I1 ∧ MK (bgJ I J) J2) := hr1_4
  refine g_iload_n d_X10_told_4 rfl ?_
  refine g_i2l d_X10_told_5 ?_
  refine g_lconst d_X10_told_6 kL_0 ?_
  refine g_ldc2 (v := 14) d_X10_told_7 tw_1283 ?_
  refine g_S3 d_X10_told_10 cs_X10_told_X10_in lk_RX10_96 im_X10_in (Nat.le_of_ble_eq_true rfl) ⟨rfl, rfl⟩ ⟨Nat.zero_le _, Nat.zero_le _⟩ (ct_X10_inL what (0 : Int64) (14 : Int64) (0 : Int32) (14 : Int32) (by decide) (by decide) I1 J2) (fun r10 S10 Ic8 Jc9 q10_6 => ?_)
  obtain ⟨rfl, rfl, rfl, r11, rfl, hz10, hr10_11⟩ := q10_6
  refine g_st (st' := [.int r11]) rfl ?_
  refine g_if_eq d_X10_told_13 (fun h13 => ?_) (fun h13 => ?_)
  · skip
    refine g_ldc (v := -1000000002) d_X10_told_25 tw_1199 ?_
    exact g_ireturn d_X10_told_27 rfl rfl rfl rfl ⟨rfl, trivial, (-1000000002 : Int32), rfl, hK6⟩
  · skip
    refine g_aload_n d_X10_told_16 rfl ?_
    refine g_getR d_X10_told_17 fq_RX10_17 rfl rfl ?_
    refine g_iload_n d_X10_told_20 rfl ?_
    refine g_iaload (N := 15) d_X10_told_21 rfl kT_15 (by constructor <;> grind) rfl ?_
    refine g_goto d_X10_told_22 ?_
    exact g_ireturn d_X10_told_27 rfl rfl rfl rfl ⟨rfl, trivial, (I1 81 what.toNatClampNeg), rfl, hK6⟩
set_option maxRecDepth 100000 in
set_option maxHeartbeats 4000000 in
theorem ct_X10_trouble (set : Int32) (I : Iv) (J : Jv) (hma : MA I) (hmj : MJ J) : Ct m_X10_trouble [.ref 78, .int set] SHF I J (fun r S' I' J' => S' = SHF ∧ True ∧ ∃ v : Int32, r = some (.int v) ∧ (MI (bgI I) I' ∧ ((¬ (0 ≤ set ∧ set ≤ 127) ∧ v = -1000000001 ∧ MK (bgJ I J) J') ∨ (0 ≤ set ∧ set ≤ 127 ∧ v = ((bgJ I J) 79 52).toInt32 ∧ MK (wJ (bgJ I J) 79 52 (Int32.toInt64 set)) J')))) := by
  refine ct_of 1 (by decide +kernel) rfl rfl ?_
  have hK0 : (MI I I ∧ MK J J) := ⟨mi_rfl hma, mk_rfl hmj⟩
  refine g_aload_n d_X10_trouble_0 rfl ?_
  refine g_V0 d_X10_trouble_1 cs_X10_trouble_X10_begin lk_RX10_166 im_X10_begin se_X10_begin rfl rfl rfl (Nat.le_of_ble_eq_true rfl) ⟨rfl, rfl⟩ ⟨Nat.zero_le _, Nat.zero_le _⟩ (ct_X10_begin  I J hma hmj) (fun r1 S1 I1 J2 q1_2 => ?_)
  obtain ⟨rfl, hc1_3, rfl, hr1_4⟩ := q1_2
  refine g_st (st' := []) rfl ?_
  have hK6 : (MI (bgI I) I1 ∧ MK (bgJ I J) J2) := hr1_4
  have hm52 := mk_v52 (hr1_4).2
  refine g_iload_n d_X10_trouble_4 rfl ?_
  refine g_S1 d_X10_trouble_5 cs_X10_trouble_X10_isSet lk_RX10_259 im_X10_isSet (Nat.le_of_ble_eq_true rfl) ⟨rfl, rfl⟩ ⟨Nat.zero_le _, Nat.zero_le _⟩ (ct_X10_isSet set I1 J2 ) (fun r5 S5 Ic8 Jc9 q5_6 => ?_)
  obtain ⟨rfl, rfl, rfl, r11, rfl, hz5, hr5_11⟩ := q5_6
  refine g_st (st' := [.int r11]) rfl ?_
  refine g_if_ne d_X10_trouble_8 (fun h8 => ?_) (fun h8 => ?_)
  · skip
    refine g_aload_n d_X10_trouble_15 rfl ?_
    refine g_getR d_X10_trouble_16 fq_RX10_7 rfl rfl ?_
    refine g_bipush (v := 52) d_X10_trouble_19 kB_52 ?_
    refine g_laload (N := 320) d_X10_trouble_21 rfl kT_320 ⟨by decide, by decide⟩ kN_52 ?_
    refine g_l2i d_X10_trouble_22 ?_
    refine g_topI (fun v13 ev13 => ?_)
    refine g_istore_n (L' := [some (.ref 78), some (.int set), some (.int v13)]) d_X10_trouble_23 (by decide) rfl ?_
    refine g_aload_n d_X10_trouble_24 rfl ?_
    refine g_getR d_X10_trouble_25 fq_RX10_7 rfl rfl ?_
    refine g_bipush (v := 52) d_X10_trouble_28 kB_52 ?_
    refine g_iload_n d_X10_trouble_30 rfl ?_
    refine g_i2l d_X10_trouble_31 ?_
    refine g_lastore (N := 320) d_X10_trouble_32 rfl kT_320 ⟨by decide, by decide⟩ kN_52  ?_
    refine g_nmJ (fun J14 eJ14 => ?_)
    have hK15 : (MI (bgI I) I1 ∧ MK (wJ (bgJ I J) 79 52 (Int32.toInt64 set)) J14) := (by rw [eJ14]; exact ⟨(hK6).1, mj_52 (hK6).2⟩)
    refine g_iload_n d_X10_trouble_33 rfl ?_
    refine g_i2l d_X10_trouble_34 ?_
    refine g_iconst (v := 1) d_X10_trouble_35 kI_1 ?_
    refine g_S2 d_X10_trouble_36 cs_X10_trouble_X10_has lk_RX10_149 im_X10_has (Nat.le_of_ble_eq_true rfl) ⟨rfl, rfl⟩ ⟨Nat.zero_le _, Nat.zero_le _⟩ (ct_X10_has (Int32.toInt64 set) (1 : Int32) I1 J14 ) (fun r36 S36 Ic17 Jc18 q36_15 => ?_)
    obtain ⟨rfl, rfl, rfl, r20, rfl, hz36⟩ := q36_15
    refine g_st (st' := [.int r20]) rfl ?_
    refine g_if_eq d_X10_trouble_39 (fun h39 => ?_) (fun h39 => ?_)
    · skip
      refine g_iload_n d_X10_trouble_75 rfl ?_
      exact g_ireturn d_X10_trouble_76 rfl rfl rfl rfl ⟨rfl, trivial, v13, rfl, ⟨(hK15).1, Or.inr ⟨by grind, by grind, by rw [ev13, hm52], (hK15).2⟩⟩⟩
    · skip
      refine g_iload_n d_X10_trouble_42 rfl ?_
      refine g_i2l d_X10_trouble_43 ?_
      refine g_iconst (v := 1) d_X10_trouble_44 kI_1 ?_
      refine g_S2 d_X10_trouble_45 cs_X10_trouble_X10_has lk_RX10_149 im_X10_has (Nat.le_of_ble_eq_true rfl) ⟨rfl, rfl⟩ ⟨Nat.zero_le _, Nat.zero_le _⟩ (ct_X10_has (Int32.toInt64 v13) (1 : Int32) I1 J14 ) (fun r45 S45 Ic23 Jc24 q45_21 => ?_)
      obtain ⟨rfl, rfl, rfl, r26, rfl, hz45⟩ := q45_21
      refine g_st (st' := [.int r26]) rfl ?_
      refine g_if_ne d_X10_trouble_48 (fun h48 => ?_) (fun h48 => ?_)
      · skip
        refine g_iload_n d_X10_trouble_75 rfl ?_
        exact g_ireturn d_X10_trouble_76 rfl rfl rfl rfl ⟨rfl, trivial, v13, rfl, ⟨(hK15).1, Or.inr ⟨by grind, by grind, by rw [ev13, hm52], (hK15).2⟩⟩⟩
      · skip
        refine g_aload_n d_X10_trouble_51 rfl ?_
        refine g_getR d_X10_trouble_52 fq_RX10_7 rfl rfl ?_
        refine g_bipush (v := 53) d_X10_trouble_55 kB_53 ?_
        refine g_laload (N := 320) d_X10_trouble_57 rfl kT_320 ⟨by decide, by decide⟩ kN_53 ?_
        refine g_ldc2 (v := 600) d_X10_trouble_58 tw_1222 ?_
        refine g_lcmp_ge d_X10_trouble_61 d_X10_trouble_62 (fun h62 => ?_) (fun h62 => ?_)
        · skip
          refine g_iload_n d_X10_trouble_75 rfl ?_
          exact g_ireturn d_X10_trouble_76 rfl rfl rfl rfl ⟨rfl, trivial, v13, rfl, ⟨(hK15).1, Or.inr ⟨by grind, by grind, by rw [ev13, hm52], (hK15).2⟩⟩⟩
        · skip
          refine g_aload_n d_X10_trouble_65 rfl ?_
          refine g_getR d_X10_trouble_66 fq_RX10_7 rfl rfl ?_
          refine g_bipush (v := 53) d_X10_trouble_69 kB_53 ?_
          refine g_ldc2 (v := 600) d_X10_trouble_71 tw_1222 ?_
          refine g_lastore (N := 320) d_X10_trouble_74 rfl kT_320 ⟨by decide, by decide⟩ kN_53  ?_
          refine g_nmJ (fun J28 eJ28 => ?_)
          have hK29 : (MI (bgI I) I1 ∧ MK (wJ (bgJ I J) 79 52 (Int32.toInt64 set)) J28) := (by rw [eJ28]; exact ⟨(hK15).1, mj_53 (hK15).2 (by decide)⟩)
          refine g_iload_n d_X10_trouble_75 rfl ?_
          exact g_ireturn d_X10_trouble_76 rfl rfl rfl rfl ⟨rfl, trivial, v13, rfl, ⟨(hK29).1, Or.inr ⟨by grind, by grind, by rw [ev13, hm52], (hK29).2⟩⟩⟩
  · skip
    refine g_ldcw (v := -1000000001) d_X10_trouble_11 tw_1296 ?_
    exact g_ireturn d_X10_trouble_14 rfl rfl rfl rfl ⟨rfl, trivial, (-1000000001 : Int32), rfl, ⟨(hK6).1, Or.inl ⟨by grind, rfl, (hK6).2⟩⟩⟩
set_option maxRecDepth 100000 in
set_option maxHeartbeats 4000000 in
theorem ct_X10_fresh  (I : Iv) (J : Jv) (hma : MA I) (hmj : MJ J) : Ct m_X10_fresh [.ref 78] SHF I J (fun r S' I' J' => S' = SHF ∧ True ∧ ∃ v : Int32, r = some (.int v) ∧ (MI (bgI I) I' ∧ MK (wJ (bgJ I J) 79 54 0) J')) := by
  refine ct_of 1 (by decide +kernel) rfl rfl ?_
  have hK0 : (MI I I ∧ MK J J) := ⟨mi_rfl hma, mk_rfl hmj⟩
  refine g_aload_n d_X10_fresh_0 rfl ?_
  refine g_V0 d_X10_fresh_1 cs_X10_fresh_X10_begin lk_RX10_166 im_X10_begin se_X10_begin rfl rfl rfl (Nat.le_of_ble_eq_true rfl) ⟨rfl, rfl⟩ ⟨Nat.zero_le _, Nat.zero_le _⟩ (ct_X10_begin  I J hma hmj) (fun r1 S1 I1 J2 q1_2 => ?_)
  obtain ⟨rfl, hc1_3, rfl, hr1_4⟩ := q1_2
  refine g_st (st' := []) rfl ?_
  have hK6 : (MI (bgI I) I1 ∧ MK (bgJ I J) J2) := hr1_4
  refine g_aload_n d_X10_fresh_4 rfl ?_
  refine g_getR d_X10_fresh_5 fq_RX10_7 rfl rfl ?_
  refine g_bipush (v := 54) d_X10_fresh_8 kB_54 ?_
  refine g_laload (N := 320) d_X10_fresh_10 rfl kT_320 ⟨by decide, by decide⟩ kN_54 ?_
  refine g_l2i d_X10_fresh_11 ?_
  refine g_topI (fun v7 ev7 => ?_)
  refine g_istore_n (L' := [some (.ref 78), some (.int v7)]) d_X10_fresh_12 (by decide) rfl ?_
  refine g_aload_n d_X10_fresh_13 rfl ?_
  refine g_iconst (v := 0) d_X10_fresh_14 kI_0 ?_
  refine g_V1 d_X10_fresh_15 cs_X10_fresh_X10_freshen lk_RX10_84 im_X10_freshen se_X10_freshen rfl rfl rfl (Nat.le_of_ble_eq_true rfl) ⟨rfl, rfl⟩ ⟨Nat.zero_le _, Nat.zero_le _⟩ (ct_X10_freshen (0 : Int32) I1 J2 (by decide)) (fun r15 S15 Ic10 J8 q15_8 => ?_)
  obtain ⟨rfl, ⟨rfl, hc15_10⟩, rfl, hr15_11⟩ := q15_8
  refine g_st (st' := []) rfl ?_
  have hK13 : (MI (bgI I) I1 ∧ MK (wJ (bgJ I J) 79 54 0) J8) := ⟨(hK6).1, fh_mk0 (hK6).2 hr15_11⟩
  refine g_iload_n d_X10_fresh_18 rfl ?_
  exact g_ireturn d_X10_fresh_19 rfl rfl rfl rfl ⟨rfl, trivial, v7, rfl, hK13⟩
set_option maxRecDepth 100000 in
set_option maxHeartbeats 4000000 in
theorem ct_X10_current (on : Int32) (I : Iv) (J : Jv) (hma : MA I) (hmj : MJ J) : Ct m_X10_current [.ref 78, .int on] SHF I J (fun r S' I' J' => S' = SHF ∧ True ∧ ∃ v : Int32, r = some (.int v) ∧ (v = ((bgJ I J) 79 69).toInt32 ∧ MI (bgI I) I' ∧ MK (wJ (bgJ I J) 79 69 (Int32.toInt64 (if on = 0 then 0 else 1))) J')) := by
  refine ct_of 1 (by decide +kernel) rfl rfl ?_
  have hK0 : (MI I I ∧ MK J J) := ⟨mi_rfl hma, mk_rfl hmj⟩
  refine g_aload_n d_X10_current_0 rfl ?_
  refine g_V0 d_X10_current_1 cs_X10_current_X10_begin lk_RX10_166 im_X10_begin se_X10_begin rfl rfl rfl (Nat.le_of_ble_eq_true rfl) ⟨rfl, rfl⟩ ⟨Nat.zero_le _, Nat.zero_le _⟩ (ct_X10_begin  I J hma hmj) (fun r1 S1 I1 J2 q1_2 => ?_)
  obtain ⟨rfl, hc1_3, rfl, hr1_4⟩ := q1_2
  refine g_st (st' := []) rfl ?_
  have hK6 : (MI (bgI I) I1 ∧ MK (bgJ I J) J2) := hr1_4
  have hm69 := mk_v69 (hr1_4).2
  refine g_aload_n d_X10_current_4 rfl ?_
  refine g_getR d_X10_current_5 fq_RX10_7 rfl rfl ?_
  refine g_bipush (v := 69) d_X10_current_8 kB_69 ?_
  refine g_laload (N := 320) d_X10_current_10 rfl kT_320 ⟨by decide, by decide⟩ kN_69 ?_
  refine g_l2i d_X10_current_11 ?_
  refine g_topI (fun v7 ev7 => ?_)
  refine g_istore_n (L' := [some (.ref 78), some (.int on), some (.int v7)]) d_X10_current_12 (by decide) rfl ?_
  refine g_aload_n d_X10_current_13 rfl ?_
  refine g_getR d_X10_current_14 fq_RX10_7 rfl rfl ?_
  refine g_bipush (v := 69) d_X10_current_17 kB_69 ?_
  refine g_iload_n d_X10_current_19 rfl ?_
  refine g_S1 d_X10_current_20 cs_X10_current_X10_one lk_RX10_211 im_X10_one (Nat.le_of_ble_eq_true rfl) ⟨rfl, rfl⟩ ⟨Nat.zero_le _, Nat.zero_le _⟩ (ct_X10_one on I1 J2 ) (fun r20 S20 Ic9 Jc10 q20_7 => ?_)
  obtain ⟨rfl, rfl, rfl, r12, rfl, hr20_12⟩ := q20_7
  refine g_st (st' := [.int r12, .int (69 : Int32), .ref 79]) rfl ?_
  have h1v := (hr20_12).2
  refine g_i2l d_X10_current_23 ?_
  refine g_lastore (N := 320) d_X10_current_24 rfl kT_320 ⟨by decide, by decide⟩ kN_69  ?_
  refine g_nmJ (fun J14 eJ14 => ?_)
  have hK15 : (MI (bgI I) I1 ∧ MK (wJ (bgJ I J) 79 69 (Int32.toInt64 r12)) J14) := (by rw [eJ14]; exact ⟨(hK6).1, mj_69 (hK6).2⟩)
  refine g_iload_n d_X10_current_25 rfl ?_
  exact g_ireturn d_X10_current_26 rfl rfl rfl rfl ⟨rfl, trivial, v7, rfl, ⟨by rw [ev7, hm69], (hK15).1, by rw [← h1v]; exact (hK15).2⟩⟩
set_option maxRecDepth 100000 in
set_option maxHeartbeats 4000000 in
theorem ct_X10_cover (on : Int32) (I : Iv) (J : Jv) (hma : MA I) (hmj : MJ J) : Ct m_X10_cover [.ref 78, .int on] SHF I J (fun r S' I' J' => S' = SHF ∧ True ∧ ∃ v : Int32, r = some (.int v) ∧ (MI (bgI I) I' ∧ MK (bgJ I J) J')) := by
  refine ct_of 1 (by decide +kernel) rfl rfl ?_
  have hK0 : (MI I I ∧ MK J J) := ⟨mi_rfl hma, mk_rfl hmj⟩
  refine g_aload_n d_X10_cover_0 rfl ?_
  refine g_V0 d_X10_cover_1 cs_X10_cover_X10_begin lk_RX10_166 im_X10_begin se_X10_begin rfl rfl rfl (Nat.le_of_ble_eq_true rfl) ⟨rfl, rfl⟩ ⟨Nat.zero_le _, Nat.zero_le _⟩ (ct_X10_begin  I J hma hmj) (fun r1 S1 I1 J2 q1_2 => ?_)
  obtain ⟨rfl, hc1_3, rfl, hr1_4⟩ := q1_2
  refine g_st (st' := []) rfl ?_
  have hK6 : (MI (bgI I) I1 ∧ MK (bgJ I J) J2) := hr1_4
  refine g_aload_n d_X10_cover_4 rfl ?_
  refine g_getR d_X10_cover_5 fq_RX10_7 rfl rfl ?_
  refine g_bipush (v := 68) d_X10_cover_8 kB_68 ?_
  refine g_laload (N := 320) d_X10_cover_10 rfl kT_320 ⟨by decide, by decide⟩ kN_68 ?_
  refine g_l2i d_X10_cover_11 ?_
  refine g_topI (fun v7 ev7 => ?_)
  refine g_istore_n (L' := [some (.ref 78), some (.int on), some (.int v7)]) d_X10_cover_12 (by decide) rfl ?_
  refine g_aload_n d_X10_cover_13 rfl ?_
  refine g_getR d_X10_cover_14 fq_RX10_7 rfl rfl ?_
  refine g_bipush (v := 68) d_X10_cover_17 kB_68 ?_
  refine g_iload_n d_X10_cover_19 rfl ?_
  refine g_S1 d_X10_cover_20 cs_X10_cover_X10_one lk_RX10_211 im_X10_one (Nat.le_of_ble_eq_true rfl) ⟨rfl, rfl⟩ ⟨Nat.zero_le _, Nat.zero_le _⟩ (ct_X10_one on I1 J2 ) (fun r20 S20 Ic9 Jc10 q20_7 => ?_)
  obtain ⟨rfl, rfl, rfl, r12, rfl, hr20_12⟩ := q20_7
  refine g_st (st' := [.int r12, .int (68 : Int32), .ref 79]) rfl ?_
  refine g_i2l d_X10_cover_23 ?_
  refine g_lastore (N := 320) d_X10_cover_24 rfl kT_320 ⟨by decide, by decide⟩ kN_68  ?_
  refine g_nmJ (fun J14 eJ14 => ?_)
  have hK15 : (MI (bgI I) I1 ∧ MK (bgJ I J) J14) := (by rw [eJ14]; exact ⟨(hK6).1, mj_free (hK6).2 (by unfold jfree; refine ⟨fun X hX => ?_, fun X hX => ?_⟩ <;> omega)⟩)
  refine g_iload_n d_X10_cover_25 rfl ?_
  exact g_ireturn d_X10_cover_26 rfl rfl rfl rfl ⟨rfl, trivial, v7, rfl, hK15⟩
set_option maxRecDepth 100000 in
set_option maxHeartbeats 4000000 in
theorem ct_X10_put (s : Int32) (v_ : Int32) (c : Int32) (low : Int32) (high : Int32) (I : Iv) (J : Jv) (hma : MA I) (hmj : MJ J) : Ct m_X10_put [.ref 78, .int s, .int v_, .int c, .int low, .int high] SHF I J (fun r S' I' J' => S' = SHF ∧ True ∧ ∃ v : Int32, r = some (.int v) ∧ (MI (bgI I) I' ∧ MK (bgJ I J) J')) := by
  refine ct_of 1 (by decide +kernel) rfl rfl ?_
  have hK0 : (MI I I ∧ MK J J) := ⟨mi_rfl hma, mk_rfl hmj⟩
  refine g_aload_n d_X10_put_0 rfl ?_
  refine g_V0 d_X10_put_1 cs_X10_put_X10_begin lk_RX10_166 im_X10_begin se_X10_begin rfl rfl rfl (Nat.le_of_ble_eq_true rfl) ⟨rfl, rfl⟩ ⟨Nat.zero_le _, Nat.zero_le _⟩ (ct_X10_begin  I J hma hmj) (fun r1 S1 I1 J2 q1_2 => ?_)
  obtain ⟨rfl, hc1_3, rfl, hr1_4⟩ := q1_2
  refine g_st (st' := []) rfl ?_
  have hK6 : (MI (bgI I) I1 ∧ MK (bgJ I J) J2) := hr1_4
  refine g_iload_n d_X10_put_4 rfl ?_
  refine g_S1 d_X10_put_5 cs_X10_put_X10_isShelf lk_RX10_272 im_X10_isShelf (Nat.le_of_ble_eq_true rfl) ⟨rfl, rfl⟩ ⟨Nat.zero_le _, Nat.zero_le _⟩ (ct_X10_isShelf s I1 J2 ) (fun r5 S5 Ic8 Jc9 q5_6 => ?_)
  obtain ⟨rfl, rfl, rfl, r11, rfl, hz5, hr5_11⟩ := q5_6
  refine g_st (st' := [.int r11]) rfl ?_
  refine g_if_ne d_X10_put_8 (fun h8 => ?_) (fun h8 => ?_)
  · skip
    refine g_iload_n d_X10_put_15 rfl ?_
    refine g_S1 d_X10_put_16 cs_X10_put_X10_isDegree lk_RX10_275 im_X10_isDegree (Nat.le_of_ble_eq_true rfl) ⟨rfl, rfl⟩ ⟨Nat.zero_le _, Nat.zero_le _⟩ (ct_X10_isDegree v_ I1 J2 ) (fun r16 S16 Ic14 Jc15 q16_12 => ?_)
    obtain ⟨rfl, rfl, rfl, r17, rfl, hz16, hr16_17⟩ := q16_12
    refine g_st (st' := [.int r17]) rfl ?_
    refine g_if_eq d_X10_put_19 (fun h19 => ?_) (fun h19 => ?_)
    · skip
      refine g_ldc (v := -1000000002) d_X10_put_57 tw_1199 ?_
      exact g_ireturn d_X10_put_59 rfl rfl rfl rfl ⟨rfl, trivial, (-1000000002 : Int32), rfl, hK6⟩
    · skip
      refine g_iload_n d_X10_put_22 rfl ?_
      refine g_i2l d_X10_put_23 ?_
      refine g_lconst d_X10_put_24 kL_1 ?_
      refine g_ldc2 (v := 200) d_X10_put_25 tw_1325 ?_
      refine g_S3 d_X10_put_28 cs_X10_put_X10_in lk_RX10_96 im_X10_in (Nat.le_of_ble_eq_true rfl) ⟨rfl, rfl⟩ ⟨Nat.zero_le _, Nat.zero_le _⟩ (ct_X10_inL c (1 : Int64) (200 : Int64) (1 : Int32) (200 : Int32) (by decide) (by decide) I1 J2) (fun r28 S28 Ic20 Jc21 q28_18 => ?_)
      obtain ⟨rfl, rfl, rfl, r23, rfl, hz28, hr28_23⟩ := q28_18
      refine g_st (st' := [.int r23]) rfl ?_
      refine g_if_eq d_X10_put_31 (fun h31 => ?_) (fun h31 => ?_)
      · skip
        refine g_ldc (v := -1000000002) d_X10_put_57 tw_1199 ?_
        exact g_ireturn d_X10_put_59 rfl rfl rfl rfl ⟨rfl, trivial, (-1000000002 : Int32), rfl, hK6⟩
      · skip
        refine g_iload d_X10_put_34 rfl ?_
        refine g_S1 d_X10_put_36 cs_X10_put_X10_isDegree lk_RX10_275 im_X10_isDegree (Nat.le_of_ble_eq_true rfl) ⟨rfl, rfl⟩ ⟨Nat.zero_le _, Nat.zero_le _⟩ (ct_X10_isDegree low I1 J2 ) (fun r36 S36 Ic26 Jc27 q36_24 => ?_)
        obtain ⟨rfl, rfl, rfl, r29, rfl, hz36, hr36_29⟩ := q36_24
        refine g_st (st' := [.int r29]) rfl ?_
        refine g_if_eq d_X10_put_39 (fun h39 => ?_) (fun h39 => ?_)
        · skip
          refine g_ldc (v := -1000000002) d_X10_put_57 tw_1199 ?_
          exact g_ireturn d_X10_put_59 rfl rfl rfl rfl ⟨rfl, trivial, (-1000000002 : Int32), rfl, hK6⟩
        · skip
          refine g_iload d_X10_put_42 rfl ?_
          refine g_S1 d_X10_put_44 cs_X10_put_X10_isDegree lk_RX10_275 im_X10_isDegree (Nat.le_of_ble_eq_true rfl) ⟨rfl, rfl⟩ ⟨Nat.zero_le _, Nat.zero_le _⟩ (ct_X10_isDegree high I1 J2 ) (fun r44 S44 Ic32 Jc33 q44_30 => ?_)
          obtain ⟨rfl, rfl, rfl, r35, rfl, hz44, hr44_35⟩ := q44_30
          refine g_st (st' := [.int r35]) rfl ?_
          refine g_if_eq d_X10_put_47 (fun h47 => ?_) (fun h47 => ?_)
          · skip
            refine g_ldc (v := -1000000002) d_X10_put_57 tw_1199 ?_
            exact g_ireturn d_X10_put_59 rfl rfl rfl rfl ⟨rfl, trivial, (-1000000002 : Int32), rfl, hK6⟩
          · skip
            refine g_iload d_X10_put_50 rfl ?_
            refine g_iload d_X10_put_52 rfl ?_
            refine g_icmp_ge d_X10_put_54 (fun h54 => ?_) (fun h54 => ?_)
            · skip
              refine g_iconst (v := 0) d_X10_put_60 kI_0 ?_
              refine g_istore (L' := [some (.ref 78), some (.int s), some (.int v_), some (.int c), some (.int low), some (.int high), some (.int (0 : Int32))]) d_X10_put_61 (by decide) rfl ?_
              have K_63 : ∀ (nu : Nat) (x37 : Int32), mU (8 : Int32) x37 = nu → ((0 : Int32) ≤ x37) → (x37 ≤ 8) → G m_X10_put (rq m_X10_put (fun r S' I' J' => S' = SHF ∧ True ∧ ∃ v : Int32, r = some (.int v) ∧ (MI (bgI I) I' ∧ MK (bgJ I J) J'))) 0 0 63 [some (.ref 78), some (.int s), some (.int v_), some (.int c), some (.int low), some (.int high), some (.int x37)] [] SHF I1 J2 := by
                intro nu
                induction nu using Nat.strongRecOn with
                | ind nu ih_63 =>
                  intro x37 hmu_63 hl38 h8_63
                  refine g_iload d_X10_put_63 rfl ?_
                  refine g_bipush (v := 8) d_X10_put_65 kB_8 ?_
                  have J_91 : G m_X10_put (rq m_X10_put (fun r S' I' J' => S' = SHF ∧ True ∧ ∃ v : Int32, r = some (.int v) ∧ (MI (bgI I) I' ∧ MK (bgJ I J) J'))) 0 0 91 [some (.ref 78), some (.int s), some (.int v_), some (.int c), some (.int low), some (.int high), some (.int x37)] [] SHF I1 J2 := by
                    skip
                    refine g_iload d_X10_put_91 rfl ?_
                    refine g_bipush (v := 8) d_X10_put_93 kB_8 ?_
                    refine g_icmp_ne d_X10_put_95 (fun h95 => ?_) (fun h95 => ?_)
                    · skip
                      have hlt : x37.toNatClampNeg < 8 := by have q := tn_lt (a := x37) (n := 8) (by grind) (by grind); rwa [kN_8] at q
                      have hsb := i2l_bd (a := s) (b := 2) (by grind)
                      have hcb := i2l_bd2 (a := c) (by grind)
                      refine g_aload_n d_X10_put_101 rfl ?_
                      refine g_getR d_X10_put_102 fq_RX10_7 rfl rfl ?_
                      refine g_bipush (v := 12) d_X10_put_105 kB_12 ?_
                      refine g_iload d_X10_put_107 rfl ?_
                      refine g_iadd d_X10_put_109 ?_
                      refine g_lconst d_X10_put_110 kL_1 ?_
                      refine g_lastore (N := 320) d_X10_put_111 rfl kT_320 (by constructor <;> grind) (by rw [tn_add (by constructor <;> grind) (by constructor <;> grind), kN_12])  ?_
                      refine g_nmJ (fun J39 eJ39 => ?_)
                      refine g_aload_n d_X10_put_112 rfl ?_
                      refine g_getR d_X10_put_113 fq_RX10_7 rfl rfl ?_
                      refine g_iconst (v := 4) d_X10_put_116 kI_4 ?_
                      refine g_iload d_X10_put_117 rfl ?_
                      refine g_iadd d_X10_put_119 ?_
                      refine g_iload_n d_X10_put_120 rfl ?_
                      refine g_i2l d_X10_put_121 ?_
                      refine g_iload_n d_X10_put_122 rfl ?_
                      refine g_i2l d_X10_put_123 ?_
                      refine g_lmul d_X10_put_124 ?_
                      refine g_lastore (N := 320) d_X10_put_125 rfl kT_320 (by constructor <;> grind) (by rw [tn_add (by constructor <;> grind) (by constructor <;> grind), kN_4])  ?_
                      refine g_nmJ (fun J40 eJ40 => ?_)
                      refine g_aload_n d_X10_put_126 rfl ?_
                      refine g_getR d_X10_put_127 fq_RX10_7 rfl rfl ?_
                      refine g_bipush (v := 20) d_X10_put_130 kB_20 ?_
                      refine g_iload d_X10_put_132 rfl ?_
                      refine g_iadd d_X10_put_134 ?_
                      refine g_iload_n d_X10_put_135 rfl ?_
                      refine g_i2l d_X10_put_136 ?_
                      refine g_lastore (N := 320) d_X10_put_137 rfl kT_320 (by constructor <;> grind) (by rw [tn_add (by constructor <;> grind) (by constructor <;> grind), kN_20])  ?_
                      refine g_nmJ (fun J41 eJ41 => ?_)
                      refine g_aload_n d_X10_put_138 rfl ?_
                      refine g_getR d_X10_put_139 fq_RX10_7 rfl rfl ?_
                      refine g_bipush (v := 28) d_X10_put_142 kB_28 ?_
                      refine g_iload d_X10_put_144 rfl ?_
                      refine g_iadd d_X10_put_146 ?_
                      refine g_iload_n d_X10_put_147 rfl ?_
                      refine g_i2l d_X10_put_148 ?_
                      refine g_lastore (N := 320) d_X10_put_149 rfl kT_320 (by constructor <;> grind) (by rw [tn_add (by constructor <;> grind) (by constructor <;> grind), kN_28])  ?_
                      refine g_nmJ (fun J42 eJ42 => ?_)
                      have hK43 : (MI (bgI I) I1 ∧ MK (bgJ I J) J42) := (by simp only [eJ39, eJ40, eJ41, eJ42]; exact ⟨(hK6).1, mj_put (hK6).2 hlt hsb hcb⟩)
                      refine g_aload_n d_X10_put_150 rfl ?_
                      refine g_getR d_X10_put_151 fq_RX10_7 rfl rfl ?_
                      refine g_bipush (v := 36) d_X10_put_154 kB_36 ?_
                      refine g_iload d_X10_put_156 rfl ?_
                      refine g_iadd d_X10_put_158 ?_
                      refine g_iload d_X10_put_159 rfl ?_
                      refine g_i2l d_X10_put_161 ?_
                      refine g_lastore (N := 320) d_X10_put_162 rfl kT_320 (by constructor <;> grind) (by rw [tn_add (by constructor <;> grind) (by constructor <;> grind), kN_36])  ?_
                      refine g_nmJ (fun J44 eJ44 => ?_)
                      have hK45 : (MI (bgI I) I1 ∧ MK (bgJ I J) J44) := (by rw [eJ44]; exact ⟨(hK43).1, mj_free (hK43).2 (by unfold jfree; refine ⟨fun X hX => ?_, fun X hX => ?_⟩ <;> omega)⟩)
                      refine g_aload_n d_X10_put_163 rfl ?_
                      refine g_getR d_X10_put_164 fq_RX10_7 rfl rfl ?_
                      refine g_bipush (v := 44) d_X10_put_167 kB_44 ?_
                      refine g_iload d_X10_put_169 rfl ?_
                      refine g_iadd d_X10_put_171 ?_
                      refine g_iload d_X10_put_172 rfl ?_
                      refine g_i2l d_X10_put_174 ?_
                      refine g_lastore (N := 320) d_X10_put_175 rfl kT_320 (by constructor <;> grind) (by rw [tn_add (by constructor <;> grind) (by constructor <;> grind), kN_44])  ?_
                      refine g_nmJ (fun J46 eJ46 => ?_)
                      have hK47 : (MI (bgI I) I1 ∧ MK (bgJ I J) J46) := (by rw [eJ46]; exact ⟨(hK45).1, mj_free (hK45).2 (by unfold jfree; refine ⟨fun X hX => ?_, fun X hX => ?_⟩ <;> omega)⟩)
                      refine g_aload_n d_X10_put_176 rfl ?_
                      refine g_getR d_X10_put_177 fq_RX10_7 rfl rfl ?_
                      refine g_bipush (v := 56) d_X10_put_180 kB_56 ?_
                      refine g_dup2 d_X10_put_182 rfl rfl ?_
                      refine g_laload (N := 320) d_X10_put_183 rfl kT_320 ⟨by decide, by decide⟩ kN_56 ?_
                      refine g_iload_n d_X10_put_184 rfl ?_
                      refine g_i2l d_X10_put_185 ?_
                      refine g_iload_n d_X10_put_186 rfl ?_
                      refine g_i2l d_X10_put_187 ?_
                      refine g_lmul d_X10_put_188 ?_
                      refine g_ladd d_X10_put_189 ?_
                      refine g_lastore (N := 320) d_X10_put_190 rfl kT_320 ⟨by decide, by decide⟩ kN_56  ?_
                      refine g_nmJ (fun J48 eJ48 => ?_)
                      have hK49 : (MI (bgI I) I1 ∧ MK (bgJ I J) J48) := (by rw [eJ48]; exact ⟨(hK47).1, mj_free (hK47).2 (by unfold jfree; refine ⟨fun X hX => ?_, fun X hX => ?_⟩ <;> omega)⟩)
                      refine g_iload d_X10_put_191 rfl ?_
                      exact g_ireturn d_X10_put_193 rfl rfl rfl rfl ⟨rfl, trivial, x37, rfl, hK49⟩
                    · skip
                      refine g_ldc (v := -1000000004) d_X10_put_98 tw_1200 ?_
                      exact g_ireturn d_X10_put_100 rfl rfl rfl rfl ⟨rfl, trivial, (-1000000004 : Int32), rfl, hK6⟩
                  refine g_icmp_ge d_X10_put_67 (fun h67 => ?_) (fun h67 => ?_)
                  · skip
                    exact J_91
                  · skip
                    refine g_aload_n d_X10_put_70 rfl ?_
                    refine g_getR d_X10_put_71 fq_RX10_7 rfl rfl ?_
                    refine g_bipush (v := 12) d_X10_put_74 kB_12 ?_
                    refine g_iload d_X10_put_76 rfl ?_
                    refine g_iadd d_X10_put_78 ?_
                    refine g_laload (N := 320) d_X10_put_79 rfl kT_320 (by constructor <;> grind) (by rw [tn_add (by constructor <;> grind) (by constructor <;> grind), kN_12]) ?_
                    refine g_lconst d_X10_put_80 kL_1 ?_
                    refine g_lcmp_ne d_X10_put_81 d_X10_put_82 (fun h82 => ?_) (fun h82 => ?_)
                    · skip
                      exact J_91
                    · skip
                      refine g_iinc (v := (x37 + (1 : Int32))) (L' := [some (.ref 78), some (.int s), some (.int v_), some (.int c), some (.int low), some (.int high), some (.int (x37 + (1 : Int32)))]) d_X10_put_85 rfl (by rw [kI_1]) (by decide) rfl ?_
                      refine g_goto d_X10_put_88 ?_
                      exact ih_63 _ (by rw [← hmu_63]; exact mu_up h67) (x37 + (1 : Int32)) rfl (lo_up hl38 h67) (by grind)
              exact K_63 _ (0 : Int32) rfl (Int32.le_refl _) (by grind)
            · skip
              refine g_ldc (v := -1000000002) d_X10_put_57 tw_1199 ?_
              exact g_ireturn d_X10_put_59 rfl rfl rfl rfl ⟨rfl, trivial, (-1000000002 : Int32), rfl, hK6⟩
  · skip
    refine g_ldcw (v := -1000000001) d_X10_put_11 tw_1296 ?_
    exact g_ireturn d_X10_put_14 rfl rfl rfl rfl ⟨rfl, trivial, (-1000000001 : Int32), rfl, hK6⟩
set_option maxRecDepth 100000 in
set_option maxHeartbeats 4000000 in
theorem ct_X10_take (f : Int32) (I : Iv) (J : Jv) (hma : MA I) (hmj : MJ J) : Ct m_X10_take [.ref 78, .int f] SHF I J (fun r S' I' J' => S' = SHF ∧ True ∧ ∃ v : Int32, r = some (.int v) ∧ (MI (bgI I) I' ∧ MK (bgJ I J) J')) := by
  refine ct_of 1 (by decide +kernel) rfl rfl ?_
  have hK0 : (MI I I ∧ MK J J) := ⟨mi_rfl hma, mk_rfl hmj⟩
  refine g_aload_n d_X10_take_0 rfl ?_
  refine g_V0 d_X10_take_1 cs_X10_take_X10_begin lk_RX10_166 im_X10_begin se_X10_begin rfl rfl rfl (Nat.le_of_ble_eq_true rfl) ⟨rfl, rfl⟩ ⟨Nat.zero_le _, Nat.zero_le _⟩ (ct_X10_begin  I J hma hmj) (fun r1 S1 I1 J2 q1_2 => ?_)
  obtain ⟨rfl, hc1_3, rfl, hr1_4⟩ := q1_2
  refine g_st (st' := []) rfl ?_
  have hK6 : (MI (bgI I) I1 ∧ MK (bgJ I J) J2) := hr1_4
  refine g_aload_n d_X10_take_4 rfl ?_
  refine g_iload_n d_X10_take_5 rfl ?_
  refine g_V1 d_X10_take_6 cs_X10_take_X10_isFood lk_RX10_280 im_X10_isFood se_X10_isFood rfl rfl rfl (Nat.le_of_ble_eq_true rfl) ⟨rfl, rfl⟩ ⟨Nat.zero_le _, Nat.zero_le _⟩ (ct_X10_isFood f I1 J2 ) (fun r6 S6 Ic8 Jc9 q6_6 => ?_)
  obtain ⟨rfl, rfl, rfl, r11, rfl, hz6, hr6_11⟩ := q6_6
  refine g_st (st' := [.int r11]) rfl ?_
  refine g_if_ne d_X10_take_9 (fun h9 => ?_) (fun h9 => ?_)
  · skip
    have hlt : f.toNatClampNeg < 8 := by have q := tn_lt (a := f) (n := 8) (by grind) (by grind); rwa [kN_8] at q
    have hcp := cap0 (hK6).2 (f := f) (by grind) (by grind) (by grind)
    refine g_aload_n d_X10_take_16 rfl ?_
    refine g_iconst (v := 0) d_X10_take_17 kI_0 ?_
    refine g_iconst (v := 4) d_X10_take_18 kI_4 ?_
    refine g_iload_n d_X10_take_19 rfl ?_
    refine g_iadd d_X10_take_20 ?_
    refine g_V2 d_X10_take_21 cs_X10_take_X10_warm lk_RX10_200 im_X10_warm se_X10_warm rfl rfl rfl (Nat.le_of_ble_eq_true rfl) ⟨rfl, rfl⟩ ⟨Nat.zero_le _, Nat.zero_le _⟩ (ct_X10_warm (0 : Int32) ((4 : Int32) + f) I1 J2 (by decide) (by grind) (fun _ => hcp.1)) (fun r21 S21 Ic14 Jc15 q21_12 => ?_)
    obtain ⟨rfl, rfl, rfl, r17, rfl⟩ := q21_12
    refine g_st (st' := [.long r17]) rfl ?_
    refine g_l2i d_X10_take_24 ?_
    refine g_topI (fun v19 ev19 => ?_)
    refine g_istore_n (L' := [some (.ref 78), some (.int f), some (.int v19)]) d_X10_take_25 (by decide) rfl ?_
    refine g_aload_n d_X10_take_26 rfl ?_
    refine g_getR d_X10_take_27 fq_RX10_7 rfl rfl ?_
    refine g_bipush (v := 59) d_X10_take_30 kB_59 ?_
    refine g_dup2 d_X10_take_32 rfl rfl ?_
    refine g_laload (N := 320) d_X10_take_33 rfl kT_320 ⟨by decide, by decide⟩ kN_59 ?_
    refine g_aload_n d_X10_take_34 rfl ?_
    refine g_getR d_X10_take_35 fq_RX10_7 rfl rfl ?_
    refine g_iconst (v := 4) d_X10_take_38 kI_4 ?_
    refine g_iload_n d_X10_take_39 rfl ?_
    refine g_iadd d_X10_take_40 ?_
    refine g_laload (N := 320) d_X10_take_41 rfl kT_320 (by constructor <;> grind) (by rw [tn_add (by constructor <;> grind) (by constructor <;> grind), kN_4]) ?_
    refine g_ladd d_X10_take_42 ?_
    refine g_lastore (N := 320) d_X10_take_43 rfl kT_320 ⟨by decide, by decide⟩ kN_59  ?_
    refine g_nmJ (fun J20 eJ20 => ?_)
    have hK21 : (MI (bgI I) I1 ∧ MK (bgJ I J) J20) := (by rw [eJ20]; exact ⟨(hK6).1, mj_free (hK6).2 (by unfold jfree; refine ⟨fun X hX => ?_, fun X hX => ?_⟩ <;> omega)⟩)
    refine g_aload_n d_X10_take_44 rfl ?_
    refine g_getR d_X10_take_45 fq_RX10_7 rfl rfl ?_
    refine g_iconst (v := 4) d_X10_take_48 kI_4 ?_
    refine g_iload_n d_X10_take_49 rfl ?_
    refine g_iadd d_X10_take_50 ?_
    refine g_lconst d_X10_take_51 kL_0 ?_
    refine g_lastore (N := 320) d_X10_take_52 rfl kT_320 (by constructor <;> grind) (by rw [tn_add (by constructor <;> grind) (by constructor <;> grind), kN_4])  ?_
    refine g_nmJ (fun J22 eJ22 => ?_)
    have hK23 : (MI (bgI I) I1 ∧ MK (bgJ I J) J22) := (by rw [eJ22]; exact ⟨(hK21).1, mj_free (hK21).2 (by unfold jfree; refine ⟨fun X hX => ?_, fun X hX => ?_⟩ <;> omega)⟩)
    refine g_aload_n d_X10_take_53 rfl ?_
    refine g_getR d_X10_take_54 fq_RX10_7 rfl rfl ?_
    refine g_bipush (v := 12) d_X10_take_57 kB_12 ?_
    refine g_iload_n d_X10_take_59 rfl ?_
    refine g_iadd d_X10_take_60 ?_
    refine g_lconst d_X10_take_61 kL_0 ?_
    refine g_lastore (N := 320) d_X10_take_62 rfl kT_320 (by constructor <;> grind) (by rw [tn_add (by constructor <;> grind) (by constructor <;> grind), kN_12])  ?_
    refine g_nmJ (fun J24 eJ24 => ?_)
    have hK25 : (MI (bgI I) I1 ∧ MK (bgJ I J) J24) := (by rw [eJ24]; exact ⟨(hK23).1, mj_12 (hK23).2 hlt⟩)
    refine g_iload_n d_X10_take_63 rfl ?_
    exact g_ireturn d_X10_take_64 rfl rfl rfl rfl ⟨rfl, trivial, v19, rfl, hK25⟩
  · skip
    refine g_ldcw (v := -1000000001) d_X10_take_12 tw_1296 ?_
    exact g_ireturn d_X10_take_15 rfl rfl rfl rfl ⟨rfl, trivial, (-1000000001 : Int32), rfl, hK6⟩
set_option maxRecDepth 100000 in
set_option maxHeartbeats 4000000 in
theorem ct_X10_lay (f : Int32) (s : Int32) (I : Iv) (J : Jv) (hma : MA I) (hmj : MJ J) : Ct m_X10_lay [.ref 78, .int f, .int s] SHF I J (fun r S' I' J' => S' = SHF ∧ True ∧ ∃ v : Int32, r = some (.int v) ∧ (MI (bgI I) I' ∧ MK (bgJ I J) J')) := by
  refine ct_of 1 (by decide +kernel) rfl rfl ?_
  have hK0 : (MI I I ∧ MK J J) := ⟨mi_rfl hma, mk_rfl hmj⟩
  refine g_aload_n d_X10_lay_0 rfl ?_
  refine g_V0 d_X10_lay_1 cs_X10_lay_X10_begin lk_RX10_166 im_X10_begin se_X10_begin rfl rfl rfl (Nat.le_of_ble_eq_true rfl) ⟨rfl, rfl⟩ ⟨Nat.zero_le _, Nat.zero_le _⟩ (ct_X10_begin  I J hma hmj) (fun r1 S1 I1 J2 q1_2 => ?_)
  obtain ⟨rfl, hc1_3, rfl, hr1_4⟩ := q1_2
  refine g_st (st' := []) rfl ?_
  have hK6 : (MI (bgI I) I1 ∧ MK (bgJ I J) J2) := hr1_4
  refine g_aload_n d_X10_lay_4 rfl ?_
  refine g_iload_n d_X10_lay_5 rfl ?_
  refine g_V1 d_X10_lay_6 cs_X10_lay_X10_isFood lk_RX10_280 im_X10_isFood se_X10_isFood rfl rfl rfl (Nat.le_of_ble_eq_true rfl) ⟨rfl, rfl⟩ ⟨Nat.zero_le _, Nat.zero_le _⟩ (ct_X10_isFood f I1 J2 ) (fun r6 S6 Ic8 Jc9 q6_6 => ?_)
  obtain ⟨rfl, rfl, rfl, r11, rfl, hz6, hr6_11⟩ := q6_6
  refine g_st (st' := [.int r11]) rfl ?_
  refine g_if_eq d_X10_lay_9 (fun h9 => ?_) (fun h9 => ?_)
  · skip
    refine g_ldcw (v := -1000000001) d_X10_lay_19 tw_1296 ?_
    exact g_ireturn d_X10_lay_22 rfl rfl rfl rfl ⟨rfl, trivial, (-1000000001 : Int32), rfl, hK6⟩
  · skip
    refine g_iload_n d_X10_lay_12 rfl ?_
    refine g_S1 d_X10_lay_13 cs_X10_lay_X10_isShelf lk_RX10_272 im_X10_isShelf (Nat.le_of_ble_eq_true rfl) ⟨rfl, rfl⟩ ⟨Nat.zero_le _, Nat.zero_le _⟩ (ct_X10_isShelf s I1 J2 ) (fun r13 S13 Ic14 Jc15 q13_12 => ?_)
    obtain ⟨rfl, rfl, rfl, r17, rfl, hz13, hr13_17⟩ := q13_12
    refine g_st (st' := [.int r17]) rfl ?_
    refine g_if_ne d_X10_lay_16 (fun h16 => ?_) (fun h16 => ?_)
    · skip
      have hlt : f.toNatClampNeg < 8 := by have q := tn_lt (a := f) (n := 8) (by grind) (by grind); rwa [kN_8] at q
      have hsb := i2l_bd (a := s) (b := 2) (by grind)
      refine g_aload_n d_X10_lay_23 rfl ?_
      refine g_getR d_X10_lay_24 fq_RX10_7 rfl rfl ?_
      refine g_bipush (v := 20) d_X10_lay_27 kB_20 ?_
      refine g_iload_n d_X10_lay_29 rfl ?_
      refine g_iadd d_X10_lay_30 ?_
      refine g_laload (N := 320) d_X10_lay_31 rfl kT_320 (by constructor <;> grind) (by rw [tn_add (by constructor <;> grind) (by constructor <;> grind), kN_20]) ?_
      refine g_l2i d_X10_lay_32 ?_
      refine g_topI (fun v19 ev19 => ?_)
      refine g_istore_n (L' := [some (.ref 78), some (.int f), some (.int s), some (.int v19)]) d_X10_lay_33 (by decide) rfl ?_
      refine g_aload_n d_X10_lay_34 rfl ?_
      refine g_getR d_X10_lay_35 fq_RX10_7 rfl rfl ?_
      refine g_bipush (v := 20) d_X10_lay_38 kB_20 ?_
      refine g_iload_n d_X10_lay_40 rfl ?_
      refine g_iadd d_X10_lay_41 ?_
      refine g_iload_n d_X10_lay_42 rfl ?_
      refine g_i2l d_X10_lay_43 ?_
      refine g_lastore (N := 320) d_X10_lay_44 rfl kT_320 (by constructor <;> grind) (by rw [tn_add (by constructor <;> grind) (by constructor <;> grind), kN_20])  ?_
      refine g_nmJ (fun J20 eJ20 => ?_)
      have hK21 : (MI (bgI I) I1 ∧ MK (bgJ I J) J20) := (by rw [eJ20]; exact ⟨(hK6).1, mj_20 (hK6).2 hlt hsb⟩)
      refine g_iload_n d_X10_lay_45 rfl ?_
      exact g_ireturn d_X10_lay_46 rfl rfl rfl rfl ⟨rfl, trivial, v19, rfl, hK21⟩
    · skip
      refine g_ldcw (v := -1000000001) d_X10_lay_19 tw_1296 ?_
      exact g_ireturn d_X10_lay_22 rfl rfl rfl rfl ⟨rfl, trivial, (-1000000001 : Int32), rfl, hK6⟩
set_option maxRecDepth 100000 in
set_option maxHeartbeats 4000000 in
theorem ct_X10_food (f : Int32) (what : Int32) (I : Iv) (J : Jv) (hma : MA I) (hmj : MJ J) : Ct m_X10_food [.ref 78, .int f, .int what] SHF I J (fun r S' I' J' => S' = SHF ∧ True ∧ ∃ v : Int32, r = some (.int v) ∧ (MI (bgI I) I' ∧ MK (bgJ I J) J')) := by
  refine ct_of 0 (by decide +kernel) rfl rfl ?_
  have hK0 : (MI I I ∧ MK J J) := ⟨mi_rfl hma, mk_rfl hmj⟩
  refine g_aload_n d_X10_food_0 rfl ?_
  refine g_V0 d_X10_food_1 cs_X10_food_X10_begin lk_RX10_166 im_X10_begin se_X10_begin rfl rfl rfl (Nat.le_of_ble_eq_true rfl) ⟨rfl, rfl⟩ ⟨Nat.zero_le _, Nat.zero_le _⟩ (ct_X10_begin  I J hma hmj) (fun r1 S1 I1 J2 q1_2 => ?_)
  obtain ⟨rfl, hc1_3, rfl, hr1_4⟩ := q1_2
  refine g_st (st' := []) rfl ?_
  have hK6 : (MI (bgI I) I1 ∧ MK (bgJ I J) J2) := hr1_4
  refine g_aload_n d_X10_food_4 rfl ?_
  refine g_iload_n d_X10_food_5 rfl ?_
  refine g_V1 d_X10_food_6 cs_X10_food_X10_isFood lk_RX10_280 im_X10_isFood se_X10_isFood rfl rfl rfl (Nat.le_of_ble_eq_true rfl) ⟨rfl, rfl⟩ ⟨Nat.zero_le _, Nat.zero_le _⟩ (ct_X10_isFood f I1 J2 ) (fun r6 S6 Ic8 Jc9 q6_6 => ?_)
  obtain ⟨rfl, rfl, rfl, r11, rfl, hz6, hr6_11⟩ := q6_6
  refine g_st (st' := [.int r11]) rfl ?_
  refine g_if_ne d_X10_food_9 (fun h9 => ?_) (fun h9 => ?_)
  · skip
    have hcp := cap0 (hK6).2 (f := f) (by grind) (by grind) (by grind)
    refine g_iload_n d_X10_food_16 rfl ?_
    rcases sw_split what (0) (5) with h17 | h17
    · skip
      refine g_swOut d_X10_food_17 h17 ?_
      refine g_ldc (v := -1000000002) d_X10_food_120 tw_1199 ?_
      exact g_ireturn d_X10_food_122 rfl rfl rfl rfl ⟨rfl, trivial, (-1000000002 : Int32), rfl, hK6⟩
    · skip
      have hz : ∃ k : Nat, k < 6 ∧ (what).toInt = (0 : Int) + (k : Int) := by obtain ⟨k, h1, h2⟩ := sw_k h17; exact ⟨k, by omega, h2⟩
      obtain ⟨k, hk, hz⟩ := hz
      match k, hk, hz with
      | 0, _, hz =>
        refine g_swIn d_X10_food_17_0 (by rw [hz]; decide) (by rw [hz]; decide) (by rw [hz]; rfl) ?_
        refine g_aload_n d_X10_food_56 rfl ?_
        refine g_getR d_X10_food_57 fq_RX10_7 rfl rfl ?_
        refine g_bipush (v := 20) d_X10_food_60 kB_20 ?_
        refine g_iload_n d_X10_food_62 rfl ?_
        refine g_iadd d_X10_food_63 ?_
        refine g_laload (N := 320) d_X10_food_64 rfl kT_320 (by constructor <;> grind) (by rw [tn_add (by constructor <;> grind) (by constructor <;> grind), kN_20]) ?_
        refine g_l2i d_X10_food_65 ?_
        exact g_ireturn d_X10_food_66 rfl rfl rfl rfl ⟨rfl, trivial, (Int64.toInt32 (J2 79 (20 + f.toNatClampNeg))), rfl, hK6⟩
      | 1, _, hz =>
        refine g_swIn d_X10_food_17_1 (by rw [hz]; decide) (by rw [hz]; decide) (by rw [hz]; rfl) ?_
        refine g_aload_n d_X10_food_67 rfl ?_
        refine g_iconst (v := 0) d_X10_food_68 kI_0 ?_
        refine g_iconst (v := 4) d_X10_food_69 kI_4 ?_
        refine g_iload_n d_X10_food_70 rfl ?_
        refine g_iadd d_X10_food_71 ?_
        refine g_V2 d_X10_food_72 cs_X10_food_X10_warm lk_RX10_200 im_X10_warm se_X10_warm rfl rfl rfl (Nat.le_of_ble_eq_true rfl) ⟨rfl, rfl⟩ ⟨Nat.zero_le _, Nat.zero_le _⟩ (ct_X10_warm (0 : Int32) ((4 : Int32) + f) I1 J2 (by decide) (by grind) (fun _ => hcp.1)) (fun r72 S72 Ic14 Jc15 q72_12 => ?_)
        obtain ⟨rfl, rfl, rfl, r17, rfl⟩ := q72_12
        refine g_st (st' := [.long r17]) rfl ?_
        refine g_l2i d_X10_food_75 ?_
        exact g_ireturn d_X10_food_76 rfl rfl rfl rfl ⟨rfl, trivial, (Int64.toInt32 r17), rfl, hK6⟩
      | 2, _, hz =>
        refine g_swIn d_X10_food_17_2 (by rw [hz]; decide) (by rw [hz]; decide) (by rw [hz]; rfl) ?_
        refine g_aload_n d_X10_food_77 rfl ?_
        refine g_getR d_X10_food_78 fq_RX10_7 rfl rfl ?_
        refine g_bipush (v := 28) d_X10_food_81 kB_28 ?_
        refine g_iload_n d_X10_food_83 rfl ?_
        refine g_iadd d_X10_food_84 ?_
        refine g_laload (N := 320) d_X10_food_85 rfl kT_320 (by constructor <;> grind) (by rw [tn_add (by constructor <;> grind) (by constructor <;> grind), kN_28]) ?_
        refine g_l2i d_X10_food_86 ?_
        exact g_ireturn d_X10_food_87 rfl rfl rfl rfl ⟨rfl, trivial, (Int64.toInt32 (J2 79 (28 + f.toNatClampNeg))), rfl, hK6⟩
      | 3, _, hz =>
        refine g_swIn d_X10_food_17_3 (by rw [hz]; decide) (by rw [hz]; decide) (by rw [hz]; rfl) ?_
        refine g_aload_n d_X10_food_88 rfl ?_
        refine g_getR d_X10_food_89 fq_RX10_7 rfl rfl ?_
        refine g_bipush (v := 36) d_X10_food_92 kB_36 ?_
        refine g_iload_n d_X10_food_94 rfl ?_
        refine g_iadd d_X10_food_95 ?_
        refine g_laload (N := 320) d_X10_food_96 rfl kT_320 (by constructor <;> grind) (by rw [tn_add (by constructor <;> grind) (by constructor <;> grind), kN_36]) ?_
        refine g_l2i d_X10_food_97 ?_
        exact g_ireturn d_X10_food_98 rfl rfl rfl rfl ⟨rfl, trivial, (Int64.toInt32 (J2 79 (36 + f.toNatClampNeg))), rfl, hK6⟩
      | 4, _, hz =>
        refine g_swIn d_X10_food_17_4 (by rw [hz]; decide) (by rw [hz]; decide) (by rw [hz]; rfl) ?_
        refine g_aload_n d_X10_food_99 rfl ?_
        refine g_getR d_X10_food_100 fq_RX10_7 rfl rfl ?_
        refine g_bipush (v := 44) d_X10_food_103 kB_44 ?_
        refine g_iload_n d_X10_food_105 rfl ?_
        refine g_iadd d_X10_food_106 ?_
        refine g_laload (N := 320) d_X10_food_107 rfl kT_320 (by constructor <;> grind) (by rw [tn_add (by constructor <;> grind) (by constructor <;> grind), kN_44]) ?_
        refine g_l2i d_X10_food_108 ?_
        exact g_ireturn d_X10_food_109 rfl rfl rfl rfl ⟨rfl, trivial, (Int64.toInt32 (J2 79 (44 + f.toNatClampNeg))), rfl, hK6⟩
      | 5, _, hz =>
        refine g_swIn d_X10_food_17_5 (by rw [hz]; decide) (by rw [hz]; decide) (by rw [hz]; rfl) ?_
        refine g_aload_n d_X10_food_110 rfl ?_
        refine g_iconst (v := 0) d_X10_food_111 kI_0 ?_
        refine g_iload_n d_X10_food_112 rfl ?_
        refine g_V2 d_X10_food_113 cs_X10_food_X10_isWithin lk_RX10_283 im_X10_isWithin se_X10_isWithin rfl rfl rfl (Nat.le_of_ble_eq_true rfl) ⟨rfl, rfl⟩ ⟨Nat.zero_le _, Nat.zero_le _⟩ (ct_X10_isWithin (0 : Int32) f I1 J2 (by decide) (by grind) hcp.1) (fun r113 S113 Ic20 Jc21 q113_18 => ?_)
        obtain ⟨rfl, rfl, rfl, r23, rfl, hz113⟩ := q113_18
        refine g_st (st' := [.int r23]) rfl ?_
        refine g_S1 d_X10_food_116 cs_X10_food_X10_one lk_RX10_211 im_X10_one (Nat.le_of_ble_eq_true rfl) ⟨rfl, rfl⟩ ⟨Nat.zero_le _, Nat.zero_le _⟩ (ct_X10_one r23 I1 J2 ) (fun r116 S116 Ic26 Jc27 q116_24 => ?_)
        obtain ⟨rfl, rfl, rfl, r29, rfl, hr116_29⟩ := q116_24
        refine g_st (st' := [.int r29]) rfl ?_
        exact g_ireturn d_X10_food_119 rfl rfl rfl rfl ⟨rfl, trivial, r29, rfl, hK6⟩
      | k + 6, hk, _ => exact absurd hk (by omega)
  · skip
    refine g_ldcw (v := -1000000001) d_X10_food_12 tw_1296 ?_
    exact g_ireturn d_X10_food_15 rfl rfl rfl rfl ⟨rfl, trivial, (-1000000001 : Int32), rfl, hK6⟩
set_option maxRecDepth 100000 in
set_option maxHeartbeats 4000000 in
theorem ct_X10_run (n : Int32) (I : Iv) (J : Jv) (hma : MA I) (hmj : MJ J) : Ct m_X10_run [.ref 78, .int n] SHF I J (fun r S' I' J' => S' = SHF ∧ True ∧ ∃ v : Int32, r = some (.int v) ∧ (MI (bgI I) I' ∧ ∃ k : Int64, 0 ≤ k ∧ k ≤ 2880 ∧ MK (wJ (bgJ I J) 79 54 ((bgJ I J) 79 54 + k)) J')) := by
  refine ct_of 2 (by decide +kernel) rfl rfl ?_
  have hK0 : (MI I I ∧ MK J J) := ⟨mi_rfl hma, mk_rfl hmj⟩
  refine g_aload_n d_X10_run_0 rfl ?_
  refine g_V0 d_X10_run_1 cs_X10_run_X10_begin lk_RX10_166 im_X10_begin se_X10_begin rfl rfl rfl (Nat.le_of_ble_eq_true rfl) ⟨rfl, rfl⟩ ⟨Nat.zero_le _, Nat.zero_le _⟩ (ct_X10_begin  I J hma hmj) (fun r1 S1 I1 J2 q1_2 => ?_)
  obtain ⟨rfl, hc1_3, rfl, hr1_4⟩ := q1_2
  refine g_st (st' := []) rfl ?_
  have hK6 : (MI (bgI I) I1 ∧ MK (bgJ I J) J2) := hr1_4
  refine g_iload_n d_X10_run_4 rfl ?_
  refine g_i2l d_X10_run_5 ?_
  refine g_lconst d_X10_run_6 kL_1 ?_
  refine g_ldc2 (v := 2880) d_X10_run_7 tw_1361 ?_
  refine g_S3 d_X10_run_10 cs_X10_run_X10_in lk_RX10_96 im_X10_in (Nat.le_of_ble_eq_true rfl) ⟨rfl, rfl⟩ ⟨Nat.zero_le _, Nat.zero_le _⟩ (ct_X10_inL n (1 : Int64) (2880 : Int64) (1 : Int32) (2880 : Int32) (by decide) (by decide) I1 J2) (fun r10 S10 Ic8 Jc9 q10_6 => ?_)
  obtain ⟨rfl, rfl, rfl, r11, rfl, hz10, hr10_11⟩ := q10_6
  refine g_st (st' := [.int r11]) rfl ?_
  refine g_if_ne d_X10_run_13 (fun h13 => ?_) (fun h13 => ?_)
  · skip
    refine g_aload_n d_X10_run_19 rfl ?_
    refine g_getR d_X10_run_20 fq_RX10_7 rfl rfl ?_
    refine g_bipush (v := 65) d_X10_run_23 kB_65 ?_
    refine g_laload (N := 320) d_X10_run_25 rfl kT_320 ⟨by decide, by decide⟩ kN_65 ?_
    refine g_topJ (fun v13 ev13 => ?_)
    refine g_lstore_n (L' := [some (.ref 78), some (.int n), some (.long v13), none]) d_X10_run_26 (by decide) rfl ?_
    have ht0 := mk_t54 (hK6).2
    have hkb := i2l_bd (a := n) (b := 2880) (by grind)
    refine g_aload_n d_X10_run_27 rfl ?_
    refine g_iconst (v := 0) d_X10_run_28 kI_0 ?_
    refine g_iload_n d_X10_run_29 rfl ?_
    refine g_V2 d_X10_run_30 cs_X10_run_X10_go lk_RX10_289 im_X10_go se_X10_go rfl rfl rfl (Nat.le_of_ble_eq_true rfl) ⟨rfl, rfl⟩ ⟨Nat.zero_le _, Nat.zero_le _⟩ (ct_X10_go (0 : Int32) n I1 J2 (by decide) ((hK6).2.2 _ (by decide)).2.1 ((hK6).2.2 _ (by decide)).1 ((hK6).1.2.2.1) (by grind) ((hK6).1.2.2.2.1) ((hK6).1.2.2.2.2.1)) (fun r30 S30 Ic16 J14 q30_14 => ?_)
    obtain ⟨rfl, ⟨rfl, hc30_16⟩, rfl, hr30_17⟩ := q30_14
    refine g_st (st' := []) rfl ?_
    have hK19 : (MI (bgI I) I1 ∧ MK (wJ (bgJ I J) 79 54 (J2 79 54 + Int32.toInt64 n)) J14) := ⟨(hK6).1, tg_mk0 (hK6).2 hc30_16 hr30_17⟩
    refine g_aload_n d_X10_run_33 rfl ?_
    refine g_getR d_X10_run_34 fq_RX10_7 rfl rfl ?_
    refine g_bipush (v := 65) d_X10_run_37 kB_65 ?_
    refine g_laload (N := 320) d_X10_run_39 rfl kT_320 ⟨by decide, by decide⟩ kN_65 ?_
    refine g_lload_n d_X10_run_40 rfl ?_
    refine g_lsub d_X10_run_41 ?_
    refine g_l2i d_X10_run_42 ?_
    exact g_ireturn d_X10_run_43 rfl rfl rfl rfl ⟨rfl, trivial, (Int64.toInt32 ((J14 79 65) - v13)), rfl, ⟨(hK19).1, Int32.toInt64 n, hkb.1, hkb.2, by rw [← ht0]; exact (hK19).2⟩⟩
  · skip
    refine g_ldc (v := -1000000002) d_X10_run_16 tw_1199 ?_
    exact g_ireturn d_X10_run_18 rfl rfl rfl rfl ⟨rfl, trivial, (-1000000002 : Int32), rfl, ⟨(hK6).1, 0, by decide, by decide, mk_t0 (hK6).2⟩⟩
set_option maxRecDepth 100000 in
set_option maxHeartbeats 4000000 in
theorem ct_X10_draw (n : Int32) (I : Iv) (J : Jv) (hmj : MJ J) (hn : n = 288) : Ct m_X10_draw [.ref 78, .int n] SHF I J (fun r S' I' J' => S' = SHF ∧ (I = I' ∧ MK J J') ∧ ∃ v : Int32, r = some (.int v) ∧ (0 ≤ v ∧ v < 288)) := by
  refine ct_of 0 (by decide +kernel) rfl rfl ?_
  have hK0 : MK J J := (mk_rfl hmj)
  have hsd : 0 ≤ J 79 70 ∧ J 79 70 < 2147483648 := (hmj 0 (by decide)).2.2
  refine g_aload_n d_X10_draw_0 rfl ?_
  refine g_getR d_X10_draw_1 fq_RX10_7 rfl rfl ?_
  refine g_bipush (v := 70) d_X10_draw_4 kB_70 ?_
  refine g_aload_n d_X10_draw_6 rfl ?_
  refine g_getR d_X10_draw_7 fq_RX10_7 rfl rfl ?_
  refine g_bipush (v := 70) d_X10_draw_10 kB_70 ?_
  refine g_laload (N := 320) d_X10_draw_12 rfl kT_320 ⟨by decide, by decide⟩ kN_70 ?_
  refine g_ldc2 (v := 1103515245) d_X10_draw_13 tw_1417 ?_
  refine g_lmul d_X10_draw_16 ?_
  refine g_ldc2 (v := 12345) d_X10_draw_17 tw_1418 ?_
  refine g_ladd d_X10_draw_20 ?_
  refine g_ldc2 (v := 2147483648) d_X10_draw_21 tw_1419 ?_
  refine g_lrem d_X10_draw_24 (by decide) ?_
  refine g_lastore (N := 320) d_X10_draw_25 rfl kT_320 ⟨by decide, by decide⟩ kN_70  ?_
  refine g_nmJ (fun J1 eJ1 => ?_)
  have hK2 : MK J J1 := (by rw [eJ1]; exact mj_70 hK0 (seed_bd hsd))
  have hs2 : 0 ≤ J1 79 70 ∧ J1 79 70 < 2147483648 := by rw [eJ1, wJ_self]; exact seed_bd hsd
  refine g_aload_n d_X10_draw_26 rfl ?_
  refine g_getR d_X10_draw_27 fq_RX10_7 rfl rfl ?_
  refine g_bipush (v := 70) d_X10_draw_30 kB_70 ?_
  refine g_laload (N := 320) d_X10_draw_32 rfl kT_320 ⟨by decide, by decide⟩ kN_70 ?_
  refine g_ldc2 (v := 65536) d_X10_draw_33 tw_1420 ?_
  refine g_ldiv d_X10_draw_36 (by decide) ?_
  refine g_iload_n d_X10_draw_37 rfl ?_
  refine g_i2l d_X10_draw_38 ?_
  refine g_lrem d_X10_draw_39 (by subst hn; decide) ?_
  refine g_l2i d_X10_draw_40 ?_
  exact g_ireturn d_X10_draw_41 rfl rfl rfl rfl ⟨rfl, ⟨rfl, hK2⟩, (Int64.toInt32 (((J1 79 70) / (65536 : Int64)) - ((J1 79 70) / (65536 : Int64)) / (Int32.toInt64 n) * (Int32.toInt64 n))), rfl, (by subst hn; exact l2i_288 (mod64 (div_bd hs2) (by decide)))⟩
set_option maxRecDepth 100000 in
set_option maxHeartbeats 4000000 in
theorem ct_X10_drawDay (m : Int32) (I : Iv) (J : Jv) (hma : MA I) (hmj : MJ J) : Ct m_X10_drawDay [.ref 78, .int m] SHF I J (fun r S' I' J' => S' = SHF ∧ (MI I I' ∧ MK J J') ∧ r = none) := by
  refine ct_of 1 (by decide +kernel) rfl rfl ?_
  have hK0 : (MI I I ∧ MK J J) := ⟨mi_rfl hma, mk_rfl hmj⟩
  refine g_iconst (v := 0) d_X10_drawDay_0 kI_0 ?_
  refine g_istore_n (L' := [some (.ref 78), some (.int m), some (.int (0 : Int32))]) d_X10_drawDay_1 (by decide) rfl ?_
  have K_2 : ∀ (nu : Nat) (x1 : Int32) (I2 : Iv), mU (288 : Int32) x1 = nu → ((MI I I2 ∧ MK J J)) → ((0 : Int32) ≤ x1) → G m_X10_drawDay (rq m_X10_drawDay (fun r S' I' J' => S' = SHF ∧ (MI I I' ∧ MK J J') ∧ r = none)) 0 0 2 [some (.ref 78), some (.int m), some (.int x1)] [] SHF I2 J := by
    intro nu
    induction nu using Nat.strongRecOn with
    | ind nu ih_2 =>
      intro x1 I2 hmu_2 hK3 hl4
      refine g_iload_n d_X10_drawDay_2 rfl ?_
      refine g_sipush (v := 288) d_X10_drawDay_3 kS_288 ?_
      refine g_icmp_ge d_X10_drawDay_6 (fun h6 => ?_) (fun h6 => ?_)
      · skip
        refine g_iconst (v := 0) d_X10_drawDay_22 kI_0 ?_
        refine g_istore_n (L' := [some (.ref 78), some (.int m), some (.int (0 : Int32))]) d_X10_drawDay_23 (by decide) rfl ?_
        have K_24 : ∀ (nu : Nat) (x5 : Int32) (I6 : Iv) (J7 : Jv), mU m x5 = nu → ((MI I I6 ∧ MK J J7)) → ((0 : Int32) ≤ x5) → G m_X10_drawDay (rq m_X10_drawDay (fun r S' I' J' => S' = SHF ∧ (MI I I' ∧ MK J J') ∧ r = none)) 0 0 24 [some (.ref 78), some (.int m), some (.int x5)] [] SHF I6 J7 := by
          intro nu
          induction nu using Nat.strongRecOn with
          | ind nu ih_24 =>
            intro x5 I6 J7 hmu_24 hK8 hl9
            refine g_iload_n d_X10_drawDay_24 rfl ?_
            refine g_iload_n d_X10_drawDay_25 rfl ?_
            refine g_icmp_ge d_X10_drawDay_26 (fun h26 => ?_) (fun h26 => ?_)
            · skip
              exact g_return d_X10_drawDay_48 rfl rfl rfl ⟨rfl, hK8, rfl⟩
            · skip
              refine g_aload_n d_X10_drawDay_29 rfl ?_
              refine g_getR d_X10_drawDay_30 fq_RX10_46 rfl rfl ?_
              refine g_aload_n d_X10_drawDay_33 rfl ?_
              refine g_sipush (v := 288) d_X10_drawDay_34 kS_288 ?_
              refine g_V1 d_X10_drawDay_37 cs_X10_drawDay_X10_draw lk_RX10_301 im_X10_draw se_X10_draw rfl rfl rfl (Nat.le_of_ble_eq_true rfl) ⟨rfl, rfl⟩ ⟨Nat.zero_le _, Nat.zero_le _⟩ (ct_X10_draw (288 : Int32) I6 J7 (hK8).2.2 rfl) (fun r37 S37 Ic12 J10 q37_10 => ?_)
              obtain ⟨rfl, ⟨rfl, hc37_12⟩, r14, rfl, hr37_14⟩ := q37_10
              refine g_st (st' := [.int r14, .ref 89]) rfl ?_
              have hK16 : (MI I I6 ∧ MK J J10) := ⟨(hK8).1, mk_tr (hK8).2 hc37_12⟩
              refine g_iconst (v := 1) d_X10_drawDay_40 kI_1 ?_
              refine g_bastore (N := 288) d_X10_drawDay_41 rfl kT_288 (by constructor <;> grind) rfl (Or.inr rfl) ?_
              refine g_nmI (fun I17 eI17 => ?_)
              have hK18 : (MI I I17 ∧ MK J J10) := (by rw [eI17]; exact ⟨mi_free (hK16).1 rfl, (hK16).2⟩)
              refine g_iinc (v := (x5 + (1 : Int32))) (L' := [some (.ref 78), some (.int m), some (.int (x5 + (1 : Int32)))]) d_X10_drawDay_42 rfl (by rw [kI_1]) (by decide) rfl ?_
              refine g_goto d_X10_drawDay_45 ?_
              exact ih_24 _ (by rw [← hmu_24]; exact mu_up h26) (x5 + (1 : Int32)) I17 J10 rfl hK18 (lo_up hl9 h26)
        exact K_24 _ (0 : Int32) I2 J rfl hK3 (Int32.le_refl _)
      · skip
        refine g_aload_n d_X10_drawDay_9 rfl ?_
        refine g_getR d_X10_drawDay_10 fq_RX10_46 rfl rfl ?_
        refine g_iload_n d_X10_drawDay_13 rfl ?_
        refine g_iconst (v := 0) d_X10_drawDay_14 kI_0 ?_
        refine g_bastore (N := 288) d_X10_drawDay_15 rfl kT_288 ⟨hl4, Int32.not_le.mp h6⟩ rfl (Or.inl rfl) ?_
        refine g_nmI (fun I19 eI19 => ?_)
        have hK20 : (MI I I19 ∧ MK J J) := (by rw [eI19]; exact ⟨mi_free (hK3).1 rfl, (hK3).2⟩)
        refine g_iinc (v := (x1 + (1 : Int32))) (L' := [some (.ref 78), some (.int m), some (.int (x1 + (1 : Int32)))]) d_X10_drawDay_16 rfl (by rw [kI_1]) (by decide) rfl ?_
        refine g_goto d_X10_drawDay_19 ?_
        exact ih_2 _ (by rw [← hmu_2]; exact mu_up h6) (x1 + (1 : Int32)) I19 rfl hK20 (lo_up hl4 h6)
  exact K_2 _ (0 : Int32) I rfl hK0 (Int32.le_refl _)
set_option maxRecDepth 100000 in
set_option maxHeartbeats 4000000 in
theorem ct_X10_drawn (n : Int32) (m : Int32) (I : Iv) (J : Jv) (hma : MA I) (hmj : MJ J) (htb : 0 ≤ (bgJ I J) 79 54 ∧ (bgJ I J) 79 54 ≤ 1000000000000) : Ct m_X10_drawn [.ref 78, .int n, .int m] SHF I J (fun r S' I' J' => S' = SHF ∧ True ∧ ∃ v : Int32, r = some (.int v) ∧ (MI (bgI I) I' ∧ ∃ k : Int64, 0 ≤ k ∧ k ≤ 2880 ∧ MK (wJ (bgJ I J) 79 54 ((bgJ I J) 79 54 + k)) J')) := by
  refine ct_of 4 (by decide +kernel) rfl rfl ?_
  have hK0 : (MI I I ∧ MK J J) := ⟨mi_rfl hma, mk_rfl hmj⟩
  refine g_aload_n d_X10_drawn_0 rfl ?_
  refine g_V0 d_X10_drawn_1 cs_X10_drawn_X10_begin lk_RX10_166 im_X10_begin se_X10_begin rfl rfl rfl (Nat.le_of_ble_eq_true rfl) ⟨rfl, rfl⟩ ⟨Nat.zero_le _, Nat.zero_le _⟩ (ct_X10_begin  I J hma hmj) (fun r1 S1 I1 J2 q1_2 => ?_)
  obtain ⟨rfl, hc1_3, rfl, hr1_4⟩ := q1_2
  refine g_st (st' := []) rfl ?_
  have hK6 : (MI (bgI I) I1 ∧ MK (wJ (bgJ I J) 79 54 (J2 79 54)) J2) := ⟨(hr1_4).1, mk_own54 (hr1_4).2⟩
  have ht00 := mk_t54 (hr1_4).2
  refine g_iload_n d_X10_drawn_4 rfl ?_
  refine g_i2l d_X10_drawn_5 ?_
  refine g_lconst d_X10_drawn_6 kL_1 ?_
  refine g_ldc2 (v := 10) d_X10_drawn_7 tw_1375 ?_
  refine g_S3 d_X10_drawn_10 cs_X10_drawn_X10_in lk_RX10_96 im_X10_in (Nat.le_of_ble_eq_true rfl) ⟨rfl, rfl⟩ ⟨Nat.zero_le _, Nat.zero_le _⟩ (ct_X10_inL n (1 : Int64) (10 : Int64) (1 : Int32) (10 : Int32) (by decide) (by decide) I1 J2) (fun r10 S10 Ic8 Jc9 q10_6 => ?_)
  obtain ⟨rfl, rfl, rfl, r11, rfl, hz10, hr10_11⟩ := q10_6
  refine g_st (st' := [.int r11]) rfl ?_
  refine g_if_eq d_X10_drawn_13 (fun h13 => ?_) (fun h13 => ?_)
  · skip
    refine g_ldc (v := -1000000002) d_X10_drawn_28 tw_1199 ?_
    exact g_ireturn d_X10_drawn_30 rfl rfl rfl rfl ⟨rfl, trivial, (-1000000002 : Int32), rfl, ⟨(hK6).1, 0, by decide, by decide, by rw [Int64.add_zero, ← ht00]; exact (hK6).2⟩⟩
  · skip
    refine g_iload_n d_X10_drawn_16 rfl ?_
    refine g_i2l d_X10_drawn_17 ?_
    refine g_lconst d_X10_drawn_18 kL_0 ?_
    refine g_ldc2 (v := 20) d_X10_drawn_19 tw_1343 ?_
    refine g_S3 d_X10_drawn_22 cs_X10_drawn_X10_in lk_RX10_96 im_X10_in (Nat.le_of_ble_eq_true rfl) ⟨rfl, rfl⟩ ⟨Nat.zero_le _, Nat.zero_le _⟩ (ct_X10_inL m (0 : Int64) (20 : Int64) (0 : Int32) (20 : Int32) (by decide) (by decide) I1 J2) (fun r22 S22 Ic14 Jc15 q22_12 => ?_)
    obtain ⟨rfl, rfl, rfl, r17, rfl, hz22, hr22_17⟩ := q22_12
    refine g_st (st' := [.int r17]) rfl ?_
    refine g_if_ne d_X10_drawn_25 (fun h25 => ?_) (fun h25 => ?_)
    · skip
      refine g_aload_n d_X10_drawn_31 rfl ?_
      refine g_getR d_X10_drawn_32 fq_RX10_7 rfl rfl ?_
      refine g_bipush (v := 63) d_X10_drawn_35 kB_63 ?_
      refine g_laload (N := 320) d_X10_drawn_37 rfl kT_320 ⟨by decide, by decide⟩ kN_63 ?_
      refine g_topJ (fun v19 ev19 => ?_)
      refine g_lstore_n (L' := [some (.ref 78), some (.int n), some (.int m), some (.long v19), none, none, none]) d_X10_drawn_38 (by decide) rfl ?_
      refine g_iconst (v := 0) d_X10_drawn_39 kI_0 ?_
      refine g_istore (L' := [some (.ref 78), some (.int n), some (.int m), some (.long v19), none, some (.int (0 : Int32)), none]) d_X10_drawn_40 (by decide) rfl ?_
      have K_42 : ∀ (nu : Nat) (x20 : Int32) (I21 : Iv) (J22 : Jv), mU ((288 : Int32) * n) x20 = nu → ((MI (bgI I) I21 ∧ MK (wJ (bgJ I J) 79 54 (J22 79 54)) J22)) → ((0 : Int32) ≤ x20) → (J22 79 54 = (bgJ I J) 79 54 + Int32.toInt64 x20) → (x20 ≤ 288 * n) → G m_X10_drawn (rq m_X10_drawn (fun r S' I' J' => S' = SHF ∧ True ∧ ∃ v : Int32, r = some (.int v) ∧ (MI (bgI I) I' ∧ ∃ k : Int64, 0 ≤ k ∧ k ≤ 2880 ∧ MK (wJ (bgJ I J) 79 54 ((bgJ I J) 79 54 + k)) J'))) 0 0 42 [some (.ref 78), some (.int n), some (.int m), some (.long v19), none, some (.int x20), none] [] SHF I21 J22 := by
        intro nu
        induction nu using Nat.strongRecOn with
        | ind nu ih_42 =>
          intro x20 I21 J22 hmu_42 hK23 hl24 htk_42 hhi_42
          refine g_iload d_X10_drawn_42 rfl ?_
          refine g_sipush (v := 288) d_X10_drawn_44 kS_288 ?_
          refine g_iload_n d_X10_drawn_47 rfl ?_
          refine g_imul d_X10_drawn_48 ?_
          refine g_icmp_ge d_X10_drawn_49 (fun h49 => ?_) (fun h49 => ?_)
          · skip
            refine g_aload_n d_X10_drawn_107 rfl ?_
            refine g_getR d_X10_drawn_108 fq_RX10_7 rfl rfl ?_
            refine g_bipush (v := 63) d_X10_drawn_111 kB_63 ?_
            refine g_laload (N := 320) d_X10_drawn_113 rfl kT_320 ⟨by decide, by decide⟩ kN_63 ?_
            refine g_lload_n d_X10_drawn_114 rfl ?_
            refine g_lsub d_X10_drawn_115 ?_
            refine g_l2i d_X10_drawn_116 ?_
            exact g_ireturn d_X10_drawn_117 rfl rfl rfl rfl ⟨rfl, trivial, (Int64.toInt32 ((J22 79 63) - v19)), rfl, ⟨(hK23).1, Int32.toInt64 (288 * n), (i2l_bd (b := 2880) (by grind)).1, (i2l_bd (b := 2880) (by grind)).2, by rw [show 288 * n = x20 by grind, ← htk_42]; exact (hK23).2⟩⟩
          · skip
            refine g_aload_n d_X10_drawn_52 rfl ?_
            refine g_getR d_X10_drawn_53 fq_RX10_7 rfl rfl ?_
            refine g_bipush (v := 54) d_X10_drawn_56 kB_54 ?_
            refine g_laload (N := 320) d_X10_drawn_58 rfl kT_320 ⟨by decide, by decide⟩ kN_54 ?_
            refine g_ldc2 (v := 288) d_X10_drawn_59 tw_1370 ?_
            refine g_lrem d_X10_drawn_62 (by decide) ?_
            refine g_l2i d_X10_drawn_63 ?_
            refine g_topI (fun v25 ev25 => ?_)
            refine g_istore (L' := [some (.ref 78), some (.int n), some (.int m), some (.long v19), none, some (.int x20), some (.int v25)]) d_X10_drawn_64 (by decide) rfl ?_
            have hof := l2i_288 (mod64 (x := J22 79 54) (m := 288) (by rw [htk_42]; exact tk_nn htb hl24 h49 (by grind)) (by decide))
            rw [← ev25] at hof
            refine g_iload d_X10_drawn_66 rfl ?_
            have J_81 : ∀ (I26 : Iv), ∀ (J27 : Jv), ((MI (bgI I) I26 ∧ MK (wJ (bgJ I J) 79 54 (J27 79 54)) J27)) → (J27 79 54 = (bgJ I J) 79 54 + Int32.toInt64 x20) → G m_X10_drawn (rq m_X10_drawn (fun r S' I' J' => S' = SHF ∧ True ∧ ∃ v : Int32, r = some (.int v) ∧ (MI (bgI I) I' ∧ ∃ k : Int64, 0 ≤ k ∧ k ≤ 2880 ∧ MK (wJ (bgJ I J) 79 54 ((bgJ I J) 79 54 + k)) J'))) 0 0 81 [some (.ref 78), some (.int n), some (.int m), some (.long v19), none, some (.int x20), some (.int v25)] [] SHF I26 J27 := by
              intro I26 J27 hK28 htk_81
              refine g_aload_n d_X10_drawn_81 rfl ?_
              refine g_iconst (v := 0) d_X10_drawn_82 kI_0 ?_
              refine g_aload_n d_X10_drawn_83 rfl ?_
              refine g_getR d_X10_drawn_84 fq_RX10_46 rfl rfl ?_
              refine g_iload d_X10_drawn_87 rfl ?_
              refine g_baload (N := 288) d_X10_drawn_89 rfl kT_288 hof rfl (fun hz89 => ?_)
              refine g_aload_n d_X10_drawn_90 rfl ?_
              refine g_getR d_X10_drawn_91 fq_RX10_17 rfl rfl ?_
              refine g_bipush (v := 8) d_X10_drawn_94 kB_8 ?_
              refine g_iaload (N := 15) d_X10_drawn_96 rfl kT_15 ⟨by decide, by decide⟩ kN_8 ?_
              refine g_iconst (v := 0) d_X10_drawn_97 kI_0 ?_
              refine g_V4 d_X10_drawn_98 cs_X10_drawn_X10_tick lk_RX10_251 im_X10_tick se_X10_tick rfl rfl rfl (Nat.le_of_ble_eq_true rfl) ⟨rfl, rfl⟩ ⟨Nat.zero_le _, Nat.zero_le _⟩ (ct_X10_tick (0 : Int32) (I26 89 v25.toNatClampNeg) (I26 81 8) (0 : Int32) I26 J27 (by decide) ((hK28).2.2 _ (by decide)).2.1 ((hK28).2.2 _ (by decide)).1 ((hK28).1.2.2.2.1) ((hK28).1.2.2.2.2.1)) (fun r98 S98 Ic31 J29 q98_29 => ?_)
              obtain ⟨rfl, ⟨rfl, hc98_31⟩, rfl, hr98_32⟩ := q98_29
              refine g_st (st' := []) rfl ?_
              have hK34 : (MI (bgI I) I26 ∧ MK (wJ (bgJ I J) 79 54 (J29 79 54)) J29) := ⟨(hK28).1, mk_tt (hK28).2 hc98_31 hr98_32⟩
              have htk98 : J29 79 54 = (bgJ I J) 79 54 + Int32.toInt64 x20 + 1 := by rw [tk0 hr98_32]; grind
              refine g_iinc (v := (x20 + (1 : Int32))) (L' := [some (.ref 78), some (.int n), some (.int m), some (.long v19), none, some (.int (x20 + (1 : Int32))), some (.int v25)]) d_X10_drawn_101 rfl (by rw [kI_1]) (by decide) rfl ?_
              refine g_goto d_X10_drawn_104 ?_
              refine g_sb [some (.ref 78), some (.int n), some (.int m), some (.long v19), none, some (.int (x20 + (1 : Int32))), none] (by simp [subL]) ?_
              exact ih_42 _ (by rw [← hmu_42]; exact mu_up h49) (x20 + (1 : Int32)) I26 J29 rfl hK34 (lo_up hl24 h49) (by rw [i2l_up h49]; grind) (by grind)
            have J_76 : (J22 79 54 = (bgJ I J) 79 54 + Int32.toInt64 x20) → G m_X10_drawn (rq m_X10_drawn (fun r S' I' J' => S' = SHF ∧ True ∧ ∃ v : Int32, r = some (.int v) ∧ (MI (bgI I) I' ∧ ∃ k : Int64, 0 ≤ k ∧ k ≤ 2880 ∧ MK (wJ (bgJ I J) 79 54 ((bgJ I J) 79 54 + k)) J'))) 0 0 76 [some (.ref 78), some (.int n), some (.int m), some (.long v19), none, some (.int x20), some (.int v25)] [] SHF I21 J22 := by
              intro htk_76
              refine g_aload_n d_X10_drawn_76 rfl ?_
              refine g_iload_n d_X10_drawn_77 rfl ?_
              refine g_V1 d_X10_drawn_78 cs_X10_drawn_X10_drawDay lk_RX10_304 im_X10_drawDay se_X10_drawDay rfl rfl rfl (Nat.le_of_ble_eq_true rfl) ⟨rfl, rfl⟩ ⟨Nat.zero_le _, Nat.zero_le _⟩ (ct_X10_drawDay m I21 J22 (hK23).1.2 (hK23).2.2) (fun r78 S78 I35 J36 q78_36 => ?_)
              obtain ⟨rfl, hc78_37, rfl⟩ := q78_36
              refine g_st (st' := []) rfl ?_
              have hK40 : (MI (bgI I) I35 ∧ MK (wJ (bgJ I J) 79 54 (J36 79 54)) J36) := ⟨mi_tr (hK23).1 hc78_37.1, mk_dd (hK23).2 hc78_37.2⟩
              have htk78 : J36 79 54 = (bgJ I J) 79 54 + Int32.toInt64 x20 := by rw [mk_t54 (hc78_37).2]; assumption
              exact J_81 I35 J36 hK40 (by grind)
            refine g_if_eq d_X10_drawn_68 (fun h68 => ?_) (fun h68 => ?_)
            · skip
              exact J_76 (by grind)
            · skip
              refine g_iload d_X10_drawn_71 rfl ?_
              refine g_if_ne d_X10_drawn_73 (fun h73 => ?_) (fun h73 => ?_)
              · skip
                exact J_81 I21 J22 hK23 (by grind)
              · skip
                exact J_76 (by grind)
      exact K_42 _ (0 : Int32) I1 J2 rfl hK6 (Int32.le_refl _) (by rw [ht00]; simp) (by grind)
    · skip
      refine g_ldc (v := -1000000002) d_X10_drawn_28 tw_1199 ?_
      exact g_ireturn d_X10_drawn_30 rfl rfl rfl rfl ⟨rfl, trivial, (-1000000002 : Int32), rfl, ⟨(hK6).1, 0, by decide, by decide, by rw [Int64.add_zero, ← ht00]; exact (hK6).2⟩⟩
set_option maxRecDepth 100000 in
set_option maxHeartbeats 4000000 in
theorem ct_X10_warmth (s : Int32) (I : Iv) (J : Jv) (hma : MA I) (hmj : MJ J) : Ct m_X10_warmth [.ref 78, .int s] SHF I J (fun r S' I' J' => S' = SHF ∧ True ∧ ∃ v : Int32, r = some (.int v) ∧ (MI (bgI I) I' ∧ MK (bgJ I J) J')) := by
  refine ct_of 0 (by decide +kernel) rfl rfl ?_
  have hK0 : (MI I I ∧ MK J J) := ⟨mi_rfl hma, mk_rfl hmj⟩
  refine g_aload_n d_X10_warmth_0 rfl ?_
  refine g_V0 d_X10_warmth_1 cs_X10_warmth_X10_begin lk_RX10_166 im_X10_begin se_X10_begin rfl rfl rfl (Nat.le_of_ble_eq_true rfl) ⟨rfl, rfl⟩ ⟨Nat.zero_le _, Nat.zero_le _⟩ (ct_X10_begin  I J hma hmj) (fun r1 S1 I1 J2 q1_2 => ?_)
  obtain ⟨rfl, hc1_3, rfl, hr1_4⟩ := q1_2
  refine g_st (st' := []) rfl ?_
  have hK6 : (MI (bgI I) I1 ∧ MK (bgJ I J) J2) := hr1_4
  refine g_iload_n d_X10_warmth_4 rfl ?_
  refine g_i2l d_X10_warmth_5 ?_
  refine g_lconst d_X10_warmth_6 kL_0 ?_
  refine g_ldc2 (v := 3) d_X10_warmth_7 tw_1425 ?_
  refine g_S3 d_X10_warmth_10 cs_X10_warmth_X10_in lk_RX10_96 im_X10_in (Nat.le_of_ble_eq_true rfl) ⟨rfl, rfl⟩ ⟨Nat.zero_le _, Nat.zero_le _⟩ (ct_X10_inL s (0 : Int64) (3 : Int64) (0 : Int32) (3 : Int32) (by decide) (by decide) I1 J2) (fun r10 S10 Ic8 Jc9 q10_6 => ?_)
  obtain ⟨rfl, rfl, rfl, r11, rfl, hz10, hr10_11⟩ := q10_6
  refine g_st (st' := [.int r11]) rfl ?_
  refine g_if_eq d_X10_warmth_13 (fun h13 => ?_) (fun h13 => ?_)
  · skip
    refine g_ldcw (v := -1000000001) d_X10_warmth_26 tw_1296 ?_
    exact g_ireturn d_X10_warmth_29 rfl rfl rfl rfl ⟨rfl, trivial, (-1000000001 : Int32), rfl, hK6⟩
  · skip
    refine g_aload_n d_X10_warmth_16 rfl ?_
    refine g_iconst (v := 0) d_X10_warmth_17 kI_0 ?_
    refine g_iload_n d_X10_warmth_18 rfl ?_
    refine g_V2 d_X10_warmth_19 cs_X10_warmth_X10_warm lk_RX10_200 im_X10_warm se_X10_warm rfl rfl rfl (Nat.le_of_ble_eq_true rfl) ⟨rfl, rfl⟩ ⟨Nat.zero_le _, Nat.zero_le _⟩ (ct_X10_warm (0 : Int32) s I1 J2 (by decide) (by grind) (by grind)) (fun r19 S19 Ic14 Jc15 q19_12 => ?_)
    obtain ⟨rfl, rfl, rfl, r17, rfl⟩ := q19_12
    refine g_st (st' := [.long r17]) rfl ?_
    refine g_l2i d_X10_warmth_22 ?_
    refine g_goto d_X10_warmth_23 ?_
    exact g_ireturn d_X10_warmth_29 rfl rfl rfl rfl ⟨rfl, trivial, (Int64.toInt32 r17), rfl, hK6⟩
set_option maxRecDepth 100000 in
set_option maxHeartbeats 4000000 in
theorem ct_X10_heat (what : Int32) (I : Iv) (J : Jv) (hma : MA I) (hmj : MJ J) : Ct m_X10_heat [.ref 78, .int what] SHF I J (fun r S' I' J' => S' = SHF ∧ True ∧ ∃ v : Int64, r = some (.long v) ∧ (MI (bgI I) I' ∧ MK (bgJ I J) J')) := by
  refine ct_of 3 (by decide +kernel) rfl rfl ?_
  have hK0 : (MI I I ∧ MK J J) := ⟨mi_rfl hma, mk_rfl hmj⟩
  refine g_aload_n d_X10_heat_0 rfl ?_
  refine g_V0 d_X10_heat_1 cs_X10_heat_X10_begin lk_RX10_166 im_X10_begin se_X10_begin rfl rfl rfl (Nat.le_of_ble_eq_true rfl) ⟨rfl, rfl⟩ ⟨Nat.zero_le _, Nat.zero_le _⟩ (ct_X10_begin  I J hma hmj) (fun r1 S1 I1 J2 q1_2 => ?_)
  obtain ⟨rfl, hc1_3, rfl, hr1_4⟩ := q1_2
  refine g_st (st' := []) rfl ?_
  have hK6 : (MI (bgI I) I1 ∧ MK (bgJ I J) J2) := hr1_4
  refine g_iload_n d_X10_heat_4 rfl ?_
  refine g_i2l d_X10_heat_5 ?_
  refine g_lconst d_X10_heat_6 kL_0 ?_
  refine g_ldc2 (v := 5) d_X10_heat_7 tw_1399 ?_
  refine g_S3 d_X10_heat_10 cs_X10_heat_X10_in lk_RX10_96 im_X10_in (Nat.le_of_ble_eq_true rfl) ⟨rfl, rfl⟩ ⟨Nat.zero_le _, Nat.zero_le _⟩ (ct_X10_inL what (0 : Int64) (5 : Int64) (0 : Int32) (5 : Int32) (by decide) (by decide) I1 J2) (fun r10 S10 Ic8 Jc9 q10_6 => ?_)
  obtain ⟨rfl, rfl, rfl, r11, rfl, hz10, hr10_11⟩ := q10_6
  refine g_st (st' := [.int r11]) rfl ?_
  refine g_if_ne d_X10_heat_13 (fun h13 => ?_) (fun h13 => ?_)
  · skip
    refine g_iload_n d_X10_heat_20 rfl ?_
    refine g_if_le d_X10_heat_21 (fun h21 => ?_) (fun h21 => ?_)
    · skip
      refine g_lconst d_X10_heat_36 kL_0 ?_
      refine g_lstore_n (L' := [some (.ref 78), some (.int what), some (.long (0 : Int64)), none, none]) d_X10_heat_37 (by decide) rfl ?_
      refine g_iconst (v := 0) d_X10_heat_38 kI_0 ?_
      refine g_istore (L' := [some (.ref 78), some (.int what), some (.long (0 : Int64)), none, some (.int (0 : Int32))]) d_X10_heat_39 (by decide) rfl ?_
      have K_41 : ∀ (nu : Nat) (x13 : Int64) (x14 : Int32), mU (12 : Int32) x14 = nu → ((0 : Int32) ≤ x14) → G m_X10_heat (rq m_X10_heat (fun r S' I' J' => S' = SHF ∧ True ∧ ∃ v : Int64, r = some (.long v) ∧ (MI (bgI I) I' ∧ MK (bgJ I J) J'))) 0 0 41 [some (.ref 78), some (.int what), some (.long x13), none, some (.int x14)] [] SHF I1 J2 := by
        intro nu
        induction nu using Nat.strongRecOn with
        | ind nu ih_41 =>
          intro x13 x14 hmu_41 hl15
          refine g_iload d_X10_heat_41 rfl ?_
          refine g_bipush (v := 12) d_X10_heat_43 kB_12 ?_
          refine g_icmp_ge d_X10_heat_45 (fun h45 => ?_) (fun h45 => ?_)
          · skip
            refine g_lload_n d_X10_heat_64 rfl ?_
            exact g_lreturn d_X10_heat_65 rfl rfl rfl ⟨rfl, trivial, x13, rfl, hK6⟩
          · skip
            refine g_lload_n d_X10_heat_48 rfl ?_
            refine g_aload_n d_X10_heat_49 rfl ?_
            refine g_getR d_X10_heat_50 fq_RX10_7 rfl rfl ?_
            refine g_iload d_X10_heat_53 rfl ?_
            refine g_laload (N := 320) d_X10_heat_55 rfl kT_320 (by constructor <;> grind) rfl ?_
            refine g_ladd d_X10_heat_56 ?_
            refine g_topJ (fun v16 ev16 => ?_)
            refine g_lstore_n (L' := [some (.ref 78), some (.int what), some (.long v16), none, some (.int x14)]) d_X10_heat_57 (by decide) rfl ?_
            refine g_iinc (v := (x14 + (1 : Int32))) (L' := [some (.ref 78), some (.int what), some (.long v16), none, some (.int (x14 + (1 : Int32)))]) d_X10_heat_58 rfl (by rw [kI_1]) (by decide) rfl ?_
            refine g_goto d_X10_heat_61 ?_
            exact ih_41 _ (by rw [← hmu_41]; exact mu_up h45) v16 (x14 + (1 : Int32)) rfl (lo_up hl15 h45)
      exact K_41 _ (0 : Int64) (0 : Int32) rfl (Int32.le_refl _)
    · skip
      refine g_aload_n d_X10_heat_24 rfl ?_
      refine g_getR d_X10_heat_25 fq_RX10_7 rfl rfl ?_
      refine g_bipush (v := 55) d_X10_heat_28 kB_55 ?_
      refine g_iload_n d_X10_heat_30 rfl ?_
      refine g_iadd d_X10_heat_31 ?_
      refine g_iconst (v := 1) d_X10_heat_32 kI_1 ?_
      refine g_isub d_X10_heat_33 ?_
      refine g_laload (N := 320) d_X10_heat_34 rfl kT_320 (by constructor <;> grind) rfl ?_
      exact g_lreturn d_X10_heat_35 rfl rfl rfl ⟨rfl, trivial, (J2 79 ((((55 : Int32) + what) - (1 : Int32))).toNatClampNeg), rfl, hK6⟩
  · skip
    refine g_ldc2 (v := -1000000002) d_X10_heat_16 tw_1430 ?_
    exact g_lreturn d_X10_heat_19 rfl rfl rfl ⟨rfl, trivial, (-1000000002 : Int64), rfl, hK6⟩
set_option maxRecDepth 100000 in
set_option maxHeartbeats 4000000 in
theorem ct_X10_count (what : Int32) (I : Iv) (J : Jv) (hma : MA I) (hmj : MJ J) : Ct m_X10_count [.ref 78, .int what] SHF I J (fun r S' I' J' => S' = SHF ∧ True ∧ ∃ v : Int32, r = some (.int v) ∧ (MI (bgI I) I' ∧ MK (bgJ I J) J')) := by
  refine ct_of 0 (by decide +kernel) rfl rfl ?_
  have hK0 : (MI I I ∧ MK J J) := ⟨mi_rfl hma, mk_rfl hmj⟩
  refine g_aload_n d_X10_count_0 rfl ?_
  refine g_V0 d_X10_count_1 cs_X10_count_X10_begin lk_RX10_166 im_X10_begin se_X10_begin rfl rfl rfl (Nat.le_of_ble_eq_true rfl) ⟨rfl, rfl⟩ ⟨Nat.zero_le _, Nat.zero_le _⟩ (ct_X10_begin  I J hma hmj) (fun r1 S1 I1 J2 q1_2 => ?_)
  obtain ⟨rfl, hc1_3, rfl, hr1_4⟩ := q1_2
  refine g_st (st' := []) rfl ?_
  have hK6 : (MI (bgI I) I1 ∧ MK (bgJ I J) J2) := hr1_4
  refine g_iload_n d_X10_count_4 rfl ?_
  rcases sw_split what (0) (11) with h5 | h5
  · skip
    refine g_swOut d_X10_count_5 h5 ?_
    refine g_ldc (v := -1000000002) d_X10_count_168 tw_1199 ?_
    exact g_ireturn d_X10_count_170 rfl rfl rfl rfl ⟨rfl, trivial, (-1000000002 : Int32), rfl, hK6⟩
  · skip
    have hz : ∃ k : Nat, k < 12 ∧ (what).toInt = (0 : Int) + (k : Int) := by obtain ⟨k, h1, h2⟩ := sw_k h5; exact ⟨k, by omega, h2⟩
    obtain ⟨k, hk, hz⟩ := hz
    match k, hk, hz with
    | 0, _, hz =>
      refine g_swIn d_X10_count_5_0 (by rw [hz]; decide) (by rw [hz]; decide) (by rw [hz]; rfl) ?_
      refine g_aload_n d_X10_count_68 rfl ?_
      refine g_getR d_X10_count_69 fq_RX10_7 rfl rfl ?_
      refine g_bipush (v := 54) d_X10_count_72 kB_54 ?_
      refine g_laload (N := 320) d_X10_count_74 rfl kT_320 ⟨by decide, by decide⟩ kN_54 ?_
      refine g_l2i d_X10_count_75 ?_
      exact g_ireturn d_X10_count_76 rfl rfl rfl rfl ⟨rfl, trivial, (Int64.toInt32 (J2 79 54)), rfl, hK6⟩
    | 1, _, hz =>
      refine g_swIn d_X10_count_5_1 (by rw [hz]; decide) (by rw [hz]; decide) (by rw [hz]; rfl) ?_
      refine g_aload_n d_X10_count_77 rfl ?_
      refine g_getR d_X10_count_78 fq_RX10_7 rfl rfl ?_
      refine g_bipush (v := 63) d_X10_count_81 kB_63 ?_
      refine g_laload (N := 320) d_X10_count_83 rfl kT_320 ⟨by decide, by decide⟩ kN_63 ?_
      refine g_l2i d_X10_count_84 ?_
      exact g_ireturn d_X10_count_85 rfl rfl rfl rfl ⟨rfl, trivial, (Int64.toInt32 (J2 79 63)), rfl, hK6⟩
    | 2, _, hz =>
      refine g_swIn d_X10_count_5_2 (by rw [hz]; decide) (by rw [hz]; decide) (by rw [hz]; rfl) ?_
      refine g_aload_n d_X10_count_86 rfl ?_
      refine g_getR d_X10_count_87 fq_RX10_7 rfl rfl ?_
      refine g_bipush (v := 64) d_X10_count_90 kB_64 ?_
      refine g_laload (N := 320) d_X10_count_92 rfl kT_320 ⟨by decide, by decide⟩ kN_64 ?_
      refine g_l2i d_X10_count_93 ?_
      exact g_ireturn d_X10_count_94 rfl rfl rfl rfl ⟨rfl, trivial, (Int64.toInt32 (J2 79 64)), rfl, hK6⟩
    | 3, _, hz =>
      refine g_swIn d_X10_count_5_3 (by rw [hz]; decide) (by rw [hz]; decide) (by rw [hz]; rfl) ?_
      refine g_aload_n d_X10_count_95 rfl ?_
      refine g_getR d_X10_count_96 fq_RX10_7 rfl rfl ?_
      refine g_bipush (v := 65) d_X10_count_99 kB_65 ?_
      refine g_laload (N := 320) d_X10_count_101 rfl kT_320 ⟨by decide, by decide⟩ kN_65 ?_
      refine g_l2i d_X10_count_102 ?_
      exact g_ireturn d_X10_count_103 rfl rfl rfl rfl ⟨rfl, trivial, (Int64.toInt32 (J2 79 65)), rfl, hK6⟩
    | 4, _, hz =>
      refine g_swIn d_X10_count_5_4 (by rw [hz]; decide) (by rw [hz]; decide) (by rw [hz]; rfl) ?_
      refine g_aload_n d_X10_count_104 rfl ?_
      refine g_getR d_X10_count_105 fq_RX10_7 rfl rfl ?_
      refine g_bipush (v := 60) d_X10_count_108 kB_60 ?_
      refine g_laload (N := 320) d_X10_count_110 rfl kT_320 ⟨by decide, by decide⟩ kN_60 ?_
      refine g_l2i d_X10_count_111 ?_
      exact g_ireturn d_X10_count_112 rfl rfl rfl rfl ⟨rfl, trivial, (Int64.toInt32 (J2 79 60)), rfl, hK6⟩
    | 5, _, hz =>
      refine g_swIn d_X10_count_5_5 (by rw [hz]; decide) (by rw [hz]; decide) (by rw [hz]; rfl) ?_
      refine g_aload_n d_X10_count_113 rfl ?_
      refine g_getR d_X10_count_114 fq_RX10_7 rfl rfl ?_
      refine g_bipush (v := 53) d_X10_count_117 kB_53 ?_
      refine g_laload (N := 320) d_X10_count_119 rfl kT_320 ⟨by decide, by decide⟩ kN_53 ?_
      refine g_l2i d_X10_count_120 ?_
      exact g_ireturn d_X10_count_121 rfl rfl rfl rfl ⟨rfl, trivial, (Int64.toInt32 (J2 79 53)), rfl, hK6⟩
    | 6, _, hz =>
      refine g_swIn d_X10_count_5_6 (by rw [hz]; decide) (by rw [hz]; decide) (by rw [hz]; rfl) ?_
      refine g_aload_n d_X10_count_122 rfl ?_
      refine g_getR d_X10_count_123 fq_RX10_7 rfl rfl ?_
      refine g_bipush (v := 61) d_X10_count_126 kB_61 ?_
      refine g_laload (N := 320) d_X10_count_128 rfl kT_320 ⟨by decide, by decide⟩ kN_61 ?_
      refine g_l2i d_X10_count_129 ?_
      exact g_ireturn d_X10_count_130 rfl rfl rfl rfl ⟨rfl, trivial, (Int64.toInt32 (J2 79 61)), rfl, hK6⟩
    | 7, _, hz =>
      refine g_swIn d_X10_count_5_7 (by rw [hz]; decide) (by rw [hz]; decide) (by rw [hz]; rfl) ?_
      refine g_aload_n d_X10_count_131 rfl ?_
      refine g_getR d_X10_count_132 fq_RX10_7 rfl rfl ?_
      refine g_bipush (v := 62) d_X10_count_135 kB_62 ?_
      refine g_laload (N := 320) d_X10_count_137 rfl kT_320 ⟨by decide, by decide⟩ kN_62 ?_
      refine g_l2i d_X10_count_138 ?_
      exact g_ireturn d_X10_count_139 rfl rfl rfl rfl ⟨rfl, trivial, (Int64.toInt32 (J2 79 62)), rfl, hK6⟩
    | 8, _, hz =>
      refine g_swIn d_X10_count_5_8 (by rw [hz]; decide) (by rw [hz]; decide) (by rw [hz]; rfl) ?_
      refine g_aload_n d_X10_count_140 rfl ?_
      refine g_getR d_X10_count_141 fq_RX10_7 rfl rfl ?_
      refine g_bipush (v := 67) d_X10_count_144 kB_67 ?_
      refine g_laload (N := 320) d_X10_count_146 rfl kT_320 ⟨by decide, by decide⟩ kN_67 ?_
      refine g_l2i d_X10_count_147 ?_
      exact g_ireturn d_X10_count_148 rfl rfl rfl rfl ⟨rfl, trivial, (Int64.toInt32 (J2 79 67)), rfl, hK6⟩
    | 9, _, hz =>
      refine g_swIn d_X10_count_5_9 (by rw [hz]; decide) (by rw [hz]; decide) (by rw [hz]; rfl) ?_
      refine g_aload_n d_X10_count_149 rfl ?_
      refine g_getR d_X10_count_150 fq_RX10_7 rfl rfl ?_
      refine g_bipush (v := 66) d_X10_count_153 kB_66 ?_
      refine g_laload (N := 320) d_X10_count_155 rfl kT_320 ⟨by decide, by decide⟩ kN_66 ?_
      refine g_l2i d_X10_count_156 ?_
      exact g_ireturn d_X10_count_157 rfl rfl rfl rfl ⟨rfl, trivial, (Int64.toInt32 (J2 79 66)), rfl, hK6⟩
    | 10, _, hz =>
      refine g_swIn d_X10_count_5_10 (by rw [hz]; decide) (by rw [hz]; decide) (by rw [hz]; rfl) ?_
      refine g_aload_n d_X10_count_158 rfl ?_
      refine g_V0 d_X10_count_159 cs_X10_count_X10_foods lk_RX10_311 im_X10_foods se_X10_foods rfl rfl rfl (Nat.le_of_ble_eq_true rfl) ⟨rfl, rfl⟩ ⟨Nat.zero_le _, Nat.zero_le _⟩ (ct_X10_foods  I1 J2 ((hK6).2.2 0 (by decide)).1) (fun r159 S159 Ic8 Jc9 q159_6 => ?_)
      obtain ⟨rfl, rfl, rfl, r11, rfl, hr159_11⟩ := q159_6
      refine g_st (st' := [.int r11]) rfl ?_
      exact g_ireturn d_X10_count_162 rfl rfl rfl rfl ⟨rfl, trivial, r11, rfl, hK6⟩
    | 11, _, hz =>
      refine g_swIn d_X10_count_5_11 (by rw [hz]; decide) (by rw [hz]; decide) (by rw [hz]; rfl) ?_
      refine g_aload_n d_X10_count_163 rfl ?_
      refine g_getI d_X10_count_164 fq_RX10_101 rfl rfl ?_
      exact g_ireturn d_X10_count_167 rfl rfl rfl rfl ⟨rfl, trivial, (I1 78 11), rfl, hK6⟩
    | k + 12, hk, _ => exact absurd hk (by omega)
set_option maxRecDepth 100000 in
set_option maxHeartbeats 4000000 in
theorem ct_X10_thaw  (I : Iv) (J : Jv) (hma : MA I) (hmj : MJ J) : Ct m_X10_thaw [.ref 78] SHF I J (fun r S' I' J' => S' = SHF ∧ True ∧ ∃ v : Int32, r = some (.int v) ∧ (MI (bgI I) I' ∧ MK (bgJ I J) J')) := by
  refine ct_of 0 (by decide +kernel) rfl rfl ?_
  have hK0 : (MI I I ∧ MK J J) := ⟨mi_rfl hma, mk_rfl hmj⟩
  refine g_aload_n d_X10_thaw_0 rfl ?_
  refine g_V0 d_X10_thaw_1 cs_X10_thaw_X10_begin lk_RX10_166 im_X10_begin se_X10_begin rfl rfl rfl (Nat.le_of_ble_eq_true rfl) ⟨rfl, rfl⟩ ⟨Nat.zero_le _, Nat.zero_le _⟩ (ct_X10_begin  I J hma hmj) (fun r1 S1 I1 J2 q1_2 => ?_)
  obtain ⟨rfl, hc1_3, rfl, hr1_4⟩ := q1_2
  refine g_st (st' := []) rfl ?_
  have hK6 : (MI (bgI I) I1 ∧ MK (bgJ I J) J2) := hr1_4
  refine g_aload_n d_X10_thaw_4 rfl ?_
  refine g_iconst (v := 0) d_X10_thaw_5 kI_0 ?_
  refine g_V1 d_X10_thaw_6 cs_X10_thaw_X10_melt lk_RX10_314 im_X10_melt se_X10_melt rfl rfl rfl (Nat.le_of_ble_eq_true rfl) ⟨rfl, rfl⟩ ⟨Nat.zero_le _, Nat.zero_le _⟩ (ct_X10_melt (0 : Int32) I1 J2 (by decide) ((hK6).2.2 _ (by decide)).2.1) (fun r6 S6 Ic9 J7 q6_7 => ?_)
  obtain ⟨rfl, ⟨rfl, hc6_9⟩, r11, rfl⟩ := q6_7
  refine g_st (st' := [.int r11]) rfl ?_
  have hK13 : (MI (bgI I) I1 ∧ MK (bgJ I J) J7) := ⟨(hK6).1, tk_mk0 (hK6).2 hc6_9⟩
  exact g_ireturn d_X10_thaw_9 rfl rfl rfl rfl ⟨rfl, trivial, r11, rfl, hK13⟩
