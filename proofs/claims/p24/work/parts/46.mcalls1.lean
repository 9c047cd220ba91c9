noncomputable def fl_X10_melt_36_0 (I : Iv) (x : Int32) (Kf0 : Int32 → Jv → Int32 × Iv × Jv) : Nat → Int32 → Jv → Int32 × Iv × Jv
  | 0, x6, J7 => (0, I, J7)
  | kf0 + 1, x6, J7 => if (4 : Int32) ≤ x6 then Kf0 x6 J7 else b_n3 (fn_X10_capOf x x6 I J7) (fun (r15 : Int64) (_ : Iv) (_ : Jv) => l_t (((1000 : Int64) * r15)) (fun (v17 : Int64) => b_n3 (fn_X10_warm x x6 I J7) (fun (r23 : Int64) (_ : Iv) (_ : Jv) => if (1000 : Int64) ≤ r23 then fl_X10_melt_36_0 I x Kf0 kf0 (x6 + (1 : Int32)) J7 else l_t (wJ J7 79 (x.toNatClampNeg + 55) ((J7 79 (x.toNatClampNeg + 55)) + (v17 - (J7 79 (x.toNatClampNeg + x6.toNatClampNeg))))) (fun (J25 : Jv) => l_t (wJ J25 79 (x.toNatClampNeg + x6.toNatClampNeg) v17) (fun (J27 : Jv) => fl_X10_melt_36_0 I x Kf0 kf0 (x6 + (1 : Int32)) J27)))))
noncomputable def fn_X10_melt (x : Int32) (I : Iv) (J : Jv) : Int32 × Iv × Jv :=
  l_t ((J 79 (x.toNatClampNeg + 53))) (fun (v1 : Int64) => l_t (wJ J 79 (x.toNatClampNeg + 61) ((J 79 (x.toNatClampNeg + 61)) + v1)) (fun (J2 : Jv) => l_t (wJ J2 79 (x.toNatClampNeg + 53) (0 : Int64)) (fun (J4 : Jv) => fl_X10_melt_36_0 I x (fun (x6 : Int32) (J7 : Jv) => ((Int64.toInt32 v1), I, J7)) (mU (4 : Int32) ((0 : Int32)) + 1) (0 : Int32) J4)))
set_option maxRecDepth 100000 in
set_option maxHeartbeats 4000000 in
theorem ct_X10_melt (x : Int32) (I : Iv) (J : Jv) (hx : HX x) (hfu : FU x.toNatClampNeg J) : Ct m_X10_melt [.ref 78, .int x] SHF I J (fun r S' I' J' => S' = SHF ∧ (I = I' ∧ TK x.toNatClampNeg J J') ∧ ∃ v : Int32, r = some (.int v) ∧ fn_X10_melt x I J = (v, I', J')) := by
  refine ct_of 5 (by decide +kernel) rfl rfl ?_
  have hK0 : TK x.toNatClampNeg J J := (tk_rfl hfu)
  have hF := fe_of (fn_X10_melt.eq_1 x I J)
  refine g_aload_n d_X10_melt_0 rfl ?_
  refine g_getR d_X10_melt_1 fq_RX10_7 rfl rfl ?_
  refine g_iload_n d_X10_melt_4 rfl ?_
  refine g_bipush (v := 53) d_X10_melt_5 kB_53 ?_
  refine g_iadd d_X10_melt_7 ?_
  refine g_laload (N := 320) d_X10_melt_8 rfl kT_320 (ixc hx (by decide)) (by rw [tnc hx (by decide), kN_53]) ?_
  refine g_topJ (fun v1 ev1 => ?_)
  replace hF := fe_lt hF ev1
  refine g_lstore_n (L' := [some (.ref 78), some (.int x), some (.long v1), none, none, none, none]) d_X10_melt_9 (by decide) rfl ?_
  refine g_aload_n d_X10_melt_10 rfl ?_
  refine g_getR d_X10_melt_11 fq_RX10_7 rfl rfl ?_
  refine g_iload_n d_X10_melt_14 rfl ?_
  refine g_bipush (v := 61) d_X10_melt_15 kB_61 ?_
  refine g_iadd d_X10_melt_17 ?_
  refine g_dup2 d_X10_melt_18 rfl rfl ?_
  refine g_laload (N := 320) d_X10_melt_19 rfl kT_320 (ixc hx (by decide)) (by rw [tnc hx (by decide), kN_61]) ?_
  refine g_lload_n d_X10_melt_20 rfl ?_
  refine g_ladd d_X10_melt_21 ?_
  refine g_lastore (N := 320) d_X10_melt_22 rfl kT_320 (ixc hx (by decide)) (by rw [tnc hx (by decide), kN_61])  ?_
  refine g_nmJ (fun J2 eJ2 => ?_)
  replace hF := fe_lt hF eJ2
  have hK3 : TK x.toNatClampNeg J J2 := (by rw [eJ2]; exact tk_w hK0 (by unfold KP; omega) (fun hh => absurd hh (by omega)))
  refine g_aload_n d_X10_melt_23 rfl ?_
  refine g_getR d_X10_melt_24 fq_RX10_7 rfl rfl ?_
  refine g_iload_n d_X10_melt_27 rfl ?_
  refine g_bipush (v := 53) d_X10_melt_28 kB_53 ?_
  refine g_iadd d_X10_melt_30 ?_
  refine g_lconst d_X10_melt_31 kL_0 ?_
  refine g_lastore (N := 320) d_X10_melt_32 rfl kT_320 (ixc hx (by decide)) (by rw [tnc hx (by decide), kN_53])  ?_
  refine g_nmJ (fun J4 eJ4 => ?_)
  replace hF := fe_lt hF eJ4
  have hK5 : TK x.toNatClampNeg J J4 := (by rw [eJ4]; exact tk_w hK3 (by unfold KP; omega) (fun _ => by decide))
  refine g_iconst (v := 0) d_X10_melt_33 kI_0 ?_
  refine g_istore (L' := [some (.ref 78), some (.int x), some (.long v1), none, some (.int (0 : Int32)), none, none]) d_X10_melt_34 (by decide) rfl ?_
  obtain ⟨Kf0, hKf0, hF⟩ := fe_kx (f := fun K => fl_X10_melt_36_0 I x K (mU (4 : Int32) ((0 : Int32)) + 1) (0 : Int32) J4) hF
  have K_36 : ∀ (nu : Nat) (x6 : Int32) (J7 : Jv), mU (4 : Int32) x6 = nu → (TK x.toNatClampNeg J J7) → ((0 : Int32) ≤ x6) → (∃ kq : Nat, nu < kq ∧ (fun kq => FE (fn_X10_melt x I J) (fun _ => fl_X10_melt_36_0 I x Kf0 kq x6 J7)) kq) → G m_X10_melt (rq m_X10_melt (fun r S' I' J' => S' = SHF ∧ (I = I' ∧ TK x.toNatClampNeg J J') ∧ ∃ v : Int32, r = some (.int v) ∧ fn_X10_melt x I J = (v, I', J'))) 0 0 36 [some (.ref 78), some (.int x), some (.long v1), none, some (.int x6), none, none] [] SHF I J7 := by
    intro nu
    induction nu using Nat.strongRecOn with
    | ind nu ih_36 =>
      intro x6 J7 hmu_36 hK8 hl9 hF_Kf0
      obtain ⟨kf0, hkf0, hF⟩ := fe_fu (P := fun kq => FE (fn_X10_melt x I J) (fun _ => fl_X10_melt_36_0 I x Kf0 kq x6 J7)) hF_Kf0
      replace hF := fe_eq hF (fl_X10_melt_36_0.eq_2 _ _ _ _ _ _)
      refine g_iload d_X10_melt_36 rfl ?_
      refine g_iconst (v := 4) d_X10_melt_38 kI_4 ?_
      refine g_icmp_ge d_X10_melt_39 (fun h39 => ?_) (fun h39 => ?_)
      · skip
        replace hF := fe_pos hF h39
        replace hF := fe_eq hF (congrFun (congrFun hKf0 x6) J7)
        refine g_lload_n d_X10_melt_110 rfl ?_
        refine g_l2i d_X10_melt_111 ?_
        exact g_ireturn d_X10_melt_112 rfl rfl rfl rfl ⟨rfl, ⟨rfl, hK8⟩, (Int64.toInt32 v1), rfl, hF⟩
      · skip
        replace hF := fe_neg hF h39
        have hkn : x6.toNatClampNeg < 4 := by have q := tn_lt (n := 4) hl9 h39; rwa [kN_4] at q
        refine g_ldc2 (v := 1000) d_X10_melt_42 tw_1392 ?_
        refine g_aload_n d_X10_melt_45 rfl ?_
        refine g_iload_n d_X10_melt_46 rfl ?_
        refine g_iload d_X10_melt_47 rfl ?_
        refine g_V2 d_X10_melt_49 cs_X10_melt_X10_capOf lk_RX10_192 im_X10_capOf se_X10_capOf rfl rfl rfl (Nat.le_of_ble_eq_true rfl) ⟨rfl, rfl⟩ ⟨Nat.zero_le _, Nat.zero_le _⟩ (ct_X10_capOf x x6 I J7 hx (by grind)) (fun r49 S49 Ic11 Jc12 q49_9 => ?_)
        obtain ⟨rfl, rfl, rfl, r15, rfl, hf49_13, hr49_15⟩ := q49_9
        replace hF := fe_b3 hF hf49_13
        refine g_st (st' := [.long r15, .long (1000 : Int64)]) rfl ?_
        refine g_lmul d_X10_melt_52 ?_
        refine g_topJ (fun v17 ev17 => ?_)
        replace hF := fe_lt hF ev17
        refine g_lstore (L' := [some (.ref 78), some (.int x), some (.long v1), none, some (.int x6), some (.long v17), none]) d_X10_melt_53 (by decide) rfl ?_
        refine g_aload_n d_X10_melt_55 rfl ?_
        refine g_iload_n d_X10_melt_56 rfl ?_
        refine g_iload d_X10_melt_57 rfl ?_
        refine g_V2 d_X10_melt_59 cs_X10_melt_X10_warm lk_RX10_200 im_X10_warm se_X10_warm rfl rfl rfl (Nat.le_of_ble_eq_true rfl) ⟨rfl, rfl⟩ ⟨Nat.zero_le _, Nat.zero_le _⟩ (ct_X10_warm x x6 I J7 hx (by grind) (by grind)) (fun r59 S59 Ic19 Jc20 q59_17 => ?_)
        obtain ⟨rfl, rfl, rfl, r23, rfl, hf59_21⟩ := q59_17
        replace hF := fe_b3 hF hf59_21
        refine g_st (st' := [.long r23]) rfl ?_
        refine g_ldc2 (v := 1000) d_X10_melt_62 tw_1392 ?_
        refine g_lcmp_ge d_X10_melt_65 d_X10_melt_66 (fun h66 => ?_) (fun h66 => ?_)
        · skip
          replace hF := fe_pos hF h66
          refine g_iinc (v := (x6 + (1 : Int32))) (L' := [some (.ref 78), some (.int x), some (.long v1), none, some (.int (x6 + (1 : Int32))), some (.long v17), none]) d_X10_melt_104 rfl (by rw [kI_1]) (by decide) rfl ?_
          refine g_goto d_X10_melt_107 ?_
          refine g_sb [some (.ref 78), some (.int x), some (.long v1), none, some (.int (x6 + (1 : Int32))), none, none] (by simp [subL]) ?_
          exact ih_36 _ (by rw [← hmu_36]; exact mu_up h39) (x6 + (1 : Int32)) J7 rfl hK8 (lo_up hl9 h39) ⟨kf0, Nat.lt_of_lt_of_le (by rw [← hmu_36]; exact mu_up h39) hkf0, hF⟩
        · skip
          replace hF := fe_neg hF h66
          refine g_aload_n d_X10_melt_69 rfl ?_
          refine g_getR d_X10_melt_70 fq_RX10_7 rfl rfl ?_
          refine g_iload_n d_X10_melt_73 rfl ?_
          refine g_bipush (v := 55) d_X10_melt_74 kB_55 ?_
          refine g_iadd d_X10_melt_76 ?_
          refine g_dup2 d_X10_melt_77 rfl rfl ?_
          refine g_laload (N := 320) d_X10_melt_78 rfl kT_320 (ixc hx (by decide)) (by rw [tnc hx (by decide), kN_55]) ?_
          refine g_lload d_X10_melt_79 rfl ?_
          refine g_aload_n d_X10_melt_81 rfl ?_
          refine g_getR d_X10_melt_82 fq_RX10_7 rfl rfl ?_
          refine g_iload_n d_X10_melt_85 rfl ?_
          refine g_iload d_X10_melt_86 rfl ?_
          refine g_iadd d_X10_melt_88 ?_
          refine g_laload (N := 320) d_X10_melt_89 rfl kT_320 (ixc hx (by constructor <;> grind)) (tnc hx (by constructor <;> grind)) ?_
          refine g_lsub d_X10_melt_90 ?_
          refine g_ladd d_X10_melt_91 ?_
          refine g_lastore (N := 320) d_X10_melt_92 rfl kT_320 (ixc hx (by decide)) (by rw [tnc hx (by decide), kN_55])  ?_
          refine g_nmJ (fun J25 eJ25 => ?_)
          replace hF := fe_lt hF eJ25
          have hK26 : TK x.toNatClampNeg J J25 := (by rw [eJ25]; exact tk_w hK8 (by unfold KP; omega) (fun hh => absurd hh (by omega)))
          refine g_aload_n d_X10_melt_93 rfl ?_
          refine g_getR d_X10_melt_94 fq_RX10_7 rfl rfl ?_
          refine g_iload_n d_X10_melt_97 rfl ?_
          refine g_iload d_X10_melt_98 rfl ?_
          refine g_iadd d_X10_melt_100 ?_
          refine g_lload d_X10_melt_101 rfl ?_
          refine g_lastore (N := 320) d_X10_melt_103 rfl kT_320 (ixc hx (by constructor <;> grind)) (tnc hx (by constructor <;> grind))  ?_
          refine g_nmJ (fun J27 eJ27 => ?_)
          replace hF := fe_lt hF eJ27
          have hK28 : TK x.toNatClampNeg J J27 := (by rw [eJ27]; exact tk_w hK26 (by unfold KP; omega) (fun hh => absurd hh (by omega)))
          refine g_iinc (v := (x6 + (1 : Int32))) (L' := [some (.ref 78), some (.int x), some (.long v1), none, some (.int (x6 + (1 : Int32))), some (.long v17), none]) d_X10_melt_104 rfl (by rw [kI_1]) (by decide) rfl ?_
          refine g_goto d_X10_melt_107 ?_
          refine g_sb [some (.ref 78), some (.int x), some (.long v1), none, some (.int (x6 + (1 : Int32))), none, none] (by simp [subL]) ?_
          exact ih_36 _ (by rw [← hmu_36]; exact mu_up h39) (x6 + (1 : Int32)) J27 rfl hK28 (lo_up hl9 h39) ⟨kf0, Nat.lt_of_lt_of_le (by rw [← hmu_36]; exact mu_up h39) hkf0, hF⟩
  exact K_36 _ (0 : Int32) J4 rfl hK5 (Int32.le_refl _) ⟨_, Nat.lt_succ_self _, hF⟩
noncomputable def fn_X10_fault (I : Iv) (J : Jv) : Int32 × Iv × Jv :=
  ((I 78 16), I, J)
set_option maxRecDepth 100000 in
set_option maxHeartbeats 4000000 in
theorem ct_X10_fault  (I : Iv) (J : Jv)  : Ct m_X10_fault [.ref 78] SHF I J (fun r S' I' J' => S' = SHF ∧ I = I' ∧ J = J' ∧ ∃ v : Int32, r = some (.int v) ∧ fn_X10_fault I J = (v, I', J')) := by
  refine ct_of 0 (by decide +kernel) rfl rfl ?_
  have hF := fe_of (fn_X10_fault.eq_1 I J)
  refine g_aload_n d_X10_fault_0 rfl ?_
  refine g_getI d_X10_fault_1 fq_RX10_39 rfl rfl ?_
  exact g_ireturn d_X10_fault_4 rfl rfl rfl rfl ⟨rfl, rfl, rfl, (I 78 16), rfl, hF⟩
noncomputable def fn_X10_opening (i : Int32) (what : Int32) (I : Iv) (J : Jv) : Int32 × Iv × Jv :=
  b_n3 (fn_X10_in (Int32.toInt64 what) (0 : Int64) (1 : Int64) I J) (fun (r6 : Int32) (_ : Iv) (_ : Jv) => if r6 = 0 then ((-1000000002 : Int32), I, J) else b_n3 (fn_X10_in (Int32.toInt64 i) (0 : Int64) (Int32.toInt64 ((I 78 5) - (1 : Int32))) I J) (fun (r13 : Int32) (_ : Iv) (_ : Jv) => if r13 = 0 then ((-1 : Int32), I, J) else if what = 0 then ((I 83 i.toNatClampNeg), I, J) else ((I 84 i.toNatClampNeg), I, J)))
set_option maxRecDepth 100000 in
set_option maxHeartbeats 4000000 in
theorem ct_X10_opening (i : Int32) (what : Int32) (I : Iv) (J : Jv) (hop2 : 0 ≤ I 78 5 ∧ I 78 5 ≤ 12) : Ct m_X10_opening [.ref 78, .int i, .int what] SHF I J (fun r S' I' J' => S' = SHF ∧ I = I' ∧ J = J' ∧ ∃ v : Int32, r = some (.int v) ∧ fn_X10_opening i what I J = (v, I', J')) := by
  refine ct_of 0 (by decide +kernel) rfl rfl ?_
  have hF := fe_of (fn_X10_opening.eq_1 i what I J)
  refine g_iload_n d_X10_opening_0 rfl ?_
  refine g_i2l d_X10_opening_1 ?_
  refine g_lconst d_X10_opening_2 kL_0 ?_
  refine g_lconst d_X10_opening_3 kL_1 ?_
  refine g_S3 d_X10_opening_4 cs_X10_opening_X10_in lk_RX10_96 im_X10_in (Nat.le_of_ble_eq_true rfl) ⟨rfl, rfl⟩ ⟨Nat.zero_le _, Nat.zero_le _⟩ (ct_X10_inL what (0 : Int64) (1 : Int64) (0 : Int32) (1 : Int32) (by decide) (by decide) I J) (fun r4 S4 Ic2 Jc3 q4_0 => ?_)
  obtain ⟨rfl, rfl, rfl, r6, rfl, hz4, hf4_4, hr4_6⟩ := q4_0
  replace hF := fe_b3 hF hf4_4
  refine g_st (st' := [.int r6]) rfl ?_
  refine g_if_ne d_X10_opening_7 (fun h7 => ?_) (fun h7 => ?_)
  · skip
    replace hF := fe_neg hF h7
    refine g_iload_n d_X10_opening_13 rfl ?_
    refine g_i2l d_X10_opening_14 ?_
    refine g_lconst d_X10_opening_15 kL_0 ?_
    refine g_aload_n d_X10_opening_16 rfl ?_
    refine g_getI d_X10_opening_17 fq_RX10_175 rfl rfl ?_
    refine g_iconst (v := 1) d_X10_opening_20 kI_1 ?_
    refine g_isub d_X10_opening_21 ?_
    refine g_i2l d_X10_opening_22 ?_
    refine g_S3 d_X10_opening_23 cs_X10_opening_X10_in lk_RX10_96 im_X10_in (Nat.le_of_ble_eq_true rfl) ⟨rfl, rfl⟩ ⟨Nat.zero_le _, Nat.zero_le _⟩ (ct_X10_inL i (0 : Int64) (Int32.toInt64 ((I 78 5) - (1 : Int32))) (0 : Int32) ((I 78 5) - (1 : Int32)) (by decide) rfl I J) (fun r23 S23 Ic9 Jc10 q23_7 => ?_)
    obtain ⟨rfl, rfl, rfl, r13, rfl, hz23, hf23_11, hr23_13⟩ := q23_7
    replace hF := fe_b3 hF hf23_11
    refine g_st (st' := [.int r13]) rfl ?_
    refine g_if_ne d_X10_opening_26 (fun h26 => ?_) (fun h26 => ?_)
    · skip
      replace hF := fe_neg hF h26
      refine g_iload_n d_X10_opening_33 rfl ?_
      refine g_if_ne d_X10_opening_34 (fun h34 => ?_) (fun h34 => ?_)
      · skip
        replace hF := fe_neg hF h34
        refine g_aload_n d_X10_opening_46 rfl ?_
        refine g_getR d_X10_opening_47 fq_RX10_27 rfl rfl ?_
        refine g_iload_n d_X10_opening_50 rfl ?_
        refine g_iaload (N := 12) d_X10_opening_51 rfl kT_12 (by constructor <;> grind) rfl ?_
        exact g_ireturn d_X10_opening_52 rfl rfl rfl rfl ⟨rfl, rfl, rfl, (I 84 i.toNatClampNeg), rfl, hF⟩
      · skip
        replace hF := fe_pos hF h34
        refine g_aload_n d_X10_opening_37 rfl ?_
        refine g_getR d_X10_opening_38 fq_RX10_24 rfl rfl ?_
        refine g_iload_n d_X10_opening_41 rfl ?_
        refine g_iaload (N := 12) d_X10_opening_42 rfl kT_12 (by constructor <;> grind) rfl ?_
        refine g_goto d_X10_opening_43 ?_
        exact g_ireturn d_X10_opening_52 rfl rfl rfl rfl ⟨rfl, rfl, rfl, (I 83 i.toNatClampNeg), rfl, hF⟩
    · skip
      replace hF := fe_pos hF h26
      refine g_iconst (v := -1) d_X10_opening_29 kI_m1 ?_
      refine g_goto d_X10_opening_30 ?_
      exact g_ireturn d_X10_opening_52 rfl rfl rfl rfl ⟨rfl, rfl, rfl, (-1 : Int32), rfl, hF⟩
  · skip
    replace hF := fe_pos hF h7
    refine g_ldc (v := -1000000002) d_X10_opening_10 tw_1199 ?_
    exact g_ireturn d_X10_opening_12 rfl rfl rfl rfl ⟨rfl, rfl, rfl, (-1000000002 : Int32), rfl, hF⟩
noncomputable def fn_X10_told (what : Int32) (I : Iv) (J : Jv) : Int32 × Iv × Jv :=
  b_n2 (fn_X10_begin I J) (fun (I1 : Iv) (J2 : Jv) => b_n3 (fn_X10_in (Int32.toInt64 what) (0 : Int64) (14 : Int64) I1 J2) (fun (r13 : Int32) (_ : Iv) (_ : Jv) => if r13 = 0 then ((-1000000002 : Int32), I1, J2) else ((I1 81 what.toNatClampNeg), I1, J2)))
set_option maxRecDepth 100000 in
set_option maxHeartbeats 4000000 in
theorem ct_X10_told (what : Int32) (I : Iv) (J : Jv) (hma : MA I) (hmj : MJ J) : Ct m_X10_told [.ref 78, .int what] SHF I J (fun r S' I' J' => S' = SHF ∧ True ∧ ∃ v : Int32, r = some (.int v) ∧ fn_X10_told what I J = (v, I', J') ∧ (MI (bgI I) I' ∧ MK (bgJ I J) J')) := by
  refine ct_of 0 (by decide +kernel) rfl rfl ?_
  have hK0 : (MI I I ∧ MK J J) := ⟨mi_rfl hma, mk_rfl hmj⟩
  have hF := fe_of (fn_X10_told.eq_1 what I J)
  refine g_aload_n d_X10_told_0 rfl ?_
  refine g_V0 d_X10_told_1 cs_X10_told_X10_begin lk_RX10_166 im_X10_begin se_X10_begin rfl rfl rfl (Nat.le_of_ble_eq_true rfl) ⟨rfl, rfl⟩ ⟨Nat.zero_le _, Nat.zero_le _⟩ (ct_X10_begin  I J hma hmj) (fun r1 S1 I1 J2 q1_2 => ?_)
  obtain ⟨rfl, hc1_3, rfl, hf1_4, hr1_5⟩ := q1_2
  replace hF := fe_b2 hF hf1_4
  refine g_st (st' := []) rfl ?_
  have hK7 : (MI (bgI I) I1 ∧ MK (bgJ I J) J2) := hr1_5
  refine g_iload_n d_X10_told_4 rfl ?_
  refine g_i2l d_X10_told_5 ?_
  refine g_lconst d_X10_told_6 kL_0 ?_
  refine g_ldc2 (v := 14) d_X10_told_7 tw_1283 ?_
  refine g_S3 d_X10_told_10 cs_X10_told_X10_in lk_RX10_96 im_X10_in (Nat.le_of_ble_eq_true rfl) ⟨rfl, rfl⟩ ⟨Nat.zero_le _, Nat.zero_le _⟩ (ct_X10_inL what (0 : Int64) (14 : Int64) (0 : Int32) (14 : Int32) (by decide) (by decide) I1 J2) (fun r10 S10 Ic9 Jc10 q10_7 => ?_)
  obtain ⟨rfl, rfl, rfl, r13, rfl, hz10, hf10_11, hr10_13⟩ := q10_7
  replace hF := fe_b3 hF hf10_11
  refine g_st (st' := [.int r13]) rfl ?_
  refine g_if_eq d_X10_told_13 (fun h13 => ?_) (fun h13 => ?_)
  · skip
    replace hF := fe_pos hF h13
    refine g_ldc (v := -1000000002) d_X10_told_25 tw_1199 ?_
    exact g_ireturn d_X10_told_27 rfl rfl rfl rfl ⟨rfl, trivial, (-1000000002 : Int32), rfl, hF, hK7⟩
  · skip
    replace hF := fe_neg hF h13
    refine g_aload_n d_X10_told_16 rfl ?_
    refine g_getR d_X10_told_17 fq_RX10_17 rfl rfl ?_
    refine g_iload_n d_X10_told_20 rfl ?_
    refine g_iaload (N := 15) d_X10_told_21 rfl kT_15 (by constructor <;> grind) rfl ?_
    refine g_goto d_X10_told_22 ?_
    exact g_ireturn d_X10_told_27 rfl rfl rfl rfl ⟨rfl, trivial, (I1 81 what.toNatClampNeg), rfl, hF, hK7⟩
noncomputable def fn_X10_trouble (set : Int32) (I : Iv) (J : Jv) : Int32 × Iv × Jv :=
  b_n2 (fn_X10_begin I J) (fun (I1 : Iv) (J2 : Jv) => b_n3 (fn_X10_isSet set I1 J2) (fun (r13 : Int32) (_ : Iv) (_ : Jv) => if r13 = 0 then ((-1000000001 : Int32), I1, J2) else l_t ((Int64.toInt32 (J2 79 52))) (fun (v15 : Int32) => l_t (wJ J2 79 52 (Int32.toInt64 set)) (fun (J16 : Jv) => b_n3 (fn_X10_has (Int32.toInt64 set) (1 : Int32) I1 J16) (fun (r23 : Int32) (_ : Iv) (_ : Jv) => if r23 = 0 then (v15, I1, J16) else b_n3 (fn_X10_has (Int32.toInt64 v15) (1 : Int32) I1 J16) (fun (r30 : Int32) (_ : Iv) (_ : Jv) => if r30 = 0 then if (600 : Int64) ≤ (J16 79 53) then (v15, I1, J16) else l_t (wJ J16 79 53 (600 : Int64)) (fun (J32 : Jv) => (v15, I1, J32)) else (v15, I1, J16)))))))
set_option maxRecDepth 100000 in
set_option maxHeartbeats 4000000 in
theorem ct_X10_trouble (set : Int32) (I : Iv) (J : Jv) (hma : MA I) (hmj : MJ J) : Ct m_X10_trouble [.ref 78, .int set] SHF I J (fun r S' I' J' => S' = SHF ∧ True ∧ ∃ v : Int32, r = some (.int v) ∧ fn_X10_trouble set I J = (v, I', J') ∧ (MI (bgI I) I' ∧ ((¬ (0 ≤ set ∧ set ≤ 127) ∧ v = -1000000001 ∧ MK (bgJ I J) J') ∨ (0 ≤ set ∧ set ≤ 127 ∧ v = ((bgJ I J) 79 52).toInt32 ∧ MK (wJ (bgJ I J) 79 52 (Int32.toInt64 set)) J')))) := by
  refine ct_of 1 (by decide +kernel) rfl rfl ?_
  have hK0 : (MI I I ∧ MK J J) := ⟨mi_rfl hma, mk_rfl hmj⟩
  have hF := fe_of (fn_X10_trouble.eq_1 set I J)
  refine g_aload_n d_X10_trouble_0 rfl ?_
  refine g_V0 d_X10_trouble_1 cs_X10_trouble_X10_begin lk_RX10_166 im_X10_begin se_X10_begin rfl rfl rfl (Nat.le_of_ble_eq_true rfl) ⟨rfl, rfl⟩ ⟨Nat.zero_le _, Nat.zero_le _⟩ (ct_X10_begin  I J hma hmj) (fun r1 S1 I1 J2 q1_2 => ?_)
  obtain ⟨rfl, hc1_3, rfl, hf1_4, hr1_5⟩ := q1_2
  replace hF := fe_b2 hF hf1_4
  refine g_st (st' := []) rfl ?_
  have hK7 : (MI (bgI I) I1 ∧ MK (bgJ I J) J2) := hr1_5
  have hm52 := mk_v52 (hr1_5).2
  refine g_iload_n d_X10_trouble_4 rfl ?_
  refine g_S1 d_X10_trouble_5 cs_X10_trouble_X10_isSet lk_RX10_259 im_X10_isSet (Nat.le_of_ble_eq_true rfl) ⟨rfl, rfl⟩ ⟨Nat.zero_le _, Nat.zero_le _⟩ (ct_X10_isSet set I1 J2 ) (fun r5 S5 Ic9 Jc10 q5_7 => ?_)
  obtain ⟨rfl, rfl, rfl, r13, rfl, hz5, hf5_11, hr5_13⟩ := q5_7
  replace hF := fe_b3 hF hf5_11
  refine g_st (st' := [.int r13]) rfl ?_
  refine g_if_ne d_X10_trouble_8 (fun h8 => ?_) (fun h8 => ?_)
  · skip
    replace hF := fe_neg hF h8
    refine g_aload_n d_X10_trouble_15 rfl ?_
    refine g_getR d_X10_trouble_16 fq_RX10_7 rfl rfl ?_
    refine g_bipush (v := 52) d_X10_trouble_19 kB_52 ?_
    refine g_laload (N := 320) d_X10_trouble_21 rfl kT_320 ⟨by decide, by decide⟩ kN_52 ?_
    refine g_l2i d_X10_trouble_22 ?_
    refine g_topI (fun v15 ev15 => ?_)
    replace hF := fe_lt hF ev15
    refine g_istore_n (L' := [some (.ref 78), some (.int set), some (.int v15)]) d_X10_trouble_23 (by decide) rfl ?_
    refine g_aload_n d_X10_trouble_24 rfl ?_
    refine g_getR d_X10_trouble_25 fq_RX10_7 rfl rfl ?_
    refine g_bipush (v := 52) d_X10_trouble_28 kB_52 ?_
    refine g_iload_n d_X10_trouble_30 rfl ?_
    refine g_i2l d_X10_trouble_31 ?_
    refine g_lastore (N := 320) d_X10_trouble_32 rfl kT_320 ⟨by decide, by decide⟩ kN_52  ?_
    refine g_nmJ (fun J16 eJ16 => ?_)
    replace hF := fe_lt hF eJ16
    have hK17 : (MI (bgI I) I1 ∧ MK (wJ (bgJ I J) 79 52 (Int32.toInt64 set)) J16) := (by rw [eJ16]; exact ⟨(hK7).1, mj_52 (hK7).2⟩)
    refine g_iload_n d_X10_trouble_33 rfl ?_
    refine g_i2l d_X10_trouble_34 ?_
    refine g_iconst (v := 1) d_X10_trouble_35 kI_1 ?_
    refine g_S2 d_X10_trouble_36 cs_X10_trouble_X10_has lk_RX10_149 im_X10_has (Nat.le_of_ble_eq_true rfl) ⟨rfl, rfl⟩ ⟨Nat.zero_le _, Nat.zero_le _⟩ (ct_X10_has (Int32.toInt64 set) (1 : Int32) I1 J16 ) (fun r36 S36 Ic19 Jc20 q36_17 => ?_)
    obtain ⟨rfl, rfl, rfl, r23, rfl, hz36, hf36_21⟩ := q36_17
    replace hF := fe_b3 hF hf36_21
    refine g_st (st' := [.int r23]) rfl ?_
    refine g_if_eq d_X10_trouble_39 (fun h39 => ?_) (fun h39 => ?_)
    · skip
      replace hF := fe_pos hF h39
      refine g_iload_n d_X10_trouble_75 rfl ?_
      exact g_ireturn d_X10_trouble_76 rfl rfl rfl rfl ⟨rfl, trivial, v15, rfl, hF, ⟨(hK17).1, Or.inr ⟨by grind, by grind, by rw [ev15, hm52], (hK17).2⟩⟩⟩
    · skip
      replace hF := fe_neg hF h39
      refine g_iload_n d_X10_trouble_42 rfl ?_
      refine g_i2l d_X10_trouble_43 ?_
      refine g_iconst (v := 1) d_X10_trouble_44 kI_1 ?_
      refine g_S2 d_X10_trouble_45 cs_X10_trouble_X10_has lk_RX10_149 im_X10_has (Nat.le_of_ble_eq_true rfl) ⟨rfl, rfl⟩ ⟨Nat.zero_le _, Nat.zero_le _⟩ (ct_X10_has (Int32.toInt64 v15) (1 : Int32) I1 J16 ) (fun r45 S45 Ic26 Jc27 q45_24 => ?_)
      obtain ⟨rfl, rfl, rfl, r30, rfl, hz45, hf45_28⟩ := q45_24
      replace hF := fe_b3 hF hf45_28
      refine g_st (st' := [.int r30]) rfl ?_
      refine g_if_ne d_X10_trouble_48 (fun h48 => ?_) (fun h48 => ?_)
      · skip
        replace hF := fe_neg hF h48
        refine g_iload_n d_X10_trouble_75 rfl ?_
        exact g_ireturn d_X10_trouble_76 rfl rfl rfl rfl ⟨rfl, trivial, v15, rfl, hF, ⟨(hK17).1, Or.inr ⟨by grind, by grind, by rw [ev15, hm52], (hK17).2⟩⟩⟩
      · skip
        replace hF := fe_pos hF h48
        refine g_aload_n d_X10_trouble_51 rfl ?_
        refine g_getR d_X10_trouble_52 fq_RX10_7 rfl rfl ?_
        refine g_bipush (v := 53) d_X10_trouble_55 kB_53 ?_
        refine g_laload (N := 320) d_X10_trouble_57 rfl kT_320 ⟨by decide, by decide⟩ kN_53 ?_
        refine g_ldc2 (v := 600) d_X10_trouble_58 tw_1222 ?_
        refine g_lcmp_ge d_X10_trouble_61 d_X10_trouble_62 (fun h62 => ?_) (fun h62 => ?_)
        · skip
          replace hF := fe_pos hF h62
          refine g_iload_n d_X10_trouble_75 rfl ?_
          exact g_ireturn d_X10_trouble_76 rfl rfl rfl rfl ⟨rfl, trivial, v15, rfl, hF, ⟨(hK17).1, Or.inr ⟨by grind, by grind, by rw [ev15, hm52], (hK17).2⟩⟩⟩
        · skip
          replace hF := fe_neg hF h62
          refine g_aload_n d_X10_trouble_65 rfl ?_
          refine g_getR d_X10_trouble_66 fq_RX10_7 rfl rfl ?_
          refine g_bipush (v := 53) d_X10_trouble_69 kB_53 ?_
          refine g_ldc2 (v := 600) d_X10_trouble_71 tw_1222 ?_
          refine g_lastore (N := 320) d_X10_trouble_74 rfl kT_320 ⟨by decide, by decide⟩ kN_53  ?_
          refine g_nmJ (fun J32 eJ32 => ?_)
          replace hF := fe_lt hF eJ32
          have hK33 : (MI (bgI I) I1 ∧ MK (wJ (bgJ I J) 79 52 (Int32.toInt64 set)) J32) := (by rw [eJ32]; exact ⟨(hK17).1, mj_53 (hK17).2 (by decide)⟩)
          refine g_iload_n d_X10_trouble_75 rfl ?_
          exact g_ireturn d_X10_trouble_76 rfl rfl rfl rfl ⟨rfl, trivial, v15, rfl, hF, ⟨(hK33).1, Or.inr ⟨by grind, by grind, by rw [ev15, hm52], (hK33).2⟩⟩⟩
  · skip
    replace hF := fe_pos hF h8
    refine g_ldcw (v := -1000000001) d_X10_trouble_11 tw_1296 ?_
    exact g_ireturn d_X10_trouble_14 rfl rfl rfl rfl ⟨rfl, trivial, (-1000000001 : Int32), rfl, hF, ⟨(hK7).1, Or.inl ⟨by grind, rfl, (hK7).2⟩⟩⟩
noncomputable def fn_X10_fresh (I : Iv) (J : Jv) : Int32 × Iv × Jv :=
  b_n2 (fn_X10_begin I J) (fun (I1 : Iv) (J2 : Jv) => l_t ((Int64.toInt32 (J2 79 54))) (fun (v8 : Int32) => b_n2 (fn_X10_freshen (0 : Int32) I1 J2) (fun (_ : Iv) (J9 : Jv) => (v8, I1, J9))))
set_option maxRecDepth 100000 in
set_option maxHeartbeats 4000000 in
theorem ct_X10_fresh  (I : Iv) (J : Jv) (hma : MA I) (hmj : MJ J) : Ct m_X10_fresh [.ref 78] SHF I J (fun r S' I' J' => S' = SHF ∧ True ∧ ∃ v : Int32, r = some (.int v) ∧ fn_X10_fresh I J = (v, I', J') ∧ (MI (bgI I) I' ∧ MK (wJ (bgJ I J) 79 54 0) J')) := by
  refine ct_of 1 (by decide +kernel) rfl rfl ?_
  have hK0 : (MI I I ∧ MK J J) := ⟨mi_rfl hma, mk_rfl hmj⟩
  have hF := fe_of (fn_X10_fresh.eq_1 I J)
  refine g_aload_n d_X10_fresh_0 rfl ?_
  refine g_V0 d_X10_fresh_1 cs_X10_fresh_X10_begin lk_RX10_166 im_X10_begin se_X10_begin rfl rfl rfl (Nat.le_of_ble_eq_true rfl) ⟨rfl, rfl⟩ ⟨Nat.zero_le _, Nat.zero_le _⟩ (ct_X10_begin  I J hma hmj) (fun r1 S1 I1 J2 q1_2 => ?_)
  obtain ⟨rfl, hc1_3, rfl, hf1_4, hr1_5⟩ := q1_2
  replace hF := fe_b2 hF hf1_4
  refine g_st (st' := []) rfl ?_
  have hK7 : (MI (bgI I) I1 ∧ MK (bgJ I J) J2) := hr1_5
  refine g_aload_n d_X10_fresh_4 rfl ?_
  refine g_getR d_X10_fresh_5 fq_RX10_7 rfl rfl ?_
  refine g_bipush (v := 54) d_X10_fresh_8 kB_54 ?_
  refine g_laload (N := 320) d_X10_fresh_10 rfl kT_320 ⟨by decide, by decide⟩ kN_54 ?_
  refine g_l2i d_X10_fresh_11 ?_
  refine g_topI (fun v8 ev8 => ?_)
  replace hF := fe_lt hF ev8
  refine g_istore_n (L' := [some (.ref 78), some (.int v8)]) d_X10_fresh_12 (by decide) rfl ?_
  refine g_aload_n d_X10_fresh_13 rfl ?_
  refine g_iconst (v := 0) d_X10_fresh_14 kI_0 ?_
  refine g_V1 d_X10_fresh_15 cs_X10_fresh_X10_freshen lk_RX10_84 im_X10_freshen se_X10_freshen rfl rfl rfl (Nat.le_of_ble_eq_true rfl) ⟨rfl, rfl⟩ ⟨Nat.zero_le _, Nat.zero_le _⟩ (ct_X10_freshen (0 : Int32) I1 J2 (by decide)) (fun r15 S15 Ic11 J9 q15_9 => ?_)
  obtain ⟨rfl, ⟨rfl, hc15_11⟩, rfl, hf15_12, hr15_13⟩ := q15_9
  replace hF := fe_b2 hF hf15_12
  refine g_st (st' := []) rfl ?_
  have hK15 : (MI (bgI I) I1 ∧ MK (wJ (bgJ I J) 79 54 0) J9) := ⟨(hK7).1, fh_mk0 (hK7).2 hr15_13⟩
  refine g_iload_n d_X10_fresh_18 rfl ?_
  exact g_ireturn d_X10_fresh_19 rfl rfl rfl rfl ⟨rfl, trivial, v8, rfl, hF, hK15⟩
noncomputable def fn_X10_current (on : Int32) (I : Iv) (J : Jv) : Int32 × Iv × Jv :=
  b_n2 (fn_X10_begin I J) (fun (I1 : Iv) (J2 : Jv) => l_t ((Int64.toInt32 (J2 79 69))) (fun (v8 : Int32) => b_n3 (fn_X10_one on I1 J2) (fun (r14 : Int32) (_ : Iv) (_ : Jv) => l_t (wJ J2 79 69 (Int32.toInt64 r14)) (fun (J16 : Jv) => (v8, I1, J16)))))
set_option maxRecDepth 100000 in
set_option maxHeartbeats 4000000 in
theorem ct_X10_current (on : Int32) (I : Iv) (J : Jv) (hma : MA I) (hmj : MJ J) : Ct m_X10_current [.ref 78, .int on] SHF I J (fun r S' I' J' => S' = SHF ∧ True ∧ ∃ v : Int32, r = some (.int v) ∧ fn_X10_current on I J = (v, I', J') ∧ (v = ((bgJ I J) 79 69).toInt32 ∧ MI (bgI I) I' ∧ MK (wJ (bgJ I J) 79 69 (Int32.toInt64 (if on = 0 then 0 else 1))) J')) := by
  refine ct_of 1 (by decide +kernel) rfl rfl ?_
  have hK0 : (MI I I ∧ MK J J) := ⟨mi_rfl hma, mk_rfl hmj⟩
  have hF := fe_of (fn_X10_current.eq_1 on I J)
  refine g_aload_n d_X10_current_0 rfl ?_
  refine g_V0 d_X10_current_1 cs_X10_current_X10_begin lk_RX10_166 im_X10_begin se_X10_begin rfl rfl rfl (Nat.le_of_ble_eq_true rfl) ⟨rfl, rfl⟩ ⟨Nat.zero_le _, Nat.zero_le _⟩ (ct_X10_begin  I J hma hmj) (fun r1 S1 I1 J2 q1_2 => ?_)
  obtain ⟨rfl, hc1_3, rfl, hf1_4, hr1_5⟩ := q1_2
  replace hF := fe_b2 hF hf1_4
  refine g_st (st' := []) rfl ?_
  have hK7 : (MI (bgI I) I1 ∧ MK (bgJ I J) J2) := hr1_5
  have hm69 := mk_v69 (hr1_5).2
  refine g_aload_n d_X10_current_4 rfl ?_
  refine g_getR d_X10_current_5 fq_RX10_7 rfl rfl ?_
  refine g_bipush (v := 69) d_X10_current_8 kB_69 ?_
  refine g_laload (N := 320) d_X10_current_10 rfl kT_320 ⟨by decide, by decide⟩ kN_69 ?_
  refine g_l2i d_X10_current_11 ?_
  refine g_topI (fun v8 ev8 => ?_)
  replace hF := fe_lt hF ev8
  refine g_istore_n (L' := [some (.ref 78), some (.int on), some (.int v8)]) d_X10_current_12 (by decide) rfl ?_
  refine g_aload_n d_X10_current_13 rfl ?_
  refine g_getR d_X10_current_14 fq_RX10_7 rfl rfl ?_
  refine g_bipush (v := 69) d_X10_current_17 kB_69 ?_
  refine g_iload_n d_X10_current_19 rfl ?_
  refine g_S1 d_X10_current_20 cs_X10_current_X10_one lk_RX10_211 im_X10_one (Nat.le_of_ble_eq_true rfl) ⟨rfl, rfl⟩ ⟨Nat.zero_le _, Nat.zero_le _⟩ (ct_X10_one on I1 J2 ) (fun r20 S20 Ic10 Jc11 q20_8 => ?_)
  obtain ⟨rfl, rfl, rfl, r14, rfl, hf20_12, hr20_14⟩ := q20_8
  replace hF := fe_b3 hF hf20_12
  refine g_st (st' := [.int r14, .int (69 : Int32), .ref 79]) rfl ?_
  have h1v := (hr20_14).2
  refine g_i2l d_X10_current_23 ?_
  refine g_lastore (N := 320) d_X10_current_24 rfl kT_320 ⟨by decide, by decide⟩ kN_69  ?_
  refine g_nmJ (fun J16 eJ16 => ?_)
  replace hF := fe_lt hF eJ16
  have hK17 : (MI (bgI I) I1 ∧ MK (wJ (bgJ I J) 79 69 (Int32.toInt64 r14)) J16) := (by rw [eJ16]; exact ⟨(hK7).1, mj_69 (hK7).2⟩)
  refine g_iload_n d_X10_current_25 rfl ?_
  exact g_ireturn d_X10_current_26 rfl rfl rfl rfl ⟨rfl, trivial, v8, rfl, hF, ⟨by rw [ev8, hm69], (hK17).1, by rw [← h1v]; exact (hK17).2⟩⟩
noncomputable def fn_X10_cover (on : Int32) (I : Iv) (J : Jv) : Int32 × Iv × Jv :=
  b_n2 (fn_X10_begin I J) (fun (I1 : Iv) (J2 : Jv) => l_t ((Int64.toInt32 (J2 79 68))) (fun (v8 : Int32) => b_n3 (fn_X10_one on I1 J2) (fun (r14 : Int32) (_ : Iv) (_ : Jv) => l_t (wJ J2 79 68 (Int32.toInt64 r14)) (fun (J16 : Jv) => (v8, I1, J16)))))
set_option maxRecDepth 100000 in
set_option maxHeartbeats 4000000 in
theorem ct_X10_cover (on : Int32) (I : Iv) (J : Jv) (hma : MA I) (hmj : MJ J) : Ct m_X10_cover [.ref 78, .int on] SHF I J (fun r S' I' J' => S' = SHF ∧ True ∧ ∃ v : Int32, r = some (.int v) ∧ fn_X10_cover on I J = (v, I', J') ∧ (MI (bgI I) I' ∧ MK (bgJ I J) J')) := by
  refine ct_of 1 (by decide +kernel) rfl rfl ?_
  have hK0 : (MI I I ∧ MK J J) := ⟨mi_rfl hma, mk_rfl hmj⟩
  have hF := fe_of (fn_X10_cover.eq_1 on I J)
  refine g_aload_n d_X10_cover_0 rfl ?_
  refine g_V0 d_X10_cover_1 cs_X10_cover_X10_begin lk_RX10_166 im_X10_begin se_X10_begin rfl rfl rfl (Nat.le_of_ble_eq_true rfl) ⟨rfl, rfl⟩ ⟨Nat.zero_le _, Nat.zero_le _⟩ (ct_X10_begin  I J hma hmj) (fun r1 S1 I1 J2 q1_2 => ?_)
  obtain ⟨rfl, hc1_3, rfl, hf1_4, hr1_5⟩ := q1_2
  replace hF := fe_b2 hF hf1_4
  refine g_st (st' := []) rfl ?_
  have hK7 : (MI (bgI I) I1 ∧ MK (bgJ I J) J2) := hr1_5
  refine g_aload_n d_X10_cover_4 rfl ?_
  refine g_getR d_X10_cover_5 fq_RX10_7 rfl rfl ?_
  refine g_bipush (v := 68) d_X10_cover_8 kB_68 ?_
  refine g_laload (N := 320) d_X10_cover_10 rfl kT_320 ⟨by decide, by decide⟩ kN_68 ?_
  refine g_l2i d_X10_cover_11 ?_
  refine g_topI (fun v8 ev8 => ?_)
  replace hF := fe_lt hF ev8
  refine g_istore_n (L' := [some (.ref 78), some (.int on), some (.int v8)]) d_X10_cover_12 (by decide) rfl ?_
  refine g_aload_n d_X10_cover_13 rfl ?_
  refine g_getR d_X10_cover_14 fq_RX10_7 rfl rfl ?_
  refine g_bipush (v := 68) d_X10_cover_17 kB_68 ?_
  refine g_iload_n d_X10_cover_19 rfl ?_
  refine g_S1 d_X10_cover_20 cs_X10_cover_X10_one lk_RX10_211 im_X10_one (Nat.le_of_ble_eq_true rfl) ⟨rfl, rfl⟩ ⟨Nat.zero_le _, Nat.zero_le _⟩ (ct_X10_one on I1 J2 ) (fun r20 S20 Ic10 Jc11 q20_8 => ?_)
  obtain ⟨rfl, rfl, rfl, r14, rfl, hf20_12, hr20_14⟩ := q20_8
  replace hF := fe_b3 hF hf20_12
  refine g_st (st' := [.int r14, .int (68 : Int32), .ref 79]) rfl ?_
  refine g_i2l d_X10_cover_23 ?_
  refine g_lastore (N := 320) d_X10_cover_24 rfl kT_320 ⟨by decide, by decide⟩ kN_68  ?_
  refine g_nmJ (fun J16 eJ16 => ?_)
  replace hF := fe_lt hF eJ16
  have hK17 : (MI (bgI I) I1 ∧ MK (bgJ I J) J16) := (by rw [eJ16]; exact ⟨(hK7).1, mj_free (hK7).2 (by unfold jfree; refine ⟨fun X hX => ?_, fun X hX => ?_⟩ <;> omega)⟩)
  refine g_iload_n d_X10_cover_25 rfl ?_
  exact g_ireturn d_X10_cover_26 rfl rfl rfl rfl ⟨rfl, trivial, v8, rfl, hF, hK17⟩
noncomputable def fl_X10_put_63_0 (I1 : Iv) (J2 : Jv) (Kf0 : Int32 → Int32 × Iv × Jv) : Nat → Int32 → Int32 × Iv × Jv
  | 0, x43 => (0, I1, J2)
  | kf0 + 1, x43 => j_n (Kf0 x43) (fun (j91_1 : Int32 × Iv × Jv) => if (8 : Int32) ≤ x43 then j91_1 else if (J2 79 (12 + x43.toNatClampNeg)) = (1 : Int64) then fl_X10_put_63_0 I1 J2 Kf0 kf0 (x43 + (1 : Int32)) else j91_1)
noncomputable def fn_X10_put (s : Int32) (v_ : Int32) (c : Int32) (low : Int32) (high : Int32) (I : Iv) (J : Jv) : Int32 × Iv × Jv :=
  b_n2 (fn_X10_begin I J) (fun (I1 : Iv) (J2 : Jv) => b_n3 (fn_X10_isShelf s I1 J2) (fun (r13 : Int32) (_ : Iv) (_ : Jv) => if r13 = 0 then ((-1000000001 : Int32), I1, J2) else b_n3 (fn_X10_isDegree v_ I1 J2) (fun (r20 : Int32) (_ : Iv) (_ : Jv) => if r20 = 0 then ((-1000000002 : Int32), I1, J2) else b_n3 (fn_X10_in (Int32.toInt64 c) (1 : Int64) (200 : Int64) I1 J2) (fun (r27 : Int32) (_ : Iv) (_ : Jv) => if r27 = 0 then ((-1000000002 : Int32), I1, J2) else b_n3 (fn_X10_isDegree low I1 J2) (fun (r34 : Int32) (_ : Iv) (_ : Jv) => if r34 = 0 then ((-1000000002 : Int32), I1, J2) else b_n3 (fn_X10_isDegree high I1 J2) (fun (r41 : Int32) (_ : Iv) (_ : Jv) => if r41 = 0 then ((-1000000002 : Int32), I1, J2) else if low ≤ high then fl_X10_put_63_0 I1 J2 (fun (x43 : Int32) => if x43 = (8 : Int32) then ((-1000000004 : Int32), I1, J2) else l_t (wJ J2 79 (12 + x43.toNatClampNeg) (1 : Int64)) (fun (J45 : Jv) => l_t (wJ J45 79 (4 + x43.toNatClampNeg) ((Int32.toInt64 v_) * (Int32.toInt64 c))) (fun (J46 : Jv) => l_t (wJ J46 79 (20 + x43.toNatClampNeg) (Int32.toInt64 s)) (fun (J47 : Jv) => l_t (wJ J47 79 (28 + x43.toNatClampNeg) (Int32.toInt64 c)) (fun (J48 : Jv) => l_t (wJ J48 79 (36 + x43.toNatClampNeg) (Int32.toInt64 low)) (fun (J50 : Jv) => l_t (wJ J50 79 (44 + x43.toNatClampNeg) (Int32.toInt64 high)) (fun (J52 : Jv) => l_t (wJ J52 79 56 ((J52 79 56) + ((Int32.toInt64 v_) * (Int32.toInt64 c)))) (fun (J54 : Jv) => (x43, I1, J54))))))))) (mU (8 : Int32) ((0 : Int32)) + 1) (0 : Int32) else ((-1000000002 : Int32), I1, J2)))))))
set_option maxRecDepth 100000 in
set_option maxHeartbeats 4000000 in
theorem ct_X10_put (s : Int32) (v_ : Int32) (c : Int32) (low : Int32) (high : Int32) (I : Iv) (J : Jv) (hma : MA I) (hmj : MJ J) : Ct m_X10_put [.ref 78, .int s, .int v_, .int c, .int low, .int high] SHF I J (fun r S' I' J' => S' = SHF ∧ True ∧ ∃ v : Int32, r = some (.int v) ∧ fn_X10_put s v_ c low high I J = (v, I', J') ∧ (MI (bgI I) I' ∧ MK (bgJ I J) J')) := by
  refine ct_of 1 (by decide +kernel) rfl rfl ?_
  have hK0 : (MI I I ∧ MK J J) := ⟨mi_rfl hma, mk_rfl hmj⟩
  have hF := fe_of (fn_X10_put.eq_1 s v_ c low high I J)
  refine g_aload_n d_X10_put_0 rfl ?_
  refine g_V0 d_X10_put_1 cs_X10_put_X10_begin lk_RX10_166 im_X10_begin se_X10_begin rfl rfl rfl (Nat.le_of_ble_eq_true rfl) ⟨rfl, rfl⟩ ⟨Nat.zero_le _, Nat.zero_le _⟩ (ct_X10_begin  I J hma hmj) (fun r1 S1 I1 J2 q1_2 => ?_)
  obtain ⟨rfl, hc1_3, rfl, hf1_4, hr1_5⟩ := q1_2
  replace hF := fe_b2 hF hf1_4
  refine g_st (st' := []) rfl ?_
  have hK7 : (MI (bgI I) I1 ∧ MK (bgJ I J) J2) := hr1_5
  refine g_iload_n d_X10_put_4 rfl ?_
  refine g_S1 d_X10_put_5 cs_X10_put_X10_isShelf lk_RX10_272 im_X10_isShelf (Nat.le_of_ble_eq_true rfl) ⟨rfl, rfl⟩ ⟨Nat.zero_le _, Nat.zero_le _⟩ (ct_X10_isShelf s I1 J2 ) (fun r5 S5 Ic9 Jc10 q5_7 => ?_)
  obtain ⟨rfl, rfl, rfl, r13, rfl, hz5, hf5_11, hr5_13⟩ := q5_7
  replace hF := fe_b3 hF hf5_11
  refine g_st (st' := [.int r13]) rfl ?_
  refine g_if_ne d_X10_put_8 (fun h8 => ?_) (fun h8 => ?_)
  · skip
    replace hF := fe_neg hF h8
    refine g_iload_n d_X10_put_15 rfl ?_
    refine g_S1 d_X10_put_16 cs_X10_put_X10_isDegree lk_RX10_275 im_X10_isDegree (Nat.le_of_ble_eq_true rfl) ⟨rfl, rfl⟩ ⟨Nat.zero_le _, Nat.zero_le _⟩ (ct_X10_isDegree v_ I1 J2 ) (fun r16 S16 Ic16 Jc17 q16_14 => ?_)
    obtain ⟨rfl, rfl, rfl, r20, rfl, hz16, hf16_18, hr16_20⟩ := q16_14
    replace hF := fe_b3 hF hf16_18
    refine g_st (st' := [.int r20]) rfl ?_
    refine g_if_eq d_X10_put_19 (fun h19 => ?_) (fun h19 => ?_)
    · skip
      replace hF := fe_pos hF h19
      refine g_ldc (v := -1000000002) d_X10_put_57 tw_1199 ?_
      exact g_ireturn d_X10_put_59 rfl rfl rfl rfl ⟨rfl, trivial, (-1000000002 : Int32), rfl, hF, hK7⟩
    · skip
      replace hF := fe_neg hF h19
      refine g_iload_n d_X10_put_22 rfl ?_
      refine g_i2l d_X10_put_23 ?_
      refine g_lconst d_X10_put_24 kL_1 ?_
      refine g_ldc2 (v := 200) d_X10_put_25 tw_1325 ?_
      refine g_S3 d_X10_put_28 cs_X10_put_X10_in lk_RX10_96 im_X10_in (Nat.le_of_ble_eq_true rfl) ⟨rfl, rfl⟩ ⟨Nat.zero_le _, Nat.zero_le _⟩ (ct_X10_inL c (1 : Int64) (200 : Int64) (1 : Int32) (200 : Int32) (by decide) (by decide) I1 J2) (fun r28 S28 Ic23 Jc24 q28_21 => ?_)
      obtain ⟨rfl, rfl, rfl, r27, rfl, hz28, hf28_25, hr28_27⟩ := q28_21
      replace hF := fe_b3 hF hf28_25
      refine g_st (st' := [.int r27]) rfl ?_
      refine g_if_eq d_X10_put_31 (fun h31 => ?_) (fun h31 => ?_)
      · skip
        replace hF := fe_pos hF h31
        refine g_ldc (v := -1000000002) d_X10_put_57 tw_1199 ?_
        exact g_ireturn d_X10_put_59 rfl rfl rfl rfl ⟨rfl, trivial, (-1000000002 : Int32), rfl, hF, hK7⟩
      · skip
        replace hF := fe_neg hF h31
        refine g_iload d_X10_put_34 rfl ?_
        refine g_S1 d_X10_put_36 cs_X10_put_X10_isDegree lk_RX10_275 im_X10_isDegree (Nat.le_of_ble_eq_true rfl) ⟨rfl, rfl⟩ ⟨Nat.zero_le _, Nat.zero_le _⟩ (ct_X10_isDegree low I1 J2 ) (fun r36 S36 Ic30 Jc31 q36_28 => ?_)
        obtain ⟨rfl, rfl, rfl, r34, rfl, hz36, hf36_32, hr36_34⟩ := q36_28
        replace hF := fe_b3 hF hf36_32
        refine g_st (st' := [.int r34]) rfl ?_
        refine g_if_eq d_X10_put_39 (fun h39 => ?_) (fun h39 => ?_)
        · skip
          replace hF := fe_pos hF h39
          refine g_ldc (v := -1000000002) d_X10_put_57 tw_1199 ?_
          exact g_ireturn d_X10_put_59 rfl rfl rfl rfl ⟨rfl, trivial, (-1000000002 : Int32), rfl, hF, hK7⟩
        · skip
          replace hF := fe_neg hF h39
          refine g_iload d_X10_put_42 rfl ?_
          refine g_S1 d_X10_put_44 cs_X10_put_X10_isDegree lk_RX10_275 im_X10_isDegree (Nat.le_of_ble_eq_true rfl) ⟨rfl, rfl⟩ ⟨Nat.zero_le _, Nat.zero_le _⟩ (ct_X10_isDegree high I1 J2 ) (fun r44 S44 Ic37 Jc38 q44_35 => ?_)
          obtain ⟨rfl, rfl, rfl, r41, rfl, hz44, hf44_39, hr44_41⟩ := q44_35
          replace hF := fe_b3 hF hf44_39
          refine g_st (st' := [.int r41]) rfl ?_
          refine g_if_eq d_X10_put_47 (fun h47 => ?_) (fun h47 => ?_)
          · skip
            replace hF := fe_pos hF h47
            refine g_ldc (v := -1000000002) d_X10_put_57 tw_1199 ?_
            exact g_ireturn d_X10_put_59 rfl rfl rfl rfl ⟨rfl, trivial, (-1000000002 : Int32), rfl, hF, hK7⟩
          · skip
            replace hF := fe_neg hF h47
            refine g_iload d_X10_put_50 rfl ?_
            refine g_iload d_X10_put_52 rfl ?_
            refine g_icmp_ge d_X10_put_54 (fun h54 => ?_) (fun h54 => ?_)
            · skip
              replace hF := fe_pos hF h54
              refine g_iconst (v := 0) d_X10_put_60 kI_0 ?_
              refine g_istore (L' := [some (.ref 78), some (.int s), some (.int v_), some (.int c), some (.int low), some (.int high), some (.int (0 : Int32))]) d_X10_put_61 (by decide) rfl ?_
              obtain ⟨Kf0, hKf0, hF⟩ := fe_kx (f := fun K => fl_X10_put_63_0 I1 J2 K (mU (8 : Int32) ((0 : Int32)) + 1) (0 : Int32)) hF
              have K_63 : ∀ (nu : Nat) (x43 : Int32), mU (8 : Int32) x43 = nu → ((0 : Int32) ≤ x43) → (x43 ≤ 8) → (∃ kq : Nat, nu < kq ∧ (fun kq => FE (fn_X10_put s v_ c low high I J) (fun _ => fl_X10_put_63_0 I1 J2 Kf0 kq x43)) kq) → G m_X10_put (rq m_X10_put (fun r S' I' J' => S' = SHF ∧ True ∧ ∃ v : Int32, r = some (.int v) ∧ fn_X10_put s v_ c low high I J = (v, I', J') ∧ (MI (bgI I) I' ∧ MK (bgJ I J) J'))) 0 0 63 [some (.ref 78), some (.int s), some (.int v_), some (.int c), some (.int low), some (.int high), some (.int x43)] [] SHF I1 J2 := by
                intro nu
                induction nu using Nat.strongRecOn with
                | ind nu ih_63 =>
                  intro x43 hmu_63 hl44 h8_63 hF_Kf0
                  obtain ⟨kf0, hkf0, hF⟩ := fe_fu (P := fun kq => FE (fn_X10_put s v_ c low high I J) (fun _ => fl_X10_put_63_0 I1 J2 Kf0 kq x43)) hF_Kf0
                  replace hF := fe_eq hF (fl_X10_put_63_0.eq_2 _ _ _ _ _)
                  refine g_iload d_X10_put_63 rfl ?_
                  refine g_bipush (v := 8) d_X10_put_65 kB_8 ?_
                  obtain ⟨j91_1, hj91_1, hF⟩ := fe_jx hF
                  have J_91 : (FE (fn_X10_put s v_ c low high I J) (fun _ => j91_1)) → G m_X10_put (rq m_X10_put (fun r S' I' J' => S' = SHF ∧ True ∧ ∃ v : Int32, r = some (.int v) ∧ fn_X10_put s v_ c low high I J = (v, I', J') ∧ (MI (bgI I) I' ∧ MK (bgJ I J) J'))) 0 0 91 [some (.ref 78), some (.int s), some (.int v_), some (.int c), some (.int low), some (.int high), some (.int x43)] [] SHF I1 J2 := by
                    intro hF_j91_1
                    have hF := fe_eq hF_j91_1 hj91_1
                    replace hF := fe_eq hF (congrFun hKf0 x43)
                    refine g_iload d_X10_put_91 rfl ?_
                    refine g_bipush (v := 8) d_X10_put_93 kB_8 ?_
                    refine g_icmp_ne d_X10_put_95 (fun h95 => ?_) (fun h95 => ?_)
                    · skip
                      replace hF := fe_neg hF h95
                      have hlt : x43.toNatClampNeg < 8 := by have q := tn_lt (a := x43) (n := 8) (by grind) (by grind); rwa [kN_8] at q
                      have hsb := i2l_bd (a := s) (b := 2) (by grind)
                      have hcb := i2l_bd2 (a := c) (by grind)
                      refine g_aload_n d_X10_put_101 rfl ?_
                      refine g_getR d_X10_put_102 fq_RX10_7 rfl rfl ?_
                      refine g_bipush (v := 12) d_X10_put_105 kB_12 ?_
                      refine g_iload d_X10_put_107 rfl ?_
                      refine g_iadd d_X10_put_109 ?_
                      refine g_lconst d_X10_put_110 kL_1 ?_
                      refine g_lastore (N := 320) d_X10_put_111 rfl kT_320 (by constructor <;> grind) (by rw [tn_add (by constructor <;> grind) (by constructor <;> grind), kN_12])  ?_
                      refine g_nmJ (fun J45 eJ45 => ?_)
                      replace hF := fe_lt hF eJ45
                      refine g_aload_n d_X10_put_112 rfl ?_
                      refine g_getR d_X10_put_113 fq_RX10_7 rfl rfl ?_
                      refine g_iconst (v := 4) d_X10_put_116 kI_4 ?_
                      refine g_iload d_X10_put_117 rfl ?_
                      refine g_iadd d_X10_put_119 ?_
                      refine g_iload_n d_X10_put_120 rfl ?_
                      refine g_i2l d_X10_put_121 ?_
                      refine g_iload_n d_X10_put_122 rfl ?_
                      refine g_i2l d_X10_put_123 ?_
                      refine g_lmul d_X10_put_124 ?_
                      refine g_lastore (N := 320) d_X10_put_125 rfl kT_320 (by constructor <;> grind) (by rw [tn_add (by constructor <;> grind) (by constructor <;> grind), kN_4])  ?_
                      refine g_nmJ (fun J46 eJ46 => ?_)
                      replace hF := fe_lt hF eJ46
                      refine g_aload_n d_X10_put_126 rfl ?_
                      refine g_getR d_X10_put_127 fq_RX10_7 rfl rfl ?_
                      refine g_bipush (v := 20) d_X10_put_130 kB_20 ?_
                      refine g_iload d_X10_put_132 rfl ?_
                      refine g_iadd d_X10_put_134 ?_
                      refine g_iload_n d_X10_put_135 rfl ?_
                      refine g_i2l d_X10_put_136 ?_
                      refine g_lastore (N := 320) d_X10_put_137 rfl kT_320 (by constructor <;> grind) (by rw [tn_add (by constructor <;> grind) (by constructor <;> grind), kN_20])  ?_
                      refine g_nmJ (fun J47 eJ47 => ?_)
                      replace hF := fe_lt hF eJ47
                      refine g_aload_n d_X10_put_138 rfl ?_
                      refine g_getR d_X10_put_139 fq_RX10_7 rfl rfl ?_
                      refine g_bipush (v := 28) d_X10_put_142 kB_28 ?_
                      refine g_iload d_X10_put_144 rfl ?_
                      refine g_iadd d_X10_put_146 ?_
                      refine g_iload_n d_X10_put_147 rfl ?_
                      refine g_i2l d_X10_put_148 ?_
                      refine g_lastore (N := 320) d_X10_put_149 rfl kT_320 (by constructor <;> grind) (by rw [tn_add (by constructor <;> grind) (by constructor <;> grind), kN_28])  ?_
                      refine g_nmJ (fun J48 eJ48 => ?_)
                      replace hF := fe_lt hF eJ48
                      have hK49 : (MI (bgI I) I1 ∧ MK (bgJ I J) J48) := (by simp only [eJ45, eJ46, eJ47, eJ48]; exact ⟨(hK7).1, mj_put (hK7).2 hlt hsb hcb⟩)
                      refine g_aload_n d_X10_put_150 rfl ?_
                      refine g_getR d_X10_put_151 fq_RX10_7 rfl rfl ?_
                      refine g_bipush (v := 36) d_X10_put_154 kB_36 ?_
                      refine g_iload d_X10_put_156 rfl ?_
                      refine g_iadd d_X10_put_158 ?_
                      refine g_iload d_X10_put_159 rfl ?_
                      refine g_i2l d_X10_put_161 ?_
                      refine g_lastore (N := 320) d_X10_put_162 rfl kT_320 (by constructor <;> grind) (by rw [tn_add (by constructor <;> grind) (by constructor <;> grind), kN_36])  ?_
                      refine g_nmJ (fun J50 eJ50 => ?_)
                      replace hF := fe_lt hF eJ50
                      have hK51 : (MI (bgI I) I1 ∧ MK (bgJ I J) J50) := (by rw [eJ50]; exact ⟨(hK49).1, mj_free (hK49).2 (by unfold jfree; refine ⟨fun X hX => ?_, fun X hX => ?_⟩ <;> omega)⟩)
                      refine g_aload_n d_X10_put_163 rfl ?_
                      refine g_getR d_X10_put_164 fq_RX10_7 rfl rfl ?_
                      refine g_bipush (v := 44) d_X10_put_167 kB_44 ?_
                      refine g_iload d_X10_put_169 rfl ?_
                      refine g_iadd d_X10_put_171 ?_
                      refine g_iload d_X10_put_172 rfl ?_
                      refine g_i2l d_X10_put_174 ?_
                      refine g_lastore (N := 320) d_X10_put_175 rfl kT_320 (by constructor <;> grind) (by rw [tn_add (by constructor <;> grind) (by constructor <;> grind), kN_44])  ?_
                      refine g_nmJ (fun J52 eJ52 => ?_)
                      replace hF := fe_lt hF eJ52
                      have hK53 : (MI (bgI I) I1 ∧ MK (bgJ I J) J52) := (by rw [eJ52]; exact ⟨(hK51).1, mj_free (hK51).2 (by unfold jfree; refine ⟨fun X hX => ?_, fun X hX => ?_⟩ <;> omega)⟩)
                      refine g_aload_n d_X10_put_176 rfl ?_
                      refine g_getR d_X10_put_177 fq_RX10_7 rfl rfl ?_
                      refine g_bipush (v := 56) d_X10_put_180 kB_56 ?_
                      refine g_dup2 d_X10_put_182 rfl rfl ?_
                      refine g_laload (N := 320) d_X10_put_183 rfl kT_320 ⟨by decide, by decide⟩ kN_56 ?_
                      refine g_iload_n d_X10_put_184 rfl ?_
                      refine g_i2l d_X10_put_185 ?_
                      refine g_iload_n d_X10_put_186 rfl ?_
                      refine g_i2l d_X10_put_187 ?_
                      refine g_lmul d_X10_put_188 ?_
                      refine g_ladd d_X10_put_189 ?_
                      refine g_lastore (N := 320) d_X10_put_190 rfl kT_320 ⟨by decide, by decide⟩ kN_56  ?_
                      refine g_nmJ (fun J54 eJ54 => ?_)
                      replace hF := fe_lt hF eJ54
                      have hK55 : (MI (bgI I) I1 ∧ MK (bgJ I J) J54) := (by rw [eJ54]; exact ⟨(hK53).1, mj_free (hK53).2 (by unfold jfree; refine ⟨fun X hX => ?_, fun X hX => ?_⟩ <;> omega)⟩)
                      refine g_iload d_X10_put_191 rfl ?_
                      exact g_ireturn d_X10_put_193 rfl rfl rfl rfl ⟨rfl, trivial, x43, rfl, hF, hK55⟩
                    · skip
                      replace hF := fe_pos hF h95
                      refine g_ldc (v := -1000000004) d_X10_put_98 tw_1200 ?_
                      exact g_ireturn d_X10_put_100 rfl rfl rfl rfl ⟨rfl, trivial, (-1000000004 : Int32), rfl, hF, hK7⟩
                  refine g_icmp_ge d_X10_put_67 (fun h67 => ?_) (fun h67 => ?_)
                  · skip
                    replace hF := fe_pos hF h67
                    exact J_91 hF
                  · skip
                    replace hF := fe_neg hF h67
                    refine g_aload_n d_X10_put_70 rfl ?_
                    refine g_getR d_X10_put_71 fq_RX10_7 rfl rfl ?_
                    refine g_bipush (v := 12) d_X10_put_74 kB_12 ?_
                    refine g_iload d_X10_put_76 rfl ?_
                    refine g_iadd d_X10_put_78 ?_
                    refine g_laload (N := 320) d_X10_put_79 rfl kT_320 (by constructor <;> grind) (by rw [tn_add (by constructor <;> grind) (by constructor <;> grind), kN_12]) ?_
                    refine g_lconst d_X10_put_80 kL_1 ?_
                    refine g_lcmp_ne d_X10_put_81 d_X10_put_82 (fun h82 => ?_) (fun h82 => ?_)
                    · skip
                      replace hF := fe_neg hF h82
                      exact J_91 hF
                    · skip
                      replace hF := fe_pos hF h82
                      refine g_iinc (v := (x43 + (1 : Int32))) (L' := [some (.ref 78), some (.int s), some (.int v_), some (.int c), some (.int low), some (.int high), some (.int (x43 + (1 : Int32)))]) d_X10_put_85 rfl (by rw [kI_1]) (by decide) rfl ?_
                      refine g_goto d_X10_put_88 ?_
                      exact ih_63 _ (by rw [← hmu_63]; exact mu_up h67) (x43 + (1 : Int32)) rfl (lo_up hl44 h67) (by grind) ⟨kf0, Nat.lt_of_lt_of_le (by rw [← hmu_63]; exact mu_up h67) hkf0, hF⟩
              exact K_63 _ (0 : Int32) rfl (Int32.le_refl _) (by grind) ⟨_, Nat.lt_succ_self _, hF⟩
            · skip
              replace hF := fe_neg hF h54
              refine g_ldc (v := -1000000002) d_X10_put_57 tw_1199 ?_
              exact g_ireturn d_X10_put_59 rfl rfl rfl rfl ⟨rfl, trivial, (-1000000002 : Int32), rfl, hF, hK7⟩
  · skip
    replace hF := fe_pos hF h8
    refine g_ldcw (v := -1000000001) d_X10_put_11 tw_1296 ?_
    exact g_ireturn d_X10_put_14 rfl rfl rfl rfl ⟨rfl, trivial, (-1000000001 : Int32), rfl, hF, hK7⟩
noncomputable def fn_X10_take (f : Int32) (I : Iv) (J : Jv) : Int32 × Iv × Jv :=
  b_n2 (fn_X10_begin I J) (fun (I1 : Iv) (J2 : Jv) => b_n3 (fn_X10_isFood f I1 J2) (fun (r13 : Int32) (_ : Iv) (_ : Jv) => if r13 = 0 then ((-1000000001 : Int32), I1, J2) else b_n3 (fn_X10_warm (0 : Int32) ((4 : Int32) + f) I1 J2) (fun (r20 : Int64) (_ : Iv) (_ : Jv) => l_t ((Int64.toInt32 r20)) (fun (v22 : Int32) => l_t (wJ J2 79 59 ((J2 79 59) + (J2 79 (4 + f.toNatClampNeg)))) (fun (J23 : Jv) => l_t (wJ J23 79 (4 + f.toNatClampNeg) (0 : Int64)) (fun (J25 : Jv) => l_t (wJ J25 79 (12 + f.toNatClampNeg) (0 : Int64)) (fun (J27 : Jv) => (v22, I1, J27))))))))
set_option maxRecDepth 100000 in
set_option maxHeartbeats 4000000 in
theorem ct_X10_take (f : Int32) (I : Iv) (J : Jv) (hma : MA I) (hmj : MJ J) : Ct m_X10_take [.ref 78, .int f] SHF I J (fun r S' I' J' => S' = SHF ∧ True ∧ ∃ v : Int32, r = some (.int v) ∧ fn_X10_take f I J = (v, I', J') ∧ (MI (bgI I) I' ∧ MK (bgJ I J) J')) := by
  refine ct_of 1 (by decide +kernel) rfl rfl ?_
  have hK0 : (MI I I ∧ MK J J) := ⟨mi_rfl hma, mk_rfl hmj⟩
  have hF := fe_of (fn_X10_take.eq_1 f I J)
  refine g_aload_n d_X10_take_0 rfl ?_
  refine g_V0 d_X10_take_1 cs_X10_take_X10_begin lk_RX10_166 im_X10_begin se_X10_begin rfl rfl rfl (Nat.le_of_ble_eq_true rfl) ⟨rfl, rfl⟩ ⟨Nat.zero_le _, Nat.zero_le _⟩ (ct_X10_begin  I J hma hmj) (fun r1 S1 I1 J2 q1_2 => ?_)
  obtain ⟨rfl, hc1_3, rfl, hf1_4, hr1_5⟩ := q1_2
  replace hF := fe_b2 hF hf1_4
  refine g_st (st' := []) rfl ?_
  have hK7 : (MI (bgI I) I1 ∧ MK (bgJ I J) J2) := hr1_5
  refine g_aload_n d_X10_take_4 rfl ?_
  refine g_iload_n d_X10_take_5 rfl ?_
  refine g_V1 d_X10_take_6 cs_X10_take_X10_isFood lk_RX10_280 im_X10_isFood se_X10_isFood rfl rfl rfl (Nat.le_of_ble_eq_true rfl) ⟨rfl, rfl⟩ ⟨Nat.zero_le _, Nat.zero_le _⟩ (ct_X10_isFood f I1 J2 ) (fun r6 S6 Ic9 Jc10 q6_7 => ?_)
  obtain ⟨rfl, rfl, rfl, r13, rfl, hz6, hf6_11, hr6_13⟩ := q6_7
  replace hF := fe_b3 hF hf6_11
  refine g_st (st' := [.int r13]) rfl ?_
  refine g_if_ne d_X10_take_9 (fun h9 => ?_) (fun h9 => ?_)
  · skip
    replace hF := fe_neg hF h9
    have hlt : f.toNatClampNeg < 8 := by have q := tn_lt (a := f) (n := 8) (by grind) (by grind); rwa [kN_8] at q
    have hcp := cap0 (hK7).2 (f := f) (by grind) (by grind) (by grind)
    refine g_aload_n d_X10_take_16 rfl ?_
    refine g_iconst (v := 0) d_X10_take_17 kI_0 ?_
    refine g_iconst (v := 4) d_X10_take_18 kI_4 ?_
    refine g_iload_n d_X10_take_19 rfl ?_
    refine g_iadd d_X10_take_20 ?_
    refine g_V2 d_X10_take_21 cs_X10_take_X10_warm lk_RX10_200 im_X10_warm se_X10_warm rfl rfl rfl (Nat.le_of_ble_eq_true rfl) ⟨rfl, rfl⟩ ⟨Nat.zero_le _, Nat.zero_le _⟩ (ct_X10_warm (0 : Int32) ((4 : Int32) + f) I1 J2 (by decide) (by grind) (fun _ => hcp.1)) (fun r21 S21 Ic16 Jc17 q21_14 => ?_)
    obtain ⟨rfl, rfl, rfl, r20, rfl, hf21_18⟩ := q21_14
    replace hF := fe_b3 hF hf21_18
    refine g_st (st' := [.long r20]) rfl ?_
    refine g_l2i d_X10_take_24 ?_
    refine g_topI (fun v22 ev22 => ?_)
    replace hF := fe_lt hF ev22
    refine g_istore_n (L' := [some (.ref 78), some (.int f), some (.int v22)]) d_X10_take_25 (by decide) rfl ?_
    refine g_aload_n d_X10_take_26 rfl ?_
    refine g_getR d_X10_take_27 fq_RX10_7 rfl rfl ?_
    refine g_bipush (v := 59) d_X10_take_30 kB_59 ?_
    refine g_dup2 d_X10_take_32 rfl rfl ?_
    refine g_laload (N := 320) d_X10_take_33 rfl kT_320 ⟨by decide, by decide⟩ kN_59 ?_
    refine g_aload_n d_X10_take_34 rfl ?_
    refine g_getR d_X10_take_35 fq_RX10_7 rfl rfl ?_
    refine g_iconst (v := 4) d_X10_take_38 kI_4 ?_
    refine g_iload_n d_X10_take_39 rfl ?_
    refine g_iadd d_X10_take_40 ?_
    refine g_laload (N := 320) d_X10_take_41 rfl kT_320 (by constructor <;> grind) (by rw [tn_add (by constructor <;> grind) (by constructor <;> grind), kN_4]) ?_
    refine g_ladd d_X10_take_42 ?_
    refine g_lastore (N := 320) d_X10_take_43 rfl kT_320 ⟨by decide, by decide⟩ kN_59  ?_
    refine g_nmJ (fun J23 eJ23 => ?_)
    replace hF := fe_lt hF eJ23
    have hK24 : (MI (bgI I) I1 ∧ MK (bgJ I J) J23) := (by rw [eJ23]; exact ⟨(hK7).1, mj_free (hK7).2 (by unfold jfree; refine ⟨fun X hX => ?_, fun X hX => ?_⟩ <;> omega)⟩)
    refine g_aload_n d_X10_take_44 rfl ?_
    refine g_getR d_X10_take_45 fq_RX10_7 rfl rfl ?_
    refine g_iconst (v := 4) d_X10_take_48 kI_4 ?_
    refine g_iload_n d_X10_take_49 rfl ?_
    refine g_iadd d_X10_take_50 ?_
    refine g_lconst d_X10_take_51 kL_0 ?_
    refine g_lastore (N := 320) d_X10_take_52 rfl kT_320 (by constructor <;> grind) (by rw [tn_add (by constructor <;> grind) (by constructor <;> grind), kN_4])  ?_
    refine g_nmJ (fun J25 eJ25 => ?_)
    replace hF := fe_lt hF eJ25
    have hK26 : (MI (bgI I) I1 ∧ MK (bgJ I J) J25) := (by rw [eJ25]; exact ⟨(hK24).1, mj_free (hK24).2 (by unfold jfree; refine ⟨fun X hX => ?_, fun X hX => ?_⟩ <;> omega)⟩)
    refine g_aload_n d_X10_take_53 rfl ?_
    refine g_getR d_X10_take_54 fq_RX10_7 rfl rfl ?_
    refine g_bipush (v := 12) d_X10_take_57 kB_12 ?_
    refine g_iload_n d_X10_take_59 rfl ?_
    refine g_iadd d_X10_take_60 ?_
    refine g_lconst d_X10_take_61 kL_0 ?_
    refine g_lastore (N := 320) d_X10_take_62 rfl kT_320 (by constructor <;> grind) (by rw [tn_add (by constructor <;> grind) (by constructor <;> grind), kN_12])  ?_
    refine g_nmJ (fun J27 eJ27 => ?_)
    replace hF := fe_lt hF eJ27
    have hK28 : (MI (bgI I) I1 ∧ MK (bgJ I J) J27) := (by rw [eJ27]; exact ⟨(hK26).1, mj_12 (hK26).2 hlt⟩)
    refine g_iload_n d_X10_take_63 rfl ?_
    exact g_ireturn d_X10_take_64 rfl rfl rfl rfl ⟨rfl, trivial, v22, rfl, hF, hK28⟩
  · skip
    replace hF := fe_pos hF h9
    refine g_ldcw (v := -1000000001) d_X10_take_12 tw_1296 ?_
    exact g_ireturn d_X10_take_15 rfl rfl rfl rfl ⟨rfl, trivial, (-1000000001 : Int32), rfl, hF, hK7⟩
noncomputable def fn_X10_lay (f : Int32) (s : Int32) (I : Iv) (J : Jv) : Int32 × Iv × Jv :=
  b_n2 (fn_X10_begin I J) (fun (I1 : Iv) (J2 : Jv) => b_n3 (fn_X10_isFood f I1 J2) (fun (r13 : Int32) (_ : Iv) (_ : Jv) => if r13 = 0 then ((-1000000001 : Int32), I1, J2) else b_n3 (fn_X10_isShelf s I1 J2) (fun (r20 : Int32) (_ : Iv) (_ : Jv) => if r20 = 0 then ((-1000000001 : Int32), I1, J2) else l_t ((Int64.toInt32 (J2 79 (20 + f.toNatClampNeg)))) (fun (v22 : Int32) => l_t (wJ J2 79 (20 + f.toNatClampNeg) (Int32.toInt64 s)) (fun (J23 : Jv) => (v22, I1, J23))))))
set_option maxRecDepth 100000 in
set_option maxHeartbeats 4000000 in
theorem ct_X10_lay (f : Int32) (s : Int32) (I : Iv) (J : Jv) (hma : MA I) (hmj : MJ J) : Ct m_X10_lay [.ref 78, .int f, .int s] SHF I J (fun r S' I' J' => S' = SHF ∧ True ∧ ∃ v : Int32, r = some (.int v) ∧ fn_X10_lay f s I J = (v, I', J') ∧ (MI (bgI I) I' ∧ MK (bgJ I J) J')) := by
  refine ct_of 1 (by decide +kernel) rfl rfl ?_
  have hK0 : (MI I I ∧ MK J J) := ⟨mi_rfl hma, mk_rfl hmj⟩
  have hF := fe_of (fn_X10_lay.eq_1 f s I J)
  refine g_aload_n d_X10_lay_0 rfl ?_
  refine g_V0 d_X10_lay_1 cs_X10_lay_X10_begin lk_RX10_166 im_X10_begin se_X10_begin rfl rfl rfl (Nat.le_of_ble_eq_true rfl) ⟨rfl, rfl⟩ ⟨Nat.zero_le _, Nat.zero_le _⟩ (ct_X10_begin  I J hma hmj) (fun r1 S1 I1 J2 q1_2 => ?_)
  obtain ⟨rfl, hc1_3, rfl, hf1_4, hr1_5⟩ := q1_2
  replace hF := fe_b2 hF hf1_4
  refine g_st (st' := []) rfl ?_
  have hK7 : (MI (bgI I) I1 ∧ MK (bgJ I J) J2) := hr1_5
  refine g_aload_n d_X10_lay_4 rfl ?_
  refine g_iload_n d_X10_lay_5 rfl ?_
  refine g_V1 d_X10_lay_6 cs_X10_lay_X10_isFood lk_RX10_280 im_X10_isFood se_X10_isFood rfl rfl rfl (Nat.le_of_ble_eq_true rfl) ⟨rfl, rfl⟩ ⟨Nat.zero_le _, Nat.zero_le _⟩ (ct_X10_isFood f I1 J2 ) (fun r6 S6 Ic9 Jc10 q6_7 => ?_)
  obtain ⟨rfl, rfl, rfl, r13, rfl, hz6, hf6_11, hr6_13⟩ := q6_7
  replace hF := fe_b3 hF hf6_11
  refine g_st (st' := [.int r13]) rfl ?_
  refine g_if_eq d_X10_lay_9 (fun h9 => ?_) (fun h9 => ?_)
  · skip
    replace hF := fe_pos hF h9
    refine g_ldcw (v := -1000000001) d_X10_lay_19 tw_1296 ?_
    exact g_ireturn d_X10_lay_22 rfl rfl rfl rfl ⟨rfl, trivial, (-1000000001 : Int32), rfl, hF, hK7⟩
  · skip
    replace hF := fe_neg hF h9
    refine g_iload_n d_X10_lay_12 rfl ?_
    refine g_S1 d_X10_lay_13 cs_X10_lay_X10_isShelf lk_RX10_272 im_X10_isShelf (Nat.le_of_ble_eq_true rfl) ⟨rfl, rfl⟩ ⟨Nat.zero_le _, Nat.zero_le _⟩ (ct_X10_isShelf s I1 J2 ) (fun r13 S13 Ic16 Jc17 q13_14 => ?_)
    obtain ⟨rfl, rfl, rfl, r20, rfl, hz13, hf13_18, hr13_20⟩ := q13_14
    replace hF := fe_b3 hF hf13_18
    refine g_st (st' := [.int r20]) rfl ?_
    refine g_if_ne d_X10_lay_16 (fun h16 => ?_) (fun h16 => ?_)
    · skip
      replace hF := fe_neg hF h16
      have hlt : f.toNatClampNeg < 8 := by have q := tn_lt (a := f) (n := 8) (by grind) (by grind); rwa [kN_8] at q
      have hsb := i2l_bd (a := s) (b := 2) (by grind)
      refine g_aload_n d_X10_lay_23 rfl ?_
      refine g_getR d_X10_lay_24 fq_RX10_7 rfl rfl ?_
      refine g_bipush (v := 20) d_X10_lay_27 kB_20 ?_
      refine g_iload_n d_X10_lay_29 rfl ?_
      refine g_iadd d_X10_lay_30 ?_
      refine g_laload (N := 320) d_X10_lay_31 rfl kT_320 (by constructor <;> grind) (by rw [tn_add (by constructor <;> grind) (by constructor <;> grind), kN_20]) ?_
      refine g_l2i d_X10_lay_32 ?_
      refine g_topI (fun v22 ev22 => ?_)
      replace hF := fe_lt hF ev22
      refine g_istore_n (L' := [some (.ref 78), some (.int f), some (.int s), some (.int v22)]) d_X10_lay_33 (by decide) rfl ?_
      refine g_aload_n d_X10_lay_34 rfl ?_
      refine g_getR d_X10_lay_35 fq_RX10_7 rfl rfl ?_
      refine g_bipush (v := 20) d_X10_lay_38 kB_20 ?_
      refine g_iload_n d_X10_lay_40 rfl ?_
      refine g_iadd d_X10_lay_41 ?_
      refine g_iload_n d_X10_lay_42 rfl ?_
      refine g_i2l d_X10_lay_43 ?_
      refine g_lastore (N := 320) d_X10_lay_44 rfl kT_320 (by constructor <;> grind) (by rw [tn_add (by constructor <;> grind) (by constructor <;> grind), kN_20])  ?_
      refine g_nmJ (fun J23 eJ23 => ?_)
      replace hF := fe_lt hF eJ23
      have hK24 : (MI (bgI I) I1 ∧ MK (bgJ I J) J23) := (by rw [eJ23]; exact ⟨(hK7).1, mj_20 (hK7).2 hlt hsb⟩)
      refine g_iload_n d_X10_lay_45 rfl ?_
      exact g_ireturn d_X10_lay_46 rfl rfl rfl rfl ⟨rfl, trivial, v22, rfl, hF, hK24⟩
    · skip
      replace hF := fe_pos hF h16
      refine g_ldcw (v := -1000000001) d_X10_lay_19 tw_1296 ?_
      exact g_ireturn d_X10_lay_22 rfl rfl rfl rfl ⟨rfl, trivial, (-1000000001 : Int32), rfl, hF, hK7⟩
noncomputable def fn_X10_food (f : Int32) (what : Int32) (I : Iv) (J : Jv) : Int32 × Iv × Jv :=
  b_n2 (fn_X10_begin I J) (fun (I1 : Iv) (J2 : Jv) => b_n3 (fn_X10_isFood f I1 J2) (fun (r13 : Int32) (_ : Iv) (_ : Jv) => if r13 = 0 then ((-1000000001 : Int32), I1, J2) else if (what).toInt < 0 ∨ 5 < (what).toInt then ((-1000000002 : Int32), I1, J2) else l_t ((what).toInt - (0)).toNat (fun (sw0 : Nat) => if sw0 = 0 then ((Int64.toInt32 (J2 79 (20 + f.toNatClampNeg))), I1, J2) else if sw0 = 1 then b_n3 (fn_X10_warm (0 : Int32) ((4 : Int32) + f) I1 J2) (fun (r20 : Int64) (_ : Iv) (_ : Jv) => ((Int64.toInt32 r20), I1, J2)) else if sw0 = 2 then ((Int64.toInt32 (J2 79 (28 + f.toNatClampNeg))), I1, J2) else if sw0 = 3 then ((Int64.toInt32 (J2 79 (36 + f.toNatClampNeg))), I1, J2) else if sw0 = 4 then ((Int64.toInt32 (J2 79 (44 + f.toNatClampNeg))), I1, J2) else if sw0 = 5 then b_n3 (fn_X10_isWithin (0 : Int32) f I1 J2) (fun (r27 : Int32) (_ : Iv) (_ : Jv) => b_n3 (fn_X10_one r27 I1 J2) (fun (r34 : Int32) (_ : Iv) (_ : Jv) => (r34, I1, J2))) else (0, I1, J2))))
set_option maxRecDepth 100000 in
set_option maxHeartbeats 4000000 in
theorem ct_X10_food (f : Int32) (what : Int32) (I : Iv) (J : Jv) (hma : MA I) (hmj : MJ J) : Ct m_X10_food [.ref 78, .int f, .int what] SHF I J (fun r S' I' J' => S' = SHF ∧ True ∧ ∃ v : Int32, r = some (.int v) ∧ fn_X10_food f what I J = (v, I', J') ∧ (MI (bgI I) I' ∧ MK (bgJ I J) J')) := by
  refine ct_of 0 (by decide +kernel) rfl rfl ?_
  have hK0 : (MI I I ∧ MK J J) := ⟨mi_rfl hma, mk_rfl hmj⟩
  have hF := fe_of (fn_X10_food.eq_1 f what I J)
  refine g_aload_n d_X10_food_0 rfl ?_
  refine g_V0 d_X10_food_1 cs_X10_food_X10_begin lk_RX10_166 im_X10_begin se_X10_begin rfl rfl rfl (Nat.le_of_ble_eq_true rfl) ⟨rfl, rfl⟩ ⟨Nat.zero_le _, Nat.zero_le _⟩ (ct_X10_begin  I J hma hmj) (fun r1 S1 I1 J2 q1_2 => ?_)
  obtain ⟨rfl, hc1_3, rfl, hf1_4, hr1_5⟩ := q1_2
  replace hF := fe_b2 hF hf1_4
  refine g_st (st' := []) rfl ?_
  have hK7 : (MI (bgI I) I1 ∧ MK (bgJ I J) J2) := hr1_5
  refine g_aload_n d_X10_food_4 rfl ?_
  refine g_iload_n d_X10_food_5 rfl ?_
  refine g_V1 d_X10_food_6 cs_X10_food_X10_isFood lk_RX10_280 im_X10_isFood se_X10_isFood rfl rfl rfl (Nat.le_of_ble_eq_true rfl) ⟨rfl, rfl⟩ ⟨Nat.zero_le _, Nat.zero_le _⟩ (ct_X10_isFood f I1 J2 ) (fun r6 S6 Ic9 Jc10 q6_7 => ?_)
  obtain ⟨rfl, rfl, rfl, r13, rfl, hz6, hf6_11, hr6_13⟩ := q6_7
  replace hF := fe_b3 hF hf6_11
  refine g_st (st' := [.int r13]) rfl ?_
  refine g_if_ne d_X10_food_9 (fun h9 => ?_) (fun h9 => ?_)
  · skip
    replace hF := fe_neg hF h9
    have hcp := cap0 (hK7).2 (f := f) (by grind) (by grind) (by grind)
    refine g_iload_n d_X10_food_16 rfl ?_
    rcases sw_split what (0) (5) with h17 | h17
    · skip
      refine g_swOut d_X10_food_17 h17 ?_
      replace hF := fe_pos hF h17
      refine g_ldc (v := -1000000002) d_X10_food_120 tw_1199 ?_
      exact g_ireturn d_X10_food_122 rfl rfl rfl rfl ⟨rfl, trivial, (-1000000002 : Int32), rfl, hF, hK7⟩
    · skip
      replace hF := fe_neg hF (fun q => by rcases q with q | q; exact h17.1 q; exact h17.2 q)
      have hz : ∃ k : Nat, k < 6 ∧ (what).toInt = (0 : Int) + (k : Int) := by obtain ⟨k, h1, h2⟩ := sw_k h17; exact ⟨k, by omega, h2⟩
      obtain ⟨k, hk, hz⟩ := hz
      match k, hk, hz with
      | 0, _, hz =>
        refine g_swIn d_X10_food_17_0 (by rw [hz]; decide) (by rw [hz]; decide) (by rw [hz]; rfl) ?_
        replace hF := fe_lt (v := 0) hF (by rw [hz]; rfl)
        replace hF := fe_pos hF rfl
        refine g_aload_n d_X10_food_56 rfl ?_
        refine g_getR d_X10_food_57 fq_RX10_7 rfl rfl ?_
        refine g_bipush (v := 20) d_X10_food_60 kB_20 ?_
        refine g_iload_n d_X10_food_62 rfl ?_
        refine g_iadd d_X10_food_63 ?_
        refine g_laload (N := 320) d_X10_food_64 rfl kT_320 (by constructor <;> grind) (by rw [tn_add (by constructor <;> grind) (by constructor <;> grind), kN_20]) ?_
        refine g_l2i d_X10_food_65 ?_
        exact g_ireturn d_X10_food_66 rfl rfl rfl rfl ⟨rfl, trivial, (Int64.toInt32 (J2 79 (20 + f.toNatClampNeg))), rfl, hF, hK7⟩
      | 1, _, hz =>
        refine g_swIn d_X10_food_17_1 (by rw [hz]; decide) (by rw [hz]; decide) (by rw [hz]; rfl) ?_
        replace hF := fe_lt (v := 1) hF (by rw [hz]; rfl)
        replace hF := fe_neg hF (by decide)
        replace hF := fe_pos hF rfl
        refine g_aload_n d_X10_food_67 rfl ?_
        refine g_iconst (v := 0) d_X10_food_68 kI_0 ?_
        refine g_iconst (v := 4) d_X10_food_69 kI_4 ?_
        refine g_iload_n d_X10_food_70 rfl ?_
        refine g_iadd d_X10_food_71 ?_
        refine g_V2 d_X10_food_72 cs_X10_food_X10_warm lk_RX10_200 im_X10_warm se_X10_warm rfl rfl rfl (Nat.le_of_ble_eq_true rfl) ⟨rfl, rfl⟩ ⟨Nat.zero_le _, Nat.zero_le _⟩ (ct_X10_warm (0 : Int32) ((4 : Int32) + f) I1 J2 (by decide) (by grind) (fun _ => hcp.1)) (fun r72 S72 Ic16 Jc17 q72_14 => ?_)
        obtain ⟨rfl, rfl, rfl, r20, rfl, hf72_18⟩ := q72_14
        replace hF := fe_b3 hF hf72_18
        refine g_st (st' := [.long r20]) rfl ?_
        refine g_l2i d_X10_food_75 ?_
        exact g_ireturn d_X10_food_76 rfl rfl rfl rfl ⟨rfl, trivial, (Int64.toInt32 r20), rfl, hF, hK7⟩
      | 2, _, hz =>
        refine g_swIn d_X10_food_17_2 (by rw [hz]; decide) (by rw [hz]; decide) (by rw [hz]; rfl) ?_
        replace hF := fe_lt (v := 2) hF (by rw [hz]; rfl)
        replace hF := fe_neg hF (by decide)
        replace hF := fe_neg hF (by decide)
        replace hF := fe_pos hF rfl
        refine g_aload_n d_X10_food_77 rfl ?_
        refine g_getR d_X10_food_78 fq_RX10_7 rfl rfl ?_
        refine g_bipush (v := 28) d_X10_food_81 kB_28 ?_
        refine g_iload_n d_X10_food_83 rfl ?_
        refine g_iadd d_X10_food_84 ?_
        refine g_laload (N := 320) d_X10_food_85 rfl kT_320 (by constructor <;> grind) (by rw [tn_add (by constructor <;> grind) (by constructor <;> grind), kN_28]) ?_
        refine g_l2i d_X10_food_86 ?_
        exact g_ireturn d_X10_food_87 rfl rfl rfl rfl ⟨rfl, trivial, (Int64.toInt32 (J2 79 (28 + f.toNatClampNeg))), rfl, hF, hK7⟩
      | 3, _, hz =>
        refine g_swIn d_X10_food_17_3 (by rw [hz]; decide) (by rw [hz]; decide) (by rw [hz]; rfl) ?_
        replace hF := fe_lt (v := 3) hF (by rw [hz]; rfl)
        replace hF := fe_neg hF (by decide)
        replace hF := fe_neg hF (by decide)
        replace hF := fe_neg hF (by decide)
        replace hF := fe_pos hF rfl
        refine g_aload_n d_X10_food_88 rfl ?_
        refine g_getR d_X10_food_89 fq_RX10_7 rfl rfl ?_
        refine g_bipush (v := 36) d_X10_food_92 kB_36 ?_
        refine g_iload_n d_X10_food_94 rfl ?_
        refine g_iadd d_X10_food_95 ?_
        refine g_laload (N := 320) d_X10_food_96 rfl kT_320 (by constructor <;> grind) (by rw [tn_add (by constructor <;> grind) (by constructor <;> grind), kN_36]) ?_
        refine g_l2i d_X10_food_97 ?_
        exact g_ireturn d_X10_food_98 rfl rfl rfl rfl ⟨rfl, trivial, (Int64.toInt32 (J2 79 (36 + f.toNatClampNeg))), rfl, hF, hK7⟩
      | 4, _, hz =>
        refine g_swIn d_X10_food_17_4 (by rw [hz]; decide) (by rw [hz]; decide) (by rw [hz]; rfl) ?_
        replace hF := fe_lt (v := 4) hF (by rw [hz]; rfl)
        replace hF := fe_neg hF (by decide)
        replace hF := fe_neg hF (by decide)
        replace hF := fe_neg hF (by decide)
        replace hF := fe_neg hF (by decide)
        replace hF := fe_pos hF rfl
        refine g_aload_n d_X10_food_99 rfl ?_
        refine g_getR d_X10_food_100 fq_RX10_7 rfl rfl ?_
        refine g_bipush (v := 44) d_X10_food_103 kB_44 ?_
        refine g_iload_n d_X10_food_105 rfl ?_
        refine g_iadd d_X10_food_106 ?_
        refine g_laload (N := 320) d_X10_food_107 rfl kT_320 (by constructor <;> grind) (by rw [tn_add (by constructor <;> grind) (by constructor <;> grind), kN_44]) ?_
        refine g_l2i d_X10_food_108 ?_
        exact g_ireturn d_X10_food_109 rfl rfl rfl rfl ⟨rfl, trivial, (Int64.toInt32 (J2 79 (44 + f.toNatClampNeg))), rfl, hF, hK7⟩
      | 5, _, hz =>
        refine g_swIn d_X10_food_17_5 (by rw [hz]; decide) (by rw [hz]; decide) (by rw [hz]; rfl) ?_
        replace hF := fe_lt (v := 5) hF (by rw [hz]; rfl)
        replace hF := fe_neg hF (by decide)
        replace hF := fe_neg hF (by decide)
        replace hF := fe_neg hF (by decide)
        replace hF := fe_neg hF (by decide)
        replace hF := fe_neg hF (by decide)
        replace hF := fe_pos hF rfl
        refine g_aload_n d_X10_food_110 rfl ?_
        refine g_iconst (v := 0) d_X10_food_111 kI_0 ?_
        refine g_iload_n d_X10_food_112 rfl ?_
        refine g_V2 d_X10_food_113 cs_X10_food_X10_isWithin lk_RX10_283 im_X10_isWithin se_X10_isWithin rfl rfl rfl (Nat.le_of_ble_eq_true rfl) ⟨rfl, rfl⟩ ⟨Nat.zero_le _, Nat.zero_le _⟩ (ct_X10_isWithin (0 : Int32) f I1 J2 (by decide) (by grind) hcp.1) (fun r113 S113 Ic23 Jc24 q113_21 => ?_)
        obtain ⟨rfl, rfl, rfl, r27, rfl, hz113, hf113_25⟩ := q113_21
        replace hF := fe_b3 hF hf113_25
        refine g_st (st' := [.int r27]) rfl ?_
        refine g_S1 d_X10_food_116 cs_X10_food_X10_one lk_RX10_211 im_X10_one (Nat.le_of_ble_eq_true rfl) ⟨rfl, rfl⟩ ⟨Nat.zero_le _, Nat.zero_le _⟩ (ct_X10_one r27 I1 J2 ) (fun r116 S116 Ic30 Jc31 q116_28 => ?_)
        obtain ⟨rfl, rfl, rfl, r34, rfl, hf116_32, hr116_34⟩ := q116_28
        replace hF := fe_b3 hF hf116_32
        refine g_st (st' := [.int r34]) rfl ?_
        exact g_ireturn d_X10_food_119 rfl rfl rfl rfl ⟨rfl, trivial, r34, rfl, hF, hK7⟩
      | k + 6, hk, _ => exact absurd hk (by omega)
  · skip
    replace hF := fe_pos hF h9
    refine g_ldcw (v := -1000000001) d_X10_food_12 tw_1296 ?_
    exact g_ireturn d_X10_food_15 rfl rfl rfl rfl ⟨rfl, trivial, (-1000000001 : Int32), rfl, hF, hK7⟩
noncomputable def fn_X10_run (n : Int32) (I : Iv) (J : Jv) : Int32 × Iv × Jv :=
  b_n2 (fn_X10_begin I J) (fun (I1 : Iv) (J2 : Jv) => b_n3 (fn_X10_in (Int32.toInt64 n) (1 : Int64) (2880 : Int64) I1 J2) (fun (r13 : Int32) (_ : Iv) (_ : Jv) => if r13 = 0 then ((-1000000002 : Int32), I1, J2) else l_t ((J2 79 65)) (fun (v15 : Int64) => b_n2 (fn_X10_go (0 : Int32) n I1 J2) (fun (_ : Iv) (J16 : Jv) => ((Int64.toInt32 ((J16 79 65) - v15)), I1, J16)))))
set_option maxRecDepth 100000 in
set_option maxHeartbeats 4000000 in
theorem ct_X10_run (n : Int32) (I : Iv) (J : Jv) (hma : MA I) (hmj : MJ J) : Ct m_X10_run [.ref 78, .int n] SHF I J (fun r S' I' J' => S' = SHF ∧ True ∧ ∃ v : Int32, r = some (.int v) ∧ fn_X10_run n I J = (v, I', J') ∧ (MI (bgI I) I' ∧ ∃ k : Int64, 0 ≤ k ∧ k ≤ 2880 ∧ MK (wJ (bgJ I J) 79 54 ((bgJ I J) 79 54 + k)) J')) := by
  refine ct_of 2 (by decide +kernel) rfl rfl ?_
  have hK0 : (MI I I ∧ MK J J) := ⟨mi_rfl hma, mk_rfl hmj⟩
  have hF := fe_of (fn_X10_run.eq_1 n I J)
  refine g_aload_n d_X10_run_0 rfl ?_
  refine g_V0 d_X10_run_1 cs_X10_run_X10_begin lk_RX10_166 im_X10_begin se_X10_begin rfl rfl rfl (Nat.le_of_ble_eq_true rfl) ⟨rfl, rfl⟩ ⟨Nat.zero_le _, Nat.zero_le _⟩ (ct_X10_begin  I J hma hmj) (fun r1 S1 I1 J2 q1_2 => ?_)
  obtain ⟨rfl, hc1_3, rfl, hf1_4, hr1_5⟩ := q1_2
  replace hF := fe_b2 hF hf1_4
  refine g_st (st' := []) rfl ?_
  have hK7 : (MI (bgI I) I1 ∧ MK (bgJ I J) J2) := hr1_5
  refine g_iload_n d_X10_run_4 rfl ?_
  refine g_i2l d_X10_run_5 ?_
  refine g_lconst d_X10_run_6 kL_1 ?_
  refine g_ldc2 (v := 2880) d_X10_run_7 tw_1361 ?_
  refine g_S3 d_X10_run_10 cs_X10_run_X10_in lk_RX10_96 im_X10_in (Nat.le_of_ble_eq_true rfl) ⟨rfl, rfl⟩ ⟨Nat.zero_le _, Nat.zero_le _⟩ (ct_X10_inL n (1 : Int64) (2880 : Int64) (1 : Int32) (2880 : Int32) (by decide) (by decide) I1 J2) (fun r10 S10 Ic9 Jc10 q10_7 => ?_)
  obtain ⟨rfl, rfl, rfl, r13, rfl, hz10, hf10_11, hr10_13⟩ := q10_7
  replace hF := fe_b3 hF hf10_11
  refine g_st (st' := [.int r13]) rfl ?_
  refine g_if_ne d_X10_run_13 (fun h13 => ?_) (fun h13 => ?_)
  · skip
    replace hF := fe_neg hF h13
    refine g_aload_n d_X10_run_19 rfl ?_
    refine g_getR d_X10_run_20 fq_RX10_7 rfl rfl ?_
    refine g_bipush (v := 65) d_X10_run_23 kB_65 ?_
    refine g_laload (N := 320) d_X10_run_25 rfl kT_320 ⟨by decide, by decide⟩ kN_65 ?_
    refine g_topJ (fun v15 ev15 => ?_)
    replace hF := fe_lt hF ev15
    refine g_lstore_n (L' := [some (.ref 78), some (.int n), some (.long v15), none]) d_X10_run_26 (by decide) rfl ?_
    have ht0 := mk_t54 (hK7).2
    have hkb := i2l_bd (a := n) (b := 2880) (by grind)
    refine g_aload_n d_X10_run_27 rfl ?_
    refine g_iconst (v := 0) d_X10_run_28 kI_0 ?_
    refine g_iload_n d_X10_run_29 rfl ?_
    refine g_V2 d_X10_run_30 cs_X10_run_X10_go lk_RX10_289 im_X10_go se_X10_go rfl rfl rfl (Nat.le_of_ble_eq_true rfl) ⟨rfl, rfl⟩ ⟨Nat.zero_le _, Nat.zero_le _⟩ (ct_X10_go (0 : Int32) n I1 J2 (by decide) ((hK7).2.2 _ (by decide)).2.1 ((hK7).2.2 _ (by decide)).1 ((hK7).1.2.2.1) (by grind) ((hK7).1.2.2.2.1) ((hK7).1.2.2.2.2.1)) (fun r30 S30 Ic18 J16 q30_16 => ?_)
    obtain ⟨rfl, ⟨rfl, hc30_18⟩, rfl, hf30_19, hr30_20⟩ := q30_16
    replace hF := fe_b2 hF hf30_19
    refine g_st (st' := []) rfl ?_
    have hK22 : (MI (bgI I) I1 ∧ MK (wJ (bgJ I J) 79 54 (J2 79 54 + Int32.toInt64 n)) J16) := ⟨(hK7).1, tg_mk0 (hK7).2 hc30_18 hr30_20⟩
    refine g_aload_n d_X10_run_33 rfl ?_
    refine g_getR d_X10_run_34 fq_RX10_7 rfl rfl ?_
    refine g_bipush (v := 65) d_X10_run_37 kB_65 ?_
    refine g_laload (N := 320) d_X10_run_39 rfl kT_320 ⟨by decide, by decide⟩ kN_65 ?_
    refine g_lload_n d_X10_run_40 rfl ?_
    refine g_lsub d_X10_run_41 ?_
    refine g_l2i d_X10_run_42 ?_
    exact g_ireturn d_X10_run_43 rfl rfl rfl rfl ⟨rfl, trivial, (Int64.toInt32 ((J16 79 65) - v15)), rfl, hF, ⟨(hK22).1, Int32.toInt64 n, hkb.1, hkb.2, by rw [← ht0]; exact (hK22).2⟩⟩
  · skip
    replace hF := fe_pos hF h13
    refine g_ldc (v := -1000000002) d_X10_run_16 tw_1199 ?_
    exact g_ireturn d_X10_run_18 rfl rfl rfl rfl ⟨rfl, trivial, (-1000000002 : Int32), rfl, hF, ⟨(hK7).1, 0, by decide, by decide, mk_t0 (hK7).2⟩⟩
noncomputable def fn_X10_draw (n : Int32) (I : Iv) (J : Jv) : Int32 × Iv × Jv :=
  l_t (wJ J 79 70 ((((J 79 70) * (1103515245 : Int64)) + (12345 : Int64)) - (((J 79 70) * (1103515245 : Int64)) + (12345 : Int64)) / (2147483648 : Int64) * (2147483648 : Int64))) (fun (J1 : Jv) => ((Int64.toInt32 (((J1 79 70) / (65536 : Int64)) - ((J1 79 70) / (65536 : Int64)) / (Int32.toInt64 n) * (Int32.toInt64 n))), I, J1))
set_option maxRecDepth 100000 in
set_option maxHeartbeats 4000000 in
theorem ct_X10_draw (n : Int32) (I : Iv) (J : Jv) (hmj : MJ J) (hn : n = 288) : Ct m_X10_draw [.ref 78, .int n] SHF I J (fun r S' I' J' => S' = SHF ∧ (I = I' ∧ MK J J') ∧ ∃ v : Int32, r = some (.int v) ∧ fn_X10_draw n I J = (v, I', J') ∧ (0 ≤ v ∧ v < 288)) := by
  refine ct_of 0 (by decide +kernel) rfl rfl ?_
  have hK0 : MK J J := (mk_rfl hmj)
  have hF := fe_of (fn_X10_draw.eq_1 n I J)
  have hsd : 0 ≤ J 79 70 ∧ J 79 70 < 2147483648 := (hmj 0 (by decide)).2.2
  refine g_aload_n d_X10_draw_0 rfl ?_
  refine g_getR d_X10_draw_1 fq_RX10_7 rfl rfl ?_
  refine g_bipush (v := 70) d_X10_draw_4 kB_70 ?_
  refine g_aload_n d_X10_draw_6 rfl ?_
  refine g_getR d_X10_draw_7 fq_RX10_7 rfl rfl ?_
  refine g_bipush (v := 70) d_X10_draw_10 kB_70 ?_
  refine g_laload (N := 320) d_X10_draw_12 rfl kT_320 ⟨by decide, by decide⟩ kN_70 ?_
  refine g_ldc2 (v := 1103515245) d_X10_draw_13 tw_1417 ?_
  refine g_lmul d_X10_draw_16 ?_
  refine g_ldc2 (v := 12345) d_X10_draw_17 tw_1418 ?_
  refine g_ladd d_X10_draw_20 ?_
  refine g_ldc2 (v := 2147483648) d_X10_draw_21 tw_1419 ?_
  refine g_lrem d_X10_draw_24 (by decide) ?_
  refine g_lastore (N := 320) d_X10_draw_25 rfl kT_320 ⟨by decide, by decide⟩ kN_70  ?_
  refine g_nmJ (fun J1 eJ1 => ?_)
  replace hF := fe_lt hF eJ1
  have hK2 : MK J J1 := (by rw [eJ1]; exact mj_70 hK0 (seed_bd hsd))
  have hs2 : 0 ≤ J1 79 70 ∧ J1 79 70 < 2147483648 := by rw [eJ1, wJ_self]; exact seed_bd hsd
  refine g_aload_n d_X10_draw_26 rfl ?_
  refine g_getR d_X10_draw_27 fq_RX10_7 rfl rfl ?_
  refine g_bipush (v := 70) d_X10_draw_30 kB_70 ?_
  refine g_laload (N := 320) d_X10_draw_32 rfl kT_320 ⟨by decide, by decide⟩ kN_70 ?_
  refine g_ldc2 (v := 65536) d_X10_draw_33 tw_1420 ?_
  refine g_ldiv d_X10_draw_36 (by decide) ?_
  refine g_iload_n d_X10_draw_37 rfl ?_
  refine g_i2l d_X10_draw_38 ?_
  refine g_lrem d_X10_draw_39 (by subst hn; decide) ?_
  refine g_l2i d_X10_draw_40 ?_
  exact g_ireturn d_X10_draw_41 rfl rfl rfl rfl ⟨rfl, ⟨rfl, hK2⟩, (Int64.toInt32 (((J1 79 70) / (65536 : Int64)) - ((J1 79 70) / (65536 : Int64)) / (Int32.toInt64 n) * (Int32.toInt64 n))), rfl, hF, (by subst hn; exact l2i_288 (mod64 (div_bd hs2) (by decide)))⟩
noncomputable def fl_X10_drawDay_24_1 (m : Int32) (Kf1 : Int32 → Iv → Jv → Iv × Jv) : Nat → Int32 → Iv → Jv → Iv × Jv
  | 0, x5, I6, J7 => (I6, J7)
  | kf1 + 1, x5, I6, J7 => if m ≤ x5 then Kf1 x5 I6 J7 else b_n3 (fn_X10_draw (288 : Int32) I6 J7) (fun (r15 : Int32) (_ : Iv) (J10 : Jv) => l_t (wI I6 89 (r15.toNatClampNeg) (1 : Int32)) (fun (I18 : Iv) => fl_X10_drawDay_24_1 m Kf1 kf1 (x5 + (1 : Int32)) I18 J10))
noncomputable def fl_X10_drawDay_2_0 (J : Jv) (Kf0 : Int32 → Iv → Iv × Jv) : Nat → Int32 → Iv → Iv × Jv
  | 0, x1, I2 => (I2, J)
  | kf0 + 1, x1, I2 => if (288 : Int32) ≤ x1 then Kf0 x1 I2 else l_t (wI I2 89 (x1.toNatClampNeg) (0 : Int32)) (fun (I20 : Iv) => fl_X10_drawDay_2_0 J Kf0 kf0 (x1 + (1 : Int32)) I20)
noncomputable def fn_X10_drawDay (m : Int32) (I : Iv) (J : Jv) : Iv × Jv :=
  fl_X10_drawDay_2_0 J (fun (x1 : Int32) (I2 : Iv) => fl_X10_drawDay_24_1 m (fun (x5 : Int32) (I6 : Iv) (J7 : Jv) => (I6, J7)) (mU m ((0 : Int32)) + 1) (0 : Int32) I2 J) (mU (288 : Int32) ((0 : Int32)) + 1) (0 : Int32) I
set_option maxRecDepth 100000 in
set_option maxHeartbeats 4000000 in
theorem ct_X10_drawDay (m : Int32) (I : Iv) (J : Jv) (hma : MA I) (hmj : MJ J) : Ct m_X10_drawDay [.ref 78, .int m] SHF I J (fun r S' I' J' => S' = SHF ∧ (MI I I' ∧ MK J J') ∧ r = none ∧ fn_X10_drawDay m I J = (I', J')) := by
  refine ct_of 1 (by decide +kernel) rfl rfl ?_
  have hK0 : (MI I I ∧ MK J J) := ⟨mi_rfl hma, mk_rfl hmj⟩
  have hF := fe_of (fn_X10_drawDay.eq_1 m I J)
  refine g_iconst (v := 0) d_X10_drawDay_0 kI_0 ?_
  refine g_istore_n (L' := [some (.ref 78), some (.int m), some (.int (0 : Int32))]) d_X10_drawDay_1 (by decide) rfl ?_
  obtain ⟨Kf0, hKf0, hF⟩ := fe_kx (f := fun K => fl_X10_drawDay_2_0 J K (mU (288 : Int32) ((0 : Int32)) + 1) (0 : Int32) I) hF
  have K_2 : ∀ (nu : Nat) (x1 : Int32) (I2 : Iv), mU (288 : Int32) x1 = nu → ((MI I I2 ∧ MK J J)) → ((0 : Int32) ≤ x1) → (∃ kq : Nat, nu < kq ∧ (fun kq => FE (fn_X10_drawDay m I J) (fun _ => fl_X10_drawDay_2_0 J Kf0 kq x1 I2)) kq) → G m_X10_drawDay (rq m_X10_drawDay (fun r S' I' J' => S' = SHF ∧ (MI I I' ∧ MK J J') ∧ r = none ∧ fn_X10_drawDay m I J = (I', J'))) 0 0 2 [some (.ref 78), some (.int m), some (.int x1)] [] SHF I2 J := by
    intro nu
    induction nu using Nat.strongRecOn with
    | ind nu ih_2 =>
      intro x1 I2 hmu_2 hK3 hl4 hF_Kf0
      obtain ⟨kf0, hkf0, hF⟩ := fe_fu (P := fun kq => FE (fn_X10_drawDay m I J) (fun _ => fl_X10_drawDay_2_0 J Kf0 kq x1 I2)) hF_Kf0
      replace hF := fe_eq hF (fl_X10_drawDay_2_0.eq_2 _ _ _ _ _)
      refine g_iload_n d_X10_drawDay_2 rfl ?_
      refine g_sipush (v := 288) d_X10_drawDay_3 kS_288 ?_
      refine g_icmp_ge d_X10_drawDay_6 (fun h6 => ?_) (fun h6 => ?_)
      · skip
        replace hF := fe_pos hF h6
        replace hF := fe_eq hF (congrFun (congrFun hKf0 x1) I2)
        refine g_iconst (v := 0) d_X10_drawDay_22 kI_0 ?_
        refine g_istore_n (L' := [some (.ref 78), some (.int m), some (.int (0 : Int32))]) d_X10_drawDay_23 (by decide) rfl ?_
        obtain ⟨Kf1, hKf1, hF⟩ := fe_kx (f := fun K => fl_X10_drawDay_24_1 m K (mU m ((0 : Int32)) + 1) (0 : Int32) I2 J) hF
        have K_24 : ∀ (nu : Nat) (x5 : Int32) (I6 : Iv) (J7 : Jv), mU m x5 = nu → ((MI I I6 ∧ MK J J7)) → ((0 : Int32) ≤ x5) → (∃ kq : Nat, nu < kq ∧ (fun kq => FE (fn_X10_drawDay m I J) (fun _ => fl_X10_drawDay_24_1 m Kf1 kq x5 I6 J7)) kq) → G m_X10_drawDay (rq m_X10_drawDay (fun r S' I' J' => S' = SHF ∧ (MI I I' ∧ MK J J') ∧ r = none ∧ fn_X10_drawDay m I J = (I', J'))) 0 0 24 [some (.ref 78), some (.int m), some (.int x5)] [] SHF I6 J7 := by
          intro nu
          induction nu using Nat.strongRecOn with
          | ind nu ih_24 =>
            intro x5 I6 J7 hmu_24 hK8 hl9 hF_Kf1
            obtain ⟨kf1, hkf1, hF⟩ := fe_fu (P := fun kq => FE (fn_X10_drawDay m I J) (fun _ => fl_X10_drawDay_24_1 m Kf1 kq x5 I6 J7)) hF_Kf1
            replace hF := fe_eq hF (fl_X10_drawDay_24_1.eq_2 _ _ _ _ _ _)
            refine g_iload_n d_X10_drawDay_24 rfl ?_
            refine g_iload_n d_X10_drawDay_25 rfl ?_
            refine g_icmp_ge d_X10_drawDay_26 (fun h26 => ?_) (fun h26 => ?_)
            · skip
              replace hF := fe_pos hF h26
              replace hF := fe_eq hF (congrFun (congrFun (congrFun hKf1 x5) I6) J7)
              exact g_return d_X10_drawDay_48 rfl rfl rfl ⟨rfl, hK8, rfl, hF⟩
            · skip
              replace hF := fe_neg hF h26
              refine g_aload_n d_X10_drawDay_29 rfl ?_
              refine g_getR d_X10_drawDay_30 fq_RX10_46 rfl rfl ?_
              refine g_aload_n d_X10_drawDay_33 rfl ?_
              refine g_sipush (v := 288) d_X10_drawDay_34 kS_288 ?_
              refine g_V1 d_X10_drawDay_37 cs_X10_drawDay_X10_draw lk_RX10_301 im_X10_draw se_X10_draw rfl rfl rfl (Nat.le_of_ble_eq_true rfl) ⟨rfl, rfl⟩ ⟨Nat.zero_le _, Nat.zero_le _⟩ (ct_X10_draw (288 : Int32) I6 J7 (hK8).2.2 rfl) (fun r37 S37 Ic12 J10 q37_10 => ?_)
              obtain ⟨rfl, ⟨rfl, hc37_12⟩, r15, rfl, hf37_13, hr37_15⟩ := q37_10
              replace hF := fe_b3 hF hf37_13
              refine g_st (st' := [.int r15, .ref 89]) rfl ?_
              have hK17 : (MI I I6 ∧ MK J J10) := ⟨(hK8).1, mk_tr (hK8).2 hc37_12⟩
              refine g_iconst (v := 1) d_X10_drawDay_40 kI_1 ?_
              refine g_bastore (N := 288) d_X10_drawDay_41 rfl kT_288 (by constructor <;> grind) rfl (Or.inr rfl) ?_
              refine g_nmI (fun I18 eI18 => ?_)
              replace hF := fe_lt hF eI18
              have hK19 : (MI I I18 ∧ MK J J10) := (by rw [eI18]; exact ⟨mi_free (hK17).1 rfl, (hK17).2⟩)
              refine g_iinc (v := (x5 + (1 : Int32))) (L' := [some (.ref 78), some (.int m), some (.int (x5 + (1 : Int32)))]) d_X10_drawDay_42 rfl (by rw [kI_1]) (by decide) rfl ?_
              refine g_goto d_X10_drawDay_45 ?_
              exact ih_24 _ (by rw [← hmu_24]; exact mu_up h26) (x5 + (1 : Int32)) I18 J10 rfl hK19 (lo_up hl9 h26) ⟨kf1, Nat.lt_of_lt_of_le (by rw [← hmu_24]; exact mu_up h26) hkf1, hF⟩
        exact K_24 _ (0 : Int32) I2 J rfl hK3 (Int32.le_refl _) ⟨_, Nat.lt_succ_self _, hF⟩
      · skip
        replace hF := fe_neg hF h6
        refine g_aload_n d_X10_drawDay_9 rfl ?_
        refine g_getR d_X10_drawDay_10 fq_RX10_46 rfl rfl ?_
        refine g_iload_n d_X10_drawDay_13 rfl ?_
        refine g_iconst (v := 0) d_X10_drawDay_14 kI_0 ?_
        refine g_bastore (N := 288) d_X10_drawDay_15 rfl kT_288 ⟨hl4, Int32.not_le.mp h6⟩ rfl (Or.inl rfl) ?_
        refine g_nmI (fun I20 eI20 => ?_)
        replace hF := fe_lt hF eI20
        have hK21 : (MI I I20 ∧ MK J J) := (by rw [eI20]; exact ⟨mi_free (hK3).1 rfl, (hK3).2⟩)
        refine g_iinc (v := (x1 + (1 : Int32))) (L' := [some (.ref 78), some (.int m), some (.int (x1 + (1 : Int32)))]) d_X10_drawDay_16 rfl (by rw [kI_1]) (by decide) rfl ?_
        refine g_goto d_X10_drawDay_19 ?_
        exact ih_2 _ (by rw [← hmu_2]; exact mu_up h6) (x1 + (1 : Int32)) I20 rfl hK21 (lo_up hl4 h6) ⟨kf0, Nat.lt_of_lt_of_le (by rw [← hmu_2]; exact mu_up h6) hkf0, hF⟩
  exact K_2 _ (0 : Int32) I rfl hK0 (Int32.le_refl _) ⟨_, Nat.lt_succ_self _, hF⟩
noncomputable def fl_X10_drawn_42_0 (n : Int32) (m : Int32) (Kf0 : Int32 → Iv → Jv → Int32 × Iv × Jv) : Nat → Int32 → Iv → Jv → Int32 × Iv × Jv
  | 0, x23, I24, J25 => (0, I24, J25)
  | kf0 + 1, x23, I24, J25 => if ((288 : Int32) * n) ≤ x23 then Kf0 x23 I24 J25 else l_t ((Int64.toInt32 ((J25 79 54) - (J25 79 54) / (288 : Int64) * (288 : Int64)))) (fun (v28 : Int32) => j_n (fun (I29 : Iv) (J30 : Jv) => b_n2 (fn_X10_tick (0 : Int32) (I29 89 v28.toNatClampNeg) (I29 81 8) (0 : Int32) I29 J30) (fun (_ : Iv) (J32 : Jv) => fl_X10_drawn_42_0 n m Kf0 kf0 (x23 + (1 : Int32)) I29 J32)) (fun (j81_1 : Iv → Jv → Int32 × Iv × Jv) => j_n (b_n2 (fn_X10_drawDay m I24 J25) (fun (I39 : Iv) (J40 : Jv) => j81_1 I39 J40)) (fun (j76_2 : Int32 × Iv × Jv) => if x23 = 0 then j76_2 else if v28 = 0 then j76_2 else j81_1 I24 J25)))
noncomputable def fn_X10_drawn (n : Int32) (m : Int32) (I : Iv) (J : Jv) : Int32 × Iv × Jv :=
  b_n2 (fn_X10_begin I J) (fun (I1 : Iv) (J2 : Jv) => b_n3 (fn_X10_in (Int32.toInt64 n) (1 : Int64) (10 : Int64) I1 J2) (fun (r13 : Int32) (_ : Iv) (_ : Jv) => if r13 = 0 then ((-1000000002 : Int32), I1, J2) else b_n3 (fn_X10_in (Int32.toInt64 m) (0 : Int64) (20 : Int64) I1 J2) (fun (r20 : Int32) (_ : Iv) (_ : Jv) => if r20 = 0 then ((-1000000002 : Int32), I1, J2) else l_t ((J2 79 63)) (fun (v22 : Int64) => fl_X10_drawn_42_0 n m (fun (x23 : Int32) (I24 : Iv) (J25 : Jv) => ((Int64.toInt32 ((J25 79 63) - v22)), I24, J25)) (mU ((288 : Int32) * n) ((0 : Int32)) + 1) (0 : Int32) I1 J2))))
set_option maxRecDepth 100000 in
set_option maxHeartbeats 4000000 in
theorem ct_X10_drawn (n : Int32) (m : Int32) (I : Iv) (J : Jv) (hma : MA I) (hmj : MJ J) (htb : 0 ≤ (bgJ I J) 79 54 ∧ (bgJ I J) 79 54 ≤ 1000000000000) : Ct m_X10_drawn [.ref 78, .int n, .int m] SHF I J (fun r S' I' J' => S' = SHF ∧ True ∧ ∃ v : Int32, r = some (.int v) ∧ fn_X10_drawn n m I J = (v, I', J') ∧ (MI (bgI I) I' ∧ ∃ k : Int64, 0 ≤ k ∧ k ≤ 2880 ∧ MK (wJ (bgJ I J) 79 54 ((bgJ I J) 79 54 + k)) J')) := by
  refine ct_of 4 (by decide +kernel) rfl rfl ?_
  have hK0 : (MI I I ∧ MK J J) := ⟨mi_rfl hma, mk_rfl hmj⟩
  have hF := fe_of (fn_X10_drawn.eq_1 n m I J)
  refine g_aload_n d_X10_drawn_0 rfl ?_
  refine g_V0 d_X10_drawn_1 cs_X10_drawn_X10_begin lk_RX10_166 im_X10_begin se_X10_begin rfl rfl rfl (Nat.le_of_ble_eq_true rfl) ⟨rfl, rfl⟩ ⟨Nat.zero_le _, Nat.zero_le _⟩ (ct_X10_begin  I J hma hmj) (fun r1 S1 I1 J2 q1_2 => ?_)
  obtain ⟨rfl, hc1_3, rfl, hf1_4, hr1_5⟩ := q1_2
  replace hF := fe_b2 hF hf1_4
  refine g_st (st' := []) rfl ?_
  have hK7 : (MI (bgI I) I1 ∧ MK (wJ (bgJ I J) 79 54 (J2 79 54)) J2) := ⟨(hr1_5).1, mk_own54 (hr1_5).2⟩
  have ht00 := mk_t54 (hr1_5).2
  refine g_iload_n d_X10_drawn_4 rfl ?_
  refine g_i2l d_X10_drawn_5 ?_
  refine g_lconst d_X10_drawn_6 kL_1 ?_
  refine g_ldc2 (v := 10) d_X10_drawn_7 tw_1375 ?_
  refine g_S3 d_X10_drawn_10 cs_X10_drawn_X10_in lk_RX10_96 im_X10_in (Nat.le_of_ble_eq_true rfl) ⟨rfl, rfl⟩ ⟨Nat.zero_le _, Nat.zero_le _⟩ (ct_X10_inL n (1 : Int64) (10 : Int64) (1 : Int32) (10 : Int32) (by decide) (by decide) I1 J2) (fun r10 S10 Ic9 Jc10 q10_7 => ?_)
  obtain ⟨rfl, rfl, rfl, r13, rfl, hz10, hf10_11, hr10_13⟩ := q10_7
  replace hF := fe_b3 hF hf10_11
  refine g_st (st' := [.int r13]) rfl ?_
  refine g_if_eq d_X10_drawn_13 (fun h13 => ?_) (fun h13 => ?_)
  · skip
    replace hF := fe_pos hF h13
    refine g_ldc (v := -1000000002) d_X10_drawn_28 tw_1199 ?_
    exact g_ireturn d_X10_drawn_30 rfl rfl rfl rfl ⟨rfl, trivial, (-1000000002 : Int32), rfl, hF, ⟨(hK7).1, 0, by decide, by decide, by rw [Int64.add_zero, ← ht00]; exact (hK7).2⟩⟩
  · skip
    replace hF := fe_neg hF h13
    refine g_iload_n d_X10_drawn_16 rfl ?_
    refine g_i2l d_X10_drawn_17 ?_
    refine g_lconst d_X10_drawn_18 kL_0 ?_
    refine g_ldc2 (v := 20) d_X10_drawn_19 tw_1343 ?_
    refine g_S3 d_X10_drawn_22 cs_X10_drawn_X10_in lk_RX10_96 im_X10_in (Nat.le_of_ble_eq_true rfl) ⟨rfl, rfl⟩ ⟨Nat.zero_le _, Nat.zero_le _⟩ (ct_X10_inL m (0 : Int64) (20 : Int64) (0 : Int32) (20 : Int32) (by decide) (by decide) I1 J2) (fun r22 S22 Ic16 Jc17 q22_14 => ?_)
    obtain ⟨rfl, rfl, rfl, r20, rfl, hz22, hf22_18, hr22_20⟩ := q22_14
    replace hF := fe_b3 hF hf22_18
    refine g_st (st' := [.int r20]) rfl ?_
    refine g_if_ne d_X10_drawn_25 (fun h25 => ?_) (fun h25 => ?_)
    · skip
      replace hF := fe_neg hF h25
      refine g_aload_n d_X10_drawn_31 rfl ?_
      refine g_getR d_X10_drawn_32 fq_RX10_7 rfl rfl ?_
      refine g_bipush (v := 63) d_X10_drawn_35 kB_63 ?_
      refine g_laload (N := 320) d_X10_drawn_37 rfl kT_320 ⟨by decide, by decide⟩ kN_63 ?_
      refine g_topJ (fun v22 ev22 => ?_)
      replace hF := fe_lt hF ev22
      refine g_lstore_n (L' := [some (.ref 78), some (.int n), some (.int m), some (.long v22), none, none, none]) d_X10_drawn_38 (by decide) rfl ?_
      refine g_iconst (v := 0) d_X10_drawn_39 kI_0 ?_
      refine g_istore (L' := [some (.ref 78), some (.int n), some (.int m), some (.long v22), none, some (.int (0 : Int32)), none]) d_X10_drawn_40 (by decide) rfl ?_
      obtain ⟨Kf0, hKf0, hF⟩ := fe_kx (f := fun K => fl_X10_drawn_42_0 n m K (mU ((288 : Int32) * n) ((0 : Int32)) + 1) (0 : Int32) I1 J2) hF
      have K_42 : ∀ (nu : Nat) (x23 : Int32) (I24 : Iv) (J25 : Jv), mU ((288 : Int32) * n) x23 = nu → ((MI (bgI I) I24 ∧ MK (wJ (bgJ I J) 79 54 (J25 79 54)) J25)) → ((0 : Int32) ≤ x23) → (J25 79 54 = (bgJ I J) 79 54 + Int32.toInt64 x23) → (x23 ≤ 288 * n) → (∃ kq : Nat, nu < kq ∧ (fun kq => FE (fn_X10_drawn n m I J) (fun _ => fl_X10_drawn_42_0 n m Kf0 kq x23 I24 J25)) kq) → G m_X10_drawn (rq m_X10_drawn (fun r S' I' J' => S' = SHF ∧ True ∧ ∃ v : Int32, r = some (.int v) ∧ fn_X10_drawn n m I J = (v, I', J') ∧ (MI (bgI I) I' ∧ ∃ k : Int64, 0 ≤ k ∧ k ≤ 2880 ∧ MK (wJ (bgJ I J) 79 54 ((bgJ I J) 79 54 + k)) J'))) 0 0 42 [some (.ref 78), some (.int n), some (.int m), some (.long v22), none, some (.int x23), none] [] SHF I24 J25 := by
        intro nu
        induction nu using Nat.strongRecOn with
        | ind nu ih_42 =>
          intro x23 I24 J25 hmu_42 hK26 hl27 htk_42 hhi_42 hF_Kf0
          obtain ⟨kf0, hkf0, hF⟩ := fe_fu (P := fun kq => FE (fn_X10_drawn n m I J) (fun _ => fl_X10_drawn_42_0 n m Kf0 kq x23 I24 J25)) hF_Kf0
          replace hF := fe_eq hF (fl_X10_drawn_42_0.eq_2 _ _ _ _ _ _ _)
          refine g_iload d_X10_drawn_42 rfl ?_
          refine g_sipush (v := 288) d_X10_drawn_44 kS_288 ?_
          refine g_iload_n d_X10_drawn_47 rfl ?_
          refine g_imul d_X10_drawn_48 ?_
          refine g_icmp_ge d_X10_drawn_49 (fun h49 => ?_) (fun h49 => ?_)
          · skip
            replace hF := fe_pos hF h49
            replace hF := fe_eq hF (congrFun (congrFun (congrFun hKf0 x23) I24) J25)
            refine g_aload_n d_X10_drawn_107 rfl ?_
            refine g_getR d_X10_drawn_108 fq_RX10_7 rfl rfl ?_
            refine g_bipush (v := 63) d_X10_drawn_111 kB_63 ?_
            refine g_laload (N := 320) d_X10_drawn_113 rfl kT_320 ⟨by decide, by decide⟩ kN_63 ?_
            refine g_lload_n d_X10_drawn_114 rfl ?_
            refine g_lsub d_X10_drawn_115 ?_
            refine g_l2i d_X10_drawn_116 ?_
            exact g_ireturn d_X10_drawn_117 rfl rfl rfl rfl ⟨rfl, trivial, (Int64.toInt32 ((J25 79 63) - v22)), rfl, hF, ⟨(hK26).1, Int32.toInt64 (288 * n), (i2l_bd (b := 2880) (by grind)).1, (i2l_bd (b := 2880) (by grind)).2, by rw [show 288 * n = x23 by grind, ← htk_42]; exact (hK26).2⟩⟩
          · skip
            replace hF := fe_neg hF h49
            refine g_aload_n d_X10_drawn_52 rfl ?_
            refine g_getR d_X10_drawn_53 fq_RX10_7 rfl rfl ?_
            refine g_bipush (v := 54) d_X10_drawn_56 kB_54 ?_
            refine g_laload (N := 320) d_X10_drawn_58 rfl kT_320 ⟨by decide, by decide⟩ kN_54 ?_
            refine g_ldc2 (v := 288) d_X10_drawn_59 tw_1370 ?_
            refine g_lrem d_X10_drawn_62 (by decide) ?_
            refine g_l2i d_X10_drawn_63 ?_
            refine g_topI (fun v28 ev28 => ?_)
            replace hF := fe_lt hF ev28
            refine g_istore (L' := [some (.ref 78), some (.int n), some (.int m), some (.long v22), none, some (.int x23), some (.int v28)]) d_X10_drawn_64 (by decide) rfl ?_
            have hof := l2i_288 (mod64 (x := J25 79 54) (m := 288) (by rw [htk_42]; exact tk_nn htb hl27 h49 (by grind)) (by decide))
            rw [← ev28] at hof
            refine g_iload d_X10_drawn_66 rfl ?_
            obtain ⟨j81_1, hj81_1, hF⟩ := fe_jx hF
            have J_81 : ∀ (I29 : Iv), ∀ (J30 : Jv), ((MI (bgI I) I29 ∧ MK (wJ (bgJ I J) 79 54 (J30 79 54)) J30)) → (J30 79 54 = (bgJ I J) 79 54 + Int32.toInt64 x23) → (FE (fn_X10_drawn n m I J) (fun _ => j81_1 I29 J30)) → G m_X10_drawn (rq m_X10_drawn (fun r S' I' J' => S' = SHF ∧ True ∧ ∃ v : Int32, r = some (.int v) ∧ fn_X10_drawn n m I J = (v, I', J') ∧ (MI (bgI I) I' ∧ ∃ k : Int64, 0 ≤ k ∧ k ≤ 2880 ∧ MK (wJ (bgJ I J) 79 54 ((bgJ I J) 79 54 + k)) J'))) 0 0 81 [some (.ref 78), some (.int n), some (.int m), some (.long v22), none, some (.int x23), some (.int v28)] [] SHF I29 J30 := by
              intro I29 J30 hK31 htk_81 hF_j81_1
              have hF := fe_eq hF_j81_1 (congrFun (congrFun hj81_1 I29) J30)
              refine g_aload_n d_X10_drawn_81 rfl ?_
              refine g_iconst (v := 0) d_X10_drawn_82 kI_0 ?_
              refine g_aload_n d_X10_drawn_83 rfl ?_
              refine g_getR d_X10_drawn_84 fq_RX10_46 rfl rfl ?_
              refine g_iload d_X10_drawn_87 rfl ?_
              refine g_baload (N := 288) d_X10_drawn_89 rfl kT_288 hof rfl (fun hz89 => ?_)
              refine g_aload_n d_X10_drawn_90 rfl ?_
              refine g_getR d_X10_drawn_91 fq_RX10_17 rfl rfl ?_
              refine g_bipush (v := 8) d_X10_drawn_94 kB_8 ?_
              refine g_iaload (N := 15) d_X10_drawn_96 rfl kT_15 ⟨by decide, by decide⟩ kN_8 ?_
              refine g_iconst (v := 0) d_X10_drawn_97 kI_0 ?_
              refine g_V4 d_X10_drawn_98 cs_X10_drawn_X10_tick lk_RX10_251 im_X10_tick se_X10_tick rfl rfl rfl (Nat.le_of_ble_eq_true rfl) ⟨rfl, rfl⟩ ⟨Nat.zero_le _, Nat.zero_le _⟩ (ct_X10_tick (0 : Int32) (I29 89 v28.toNatClampNeg) (I29 81 8) (0 : Int32) I29 J30 (by decide) ((hK31).2.2 _ (by decide)).2.1 ((hK31).2.2 _ (by decide)).1 ((hK31).1.2.2.2.1) ((hK31).1.2.2.2.2.1)) (fun r98 S98 Ic34 J32 q98_32 => ?_)
              obtain ⟨rfl, ⟨rfl, hc98_34⟩, rfl, hf98_35, hr98_36⟩ := q98_32
              replace hF := fe_b2 hF hf98_35
              refine g_st (st' := []) rfl ?_
              have hK38 : (MI (bgI I) I29 ∧ MK (wJ (bgJ I J) 79 54 (J32 79 54)) J32) := ⟨(hK31).1, mk_tt (hK31).2 hc98_34 hr98_36⟩
              have htk98 : J32 79 54 = (bgJ I J) 79 54 + Int32.toInt64 x23 + 1 := by rw [tk0 hr98_36]; grind
              refine g_iinc (v := (x23 + (1 : Int32))) (L' := [some (.ref 78), some (.int n), some (.int m), some (.long v22), none, some (.int (x23 + (1 : Int32))), some (.int v28)]) d_X10_drawn_101 rfl (by rw [kI_1]) (by decide) rfl ?_
              refine g_goto d_X10_drawn_104 ?_
              refine g_sb [some (.ref 78), some (.int n), some (.int m), some (.long v22), none, some (.int (x23 + (1 : Int32))), none] (by simp [subL]) ?_
              exact ih_42 _ (by rw [← hmu_42]; exact mu_up h49) (x23 + (1 : Int32)) I29 J32 rfl hK38 (lo_up hl27 h49) (by rw [i2l_up h49]; grind) (by grind) ⟨kf0, Nat.lt_of_lt_of_le (by rw [← hmu_42]; exact mu_up h49) hkf0, hF⟩
            obtain ⟨j76_2, hj76_2, hF⟩ := fe_jx hF
            have J_76 : (J25 79 54 = (bgJ I J) 79 54 + Int32.toInt64 x23) → (FE (fn_X10_drawn n m I J) (fun _ => j76_2)) → G m_X10_drawn (rq m_X10_drawn (fun r S' I' J' => S' = SHF ∧ True ∧ ∃ v : Int32, r = some (.int v) ∧ fn_X10_drawn n m I J = (v, I', J') ∧ (MI (bgI I) I' ∧ ∃ k : Int64, 0 ≤ k ∧ k ≤ 2880 ∧ MK (wJ (bgJ I J) 79 54 ((bgJ I J) 79 54 + k)) J'))) 0 0 76 [some (.ref 78), some (.int n), some (.int m), some (.long v22), none, some (.int x23), some (.int v28)] [] SHF I24 J25 := by
              intro htk_76 hF_j76_2
              have hF := fe_eq hF_j76_2 hj76_2
              refine g_aload_n d_X10_drawn_76 rfl ?_
              refine g_iload_n d_X10_drawn_77 rfl ?_
              refine g_V1 d_X10_drawn_78 cs_X10_drawn_X10_drawDay lk_RX10_304 im_X10_drawDay se_X10_drawDay rfl rfl rfl (Nat.le_of_ble_eq_true rfl) ⟨rfl, rfl⟩ ⟨Nat.zero_le _, Nat.zero_le _⟩ (ct_X10_drawDay m I24 J25 (hK26).1.2 (hK26).2.2) (fun r78 S78 I39 J40 q78_40 => ?_)
              obtain ⟨rfl, hc78_41, rfl, hf78_42⟩ := q78_40
              replace hF := fe_b2 hF hf78_42
              refine g_st (st' := []) rfl ?_
              have hK45 : (MI (bgI I) I39 ∧ MK (wJ (bgJ I J) 79 54 (J40 79 54)) J40) := ⟨mi_tr (hK26).1 hc78_41.1, mk_dd (hK26).2 hc78_41.2⟩
              have htk78 : J40 79 54 = (bgJ I J) 79 54 + Int32.toInt64 x23 := by rw [mk_t54 (hc78_41).2]; assumption
              exact J_81 I39 J40 hK45 (by grind) hF
            refine g_if_eq d_X10_drawn_68 (fun h68 => ?_) (fun h68 => ?_)
            · skip
              replace hF := fe_pos hF h68
              exact J_76 (by grind) hF
            · skip
              replace hF := fe_neg hF h68
              refine g_iload d_X10_drawn_71 rfl ?_
              refine g_if_ne d_X10_drawn_73 (fun h73 => ?_) (fun h73 => ?_)
              · skip
                replace hF := fe_neg hF h73
                exact J_81 I24 J25 hK26 (by grind) hF
              · skip
                replace hF := fe_pos hF h73
                exact J_76 (by grind) hF
      exact K_42 _ (0 : Int32) I1 J2 rfl hK7 (Int32.le_refl _) (by rw [ht00]; simp) (by grind) ⟨_, Nat.lt_succ_self _, hF⟩
    · skip
      replace hF := fe_pos hF h25
      refine g_ldc (v := -1000000002) d_X10_drawn_28 tw_1199 ?_
      exact g_ireturn d_X10_drawn_30 rfl rfl rfl rfl ⟨rfl, trivial, (-1000000002 : Int32), rfl, hF, ⟨(hK7).1, 0, by decide, by decide, by rw [Int64.add_zero, ← ht00]; exact (hK7).2⟩⟩
noncomputable def fn_X10_warmth (s : Int32) (I : Iv) (J : Jv) : Int32 × Iv × Jv :=
  b_n2 (fn_X10_begin I J) (fun (I1 : Iv) (J2 : Jv) => b_n3 (fn_X10_in (Int32.toInt64 s) (0 : Int64) (3 : Int64) I1 J2) (fun (r13 : Int32) (_ : Iv) (_ : Jv) => if r13 = 0 then ((-1000000001 : Int32), I1, J2) else b_n3 (fn_X10_warm (0 : Int32) s I1 J2) (fun (r20 : Int64) (_ : Iv) (_ : Jv) => ((Int64.toInt32 r20), I1, J2))))
set_option maxRecDepth 100000 in
set_option maxHeartbeats 4000000 in
theorem ct_X10_warmth (s : Int32) (I : Iv) (J : Jv) (hma : MA I) (hmj : MJ J) : Ct m_X10_warmth [.ref 78, .int s] SHF I J (fun r S' I' J' => S' = SHF ∧ True ∧ ∃ v : Int32, r = some (.int v) ∧ fn_X10_warmth s I J = (v, I', J') ∧ (MI (bgI I) I' ∧ MK (bgJ I J) J')) := by
  refine ct_of 0 (by decide +kernel) rfl rfl ?_
  have hK0 : (MI I I ∧ MK J J) := ⟨mi_rfl hma, mk_rfl hmj⟩
  have hF := fe_of (fn_X10_warmth.eq_1 s I J)
  refine g_aload_n d_X10_warmth_0 rfl ?_
  refine g_V0 d_X10_warmth_1 cs_X10_warmth_X10_begin lk_RX10_166 im_X10_begin se_X10_begin rfl rfl rfl (Nat.le_of_ble_eq_true rfl) ⟨rfl, rfl⟩ ⟨Nat.zero_le _, Nat.zero_le _⟩ (ct_X10_begin  I J hma hmj) (fun r1 S1 I1 J2 q1_2 => ?_)
  obtain ⟨rfl, hc1_3, rfl, hf1_4, hr1_5⟩ := q1_2
  replace hF := fe_b2 hF hf1_4
  refine g_st (st' := []) rfl ?_
  have hK7 : (MI (bgI I) I1 ∧ MK (bgJ I J) J2) := hr1_5
  refine g_iload_n d_X10_warmth_4 rfl ?_
  refine g_i2l d_X10_warmth_5 ?_
  refine g_lconst d_X10_warmth_6 kL_0 ?_
  refine g_ldc2 (v := 3) d_X10_warmth_7 tw_1425 ?_
  refine g_S3 d_X10_warmth_10 cs_X10_warmth_X10_in lk_RX10_96 im_X10_in (Nat.le_of_ble_eq_true rfl) ⟨rfl, rfl⟩ ⟨Nat.zero_le _, Nat.zero_le _⟩ (ct_X10_inL s (0 : Int64) (3 : Int64) (0 : Int32) (3 : Int32) (by decide) (by decide) I1 J2) (fun r10 S10 Ic9 Jc10 q10_7 => ?_)
  obtain ⟨rfl, rfl, rfl, r13, rfl, hz10, hf10_11, hr10_13⟩ := q10_7
  replace hF := fe_b3 hF hf10_11
  refine g_st (st' := [.int r13]) rfl ?_
  refine g_if_eq d_X10_warmth_13 (fun h13 => ?_) (fun h13 => ?_)
  · skip
    replace hF := fe_pos hF h13
    refine g_ldcw (v := -1000000001) d_X10_warmth_26 tw_1296 ?_
    exact g_ireturn d_X10_warmth_29 rfl rfl rfl rfl ⟨rfl, trivial, (-1000000001 : Int32), rfl, hF, hK7⟩
  · skip
    replace hF := fe_neg hF h13
    refine g_aload_n d_X10_warmth_16 rfl ?_
    refine g_iconst (v := 0) d_X10_warmth_17 kI_0 ?_
    refine g_iload_n d_X10_warmth_18 rfl ?_
    refine g_V2 d_X10_warmth_19 cs_X10_warmth_X10_warm lk_RX10_200 im_X10_warm se_X10_warm rfl rfl rfl (Nat.le_of_ble_eq_true rfl) ⟨rfl, rfl⟩ ⟨Nat.zero_le _, Nat.zero_le _⟩ (ct_X10_warm (0 : Int32) s I1 J2 (by decide) (by grind) (by grind)) (fun r19 S19 Ic16 Jc17 q19_14 => ?_)
    obtain ⟨rfl, rfl, rfl, r20, rfl, hf19_18⟩ := q19_14
    replace hF := fe_b3 hF hf19_18
    refine g_st (st' := [.long r20]) rfl ?_
    refine g_l2i d_X10_warmth_22 ?_
    refine g_goto d_X10_warmth_23 ?_
    exact g_ireturn d_X10_warmth_29 rfl rfl rfl rfl ⟨rfl, trivial, (Int64.toInt32 r20), rfl, hF, hK7⟩
noncomputable def fl_X10_heat_41_0 (I1 : Iv) (J2 : Jv) (Kf0 : Int64 → Int32 → Int64 × Iv × Jv) : Nat → Int64 → Int32 → Int64 × Iv × Jv
  | 0, x15, x16 => (0, I1, J2)
  | kf0 + 1, x15, x16 => if (12 : Int32) ≤ x16 then Kf0 x15 x16 else l_t ((x15 + (J2 79 x16.toNatClampNeg))) (fun (v18 : Int64) => fl_X10_heat_41_0 I1 J2 Kf0 kf0 v18 (x16 + (1 : Int32)))
noncomputable def fn_X10_heat (what : Int32) (I : Iv) (J : Jv) : Int64 × Iv × Jv :=
  b_n2 (fn_X10_begin I J) (fun (I1 : Iv) (J2 : Jv) => b_n3 (fn_X10_in (Int32.toInt64 what) (0 : Int64) (5 : Int64) I1 J2) (fun (r13 : Int32) (_ : Iv) (_ : Jv) => if r13 = 0 then ((-1000000002 : Int64), I1, J2) else if what ≤ 0 then fl_X10_heat_41_0 I1 J2 (fun (x15 : Int64) (x16 : Int32) => (x15, I1, J2)) (mU (12 : Int32) ((0 : Int32)) + 1) (0 : Int64) (0 : Int32) else ((J2 79 ((((55 : Int32) + what) - (1 : Int32))).toNatClampNeg), I1, J2)))
set_option maxRecDepth 100000 in
set_option maxHeartbeats 4000000 in
theorem ct_X10_heat (what : Int32) (I : Iv) (J : Jv) (hma : MA I) (hmj : MJ J) : Ct m_X10_heat [.ref 78, .int what] SHF I J (fun r S' I' J' => S' = SHF ∧ True ∧ ∃ v : Int64, r = some (.long v) ∧ fn_X10_heat what I J = (v, I', J') ∧ (MI (bgI I) I' ∧ MK (bgJ I J) J')) := by
  refine ct_of 3 (by decide +kernel) rfl rfl ?_
  have hK0 : (MI I I ∧ MK J J) := ⟨mi_rfl hma, mk_rfl hmj⟩
  have hF := fe_of (fn_X10_heat.eq_1 what I J)
  refine g_aload_n d_X10_heat_0 rfl ?_
  refine g_V0 d_X10_heat_1 cs_X10_heat_X10_begin lk_RX10_166 im_X10_begin se_X10_begin rfl rfl rfl (Nat.le_of_ble_eq_true rfl) ⟨rfl, rfl⟩ ⟨Nat.zero_le _, Nat.zero_le _⟩ (ct_X10_begin  I J hma hmj) (fun r1 S1 I1 J2 q1_2 => ?_)
  obtain ⟨rfl, hc1_3, rfl, hf1_4, hr1_5⟩ := q1_2
  replace hF := fe_b2 hF hf1_4
  refine g_st (st' := []) rfl ?_
  have hK7 : (MI (bgI I) I1 ∧ MK (bgJ I J) J2) := hr1_5
  refine g_iload_n d_X10_heat_4 rfl ?_
  refine g_i2l d_X10_heat_5 ?_
  refine g_lconst d_X10_heat_6 kL_0 ?_
  refine g_ldc2 (v := 5) d_X10_heat_7 tw_1399 ?_
  refine g_S3 d_X10_heat_10 cs_X10_heat_X10_in lk_RX10_96 im_X10_in (Nat.le_of_ble_eq_true rfl) ⟨rfl, rfl⟩ ⟨Nat.zero_le _, Nat.zero_le _⟩ (ct_X10_inL what (0 : Int64) (5 : Int64) (0 : Int32) (5 : Int32) (by decide) (by decide) I1 J2) (fun r10 S10 Ic9 Jc10 q10_7 => ?_)
  obtain ⟨rfl, rfl, rfl, r13, rfl, hz10, hf10_11, hr10_13⟩ := q10_7
  replace hF := fe_b3 hF hf10_11
  refine g_st (st' := [.int r13]) rfl ?_
  refine g_if_ne d_X10_heat_13 (fun h13 => ?_) (fun h13 => ?_)
  · skip
    replace hF := fe_neg hF h13
    refine g_iload_n d_X10_heat_20 rfl ?_
    refine g_if_le d_X10_heat_21 (fun h21 => ?_) (fun h21 => ?_)
    · skip
      replace hF := fe_pos hF h21
      refine g_lconst d_X10_heat_36 kL_0 ?_
      refine g_lstore_n (L' := [some (.ref 78), some (.int what), some (.long (0 : Int64)), none, none]) d_X10_heat_37 (by decide) rfl ?_
      refine g_iconst (v := 0) d_X10_heat_38 kI_0 ?_
      refine g_istore (L' := [some (.ref 78), some (.int what), some (.long (0 : Int64)), none, some (.int (0 : Int32))]) d_X10_heat_39 (by decide) rfl ?_
      obtain ⟨Kf0, hKf0, hF⟩ := fe_kx (f := fun K => fl_X10_heat_41_0 I1 J2 K (mU (12 : Int32) ((0 : Int32)) + 1) (0 : Int64) (0 : Int32)) hF
      have K_41 : ∀ (nu : Nat) (x15 : Int64) (x16 : Int32), mU (12 : Int32) x16 = nu → ((0 : Int32) ≤ x16) → (∃ kq : Nat, nu < kq ∧ (fun kq => FE (fn_X10_heat what I J) (fun _ => fl_X10_heat_41_0 I1 J2 Kf0 kq x15 x16)) kq) → G m_X10_heat (rq m_X10_heat (fun r S' I' J' => S' = SHF ∧ True ∧ ∃ v : Int64, r = some (.long v) ∧ fn_X10_heat what I J = (v, I', J') ∧ (MI (bgI I) I' ∧ MK (bgJ I J) J'))) 0 0 41 [some (.ref 78), some (.int what), some (.long x15), none, some (.int x16)] [] SHF I1 J2 := by
        intro nu
        induction nu using Nat.strongRecOn with
        | ind nu ih_41 =>
          intro x15 x16 hmu_41 hl17 hF_Kf0
          obtain ⟨kf0, hkf0, hF⟩ := fe_fu (P := fun kq => FE (fn_X10_heat what I J) (fun _ => fl_X10_heat_41_0 I1 J2 Kf0 kq x15 x16)) hF_Kf0
          replace hF := fe_eq hF (fl_X10_heat_41_0.eq_2 _ _ _ _ _ _)
          refine g_iload d_X10_heat_41 rfl ?_
          refine g_bipush (v := 12) d_X10_heat_43 kB_12 ?_
          refine g_icmp_ge d_X10_heat_45 (fun h45 => ?_) (fun h45 => ?_)
          · skip
            replace hF := fe_pos hF h45
            replace hF := fe_eq hF (congrFun (congrFun hKf0 x15) x16)
            refine g_lload_n d_X10_heat_64 rfl ?_
            exact g_lreturn d_X10_heat_65 rfl rfl rfl ⟨rfl, trivial, x15, rfl, hF, hK7⟩
          · skip
            replace hF := fe_neg hF h45
            refine g_lload_n d_X10_heat_48 rfl ?_
            refine g_aload_n d_X10_heat_49 rfl ?_
            refine g_getR d_X10_heat_50 fq_RX10_7 rfl rfl ?_
            refine g_iload d_X10_heat_53 rfl ?_
            refine g_laload (N := 320) d_X10_heat_55 rfl kT_320 (by constructor <;> grind) rfl ?_
            refine g_ladd d_X10_heat_56 ?_
            refine g_topJ (fun v18 ev18 => ?_)
            replace hF := fe_lt hF ev18
            refine g_lstore_n (L' := [some (.ref 78), some (.int what), some (.long v18), none, some (.int x16)]) d_X10_heat_57 (by decide) rfl ?_
            refine g_iinc (v := (x16 + (1 : Int32))) (L' := [some (.ref 78), some (.int what), some (.long v18), none, some (.int (x16 + (1 : Int32)))]) d_X10_heat_58 rfl (by rw [kI_1]) (by decide) rfl ?_
            refine g_goto d_X10_heat_61 ?_
            exact ih_41 _ (by rw [← hmu_41]; exact mu_up h45) v18 (x16 + (1 : Int32)) rfl (lo_up hl17 h45) ⟨kf0, Nat.lt_of_lt_of_le (by rw [← hmu_41]; exact mu_up h45) hkf0, hF⟩
      exact K_41 _ (0 : Int64) (0 : Int32) rfl (Int32.le_refl _) ⟨_, Nat.lt_succ_self _, hF⟩
    · skip
      replace hF := fe_neg hF h21
      refine g_aload_n d_X10_heat_24 rfl ?_
      refine g_getR d_X10_heat_25 fq_RX10_7 rfl rfl ?_
      refine g_bipush (v := 55) d_X10_heat_28 kB_55 ?_
      refine g_iload_n d_X10_heat_30 rfl ?_
      refine g_iadd d_X10_heat_31 ?_
      refine g_iconst (v := 1) d_X10_heat_32 kI_1 ?_
      refine g_isub d_X10_heat_33 ?_
      refine g_laload (N := 320) d_X10_heat_34 rfl kT_320 (by constructor <;> grind) rfl ?_
      exact g_lreturn d_X10_heat_35 rfl rfl rfl ⟨rfl, trivial, (J2 79 ((((55 : Int32) + what) - (1 : Int32))).toNatClampNeg), rfl, hF, hK7⟩
  · skip
    replace hF := fe_pos hF h13
    refine g_ldc2 (v := -1000000002) d_X10_heat_16 tw_1430 ?_
    exact g_lreturn d_X10_heat_19 rfl rfl rfl ⟨rfl, trivial, (-1000000002 : Int64), rfl, hF, hK7⟩
noncomputable def fn_X10_count (what : Int32) (I : Iv) (J : Jv) : Int32 × Iv × Jv :=
  b_n2 (fn_X10_begin I J) (fun (I1 : Iv) (J2 : Jv) => if (what).toInt < 0 ∨ 11 < (what).toInt then ((-1000000002 : Int32), I1, J2) else l_t ((what).toInt - (0)).toNat (fun (sw0 : Nat) => if sw0 = 0 then ((Int64.toInt32 (J2 79 54)), I1, J2) else if sw0 = 1 then ((Int64.toInt32 (J2 79 63)), I1, J2) else if sw0 = 2 then ((Int64.toInt32 (J2 79 64)), I1, J2) else if sw0 = 3 then ((Int64.toInt32 (J2 79 65)), I1, J2) else if sw0 = 4 then ((Int64.toInt32 (J2 79 60)), I1, J2) else if sw0 = 5 then ((Int64.toInt32 (J2 79 53)), I1, J2) else if sw0 = 6 then ((Int64.toInt32 (J2 79 61)), I1, J2) else if sw0 = 7 then ((Int64.toInt32 (J2 79 62)), I1, J2) else if sw0 = 8 then ((Int64.toInt32 (J2 79 67)), I1, J2) else if sw0 = 9 then ((Int64.toInt32 (J2 79 66)), I1, J2) else if sw0 = 10 then b_n3 (fn_X10_foods I1 J2) (fun (r13 : Int32) (_ : Iv) (_ : Jv) => (r13, I1, J2)) else if sw0 = 11 then ((I1 78 11), I1, J2) else (0, I1, J2)))
set_option maxRecDepth 100000 in
set_option maxHeartbeats 4000000 in
theorem ct_X10_count (what : Int32) (I : Iv) (J : Jv) (hma : MA I) (hmj : MJ J) : Ct m_X10_count [.ref 78, .int what] SHF I J (fun r S' I' J' => S' = SHF ∧ True ∧ ∃ v : Int32, r = some (.int v) ∧ fn_X10_count what I J = (v, I', J') ∧ (MI (bgI I) I' ∧ MK (bgJ I J) J')) := by
  refine ct_of 0 (by decide +kernel) rfl rfl ?_
  have hK0 : (MI I I ∧ MK J J) := ⟨mi_rfl hma, mk_rfl hmj⟩
  have hF := fe_of (fn_X10_count.eq_1 what I J)
  refine g_aload_n d_X10_count_0 rfl ?_
  refine g_V0 d_X10_count_1 cs_X10_count_X10_begin lk_RX10_166 im_X10_begin se_X10_begin rfl rfl rfl (Nat.le_of_ble_eq_true rfl) ⟨rfl, rfl⟩ ⟨Nat.zero_le _, Nat.zero_le _⟩ (ct_X10_begin  I J hma hmj) (fun r1 S1 I1 J2 q1_2 => ?_)
  obtain ⟨rfl, hc1_3, rfl, hf1_4, hr1_5⟩ := q1_2
  replace hF := fe_b2 hF hf1_4
  refine g_st (st' := []) rfl ?_
  have hK7 : (MI (bgI I) I1 ∧ MK (bgJ I J) J2) := hr1_5
  refine g_iload_n d_X10_count_4 rfl ?_
  rcases sw_split what (0) (11) with h5 | h5
  · skip
    refine g_swOut d_X10_count_5 h5 ?_
    replace hF := fe_pos hF h5
    refine g_ldc (v := -1000000002) d_X10_count_168 tw_1199 ?_
    exact g_ireturn d_X10_count_170 rfl rfl rfl rfl ⟨rfl, trivial, (-1000000002 : Int32), rfl, hF, hK7⟩
  · skip
    replace hF := fe_neg hF (fun q => by rcases q with q | q; exact h5.1 q; exact h5.2 q)
    have hz : ∃ k : Nat, k < 12 ∧ (what).toInt = (0 : Int) + (k : Int) := by obtain ⟨k, h1, h2⟩ := sw_k h5; exact ⟨k, by omega, h2⟩
    obtain ⟨k, hk, hz⟩ := hz
    match k, hk, hz with
    | 0, _, hz =>
      refine g_swIn d_X10_count_5_0 (by rw [hz]; decide) (by rw [hz]; decide) (by rw [hz]; rfl) ?_
      replace hF := fe_lt (v := 0) hF (by rw [hz]; rfl)
      replace hF := fe_pos hF rfl
      refine g_aload_n d_X10_count_68 rfl ?_
      refine g_getR d_X10_count_69 fq_RX10_7 rfl rfl ?_
      refine g_bipush (v := 54) d_X10_count_72 kB_54 ?_
      refine g_laload (N := 320) d_X10_count_74 rfl kT_320 ⟨by decide, by decide⟩ kN_54 ?_
      refine g_l2i d_X10_count_75 ?_
      exact g_ireturn d_X10_count_76 rfl rfl rfl rfl ⟨rfl, trivial, (Int64.toInt32 (J2 79 54)), rfl, hF, hK7⟩
    | 1, _, hz =>
      refine g_swIn d_X10_count_5_1 (by rw [hz]; decide) (by rw [hz]; decide) (by rw [hz]; rfl) ?_
      replace hF := fe_lt (v := 1) hF (by rw [hz]; rfl)
      replace hF := fe_neg hF (by decide)
      replace hF := fe_pos hF rfl
      refine g_aload_n d_X10_count_77 rfl ?_
      refine g_getR d_X10_count_78 fq_RX10_7 rfl rfl ?_
      refine g_bipush (v := 63) d_X10_count_81 kB_63 ?_
      refine g_laload (N := 320) d_X10_count_83 rfl kT_320 ⟨by decide, by decide⟩ kN_63 ?_
      refine g_l2i d_X10_count_84 ?_
      exact g_ireturn d_X10_count_85 rfl rfl rfl rfl ⟨rfl, trivial, (Int64.toInt32 (J2 79 63)), rfl, hF, hK7⟩
    | 2, _, hz =>
      refine g_swIn d_X10_count_5_2 (by rw [hz]; decide) (by rw [hz]; decide) (by rw [hz]; rfl) ?_
      replace hF := fe_lt (v := 2) hF (by rw [hz]; rfl)
      replace hF := fe_neg hF (by decide)
      replace hF := fe_neg hF (by decide)
      replace hF := fe_pos hF rfl
      refine g_aload_n d_X10_count_86 rfl ?_
      refine g_getR d_X10_count_87 fq_RX10_7 rfl rfl ?_
      refine g_bipush (v := 64) d_X10_count_90 kB_64 ?_
      refine g_laload (N := 320) d_X10_count_92 rfl kT_320 ⟨by decide, by decide⟩ kN_64 ?_
      refine g_l2i d_X10_count_93 ?_
      exact g_ireturn d_X10_count_94 rfl rfl rfl rfl ⟨rfl, trivial, (Int64.toInt32 (J2 79 64)), rfl, hF, hK7⟩
    | 3, _, hz =>
      refine g_swIn d_X10_count_5_3 (by rw [hz]; decide) (by rw [hz]; decide) (by rw [hz]; rfl) ?_
      replace hF := fe_lt (v := 3) hF (by rw [hz]; rfl)
      replace hF := fe_neg hF (by decide)
      replace hF := fe_neg hF (by decide)
      replace hF := fe_neg hF (by decide)
      replace hF := fe_pos hF rfl
      refine g_aload_n d_X10_count_95 rfl ?_
      refine g_getR d_X10_count_96 fq_RX10_7 rfl rfl ?_
      refine g_bipush (v := 65) d_X10_count_99 kB_65 ?_
      refine g_laload (N := 320) d_X10_count_101 rfl kT_320 ⟨by decide, by decide⟩ kN_65 ?_
      refine g_l2i d_X10_count_102 ?_
      exact g_ireturn d_X10_count_103 rfl rfl rfl rfl ⟨rfl, trivial, (Int64.toInt32 (J2 79 65)), rfl, hF, hK7⟩
    | 4, _, hz =>
      refine g_swIn d_X10_count_5_4 (by rw [hz]; decide) (by rw [hz]; decide) (by rw [hz]; rfl) ?_
      replace hF := fe_lt (v := 4) hF (by rw [hz]; rfl)
      replace hF := fe_neg hF (by decide)
      replace hF := fe_neg hF (by decide)
      replace hF := fe_neg hF (by decide)
      replace hF := fe_neg hF (by decide)
      replace hF := fe_pos hF rfl
      refine g_aload_n d_X10_count_104 rfl ?_
      refine g_getR d_X10_count_105 fq_RX10_7 rfl rfl ?_
      refine g_bipush (v := 60) d_X10_count_108 kB_60 ?_
      refine g_laload (N := 320) d_X10_count_110 rfl kT_320 ⟨by decide, by decide⟩ kN_60 ?_
      refine g_l2i d_X10_count_111 ?_
      exact g_ireturn d_X10_count_112 rfl rfl rfl rfl ⟨rfl, trivial, (Int64.toInt32 (J2 79 60)), rfl, hF, hK7⟩
    | 5, _, hz =>
      refine g_swIn d_X10_count_5_5 (by rw [hz]; decide) (by rw [hz]; decide) (by rw [hz]; rfl) ?_
      replace hF := fe_lt (v := 5) hF (by rw [hz]; rfl)
      replace hF := fe_neg hF (by decide)
      replace hF := fe_neg hF (by decide)
      replace hF := fe_neg hF (by decide)
      replace hF := fe_neg hF (by decide)
      replace hF := fe_neg hF (by decide)
      replace hF := fe_pos hF rfl
      refine g_aload_n d_X10_count_113 rfl ?_
      refine g_getR d_X10_count_114 fq_RX10_7 rfl rfl ?_
      refine g_bipush (v := 53) d_X10_count_117 kB_53 ?_
      refine g_laload (N := 320) d_X10_count_119 rfl kT_320 ⟨by decide, by decide⟩ kN_53 ?_
      refine g_l2i d_X10_count_120 ?_
      exact g_ireturn d_X10_count_121 rfl rfl rfl rfl ⟨rfl, trivial, (Int64.toInt32 (J2 79 53)), rfl, hF, hK7⟩
    | 6, _, hz =>
      refine g_swIn d_X10_count_5_6 (by rw [hz]; decide) (by rw [hz]; decide) (by rw [hz]; rfl) ?_
      replace hF := fe_lt (v := 6) hF (by rw [hz]; rfl)
      replace hF := fe_neg hF (by decide)
      replace hF := fe_neg hF (by decide)
      replace hF := fe_neg hF (by decide)
      replace hF := fe_neg hF (by decide)
      replace hF := fe_neg hF (by decide)
      replace hF := fe_neg hF (by decide)
      replace hF := fe_pos hF rfl
      refine g_aload_n d_X10_count_122 rfl ?_
      refine g_getR d_X10_count_123 fq_RX10_7 rfl rfl ?_
      refine g_bipush (v := 61) d_X10_count_126 kB_61 ?_
      refine g_laload (N := 320) d_X10_count_128 rfl kT_320 ⟨by decide, by decide⟩ kN_61 ?_
      refine g_l2i d_X10_count_129 ?_
      exact g_ireturn d_X10_count_130 rfl rfl rfl rfl ⟨rfl, trivial, (Int64.toInt32 (J2 79 61)), rfl, hF, hK7⟩
    | 7, _, hz =>
      refine g_swIn d_X10_count_5_7 (by rw [hz]; decide) (by rw [hz]; decide) (by rw [hz]; rfl) ?_
      replace hF := fe_lt (v := 7) hF (by rw [hz]; rfl)
      replace hF := fe_neg hF (by decide)
      replace hF := fe_neg hF (by decide)
      replace hF := fe_neg hF (by decide)
      replace hF := fe_neg hF (by decide)
      replace hF := fe_neg hF (by decide)
      replace hF := fe_neg hF (by decide)
      replace hF := fe_neg hF (by decide)
      replace hF := fe_pos hF rfl
      refine g_aload_n d_X10_count_131 rfl ?_
      refine g_getR d_X10_count_132 fq_RX10_7 rfl rfl ?_
      refine g_bipush (v := 62) d_X10_count_135 kB_62 ?_
      refine g_laload (N := 320) d_X10_count_137 rfl kT_320 ⟨by decide, by decide⟩ kN_62 ?_
      refine g_l2i d_X10_count_138 ?_
      exact g_ireturn d_X10_count_139 rfl rfl rfl rfl ⟨rfl, trivial, (Int64.toInt32 (J2 79 62)), rfl, hF, hK7⟩
    | 8, _, hz =>
      refine g_swIn d_X10_count_5_8 (by rw [hz]; decide) (by rw [hz]; decide) (by rw [hz]; rfl) ?_
      replace hF := fe_lt (v := 8) hF (by rw [hz]; rfl)
      replace hF := fe_neg hF (by decide)
      replace hF := fe_neg hF (by decide)
      replace hF := fe_neg hF (by decide)
      replace hF := fe_neg hF (by decide)
      replace hF := fe_neg hF (by decide)
      replace hF := fe_neg hF (by decide)
      replace hF := fe_neg hF (by decide)
      replace hF := fe_neg hF (by decide)
      replace hF := fe_pos hF rfl
      refine g_aload_n d_X10_count_140 rfl ?_
      refine g_getR d_X10_count_141 fq_RX10_7 rfl rfl ?_
      refine g_bipush (v := 67) d_X10_count_144 kB_67 ?_
      refine g_laload (N := 320) d_X10_count_146 rfl kT_320 ⟨by decide, by decide⟩ kN_67 ?_
      refine g_l2i d_X10_count_147 ?_
      exact g_ireturn d_X10_count_148 rfl rfl rfl rfl ⟨rfl, trivial, (Int64.toInt32 (J2 79 67)), rfl, hF, hK7⟩
    | 9, _, hz =>
      refine g_swIn d_X10_count_5_9 (by rw [hz]; decide) (by rw [hz]; decide) (by rw [hz]; rfl) ?_
      replace hF := fe_lt (v := 9) hF (by rw [hz]; rfl)
      replace hF := fe_neg hF (by decide)
      replace hF := fe_neg hF (by decide)
      replace hF := fe_neg hF (by decide)
      replace hF := fe_neg hF (by decide)
      replace hF := fe_neg hF (by decide)
      replace hF := fe_neg hF (by decide)
      replace hF := fe_neg hF (by decide)
      replace hF := fe_neg hF (by decide)
      replace hF := fe_neg hF (by decide)
      replace hF := fe_pos hF rfl
      refine g_aload_n d_X10_count_149 rfl ?_
      refine g_getR d_X10_count_150 fq_RX10_7 rfl rfl ?_
      refine g_bipush (v := 66) d_X10_count_153 kB_66 ?_
      refine g_laload (N := 320) d_X10_count_155 rfl kT_320 ⟨by decide, by decide⟩ kN_66 ?_
      refine g_l2i d_X10_count_156 ?_
      exact g_ireturn d_X10_count_157 rfl rfl rfl rfl ⟨rfl, trivial, (Int64.toInt32 (J2 79 66)), rfl, hF, hK7⟩
    | 10, _, hz =>
      refine g_swIn d_X10_count_5_10 (by rw [hz]; decide) (by rw [hz]; decide) (by rw [hz]; rfl) ?_
      replace hF := fe_lt (v := 10) hF (by rw [hz]; rfl)
      replace hF := fe_neg hF (by decide)
      replace hF := fe_neg hF (by decide)
      replace hF := fe_neg hF (by decide)
      replace hF := fe_neg hF (by decide)
      replace hF := fe_neg hF (by decide)
      replace hF := fe_neg hF (by decide)
      replace hF := fe_neg hF (by decide)
      replace hF := fe_neg hF (by decide)
      replace hF := fe_neg hF (by decide)
      replace hF := fe_neg hF (by decide)
      replace hF := fe_pos hF rfl
      refine g_aload_n d_X10_count_158 rfl ?_
      refine g_V0 d_X10_count_159 cs_X10_count_X10_foods lk_RX10_311 im_X10_foods se_X10_foods rfl rfl rfl (Nat.le_of_ble_eq_true rfl) ⟨rfl, rfl⟩ ⟨Nat.zero_le _, Nat.zero_le _⟩ (ct_X10_foods  I1 J2 ((hK7).2.2 0 (by decide)).1) (fun r159 S159 Ic9 Jc10 q159_7 => ?_)
      obtain ⟨rfl, rfl, rfl, r13, rfl, hf159_11, hr159_13⟩ := q159_7
      replace hF := fe_b3 hF hf159_11
      refine g_st (st' := [.int r13]) rfl ?_
      exact g_ireturn d_X10_count_162 rfl rfl rfl rfl ⟨rfl, trivial, r13, rfl, hF, hK7⟩
    | 11, _, hz =>
      refine g_swIn d_X10_count_5_11 (by rw [hz]; decide) (by rw [hz]; decide) (by rw [hz]; rfl) ?_
      replace hF := fe_lt (v := 11) hF (by rw [hz]; rfl)
      replace hF := fe_neg hF (by decide)
      replace hF := fe_neg hF (by decide)
      replace hF := fe_neg hF (by decide)
      replace hF := fe_neg hF (by decide)
      replace hF := fe_neg hF (by decide)
      replace hF := fe_neg hF (by decide)
      replace hF := fe_neg hF (by decide)
      replace hF := fe_neg hF (by decide)
      replace hF := fe_neg hF (by decide)
      replace hF := fe_neg hF (by decide)
      replace hF := fe_neg hF (by decide)
      replace hF := fe_pos hF rfl
      refine g_aload_n d_X10_count_163 rfl ?_
      refine g_getI d_X10_count_164 fq_RX10_101 rfl rfl ?_
      exact g_ireturn d_X10_count_167 rfl rfl rfl rfl ⟨rfl, trivial, (I1 78 11), rfl, hF, hK7⟩
    | k + 12, hk, _ => exact absurd hk (by omega)
noncomputable def fn_X10_thaw (I : Iv) (J : Jv) : Int32 × Iv × Jv :=
  b_n2 (fn_X10_begin I J) (fun (I1 : Iv) (J2 : Jv) => b_n3 (fn_X10_melt (0 : Int32) I1 J2) (fun (r13 : Int32) (_ : Iv) (J8 : Jv) => (r13, I1, J8)))
set_option maxRecDepth 100000 in
set_option maxHeartbeats 4000000 in
theorem ct_X10_thaw  (I : Iv) (J : Jv) (hma : MA I) (hmj : MJ J) : Ct m_X10_thaw [.ref 78] SHF I J (fun r S' I' J' => S' = SHF ∧ True ∧ ∃ v : Int32, r = some (.int v) ∧ fn_X10_thaw I J = (v, I', J') ∧ (MI (bgI I) I' ∧ MK (bgJ I J) J')) := by
  refine ct_of 0 (by decide +kernel) rfl rfl ?_
  have hK0 : (MI I I ∧ MK J J) := ⟨mi_rfl hma, mk_rfl hmj⟩
  have hF := fe_of (fn_X10_thaw.eq_1 I J)
  refine g_aload_n d_X10_thaw_0 rfl ?_
  refine g_V0 d_X10_thaw_1 cs_X10_thaw_X10_begin lk_RX10_166 im_X10_begin se_X10_begin rfl rfl rfl (Nat.le_of_ble_eq_true rfl) ⟨rfl, rfl⟩ ⟨Nat.zero_le _, Nat.zero_le _⟩ (ct_X10_begin  I J hma hmj) (fun r1 S1 I1 J2 q1_2 => ?_)
  obtain ⟨rfl, hc1_3, rfl, hf1_4, hr1_5⟩ := q1_2
  replace hF := fe_b2 hF hf1_4
  refine g_st (st' := []) rfl ?_
  have hK7 : (MI (bgI I) I1 ∧ MK (bgJ I J) J2) := hr1_5
  refine g_aload_n d_X10_thaw_4 rfl ?_
  refine g_iconst (v := 0) d_X10_thaw_5 kI_0 ?_
  refine g_V1 d_X10_thaw_6 cs_X10_thaw_X10_melt lk_RX10_314 im_X10_melt se_X10_melt rfl rfl rfl (Nat.le_of_ble_eq_true rfl) ⟨rfl, rfl⟩ ⟨Nat.zero_le _, Nat.zero_le _⟩ (ct_X10_melt (0 : Int32) I1 J2 (by decide) ((hK7).2.2 _ (by decide)).2.1) (fun r6 S6 Ic10 J8 q6_8 => ?_)
  obtain ⟨rfl, ⟨rfl, hc6_10⟩, r13, rfl, hf6_11⟩ := q6_8
  replace hF := fe_b3 hF hf6_11
  refine g_st (st' := [.int r13]) rfl ?_
  have hK15 : (MI (bgI I) I1 ∧ MK (bgJ I J) J8) := ⟨(hK7).1, tk_mk0 (hK7).2 hc6_10⟩
  exact g_ireturn d_X10_thaw_9 rfl rfl rfl rfl ⟨rfl, trivial, r13, rfl, hF, hK15⟩
