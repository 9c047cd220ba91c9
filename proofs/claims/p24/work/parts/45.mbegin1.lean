noncomputable def fl_X10_freshen_93_1 (I : Iv) (x : Int32) (Kf1 : Int32 → Jv → Iv × Jv) : Nat → Int32 → Jv → Iv × Jv
  | 0, x14, J15 => (I, J15)
  | kf1 + 1, x14, J15 => if (3 : Int32) ≤ x14 then Kf1 x14 J15 else l_t (wJ J15 79 (x.toNatClampNeg + x14.toNatClampNeg) (10000 : Int64)) (fun (J32 : Jv) => fl_X10_freshen_93_1 I x Kf1 kf1 (x14 + (1 : Int32)) J32)
noncomputable def fl_X10_freshen_35_0 (I : Iv) (x : Int32) (Kf0 : Int32 → Jv → Iv × Jv) : Nat → Int32 → Jv → Iv × Jv
  | 0, x4, J5 => (I, J5)
  | kf0 + 1, x4, J5 => if (80 : Int32) ≤ x4 then Kf0 x4 J5 else l_t (wJ J5 79 (x.toNatClampNeg + x4.toNatClampNeg) (0 : Int64)) (fun (J34 : Jv) => fl_X10_freshen_35_0 I x Kf0 kf0 (x4 + (1 : Int32)) J34)
noncomputable def fn_X10_freshen (x : Int32) (I : Iv) (J : Jv) : Iv × Jv :=
  l_t ((J 79 (x.toNatClampNeg + 52))) (fun (v1 : Int64) => l_t ((J 79 (x.toNatClampNeg + 69))) (fun (v2 : Int64) => l_t ((J 79 (x.toNatClampNeg + 70))) (fun (v3 : Int64) => fl_X10_freshen_35_0 I x (fun (x4 : Int32) (J5 : Jv) => l_t (wJ J5 79 (x.toNatClampNeg + 52) v1) (fun (J8 : Jv) => l_t (wJ J8 79 (x.toNatClampNeg + 69) v2) (fun (J10 : Jv) => l_t (wJ J10 79 (x.toNatClampNeg + 70) v3) (fun (J12 : Jv) => fl_X10_freshen_93_1 I x (fun (x14 : Int32) (J15 : Jv) => l_t (wJ J15 79 (x.toNatClampNeg + 3) (-40000 : Int64)) (fun (J18 : Jv) => b_n3 (fn_X10_has v1 (1 : Int32) I J18) (fun (r25 : Int32) (_ : Iv) (_ : Jv) => j_n (fun (w27 : Int64) => l_t (wJ J18 79 (x.toNatClampNeg + 53) w27) (fun (J28 : Jv) => l_t (wJ J28 79 (x.toNatClampNeg + 67) (500 : Int64)) (fun (J30 : Jv) => (I, J30)))) (fun (j151_2 : Int64 → Iv × Jv) => if r25 = 0 then j151_2 ((0 : Int64)) else j151_2 ((600 : Int64)))))) (mU (3 : Int32) ((0 : Int32)) + 1) (0 : Int32) J12)))) (mU (80 : Int32) ((0 : Int32)) + 1) (0 : Int32) J)))
set_option maxRecDepth 100000 in
set_option maxHeartbeats 4000000 in
theorem ct_X10_freshen (x : Int32) (I : Iv) (J : Jv) (hx : HX x) : Ct m_X10_freshen [.ref 78, .int x] SHF I J (fun r S' I' J' => S' = SHF ∧ (I = I' ∧ FB x.toNatClampNeg J J') ∧ r = none ∧ fn_X10_freshen x I J = (I', J') ∧ FH x.toNatClampNeg J J') := by
  refine ct_of 7 (by decide +kernel) rfl rfl ?_
  have hK0 : FB x.toNatClampNeg J J := fb_rfl
  have hF := fe_of (fn_X10_freshen.eq_1 x I J)
  refine g_aload_n d_X10_freshen_0 rfl ?_
  refine g_getR d_X10_freshen_1 fq_RX10_7 rfl rfl ?_
  refine g_iload_n d_X10_freshen_4 rfl ?_
  refine g_bipush (v := 52) d_X10_freshen_5 kB_52 ?_
  refine g_iadd d_X10_freshen_7 ?_
  refine g_laload (N := 320) d_X10_freshen_8 rfl kT_320 (ixc hx (by decide)) (by rw [tnc hx (by decide), kN_52]) ?_
  refine g_topJ (fun v1 ev1 => ?_)
  replace hF := fe_lt hF ev1
  refine g_lstore_n (L' := [some (.ref 78), some (.int x), some (.long v1), none, none, none, none, none, none]) d_X10_freshen_9 (by decide) rfl ?_
  refine g_aload_n d_X10_freshen_10 rfl ?_
  refine g_getR d_X10_freshen_11 fq_RX10_7 rfl rfl ?_
  refine g_iload_n d_X10_freshen_14 rfl ?_
  refine g_bipush (v := 69) d_X10_freshen_15 kB_69 ?_
  refine g_iadd d_X10_freshen_17 ?_
  refine g_laload (N := 320) d_X10_freshen_18 rfl kT_320 (ixc hx (by decide)) (by rw [tnc hx (by decide), kN_69]) ?_
  refine g_topJ (fun v2 ev2 => ?_)
  replace hF := fe_lt hF ev2
  refine g_lstore (L' := [some (.ref 78), some (.int x), some (.long v1), none, some (.long v2), none, none, none, none]) d_X10_freshen_19 (by decide) rfl ?_
  refine g_aload_n d_X10_freshen_21 rfl ?_
  refine g_getR d_X10_freshen_22 fq_RX10_7 rfl rfl ?_
  refine g_iload_n d_X10_freshen_25 rfl ?_
  refine g_bipush (v := 70) d_X10_freshen_26 kB_70 ?_
  refine g_iadd d_X10_freshen_28 ?_
  refine g_laload (N := 320) d_X10_freshen_29 rfl kT_320 (ixc hx (by decide)) (by rw [tnc hx (by decide), kN_70]) ?_
  refine g_topJ (fun v3 ev3 => ?_)
  replace hF := fe_lt hF ev3
  refine g_lstore (L' := [some (.ref 78), some (.int x), some (.long v1), none, some (.long v2), none, some (.long v3), none, none]) d_X10_freshen_30 (by decide) rfl ?_
  refine g_iconst (v := 0) d_X10_freshen_32 kI_0 ?_
  refine g_istore (L' := [some (.ref 78), some (.int x), some (.long v1), none, some (.long v2), none, some (.long v3), none, some (.int (0 : Int32))]) d_X10_freshen_33 (by decide) rfl ?_
  obtain ⟨Kf0, hKf0, hF⟩ := fe_kx (f := fun K => fl_X10_freshen_35_0 I x K (mU (80 : Int32) ((0 : Int32)) + 1) (0 : Int32) J) hF
  have K_35 : ∀ (nu : Nat) (x4 : Int32) (J5 : Jv), mU (80 : Int32) x4 = nu → (FB x.toNatClampNeg J J5) → ((0 : Int32) ≤ x4) → (∀ j, j < x4.toNatClampNeg → J5 79 (x.toNatClampNeg + j) = 0) → (∃ kq : Nat, nu < kq ∧ (fun kq => FE (fn_X10_freshen x I J) (fun _ => fl_X10_freshen_35_0 I x Kf0 kq x4 J5)) kq) → G m_X10_freshen (rq m_X10_freshen (fun r S' I' J' => S' = SHF ∧ (I = I' ∧ FB x.toNatClampNeg J J') ∧ r = none ∧ fn_X10_freshen x I J = (I', J') ∧ FH x.toNatClampNeg J J')) 0 0 35 [some (.ref 78), some (.int x), some (.long v1), none, some (.long v2), none, some (.long v3), none, some (.int x4)] [] SHF I J5 := by
    intro nu
    induction nu using Nat.strongRecOn with
    | ind nu ih_35 =>
      intro x4 J5 hmu_35 hK6 hl7 hz_35 hF_Kf0
      obtain ⟨kf0, hkf0, hF⟩ := fe_fu (P := fun kq => FE (fn_X10_freshen x I J) (fun _ => fl_X10_freshen_35_0 I x Kf0 kq x4 J5)) hF_Kf0
      replace hF := fe_eq hF (fl_X10_freshen_35_0.eq_2 _ _ _ _ _ _)
      refine g_iload d_X10_freshen_35 rfl ?_
      refine g_bipush (v := 80) d_X10_freshen_37 kB_80 ?_
      refine g_icmp_ge d_X10_freshen_39 (fun h39 => ?_) (fun h39 => ?_)
      · skip
        replace hF := fe_pos hF h39
        replace hF := fe_eq hF (congrFun (congrFun hKf0 x4) J5)
        refine g_aload_n d_X10_freshen_58 rfl ?_
        refine g_getR d_X10_freshen_59 fq_RX10_7 rfl rfl ?_
        refine g_iload_n d_X10_freshen_62 rfl ?_
        refine g_bipush (v := 52) d_X10_freshen_63 kB_52 ?_
        refine g_iadd d_X10_freshen_65 ?_
        refine g_lload_n d_X10_freshen_66 rfl ?_
        refine g_lastore (N := 320) d_X10_freshen_67 rfl kT_320 (ixc hx (by decide)) (by rw [tnc hx (by decide), kN_52])  ?_
        refine g_nmJ (fun J8 eJ8 => ?_)
        replace hF := fe_lt hF eJ8
        have hK9 : FB x.toNatClampNeg J J8 := (by rw [eJ8]; exact fb_w hK6 (by omega))
        refine g_aload_n d_X10_freshen_68 rfl ?_
        refine g_getR d_X10_freshen_69 fq_RX10_7 rfl rfl ?_
        refine g_iload_n d_X10_freshen_72 rfl ?_
        refine g_bipush (v := 69) d_X10_freshen_73 kB_69 ?_
        refine g_iadd d_X10_freshen_75 ?_
        refine g_lload d_X10_freshen_76 rfl ?_
        refine g_lastore (N := 320) d_X10_freshen_78 rfl kT_320 (ixc hx (by decide)) (by rw [tnc hx (by decide), kN_69])  ?_
        refine g_nmJ (fun J10 eJ10 => ?_)
        replace hF := fe_lt hF eJ10
        have hK11 : FB x.toNatClampNeg J J10 := (by rw [eJ10]; exact fb_w hK9 (by omega))
        refine g_aload_n d_X10_freshen_79 rfl ?_
        refine g_getR d_X10_freshen_80 fq_RX10_7 rfl rfl ?_
        refine g_iload_n d_X10_freshen_83 rfl ?_
        refine g_bipush (v := 70) d_X10_freshen_84 kB_70 ?_
        refine g_iadd d_X10_freshen_86 ?_
        refine g_lload d_X10_freshen_87 rfl ?_
        refine g_lastore (N := 320) d_X10_freshen_89 rfl kT_320 (ixc hx (by decide)) (by rw [tnc hx (by decide), kN_70])  ?_
        refine g_nmJ (fun J12 eJ12 => ?_)
        replace hF := fe_lt hF eJ12
        have hK13 : FB x.toNatClampNeg J J12 := (by rw [eJ12]; exact fb_w hK11 (by omega))
        have hz80 : (80 : Int32).toNatClampNeg ≤ x4.toNatClampNeg := by
              have q0 := Int32.le_iff_toInt_le.mp h39
              have q1 : (80 : Int32).toInt = 80 := by decide
              rw [q1] at q0
              rw [kN_80, tn_nat]; omega
        rw [kN_80] at hz80
        have hq89 : FQ x.toNatClampNeg v1 v2 v3 J12 := by simp only [eJ8, eJ10, eJ12]; exact fq_make (fun j hj => hz_35 j (by omega))
        refine g_iconst (v := 0) d_X10_freshen_90 kI_0 ?_
        refine g_istore (L' := [some (.ref 78), some (.int x), some (.long v1), none, some (.long v2), none, some (.long v3), none, some (.int (0 : Int32))]) d_X10_freshen_91 (by decide) rfl ?_
        obtain ⟨Kf1, hKf1, hF⟩ := fe_kx (f := fun K => fl_X10_freshen_93_1 I x K (mU (3 : Int32) ((0 : Int32)) + 1) (0 : Int32) J12) hF
        have K_93 : ∀ (nu : Nat) (x14 : Int32) (J15 : Jv), mU (3 : Int32) x14 = nu → (FB x.toNatClampNeg J J15) → ((0 : Int32) ≤ x14) → (FQ x.toNatClampNeg v1 v2 v3 J15) → (∃ kq : Nat, nu < kq ∧ (fun kq => FE (fn_X10_freshen x I J) (fun _ => fl_X10_freshen_93_1 I x Kf1 kq x14 J15)) kq) → G m_X10_freshen (rq m_X10_freshen (fun r S' I' J' => S' = SHF ∧ (I = I' ∧ FB x.toNatClampNeg J J') ∧ r = none ∧ fn_X10_freshen x I J = (I', J') ∧ FH x.toNatClampNeg J J')) 0 0 93 [some (.ref 78), some (.int x), some (.long v1), none, some (.long v2), none, some (.long v3), none, some (.int x14)] [] SHF I J15 := by
          intro nu
          induction nu using Nat.strongRecOn with
          | ind nu ih_93 =>
            intro x14 J15 hmu_93 hK16 hl17 hq_93 hF_Kf1
            obtain ⟨kf1, hkf1, hF⟩ := fe_fu (P := fun kq => FE (fn_X10_freshen x I J) (fun _ => fl_X10_freshen_93_1 I x Kf1 kq x14 J15)) hF_Kf1
            replace hF := fe_eq hF (fl_X10_freshen_93_1.eq_2 _ _ _ _ _ _)
            refine g_iload d_X10_freshen_93 rfl ?_
            refine g_iconst (v := 3) d_X10_freshen_95 kI_3 ?_
            refine g_icmp_ge d_X10_freshen_96 (fun h96 => ?_) (fun h96 => ?_)
            · skip
              replace hF := fe_pos hF h96
              replace hF := fe_eq hF (congrFun (congrFun hKf1 x14) J15)
              refine g_aload_n d_X10_freshen_117 rfl ?_
              refine g_getR d_X10_freshen_118 fq_RX10_7 rfl rfl ?_
              refine g_iload_n d_X10_freshen_121 rfl ?_
              refine g_iconst (v := 3) d_X10_freshen_122 kI_3 ?_
              refine g_iadd d_X10_freshen_123 ?_
              refine g_ldc2 (v := -40000) d_X10_freshen_124 tw_1218 ?_
              refine g_lastore (N := 320) d_X10_freshen_127 rfl kT_320 (ixc hx (by decide)) (by rw [tnc hx (by decide), kN_3])  ?_
              refine g_nmJ (fun J18 eJ18 => ?_)
              replace hF := fe_lt hF eJ18
              have hK19 : FB x.toNatClampNeg J J18 := (by rw [eJ18]; exact fb_w hK16 (by omega))
              have hq127 : FQ x.toNatClampNeg v1 v2 v3 J18 := by rw [eJ18]; exact fq_w hq_93 (by omega)
              refine g_aload_n d_X10_freshen_128 rfl ?_
              refine g_getR d_X10_freshen_129 fq_RX10_7 rfl rfl ?_
              refine g_iload_n d_X10_freshen_132 rfl ?_
              refine g_bipush (v := 53) d_X10_freshen_133 kB_53 ?_
              refine g_iadd d_X10_freshen_135 ?_
              refine g_lload_n d_X10_freshen_136 rfl ?_
              refine g_iconst (v := 1) d_X10_freshen_137 kI_1 ?_
              refine g_S2 d_X10_freshen_138 cs_X10_freshen_X10_has lk_RX10_149 im_X10_has (Nat.le_of_ble_eq_true rfl) ⟨rfl, rfl⟩ ⟨Nat.zero_le _, Nat.zero_le _⟩ (ct_X10_has v1 (1 : Int32) I J18 ) (fun r138 S138 Ic21 Jc22 q138_19 => ?_)
              obtain ⟨rfl, rfl, rfl, r25, rfl, hz138, hf138_23⟩ := q138_19
              replace hF := fe_b3 hF hf138_23
              refine g_st (st' := [.int r25, .int (x + (53 : Int32)), .ref 79]) rfl ?_
              obtain ⟨j151_2, hj151_2, hF⟩ := fe_jx hF
              have J_151 : ∀ (w27 : Int64), (0 ≤ w27 ∧ w27 ≤ 9999) → (FE (fn_X10_freshen x I J) (fun _ => j151_2 w27)) → G m_X10_freshen (rq m_X10_freshen (fun r S' I' J' => S' = SHF ∧ (I = I' ∧ FB x.toNatClampNeg J J') ∧ r = none ∧ fn_X10_freshen x I J = (I', J') ∧ FH x.toNatClampNeg J J')) 0 0 151 [some (.ref 78), some (.int x), some (.long v1), none, some (.long v2), none, some (.long v3), none, some (.int x14)] [.long w27, .int (x + (53 : Int32)), .ref 79] SHF I J18 := by
                intro w27 hfur_151 hF_j151_2
                have hF := fe_eq hF_j151_2 (congrFun hj151_2 w27)
                refine g_lastore (N := 320) d_X10_freshen_151 rfl kT_320 (ixc hx (by decide)) (by rw [tnc hx (by decide), kN_53])  ?_
                refine g_nmJ (fun J28 eJ28 => ?_)
                replace hF := fe_lt hF eJ28
                have hK29 : FB x.toNatClampNeg J J28 := (by rw [eJ28]; exact fb_w hK19 (by omega))
                have hq151 : FQ x.toNatClampNeg v1 v2 v3 J28 := by rw [eJ28]; exact fq_w hq127 (by omega)
                have hfu151 : FU x.toNatClampNeg J28 := by unfold FU; rw [eJ28, wJ_self]; exact hfur_151
                refine g_aload_n d_X10_freshen_152 rfl ?_
                refine g_getR d_X10_freshen_153 fq_RX10_7 rfl rfl ?_
                refine g_iload_n d_X10_freshen_156 rfl ?_
                refine g_bipush (v := 67) d_X10_freshen_157 kB_67 ?_
                refine g_iadd d_X10_freshen_159 ?_
                refine g_ldc2 (v := 500) d_X10_freshen_160 tw_1223 ?_
                refine g_lastore (N := 320) d_X10_freshen_163 rfl kT_320 (ixc hx (by decide)) (by rw [tnc hx (by decide), kN_67])  ?_
                refine g_nmJ (fun J30 eJ30 => ?_)
                replace hF := fe_lt hF eJ30
                have hK31 : FB x.toNatClampNeg J J30 := (by rw [eJ30]; exact fb_w hK29 (by omega))
                have hq163 : FQ x.toNatClampNeg v1 v2 v3 J30 := by rw [eJ30]; exact fq_w hq151 (by omega)
                have hfu163 : FU x.toNatClampNeg J30 := by unfold FU; rw [eJ30, wJ_ne (by omega)]; exact hfu151
                exact g_return d_X10_freshen_164 rfl rfl rfl ⟨rfl, ⟨rfl, hK31⟩, rfl, hF, ⟨hK31, by rw [hq163.1, ev1], by rw [hq163.2.1, ev2], by rw [hq163.2.2.1, ev3], hq163.2.2.2 54 (by omega) (by omega) (by omega) (by omega) (by omega) (by omega) (by omega), fq_bi hq163, hfu163⟩⟩
              refine g_if_eq d_X10_freshen_141 (fun h141 => ?_) (fun h141 => ?_)
              · skip
                replace hF := fe_pos hF h141
                refine g_lconst d_X10_freshen_150 kL_0 ?_
                exact J_151 ((0 : Int64)) (by decide) hF
              · skip
                replace hF := fe_neg hF h141
                refine g_ldc2 (v := 600) d_X10_freshen_144 tw_1222 ?_
                refine g_goto d_X10_freshen_147 ?_
                exact J_151 ((600 : Int64)) (by decide) hF
            · skip
              replace hF := fe_neg hF h96
              have hkn : x14.toNatClampNeg < 3 := by have q := tn_lt (n := 3) hl17 h96; rwa [kN_3] at q
              refine g_aload_n d_X10_freshen_99 rfl ?_
              refine g_getR d_X10_freshen_100 fq_RX10_7 rfl rfl ?_
              refine g_iload_n d_X10_freshen_103 rfl ?_
              refine g_iload d_X10_freshen_104 rfl ?_
              refine g_iadd d_X10_freshen_106 ?_
              refine g_ldc2 (v := 10000) d_X10_freshen_107 tw_1217 ?_
              refine g_lastore (N := 320) d_X10_freshen_110 rfl kT_320 (ixc hx (by constructor <;> grind)) (tnc hx (by constructor <;> grind))  ?_
              refine g_nmJ (fun J32 eJ32 => ?_)
              replace hF := fe_lt hF eJ32
              have hK33 : FB x.toNatClampNeg J J32 := (by rw [eJ32]; exact fb_w hK16 (by omega))
              have hq110 : FQ x.toNatClampNeg v1 v2 v3 J32 := by rw [eJ32]; exact fq_w hq_93 (by omega)
              refine g_iinc (v := (x14 + (1 : Int32))) (L' := [some (.ref 78), some (.int x), some (.long v1), none, some (.long v2), none, some (.long v3), none, some (.int (x14 + (1 : Int32)))]) d_X10_freshen_111 rfl (by rw [kI_1]) (by decide) rfl ?_
              refine g_goto d_X10_freshen_114 ?_
              exact ih_93 _ (by rw [← hmu_93]; exact mu_up h96) (x14 + (1 : Int32)) J32 rfl hK33 (lo_up hl17 h96) hq110 ⟨kf1, Nat.lt_of_lt_of_le (by rw [← hmu_93]; exact mu_up h96) hkf1, hF⟩
        exact K_93 _ (0 : Int32) J12 rfl hK13 (Int32.le_refl _) hq89 ⟨_, Nat.lt_succ_self _, hF⟩
      · skip
        replace hF := fe_neg hF h39
        have hkn : x4.toNatClampNeg < 80 := by have q := tn_lt (n := 80) hl7 h39; rwa [kN_80] at q
        refine g_aload_n d_X10_freshen_42 rfl ?_
        refine g_getR d_X10_freshen_43 fq_RX10_7 rfl rfl ?_
        refine g_iload_n d_X10_freshen_46 rfl ?_
        refine g_iload d_X10_freshen_47 rfl ?_
        refine g_iadd d_X10_freshen_49 ?_
        refine g_lconst d_X10_freshen_50 kL_0 ?_
        refine g_lastore (N := 320) d_X10_freshen_51 rfl kT_320 (ixc hx (by constructor <;> grind)) (tnc hx (by constructor <;> grind))  ?_
        refine g_nmJ (fun J34 eJ34 => ?_)
        replace hF := fe_lt hF eJ34
        have hK35 : FB x.toNatClampNeg J J34 := (by rw [eJ34]; exact fb_w hK6 (by omega))
        have hz51 : ∀ j, j < (x4 + 1).toNatClampNeg → J34 79 (x.toNatClampNeg + j) = 0 := by
                intro j hj
                rw [show (x4 + 1).toNatClampNeg = x4.toNatClampNeg + 1 from tn_add (by constructor <;> grind) (by decide)] at hj
                rw [eJ34]
                by_cases hjj : j = x4.toNatClampNeg
                · subst hjj; exact wJ_self
                · rw [wJ_ne (by omega)]; exact hz_35 j (by omega)
        refine g_iinc (v := (x4 + (1 : Int32))) (L' := [some (.ref 78), some (.int x), some (.long v1), none, some (.long v2), none, some (.long v3), none, some (.int (x4 + (1 : Int32)))]) d_X10_freshen_52 rfl (by rw [kI_1]) (by decide) rfl ?_
        refine g_goto d_X10_freshen_55 ?_
        exact ih_35 _ (by rw [← hmu_35]; exact mu_up h39) (x4 + (1 : Int32)) J34 rfl hK35 (lo_up hl7 h39) hz51 ⟨kf0, Nat.lt_of_lt_of_le (by rw [← hmu_35]; exact mu_up h39) hkf0, hF⟩
  exact K_35 _ (0 : Int32) J rfl hK0 (Int32.le_refl _) (fun j hj => absurd hj (by rw [kN_0]; omega)) ⟨_, Nat.lt_succ_self _, hF⟩
noncomputable def fl_X10_copy_2_0 (I : Iv) (x : Int32) (y : Int32) (Kf0 : Int32 → Jv → Iv × Jv) : Nat → Int32 → Jv → Iv × Jv
  | 0, x1, J2 => (I, J2)
  | kf0 + 1, x1, J2 => if (80 : Int32) ≤ x1 then Kf0 x1 J2 else l_t (wJ J2 79 (y.toNatClampNeg + x1.toNatClampNeg) (J2 79 (x.toNatClampNeg + x1.toNatClampNeg))) (fun (J5 : Jv) => fl_X10_copy_2_0 I x y Kf0 kf0 (x1 + (1 : Int32)) J5)
noncomputable def fn_X10_copy (x : Int32) (y : Int32) (I : Iv) (J : Jv) : Iv × Jv :=
  fl_X10_copy_2_0 I x y (fun (x1 : Int32) (J2 : Jv) => (I, J2)) (mU (80 : Int32) ((0 : Int32)) + 1) (0 : Int32) J
set_option maxRecDepth 100000 in
set_option maxHeartbeats 4000000 in
theorem ct_X10_copy (x : Int32) (y : Int32) (I : Iv) (J : Jv) (hx : HX x) (hy : HX y) (hxy : ¬ x = y) : Ct m_X10_copy [.ref 78, .int x, .int y] SHF I J (fun r S' I' J' => S' = SHF ∧ (I = I' ∧ FB y.toNatClampNeg J J') ∧ r = none ∧ fn_X10_copy x y I J = (I', J') ∧ CY x.toNatClampNeg y.toNatClampNeg J J') := by
  refine ct_of 1 (by decide +kernel) rfl rfl ?_
  have hK0 : FB y.toNatClampNeg J J := fb_rfl
  have hF := fe_of (fn_X10_copy.eq_1 x y I J)
  refine g_iconst (v := 0) d_X10_copy_0 kI_0 ?_
  refine g_istore_n (L' := [some (.ref 78), some (.int x), some (.int y), some (.int (0 : Int32))]) d_X10_copy_1 (by decide) rfl ?_
  obtain ⟨Kf0, hKf0, hF⟩ := fe_kx (f := fun K => fl_X10_copy_2_0 I x y K (mU (80 : Int32) ((0 : Int32)) + 1) (0 : Int32) J) hF
  have K_2 : ∀ (nu : Nat) (x1 : Int32) (J2 : Jv), mU (80 : Int32) x1 = nu → (FB y.toNatClampNeg J J2) → ((0 : Int32) ≤ x1) → (∀ j, j < x1.toNatClampNeg → J2 79 (y.toNatClampNeg + j) = J 79 (x.toNatClampNeg + j)) → (∃ kq : Nat, nu < kq ∧ (fun kq => FE (fn_X10_copy x y I J) (fun _ => fl_X10_copy_2_0 I x y Kf0 kq x1 J2)) kq) → G m_X10_copy (rq m_X10_copy (fun r S' I' J' => S' = SHF ∧ (I = I' ∧ FB y.toNatClampNeg J J') ∧ r = none ∧ fn_X10_copy x y I J = (I', J') ∧ CY x.toNatClampNeg y.toNatClampNeg J J')) 0 0 2 [some (.ref 78), some (.int x), some (.int y), some (.int x1)] [] SHF I J2 := by
    intro nu
    induction nu using Nat.strongRecOn with
    | ind nu ih_2 =>
      intro x1 J2 hmu_2 hK3 hl4 hz_2 hF_Kf0
      obtain ⟨kf0, hkf0, hF⟩ := fe_fu (P := fun kq => FE (fn_X10_copy x y I J) (fun _ => fl_X10_copy_2_0 I x y Kf0 kq x1 J2)) hF_Kf0
      replace hF := fe_eq hF (fl_X10_copy_2_0.eq_2 _ _ _ _ _ _ _)
      refine g_iload_n d_X10_copy_2 rfl ?_
      refine g_bipush (v := 80) d_X10_copy_3 kB_80 ?_
      refine g_icmp_ge d_X10_copy_5 (fun h5 => ?_) (fun h5 => ?_)
      · skip
        replace hF := fe_pos hF h5
        replace hF := fe_eq hF (congrFun (congrFun hKf0 x1) J2)
        exact g_return d_X10_copy_30 rfl rfl rfl ⟨rfl, ⟨rfl, hK3⟩, rfl, hF, ⟨hK3, fun j hj => hz_2 j (by
          have q0 := Int32.le_iff_toInt_le.mp h5
          have q1 : (80 : Int32).toInt = 80 := by decide
          rw [q1] at q0
          rw [tn_nat]; omega)⟩⟩
      · skip
        replace hF := fe_neg hF h5
        have hkn : x1.toNatClampNeg < 80 := by have q := tn_lt (n := 80) hl4 h5; rwa [kN_80] at q
        have hfar := blk_far hx hy hxy
        have hsrc : J2 79 (x.toNatClampNeg + x1.toNatClampNeg) = J 79 (x.toNatClampNeg + x1.toNatClampNeg) := (hK3).2 _ (by omega)
        refine g_aload_n d_X10_copy_8 rfl ?_
        refine g_getR d_X10_copy_9 fq_RX10_7 rfl rfl ?_
        refine g_iload_n d_X10_copy_12 rfl ?_
        refine g_iload_n d_X10_copy_13 rfl ?_
        refine g_iadd d_X10_copy_14 ?_
        refine g_aload_n d_X10_copy_15 rfl ?_
        refine g_getR d_X10_copy_16 fq_RX10_7 rfl rfl ?_
        refine g_iload_n d_X10_copy_19 rfl ?_
        refine g_iload_n d_X10_copy_20 rfl ?_
        refine g_iadd d_X10_copy_21 ?_
        refine g_laload (N := 320) d_X10_copy_22 rfl kT_320 (ixc hx (by constructor <;> grind)) (tnc hx (by constructor <;> grind)) ?_
        refine g_lastore (N := 320) d_X10_copy_23 rfl kT_320 (ixc hy (by constructor <;> grind)) (tnc hy (by constructor <;> grind))  ?_
        refine g_nmJ (fun J5 eJ5 => ?_)
        replace hF := fe_lt hF eJ5
        have hK6 : FB y.toNatClampNeg J J5 := (by rw [eJ5]; exact fb_w hK3 (by omega))
        have hz23 : ∀ j, j < (x1 + 1).toNatClampNeg → J5 79 (y.toNatClampNeg + j) = J 79 (x.toNatClampNeg + j) := by
                intro j hj
                rw [show (x1 + 1).toNatClampNeg = x1.toNatClampNeg + 1 from tn_add (by constructor <;> grind) (by decide)] at hj
                rw [eJ5]
                by_cases hjj : j = x1.toNatClampNeg
                · subst hjj; rw [wJ_self]; exact hsrc
                · rw [wJ_ne (by omega)]; exact hz_2 j (by omega)
        refine g_iinc (v := (x1 + (1 : Int32))) (L' := [some (.ref 78), some (.int x), some (.int y), some (.int (x1 + (1 : Int32)))]) d_X10_copy_24 rfl (by rw [kI_1]) (by decide) rfl ?_
        refine g_goto d_X10_copy_27 ?_
        exact ih_2 _ (by rw [← hmu_2]; exact mu_up h5) (x1 + (1 : Int32)) J5 rfl hK6 (lo_up hl4 h5) hz23 ⟨kf0, Nat.lt_of_lt_of_le (by rw [← hmu_2]; exact mu_up h5) hkf0, hF⟩
  exact K_2 _ (0 : Int32) J rfl hK0 (Int32.le_refl _) (fun j hj => absurd hj (by rw [kN_0]; omega)) ⟨_, Nat.lt_succ_self _, hF⟩
noncomputable def fn_X10_tryFresh (set : Int32) (I : Iv) (J : Jv) : Iv × Jv :=
  l_t (wJ J 79 132 (Int32.toInt64 set)) (fun (J1 : Jv) => l_t (wJ J1 79 149 (1 : Int64)) (fun (J3 : Jv) => b_n2 (fn_X10_freshen (80 : Int32) I J3) (fun (_ : Iv) (J5 : Jv) => (I, J5))))
set_option maxRecDepth 100000 in
set_option maxHeartbeats 4000000 in
theorem ct_X10_tryFresh (set : Int32) (I : Iv) (J : Jv)  : Ct m_X10_tryFresh [.ref 78, .int set] SHF I J (fun r S' I' J' => S' = SHF ∧ (I = I' ∧ FB 80 J J') ∧ r = none ∧ fn_X10_tryFresh set I J = (I', J') ∧ (FB 80 J J' ∧ J' 79 150 = J 79 150 ∧ BI 80 J' ∧ FU 80 J')) := by
  refine ct_of 0 (by decide +kernel) rfl rfl ?_
  have hK0 : FB 80 J J := fb_rfl
  have hF := fe_of (fn_X10_tryFresh.eq_1 set I J)
  refine g_aload_n d_X10_tryFresh_0 rfl ?_
  refine g_getR d_X10_tryFresh_1 fq_RX10_7 rfl rfl ?_
  refine g_sipush (v := 132) d_X10_tryFresh_4 kS_132 ?_
  refine g_iload_n d_X10_tryFresh_7 rfl ?_
  refine g_i2l d_X10_tryFresh_8 ?_
  refine g_lastore (N := 320) d_X10_tryFresh_9 rfl kT_320 ⟨by decide, by decide⟩ kN_132  ?_
  refine g_nmJ (fun J1 eJ1 => ?_)
  replace hF := fe_lt hF eJ1
  have hK2 : FB 80 J J1 := (by rw [eJ1]; exact fb_w hK0 (by omega))
  refine g_aload_n d_X10_tryFresh_10 rfl ?_
  refine g_getR d_X10_tryFresh_11 fq_RX10_7 rfl rfl ?_
  refine g_sipush (v := 149) d_X10_tryFresh_14 kS_149 ?_
  refine g_lconst d_X10_tryFresh_17 kL_1 ?_
  refine g_lastore (N := 320) d_X10_tryFresh_18 rfl kT_320 ⟨by decide, by decide⟩ kN_149  ?_
  refine g_nmJ (fun J3 eJ3 => ?_)
  replace hF := fe_lt hF eJ3
  have hK4 : FB 80 J J3 := (by rw [eJ3]; exact fb_w hK2 (by omega))
  refine g_aload_n d_X10_tryFresh_19 rfl ?_
  refine g_bipush (v := 80) d_X10_tryFresh_20 kB_80 ?_
  refine g_V1 d_X10_tryFresh_22 cs_X10_tryFresh_X10_freshen lk_RX10_84 im_X10_freshen se_X10_freshen rfl rfl rfl (Nat.le_of_ble_eq_true rfl) ⟨rfl, rfl⟩ ⟨Nat.zero_le _, Nat.zero_le _⟩ (ct_X10_freshen (80 : Int32) I J3 (by decide)) (fun r22 S22 Ic7 J5 q22_5 => ?_)
  obtain ⟨rfl, ⟨rfl, hc22_7⟩, rfl, hf22_8, hr22_9⟩ := q22_5
  replace hF := fe_b2 hF hf22_8
  refine g_st (st' := []) rfl ?_
  have hK11 : FB 80 J J5 := hK4.tr hc22_7
  have hf := hr22_9
  simp only [eJ1, eJ3] at hf
  exact g_return d_X10_tryFresh_25 rfl rfl rfl ⟨rfl, ⟨rfl, hK11⟩, rfl, hF, (fh_try hf)⟩
noncomputable def fl_X10_begin_51_1 (J9 : Jv) (Kf1 : Int32 → Iv → Iv × Jv) : Nat → Int32 → Iv → Iv × Jv
  | 0, x16, I17 => (I17, J9)
  | kf1 + 1, x16, I17 => if (7 : Int32) ≤ x16 then Kf1 x16 I17 else l_t (wI I17 94 (x16.toNatClampNeg) (100 : Int32)) (fun (I24 : Iv) => l_t (wI I24 98 (x16.toNatClampNeg) (50 : Int32)) (fun (I26 : Iv) => fl_X10_begin_51_1 J9 Kf1 kf1 (x16 + (1 : Int32)) I26))
noncomputable def fl_X10_begin_14_0 (J : Jv) (Kf0 : Int32 → Iv → Iv × Jv) : Nat → Int32 → Iv → Iv × Jv
  | 0, x3, I4 => (I4, J)
  | kf0 + 1, x3, I4 => if (15 : Int32) ≤ x3 then Kf0 x3 I4 else b_n3 (fn_X10_untold x3 I4 J) (fun (r33 : Int32) (_ : Iv) (_ : Jv) => l_t (wI I4 81 (x3.toNatClampNeg) r33) (fun (I35 : Iv) => fl_X10_begin_14_0 J Kf0 kf0 (x3 + (1 : Int32)) I35))
noncomputable def fn_X10_begin (I : Iv) (J : Jv) : Iv × Jv :=
  if (I 78 2) = 0 then l_t (wI I 78 2 (1 : Int32)) (fun (I1 : Iv) => fl_X10_begin_14_0 J (fun (x3 : Int32) (I4 : Iv) => l_t (wJ J 79 69 (1 : Int64)) (fun (J7 : Jv) => b_n2 (fn_X10_freshen (0 : Int32) I4 J7) (fun (_ : Iv) (J9 : Jv) => fl_X10_begin_51_1 J9 (fun (x16 : Int32) (I17 : Iv) => l_t (wI I17 78 30 (30 : Int32)) (fun (I20 : Iv) => l_t (wI I20 78 31 (-1 : Int32)) (fun (I22 : Iv) => (I22, J9)))) (mU (7 : Int32) ((0 : Int32)) + 1) (0 : Int32) I4))) (mU (15 : Int32) ((0 : Int32)) + 1) (0 : Int32) I1) else (I, J)
set_option maxRecDepth 100000 in
set_option maxHeartbeats 4000000 in
theorem ct_X10_begin  (I : Iv) (J : Jv) (hma : MA I) (hmj : MJ J) : Ct m_X10_begin [.ref 78] SHF I J (fun r S' I' J' => S' = SHF ∧ True ∧ r = none ∧ fn_X10_begin I J = (I', J') ∧ (MI (bgI I) I' ∧ MK (bgJ I J) J')) := by
  refine ct_of 1 (by decide +kernel) rfl rfl ?_
  have hK0 : BR I I I := br_rfl
  have hF := fe_of (fn_X10_begin.eq_1 I J)
  refine g_aload_n d_X10_begin_0 rfl ?_
  refine g_getZ d_X10_begin_1 fq_RX10_76 rfl rfl (fun hz1 => ?_)
  refine g_if_ne d_X10_begin_4 (fun h4 => ?_) (fun h4 => ?_)
  · skip
    replace hF := fe_neg hF h4
    exact g_return d_X10_begin_90 rfl rfl rfl ⟨rfl, trivial, rfl, hF, (by first | exact bg_old h4 hma hmj | exact ⟨by rw [e31, e30]; exact bg_mi h4 hma hBR hb_51 hp7, bg_mk h4 hmj hfh⟩)⟩
  · skip
    replace hF := fe_pos hF h4
    refine g_aload_n d_X10_begin_7 rfl ?_
    refine g_iconst (v := 1) d_X10_begin_8 kI_1 ?_
    refine g_putZ d_X10_begin_9 fq_RX10_76 rfl rfl (Or.inr rfl) ?_
    refine g_nmI (fun I1 eI1 => ?_)
    replace hF := fe_lt hF eI1
    have hK2 : BR (wI I 78 2 1) I I1 := (by rw [eI1]; exact br_beg hK0)
    refine g_iconst (v := 0) d_X10_begin_12 kI_0 ?_
    refine g_istore_n (L' := [some (.ref 78), some (.int (0 : Int32))]) d_X10_begin_13 (by decide) rfl ?_
    obtain ⟨Kf0, hKf0, hF⟩ := fe_kx (f := fun K => fl_X10_begin_14_0 J K (mU (15 : Int32) ((0 : Int32)) + 1) (0 : Int32) I1) hF
    have K_14 : ∀ (nu : Nat) (x3 : Int32) (I4 : Iv), mU (15 : Int32) x3 = nu → (BR (wI I 78 2 1) I I4) → ((0 : Int32) ≤ x3) → ((8 < x3 → I4 81 8 = 1) ∧ (2 < x3 → I4 81 2 = 3)) → (I4 94 = I 94 ∧ I4 98 = I 98) → (∃ kq : Nat, nu < kq ∧ (fun kq => FE (fn_X10_begin I J) (fun _ => fl_X10_begin_14_0 J Kf0 kq x3 I4)) kq) → G m_X10_begin (rq m_X10_begin (fun r S' I' J' => S' = SHF ∧ True ∧ r = none ∧ fn_X10_begin I J = (I', J') ∧ (MI (bgI I) I' ∧ MK (bgJ I J) J'))) 0 0 14 [some (.ref 78), some (.int x3)] [] SHF I4 J := by
      intro nu
      induction nu using Nat.strongRecOn with
      | ind nu ih_14 =>
        intro x3 I4 hmu_14 hK5 hl6 hb_14 hr_14 hF_Kf0
        obtain ⟨kf0, hkf0, hF⟩ := fe_fu (P := fun kq => FE (fn_X10_begin I J) (fun _ => fl_X10_begin_14_0 J Kf0 kq x3 I4)) hF_Kf0
        replace hF := fe_eq hF (fl_X10_begin_14_0.eq_2 _ _ _ _ _)
        refine g_iload_n d_X10_begin_14 rfl ?_
        refine g_bipush (v := 15) d_X10_begin_15 kB_15 ?_
        refine g_icmp_ge d_X10_begin_17 (fun h17 => ?_) (fun h17 => ?_)
        · skip
          replace hF := fe_pos hF h17
          replace hF := fe_eq hF (congrFun (congrFun hKf0 x3) I4)
          refine g_aload_n d_X10_begin_36 rfl ?_
          refine g_getR d_X10_begin_37 fq_RX10_7 rfl rfl ?_
          refine g_bipush (v := 69) d_X10_begin_40 kB_69 ?_
          refine g_lconst d_X10_begin_42 kL_1 ?_
          refine g_lastore (N := 320) d_X10_begin_43 rfl kT_320 ⟨by decide, by decide⟩ kN_69  ?_
          refine g_nmJ (fun J7 eJ7 => ?_)
          replace hF := fe_lt hF eJ7
          have hK8 : BR (wI I 78 2 1) I I4 := hK5
          have eJ69 := eJ7
          refine g_aload_n d_X10_begin_44 rfl ?_
          refine g_iconst (v := 0) d_X10_begin_45 kI_0 ?_
          refine g_V1 d_X10_begin_46 cs_X10_begin_X10_freshen lk_RX10_84 im_X10_freshen se_X10_freshen rfl rfl rfl (Nat.le_of_ble_eq_true rfl) ⟨rfl, rfl⟩ ⟨Nat.zero_le _, Nat.zero_le _⟩ (ct_X10_freshen (0 : Int32) I4 J7 (by decide)) (fun r46 S46 Ic11 J9 q46_9 => ?_)
          obtain ⟨rfl, ⟨rfl, hc46_11⟩, rfl, hf46_12, hr46_13⟩ := q46_9
          replace hF := fe_b2 hF hf46_12
          refine g_st (st' := []) rfl ?_
          have hK15 : BR (wI I 78 2 1) I I4 := hK8
          have hfh : FH 0 (wJ J 79 69 1) J9 := by rw [← eJ69]; exact hr46_13
          have hb51 : I4 81 8 = 1 ∧ I4 81 2 = 3 := ⟨hb_14.1 (by grind), hb_14.2 (by grind)⟩
          have hp51 : PM I I4 (0 : Int32).toNatClampNeg := ⟨fun j => by rw [hr_14.1, if_neg (by rw [kN_0]; omega)], fun j => by rw [hr_14.2, if_neg (by rw [kN_0]; omega)]⟩
          refine g_iconst (v := 0) d_X10_begin_49 kI_0 ?_
          refine g_istore_n (L' := [some (.ref 78), some (.int (0 : Int32))]) d_X10_begin_50 (by decide) rfl ?_
          obtain ⟨Kf1, hKf1, hF⟩ := fe_kx (f := fun K => fl_X10_begin_51_1 J9 K (mU (7 : Int32) ((0 : Int32)) + 1) (0 : Int32) I4) hF
          have K_51 : ∀ (nu : Nat) (x16 : Int32) (I17 : Iv), mU (7 : Int32) x16 = nu → (BR (wI I 78 2 1) I I17) → ((0 : Int32) ≤ x16) → (I17 81 8 = 1 ∧ I17 81 2 = 3) → (PM I I17 x16.toNatClampNeg) → (x16 ≤ 7) → (∃ kq : Nat, nu < kq ∧ (fun kq => FE (fn_X10_begin I J) (fun _ => fl_X10_begin_51_1 J9 Kf1 kq x16 I17)) kq) → G m_X10_begin (rq m_X10_begin (fun r S' I' J' => S' = SHF ∧ True ∧ r = none ∧ fn_X10_begin I J = (I', J') ∧ (MI (bgI I) I' ∧ MK (bgJ I J) J'))) 0 0 51 [some (.ref 78), some (.int x16)] [] SHF I17 J9 := by
            intro nu
            induction nu using Nat.strongRecOn with
            | ind nu ih_51 =>
              intro x16 I17 hmu_51 hK18 hl19 hb_51 hp_51 hn7_51 hF_Kf1
              obtain ⟨kf1, hkf1, hF⟩ := fe_fu (P := fun kq => FE (fn_X10_begin I J) (fun _ => fl_X10_begin_51_1 J9 Kf1 kq x16 I17)) hF_Kf1
              replace hF := fe_eq hF (fl_X10_begin_51_1.eq_2 _ _ _ _ _)
              refine g_iload_n d_X10_begin_51 rfl ?_
              refine g_bipush (v := 7) d_X10_begin_52 kB_7 ?_
              refine g_icmp_ge d_X10_begin_54 (fun h54 => ?_) (fun h54 => ?_)
              · skip
                replace hF := fe_pos hF h54
                replace hF := fe_eq hF (congrFun (congrFun hKf1 x16) I17)
                refine g_aload_n d_X10_begin_79 rfl ?_
                refine g_bipush (v := 30) d_X10_begin_80 kB_30 ?_
                refine g_putI d_X10_begin_82 fq_RX10_88 rfl rfl ?_
                refine g_nmI (fun I20 eI20 => ?_)
                replace hF := fe_lt hF eI20
                have hK21 : BR (wI I 78 2 1) I I20 := (by rw [eI20]; exact br_w hK18 (by omega))
                have e30 := eI20
                have hBR := hK18
                have q7 : x16 = 7 := by grind
                have hp7 : PM I I17 7 := by have z := hp_51; rw [q7] at z; exact z
                refine g_aload_n d_X10_begin_85 rfl ?_
                refine g_iconst (v := -1) d_X10_begin_86 kI_m1 ?_
                refine g_putI d_X10_begin_87 fq_RX10_91 rfl rfl ?_
                refine g_nmI (fun I22 eI22 => ?_)
                replace hF := fe_lt hF eI22
                have hK23 : BR (wI I 78 2 1) I I22 := (by rw [eI22]; exact br_w hK21 (by omega))
                have e31 := eI22
                exact g_return d_X10_begin_90 rfl rfl rfl ⟨rfl, trivial, rfl, hF, (by first | exact bg_old h4 hma hmj | exact ⟨by rw [e31, e30]; exact bg_mi h4 hma hBR hb_51 hp7, bg_mk h4 hmj hfh⟩)⟩
              · skip
                replace hF := fe_neg hF h54
                refine g_aload_n d_X10_begin_57 rfl ?_
                refine g_getR d_X10_begin_58 fq_RX10_61 rfl rfl ?_
                refine g_iload_n d_X10_begin_61 rfl ?_
                refine g_bipush (v := 100) d_X10_begin_62 kB_100 ?_
                refine g_iastore (N := 7) d_X10_begin_64 rfl kT_7 ⟨hl19, Int32.not_le.mp h54⟩ rfl  ?_
                refine g_nmI (fun I24 eI24 => ?_)
                replace hF := fe_lt hF eI24
                have hK25 : BR (wI I 78 2 1) I I24 := (by rw [eI24]; exact br_w hK18 (by omega))
                have e94 := eI24
                refine g_aload_n d_X10_begin_65 rfl ?_
                refine g_getR d_X10_begin_66 fq_RX10_73 rfl rfl ?_
                refine g_iload_n d_X10_begin_69 rfl ?_
                refine g_bipush (v := 50) d_X10_begin_70 kB_50 ?_
                refine g_iastore (N := 7) d_X10_begin_72 rfl kT_7 ⟨hl19, Int32.not_le.mp h54⟩ rfl  ?_
                refine g_nmI (fun I26 eI26 => ?_)
                replace hF := fe_lt hF eI26
                have hK27 : BR (wI I 78 2 1) I I26 := (by rw [eI26]; exact br_w hK25 (by omega))
                have hb72 : I26 81 8 = 1 ∧ I26 81 2 = 3 := by rw [eI26, e94]; exact hb_51
                have hp72 : PM I I26 (x16 + 1).toNatClampNeg := by rw [eI26, e94]; exact pm_step hl19 h54 hp_51
                refine g_iinc (v := (x16 + (1 : Int32))) (L' := [some (.ref 78), some (.int (x16 + (1 : Int32)))]) d_X10_begin_73 rfl (by rw [kI_1]) (by decide) rfl ?_
                refine g_goto d_X10_begin_76 ?_
                exact ih_51 _ (by rw [← hmu_51]; exact mu_up h54) (x16 + (1 : Int32)) I26 rfl hK27 (lo_up hl19 h54) hb72 hp72 (by grind) ⟨kf1, Nat.lt_of_lt_of_le (by rw [← hmu_51]; exact mu_up h54) hkf1, hF⟩
          exact K_51 _ (0 : Int32) I4 rfl hK15 (Int32.le_refl _) hb51 hp51 (by decide) ⟨_, Nat.lt_succ_self _, hF⟩
        · skip
          replace hF := fe_neg hF h17
          refine g_aload_n d_X10_begin_20 rfl ?_
          refine g_getR d_X10_begin_21 fq_RX10_17 rfl rfl ?_
          refine g_iload_n d_X10_begin_24 rfl ?_
          refine g_iload_n d_X10_begin_25 rfl ?_
          refine g_S1 d_X10_begin_26 cs_X10_begin_X10_untold lk_RX10_80 im_X10_untold (Nat.le_of_ble_eq_true rfl) ⟨rfl, rfl⟩ ⟨Nat.zero_le _, Nat.zero_le _⟩ (ct_X10_untold x3 I4 J ) (fun r26 S26 Ic29 Jc30 q26_27 => ?_)
          obtain ⟨rfl, rfl, rfl, r33, rfl, hf26_31, hr26_33⟩ := q26_27
          replace hF := fe_b3 hF hf26_31
          refine g_st (st' := [.int r33, .int x3, .ref 81]) rfl ?_
          have hbx := hr26_33
          refine g_iastore (N := 15) d_X10_begin_29 rfl kT_15 ⟨hl6, Int32.not_le.mp h17⟩ rfl  ?_
          refine g_nmI (fun I35 eI35 => ?_)
          replace hF := fe_lt hF eI35
          have hK36 : BR (wI I 78 2 1) I I35 := (by rw [eI35]; exact br_w hK5 (by omega))
          refine g_iinc (v := (x3 + (1 : Int32))) (L' := [some (.ref 78), some (.int (x3 + (1 : Int32)))]) d_X10_begin_30 rfl (by rw [kI_1]) (by decide) rfl ?_
          refine g_goto d_X10_begin_33 ?_
          exact ih_14 _ (by rw [← hmu_14]; exact mu_up h17) (x3 + (1 : Int32)) I35 rfl hK36 (lo_up hl6 h17) (by rw [eI35]; exact box_step 81 hl6 hbx hb_14 h17) (by rw [eI35, wI_row (by decide), wI_row (by decide)]; exact hr_14) ⟨kf0, Nat.lt_of_lt_of_le (by rw [← hmu_14]; exact mu_up h17) hkf0, hF⟩
    exact K_14 _ (0 : Int32) I1 rfl hK2 (Int32.le_refl _) (by constructor <;> intro q <;> exact absurd q (by decide)) (by rw [eI1]; exact ⟨wI_row (by decide), wI_row (by decide)⟩) ⟨_, Nat.lt_succ_self _, hF⟩
