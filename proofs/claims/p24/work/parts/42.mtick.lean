noncomputable def fn_X10_moves (x : Int32) (room : Int64) (I : Iv) (J : Jv) : Int64 × Iv × Jv :=
  l_t ((Int32.toInt64 (I 81 0))) (fun (v1 : Int64) => b_n3 (fn_X10_has (J 79 (x.toNatClampNeg + 52)) (2 : Int32) I J) (fun (r7 : Int32) (_ : Iv) (_ : Jv) => j_n (fun (w9 : Int64) => l_t ((v1 - w9)) (fun (v10 : Int64) => b_n3 (fn_X10_has (J 79 (x.toNatClampNeg + 52)) (3 : Int32) I J) (fun (r16 : Int32) (_ : Iv) (_ : Jv) => j_n (fun (w18 : Int64) => l_t ((v10 - w18)) (fun (v19 : Int64) => b_n3 (fn_X10_warm x (3 : Int32) I J) (fun (r25 : Int64) (_ : Iv) (_ : Jv) => l_t ((v19 - ((room - r25) / (8 : Int64)))) (fun (v27 : Int64) => if (0 : Int64) ≤ v27 then (v27, I, J) else ((0 : Int64), I, J))))) (fun (j76_1 : Int64 → Int64 × Iv × Jv) => if r16 = 0 then j76_1 ((0 : Int64)) else j76_1 (((v10 * (45 : Int64)) / (100 : Int64))))))) (fun (j41_0 : Int64 → Int64 × Iv × Jv) => if r7 = 0 then j41_0 ((0 : Int64)) else j41_0 (((v1 * (50 : Int64)) / (100 : Int64))))))
set_option maxRecDepth 100000 in
set_option maxHeartbeats 4000000 in
theorem ct_X10_moves (x : Int32) (room : Int64) (I : Iv) (J : Jv) (hx : HX x) : Ct m_X10_moves [.ref 78, .int x, .long room] SHF I J (fun r S' I' J' => S' = SHF ∧ I = I' ∧ J = J' ∧ ∃ v : Int64, r = some (.long v) ∧ fn_X10_moves x room I J = (v, I', J')) := by
  refine ct_of 2 (by decide +kernel) rfl rfl ?_
  have hF := fe_of (fn_X10_moves.eq_1 x room I J)
  refine g_aload_n d_X10_moves_0 rfl ?_
  refine g_getR d_X10_moves_1 fq_RX10_17 rfl rfl ?_
  refine g_iconst (v := 0) d_X10_moves_4 kI_0 ?_
  refine g_iaload (N := 15) d_X10_moves_5 rfl kT_15 ⟨by decide, by decide⟩ kN_0 ?_
  refine g_i2l d_X10_moves_6 ?_
  refine g_topJ (fun v1 ev1 => ?_)
  replace hF := fe_lt hF ev1
  refine g_lstore (L' := [some (.ref 78), some (.int x), some (.long room), none, some (.long v1), none]) d_X10_moves_7 (by decide) rfl ?_
  refine g_lload d_X10_moves_9 rfl ?_
  refine g_aload_n d_X10_moves_11 rfl ?_
  refine g_getR d_X10_moves_12 fq_RX10_7 rfl rfl ?_
  refine g_iload_n d_X10_moves_15 rfl ?_
  refine g_bipush (v := 52) d_X10_moves_16 kB_52 ?_
  refine g_iadd d_X10_moves_18 ?_
  refine g_laload (N := 320) d_X10_moves_19 rfl kT_320 (ixc hx (by decide)) (by rw [tnc hx (by decide), kN_52]) ?_
  refine g_iconst (v := 2) d_X10_moves_20 kI_2 ?_
  refine g_S2 d_X10_moves_21 cs_X10_moves_X10_has lk_RX10_149 im_X10_has (Nat.le_of_ble_eq_true rfl) ⟨rfl, rfl⟩ ⟨Nat.zero_le _, Nat.zero_le _⟩ (ct_X10_has (J 79 (x.toNatClampNeg + 52)) (2 : Int32) I J ) (fun r21 S21 Ic3 Jc4 q21_1 => ?_)
  obtain ⟨rfl, rfl, rfl, r7, rfl, hz21, hf21_5⟩ := q21_1
  replace hF := fe_b3 hF hf21_5
  refine g_st (st' := [.int r7, .long v1]) rfl ?_
  obtain ⟨j41_0, hj41_0, hF⟩ := fe_jx hF
  have J_41 : ∀ (w9 : Int64), (FE (fn_X10_moves x room I J) (fun _ => j41_0 w9)) → G m_X10_moves (rq m_X10_moves (fun r S' I' J' => S' = SHF ∧ I = I' ∧ J = J' ∧ ∃ v : Int64, r = some (.long v) ∧ fn_X10_moves x room I J = (v, I', J'))) 0 0 41 [some (.ref 78), some (.int x), some (.long room), none, some (.long v1), none] [.long w9, .long v1] SHF I J := by
    intro w9 hF_j41_0
    have hF := fe_eq hF_j41_0 (congrFun hj41_0 w9)
    refine g_lsub d_X10_moves_41 ?_
    refine g_topJ (fun v10 ev10 => ?_)
    replace hF := fe_lt hF ev10
    refine g_lstore (L' := [some (.ref 78), some (.int x), some (.long room), none, some (.long v10), none]) d_X10_moves_42 (by decide) rfl ?_
    refine g_lload d_X10_moves_44 rfl ?_
    refine g_aload_n d_X10_moves_46 rfl ?_
    refine g_getR d_X10_moves_47 fq_RX10_7 rfl rfl ?_
    refine g_iload_n d_X10_moves_50 rfl ?_
    refine g_bipush (v := 52) d_X10_moves_51 kB_52 ?_
    refine g_iadd d_X10_moves_53 ?_
    refine g_laload (N := 320) d_X10_moves_54 rfl kT_320 (ixc hx (by decide)) (by rw [tnc hx (by decide), kN_52]) ?_
    refine g_iconst (v := 3) d_X10_moves_55 kI_3 ?_
    refine g_S2 d_X10_moves_56 cs_X10_moves_X10_has lk_RX10_149 im_X10_has (Nat.le_of_ble_eq_true rfl) ⟨rfl, rfl⟩ ⟨Nat.zero_le _, Nat.zero_le _⟩ (ct_X10_has (J 79 (x.toNatClampNeg + 52)) (3 : Int32) I J ) (fun r56 S56 Ic12 Jc13 q56_10 => ?_)
    obtain ⟨rfl, rfl, rfl, r16, rfl, hz56, hf56_14⟩ := q56_10
    replace hF := fe_b3 hF hf56_14
    refine g_st (st' := [.int r16, .long v10]) rfl ?_
    obtain ⟨j76_1, hj76_1, hF⟩ := fe_jx hF
    have J_76 : ∀ (w18 : Int64), (FE (fn_X10_moves x room I J) (fun _ => j76_1 w18)) → G m_X10_moves (rq m_X10_moves (fun r S' I' J' => S' = SHF ∧ I = I' ∧ J = J' ∧ ∃ v : Int64, r = some (.long v) ∧ fn_X10_moves x room I J = (v, I', J'))) 0 0 76 [some (.ref 78), some (.int x), some (.long room), none, some (.long v10), none] [.long w18, .long v10] SHF I J := by
      intro w18 hF_j76_1
      have hF := fe_eq hF_j76_1 (congrFun hj76_1 w18)
      refine g_lsub d_X10_moves_76 ?_
      refine g_topJ (fun v19 ev19 => ?_)
      replace hF := fe_lt hF ev19
      refine g_lstore (L' := [some (.ref 78), some (.int x), some (.long room), none, some (.long v19), none]) d_X10_moves_77 (by decide) rfl ?_
      refine g_lload d_X10_moves_79 rfl ?_
      refine g_lload_n d_X10_moves_81 rfl ?_
      refine g_aload_n d_X10_moves_82 rfl ?_
      refine g_iload_n d_X10_moves_83 rfl ?_
      refine g_iconst (v := 3) d_X10_moves_84 kI_3 ?_
      refine g_V2 d_X10_moves_85 cs_X10_moves_X10_warm lk_RX10_200 im_X10_warm se_X10_warm rfl rfl rfl (Nat.le_of_ble_eq_true rfl) ⟨rfl, rfl⟩ ⟨Nat.zero_le _, Nat.zero_le _⟩ (ct_X10_warm x (3 : Int32) I J hx (by grind) (by grind)) (fun r85 S85 Ic21 Jc22 q85_19 => ?_)
      obtain ⟨rfl, rfl, rfl, r25, rfl, hf85_23⟩ := q85_19
      replace hF := fe_b3 hF hf85_23
      refine g_st (st' := [.long r25, .long room, .long v19]) rfl ?_
      refine g_lsub d_X10_moves_88 ?_
      refine g_ldc2 (v := 8) d_X10_moves_89 tw_1195 ?_
      refine g_ldiv d_X10_moves_92 (by decide) ?_
      refine g_lsub d_X10_moves_93 ?_
      refine g_topJ (fun v27 ev27 => ?_)
      replace hF := fe_lt hF ev27
      refine g_lstore (L' := [some (.ref 78), some (.int x), some (.long room), none, some (.long v27), none]) d_X10_moves_94 (by decide) rfl ?_
      refine g_lload d_X10_moves_96 rfl ?_
      refine g_lconst d_X10_moves_98 kL_0 ?_
      refine g_lcmp_ge d_X10_moves_99 d_X10_moves_100 (fun h100 => ?_) (fun h100 => ?_)
      · skip
        replace hF := fe_pos hF h100
        refine g_lload d_X10_moves_107 rfl ?_
        exact g_lreturn d_X10_moves_109 rfl rfl rfl ⟨rfl, rfl, rfl, v27, rfl, hF⟩
      · skip
        replace hF := fe_neg hF h100
        refine g_lconst d_X10_moves_103 kL_0 ?_
        refine g_goto d_X10_moves_104 ?_
        exact g_lreturn d_X10_moves_109 rfl rfl rfl ⟨rfl, rfl, rfl, (0 : Int64), rfl, hF⟩
    refine g_if_eq d_X10_moves_59 (fun h59 => ?_) (fun h59 => ?_)
    · skip
      replace hF := fe_pos hF h59
      refine g_lconst d_X10_moves_75 kL_0 ?_
      exact J_76 ((0 : Int64)) hF
    · skip
      replace hF := fe_neg hF h59
      refine g_lload d_X10_moves_62 rfl ?_
      refine g_ldc2 (v := 45) d_X10_moves_64 tw_1398 ?_
      refine g_lmul d_X10_moves_67 ?_
      refine g_ldc2 (v := 100) d_X10_moves_68 tw_1391 ?_
      refine g_ldiv d_X10_moves_71 (by decide) ?_
      refine g_goto d_X10_moves_72 ?_
      exact J_76 (((v10 * (45 : Int64)) / (100 : Int64))) hF
  refine g_if_eq d_X10_moves_24 (fun h24 => ?_) (fun h24 => ?_)
  · skip
    replace hF := fe_pos hF h24
    refine g_lconst d_X10_moves_40 kL_0 ?_
    exact J_41 ((0 : Int64)) hF
  · skip
    replace hF := fe_neg hF h24
    refine g_lload d_X10_moves_27 rfl ?_
    refine g_ldc2 (v := 50) d_X10_moves_29 tw_1397 ?_
    refine g_lmul d_X10_moves_32 ?_
    refine g_ldc2 (v := 100) d_X10_moves_33 tw_1391 ?_
    refine g_ldiv d_X10_moves_36 (by decide) ?_
    refine g_goto d_X10_moves_37 ?_
    exact J_41 (((v1 * (50 : Int64)) / (100 : Int64))) hF
noncomputable def fn_X10_wet (x : Int32) (came : Int64) (I : Iv) (J : Jv) : Iv × Jv :=
  l_t (wJ J 79 (x.toNatClampNeg + 60) ((J 79 (x.toNatClampNeg + 60)) + came)) (fun (J1 : Jv) => b_n3 (fn_X10_warm x (3 : Int32) I J1) (fun (r8 : Int64) (_ : Iv) (_ : Jv) => if (0 : Int64) ≤ r8 then l_t (wJ J1 79 (x.toNatClampNeg + 62) ((J1 79 (x.toNatClampNeg + 62)) + came)) (fun (J10 : Jv) => l_t (((r8 / (20 : Int64)) + (1 : Int64))) (fun (v12 : Int64) => j_n (fun (w13 : Int64) => l_t (wJ J10 79 (x.toNatClampNeg + 53) ((J10 79 (x.toNatClampNeg + 53)) - w13)) (fun (J14 : Jv) => l_t (wJ J14 79 (x.toNatClampNeg + 61) ((J14 79 (x.toNatClampNeg + 61)) + w13)) (fun (J16 : Jv) => (I, J16)))) (fun (j145_0 : Int64 → Iv × Jv) => if v12 ≤ (J10 79 (x.toNatClampNeg + 53)) then j145_0 v12 else j145_0 ((J10 79 (x.toNatClampNeg + 53)))))) else l_t (((J1 79 (x.toNatClampNeg + 53)) + came)) (fun (v18 : Int64) => j_n (fun (w19 : Int64) => l_t (wJ J1 79 (x.toNatClampNeg + 53) (v18 - w19)) (fun (J20 : Jv) => l_t (wJ J20 79 (x.toNatClampNeg + 62) ((J20 79 (x.toNatClampNeg + 62)) + w19)) (fun (J22 : Jv) => (I, J22)))) (fun (j60_1 : Int64 → Iv × Jv) => if v18 ≤ (9999 : Int64) then j60_1 ((0 : Int64)) else j60_1 ((v18 - (9999 : Int64)))))))
set_option maxRecDepth 100000 in
set_option maxHeartbeats 4000000 in
theorem ct_X10_wet (x : Int32) (came : Int64) (I : Iv) (J : Jv) (hx : HX x) (hfu : FU x.toNatClampNeg J) (hcame : 0 ≤ came ∧ came ≤ 1000) : Ct m_X10_wet [.ref 78, .int x, .long came] SHF I J (fun r S' I' J' => S' = SHF ∧ (I = I' ∧ TK x.toNatClampNeg J J') ∧ r = none ∧ fn_X10_wet x came I J = (I', J')) := by
  refine ct_of 6 (by decide +kernel) rfl rfl ?_
  have hK0 : TK x.toNatClampNeg J J := (tk_rfl hfu)
  have hF := fe_of (fn_X10_wet.eq_1 x came I J)
  refine g_aload_n d_X10_wet_0 rfl ?_
  refine g_getR d_X10_wet_1 fq_RX10_7 rfl rfl ?_
  refine g_iload_n d_X10_wet_4 rfl ?_
  refine g_bipush (v := 60) d_X10_wet_5 kB_60 ?_
  refine g_iadd d_X10_wet_7 ?_
  refine g_dup2 d_X10_wet_8 rfl rfl ?_
  refine g_laload (N := 320) d_X10_wet_9 rfl kT_320 (ixc hx (by decide)) (by rw [tnc hx (by decide), kN_60]) ?_
  refine g_lload_n d_X10_wet_10 rfl ?_
  refine g_ladd d_X10_wet_11 ?_
  refine g_lastore (N := 320) d_X10_wet_12 rfl kT_320 (ixc hx (by decide)) (by rw [tnc hx (by decide), kN_60])  ?_
  refine g_nmJ (fun J1 eJ1 => ?_)
  replace hF := fe_lt hF eJ1
  have hK2 : TK x.toNatClampNeg J J1 := (by rw [eJ1]; exact tk_w hK0 (by unfold KP; omega) (fun hh => absurd hh (by omega)))
  refine g_aload_n d_X10_wet_13 rfl ?_
  refine g_iload_n d_X10_wet_14 rfl ?_
  refine g_iconst (v := 3) d_X10_wet_15 kI_3 ?_
  refine g_V2 d_X10_wet_16 cs_X10_wet_X10_warm lk_RX10_200 im_X10_warm se_X10_warm rfl rfl rfl (Nat.le_of_ble_eq_true rfl) ⟨rfl, rfl⟩ ⟨Nat.zero_le _, Nat.zero_le _⟩ (ct_X10_warm x (3 : Int32) I J1 hx (by grind) (by grind)) (fun r16 S16 Ic4 Jc5 q16_2 => ?_)
  obtain ⟨rfl, rfl, rfl, r8, rfl, hf16_6⟩ := q16_2
  replace hF := fe_b3 hF hf16_6
  refine g_st (st' := [.long r8]) rfl ?_
  refine g_lstore (L' := [some (.ref 78), some (.int x), some (.long came), none, some (.long r8), none, none, none, none, none]) d_X10_wet_19 (by decide) rfl ?_
  refine g_lload d_X10_wet_21 rfl ?_
  refine g_lconst d_X10_wet_23 kL_0 ?_
  refine g_lcmp_ge d_X10_wet_24 d_X10_wet_25 (fun h25 => ?_) (fun h25 => ?_)
  · skip
    replace hF := fe_pos hF h25
    refine g_aload_n d_X10_wet_93 rfl ?_
    refine g_getR d_X10_wet_94 fq_RX10_7 rfl rfl ?_
    refine g_iload_n d_X10_wet_97 rfl ?_
    refine g_bipush (v := 62) d_X10_wet_98 kB_62 ?_
    refine g_iadd d_X10_wet_100 ?_
    refine g_dup2 d_X10_wet_101 rfl rfl ?_
    refine g_laload (N := 320) d_X10_wet_102 rfl kT_320 (ixc hx (by decide)) (by rw [tnc hx (by decide), kN_62]) ?_
    refine g_lload_n d_X10_wet_103 rfl ?_
    refine g_ladd d_X10_wet_104 ?_
    refine g_lastore (N := 320) d_X10_wet_105 rfl kT_320 (ixc hx (by decide)) (by rw [tnc hx (by decide), kN_62])  ?_
    refine g_nmJ (fun J10 eJ10 => ?_)
    replace hF := fe_lt hF eJ10
    have hK11 : TK x.toNatClampNeg J J10 := (by rw [eJ10]; exact tk_w hK2 (by unfold KP; omega) (fun hh => absurd hh (by omega)))
    refine g_lload d_X10_wet_106 rfl ?_
    refine g_ldc2 (v := 20) d_X10_wet_108 tw_1343 ?_
    refine g_ldiv d_X10_wet_111 (by decide) ?_
    refine g_lconst d_X10_wet_112 kL_1 ?_
    refine g_ladd d_X10_wet_113 ?_
    refine g_topJ (fun v12 ev12 => ?_)
    replace hF := fe_lt hF ev12
    refine g_lstore (L' := [some (.ref 78), some (.int x), some (.long came), none, some (.long r8), none, some (.long v12), none, none, none]) d_X10_wet_114 (by decide) rfl ?_
    have hme : 1 ≤ v12 := by rw [ev12]; exact melt_pos (by grind)
    have hfu2 : 0 ≤ J10 79 (x.toNatClampNeg + 53) ∧ J10 79 (x.toNatClampNeg + 53) ≤ 9999 := hK11.2.2
    refine g_lload d_X10_wet_116 rfl ?_
    refine g_aload_n d_X10_wet_118 rfl ?_
    refine g_getR d_X10_wet_119 fq_RX10_7 rfl rfl ?_
    refine g_iload_n d_X10_wet_122 rfl ?_
    refine g_bipush (v := 53) d_X10_wet_123 kB_53 ?_
    refine g_iadd d_X10_wet_125 ?_
    refine g_laload (N := 320) d_X10_wet_126 rfl kT_320 (ixc hx (by decide)) (by rw [tnc hx (by decide), kN_53]) ?_
    obtain ⟨j145_0, hj145_0, hF⟩ := fe_jx hF
    have J_145 : ∀ (w13 : Int64), (0 ≤ J10 79 (x.toNatClampNeg + 53) - w13 ∧ J10 79 (x.toNatClampNeg + 53) - w13 ≤ 9999) → (FE (fn_X10_wet x came I J) (fun _ => j145_0 w13)) → G m_X10_wet (rq m_X10_wet (fun r S' I' J' => S' = SHF ∧ (I = I' ∧ TK x.toNatClampNeg J J') ∧ r = none ∧ fn_X10_wet x came I J = (I', J'))) 0 0 145 [some (.ref 78), some (.int x), some (.long came), none, some (.long r8), none, some (.long v12), none, none, none] [.long w13] SHF I J10 := by
      intro w13 hm_145 hF_j145_0
      have hF := fe_eq hF_j145_0 (congrFun hj145_0 w13)
      refine g_lstore (L' := [some (.ref 78), some (.int x), some (.long came), none, some (.long r8), none, some (.long w13), none, none, none]) d_X10_wet_145 (by decide) rfl ?_
      refine g_aload_n d_X10_wet_147 rfl ?_
      refine g_getR d_X10_wet_148 fq_RX10_7 rfl rfl ?_
      refine g_iload_n d_X10_wet_151 rfl ?_
      refine g_bipush (v := 53) d_X10_wet_152 kB_53 ?_
      refine g_iadd d_X10_wet_154 ?_
      refine g_dup2 d_X10_wet_155 rfl rfl ?_
      refine g_laload (N := 320) d_X10_wet_156 rfl kT_320 (ixc hx (by decide)) (by rw [tnc hx (by decide), kN_53]) ?_
      refine g_lload d_X10_wet_157 rfl ?_
      refine g_lsub d_X10_wet_159 ?_
      refine g_lastore (N := 320) d_X10_wet_160 rfl kT_320 (ixc hx (by decide)) (by rw [tnc hx (by decide), kN_53])  ?_
      refine g_nmJ (fun J14 eJ14 => ?_)
      replace hF := fe_lt hF eJ14
      have hK15 : TK x.toNatClampNeg J J14 := (by rw [eJ14]; exact tk_w hK11 (by unfold KP; omega) (fun _ => hm_145))
      refine g_aload_n d_X10_wet_161 rfl ?_
      refine g_getR d_X10_wet_162 fq_RX10_7 rfl rfl ?_
      refine g_iload_n d_X10_wet_165 rfl ?_
      refine g_bipush (v := 61) d_X10_wet_166 kB_61 ?_
      refine g_iadd d_X10_wet_168 ?_
      refine g_dup2 d_X10_wet_169 rfl rfl ?_
      refine g_laload (N := 320) d_X10_wet_170 rfl kT_320 (ixc hx (by decide)) (by rw [tnc hx (by decide), kN_61]) ?_
      refine g_lload d_X10_wet_171 rfl ?_
      refine g_ladd d_X10_wet_173 ?_
      refine g_lastore (N := 320) d_X10_wet_174 rfl kT_320 (ixc hx (by decide)) (by rw [tnc hx (by decide), kN_61])  ?_
      refine g_nmJ (fun J16 eJ16 => ?_)
      replace hF := fe_lt hF eJ16
      have hK17 : TK x.toNatClampNeg J J16 := (by rw [eJ16]; exact tk_w hK15 (by unfold KP; omega) (fun hh => absurd hh (by omega)))
      exact g_return d_X10_wet_175 rfl rfl rfl ⟨rfl, ⟨rfl, hK17⟩, rfl, hF⟩
    refine g_lcmp_le d_X10_wet_127 d_X10_wet_128 (fun h128 => ?_) (fun h128 => ?_)
    · skip
      replace hF := fe_pos hF h128
      refine g_lload d_X10_wet_143 rfl ?_
      exact J_145 v12 (by grind) hF
    · skip
      replace hF := fe_neg hF h128
      refine g_aload_n d_X10_wet_131 rfl ?_
      refine g_getR d_X10_wet_132 fq_RX10_7 rfl rfl ?_
      refine g_iload_n d_X10_wet_135 rfl ?_
      refine g_bipush (v := 53) d_X10_wet_136 kB_53 ?_
      refine g_iadd d_X10_wet_138 ?_
      refine g_laload (N := 320) d_X10_wet_139 rfl kT_320 (ixc hx (by decide)) (by rw [tnc hx (by decide), kN_53]) ?_
      refine g_goto d_X10_wet_140 ?_
      exact J_145 ((J10 79 (x.toNatClampNeg + 53))) (by grind) hF
  · skip
    replace hF := fe_neg hF h25
    have hfu1 : 0 ≤ J1 79 (x.toNatClampNeg + 53) ∧ J1 79 (x.toNatClampNeg + 53) ≤ 9999 := hK2.2.2
    refine g_aload_n d_X10_wet_28 rfl ?_
    refine g_getR d_X10_wet_29 fq_RX10_7 rfl rfl ?_
    refine g_iload_n d_X10_wet_32 rfl ?_
    refine g_bipush (v := 53) d_X10_wet_33 kB_53 ?_
    refine g_iadd d_X10_wet_35 ?_
    refine g_laload (N := 320) d_X10_wet_36 rfl kT_320 (ixc hx (by decide)) (by rw [tnc hx (by decide), kN_53]) ?_
    refine g_lload_n d_X10_wet_37 rfl ?_
    refine g_ladd d_X10_wet_38 ?_
    refine g_topJ (fun v18 ev18 => ?_)
    replace hF := fe_lt hF ev18
    refine g_lstore (L' := [some (.ref 78), some (.int x), some (.long came), none, some (.long r8), none, some (.long v18), none, none, none]) d_X10_wet_39 (by decide) rfl ?_
    refine g_lload d_X10_wet_41 rfl ?_
    refine g_ldc2 (v := 9999) d_X10_wet_43 tw_1404 ?_
    obtain ⟨j60_1, hj60_1, hF⟩ := fe_jx hF
    have J_60 : ∀ (w19 : Int64), (0 ≤ v18 - w19 ∧ v18 - w19 ≤ 9999) → (FE (fn_X10_wet x came I J) (fun _ => j60_1 w19)) → G m_X10_wet (rq m_X10_wet (fun r S' I' J' => S' = SHF ∧ (I = I' ∧ TK x.toNatClampNeg J J') ∧ r = none ∧ fn_X10_wet x came I J = (I', J'))) 0 0 60 [some (.ref 78), some (.int x), some (.long came), none, some (.long r8), none, some (.long v18), none, none, none] [.long w19] SHF I J1 := by
      intro w19 hm_60 hF_j60_1
      have hF := fe_eq hF_j60_1 (congrFun hj60_1 w19)
      refine g_lstore (L' := [some (.ref 78), some (.int x), some (.long came), none, some (.long r8), none, some (.long v18), none, some (.long w19), none]) d_X10_wet_60 (by decide) rfl ?_
      refine g_aload_n d_X10_wet_62 rfl ?_
      refine g_getR d_X10_wet_63 fq_RX10_7 rfl rfl ?_
      refine g_iload_n d_X10_wet_66 rfl ?_
      refine g_bipush (v := 53) d_X10_wet_67 kB_53 ?_
      refine g_iadd d_X10_wet_69 ?_
      refine g_lload d_X10_wet_70 rfl ?_
      refine g_lload d_X10_wet_72 rfl ?_
      refine g_lsub d_X10_wet_74 ?_
      refine g_lastore (N := 320) d_X10_wet_75 rfl kT_320 (ixc hx (by decide)) (by rw [tnc hx (by decide), kN_53])  ?_
      refine g_nmJ (fun J20 eJ20 => ?_)
      replace hF := fe_lt hF eJ20
      have hK21 : TK x.toNatClampNeg J J20 := (by rw [eJ20]; exact tk_w hK2 (by unfold KP; omega) (fun _ => hm_60))
      refine g_aload_n d_X10_wet_76 rfl ?_
      refine g_getR d_X10_wet_77 fq_RX10_7 rfl rfl ?_
      refine g_iload_n d_X10_wet_80 rfl ?_
      refine g_bipush (v := 62) d_X10_wet_81 kB_62 ?_
      refine g_iadd d_X10_wet_83 ?_
      refine g_dup2 d_X10_wet_84 rfl rfl ?_
      refine g_laload (N := 320) d_X10_wet_85 rfl kT_320 (ixc hx (by decide)) (by rw [tnc hx (by decide), kN_62]) ?_
      refine g_lload d_X10_wet_86 rfl ?_
      refine g_ladd d_X10_wet_88 ?_
      refine g_lastore (N := 320) d_X10_wet_89 rfl kT_320 (ixc hx (by decide)) (by rw [tnc hx (by decide), kN_62])  ?_
      refine g_nmJ (fun J22 eJ22 => ?_)
      replace hF := fe_lt hF eJ22
      have hK23 : TK x.toNatClampNeg J J22 := (by rw [eJ22]; exact tk_w hK21 (by unfold KP; omega) (fun hh => absurd hh (by omega)))
      refine g_goto d_X10_wet_90 ?_
      exact g_return d_X10_wet_175 rfl rfl rfl ⟨rfl, ⟨rfl, hK23⟩, rfl, hF⟩
    refine g_lcmp_le d_X10_wet_46 d_X10_wet_47 (fun h47 => ?_) (fun h47 => ?_)
    · skip
      replace hF := fe_pos hF h47
      refine g_lconst d_X10_wet_59 kL_0 ?_
      exact J_60 ((0 : Int64)) (by grind) hF
    · skip
      replace hF := fe_neg hF h47
      refine g_lload d_X10_wet_50 rfl ?_
      refine g_ldc2 (v := 9999) d_X10_wet_52 tw_1404 ?_
      refine g_lsub d_X10_wet_55 ?_
      refine g_goto d_X10_wet_56 ?_
      exact J_60 ((v18 - (9999 : Int64))) (by grind) hF
noncomputable def fn_X10_readBulb (x : Int32) (shelf : Int32) (less : Int32) (I : Iv) (J : Jv) : Iv × Jv :=
  b_n3 (fn_X10_warm x shelf I J) (fun (r6 : Int64) (_ : Iv) (_ : Jv) => l_t ((J 79 (x.toNatClampNeg + 67))) (fun (v8 : Int64) => j_n (fun (w9 : Int64) => l_t (wJ J 79 (x.toNatClampNeg + 67) w9) (fun (J10 : Jv) => j_n (fun (w12 : Int32) => j_n (fun (w13 : Int32) => j_n (fun (w14 : Int32) => j_n (fun (w15 : Int32) => j_n (fun (w16 : Int32) => b_n3 (fn_X10_one w16 I J10) (fun (r22 : Int32) (_ : Iv) (_ : Jv) => l_t (wJ J10 79 (x.toNatClampNeg + 66) (Int32.toInt64 r22)) (fun (J24 : Jv) => j_n (fun (w26 : Int32) => b_n3 (fn_X10_one w26 I J24) (fun (r32 : Int32) (_ : Iv) (_ : Jv) => l_t (wJ J24 79 (x.toNatClampNeg + 64) ((J24 79 (x.toNatClampNeg + 64)) + (Int32.toInt64 r32))) (fun (J34 : Jv) => b_n3 (fn_X10_one w16 I J34) (fun (r41 : Int32) (_ : Iv) (_ : Jv) => l_t (wJ J34 79 (x.toNatClampNeg + 65) ((J34 79 (x.toNatClampNeg + 65)) + (Int32.toInt64 r41))) (fun (J43 : Jv) => (I, J43)))))) (fun (j247_6 : Int32 → Iv × Jv) => j_n (j247_6 ((0 : Int32))) (fun (j246_7 : Iv × Jv) => if w16 = 0 then j246_7 else if w12 = 0 then j247_6 ((1 : Int32)) else j246_7))))) (fun (j205_5 : Int32 → Iv × Jv) => j_n (j205_5 ((1 : Int32))) (fun (j200_8 : Iv × Jv) => if w14 = 0 then j_n (j205_5 ((0 : Int32))) (fun (j204_9 : Iv × Jv) => if w15 = 0 then if w12 = 0 then j204_9 else j200_8 else j204_9) else j200_8))) (fun (j183_4 : Int32 → Iv × Jv) => j_n (j183_4 ((1 : Int32))) (fun (j178_10 : Iv × Jv) => if w13 = 0 then j178_10 else if ((10 : Int64) * (Int32.toInt64 ((I 81 7) - less))) < w9 then j183_4 ((0 : Int32)) else j178_10))) (fun (j151_3 : Int32 → Iv × Jv) => j_n (j151_3 ((0 : Int32))) (fun (j150_11 : Iv × Jv) => if w13 = 0 then j150_11 else b_n3 (fn_X10_has (J10 79 (x.toNatClampNeg + 52)) (4 : Int32) I J10) (fun (r50 : Int32) (_ : Iv) (_ : Jv) => j_n (j151_3 ((1 : Int32))) (fun (j146_12 : Iv × Jv) => if r50 = 0 then if w9 < ((10 : Int64) * (Int32.toInt64 ((I 81 6) - less))) then j150_11 else j146_12 else j146_12))))) (fun (j103_2 : Int32 → Iv × Jv) => if (J10 79 (x.toNatClampNeg + 69)) = (1 : Int64) then j103_2 ((1 : Int32)) else j103_2 ((0 : Int32)))) (fun (j82_1 : Int32 → Iv × Jv) => if (J10 79 (x.toNatClampNeg + 66)) = (1 : Int64) then j82_1 ((1 : Int32)) else j82_1 ((0 : Int32))))) (fun (j50_0 : Int64 → Iv × Jv) => if (J 79 (x.toNatClampNeg + 68)) = (1 : Int64) then j50_0 ((v8 + ((r6 - v8) / (8 : Int64)))) else j50_0 r6)))
set_option maxRecDepth 100000 in
set_option maxHeartbeats 4000000 in
theorem ct_X10_readBulb (x : Int32) (shelf : Int32) (less : Int32) (I : Iv) (J : Jv) (hx : HX x) (hfu : FU x.toNatClampNeg J) (hsh : 0 ≤ shelf ∧ shelf ≤ 2) : Ct m_X10_readBulb [.ref 78, .int x, .int shelf, .int less] SHF I J (fun r S' I' J' => S' = SHF ∧ (I = I' ∧ TK x.toNatClampNeg J J') ∧ r = none ∧ fn_X10_readBulb x shelf less I J = (I', J')) := by
  refine ct_of 11 (by decide +kernel) rfl rfl ?_
  have hK0 : TK x.toNatClampNeg J J := (tk_rfl hfu)
  have hF := fe_of (fn_X10_readBulb.eq_1 x shelf less I J)
  refine g_aload_n d_X10_readBulb_0 rfl ?_
  refine g_iload_n d_X10_readBulb_1 rfl ?_
  refine g_iload_n d_X10_readBulb_2 rfl ?_
  refine g_V2 d_X10_readBulb_3 cs_X10_readBulb_X10_warm lk_RX10_200 im_X10_warm se_X10_warm rfl rfl rfl (Nat.le_of_ble_eq_true rfl) ⟨rfl, rfl⟩ ⟨Nat.zero_le _, Nat.zero_le _⟩ (ct_X10_warm x shelf I J hx (by grind) (by grind)) (fun r3 S3 Ic2 Jc3 q3_0 => ?_)
  obtain ⟨rfl, rfl, rfl, r6, rfl, hf3_4⟩ := q3_0
  replace hF := fe_b3 hF hf3_4
  refine g_st (st' := [.long r6]) rfl ?_
  refine g_lstore (L' := [some (.ref 78), some (.int x), some (.int shelf), some (.int less), some (.long r6), none, none, none, none, none, none, none, none, none, none]) d_X10_readBulb_6 (by decide) rfl ?_
  refine g_aload_n d_X10_readBulb_8 rfl ?_
  refine g_getR d_X10_readBulb_9 fq_RX10_7 rfl rfl ?_
  refine g_iload_n d_X10_readBulb_12 rfl ?_
  refine g_bipush (v := 67) d_X10_readBulb_13 kB_67 ?_
  refine g_iadd d_X10_readBulb_15 ?_
  refine g_laload (N := 320) d_X10_readBulb_16 rfl kT_320 (ixc hx (by decide)) (by rw [tnc hx (by decide), kN_67]) ?_
  refine g_topJ (fun v8 ev8 => ?_)
  replace hF := fe_lt hF ev8
  refine g_lstore (L' := [some (.ref 78), some (.int x), some (.int shelf), some (.int less), some (.long r6), none, some (.long v8), none, none, none, none, none, none, none, none]) d_X10_readBulb_17 (by decide) rfl ?_
  refine g_aload_n d_X10_readBulb_19 rfl ?_
  refine g_getR d_X10_readBulb_20 fq_RX10_7 rfl rfl ?_
  refine g_iload_n d_X10_readBulb_23 rfl ?_
  refine g_bipush (v := 68) d_X10_readBulb_24 kB_68 ?_
  refine g_iadd d_X10_readBulb_26 ?_
  refine g_laload (N := 320) d_X10_readBulb_27 rfl kT_320 (ixc hx (by decide)) (by rw [tnc hx (by decide), kN_68]) ?_
  refine g_lconst d_X10_readBulb_28 kL_1 ?_
  obtain ⟨j50_0, hj50_0, hF⟩ := fe_jx hF
  have J_50 : ∀ (w9 : Int64), (FE (fn_X10_readBulb x shelf less I J) (fun _ => j50_0 w9)) → G m_X10_readBulb (rq m_X10_readBulb (fun r S' I' J' => S' = SHF ∧ (I = I' ∧ TK x.toNatClampNeg J J') ∧ r = none ∧ fn_X10_readBulb x shelf less I J = (I', J'))) 0 0 50 [some (.ref 78), some (.int x), some (.int shelf), some (.int less), some (.long r6), none, some (.long v8), none, none, none, none, none, none, none, none] [.long w9] SHF I J := by
    intro w9 hF_j50_0
    have hF := fe_eq hF_j50_0 (congrFun hj50_0 w9)
    refine g_lstore (L' := [some (.ref 78), some (.int x), some (.int shelf), some (.int less), some (.long r6), none, some (.long v8), none, some (.long w9), none, none, none, none, none, none]) d_X10_readBulb_50 (by decide) rfl ?_
    refine g_aload_n d_X10_readBulb_52 rfl ?_
    refine g_getR d_X10_readBulb_53 fq_RX10_7 rfl rfl ?_
    refine g_iload_n d_X10_readBulb_56 rfl ?_
    refine g_bipush (v := 67) d_X10_readBulb_57 kB_67 ?_
    refine g_iadd d_X10_readBulb_59 ?_
    refine g_lload d_X10_readBulb_60 rfl ?_
    refine g_lastore (N := 320) d_X10_readBulb_62 rfl kT_320 (ixc hx (by decide)) (by rw [tnc hx (by decide), kN_67])  ?_
    refine g_nmJ (fun J10 eJ10 => ?_)
    replace hF := fe_lt hF eJ10
    have hK11 : TK x.toNatClampNeg J J10 := (by rw [eJ10]; exact tk_w hK0 (by unfold KP; omega) (fun hh => absurd hh (by omega)))
    refine g_aload_n d_X10_readBulb_63 rfl ?_
    refine g_getR d_X10_readBulb_64 fq_RX10_7 rfl rfl ?_
    refine g_iload_n d_X10_readBulb_67 rfl ?_
    refine g_bipush (v := 66) d_X10_readBulb_68 kB_66 ?_
    refine g_iadd d_X10_readBulb_70 ?_
    refine g_laload (N := 320) d_X10_readBulb_71 rfl kT_320 (ixc hx (by decide)) (by rw [tnc hx (by decide), kN_66]) ?_
    refine g_lconst d_X10_readBulb_72 kL_1 ?_
    obtain ⟨j82_1, hj82_1, hF⟩ := fe_jx hF
    have J_82 : ∀ (w12 : Int32), (w12 = 0 ∨ w12 = 1) → (FE (fn_X10_readBulb x shelf less I J) (fun _ => j82_1 w12)) → G m_X10_readBulb (rq m_X10_readBulb (fun r S' I' J' => S' = SHF ∧ (I = I' ∧ TK x.toNatClampNeg J J') ∧ r = none ∧ fn_X10_readBulb x shelf less I J = (I', J'))) 0 0 82 [some (.ref 78), some (.int x), some (.int shelf), some (.int less), some (.long r6), none, some (.long v8), none, some (.long w9), none, none, none, none, none, none] [.int w12] SHF I J10 := by
      intro w12 hw12 hF_j82_1
      have hF := fe_eq hF_j82_1 (congrFun hj82_1 w12)
      refine g_istore (L' := [some (.ref 78), some (.int x), some (.int shelf), some (.int less), some (.long r6), none, some (.long v8), none, some (.long w9), none, some (.int w12), none, none, none, none]) d_X10_readBulb_82 (by decide) rfl ?_
      refine g_aload_n d_X10_readBulb_84 rfl ?_
      refine g_getR d_X10_readBulb_85 fq_RX10_7 rfl rfl ?_
      refine g_iload_n d_X10_readBulb_88 rfl ?_
      refine g_bipush (v := 69) d_X10_readBulb_89 kB_69 ?_
      refine g_iadd d_X10_readBulb_91 ?_
      refine g_laload (N := 320) d_X10_readBulb_92 rfl kT_320 (ixc hx (by decide)) (by rw [tnc hx (by decide), kN_69]) ?_
      refine g_lconst d_X10_readBulb_93 kL_1 ?_
      obtain ⟨j103_2, hj103_2, hF⟩ := fe_jx hF
      have J_103 : ∀ (w13 : Int32), (w13 = 0 ∨ w13 = 1) → (FE (fn_X10_readBulb x shelf less I J) (fun _ => j103_2 w13)) → G m_X10_readBulb (rq m_X10_readBulb (fun r S' I' J' => S' = SHF ∧ (I = I' ∧ TK x.toNatClampNeg J J') ∧ r = none ∧ fn_X10_readBulb x shelf less I J = (I', J'))) 0 0 103 [some (.ref 78), some (.int x), some (.int shelf), some (.int less), some (.long r6), none, some (.long v8), none, some (.long w9), none, some (.int w12), none, none, none, none] [.int w13] SHF I J10 := by
        intro w13 hw13 hF_j103_2
        have hF := fe_eq hF_j103_2 (congrFun hj103_2 w13)
        refine g_istore (L' := [some (.ref 78), some (.int x), some (.int shelf), some (.int less), some (.long r6), none, some (.long v8), none, some (.long w9), none, some (.int w12), some (.int w13), none, none, none]) d_X10_readBulb_103 (by decide) rfl ?_
        refine g_iload d_X10_readBulb_105 rfl ?_
        obtain ⟨j151_3, hj151_3, hF⟩ := fe_jx hF
        have J_151 : ∀ (w14 : Int32), (w14 = 0 ∨ w14 = 1) → (FE (fn_X10_readBulb x shelf less I J) (fun _ => j151_3 w14)) → G m_X10_readBulb (rq m_X10_readBulb (fun r S' I' J' => S' = SHF ∧ (I = I' ∧ TK x.toNatClampNeg J J') ∧ r = none ∧ fn_X10_readBulb x shelf less I J = (I', J'))) 0 0 151 [some (.ref 78), some (.int x), some (.int shelf), some (.int less), some (.long r6), none, some (.long v8), none, some (.long w9), none, some (.int w12), some (.int w13), none, none, none] [.int w14] SHF I J10 := by
          intro w14 hw14 hF_j151_3
          have hF := fe_eq hF_j151_3 (congrFun hj151_3 w14)
          refine g_istore (L' := [some (.ref 78), some (.int x), some (.int shelf), some (.int less), some (.long r6), none, some (.long v8), none, some (.long w9), none, some (.int w12), some (.int w13), some (.int w14), none, none]) d_X10_readBulb_151 (by decide) rfl ?_
          refine g_iload d_X10_readBulb_153 rfl ?_
          obtain ⟨j183_4, hj183_4, hF⟩ := fe_jx hF
          have J_183 : ∀ (w15 : Int32), (w15 = 0 ∨ w15 = 1) → (FE (fn_X10_readBulb x shelf less I J) (fun _ => j183_4 w15)) → G m_X10_readBulb (rq m_X10_readBulb (fun r S' I' J' => S' = SHF ∧ (I = I' ∧ TK x.toNatClampNeg J J') ∧ r = none ∧ fn_X10_readBulb x shelf less I J = (I', J'))) 0 0 183 [some (.ref 78), some (.int x), some (.int shelf), some (.int less), some (.long r6), none, some (.long v8), none, some (.long w9), none, some (.int w12), some (.int w13), some (.int w14), none, none] [.int w15] SHF I J10 := by
            intro w15 hw15 hF_j183_4
            have hF := fe_eq hF_j183_4 (congrFun hj183_4 w15)
            refine g_istore (L' := [some (.ref 78), some (.int x), some (.int shelf), some (.int less), some (.long r6), none, some (.long v8), none, some (.long w9), none, some (.int w12), some (.int w13), some (.int w14), some (.int w15), none]) d_X10_readBulb_183 (by decide) rfl ?_
            refine g_iload d_X10_readBulb_185 rfl ?_
            obtain ⟨j205_5, hj205_5, hF⟩ := fe_jx hF
            have J_205 : ∀ (w16 : Int32), (w16 = 0 ∨ w16 = 1) → (FE (fn_X10_readBulb x shelf less I J) (fun _ => j205_5 w16)) → G m_X10_readBulb (rq m_X10_readBulb (fun r S' I' J' => S' = SHF ∧ (I = I' ∧ TK x.toNatClampNeg J J') ∧ r = none ∧ fn_X10_readBulb x shelf less I J = (I', J'))) 0 0 205 [some (.ref 78), some (.int x), some (.int shelf), some (.int less), some (.long r6), none, some (.long v8), none, some (.long w9), none, some (.int w12), some (.int w13), some (.int w14), some (.int w15), none] [.int w16] SHF I J10 := by
              intro w16 hw16 hF_j205_5
              have hF := fe_eq hF_j205_5 (congrFun hj205_5 w16)
              refine g_istore (L' := [some (.ref 78), some (.int x), some (.int shelf), some (.int less), some (.long r6), none, some (.long v8), none, some (.long w9), none, some (.int w12), some (.int w13), some (.int w14), some (.int w15), some (.int w16)]) d_X10_readBulb_205 (by decide) rfl ?_
              refine g_aload_n d_X10_readBulb_207 rfl ?_
              refine g_getR d_X10_readBulb_208 fq_RX10_7 rfl rfl ?_
              refine g_iload_n d_X10_readBulb_211 rfl ?_
              refine g_bipush (v := 66) d_X10_readBulb_212 kB_66 ?_
              refine g_iadd d_X10_readBulb_214 ?_
              refine g_iload d_X10_readBulb_215 rfl ?_
              refine g_S1 d_X10_readBulb_217 cs_X10_readBulb_X10_one lk_RX10_211 im_X10_one (Nat.le_of_ble_eq_true rfl) ⟨rfl, rfl⟩ ⟨Nat.zero_le _, Nat.zero_le _⟩ (ct_X10_one w16 I J10 ) (fun r217 S217 Ic18 Jc19 q217_16 => ?_)
              obtain ⟨rfl, rfl, rfl, r22, rfl, hf217_20, hr217_22⟩ := q217_16
              replace hF := fe_b3 hF hf217_20
              refine g_st (st' := [.int r22, .int (x + (66 : Int32)), .ref 79]) rfl ?_
              refine g_i2l d_X10_readBulb_220 ?_
              refine g_lastore (N := 320) d_X10_readBulb_221 rfl kT_320 (ixc hx (by decide)) (by rw [tnc hx (by decide), kN_66])  ?_
              refine g_nmJ (fun J24 eJ24 => ?_)
              replace hF := fe_lt hF eJ24
              have hK25 : TK x.toNatClampNeg J J24 := (by rw [eJ24]; exact tk_w hK11 (by unfold KP; omega) (fun hh => absurd hh (by omega)))
              refine g_aload_n d_X10_readBulb_222 rfl ?_
              refine g_getR d_X10_readBulb_223 fq_RX10_7 rfl rfl ?_
              refine g_iload_n d_X10_readBulb_226 rfl ?_
              refine g_bipush (v := 64) d_X10_readBulb_227 kB_64 ?_
              refine g_iadd d_X10_readBulb_229 ?_
              refine g_dup2 d_X10_readBulb_230 rfl rfl ?_
              refine g_laload (N := 320) d_X10_readBulb_231 rfl kT_320 (ixc hx (by decide)) (by rw [tnc hx (by decide), kN_64]) ?_
              refine g_iload d_X10_readBulb_232 rfl ?_
              obtain ⟨j247_6, hj247_6, hF⟩ := fe_jx hF
              have J_247 : ∀ (w26 : Int32), (w26 = 0 ∨ w26 = 1) → (FE (fn_X10_readBulb x shelf less I J) (fun _ => j247_6 w26)) → G m_X10_readBulb (rq m_X10_readBulb (fun r S' I' J' => S' = SHF ∧ (I = I' ∧ TK x.toNatClampNeg J J') ∧ r = none ∧ fn_X10_readBulb x shelf less I J = (I', J'))) 0 0 247 [some (.ref 78), some (.int x), some (.int shelf), some (.int less), some (.long r6), none, some (.long v8), none, some (.long w9), none, some (.int w12), some (.int w13), some (.int w14), some (.int w15), some (.int w16)] [.int w26, .long (J24 79 (x.toNatClampNeg + 64)), .int (x + (64 : Int32)), .ref 79] SHF I J24 := by
                intro w26 hw26 hF_j247_6
                have hF := fe_eq hF_j247_6 (congrFun hj247_6 w26)
                refine g_S1 d_X10_readBulb_247 cs_X10_readBulb_X10_one lk_RX10_211 im_X10_one (Nat.le_of_ble_eq_true rfl) ⟨rfl, rfl⟩ ⟨Nat.zero_le _, Nat.zero_le _⟩ (ct_X10_one w26 I J24 ) (fun r247 S247 Ic28 Jc29 q247_26 => ?_)
                obtain ⟨rfl, rfl, rfl, r32, rfl, hf247_30, hr247_32⟩ := q247_26
                replace hF := fe_b3 hF hf247_30
                refine g_st (st' := [.int r32, .long (J24 79 (x.toNatClampNeg + 64)), .int (x + (64 : Int32)), .ref 79]) rfl ?_
                refine g_i2l d_X10_readBulb_250 ?_
                refine g_ladd d_X10_readBulb_251 ?_
                refine g_lastore (N := 320) d_X10_readBulb_252 rfl kT_320 (ixc hx (by decide)) (by rw [tnc hx (by decide), kN_64])  ?_
                refine g_nmJ (fun J34 eJ34 => ?_)
                replace hF := fe_lt hF eJ34
                have hK35 : TK x.toNatClampNeg J J34 := (by rw [eJ34]; exact tk_w hK25 (by unfold KP; omega) (fun hh => absurd hh (by omega)))
                refine g_aload_n d_X10_readBulb_253 rfl ?_
                refine g_getR d_X10_readBulb_254 fq_RX10_7 rfl rfl ?_
                refine g_iload_n d_X10_readBulb_257 rfl ?_
                refine g_bipush (v := 65) d_X10_readBulb_258 kB_65 ?_
                refine g_iadd d_X10_readBulb_260 ?_
                refine g_dup2 d_X10_readBulb_261 rfl rfl ?_
                refine g_laload (N := 320) d_X10_readBulb_262 rfl kT_320 (ixc hx (by decide)) (by rw [tnc hx (by decide), kN_65]) ?_
                refine g_iload d_X10_readBulb_263 rfl ?_
                refine g_S1 d_X10_readBulb_265 cs_X10_readBulb_X10_one lk_RX10_211 im_X10_one (Nat.le_of_ble_eq_true rfl) ⟨rfl, rfl⟩ ⟨Nat.zero_le _, Nat.zero_le _⟩ (ct_X10_one w16 I J34 ) (fun r265 S265 Ic37 Jc38 q265_35 => ?_)
                obtain ⟨rfl, rfl, rfl, r41, rfl, hf265_39, hr265_41⟩ := q265_35
                replace hF := fe_b3 hF hf265_39
                refine g_st (st' := [.int r41, .long (J34 79 (x.toNatClampNeg + 65)), .int (x + (65 : Int32)), .ref 79]) rfl ?_
                refine g_i2l d_X10_readBulb_268 ?_
                refine g_ladd d_X10_readBulb_269 ?_
                refine g_lastore (N := 320) d_X10_readBulb_270 rfl kT_320 (ixc hx (by decide)) (by rw [tnc hx (by decide), kN_65])  ?_
                refine g_nmJ (fun J43 eJ43 => ?_)
                replace hF := fe_lt hF eJ43
                have hK44 : TK x.toNatClampNeg J J43 := (by rw [eJ43]; exact tk_w hK35 (by unfold KP; omega) (fun hh => absurd hh (by omega)))
                exact g_return d_X10_readBulb_271 rfl rfl rfl ⟨rfl, ⟨rfl, hK44⟩, rfl, hF⟩
              obtain ⟨j246_7, hj246_7, hF⟩ := fe_jx hF
              have J_246 : (FE (fn_X10_readBulb x shelf less I J) (fun _ => j246_7)) → G m_X10_readBulb (rq m_X10_readBulb (fun r S' I' J' => S' = SHF ∧ (I = I' ∧ TK x.toNatClampNeg J J') ∧ r = none ∧ fn_X10_readBulb x shelf less I J = (I', J'))) 0 0 246 [some (.ref 78), some (.int x), some (.int shelf), some (.int less), some (.long r6), none, some (.long v8), none, some (.long w9), none, some (.int w12), some (.int w13), some (.int w14), some (.int w15), some (.int w16)] [.long (J24 79 (x.toNatClampNeg + 64)), .int (x + (64 : Int32)), .ref 79] SHF I J24 := by
                intro hF_j246_7
                have hF := fe_eq hF_j246_7 hj246_7
                refine g_iconst (v := 0) d_X10_readBulb_246 kI_0 ?_
                exact J_247 ((0 : Int32)) (Or.inl rfl) hF
              refine g_if_eq d_X10_readBulb_234 (fun h234 => ?_) (fun h234 => ?_)
              · skip
                replace hF := fe_pos hF h234
                exact J_246 hF
              · skip
                replace hF := fe_neg hF h234
                refine g_iload d_X10_readBulb_237 rfl ?_
                refine g_if_ne d_X10_readBulb_239 (fun h239 => ?_) (fun h239 => ?_)
                · skip
                  replace hF := fe_neg hF h239
                  exact J_246 hF
                · skip
                  replace hF := fe_pos hF h239
                  refine g_iconst (v := 1) d_X10_readBulb_242 kI_1 ?_
                  refine g_goto d_X10_readBulb_243 ?_
                  exact J_247 ((1 : Int32)) (Or.inr rfl) hF
            obtain ⟨j200_8, hj200_8, hF⟩ := fe_jx hF
            have J_200 : (FE (fn_X10_readBulb x shelf less I J) (fun _ => j200_8)) → G m_X10_readBulb (rq m_X10_readBulb (fun r S' I' J' => S' = SHF ∧ (I = I' ∧ TK x.toNatClampNeg J J') ∧ r = none ∧ fn_X10_readBulb x shelf less I J = (I', J'))) 0 0 200 [some (.ref 78), some (.int x), some (.int shelf), some (.int less), some (.long r6), none, some (.long v8), none, some (.long w9), none, some (.int w12), some (.int w13), some (.int w14), some (.int w15), none] [] SHF I J10 := by
              intro hF_j200_8
              have hF := fe_eq hF_j200_8 hj200_8
              refine g_iconst (v := 1) d_X10_readBulb_200 kI_1 ?_
              refine g_goto d_X10_readBulb_201 ?_
              exact J_205 ((1 : Int32)) (Or.inr rfl) hF
            refine g_if_ne d_X10_readBulb_187 (fun h187 => ?_) (fun h187 => ?_)
            · skip
              replace hF := fe_neg hF h187
              exact J_200 hF
            · skip
              replace hF := fe_pos hF h187
              refine g_iload d_X10_readBulb_190 rfl ?_
              obtain ⟨j204_9, hj204_9, hF⟩ := fe_jx hF
              have J_204 : (FE (fn_X10_readBulb x shelf less I J) (fun _ => j204_9)) → G m_X10_readBulb (rq m_X10_readBulb (fun r S' I' J' => S' = SHF ∧ (I = I' ∧ TK x.toNatClampNeg J J') ∧ r = none ∧ fn_X10_readBulb x shelf less I J = (I', J'))) 0 0 204 [some (.ref 78), some (.int x), some (.int shelf), some (.int less), some (.long r6), none, some (.long v8), none, some (.long w9), none, some (.int w12), some (.int w13), some (.int w14), some (.int w15), none] [] SHF I J10 := by
                intro hF_j204_9
                have hF := fe_eq hF_j204_9 hj204_9
                refine g_iconst (v := 0) d_X10_readBulb_204 kI_0 ?_
                exact J_205 ((0 : Int32)) (Or.inl rfl) hF
              refine g_if_ne d_X10_readBulb_192 (fun h192 => ?_) (fun h192 => ?_)
              · skip
                replace hF := fe_neg hF h192
                exact J_204 hF
              · skip
                replace hF := fe_pos hF h192
                refine g_iload d_X10_readBulb_195 rfl ?_
                refine g_if_eq d_X10_readBulb_197 (fun h197 => ?_) (fun h197 => ?_)
                · skip
                  replace hF := fe_pos hF h197
                  exact J_204 hF
                · skip
                  replace hF := fe_neg hF h197
                  exact J_200 hF
          obtain ⟨j178_10, hj178_10, hF⟩ := fe_jx hF
          have J_178 : (FE (fn_X10_readBulb x shelf less I J) (fun _ => j178_10)) → G m_X10_readBulb (rq m_X10_readBulb (fun r S' I' J' => S' = SHF ∧ (I = I' ∧ TK x.toNatClampNeg J J') ∧ r = none ∧ fn_X10_readBulb x shelf less I J = (I', J'))) 0 0 178 [some (.ref 78), some (.int x), some (.int shelf), some (.int less), some (.long r6), none, some (.long v8), none, some (.long w9), none, some (.int w12), some (.int w13), some (.int w14), none, none] [] SHF I J10 := by
            intro hF_j178_10
            have hF := fe_eq hF_j178_10 hj178_10
            refine g_iconst (v := 1) d_X10_readBulb_178 kI_1 ?_
            refine g_goto d_X10_readBulb_179 ?_
            exact J_183 ((1 : Int32)) (Or.inr rfl) hF
          refine g_if_eq d_X10_readBulb_155 (fun h155 => ?_) (fun h155 => ?_)
          · skip
            replace hF := fe_pos hF h155
            exact J_178 hF
          · skip
            replace hF := fe_neg hF h155
            refine g_lload d_X10_readBulb_158 rfl ?_
            refine g_ldc2 (v := 10) d_X10_readBulb_160 tw_1375 ?_
            refine g_aload_n d_X10_readBulb_163 rfl ?_
            refine g_getR d_X10_readBulb_164 fq_RX10_17 rfl rfl ?_
            refine g_bipush (v := 7) d_X10_readBulb_167 kB_7 ?_
            refine g_iaload (N := 15) d_X10_readBulb_169 rfl kT_15 ⟨by decide, by decide⟩ kN_7 ?_
            refine g_iload_n d_X10_readBulb_170 rfl ?_
            refine g_isub d_X10_readBulb_171 ?_
            refine g_i2l d_X10_readBulb_172 ?_
            refine g_lmul d_X10_readBulb_173 ?_
            refine g_lcmp_gt d_X10_readBulb_174 d_X10_readBulb_175 (fun h175 => ?_) (fun h175 => ?_)
            · skip
              replace hF := fe_pos hF h175
              refine g_iconst (v := 0) d_X10_readBulb_182 kI_0 ?_
              exact J_183 ((0 : Int32)) (Or.inl rfl) hF
            · skip
              replace hF := fe_neg hF h175
              exact J_178 hF
        obtain ⟨j150_11, hj150_11, hF⟩ := fe_jx hF
        have J_150 : (FE (fn_X10_readBulb x shelf less I J) (fun _ => j150_11)) → G m_X10_readBulb (rq m_X10_readBulb (fun r S' I' J' => S' = SHF ∧ (I = I' ∧ TK x.toNatClampNeg J J') ∧ r = none ∧ fn_X10_readBulb x shelf less I J = (I', J'))) 0 0 150 [some (.ref 78), some (.int x), some (.int shelf), some (.int less), some (.long r6), none, some (.long v8), none, some (.long w9), none, some (.int w12), some (.int w13), none, none, none] [] SHF I J10 := by
          intro hF_j150_11
          have hF := fe_eq hF_j150_11 hj150_11
          refine g_iconst (v := 0) d_X10_readBulb_150 kI_0 ?_
          exact J_151 ((0 : Int32)) (Or.inl rfl) hF
        refine g_if_eq d_X10_readBulb_107 (fun h107 => ?_) (fun h107 => ?_)
        · skip
          replace hF := fe_pos hF h107
          exact J_150 hF
        · skip
          replace hF := fe_neg hF h107
          refine g_aload_n d_X10_readBulb_110 rfl ?_
          refine g_getR d_X10_readBulb_111 fq_RX10_7 rfl rfl ?_
          refine g_iload_n d_X10_readBulb_114 rfl ?_
          refine g_bipush (v := 52) d_X10_readBulb_115 kB_52 ?_
          refine g_iadd d_X10_readBulb_117 ?_
          refine g_laload (N := 320) d_X10_readBulb_118 rfl kT_320 (ixc hx (by decide)) (by rw [tnc hx (by decide), kN_52]) ?_
          refine g_iconst (v := 4) d_X10_readBulb_119 kI_4 ?_
          refine g_S2 d_X10_readBulb_120 cs_X10_readBulb_X10_has lk_RX10_149 im_X10_has (Nat.le_of_ble_eq_true rfl) ⟨rfl, rfl⟩ ⟨Nat.zero_le _, Nat.zero_le _⟩ (ct_X10_has (J10 79 (x.toNatClampNeg + 52)) (4 : Int32) I J10 ) (fun r120 S120 Ic46 Jc47 q120_44 => ?_)
          obtain ⟨rfl, rfl, rfl, r50, rfl, hz120, hf120_48⟩ := q120_44
          replace hF := fe_b3 hF hf120_48
          refine g_st (st' := [.int r50]) rfl ?_
          obtain ⟨j146_12, hj146_12, hF⟩ := fe_jx hF
          have J_146 : (FE (fn_X10_readBulb x shelf less I J) (fun _ => j146_12)) → G m_X10_readBulb (rq m_X10_readBulb (fun r S' I' J' => S' = SHF ∧ (I = I' ∧ TK x.toNatClampNeg J J') ∧ r = none ∧ fn_X10_readBulb x shelf less I J = (I', J'))) 0 0 146 [some (.ref 78), some (.int x), some (.int shelf), some (.int less), some (.long r6), none, some (.long v8), none, some (.long w9), none, some (.int w12), some (.int w13), none, none, none] [] SHF I J10 := by
            intro hF_j146_12
            have hF := fe_eq hF_j146_12 hj146_12
            refine g_iconst (v := 1) d_X10_readBulb_146 kI_1 ?_
            refine g_goto d_X10_readBulb_147 ?_
            exact J_151 ((1 : Int32)) (Or.inr rfl) hF
          refine g_if_ne d_X10_readBulb_123 (fun h123 => ?_) (fun h123 => ?_)
          · skip
            replace hF := fe_neg hF h123
            exact J_146 hF
          · skip
            replace hF := fe_pos hF h123
            refine g_lload d_X10_readBulb_126 rfl ?_
            refine g_ldc2 (v := 10) d_X10_readBulb_128 tw_1375 ?_
            refine g_aload_n d_X10_readBulb_131 rfl ?_
            refine g_getR d_X10_readBulb_132 fq_RX10_17 rfl rfl ?_
            refine g_bipush (v := 6) d_X10_readBulb_135 kB_6 ?_
            refine g_iaload (N := 15) d_X10_readBulb_137 rfl kT_15 ⟨by decide, by decide⟩ kN_6 ?_
            refine g_iload_n d_X10_readBulb_138 rfl ?_
            refine g_isub d_X10_readBulb_139 ?_
            refine g_i2l d_X10_readBulb_140 ?_
            refine g_lmul d_X10_readBulb_141 ?_
            refine g_lcmp_lt d_X10_readBulb_142 d_X10_readBulb_143 (fun h143 => ?_) (fun h143 => ?_)
            · skip
              replace hF := fe_pos hF h143
              exact J_150 hF
            · skip
              replace hF := fe_neg hF h143
              exact J_146 hF
      refine g_lcmp_ne d_X10_readBulb_94 d_X10_readBulb_95 (fun h95 => ?_) (fun h95 => ?_)
      · skip
        replace hF := fe_neg hF h95
        refine g_iconst (v := 0) d_X10_readBulb_102 kI_0 ?_
        exact J_103 ((0 : Int32)) (Or.inl rfl) hF
      · skip
        replace hF := fe_pos hF h95
        refine g_iconst (v := 1) d_X10_readBulb_98 kI_1 ?_
        refine g_goto d_X10_readBulb_99 ?_
        exact J_103 ((1 : Int32)) (Or.inr rfl) hF
    refine g_lcmp_ne d_X10_readBulb_73 d_X10_readBulb_74 (fun h74 => ?_) (fun h74 => ?_)
    · skip
      replace hF := fe_neg hF h74
      refine g_iconst (v := 0) d_X10_readBulb_81 kI_0 ?_
      exact J_82 ((0 : Int32)) (Or.inl rfl) hF
    · skip
      replace hF := fe_pos hF h74
      refine g_iconst (v := 1) d_X10_readBulb_77 kI_1 ?_
      refine g_goto d_X10_readBulb_78 ?_
      exact J_82 ((1 : Int32)) (Or.inr rfl) hF
  refine g_lcmp_ne d_X10_readBulb_29 d_X10_readBulb_30 (fun h30 => ?_) (fun h30 => ?_)
  · skip
    replace hF := fe_neg hF h30
    refine g_lload d_X10_readBulb_48 rfl ?_
    exact J_50 r6 hF
  · skip
    replace hF := fe_pos hF h30
    refine g_lload d_X10_readBulb_33 rfl ?_
    refine g_lload d_X10_readBulb_35 rfl ?_
    refine g_lload d_X10_readBulb_37 rfl ?_
    refine g_lsub d_X10_readBulb_39 ?_
    refine g_ldc2 (v := 8) d_X10_readBulb_40 tw_1195 ?_
    refine g_ldiv d_X10_readBulb_43 (by decide) ?_
    refine g_ladd d_X10_readBulb_44 ?_
    refine g_goto d_X10_readBulb_45 ?_
    exact J_50 ((v8 + ((r6 - v8) / (8 : Int64)))) hF
noncomputable def fl_X10_findFlows_225_3 (I : Iv) (x : Int32) (Kf3 : Int32 → Jv → Iv × Jv) : Nat → Int32 → Jv → Iv × Jv
  | 0, x32, J33 => (I, J33)
  | kf3 + 1, x32, J33 => if (8 : Int32) ≤ x32 then Kf3 x32 J33 else if (J33 79 (x.toNatClampNeg + 12 + x32.toNatClampNeg)) = (1 : Int64) then l_t ((Int64.toInt32 (J33 79 (x.toNatClampNeg + 20 + x32.toNatClampNeg)))) (fun (v36 : Int32) => b_n3 (fn_X10_warm x v36 I J33) (fun (r42 : Int64) (_ : Iv) (_ : Jv) => b_n3 (fn_X10_warm x ((4 : Int32) + x32) I J33) (fun (r49 : Int64) (_ : Iv) (_ : Jv) => l_t ((((Int32.toInt64 (I 81 5)) * (r42 - r49)) / (100 : Int64))) (fun (v51 : Int64) => l_t (wJ J33 88 (v36.toNatClampNeg) ((J33 88 v36.toNatClampNeg) - v51)) (fun (J52 : Jv) => l_t (wJ J52 88 ((((4 : Int32) + x32)).toNatClampNeg) ((J52 88 (((4 : Int32) + x32)).toNatClampNeg) + v51)) (fun (J54 : Jv) => fl_X10_findFlows_225_3 I x Kf3 kf3 (x32 + (1 : Int32)) J54)))))) else fl_X10_findFlows_225_3 I x Kf3 kf3 (x32 + (1 : Int32)) J33
noncomputable def fl_X10_findFlows_86_2 (I : Iv) (x : Int32) (Kf2 : Int32 → Jv → Iv × Jv) : Nat → Int32 → Jv → Iv × Jv
  | 0, x9, J10 => (I, J10)
  | kf2 + 1, x9, J10 => if (2 : Int32) ≤ x9 then Kf2 x9 J10 else b_n3 (fn_X10_warm x x9 I J10) (fun (r61 : Int64) (_ : Iv) (_ : Jv) => b_n3 (fn_X10_warm x (x9 + (1 : Int32)) I J10) (fun (r68 : Int64) (_ : Iv) (_ : Jv) => l_t ((((Int32.toInt64 (I 81 3)) * (r61 - r68)) / (100 : Int64))) (fun (v70 : Int64) => l_t (wJ J10 88 (x9.toNatClampNeg) ((J10 88 x9.toNatClampNeg) - v70)) (fun (J71 : Jv) => l_t (wJ J71 88 (((x9 + (1 : Int32))).toNatClampNeg) ((J71 88 ((x9 + (1 : Int32))).toNatClampNeg) + v70)) (fun (J73 : Jv) => fl_X10_findFlows_86_2 I x Kf2 kf2 (x9 + (1 : Int32)) J73)))))
noncomputable def fl_X10_findFlows_27_1 (I : Iv) (x : Int32) (room : Int64) (gap : Int64) (Kf1 : Int32 → Jv → Iv × Jv) : Nat → Int32 → Jv → Iv × Jv
  | 0, x5, J6 => (I, J6)
  | kf1 + 1, x5, J6 => if (3 : Int32) ≤ x5 then Kf1 x5 J6 else b_n3 (fn_X10_warm x x5 I J6) (fun (r80 : Int64) (_ : Iv) (_ : Jv) => l_t (((gap * (room - r80)) / (100 : Int64))) (fun (v82 : Int64) => l_t (wJ J6 88 (x5.toNatClampNeg) ((J6 88 x5.toNatClampNeg) + v82)) (fun (J83 : Jv) => l_t (wJ J83 79 (x.toNatClampNeg + 55) ((J83 79 (x.toNatClampNeg + 55)) + v82)) (fun (J85 : Jv) => fl_X10_findFlows_27_1 I x room gap Kf1 kf1 (x5 + (1 : Int32)) J85))))
noncomputable def fl_X10_findFlows_3_0 (I : Iv) (Kf0 : Int32 → Jv → Iv × Jv) : Nat → Int32 → Jv → Iv × Jv
  | 0, x1, J2 => (I, J2)
  | kf0 + 1, x1, J2 => if (12 : Int32) ≤ x1 then Kf0 x1 J2 else l_t (wJ J2 88 (x1.toNatClampNeg) (0 : Int64)) (fun (J87 : Jv) => fl_X10_findFlows_3_0 I Kf0 kf0 (x1 + (1 : Int32)) J87)
noncomputable def fn_X10_findFlows (x : Int32) (room : Int64) (gap : Int64) (I : Iv) (J : Jv) : Iv × Jv :=
  fl_X10_findFlows_3_0 I (fun (x1 : Int32) (J2 : Jv) => fl_X10_findFlows_27_1 I x room gap (fun (x5 : Int32) (J6 : Jv) => fl_X10_findFlows_86_2 I x (fun (x9 : Int32) (J10 : Jv) => b_n3 (fn_X10_warm x (0 : Int32) I J10) (fun (r18 : Int64) (_ : Iv) (_ : Jv) => b_n3 (fn_X10_warm x (3 : Int32) I J10) (fun (r25 : Int64) (_ : Iv) (_ : Jv) => l_t ((((((Int32.toInt64 (I 81 4)) * (r18 - r25)) / (100 : Int64)) * (1000 : Int64)) / ((1000 : Int64) + (J10 79 (x.toNatClampNeg + 53))))) (fun (v27 : Int64) => l_t (wJ J10 88 0 ((J10 88 0) - v27)) (fun (J28 : Jv) => l_t (wJ J28 88 3 ((J28 88 3) + v27)) (fun (J30 : Jv) => fl_X10_findFlows_225_3 I x (fun (x32 : Int32) (J33 : Jv) => (I, J33)) (mU (8 : Int32) ((0 : Int32)) + 1) (0 : Int32) J30)))))) (mU (2 : Int32) ((0 : Int32)) + 1) (0 : Int32) J6) (mU (3 : Int32) ((0 : Int32)) + 1) (0 : Int32) J2) (mU (12 : Int32) ((0 : Int32)) + 1) (0 : Int32) J
set_option maxRecDepth 100000 in
set_option maxHeartbeats 4000000 in
theorem ct_X10_findFlows (x : Int32) (room : Int64) (gap : Int64) (I : Iv) (J : Jv) (hx : HX x) (hfu : FU x.toNatClampNeg J) (hbi : BI x.toNatClampNeg J) : Ct m_X10_findFlows [.ref 78, .int x, .long room, .long gap] SHF I J (fun r S' I' J' => S' = SHF ∧ (I = I' ∧ TK x.toNatClampNeg J J') ∧ r = none ∧ fn_X10_findFlows x room gap I J = (I', J')) := by
  refine ct_of 6 (by decide +kernel) rfl rfl ?_
  have hK0 : TK x.toNatClampNeg J J := (tk_rfl hfu)
  have hF := fe_of (fn_X10_findFlows.eq_1 x room gap I J)
  refine g_iconst (v := 0) d_X10_findFlows_0 kI_0 ?_
  refine g_istore (L' := [some (.ref 78), some (.int x), some (.long room), none, some (.long gap), none, some (.int (0 : Int32)), none, none, none, none, none]) d_X10_findFlows_1 (by decide) rfl ?_
  obtain ⟨Kf0, hKf0, hF⟩ := fe_kx (f := fun K => fl_X10_findFlows_3_0 I K (mU (12 : Int32) ((0 : Int32)) + 1) (0 : Int32) J) hF
  have K_3 : ∀ (nu : Nat) (x1 : Int32) (J2 : Jv), mU (12 : Int32) x1 = nu → (TK x.toNatClampNeg J J2) → ((0 : Int32) ≤ x1) → (∃ kq : Nat, nu < kq ∧ (fun kq => FE (fn_X10_findFlows x room gap I J) (fun _ => fl_X10_findFlows_3_0 I Kf0 kq x1 J2)) kq) → G m_X10_findFlows (rq m_X10_findFlows (fun r S' I' J' => S' = SHF ∧ (I = I' ∧ TK x.toNatClampNeg J J') ∧ r = none ∧ fn_X10_findFlows x room gap I J = (I', J'))) 0 0 3 [some (.ref 78), some (.int x), some (.long room), none, some (.long gap), none, some (.int x1), none, none, none, none, none] [] SHF I J2 := by
    intro nu
    induction nu using Nat.strongRecOn with
    | ind nu ih_3 =>
      intro x1 J2 hmu_3 hK3 hl4 hF_Kf0
      obtain ⟨kf0, hkf0, hF⟩ := fe_fu (P := fun kq => FE (fn_X10_findFlows x room gap I J) (fun _ => fl_X10_findFlows_3_0 I Kf0 kq x1 J2)) hF_Kf0
      replace hF := fe_eq hF (fl_X10_findFlows_3_0.eq_2 _ _ _ _ _)
      refine g_iload d_X10_findFlows_3 rfl ?_
      refine g_bipush (v := 12) d_X10_findFlows_5 kB_12 ?_
      refine g_icmp_ge d_X10_findFlows_7 (fun h7 => ?_) (fun h7 => ?_)
      · skip
        replace hF := fe_pos hF h7
        replace hF := fe_eq hF (congrFun (congrFun hKf0 x1) J2)
        refine g_iconst (v := 0) d_X10_findFlows_24 kI_0 ?_
        refine g_istore (L' := [some (.ref 78), some (.int x), some (.long room), none, some (.long gap), none, some (.int (0 : Int32)), none, none, none, none, none]) d_X10_findFlows_25 (by decide) rfl ?_
        obtain ⟨Kf1, hKf1, hF⟩ := fe_kx (f := fun K => fl_X10_findFlows_27_1 I x room gap K (mU (3 : Int32) ((0 : Int32)) + 1) (0 : Int32) J2) hF
        have K_27 : ∀ (nu : Nat) (x5 : Int32) (J6 : Jv), mU (3 : Int32) x5 = nu → (TK x.toNatClampNeg J J6) → ((0 : Int32) ≤ x5) → (∃ kq : Nat, nu < kq ∧ (fun kq => FE (fn_X10_findFlows x room gap I J) (fun _ => fl_X10_findFlows_27_1 I x room gap Kf1 kq x5 J6)) kq) → G m_X10_findFlows (rq m_X10_findFlows (fun r S' I' J' => S' = SHF ∧ (I = I' ∧ TK x.toNatClampNeg J J') ∧ r = none ∧ fn_X10_findFlows x room gap I J = (I', J'))) 0 0 27 [some (.ref 78), some (.int x), some (.long room), none, some (.long gap), none, some (.int x5), none, none, none, none, none] [] SHF I J6 := by
          intro nu
          induction nu using Nat.strongRecOn with
          | ind nu ih_27 =>
            intro x5 J6 hmu_27 hK7 hl8 hF_Kf1
            obtain ⟨kf1, hkf1, hF⟩ := fe_fu (P := fun kq => FE (fn_X10_findFlows x room gap I J) (fun _ => fl_X10_findFlows_27_1 I x room gap Kf1 kq x5 J6)) hF_Kf1
            replace hF := fe_eq hF (fl_X10_findFlows_27_1.eq_2 _ _ _ _ _ _ _ _)
            refine g_iload d_X10_findFlows_27 rfl ?_
            refine g_iconst (v := 3) d_X10_findFlows_29 kI_3 ?_
            refine g_icmp_ge d_X10_findFlows_30 (fun h30 => ?_) (fun h30 => ?_)
            · skip
              replace hF := fe_pos hF h30
              replace hF := fe_eq hF (congrFun (congrFun hKf1 x5) J6)
              refine g_iconst (v := 0) d_X10_findFlows_83 kI_0 ?_
              refine g_istore (L' := [some (.ref 78), some (.int x), some (.long room), none, some (.long gap), none, some (.int (0 : Int32)), none, none, none, none, none]) d_X10_findFlows_84 (by decide) rfl ?_
              obtain ⟨Kf2, hKf2, hF⟩ := fe_kx (f := fun K => fl_X10_findFlows_86_2 I x K (mU (2 : Int32) ((0 : Int32)) + 1) (0 : Int32) J6) hF
              have K_86 : ∀ (nu : Nat) (x9 : Int32) (J10 : Jv), mU (2 : Int32) x9 = nu → (TK x.toNatClampNeg J J10) → ((0 : Int32) ≤ x9) → (∃ kq : Nat, nu < kq ∧ (fun kq => FE (fn_X10_findFlows x room gap I J) (fun _ => fl_X10_findFlows_86_2 I x Kf2 kq x9 J10)) kq) → G m_X10_findFlows (rq m_X10_findFlows (fun r S' I' J' => S' = SHF ∧ (I = I' ∧ TK x.toNatClampNeg J J') ∧ r = none ∧ fn_X10_findFlows x room gap I J = (I', J'))) 0 0 86 [some (.ref 78), some (.int x), some (.long room), none, some (.long gap), none, some (.int x9), none, none, none, none, none] [] SHF I J10 := by
                intro nu
                induction nu using Nat.strongRecOn with
                | ind nu ih_86 =>
                  intro x9 J10 hmu_86 hK11 hl12 hF_Kf2
                  obtain ⟨kf2, hkf2, hF⟩ := fe_fu (P := fun kq => FE (fn_X10_findFlows x room gap I J) (fun _ => fl_X10_findFlows_86_2 I x Kf2 kq x9 J10)) hF_Kf2
                  replace hF := fe_eq hF (fl_X10_findFlows_86_2.eq_2 _ _ _ _ _ _)
                  refine g_iload d_X10_findFlows_86 rfl ?_
                  refine g_iconst (v := 2) d_X10_findFlows_88 kI_2 ?_
                  refine g_icmp_ge d_X10_findFlows_89 (fun h89 => ?_) (fun h89 => ?_)
                  · skip
                    replace hF := fe_pos hF h89
                    replace hF := fe_eq hF (congrFun (congrFun hKf2 x9) J10)
                    refine g_aload_n d_X10_findFlows_155 rfl ?_
                    refine g_getR d_X10_findFlows_156 fq_RX10_17 rfl rfl ?_
                    refine g_iconst (v := 4) d_X10_findFlows_159 kI_4 ?_
                    refine g_iaload (N := 15) d_X10_findFlows_160 rfl kT_15 ⟨by decide, by decide⟩ kN_4 ?_
                    refine g_i2l d_X10_findFlows_161 ?_
                    refine g_aload_n d_X10_findFlows_162 rfl ?_
                    refine g_iload_n d_X10_findFlows_163 rfl ?_
                    refine g_iconst (v := 0) d_X10_findFlows_164 kI_0 ?_
                    refine g_V2 d_X10_findFlows_165 cs_X10_findFlows_X10_warm lk_RX10_200 im_X10_warm se_X10_warm rfl rfl rfl (Nat.le_of_ble_eq_true rfl) ⟨rfl, rfl⟩ ⟨Nat.zero_le _, Nat.zero_le _⟩ (ct_X10_warm x (0 : Int32) I J10 hx (by grind) (by grind)) (fun r165 S165 Ic14 Jc15 q165_12 => ?_)
                    obtain ⟨rfl, rfl, rfl, r18, rfl, hf165_16⟩ := q165_12
                    replace hF := fe_b3 hF hf165_16
                    refine g_st (st' := [.long r18, .long (Int32.toInt64 (I 81 4))]) rfl ?_
                    refine g_aload_n d_X10_findFlows_168 rfl ?_
                    refine g_iload_n d_X10_findFlows_169 rfl ?_
                    refine g_iconst (v := 3) d_X10_findFlows_170 kI_3 ?_
                    refine g_V2 d_X10_findFlows_171 cs_X10_findFlows_X10_warm lk_RX10_200 im_X10_warm se_X10_warm rfl rfl rfl (Nat.le_of_ble_eq_true rfl) ⟨rfl, rfl⟩ ⟨Nat.zero_le _, Nat.zero_le _⟩ (ct_X10_warm x (3 : Int32) I J10 hx (by grind) (by grind)) (fun r171 S171 Ic21 Jc22 q171_19 => ?_)
                    obtain ⟨rfl, rfl, rfl, r25, rfl, hf171_23⟩ := q171_19
                    replace hF := fe_b3 hF hf171_23
                    refine g_st (st' := [.long r25, .long r18, .long (Int32.toInt64 (I 81 4))]) rfl ?_
                    refine g_lsub d_X10_findFlows_174 ?_
                    refine g_lmul d_X10_findFlows_175 ?_
                    refine g_ldc2 (v := 100) d_X10_findFlows_176 tw_1391 ?_
                    refine g_ldiv d_X10_findFlows_179 (by decide) ?_
                    refine g_ldc2 (v := 1000) d_X10_findFlows_180 tw_1392 ?_
                    refine g_lmul d_X10_findFlows_183 ?_
                    refine g_ldc2 (v := 1000) d_X10_findFlows_184 tw_1392 ?_
                    refine g_aload_n d_X10_findFlows_187 rfl ?_
                    refine g_getR d_X10_findFlows_188 fq_RX10_7 rfl rfl ?_
                    refine g_iload_n d_X10_findFlows_191 rfl ?_
                    refine g_bipush (v := 53) d_X10_findFlows_192 kB_53 ?_
                    refine g_iadd d_X10_findFlows_194 ?_
                    refine g_laload (N := 320) d_X10_findFlows_195 rfl kT_320 (ixc hx (by decide)) (by rw [tnc hx (by decide), kN_53]) ?_
                    refine g_ladd d_X10_findFlows_196 ?_
                    refine g_ldiv d_X10_findFlows_197 (fu_div hK11) ?_
                    refine g_topJ (fun v27 ev27 => ?_)
                    replace hF := fe_lt hF ev27
                    refine g_lstore (L' := [some (.ref 78), some (.int x), some (.long room), none, some (.long gap), none, some (.long v27), none, none, none, none, none]) d_X10_findFlows_198 (by decide) rfl ?_
                    refine g_aload_n d_X10_findFlows_200 rfl ?_
                    refine g_getR d_X10_findFlows_201 fq_RX10_43 rfl rfl ?_
                    refine g_iconst (v := 0) d_X10_findFlows_204 kI_0 ?_
                    refine g_dup2 d_X10_findFlows_205 rfl rfl ?_
                    refine g_laload (N := 12) d_X10_findFlows_206 rfl kT_12 ⟨by decide, by decide⟩ kN_0 ?_
                    refine g_lload d_X10_findFlows_207 rfl ?_
                    refine g_lsub d_X10_findFlows_209 ?_
                    refine g_lastore (N := 12) d_X10_findFlows_210 rfl kT_12 ⟨by decide, by decide⟩ kN_0  ?_
                    refine g_nmJ (fun J28 eJ28 => ?_)
                    replace hF := fe_lt hF eJ28
                    have hK29 : TK x.toNatClampNeg J J28 := (by rw [eJ28]; exact tk_f hK11)
                    refine g_aload_n d_X10_findFlows_211 rfl ?_
                    refine g_getR d_X10_findFlows_212 fq_RX10_43 rfl rfl ?_
                    refine g_iconst (v := 3) d_X10_findFlows_215 kI_3 ?_
                    refine g_dup2 d_X10_findFlows_216 rfl rfl ?_
                    refine g_laload (N := 12) d_X10_findFlows_217 rfl kT_12 ⟨by decide, by decide⟩ kN_3 ?_
                    refine g_lload d_X10_findFlows_218 rfl ?_
                    refine g_ladd d_X10_findFlows_220 ?_
                    refine g_lastore (N := 12) d_X10_findFlows_221 rfl kT_12 ⟨by decide, by decide⟩ kN_3  ?_
                    refine g_nmJ (fun J30 eJ30 => ?_)
                    replace hF := fe_lt hF eJ30
                    have hK31 : TK x.toNatClampNeg J J30 := (by rw [eJ30]; exact tk_f hK29)
                    refine g_iconst (v := 0) d_X10_findFlows_222 kI_0 ?_
                    refine g_istore (L' := [some (.ref 78), some (.int x), some (.long room), none, some (.long gap), none, some (.long v27), none, some (.int (0 : Int32)), none, none, none]) d_X10_findFlows_223 (by decide) rfl ?_
                    obtain ⟨Kf3, hKf3, hF⟩ := fe_kx (f := fun K => fl_X10_findFlows_225_3 I x K (mU (8 : Int32) ((0 : Int32)) + 1) (0 : Int32) J30) hF
                    have K_225 : ∀ (nu : Nat) (x32 : Int32) (J33 : Jv), mU (8 : Int32) x32 = nu → (TK x.toNatClampNeg J J33) → ((0 : Int32) ≤ x32) → (∃ kq : Nat, nu < kq ∧ (fun kq => FE (fn_X10_findFlows x room gap I J) (fun _ => fl_X10_findFlows_225_3 I x Kf3 kq x32 J33)) kq) → G m_X10_findFlows (rq m_X10_findFlows (fun r S' I' J' => S' = SHF ∧ (I = I' ∧ TK x.toNatClampNeg J J') ∧ r = none ∧ fn_X10_findFlows x room gap I J = (I', J'))) 0 0 225 [some (.ref 78), some (.int x), some (.long room), none, some (.long gap), none, some (.long v27), none, some (.int x32), none, none, none] [] SHF I J33 := by
                      intro nu
                      induction nu using Nat.strongRecOn with
                      | ind nu ih_225 =>
                        intro x32 J33 hmu_225 hK34 hl35 hF_Kf3
                        obtain ⟨kf3, hkf3, hF⟩ := fe_fu (P := fun kq => FE (fn_X10_findFlows x room gap I J) (fun _ => fl_X10_findFlows_225_3 I x Kf3 kq x32 J33)) hF_Kf3
                        replace hF := fe_eq hF (fl_X10_findFlows_225_3.eq_2 _ _ _ _ _ _)
                        refine g_iload d_X10_findFlows_225 rfl ?_
                        refine g_bipush (v := 8) d_X10_findFlows_227 kB_8 ?_
                        refine g_icmp_ge d_X10_findFlows_229 (fun h229 => ?_) (fun h229 => ?_)
                        · skip
                          replace hF := fe_pos hF h229
                          replace hF := fe_eq hF (congrFun (congrFun hKf3 x32) J33)
                          exact g_return d_X10_findFlows_327 rfl rfl rfl ⟨rfl, ⟨rfl, hK34⟩, rfl, hF⟩
                        · skip
                          replace hF := fe_neg hF h229
                          refine g_aload_n d_X10_findFlows_232 rfl ?_
                          refine g_getR d_X10_findFlows_233 fq_RX10_7 rfl rfl ?_
                          refine g_iload_n d_X10_findFlows_236 rfl ?_
                          refine g_bipush (v := 12) d_X10_findFlows_237 kB_12 ?_
                          refine g_iadd d_X10_findFlows_239 ?_
                          refine g_iload d_X10_findFlows_240 rfl ?_
                          refine g_iadd d_X10_findFlows_242 ?_
                          refine g_laload (N := 320) d_X10_findFlows_243 rfl kT_320 (ixcf hx (by decide) ⟨hl35, Int32.not_le.mp h229⟩) (by rw [tncf hx (by decide) ⟨hl35, Int32.not_le.mp h229⟩, kN_12]) ?_
                          refine g_lconst d_X10_findFlows_244 kL_1 ?_
                          refine g_lcmp_ne d_X10_findFlows_245 d_X10_findFlows_246 (fun h246 => ?_) (fun h246 => ?_)
                          · skip
                            replace hF := fe_neg hF h246
                            refine g_iinc (v := (x32 + (1 : Int32))) (L' := [some (.ref 78), some (.int x), some (.long room), none, some (.long gap), none, some (.long v27), none, some (.int (x32 + (1 : Int32))), none, none, none]) d_X10_findFlows_321 rfl (by rw [kI_1]) (by decide) rfl ?_
                            refine g_goto d_X10_findFlows_324 ?_
                            exact ih_225 _ (by rw [← hmu_225]; exact mu_up h229) (x32 + (1 : Int32)) J33 rfl hK34 (lo_up hl35 h229) ⟨kf3, Nat.lt_of_lt_of_le (by rw [← hmu_225]; exact mu_up h229) hkf3, hF⟩
                          · skip
                            replace hF := fe_pos hF h246
                            have hlt : x32.toNatClampNeg < 8 := by have q := tn_lt (n := 8) hl35 h229; rwa [kN_8] at q
                            have hb2 := (hK34.bi hbi) x32.toNatClampNeg hlt
                            have hb3 := hb2.2 (by grind)
                            have hcc : 1 ≤ J33 79 (x + 28 + (4 + x32) - 4).toNatClampNeg := by rw [cap_ix hx hl35 (by grind)]; exact hb3.2.1
                            refine g_aload_n d_X10_findFlows_249 rfl ?_
                            refine g_getR d_X10_findFlows_250 fq_RX10_7 rfl rfl ?_
                            refine g_iload_n d_X10_findFlows_253 rfl ?_
                            refine g_bipush (v := 20) d_X10_findFlows_254 kB_20 ?_
                            refine g_iadd d_X10_findFlows_256 ?_
                            refine g_iload d_X10_findFlows_257 rfl ?_
                            refine g_iadd d_X10_findFlows_259 ?_
                            refine g_laload (N := 320) d_X10_findFlows_260 rfl kT_320 (ixcf hx (by decide) ⟨hl35, Int32.not_le.mp h229⟩) (by rw [tncf hx (by decide) ⟨hl35, Int32.not_le.mp h229⟩, kN_20]) ?_
                            refine g_l2i d_X10_findFlows_261 ?_
                            refine g_topI (fun v36 ev36 => ?_)
                            replace hF := fe_lt hF ev36
                            refine g_istore (L' := [some (.ref 78), some (.int x), some (.long room), none, some (.long gap), none, some (.long v27), none, some (.int x32), some (.int v36), none, none]) d_X10_findFlows_262 (by decide) rfl ?_
                            have hs := l2i_2 hb3.1
                            rw [← ev36] at hs
                            refine g_aload_n d_X10_findFlows_264 rfl ?_
                            refine g_getR d_X10_findFlows_265 fq_RX10_17 rfl rfl ?_
                            refine g_iconst (v := 5) d_X10_findFlows_268 kI_5 ?_
                            refine g_iaload (N := 15) d_X10_findFlows_269 rfl kT_15 ⟨by decide, by decide⟩ kN_5 ?_
                            refine g_i2l d_X10_findFlows_270 ?_
                            refine g_aload_n d_X10_findFlows_271 rfl ?_
                            refine g_iload_n d_X10_findFlows_272 rfl ?_
                            refine g_iload d_X10_findFlows_273 rfl ?_
                            refine g_V2 d_X10_findFlows_275 cs_X10_findFlows_X10_warm lk_RX10_200 im_X10_warm se_X10_warm rfl rfl rfl (Nat.le_of_ble_eq_true rfl) ⟨rfl, rfl⟩ ⟨Nat.zero_le _, Nat.zero_le _⟩ (ct_X10_warm x v36 I J33 hx (by grind) (by grind)) (fun r275 S275 Ic38 Jc39 q275_36 => ?_)
                            obtain ⟨rfl, rfl, rfl, r42, rfl, hf275_40⟩ := q275_36
                            replace hF := fe_b3 hF hf275_40
                            refine g_st (st' := [.long r42, .long (Int32.toInt64 (I 81 5))]) rfl ?_
                            refine g_aload_n d_X10_findFlows_278 rfl ?_
                            refine g_iload_n d_X10_findFlows_279 rfl ?_
                            refine g_iconst (v := 4) d_X10_findFlows_280 kI_4 ?_
                            refine g_iload d_X10_findFlows_281 rfl ?_
                            refine g_iadd d_X10_findFlows_283 ?_
                            refine g_V2 d_X10_findFlows_284 cs_X10_findFlows_X10_warm lk_RX10_200 im_X10_warm se_X10_warm rfl rfl rfl (Nat.le_of_ble_eq_true rfl) ⟨rfl, rfl⟩ ⟨Nat.zero_le _, Nat.zero_le _⟩ (ct_X10_warm x ((4 : Int32) + x32) I J33 hx (by grind) (fun _ => hcc)) (fun r284 S284 Ic45 Jc46 q284_43 => ?_)
                            obtain ⟨rfl, rfl, rfl, r49, rfl, hf284_47⟩ := q284_43
                            replace hF := fe_b3 hF hf284_47
                            refine g_st (st' := [.long r49, .long r42, .long (Int32.toInt64 (I 81 5))]) rfl ?_
                            refine g_lsub d_X10_findFlows_287 ?_
                            refine g_lmul d_X10_findFlows_288 ?_
                            refine g_ldc2 (v := 100) d_X10_findFlows_289 tw_1391 ?_
                            refine g_ldiv d_X10_findFlows_292 (by decide) ?_
                            refine g_topJ (fun v51 ev51 => ?_)
                            replace hF := fe_lt hF ev51
                            refine g_lstore (L' := [some (.ref 78), some (.int x), some (.long room), none, some (.long gap), none, some (.long v27), none, some (.int x32), some (.int v36), some (.long v51), none]) d_X10_findFlows_293 (by decide) rfl ?_
                            refine g_aload_n d_X10_findFlows_295 rfl ?_
                            refine g_getR d_X10_findFlows_296 fq_RX10_43 rfl rfl ?_
                            refine g_iload d_X10_findFlows_299 rfl ?_
                            refine g_dup2 d_X10_findFlows_301 rfl rfl ?_
                            refine g_laload (N := 12) d_X10_findFlows_302 rfl kT_12 (by constructor <;> grind) rfl ?_
                            refine g_lload d_X10_findFlows_303 rfl ?_
                            refine g_lsub d_X10_findFlows_305 ?_
                            refine g_lastore (N := 12) d_X10_findFlows_306 rfl kT_12 (by constructor <;> grind) rfl  ?_
                            refine g_nmJ (fun J52 eJ52 => ?_)
                            replace hF := fe_lt hF eJ52
                            have hK53 : TK x.toNatClampNeg J J52 := (by rw [eJ52]; exact tk_f hK34)
                            refine g_aload_n d_X10_findFlows_307 rfl ?_
                            refine g_getR d_X10_findFlows_308 fq_RX10_43 rfl rfl ?_
                            refine g_iconst (v := 4) d_X10_findFlows_311 kI_4 ?_
                            refine g_iload d_X10_findFlows_312 rfl ?_
                            refine g_iadd d_X10_findFlows_314 ?_
                            refine g_dup2 d_X10_findFlows_315 rfl rfl ?_
                            refine g_laload (N := 12) d_X10_findFlows_316 rfl kT_12 (by constructor <;> grind) rfl ?_
                            refine g_lload d_X10_findFlows_317 rfl ?_
                            refine g_ladd d_X10_findFlows_319 ?_
                            refine g_lastore (N := 12) d_X10_findFlows_320 rfl kT_12 (by constructor <;> grind) rfl  ?_
                            refine g_nmJ (fun J54 eJ54 => ?_)
                            replace hF := fe_lt hF eJ54
                            have hK55 : TK x.toNatClampNeg J J54 := (by rw [eJ54]; exact tk_f hK53)
                            refine g_iinc (v := (x32 + (1 : Int32))) (L' := [some (.ref 78), some (.int x), some (.long room), none, some (.long gap), none, some (.long v27), none, some (.int (x32 + (1 : Int32))), some (.int v36), some (.long v51), none]) d_X10_findFlows_321 rfl (by rw [kI_1]) (by decide) rfl ?_
                            refine g_goto d_X10_findFlows_324 ?_
                            refine g_sb [some (.ref 78), some (.int x), some (.long room), none, some (.long gap), none, some (.long v27), none, some (.int (x32 + (1 : Int32))), none, none, none] (by simp [subL]) ?_
                            exact ih_225 _ (by rw [← hmu_225]; exact mu_up h229) (x32 + (1 : Int32)) J54 rfl hK55 (lo_up hl35 h229) ⟨kf3, Nat.lt_of_lt_of_le (by rw [← hmu_225]; exact mu_up h229) hkf3, hF⟩
                    exact K_225 _ (0 : Int32) J30 rfl hK31 (Int32.le_refl _) ⟨_, Nat.lt_succ_self _, hF⟩
                  · skip
                    replace hF := fe_neg hF h89
                    refine g_aload_n d_X10_findFlows_92 rfl ?_
                    refine g_getR d_X10_findFlows_93 fq_RX10_17 rfl rfl ?_
                    refine g_iconst (v := 3) d_X10_findFlows_96 kI_3 ?_
                    refine g_iaload (N := 15) d_X10_findFlows_97 rfl kT_15 ⟨by decide, by decide⟩ kN_3 ?_
                    refine g_i2l d_X10_findFlows_98 ?_
                    refine g_aload_n d_X10_findFlows_99 rfl ?_
                    refine g_iload_n d_X10_findFlows_100 rfl ?_
                    refine g_iload d_X10_findFlows_101 rfl ?_
                    refine g_V2 d_X10_findFlows_103 cs_X10_findFlows_X10_warm lk_RX10_200 im_X10_warm se_X10_warm rfl rfl rfl (Nat.le_of_ble_eq_true rfl) ⟨rfl, rfl⟩ ⟨Nat.zero_le _, Nat.zero_le _⟩ (ct_X10_warm x x9 I J10 hx (by grind) (by grind)) (fun r103 S103 Ic57 Jc58 q103_55 => ?_)
                    obtain ⟨rfl, rfl, rfl, r61, rfl, hf103_59⟩ := q103_55
                    replace hF := fe_b3 hF hf103_59
                    refine g_st (st' := [.long r61, .long (Int32.toInt64 (I 81 3))]) rfl ?_
                    refine g_aload_n d_X10_findFlows_106 rfl ?_
                    refine g_iload_n d_X10_findFlows_107 rfl ?_
                    refine g_iload d_X10_findFlows_108 rfl ?_
                    refine g_iconst (v := 1) d_X10_findFlows_110 kI_1 ?_
                    refine g_iadd d_X10_findFlows_111 ?_
                    refine g_V2 d_X10_findFlows_112 cs_X10_findFlows_X10_warm lk_RX10_200 im_X10_warm se_X10_warm rfl rfl rfl (Nat.le_of_ble_eq_true rfl) ⟨rfl, rfl⟩ ⟨Nat.zero_le _, Nat.zero_le _⟩ (ct_X10_warm x (x9 + (1 : Int32)) I J10 hx (by grind) (by grind)) (fun r112 S112 Ic64 Jc65 q112_62 => ?_)
                    obtain ⟨rfl, rfl, rfl, r68, rfl, hf112_66⟩ := q112_62
                    replace hF := fe_b3 hF hf112_66
                    refine g_st (st' := [.long r68, .long r61, .long (Int32.toInt64 (I 81 3))]) rfl ?_
                    refine g_lsub d_X10_findFlows_115 ?_
                    refine g_lmul d_X10_findFlows_116 ?_
                    refine g_ldc2 (v := 100) d_X10_findFlows_117 tw_1391 ?_
                    refine g_ldiv d_X10_findFlows_120 (by decide) ?_
                    refine g_topJ (fun v70 ev70 => ?_)
                    replace hF := fe_lt hF ev70
                    refine g_lstore (L' := [some (.ref 78), some (.int x), some (.long room), none, some (.long gap), none, some (.int x9), some (.long v70), none, none, none, none]) d_X10_findFlows_121 (by decide) rfl ?_
                    refine g_aload_n d_X10_findFlows_123 rfl ?_
                    refine g_getR d_X10_findFlows_124 fq_RX10_43 rfl rfl ?_
                    refine g_iload d_X10_findFlows_127 rfl ?_
                    refine g_dup2 d_X10_findFlows_129 rfl rfl ?_
                    refine g_laload (N := 12) d_X10_findFlows_130 rfl kT_12 (by constructor <;> grind) rfl ?_
                    refine g_lload d_X10_findFlows_131 rfl ?_
                    refine g_lsub d_X10_findFlows_133 ?_
                    refine g_lastore (N := 12) d_X10_findFlows_134 rfl kT_12 (by constructor <;> grind) rfl  ?_
                    refine g_nmJ (fun J71 eJ71 => ?_)
                    replace hF := fe_lt hF eJ71
                    have hK72 : TK x.toNatClampNeg J J71 := (by rw [eJ71]; exact tk_f hK11)
                    refine g_aload_n d_X10_findFlows_135 rfl ?_
                    refine g_getR d_X10_findFlows_136 fq_RX10_43 rfl rfl ?_
                    refine g_iload d_X10_findFlows_139 rfl ?_
                    refine g_iconst (v := 1) d_X10_findFlows_141 kI_1 ?_
                    refine g_iadd d_X10_findFlows_142 ?_
                    refine g_dup2 d_X10_findFlows_143 rfl rfl ?_
                    refine g_laload (N := 12) d_X10_findFlows_144 rfl kT_12 (by constructor <;> grind) rfl ?_
                    refine g_lload d_X10_findFlows_145 rfl ?_
                    refine g_ladd d_X10_findFlows_147 ?_
                    refine g_lastore (N := 12) d_X10_findFlows_148 rfl kT_12 (by constructor <;> grind) rfl  ?_
                    refine g_nmJ (fun J73 eJ73 => ?_)
                    replace hF := fe_lt hF eJ73
                    have hK74 : TK x.toNatClampNeg J J73 := (by rw [eJ73]; exact tk_f hK72)
                    refine g_iinc (v := (x9 + (1 : Int32))) (L' := [some (.ref 78), some (.int x), some (.long room), none, some (.long gap), none, some (.int (x9 + (1 : Int32))), some (.long v70), none, none, none, none]) d_X10_findFlows_149 rfl (by rw [kI_1]) (by decide) rfl ?_
                    refine g_goto d_X10_findFlows_152 ?_
                    refine g_sb [some (.ref 78), some (.int x), some (.long room), none, some (.long gap), none, some (.int (x9 + (1 : Int32))), none, none, none, none, none] (by simp [subL]) ?_
                    exact ih_86 _ (by rw [← hmu_86]; exact mu_up h89) (x9 + (1 : Int32)) J73 rfl hK74 (lo_up hl12 h89) ⟨kf2, Nat.lt_of_lt_of_le (by rw [← hmu_86]; exact mu_up h89) hkf2, hF⟩
              exact K_86 _ (0 : Int32) J6 rfl hK7 (Int32.le_refl _) ⟨_, Nat.lt_succ_self _, hF⟩
            · skip
              replace hF := fe_neg hF h30
              refine g_lload d_X10_findFlows_33 rfl ?_
              refine g_lload_n d_X10_findFlows_35 rfl ?_
              refine g_aload_n d_X10_findFlows_36 rfl ?_
              refine g_iload_n d_X10_findFlows_37 rfl ?_
              refine g_iload d_X10_findFlows_38 rfl ?_
              refine g_V2 d_X10_findFlows_40 cs_X10_findFlows_X10_warm lk_RX10_200 im_X10_warm se_X10_warm rfl rfl rfl (Nat.le_of_ble_eq_true rfl) ⟨rfl, rfl⟩ ⟨Nat.zero_le _, Nat.zero_le _⟩ (ct_X10_warm x x5 I J6 hx (by grind) (by grind)) (fun r40 S40 Ic76 Jc77 q40_74 => ?_)
              obtain ⟨rfl, rfl, rfl, r80, rfl, hf40_78⟩ := q40_74
              replace hF := fe_b3 hF hf40_78
              refine g_st (st' := [.long r80, .long room, .long gap]) rfl ?_
              refine g_lsub d_X10_findFlows_43 ?_
              refine g_lmul d_X10_findFlows_44 ?_
              refine g_ldc2 (v := 100) d_X10_findFlows_45 tw_1391 ?_
              refine g_ldiv d_X10_findFlows_48 (by decide) ?_
              refine g_topJ (fun v82 ev82 => ?_)
              replace hF := fe_lt hF ev82
              refine g_lstore (L' := [some (.ref 78), some (.int x), some (.long room), none, some (.long gap), none, some (.int x5), some (.long v82), none, none, none, none]) d_X10_findFlows_49 (by decide) rfl ?_
              refine g_aload_n d_X10_findFlows_51 rfl ?_
              refine g_getR d_X10_findFlows_52 fq_RX10_43 rfl rfl ?_
              refine g_iload d_X10_findFlows_55 rfl ?_
              refine g_dup2 d_X10_findFlows_57 rfl rfl ?_
              refine g_laload (N := 12) d_X10_findFlows_58 rfl kT_12 (by constructor <;> grind) rfl ?_
              refine g_lload d_X10_findFlows_59 rfl ?_
              refine g_ladd d_X10_findFlows_61 ?_
              refine g_lastore (N := 12) d_X10_findFlows_62 rfl kT_12 (by constructor <;> grind) rfl  ?_
              refine g_nmJ (fun J83 eJ83 => ?_)
              replace hF := fe_lt hF eJ83
              have hK84 : TK x.toNatClampNeg J J83 := (by rw [eJ83]; exact tk_f hK7)
              refine g_aload_n d_X10_findFlows_63 rfl ?_
              refine g_getR d_X10_findFlows_64 fq_RX10_7 rfl rfl ?_
              refine g_iload_n d_X10_findFlows_67 rfl ?_
              refine g_bipush (v := 55) d_X10_findFlows_68 kB_55 ?_
              refine g_iadd d_X10_findFlows_70 ?_
              refine g_dup2 d_X10_findFlows_71 rfl rfl ?_
              refine g_laload (N := 320) d_X10_findFlows_72 rfl kT_320 (ixc hx (by decide)) (by rw [tnc hx (by decide), kN_55]) ?_
              refine g_lload d_X10_findFlows_73 rfl ?_
              refine g_ladd d_X10_findFlows_75 ?_
              refine g_lastore (N := 320) d_X10_findFlows_76 rfl kT_320 (ixc hx (by decide)) (by rw [tnc hx (by decide), kN_55])  ?_
              refine g_nmJ (fun J85 eJ85 => ?_)
              replace hF := fe_lt hF eJ85
              have hK86 : TK x.toNatClampNeg J J85 := (by rw [eJ85]; exact tk_w hK84 (by unfold KP; omega) (fun hh => absurd hh (by omega)))
              refine g_iinc (v := (x5 + (1 : Int32))) (L' := [some (.ref 78), some (.int x), some (.long room), none, some (.long gap), none, some (.int (x5 + (1 : Int32))), some (.long v82), none, none, none, none]) d_X10_findFlows_77 rfl (by rw [kI_1]) (by decide) rfl ?_
              refine g_goto d_X10_findFlows_80 ?_
              refine g_sb [some (.ref 78), some (.int x), some (.long room), none, some (.long gap), none, some (.int (x5 + (1 : Int32))), none, none, none, none, none] (by simp [subL]) ?_
              exact ih_27 _ (by rw [← hmu_27]; exact mu_up h30) (x5 + (1 : Int32)) J85 rfl hK86 (lo_up hl8 h30) ⟨kf1, Nat.lt_of_lt_of_le (by rw [← hmu_27]; exact mu_up h30) hkf1, hF⟩
        exact K_27 _ (0 : Int32) J2 rfl hK3 (Int32.le_refl _) ⟨_, Nat.lt_succ_self _, hF⟩
      · skip
        replace hF := fe_neg hF h7
        refine g_aload_n d_X10_findFlows_10 rfl ?_
        refine g_getR d_X10_findFlows_11 fq_RX10_43 rfl rfl ?_
        refine g_iload d_X10_findFlows_14 rfl ?_
        refine g_lconst d_X10_findFlows_16 kL_0 ?_
        refine g_lastore (N := 12) d_X10_findFlows_17 rfl kT_12 ⟨hl4, Int32.not_le.mp h7⟩ rfl  ?_
        refine g_nmJ (fun J87 eJ87 => ?_)
        replace hF := fe_lt hF eJ87
        have hK88 : TK x.toNatClampNeg J J87 := (by rw [eJ87]; exact tk_f hK3)
        refine g_iinc (v := (x1 + (1 : Int32))) (L' := [some (.ref 78), some (.int x), some (.long room), none, some (.long gap), none, some (.int (x1 + (1 : Int32))), none, none, none, none, none]) d_X10_findFlows_18 rfl (by rw [kI_1]) (by decide) rfl ?_
        refine g_goto d_X10_findFlows_21 ?_
        exact ih_3 _ (by rw [← hmu_3]; exact mu_up h7) (x1 + (1 : Int32)) J87 rfl hK88 (lo_up hl4 h7) ⟨kf0, Nat.lt_of_lt_of_le (by rw [← hmu_3]; exact mu_up h7) hkf0, hF⟩
  exact K_3 _ (0 : Int32) J rfl hK0 (Int32.le_refl _) ⟨_, Nat.lt_succ_self _, hF⟩
noncomputable def fl_X10_tick_230_6 (I : Iv) (x : Int32) (Kf6 : Int32 → Jv → Iv × Jv) : Nat → Int32 → Jv → Iv × Jv
  | 0, x45, J46 => (I, J46)
  | kf6 + 1, x45, J46 => if (12 : Int32) ≤ x45 then Kf6 x45 J46 else l_t (wJ J46 79 (x.toNatClampNeg + x45.toNatClampNeg) ((J46 79 (x.toNatClampNeg + x45.toNatClampNeg)) + (J46 88 x45.toNatClampNeg))) (fun (J74 : Jv) => fl_X10_tick_230_6 I x Kf6 kf6 (x45 + (1 : Int32)) J74)
noncomputable def fn_X10_tick (x : Int32) (open_ : Int32) (shelf : Int32) (less : Int32) (I : Iv) (J : Jv) : Iv × Jv :=
  l_t ((J 79 (x.toNatClampNeg + 52))) (fun (v1 : Int64) => l_t ((J 79 (x.toNatClampNeg + 54))) (fun (v2 : Int64) => b_n3 (fn_X10_isHour v2 (I 81 12) (I 81 13) I J) (fun (r8 : Int32) (_ : Iv) (_ : Jv) => j_n (fun (w10 : Int64) => b_n3 (fn_X10_has v1 (6 : Int32) I J) (fun (r16 : Int32) (_ : Iv) (_ : Jv) => j_n (fun (w18 : Int64) => l_t (((((10 : Int64) * (Int32.toInt64 (I 81 11))) + w10) + w18)) (fun (v19 : Int64) => j_n (fun (w20 : Int32) => b_n2 (fn_X10_readBulb x shelf less I J) (fun (_ : Iv) (J21 : Jv) => b_n3 (fn_X10_has v1 (0 : Int32) I J21) (fun (r33 : Int32) (_ : Iv) (_ : Jv) => j_n (fun (w35 : Int64) => j_n (fun (w36 : Int64) => b_n2 (fn_X10_findFlows x v19 (((Int32.toInt64 (I 81 1)) + w35) + w36) I J21) (fun (_ : Iv) (J37 : Jv) => j_n (fun (w44 : Int64) => fl_X10_tick_230_6 I x (fun (x45 : Int32) (J46 : Jv) => j_n (fun (J49 : Jv) => l_t (wJ J49 79 (x.toNatClampNeg + 3) ((J49 79 (x.toNatClampNeg + 3)) - w44)) (fun (J51 : Jv) => l_t (wJ J51 79 (x.toNatClampNeg + 58) ((J51 79 (x.toNatClampNeg + 58)) + w44)) (fun (J53 : Jv) => j_n (fun (w55 : Int64) => l_t (wJ J53 79 (x.toNatClampNeg + 63) ((J53 79 (x.toNatClampNeg + 63)) + w55)) (fun (J56 : Jv) => j_n (fun (w58 : Int64) => b_n2 (fn_X10_wet x (w35 + w58) I J56) (fun (_ : Iv) (J59 : Jv) => l_t (wJ J59 79 (x.toNatClampNeg + 54) ((J59 79 (x.toNatClampNeg + 54)) + (1 : Int64))) (fun (J66 : Jv) => (I, J66)))) (fun (j412_9 : Int64 → Iv × Jv) => if open_ = 0 then j412_9 ((0 : Int64)) else j412_9 ((20 : Int64))))) (fun (j395_8 : Int64 → Iv × Jv) => if (J53 79 (x.toNatClampNeg + 66)) = (1 : Int64) then j395_8 ((Int32.toInt64 (I 81 9))) else j395_8 ((0 : Int64)))))) (fun (j332_7 : Jv → Iv × Jv) => if w20 = 0 then j332_7 J46 else l_t (wJ J46 79 (x.toNatClampNeg) ((J46 79 x.toNatClampNeg) + ((5 : Int64) * (Int32.toInt64 (I 81 10))))) (fun (J68 : Jv) => l_t (wJ J68 79 (x.toNatClampNeg + 57) ((J68 79 (x.toNatClampNeg + 57)) + ((5 : Int64) * (Int32.toInt64 (I 81 10))))) (fun (J70 : Jv) => l_t (wJ J70 79 (x.toNatClampNeg + 63) ((J70 79 (x.toNatClampNeg + 63)) + (Int32.toInt64 (I 81 10)))) (fun (J72 : Jv) => j332_7 J72))))) (mU (12 : Int32) ((0 : Int32)) + 1) (0 : Int32) J37) (fun (j225_5 : Int64 → Iv × Jv) => if (J37 79 (x.toNatClampNeg + 66)) = (1 : Int64) then b_n3 (fn_X10_moves x v19 I J37) (fun (r81 : Int64) (_ : Iv) (_ : Jv) => j225_5 r81) else j225_5 ((0 : Int64))))) (fun (j196_4 : Int64 → Iv × Jv) => if open_ = 0 then j196_4 ((0 : Int64)) else j196_4 ((60 : Int64)))) (fun (j169_3 : Int64 → Iv × Jv) => if r33 = 0 then j169_3 ((Int32.toInt64 (I 81 2))) else j169_3 ((((4 : Int64) * (Int32.toInt64 (I 81 2))) + (12 : Int64))))))) (fun (j125_2 : Int32 → Iv × Jv) => j_n (j125_2 ((0 : Int32))) (fun (j124_10 : Iv × Jv) => j_n (if (J 79 (x.toNatClampNeg + 69)) = (1 : Int64) then j125_2 ((1 : Int32)) else j124_10) (fun (j106_11 : Iv × Jv) => if open_ = 0 then b_n3 (fn_X10_has v1 (5 : Int32) I J) (fun (r88 : Int32) (_ : Iv) (_ : Jv) => if r88 = 0 then j124_10 else j106_11) else j106_11))))) (fun (j90_1 : Int64 → Iv × Jv) => if r16 = 0 then j90_1 ((0 : Int64)) else j90_1 ((800 : Int64))))) (fun (j72_0 : Int64 → Iv × Jv) => if r8 = 0 then j72_0 ((0 : Int64)) else j72_0 (((10 : Int64) * (Int32.toInt64 (I 81 14))))))))
set_option maxRecDepth 100000 in
set_option maxHeartbeats 4000000 in
theorem ct_X10_tick (x : Int32) (open_ : Int32) (shelf : Int32) (less : Int32) (I : Iv) (J : Jv) (hx : HX x) (hfu : FU x.toNatClampNeg J) (hbi : BI x.toNatClampNeg J) (hsh : 0 ≤ shelf ∧ shelf ≤ 2) (hb2 : 0 ≤ I 81 2 ∧ I 81 2 ≤ 99) : Ct m_X10_tick [.ref 78, .int x, .int open_, .int shelf, .int less] SHF I J (fun r S' I' J' => S' = SHF ∧ (I = I' ∧ TG x.toNatClampNeg J J') ∧ r = none ∧ fn_X10_tick x open_ shelf less I J = (I', J') ∧ J' 79 (x.toNatClampNeg + 54) = J 79 (x.toNatClampNeg + 54) + 1) := by
  refine ct_of 12 (by decide +kernel) rfl rfl ?_
  have hK0 : TK x.toNatClampNeg J J := (tk_rfl hfu)
  have hF := fe_of (fn_X10_tick.eq_1 x open_ shelf less I J)
  refine g_aload_n d_X10_tick_0 rfl ?_
  refine g_getR d_X10_tick_1 fq_RX10_7 rfl rfl ?_
  refine g_iload_n d_X10_tick_4 rfl ?_
  refine g_bipush (v := 52) d_X10_tick_5 kB_52 ?_
  refine g_iadd d_X10_tick_7 ?_
  refine g_laload (N := 320) d_X10_tick_8 rfl kT_320 (ixc hx (by decide)) (by rw [tnc hx (by decide), kN_52]) ?_
  refine g_topJ (fun v1 ev1 => ?_)
  replace hF := fe_lt hF ev1
  refine g_lstore (L' := [some (.ref 78), some (.int x), some (.int open_), some (.int shelf), some (.int less), some (.long v1), none, none, none, none, none, none, none, none, none, none, none]) d_X10_tick_9 (by decide) rfl ?_
  refine g_aload_n d_X10_tick_11 rfl ?_
  refine g_getR d_X10_tick_12 fq_RX10_7 rfl rfl ?_
  refine g_iload_n d_X10_tick_15 rfl ?_
  refine g_bipush (v := 54) d_X10_tick_16 kB_54 ?_
  refine g_iadd d_X10_tick_18 ?_
  refine g_laload (N := 320) d_X10_tick_19 rfl kT_320 (ixc hx (by decide)) (by rw [tnc hx (by decide), kN_54]) ?_
  refine g_topJ (fun v2 ev2 => ?_)
  replace hF := fe_lt hF ev2
  refine g_lstore (L' := [some (.ref 78), some (.int x), some (.int open_), some (.int shelf), some (.int less), some (.long v1), none, some (.long v2), none, none, none, none, none, none, none, none, none]) d_X10_tick_20 (by decide) rfl ?_
  refine g_ldc2 (v := 10) d_X10_tick_22 tw_1375 ?_
  refine g_aload_n d_X10_tick_25 rfl ?_
  refine g_getR d_X10_tick_26 fq_RX10_17 rfl rfl ?_
  refine g_bipush (v := 11) d_X10_tick_29 kB_11 ?_
  refine g_iaload (N := 15) d_X10_tick_31 rfl kT_15 ⟨by decide, by decide⟩ kN_11 ?_
  refine g_i2l d_X10_tick_32 ?_
  refine g_lmul d_X10_tick_33 ?_
  refine g_lload d_X10_tick_34 rfl ?_
  refine g_aload_n d_X10_tick_36 rfl ?_
  refine g_getR d_X10_tick_37 fq_RX10_17 rfl rfl ?_
  refine g_bipush (v := 12) d_X10_tick_40 kB_12 ?_
  refine g_iaload (N := 15) d_X10_tick_42 rfl kT_15 ⟨by decide, by decide⟩ kN_12 ?_
  refine g_aload_n d_X10_tick_43 rfl ?_
  refine g_getR d_X10_tick_44 fq_RX10_17 rfl rfl ?_
  refine g_bipush (v := 13) d_X10_tick_47 kB_13 ?_
  refine g_iaload (N := 15) d_X10_tick_49 rfl kT_15 ⟨by decide, by decide⟩ kN_13 ?_
  refine g_S3 d_X10_tick_50 cs_X10_tick_X10_isHour lk_RX10_219 im_X10_isHour (Nat.le_of_ble_eq_true rfl) ⟨rfl, rfl⟩ ⟨Nat.zero_le _, Nat.zero_le _⟩ (ct_X10_isHour v2 (I 81 12) (I 81 13) I J ) (fun r50 S50 Ic4 Jc5 q50_2 => ?_)
  obtain ⟨rfl, rfl, rfl, r8, rfl, hz50, hf50_6⟩ := q50_2
  replace hF := fe_b3 hF hf50_6
  refine g_st (st' := [.int r8, .long ((10 : Int64) * (Int32.toInt64 (I 81 11)))]) rfl ?_
  obtain ⟨j72_0, hj72_0, hF⟩ := fe_jx hF
  have J_72 : ∀ (w10 : Int64), (FE (fn_X10_tick x open_ shelf less I J) (fun _ => j72_0 w10)) → G m_X10_tick (rq m_X10_tick (fun r S' I' J' => S' = SHF ∧ (I = I' ∧ TG x.toNatClampNeg J J') ∧ r = none ∧ fn_X10_tick x open_ shelf less I J = (I', J') ∧ J' 79 (x.toNatClampNeg + 54) = J 79 (x.toNatClampNeg + 54) + 1)) 0 0 72 [some (.ref 78), some (.int x), some (.int open_), some (.int shelf), some (.int less), some (.long v1), none, some (.long v2), none, none, none, none, none, none, none, none, none] [.long w10, .long ((10 : Int64) * (Int32.toInt64 (I 81 11)))] SHF I J := by
    intro w10 hF_j72_0
    have hF := fe_eq hF_j72_0 (congrFun hj72_0 w10)
    refine g_ladd d_X10_tick_72 ?_
    refine g_lload d_X10_tick_73 rfl ?_
    refine g_bipush (v := 6) d_X10_tick_75 kB_6 ?_
    refine g_S2 d_X10_tick_77 cs_X10_tick_X10_has lk_RX10_149 im_X10_has (Nat.le_of_ble_eq_true rfl) ⟨rfl, rfl⟩ ⟨Nat.zero_le _, Nat.zero_le _⟩ (ct_X10_has v1 (6 : Int32) I J ) (fun r77 S77 Ic12 Jc13 q77_10 => ?_)
    obtain ⟨rfl, rfl, rfl, r16, rfl, hz77, hf77_14⟩ := q77_10
    replace hF := fe_b3 hF hf77_14
    refine g_st (st' := [.int r16, .long (((10 : Int64) * (Int32.toInt64 (I 81 11))) + w10)]) rfl ?_
    obtain ⟨j90_1, hj90_1, hF⟩ := fe_jx hF
    have J_90 : ∀ (w18 : Int64), (FE (fn_X10_tick x open_ shelf less I J) (fun _ => j90_1 w18)) → G m_X10_tick (rq m_X10_tick (fun r S' I' J' => S' = SHF ∧ (I = I' ∧ TG x.toNatClampNeg J J') ∧ r = none ∧ fn_X10_tick x open_ shelf less I J = (I', J') ∧ J' 79 (x.toNatClampNeg + 54) = J 79 (x.toNatClampNeg + 54) + 1)) 0 0 90 [some (.ref 78), some (.int x), some (.int open_), some (.int shelf), some (.int less), some (.long v1), none, some (.long v2), none, none, none, none, none, none, none, none, none] [.long w18, .long (((10 : Int64) * (Int32.toInt64 (I 81 11))) + w10)] SHF I J := by
      intro w18 hF_j90_1
      have hF := fe_eq hF_j90_1 (congrFun hj90_1 w18)
      refine g_ladd d_X10_tick_90 ?_
      refine g_topJ (fun v19 ev19 => ?_)
      replace hF := fe_lt hF ev19
      refine g_lstore (L' := [some (.ref 78), some (.int x), some (.int open_), some (.int shelf), some (.int less), some (.long v1), none, some (.long v2), none, some (.long v19), none, none, none, none, none, none, none]) d_X10_tick_91 (by decide) rfl ?_
      refine g_iload_n d_X10_tick_93 rfl ?_
      obtain ⟨j125_2, hj125_2, hF⟩ := fe_jx hF
      have J_125 : ∀ (w20 : Int32), (w20 = 0 ∨ w20 = 1) → (FE (fn_X10_tick x open_ shelf less I J) (fun _ => j125_2 w20)) → G m_X10_tick (rq m_X10_tick (fun r S' I' J' => S' = SHF ∧ (I = I' ∧ TG x.toNatClampNeg J J') ∧ r = none ∧ fn_X10_tick x open_ shelf less I J = (I', J') ∧ J' 79 (x.toNatClampNeg + 54) = J 79 (x.toNatClampNeg + 54) + 1)) 0 0 125 [some (.ref 78), some (.int x), some (.int open_), some (.int shelf), some (.int less), some (.long v1), none, some (.long v2), none, some (.long v19), none, none, none, none, none, none, none] [.int w20] SHF I J := by
        intro w20 hw20 hF_j125_2
        have hF := fe_eq hF_j125_2 (congrFun hj125_2 w20)
        refine g_istore (L' := [some (.ref 78), some (.int x), some (.int open_), some (.int shelf), some (.int less), some (.long v1), none, some (.long v2), none, some (.long v19), none, some (.int w20), none, none, none, none, none]) d_X10_tick_125 (by decide) rfl ?_
        refine g_aload_n d_X10_tick_127 rfl ?_
        refine g_iload_n d_X10_tick_128 rfl ?_
        refine g_iload_n d_X10_tick_129 rfl ?_
        refine g_iload d_X10_tick_130 rfl ?_
        refine g_V3 d_X10_tick_132 cs_X10_tick_X10_readBulb lk_RX10_225 im_X10_readBulb se_X10_readBulb rfl rfl rfl (Nat.le_of_ble_eq_true rfl) ⟨rfl, rfl⟩ ⟨Nat.zero_le _, Nat.zero_le _⟩ (ct_X10_readBulb x shelf less I J hx hfu hsh) (fun r132 S132 Ic23 J21 q132_21 => ?_)
        obtain ⟨rfl, ⟨rfl, hc132_23⟩, rfl, hf132_24⟩ := q132_21
        replace hF := fe_b2 hF hf132_24
        refine g_st (st' := []) rfl ?_
        have hK27 : TK x.toNatClampNeg J J21 := hK0.tr hc132_23
        have hbs : 0 ≤ (I 81 2).toInt64 ∧ (I 81 2).toInt64 ≤ 99 := i2l_bd (b := 99) hb2
        refine g_lload d_X10_tick_135 rfl ?_
        refine g_iconst (v := 0) d_X10_tick_137 kI_0 ?_
        refine g_S2 d_X10_tick_138 cs_X10_tick_X10_has lk_RX10_149 im_X10_has (Nat.le_of_ble_eq_true rfl) ⟨rfl, rfl⟩ ⟨Nat.zero_le _, Nat.zero_le _⟩ (ct_X10_has v1 (0 : Int32) I J21 ) (fun r138 S138 Ic29 Jc30 q138_27 => ?_)
        obtain ⟨rfl, rfl, rfl, r33, rfl, hz138, hf138_31⟩ := q138_27
        replace hF := fe_b3 hF hf138_31
        refine g_st (st' := [.int r33]) rfl ?_
        obtain ⟨j169_3, hj169_3, hF⟩ := fe_jx hF
        have J_169 : ∀ (w35 : Int64), (0 ≤ w35 ∧ w35 ≤ 500) → (FE (fn_X10_tick x open_ shelf less I J) (fun _ => j169_3 w35)) → G m_X10_tick (rq m_X10_tick (fun r S' I' J' => S' = SHF ∧ (I = I' ∧ TG x.toNatClampNeg J J') ∧ r = none ∧ fn_X10_tick x open_ shelf less I J = (I', J') ∧ J' 79 (x.toNatClampNeg + 54) = J 79 (x.toNatClampNeg + 54) + 1)) 0 0 169 [some (.ref 78), some (.int x), some (.int open_), some (.int shelf), some (.int less), some (.long v1), none, some (.long v2), none, some (.long v19), none, some (.int w20), none, none, none, none, none] [.long w35] SHF I J21 := by
          intro w35 hse_169 hF_j169_3
          have hF := fe_eq hF_j169_3 (congrFun hj169_3 w35)
          refine g_lstore (L' := [some (.ref 78), some (.int x), some (.int open_), some (.int shelf), some (.int less), some (.long v1), none, some (.long v2), none, some (.long v19), none, some (.int w20), some (.long w35), none, none, none, none]) d_X10_tick_169 (by decide) rfl ?_
          refine g_aload_n d_X10_tick_171 rfl ?_
          refine g_iload_n d_X10_tick_172 rfl ?_
          refine g_lload d_X10_tick_173 rfl ?_
          refine g_aload_n d_X10_tick_175 rfl ?_
          refine g_getR d_X10_tick_176 fq_RX10_17 rfl rfl ?_
          refine g_iconst (v := 1) d_X10_tick_179 kI_1 ?_
          refine g_iaload (N := 15) d_X10_tick_180 rfl kT_15 ⟨by decide, by decide⟩ kN_1 ?_
          refine g_i2l d_X10_tick_181 ?_
          refine g_lload d_X10_tick_182 rfl ?_
          refine g_ladd d_X10_tick_184 ?_
          refine g_iload_n d_X10_tick_185 rfl ?_
          obtain ⟨j196_4, hj196_4, hF⟩ := fe_jx hF
          have J_196 : ∀ (w36 : Int64), (FE (fn_X10_tick x open_ shelf less I J) (fun _ => j196_4 w36)) → G m_X10_tick (rq m_X10_tick (fun r S' I' J' => S' = SHF ∧ (I = I' ∧ TG x.toNatClampNeg J J') ∧ r = none ∧ fn_X10_tick x open_ shelf less I J = (I', J') ∧ J' 79 (x.toNatClampNeg + 54) = J 79 (x.toNatClampNeg + 54) + 1)) 0 0 196 [some (.ref 78), some (.int x), some (.int open_), some (.int shelf), some (.int less), some (.long v1), none, some (.long v2), none, some (.long v19), none, some (.int w20), some (.long w35), none, none, none, none] [.long w36, .long ((Int32.toInt64 (I 81 1)) + w35), .long v19, .int x, .ref 78] SHF I J21 := by
            intro w36 hF_j196_4
            have hF := fe_eq hF_j196_4 (congrFun hj196_4 w36)
            refine g_ladd d_X10_tick_196 ?_
            refine g_V3 d_X10_tick_197 cs_X10_tick_X10_findFlows lk_RX10_233 im_X10_findFlows se_X10_findFlows rfl rfl rfl (Nat.le_of_ble_eq_true rfl) ⟨rfl, rfl⟩ ⟨Nat.zero_le _, Nat.zero_le _⟩ (ct_X10_findFlows x v19 (((Int32.toInt64 (I 81 1)) + w35) + w36) I J21 hx (hK27.2.2) (hK27.bi hbi)) (fun r197 S197 Ic39 J37 q197_37 => ?_)
            obtain ⟨rfl, ⟨rfl, hc197_39⟩, rfl, hf197_40⟩ := q197_37
            replace hF := fe_b2 hF hf197_40
            refine g_st (st' := []) rfl ?_
            have hK43 : TK x.toNatClampNeg J J37 := hK27.tr hc197_39
            refine g_aload_n d_X10_tick_200 rfl ?_
            refine g_getR d_X10_tick_201 fq_RX10_7 rfl rfl ?_
            refine g_iload_n d_X10_tick_204 rfl ?_
            refine g_bipush (v := 66) d_X10_tick_205 kB_66 ?_
            refine g_iadd d_X10_tick_207 ?_
            refine g_laload (N := 320) d_X10_tick_208 rfl kT_320 (ixc hx (by decide)) (by rw [tnc hx (by decide), kN_66]) ?_
            refine g_lconst d_X10_tick_209 kL_1 ?_
            obtain ⟨j225_5, hj225_5, hF⟩ := fe_jx hF
            have J_225 : ∀ (w44 : Int64), (FE (fn_X10_tick x open_ shelf less I J) (fun _ => j225_5 w44)) → G m_X10_tick (rq m_X10_tick (fun r S' I' J' => S' = SHF ∧ (I = I' ∧ TG x.toNatClampNeg J J') ∧ r = none ∧ fn_X10_tick x open_ shelf less I J = (I', J') ∧ J' 79 (x.toNatClampNeg + 54) = J 79 (x.toNatClampNeg + 54) + 1)) 0 0 225 [some (.ref 78), some (.int x), some (.int open_), some (.int shelf), some (.int less), some (.long v1), none, some (.long v2), none, some (.long v19), none, some (.int w20), some (.long w35), none, none, none, none] [.long w44] SHF I J37 := by
              intro w44 hF_j225_5
              have hF := fe_eq hF_j225_5 (congrFun hj225_5 w44)
              refine g_lstore (L' := [some (.ref 78), some (.int x), some (.int open_), some (.int shelf), some (.int less), some (.long v1), none, some (.long v2), none, some (.long v19), none, some (.int w20), some (.long w35), none, some (.long w44), none, none]) d_X10_tick_225 (by decide) rfl ?_
              refine g_iconst (v := 0) d_X10_tick_227 kI_0 ?_
              refine g_istore (L' := [some (.ref 78), some (.int x), some (.int open_), some (.int shelf), some (.int less), some (.long v1), none, some (.long v2), none, some (.long v19), none, some (.int w20), some (.long w35), none, some (.long w44), none, some (.int (0 : Int32))]) d_X10_tick_228 (by decide) rfl ?_
              obtain ⟨Kf6, hKf6, hF⟩ := fe_kx (f := fun K => fl_X10_tick_230_6 I x K (mU (12 : Int32) ((0 : Int32)) + 1) (0 : Int32) J37) hF
              have K_230 : ∀ (nu : Nat) (x45 : Int32) (J46 : Jv), mU (12 : Int32) x45 = nu → (TK x.toNatClampNeg J J46) → ((0 : Int32) ≤ x45) → (∃ kq : Nat, nu < kq ∧ (fun kq => FE (fn_X10_tick x open_ shelf less I J) (fun _ => fl_X10_tick_230_6 I x Kf6 kq x45 J46)) kq) → G m_X10_tick (rq m_X10_tick (fun r S' I' J' => S' = SHF ∧ (I = I' ∧ TG x.toNatClampNeg J J') ∧ r = none ∧ fn_X10_tick x open_ shelf less I J = (I', J') ∧ J' 79 (x.toNatClampNeg + 54) = J 79 (x.toNatClampNeg + 54) + 1)) 0 0 230 [some (.ref 78), some (.int x), some (.int open_), some (.int shelf), some (.int less), some (.long v1), none, some (.long v2), none, some (.long v19), none, some (.int w20), some (.long w35), none, some (.long w44), none, some (.int x45)] [] SHF I J46 := by
                intro nu
                induction nu using Nat.strongRecOn with
                | ind nu ih_230 =>
                  intro x45 J46 hmu_230 hK47 hl48 hF_Kf6
                  obtain ⟨kf6, hkf6, hF⟩ := fe_fu (P := fun kq => FE (fn_X10_tick x open_ shelf less I J) (fun _ => fl_X10_tick_230_6 I x Kf6 kq x45 J46)) hF_Kf6
                  replace hF := fe_eq hF (fl_X10_tick_230_6.eq_2 _ _ _ _ _ _)
                  refine g_iload d_X10_tick_230 rfl ?_
                  refine g_bipush (v := 12) d_X10_tick_232 kB_12 ?_
                  refine g_icmp_ge d_X10_tick_234 (fun h234 => ?_) (fun h234 => ?_)
                  · skip
                    replace hF := fe_pos hF h234
                    replace hF := fe_eq hF (congrFun (congrFun hKf6 x45) J46)
                    refine g_iload d_X10_tick_262 rfl ?_
                    obtain ⟨j332_7, hj332_7, hF⟩ := fe_jx hF
                    have J_332 : ∀ (J49 : Jv), (TK x.toNatClampNeg J J49) → (FE (fn_X10_tick x open_ shelf less I J) (fun _ => j332_7 J49)) → G m_X10_tick (rq m_X10_tick (fun r S' I' J' => S' = SHF ∧ (I = I' ∧ TG x.toNatClampNeg J J') ∧ r = none ∧ fn_X10_tick x open_ shelf less I J = (I', J') ∧ J' 79 (x.toNatClampNeg + 54) = J 79 (x.toNatClampNeg + 54) + 1)) 0 0 332 [some (.ref 78), some (.int x), some (.int open_), some (.int shelf), some (.int less), some (.long v1), none, some (.long v2), none, some (.long v19), none, some (.int w20), some (.long w35), none, some (.long w44), none, some (.int x45)] [] SHF I J49 := by
                      intro J49 hK50 hF_j332_7
                      have hF := fe_eq hF_j332_7 (congrFun hj332_7 J49)
                      refine g_aload_n d_X10_tick_332 rfl ?_
                      refine g_getR d_X10_tick_333 fq_RX10_7 rfl rfl ?_
                      refine g_iload_n d_X10_tick_336 rfl ?_
                      refine g_iconst (v := 3) d_X10_tick_337 kI_3 ?_
                      refine g_iadd d_X10_tick_338 ?_
                      refine g_dup2 d_X10_tick_339 rfl rfl ?_
                      refine g_laload (N := 320) d_X10_tick_340 rfl kT_320 (ixc hx (by decide)) (by rw [tnc hx (by decide), kN_3]) ?_
                      refine g_lload d_X10_tick_341 rfl ?_
                      refine g_lsub d_X10_tick_343 ?_
                      refine g_lastore (N := 320) d_X10_tick_344 rfl kT_320 (ixc hx (by decide)) (by rw [tnc hx (by decide), kN_3])  ?_
                      refine g_nmJ (fun J51 eJ51 => ?_)
                      replace hF := fe_lt hF eJ51
                      have hK52 : TK x.toNatClampNeg J J51 := (by rw [eJ51]; exact tk_w hK50 (by unfold KP; omega) (fun hh => absurd hh (by omega)))
                      refine g_aload_n d_X10_tick_345 rfl ?_
                      refine g_getR d_X10_tick_346 fq_RX10_7 rfl rfl ?_
                      refine g_iload_n d_X10_tick_349 rfl ?_
                      refine g_bipush (v := 58) d_X10_tick_350 kB_58 ?_
                      refine g_iadd d_X10_tick_352 ?_
                      refine g_dup2 d_X10_tick_353 rfl rfl ?_
                      refine g_laload (N := 320) d_X10_tick_354 rfl kT_320 (ixc hx (by decide)) (by rw [tnc hx (by decide), kN_58]) ?_
                      refine g_lload d_X10_tick_355 rfl ?_
                      refine g_ladd d_X10_tick_357 ?_
                      refine g_lastore (N := 320) d_X10_tick_358 rfl kT_320 (ixc hx (by decide)) (by rw [tnc hx (by decide), kN_58])  ?_
                      refine g_nmJ (fun J53 eJ53 => ?_)
                      replace hF := fe_lt hF eJ53
                      have hK54 : TK x.toNatClampNeg J J53 := (by rw [eJ53]; exact tk_w hK52 (by unfold KP; omega) (fun hh => absurd hh (by omega)))
                      refine g_aload_n d_X10_tick_359 rfl ?_
                      refine g_getR d_X10_tick_360 fq_RX10_7 rfl rfl ?_
                      refine g_iload_n d_X10_tick_363 rfl ?_
                      refine g_bipush (v := 63) d_X10_tick_364 kB_63 ?_
                      refine g_iadd d_X10_tick_366 ?_
                      refine g_dup2 d_X10_tick_367 rfl rfl ?_
                      refine g_laload (N := 320) d_X10_tick_368 rfl kT_320 (ixc hx (by decide)) (by rw [tnc hx (by decide), kN_63]) ?_
                      refine g_aload_n d_X10_tick_369 rfl ?_
                      refine g_getR d_X10_tick_370 fq_RX10_7 rfl rfl ?_
                      refine g_iload_n d_X10_tick_373 rfl ?_
                      refine g_bipush (v := 66) d_X10_tick_374 kB_66 ?_
                      refine g_iadd d_X10_tick_376 ?_
                      refine g_laload (N := 320) d_X10_tick_377 rfl kT_320 (ixc hx (by decide)) (by rw [tnc hx (by decide), kN_66]) ?_
                      refine g_lconst d_X10_tick_378 kL_1 ?_
                      obtain ⟨j395_8, hj395_8, hF⟩ := fe_jx hF
                      have J_395 : ∀ (w55 : Int64), (FE (fn_X10_tick x open_ shelf less I J) (fun _ => j395_8 w55)) → G m_X10_tick (rq m_X10_tick (fun r S' I' J' => S' = SHF ∧ (I = I' ∧ TG x.toNatClampNeg J J') ∧ r = none ∧ fn_X10_tick x open_ shelf less I J = (I', J') ∧ J' 79 (x.toNatClampNeg + 54) = J 79 (x.toNatClampNeg + 54) + 1)) 0 0 395 [some (.ref 78), some (.int x), some (.int open_), some (.int shelf), some (.int less), some (.long v1), none, some (.long v2), none, some (.long v19), none, some (.int w20), some (.long w35), none, some (.long w44), none, some (.int x45)] [.long w55, .long (J53 79 (x.toNatClampNeg + 63)), .int (x + (63 : Int32)), .ref 79] SHF I J53 := by
                        intro w55 hF_j395_8
                        have hF := fe_eq hF_j395_8 (congrFun hj395_8 w55)
                        refine g_ladd d_X10_tick_395 ?_
                        refine g_lastore (N := 320) d_X10_tick_396 rfl kT_320 (ixc hx (by decide)) (by rw [tnc hx (by decide), kN_63])  ?_
                        refine g_nmJ (fun J56 eJ56 => ?_)
                        replace hF := fe_lt hF eJ56
                        have hK57 : TK x.toNatClampNeg J J56 := (by rw [eJ56]; exact tk_w hK54 (by unfold KP; omega) (fun hh => absurd hh (by omega)))
                        refine g_aload_n d_X10_tick_397 rfl ?_
                        refine g_iload_n d_X10_tick_398 rfl ?_
                        refine g_lload d_X10_tick_399 rfl ?_
                        refine g_iload_n d_X10_tick_401 rfl ?_
                        obtain ⟨j412_9, hj412_9, hF⟩ := fe_jx hF
                        have J_412 : ∀ (w58 : Int64), (0 ≤ w58 ∧ w58 ≤ 20) → (FE (fn_X10_tick x open_ shelf less I J) (fun _ => j412_9 w58)) → G m_X10_tick (rq m_X10_tick (fun r S' I' J' => S' = SHF ∧ (I = I' ∧ TG x.toNatClampNeg J J') ∧ r = none ∧ fn_X10_tick x open_ shelf less I J = (I', J') ∧ J' 79 (x.toNatClampNeg + 54) = J 79 (x.toNatClampNeg + 54) + 1)) 0 0 412 [some (.ref 78), some (.int x), some (.int open_), some (.int shelf), some (.int less), some (.long v1), none, some (.long v2), none, some (.long v19), none, some (.int w20), some (.long w35), none, some (.long w44), none, some (.int x45)] [.long w58, .long w35, .int x, .ref 78] SHF I J56 := by
                          intro w58 hse2_412 hF_j412_9
                          have hF := fe_eq hF_j412_9 (congrFun hj412_9 w58)
                          refine g_ladd d_X10_tick_412 ?_
                          refine g_V2 d_X10_tick_413 cs_X10_tick_X10_wet lk_RX10_243 im_X10_wet se_X10_wet rfl rfl rfl (Nat.le_of_ble_eq_true rfl) ⟨rfl, rfl⟩ ⟨Nat.zero_le _, Nat.zero_le _⟩ (ct_X10_wet x (w35 + w58) I J56 hx (hK57.2.2) (by grind)) (fun r413 S413 Ic61 J59 q413_59 => ?_)
                          obtain ⟨rfl, ⟨rfl, hc413_61⟩, rfl, hf413_62⟩ := q413_59
                          replace hF := fe_b2 hF hf413_62
                          refine g_st (st' := []) rfl ?_
                          have hK65 : TK x.toNatClampNeg J J59 := hK57.tr hc413_61
                          refine g_aload_n d_X10_tick_416 rfl ?_
                          refine g_getR d_X10_tick_417 fq_RX10_7 rfl rfl ?_
                          refine g_iload_n d_X10_tick_420 rfl ?_
                          refine g_bipush (v := 54) d_X10_tick_421 kB_54 ?_
                          refine g_iadd d_X10_tick_423 ?_
                          refine g_dup2 d_X10_tick_424 rfl rfl ?_
                          refine g_laload (N := 320) d_X10_tick_425 rfl kT_320 (ixc hx (by decide)) (by rw [tnc hx (by decide), kN_54]) ?_
                          refine g_lconst d_X10_tick_426 kL_1 ?_
                          refine g_ladd d_X10_tick_427 ?_
                          refine g_lastore (N := 320) d_X10_tick_428 rfl kT_320 (ixc hx (by decide)) (by rw [tnc hx (by decide), kN_54])  ?_
                          refine g_nmJ (fun J66 eJ66 => ?_)
                          replace hF := fe_lt hF eJ66
                          have hK67 : TG x.toNatClampNeg J J66 := (by rw [eJ66]; exact tg_w (hK65).tg (by unfold KG; omega) (by omega))
                          have htk : J66 79 (x.toNatClampNeg + 54) = J 79 (x.toNatClampNeg + 54) + 1 := by rw [eJ66, wJ_self, (hK65).tick]
                          exact g_return d_X10_tick_429 rfl rfl rfl ⟨rfl, ⟨rfl, hK67⟩, rfl, hF, htk⟩
                        refine g_if_eq d_X10_tick_402 (fun h402 => ?_) (fun h402 => ?_)
                        · skip
                          replace hF := fe_pos hF h402
                          refine g_lconst d_X10_tick_411 kL_0 ?_
                          exact J_412 ((0 : Int64)) (by grind) hF
                        · skip
                          replace hF := fe_neg hF h402
                          refine g_ldc2 (v := 20) d_X10_tick_405 tw_1343 ?_
                          refine g_goto d_X10_tick_408 ?_
                          exact J_412 ((20 : Int64)) (by grind) hF
                      refine g_lcmp_ne d_X10_tick_379 d_X10_tick_380 (fun h380 => ?_) (fun h380 => ?_)
                      · skip
                        replace hF := fe_neg hF h380
                        refine g_lconst d_X10_tick_394 kL_0 ?_
                        exact J_395 ((0 : Int64)) hF
                      · skip
                        replace hF := fe_pos hF h380
                        refine g_aload_n d_X10_tick_383 rfl ?_
                        refine g_getR d_X10_tick_384 fq_RX10_17 rfl rfl ?_
                        refine g_bipush (v := 9) d_X10_tick_387 kB_9 ?_
                        refine g_iaload (N := 15) d_X10_tick_389 rfl kT_15 ⟨by decide, by decide⟩ kN_9 ?_
                        refine g_i2l d_X10_tick_390 ?_
                        refine g_goto d_X10_tick_391 ?_
                        exact J_395 ((Int32.toInt64 (I 81 9))) hF
                    refine g_if_eq d_X10_tick_264 (fun h264 => ?_) (fun h264 => ?_)
                    · skip
                      replace hF := fe_pos hF h264
                      exact J_332 J46 hK47 hF
                    · skip
                      replace hF := fe_neg hF h264
                      refine g_aload_n d_X10_tick_267 rfl ?_
                      refine g_getR d_X10_tick_268 fq_RX10_7 rfl rfl ?_
                      refine g_iload_n d_X10_tick_271 rfl ?_
                      refine g_dup2 d_X10_tick_272 rfl rfl ?_
                      refine g_laload (N := 320) d_X10_tick_273 rfl kT_320 (by constructor <;> grind) rfl ?_
                      refine g_ldc2 (v := 5) d_X10_tick_274 tw_1399 ?_
                      refine g_aload_n d_X10_tick_277 rfl ?_
                      refine g_getR d_X10_tick_278 fq_RX10_17 rfl rfl ?_
                      refine g_bipush (v := 10) d_X10_tick_281 kB_10 ?_
                      refine g_iaload (N := 15) d_X10_tick_283 rfl kT_15 ⟨by decide, by decide⟩ kN_10 ?_
                      refine g_i2l d_X10_tick_284 ?_
                      refine g_lmul d_X10_tick_285 ?_
                      refine g_ladd d_X10_tick_286 ?_
                      refine g_lastore (N := 320) d_X10_tick_287 rfl kT_320 (by constructor <;> grind) rfl  ?_
                      refine g_nmJ (fun J68 eJ68 => ?_)
                      replace hF := fe_lt hF eJ68
                      have hK69 : TK x.toNatClampNeg J J68 := (by rw [eJ68]; exact tk_w hK47 (by unfold KP; omega) (fun hh => absurd hh (by omega)))
                      refine g_aload_n d_X10_tick_288 rfl ?_
                      refine g_getR d_X10_tick_289 fq_RX10_7 rfl rfl ?_
                      refine g_iload_n d_X10_tick_292 rfl ?_
                      refine g_bipush (v := 57) d_X10_tick_293 kB_57 ?_
                      refine g_iadd d_X10_tick_295 ?_
                      refine g_dup2 d_X10_tick_296 rfl rfl ?_
                      refine g_laload (N := 320) d_X10_tick_297 rfl kT_320 (ixc hx (by decide)) (by rw [tnc hx (by decide), kN_57]) ?_
                      refine g_ldc2 (v := 5) d_X10_tick_298 tw_1399 ?_
                      refine g_aload_n d_X10_tick_301 rfl ?_
                      refine g_getR d_X10_tick_302 fq_RX10_17 rfl rfl ?_
                      refine g_bipush (v := 10) d_X10_tick_305 kB_10 ?_
                      refine g_iaload (N := 15) d_X10_tick_307 rfl kT_15 ⟨by decide, by decide⟩ kN_10 ?_
                      refine g_i2l d_X10_tick_308 ?_
                      refine g_lmul d_X10_tick_309 ?_
                      refine g_ladd d_X10_tick_310 ?_
                      refine g_lastore (N := 320) d_X10_tick_311 rfl kT_320 (ixc hx (by decide)) (by rw [tnc hx (by decide), kN_57])  ?_
                      refine g_nmJ (fun J70 eJ70 => ?_)
                      replace hF := fe_lt hF eJ70
                      have hK71 : TK x.toNatClampNeg J J70 := (by rw [eJ70]; exact tk_w hK69 (by unfold KP; omega) (fun hh => absurd hh (by omega)))
                      refine g_aload_n d_X10_tick_312 rfl ?_
                      refine g_getR d_X10_tick_313 fq_RX10_7 rfl rfl ?_
                      refine g_iload_n d_X10_tick_316 rfl ?_
                      refine g_bipush (v := 63) d_X10_tick_317 kB_63 ?_
                      refine g_iadd d_X10_tick_319 ?_
                      refine g_dup2 d_X10_tick_320 rfl rfl ?_
                      refine g_laload (N := 320) d_X10_tick_321 rfl kT_320 (ixc hx (by decide)) (by rw [tnc hx (by decide), kN_63]) ?_
                      refine g_aload_n d_X10_tick_322 rfl ?_
                      refine g_getR d_X10_tick_323 fq_RX10_17 rfl rfl ?_
                      refine g_bipush (v := 10) d_X10_tick_326 kB_10 ?_
                      refine g_iaload (N := 15) d_X10_tick_328 rfl kT_15 ⟨by decide, by decide⟩ kN_10 ?_
                      refine g_i2l d_X10_tick_329 ?_
                      refine g_ladd d_X10_tick_330 ?_
                      refine g_lastore (N := 320) d_X10_tick_331 rfl kT_320 (ixc hx (by decide)) (by rw [tnc hx (by decide), kN_63])  ?_
                      refine g_nmJ (fun J72 eJ72 => ?_)
                      replace hF := fe_lt hF eJ72
                      have hK73 : TK x.toNatClampNeg J J72 := (by rw [eJ72]; exact tk_w hK71 (by unfold KP; omega) (fun hh => absurd hh (by omega)))
                      exact J_332 J72 hK73 hF
                  · skip
                    replace hF := fe_neg hF h234
                    have hkn : x45.toNatClampNeg < 12 := by have q := tn_lt (n := 12) hl48 h234; rwa [kN_12] at q
                    refine g_aload_n d_X10_tick_237 rfl ?_
                    refine g_getR d_X10_tick_238 fq_RX10_7 rfl rfl ?_
                    refine g_iload_n d_X10_tick_241 rfl ?_
                    refine g_iload d_X10_tick_242 rfl ?_
                    refine g_iadd d_X10_tick_244 ?_
                    refine g_dup2 d_X10_tick_245 rfl rfl ?_
                    refine g_laload (N := 320) d_X10_tick_246 rfl kT_320 (ixc hx (by constructor <;> grind)) (tnc hx (by constructor <;> grind)) ?_
                    refine g_aload_n d_X10_tick_247 rfl ?_
                    refine g_getR d_X10_tick_248 fq_RX10_43 rfl rfl ?_
                    refine g_iload d_X10_tick_251 rfl ?_
                    refine g_laload (N := 12) d_X10_tick_253 rfl kT_12 ⟨hl48, Int32.not_le.mp h234⟩ rfl ?_
                    refine g_ladd d_X10_tick_254 ?_
                    refine g_lastore (N := 320) d_X10_tick_255 rfl kT_320 (ixc hx (by constructor <;> grind)) (tnc hx (by constructor <;> grind))  ?_
                    refine g_nmJ (fun J74 eJ74 => ?_)
                    replace hF := fe_lt hF eJ74
                    have hK75 : TK x.toNatClampNeg J J74 := (by rw [eJ74]; exact tk_w hK47 (by unfold KP; omega) (fun hh => absurd hh (by omega)))
                    refine g_iinc (v := (x45 + (1 : Int32))) (L' := [some (.ref 78), some (.int x), some (.int open_), some (.int shelf), some (.int less), some (.long v1), none, some (.long v2), none, some (.long v19), none, some (.int w20), some (.long w35), none, some (.long w44), none, some (.int (x45 + (1 : Int32)))]) d_X10_tick_256 rfl (by rw [kI_1]) (by decide) rfl ?_
                    refine g_goto d_X10_tick_259 ?_
                    exact ih_230 _ (by rw [← hmu_230]; exact mu_up h234) (x45 + (1 : Int32)) J74 rfl hK75 (lo_up hl48 h234) ⟨kf6, Nat.lt_of_lt_of_le (by rw [← hmu_230]; exact mu_up h234) hkf6, hF⟩
              exact K_230 _ (0 : Int32) J37 rfl hK43 (Int32.le_refl _) ⟨_, Nat.lt_succ_self _, hF⟩
            refine g_lcmp_ne d_X10_tick_210 d_X10_tick_211 (fun h211 => ?_) (fun h211 => ?_)
            · skip
              replace hF := fe_neg hF h211
              refine g_lconst d_X10_tick_224 kL_0 ?_
              exact J_225 ((0 : Int64)) hF
            · skip
              replace hF := fe_pos hF h211
              refine g_aload_n d_X10_tick_214 rfl ?_
              refine g_iload_n d_X10_tick_215 rfl ?_
              refine g_lload d_X10_tick_216 rfl ?_
              refine g_V2 d_X10_tick_218 cs_X10_tick_X10_moves lk_RX10_237 im_X10_moves se_X10_moves rfl rfl rfl (Nat.le_of_ble_eq_true rfl) ⟨rfl, rfl⟩ ⟨Nat.zero_le _, Nat.zero_le _⟩ (ct_X10_moves x v19 I J37 hx) (fun r218 S218 Ic77 Jc78 q218_75 => ?_)
              obtain ⟨rfl, rfl, rfl, r81, rfl, hf218_79⟩ := q218_75
              replace hF := fe_b3 hF hf218_79
              refine g_st (st' := [.long r81]) rfl ?_
              refine g_goto d_X10_tick_221 ?_
              exact J_225 r81 hF
          refine g_if_eq d_X10_tick_186 (fun h186 => ?_) (fun h186 => ?_)
          · skip
            replace hF := fe_pos hF h186
            refine g_lconst d_X10_tick_195 kL_0 ?_
            exact J_196 ((0 : Int64)) hF
          · skip
            replace hF := fe_neg hF h186
            refine g_ldc2 (v := 60) d_X10_tick_189 tw_1386 ?_
            refine g_goto d_X10_tick_192 ?_
            exact J_196 ((60 : Int64)) hF
        refine g_if_eq d_X10_tick_141 (fun h141 => ?_) (fun h141 => ?_)
        · skip
          replace hF := fe_pos hF h141
          refine g_aload_n d_X10_tick_162 rfl ?_
          refine g_getR d_X10_tick_163 fq_RX10_17 rfl rfl ?_
          refine g_iconst (v := 2) d_X10_tick_166 kI_2 ?_
          refine g_iaload (N := 15) d_X10_tick_167 rfl kT_15 ⟨by decide, by decide⟩ kN_2 ?_
          refine g_i2l d_X10_tick_168 ?_
          exact J_169 ((Int32.toInt64 (I 81 2))) (by grind) hF
        · skip
          replace hF := fe_neg hF h141
          refine g_ldc2 (v := 4) d_X10_tick_144 tw_1385 ?_
          refine g_aload_n d_X10_tick_147 rfl ?_
          refine g_getR d_X10_tick_148 fq_RX10_17 rfl rfl ?_
          refine g_iconst (v := 2) d_X10_tick_151 kI_2 ?_
          refine g_iaload (N := 15) d_X10_tick_152 rfl kT_15 ⟨by decide, by decide⟩ kN_2 ?_
          refine g_i2l d_X10_tick_153 ?_
          refine g_lmul d_X10_tick_154 ?_
          refine g_ldc2 (v := 12) d_X10_tick_155 tw_1379 ?_
          refine g_ladd d_X10_tick_158 ?_
          refine g_goto d_X10_tick_159 ?_
          exact J_169 ((((4 : Int64) * (Int32.toInt64 (I 81 2))) + (12 : Int64))) (by grind) hF
      obtain ⟨j124_10, hj124_10, hF⟩ := fe_jx hF
      have J_124 : (FE (fn_X10_tick x open_ shelf less I J) (fun _ => j124_10)) → G m_X10_tick (rq m_X10_tick (fun r S' I' J' => S' = SHF ∧ (I = I' ∧ TG x.toNatClampNeg J J') ∧ r = none ∧ fn_X10_tick x open_ shelf less I J = (I', J') ∧ J' 79 (x.toNatClampNeg + 54) = J 79 (x.toNatClampNeg + 54) + 1)) 0 0 124 [some (.ref 78), some (.int x), some (.int open_), some (.int shelf), some (.int less), some (.long v1), none, some (.long v2), none, some (.long v19), none, none, none, none, none, none, none] [] SHF I J := by
        intro hF_j124_10
        have hF := fe_eq hF_j124_10 hj124_10
        refine g_iconst (v := 0) d_X10_tick_124 kI_0 ?_
        exact J_125 ((0 : Int32)) (Or.inl rfl) hF
      obtain ⟨j106_11, hj106_11, hF⟩ := fe_jx hF
      have J_106 : (FE (fn_X10_tick x open_ shelf less I J) (fun _ => j106_11)) → G m_X10_tick (rq m_X10_tick (fun r S' I' J' => S' = SHF ∧ (I = I' ∧ TG x.toNatClampNeg J J') ∧ r = none ∧ fn_X10_tick x open_ shelf less I J = (I', J') ∧ J' 79 (x.toNatClampNeg + 54) = J 79 (x.toNatClampNeg + 54) + 1)) 0 0 106 [some (.ref 78), some (.int x), some (.int open_), some (.int shelf), some (.int less), some (.long v1), none, some (.long v2), none, some (.long v19), none, none, none, none, none, none, none] [] SHF I J := by
        intro hF_j106_11
        have hF := fe_eq hF_j106_11 hj106_11
        refine g_aload_n d_X10_tick_106 rfl ?_
        refine g_getR d_X10_tick_107 fq_RX10_7 rfl rfl ?_
        refine g_iload_n d_X10_tick_110 rfl ?_
        refine g_bipush (v := 69) d_X10_tick_111 kB_69 ?_
        refine g_iadd d_X10_tick_113 ?_
        refine g_laload (N := 320) d_X10_tick_114 rfl kT_320 (ixc hx (by decide)) (by rw [tnc hx (by decide), kN_69]) ?_
        refine g_lconst d_X10_tick_115 kL_1 ?_
        refine g_lcmp_ne d_X10_tick_116 d_X10_tick_117 (fun h117 => ?_) (fun h117 => ?_)
        · skip
          replace hF := fe_neg hF h117
          exact J_124 hF
        · skip
          replace hF := fe_pos hF h117
          refine g_iconst (v := 1) d_X10_tick_120 kI_1 ?_
          refine g_goto d_X10_tick_121 ?_
          exact J_125 ((1 : Int32)) (Or.inr rfl) hF
      refine g_if_ne d_X10_tick_94 (fun h94 => ?_) (fun h94 => ?_)
      · skip
        replace hF := fe_neg hF h94
        exact J_106 hF
      · skip
        replace hF := fe_pos hF h94
        refine g_lload d_X10_tick_97 rfl ?_
        refine g_iconst (v := 5) d_X10_tick_99 kI_5 ?_
        refine g_S2 d_X10_tick_100 cs_X10_tick_X10_has lk_RX10_149 im_X10_has (Nat.le_of_ble_eq_true rfl) ⟨rfl, rfl⟩ ⟨Nat.zero_le _, Nat.zero_le _⟩ (ct_X10_has v1 (5 : Int32) I J ) (fun r100 S100 Ic84 Jc85 q100_82 => ?_)
        obtain ⟨rfl, rfl, rfl, r88, rfl, hz100, hf100_86⟩ := q100_82
        replace hF := fe_b3 hF hf100_86
        refine g_st (st' := [.int r88]) rfl ?_
        refine g_if_eq d_X10_tick_103 (fun h103 => ?_) (fun h103 => ?_)
        · skip
          replace hF := fe_pos hF h103
          exact J_124 hF
        · skip
          replace hF := fe_neg hF h103
          exact J_106 hF
    refine g_if_eq d_X10_tick_80 (fun h80 => ?_) (fun h80 => ?_)
    · skip
      replace hF := fe_pos hF h80
      refine g_lconst d_X10_tick_89 kL_0 ?_
      exact J_90 ((0 : Int64)) hF
    · skip
      replace hF := fe_neg hF h80
      refine g_ldc2 (v := 800) d_X10_tick_83 tw_1380 ?_
      refine g_goto d_X10_tick_86 ?_
      exact J_90 ((800 : Int64)) hF
  refine g_if_eq d_X10_tick_53 (fun h53 => ?_) (fun h53 => ?_)
  · skip
    replace hF := fe_pos hF h53
    refine g_lconst d_X10_tick_71 kL_0 ?_
    exact J_72 ((0 : Int64)) hF
  · skip
    replace hF := fe_neg hF h53
    refine g_ldc2 (v := 10) d_X10_tick_56 tw_1375 ?_
    refine g_aload_n d_X10_tick_59 rfl ?_
    refine g_getR d_X10_tick_60 fq_RX10_17 rfl rfl ?_
    refine g_bipush (v := 14) d_X10_tick_63 kB_14 ?_
    refine g_iaload (N := 15) d_X10_tick_65 rfl kT_15 ⟨by decide, by decide⟩ kN_14 ?_
    refine g_i2l d_X10_tick_66 ?_
    refine g_lmul d_X10_tick_67 ?_
    refine g_goto d_X10_tick_68 ?_
    exact J_72 (((10 : Int64) * (Int32.toInt64 (I 81 14)))) hF
noncomputable def fl_X10_go_2_0 (I : Iv) (x : Int32) (n : Int32) (Kf0 : Int32 → Jv → Iv × Jv) : Nat → Int32 → Jv → Iv × Jv
  | 0, x1, J2 => (I, J2)
  | kf0 + 1, x1, J2 => if n ≤ x1 then Kf0 x1 J2 else b_n3 (fn_X10_isOpen (J2 79 (x.toNatClampNeg + 54)) I J2) (fun (r10 : Int32) (_ : Iv) (_ : Jv) => b_n2 (fn_X10_tick x r10 (I 81 8) (0 : Int32) I J2) (fun (_ : Iv) (J12 : Jv) => fl_X10_go_2_0 I x n Kf0 kf0 (x1 + (1 : Int32)) J12))
noncomputable def fn_X10_go (x : Int32) (n : Int32) (I : Iv) (J : Jv) : Iv × Jv :=
  fl_X10_go_2_0 I x n (fun (x1 : Int32) (J2 : Jv) => (I, J2)) (mU n ((0 : Int32)) + 1) (0 : Int32) J
set_option maxRecDepth 100000 in
set_option maxHeartbeats 4000000 in
theorem ct_X10_go (x : Int32) (n : Int32) (I : Iv) (J : Jv) (hx : HX x) (hfu : FU x.toNatClampNeg J) (hbi : BI x.toNatClampNeg J) (hop2 : 0 ≤ I 78 5 ∧ I 78 5 ≤ 12) (hn : 0 ≤ n) (hb8 : 0 ≤ I 81 8 ∧ I 81 8 ≤ 2) (hb2 : 0 ≤ I 81 2 ∧ I 81 2 ≤ 99) : Ct m_X10_go [.ref 78, .int x, .int n] SHF I J (fun r S' I' J' => S' = SHF ∧ (I = I' ∧ TG x.toNatClampNeg J J') ∧ r = none ∧ fn_X10_go x n I J = (I', J') ∧ J' 79 (x.toNatClampNeg + 54) = J 79 (x.toNatClampNeg + 54) + n.toInt64) := by
  refine ct_of 1 (by decide +kernel) rfl rfl ?_
  have hK0 : TG x.toNatClampNeg J J := (tg_rfl hfu)
  have hF := fe_of (fn_X10_go.eq_1 x n I J)
  refine g_iconst (v := 0) d_X10_go_0 kI_0 ?_
  refine g_istore_n (L' := [some (.ref 78), some (.int x), some (.int n), some (.int (0 : Int32))]) d_X10_go_1 (by decide) rfl ?_
  obtain ⟨Kf0, hKf0, hF⟩ := fe_kx (f := fun K => fl_X10_go_2_0 I x n K (mU n ((0 : Int32)) + 1) (0 : Int32) J) hF
  have K_2 : ∀ (nu : Nat) (x1 : Int32) (J2 : Jv), mU n x1 = nu → (TG x.toNatClampNeg J J2) → ((0 : Int32) ≤ x1) → (J2 79 (x.toNatClampNeg + 54) = J 79 (x.toNatClampNeg + 54) + Int32.toInt64 x1) → (x1 ≤ n) → (∃ kq : Nat, nu < kq ∧ (fun kq => FE (fn_X10_go x n I J) (fun _ => fl_X10_go_2_0 I x n Kf0 kq x1 J2)) kq) → G m_X10_go (rq m_X10_go (fun r S' I' J' => S' = SHF ∧ (I = I' ∧ TG x.toNatClampNeg J J') ∧ r = none ∧ fn_X10_go x n I J = (I', J') ∧ J' 79 (x.toNatClampNeg + 54) = J 79 (x.toNatClampNeg + 54) + n.toInt64)) 0 0 2 [some (.ref 78), some (.int x), some (.int n), some (.int x1)] [] SHF I J2 := by
    intro nu
    induction nu using Nat.strongRecOn with
    | ind nu ih_2 =>
      intro x1 J2 hmu_2 hK3 hl4 htk_2 htn_2 hF_Kf0
      obtain ⟨kf0, hkf0, hF⟩ := fe_fu (P := fun kq => FE (fn_X10_go x n I J) (fun _ => fl_X10_go_2_0 I x n Kf0 kq x1 J2)) hF_Kf0
      replace hF := fe_eq hF (fl_X10_go_2_0.eq_2 _ _ _ _ _ _ _)
      refine g_iload_n d_X10_go_2 rfl ?_
      refine g_iload_n d_X10_go_3 rfl ?_
      refine g_icmp_ge d_X10_go_4 (fun h4 => ?_) (fun h4 => ?_)
      · skip
        replace hF := fe_pos hF h4
        replace hF := fe_eq hF (congrFun (congrFun hKf0 x1) J2)
        exact g_return d_X10_go_39 rfl rfl rfl ⟨rfl, ⟨rfl, hK3⟩, rfl, hF, (by rw [show n = x1 by grind]; exact htk_2)⟩
      · skip
        replace hF := fe_neg hF h4
        refine g_aload_n d_X10_go_7 rfl ?_
        refine g_iload_n d_X10_go_8 rfl ?_
        refine g_aload_n d_X10_go_9 rfl ?_
        refine g_aload_n d_X10_go_10 rfl ?_
        refine g_getR d_X10_go_11 fq_RX10_7 rfl rfl ?_
        refine g_iload_n d_X10_go_14 rfl ?_
        refine g_bipush (v := 54) d_X10_go_15 kB_54 ?_
        refine g_iadd d_X10_go_17 ?_
        refine g_laload (N := 320) d_X10_go_18 rfl kT_320 (ixc hx (by decide)) (by rw [tnc hx (by decide), kN_54]) ?_
        refine g_V1 d_X10_go_19 cs_X10_go_X10_isOpen lk_RX10_247 im_X10_isOpen se_X10_isOpen rfl rfl rfl (Nat.le_of_ble_eq_true rfl) ⟨rfl, rfl⟩ ⟨Nat.zero_le _, Nat.zero_le _⟩ (ct_X10_isOpen (J2 79 (x.toNatClampNeg + 54)) I J2 hop2) (fun r19 S19 Ic6 Jc7 q19_4 => ?_)
        obtain ⟨rfl, rfl, rfl, r10, rfl, hz19, hf19_8⟩ := q19_4
        replace hF := fe_b3 hF hf19_8
        refine g_st (st' := [.int r10, .int x, .ref 78]) rfl ?_
        refine g_aload_n d_X10_go_22 rfl ?_
        refine g_getR d_X10_go_23 fq_RX10_17 rfl rfl ?_
        refine g_bipush (v := 8) d_X10_go_26 kB_8 ?_
        refine g_iaload (N := 15) d_X10_go_28 rfl kT_15 ⟨by decide, by decide⟩ kN_8 ?_
        refine g_iconst (v := 0) d_X10_go_29 kI_0 ?_
        refine g_V4 d_X10_go_30 cs_X10_go_X10_tick lk_RX10_251 im_X10_tick se_X10_tick rfl rfl rfl (Nat.le_of_ble_eq_true rfl) ⟨rfl, rfl⟩ ⟨Nat.zero_le _, Nat.zero_le _⟩ (ct_X10_tick x r10 (I 81 8) (0 : Int32) I J2 hx (hK3.2.2) (hK3.bi hbi) (by grind) hb2) (fun r30 S30 Ic14 J12 q30_12 => ?_)
        obtain ⟨rfl, ⟨rfl, hc30_14⟩, rfl, hf30_15, hr30_16⟩ := q30_12
        replace hF := fe_b2 hF hf30_15
        refine g_st (st' := []) rfl ?_
        have hK18 : TG x.toNatClampNeg J J12 := hK3.tr hc30_14
        refine g_iinc (v := (x1 + (1 : Int32))) (L' := [some (.ref 78), some (.int x), some (.int n), some (.int (x1 + (1 : Int32)))]) d_X10_go_33 rfl (by rw [kI_1]) (by decide) rfl ?_
        refine g_goto d_X10_go_36 ?_
        exact ih_2 _ (by rw [← hmu_2]; exact mu_up h4) (x1 + (1 : Int32)) J12 rfl hK18 (lo_up hl4 h4) (by rw [i2l_up h4]; grind) (by grind) ⟨kf0, Nat.lt_of_lt_of_le (by rw [← hmu_2]; exact mu_up h4) hkf0, hF⟩
  exact K_2 _ (0 : Int32) J rfl hK0 (Int32.le_refl _) (by simp) hn ⟨_, Nat.lt_succ_self _, hF⟩
