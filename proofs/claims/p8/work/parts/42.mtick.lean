set_option maxRecDepth 100000 in
set_option maxHeartbeats 4000000 in
theorem ct_X10_moves (x : Int32) (room : Int64) (I : Iv) (J : Jv) (hx : HX x) : Ct m_X10_moves [.ref 78, .int x, .long room] SHF I J (fun r S' I' J' => S' = SHF ∧ I = I' ∧ J = J' ∧ ∃ v : Int64, r = some (.long v)) := by
  refine ct_of 2 (by decide +kernel) rfl rfl ?_
  refine g_aload_n d_X10_moves_0 rfl ?_
  refine g_getR d_X10_moves_1 fq_RX10_17 rfl rfl ?_
  refine g_iconst (v := 0) d_X10_moves_4 kI_0 ?_
  refine g_iaload (N := 15) d_X10_moves_5 rfl kT_15 ⟨by decide, by decide⟩ kN_0 ?_
  refine g_i2l d_X10_moves_6 ?_
  refine g_topJ (fun v1 ev1 => ?_)
  refine g_lstore (L' := [some (.ref 78), some (.int x), some (.long room), none, some (.long v1), none]) d_X10_moves_7 (by decide) rfl ?_
  refine g_lload d_X10_moves_9 rfl ?_
  refine g_aload_n d_X10_moves_11 rfl ?_
  refine g_getR d_X10_moves_12 fq_RX10_7 rfl rfl ?_
  refine g_iload_n d_X10_moves_15 rfl ?_
  refine g_bipush (v := 52) d_X10_moves_16 kB_52 ?_
  refine g_iadd d_X10_moves_18 ?_
  refine g_laload (N := 320) d_X10_moves_19 rfl kT_320 (ixc hx (by decide)) (by rw [tnc hx (by decide), kN_52]) ?_
  refine g_iconst (v := 2) d_X10_moves_20 kI_2 ?_
  refine g_S2 d_X10_moves_21 cs_X10_moves_X10_has lk_RX10_149 im_X10_has (Nat.le_of_ble_eq_true rfl) ⟨rfl, rfl⟩ ⟨Nat.zero_le _, Nat.zero_le _⟩ (ct_X10_has (J 79 (x.toNatClampNeg + 52)) (2 : Int32) I J ) (fun r21 S21 Ic3 Jc4 q21_1 => ?_)
  obtain ⟨rfl, rfl, rfl, r6, rfl, hz21⟩ := q21_1
  refine g_st (st' := [.int r6, .long v1]) rfl ?_
  have J_41 : ∀ (w8 : Int64), G m_X10_moves (rq m_X10_moves (fun r S' I' J' => S' = SHF ∧ I = I' ∧ J = J' ∧ ∃ v : Int64, r = some (.long v))) 0 0 41 [some (.ref 78), some (.int x), some (.long room), none, some (.long v1), none] [.long w8, .long v1] SHF I J := by
    intro w8
    refine g_lsub d_X10_moves_41 ?_
    refine g_topJ (fun v9 ev9 => ?_)
    refine g_lstore (L' := [some (.ref 78), some (.int x), some (.long room), none, some (.long v9), none]) d_X10_moves_42 (by decide) rfl ?_
    refine g_lload d_X10_moves_44 rfl ?_
    refine g_aload_n d_X10_moves_46 rfl ?_
    refine g_getR d_X10_moves_47 fq_RX10_7 rfl rfl ?_
    refine g_iload_n d_X10_moves_50 rfl ?_
    refine g_bipush (v := 52) d_X10_moves_51 kB_52 ?_
    refine g_iadd d_X10_moves_53 ?_
    refine g_laload (N := 320) d_X10_moves_54 rfl kT_320 (ixc hx (by decide)) (by rw [tnc hx (by decide), kN_52]) ?_
    refine g_iconst (v := 3) d_X10_moves_55 kI_3 ?_
    refine g_S2 d_X10_moves_56 cs_X10_moves_X10_has lk_RX10_149 im_X10_has (Nat.le_of_ble_eq_true rfl) ⟨rfl, rfl⟩ ⟨Nat.zero_le _, Nat.zero_le _⟩ (ct_X10_has (J 79 (x.toNatClampNeg + 52)) (3 : Int32) I J ) (fun r56 S56 Ic11 Jc12 q56_9 => ?_)
    obtain ⟨rfl, rfl, rfl, r14, rfl, hz56⟩ := q56_9
    refine g_st (st' := [.int r14, .long v9]) rfl ?_
    have J_76 : ∀ (w16 : Int64), G m_X10_moves (rq m_X10_moves (fun r S' I' J' => S' = SHF ∧ I = I' ∧ J = J' ∧ ∃ v : Int64, r = some (.long v))) 0 0 76 [some (.ref 78), some (.int x), some (.long room), none, some (.long v9), none] [.long w16, .long v9] SHF I J := by
      intro w16
      refine g_lsub d_X10_moves_76 ?_
      refine g_topJ (fun v17 ev17 => ?_)
      refine g_lstore (L' := [some (.ref 78), some (.int x), some (.long room), none, some (.long v17), none]) d_X10_moves_77 (by decide) rfl ?_
      refine g_lload d_X10_moves_79 rfl ?_
      refine g_lload_n d_X10_moves_81 rfl ?_
      refine g_aload_n d_X10_moves_82 rfl ?_
      refine g_iload_n d_X10_moves_83 rfl ?_
      refine g_iconst (v := 3) d_X10_moves_84 kI_3 ?_
      refine g_V2 d_X10_moves_85 cs_X10_moves_X10_warm lk_RX10_200 im_X10_warm se_X10_warm rfl rfl rfl (Nat.le_of_ble_eq_true rfl) ⟨rfl, rfl⟩ ⟨Nat.zero_le _, Nat.zero_le _⟩ (ct_X10_warm x (3 : Int32) I J hx (by grind) (by grind)) (fun r85 S85 Ic19 Jc20 q85_17 => ?_)
      obtain ⟨rfl, rfl, rfl, r22, rfl⟩ := q85_17
      refine g_st (st' := [.long r22, .long room, .long v17]) rfl ?_
      refine g_lsub d_X10_moves_88 ?_
      refine g_ldc2 (v := 8) d_X10_moves_89 tw_1195 ?_
      refine g_ldiv d_X10_moves_92 (by decide) ?_
      refine g_lsub d_X10_moves_93 ?_
      refine g_topJ (fun v24 ev24 => ?_)
      refine g_lstore (L' := [some (.ref 78), some (.int x), some (.long room), none, some (.long v24), none]) d_X10_moves_94 (by decide) rfl ?_
      refine g_lload d_X10_moves_96 rfl ?_
      refine g_lconst d_X10_moves_98 kL_0 ?_
      refine g_lcmp_ge d_X10_moves_99 d_X10_moves_100 (fun h100 => ?_) (fun h100 => ?_)
      · skip
        refine g_lload d_X10_moves_107 rfl ?_
        exact g_lreturn d_X10_moves_109 rfl rfl rfl ⟨rfl, rfl, rfl, v24, rfl⟩
      · skip
        refine g_lconst d_X10_moves_103 kL_0 ?_
        refine g_goto d_X10_moves_104 ?_
        exact g_lreturn d_X10_moves_109 rfl rfl rfl ⟨rfl, rfl, rfl, (0 : Int64), rfl⟩
    refine g_if_eq d_X10_moves_59 (fun h59 => ?_) (fun h59 => ?_)
    · skip
      refine g_lconst d_X10_moves_75 kL_0 ?_
      exact J_76 ((0 : Int64))
    · skip
      refine g_lload d_X10_moves_62 rfl ?_
      refine g_ldc2 (v := 45) d_X10_moves_64 tw_1398 ?_
      refine g_lmul d_X10_moves_67 ?_
      refine g_ldc2 (v := 100) d_X10_moves_68 tw_1391 ?_
      refine g_ldiv d_X10_moves_71 (by decide) ?_
      refine g_goto d_X10_moves_72 ?_
      exact J_76 (((v9 * (45 : Int64)) / (100 : Int64)))
  refine g_if_eq d_X10_moves_24 (fun h24 => ?_) (fun h24 => ?_)
  · skip
    refine g_lconst d_X10_moves_40 kL_0 ?_
    exact J_41 ((0 : Int64))
  · skip
    refine g_lload d_X10_moves_27 rfl ?_
    refine g_ldc2 (v := 50) d_X10_moves_29 tw_1397 ?_
    refine g_lmul d_X10_moves_32 ?_
    refine g_ldc2 (v := 100) d_X10_moves_33 tw_1391 ?_
    refine g_ldiv d_X10_moves_36 (by decide) ?_
    refine g_goto d_X10_moves_37 ?_
    exact J_41 (((v1 * (50 : Int64)) / (100 : Int64)))
set_option maxRecDepth 100000 in
set_option maxHeartbeats 4000000 in
theorem ct_X10_wet (x : Int32) (came : Int64) (I : Iv) (J : Jv) (hx : HX x) (hfu : FU x.toNatClampNeg J) (hcame : 0 ≤ came ∧ came ≤ 1000) : Ct m_X10_wet [.ref 78, .int x, .long came] SHF I J (fun r S' I' J' => S' = SHF ∧ (I = I' ∧ TK x.toNatClampNeg J J') ∧ r = none) := by
  refine ct_of 6 (by decide +kernel) rfl rfl ?_
  have hK0 : TK x.toNatClampNeg J J := (tk_rfl hfu)
  refine g_aload_n d_X10_wet_0 rfl ?_
  refine g_getR d_X10_wet_1 fq_RX10_7 rfl rfl ?_
  refine g_iload_n d_X10_wet_4 rfl ?_
  refine g_bipush (v := 60) d_X10_wet_5 kB_60 ?_
  refine g_iadd d_X10_wet_7 ?_
  refine g_dup2 d_X10_wet_8 rfl rfl ?_
  refine g_laload (N := 320) d_X10_wet_9 rfl kT_320 (ixc hx (by decide)) (by rw [tnc hx (by decide), kN_60]) ?_
  refine g_lload_n d_X10_wet_10 rfl ?_
  refine g_ladd d_X10_wet_11 ?_
  refine g_lastore (N := 320) d_X10_wet_12 rfl kT_320 (ixc hx (by decide)) (by rw [tnc hx (by decide), kN_60])  ?_
  refine g_nmJ (fun J1 eJ1 => ?_)
  have hK2 : TK x.toNatClampNeg J J1 := (by rw [eJ1]; exact tk_w hK0 (by unfold KP; omega) (fun hh => absurd hh (by omega)))
  refine g_aload_n d_X10_wet_13 rfl ?_
  refine g_iload_n d_X10_wet_14 rfl ?_
  refine g_iconst (v := 3) d_X10_wet_15 kI_3 ?_
  refine g_V2 d_X10_wet_16 cs_X10_wet_X10_warm lk_RX10_200 im_X10_warm se_X10_warm rfl rfl rfl (Nat.le_of_ble_eq_true rfl) ⟨rfl, rfl⟩ ⟨Nat.zero_le _, Nat.zero_le _⟩ (ct_X10_warm x (3 : Int32) I J1 hx (by grind) (by grind)) (fun r16 S16 Ic4 Jc5 q16_2 => ?_)
  obtain ⟨rfl, rfl, rfl, r7, rfl⟩ := q16_2
  refine g_st (st' := [.long r7]) rfl ?_
  refine g_lstore (L' := [some (.ref 78), some (.int x), some (.long came), none, some (.long r7), none, none, none, none, none]) d_X10_wet_19 (by decide) rfl ?_
  refine g_lload d_X10_wet_21 rfl ?_
  refine g_lconst d_X10_wet_23 kL_0 ?_
  refine g_lcmp_ge d_X10_wet_24 d_X10_wet_25 (fun h25 => ?_) (fun h25 => ?_)
  · skip
    refine g_aload_n d_X10_wet_93 rfl ?_
    refine g_getR d_X10_wet_94 fq_RX10_7 rfl rfl ?_
    refine g_iload_n d_X10_wet_97 rfl ?_
    refine g_bipush (v := 62) d_X10_wet_98 kB_62 ?_
    refine g_iadd d_X10_wet_100 ?_
    refine g_dup2 d_X10_wet_101 rfl rfl ?_
    refine g_laload (N := 320) d_X10_wet_102 rfl kT_320 (ixc hx (by decide)) (by rw [tnc hx (by decide), kN_62]) ?_
    refine g_lload_n d_X10_wet_103 rfl ?_
    refine g_ladd d_X10_wet_104 ?_
    refine g_lastore (N := 320) d_X10_wet_105 rfl kT_320 (ixc hx (by decide)) (by rw [tnc hx (by decide), kN_62])  ?_
    refine g_nmJ (fun J9 eJ9 => ?_)
    have hK10 : TK x.toNatClampNeg J J9 := (by rw [eJ9]; exact tk_w hK2 (by unfold KP; omega) (fun hh => absurd hh (by omega)))
    refine g_lload d_X10_wet_106 rfl ?_
    refine g_ldc2 (v := 20) d_X10_wet_108 tw_1343 ?_
    refine g_ldiv d_X10_wet_111 (by decide) ?_
    refine g_lconst d_X10_wet_112 kL_1 ?_
    refine g_ladd d_X10_wet_113 ?_
    refine g_topJ (fun v11 ev11 => ?_)
    refine g_lstore (L' := [some (.ref 78), some (.int x), some (.long came), none, some (.long r7), none, some (.long v11), none, none, none]) d_X10_wet_114 (by decide) rfl ?_
    have hme : 1 ≤ v11 := by rw [ev11]; exact melt_pos (by grind)
    have hfu2 : 0 ≤ J9 79 (x.toNatClampNeg + 53) ∧ J9 79 (x.toNatClampNeg + 53) ≤ 9999 := hK10.2.2
    refine g_lload d_X10_wet_116 rfl ?_
    refine g_aload_n d_X10_wet_118 rfl ?_
    refine g_getR d_X10_wet_119 fq_RX10_7 rfl rfl ?_
    refine g_iload_n d_X10_wet_122 rfl ?_
    refine g_bipush (v := 53) d_X10_wet_123 kB_53 ?_
    refine g_iadd d_X10_wet_125 ?_
    refine g_laload (N := 320) d_X10_wet_126 rfl kT_320 (ixc hx (by decide)) (by rw [tnc hx (by decide), kN_53]) ?_
    have J_145 : ∀ (w12 : Int64), (0 ≤ J9 79 (x.toNatClampNeg + 53) - w12 ∧ J9 79 (x.toNatClampNeg + 53) - w12 ≤ 9999) → G m_X10_wet (rq m_X10_wet (fun r S' I' J' => S' = SHF ∧ (I = I' ∧ TK x.toNatClampNeg J J') ∧ r = none)) 0 0 145 [some (.ref 78), some (.int x), some (.long came), none, some (.long r7), none, some (.long v11), none, none, none] [.long w12] SHF I J9 := by
      intro w12 hm_145
      refine g_lstore (L' := [some (.ref 78), some (.int x), some (.long came), none, some (.long r7), none, some (.long w12), none, none, none]) d_X10_wet_145 (by decide) rfl ?_
      refine g_aload_n d_X10_wet_147 rfl ?_
      refine g_getR d_X10_wet_148 fq_RX10_7 rfl rfl ?_
      refine g_iload_n d_X10_wet_151 rfl ?_
      refine g_bipush (v := 53) d_X10_wet_152 kB_53 ?_
      refine g_iadd d_X10_wet_154 ?_
      refine g_dup2 d_X10_wet_155 rfl rfl ?_
      refine g_laload (N := 320) d_X10_wet_156 rfl kT_320 (ixc hx (by decide)) (by rw [tnc hx (by decide), kN_53]) ?_
      refine g_lload d_X10_wet_157 rfl ?_
      refine g_lsub d_X10_wet_159 ?_
      refine g_lastore (N := 320) d_X10_wet_160 rfl kT_320 (ixc hx (by decide)) (by rw [tnc hx (by decide), kN_53])  ?_
      refine g_nmJ (fun J13 eJ13 => ?_)
      have hK14 : TK x.toNatClampNeg J J13 := (by rw [eJ13]; exact tk_w hK10 (by unfold KP; omega) (fun _ => hm_145))
      refine g_aload_n d_X10_wet_161 rfl ?_
      refine g_getR d_X10_wet_162 fq_RX10_7 rfl rfl ?_
      refine g_iload_n d_X10_wet_165 rfl ?_
      refine g_bipush (v := 61) d_X10_wet_166 kB_61 ?_
      refine g_iadd d_X10_wet_168 ?_
      refine g_dup2 d_X10_wet_169 rfl rfl ?_
      refine g_laload (N := 320) d_X10_wet_170 rfl kT_320 (ixc hx (by decide)) (by rw [tnc hx (by decide), kN_61]) ?_
      refine g_lload d_X10_wet_171 rfl ?_
      refine g_ladd d_X10_wet_173 ?_
      refine g_lastore (N := 320) d_X10_wet_174 rfl kT_320 (ixc hx (by decide)) (by rw [tnc hx (by decide), kN_61])  ?_
      refine g_nmJ (fun J15 eJ15 => ?_)
      have hK16 : TK x.toNatClampNeg J J15 := (by rw [eJ15]; exact tk_w hK14 (by unfold KP; omega) (fun hh => absurd hh (by omega)))
      exact g_return d_X10_wet_175 rfl rfl rfl ⟨rfl, ⟨rfl, hK16⟩, rfl⟩
    refine g_lcmp_le d_X10_wet_127 d_X10_wet_128 (fun h128 => ?_) (fun h128 => ?_)
    · skip
      refine g_lload d_X10_wet_143 rfl ?_
      exact J_145 v11 (by grind)
    · skip
      refine g_aload_n d_X10_wet_131 rfl ?_
      refine g_getR d_X10_wet_132 fq_RX10_7 rfl rfl ?_
      refine g_iload_n d_X10_wet_135 rfl ?_
      refine g_bipush (v := 53) d_X10_wet_136 kB_53 ?_
      refine g_iadd d_X10_wet_138 ?_
      refine g_laload (N := 320) d_X10_wet_139 rfl kT_320 (ixc hx (by decide)) (by rw [tnc hx (by decide), kN_53]) ?_
      refine g_goto d_X10_wet_140 ?_
      exact J_145 ((J9 79 (x.toNatClampNeg + 53))) (by grind)
  · skip
    have hfu1 : 0 ≤ J1 79 (x.toNatClampNeg + 53) ∧ J1 79 (x.toNatClampNeg + 53) ≤ 9999 := hK2.2.2
    refine g_aload_n d_X10_wet_28 rfl ?_
    refine g_getR d_X10_wet_29 fq_RX10_7 rfl rfl ?_
    refine g_iload_n d_X10_wet_32 rfl ?_
    refine g_bipush (v := 53) d_X10_wet_33 kB_53 ?_
    refine g_iadd d_X10_wet_35 ?_
    refine g_laload (N := 320) d_X10_wet_36 rfl kT_320 (ixc hx (by decide)) (by rw [tnc hx (by decide), kN_53]) ?_
    refine g_lload_n d_X10_wet_37 rfl ?_
    refine g_ladd d_X10_wet_38 ?_
    refine g_topJ (fun v17 ev17 => ?_)
    refine g_lstore (L' := [some (.ref 78), some (.int x), some (.long came), none, some (.long r7), none, some (.long v17), none, none, none]) d_X10_wet_39 (by decide) rfl ?_
    refine g_lload d_X10_wet_41 rfl ?_
    refine g_ldc2 (v := 9999) d_X10_wet_43 tw_1404 ?_
    have J_60 : ∀ (w18 : Int64), (0 ≤ v17 - w18 ∧ v17 - w18 ≤ 9999) → G m_X10_wet (rq m_X10_wet (fun r S' I' J' => S' = SHF ∧ (I = I' ∧ TK x.toNatClampNeg J J') ∧ r = none)) 0 0 60 [some (.ref 78), some (.int x), some (.long came), none, some (.long r7), none, some (.long v17), none, none, none] [.long w18] SHF I J1 := by
      intro w18 hm_60
      refine g_lstore (L' := [some (.ref 78), some (.int x), some (.long came), none, some (.long r7), none, some (.long v17), none, some (.long w18), none]) d_X10_wet_60 (by decide) rfl ?_
      refine g_aload_n d_X10_wet_62 rfl ?_
      refine g_getR d_X10_wet_63 fq_RX10_7 rfl rfl ?_
      refine g_iload_n d_X10_wet_66 rfl ?_
      refine g_bipush (v := 53) d_X10_wet_67 kB_53 ?_
      refine g_iadd d_X10_wet_69 ?_
      refine g_lload d_X10_wet_70 rfl ?_
      refine g_lload d_X10_wet_72 rfl ?_
      refine g_lsub d_X10_wet_74 ?_
      refine g_lastore (N := 320) d_X10_wet_75 rfl kT_320 (ixc hx (by decide)) (by rw [tnc hx (by decide), kN_53])  ?_
      refine g_nmJ (fun J19 eJ19 => ?_)
      have hK20 : TK x.toNatClampNeg J J19 := (by rw [eJ19]; exact tk_w hK2 (by unfold KP; omega) (fun _ => hm_60))
      refine g_aload_n d_X10_wet_76 rfl ?_
      refine g_getR d_X10_wet_77 fq_RX10_7 rfl rfl ?_
      refine g_iload_n d_X10_wet_80 rfl ?_
      refine g_bipush (v := 62) d_X10_wet_81 kB_62 ?_
      refine g_iadd d_X10_wet_83 ?_
      refine g_dup2 d_X10_wet_84 rfl rfl ?_
      refine g_laload (N := 320) d_X10_wet_85 rfl kT_320 (ixc hx (by decide)) (by rw [tnc hx (by decide), kN_62]) ?_
      refine g_lload d_X10_wet_86 rfl ?_
      refine g_ladd d_X10_wet_88 ?_
      refine g_lastore (N := 320) d_X10_wet_89 rfl kT_320 (ixc hx (by decide)) (by rw [tnc hx (by decide), kN_62])  ?_
      refine g_nmJ (fun J21 eJ21 => ?_)
      have hK22 : TK x.toNatClampNeg J J21 := (by rw [eJ21]; exact tk_w hK20 (by unfold KP; omega) (fun hh => absurd hh (by omega)))
      refine g_goto d_X10_wet_90 ?_
      exact g_return d_X10_wet_175 rfl rfl rfl ⟨rfl, ⟨rfl, hK22⟩, rfl⟩
    refine g_lcmp_le d_X10_wet_46 d_X10_wet_47 (fun h47 => ?_) (fun h47 => ?_)
    · skip
      refine g_lconst d_X10_wet_59 kL_0 ?_
      exact J_60 ((0 : Int64)) (by grind)
    · skip
      refine g_lload d_X10_wet_50 rfl ?_
      refine g_ldc2 (v := 9999) d_X10_wet_52 tw_1404 ?_
      refine g_lsub d_X10_wet_55 ?_
      refine g_goto d_X10_wet_56 ?_
      exact J_60 ((v17 - (9999 : Int64))) (by grind)
set_option maxRecDepth 100000 in
set_option maxHeartbeats 4000000 in
theorem ct_X10_readBulb (x : Int32) (shelf : Int32) (less : Int32) (I : Iv) (J : Jv) (hx : HX x) (hfu : FU x.toNatClampNeg J) (hsh : 0 ≤ shelf ∧ shelf ≤ 2) : Ct m_X10_readBulb [.ref 78, .int x, .int shelf, .int less] SHF I J (fun r S' I' J' => S' = SHF ∧ (I = I' ∧ TK x.toNatClampNeg J J') ∧ r = none) := by
  refine ct_of 11 (by decide +kernel) rfl rfl ?_
  have hK0 : TK x.toNatClampNeg J J := (tk_rfl hfu)
  refine g_aload_n d_X10_readBulb_0 rfl ?_
  refine g_iload_n d_X10_readBulb_1 rfl ?_
  refine g_iload_n d_X10_readBulb_2 rfl ?_
  refine g_V2 d_X10_readBulb_3 cs_X10_readBulb_X10_warm lk_RX10_200 im_X10_warm se_X10_warm rfl rfl rfl (Nat.le_of_ble_eq_true rfl) ⟨rfl, rfl⟩ ⟨Nat.zero_le _, Nat.zero_le _⟩ (ct_X10_warm x shelf I J hx (by grind) (by grind)) (fun r3 S3 Ic2 Jc3 q3_0 => ?_)
  obtain ⟨rfl, rfl, rfl, r5, rfl⟩ := q3_0
  refine g_st (st' := [.long r5]) rfl ?_
  refine g_lstore (L' := [some (.ref 78), some (.int x), some (.int shelf), some (.int less), some (.long r5), none, none, none, none, none, none, none, none, none, none]) d_X10_readBulb_6 (by decide) rfl ?_
  refine g_aload_n d_X10_readBulb_8 rfl ?_
  refine g_getR d_X10_readBulb_9 fq_RX10_7 rfl rfl ?_
  refine g_iload_n d_X10_readBulb_12 rfl ?_
  refine g_bipush (v := 67) d_X10_readBulb_13 kB_67 ?_
  refine g_iadd d_X10_readBulb_15 ?_
  refine g_laload (N := 320) d_X10_readBulb_16 rfl kT_320 (ixc hx (by decide)) (by rw [tnc hx (by decide), kN_67]) ?_
  refine g_topJ (fun v7 ev7 => ?_)
  refine g_lstore (L' := [some (.ref 78), some (.int x), some (.int shelf), some (.int less), some (.long r5), none, some (.long v7), none, none, none, none, none, none, none, none]) d_X10_readBulb_17 (by decide) rfl ?_
  refine g_aload_n d_X10_readBulb_19 rfl ?_
  refine g_getR d_X10_readBulb_20 fq_RX10_7 rfl rfl ?_
  refine g_iload_n d_X10_readBulb_23 rfl ?_
  refine g_bipush (v := 68) d_X10_readBulb_24 kB_68 ?_
  refine g_iadd d_X10_readBulb_26 ?_
  refine g_laload (N := 320) d_X10_readBulb_27 rfl kT_320 (ixc hx (by decide)) (by rw [tnc hx (by decide), kN_68]) ?_
  refine g_lconst d_X10_readBulb_28 kL_1 ?_
  have J_50 : ∀ (w8 : Int64), G m_X10_readBulb (rq m_X10_readBulb (fun r S' I' J' => S' = SHF ∧ (I = I' ∧ TK x.toNatClampNeg J J') ∧ r = none)) 0 0 50 [some (.ref 78), some (.int x), some (.int shelf), some (.int less), some (.long r5), none, some (.long v7), none, none, none, none, none, none, none, none] [.long w8] SHF I J := by
    intro w8
    refine g_lstore (L' := [some (.ref 78), some (.int x), some (.int shelf), some (.int less), some (.long r5), none, some (.long v7), none, some (.long w8), none, none, none, none, none, none]) d_X10_readBulb_50 (by decide) rfl ?_
    refine g_aload_n d_X10_readBulb_52 rfl ?_
    refine g_getR d_X10_readBulb_53 fq_RX10_7 rfl rfl ?_
    refine g_iload_n d_X10_readBulb_56 rfl ?_
    refine g_bipush (v := 67) d_X10_readBulb_57 kB_67 ?_
    refine g_iadd d_X10_readBulb_59 ?_
    refine g_lload d_X10_readBulb_60 rfl ?_
    refine g_lastore (N := 320) d_X10_readBulb_62 rfl kT_320 (ixc hx (by decide)) (by rw [tnc hx (by decide), kN_67])  ?_
    refine g_nmJ (fun J9 eJ9 => ?_)
    have hK10 : TK x.toNatClampNeg J J9 := (by rw [eJ9]; exact tk_w hK0 (by unfold KP; omega) (fun hh => absurd hh (by omega)))
    refine g_aload_n d_X10_readBulb_63 rfl ?_
    refine g_getR d_X10_readBulb_64 fq_RX10_7 rfl rfl ?_
    refine g_iload_n d_X10_readBulb_67 rfl ?_
    refine g_bipush (v := 66) d_X10_readBulb_68 kB_66 ?_
    refine g_iadd d_X10_readBulb_70 ?_
    refine g_laload (N := 320) d_X10_readBulb_71 rfl kT_320 (ixc hx (by decide)) (by rw [tnc hx (by decide), kN_66]) ?_
    refine g_lconst d_X10_readBulb_72 kL_1 ?_
    have J_82 : ∀ (w11 : Int32), (w11 = 0 ∨ w11 = 1) → G m_X10_readBulb (rq m_X10_readBulb (fun r S' I' J' => S' = SHF ∧ (I = I' ∧ TK x.toNatClampNeg J J') ∧ r = none)) 0 0 82 [some (.ref 78), some (.int x), some (.int shelf), some (.int less), some (.long r5), none, some (.long v7), none, some (.long w8), none, none, none, none, none, none] [.int w11] SHF I J9 := by
      intro w11 hw11
      refine g_istore (L' := [some (.ref 78), some (.int x), some (.int shelf), some (.int less), some (.long r5), none, some (.long v7), none, some (.long w8), none, some (.int w11), none, none, none, none]) d_X10_readBulb_82 (by decide) rfl ?_
      refine g_aload_n d_X10_readBulb_84 rfl ?_
      refine g_getR d_X10_readBulb_85 fq_RX10_7 rfl rfl ?_
      refine g_iload_n d_X10_readBulb_88 rfl ?_
      refine g_bipush (v := 69) d_X10_readBulb_89 kB_69 ?_
      refine g_iadd d_X10_readBulb_91 ?_
      refine g_laload (N := 320) d_X10_readBulb_92 rfl kT_320 (ixc hx (by decide)) (by rw [tnc hx (by decide), kN_69]) ?_
      refine g_lconst d_X10_readBulb_93 kL_1 ?_
      have J_103 : ∀ (w12 : Int32), (w12 = 0 ∨ w12 = 1) → G m_X10_readBulb (rq m_X10_readBulb (fun r S' I' J' => S' = SHF ∧ (I = I' ∧ TK x.toNatClampNeg J J') ∧ r = none)) 0 0 103 [some (.ref 78), some (.int x), some (.int shelf), some (.int less), some (.long r5), none, some (.long v7), none, some (.long w8), none, some (.int w11), none, none, none, none] [.int w12] SHF I J9 := by
        intro w12 hw12
        refine g_istore (L' := [some (.ref 78), some (.int x), some (.int shelf), some (.int less), some (.long r5), none, some (.long v7), none, some (.long w8), none, some (.int w11), some (.int w12), none, none, none]) d_X10_readBulb_103 (by decide) rfl ?_
        refine g_iload d_X10_readBulb_105 rfl ?_
        have J_151 : ∀ (w13 : Int32), (w13 = 0 ∨ w13 = 1) → G m_X10_readBulb (rq m_X10_readBulb (fun r S' I' J' => S' = SHF ∧ (I = I' ∧ TK x.toNatClampNeg J J') ∧ r = none)) 0 0 151 [some (.ref 78), some (.int x), some (.int shelf), some (.int less), some (.long r5), none, some (.long v7), none, some (.long w8), none, some (.int w11), some (.int w12), none, none, none] [.int w13] SHF I J9 := by
          intro w13 hw13
          refine g_istore (L' := [some (.ref 78), some (.int x), some (.int shelf), some (.int less), some (.long r5), none, some (.long v7), none, some (.long w8), none, some (.int w11), some (.int w12), some (.int w13), none, none]) d_X10_readBulb_151 (by decide) rfl ?_
          refine g_iload d_X10_readBulb_153 rfl ?_
          have J_183 : ∀ (w14 : Int32), (w14 = 0 ∨ w14 = 1) → G m_X10_readBulb (rq m_X10_readBulb (fun r S' I' J' => S' = SHF ∧ (I = I' ∧ TK x.toNatClampNeg J J') ∧ r = none)) 0 0 183 [some (.ref 78), some (.int x), some (.int shelf), some (.int less), some (.long r5), none, some (.long v7), none, some (.long w8), none, some (.int w11), some (.int w12), some (.int w13), none, none] [.int w14] SHF I J9 := by
            intro w14 hw14
            refine g_istore (L' := [some (.ref 78), some (.int x), some (.int shelf), some (.int less), some (.long r5), none, some (.long v7), none, some (.long w8), none, some (.int w11), some (.int w12), some (.int w13), some (.int w14), none]) d_X10_readBulb_183 (by decide) rfl ?_
            refine g_iload d_X10_readBulb_185 rfl ?_
            have J_205 : ∀ (w15 : Int32), (w15 = 0 ∨ w15 = 1) → G m_X10_readBulb (rq m_X10_readBulb (fun r S' I' J' => S' = SHF ∧ (I = I' ∧ TK x.toNatClampNeg J J') ∧ r = none)) 0 0 205 [some (.ref 78), some (.int x), some (.int shelf), some (.int less), some (.long r5), none, some (.long v7), none, some (.long w8), none, some (.int w11), some (.int w12), some (.int w13), some (.int w14), none] [.int w15] SHF I J9 := by
              intro w15 hw15
              refine g_istore (L' := [some (.ref 78), some (.int x), some (.int shelf), some (.int less), some (.long r5), none, some (.long v7), none, some (.long w8), none, some (.int w11), some (.int w12), some (.int w13), some (.int w14), some (.int w15)]) d_X10_readBulb_205 (by decide) rfl ?_
              refine g_aload_n d_X10_readBulb_207 rfl ?_
              refine g_getR d_X10_readBulb_208 fq_RX10_7 rfl rfl ?_
              refine g_iload_n d_X10_readBulb_211 rfl ?_
              refine g_bipush (v := 66) d_X10_readBulb_212 kB_66 ?_
              refine g_iadd d_X10_readBulb_214 ?_
              refine g_iload d_X10_readBulb_215 rfl ?_
              refine g_S1 d_X10_readBulb_217 cs_X10_readBulb_X10_one lk_RX10_211 im_X10_one (Nat.le_of_ble_eq_true rfl) ⟨rfl, rfl⟩ ⟨Nat.zero_le _, Nat.zero_le _⟩ (ct_X10_one w15 I J9 ) (fun r217 S217 Ic17 Jc18 q217_15 => ?_)
              obtain ⟨rfl, rfl, rfl, r20, rfl, hr217_20⟩ := q217_15
              refine g_st (st' := [.int r20, .int (x + (66 : Int32)), .ref 79]) rfl ?_
              refine g_i2l d_X10_readBulb_220 ?_
              refine g_lastore (N := 320) d_X10_readBulb_221 rfl kT_320 (ixc hx (by decide)) (by rw [tnc hx (by decide), kN_66])  ?_
              refine g_nmJ (fun J22 eJ22 => ?_)
              have hK23 : TK x.toNatClampNeg J J22 := (by rw [eJ22]; exact tk_w hK10 (by unfold KP; omega) (fun hh => absurd hh (by omega)))
              refine g_aload_n d_X10_readBulb_222 rfl ?_
              refine g_getR d_X10_readBulb_223 fq_RX10_7 rfl rfl ?_
              refine g_iload_n d_X10_readBulb_226 rfl ?_
              refine g_bipush (v := 64) d_X10_readBulb_227 kB_64 ?_
              refine g_iadd d_X10_readBulb_229 ?_
              refine g_dup2 d_X10_readBulb_230 rfl rfl ?_
              refine g_laload (N := 320) d_X10_readBulb_231 rfl kT_320 (ixc hx (by decide)) (by rw [tnc hx (by decide), kN_64]) ?_
              refine g_iload d_X10_readBulb_232 rfl ?_
              have J_247 : ∀ (w24 : Int32), (w24 = 0 ∨ w24 = 1) → G m_X10_readBulb (rq m_X10_readBulb (fun r S' I' J' => S' = SHF ∧ (I = I' ∧ TK x.toNatClampNeg J J') ∧ r = none)) 0 0 247 [some (.ref 78), some (.int x), some (.int shelf), some (.int less), some (.long r5), none, some (.long v7), none, some (.long w8), none, some (.int w11), some (.int w12), some (.int w13), some (.int w14), some (.int w15)] [.int w24, .long (J22 79 (x.toNatClampNeg + 64)), .int (x + (64 : Int32)), .ref 79] SHF I J22 := by
                intro w24 hw24
                refine g_S1 d_X10_readBulb_247 cs_X10_readBulb_X10_one lk_RX10_211 im_X10_one (Nat.le_of_ble_eq_true rfl) ⟨rfl, rfl⟩ ⟨Nat.zero_le _, Nat.zero_le _⟩ (ct_X10_one w24 I J22 ) (fun r247 S247 Ic26 Jc27 q247_24 => ?_)
                obtain ⟨rfl, rfl, rfl, r29, rfl, hr247_29⟩ := q247_24
                refine g_st (st' := [.int r29, .long (J22 79 (x.toNatClampNeg + 64)), .int (x + (64 : Int32)), .ref 79]) rfl ?_
                refine g_i2l d_X10_readBulb_250 ?_
                refine g_ladd d_X10_readBulb_251 ?_
                refine g_lastore (N := 320) d_X10_readBulb_252 rfl kT_320 (ixc hx (by decide)) (by rw [tnc hx (by decide), kN_64])  ?_
                refine g_nmJ (fun J31 eJ31 => ?_)
                have hK32 : TK x.toNatClampNeg J J31 := (by rw [eJ31]; exact tk_w hK23 (by unfold KP; omega) (fun hh => absurd hh (by omega)))
                refine g_aload_n d_X10_readBulb_253 rfl ?_
                refine g_getR d_X10_readBulb_254 fq_RX10_7 rfl rfl ?_
                refine g_iload_n d_X10_readBulb_257 rfl ?_
                refine g_bipush (v := 65) d_X10_readBulb_258 kB_65 ?_
                refine g_iadd d_X10_readBulb_260 ?_
                refine g_dup2 d_X10_readBulb_261 rfl rfl ?_
                refine g_laload (N := 320) d_X10_readBulb_262 rfl kT_320 (ixc hx (by decide)) (by rw [tnc hx (by decide), kN_65]) ?_
                refine g_iload d_X10_readBulb_263 rfl ?_
                refine g_S1 d_X10_readBulb_265 cs_X10_readBulb_X10_one lk_RX10_211 im_X10_one (Nat.le_of_ble_eq_true rfl) ⟨rfl, rfl⟩ ⟨Nat.zero_le _, Nat.zero_le _⟩ (ct_X10_one w15 I J31 ) (fun r265 S265 Ic34 Jc35 q265_32 => ?_)
                obtain ⟨rfl, rfl, rfl, r37, rfl, hr265_37⟩ := q265_32
                refine g_st (st' := [.int r37, .long (J31 79 (x.toNatClampNeg + 65)), .int (x + (65 : Int32)), .ref 79]) rfl ?_
                refine g_i2l d_X10_readBulb_268 ?_
                refine g_ladd d_X10_readBulb_269 ?_
                refine g_lastore (N := 320) d_X10_readBulb_270 rfl kT_320 (ixc hx (by decide)) (by rw [tnc hx (by decide), kN_65])  ?_
                refine g_nmJ (fun J39 eJ39 => ?_)
                have hK40 : TK x.toNatClampNeg J J39 := (by rw [eJ39]; exact tk_w hK32 (by unfold KP; omega) (fun hh => absurd hh (by omega)))
                exact g_return d_X10_readBulb_271 rfl rfl rfl ⟨rfl, ⟨rfl, hK40⟩, rfl⟩
              have J_246 : G m_X10_readBulb (rq m_X10_readBulb (fun r S' I' J' => S' = SHF ∧ (I = I' ∧ TK x.toNatClampNeg J J') ∧ r = none)) 0 0 246 [some (.ref 78), some (.int x), some (.int shelf), some (.int less), some (.long r5), none, some (.long v7), none, some (.long w8), none, some (.int w11), some (.int w12), some (.int w13), some (.int w14), some (.int w15)] [.long (J22 79 (x.toNatClampNeg + 64)), .int (x + (64 : Int32)), .ref 79] SHF I J22 := by
                skip
                refine g_iconst (v := 0) d_X10_readBulb_246 kI_0 ?_
                exact J_247 ((0 : Int32)) (Or.inl rfl)
              refine g_if_eq d_X10_readBulb_234 (fun h234 => ?_) (fun h234 => ?_)
              · skip
                exact J_246
              · skip
                refine g_iload d_X10_readBulb_237 rfl ?_
                refine g_if_ne d_X10_readBulb_239 (fun h239 => ?_) (fun h239 => ?_)
                · skip
                  exact J_246
                · skip
                  refine g_iconst (v := 1) d_X10_readBulb_242 kI_1 ?_
                  refine g_goto d_X10_readBulb_243 ?_
                  exact J_247 ((1 : Int32)) (Or.inr rfl)
            have J_200 : G m_X10_readBulb (rq m_X10_readBulb (fun r S' I' J' => S' = SHF ∧ (I = I' ∧ TK x.toNatClampNeg J J') ∧ r = none)) 0 0 200 [some (.ref 78), some (.int x), some (.int shelf), some (.int less), some (.long r5), none, some (.long v7), none, some (.long w8), none, some (.int w11), some (.int w12), some (.int w13), some (.int w14), none] [] SHF I J9 := by
              skip
              refine g_iconst (v := 1) d_X10_readBulb_200 kI_1 ?_
              refine g_goto d_X10_readBulb_201 ?_
              exact J_205 ((1 : Int32)) (Or.inr rfl)
            refine g_if_ne d_X10_readBulb_187 (fun h187 => ?_) (fun h187 => ?_)
            · skip
              exact J_200
            · skip
              refine g_iload d_X10_readBulb_190 rfl ?_
              have J_204 : G m_X10_readBulb (rq m_X10_readBulb (fun r S' I' J' => S' = SHF ∧ (I = I' ∧ TK x.toNatClampNeg J J') ∧ r = none)) 0 0 204 [some (.ref 78), some (.int x), some (.int shelf), some (.int less), some (.long r5), none, some (.long v7), none, some (.long w8), none, some (.int w11), some (.int w12), some (.int w13), some (.int w14), none] [] SHF I J9 := by
                skip
                refine g_iconst (v := 0) d_X10_readBulb_204 kI_0 ?_
                exact J_205 ((0 : Int32)) (Or.inl rfl)
              refine g_if_ne d_X10_readBulb_192 (fun h192 => ?_) (fun h192 => ?_)
              · skip
                exact J_204
              · skip
                refine g_iload d_X10_readBulb_195 rfl ?_
                refine g_if_eq d_X10_readBulb_197 (fun h197 => ?_) (fun h197 => ?_)
                · skip
                  exact J_204
                · skip
                  exact J_200
          have J_178 : G m_X10_readBulb (rq m_X10_readBulb (fun r S' I' J' => S' = SHF ∧ (I = I' ∧ TK x.toNatClampNeg J J') ∧ r = none)) 0 0 178 [some (.ref 78), some (.int x), some (.int shelf), some (.int less), some (.long r5), none, some (.long v7), none, some (.long w8), none, some (.int w11), some (.int w12), some (.int w13), none, none] [] SHF I J9 := by
            skip
            refine g_iconst (v := 1) d_X10_readBulb_178 kI_1 ?_
            refine g_goto d_X10_readBulb_179 ?_
            exact J_183 ((1 : Int32)) (Or.inr rfl)
          refine g_if_eq d_X10_readBulb_155 (fun h155 => ?_) (fun h155 => ?_)
          · skip
            exact J_178
          · skip
            refine g_lload d_X10_readBulb_158 rfl ?_
            refine g_ldc2 (v := 10) d_X10_readBulb_160 tw_1375 ?_
            refine g_aload_n d_X10_readBulb_163 rfl ?_
            refine g_getR d_X10_readBulb_164 fq_RX10_17 rfl rfl ?_
            refine g_bipush (v := 7) d_X10_readBulb_167 kB_7 ?_
            refine g_iaload (N := 15) d_X10_readBulb_169 rfl kT_15 ⟨by decide, by decide⟩ kN_7 ?_
            refine g_iload_n d_X10_readBulb_170 rfl ?_
            refine g_isub d_X10_readBulb_171 ?_
            refine g_i2l d_X10_readBulb_172 ?_
            refine g_lmul d_X10_readBulb_173 ?_
            refine g_lcmp_gt d_X10_readBulb_174 d_X10_readBulb_175 (fun h175 => ?_) (fun h175 => ?_)
            · skip
              refine g_iconst (v := 0) d_X10_readBulb_182 kI_0 ?_
              exact J_183 ((0 : Int32)) (Or.inl rfl)
            · skip
              exact J_178
        have J_150 : G m_X10_readBulb (rq m_X10_readBulb (fun r S' I' J' => S' = SHF ∧ (I = I' ∧ TK x.toNatClampNeg J J') ∧ r = none)) 0 0 150 [some (.ref 78), some (.int x), some (.int shelf), some (.int less), some (.long r5), none, some (.long v7), none, some (.long w8), none, some (.int w11), some (.int w12), none, none, none] [] SHF I J9 := by
          skip
          refine g_iconst (v := 0) d_X10_readBulb_150 kI_0 ?_
          exact J_151 ((0 : Int32)) (Or.inl rfl)
        refine g_if_eq d_X10_readBulb_107 (fun h107 => ?_) (fun h107 => ?_)
        · skip
          exact J_150
        · skip
          refine g_aload_n d_X10_readBulb_110 rfl ?_
          refine g_getR d_X10_readBulb_111 fq_RX10_7 rfl rfl ?_
          refine g_iload_n d_X10_readBulb_114 rfl ?_
          refine g_bipush (v := 52) d_X10_readBulb_115 kB_52 ?_
          refine g_iadd d_X10_readBulb_117 ?_
          refine g_laload (N := 320) d_X10_readBulb_118 rfl kT_320 (ixc hx (by decide)) (by rw [tnc hx (by decide), kN_52]) ?_
          refine g_iconst (v := 4) d_X10_readBulb_119 kI_4 ?_
          refine g_S2 d_X10_readBulb_120 cs_X10_readBulb_X10_has lk_RX10_149 im_X10_has (Nat.le_of_ble_eq_true rfl) ⟨rfl, rfl⟩ ⟨Nat.zero_le _, Nat.zero_le _⟩ (ct_X10_has (J9 79 (x.toNatClampNeg + 52)) (4 : Int32) I J9 ) (fun r120 S120 Ic42 Jc43 q120_40 => ?_)
          obtain ⟨rfl, rfl, rfl, r45, rfl, hz120⟩ := q120_40
          refine g_st (st' := [.int r45]) rfl ?_
          have J_146 : G m_X10_readBulb (rq m_X10_readBulb (fun r S' I' J' => S' = SHF ∧ (I = I' ∧ TK x.toNatClampNeg J J') ∧ r = none)) 0 0 146 [some (.ref 78), some (.int x), some (.int shelf), some (.int less), some (.long r5), none, some (.long v7), none, some (.long w8), none, some (.int w11), some (.int w12), none, none, none] [] SHF I J9 := by
            skip
            refine g_iconst (v := 1) d_X10_readBulb_146 kI_1 ?_
            refine g_goto d_X10_readBulb_147 ?_
            exact J_151 ((1 : Int32)) (Or.inr rfl)
          refine g_if_ne d_X10_readBulb_123 (fun h123 => ?_) (fun h123 => ?_)
          · skip
            exact J_146
          · skip
            refine g_lload d_X10_readBulb_126 rfl ?_
            refine g_ldc2 (v := 10) d_X10_readBulb_128 tw_1375 ?_
            refine g_aload_n d_X10_readBulb_131 rfl ?_
            refine g_getR d_X10_readBulb_132 fq_RX10_17 rfl rfl ?_
            refine g_bipush (v := 6) d_X10_readBulb_135 kB_6 ?_
            refine g_iaload (N := 15) d_X10_readBulb_137 rfl kT_15 ⟨by decide, by decide⟩ kN_6 ?_
            refine g_iload_n d_X10_readBulb_138 rfl ?_
            refine g_isub d_X10_readBulb_139 ?_
            refine g_i2l d_X10_readBulb_140 ?_
            refine g_lmul d_X10_readBulb_141 ?_
            refine g_lcmp_lt d_X10_readBulb_142 d_X10_readBulb_143 (fun h143 => ?_) (fun h143 => ?_)
            · skip
              exact J_150
            · skip
              exact J_146
      refine g_lcmp_ne d_X10_readBulb_94 d_X10_readBulb_95 (fun h95 => ?_) (fun h95 => ?_)
      · skip
        refine g_iconst (v := 0) d_X10_readBulb_102 kI_0 ?_
        exact J_103 ((0 : Int32)) (Or.inl rfl)
      · skip
        refine g_iconst (v := 1) d_X10_readBulb_98 kI_1 ?_
        refine g_goto d_X10_readBulb_99 ?_
        exact J_103 ((1 : Int32)) (Or.inr rfl)
    refine g_lcmp_ne d_X10_readBulb_73 d_X10_readBulb_74 (fun h74 => ?_) (fun h74 => ?_)
    · skip
      refine g_iconst (v := 0) d_X10_readBulb_81 kI_0 ?_
      exact J_82 ((0 : Int32)) (Or.inl rfl)
    · skip
      refine g_iconst (v := 1) d_X10_readBulb_77 kI_1 ?_
      refine g_goto d_X10_readBulb_78 ?_
      exact J_82 ((1 : Int32)) (Or.inr rfl)
  refine g_lcmp_ne d_X10_readBulb_29 d_X10_readBulb_30 (fun h30 => ?_) (fun h30 => ?_)
  · skip
    refine g_lload d_X10_readBulb_48 rfl ?_
    exact J_50 r5
  · skip
    refine g_lload d_X10_readBulb_33 rfl ?_
    refine g_lload d_X10_readBulb_35 rfl ?_
    refine g_lload d_X10_readBulb_37 rfl ?_
    refine g_lsub d_X10_readBulb_39 ?_
    refine g_ldc2 (v := 8) d_X10_readBulb_40 tw_1195 ?_
    refine g_ldiv d_X10_readBulb_43 (by decide) ?_
    refine g_ladd d_X10_readBulb_44 ?_
    refine g_goto d_X10_readBulb_45 ?_
    exact J_50 ((v7 + ((r5 - v7) / (8 : Int64))))
set_option maxRecDepth 100000 in
set_option maxHeartbeats 4000000 in
theorem ct_X10_findFlows (x : Int32) (room : Int64) (gap : Int64) (I : Iv) (J : Jv) (hx : HX x) (hfu : FU x.toNatClampNeg J) (hbi : BI x.toNatClampNeg J) : Ct m_X10_findFlows [.ref 78, .int x, .long room, .long gap] SHF I J (fun r S' I' J' => S' = SHF ∧ (I = I' ∧ TK x.toNatClampNeg J J') ∧ r = none) := by
  refine ct_of 6 (by decide +kernel) rfl rfl ?_
  have hK0 : TK x.toNatClampNeg J J := (tk_rfl hfu)
  refine g_iconst (v := 0) d_X10_findFlows_0 kI_0 ?_
  refine g_istore (L' := [some (.ref 78), some (.int x), some (.long room), none, some (.long gap), none, some (.int (0 : Int32)), none, none, none, none, none]) d_X10_findFlows_1 (by decide) rfl ?_
  have K_3 : ∀ (nu : Nat) (x1 : Int32) (J2 : Jv), mU (12 : Int32) x1 = nu → (TK x.toNatClampNeg J J2) → ((0 : Int32) ≤ x1) → G m_X10_findFlows (rq m_X10_findFlows (fun r S' I' J' => S' = SHF ∧ (I = I' ∧ TK x.toNatClampNeg J J') ∧ r = none)) 0 0 3 [some (.ref 78), some (.int x), some (.long room), none, some (.long gap), none, some (.int x1), none, none, none, none, none] [] SHF I J2 := by
    intro nu
    induction nu using Nat.strongRecOn with
    | ind nu ih_3 =>
      intro x1 J2 hmu_3 hK3 hl4
      refine g_iload d_X10_findFlows_3 rfl ?_
      refine g_bipush (v := 12) d_X10_findFlows_5 kB_12 ?_
      refine g_icmp_ge d_X10_findFlows_7 (fun h7 => ?_) (fun h7 => ?_)
      · skip
        refine g_iconst (v := 0) d_X10_findFlows_24 kI_0 ?_
        refine g_istore (L' := [some (.ref 78), some (.int x), some (.long room), none, some (.long gap), none, some (.int (0 : Int32)), none, none, none, none, none]) d_X10_findFlows_25 (by decide) rfl ?_
        have K_27 : ∀ (nu : Nat) (x5 : Int32) (J6 : Jv), mU (3 : Int32) x5 = nu → (TK x.toNatClampNeg J J6) → ((0 : Int32) ≤ x5) → G m_X10_findFlows (rq m_X10_findFlows (fun r S' I' J' => S' = SHF ∧ (I = I' ∧ TK x.toNatClampNeg J J') ∧ r = none)) 0 0 27 [some (.ref 78), some (.int x), some (.long room), none, some (.long gap), none, some (.int x5), none, none, none, none, none] [] SHF I J6 := by
          intro nu
          induction nu using Nat.strongRecOn with
          | ind nu ih_27 =>
            intro x5 J6 hmu_27 hK7 hl8
            refine g_iload d_X10_findFlows_27 rfl ?_
            refine g_iconst (v := 3) d_X10_findFlows_29 kI_3 ?_
            refine g_icmp_ge d_X10_findFlows_30 (fun h30 => ?_) (fun h30 => ?_)
            · skip
              refine g_iconst (v := 0) d_X10_findFlows_83 kI_0 ?_
              refine g_istore (L' := [some (.ref 78), some (.int x), some (.long room), none, some (.long gap), none, some (.int (0 : Int32)), none, none, none, none, none]) d_X10_findFlows_84 (by decide) rfl ?_
              have K_86 : ∀ (nu : Nat) (x9 : Int32) (J10 : Jv), mU (2 : Int32) x9 = nu → (TK x.toNatClampNeg J J10) → ((0 : Int32) ≤ x9) → G m_X10_findFlows (rq m_X10_findFlows (fun r S' I' J' => S' = SHF ∧ (I = I' ∧ TK x.toNatClampNeg J J') ∧ r = none)) 0 0 86 [some (.ref 78), some (.int x), some (.long room), none, some (.long gap), none, some (.int x9), none, none, none, none, none] [] SHF I J10 := by
                intro nu
                induction nu using Nat.strongRecOn with
                | ind nu ih_86 =>
                  intro x9 J10 hmu_86 hK11 hl12
                  refine g_iload d_X10_findFlows_86 rfl ?_
                  refine g_iconst (v := 2) d_X10_findFlows_88 kI_2 ?_
                  refine g_icmp_ge d_X10_findFlows_89 (fun h89 => ?_) (fun h89 => ?_)
                  · skip
                    refine g_aload_n d_X10_findFlows_155 rfl ?_
                    refine g_getR d_X10_findFlows_156 fq_RX10_17 rfl rfl ?_
                    refine g_iconst (v := 4) d_X10_findFlows_159 kI_4 ?_
                    refine g_iaload (N := 15) d_X10_findFlows_160 rfl kT_15 ⟨by decide, by decide⟩ kN_4 ?_
                    refine g_i2l d_X10_findFlows_161 ?_
                    refine g_aload_n d_X10_findFlows_162 rfl ?_
                    refine g_iload_n d_X10_findFlows_163 rfl ?_
                    refine g_iconst (v := 0) d_X10_findFlows_164 kI_0 ?_
                    refine g_V2 d_X10_findFlows_165 cs_X10_findFlows_X10_warm lk_RX10_200 im_X10_warm se_X10_warm rfl rfl rfl (Nat.le_of_ble_eq_true rfl) ⟨rfl, rfl⟩ ⟨Nat.zero_le _, Nat.zero_le _⟩ (ct_X10_warm x (0 : Int32) I J10 hx (by grind) (by grind)) (fun r165 S165 Ic14 Jc15 q165_12 => ?_)
                    obtain ⟨rfl, rfl, rfl, r17, rfl⟩ := q165_12
                    refine g_st (st' := [.long r17, .long (Int32.toInt64 (I 81 4))]) rfl ?_
                    refine g_aload_n d_X10_findFlows_168 rfl ?_
                    refine g_iload_n d_X10_findFlows_169 rfl ?_
                    refine g_iconst (v := 3) d_X10_findFlows_170 kI_3 ?_
                    refine g_V2 d_X10_findFlows_171 cs_X10_findFlows_X10_warm lk_RX10_200 im_X10_warm se_X10_warm rfl rfl rfl (Nat.le_of_ble_eq_true rfl) ⟨rfl, rfl⟩ ⟨Nat.zero_le _, Nat.zero_le _⟩ (ct_X10_warm x (3 : Int32) I J10 hx (by grind) (by grind)) (fun r171 S171 Ic20 Jc21 q171_18 => ?_)
                    obtain ⟨rfl, rfl, rfl, r23, rfl⟩ := q171_18
                    refine g_st (st' := [.long r23, .long r17, .long (Int32.toInt64 (I 81 4))]) rfl ?_
                    refine g_lsub d_X10_findFlows_174 ?_
                    refine g_lmul d_X10_findFlows_175 ?_
                    refine g_ldc2 (v := 100) d_X10_findFlows_176 tw_1391 ?_
                    refine g_ldiv d_X10_findFlows_179 (by decide) ?_
                    refine g_ldc2 (v := 1000) d_X10_findFlows_180 tw_1392 ?_
                    refine g_lmul d_X10_findFlows_183 ?_
                    refine g_ldc2 (v := 1000) d_X10_findFlows_184 tw_1392 ?_
                    refine g_aload_n d_X10_findFlows_187 rfl ?_
                    refine g_getR d_X10_findFlows_188 fq_RX10_7 rfl rfl ?_
                    refine g_iload_n d_X10_findFlows_191 rfl ?_
                    refine g_bipush (v := 53) d_X10_findFlows_192 kB_53 ?_
                    refine g_iadd d_X10_findFlows_194 ?_
                    refine g_laload (N := 320) d_X10_findFlows_195 rfl kT_320 (ixc hx (by decide)) (by rw [tnc hx (by decide), kN_53]) ?_
                    refine g_ladd d_X10_findFlows_196 ?_
                    refine g_ldiv d_X10_findFlows_197 (fu_div hK11) ?_
                    refine g_topJ (fun v25 ev25 => ?_)
                    refine g_lstore (L' := [some (.ref 78), some (.int x), some (.long room), none, some (.long gap), none, some (.long v25), none, none, none, none, none]) d_X10_findFlows_198 (by decide) rfl ?_
                    refine g_aload_n d_X10_findFlows_200 rfl ?_
                    refine g_getR d_X10_findFlows_201 fq_RX10_43 rfl rfl ?_
                    refine g_iconst (v := 0) d_X10_findFlows_204 kI_0 ?_
                    refine g_dup2 d_X10_findFlows_205 rfl rfl ?_
                    refine g_laload (N := 12) d_X10_findFlows_206 rfl kT_12 ⟨by decide, by decide⟩ kN_0 ?_
                    refine g_lload d_X10_findFlows_207 rfl ?_
                    refine g_lsub d_X10_findFlows_209 ?_
                    refine g_lastore (N := 12) d_X10_findFlows_210 rfl kT_12 ⟨by decide, by decide⟩ kN_0  ?_
                    refine g_nmJ (fun J26 eJ26 => ?_)
                    have hK27 : TK x.toNatClampNeg J J26 := (by rw [eJ26]; exact tk_f hK11)
                    refine g_aload_n d_X10_findFlows_211 rfl ?_
                    refine g_getR d_X10_findFlows_212 fq_RX10_43 rfl rfl ?_
                    refine g_iconst (v := 3) d_X10_findFlows_215 kI_3 ?_
                    refine g_dup2 d_X10_findFlows_216 rfl rfl ?_
                    refine g_laload (N := 12) d_X10_findFlows_217 rfl kT_12 ⟨by decide, by decide⟩ kN_3 ?_
                    refine g_lload d_X10_findFlows_218 rfl ?_
                    refine g_ladd d_X10_findFlows_220 ?_
                    refine g_lastore (N := 12) d_X10_findFlows_221 rfl kT_12 ⟨by decide, by decide⟩ kN_3  ?_
                    refine g_nmJ (fun J28 eJ28 => ?_)
                    have hK29 : TK x.toNatClampNeg J J28 := (by rw [eJ28]; exact tk_f hK27)
                    refine g_iconst (v := 0) d_X10_findFlows_222 kI_0 ?_
                    refine g_istore (L' := [some (.ref 78), some (.int x), some (.long room), none, some (.long gap), none, some (.long v25), none, some (.int (0 : Int32)), none, none, none]) d_X10_findFlows_223 (by decide) rfl ?_
                    have K_225 : ∀ (nu : Nat) (x30 : Int32) (J31 : Jv), mU (8 : Int32) x30 = nu → (TK x.toNatClampNeg J J31) → ((0 : Int32) ≤ x30) → G m_X10_findFlows (rq m_X10_findFlows (fun r S' I' J' => S' = SHF ∧ (I = I' ∧ TK x.toNatClampNeg J J') ∧ r = none)) 0 0 225 [some (.ref 78), some (.int x), some (.long room), none, some (.long gap), none, some (.long v25), none, some (.int x30), none, none, none] [] SHF I J31 := by
                      intro nu
                      induction nu using Nat.strongRecOn with
                      | ind nu ih_225 =>
                        intro x30 J31 hmu_225 hK32 hl33
                        refine g_iload d_X10_findFlows_225 rfl ?_
                        refine g_bipush (v := 8) d_X10_findFlows_227 kB_8 ?_
                        refine g_icmp_ge d_X10_findFlows_229 (fun h229 => ?_) (fun h229 => ?_)
                        · skip
                          exact g_return d_X10_findFlows_327 rfl rfl rfl ⟨rfl, ⟨rfl, hK32⟩, rfl⟩
                        · skip
                          refine g_aload_n d_X10_findFlows_232 rfl ?_
                          refine g_getR d_X10_findFlows_233 fq_RX10_7 rfl rfl ?_
                          refine g_iload_n d_X10_findFlows_236 rfl ?_
                          refine g_bipush (v := 12) d_X10_findFlows_237 kB_12 ?_
                          refine g_iadd d_X10_findFlows_239 ?_
                          refine g_iload d_X10_findFlows_240 rfl ?_
                          refine g_iadd d_X10_findFlows_242 ?_
                          refine g_laload (N := 320) d_X10_findFlows_243 rfl kT_320 (ixcf hx (by decide) ⟨hl33, Int32.not_le.mp h229⟩) (by rw [tncf hx (by decide) ⟨hl33, Int32.not_le.mp h229⟩, kN_12]) ?_
                          refine g_lconst d_X10_findFlows_244 kL_1 ?_
                          refine g_lcmp_ne d_X10_findFlows_245 d_X10_findFlows_246 (fun h246 => ?_) (fun h246 => ?_)
                          · skip
                            refine g_iinc (v := (x30 + (1 : Int32))) (L' := [some (.ref 78), some (.int x), some (.long room), none, some (.long gap), none, some (.long v25), none, some (.int (x30 + (1 : Int32))), none, none, none]) d_X10_findFlows_321 rfl (by rw [kI_1]) (by decide) rfl ?_
                            refine g_goto d_X10_findFlows_324 ?_
                            exact ih_225 _ (by rw [← hmu_225]; exact mu_up h229) (x30 + (1 : Int32)) J31 rfl hK32 (lo_up hl33 h229)
                          · skip
                            have hlt : x30.toNatClampNeg < 8 := by have q := tn_lt (n := 8) hl33 h229; rwa [kN_8] at q
                            have hb2 := (hK32.bi hbi) x30.toNatClampNeg hlt
                            have hb3 := hb2.2 (by grind)
                            have hcc : 1 ≤ J31 79 (x + 28 + (4 + x30) - 4).toNatClampNeg := by rw [cap_ix hx hl33 (by grind)]; exact hb3.2.1
                            refine g_aload_n d_X10_findFlows_249 rfl ?_
                            refine g_getR d_X10_findFlows_250 fq_RX10_7 rfl rfl ?_
                            refine g_iload_n d_X10_findFlows_253 rfl ?_
                            refine g_bipush (v := 20) d_X10_findFlows_254 kB_20 ?_
                            refine g_iadd d_X10_findFlows_256 ?_
                            refine g_iload d_X10_findFlows_257 rfl ?_
                            refine g_iadd d_X10_findFlows_259 ?_
                            refine g_laload (N := 320) d_X10_findFlows_260 rfl kT_320 (ixcf hx (by decide) ⟨hl33, Int32.not_le.mp h229⟩) (by rw [tncf hx (by decide) ⟨hl33, Int32.not_le.mp h229⟩, kN_20]) ?_
                            refine g_l2i d_X10_findFlows_261 ?_
                            refine g_topI (fun v34 ev34 => ?_)
                            refine g_istore (L' := [some (.ref 78), some (.int x), some (.long room), none, some (.long gap), none, some (.long v25), none, some (.int x30), some (.int v34), none, none]) d_X10_findFlows_262 (by decide) rfl ?_
                            have hs := l2i_2 hb3.1
                            rw [← ev34] at hs
                            refine g_aload_n d_X10_findFlows_264 rfl ?_
                            refine g_getR d_X10_findFlows_265 fq_RX10_17 rfl rfl ?_
                            refine g_iconst (v := 5) d_X10_findFlows_268 kI_5 ?_
                            refine g_iaload (N := 15) d_X10_findFlows_269 rfl kT_15 ⟨by decide, by decide⟩ kN_5 ?_
                            refine g_i2l d_X10_findFlows_270 ?_
                            refine g_aload_n d_X10_findFlows_271 rfl ?_
                            refine g_iload_n d_X10_findFlows_272 rfl ?_
                            refine g_iload d_X10_findFlows_273 rfl ?_
                            refine g_V2 d_X10_findFlows_275 cs_X10_findFlows_X10_warm lk_RX10_200 im_X10_warm se_X10_warm rfl rfl rfl (Nat.le_of_ble_eq_true rfl) ⟨rfl, rfl⟩ ⟨Nat.zero_le _, Nat.zero_le _⟩ (ct_X10_warm x v34 I J31 hx (by grind) (by grind)) (fun r275 S275 Ic36 Jc37 q275_34 => ?_)
                            obtain ⟨rfl, rfl, rfl, r39, rfl⟩ := q275_34
                            refine g_st (st' := [.long r39, .long (Int32.toInt64 (I 81 5))]) rfl ?_
                            refine g_aload_n d_X10_findFlows_278 rfl ?_
                            refine g_iload_n d_X10_findFlows_279 rfl ?_
                            refine g_iconst (v := 4) d_X10_findFlows_280 kI_4 ?_
                            refine g_iload d_X10_findFlows_281 rfl ?_
                            refine g_iadd d_X10_findFlows_283 ?_
                            refine g_V2 d_X10_findFlows_284 cs_X10_findFlows_X10_warm lk_RX10_200 im_X10_warm se_X10_warm rfl rfl rfl (Nat.le_of_ble_eq_true rfl) ⟨rfl, rfl⟩ ⟨Nat.zero_le _, Nat.zero_le _⟩ (ct_X10_warm x ((4 : Int32) + x30) I J31 hx (by grind) (fun _ => hcc)) (fun r284 S284 Ic42 Jc43 q284_40 => ?_)
                            obtain ⟨rfl, rfl, rfl, r45, rfl⟩ := q284_40
                            refine g_st (st' := [.long r45, .long r39, .long (Int32.toInt64 (I 81 5))]) rfl ?_
                            refine g_lsub d_X10_findFlows_287 ?_
                            refine g_lmul d_X10_findFlows_288 ?_
                            refine g_ldc2 (v := 100) d_X10_findFlows_289 tw_1391 ?_
                            refine g_ldiv d_X10_findFlows_292 (by decide) ?_
                            refine g_topJ (fun v47 ev47 => ?_)
                            refine g_lstore (L' := [some (.ref 78), some (.int x), some (.long room), none, some (.long gap), none, some (.long v25), none, some (.int x30), some (.int v34), some (.long v47), none]) d_X10_findFlows_293 (by decide) rfl ?_
                            refine g_aload_n d_X10_findFlows_295 rfl ?_
                            refine g_getR d_X10_findFlows_296 fq_RX10_43 rfl rfl ?_
                            refine g_iload d_X10_findFlows_299 rfl ?_
                            refine g_dup2 d_X10_findFlows_301 rfl rfl ?_
                            refine g_laload (N := 12) d_X10_findFlows_302 rfl kT_12 (by constructor <;> grind) rfl ?_
                            refine g_lload d_X10_findFlows_303 rfl ?_
                            refine g_lsub d_X10_findFlows_305 ?_
                            refine g_lastore (N := 12) d_X10_findFlows_306 rfl kT_12 (by constructor <;> grind) rfl  ?_
                            refine g_nmJ (fun J48 eJ48 => ?_)
                            have hK49 : TK x.toNatClampNeg J J48 := (by rw [eJ48]; exact tk_f hK32)
                            refine g_aload_n d_X10_findFlows_307 rfl ?_
                            refine g_getR d_X10_findFlows_308 fq_RX10_43 rfl rfl ?_
                            refine g_iconst (v := 4) d_X10_findFlows_311 kI_4 ?_
                            refine g_iload d_X10_findFlows_312 rfl ?_
                            refine g_iadd d_X10_findFlows_314 ?_
                            refine g_dup2 d_X10_findFlows_315 rfl rfl ?_
                            refine g_laload (N := 12) d_X10_findFlows_316 rfl kT_12 (by constructor <;> grind) rfl ?_
                            refine g_lload d_X10_findFlows_317 rfl ?_
                            refine g_ladd d_X10_findFlows_319 ?_
                            refine g_lastore (N := 12) d_X10_findFlows_320 rfl kT_12 (by constructor <;> grind) rfl  ?_
                            refine g_nmJ (fun J50 eJ50 => ?_)
                            have hK51 : TK x.toNatClampNeg J J50 := (by rw [eJ50]; exact tk_f hK49)
                            refine g_iinc (v := (x30 + (1 : Int32))) (L' := [some (.ref 78), some (.int x), some (.long room), none, some (.long gap), none, some (.long v25), none, some (.int (x30 + (1 : Int32))), some (.int v34), some (.long v47), none]) d_X10_findFlows_321 rfl (by rw [kI_1]) (by decide) rfl ?_
                            refine g_goto d_X10_findFlows_324 ?_
                            refine g_sb [some (.ref 78), some (.int x), some (.long room), none, some (.long gap), none, some (.long v25), none, some (.int (x30 + (1 : Int32))), none, none, none] (by simp [subL]) ?_
                            exact ih_225 _ (by rw [← hmu_225]; exact mu_up h229) (x30 + (1 : Int32)) J50 rfl hK51 (lo_up hl33 h229)
                    exact K_225 _ (0 : Int32) J28 rfl hK29 (Int32.le_refl _)
                  · skip
                    refine g_aload_n d_X10_findFlows_92 rfl ?_
                    refine g_getR d_X10_findFlows_93 fq_RX10_17 rfl rfl ?_
                    refine g_iconst (v := 3) d_X10_findFlows_96 kI_3 ?_
                    refine g_iaload (N := 15) d_X10_findFlows_97 rfl kT_15 ⟨by decide, by decide⟩ kN_3 ?_
                    refine g_i2l d_X10_findFlows_98 ?_
                    refine g_aload_n d_X10_findFlows_99 rfl ?_
                    refine g_iload_n d_X10_findFlows_100 rfl ?_
                    refine g_iload d_X10_findFlows_101 rfl ?_
                    refine g_V2 d_X10_findFlows_103 cs_X10_findFlows_X10_warm lk_RX10_200 im_X10_warm se_X10_warm rfl rfl rfl (Nat.le_of_ble_eq_true rfl) ⟨rfl, rfl⟩ ⟨Nat.zero_le _, Nat.zero_le _⟩ (ct_X10_warm x x9 I J10 hx (by grind) (by grind)) (fun r103 S103 Ic53 Jc54 q103_51 => ?_)
                    obtain ⟨rfl, rfl, rfl, r56, rfl⟩ := q103_51
                    refine g_st (st' := [.long r56, .long (Int32.toInt64 (I 81 3))]) rfl ?_
                    refine g_aload_n d_X10_findFlows_106 rfl ?_
                    refine g_iload_n d_X10_findFlows_107 rfl ?_
                    refine g_iload d_X10_findFlows_108 rfl ?_
                    refine g_iconst (v := 1) d_X10_findFlows_110 kI_1 ?_
                    refine g_iadd d_X10_findFlows_111 ?_
                    refine g_V2 d_X10_findFlows_112 cs_X10_findFlows_X10_warm lk_RX10_200 im_X10_warm se_X10_warm rfl rfl rfl (Nat.le_of_ble_eq_true rfl) ⟨rfl, rfl⟩ ⟨Nat.zero_le _, Nat.zero_le _⟩ (ct_X10_warm x (x9 + (1 : Int32)) I J10 hx (by grind) (by grind)) (fun r112 S112 Ic59 Jc60 q112_57 => ?_)
                    obtain ⟨rfl, rfl, rfl, r62, rfl⟩ := q112_57
                    refine g_st (st' := [.long r62, .long r56, .long (Int32.toInt64 (I 81 3))]) rfl ?_
                    refine g_lsub d_X10_findFlows_115 ?_
                    refine g_lmul d_X10_findFlows_116 ?_
                    refine g_ldc2 (v := 100) d_X10_findFlows_117 tw_1391 ?_
                    refine g_ldiv d_X10_findFlows_120 (by decide) ?_
                    refine g_topJ (fun v64 ev64 => ?_)
                    refine g_lstore (L' := [some (.ref 78), some (.int x), some (.long room), none, some (.long gap), none, some (.int x9), some (.long v64), none, none, none, none]) d_X10_findFlows_121 (by decide) rfl ?_
                    refine g_aload_n d_X10_findFlows_123 rfl ?_
                    refine g_getR d_X10_findFlows_124 fq_RX10_43 rfl rfl ?_
                    refine g_iload d_X10_findFlows_127 rfl ?_
                    refine g_dup2 d_X10_findFlows_129 rfl rfl ?_
                    refine g_laload (N := 12) d_X10_findFlows_130 rfl kT_12 (by constructor <;> grind) rfl ?_
                    refine g_lload d_X10_findFlows_131 rfl ?_
                    refine g_lsub d_X10_findFlows_133 ?_
                    refine g_lastore (N := 12) d_X10_findFlows_134 rfl kT_12 (by constructor <;> grind) rfl  ?_
                    refine g_nmJ (fun J65 eJ65 => ?_)
                    have hK66 : TK x.toNatClampNeg J J65 := (by rw [eJ65]; exact tk_f hK11)
                    refine g_aload_n d_X10_findFlows_135 rfl ?_
                    refine g_getR d_X10_findFlows_136 fq_RX10_43 rfl rfl ?_
                    refine g_iload d_X10_findFlows_139 rfl ?_
                    refine g_iconst (v := 1) d_X10_findFlows_141 kI_1 ?_
                    refine g_iadd d_X10_findFlows_142 ?_
                    refine g_dup2 d_X10_findFlows_143 rfl rfl ?_
                    refine g_laload (N := 12) d_X10_findFlows_144 rfl kT_12 (by constructor <;> grind) rfl ?_
                    refine g_lload d_X10_findFlows_145 rfl ?_
                    refine g_ladd d_X10_findFlows_147 ?_
                    refine g_lastore (N := 12) d_X10_findFlows_148 rfl kT_12 (by constructor <;> grind) rfl  ?_
                    refine g_nmJ (fun J67 eJ67 => ?_)
                    have hK68 : TK x.toNatClampNeg J J67 := (by rw [eJ67]; exact tk_f hK66)
                    refine g_iinc (v := (x9 + (1 : Int32))) (L' := [some (.ref 78), some (.int x), some (.long room), none, some (.long gap), none, some (.int (x9 + (1 : Int32))), some (.long v64), none, none, none, none]) d_X10_findFlows_149 rfl (by rw [kI_1]) (by decide) rfl ?_
                    refine g_goto d_X10_findFlows_152 ?_
                    refine g_sb [some (.ref 78), some (.int x), some (.long room), none, some (.long gap), none, some (.int (x9 + (1 : Int32))), none, none, none, none, none] (by simp [subL]) ?_
                    exact ih_86 _ (by rw [← hmu_86]; exact mu_up h89) (x9 + (1 : Int32)) J67 rfl hK68 (lo_up hl12 h89)
              exact K_86 _ (0 : Int32) J6 rfl hK7 (Int32.le_refl _)
            · skip
              refine g_lload d_X10_findFlows_33 rfl ?_
              refine g_lload_n d_X10_findFlows_35 rfl ?_
              refine g_aload_n d_X10_findFlows_36 rfl ?_
              refine g_iload_n d_X10_findFlows_37 rfl ?_
              refine g_iload d_X10_findFlows_38 rfl ?_
              refine g_V2 d_X10_findFlows_40 cs_X10_findFlows_X10_warm lk_RX10_200 im_X10_warm se_X10_warm rfl rfl rfl (Nat.le_of_ble_eq_true rfl) ⟨rfl, rfl⟩ ⟨Nat.zero_le _, Nat.zero_le _⟩ (ct_X10_warm x x5 I J6 hx (by grind) (by grind)) (fun r40 S40 Ic70 Jc71 q40_68 => ?_)
              obtain ⟨rfl, rfl, rfl, r73, rfl⟩ := q40_68
              refine g_st (st' := [.long r73, .long room, .long gap]) rfl ?_
              refine g_lsub d_X10_findFlows_43 ?_
              refine g_lmul d_X10_findFlows_44 ?_
              refine g_ldc2 (v := 100) d_X10_findFlows_45 tw_1391 ?_
              refine g_ldiv d_X10_findFlows_48 (by decide) ?_
              refine g_topJ (fun v75 ev75 => ?_)
              refine g_lstore (L' := [some (.ref 78), some (.int x), some (.long room), none, some (.long gap), none, some (.int x5), some (.long v75), none, none, none, none]) d_X10_findFlows_49 (by decide) rfl ?_
              refine g_aload_n d_X10_findFlows_51 rfl ?_
              refine g_getR d_X10_findFlows_52 fq_RX10_43 rfl rfl ?_
              refine g_iload d_X10_findFlows_55 rfl ?_
              refine g_dup2 d_X10_findFlows_57 rfl rfl ?_
              refine g_laload (N := 12) d_X10_findFlows_58 rfl kT_12 (by constructor <;> grind) rfl ?_
              refine g_lload d_X10_findFlows_59 rfl ?_
              refine g_ladd d_X10_findFlows_61 ?_
              refine g_lastore (N := 12) d_X10_findFlows_62 rfl kT_12 (by constructor <;> grind) rfl  ?_
              refine g_nmJ (fun J76 eJ76 => ?_)
              have hK77 : TK x.toNatClampNeg J J76 := (by rw [eJ76]; exact tk_f hK7)
              refine g_aload_n d_X10_findFlows_63 rfl ?_
              refine g_getR d_X10_findFlows_64 fq_RX10_7 rfl rfl ?_
              refine g_iload_n d_X10_findFlows_67 rfl ?_
              refine g_bipush (v := 55) d_X10_findFlows_68 kB_55 ?_
              refine g_iadd d_X10_findFlows_70 ?_
              refine g_dup2 d_X10_findFlows_71 rfl rfl ?_
              refine g_laload (N := 320) d_X10_findFlows_72 rfl kT_320 (ixc hx (by decide)) (by rw [tnc hx (by decide), kN_55]) ?_
              refine g_lload d_X10_findFlows_73 rfl ?_
              refine g_ladd d_X10_findFlows_75 ?_
              refine g_lastore (N := 320) d_X10_findFlows_76 rfl kT_320 (ixc hx (by decide)) (by rw [tnc hx (by decide), kN_55])  ?_
              refine g_nmJ (fun J78 eJ78 => ?_)
              have hK79 : TK x.toNatClampNeg J J78 := (by rw [eJ78]; exact tk_w hK77 (by unfold KP; omega) (fun hh => absurd hh (by omega)))
              refine g_iinc (v := (x5 + (1 : Int32))) (L' := [some (.ref 78), some (.int x), some (.long room), none, some (.long gap), none, some (.int (x5 + (1 : Int32))), some (.long v75), none, none, none, none]) d_X10_findFlows_77 rfl (by rw [kI_1]) (by decide) rfl ?_
              refine g_goto d_X10_findFlows_80 ?_
              refine g_sb [some (.ref 78), some (.int x), some (.long room), none, some (.long gap), none, some (.int (x5 + (1 : Int32))), none, none, none, none, none] (by simp [subL]) ?_
              exact ih_27 _ (by rw [← hmu_27]; exact mu_up h30) (x5 + (1 : Int32)) J78 rfl hK79 (lo_up hl8 h30)
        exact K_27 _ (0 : Int32) J2 rfl hK3 (Int32.le_refl _)
      · skip
        refine g_aload_n d_X10_findFlows_10 rfl ?_
        refine g_getR d_X10_findFlows_11 fq_RX10_43 rfl rfl ?_
        refine g_iload d_X10_findFlows_14 rfl ?_
        refine g_lconst d_X10_findFlows_16 kL_0 ?_
        refine g_lastore (N := 12) d_X10_findFlows_17 rfl kT_12 ⟨hl4, Int32.not_le.mp h7⟩ rfl  ?_
        refine g_nmJ (fun J80 eJ80 => ?_)
        have hK81 : TK x.toNatClampNeg J J80 := (by rw [eJ80]; exact tk_f hK3)
        refine g_iinc (v := (x1 + (1 : Int32))) (L' := [some (.ref 78), some (.int x), some (.long room), none, some (.long gap), none, some (.int (x1 + (1 : Int32))), none, none, none, none, none]) d_X10_findFlows_18 rfl (by rw [kI_1]) (by decide) rfl ?_
        refine g_goto d_X10_findFlows_21 ?_
        exact ih_3 _ (by rw [← hmu_3]; exact mu_up h7) (x1 + (1 : Int32)) J80 rfl hK81 (lo_up hl4 h7)
  exact K_3 _ (0 : Int32) J rfl hK0 (Int32.le_refl _)
set_option maxRecDepth 100000 in
set_option maxHeartbeats 4000000 in
theorem ct_X10_tick (x : Int32) (open_ : Int32) (shelf : Int32) (less : Int32) (I : Iv) (J : Jv) (hx : HX x) (hfu : FU x.toNatClampNeg J) (hbi : BI x.toNatClampNeg J) (hsh : 0 ≤ shelf ∧ shelf ≤ 2) (hb2 : 0 ≤ I 81 2 ∧ I 81 2 ≤ 99) : Ct m_X10_tick [.ref 78, .int x, .int open_, .int shelf, .int less] SHF I J (fun r S' I' J' => S' = SHF ∧ (I = I' ∧ TG x.toNatClampNeg J J') ∧ r = none ∧ J' 79 (x.toNatClampNeg + 54) = J 79 (x.toNatClampNeg + 54) + 1) := by
  refine ct_of 12 (by decide +kernel) rfl rfl ?_
  have hK0 : TK x.toNatClampNeg J J := (tk_rfl hfu)
  refine g_aload_n d_X10_tick_0 rfl ?_
  refine g_getR d_X10_tick_1 fq_RX10_7 rfl rfl ?_
  refine g_iload_n d_X10_tick_4 rfl ?_
  refine g_bipush (v := 52) d_X10_tick_5 kB_52 ?_
  refine g_iadd d_X10_tick_7 ?_
  refine g_laload (N := 320) d_X10_tick_8 rfl kT_320 (ixc hx (by decide)) (by rw [tnc hx (by decide), kN_52]) ?_
  refine g_topJ (fun v1 ev1 => ?_)
  refine g_lstore (L' := [some (.ref 78), some (.int x), some (.int open_), some (.int shelf), some (.int less), some (.long v1), none, none, none, none, none, none, none, none, none, none, none]) d_X10_tick_9 (by decide) rfl ?_
  refine g_aload_n d_X10_tick_11 rfl ?_
  refine g_getR d_X10_tick_12 fq_RX10_7 rfl rfl ?_
  refine g_iload_n d_X10_tick_15 rfl ?_
  refine g_bipush (v := 54) d_X10_tick_16 kB_54 ?_
  refine g_iadd d_X10_tick_18 ?_
  refine g_laload (N := 320) d_X10_tick_19 rfl kT_320 (ixc hx (by decide)) (by rw [tnc hx (by decide), kN_54]) ?_
  refine g_topJ (fun v2 ev2 => ?_)
  refine g_lstore (L' := [some (.ref 78), some (.int x), some (.int open_), some (.int shelf), some (.int less), some (.long v1), none, some (.long v2), none, none, none, none, none, none, none, none, none]) d_X10_tick_20 (by decide) rfl ?_
  refine g_ldc2 (v := 10) d_X10_tick_22 tw_1375 ?_
  refine g_aload_n d_X10_tick_25 rfl ?_
  refine g_getR d_X10_tick_26 fq_RX10_17 rfl rfl ?_
  refine g_bipush (v := 11) d_X10_tick_29 kB_11 ?_
  refine g_iaload (N := 15) d_X10_tick_31 rfl kT_15 ⟨by decide, by decide⟩ kN_11 ?_
  refine g_i2l d_X10_tick_32 ?_
  refine g_lmul d_X10_tick_33 ?_
  refine g_lload d_X10_tick_34 rfl ?_
  refine g_aload_n d_X10_tick_36 rfl ?_
  refine g_getR d_X10_tick_37 fq_RX10_17 rfl rfl ?_
  refine g_bipush (v := 12) d_X10_tick_40 kB_12 ?_
  refine g_iaload (N := 15) d_X10_tick_42 rfl kT_15 ⟨by decide, by decide⟩ kN_12 ?_
  refine g_aload_n d_X10_tick_43 rfl ?_
  refine g_getR d_X10_tick_44 fq_RX10_17 rfl rfl ?_
  refine g_bipush (v := 13) d_X10_tick_47 kB_13 ?_
  refine g_iaload (N := 15) d_X10_tick_49 rfl kT_15 ⟨by decide, by decide⟩ kN_13 ?_
  refine g_S3 d_X10_tick_50 cs_X10_tick_X10_isHour lk_RX10_219 im_X10_isHour (Nat.le_of_ble_eq_true rfl) ⟨rfl, rfl⟩ ⟨Nat.zero_le _, Nat.zero_le _⟩ (ct_X10_isHour v2 (I 81 12) (I 81 13) I J ) (fun r50 S50 Ic4 Jc5 q50_2 => ?_)
  obtain ⟨rfl, rfl, rfl, r7, rfl, hz50⟩ := q50_2
  refine g_st (st' := [.int r7, .long ((10 : Int64) * (Int32.toInt64 (I 81 11)))]) rfl ?_
  have J_72 : ∀ (w9 : Int64), G m_X10_tick (rq m_X10_tick (fun r S' I' J' => S' = SHF ∧ (I = I' ∧ TG x.toNatClampNeg J J') ∧ r = none ∧ J' 79 (x.toNatClampNeg + 54) = J 79 (x.toNatClampNeg + 54) + 1)) 0 0 72 [some (.ref 78), some (.int x), some (.int open_), some (.int shelf), some (.int less), some (.long v1), none, some (.long v2), none, none, none, none, none, none, none, none, none] [.long w9, .long ((10 : Int64) * (Int32.toInt64 (I 81 11)))] SHF I J := by
    intro w9
    refine g_ladd d_X10_tick_72 ?_
    refine g_lload d_X10_tick_73 rfl ?_
    refine g_bipush (v := 6) d_X10_tick_75 kB_6 ?_
    refine g_S2 d_X10_tick_77 cs_X10_tick_X10_has lk_RX10_149 im_X10_has (Nat.le_of_ble_eq_true rfl) ⟨rfl, rfl⟩ ⟨Nat.zero_le _, Nat.zero_le _⟩ (ct_X10_has v1 (6 : Int32) I J ) (fun r77 S77 Ic11 Jc12 q77_9 => ?_)
    obtain ⟨rfl, rfl, rfl, r14, rfl, hz77⟩ := q77_9
    refine g_st (st' := [.int r14, .long (((10 : Int64) * (Int32.toInt64 (I 81 11))) + w9)]) rfl ?_
    have J_90 : ∀ (w16 : Int64), G m_X10_tick (rq m_X10_tick (fun r S' I' J' => S' = SHF ∧ (I = I' ∧ TG x.toNatClampNeg J J') ∧ r = none ∧ J' 79 (x.toNatClampNeg + 54) = J 79 (x.toNatClampNeg + 54) + 1)) 0 0 90 [some (.ref 78), some (.int x), some (.int open_), some (.int shelf), some (.int less), some (.long v1), none, some (.long v2), none, none, none, none, none, none, none, none, none] [.long w16, .long (((10 : Int64) * (Int32.toInt64 (I 81 11))) + w9)] SHF I J := by
      intro w16
      refine g_ladd d_X10_tick_90 ?_
      refine g_topJ (fun v17 ev17 => ?_)
      refine g_lstore (L' := [some (.ref 78), some (.int x), some (.int open_), some (.int shelf), some (.int less), some (.long v1), none, some (.long v2), none, some (.long v17), none, none, none, none, none, none, none]) d_X10_tick_91 (by decide) rfl ?_
      refine g_iload_n d_X10_tick_93 rfl ?_
      have J_125 : ∀ (w18 : Int32), (w18 = 0 ∨ w18 = 1) → G m_X10_tick (rq m_X10_tick (fun r S' I' J' => S' = SHF ∧ (I = I' ∧ TG x.toNatClampNeg J J') ∧ r = none ∧ J' 79 (x.toNatClampNeg + 54) = J 79 (x.toNatClampNeg + 54) + 1)) 0 0 125 [some (.ref 78), some (.int x), some (.int open_), some (.int shelf), some (.int less), some (.long v1), none, some (.long v2), none, some (.long v17), none, none, none, none, none, none, none] [.int w18] SHF I J := by
        intro w18 hw18
        refine g_istore (L' := [some (.ref 78), some (.int x), some (.int open_), some (.int shelf), some (.int less), some (.long v1), none, some (.long v2), none, some (.long v17), none, some (.int w18), none, none, none, none, none]) d_X10_tick_125 (by decide) rfl ?_
        refine g_aload_n d_X10_tick_127 rfl ?_
        refine g_iload_n d_X10_tick_128 rfl ?_
        refine g_iload_n d_X10_tick_129 rfl ?_
        refine g_iload d_X10_tick_130 rfl ?_
        refine g_V3 d_X10_tick_132 cs_X10_tick_X10_readBulb lk_RX10_225 im_X10_readBulb se_X10_readBulb rfl rfl rfl (Nat.le_of_ble_eq_true rfl) ⟨rfl, rfl⟩ ⟨Nat.zero_le _, Nat.zero_le _⟩ (ct_X10_readBulb x shelf less I J hx hfu hsh) (fun r132 S132 Ic21 J19 q132_19 => ?_)
        obtain ⟨rfl, ⟨rfl, hc132_21⟩, rfl⟩ := q132_19
        refine g_st (st' := []) rfl ?_
        have hK24 : TK x.toNatClampNeg J J19 := hK0.tr hc132_21
        have hbs : 0 ≤ (I 81 2).toInt64 ∧ (I 81 2).toInt64 ≤ 99 := i2l_bd (b := 99) hb2
        refine g_lload d_X10_tick_135 rfl ?_
        refine g_iconst (v := 0) d_X10_tick_137 kI_0 ?_
        refine g_S2 d_X10_tick_138 cs_X10_tick_X10_has lk_RX10_149 im_X10_has (Nat.le_of_ble_eq_true rfl) ⟨rfl, rfl⟩ ⟨Nat.zero_le _, Nat.zero_le _⟩ (ct_X10_has v1 (0 : Int32) I J19 ) (fun r138 S138 Ic26 Jc27 q138_24 => ?_)
        obtain ⟨rfl, rfl, rfl, r29, rfl, hz138⟩ := q138_24
        refine g_st (st' := [.int r29]) rfl ?_
        have J_169 : ∀ (w31 : Int64), (0 ≤ w31 ∧ w31 ≤ 500) → G m_X10_tick (rq m_X10_tick (fun r S' I' J' => S' = SHF ∧ (I = I' ∧ TG x.toNatClampNeg J J') ∧ r = none ∧ J' 79 (x.toNatClampNeg + 54) = J 79 (x.toNatClampNeg + 54) + 1)) 0 0 169 [some (.ref 78), some (.int x), some (.int open_), some (.int shelf), some (.int less), some (.long v1), none, some (.long v2), none, some (.long v17), none, some (.int w18), none, none, none, none, none] [.long w31] SHF I J19 := by
          intro w31 hse_169
          refine g_lstore (L' := [some (.ref 78), some (.int x), some (.int open_), some (.int shelf), some (.int less), some (.long v1), none, some (.long v2), none, some (.long v17), none, some (.int w18), some (.long w31), none, none, none, none]) d_X10_tick_169 (by decide) rfl ?_
          refine g_aload_n d_X10_tick_171 rfl ?_
          refine g_iload_n d_X10_tick_172 rfl ?_
          refine g_lload d_X10_tick_173 rfl ?_
          refine g_aload_n d_X10_tick_175 rfl ?_
          refine g_getR d_X10_tick_176 fq_RX10_17 rfl rfl ?_
          refine g_iconst (v := 1) d_X10_tick_179 kI_1 ?_
          refine g_iaload (N := 15) d_X10_tick_180 rfl kT_15 ⟨by decide, by decide⟩ kN_1 ?_
          refine g_i2l d_X10_tick_181 ?_
          refine g_lload d_X10_tick_182 rfl ?_
          refine g_ladd d_X10_tick_184 ?_
          refine g_iload_n d_X10_tick_185 rfl ?_
          have J_196 : ∀ (w32 : Int64), G m_X10_tick (rq m_X10_tick (fun r S' I' J' => S' = SHF ∧ (I = I' ∧ TG x.toNatClampNeg J J') ∧ r = none ∧ J' 79 (x.toNatClampNeg + 54) = J 79 (x.toNatClampNeg + 54) + 1)) 0 0 196 [some (.ref 78), some (.int x), some (.int open_), some (.int shelf), some (.int less), some (.long v1), none, some (.long v2), none, some (.long v17), none, some (.int w18), some (.long w31), none, none, none, none] [.long w32, .long ((Int32.toInt64 (I 81 1)) + w31), .long v17, .int x, .ref 78] SHF I J19 := by
            intro w32
            refine g_ladd d_X10_tick_196 ?_
            refine g_V3 d_X10_tick_197 cs_X10_tick_X10_findFlows lk_RX10_233 im_X10_findFlows se_X10_findFlows rfl rfl rfl (Nat.le_of_ble_eq_true rfl) ⟨rfl, rfl⟩ ⟨Nat.zero_le _, Nat.zero_le _⟩ (ct_X10_findFlows x v17 (((Int32.toInt64 (I 81 1)) + w31) + w32) I J19 hx (hK24.2.2) (hK24.bi hbi)) (fun r197 S197 Ic35 J33 q197_33 => ?_)
            obtain ⟨rfl, ⟨rfl, hc197_35⟩, rfl⟩ := q197_33
            refine g_st (st' := []) rfl ?_
            have hK38 : TK x.toNatClampNeg J J33 := hK24.tr hc197_35
            refine g_aload_n d_X10_tick_200 rfl ?_
            refine g_getR d_X10_tick_201 fq_RX10_7 rfl rfl ?_
            refine g_iload_n d_X10_tick_204 rfl ?_
            refine g_bipush (v := 66) d_X10_tick_205 kB_66 ?_
            refine g_iadd d_X10_tick_207 ?_
            refine g_laload (N := 320) d_X10_tick_208 rfl kT_320 (ixc hx (by decide)) (by rw [tnc hx (by decide), kN_66]) ?_
            refine g_lconst d_X10_tick_209 kL_1 ?_
            have J_225 : ∀ (w39 : Int64), G m_X10_tick (rq m_X10_tick (fun r S' I' J' => S' = SHF ∧ (I = I' ∧ TG x.toNatClampNeg J J') ∧ r = none ∧ J' 79 (x.toNatClampNeg + 54) = J 79 (x.toNatClampNeg + 54) + 1)) 0 0 225 [some (.ref 78), some (.int x), some (.int open_), some (.int shelf), some (.int less), some (.long v1), none, some (.long v2), none, some (.long v17), none, some (.int w18), some (.long w31), none, none, none, none] [.long w39] SHF I J33 := by
              intro w39
              refine g_lstore (L' := [some (.ref 78), some (.int x), some (.int open_), some (.int shelf), some (.int less), some (.long v1), none, some (.long v2), none, some (.long v17), none, some (.int w18), some (.long w31), none, some (.long w39), none, none]) d_X10_tick_225 (by decide) rfl ?_
              refine g_iconst (v := 0) d_X10_tick_227 kI_0 ?_
              refine g_istore (L' := [some (.ref 78), some (.int x), some (.int open_), some (.int shelf), some (.int less), some (.long v1), none, some (.long v2), none, some (.long v17), none, some (.int w18), some (.long w31), none, some (.long w39), none, some (.int (0 : Int32))]) d_X10_tick_228 (by decide) rfl ?_
              have K_230 : ∀ (nu : Nat) (x40 : Int32) (J41 : Jv), mU (12 : Int32) x40 = nu → (TK x.toNatClampNeg J J41) → ((0 : Int32) ≤ x40) → G m_X10_tick (rq m_X10_tick (fun r S' I' J' => S' = SHF ∧ (I = I' ∧ TG x.toNatClampNeg J J') ∧ r = none ∧ J' 79 (x.toNatClampNeg + 54) = J 79 (x.toNatClampNeg + 54) + 1)) 0 0 230 [some (.ref 78), some (.int x), some (.int open_), some (.int shelf), some (.int less), some (.long v1), none, some (.long v2), none, some (.long v17), none, some (.int w18), some (.long w31), none, some (.long w39), none, some (.int x40)] [] SHF I J41 := by
                intro nu
                induction nu using Nat.strongRecOn with
                | ind nu ih_230 =>
                  intro x40 J41 hmu_230 hK42 hl43
                  refine g_iload d_X10_tick_230 rfl ?_
                  refine g_bipush (v := 12) d_X10_tick_232 kB_12 ?_
                  refine g_icmp_ge d_X10_tick_234 (fun h234 => ?_) (fun h234 => ?_)
                  · skip
                    refine g_iload d_X10_tick_262 rfl ?_
                    have J_332 : ∀ (J44 : Jv), (TK x.toNatClampNeg J J44) → G m_X10_tick (rq m_X10_tick (fun r S' I' J' => S' = SHF ∧ (I = I' ∧ TG x.toNatClampNeg J J') ∧ r = none ∧ J' 79 (x.toNatClampNeg + 54) = J 79 (x.toNatClampNeg + 54) + 1)) 0 0 332 [some (.ref 78), some (.int x), some (.int open_), some (.int shelf), some (.int less), some (.long v1), none, some (.long v2), none, some (.long v17), none, some (.int w18), some (.long w31), none, some (.long w39), none, some (.int x40)] [] SHF I J44 := by
                      intro J44 hK45
                      refine g_aload_n d_X10_tick_332 rfl ?_
                      refine g_getR d_X10_tick_333 fq_RX10_7 rfl rfl ?_
                      refine g_iload_n d_X10_tick_336 rfl ?_
                      refine g_iconst (v := 3) d_X10_tick_337 kI_3 ?_
                      refine g_iadd d_X10_tick_338 ?_
                      refine g_dup2 d_X10_tick_339 rfl rfl ?_
                      refine g_laload (N := 320) d_X10_tick_340 rfl kT_320 (ixc hx (by decide)) (by rw [tnc hx (by decide), kN_3]) ?_
                      refine g_lload d_X10_tick_341 rfl ?_
                      refine g_lsub d_X10_tick_343 ?_
                      refine g_lastore (N := 320) d_X10_tick_344 rfl kT_320 (ixc hx (by decide)) (by rw [tnc hx (by decide), kN_3])  ?_
                      refine g_nmJ (fun J46 eJ46 => ?_)
                      have hK47 : TK x.toNatClampNeg J J46 := (by rw [eJ46]; exact tk_w hK45 (by unfold KP; omega) (fun hh => absurd hh (by omega)))
                      refine g_aload_n d_X10_tick_345 rfl ?_
                      refine g_getR d_X10_tick_346 fq_RX10_7 rfl rfl ?_
                      refine g_iload_n d_X10_tick_349 rfl ?_
                      refine g_bipush (v := 58) d_X10_tick_350 kB_58 ?_
                      refine g_iadd d_X10_tick_352 ?_
                      refine g_dup2 d_X10_tick_353 rfl rfl ?_
                      refine g_laload (N := 320) d_X10_tick_354 rfl kT_320 (ixc hx (by decide)) (by rw [tnc hx (by decide), kN_58]) ?_
                      refine g_lload d_X10_tick_355 rfl ?_
                      refine g_ladd d_X10_tick_357 ?_
                      refine g_lastore (N := 320) d_X10_tick_358 rfl kT_320 (ixc hx (by decide)) (by rw [tnc hx (by decide), kN_58])  ?_
                      refine g_nmJ (fun J48 eJ48 => ?_)
                      have hK49 : TK x.toNatClampNeg J J48 := (by rw [eJ48]; exact tk_w hK47 (by unfold KP; omega) (fun hh => absurd hh (by omega)))
                      refine g_aload_n d_X10_tick_359 rfl ?_
                      refine g_getR d_X10_tick_360 fq_RX10_7 rfl rfl ?_
                      refine g_iload_n d_X10_tick_363 rfl ?_
                      refine g_bipush (v := 63) d_X10_tick_364 kB_63 ?_
                      refine g_iadd d_X10_tick_366 ?_
                      refine g_dup2 d_X10_tick_367 rfl rfl ?_
                      refine g_laload (N := 320) d_X10_tick_368 rfl kT_320 (ixc hx (by decide)) (by rw [tnc hx (by decide), kN_63]) ?_
                      refine g_aload_n d_X10_tick_369 rfl ?_
                      refine g_getR d_X10_tick_370 fq_RX10_7 rfl rfl ?_
                      refine g_iload_n d_X10_tick_373 rfl ?_
                      refine g_bipush (v := 66) d_X10_tick_374 kB_66 ?_
                      refine g_iadd d_X10_tick_376 ?_
                      refine g_laload (N := 320) d_X10_tick_377 rfl kT_320 (ixc hx (by decide)) (by rw [tnc hx (by decide), kN_66]) ?_
                      refine g_lconst d_X10_tick_378 kL_1 ?_
                      have J_395 : ∀ (w50 : Int64), G m_X10_tick (rq m_X10_tick (fun r S' I' J' => S' = SHF ∧ (I = I' ∧ TG x.toNatClampNeg J J') ∧ r = none ∧ J' 79 (x.toNatClampNeg + 54) = J 79 (x.toNatClampNeg + 54) + 1)) 0 0 395 [some (.ref 78), some (.int x), some (.int open_), some (.int shelf), some (.int less), some (.long v1), none, some (.long v2), none, some (.long v17), none, some (.int w18), some (.long w31), none, some (.long w39), none, some (.int x40)] [.long w50, .long (J48 79 (x.toNatClampNeg + 63)), .int (x + (63 : Int32)), .ref 79] SHF I J48 := by
                        intro w50
                        refine g_ladd d_X10_tick_395 ?_
                        refine g_lastore (N := 320) d_X10_tick_396 rfl kT_320 (ixc hx (by decide)) (by rw [tnc hx (by decide), kN_63])  ?_
                        refine g_nmJ (fun J51 eJ51 => ?_)
                        have hK52 : TK x.toNatClampNeg J J51 := (by rw [eJ51]; exact tk_w hK49 (by unfold KP; omega) (fun hh => absurd hh (by omega)))
                        refine g_aload_n d_X10_tick_397 rfl ?_
                        refine g_iload_n d_X10_tick_398 rfl ?_
                        refine g_lload d_X10_tick_399 rfl ?_
                        refine g_iload_n d_X10_tick_401 rfl ?_
                        have J_412 : ∀ (w53 : Int64), (0 ≤ w53 ∧ w53 ≤ 20) → G m_X10_tick (rq m_X10_tick (fun r S' I' J' => S' = SHF ∧ (I = I' ∧ TG x.toNatClampNeg J J') ∧ r = none ∧ J' 79 (x.toNatClampNeg + 54) = J 79 (x.toNatClampNeg + 54) + 1)) 0 0 412 [some (.ref 78), some (.int x), some (.int open_), some (.int shelf), some (.int less), some (.long v1), none, some (.long v2), none, some (.long v17), none, some (.int w18), some (.long w31), none, some (.long w39), none, some (.int x40)] [.long w53, .long w31, .int x, .ref 78] SHF I J51 := by
                          intro w53 hse2_412
                          refine g_ladd d_X10_tick_412 ?_
                          refine g_V2 d_X10_tick_413 cs_X10_tick_X10_wet lk_RX10_243 im_X10_wet se_X10_wet rfl rfl rfl (Nat.le_of_ble_eq_true rfl) ⟨rfl, rfl⟩ ⟨Nat.zero_le _, Nat.zero_le _⟩ (ct_X10_wet x (w31 + w53) I J51 hx (hK52.2.2) (by grind)) (fun r413 S413 Ic56 J54 q413_54 => ?_)
                          obtain ⟨rfl, ⟨rfl, hc413_56⟩, rfl⟩ := q413_54
                          refine g_st (st' := []) rfl ?_
                          have hK59 : TK x.toNatClampNeg J J54 := hK52.tr hc413_56
                          refine g_aload_n d_X10_tick_416 rfl ?_
                          refine g_getR d_X10_tick_417 fq_RX10_7 rfl rfl ?_
                          refine g_iload_n d_X10_tick_420 rfl ?_
                          refine g_bipush (v := 54) d_X10_tick_421 kB_54 ?_
                          refine g_iadd d_X10_tick_423 ?_
                          refine g_dup2 d_X10_tick_424 rfl rfl ?_
                          refine g_laload (N := 320) d_X10_tick_425 rfl kT_320 (ixc hx (by decide)) (by rw [tnc hx (by decide), kN_54]) ?_
                          refine g_lconst d_X10_tick_426 kL_1 ?_
                          refine g_ladd d_X10_tick_427 ?_
                          refine g_lastore (N := 320) d_X10_tick_428 rfl kT_320 (ixc hx (by decide)) (by rw [tnc hx (by decide), kN_54])  ?_
                          refine g_nmJ (fun J60 eJ60 => ?_)
                          have hK61 : TG x.toNatClampNeg J J60 := (by rw [eJ60]; exact tg_w (hK59).tg (by unfold KG; omega) (by omega))
                          have htk : J60 79 (x.toNatClampNeg + 54) = J 79 (x.toNatClampNeg + 54) + 1 := by rw [eJ60, wJ_self, (hK59).tick]
                          exact g_return d_X10_tick_429 rfl rfl rfl ⟨rfl, ⟨rfl, hK61⟩, rfl, htk⟩
                        refine g_if_eq d_X10_tick_402 (fun h402 => ?_) (fun h402 => ?_)
                        · skip
                          refine g_lconst d_X10_tick_411 kL_0 ?_
                          exact J_412 ((0 : Int64)) (by grind)
                        · skip
                          refine g_ldc2 (v := 20) d_X10_tick_405 tw_1343 ?_
                          refine g_goto d_X10_tick_408 ?_
                          exact J_412 ((20 : Int64)) (by grind)
                      refine g_lcmp_ne d_X10_tick_379 d_X10_tick_380 (fun h380 => ?_) (fun h380 => ?_)
                      · skip
                        refine g_lconst d_X10_tick_394 kL_0 ?_
                        exact J_395 ((0 : Int64))
                      · skip
                        refine g_aload_n d_X10_tick_383 rfl ?_
                        refine g_getR d_X10_tick_384 fq_RX10_17 rfl rfl ?_
                        refine g_bipush (v := 9) d_X10_tick_387 kB_9 ?_
                        refine g_iaload (N := 15) d_X10_tick_389 rfl kT_15 ⟨by decide, by decide⟩ kN_9 ?_
                        refine g_i2l d_X10_tick_390 ?_
                        refine g_goto d_X10_tick_391 ?_
                        exact J_395 ((Int32.toInt64 (I 81 9)))
                    refine g_if_eq d_X10_tick_264 (fun h264 => ?_) (fun h264 => ?_)
                    · skip
                      exact J_332 J41 hK42
                    · skip
                      refine g_aload_n d_X10_tick_267 rfl ?_
                      refine g_getR d_X10_tick_268 fq_RX10_7 rfl rfl ?_
                      refine g_iload_n d_X10_tick_271 rfl ?_
                      refine g_dup2 d_X10_tick_272 rfl rfl ?_
                      refine g_laload (N := 320) d_X10_tick_273 rfl kT_320 (by constructor <;> grind) rfl ?_
                      refine g_ldc2 (v := 5) d_X10_tick_274 tw_1399 ?_
                      refine g_aload_n d_X10_tick_277 rfl ?_
                      refine g_getR d_X10_tick_278 fq_RX10_17 rfl rfl ?_
                      refine g_bipush (v := 10) d_X10_tick_281 kB_10 ?_
                      refine g_iaload (N := 15) d_X10_tick_283 rfl kT_15 ⟨by decide, by decide⟩ kN_10 ?_
                      refine g_i2l d_X10_tick_284 ?_
                      refine g_lmul d_X10_tick_285 ?_
                      refine g_ladd d_X10_tick_286 ?_
                      refine g_lastore (N := 320) d_X10_tick_287 rfl kT_320 (by constructor <;> grind) rfl  ?_
                      refine g_nmJ (fun J62 eJ62 => ?_)
                      have hK63 : TK x.toNatClampNeg J J62 := (by rw [eJ62]; exact tk_w hK42 (by unfold KP; omega) (fun hh => absurd hh (by omega)))
                      refine g_aload_n d_X10_tick_288 rfl ?_
                      refine g_getR d_X10_tick_289 fq_RX10_7 rfl rfl ?_
                      refine g_iload_n d_X10_tick_292 rfl ?_
                      refine g_bipush (v := 57) d_X10_tick_293 kB_57 ?_
                      refine g_iadd d_X10_tick_295 ?_
                      refine g_dup2 d_X10_tick_296 rfl rfl ?_
                      refine g_laload (N := 320) d_X10_tick_297 rfl kT_320 (ixc hx (by decide)) (by rw [tnc hx (by decide), kN_57]) ?_
                      refine g_ldc2 (v := 5) d_X10_tick_298 tw_1399 ?_
                      refine g_aload_n d_X10_tick_301 rfl ?_
                      refine g_getR d_X10_tick_302 fq_RX10_17 rfl rfl ?_
                      refine g_bipush (v := 10) d_X10_tick_305 kB_10 ?_
                      refine g_iaload (N := 15) d_X10_tick_307 rfl kT_15 ⟨by decide, by decide⟩ kN_10 ?_
                      refine g_i2l d_X10_tick_308 ?_
                      refine g_lmul d_X10_tick_309 ?_
                      refine g_ladd d_X10_tick_310 ?_
                      refine g_lastore (N := 320) d_X10_tick_311 rfl kT_320 (ixc hx (by decide)) (by rw [tnc hx (by decide), kN_57])  ?_
                      refine g_nmJ (fun J64 eJ64 => ?_)
                      have hK65 : TK x.toNatClampNeg J J64 := (by rw [eJ64]; exact tk_w hK63 (by unfold KP; omega) (fun hh => absurd hh (by omega)))
                      refine g_aload_n d_X10_tick_312 rfl ?_
                      refine g_getR d_X10_tick_313 fq_RX10_7 rfl rfl ?_
                      refine g_iload_n d_X10_tick_316 rfl ?_
                      refine g_bipush (v := 63) d_X10_tick_317 kB_63 ?_
                      refine g_iadd d_X10_tick_319 ?_
                      refine g_dup2 d_X10_tick_320 rfl rfl ?_
                      refine g_laload (N := 320) d_X10_tick_321 rfl kT_320 (ixc hx (by decide)) (by rw [tnc hx (by decide), kN_63]) ?_
                      refine g_aload_n d_X10_tick_322 rfl ?_
                      refine g_getR d_X10_tick_323 fq_RX10_17 rfl rfl ?_
                      refine g_bipush (v := 10) d_X10_tick_326 kB_10 ?_
                      refine g_iaload (N := 15) d_X10_tick_328 rfl kT_15 ⟨by decide, by decide⟩ kN_10 ?_
                      refine g_i2l d_X10_tick_329 ?_
                      refine g_ladd d_X10_tick_330 ?_
                      refine g_lastore (N := 320) d_X10_tick_331 rfl kT_320 (ixc hx (by decide)) (by rw [tnc hx (by decide), kN_63])  ?_
                      refine g_nmJ (fun J66 eJ66 => ?_)
                      have hK67 : TK x.toNatClampNeg J J66 := (by rw [eJ66]; exact tk_w hK65 (by unfold KP; omega) (fun hh => absurd hh (by omega)))
                      exact J_332 J66 hK67
                  · skip
                    have hkn : x40.toNatClampNeg < 12 := by have q := tn_lt (n := 12) hl43 h234; rwa [kN_12] at q
                    refine g_aload_n d_X10_tick_237 rfl ?_
                    refine g_getR d_X10_tick_238 fq_RX10_7 rfl rfl ?_
                    refine g_iload_n d_X10_tick_241 rfl ?_
                    refine g_iload d_X10_tick_242 rfl ?_
                    refine g_iadd d_X10_tick_244 ?_
                    refine g_dup2 d_X10_tick_245 rfl rfl ?_
                    refine g_laload (N := 320) d_X10_tick_246 rfl kT_320 (ixc hx (by constructor <;> grind)) (tnc hx (by constructor <;> grind)) ?_
                    refine g_aload_n d_X10_tick_247 rfl ?_
                    refine g_getR d_X10_tick_248 fq_RX10_43 rfl rfl ?_
                    refine g_iload d_X10_tick_251 rfl ?_
                    refine g_laload (N := 12) d_X10_tick_253 rfl kT_12 ⟨hl43, Int32.not_le.mp h234⟩ rfl ?_
                    refine g_ladd d_X10_tick_254 ?_
                    refine g_lastore (N := 320) d_X10_tick_255 rfl kT_320 (ixc hx (by constructor <;> grind)) (tnc hx (by constructor <;> grind))  ?_
                    refine g_nmJ (fun J68 eJ68 => ?_)
                    have hK69 : TK x.toNatClampNeg J J68 := (by rw [eJ68]; exact tk_w hK42 (by unfold KP; omega) (fun hh => absurd hh (by omega)))
                    refine g_iinc (v := (x40 + (1 : Int32))) (L' := [some (.ref 78), some (.int x), some (.int open_), some (.int shelf), some (.int less), some (.long v1), none, some (.long v2), none, some (.long v17), none, some (.int w18), some (.long w31), none, some (.long w39), none, some (.int (x40 + (1 : Int32)))]) d_X10_tick_256 rfl (by rw [kI_1]) (by decide) rfl ?_
                    refine g_goto d_X10_tick_259 ?_
                    exact ih_230 _ (by rw [← hmu_230]; exact mu_up h234) (x40 + (1 : Int32)) J68 rfl hK69 (lo_up hl43 h234)
              exact K_230 _ (0 : Int32) J33 rfl hK38 (Int32.le_refl _)
            refine g_lcmp_ne d_X10_tick_210 d_X10_tick_211 (fun h211 => ?_) (fun h211 => ?_)
            · skip
              refine g_lconst d_X10_tick_224 kL_0 ?_
              exact J_225 ((0 : Int64))
            · skip
              refine g_aload_n d_X10_tick_214 rfl ?_
              refine g_iload_n d_X10_tick_215 rfl ?_
              refine g_lload d_X10_tick_216 rfl ?_
              refine g_V2 d_X10_tick_218 cs_X10_tick_X10_moves lk_RX10_237 im_X10_moves se_X10_moves rfl rfl rfl (Nat.le_of_ble_eq_true rfl) ⟨rfl, rfl⟩ ⟨Nat.zero_le _, Nat.zero_le _⟩ (ct_X10_moves x v17 I J33 hx) (fun r218 S218 Ic71 Jc72 q218_69 => ?_)
              obtain ⟨rfl, rfl, rfl, r74, rfl⟩ := q218_69
              refine g_st (st' := [.long r74]) rfl ?_
              refine g_goto d_X10_tick_221 ?_
              exact J_225 r74
          refine g_if_eq d_X10_tick_186 (fun h186 => ?_) (fun h186 => ?_)
          · skip
            refine g_lconst d_X10_tick_195 kL_0 ?_
            exact J_196 ((0 : Int64))
          · skip
            refine g_ldc2 (v := 60) d_X10_tick_189 tw_1386 ?_
            refine g_goto d_X10_tick_192 ?_
            exact J_196 ((60 : Int64))
        refine g_if_eq d_X10_tick_141 (fun h141 => ?_) (fun h141 => ?_)
        · skip
          refine g_aload_n d_X10_tick_162 rfl ?_
          refine g_getR d_X10_tick_163 fq_RX10_17 rfl rfl ?_
          refine g_iconst (v := 2) d_X10_tick_166 kI_2 ?_
          refine g_iaload (N := 15) d_X10_tick_167 rfl kT_15 ⟨by decide, by decide⟩ kN_2 ?_
          refine g_i2l d_X10_tick_168 ?_
          exact J_169 ((Int32.toInt64 (I 81 2))) (by grind)
        · skip
          refine g_ldc2 (v := 4) d_X10_tick_144 tw_1385 ?_
          refine g_aload_n d_X10_tick_147 rfl ?_
          refine g_getR d_X10_tick_148 fq_RX10_17 rfl rfl ?_
          refine g_iconst (v := 2) d_X10_tick_151 kI_2 ?_
          refine g_iaload (N := 15) d_X10_tick_152 rfl kT_15 ⟨by decide, by decide⟩ kN_2 ?_
          refine g_i2l d_X10_tick_153 ?_
          refine g_lmul d_X10_tick_154 ?_
          refine g_ldc2 (v := 12) d_X10_tick_155 tw_1379 ?_
          refine g_ladd d_X10_tick_158 ?_
          refine g_goto d_X10_tick_159 ?_
          exact J_169 ((((4 : Int64) * (Int32.toInt64 (I 81 2))) + (12 : Int64))) (by grind)
      have J_124 : G m_X10_tick (rq m_X10_tick (fun r S' I' J' => S' = SHF ∧ (I = I' ∧ TG x.toNatClampNeg J J') ∧ r = none ∧ J' 79 (x.toNatClampNeg + 54) = J 79 (x.toNatClampNeg + 54) + 1)) 0 0 124 [some (.ref 78), some (.int x), some (.int open_), some (.int shelf), some (.int less), some (.long v1), none, some (.long v2), none, some (.long v17), none, none, none, none, none, none, none] [] SHF I J := by
        skip
        refine g_iconst (v := 0) d_X10_tick_124 kI_0 ?_
        exact J_125 ((0 : Int32)) (Or.inl rfl)
      have J_106 : G m_X10_tick (rq m_X10_tick (fun r S' I' J' => S' = SHF ∧ (I = I' ∧ TG x.toNatClampNeg J J') ∧ r = none ∧ J' 79 (x.toNatClampNeg + 54) = J 79 (x.toNatClampNeg + 54) + 1)) 0 0 106 [some (.ref 78), some (.int x), some (.int open_), some (.int shelf), some (.int less), some (.long v1), none, some (.long v2), none, some (.long v17), none, none, none, none, none, none, none] [] SHF I J := by
        skip
        refine g_aload_n d_X10_tick_106 rfl ?_
        refine g_getR d_X10_tick_107 fq_RX10_7 rfl rfl ?_
        refine g_iload_n d_X10_tick_110 rfl ?_
        refine g_bipush (v := 69) d_X10_tick_111 kB_69 ?_
        refine g_iadd d_X10_tick_113 ?_
        refine g_laload (N := 320) d_X10_tick_114 rfl kT_320 (ixc hx (by decide)) (by rw [tnc hx (by decide), kN_69]) ?_
        refine g_lconst d_X10_tick_115 kL_1 ?_
        refine g_lcmp_ne d_X10_tick_116 d_X10_tick_117 (fun h117 => ?_) (fun h117 => ?_)
        · skip
          exact J_124
        · skip
          refine g_iconst (v := 1) d_X10_tick_120 kI_1 ?_
          refine g_goto d_X10_tick_121 ?_
          exact J_125 ((1 : Int32)) (Or.inr rfl)
      refine g_if_ne d_X10_tick_94 (fun h94 => ?_) (fun h94 => ?_)
      · skip
        exact J_106
      · skip
        refine g_lload d_X10_tick_97 rfl ?_
        refine g_iconst (v := 5) d_X10_tick_99 kI_5 ?_
        refine g_S2 d_X10_tick_100 cs_X10_tick_X10_has lk_RX10_149 im_X10_has (Nat.le_of_ble_eq_true rfl) ⟨rfl, rfl⟩ ⟨Nat.zero_le _, Nat.zero_le _⟩ (ct_X10_has v1 (5 : Int32) I J ) (fun r100 S100 Ic77 Jc78 q100_75 => ?_)
        obtain ⟨rfl, rfl, rfl, r80, rfl, hz100⟩ := q100_75
        refine g_st (st' := [.int r80]) rfl ?_
        refine g_if_eq d_X10_tick_103 (fun h103 => ?_) (fun h103 => ?_)
        · skip
          exact J_124
        · skip
          exact J_106
    refine g_if_eq d_X10_tick_80 (fun h80 => ?_) (fun h80 => ?_)
    · skip
      refine g_lconst d_X10_tick_89 kL_0 ?_
      exact J_90 ((0 : Int64))
    · skip
      refine g_ldc2 (v := 800) d_X10_tick_83 tw_1380 ?_
      refine g_goto d_X10_tick_86 ?_
      exact J_90 ((800 : Int64))
  refine g_if_eq d_X10_tick_53 (fun h53 => ?_) (fun h53 => ?_)
  · skip
    refine g_lconst d_X10_tick_71 kL_0 ?_
    exact J_72 ((0 : Int64))
  · skip
    refine g_ldc2 (v := 10) d_X10_tick_56 tw_1375 ?_
    refine g_aload_n d_X10_tick_59 rfl ?_
    refine g_getR d_X10_tick_60 fq_RX10_17 rfl rfl ?_
    refine g_bipush (v := 14) d_X10_tick_63 kB_14 ?_
    refine g_iaload (N := 15) d_X10_tick_65 rfl kT_15 ⟨by decide, by decide⟩ kN_14 ?_
    refine g_i2l d_X10_tick_66 ?_
    refine g_lmul d_X10_tick_67 ?_
    refine g_goto d_X10_tick_68 ?_
    exact J_72 (((10 : Int64) * (Int32.toInt64 (I 81 14))))
set_option maxRecDepth 100000 in
set_option maxHeartbeats 4000000 in
theorem ct_X10_go (x : Int32) (n : Int32) (I : Iv) (J : Jv) (hx : HX x) (hfu : FU x.toNatClampNeg J) (hbi : BI x.toNatClampNeg J) (hop2 : 0 ≤ I 78 5 ∧ I 78 5 ≤ 12) (hn : 0 ≤ n) (hb8 : 0 ≤ I 81 8 ∧ I 81 8 ≤ 2) (hb2 : 0 ≤ I 81 2 ∧ I 81 2 ≤ 99) : Ct m_X10_go [.ref 78, .int x, .int n] SHF I J (fun r S' I' J' => S' = SHF ∧ (I = I' ∧ TG x.toNatClampNeg J J') ∧ r = none ∧ J' 79 (x.toNatClampNeg + 54) = J 79 (x.toNatClampNeg + 54) + n.toInt64) := by
  refine ct_of 1 (by decide +kernel) rfl rfl ?_
  have hK0 : TG x.toNatClampNeg J J := (tg_rfl hfu)
  refine g_iconst (v := 0) d_X10_go_0 kI_0 ?_
  refine g_istore_n (L' := [some (.ref 78), some (.int x), some (.int n), some (.int (0 : Int32))]) d_X10_go_1 (by decide) rfl ?_
  have K_2 : ∀ (nu : Nat) (x1 : Int32) (J2 : Jv), mU n x1 = nu → (TG x.toNatClampNeg J J2) → ((0 : Int32) ≤ x1) → (J2 79 (x.toNatClampNeg + 54) = J 79 (x.toNatClampNeg + 54) + Int32.toInt64 x1) → (x1 ≤ n) → G m_X10_go (rq m_X10_go (fun r S' I' J' => S' = SHF ∧ (I = I' ∧ TG x.toNatClampNeg J J') ∧ r = none ∧ J' 79 (x.toNatClampNeg + 54) = J 79 (x.toNatClampNeg + 54) + n.toInt64)) 0 0 2 [some (.ref 78), some (.int x), some (.int n), some (.int x1)] [] SHF I J2 := by
    intro nu
    induction nu using Nat.strongRecOn with
    | ind nu ih_2 =>
      intro x1 J2 hmu_2 hK3 hl4 htk_2 htn_2
      refine g_iload_n d_X10_go_2 rfl ?_
      refine g_iload_n d_X10_go_3 rfl ?_
      refine g_icmp_ge d_X10_go_4 (fun h4 => ?_) (fun h4 => ?_)
      · skip
        exact g_return d_X10_go_39 rfl rfl rfl ⟨rfl, ⟨rfl, hK3⟩, rfl, (by rw [show n = x1 by grind]; exact htk_2)⟩
      · skip
        refine g_aload_n d_X10_go_7 rfl ?_
        refine g_iload_n d_X10_go_8 rfl ?_
        refine g_aload_n d_X10_go_9 rfl ?_
        refine g_aload_n d_X10_go_10 rfl ?_
        refine g_getR d_X10_go_11 fq_RX10_7 rfl rfl ?_
        refine g_iload_n d_X10_go_14 rfl ?_
        refine g_bipush (v := 54) d_X10_go_15 kB_54 ?_
        refine g_iadd d_X10_go_17 ?_
        refine g_laload (N := 320) d_X10_go_18 rfl kT_320 (ixc hx (by decide)) (by rw [tnc hx (by decide), kN_54]) ?_
        refine g_V1 d_X10_go_19 cs_X10_go_X10_isOpen lk_RX10_247 im_X10_isOpen se_X10_isOpen rfl rfl rfl (Nat.le_of_ble_eq_true rfl) ⟨rfl, rfl⟩ ⟨Nat.zero_le _, Nat.zero_le _⟩ (ct_X10_isOpen (J2 79 (x.toNatClampNeg + 54)) I J2 hop2) (fun r19 S19 Ic6 Jc7 q19_4 => ?_)
        obtain ⟨rfl, rfl, rfl, r9, rfl, hz19⟩ := q19_4
        refine g_st (st' := [.int r9, .int x, .ref 78]) rfl ?_
        refine g_aload_n d_X10_go_22 rfl ?_
        refine g_getR d_X10_go_23 fq_RX10_17 rfl rfl ?_
        refine g_bipush (v := 8) d_X10_go_26 kB_8 ?_
        refine g_iaload (N := 15) d_X10_go_28 rfl kT_15 ⟨by decide, by decide⟩ kN_8 ?_
        refine g_iconst (v := 0) d_X10_go_29 kI_0 ?_
        refine g_V4 d_X10_go_30 cs_X10_go_X10_tick lk_RX10_251 im_X10_tick se_X10_tick rfl rfl rfl (Nat.le_of_ble_eq_true rfl) ⟨rfl, rfl⟩ ⟨Nat.zero_le _, Nat.zero_le _⟩ (ct_X10_tick x r9 (I 81 8) (0 : Int32) I J2 hx (hK3.2.2) (hK3.bi hbi) (by grind) hb2) (fun r30 S30 Ic13 J11 q30_11 => ?_)
        obtain ⟨rfl, ⟨rfl, hc30_13⟩, rfl, hr30_14⟩ := q30_11
        refine g_st (st' := []) rfl ?_
        have hK16 : TG x.toNatClampNeg J J11 := hK3.tr hc30_13
        refine g_iinc (v := (x1 + (1 : Int32))) (L' := [some (.ref 78), some (.int x), some (.int n), some (.int (x1 + (1 : Int32)))]) d_X10_go_33 rfl (by rw [kI_1]) (by decide) rfl ?_
        refine g_goto d_X10_go_36 ?_
        exact ih_2 _ (by rw [← hmu_2]; exact mu_up h4) (x1 + (1 : Int32)) J11 rfl hK16 (lo_up hl4 h4) (by rw [i2l_up h4]; grind) (by grind)
  exact K_2 _ (0 : Int32) J rfl hK0 (Int32.le_refl _) (by simp) hn
