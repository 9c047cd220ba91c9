set_option maxRecDepth 100000 in
set_option maxHeartbeats 4000000 in
theorem ct_X10_feed (n : Int32) (bytes : Int64) (I : Iv) (J : Jv) (hma : MA I) (hmj : MJ J) : Ct m_X10_feed [.ref 78, .int n, .long bytes] SHF I J (fun r S' I' J' => S' = SHF ∧ True ∧ ∃ v : Int32, r = some (.int v) ∧ ((¬ (1 ≤ n ∧ n ≤ 8) ∧ v = -1000000002 ∧ MI I I') ∨ (1 ≤ n ∧ n ≤ 8 ∧ ¬ I 78 11 + n ≤ 300 ∧ v = -1000000004 ∧ MI I I') ∨ (1 ≤ n ∧ n ≤ 8 ∧ I 78 11 + n ≤ 300 ∧ v = I 78 11 + n ∧ MI (wI I 78 11 (I 78 11 + n)) I')) ∧ MK J J') := by
  refine ct_of 1 (by decide +kernel) rfl rfl ?_
  have hma0 : MI I I := mi_rfl hma
  have hK0 : (MI (wI I 78 11 (I 78 11)) I ∧ MK J J) := ⟨by rw [wI_own]; exact mi_rfl hma, mk_rfl hmj⟩
  refine g_iload_n d_X10_feed_0 rfl ?_
  refine g_i2l d_X10_feed_1 ?_
  have hsz := hma.1
  refine g_lconst d_X10_feed_2 kL_1 ?_
  refine g_ldc2 (v := 8) d_X10_feed_3 tw_1195 ?_
  refine g_S3 d_X10_feed_6 cs_X10_feed_X10_in lk_RX10_96 im_X10_in (Nat.le_of_ble_eq_true rfl) ⟨rfl, rfl⟩ ⟨Nat.zero_le _, Nat.zero_le _⟩ (ct_X10_inL n (1 : Int64) (8 : Int64) (1 : Int32) (8 : Int32) (by decide) (by decide) I J) (fun r6 S6 Ic2 Jc3 q6_0 => ?_)
  obtain ⟨rfl, rfl, rfl, r5, rfl, hz6, hr6_5⟩ := q6_0
  refine g_st (st' := [.int r5]) rfl ?_
  refine g_if_ne d_X10_feed_9 (fun h9 => ?_) (fun h9 => ?_)
  · skip
    refine g_aload_n d_X10_feed_15 rfl ?_
    refine g_getI d_X10_feed_16 fq_RX10_101 rfl rfl ?_
    refine g_iload_n d_X10_feed_19 rfl ?_
    refine g_iadd d_X10_feed_20 ?_
    refine g_sipush (v := 300) d_X10_feed_21 kS_300 ?_
    refine g_icmp_le d_X10_feed_24 (fun h24 => ?_) (fun h24 => ?_)
    · skip
      refine g_iload_n d_X10_feed_30 rfl ?_
      refine g_iconst (v := 1) d_X10_feed_31 kI_1 ?_
      refine g_isub d_X10_feed_32 ?_
      refine g_topI (fun v7 ev7 => ?_)
      refine g_istore (L' := [some (.ref 78), some (.int n), some (.long bytes), none, some (.int v7)]) d_X10_feed_33 (by decide) rfl ?_
      have K_35 : ∀ (nu : Nat) (x8 : Int32) (I9 : Iv), mD x8 = nu → ((MI (wI I 78 11 (I9 78 11)) I9 ∧ MK J J)) → (x8 ≤ v7) → (I9 78 11 = I 78 11 + (n - 1 - x8)) → (-1 ≤ x8) → G m_X10_feed (rq m_X10_feed (fun r S' I' J' => S' = SHF ∧ True ∧ ∃ v : Int32, r = some (.int v) ∧ ((¬ (1 ≤ n ∧ n ≤ 8) ∧ v = -1000000002 ∧ MI I I') ∨ (1 ≤ n ∧ n ≤ 8 ∧ ¬ I 78 11 + n ≤ 300 ∧ v = -1000000004 ∧ MI I I') ∨ (1 ≤ n ∧ n ≤ 8 ∧ I 78 11 + n ≤ 300 ∧ v = I 78 11 + n ∧ MI (wI I 78 11 (I 78 11 + n)) I')) ∧ MK J J')) 0 0 35 [some (.ref 78), some (.int n), some (.long bytes), none, some (.int x8)] [] SHF I9 J := by
        intro nu
        induction nu using Nat.strongRecOn with
        | ind nu ih_35 =>
          intro x8 I9 hmu_35 hK10 hl11 hlen_35 hlo_35
          refine g_iload d_X10_feed_35 rfl ?_
          refine g_if_lt d_X10_feed_37 (fun h37 => ?_) (fun h37 => ?_)
          · skip
            refine g_aload_n d_X10_feed_77 rfl ?_
            refine g_getI d_X10_feed_78 fq_RX10_101 rfl rfl ?_
            exact g_ireturn d_X10_feed_81 rfl rfl rfl rfl ⟨rfl, trivial, (I9 78 11), rfl, ⟨Or.inr (Or.inr ⟨by grind, by grind, by grind, by grind, by rw [← show I9 78 11 = I 78 11 + n by grind]; exact (hK10).1⟩), (hK10).2⟩⟩
          · skip
            refine g_aload_n d_X10_feed_40 rfl ?_
            refine g_getR d_X10_feed_41 fq_RX10_36 rfl rfl ?_
            refine g_aload_n d_X10_feed_44 rfl ?_
            refine g_getI d_X10_feed_45 fq_RX10_101 rfl rfl ?_
            refine g_lload_n d_X10_feed_48 rfl ?_
            refine g_bipush (v := 8) d_X10_feed_49 kB_8 ?_
            refine g_iload d_X10_feed_51 rfl ?_
            refine g_imul d_X10_feed_53 ?_
            refine g_lshr d_X10_feed_54 ?_
            refine g_ldc2 (v := 255) d_X10_feed_55 tw_1201 ?_
            refine g_land d_X10_feed_58 ?_
            refine g_l2i d_X10_feed_59 ?_
            refine g_iastore (N := 300) d_X10_feed_60 rfl kT_300 (by constructor <;> grind) rfl  ?_
            refine g_nmI (fun I12 eI12 => ?_)
            have hK13 : (MI (wI I 78 11 (I12 78 11)) I12 ∧ MK J J) := (by rw [eI12]; exact ⟨by rw [wI_ne (Or.inl (by decide))]; exact mi_free (hK10).1 rfl, (hK10).2⟩)
            have hl60 : I12 78 11 = I9 78 11 := by rw [eI12, wI_ne (Or.inl (by decide))]
            refine g_aload_n d_X10_feed_61 rfl ?_
            refine g_dup d_X10_feed_62 rfl ?_
            refine g_getI d_X10_feed_63 fq_RX10_101 rfl rfl ?_
            refine g_iconst (v := 1) d_X10_feed_66 kI_1 ?_
            refine g_iadd d_X10_feed_67 ?_
            refine g_putI d_X10_feed_68 fq_RX10_101 rfl rfl ?_
            refine g_nmI (fun I14 eI14 => ?_)
            have hK15 : (MI (wI I 78 11 (I14 78 11)) I14 ∧ MK J J) := (by rw [eI14, wI_self]; exact ⟨mi_feed (hK13).1 (by constructor <;> grind), (hK13).2⟩)
            have hl68 : I14 78 11 = I12 78 11 + 1 := by rw [eI14, wI_self]
            refine g_iinc (v := (x8 + (-1 : Int32))) (L' := [some (.ref 78), some (.int n), some (.long bytes), none, some (.int (x8 + (-1 : Int32)))]) d_X10_feed_71 rfl (by rw [kI_m1]) (by decide) rfl ?_
            refine g_goto d_X10_feed_74 ?_
            exact ih_35 _ (by rw [← hmu_35]; exact mu_dn h37) (x8 + (-1 : Int32)) I14 rfl hK15 (hi_dn hl11 h37) (by grind) (by grind)
      exact K_35 _ v7 I rfl hK0 (Int32.le_refl _) (by grind) (by grind)
    · skip
      refine g_ldc (v := -1000000004) d_X10_feed_27 tw_1200 ?_
      exact g_ireturn d_X10_feed_29 rfl rfl rfl rfl ⟨rfl, trivial, (-1000000004 : Int32), rfl, ⟨Or.inr (Or.inl ⟨by grind, by grind, by grind, rfl, hma0⟩), mk_rfl hmj⟩⟩
  · skip
    refine g_ldc (v := -1000000002) d_X10_feed_12 tw_1199 ?_
    exact g_ireturn d_X10_feed_14 rfl rfl rfl rfl ⟨rfl, trivial, (-1000000002 : Int32), rfl, ⟨Or.inl ⟨by grind, rfl, hma0⟩, mk_rfl hmj⟩⟩
set_option maxRecDepth 100000 in
set_option maxHeartbeats 4000000 in
theorem ct_X10_box  (I : Iv) (J : Jv) (hma : MA I) (hmj : MJ J) : Ct m_X10_box [.ref 78] SHF I J (fun r S' I' J' => S' = SHF ∧ True ∧ ∃ v : Int32, r = some (.int v) ∧ (MI (wI (bgI I) 78 11 0) I' ∧ (MK (bgJ I J) J' ∨ MK (wJ (bgJ I J) 79 54 0) J'))) := by
  refine ct_of 3 (by decide +kernel) rfl rfl ?_
  have hK0 : (MI I I ∧ MK J J) := ⟨mi_rfl hma, mk_rfl hmj⟩
  refine g_aload_n d_X10_box_0 rfl ?_
  refine g_V0 d_X10_box_1 cs_X10_box_X10_begin lk_RX10_166 im_X10_begin se_X10_begin rfl rfl rfl (Nat.le_of_ble_eq_true rfl) ⟨rfl, rfl⟩ ⟨Nat.zero_le _, Nat.zero_le _⟩ (ct_X10_begin  I J hma hmj) (fun r1 S1 I1 J2 q1_2 => ?_)
  obtain ⟨rfl, hc1_3, rfl, hr1_4⟩ := q1_2
  refine g_st (st' := []) rfl ?_
  have hK6 : (MI (bgI I) I1 ∧ MK (bgJ I J) J2) := hr1_4
  refine g_aload_n d_X10_box_4 rfl ?_
  have hpp := (hK6).1.2
  refine g_V0 d_X10_box_5 cs_X10_box_X10_beginReading lk_RX10_169 im_X10_beginReading se_X10_beginReading rfl rfl rfl (Nat.le_of_ble_eq_true rfl) ⟨rfl, rfl⟩ ⟨Nat.zero_le _, Nat.zero_le _⟩ (ct_X10_beginReading  I1 J2 ) (fun r5 S5 I7 Jc9 q5_7 => ?_)
  obtain ⟨rfl, ⟨rfl, hc5_9⟩, rfl⟩ := q5_7
  refine g_st (st' := []) rfl ?_
  have hK12 : (MI (bgI I) I7 ∧ MK (bgJ I J) J2) := ⟨mi_br (hK6).1 ⟨hc5_9.1, hc5_9.2.1⟩, (hK6).2⟩
  have hat5 : I7 78 12 = 0 ∧ I7 78 15 = 0 := (hc5_9).2.2
  have hpa5 := br_pa hpp (hc5_9).2.1 hat5.1
  refine g_aload_n d_X10_box_8 rfl ?_
  refine g_iconst (v := 0) d_X10_box_9 kI_0 ?_
  refine g_putI d_X10_box_10 fq_RX10_146 rfl rfl ?_
  refine g_nmI (fun I13 eI13 => ?_)
  have hK14 : (MI (bgI I) I13 ∧ MK (bgJ I J) J2) := (by rw [eI13]; exact ⟨mi_free (hK12).1 rfl, (hK12).2⟩)
  have hpa10 : PA I13 ∧ I13 78 15 = 0 := by rw [eI13]; exact ⟨pa_w hpa5 (by decide), by rw [wI_ne (by decide)]; exact hat5.2⟩
  refine g_iconst (v := 0) d_X10_box_13 kI_0 ?_
  refine g_istore_n (L' := [some (.ref 78), some (.int (0 : Int32)), none, none]) d_X10_box_14 (by decide) rfl ?_
  have K_15 : ∀ (nu : Nat) (x15 : Int32) (I16 : Iv), mU (15 : Int32) x15 = nu → ((MI (bgI I) I16 ∧ MK (bgJ I J) J2)) → ((0 : Int32) ≤ x15) → ((8 < x15 → I16 82 8 = 1) ∧ (2 < x15 → I16 82 2 = 3)) → (PA I16 ∧ I16 78 15 = 0) → G m_X10_box (rq m_X10_box (fun r S' I' J' => S' = SHF ∧ True ∧ ∃ v : Int32, r = some (.int v) ∧ (MI (wI (bgI I) 78 11 0) I' ∧ (MK (bgJ I J) J' ∨ MK (wJ (bgJ I J) 79 54 0) J')))) 0 0 15 [some (.ref 78), some (.int x15), none, none] [] SHF I16 J2 := by
    intro nu
    induction nu using Nat.strongRecOn with
    | ind nu ih_15 =>
      intro x15 I16 hmu_15 hK17 hl18 hb_15 hp_15
      refine g_iload_n d_X10_box_15 rfl ?_
      refine g_bipush (v := 15) d_X10_box_16 kB_15 ?_
      refine g_icmp_ge d_X10_box_18 (fun h18 => ?_) (fun h18 => ?_)
      · skip
        refine g_iconst (v := 0) d_X10_box_37 kI_0 ?_
        refine g_istore_n (L' := [some (.ref 78), some (.int (0 : Int32)), none, none]) d_X10_box_38 (by decide) rfl ?_
        have K_39 : ∀ (nu : Nat) (x19 : Int32) (I20 : Iv), MR I20 = nu → ((MI (bgI I) I20 ∧ MK (bgJ I J) J2)) → (PA I20) → (RK I20) → (0 ≤ I20 78 15) → G m_X10_box (rq m_X10_box (fun r S' I' J' => S' = SHF ∧ True ∧ ∃ v : Int32, r = some (.int v) ∧ (MI (wI (bgI I) 78 11 0) I' ∧ (MK (bgJ I J) J' ∨ MK (wJ (bgJ I J) 79 54 0) J')))) 0 0 39 [some (.ref 78), some (.int x19), none, none] [] SHF I20 J2 := by
          intro nu
          induction nu using Nat.strongRecOn with
          | ind nu ih_39 =>
            intro x19 I20 hmu_39 hK21 hpa_39 hrk_39 hfl_39
            refine g_aload_n d_X10_box_39 rfl ?_
            refine g_getI d_X10_box_40 fq_RX10_110 rfl rfl ?_
            have J_63 : ∀ (I22 : Iv), ((MI (bgI I) I22 ∧ MK (bgJ I J) J2)) → (PA I22 ∧ RK I22 ∧ 0 ≤ I22 78 15) → G m_X10_box (rq m_X10_box (fun r S' I' J' => S' = SHF ∧ True ∧ ∃ v : Int32, r = some (.int v) ∧ (MI (wI (bgI I) 78 11 0) I' ∧ (MK (bgJ I J) J' ∨ MK (wJ (bgJ I J) 79 54 0) J')))) 0 0 63 [some (.ref 78), some (.int x19), none, none] [] SHF I22 J2 := by
              intro I22 hK23 hj_63
              refine g_aload_n d_X10_box_63 rfl ?_
              refine g_aload_n d_X10_box_64 rfl ?_
              refine g_getR d_X10_box_65 fq_RX10_21 rfl rfl ?_
              refine g_bipush (v := 7) d_X10_box_68 kB_7 ?_
              refine g_iaload (N := 15) d_X10_box_70 rfl kT_15 ⟨by decide, by decide⟩ kN_7 ?_
              refine g_aload_n d_X10_box_71 rfl ?_
              refine g_getR d_X10_box_72 fq_RX10_21 rfl rfl ?_
              refine g_bipush (v := 6) d_X10_box_75 kB_6 ?_
              refine g_iaload (N := 15) d_X10_box_77 rfl kT_15 ⟨by decide, by decide⟩ kN_6 ?_
              have J_86 : ∀ (w24 : Int32), (w24 = 0 ∨ w24 = 1) → G m_X10_box (rq m_X10_box (fun r S' I' J' => S' = SHF ∧ True ∧ ∃ v : Int32, r = some (.int v) ∧ (MI (wI (bgI I) 78 11 0) I' ∧ (MK (bgJ I J) J' ∨ MK (wJ (bgJ I J) 79 54 0) J')))) 0 0 86 [some (.ref 78), some (.int x19), none, none] [.int w24, .ref 78] SHF I22 J2 := by
                intro w24 hw24
                refine g_iconst (v := 4) d_X10_box_86 kI_4 ?_
                refine g_aload_n d_X10_box_87 rfl ?_
                refine g_getI d_X10_box_88 fq_RX10_101 rfl rfl ?_
                refine g_V3 d_X10_box_91 cs_X10_box_X10_want lk_RX10_131 im_X10_want se_X10_want rfl rfl rfl (Nat.le_of_ble_eq_true rfl) ⟨rfl, rfl⟩ ⟨Nat.zero_le _, Nat.zero_le _⟩ (ct_X10_want w24 (4 : Int32) (I22 78 11) I22 J2 hj_63.1 (by grind)) (fun r91 S91 I25 Jc27 q91_25 => ?_)
                obtain ⟨rfl, ⟨rfl, hc91_27⟩, r29, rfl, hz91, hr91_29⟩ := q91_25
                refine g_st (st' := [.int r29]) rfl ?_
                have hK31 : (MI (bgI I) I25 ∧ MK (bgJ I J) J2) := ⟨mi_pc (hK23).1 ⟨fun b h1 h2 => hc91_27.1 b h1, hc91_27.2.1⟩, (hK23).2⟩
                have hrk91 := pf_rk hc91_27 hj_63.2.1
                have hfl91 := (hc91_27).2.2.2.2.2 hj_63.2.2
                refine g_istore_n (L' := [some (.ref 78), some (.int x19), some (.int r29), none]) d_X10_box_94 (by decide) rfl ?_
                refine g_aload_n d_X10_box_95 rfl ?_
                refine g_iconst (v := 0) d_X10_box_96 kI_0 ?_
                refine g_putI d_X10_box_97 fq_RX10_101 rfl rfl ?_
                refine g_nmI (fun I32 eI32 => ?_)
                have hK33 : (MI (wI (bgI I) 78 11 (0 : Int32)) I32 ∧ MK (bgJ I J) J2) := (by rw [eI32]; exact ⟨mi_11 (hK31).1 (by decide), (hK31).2⟩)
                have hrk97 : RK I32 ∧ I32 78 15 = I25 78 15 := by rw [eI32]; exact ⟨fun q => by rw [wI_row (by decide)]; exact hrk91 (by rw [wI_ne (by decide)] at q; exact q), wI_ne (by decide)⟩
                refine g_aload_n d_X10_box_100 rfl ?_
                refine g_getI d_X10_box_101 fq_RX10_110 rfl rfl ?_
                refine g_if_le d_X10_box_104 (fun h104 => ?_) (fun h104 => ?_)
                · skip
                  refine g_iconst (v := 0) d_X10_box_115 kI_0 ?_
                  refine g_istore_n (L' := [some (.ref 78), some (.int x19), some (.int r29), some (.int (0 : Int32))]) d_X10_box_116 (by decide) rfl ?_
                  have K_117 : ∀ (nu : Nat) (x34 : Int32) (I35 : Iv), mU (15 : Int32) x34 = nu → ((MI (wI (bgI I) 78 11 (0 : Int32)) I35 ∧ MK (bgJ I J) J2)) → ((0 : Int32) ≤ x34) → ((0 ≤ I35 82 8 ∧ I35 82 8 ≤ 2) ∧ (0 ≤ I35 82 2 ∧ I35 82 2 ≤ 99)) → G m_X10_box (rq m_X10_box (fun r S' I' J' => S' = SHF ∧ True ∧ ∃ v : Int32, r = some (.int v) ∧ (MI (wI (bgI I) 78 11 0) I' ∧ (MK (bgJ I J) J' ∨ MK (wJ (bgJ I J) 79 54 0) J')))) 0 0 117 [some (.ref 78), some (.int x19), some (.int r29), some (.int x34)] [] SHF I35 J2 := by
                    intro nu
                    induction nu using Nat.strongRecOn with
                    | ind nu ih_117 =>
                      intro x34 I35 hmu_117 hK36 hl37 hrd_117
                      refine g_iload_n d_X10_box_117 rfl ?_
                      refine g_bipush (v := 15) d_X10_box_118 kB_15 ?_
                      refine g_icmp_ge d_X10_box_120 (fun h120 => ?_) (fun h120 => ?_)
                      · skip
                        refine g_aload_n d_X10_box_141 rfl ?_
                        refine g_iconst (v := 0) d_X10_box_142 kI_0 ?_
                        refine g_V1 d_X10_box_143 cs_X10_box_X10_freshen lk_RX10_84 im_X10_freshen se_X10_freshen rfl rfl rfl (Nat.le_of_ble_eq_true rfl) ⟨rfl, rfl⟩ ⟨Nat.zero_le _, Nat.zero_le _⟩ (ct_X10_freshen (0 : Int32) I35 J2 (by decide)) (fun r143 S143 Ic40 J38 q143_38 => ?_)
                        obtain ⟨rfl, ⟨rfl, hc143_40⟩, rfl, hr143_41⟩ := q143_38
                        refine g_st (st' := []) rfl ?_
                        have hK43 : (MI (wI (bgI I) 78 11 (0 : Int32)) I35 ∧ MK (wJ (bgJ I J) 79 54 0) J38) := ⟨(hK36).1, fh_mk0 (hK36).2 hr143_41⟩
                        refine g_iload_n d_X10_box_146 rfl ?_
                        exact g_ireturn d_X10_box_147 rfl rfl rfl rfl ⟨rfl, trivial, x19, rfl, ⟨(hK43).1, Or.inr (hK43).2⟩⟩
                      · skip
                        refine g_aload_n d_X10_box_123 rfl ?_
                        refine g_getR d_X10_box_124 fq_RX10_17 rfl rfl ?_
                        refine g_iload_n d_X10_box_127 rfl ?_
                        refine g_aload_n d_X10_box_128 rfl ?_
                        refine g_getR d_X10_box_129 fq_RX10_21 rfl rfl ?_
                        refine g_iload_n d_X10_box_132 rfl ?_
                        refine g_iaload (N := 15) d_X10_box_133 rfl kT_15 ⟨hl37, Int32.not_le.mp h120⟩ rfl ?_
                        refine g_iastore (N := 15) d_X10_box_134 rfl kT_15 ⟨hl37, Int32.not_le.mp h120⟩ rfl  ?_
                        refine g_nmI (fun I44 eI44 => ?_)
                        have hK45 : (MI (wI (bgI I) 78 11 (0 : Int32)) I44 ∧ MK (bgJ I J) J2) := (by rw [eI44]; exact ⟨mi_81 (hK36).1 (fun hh => by rw [hh]; exact hrd_117.1) (fun hh => by rw [hh]; exact hrd_117.2), (hK36).2⟩)
                        have hrd134 : (0 ≤ I44 82 8 ∧ I44 82 8 ≤ 2) ∧ (0 ≤ I44 82 2 ∧ I44 82 2 ≤ 99) := by rw [eI44, wI_row (by decide)]; exact hrd_117
                        refine g_iinc (v := (x34 + (1 : Int32))) (L' := [some (.ref 78), some (.int x19), some (.int r29), some (.int (x34 + (1 : Int32)))]) d_X10_box_135 rfl (by rw [kI_1]) (by decide) rfl ?_
                        refine g_goto d_X10_box_138 ?_
                        exact ih_117 _ (by rw [← hmu_117]; exact mu_up h120) (x34 + (1 : Int32)) I44 rfl hK45 (lo_up hl37 h120) hrd134
                  exact K_117 _ (0 : Int32) I32 rfl hK33 (Int32.le_refl _) (hrk97.1 (by grind))
                · skip
                  refine g_bipush (v := -10) d_X10_box_107 kB_m10 ?_
                  refine g_aload_n d_X10_box_109 rfl ?_
                  refine g_getI d_X10_box_110 fq_RX10_110 rfl rfl ?_
                  refine g_isub d_X10_box_113 ?_
                  exact g_ireturn d_X10_box_114 rfl rfl rfl rfl ⟨rfl, trivial, ((-10 : Int32) - (I32 78 15)), rfl, ⟨(hK33).1, Or.inl (hK33).2⟩⟩
              refine g_icmp_ge d_X10_box_78 (fun h78 => ?_) (fun h78 => ?_)
              · skip
                refine g_iconst (v := 0) d_X10_box_85 kI_0 ?_
                exact J_86 ((0 : Int32)) (Or.inl rfl)
              · skip
                refine g_iconst (v := 1) d_X10_box_81 kI_1 ?_
                refine g_goto d_X10_box_82 ?_
                exact J_86 ((1 : Int32)) (Or.inr rfl)
            refine g_if_ne d_X10_box_43 (fun h43 => ?_) (fun h43 => ?_)
            · skip
              exact J_63 I20 hK21 (by first | exact ⟨hpa_39, hrk_39, hfl_39⟩ | exact ⟨hpa47, hrk47, hfl47⟩)
            · skip
              refine g_aload_n d_X10_box_46 rfl ?_
              refine g_V0 d_X10_box_47 cs_X10_box_X10_here lk_RX10_113 im_X10_here se_X10_here rfl rfl rfl (Nat.le_of_ble_eq_true rfl) ⟨rfl, rfl⟩ ⟨Nat.zero_le _, Nat.zero_le _⟩ (ct_X10_here  I20 J2 hpa_39) (fun r47 S47 I46 Jc48 q47_46 => ?_)
              obtain ⟨rfl, ⟨rfl, hc47_48⟩, r50, rfl, hr47_50⟩ := q47_46
              refine g_st (st' := [.int r50]) rfl ?_
              have hK52 : (MI (bgI I) I46 ∧ MK (bgJ I J) J2) := ⟨mi_pc (hK21).1 ⟨fun b h1 h2 => hc47_48.1 b h1, hc47_48.2.1⟩, (hK21).2⟩
              have hpa47 := (hc47_48).2.2.1
              have hrk47 := pf_rk hc47_48 hrk_39
              have hfl47 := (hc47_48).2.2.2.2.2 hfl_39
              have hsz47 := (hc47_48).size
              have hmo47 := (hc47_48).2.2.2.1
              have hst47 := hr47_50
              refine g_if_lt d_X10_box_50 (fun h50 => ?_) (fun h50 => ?_)
              · skip
                exact J_63 I46 hK52 (by first | exact ⟨hpa_39, hrk_39, hfl_39⟩ | exact ⟨hpa47, hrk47, hfl47⟩)
              · skip
                refine g_aload_n d_X10_box_53 rfl ?_
                refine g_V0 d_X10_box_54 cs_X10_box_X10_takeClause lk_RX10_172 im_X10_takeClause se_X10_takeClause rfl rfl rfl (Nat.le_of_ble_eq_true rfl) ⟨rfl, rfl⟩ ⟨Nat.zero_le _, Nat.zero_le _⟩ (ct_X10_takeClause  I46 J2 hpa47 hrk47) (fun r54 S54 I53 Jc55 q54_53 => ?_)
                obtain ⟨rfl, ⟨rfl, hc54_55⟩, rfl, hr54_56⟩ := q54_53
                refine g_st (st' := []) rfl ?_
                have hK58 : (MI (bgI I) I53 ∧ MK (bgJ I J) J2) := ⟨mi_pc (hK52).1 ⟨hc54_55.1, hc54_55.2.1⟩, (hK52).2⟩
                have hpa54 := (hc54_55).2.2.1
                have hrk54 := (hc54_55).2.2.2.2.2.1
                have hfl54 := (hc54_55).2.2.2.2.2.2 hfl47
                have hsz54 := (hc54_55).size
                have hmo54 := (hc54_55).2.2.2.1
                have hgr54 := hr54_56
                refine g_iinc (v := (x19 + (1 : Int32))) (L' := [some (.ref 78), some (.int (x19 + (1 : Int32))), none, none]) d_X10_box_57 rfl (by rw [kI_1]) (by decide) rfl ?_
                refine g_goto d_X10_box_60 ?_
                exact ih_39 _ (by rw [← hmu_39]; exact mr_dec h43 (hsz54.trans hsz47) hpa54 (Int32.le_trans hmo47 hmo54) (fun q => Int32.lt_of_le_of_lt hmo47 (hgr54 q))) (x19 + (1 : Int32)) I53 rfl hK58 hpa54 hrk54 hfl54
        exact K_39 _ (0 : Int32) I16 rfl hK17 hp_15.1 (fun _ => by rw [hb_15.1 (by grind), hb_15.2 (by grind)]; decide) (by rw [hp_15.2]; decide)
      · skip
        refine g_aload_n d_X10_box_21 rfl ?_
        refine g_getR d_X10_box_22 fq_RX10_21 rfl rfl ?_
        refine g_iload_n d_X10_box_25 rfl ?_
        refine g_iload_n d_X10_box_26 rfl ?_
        refine g_S1 d_X10_box_27 cs_X10_box_X10_untold lk_RX10_80 im_X10_untold (Nat.le_of_ble_eq_true rfl) ⟨rfl, rfl⟩ ⟨Nat.zero_le _, Nat.zero_le _⟩ (ct_X10_untold x15 I16 J2 ) (fun r27 S27 Ic60 Jc61 q27_58 => ?_)
        obtain ⟨rfl, rfl, rfl, r63, rfl, hr27_63⟩ := q27_58
        refine g_st (st' := [.int r63, .int x15, .ref 82]) rfl ?_
        have hbx := hr27_63
        refine g_iastore (N := 15) d_X10_box_30 rfl kT_15 ⟨hl18, Int32.not_le.mp h18⟩ rfl  ?_
        refine g_nmI (fun I65 eI65 => ?_)
        have hK66 : (MI (bgI I) I65 ∧ MK (bgJ I J) J2) := (by rw [eI65]; exact ⟨mi_free (hK17).1 rfl, (hK17).2⟩)
        refine g_iinc (v := (x15 + (1 : Int32))) (L' := [some (.ref 78), some (.int (x15 + (1 : Int32))), none, none]) d_X10_box_31 rfl (by rw [kI_1]) (by decide) rfl ?_
        refine g_goto d_X10_box_34 ?_
        exact ih_15 _ (by rw [← hmu_15]; exact mu_up h18) (x15 + (1 : Int32)) I65 rfl hK66 (lo_up hl18 h18) (by rw [eI65]; exact box_step 82 hl18 hbx hb_15 h18) (by rw [eI65]; exact ⟨pa_w hp_15.1 (by omega), by rw [wI_ne (by omega)]; exact hp_15.2⟩)
  exact K_15 _ (0 : Int32) I13 rfl hK14 (Int32.le_refl _) (by constructor <;> intro q <;> exact absurd q (by decide)) hpa10
set_option maxRecDepth 100000 in
set_option maxHeartbeats 4000000 in
theorem ct_X10_day  (I : Iv) (J : Jv) (hma : MA I) (hmj : MJ J) : Ct m_X10_day [.ref 78] SHF I J (fun r S' I' J' => S' = SHF ∧ True ∧ ∃ v : Int32, r = some (.int v) ∧ (MI (wI (bgI I) 78 11 0) I' ∧ MK (bgJ I J) J')) := by
  refine ct_of 2 (by decide +kernel) rfl rfl ?_
  have hK0 : (MI I I ∧ MK J J) := ⟨mi_rfl hma, mk_rfl hmj⟩
  refine g_aload_n d_X10_day_0 rfl ?_
  refine g_V0 d_X10_day_1 cs_X10_day_X10_begin lk_RX10_166 im_X10_begin se_X10_begin rfl rfl rfl (Nat.le_of_ble_eq_true rfl) ⟨rfl, rfl⟩ ⟨Nat.zero_le _, Nat.zero_le _⟩ (ct_X10_begin  I J hma hmj) (fun r1 S1 I1 J2 q1_2 => ?_)
  obtain ⟨rfl, hc1_3, rfl, hr1_4⟩ := q1_2
  refine g_st (st' := []) rfl ?_
  have hK6 : (MI (bgI I) I1 ∧ MK (bgJ I J) J2) := hr1_4
  refine g_aload_n d_X10_day_4 rfl ?_
  have hpp := (hK6).1.2
  refine g_V0 d_X10_day_5 cs_X10_day_X10_beginReading lk_RX10_169 im_X10_beginReading se_X10_beginReading rfl rfl rfl (Nat.le_of_ble_eq_true rfl) ⟨rfl, rfl⟩ ⟨Nat.zero_le _, Nat.zero_le _⟩ (ct_X10_beginReading  I1 J2 ) (fun r5 S5 I7 Jc9 q5_7 => ?_)
  obtain ⟨rfl, ⟨rfl, hc5_9⟩, rfl⟩ := q5_7
  refine g_st (st' := []) rfl ?_
  have hK12 : (MI (bgI I) I7 ∧ MK (bgJ I J) J2) := ⟨mi_br (hK6).1 ⟨hc5_9.1, hc5_9.2.1⟩, (hK6).2⟩
  have hat5 : I7 78 12 = 0 ∧ I7 78 15 = 0 := (hc5_9).2.2
  have hpa5 := br_pa hpp (hc5_9).2.1 hat5.1
  refine g_iconst (v := 0) d_X10_day_8 kI_0 ?_
  refine g_istore_n (L' := [some (.ref 78), some (.int (0 : Int32)), none]) d_X10_day_9 (by decide) rfl ?_
  have K_10 : ∀ (nu : Nat) (x13 : Int32) (I14 : Iv), MR I14 = nu → ((MI (bgI I) I14 ∧ MK (bgJ I J) J2)) → (PA I14) → (0 ≤ x13 ∧ x13 ≤ 12) → G m_X10_day (rq m_X10_day (fun r S' I' J' => S' = SHF ∧ True ∧ ∃ v : Int32, r = some (.int v) ∧ (MI (wI (bgI I) 78 11 0) I' ∧ MK (bgJ I J) J'))) 0 0 10 [some (.ref 78), some (.int x13), none] [] SHF I14 J2 := by
    intro nu
    induction nu using Nat.strongRecOn with
    | ind nu ih_10 =>
      intro x13 I14 hmu_10 hK15 hpa_10 hn_10
      refine g_aload_n d_X10_day_10 rfl ?_
      refine g_getI d_X10_day_11 fq_RX10_110 rfl rfl ?_
      have J_142 : ∀ (I16 : Iv), ((MI (bgI I) I16 ∧ MK (bgJ I J) J2)) → G m_X10_day (rq m_X10_day (fun r S' I' J' => S' = SHF ∧ True ∧ ∃ v : Int32, r = some (.int v) ∧ (MI (wI (bgI I) 78 11 0) I' ∧ MK (bgJ I J) J'))) 0 0 142 [some (.ref 78), some (.int x13), none] [] SHF I16 J2 := by
        intro I16 hK17
        refine g_aload_n d_X10_day_142 rfl ?_
        refine g_iconst (v := 0) d_X10_day_143 kI_0 ?_
        refine g_putI d_X10_day_144 fq_RX10_101 rfl rfl ?_
        refine g_nmI (fun I18 eI18 => ?_)
        have hK19 : (MI (wI (bgI I) 78 11 (0 : Int32)) I18 ∧ MK (bgJ I J) J2) := (by rw [eI18]; exact ⟨mi_11 (hK17).1 (by decide), (hK17).2⟩)
        refine g_aload_n d_X10_day_147 rfl ?_
        refine g_getI d_X10_day_148 fq_RX10_110 rfl rfl ?_
        refine g_if_le d_X10_day_151 (fun h151 => ?_) (fun h151 => ?_)
        · skip
          refine g_aload_n d_X10_day_162 rfl ?_
          refine g_iload_n d_X10_day_163 rfl ?_
          refine g_putI d_X10_day_164 fq_RX10_175 rfl rfl ?_
          refine g_nmI (fun I20 eI20 => ?_)
          have hK21 : (MI (wI (bgI I) 78 11 (0 : Int32)) I20 ∧ MK (bgJ I J) J2) := (by rw [eI20]; exact ⟨mi_5 (hK19).1 hn_10, (hK19).2⟩)
          refine g_iconst (v := 0) d_X10_day_167 kI_0 ?_
          refine g_istore_n (L' := [some (.ref 78), some (.int x13), some (.int (0 : Int32))]) d_X10_day_168 (by decide) rfl ?_
          have K_169 : ∀ (nu : Nat) (x22 : Int32) (I23 : Iv), mU x13 x22 = nu → ((MI (wI (bgI I) 78 11 (0 : Int32)) I23 ∧ MK (bgJ I J) J2)) → ((0 : Int32) ≤ x22) → G m_X10_day (rq m_X10_day (fun r S' I' J' => S' = SHF ∧ True ∧ ∃ v : Int32, r = some (.int v) ∧ (MI (wI (bgI I) 78 11 0) I' ∧ MK (bgJ I J) J'))) 0 0 169 [some (.ref 78), some (.int x13), some (.int x22)] [] SHF I23 J2 := by
            intro nu
            induction nu using Nat.strongRecOn with
            | ind nu ih_169 =>
              intro x22 I23 hmu_169 hK24 hl25
              refine g_iload_n d_X10_day_169 rfl ?_
              refine g_iload_n d_X10_day_170 rfl ?_
              refine g_icmp_ge d_X10_day_171 (fun h171 => ?_) (fun h171 => ?_)
              · skip
                refine g_iload_n d_X10_day_204 rfl ?_
                exact g_ireturn d_X10_day_205 rfl rfl rfl rfl ⟨rfl, trivial, x13, rfl, hK24⟩
              · skip
                refine g_aload_n d_X10_day_174 rfl ?_
                refine g_getR d_X10_day_175 fq_RX10_24 rfl rfl ?_
                refine g_iload_n d_X10_day_178 rfl ?_
                refine g_aload_n d_X10_day_179 rfl ?_
                refine g_getR d_X10_day_180 fq_RX10_30 rfl rfl ?_
                refine g_iload_n d_X10_day_183 rfl ?_
                refine g_iaload (N := 12) d_X10_day_184 rfl kT_12 ⟨hl25, day_lt h171 hn_10.2⟩ rfl ?_
                refine g_iastore (N := 12) d_X10_day_185 rfl kT_12 ⟨hl25, day_lt h171 hn_10.2⟩ rfl  ?_
                refine g_nmI (fun I26 eI26 => ?_)
                have hK27 : (MI (wI (bgI I) 78 11 (0 : Int32)) I26 ∧ MK (bgJ I J) J2) := (by rw [eI26]; exact ⟨mi_free (hK24).1 rfl, (hK24).2⟩)
                refine g_aload_n d_X10_day_186 rfl ?_
                refine g_getR d_X10_day_187 fq_RX10_27 rfl rfl ?_
                refine g_iload_n d_X10_day_190 rfl ?_
                refine g_aload_n d_X10_day_191 rfl ?_
                refine g_getR d_X10_day_192 fq_RX10_33 rfl rfl ?_
                refine g_iload_n d_X10_day_195 rfl ?_
                refine g_iaload (N := 12) d_X10_day_196 rfl kT_12 ⟨hl25, day_lt h171 hn_10.2⟩ rfl ?_
                refine g_iastore (N := 12) d_X10_day_197 rfl kT_12 ⟨hl25, day_lt h171 hn_10.2⟩ rfl  ?_
                refine g_nmI (fun I28 eI28 => ?_)
                have hK29 : (MI (wI (bgI I) 78 11 (0 : Int32)) I28 ∧ MK (bgJ I J) J2) := (by rw [eI28]; exact ⟨mi_free (hK27).1 rfl, (hK27).2⟩)
                refine g_iinc (v := (x22 + (1 : Int32))) (L' := [some (.ref 78), some (.int x13), some (.int (x22 + (1 : Int32)))]) d_X10_day_198 rfl (by rw [kI_1]) (by decide) rfl ?_
                refine g_goto d_X10_day_201 ?_
                exact ih_169 _ (by rw [← hmu_169]; exact mu_up h171) (x22 + (1 : Int32)) I28 rfl hK29 (lo_up hl25 h171)
          exact K_169 _ (0 : Int32) I20 rfl hK21 (Int32.le_refl _)
        · skip
          refine g_bipush (v := -10) d_X10_day_154 kB_m10 ?_
          refine g_aload_n d_X10_day_156 rfl ?_
          refine g_getI d_X10_day_157 fq_RX10_110 rfl rfl ?_
          refine g_isub d_X10_day_160 ?_
          exact g_ireturn d_X10_day_161 rfl rfl rfl rfl ⟨rfl, trivial, ((-10 : Int32) - (I18 78 15)), rfl, hK19⟩
      refine g_if_ne d_X10_day_14 (fun h14 => ?_) (fun h14 => ?_)
      · skip
        exact J_142 I14 hK15
      · skip
        refine g_aload_n d_X10_day_17 rfl ?_
        refine g_V0 d_X10_day_18 cs_X10_day_X10_here lk_RX10_113 im_X10_here se_X10_here rfl rfl rfl (Nat.le_of_ble_eq_true rfl) ⟨rfl, rfl⟩ ⟨Nat.zero_le _, Nat.zero_le _⟩ (ct_X10_here  I14 J2 hpa_10) (fun r18 S18 I30 Jc32 q18_30 => ?_)
        obtain ⟨rfl, ⟨rfl, hc18_32⟩, r34, rfl, hr18_34⟩ := q18_30
        refine g_st (st' := [.int r34]) rfl ?_
        have hK36 : (MI (bgI I) I30 ∧ MK (bgJ I J) J2) := ⟨mi_pc (hK15).1 ⟨fun b h1 h2 => hc18_32.1 b h1, hc18_32.2.1⟩, (hK15).2⟩
        have hpa18 := (hc18_32).2.2.1
        have hsz18 := (hc18_32).size
        have hmo18 := (hc18_32).2.2.2.1
        refine g_if_lt d_X10_day_21 (fun h21 => ?_) (fun h21 => ?_)
        · skip
          exact J_142 I30 hK36
        · skip
          refine g_aload_n d_X10_day_24 rfl ?_
          refine g_V0 d_X10_day_25 cs_X10_day_X10_takeWord lk_RX10_140 im_X10_takeWord se_X10_takeWord rfl rfl rfl (Nat.le_of_ble_eq_true rfl) ⟨rfl, rfl⟩ ⟨Nat.zero_le _, Nat.zero_le _⟩ (ct_X10_takeWord  I30 J2 hpa18) (fun r25 S25 I37 Jc39 q25_37 => ?_)
          obtain ⟨rfl, ⟨rfl, hc25_39⟩, rfl, hr25_40⟩ := q25_37
          refine g_st (st' := []) rfl ?_
          have hK42 : (MI (bgI I) I37 ∧ MK (bgJ I J) J2) := ⟨mi_pc (hK36).1 ⟨fun b h1 h2 => hc25_39.1 b h1, hc25_39.2.1⟩, (hK36).2⟩
          have hpa25 := (hc25_39).2.2.1
          have hsz25 := (hc25_39).size
          have hmo25 := (hc25_39).2.2.2.1
          have hwd25 := hr25_40
          refine g_aload_n d_X10_day_28 rfl ?_
          refine g_aload_n d_X10_day_29 rfl ?_
          refine g_iconst (v := 4) d_X10_day_30 kI_4 ?_
          refine g_bipush (v := 111) d_X10_day_31 kB_111 ?_
          refine g_bipush (v := 112) d_X10_day_33 kB_112 ?_
          refine g_bipush (v := 101) d_X10_day_35 kB_101 ?_
          refine g_bipush (v := 110) d_X10_day_37 kB_110 ?_
          refine g_iconst (v := 0) d_X10_day_39 kI_0 ?_
          refine g_V6 d_X10_day_40 cs_X10_day_X10_isWord lk_RX10_136 im_X10_isWord se_X10_isWord rfl rfl rfl (Nat.le_of_ble_eq_true rfl) ⟨rfl, rfl⟩ ⟨Nat.zero_le _, Nat.zero_le _⟩ (ct_X10_isWord (4 : Int32) (111 : Int32) (112 : Int32) (101 : Int32) (110 : Int32) (0 : Int32) I37 J2 hpa25 (day_wd hwd25 hpa18.1)) (fun r40 S40 Ic44 Jc45 q40_42 => ?_)
          obtain ⟨rfl, rfl, rfl, r47, rfl, hz40, hr40_47⟩ := q40_42
          refine g_st (st' := [.int r47, .ref 78]) rfl ?_
          have hr40x := hr40_47
          refine g_iconst (v := 1) d_X10_day_43 kI_1 ?_
          refine g_aload_n d_X10_day_44 rfl ?_
          refine g_getI d_X10_day_45 fq_RX10_117 rfl rfl ?_
          refine g_V3 d_X10_day_48 cs_X10_day_X10_want lk_RX10_131 im_X10_want se_X10_want rfl rfl rfl (Nat.le_of_ble_eq_true rfl) ⟨rfl, rfl⟩ ⟨Nat.zero_le _, Nat.zero_le _⟩ (ct_X10_want r47 (1 : Int32) (I37 78 13) I37 J2 hpa25 (by decide)) (fun r48 S48 I49 Jc51 q48_49 => ?_)
          obtain ⟨rfl, ⟨rfl, hc48_51⟩, r53, rfl, hz48, hr48_53⟩ := q48_49
          refine g_st (st' := [.int r53]) rfl ?_
          have hK55 : (MI (bgI I) I49 ∧ MK (bgJ I J) J2) := ⟨mi_pc (hK42).1 ⟨fun b h1 h2 => hc48_51.1 b h1, hc48_51.2.1⟩, (hK42).2⟩
          have hpa48 := (hc48_51).2.2.1
          have hsz48 := (hc48_51).size
          have hw48 := hr48_53
          have hdec48 := fun z : ¬ I49 78 15 = 0 => mr_dec h14 (hsz48.trans (hsz25.trans hsz18)) hpa48 (by rw [hw48.2.1.1]; exact Int32.le_trans hmo18 hmo25) (fun q => absurd q z)
          refine g_if_eq d_X10_day_51 (fun h51 => ?_) (fun h51 => ?_)
          · skip
            exact ih_10 _ (by rw [← hmu_10]; exact (by first | exact hdec48 (hw48.1.2 h51) | exact hdec71 (hw71.1.2 h74) | exact hdec136)) x13 I49 rfl hK55 (by assumption) (by first | exact hn_10 | exact day_up hn_10 hx12)
          · skip
            have hr1 := hz48.resolve_left h51
            have hl4 := hr40x (hz40.resolve_left (hw48.1.1 hr1).2)
            have hgt48 := day_gt hmo18 hwd25 hl4 hpa25.2.1 hpa25.2.2 hpa_10.1 hpa25.1
            rw [← hw48.2.1.1] at hgt48
            refine g_aload_n d_X10_day_54 rfl ?_
            refine g_iload_n d_X10_day_55 rfl ?_
            refine g_bipush (v := 12) d_X10_day_56 kB_12 ?_
            have J_66 : ∀ (w56 : Int32), (w56 = 0 ∨ w56 = 1) → (¬ w56 = 0 → x13 < 12) → G m_X10_day (rq m_X10_day (fun r S' I' J' => S' = SHF ∧ True ∧ ∃ v : Int32, r = some (.int v) ∧ (MI (wI (bgI I) 78 11 0) I' ∧ MK (bgJ I J) J'))) 0 0 66 [some (.ref 78), some (.int x13), none] [.int w56, .ref 78] SHF I49 J2 := by
              intro w56 hw56 hg_66
              refine g_iconst (v := 3) d_X10_day_66 kI_3 ?_
              refine g_aload_n d_X10_day_67 rfl ?_
              refine g_getI d_X10_day_68 fq_RX10_117 rfl rfl ?_
              refine g_V3 d_X10_day_71 cs_X10_day_X10_want lk_RX10_131 im_X10_want se_X10_want rfl rfl rfl (Nat.le_of_ble_eq_true rfl) ⟨rfl, rfl⟩ ⟨Nat.zero_le _, Nat.zero_le _⟩ (ct_X10_want w56 (3 : Int32) (I49 78 13) I49 J2 hpa48 (by decide)) (fun r71 S71 I57 Jc59 q71_57 => ?_)
              obtain ⟨rfl, ⟨rfl, hc71_59⟩, r61, rfl, hz71, hr71_61⟩ := q71_57
              refine g_st (st' := [.int r61]) rfl ?_
              have hK63 : (MI (bgI I) I57 ∧ MK (bgJ I J) J2) := ⟨mi_pc (hK55).1 ⟨fun b h1 h2 => hc71_59.1 b h1, hc71_59.2.1⟩, (hK55).2⟩
              have hpa71 := (hc71_59).2.2.1
              have hsz71 := (hc71_59).size
              have hw71 := hr71_61
              have hdec71 := fun z : ¬ I57 78 15 = 0 => mr_dec h14 (hsz71.trans (hsz48.trans (hsz25.trans hsz18))) hpa71 (by rw [hw71.2.1.1, hw48.2.1.1]; exact Int32.le_trans hmo18 hmo25) (fun q => absurd q z)
              refine g_if_eq d_X10_day_74 (fun h74 => ?_) (fun h74 => ?_)
              · skip
                exact ih_10 _ (by rw [← hmu_10]; exact (by first | exact hdec48 (hw48.1.2 h51) | exact hdec71 (hw71.1.2 h74) | exact hdec136)) x13 I57 rfl hK63 (by assumption) (by first | exact hn_10 | exact day_up hn_10 hx12)
              · skip
                have hr2 := hz71.resolve_left h74
                have hx12 := hg_66 (hw71.1.1 hr2).2
                refine g_aload_n d_X10_day_77 rfl ?_
                refine g_getR d_X10_day_78 fq_RX10_30 rfl rfl ?_
                refine g_iload_n d_X10_day_81 rfl ?_
                refine g_aload_n d_X10_day_82 rfl ?_
                refine g_iload_n d_X10_day_83 rfl ?_
                have J_101 : ∀ (w64 : Int32), G m_X10_day (rq m_X10_day (fun r S' I' J' => S' = SHF ∧ True ∧ ∃ v : Int32, r = some (.int v) ∧ (MI (wI (bgI I) 78 11 0) I' ∧ MK (bgJ I J) J'))) 0 0 101 [some (.ref 78), some (.int x13), none] [.int w64, .ref 78, .int x13, .ref 85] SHF I57 J2 := by
                  intro w64
                  refine g_sipush (v := 287) d_X10_day_101 kS_287 ?_
                  refine g_V2 d_X10_day_104 cs_X10_day_X10_takeNumber lk_RX10_153 im_X10_takeNumber se_X10_takeNumber rfl rfl rfl (Nat.le_of_ble_eq_true rfl) ⟨rfl, rfl⟩ ⟨Nat.zero_le _, Nat.zero_le _⟩ (ct_X10_takeNumber w64 (287 : Int32) I57 J2 hpa71) (fun r104 S104 I65 Jc67 q104_65 => ?_)
                  obtain ⟨rfl, ⟨rfl, hc104_67⟩, r69, rfl, hr104_69⟩ := q104_65
                  refine g_st (st' := [.int r69, .int x13, .ref 85]) rfl ?_
                  have hK71 : (MI (bgI I) I65 ∧ MK (bgJ I J) J2) := ⟨mi_pc (hK63).1 ⟨fun b h1 h2 => hc104_67.1 b h1, hc104_67.2.1⟩, (hK63).2⟩
                  have hpa104 := (hc104_67).2.2.1
                  have hsz104 := (hc104_67).size
                  have hmo104 := (hc104_67).2.2.2.1
                  refine g_iastore (N := 12) d_X10_day_107 rfl kT_12 ⟨hn_10.1, hx12⟩ rfl  ?_
                  refine g_nmI (fun I72 eI72 => ?_)
                  have hK73 : (MI (bgI I) I72 ∧ MK (bgJ I J) J2) := (by rw [eI72]; exact ⟨mi_free (hK71).1 rfl, (hK71).2⟩)
                  have hpa107 : PA I72 ∧ I72 78 11 = I65 78 11 ∧ I72 78 12 = I65 78 12 := by rw [eI72]; exact ⟨pa_w hpa104 (by omega), wI_ne (by omega), wI_ne (by omega)⟩
                  refine g_aload_n d_X10_day_108 rfl ?_
                  refine g_getR d_X10_day_109 fq_RX10_33 rfl rfl ?_
                  refine g_iload_n d_X10_day_112 rfl ?_
                  refine g_aload_n d_X10_day_113 rfl ?_
                  refine g_getI d_X10_day_114 fq_RX10_110 rfl rfl ?_
                  have J_131 : ∀ (w74 : Int32), ∀ (I75 : Iv), ((MI (bgI I) I75 ∧ MK (bgJ I J) J2)) → (PA I75 ∧ I75 78 11 = I72 78 11 ∧ I72 78 12 ≤ I75 78 12) → G m_X10_day (rq m_X10_day (fun r S' I' J' => S' = SHF ∧ True ∧ ∃ v : Int32, r = some (.int v) ∧ (MI (wI (bgI I) 78 11 0) I' ∧ MK (bgJ I J) J'))) 0 0 131 [some (.ref 78), some (.int x13), none] [.int w74, .int x13, .ref 86] SHF I75 J2 := by
                    intro w74 I75 hK76 hq_131
                    refine g_iastore (N := 12) d_X10_day_131 rfl kT_12 ⟨hn_10.1, hx12⟩ rfl  ?_
                    refine g_nmI (fun I77 eI77 => ?_)
                    have hK78 : (MI (bgI I) I77 ∧ MK (bgJ I J) J2) := (by rw [eI77]; exact ⟨mi_free (hK76).1 rfl, (hK76).2⟩)
                    have hpa131 : PA I77 ∧ I77 78 11 = I75 78 11 ∧ I77 78 12 = I75 78 12 := by rw [eI77]; exact ⟨pa_w hq_131.1 (by omega), wI_ne (by omega), wI_ne (by omega)⟩
                    refine g_iinc (v := (x13 + (1 : Int32))) (L' := [some (.ref 78), some (.int (x13 + (1 : Int32))), none]) d_X10_day_132 rfl (by rw [kI_1]) (by decide) rfl ?_
                    refine g_aload_n d_X10_day_135 rfl ?_
                    refine g_V0 d_X10_day_136 cs_X10_day_X10_takeEnd lk_RX10_163 im_X10_takeEnd se_X10_takeEnd rfl rfl rfl (Nat.le_of_ble_eq_true rfl) ⟨rfl, rfl⟩ ⟨Nat.zero_le _, Nat.zero_le _⟩ (ct_X10_takeEnd  I77 J2 hpa131.1) (fun r136 S136 I79 Jc81 q136_79 => ?_)
                    obtain ⟨rfl, ⟨rfl, hc136_81⟩, rfl⟩ := q136_79
                    refine g_st (st' := []) rfl ?_
                    have hK84 : (MI (bgI I) I79 ∧ MK (bgJ I J) J2) := ⟨mi_pc (hK78).1 ⟨fun b h1 h2 => hc136_81.1 b h1, hc136_81.2.1⟩, (hK78).2⟩
                    have hpa136 := (hc136_81).2.2.1
                    have hsz136 := (hc136_81).size
                    have hmo136 := (hc136_81).2.2.2.1
                    have hlt136 := Int32.lt_of_lt_of_le (Int32.lt_of_lt_of_le (Int32.lt_of_lt_of_le hgt48 (by rw [← hw71.2.1.1]; exact hmo104)) (by rw [← hpa107.2.2]; exact hq_131.2.2)) (by rw [← hpa131.2.2]; exact hmo136)
                    have hdec136 := mr_dec h14 (hsz136.trans (hpa131.2.1.trans (hq_131.2.1.trans (hpa107.2.1.trans (hsz104.trans (hsz71.trans (hsz48.trans (hsz25.trans hsz18)))))))) hpa136 (Int32.le_of_lt hlt136) (fun _ => hlt136)
                    refine g_goto d_X10_day_139 ?_
                    exact ih_10 _ (by rw [← hmu_10]; exact (by first | exact hdec48 (hw48.1.2 h51) | exact hdec71 (hw71.1.2 h74) | exact hdec136)) (x13 + (1 : Int32)) I79 rfl hK84 (by assumption) (by first | exact hn_10 | exact day_up hn_10 hx12)
                  refine g_if_ne d_X10_day_117 (fun h117 => ?_) (fun h117 => ?_)
                  · skip
                    refine g_iconst (v := 0) d_X10_day_130 kI_0 ?_
                    exact J_131 ((0 : Int32)) I72 hK73 (by first | exact ⟨hpa107.1, rfl, Int32.le_refl _⟩ | exact ⟨hpa124, hsz124, hmo124⟩)
                  · skip
                    refine g_aload_n d_X10_day_120 rfl ?_
                    refine g_iconst (v := 1) d_X10_day_121 kI_1 ?_
                    refine g_bipush (v := 20) d_X10_day_122 kB_20 ?_
                    refine g_V2 d_X10_day_124 cs_X10_day_X10_takeNumber lk_RX10_153 im_X10_takeNumber se_X10_takeNumber rfl rfl rfl (Nat.le_of_ble_eq_true rfl) ⟨rfl, rfl⟩ ⟨Nat.zero_le _, Nat.zero_le _⟩ (ct_X10_takeNumber (1 : Int32) (20 : Int32) I72 J2 hpa107.1) (fun r124 S124 I85 Jc87 q124_85 => ?_)
                    obtain ⟨rfl, ⟨rfl, hc124_87⟩, r89, rfl, hr124_89⟩ := q124_85
                    refine g_st (st' := [.int r89, .int x13, .ref 86]) rfl ?_
                    have hK91 : (MI (bgI I) I85 ∧ MK (bgJ I J) J2) := ⟨mi_pc (hK73).1 ⟨fun b h1 h2 => hc124_87.1 b h1, hc124_87.2.1⟩, (hK73).2⟩
                    have hpa124 := (hc124_87).2.2.1
                    have hsz124 := (hc124_87).size
                    have hmo124 := (hc124_87).2.2.2.1
                    refine g_goto d_X10_day_127 ?_
                    exact J_131 r89 I85 hK91 (by first | exact ⟨hpa107.1, rfl, Int32.le_refl _⟩ | exact ⟨hpa124, hsz124, hmo124⟩)
                refine g_if_ne d_X10_day_84 (fun h84 => ?_) (fun h84 => ?_)
                · skip
                  refine g_aload_n d_X10_day_91 rfl ?_
                  refine g_getR d_X10_day_92 fq_RX10_30 rfl rfl ?_
                  refine g_iload_n d_X10_day_95 rfl ?_
                  refine g_iconst (v := 1) d_X10_day_96 kI_1 ?_
                  refine g_isub d_X10_day_97 ?_
                  refine g_iaload (N := 12) d_X10_day_98 rfl kT_12 (day_ix hn_10.1 hx12 h84) rfl ?_
                  refine g_iconst (v := 1) d_X10_day_99 kI_1 ?_
                  refine g_iadd d_X10_day_100 ?_
                  exact J_101 (((I57 85 ((x13 - (1 : Int32))).toNatClampNeg) + (1 : Int32)))
                · skip
                  refine g_iconst (v := 0) d_X10_day_87 kI_0 ?_
                  refine g_goto d_X10_day_88 ?_
                  exact J_101 ((0 : Int32))
            refine g_icmp_ge d_X10_day_58 (fun h58 => ?_) (fun h58 => ?_)
            · skip
              refine g_iconst (v := 0) d_X10_day_65 kI_0 ?_
              exact J_66 ((0 : Int32)) (Or.inl rfl) (by intro z; first | exact absurd rfl z | exact Int32.not_le.mp h58 | exact h58)
            · skip
              refine g_iconst (v := 1) d_X10_day_61 kI_1 ?_
              refine g_goto d_X10_day_62 ?_
              exact J_66 ((1 : Int32)) (Or.inr rfl) (by intro z; first | exact absurd rfl z | exact Int32.not_le.mp h58 | exact h58)
  exact K_10 _ (0 : Int32) I7 rfl hK12 hpa5 (by decide)
