noncomputable def fl_X10_feed_35_0 (J : Jv) (bytes : Int64) (Kf0 : Int32 → Iv → Int32 × Iv × Jv) : Nat → Int32 → Iv → Int32 × Iv × Jv
  | 0, x9, I10 => (0, I10, J)
  | kf0 + 1, x9, I10 => if x9 < 0 then Kf0 x9 I10 else l_t (wI I10 87 (((I10 78 11)).toNatClampNeg) (Int64.toInt32 ((bytes >>> (((8 : Int32) * x9).toInt64 &&& 63)) &&& (255 : Int64)))) (fun (I13 : Iv) => l_t (wI I13 78 11 ((I13 78 11) + (1 : Int32))) (fun (I15 : Iv) => fl_X10_feed_35_0 J bytes Kf0 kf0 (x9 + (-1 : Int32)) I15))
noncomputable def fn_X10_feed (n : Int32) (bytes : Int64) (I : Iv) (J : Jv) : Int32 × Iv × Jv :=
  b_n3 (fn_X10_in (Int32.toInt64 n) (1 : Int64) (8 : Int64) I J) (fun (r6 : Int32) (_ : Iv) (_ : Jv) => if r6 = 0 then ((-1000000002 : Int32), I, J) else if ((I 78 11) + n) ≤ (300 : Int32) then l_t ((n - (1 : Int32))) (fun (v8 : Int32) => fl_X10_feed_35_0 J bytes (fun (x9 : Int32) (I10 : Iv) => ((I10 78 11), I10, J)) (mD v8 + 1) v8 I) else ((-1000000004 : Int32), I, J))
set_option maxRecDepth 100000 in
set_option maxHeartbeats 4000000 in
theorem ct_X10_feed (n : Int32) (bytes : Int64) (I : Iv) (J : Jv) (hma : MA I) (hmj : MJ J) : Ct m_X10_feed [.ref 78, .int n, .long bytes] SHF I J (fun r S' I' J' => S' = SHF ∧ True ∧ ∃ v : Int32, r = some (.int v) ∧ fn_X10_feed n bytes I J = (v, I', J') ∧ ((¬ (1 ≤ n ∧ n ≤ 8) ∧ v = -1000000002 ∧ MI I I') ∨ (1 ≤ n ∧ n ≤ 8 ∧ ¬ I 78 11 + n ≤ 300 ∧ v = -1000000004 ∧ MI I I') ∨ (1 ≤ n ∧ n ≤ 8 ∧ I 78 11 + n ≤ 300 ∧ v = I 78 11 + n ∧ MI (wI I 78 11 (I 78 11 + n)) I')) ∧ MK J J') := by
  refine ct_of 1 (by decide +kernel) rfl rfl ?_
  have hma0 : MI I I := mi_rfl hma
  have hK0 : (MI (wI I 78 11 (I 78 11)) I ∧ MK J J) := ⟨by rw [wI_own]; exact mi_rfl hma, mk_rfl hmj⟩
  have hF := fe_of (fn_X10_feed.eq_1 n bytes I J)
  refine g_iload_n d_X10_feed_0 rfl ?_
  refine g_i2l d_X10_feed_1 ?_
  have hsz := hma.1
  refine g_lconst d_X10_feed_2 kL_1 ?_
  refine g_ldc2 (v := 8) d_X10_feed_3 tw_1195 ?_
  refine g_S3 d_X10_feed_6 cs_X10_feed_X10_in lk_RX10_96 im_X10_in (Nat.le_of_ble_eq_true rfl) ⟨rfl, rfl⟩ ⟨Nat.zero_le _, Nat.zero_le _⟩ (ct_X10_inL n (1 : Int64) (8 : Int64) (1 : Int32) (8 : Int32) (by decide) (by decide) I J) (fun r6 S6 Ic2 Jc3 q6_0 => ?_)
  obtain ⟨rfl, rfl, rfl, r6, rfl, hz6, hf6_4, hr6_6⟩ := q6_0
  replace hF := fe_b3 hF hf6_4
  refine g_st (st' := [.int r6]) rfl ?_
  refine g_if_ne d_X10_feed_9 (fun h9 => ?_) (fun h9 => ?_)
  · skip
    replace hF := fe_neg hF h9
    refine g_aload_n d_X10_feed_15 rfl ?_
    refine g_getI d_X10_feed_16 fq_RX10_101 rfl rfl ?_
    refine g_iload_n d_X10_feed_19 rfl ?_
    refine g_iadd d_X10_feed_20 ?_
    refine g_sipush (v := 300) d_X10_feed_21 kS_300 ?_
    refine g_icmp_le d_X10_feed_24 (fun h24 => ?_) (fun h24 => ?_)
    · skip
      replace hF := fe_pos hF h24
      refine g_iload_n d_X10_feed_30 rfl ?_
      refine g_iconst (v := 1) d_X10_feed_31 kI_1 ?_
      refine g_isub d_X10_feed_32 ?_
      refine g_topI (fun v8 ev8 => ?_)
      replace hF := fe_lt hF ev8
      refine g_istore (L' := [some (.ref 78), some (.int n), some (.long bytes), none, some (.int v8)]) d_X10_feed_33 (by decide) rfl ?_
      obtain ⟨Kf0, hKf0, hF⟩ := fe_kx (f := fun K => fl_X10_feed_35_0 J bytes K (mD v8 + 1) v8 I) hF
      have K_35 : ∀ (nu : Nat) (x9 : Int32) (I10 : Iv), mD x9 = nu → ((MI (wI I 78 11 (I10 78 11)) I10 ∧ MK J J)) → (x9 ≤ v8) → (I10 78 11 = I 78 11 + (n - 1 - x9)) → (-1 ≤ x9) → (∃ kq : Nat, nu < kq ∧ (fun kq => FE (fn_X10_feed n bytes I J) (fun _ => fl_X10_feed_35_0 J bytes Kf0 kq x9 I10)) kq) → G m_X10_feed (rq m_X10_feed (fun r S' I' J' => S' = SHF ∧ True ∧ ∃ v : Int32, r = some (.int v) ∧ fn_X10_feed n bytes I J = (v, I', J') ∧ ((¬ (1 ≤ n ∧ n ≤ 8) ∧ v = -1000000002 ∧ MI I I') ∨ (1 ≤ n ∧ n ≤ 8 ∧ ¬ I 78 11 + n ≤ 300 ∧ v = -1000000004 ∧ MI I I') ∨ (1 ≤ n ∧ n ≤ 8 ∧ I 78 11 + n ≤ 300 ∧ v = I 78 11 + n ∧ MI (wI I 78 11 (I 78 11 + n)) I')) ∧ MK J J')) 0 0 35 [some (.ref 78), some (.int n), some (.long bytes), none, some (.int x9)] [] SHF I10 J := by
        intro nu
        induction nu using Nat.strongRecOn with
        | ind nu ih_35 =>
          intro x9 I10 hmu_35 hK11 hl12 hlen_35 hlo_35 hF_Kf0
          obtain ⟨kf0, hkf0, hF⟩ := fe_fu (P := fun kq => FE (fn_X10_feed n bytes I J) (fun _ => fl_X10_feed_35_0 J bytes Kf0 kq x9 I10)) hF_Kf0
          replace hF := fe_eq hF (fl_X10_feed_35_0.eq_2 _ _ _ _ _ _)
          refine g_iload d_X10_feed_35 rfl ?_
          refine g_if_lt d_X10_feed_37 (fun h37 => ?_) (fun h37 => ?_)
          · skip
            replace hF := fe_pos hF h37
            replace hF := fe_eq hF (congrFun (congrFun hKf0 x9) I10)
            refine g_aload_n d_X10_feed_77 rfl ?_
            refine g_getI d_X10_feed_78 fq_RX10_101 rfl rfl ?_
            exact g_ireturn d_X10_feed_81 rfl rfl rfl rfl ⟨rfl, trivial, (I10 78 11), rfl, hF, ⟨Or.inr (Or.inr ⟨by grind, by grind, by grind, by grind, by rw [← show I10 78 11 = I 78 11 + n by grind]; exact (hK11).1⟩), (hK11).2⟩⟩
          · skip
            replace hF := fe_neg hF h37
            refine g_aload_n d_X10_feed_40 rfl ?_
            refine g_getR d_X10_feed_41 fq_RX10_36 rfl rfl ?_
            refine g_aload_n d_X10_feed_44 rfl ?_
            refine g_getI d_X10_feed_45 fq_RX10_101 rfl rfl ?_
            refine g_lload_n d_X10_feed_48 rfl ?_
            refine g_bipush (v := 8) d_X10_feed_49 kB_8 ?_
            refine g_iload d_X10_feed_51 rfl ?_
            refine g_imul d_X10_feed_53 ?_
            refine g_lshr d_X10_feed_54 ?_
            refine g_ldc2 (v := 255) d_X10_feed_55 tw_1201 ?_
            refine g_land d_X10_feed_58 ?_
            refine g_l2i d_X10_feed_59 ?_
            refine g_iastore (N := 300) d_X10_feed_60 rfl kT_300 (by constructor <;> grind) rfl  ?_
            refine g_nmI (fun I13 eI13 => ?_)
            replace hF := fe_lt hF eI13
            have hK14 : (MI (wI I 78 11 (I13 78 11)) I13 ∧ MK J J) := (by rw [eI13]; exact ⟨by rw [wI_ne (Or.inl (by decide))]; exact mi_free (hK11).1 rfl, (hK11).2⟩)
            have hl60 : I13 78 11 = I10 78 11 := by rw [eI13, wI_ne (Or.inl (by decide))]
            refine g_aload_n d_X10_feed_61 rfl ?_
            refine g_dup d_X10_feed_62 rfl ?_
            refine g_getI d_X10_feed_63 fq_RX10_101 rfl rfl ?_
            refine g_iconst (v := 1) d_X10_feed_66 kI_1 ?_
            refine g_iadd d_X10_feed_67 ?_
            refine g_putI d_X10_feed_68 fq_RX10_101 rfl rfl ?_
            refine g_nmI (fun I15 eI15 => ?_)
            replace hF := fe_lt hF eI15
            have hK16 : (MI (wI I 78 11 (I15 78 11)) I15 ∧ MK J J) := (by rw [eI15, wI_self]; exact ⟨mi_feed (hK14).1 (by constructor <;> grind), (hK14).2⟩)
            have hl68 : I15 78 11 = I13 78 11 + 1 := by rw [eI15, wI_self]
            refine g_iinc (v := (x9 + (-1 : Int32))) (L' := [some (.ref 78), some (.int n), some (.long bytes), none, some (.int (x9 + (-1 : Int32)))]) d_X10_feed_71 rfl (by rw [kI_m1]) (by decide) rfl ?_
            refine g_goto d_X10_feed_74 ?_
            exact ih_35 _ (by rw [← hmu_35]; exact mu_dn h37) (x9 + (-1 : Int32)) I15 rfl hK16 (hi_dn hl12 h37) (by grind) (by grind) ⟨kf0, Nat.lt_of_lt_of_le (by rw [← hmu_35]; exact mu_dn h37) hkf0, hF⟩
      exact K_35 _ v8 I rfl hK0 (Int32.le_refl _) (by grind) (by grind) ⟨_, Nat.lt_succ_self _, hF⟩
    · skip
      replace hF := fe_neg hF h24
      refine g_ldc (v := -1000000004) d_X10_feed_27 tw_1200 ?_
      exact g_ireturn d_X10_feed_29 rfl rfl rfl rfl ⟨rfl, trivial, (-1000000004 : Int32), rfl, hF, ⟨Or.inr (Or.inl ⟨by grind, by grind, by grind, rfl, hma0⟩), mk_rfl hmj⟩⟩
  · skip
    replace hF := fe_pos hF h9
    refine g_ldc (v := -1000000002) d_X10_feed_12 tw_1199 ?_
    exact g_ireturn d_X10_feed_14 rfl rfl rfl rfl ⟨rfl, trivial, (-1000000002 : Int32), rfl, hF, ⟨Or.inl ⟨by grind, rfl, hma0⟩, mk_rfl hmj⟩⟩
noncomputable def fl_X10_box_117_4 (J2 : Jv) (Kf4 : Int32 → Iv → Int32 × Iv × Jv) : Nat → Int32 → Iv → Int32 × Iv × Jv
  | 0, x37, I38 => (0, I38, J2)
  | kf4 + 1, x37, I38 => if (15 : Int32) ≤ x37 then Kf4 x37 I38 else l_t (wI I38 81 (x37.toNatClampNeg) (I38 82 x37.toNatClampNeg)) (fun (I48 : Iv) => fl_X10_box_117_4 J2 Kf4 kf4 (x37 + (1 : Int32)) I48)
noncomputable def fl_X10_box_39_1 (J2 : Jv) (Kf1 : Int32 → Iv → Int32 × Iv × Jv) : Nat → Int32 → Iv → Int32 × Iv × Jv
  | 0, x21, I22 => (0, I22, J2)
  | kf1 + 1, x21, I22 => j_n (fun (I24 : Iv) => Kf1 x21 I24) (fun (j63_2 : Iv → Int32 × Iv × Jv) => if (I22 78 15) = 0 then b_n3 (fn_X10_here I22 J2) (fun (r55 : Int32) (I50 : Iv) (_ : Jv) => if r55 < 0 then j63_2 I50 else b_n2 (fn_X10_takeClause I50 J2) (fun (I58 : Iv) (_ : Jv) => fl_X10_box_39_1 J2 Kf1 kf1 (x21 + (1 : Int32)) I58)) else j63_2 I22)
noncomputable def fl_X10_box_15_0 (J2 : Jv) (Kf0 : Int32 → Iv → Int32 × Iv × Jv) : Nat → Int32 → Iv → Int32 × Iv × Jv
  | 0, x17, I18 => (0, I18, J2)
  | kf0 + 1, x17, I18 => if (15 : Int32) ≤ x17 then Kf0 x17 I18 else b_n3 (fn_X10_untold x17 I18 J2) (fun (r70 : Int32) (_ : Iv) (_ : Jv) => l_t (wI I18 82 (x17.toNatClampNeg) r70) (fun (I72 : Iv) => fl_X10_box_15_0 J2 Kf0 kf0 (x17 + (1 : Int32)) I72))
noncomputable def fn_X10_box (I : Iv) (J : Jv) : Int32 × Iv × Jv :=
  b_n2 (fn_X10_begin I J) (fun (I1 : Iv) (J2 : Jv) => b_n2 (fn_X10_beginReading I1 J2) (fun (I8 : Iv) (_ : Jv) => l_t (wI I8 78 17 (0 : Int32)) (fun (I15 : Iv) => fl_X10_box_15_0 J2 (fun (x17 : Int32) (I18 : Iv) => fl_X10_box_39_1 J2 (fun (x21 : Int32) (I24 : Iv) => j_n (fun (w26 : Int32) => b_n3 (fn_X10_want w26 (4 : Int32) (I24 78 11) I24 J2) (fun (r32 : Int32) (I27 : Iv) (_ : Jv) => l_t (wI I27 78 11 (0 : Int32)) (fun (I35 : Iv) => if (I35 78 15) ≤ 0 then fl_X10_box_117_4 J2 (fun (x37 : Int32) (I38 : Iv) => b_n2 (fn_X10_freshen (0 : Int32) I38 J2) (fun (_ : Iv) (J41 : Jv) => (x21, I38, J41))) (mU (15 : Int32) ((0 : Int32)) + 1) (0 : Int32) I35 else (((-10 : Int32) - (I35 78 15)), I35, J2)))) (fun (j86_3 : Int32 → Int32 × Iv × Jv) => if (I24 82 6) ≤ (I24 82 7) then j86_3 ((0 : Int32)) else j86_3 ((1 : Int32)))) (MR I18 + 1) (0 : Int32) I18) (mU (15 : Int32) ((0 : Int32)) + 1) (0 : Int32) I15)))
set_option maxRecDepth 100000 in
set_option maxHeartbeats 4000000 in
theorem ct_X10_box  (I : Iv) (J : Jv) (hma : MA I) (hmj : MJ J) : Ct m_X10_box [.ref 78] SHF I J (fun r S' I' J' => S' = SHF ∧ True ∧ ∃ v : Int32, r = some (.int v) ∧ fn_X10_box I J = (v, I', J') ∧ (MI (wI (bgI I) 78 11 0) I' ∧ (MK (bgJ I J) J' ∨ MK (wJ (bgJ I J) 79 54 0) J'))) := by
  refine ct_of 3 (by decide +kernel) rfl rfl ?_
  have hK0 : (MI I I ∧ MK J J) := ⟨mi_rfl hma, mk_rfl hmj⟩
  have hF := fe_of (fn_X10_box.eq_1 I J)
  refine g_aload_n d_X10_box_0 rfl ?_
  refine g_V0 d_X10_box_1 cs_X10_box_X10_begin lk_RX10_166 im_X10_begin se_X10_begin rfl rfl rfl (Nat.le_of_ble_eq_true rfl) ⟨rfl, rfl⟩ ⟨Nat.zero_le _, Nat.zero_le _⟩ (ct_X10_begin  I J hma hmj) (fun r1 S1 I1 J2 q1_2 => ?_)
  obtain ⟨rfl, hc1_3, rfl, hf1_4, hr1_5⟩ := q1_2
  replace hF := fe_b2 hF hf1_4
  refine g_st (st' := []) rfl ?_
  have hK7 : (MI (bgI I) I1 ∧ MK (bgJ I J) J2) := hr1_5
  refine g_aload_n d_X10_box_4 rfl ?_
  have hpp := (hK7).1.2
  refine g_V0 d_X10_box_5 cs_X10_box_X10_beginReading lk_RX10_169 im_X10_beginReading se_X10_beginReading rfl rfl rfl (Nat.le_of_ble_eq_true rfl) ⟨rfl, rfl⟩ ⟨Nat.zero_le _, Nat.zero_le _⟩ (ct_X10_beginReading  I1 J2 ) (fun r5 S5 I8 Jc10 q5_8 => ?_)
  obtain ⟨rfl, ⟨rfl, hc5_10⟩, rfl, hf5_11⟩ := q5_8
  replace hF := fe_b2 hF hf5_11
  refine g_st (st' := []) rfl ?_
  have hK14 : (MI (bgI I) I8 ∧ MK (bgJ I J) J2) := ⟨mi_br (hK7).1 ⟨hc5_10.1, hc5_10.2.1⟩, (hK7).2⟩
  have hat5 : I8 78 12 = 0 ∧ I8 78 15 = 0 := (hc5_10).2.2
  have hpa5 := br_pa hpp (hc5_10).2.1 hat5.1
  refine g_aload_n d_X10_box_8 rfl ?_
  refine g_iconst (v := 0) d_X10_box_9 kI_0 ?_
  refine g_putI d_X10_box_10 fq_RX10_146 rfl rfl ?_
  refine g_nmI (fun I15 eI15 => ?_)
  replace hF := fe_lt hF eI15
  have hK16 : (MI (bgI I) I15 ∧ MK (bgJ I J) J2) := (by rw [eI15]; exact ⟨mi_free (hK14).1 rfl, (hK14).2⟩)
  have hpa10 : PA I15 ∧ I15 78 15 = 0 := by rw [eI15]; exact ⟨pa_w hpa5 (by decide), by rw [wI_ne (by decide)]; exact hat5.2⟩
  refine g_iconst (v := 0) d_X10_box_13 kI_0 ?_
  refine g_istore_n (L' := [some (.ref 78), some (.int (0 : Int32)), none, none]) d_X10_box_14 (by decide) rfl ?_
  obtain ⟨Kf0, hKf0, hF⟩ := fe_kx (f := fun K => fl_X10_box_15_0 J2 K (mU (15 : Int32) ((0 : Int32)) + 1) (0 : Int32) I15) hF
  have K_15 : ∀ (nu : Nat) (x17 : Int32) (I18 : Iv), mU (15 : Int32) x17 = nu → ((MI (bgI I) I18 ∧ MK (bgJ I J) J2)) → ((0 : Int32) ≤ x17) → ((8 < x17 → I18 82 8 = 1) ∧ (2 < x17 → I18 82 2 = 3)) → (PA I18 ∧ I18 78 15 = 0) → (∃ kq : Nat, nu < kq ∧ (fun kq => FE (fn_X10_box I J) (fun _ => fl_X10_box_15_0 J2 Kf0 kq x17 I18)) kq) → G m_X10_box (rq m_X10_box (fun r S' I' J' => S' = SHF ∧ True ∧ ∃ v : Int32, r = some (.int v) ∧ fn_X10_box I J = (v, I', J') ∧ (MI (wI (bgI I) 78 11 0) I' ∧ (MK (bgJ I J) J' ∨ MK (wJ (bgJ I J) 79 54 0) J')))) 0 0 15 [some (.ref 78), some (.int x17), none, none] [] SHF I18 J2 := by
    intro nu
    induction nu using Nat.strongRecOn with
    | ind nu ih_15 =>
      intro x17 I18 hmu_15 hK19 hl20 hb_15 hp_15 hF_Kf0
      obtain ⟨kf0, hkf0, hF⟩ := fe_fu (P := fun kq => FE (fn_X10_box I J) (fun _ => fl_X10_box_15_0 J2 Kf0 kq x17 I18)) hF_Kf0
      replace hF := fe_eq hF (fl_X10_box_15_0.eq_2 _ _ _ _ _)
      refine g_iload_n d_X10_box_15 rfl ?_
      refine g_bipush (v := 15) d_X10_box_16 kB_15 ?_
      refine g_icmp_ge d_X10_box_18 (fun h18 => ?_) (fun h18 => ?_)
      · skip
        replace hF := fe_pos hF h18
        replace hF := fe_eq hF (congrFun (congrFun hKf0 x17) I18)
        refine g_iconst (v := 0) d_X10_box_37 kI_0 ?_
        refine g_istore_n (L' := [some (.ref 78), some (.int (0 : Int32)), none, none]) d_X10_box_38 (by decide) rfl ?_
        obtain ⟨Kf1, hKf1, hF⟩ := fe_kx (f := fun K => fl_X10_box_39_1 J2 K (MR I18 + 1) (0 : Int32) I18) hF
        have K_39 : ∀ (nu : Nat) (x21 : Int32) (I22 : Iv), MR I22 = nu → ((MI (bgI I) I22 ∧ MK (bgJ I J) J2)) → (PA I22) → (RK I22) → (0 ≤ I22 78 15) → (∃ kq : Nat, nu < kq ∧ (fun kq => FE (fn_X10_box I J) (fun _ => fl_X10_box_39_1 J2 Kf1 kq x21 I22)) kq) → G m_X10_box (rq m_X10_box (fun r S' I' J' => S' = SHF ∧ True ∧ ∃ v : Int32, r = some (.int v) ∧ fn_X10_box I J = (v, I', J') ∧ (MI (wI (bgI I) 78 11 0) I' ∧ (MK (bgJ I J) J' ∨ MK (wJ (bgJ I J) 79 54 0) J')))) 0 0 39 [some (.ref 78), some (.int x21), none, none] [] SHF I22 J2 := by
          intro nu
          induction nu using Nat.strongRecOn with
          | ind nu ih_39 =>
            intro x21 I22 hmu_39 hK23 hpa_39 hrk_39 hfl_39 hF_Kf1
            obtain ⟨kf1, hkf1, hF⟩ := fe_fu (P := fun kq => FE (fn_X10_box I J) (fun _ => fl_X10_box_39_1 J2 Kf1 kq x21 I22)) hF_Kf1
            replace hF := fe_eq hF (fl_X10_box_39_1.eq_2 _ _ _ _ _)
            refine g_aload_n d_X10_box_39 rfl ?_
            refine g_getI d_X10_box_40 fq_RX10_110 rfl rfl ?_
            obtain ⟨j63_2, hj63_2, hF⟩ := fe_jx hF
            have J_63 : ∀ (I24 : Iv), ((MI (bgI I) I24 ∧ MK (bgJ I J) J2)) → (PA I24 ∧ RK I24 ∧ 0 ≤ I24 78 15) → (FE (fn_X10_box I J) (fun _ => j63_2 I24)) → G m_X10_box (rq m_X10_box (fun r S' I' J' => S' = SHF ∧ True ∧ ∃ v : Int32, r = some (.int v) ∧ fn_X10_box I J = (v, I', J') ∧ (MI (wI (bgI I) 78 11 0) I' ∧ (MK (bgJ I J) J' ∨ MK (wJ (bgJ I J) 79 54 0) J')))) 0 0 63 [some (.ref 78), some (.int x21), none, none] [] SHF I24 J2 := by
              intro I24 hK25 hj_63 hF_j63_2
              have hF := fe_eq hF_j63_2 (congrFun hj63_2 I24)
              replace hF := fe_eq hF (congrFun (congrFun hKf1 x21) I24)
              refine g_aload_n d_X10_box_63 rfl ?_
              refine g_aload_n d_X10_box_64 rfl ?_
              refine g_getR d_X10_box_65 fq_RX10_21 rfl rfl ?_
              refine g_bipush (v := 7) d_X10_box_68 kB_7 ?_
              refine g_iaload (N := 15) d_X10_box_70 rfl kT_15 ⟨by decide, by decide⟩ kN_7 ?_
              refine g_aload_n d_X10_box_71 rfl ?_
              refine g_getR d_X10_box_72 fq_RX10_21 rfl rfl ?_
              refine g_bipush (v := 6) d_X10_box_75 kB_6 ?_
              refine g_iaload (N := 15) d_X10_box_77 rfl kT_15 ⟨by decide, by decide⟩ kN_6 ?_
              obtain ⟨j86_3, hj86_3, hF⟩ := fe_jx hF
              have J_86 : ∀ (w26 : Int32), (w26 = 0 ∨ w26 = 1) → (FE (fn_X10_box I J) (fun _ => j86_3 w26)) → G m_X10_box (rq m_X10_box (fun r S' I' J' => S' = SHF ∧ True ∧ ∃ v : Int32, r = some (.int v) ∧ fn_X10_box I J = (v, I', J') ∧ (MI (wI (bgI I) 78 11 0) I' ∧ (MK (bgJ I J) J' ∨ MK (wJ (bgJ I J) 79 54 0) J')))) 0 0 86 [some (.ref 78), some (.int x21), none, none] [.int w26, .ref 78] SHF I24 J2 := by
                intro w26 hw26 hF_j86_3
                have hF := fe_eq hF_j86_3 (congrFun hj86_3 w26)
                refine g_iconst (v := 4) d_X10_box_86 kI_4 ?_
                refine g_aload_n d_X10_box_87 rfl ?_
                refine g_getI d_X10_box_88 fq_RX10_101 rfl rfl ?_
                refine g_V3 d_X10_box_91 cs_X10_box_X10_want lk_RX10_131 im_X10_want se_X10_want rfl rfl rfl (Nat.le_of_ble_eq_true rfl) ⟨rfl, rfl⟩ ⟨Nat.zero_le _, Nat.zero_le _⟩ (ct_X10_want w26 (4 : Int32) (I24 78 11) I24 J2 hj_63.1 (by grind)) (fun r91 S91 I27 Jc29 q91_27 => ?_)
                obtain ⟨rfl, ⟨rfl, hc91_29⟩, r32, rfl, hz91, hf91_30, hr91_32⟩ := q91_27
                replace hF := fe_b3 hF hf91_30
                refine g_st (st' := [.int r32]) rfl ?_
                have hK34 : (MI (bgI I) I27 ∧ MK (bgJ I J) J2) := ⟨mi_pc (hK25).1 ⟨fun b h1 h2 => hc91_29.1 b h1, hc91_29.2.1⟩, (hK25).2⟩
                have hrk91 := pf_rk hc91_29 hj_63.2.1
                have hfl91 := (hc91_29).2.2.2.2.2 hj_63.2.2
                refine g_istore_n (L' := [some (.ref 78), some (.int x21), some (.int r32), none]) d_X10_box_94 (by decide) rfl ?_
                refine g_aload_n d_X10_box_95 rfl ?_
                refine g_iconst (v := 0) d_X10_box_96 kI_0 ?_
                refine g_putI d_X10_box_97 fq_RX10_101 rfl rfl ?_
                refine g_nmI (fun I35 eI35 => ?_)
                replace hF := fe_lt hF eI35
                have hK36 : (MI (wI (bgI I) 78 11 (0 : Int32)) I35 ∧ MK (bgJ I J) J2) := (by rw [eI35]; exact ⟨mi_11 (hK34).1 (by decide), (hK34).2⟩)
                have hrk97 : RK I35 ∧ I35 78 15 = I27 78 15 := by rw [eI35]; exact ⟨fun q => by rw [wI_row (by decide)]; exact hrk91 (by rw [wI_ne (by decide)] at q; exact q), wI_ne (by decide)⟩
                refine g_aload_n d_X10_box_100 rfl ?_
                refine g_getI d_X10_box_101 fq_RX10_110 rfl rfl ?_
                refine g_if_le d_X10_box_104 (fun h104 => ?_) (fun h104 => ?_)
                · skip
                  replace hF := fe_pos hF h104
                  refine g_iconst (v := 0) d_X10_box_115 kI_0 ?_
                  refine g_istore_n (L' := [some (.ref 78), some (.int x21), some (.int r32), some (.int (0 : Int32))]) d_X10_box_116 (by decide) rfl ?_
                  obtain ⟨Kf4, hKf4, hF⟩ := fe_kx (f := fun K => fl_X10_box_117_4 J2 K (mU (15 : Int32) ((0 : Int32)) + 1) (0 : Int32) I35) hF
                  have K_117 : ∀ (nu : Nat) (x37 : Int32) (I38 : Iv), mU (15 : Int32) x37 = nu → ((MI (wI (bgI I) 78 11 (0 : Int32)) I38 ∧ MK (bgJ I J) J2)) → ((0 : Int32) ≤ x37) → ((0 ≤ I38 82 8 ∧ I38 82 8 ≤ 2) ∧ (0 ≤ I38 82 2 ∧ I38 82 2 ≤ 99)) → (∃ kq : Nat, nu < kq ∧ (fun kq => FE (fn_X10_box I J) (fun _ => fl_X10_box_117_4 J2 Kf4 kq x37 I38)) kq) → G m_X10_box (rq m_X10_box (fun r S' I' J' => S' = SHF ∧ True ∧ ∃ v : Int32, r = some (.int v) ∧ fn_X10_box I J = (v, I', J') ∧ (MI (wI (bgI I) 78 11 0) I' ∧ (MK (bgJ I J) J' ∨ MK (wJ (bgJ I J) 79 54 0) J')))) 0 0 117 [some (.ref 78), some (.int x21), some (.int r32), some (.int x37)] [] SHF I38 J2 := by
                    intro nu
                    induction nu using Nat.strongRecOn with
                    | ind nu ih_117 =>
                      intro x37 I38 hmu_117 hK39 hl40 hrd_117 hF_Kf4
                      obtain ⟨kf4, hkf4, hF⟩ := fe_fu (P := fun kq => FE (fn_X10_box I J) (fun _ => fl_X10_box_117_4 J2 Kf4 kq x37 I38)) hF_Kf4
                      replace hF := fe_eq hF (fl_X10_box_117_4.eq_2 _ _ _ _ _)
                      refine g_iload_n d_X10_box_117 rfl ?_
                      refine g_bipush (v := 15) d_X10_box_118 kB_15 ?_
                      refine g_icmp_ge d_X10_box_120 (fun h120 => ?_) (fun h120 => ?_)
                      · skip
                        replace hF := fe_pos hF h120
                        replace hF := fe_eq hF (congrFun (congrFun hKf4 x37) I38)
                        refine g_aload_n d_X10_box_141 rfl ?_
                        refine g_iconst (v := 0) d_X10_box_142 kI_0 ?_
                        refine g_V1 d_X10_box_143 cs_X10_box_X10_freshen lk_RX10_84 im_X10_freshen se_X10_freshen rfl rfl rfl (Nat.le_of_ble_eq_true rfl) ⟨rfl, rfl⟩ ⟨Nat.zero_le _, Nat.zero_le _⟩ (ct_X10_freshen (0 : Int32) I38 J2 (by decide)) (fun r143 S143 Ic43 J41 q143_41 => ?_)
                        obtain ⟨rfl, ⟨rfl, hc143_43⟩, rfl, hf143_44, hr143_45⟩ := q143_41
                        replace hF := fe_b2 hF hf143_44
                        refine g_st (st' := []) rfl ?_
                        have hK47 : (MI (wI (bgI I) 78 11 (0 : Int32)) I38 ∧ MK (wJ (bgJ I J) 79 54 0) J41) := ⟨(hK39).1, fh_mk0 (hK39).2 hr143_45⟩
                        refine g_iload_n d_X10_box_146 rfl ?_
                        exact g_ireturn d_X10_box_147 rfl rfl rfl rfl ⟨rfl, trivial, x21, rfl, hF, ⟨(hK47).1, Or.inr (hK47).2⟩⟩
                      · skip
                        replace hF := fe_neg hF h120
                        refine g_aload_n d_X10_box_123 rfl ?_
                        refine g_getR d_X10_box_124 fq_RX10_17 rfl rfl ?_
                        refine g_iload_n d_X10_box_127 rfl ?_
                        refine g_aload_n d_X10_box_128 rfl ?_
                        refine g_getR d_X10_box_129 fq_RX10_21 rfl rfl ?_
                        refine g_iload_n d_X10_box_132 rfl ?_
                        refine g_iaload (N := 15) d_X10_box_133 rfl kT_15 ⟨hl40, Int32.not_le.mp h120⟩ rfl ?_
                        refine g_iastore (N := 15) d_X10_box_134 rfl kT_15 ⟨hl40, Int32.not_le.mp h120⟩ rfl  ?_
                        refine g_nmI (fun I48 eI48 => ?_)
                        replace hF := fe_lt hF eI48
                        have hK49 : (MI (wI (bgI I) 78 11 (0 : Int32)) I48 ∧ MK (bgJ I J) J2) := (by rw [eI48]; exact ⟨mi_81 (hK39).1 (fun hh => by rw [hh]; exact hrd_117.1) (fun hh => by rw [hh]; exact hrd_117.2), (hK39).2⟩)
                        have hrd134 : (0 ≤ I48 82 8 ∧ I48 82 8 ≤ 2) ∧ (0 ≤ I48 82 2 ∧ I48 82 2 ≤ 99) := by rw [eI48, wI_row (by decide)]; exact hrd_117
                        refine g_iinc (v := (x37 + (1 : Int32))) (L' := [some (.ref 78), some (.int x21), some (.int r32), some (.int (x37 + (1 : Int32)))]) d_X10_box_135 rfl (by rw [kI_1]) (by decide) rfl ?_
                        refine g_goto d_X10_box_138 ?_
                        exact ih_117 _ (by rw [← hmu_117]; exact mu_up h120) (x37 + (1 : Int32)) I48 rfl hK49 (lo_up hl40 h120) hrd134 ⟨kf4, Nat.lt_of_lt_of_le (by rw [← hmu_117]; exact mu_up h120) hkf4, hF⟩
                  exact K_117 _ (0 : Int32) I35 rfl hK36 (Int32.le_refl _) (hrk97.1 (by grind)) ⟨_, Nat.lt_succ_self _, hF⟩
                · skip
                  replace hF := fe_neg hF h104
                  refine g_bipush (v := -10) d_X10_box_107 kB_m10 ?_
                  refine g_aload_n d_X10_box_109 rfl ?_
                  refine g_getI d_X10_box_110 fq_RX10_110 rfl rfl ?_
                  refine g_isub d_X10_box_113 ?_
                  exact g_ireturn d_X10_box_114 rfl rfl rfl rfl ⟨rfl, trivial, ((-10 : Int32) - (I35 78 15)), rfl, hF, ⟨(hK36).1, Or.inl (hK36).2⟩⟩
              refine g_icmp_ge d_X10_box_78 (fun h78 => ?_) (fun h78 => ?_)
              · skip
                replace hF := fe_pos hF h78
                refine g_iconst (v := 0) d_X10_box_85 kI_0 ?_
                exact J_86 ((0 : Int32)) (Or.inl rfl) hF
              · skip
                replace hF := fe_neg hF h78
                refine g_iconst (v := 1) d_X10_box_81 kI_1 ?_
                refine g_goto d_X10_box_82 ?_
                exact J_86 ((1 : Int32)) (Or.inr rfl) hF
            refine g_if_ne d_X10_box_43 (fun h43 => ?_) (fun h43 => ?_)
            · skip
              replace hF := fe_neg hF h43
              exact J_63 I22 hK23 (by first | exact ⟨hpa_39, hrk_39, hfl_39⟩ | exact ⟨hpa47, hrk47, hfl47⟩) hF
            · skip
              replace hF := fe_pos hF h43
              refine g_aload_n d_X10_box_46 rfl ?_
              refine g_V0 d_X10_box_47 cs_X10_box_X10_here lk_RX10_113 im_X10_here se_X10_here rfl rfl rfl (Nat.le_of_ble_eq_true rfl) ⟨rfl, rfl⟩ ⟨Nat.zero_le _, Nat.zero_le _⟩ (ct_X10_here  I22 J2 hpa_39) (fun r47 S47 I50 Jc52 q47_50 => ?_)
              obtain ⟨rfl, ⟨rfl, hc47_52⟩, r55, rfl, hf47_53, hr47_55⟩ := q47_50
              replace hF := fe_b3 hF hf47_53
              refine g_st (st' := [.int r55]) rfl ?_
              have hK57 : (MI (bgI I) I50 ∧ MK (bgJ I J) J2) := ⟨mi_pc (hK23).1 ⟨fun b h1 h2 => hc47_52.1 b h1, hc47_52.2.1⟩, (hK23).2⟩
              have hpa47 := (hc47_52).2.2.1
              have hrk47 := pf_rk hc47_52 hrk_39
              have hfl47 := (hc47_52).2.2.2.2.2 hfl_39
              have hsz47 := (hc47_52).size
              have hmo47 := (hc47_52).2.2.2.1
              have hst47 := hr47_55
              refine g_if_lt d_X10_box_50 (fun h50 => ?_) (fun h50 => ?_)
              · skip
                replace hF := fe_pos hF h50
                exact J_63 I50 hK57 (by first | exact ⟨hpa_39, hrk_39, hfl_39⟩ | exact ⟨hpa47, hrk47, hfl47⟩) hF
              · skip
                replace hF := fe_neg hF h50
                refine g_aload_n d_X10_box_53 rfl ?_
                refine g_V0 d_X10_box_54 cs_X10_box_X10_takeClause lk_RX10_172 im_X10_takeClause se_X10_takeClause rfl rfl rfl (Nat.le_of_ble_eq_true rfl) ⟨rfl, rfl⟩ ⟨Nat.zero_le _, Nat.zero_le _⟩ (ct_X10_takeClause  I50 J2 hpa47 hrk47) (fun r54 S54 I58 Jc60 q54_58 => ?_)
                obtain ⟨rfl, ⟨rfl, hc54_60⟩, rfl, hf54_61, hr54_62⟩ := q54_58
                replace hF := fe_b2 hF hf54_61
                refine g_st (st' := []) rfl ?_
                have hK64 : (MI (bgI I) I58 ∧ MK (bgJ I J) J2) := ⟨mi_pc (hK57).1 ⟨hc54_60.1, hc54_60.2.1⟩, (hK57).2⟩
                have hpa54 := (hc54_60).2.2.1
                have hrk54 := (hc54_60).2.2.2.2.2.1
                have hfl54 := (hc54_60).2.2.2.2.2.2 hfl47
                have hsz54 := (hc54_60).size
                have hmo54 := (hc54_60).2.2.2.1
                have hgr54 := hr54_62
                refine g_iinc (v := (x21 + (1 : Int32))) (L' := [some (.ref 78), some (.int (x21 + (1 : Int32))), none, none]) d_X10_box_57 rfl (by rw [kI_1]) (by decide) rfl ?_
                refine g_goto d_X10_box_60 ?_
                exact ih_39 _ (by rw [← hmu_39]; exact mr_dec h43 (hsz54.trans hsz47) hpa54 (Int32.le_trans hmo47 hmo54) (fun q => Int32.lt_of_le_of_lt hmo47 (hgr54 q))) (x21 + (1 : Int32)) I58 rfl hK64 hpa54 hrk54 hfl54 ⟨kf1, Nat.lt_of_lt_of_le (by rw [← hmu_39]; exact mr_dec h43 (hsz54.trans hsz47) hpa54 (Int32.le_trans hmo47 hmo54) (fun q => Int32.lt_of_le_of_lt hmo47 (hgr54 q))) hkf1, hF⟩
        exact K_39 _ (0 : Int32) I18 rfl hK19 hp_15.1 (fun _ => by rw [hb_15.1 (by grind), hb_15.2 (by grind)]; decide) (by rw [hp_15.2]; decide) ⟨_, Nat.lt_succ_self _, hF⟩
      · skip
        replace hF := fe_neg hF h18
        refine g_aload_n d_X10_box_21 rfl ?_
        refine g_getR d_X10_box_22 fq_RX10_21 rfl rfl ?_
        refine g_iload_n d_X10_box_25 rfl ?_
        refine g_iload_n d_X10_box_26 rfl ?_
        refine g_S1 d_X10_box_27 cs_X10_box_X10_untold lk_RX10_80 im_X10_untold (Nat.le_of_ble_eq_true rfl) ⟨rfl, rfl⟩ ⟨Nat.zero_le _, Nat.zero_le _⟩ (ct_X10_untold x17 I18 J2 ) (fun r27 S27 Ic66 Jc67 q27_64 => ?_)
        obtain ⟨rfl, rfl, rfl, r70, rfl, hf27_68, hr27_70⟩ := q27_64
        replace hF := fe_b3 hF hf27_68
        refine g_st (st' := [.int r70, .int x17, .ref 82]) rfl ?_
        have hbx := hr27_70
        refine g_iastore (N := 15) d_X10_box_30 rfl kT_15 ⟨hl20, Int32.not_le.mp h18⟩ rfl  ?_
        refine g_nmI (fun I72 eI72 => ?_)
        replace hF := fe_lt hF eI72
        have hK73 : (MI (bgI I) I72 ∧ MK (bgJ I J) J2) := (by rw [eI72]; exact ⟨mi_free (hK19).1 rfl, (hK19).2⟩)
        refine g_iinc (v := (x17 + (1 : Int32))) (L' := [some (.ref 78), some (.int (x17 + (1 : Int32))), none, none]) d_X10_box_31 rfl (by rw [kI_1]) (by decide) rfl ?_
        refine g_goto d_X10_box_34 ?_
        exact ih_15 _ (by rw [← hmu_15]; exact mu_up h18) (x17 + (1 : Int32)) I72 rfl hK73 (lo_up hl20 h18) (by rw [eI72]; exact box_step 82 hl20 hbx hb_15 h18) (by rw [eI72]; exact ⟨pa_w hp_15.1 (by omega), by rw [wI_ne (by omega)]; exact hp_15.2⟩) ⟨kf0, Nat.lt_of_lt_of_le (by rw [← hmu_15]; exact mu_up h18) hkf0, hF⟩
  exact K_15 _ (0 : Int32) I15 rfl hK16 (Int32.le_refl _) (by constructor <;> intro q <;> exact absurd q (by decide)) hpa10 ⟨_, Nat.lt_succ_self _, hF⟩
noncomputable def fl_X10_day_169_2 (J2 : Jv) (x15 : Int32) (Kf2 : Int32 → Iv → Int32 × Iv × Jv) : Nat → Int32 → Iv → Int32 × Iv × Jv
  | 0, x24, I25 => (0, I25, J2)
  | kf2 + 1, x24, I25 => if x15 ≤ x24 then Kf2 x24 I25 else l_t (wI I25 83 (x24.toNatClampNeg) (I25 85 x24.toNatClampNeg)) (fun (I28 : Iv) => l_t (wI I28 84 (x24.toNatClampNeg) (I28 86 x24.toNatClampNeg)) (fun (I30 : Iv) => fl_X10_day_169_2 J2 x15 Kf2 kf2 (x24 + (1 : Int32)) I30))
noncomputable def fl_X10_day_10_0 (J2 : Jv) (Kf0 : Int32 → Iv → Int32 × Iv × Jv) : Nat → Int32 → Iv → Int32 × Iv × Jv
  | 0, x15, I16 => (0, I16, J2)
  | kf0 + 1, x15, I16 => j_n (fun (I18 : Iv) => Kf0 x15 I18) (fun (j142_1 : Iv → Int32 × Iv × Jv) => if (I16 78 15) = 0 then b_n3 (fn_X10_here I16 J2) (fun (r37 : Int32) (I32 : Iv) (_ : Jv) => if r37 < 0 then j142_1 I32 else b_n2 (fn_X10_takeWord I32 J2) (fun (I40 : Iv) (_ : Jv) => b_n3 (fn_X10_isWord (4 : Int32) (111 : Int32) (112 : Int32) (101 : Int32) (110 : Int32) (0 : Int32) I40 J2) (fun (r52 : Int32) (_ : Iv) (_ : Jv) => b_n3 (fn_X10_want r52 (1 : Int32) (I40 78 13) I40 J2) (fun (r59 : Int32) (I54 : Iv) (_ : Jv) => if r59 = 0 then fl_X10_day_10_0 J2 Kf0 kf0 x15 I54 else j_n (fun (w62 : Int32) => b_n3 (fn_X10_want w62 (3 : Int32) (I54 78 13) I54 J2) (fun (r68 : Int32) (I63 : Iv) (_ : Jv) => if r68 = 0 then fl_X10_day_10_0 J2 Kf0 kf0 x15 I63 else j_n (fun (w71 : Int32) => b_n3 (fn_X10_takeNumber w71 (287 : Int32) I63 J2) (fun (r77 : Int32) (I72 : Iv) (_ : Jv) => l_t (wI I72 85 (x15.toNatClampNeg) r77) (fun (I80 : Iv) => j_n (fun (w82 : Int32) (I83 : Iv) => l_t (wI I83 86 (x15.toNatClampNeg) w82) (fun (I85 : Iv) => b_n2 (fn_X10_takeEnd I85 J2) (fun (I87 : Iv) (_ : Jv) => fl_X10_day_10_0 J2 Kf0 kf0 (x15 + (1 : Int32)) I87))) (fun (j131_5 : Int32 → Iv → Int32 × Iv × Jv) => if (I80 78 15) = 0 then b_n3 (fn_X10_takeNumber (1 : Int32) (20 : Int32) I80 J2) (fun (r99 : Int32) (I94 : Iv) (_ : Jv) => j131_5 r99 I94) else j131_5 ((0 : Int32)) I80)))) (fun (j101_4 : Int32 → Int32 × Iv × Jv) => if x15 = 0 then j101_4 ((0 : Int32)) else j101_4 (((I63 85 ((x15 - (1 : Int32))).toNatClampNeg) + (1 : Int32)))))) (fun (j66_3 : Int32 → Int32 × Iv × Jv) => if (12 : Int32) ≤ x15 then j66_3 ((0 : Int32)) else j66_3 ((1 : Int32))))))) else j142_1 I16)
noncomputable def fn_X10_day (I : Iv) (J : Jv) : Int32 × Iv × Jv :=
  b_n2 (fn_X10_begin I J) (fun (I1 : Iv) (J2 : Jv) => b_n2 (fn_X10_beginReading I1 J2) (fun (I8 : Iv) (_ : Jv) => fl_X10_day_10_0 J2 (fun (x15 : Int32) (I18 : Iv) => l_t (wI I18 78 11 (0 : Int32)) (fun (I20 : Iv) => if (I20 78 15) ≤ 0 then l_t (wI I20 78 5 x15) (fun (I22 : Iv) => fl_X10_day_169_2 J2 x15 (fun (x24 : Int32) (I25 : Iv) => (x15, I25, J2)) (mU x15 ((0 : Int32)) + 1) (0 : Int32) I22) else (((-10 : Int32) - (I20 78 15)), I20, J2))) (MR I8 + 1) (0 : Int32) I8))
set_option maxRecDepth 100000 in
set_option maxHeartbeats 4000000 in
theorem ct_X10_day  (I : Iv) (J : Jv) (hma : MA I) (hmj : MJ J) : Ct m_X10_day [.ref 78] SHF I J (fun r S' I' J' => S' = SHF ∧ True ∧ ∃ v : Int32, r = some (.int v) ∧ fn_X10_day I J = (v, I', J') ∧ (MI (wI (bgI I) 78 11 0) I' ∧ MK (bgJ I J) J')) := by
  refine ct_of 2 (by decide +kernel) rfl rfl ?_
  have hK0 : (MI I I ∧ MK J J) := ⟨mi_rfl hma, mk_rfl hmj⟩
  have hF := fe_of (fn_X10_day.eq_1 I J)
  refine g_aload_n d_X10_day_0 rfl ?_
  refine g_V0 d_X10_day_1 cs_X10_day_X10_begin lk_RX10_166 im_X10_begin se_X10_begin rfl rfl rfl (Nat.le_of_ble_eq_true rfl) ⟨rfl, rfl⟩ ⟨Nat.zero_le _, Nat.zero_le _⟩ (ct_X10_begin  I J hma hmj) (fun r1 S1 I1 J2 q1_2 => ?_)
  obtain ⟨rfl, hc1_3, rfl, hf1_4, hr1_5⟩ := q1_2
  replace hF := fe_b2 hF hf1_4
  refine g_st (st' := []) rfl ?_
  have hK7 : (MI (bgI I) I1 ∧ MK (bgJ I J) J2) := hr1_5
  refine g_aload_n d_X10_day_4 rfl ?_
  have hpp := (hK7).1.2
  refine g_V0 d_X10_day_5 cs_X10_day_X10_beginReading lk_RX10_169 im_X10_beginReading se_X10_beginReading rfl rfl rfl (Nat.le_of_ble_eq_true rfl) ⟨rfl, rfl⟩ ⟨Nat.zero_le _, Nat.zero_le _⟩ (ct_X10_beginReading  I1 J2 ) (fun r5 S5 I8 Jc10 q5_8 => ?_)
  obtain ⟨rfl, ⟨rfl, hc5_10⟩, rfl, hf5_11⟩ := q5_8
  replace hF := fe_b2 hF hf5_11
  refine g_st (st' := []) rfl ?_
  have hK14 : (MI (bgI I) I8 ∧ MK (bgJ I J) J2) := ⟨mi_br (hK7).1 ⟨hc5_10.1, hc5_10.2.1⟩, (hK7).2⟩
  have hat5 : I8 78 12 = 0 ∧ I8 78 15 = 0 := (hc5_10).2.2
  have hpa5 := br_pa hpp (hc5_10).2.1 hat5.1
  refine g_iconst (v := 0) d_X10_day_8 kI_0 ?_
  refine g_istore_n (L' := [some (.ref 78), some (.int (0 : Int32)), none]) d_X10_day_9 (by decide) rfl ?_
  obtain ⟨Kf0, hKf0, hF⟩ := fe_kx (f := fun K => fl_X10_day_10_0 J2 K (MR I8 + 1) (0 : Int32) I8) hF
  have K_10 : ∀ (nu : Nat) (x15 : Int32) (I16 : Iv), MR I16 = nu → ((MI (bgI I) I16 ∧ MK (bgJ I J) J2)) → (PA I16) → (0 ≤ x15 ∧ x15 ≤ 12) → (∃ kq : Nat, nu < kq ∧ (fun kq => FE (fn_X10_day I J) (fun _ => fl_X10_day_10_0 J2 Kf0 kq x15 I16)) kq) → G m_X10_day (rq m_X10_day (fun r S' I' J' => S' = SHF ∧ True ∧ ∃ v : Int32, r = some (.int v) ∧ fn_X10_day I J = (v, I', J') ∧ (MI (wI (bgI I) 78 11 0) I' ∧ MK (bgJ I J) J'))) 0 0 10 [some (.ref 78), some (.int x15), none] [] SHF I16 J2 := by
    intro nu
    induction nu using Nat.strongRecOn with
    | ind nu ih_10 =>
      intro x15 I16 hmu_10 hK17 hpa_10 hn_10 hF_Kf0
      obtain ⟨kf0, hkf0, hF⟩ := fe_fu (P := fun kq => FE (fn_X10_day I J) (fun _ => fl_X10_day_10_0 J2 Kf0 kq x15 I16)) hF_Kf0
      replace hF := fe_eq hF (fl_X10_day_10_0.eq_2 _ _ _ _ _)
      refine g_aload_n d_X10_day_10 rfl ?_
      refine g_getI d_X10_day_11 fq_RX10_110 rfl rfl ?_
      obtain ⟨j142_1, hj142_1, hF⟩ := fe_jx hF
      have J_142 : ∀ (I18 : Iv), ((MI (bgI I) I18 ∧ MK (bgJ I J) J2)) → (FE (fn_X10_day I J) (fun _ => j142_1 I18)) → G m_X10_day (rq m_X10_day (fun r S' I' J' => S' = SHF ∧ True ∧ ∃ v : Int32, r = some (.int v) ∧ fn_X10_day I J = (v, I', J') ∧ (MI (wI (bgI I) 78 11 0) I' ∧ MK (bgJ I J) J'))) 0 0 142 [some (.ref 78), some (.int x15), none] [] SHF I18 J2 := by
        intro I18 hK19 hF_j142_1
        have hF := fe_eq hF_j142_1 (congrFun hj142_1 I18)
        replace hF := fe_eq hF (congrFun (congrFun hKf0 x15) I18)
        refine g_aload_n d_X10_day_142 rfl ?_
        refine g_iconst (v := 0) d_X10_day_143 kI_0 ?_
        refine g_putI d_X10_day_144 fq_RX10_101 rfl rfl ?_
        refine g_nmI (fun I20 eI20 => ?_)
        replace hF := fe_lt hF eI20
        have hK21 : (MI (wI (bgI I) 78 11 (0 : Int32)) I20 ∧ MK (bgJ I J) J2) := (by rw [eI20]; exact ⟨mi_11 (hK19).1 (by decide), (hK19).2⟩)
        refine g_aload_n d_X10_day_147 rfl ?_
        refine g_getI d_X10_day_148 fq_RX10_110 rfl rfl ?_
        refine g_if_le d_X10_day_151 (fun h151 => ?_) (fun h151 => ?_)
        · skip
          replace hF := fe_pos hF h151
          refine g_aload_n d_X10_day_162 rfl ?_
          refine g_iload_n d_X10_day_163 rfl ?_
          refine g_putI d_X10_day_164 fq_RX10_175 rfl rfl ?_
          refine g_nmI (fun I22 eI22 => ?_)
          replace hF := fe_lt hF eI22
          have hK23 : (MI (wI (bgI I) 78 11 (0 : Int32)) I22 ∧ MK (bgJ I J) J2) := (by rw [eI22]; exact ⟨mi_5 (hK21).1 hn_10, (hK21).2⟩)
          refine g_iconst (v := 0) d_X10_day_167 kI_0 ?_
          refine g_istore_n (L' := [some (.ref 78), some (.int x15), some (.int (0 : Int32))]) d_X10_day_168 (by decide) rfl ?_
          obtain ⟨Kf2, hKf2, hF⟩ := fe_kx (f := fun K => fl_X10_day_169_2 J2 x15 K (mU x15 ((0 : Int32)) + 1) (0 : Int32) I22) hF
          have K_169 : ∀ (nu : Nat) (x24 : Int32) (I25 : Iv), mU x15 x24 = nu → ((MI (wI (bgI I) 78 11 (0 : Int32)) I25 ∧ MK (bgJ I J) J2)) → ((0 : Int32) ≤ x24) → (∃ kq : Nat, nu < kq ∧ (fun kq => FE (fn_X10_day I J) (fun _ => fl_X10_day_169_2 J2 x15 Kf2 kq x24 I25)) kq) → G m_X10_day (rq m_X10_day (fun r S' I' J' => S' = SHF ∧ True ∧ ∃ v : Int32, r = some (.int v) ∧ fn_X10_day I J = (v, I', J') ∧ (MI (wI (bgI I) 78 11 0) I' ∧ MK (bgJ I J) J'))) 0 0 169 [some (.ref 78), some (.int x15), some (.int x24)] [] SHF I25 J2 := by
            intro nu
            induction nu using Nat.strongRecOn with
            | ind nu ih_169 =>
              intro x24 I25 hmu_169 hK26 hl27 hF_Kf2
              obtain ⟨kf2, hkf2, hF⟩ := fe_fu (P := fun kq => FE (fn_X10_day I J) (fun _ => fl_X10_day_169_2 J2 x15 Kf2 kq x24 I25)) hF_Kf2
              replace hF := fe_eq hF (fl_X10_day_169_2.eq_2 _ _ _ _ _ _)
              refine g_iload_n d_X10_day_169 rfl ?_
              refine g_iload_n d_X10_day_170 rfl ?_
              refine g_icmp_ge d_X10_day_171 (fun h171 => ?_) (fun h171 => ?_)
              · skip
                replace hF := fe_pos hF h171
                replace hF := fe_eq hF (congrFun (congrFun hKf2 x24) I25)
                refine g_iload_n d_X10_day_204 rfl ?_
                exact g_ireturn d_X10_day_205 rfl rfl rfl rfl ⟨rfl, trivial, x15, rfl, hF, hK26⟩
              · skip
                replace hF := fe_neg hF h171
                refine g_aload_n d_X10_day_174 rfl ?_
                refine g_getR d_X10_day_175 fq_RX10_24 rfl rfl ?_
                refine g_iload_n d_X10_day_178 rfl ?_
                refine g_aload_n d_X10_day_179 rfl ?_
                refine g_getR d_X10_day_180 fq_RX10_30 rfl rfl ?_
                refine g_iload_n d_X10_day_183 rfl ?_
                refine g_iaload (N := 12) d_X10_day_184 rfl kT_12 ⟨hl27, day_lt h171 hn_10.2⟩ rfl ?_
                refine g_iastore (N := 12) d_X10_day_185 rfl kT_12 ⟨hl27, day_lt h171 hn_10.2⟩ rfl  ?_
                refine g_nmI (fun I28 eI28 => ?_)
                replace hF := fe_lt hF eI28
                have hK29 : (MI (wI (bgI I) 78 11 (0 : Int32)) I28 ∧ MK (bgJ I J) J2) := (by rw [eI28]; exact ⟨mi_free (hK26).1 rfl, (hK26).2⟩)
                refine g_aload_n d_X10_day_186 rfl ?_
                refine g_getR d_X10_day_187 fq_RX10_27 rfl rfl ?_
                refine g_iload_n d_X10_day_190 rfl ?_
                refine g_aload_n d_X10_day_191 rfl ?_
                refine g_getR d_X10_day_192 fq_RX10_33 rfl rfl ?_
                refine g_iload_n d_X10_day_195 rfl ?_
                refine g_iaload (N := 12) d_X10_day_196 rfl kT_12 ⟨hl27, day_lt h171 hn_10.2⟩ rfl ?_
                refine g_iastore (N := 12) d_X10_day_197 rfl kT_12 ⟨hl27, day_lt h171 hn_10.2⟩ rfl  ?_
                refine g_nmI (fun I30 eI30 => ?_)
                replace hF := fe_lt hF eI30
                have hK31 : (MI (wI (bgI I) 78 11 (0 : Int32)) I30 ∧ MK (bgJ I J) J2) := (by rw [eI30]; exact ⟨mi_free (hK29).1 rfl, (hK29).2⟩)
                refine g_iinc (v := (x24 + (1 : Int32))) (L' := [some (.ref 78), some (.int x15), some (.int (x24 + (1 : Int32)))]) d_X10_day_198 rfl (by rw [kI_1]) (by decide) rfl ?_
                refine g_goto d_X10_day_201 ?_
                exact ih_169 _ (by rw [← hmu_169]; exact mu_up h171) (x24 + (1 : Int32)) I30 rfl hK31 (lo_up hl27 h171) ⟨kf2, Nat.lt_of_lt_of_le (by rw [← hmu_169]; exact mu_up h171) hkf2, hF⟩
          exact K_169 _ (0 : Int32) I22 rfl hK23 (Int32.le_refl _) ⟨_, Nat.lt_succ_self _, hF⟩
        · skip
          replace hF := fe_neg hF h151
          refine g_bipush (v := -10) d_X10_day_154 kB_m10 ?_
          refine g_aload_n d_X10_day_156 rfl ?_
          refine g_getI d_X10_day_157 fq_RX10_110 rfl rfl ?_
          refine g_isub d_X10_day_160 ?_
          exact g_ireturn d_X10_day_161 rfl rfl rfl rfl ⟨rfl, trivial, ((-10 : Int32) - (I20 78 15)), rfl, hF, hK21⟩
      refine g_if_ne d_X10_day_14 (fun h14 => ?_) (fun h14 => ?_)
      · skip
        replace hF := fe_neg hF h14
        exact J_142 I16 hK17 hF
      · skip
        replace hF := fe_pos hF h14
        refine g_aload_n d_X10_day_17 rfl ?_
        refine g_V0 d_X10_day_18 cs_X10_day_X10_here lk_RX10_113 im_X10_here se_X10_here rfl rfl rfl (Nat.le_of_ble_eq_true rfl) ⟨rfl, rfl⟩ ⟨Nat.zero_le _, Nat.zero_le _⟩ (ct_X10_here  I16 J2 hpa_10) (fun r18 S18 I32 Jc34 q18_32 => ?_)
        obtain ⟨rfl, ⟨rfl, hc18_34⟩, r37, rfl, hf18_35, hr18_37⟩ := q18_32
        replace hF := fe_b3 hF hf18_35
        refine g_st (st' := [.int r37]) rfl ?_
        have hK39 : (MI (bgI I) I32 ∧ MK (bgJ I J) J2) := ⟨mi_pc (hK17).1 ⟨fun b h1 h2 => hc18_34.1 b h1, hc18_34.2.1⟩, (hK17).2⟩
        have hpa18 := (hc18_34).2.2.1
        have hsz18 := (hc18_34).size
        have hmo18 := (hc18_34).2.2.2.1
        refine g_if_lt d_X10_day_21 (fun h21 => ?_) (fun h21 => ?_)
        · skip
          replace hF := fe_pos hF h21
          exact J_142 I32 hK39 hF
        · skip
          replace hF := fe_neg hF h21
          refine g_aload_n d_X10_day_24 rfl ?_
          refine g_V0 d_X10_day_25 cs_X10_day_X10_takeWord lk_RX10_140 im_X10_takeWord se_X10_takeWord rfl rfl rfl (Nat.le_of_ble_eq_true rfl) ⟨rfl, rfl⟩ ⟨Nat.zero_le _, Nat.zero_le _⟩ (ct_X10_takeWord  I32 J2 hpa18) (fun r25 S25 I40 Jc42 q25_40 => ?_)
          obtain ⟨rfl, ⟨rfl, hc25_42⟩, rfl, hf25_43, hr25_44⟩ := q25_40
          replace hF := fe_b2 hF hf25_43
          refine g_st (st' := []) rfl ?_
          have hK46 : (MI (bgI I) I40 ∧ MK (bgJ I J) J2) := ⟨mi_pc (hK39).1 ⟨fun b h1 h2 => hc25_42.1 b h1, hc25_42.2.1⟩, (hK39).2⟩
          have hpa25 := (hc25_42).2.2.1
          have hsz25 := (hc25_42).size
          have hmo25 := (hc25_42).2.2.2.1
          have hwd25 := hr25_44
          refine g_aload_n d_X10_day_28 rfl ?_
          refine g_aload_n d_X10_day_29 rfl ?_
          refine g_iconst (v := 4) d_X10_day_30 kI_4 ?_
          refine g_bipush (v := 111) d_X10_day_31 kB_111 ?_
          refine g_bipush (v := 112) d_X10_day_33 kB_112 ?_
          refine g_bipush (v := 101) d_X10_day_35 kB_101 ?_
          refine g_bipush (v := 110) d_X10_day_37 kB_110 ?_
          refine g_iconst (v := 0) d_X10_day_39 kI_0 ?_
          refine g_V6 d_X10_day_40 cs_X10_day_X10_isWord lk_RX10_136 im_X10_isWord se_X10_isWord rfl rfl rfl (Nat.le_of_ble_eq_true rfl) ⟨rfl, rfl⟩ ⟨Nat.zero_le _, Nat.zero_le _⟩ (ct_X10_isWord (4 : Int32) (111 : Int32) (112 : Int32) (101 : Int32) (110 : Int32) (0 : Int32) I40 J2 hpa25 (day_wd hwd25 hpa18.1)) (fun r40 S40 Ic48 Jc49 q40_46 => ?_)
          obtain ⟨rfl, rfl, rfl, r52, rfl, hz40, hf40_50, hr40_52⟩ := q40_46
          replace hF := fe_b3 hF hf40_50
          refine g_st (st' := [.int r52, .ref 78]) rfl ?_
          have hr40x := hr40_52
          refine g_iconst (v := 1) d_X10_day_43 kI_1 ?_
          refine g_aload_n d_X10_day_44 rfl ?_
          refine g_getI d_X10_day_45 fq_RX10_117 rfl rfl ?_
          refine g_V3 d_X10_day_48 cs_X10_day_X10_want lk_RX10_131 im_X10_want se_X10_want rfl rfl rfl (Nat.le_of_ble_eq_true rfl) ⟨rfl, rfl⟩ ⟨Nat.zero_le _, Nat.zero_le _⟩ (ct_X10_want r52 (1 : Int32) (I40 78 13) I40 J2 hpa25 (by decide)) (fun r48 S48 I54 Jc56 q48_54 => ?_)
          obtain ⟨rfl, ⟨rfl, hc48_56⟩, r59, rfl, hz48, hf48_57, hr48_59⟩ := q48_54
          replace hF := fe_b3 hF hf48_57
          refine g_st (st' := [.int r59]) rfl ?_
          have hK61 : (MI (bgI I) I54 ∧ MK (bgJ I J) J2) := ⟨mi_pc (hK46).1 ⟨fun b h1 h2 => hc48_56.1 b h1, hc48_56.2.1⟩, (hK46).2⟩
          have hpa48 := (hc48_56).2.2.1
          have hsz48 := (hc48_56).size
          have hw48 := hr48_59
          have hdec48 := fun z : ¬ I54 78 15 = 0 => mr_dec h14 (hsz48.trans (hsz25.trans hsz18)) hpa48 (by rw [hw48.2.1.1]; exact Int32.le_trans hmo18 hmo25) (fun q => absurd q z)
          refine g_if_eq d_X10_day_51 (fun h51 => ?_) (fun h51 => ?_)
          · skip
            replace hF := fe_pos hF h51
            exact ih_10 _ (by rw [← hmu_10]; exact (by first | exact hdec48 (hw48.1.2 h51) | exact hdec71 (hw71.1.2 h74) | exact hdec136)) x15 I54 rfl hK61 (by assumption) (by first | exact hn_10 | exact day_up hn_10 hx12) ⟨kf0, Nat.lt_of_lt_of_le (by rw [← hmu_10]; exact (by first | exact hdec48 (hw48.1.2 h51) | exact hdec71 (hw71.1.2 h74) | exact hdec136)) hkf0, hF⟩
          · skip
            replace hF := fe_neg hF h51
            have hr1 := hz48.resolve_left h51
            have hl4 := hr40x (hz40.resolve_left (hw48.1.1 hr1).2)
            have hgt48 := day_gt hmo18 hwd25 hl4 hpa25.2.1 hpa25.2.2 hpa_10.1 hpa25.1
            rw [← hw48.2.1.1] at hgt48
            refine g_aload_n d_X10_day_54 rfl ?_
            refine g_iload_n d_X10_day_55 rfl ?_
            refine g_bipush (v := 12) d_X10_day_56 kB_12 ?_
            obtain ⟨j66_3, hj66_3, hF⟩ := fe_jx hF
            have J_66 : ∀ (w62 : Int32), (w62 = 0 ∨ w62 = 1) → (¬ w62 = 0 → x15 < 12) → (FE (fn_X10_day I J) (fun _ => j66_3 w62)) → G m_X10_day (rq m_X10_day (fun r S' I' J' => S' = SHF ∧ True ∧ ∃ v : Int32, r = some (.int v) ∧ fn_X10_day I J = (v, I', J') ∧ (MI (wI (bgI I) 78 11 0) I' ∧ MK (bgJ I J) J'))) 0 0 66 [some (.ref 78), some (.int x15), none] [.int w62, .ref 78] SHF I54 J2 := by
              intro w62 hw62 hg_66 hF_j66_3
              have hF := fe_eq hF_j66_3 (congrFun hj66_3 w62)
              refine g_iconst (v := 3) d_X10_day_66 kI_3 ?_
              refine g_aload_n d_X10_day_67 rfl ?_
              refine g_getI d_X10_day_68 fq_RX10_117 rfl rfl ?_
              refine g_V3 d_X10_day_71 cs_X10_day_X10_want lk_RX10_131 im_X10_want se_X10_want rfl rfl rfl (Nat.le_of_ble_eq_true rfl) ⟨rfl, rfl⟩ ⟨Nat.zero_le _, Nat.zero_le _⟩ (ct_X10_want w62 (3 : Int32) (I54 78 13) I54 J2 hpa48 (by decide)) (fun r71 S71 I63 Jc65 q71_63 => ?_)
              obtain ⟨rfl, ⟨rfl, hc71_65⟩, r68, rfl, hz71, hf71_66, hr71_68⟩ := q71_63
              replace hF := fe_b3 hF hf71_66
              refine g_st (st' := [.int r68]) rfl ?_
              have hK70 : (MI (bgI I) I63 ∧ MK (bgJ I J) J2) := ⟨mi_pc (hK61).1 ⟨fun b h1 h2 => hc71_65.1 b h1, hc71_65.2.1⟩, (hK61).2⟩
              have hpa71 := (hc71_65).2.2.1
              have hsz71 := (hc71_65).size
              have hw71 := hr71_68
              have hdec71 := fun z : ¬ I63 78 15 = 0 => mr_dec h14 (hsz71.trans (hsz48.trans (hsz25.trans hsz18))) hpa71 (by rw [hw71.2.1.1, hw48.2.1.1]; exact Int32.le_trans hmo18 hmo25) (fun q => absurd q z)
              refine g_if_eq d_X10_day_74 (fun h74 => ?_) (fun h74 => ?_)
              · skip
                replace hF := fe_pos hF h74
                exact ih_10 _ (by rw [← hmu_10]; exact (by first | exact hdec48 (hw48.1.2 h51) | exact hdec71 (hw71.1.2 h74) | exact hdec136)) x15 I63 rfl hK70 (by assumption) (by first | exact hn_10 | exact day_up hn_10 hx12) ⟨kf0, Nat.lt_of_lt_of_le (by rw [← hmu_10]; exact (by first | exact hdec48 (hw48.1.2 h51) | exact hdec71 (hw71.1.2 h74) | exact hdec136)) hkf0, hF⟩
              · skip
                replace hF := fe_neg hF h74
                have hr2 := hz71.resolve_left h74
                have hx12 := hg_66 (hw71.1.1 hr2).2
                refine g_aload_n d_X10_day_77 rfl ?_
                refine g_getR d_X10_day_78 fq_RX10_30 rfl rfl ?_
                refine g_iload_n d_X10_day_81 rfl ?_
                refine g_aload_n d_X10_day_82 rfl ?_
                refine g_iload_n d_X10_day_83 rfl ?_
                obtain ⟨j101_4, hj101_4, hF⟩ := fe_jx hF
                have J_101 : ∀ (w71 : Int32), (FE (fn_X10_day I J) (fun _ => j101_4 w71)) → G m_X10_day (rq m_X10_day (fun r S' I' J' => S' = SHF ∧ True ∧ ∃ v : Int32, r = some (.int v) ∧ fn_X10_day I J = (v, I', J') ∧ (MI (wI (bgI I) 78 11 0) I' ∧ MK (bgJ I J) J'))) 0 0 101 [some (.ref 78), some (.int x15), none] [.int w71, .ref 78, .int x15, .ref 85] SHF I63 J2 := by
                  intro w71 hF_j101_4
                  have hF := fe_eq hF_j101_4 (congrFun hj101_4 w71)
                  refine g_sipush (v := 287) d_X10_day_101 kS_287 ?_
                  refine g_V2 d_X10_day_104 cs_X10_day_X10_takeNumber lk_RX10_153 im_X10_takeNumber se_X10_takeNumber rfl rfl rfl (Nat.le_of_ble_eq_true rfl) ⟨rfl, rfl⟩ ⟨Nat.zero_le _, Nat.zero_le _⟩ (ct_X10_takeNumber w71 (287 : Int32) I63 J2 hpa71) (fun r104 S104 I72 Jc74 q104_72 => ?_)
                  obtain ⟨rfl, ⟨rfl, hc104_74⟩, r77, rfl, hf104_75, hr104_77⟩ := q104_72
                  replace hF := fe_b3 hF hf104_75
                  refine g_st (st' := [.int r77, .int x15, .ref 85]) rfl ?_
                  have hK79 : (MI (bgI I) I72 ∧ MK (bgJ I J) J2) := ⟨mi_pc (hK70).1 ⟨fun b h1 h2 => hc104_74.1 b h1, hc104_74.2.1⟩, (hK70).2⟩
                  have hpa104 := (hc104_74).2.2.1
                  have hsz104 := (hc104_74).size
                  have hmo104 := (hc104_74).2.2.2.1
                  refine g_iastore (N := 12) d_X10_day_107 rfl kT_12 ⟨hn_10.1, hx12⟩ rfl  ?_
                  refine g_nmI (fun I80 eI80 => ?_)
                  replace hF := fe_lt hF eI80
                  have hK81 : (MI (bgI I) I80 ∧ MK (bgJ I J) J2) := (by rw [eI80]; exact ⟨mi_free (hK79).1 rfl, (hK79).2⟩)
                  have hpa107 : PA I80 ∧ I80 78 11 = I72 78 11 ∧ I80 78 12 = I72 78 12 := by rw [eI80]; exact ⟨pa_w hpa104 (by omega), wI_ne (by omega), wI_ne (by omega)⟩
                  refine g_aload_n d_X10_day_108 rfl ?_
                  refine g_getR d_X10_day_109 fq_RX10_33 rfl rfl ?_
                  refine g_iload_n d_X10_day_112 rfl ?_
                  refine g_aload_n d_X10_day_113 rfl ?_
                  refine g_getI d_X10_day_114 fq_RX10_110 rfl rfl ?_
                  obtain ⟨j131_5, hj131_5, hF⟩ := fe_jx hF
                  have J_131 : ∀ (w82 : Int32), ∀ (I83 : Iv), ((MI (bgI I) I83 ∧ MK (bgJ I J) J2)) → (PA I83 ∧ I83 78 11 = I80 78 11 ∧ I80 78 12 ≤ I83 78 12) → (FE (fn_X10_day I J) (fun _ => j131_5 w82 I83)) → G m_X10_day (rq m_X10_day (fun r S' I' J' => S' = SHF ∧ True ∧ ∃ v : Int32, r = some (.int v) ∧ fn_X10_day I J = (v, I', J') ∧ (MI (wI (bgI I) 78 11 0) I' ∧ MK (bgJ I J) J'))) 0 0 131 [some (.ref 78), some (.int x15), none] [.int w82, .int x15, .ref 86] SHF I83 J2 := by
                    intro w82 I83 hK84 hq_131 hF_j131_5
                    have hF := fe_eq hF_j131_5 (congrFun (congrFun hj131_5 w82) I83)
                    refine g_iastore (N := 12) d_X10_day_131 rfl kT_12 ⟨hn_10.1, hx12⟩ rfl  ?_
                    refine g_nmI (fun I85 eI85 => ?_)
                    replace hF := fe_lt hF eI85
                    have hK86 : (MI (bgI I) I85 ∧ MK (bgJ I J) J2) := (by rw [eI85]; exact ⟨mi_free (hK84).1 rfl, (hK84).2⟩)
                    have hpa131 : PA I85 ∧ I85 78 11 = I83 78 11 ∧ I85 78 12 = I83 78 12 := by rw [eI85]; exact ⟨pa_w hq_131.1 (by omega), wI_ne (by omega), wI_ne (by omega)⟩
                    refine g_iinc (v := (x15 + (1 : Int32))) (L' := [some (.ref 78), some (.int (x15 + (1 : Int32))), none]) d_X10_day_132 rfl (by rw [kI_1]) (by decide) rfl ?_
                    refine g_aload_n d_X10_day_135 rfl ?_
                    refine g_V0 d_X10_day_136 cs_X10_day_X10_takeEnd lk_RX10_163 im_X10_takeEnd se_X10_takeEnd rfl rfl rfl (Nat.le_of_ble_eq_true rfl) ⟨rfl, rfl⟩ ⟨Nat.zero_le _, Nat.zero_le _⟩ (ct_X10_takeEnd  I85 J2 hpa131.1) (fun r136 S136 I87 Jc89 q136_87 => ?_)
                    obtain ⟨rfl, ⟨rfl, hc136_89⟩, rfl, hf136_90⟩ := q136_87
                    replace hF := fe_b2 hF hf136_90
                    refine g_st (st' := []) rfl ?_
                    have hK93 : (MI (bgI I) I87 ∧ MK (bgJ I J) J2) := ⟨mi_pc (hK86).1 ⟨fun b h1 h2 => hc136_89.1 b h1, hc136_89.2.1⟩, (hK86).2⟩
                    have hpa136 := (hc136_89).2.2.1
                    have hsz136 := (hc136_89).size
                    have hmo136 := (hc136_89).2.2.2.1
                    have hlt136 := Int32.lt_of_lt_of_le (Int32.lt_of_lt_of_le (Int32.lt_of_lt_of_le hgt48 (by rw [← hw71.2.1.1]; exact hmo104)) (by rw [← hpa107.2.2]; exact hq_131.2.2)) (by rw [← hpa131.2.2]; exact hmo136)
                    have hdec136 := mr_dec h14 (hsz136.trans (hpa131.2.1.trans (hq_131.2.1.trans (hpa107.2.1.trans (hsz104.trans (hsz71.trans (hsz48.trans (hsz25.trans hsz18)))))))) hpa136 (Int32.le_of_lt hlt136) (fun _ => hlt136)
                    refine g_goto d_X10_day_139 ?_
                    exact ih_10 _ (by rw [← hmu_10]; exact (by first | exact hdec48 (hw48.1.2 h51) | exact hdec71 (hw71.1.2 h74) | exact hdec136)) (x15 + (1 : Int32)) I87 rfl hK93 (by assumption) (by first | exact hn_10 | exact day_up hn_10 hx12) ⟨kf0, Nat.lt_of_lt_of_le (by rw [← hmu_10]; exact (by first | exact hdec48 (hw48.1.2 h51) | exact hdec71 (hw71.1.2 h74) | exact hdec136)) hkf0, hF⟩
                  refine g_if_ne d_X10_day_117 (fun h117 => ?_) (fun h117 => ?_)
                  · skip
                    replace hF := fe_neg hF h117
                    refine g_iconst (v := 0) d_X10_day_130 kI_0 ?_
                    exact J_131 ((0 : Int32)) I80 hK81 (by first | exact ⟨hpa107.1, rfl, Int32.le_refl _⟩ | exact ⟨hpa124, hsz124, hmo124⟩) hF
                  · skip
                    replace hF := fe_pos hF h117
                    refine g_aload_n d_X10_day_120 rfl ?_
                    refine g_iconst (v := 1) d_X10_day_121 kI_1 ?_
                    refine g_bipush (v := 20) d_X10_day_122 kB_20 ?_
                    refine g_V2 d_X10_day_124 cs_X10_day_X10_takeNumber lk_RX10_153 im_X10_takeNumber se_X10_takeNumber rfl rfl rfl (Nat.le_of_ble_eq_true rfl) ⟨rfl, rfl⟩ ⟨Nat.zero_le _, Nat.zero_le _⟩ (ct_X10_takeNumber (1 : Int32) (20 : Int32) I80 J2 hpa107.1) (fun r124 S124 I94 Jc96 q124_94 => ?_)
                    obtain ⟨rfl, ⟨rfl, hc124_96⟩, r99, rfl, hf124_97, hr124_99⟩ := q124_94
                    replace hF := fe_b3 hF hf124_97
                    refine g_st (st' := [.int r99, .int x15, .ref 86]) rfl ?_
                    have hK101 : (MI (bgI I) I94 ∧ MK (bgJ I J) J2) := ⟨mi_pc (hK81).1 ⟨fun b h1 h2 => hc124_96.1 b h1, hc124_96.2.1⟩, (hK81).2⟩
                    have hpa124 := (hc124_96).2.2.1
                    have hsz124 := (hc124_96).size
                    have hmo124 := (hc124_96).2.2.2.1
                    refine g_goto d_X10_day_127 ?_
                    exact J_131 r99 I94 hK101 (by first | exact ⟨hpa107.1, rfl, Int32.le_refl _⟩ | exact ⟨hpa124, hsz124, hmo124⟩) hF
                refine g_if_ne d_X10_day_84 (fun h84 => ?_) (fun h84 => ?_)
                · skip
                  replace hF := fe_neg hF h84
                  refine g_aload_n d_X10_day_91 rfl ?_
                  refine g_getR d_X10_day_92 fq_RX10_30 rfl rfl ?_
                  refine g_iload_n d_X10_day_95 rfl ?_
                  refine g_iconst (v := 1) d_X10_day_96 kI_1 ?_
                  refine g_isub d_X10_day_97 ?_
                  refine g_iaload (N := 12) d_X10_day_98 rfl kT_12 (day_ix hn_10.1 hx12 h84) rfl ?_
                  refine g_iconst (v := 1) d_X10_day_99 kI_1 ?_
                  refine g_iadd d_X10_day_100 ?_
                  exact J_101 (((I63 85 ((x15 - (1 : Int32))).toNatClampNeg) + (1 : Int32))) hF
                · skip
                  replace hF := fe_pos hF h84
                  refine g_iconst (v := 0) d_X10_day_87 kI_0 ?_
                  refine g_goto d_X10_day_88 ?_
                  exact J_101 ((0 : Int32)) hF
            refine g_icmp_ge d_X10_day_58 (fun h58 => ?_) (fun h58 => ?_)
            · skip
              replace hF := fe_pos hF h58
              refine g_iconst (v := 0) d_X10_day_65 kI_0 ?_
              exact J_66 ((0 : Int32)) (Or.inl rfl) (by intro z; first | exact absurd rfl z | exact Int32.not_le.mp h58 | exact h58) hF
            · skip
              replace hF := fe_neg hF h58
              refine g_iconst (v := 1) d_X10_day_61 kI_1 ?_
              refine g_goto d_X10_day_62 ?_
              exact J_66 ((1 : Int32)) (Or.inr rfl) (by intro z; first | exact absurd rfl z | exact Int32.not_le.mp h58 | exact h58) hF
  exact K_10 _ (0 : Int32) I8 rfl hK14 hpa5 (by decide) ⟨_, Nat.lt_succ_self _, hF⟩
