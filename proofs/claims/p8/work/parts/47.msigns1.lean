set_option maxRecDepth 100000 in
set_option maxHeartbeats 4000000 in
theorem ct_X10_signOf (what : Int32) (I : Iv) (J : Jv)  : Ct m_X10_signOf [.ref 78, .int what] SHF I J (fun r S' I' J' => S' = SHF ∧ I = I' ∧ J = J' ∧ ∃ v : Int32, r = some (.int v)) := by
  refine ct_of 0 (by decide +kernel) rfl rfl ?_
  refine g_iload_n d_X10_signOf_0 rfl ?_
  have J_32 : (2 ≤ what ∧ what ≤ 4) → G m_X10_signOf (rq m_X10_signOf (fun r S' I' J' => S' = SHF ∧ I = I' ∧ J = J' ∧ ∃ v : Int32, r = some (.int v))) 0 0 32 [some (.ref 78), some (.int what)] [] SHF I J := by
    intro hr_32
    refine g_aload_n d_X10_signOf_32 rfl ?_
    refine g_bipush (v := 80) d_X10_signOf_33 kB_80 ?_
    refine g_iload_n d_X10_signOf_35 rfl ?_
    refine g_iconst (v := 2) d_X10_signOf_36 kI_2 ?_
    refine g_isub d_X10_signOf_37 ?_
    refine g_V2 d_X10_signOf_38 cs_X10_signOf_X10_warm lk_RX10_200 im_X10_warm se_X10_warm rfl rfl rfl (Nat.le_of_ble_eq_true rfl) ⟨rfl, rfl⟩ ⟨Nat.zero_le _, Nat.zero_le _⟩ (ct_X10_warm (80 : Int32) (what - (2 : Int32)) I J (by decide) (by grind) (by grind)) (fun r38 S38 Ic2 Jc3 q38_0 => ?_)
    obtain ⟨rfl, rfl, rfl, r5, rfl⟩ := q38_0
    refine g_st (st' := [.long r5]) rfl ?_
    refine g_l2i d_X10_signOf_41 ?_
    exact g_ireturn d_X10_signOf_42 rfl rfl rfl rfl ⟨rfl, rfl, rfl, (Int64.toInt32 r5), rfl⟩
  rcases sw_split what (2) (5) with h1 | h1
  · skip
    refine g_swOut d_X10_signOf_1 h1 ?_
    refine g_aload_n d_X10_signOf_53 rfl ?_
    refine g_getR d_X10_signOf_54 fq_RX10_7 rfl rfl ?_
    refine g_bipush (v := 80) d_X10_signOf_57 kB_80 ?_
    refine g_iload_n d_X10_signOf_59 rfl ?_
    refine g_if_ne d_X10_signOf_60 (fun h60 => ?_) (fun h60 => ?_)
    · skip
      refine g_iload_n d_X10_signOf_68 rfl ?_
      refine g_iconst (v := 1) d_X10_signOf_69 kI_1 ?_
      refine g_icmp_ne d_X10_signOf_70 (fun h70 => ?_) (fun h70 => ?_)
      · skip
        refine g_bipush (v := 63) d_X10_signOf_78 kB_63 ?_
        refine g_iadd d_X10_signOf_80 ?_
        refine g_laload (N := 320) d_X10_signOf_81 rfl kT_320 (by constructor <;> grind) rfl ?_
        refine g_l2i d_X10_signOf_82 ?_
        exact g_ireturn d_X10_signOf_83 rfl rfl rfl rfl ⟨rfl, rfl, rfl, (Int64.toInt32 (J 79 (((80 : Int32) + (63 : Int32))).toNatClampNeg)), rfl⟩
      · skip
        refine g_bipush (v := 64) d_X10_signOf_73 kB_64 ?_
        refine g_goto d_X10_signOf_75 ?_
        refine g_iadd d_X10_signOf_80 ?_
        refine g_laload (N := 320) d_X10_signOf_81 rfl kT_320 (by constructor <;> grind) rfl ?_
        refine g_l2i d_X10_signOf_82 ?_
        exact g_ireturn d_X10_signOf_83 rfl rfl rfl rfl ⟨rfl, rfl, rfl, (Int64.toInt32 (J 79 (((80 : Int32) + (64 : Int32))).toNatClampNeg)), rfl⟩
    · skip
      refine g_bipush (v := 65) d_X10_signOf_63 kB_65 ?_
      refine g_goto d_X10_signOf_65 ?_
      refine g_iadd d_X10_signOf_80 ?_
      refine g_laload (N := 320) d_X10_signOf_81 rfl kT_320 (by constructor <;> grind) rfl ?_
      refine g_l2i d_X10_signOf_82 ?_
      exact g_ireturn d_X10_signOf_83 rfl rfl rfl rfl ⟨rfl, rfl, rfl, (Int64.toInt32 (J 79 (((80 : Int32) + (65 : Int32))).toNatClampNeg)), rfl⟩
  · skip
    have hz : ∃ k : Nat, k < 4 ∧ (what).toInt = (2 : Int) + (k : Int) := by obtain ⟨k, h1, h2⟩ := sw_k h1; exact ⟨k, by omega, h2⟩
    obtain ⟨k, hk, hz⟩ := hz
    match k, hk, hz with
    | 0, _, hz =>
      refine g_swIn d_X10_signOf_1_0 (by rw [hz]; decide) (by rw [hz]; decide) (by rw [hz]; rfl) ?_
      exact J_32 (by rw [Int32.le_iff_toInt_le, Int32.le_iff_toInt_le, hz]; decide)
    | 1, _, hz =>
      refine g_swIn d_X10_signOf_1_1 (by rw [hz]; decide) (by rw [hz]; decide) (by rw [hz]; rfl) ?_
      exact J_32 (by rw [Int32.le_iff_toInt_le, Int32.le_iff_toInt_le, hz]; decide)
    | 2, _, hz =>
      refine g_swIn d_X10_signOf_1_2 (by rw [hz]; decide) (by rw [hz]; decide) (by rw [hz]; rfl) ?_
      exact J_32 (by rw [Int32.le_iff_toInt_le, Int32.le_iff_toInt_le, hz]; decide)
    | 3, _, hz =>
      refine g_swIn d_X10_signOf_1_3 (by rw [hz]; decide) (by rw [hz]; decide) (by rw [hz]; rfl) ?_
      refine g_aload_n d_X10_signOf_43 rfl ?_
      refine g_getR d_X10_signOf_44 fq_RX10_7 rfl rfl ?_
      refine g_sipush (v := 133) d_X10_signOf_47 kS_133 ?_
      refine g_laload (N := 320) d_X10_signOf_50 rfl kT_320 ⟨by decide, by decide⟩ kN_133 ?_
      refine g_l2i d_X10_signOf_51 ?_
      exact g_ireturn d_X10_signOf_52 rfl rfl rfl rfl ⟨rfl, rfl, rfl, (Int64.toInt32 (J 79 133)), rfl⟩
    | k + 4, hk, _ => exact absurd hk (by omega)
set_option maxRecDepth 100000 in
set_option maxHeartbeats 4000000 in
theorem ct_X10_findSigns (set : Int32) (n : Int32) (I : Iv) (J : Jv) (hma : MA I) (hmj : MJ J) (hn6 : 1 ≤ n ∧ n ≤ 6) : Ct m_X10_findSigns [.ref 78, .int set, .int n] SHF I J (fun r S' I' J' => S' = SHF ∧ (MI I I' ∧ MK J J') ∧ r = none ∧ JR J J') := by
  refine ct_of 4 (by decide +kernel) rfl rfl ?_
  have hK0 : (MI I I ∧ MK J J) := ⟨mi_rfl hma, mk_rfl hmj⟩
  refine g_aload_n d_X10_findSigns_0 rfl ?_
  refine g_iload_n d_X10_findSigns_1 rfl ?_
  refine g_V1 d_X10_findSigns_2 cs_X10_findSigns_X10_tryFresh lk_RX10_317 im_X10_tryFresh se_X10_tryFresh rfl rfl rfl (Nat.le_of_ble_eq_true rfl) ⟨rfl, rfl⟩ ⟨Nat.zero_le _, Nat.zero_le _⟩ (ct_X10_tryFresh set I J ) (fun r2 S2 Ic3 J1 q2_1 => ?_)
  obtain ⟨rfl, ⟨rfl, hc2_3⟩, rfl, hr2_4⟩ := q2_1
  refine g_st (st' := []) rfl ?_
  have hK6 : (MI I I ∧ MK J J1) := ⟨(hK0).1, try_mk (hK0).2 hr2_4⟩
  have hj2 : JR J J1 := jr_fb (hr2_4).1
  refine g_aload_n d_X10_findSigns_5 rfl ?_
  refine g_bipush (v := 80) d_X10_findSigns_6 kB_80 ?_
  refine g_sipush (v := 288) d_X10_findSigns_8 kS_288 ?_
  refine g_iload_n d_X10_findSigns_11 rfl ?_
  refine g_iconst (v := 1) d_X10_findSigns_12 kI_1 ?_
  refine g_isub d_X10_findSigns_13 ?_
  refine g_imul d_X10_findSigns_14 ?_
  refine g_V2 d_X10_findSigns_15 cs_X10_findSigns_X10_go lk_RX10_289 im_X10_go se_X10_go rfl rfl rfl (Nat.le_of_ble_eq_true rfl) ⟨rfl, rfl⟩ ⟨Nat.zero_le _, Nat.zero_le _⟩ (ct_X10_go (80 : Int32) ((288 : Int32) * (n - (1 : Int32))) I J1 (by decide) ((hK6).2.2 _ (by decide)).2.1 ((hK6).2.2 _ (by decide)).1 ((hK6).1.2.2.1) (by grind) ((hK6).1.2.2.2.1) ((hK6).1.2.2.2.2.1)) (fun r15 S15 Ic9 J7 q15_7 => ?_)
  obtain ⟨rfl, ⟨rfl, hc15_9⟩, rfl, hr15_10⟩ := q15_7
  refine g_st (st' := []) rfl ?_
  have hK12 : (MI I I ∧ MK J J7) := ⟨(hK6).1, tg_mk80 (hK6).2 hc15_9⟩
  have hj15 : JR J J7 := hj2.tr (jr_tg hc15_9)
  refine g_aload_n d_X10_findSigns_18 rfl ?_
  refine g_iconst (v := 0) d_X10_findSigns_19 kI_0 ?_
  refine g_V1 d_X10_findSigns_20 cs_X10_findSigns_X10_signOf lk_RX10_320 im_X10_signOf se_X10_signOf rfl rfl rfl (Nat.le_of_ble_eq_true rfl) ⟨rfl, rfl⟩ ⟨Nat.zero_le _, Nat.zero_le _⟩ (ct_X10_signOf (0 : Int32) I J7 ) (fun r20 S20 Ic14 Jc15 q20_12 => ?_)
  obtain ⟨rfl, rfl, rfl, r17, rfl⟩ := q20_12
  refine g_st (st' := [.int r17]) rfl ?_
  refine g_istore_n (L' := [some (.ref 78), some (.int set), some (.int n), some (.int r17), none, none, none]) d_X10_findSigns_23 (by decide) rfl ?_
  refine g_aload_n d_X10_findSigns_24 rfl ?_
  refine g_iconst (v := 1) d_X10_findSigns_25 kI_1 ?_
  refine g_V1 d_X10_findSigns_26 cs_X10_findSigns_X10_signOf lk_RX10_320 im_X10_signOf se_X10_signOf rfl rfl rfl (Nat.le_of_ble_eq_true rfl) ⟨rfl, rfl⟩ ⟨Nat.zero_le _, Nat.zero_le _⟩ (ct_X10_signOf (1 : Int32) I J7 ) (fun r26 S26 Ic20 Jc21 q26_18 => ?_)
  obtain ⟨rfl, rfl, rfl, r23, rfl⟩ := q26_18
  refine g_st (st' := [.int r23]) rfl ?_
  refine g_istore (L' := [some (.ref 78), some (.int set), some (.int n), some (.int r17), some (.int r23), none, none]) d_X10_findSigns_29 (by decide) rfl ?_
  refine g_aload_n d_X10_findSigns_31 rfl ?_
  refine g_bipush (v := 6) d_X10_findSigns_32 kB_6 ?_
  refine g_V1 d_X10_findSigns_34 cs_X10_findSigns_X10_signOf lk_RX10_320 im_X10_signOf se_X10_signOf rfl rfl rfl (Nat.le_of_ble_eq_true rfl) ⟨rfl, rfl⟩ ⟨Nat.zero_le _, Nat.zero_le _⟩ (ct_X10_signOf (6 : Int32) I J7 ) (fun r34 S34 Ic26 Jc27 q34_24 => ?_)
  obtain ⟨rfl, rfl, rfl, r29, rfl⟩ := q34_24
  refine g_st (st' := [.int r29]) rfl ?_
  refine g_istore (L' := [some (.ref 78), some (.int set), some (.int n), some (.int r17), some (.int r23), some (.int r29), none]) d_X10_findSigns_37 (by decide) rfl ?_
  refine g_aload_n d_X10_findSigns_39 rfl ?_
  refine g_bipush (v := 80) d_X10_findSigns_40 kB_80 ?_
  refine g_sipush (v := 288) d_X10_findSigns_42 kS_288 ?_
  refine g_V2 d_X10_findSigns_45 cs_X10_findSigns_X10_go lk_RX10_289 im_X10_go se_X10_go rfl rfl rfl (Nat.le_of_ble_eq_true rfl) ⟨rfl, rfl⟩ ⟨Nat.zero_le _, Nat.zero_le _⟩ (ct_X10_go (80 : Int32) (288 : Int32) I J7 (by decide) ((hK12).2.2 _ (by decide)).2.1 ((hK12).2.2 _ (by decide)).1 ((hK12).1.2.2.1) (by grind) ((hK12).1.2.2.2.1) ((hK12).1.2.2.2.2.1)) (fun r45 S45 Ic33 J31 q45_31 => ?_)
  obtain ⟨rfl, ⟨rfl, hc45_33⟩, rfl, hr45_34⟩ := q45_31
  refine g_st (st' := []) rfl ?_
  have hK36 : (MI I I ∧ MK J J31) := ⟨(hK12).1, tg_mk80 (hK12).2 hc45_33⟩
  have hj45 : JR J J31 := hj15.tr (jr_tg hc45_33)
  refine g_iconst (v := 0) d_X10_findSigns_48 kI_0 ?_
  refine g_istore (L' := [some (.ref 78), some (.int set), some (.int n), some (.int r17), some (.int r23), some (.int r29), some (.int (0 : Int32))]) d_X10_findSigns_49 (by decide) rfl ?_
  have K_51 : ∀ (nu : Nat) (x37 : Int32) (I38 : Iv), mU (7 : Int32) x37 = nu → ((MI I I38 ∧ MK J J31)) → ((0 : Int32) ≤ x37) → G m_X10_findSigns (rq m_X10_findSigns (fun r S' I' J' => S' = SHF ∧ (MI I I' ∧ MK J J') ∧ r = none ∧ JR J J')) 0 0 51 [some (.ref 78), some (.int set), some (.int n), some (.int r17), some (.int r23), some (.int r29), some (.int x37)] [] SHF I38 J31 := by
    intro nu
    induction nu using Nat.strongRecOn with
    | ind nu ih_51 =>
      intro x37 I38 hmu_51 hK39 hl40
      refine g_iload d_X10_findSigns_51 rfl ?_
      refine g_bipush (v := 7) d_X10_findSigns_53 kB_7 ?_
      refine g_icmp_ge d_X10_findSigns_55 (fun h55 => ?_) (fun h55 => ?_)
      · skip
        exact g_return d_X10_findSigns_111 rfl rfl rfl ⟨rfl, hK39, rfl, hj45⟩
      · skip
        refine g_aload_n d_X10_findSigns_58 rfl ?_
        refine g_getR d_X10_findSigns_59 fq_RX10_49 rfl rfl ?_
        refine g_iload d_X10_findSigns_62 rfl ?_
        refine g_aload_n d_X10_findSigns_64 rfl ?_
        refine g_iload d_X10_findSigns_65 rfl ?_
        refine g_V1 d_X10_findSigns_67 cs_X10_findSigns_X10_signOf lk_RX10_320 im_X10_signOf se_X10_signOf rfl rfl rfl (Nat.le_of_ble_eq_true rfl) ⟨rfl, rfl⟩ ⟨Nat.zero_le _, Nat.zero_le _⟩ (ct_X10_signOf x37 I38 J31 ) (fun r67 S67 Ic42 Jc43 q67_40 => ?_)
        obtain ⟨rfl, rfl, rfl, r45, rfl⟩ := q67_40
        refine g_st (st' := [.int r45, .int x37, .ref 90]) rfl ?_
        refine g_iload d_X10_findSigns_70 rfl ?_
        refine g_if_ne d_X10_findSigns_72 (fun h72 => ?_) (fun h72 => ?_)
        · skip
          refine g_iload d_X10_findSigns_79 rfl ?_
          refine g_iconst (v := 1) d_X10_findSigns_81 kI_1 ?_
          refine g_icmp_ne d_X10_findSigns_82 (fun h82 => ?_) (fun h82 => ?_)
          · skip
            refine g_iload d_X10_findSigns_90 rfl ?_
            refine g_bipush (v := 6) d_X10_findSigns_92 kB_6 ?_
            refine g_icmp_ne d_X10_findSigns_94 (fun h94 => ?_) (fun h94 => ?_)
            · skip
              refine g_iconst (v := 0) d_X10_findSigns_102 kI_0 ?_
              refine g_isub d_X10_findSigns_103 ?_
              refine g_iastore (N := 7) d_X10_findSigns_104 rfl kT_7 ⟨hl40, Int32.not_le.mp h55⟩ rfl  ?_
              refine g_nmI (fun I47 eI47 => ?_)
              have hK48 : (MI I I47 ∧ MK J J31) := (by rw [eI47]; exact ⟨mi_free (hK39).1 rfl, (hK39).2⟩)
              refine g_iinc (v := (x37 + (1 : Int32))) (L' := [some (.ref 78), some (.int set), some (.int n), some (.int r17), some (.int r23), some (.int r29), some (.int (x37 + (1 : Int32)))]) d_X10_findSigns_105 rfl (by rw [kI_1]) (by decide) rfl ?_
              refine g_goto d_X10_findSigns_108 ?_
              exact ih_51 _ (by rw [← hmu_51]; exact mu_up h55) (x37 + (1 : Int32)) I47 rfl hK48 (lo_up hl40 h55)
            · skip
              refine g_iload d_X10_findSigns_97 rfl ?_
              refine g_goto d_X10_findSigns_99 ?_
              refine g_isub d_X10_findSigns_103 ?_
              refine g_iastore (N := 7) d_X10_findSigns_104 rfl kT_7 ⟨hl40, Int32.not_le.mp h55⟩ rfl  ?_
              refine g_nmI (fun I49 eI49 => ?_)
              have hK50 : (MI I I49 ∧ MK J J31) := (by rw [eI49]; exact ⟨mi_free (hK39).1 rfl, (hK39).2⟩)
              refine g_iinc (v := (x37 + (1 : Int32))) (L' := [some (.ref 78), some (.int set), some (.int n), some (.int r17), some (.int r23), some (.int r29), some (.int (x37 + (1 : Int32)))]) d_X10_findSigns_105 rfl (by rw [kI_1]) (by decide) rfl ?_
              refine g_goto d_X10_findSigns_108 ?_
              exact ih_51 _ (by rw [← hmu_51]; exact mu_up h55) (x37 + (1 : Int32)) I49 rfl hK50 (lo_up hl40 h55)
          · skip
            refine g_iload d_X10_findSigns_85 rfl ?_
            refine g_goto d_X10_findSigns_87 ?_
            refine g_isub d_X10_findSigns_103 ?_
            refine g_iastore (N := 7) d_X10_findSigns_104 rfl kT_7 ⟨hl40, Int32.not_le.mp h55⟩ rfl  ?_
            refine g_nmI (fun I51 eI51 => ?_)
            have hK52 : (MI I I51 ∧ MK J J31) := (by rw [eI51]; exact ⟨mi_free (hK39).1 rfl, (hK39).2⟩)
            refine g_iinc (v := (x37 + (1 : Int32))) (L' := [some (.ref 78), some (.int set), some (.int n), some (.int r17), some (.int r23), some (.int r29), some (.int (x37 + (1 : Int32)))]) d_X10_findSigns_105 rfl (by rw [kI_1]) (by decide) rfl ?_
            refine g_goto d_X10_findSigns_108 ?_
            exact ih_51 _ (by rw [← hmu_51]; exact mu_up h55) (x37 + (1 : Int32)) I51 rfl hK52 (lo_up hl40 h55)
        · skip
          refine g_iload_n d_X10_findSigns_75 rfl ?_
          refine g_goto d_X10_findSigns_76 ?_
          refine g_isub d_X10_findSigns_103 ?_
          refine g_iastore (N := 7) d_X10_findSigns_104 rfl kT_7 ⟨hl40, Int32.not_le.mp h55⟩ rfl  ?_
          refine g_nmI (fun I53 eI53 => ?_)
          have hK54 : (MI I I53 ∧ MK J J31) := (by rw [eI53]; exact ⟨mi_free (hK39).1 rfl, (hK39).2⟩)
          refine g_iinc (v := (x37 + (1 : Int32))) (L' := [some (.ref 78), some (.int set), some (.int n), some (.int r17), some (.int r23), some (.int r29), some (.int (x37 + (1 : Int32)))]) d_X10_findSigns_105 rfl (by rw [kI_1]) (by decide) rfl ?_
          refine g_goto d_X10_findSigns_108 ?_
          exact ih_51 _ (by rw [← hmu_51]; exact mu_up h55) (x37 + (1 : Int32)) I53 rfl hK54 (lo_up hl40 h55)
  exact K_51 _ (0 : Int32) I rfl hK36 (Int32.le_refl _)
set_option maxRecDepth 100000 in
set_option maxHeartbeats 4000000 in
theorem ct_X10_sign (set : Int32) (n : Int32) (what : Int32) (I : Iv) (J : Jv) (hma : MA I) (hmj : MJ J) : Ct m_X10_sign [.ref 78, .int set, .int n, .int what] SHF I J (fun r S' I' J' => S' = SHF ∧ True ∧ ∃ v : Int32, r = some (.int v) ∧ (MI (bgI I) I' ∧ MK (bgJ I J) J')) := by
  refine ct_of 0 (by decide +kernel) rfl rfl ?_
  have hK0 : (MI I I ∧ MK J J) := ⟨mi_rfl hma, mk_rfl hmj⟩
  refine g_aload_n d_X10_sign_0 rfl ?_
  refine g_V0 d_X10_sign_1 cs_X10_sign_X10_begin lk_RX10_166 im_X10_begin se_X10_begin rfl rfl rfl (Nat.le_of_ble_eq_true rfl) ⟨rfl, rfl⟩ ⟨Nat.zero_le _, Nat.zero_le _⟩ (ct_X10_begin  I J hma hmj) (fun r1 S1 I1 J2 q1_2 => ?_)
  obtain ⟨rfl, hc1_3, rfl, hr1_4⟩ := q1_2
  refine g_st (st' := []) rfl ?_
  have hK6 : (MI (bgI I) I1 ∧ MK (bgJ I J) J2) := hr1_4
  refine g_iload_n d_X10_sign_4 rfl ?_
  refine g_S1 d_X10_sign_5 cs_X10_sign_X10_isSet lk_RX10_259 im_X10_isSet (Nat.le_of_ble_eq_true rfl) ⟨rfl, rfl⟩ ⟨Nat.zero_le _, Nat.zero_le _⟩ (ct_X10_isSet set I1 J2 ) (fun r5 S5 Ic8 Jc9 q5_6 => ?_)
  obtain ⟨rfl, rfl, rfl, r11, rfl, hz5, hr5_11⟩ := q5_6
  refine g_st (st' := [.int r11]) rfl ?_
  refine g_if_eq d_X10_sign_8 (fun h8 => ?_) (fun h8 => ?_)
  · skip
    refine g_ldcw (v := -1000000001) d_X10_sign_18 tw_1296 ?_
    exact g_ireturn d_X10_sign_21 rfl rfl rfl rfl ⟨rfl, trivial, (-1000000001 : Int32), rfl, hK6⟩
  · skip
    refine g_iload_n d_X10_sign_11 rfl ?_
    refine g_S1 d_X10_sign_12 cs_X10_sign_X10_isSign lk_RX10_323 im_X10_isSign (Nat.le_of_ble_eq_true rfl) ⟨rfl, rfl⟩ ⟨Nat.zero_le _, Nat.zero_le _⟩ (ct_X10_isSign what I1 J2 ) (fun r12 S12 Ic14 Jc15 q12_12 => ?_)
    obtain ⟨rfl, rfl, rfl, r17, rfl, hz12, hr12_17⟩ := q12_12
    refine g_st (st' := [.int r17]) rfl ?_
    refine g_if_ne d_X10_sign_15 (fun h15 => ?_) (fun h15 => ?_)
    · skip
      refine g_iload_n d_X10_sign_22 rfl ?_
      refine g_S1 d_X10_sign_23 cs_X10_sign_X10_areDays lk_RX10_326 im_X10_areDays (Nat.le_of_ble_eq_true rfl) ⟨rfl, rfl⟩ ⟨Nat.zero_le _, Nat.zero_le _⟩ (ct_X10_areDays n I1 J2 ) (fun r23 S23 Ic20 Jc21 q23_18 => ?_)
      obtain ⟨rfl, rfl, rfl, r23, rfl, hz23, hr23_23⟩ := q23_18
      refine g_st (st' := [.int r23]) rfl ?_
      refine g_if_ne d_X10_sign_26 (fun h26 => ?_) (fun h26 => ?_)
      · skip
        refine g_aload_n d_X10_sign_32 rfl ?_
        refine g_iload_n d_X10_sign_33 rfl ?_
        refine g_iload_n d_X10_sign_34 rfl ?_
        refine g_V2 d_X10_sign_35 cs_X10_sign_X10_findSigns lk_RX10_329 im_X10_findSigns se_X10_findSigns rfl rfl rfl (Nat.le_of_ble_eq_true rfl) ⟨rfl, rfl⟩ ⟨Nat.zero_le _, Nat.zero_le _⟩ (ct_X10_findSigns set n I1 J2 (hK6).1.2 (hK6).2.2 (by grind)) (fun r35 S35 I25 J26 q35_26 => ?_)
        obtain ⟨rfl, hc35_27, rfl, hr35_28⟩ := q35_26
        refine g_st (st' := []) rfl ?_
        have hK30 : (MI (bgI I) I25 ∧ MK (bgJ I J) J26) := ⟨mi_tr (hK6).1 hc35_27.1, mk_tr (hK6).2 hc35_27.2⟩
        refine g_aload_n d_X10_sign_38 rfl ?_
        refine g_getR d_X10_sign_39 fq_RX10_49 rfl rfl ?_
        refine g_iload_n d_X10_sign_42 rfl ?_
        refine g_iaload (N := 7) d_X10_sign_43 rfl kT_7 (by constructor <;> grind) rfl ?_
        exact g_ireturn d_X10_sign_44 rfl rfl rfl rfl ⟨rfl, trivial, (I25 90 what.toNatClampNeg), rfl, hK30⟩
      · skip
        refine g_ldc (v := -1000000002) d_X10_sign_29 tw_1199 ?_
        exact g_ireturn d_X10_sign_31 rfl rfl rfl rfl ⟨rfl, trivial, (-1000000002 : Int32), rfl, hK6⟩
    · skip
      refine g_ldcw (v := -1000000001) d_X10_sign_18 tw_1296 ?_
      exact g_ireturn d_X10_sign_21 rfl rfl rfl rfl ⟨rfl, trivial, (-1000000001 : Int32), rfl, hK6⟩
set_option maxRecDepth 100000 in
set_option maxHeartbeats 4000000 in
theorem ct_X10_seen (what : Int32) (v_ : Int32) (e : Int32) (I : Iv) (J : Jv) (hma : MA I) (hmj : MJ J) : Ct m_X10_seen [.ref 78, .int what, .int v_, .int e] SHF I J (fun r S' I' J' => S' = SHF ∧ True ∧ ∃ v : Int32, r = some (.int v) ∧ (((¬ (0 ≤ what ∧ what ≤ 6) ∧ v = -1000000001 ∧ MI I I') ∨ (0 ≤ what ∧ what ≤ 6 ∧ ¬ (-99999 ≤ v_ ∧ v_ ≤ 99999 ∧ 1 ≤ e ∧ e ≤ 999) ∧ v = -1000000002 ∧ MI I I') ∨ (0 ≤ what ∧ what ≤ 6 ∧ (-99999 ≤ v_ ∧ v_ ≤ 99999 ∧ 1 ≤ e ∧ e ≤ 999) ∧ v = cn (wI I 91 what.toNatClampNeg 1 91) 7 ∧ MI (wI I 91 what.toNatClampNeg 1) I')) ∧ MK J J')) := by
  refine ct_of 0 (by decide +kernel) rfl rfl ?_
  have hK0 : (MI I I ∧ MK J J) := ⟨mi_rfl hma, mk_rfl hmj⟩
  refine g_iload_n d_X10_seen_0 rfl ?_
  refine g_S1 d_X10_seen_1 cs_X10_seen_X10_isSign lk_RX10_323 im_X10_isSign (Nat.le_of_ble_eq_true rfl) ⟨rfl, rfl⟩ ⟨Nat.zero_le _, Nat.zero_le _⟩ (ct_X10_isSign what I J ) (fun r1 S1 Ic2 Jc3 q1_0 => ?_)
  obtain ⟨rfl, rfl, rfl, r5, rfl, hz1, hr1_5⟩ := q1_0
  refine g_st (st' := [.int r5]) rfl ?_
  refine g_if_ne d_X10_seen_4 (fun h4 => ?_) (fun h4 => ?_)
  · skip
    refine g_iload_n d_X10_seen_11 rfl ?_
    refine g_i2l d_X10_seen_12 ?_
    refine g_ldc2 (v := -99999) d_X10_seen_13 tw_1474 ?_
    refine g_ldc2 (v := 99999) d_X10_seen_16 tw_1475 ?_
    refine g_S3 d_X10_seen_19 cs_X10_seen_X10_in lk_RX10_96 im_X10_in (Nat.le_of_ble_eq_true rfl) ⟨rfl, rfl⟩ ⟨Nat.zero_le _, Nat.zero_le _⟩ (ct_X10_inL v_ (-99999 : Int64) (99999 : Int64) (-99999 : Int32) (99999 : Int32) (by decide) (by decide) I J) (fun r19 S19 Ic8 Jc9 q19_6 => ?_)
    obtain ⟨rfl, rfl, rfl, r11, rfl, hz19, hr19_11⟩ := q19_6
    refine g_st (st' := [.int r11]) rfl ?_
    refine g_if_eq d_X10_seen_22 (fun h22 => ?_) (fun h22 => ?_)
    · skip
      refine g_ldc (v := -1000000002) d_X10_seen_37 tw_1199 ?_
      exact g_ireturn d_X10_seen_39 rfl rfl rfl rfl ⟨rfl, trivial, (-1000000002 : Int32), rfl, ⟨Or.inr (Or.inl ⟨by grind, by grind, by grind, rfl, (hK0).1⟩), (hK0).2⟩⟩
    · skip
      refine g_iload_n d_X10_seen_25 rfl ?_
      refine g_i2l d_X10_seen_26 ?_
      refine g_lconst d_X10_seen_27 kL_1 ?_
      refine g_ldc2 (v := 999) d_X10_seen_28 tw_1476 ?_
      refine g_S3 d_X10_seen_31 cs_X10_seen_X10_in lk_RX10_96 im_X10_in (Nat.le_of_ble_eq_true rfl) ⟨rfl, rfl⟩ ⟨Nat.zero_le _, Nat.zero_le _⟩ (ct_X10_inL e (1 : Int64) (999 : Int64) (1 : Int32) (999 : Int32) (by decide) (by decide) I J) (fun r31 S31 Ic14 Jc15 q31_12 => ?_)
      obtain ⟨rfl, rfl, rfl, r17, rfl, hz31, hr31_17⟩ := q31_12
      refine g_st (st' := [.int r17]) rfl ?_
      refine g_if_ne d_X10_seen_34 (fun h34 => ?_) (fun h34 => ?_)
      · skip
        refine g_aload_n d_X10_seen_40 rfl ?_
        refine g_getR d_X10_seen_41 fq_RX10_52 rfl rfl ?_
        refine g_iload_n d_X10_seen_44 rfl ?_
        refine g_iconst (v := 1) d_X10_seen_45 kI_1 ?_
        refine g_bastore (N := 7) d_X10_seen_46 rfl kT_7 (by constructor <;> grind) rfl (Or.inr rfl) ?_
        refine g_nmI (fun I19 eI19 => ?_)
        refine g_aload_n d_X10_seen_47 rfl ?_
        refine g_getR d_X10_seen_48 fq_RX10_55 rfl rfl ?_
        refine g_iload_n d_X10_seen_51 rfl ?_
        refine g_iload_n d_X10_seen_52 rfl ?_
        refine g_iastore (N := 7) d_X10_seen_53 rfl kT_7 (by constructor <;> grind) rfl  ?_
        refine g_nmI (fun I20 eI20 => ?_)
        refine g_aload_n d_X10_seen_54 rfl ?_
        refine g_getR d_X10_seen_55 fq_RX10_58 rfl rfl ?_
        refine g_iload_n d_X10_seen_58 rfl ?_
        refine g_iload_n d_X10_seen_59 rfl ?_
        refine g_iastore (N := 7) d_X10_seen_60 rfl kT_7 (by constructor <;> grind) rfl  ?_
        refine g_nmI (fun I21 eI21 => ?_)
        have hK22 : (MI (wI I 91 what.toNatClampNeg 1) I21 ∧ MK J J) := (by simp only [eI19, eI20, eI21]; exact ⟨mi_seen (hK0).1 (by constructor <;> grind), (hK0).2⟩)
        refine g_aload_n d_X10_seen_61 rfl ?_
        refine g_V0 d_X10_seen_62 cs_X10_seen_X10_seens lk_RX10_338 im_X10_seens se_X10_seens rfl rfl rfl (Nat.le_of_ble_eq_true rfl) ⟨rfl, rfl⟩ ⟨Nat.zero_le _, Nat.zero_le _⟩ (ct_X10_seens  I21 J ) (fun r62 S62 Ic24 Jc25 q62_22 => ?_)
        obtain ⟨rfl, rfl, rfl, r27, rfl, hr62_27⟩ := q62_22
        refine g_st (st' := [.int r27]) rfl ?_
        have hcn := hr62_27
        exact g_ireturn d_X10_seen_65 rfl rfl rfl rfl ⟨rfl, trivial, r27, rfl, ⟨Or.inr (Or.inr ⟨by grind, by grind, by grind, by rw [hcn, mi_r91 (hK22).1], (hK22).1⟩), (hK22).2⟩⟩
      · skip
        refine g_ldc (v := -1000000002) d_X10_seen_37 tw_1199 ?_
        exact g_ireturn d_X10_seen_39 rfl rfl rfl rfl ⟨rfl, trivial, (-1000000002 : Int32), rfl, ⟨Or.inr (Or.inl ⟨by grind, by grind, by grind, rfl, (hK0).1⟩), (hK0).2⟩⟩
  · skip
    refine g_ldcw (v := -1000000001) d_X10_seen_7 tw_1296 ?_
    exact g_ireturn d_X10_seen_10 rfl rfl rfl rfl ⟨rfl, trivial, (-1000000001 : Int32), rfl, ⟨Or.inl ⟨by grind, rfl, (hK0).1⟩, (hK0).2⟩⟩
set_option maxRecDepth 100000 in
set_option maxHeartbeats 4000000 in
theorem ct_X10_forget  (I : Iv) (J : Jv) (hma : MA I) (hmj : MJ J) : Ct m_X10_forget [.ref 78] SHF I J (fun r S' I' J' => S' = SHF ∧ (MI (rI2 I 91 (I' 91)) I' ∧ MK J J') ∧ ∃ v : Int32, r = some (.int v) ∧ v = cn (I 91) 7 ∧ (∀ k, k < 7 → I' 91 k = 0)) := by
  refine ct_of 2 (by decide +kernel) rfl rfl ?_
  have hK0 : (MI (rI2 I 91 (I 91)) I ∧ MK J J) := ⟨by rw [rI2_own]; exact mi_rfl hma, mk_rfl hmj⟩
  refine g_aload_n d_X10_forget_0 rfl ?_
  refine g_V0 d_X10_forget_1 cs_X10_forget_X10_seens lk_RX10_338 im_X10_seens se_X10_seens rfl rfl rfl (Nat.le_of_ble_eq_true rfl) ⟨rfl, rfl⟩ ⟨Nat.zero_le _, Nat.zero_le _⟩ (ct_X10_seens  I J ) (fun r1 S1 Ic2 Jc3 q1_0 => ?_)
  obtain ⟨rfl, rfl, rfl, r5, rfl, hr1_5⟩ := q1_0
  refine g_st (st' := [.int r5]) rfl ?_
  have hcn := hr1_5
  refine g_istore_n (L' := [some (.ref 78), some (.int r5), none]) d_X10_forget_4 (by decide) rfl ?_
  refine g_iconst (v := 0) d_X10_forget_5 kI_0 ?_
  refine g_istore_n (L' := [some (.ref 78), some (.int r5), some (.int (0 : Int32))]) d_X10_forget_6 (by decide) rfl ?_
  have K_7 : ∀ (nu : Nat) (x7 : Int32) (I8 : Iv), mU (7 : Int32) x7 = nu → ((MI (rI2 I 91 (I8 91)) I8 ∧ MK J J)) → ((0 : Int32) ≤ x7) → (∀ k, k < x7.toNatClampNeg → I8 91 k = 0) → (x7 ≤ 7) → G m_X10_forget (rq m_X10_forget (fun r S' I' J' => S' = SHF ∧ (MI (rI2 I 91 (I' 91)) I' ∧ MK J J') ∧ ∃ v : Int32, r = some (.int v) ∧ v = cn (I 91) 7 ∧ (∀ k, k < 7 → I' 91 k = 0))) 0 0 7 [some (.ref 78), some (.int r5), some (.int x7)] [] SHF I8 J := by
    intro nu
    induction nu using Nat.strongRecOn with
    | ind nu ih_7 =>
      intro x7 I8 hmu_7 hK9 hl10 hf_7 hi_7
      refine g_iload_n d_X10_forget_7 rfl ?_
      refine g_bipush (v := 7) d_X10_forget_8 kB_7 ?_
      refine g_icmp_ge d_X10_forget_10 (fun h10 => ?_) (fun h10 => ?_)
      · skip
        refine g_iload_n d_X10_forget_26 rfl ?_
        exact g_ireturn d_X10_forget_27 rfl rfl rfl rfl ⟨rfl, hK9, r5, rfl, ⟨hcn, fun k hk => hf_7 k (by rw [show x7 = 7 by grind, kN_7]; exact hk)⟩⟩
      · skip
        refine g_aload_n d_X10_forget_13 rfl ?_
        refine g_getR d_X10_forget_14 fq_RX10_52 rfl rfl ?_
        refine g_iload_n d_X10_forget_17 rfl ?_
        refine g_iconst (v := 0) d_X10_forget_18 kI_0 ?_
        refine g_bastore (N := 7) d_X10_forget_19 rfl kT_7 ⟨hl10, Int32.not_le.mp h10⟩ rfl (Or.inl rfl) ?_
        refine g_nmI (fun I11 eI11 => ?_)
        have hK12 : (MI (rI2 I 91 (I11 91)) I11 ∧ MK J J) := (by rw [eI11]; exact ⟨mi_forg (hK9).1, (hK9).2⟩)
        refine g_iinc (v := (x7 + (1 : Int32))) (L' := [some (.ref 78), some (.int r5), some (.int (x7 + (1 : Int32)))]) d_X10_forget_20 rfl (by rw [kI_1]) (by decide) rfl ?_
        refine g_goto d_X10_forget_23 ?_
        exact ih_7 _ (by rw [← hmu_7]; exact mu_up h10) (x7 + (1 : Int32)) I11 rfl hK12 (lo_up hl10 h10) (by rw [eI11]; exact cn_clr hl10 h10 hf_7) (by grind)
  exact K_7 _ (0 : Int32) I rfl hK0 (Int32.le_refl _) (fun k hk => absurd hk (by rw [kN_0]; omega)) (by decide)
set_option maxRecDepth 100000 in
set_option maxHeartbeats 4000000 in
theorem ct_X10_prior (k : Int32) (p : Int32) (I : Iv) (J : Jv) (hma : MA I) (hmj : MJ J) : Ct m_X10_prior [.ref 78, .int k, .int p] SHF I J (fun r S' I' J' => S' = SHF ∧ True ∧ ∃ v : Int32, r = some (.int v) ∧ (((¬ (0 ≤ k ∧ k ≤ 6) ∧ v = -1000000001 ∧ MI (bgI I) I') ∨ (0 ≤ k ∧ k ≤ 6 ∧ ¬ (0 ≤ p ∧ p ≤ 1000) ∧ v = -1000000002 ∧ MI (bgI I) I') ∨ (0 ≤ k ∧ k ≤ 6 ∧ 0 ≤ p ∧ p ≤ 1000 ∧ v = (bgI I) 94 k.toNatClampNeg ∧ MI (wI (bgI I) 94 k.toNatClampNeg p) I')) ∧ MK (bgJ I J) J')) := by
  refine ct_of 1 (by decide +kernel) rfl rfl ?_
  have hK0 : (MI I I ∧ MK J J) := ⟨mi_rfl hma, mk_rfl hmj⟩
  refine g_aload_n d_X10_prior_0 rfl ?_
  refine g_V0 d_X10_prior_1 cs_X10_prior_X10_begin lk_RX10_166 im_X10_begin se_X10_begin rfl rfl rfl (Nat.le_of_ble_eq_true rfl) ⟨rfl, rfl⟩ ⟨Nat.zero_le _, Nat.zero_le _⟩ (ct_X10_begin  I J hma hmj) (fun r1 S1 I1 J2 q1_2 => ?_)
  obtain ⟨rfl, hc1_3, rfl, hr1_4⟩ := q1_2
  refine g_st (st' := []) rfl ?_
  have hK6 : (MI (bgI I) I1 ∧ MK (bgJ I J) J2) := hr1_4
  have hrow := mi_r94 (hr1_4).1
  refine g_iload_n d_X10_prior_4 rfl ?_
  refine g_S1 d_X10_prior_5 cs_X10_prior_X10_isTrouble lk_RX10_341 im_X10_isTrouble (Nat.le_of_ble_eq_true rfl) ⟨rfl, rfl⟩ ⟨Nat.zero_le _, Nat.zero_le _⟩ (ct_X10_isTrouble k I1 J2 ) (fun r5 S5 Ic8 Jc9 q5_6 => ?_)
  obtain ⟨rfl, rfl, rfl, r11, rfl, hz5, hr5_11⟩ := q5_6
  refine g_st (st' := [.int r11]) rfl ?_
  refine g_if_ne d_X10_prior_8 (fun h8 => ?_) (fun h8 => ?_)
  · skip
    refine g_iload_n d_X10_prior_15 rfl ?_
    refine g_i2l d_X10_prior_16 ?_
    refine g_lconst d_X10_prior_17 kL_0 ?_
    refine g_ldc2 (v := 1000) d_X10_prior_18 tw_1392 ?_
    refine g_S3 d_X10_prior_21 cs_X10_prior_X10_in lk_RX10_96 im_X10_in (Nat.le_of_ble_eq_true rfl) ⟨rfl, rfl⟩ ⟨Nat.zero_le _, Nat.zero_le _⟩ (ct_X10_inL p (0 : Int64) (1000 : Int64) (0 : Int32) (1000 : Int32) (by decide) (by decide) I1 J2) (fun r21 S21 Ic14 Jc15 q21_12 => ?_)
    obtain ⟨rfl, rfl, rfl, r17, rfl, hz21, hr21_17⟩ := q21_12
    refine g_st (st' := [.int r17]) rfl ?_
    refine g_if_ne d_X10_prior_24 (fun h24 => ?_) (fun h24 => ?_)
    · skip
      refine g_aload_n d_X10_prior_30 rfl ?_
      refine g_getR d_X10_prior_31 fq_RX10_61 rfl rfl ?_
      refine g_iload_n d_X10_prior_34 rfl ?_
      refine g_iaload (N := 7) d_X10_prior_35 rfl kT_7 (by constructor <;> grind) rfl ?_
      refine g_topI (fun v19 ev19 => ?_)
      refine g_istore_n (L' := [some (.ref 78), some (.int k), some (.int p), some (.int v19)]) d_X10_prior_36 (by decide) rfl ?_
      refine g_aload_n d_X10_prior_37 rfl ?_
      refine g_getR d_X10_prior_38 fq_RX10_61 rfl rfl ?_
      refine g_iload_n d_X10_prior_41 rfl ?_
      refine g_iload_n d_X10_prior_42 rfl ?_
      refine g_iastore (N := 7) d_X10_prior_43 rfl kT_7 (by constructor <;> grind) rfl  ?_
      refine g_nmI (fun I20 eI20 => ?_)
      have hK21 : (MI (wI (bgI I) 94 k.toNatClampNeg p) I20 ∧ MK (bgJ I J) J2) := (by rw [eI20]; exact ⟨mi_94 (hK6).1 (by constructor <;> grind), (hK6).2⟩)
      refine g_iload_n d_X10_prior_44 rfl ?_
      exact g_ireturn d_X10_prior_45 rfl rfl rfl rfl ⟨rfl, trivial, v19, rfl, ⟨Or.inr (Or.inr ⟨by grind, by grind, by grind, by grind, by rw [ev19, hrow], (hK21).1⟩), (hK21).2⟩⟩
    · skip
      refine g_ldc (v := -1000000002) d_X10_prior_27 tw_1199 ?_
      exact g_ireturn d_X10_prior_29 rfl rfl rfl rfl ⟨rfl, trivial, (-1000000002 : Int32), rfl, ⟨Or.inr (Or.inl ⟨by grind, by grind, by grind, rfl, (hK6).1⟩), (hK6).2⟩⟩
  · skip
    refine g_ldcw (v := -1000000001) d_X10_prior_11 tw_1296 ?_
    exact g_ireturn d_X10_prior_14 rfl rfl rfl rfl ⟨rfl, trivial, (-1000000001 : Int32), rfl, ⟨Or.inl ⟨by grind, rfl, (hK6).1⟩, (hK6).2⟩⟩
set_option maxRecDepth 100000 in
set_option maxHeartbeats 4000000 in
theorem ct_X10_bother (what : Int32) (b : Int32) (I : Iv) (J : Jv) (hma : MA I) (hmj : MJ J) : Ct m_X10_bother [.ref 78, .int what, .int b] SHF I J (fun r S' I' J' => S' = SHF ∧ True ∧ ∃ v : Int32, r = some (.int v) ∧ (((¬ (0 ≤ what ∧ what ≤ 6) ∧ v = -1000000001 ∧ MI I I') ∨ (0 ≤ what ∧ what ≤ 6 ∧ ¬ (0 ≤ b ∧ b ≤ 999) ∧ v = -1000000002 ∧ MI I I') ∨ (0 ≤ what ∧ what ≤ 6 ∧ 0 ≤ b ∧ b ≤ 999 ∧ v = I 95 what.toNatClampNeg ∧ MI (wI I 95 what.toNatClampNeg b) I')) ∧ MK J J')) := by
  refine ct_of 1 (by decide +kernel) rfl rfl ?_
  have hK0 : (MI I I ∧ MK J J) := ⟨mi_rfl hma, mk_rfl hmj⟩
  refine g_iload_n d_X10_bother_0 rfl ?_
  refine g_S1 d_X10_bother_1 cs_X10_bother_X10_isSign lk_RX10_323 im_X10_isSign (Nat.le_of_ble_eq_true rfl) ⟨rfl, rfl⟩ ⟨Nat.zero_le _, Nat.zero_le _⟩ (ct_X10_isSign what I J ) (fun r1 S1 Ic2 Jc3 q1_0 => ?_)
  obtain ⟨rfl, rfl, rfl, r5, rfl, hz1, hr1_5⟩ := q1_0
  refine g_st (st' := [.int r5]) rfl ?_
  refine g_if_ne d_X10_bother_4 (fun h4 => ?_) (fun h4 => ?_)
  · skip
    refine g_iload_n d_X10_bother_11 rfl ?_
    refine g_i2l d_X10_bother_12 ?_
    refine g_lconst d_X10_bother_13 kL_0 ?_
    refine g_ldc2 (v := 999) d_X10_bother_14 tw_1476 ?_
    refine g_S3 d_X10_bother_17 cs_X10_bother_X10_in lk_RX10_96 im_X10_in (Nat.le_of_ble_eq_true rfl) ⟨rfl, rfl⟩ ⟨Nat.zero_le _, Nat.zero_le _⟩ (ct_X10_inL b (0 : Int64) (999 : Int64) (0 : Int32) (999 : Int32) (by decide) (by decide) I J) (fun r17 S17 Ic8 Jc9 q17_6 => ?_)
    obtain ⟨rfl, rfl, rfl, r11, rfl, hz17, hr17_11⟩ := q17_6
    refine g_st (st' := [.int r11]) rfl ?_
    refine g_if_ne d_X10_bother_20 (fun h20 => ?_) (fun h20 => ?_)
    · skip
      refine g_aload_n d_X10_bother_26 rfl ?_
      refine g_getR d_X10_bother_27 fq_RX10_64 rfl rfl ?_
      refine g_iload_n d_X10_bother_30 rfl ?_
      refine g_iaload (N := 7) d_X10_bother_31 rfl kT_7 (by constructor <;> grind) rfl ?_
      refine g_topI (fun v13 ev13 => ?_)
      refine g_istore_n (L' := [some (.ref 78), some (.int what), some (.int b), some (.int v13)]) d_X10_bother_32 (by decide) rfl ?_
      refine g_aload_n d_X10_bother_33 rfl ?_
      refine g_getR d_X10_bother_34 fq_RX10_64 rfl rfl ?_
      refine g_iload_n d_X10_bother_37 rfl ?_
      refine g_iload_n d_X10_bother_38 rfl ?_
      refine g_iastore (N := 7) d_X10_bother_39 rfl kT_7 (by constructor <;> grind) rfl  ?_
      refine g_nmI (fun I14 eI14 => ?_)
      have hK15 : (MI (wI I 95 what.toNatClampNeg b) I14 ∧ MK J J) := (by rw [eI14]; exact ⟨mi_trk (hK0).1 rfl, (hK0).2⟩)
      refine g_iload_n d_X10_bother_40 rfl ?_
      exact g_ireturn d_X10_bother_41 rfl rfl rfl rfl ⟨rfl, trivial, v13, rfl, ⟨Or.inr (Or.inr ⟨by grind, by grind, by grind, by grind, by rw [ev13], (hK15).1⟩), (hK15).2⟩⟩
    · skip
      refine g_ldc (v := -1000000002) d_X10_bother_23 tw_1199 ?_
      exact g_ireturn d_X10_bother_25 rfl rfl rfl rfl ⟨rfl, trivial, (-1000000002 : Int32), rfl, ⟨Or.inr (Or.inl ⟨by grind, by grind, by grind, rfl, (hK0).1⟩), (hK0).2⟩⟩
  · skip
    refine g_ldcw (v := -1000000001) d_X10_bother_7 tw_1296 ?_
    exact g_ireturn d_X10_bother_10 rfl rfl rfl rfl ⟨rfl, trivial, (-1000000001 : Int32), rfl, ⟨Or.inl ⟨by grind, rfl, (hK0).1⟩, (hK0).2⟩⟩
set_option maxRecDepth 100000 in
set_option maxHeartbeats 4000000 in
theorem ct_X10_weightOf (set : Int32) (I : Iv) (J : Jv) (hma : MA I) (hset : 0 ≤ set ∧ set < 128) : Ct m_X10_weightOf [.ref 78, .int set] SHF I J (fun r S' I' J' => S' = SHF ∧ I = I' ∧ J = J' ∧ ∃ v : Int64, r = some (.long v) ∧ 0 ≤ v ∧ v ≤ 1000000) := by
  refine ct_of 6 (by decide +kernel) rfl rfl ?_
  refine g_ldc2 (v := 1000000) d_X10_weightOf_0 tw_1514 ?_
  refine g_lstore_n (L' := [some (.ref 78), some (.int set), some (.long (1000000 : Int64)), none, none, none, none, none]) d_X10_weightOf_3 (by decide) rfl ?_
  refine g_iconst (v := 0) d_X10_weightOf_4 kI_0 ?_
  refine g_istore (L' := [some (.ref 78), some (.int set), some (.long (1000000 : Int64)), none, some (.int (0 : Int32)), none, none, none]) d_X10_weightOf_5 (by decide) rfl ?_
  have K_7 : ∀ (nu : Nat) (x1 : Int64) (x2 : Int32), mU (7 : Int32) x2 = nu → ((0 : Int32) ≤ x2) → (0 ≤ x1 ∧ x1 ≤ 1000000) → G m_X10_weightOf (rq m_X10_weightOf (fun r S' I' J' => S' = SHF ∧ I = I' ∧ J = J' ∧ ∃ v : Int64, r = some (.long v) ∧ 0 ≤ v ∧ v ≤ 1000000)) 0 0 7 [some (.ref 78), some (.int set), some (.long x1), none, some (.int x2), none, none, none] [] SHF I J := by
    intro nu
    induction nu using Nat.strongRecOn with
    | ind nu ih_7 =>
      intro x1 x2 hmu_7 hl3 hw_7
      refine g_iload d_X10_weightOf_7 rfl ?_
      refine g_bipush (v := 7) d_X10_weightOf_9 kB_7 ?_
      refine g_icmp_ge d_X10_weightOf_11 (fun h11 => ?_) (fun h11 => ?_)
      · skip
        refine g_iconst (v := 0) d_X10_weightOf_59 kI_0 ?_
        refine g_istore (L' := [some (.ref 78), some (.int set), some (.long x1), none, some (.int (0 : Int32)), none, none, none]) d_X10_weightOf_60 (by decide) rfl ?_
        have K_62 : ∀ (nu : Nat) (x4 : Int64) (x5 : Int32), mU (7 : Int32) x5 = nu → ((0 : Int32) ≤ x5) → (0 ≤ x4 ∧ x4 ≤ 1000000) → G m_X10_weightOf (rq m_X10_weightOf (fun r S' I' J' => S' = SHF ∧ I = I' ∧ J = J' ∧ ∃ v : Int64, r = some (.long v) ∧ 0 ≤ v ∧ v ≤ 1000000)) 0 0 62 [some (.ref 78), some (.int set), some (.long x4), none, some (.int x5), none, none, none] [] SHF I J := by
          intro nu
          induction nu using Nat.strongRecOn with
          | ind nu ih_62 =>
            intro x4 x5 hmu_62 hl6 hw_62
            refine g_iload d_X10_weightOf_62 rfl ?_
            refine g_bipush (v := 7) d_X10_weightOf_64 kB_7 ?_
            refine g_icmp_ge d_X10_weightOf_66 (fun h66 => ?_) (fun h66 => ?_)
            · skip
              refine g_lload_n d_X10_weightOf_159 rfl ?_
              exact g_lreturn d_X10_weightOf_160 rfl rfl rfl ⟨rfl, rfl, rfl, x4, rfl, hw_62⟩
            · skip
              refine g_aload_n d_X10_weightOf_69 rfl ?_
              refine g_getR d_X10_weightOf_70 fq_RX10_52 rfl rfl ?_
              refine g_iload d_X10_weightOf_73 rfl ?_
              refine g_baload (N := 7) d_X10_weightOf_75 rfl kT_7 ⟨hl6, Int32.not_le.mp h66⟩ rfl (fun hz75 => ?_)
              refine g_if_eq d_X10_weightOf_76 (fun h76 => ?_) (fun h76 => ?_)
              · skip
                refine g_iinc (v := (x5 + (1 : Int32))) (L' := [some (.ref 78), some (.int set), some (.long x4), none, some (.int (x5 + (1 : Int32))), none, none, none]) d_X10_weightOf_153 rfl (by rw [kI_1]) (by decide) rfl ?_
                refine g_goto d_X10_weightOf_156 ?_
                exact ih_62 _ (by rw [← hmu_62]; exact mu_up h66) x4 (x5 + (1 : Int32)) rfl (lo_up hl6 h66) (by assumption)
              · skip
                refine g_aload_n d_X10_weightOf_79 rfl ?_
                refine g_getR d_X10_weightOf_80 fq_RX10_70 rfl rfl ?_
                refine g_bipush (v := 7) d_X10_weightOf_83 kB_7 ?_
                refine g_iload_n d_X10_weightOf_85 rfl ?_
                refine g_imul d_X10_weightOf_86 ?_
                refine g_iload d_X10_weightOf_87 rfl ?_
                refine g_iadd d_X10_weightOf_89 ?_
                refine g_iaload (N := 896) d_X10_weightOf_90 rfl kT_896 (by constructor <;> grind) rfl ?_
                refine g_aload_n d_X10_weightOf_91 rfl ?_
                refine g_getR d_X10_weightOf_92 fq_RX10_55 rfl rfl ?_
                refine g_iload d_X10_weightOf_95 rfl ?_
                refine g_iaload (N := 7) d_X10_weightOf_97 rfl kT_7 ⟨hl6, Int32.not_le.mp h66⟩ rfl ?_
                refine g_isub d_X10_weightOf_98 ?_
                refine g_topI (fun v7 ev7 => ?_)
                refine g_istore (L' := [some (.ref 78), some (.int set), some (.long x4), none, some (.int x5), some (.int v7), none, none]) d_X10_weightOf_99 (by decide) rfl ?_
                refine g_iload d_X10_weightOf_101 rfl ?_
                have J_114 : ∀ (w8 : Int32), G m_X10_weightOf (rq m_X10_weightOf (fun r S' I' J' => S' = SHF ∧ I = I' ∧ J = J' ∧ ∃ v : Int64, r = some (.long v) ∧ 0 ≤ v ∧ v ≤ 1000000)) 0 0 114 [some (.ref 78), some (.int set), some (.long x4), none, some (.int x5), some (.int v7), none, none] [.int w8] SHF I J := by
                  intro w8
                  have hse := ma_seen hma (x := x5) (by grind) (by grind) h76
                  refine g_aload_n d_X10_weightOf_114 rfl ?_
                  refine g_getR d_X10_weightOf_115 fq_RX10_58 rfl rfl ?_
                  refine g_iload d_X10_weightOf_118 rfl ?_
                  refine g_iaload (N := 7) d_X10_weightOf_120 rfl kT_7 ⟨hl6, Int32.not_le.mp h66⟩ rfl ?_
                  refine g_idiv d_X10_weightOf_121 (by grind) ?_
                  refine g_topI (fun v9 ev9 => ?_)
                  refine g_istore (L' := [some (.ref 78), some (.int set), some (.long x4), none, some (.int x5), some (.int v7), some (.int v9), none]) d_X10_weightOf_122 (by decide) rfl ?_
                  refine g_iconst (v := 0) d_X10_weightOf_124 kI_0 ?_
                  refine g_istore (L' := [some (.ref 78), some (.int set), some (.long x4), none, some (.int x5), some (.int v7), some (.int v9), some (.int (0 : Int32))]) d_X10_weightOf_125 (by decide) rfl ?_
                  have K_127 : ∀ (nu : Nat) (x10 : Int64) (x11 : Int32), mU v9 x11 = nu → ((0 : Int32) ≤ x11) → (0 ≤ x10 ∧ x10 ≤ 1000000) → G m_X10_weightOf (rq m_X10_weightOf (fun r S' I' J' => S' = SHF ∧ I = I' ∧ J = J' ∧ ∃ v : Int64, r = some (.long v) ∧ 0 ≤ v ∧ v ≤ 1000000)) 0 0 127 [some (.ref 78), some (.int set), some (.long x10), none, some (.int x5), some (.int v7), some (.int v9), some (.int x11)] [] SHF I J := by
                    intro nu
                    induction nu using Nat.strongRecOn with
                    | ind nu ih_127 =>
                      intro x10 x11 hmu_127 hl12 hw_127
                      refine g_iload d_X10_weightOf_127 rfl ?_
                      refine g_iload d_X10_weightOf_129 rfl ?_
                      refine g_icmp_ge d_X10_weightOf_131 (fun h131 => ?_) (fun h131 => ?_)
                      · skip
                        refine g_iinc (v := (x5 + (1 : Int32))) (L' := [some (.ref 78), some (.int set), some (.long x10), none, some (.int (x5 + (1 : Int32))), some (.int v7), some (.int v9), some (.int x11)]) d_X10_weightOf_153 rfl (by rw [kI_1]) (by decide) rfl ?_
                        refine g_goto d_X10_weightOf_156 ?_
                        refine g_sb [some (.ref 78), some (.int set), some (.long x10), none, some (.int (x5 + (1 : Int32))), none, none, none] (by simp [subL]) ?_
                        exact ih_62 _ (by rw [← hmu_62]; exact mu_up h66) x10 (x5 + (1 : Int32)) rfl (lo_up hl6 h66) (by assumption)
                      · skip
                        refine g_iload d_X10_weightOf_134 rfl ?_
                        refine g_bipush (v := 20) d_X10_weightOf_136 kB_20 ?_
                        refine g_icmp_ge d_X10_weightOf_138 (fun h138 => ?_) (fun h138 => ?_)
                        · skip
                          refine g_iinc (v := (x5 + (1 : Int32))) (L' := [some (.ref 78), some (.int set), some (.long x10), none, some (.int (x5 + (1 : Int32))), some (.int v7), some (.int v9), some (.int x11)]) d_X10_weightOf_153 rfl (by rw [kI_1]) (by decide) rfl ?_
                          refine g_goto d_X10_weightOf_156 ?_
                          refine g_sb [some (.ref 78), some (.int set), some (.long x10), none, some (.int (x5 + (1 : Int32))), none, none, none] (by simp [subL]) ?_
                          exact ih_62 _ (by rw [← hmu_62]; exact mu_up h66) x10 (x5 + (1 : Int32)) rfl (lo_up hl6 h66) (by assumption)
                        · skip
                          refine g_lload_n d_X10_weightOf_141 rfl ?_
                          refine g_ldc2 (v := 2) d_X10_weightOf_142 tw_1319 ?_
                          refine g_ldiv d_X10_weightOf_145 (by decide) ?_
                          refine g_topJ (fun v13 ev13 => ?_)
                          refine g_lstore_n (L' := [some (.ref 78), some (.int set), some (.long v13), none, some (.int x5), some (.int v7), some (.int v9), some (.int x11)]) d_X10_weightOf_146 (by decide) rfl ?_
                          refine g_iinc (v := (x11 + (1 : Int32))) (L' := [some (.ref 78), some (.int set), some (.long v13), none, some (.int x5), some (.int v7), some (.int v9), some (.int (x11 + (1 : Int32)))]) d_X10_weightOf_147 rfl (by rw [kI_1]) (by decide) rfl ?_
                          refine g_goto d_X10_weightOf_150 ?_
                          exact ih_127 _ (by rw [← hmu_127]; exact mu_up h131) v13 (x11 + (1 : Int32)) rfl (lo_up hl12 h131) (by rw [ev13]; exact half_bd hw_127)
                  exact K_127 _ x4 (0 : Int32) rfl (Int32.le_refl _) hw_62
                refine g_if_ge d_X10_weightOf_103 (fun h103 => ?_) (fun h103 => ?_)
                · skip
                  refine g_iload d_X10_weightOf_112 rfl ?_
                  exact J_114 v7
                · skip
                  refine g_iload d_X10_weightOf_106 rfl ?_
                  refine g_ineg d_X10_weightOf_108 ?_
                  refine g_goto d_X10_weightOf_109 ?_
                  exact J_114 ((-v7))
        exact K_62 _ x1 (0 : Int32) rfl (Int32.le_refl _) hw_7
      · skip
        refine g_lload_n d_X10_weightOf_14 rfl ?_
        refine g_iload_n d_X10_weightOf_15 rfl ?_
        refine g_i2l d_X10_weightOf_16 ?_
        refine g_iload d_X10_weightOf_17 rfl ?_
        refine g_S2 d_X10_weightOf_19 cs_X10_weightOf_X10_has lk_RX10_149 im_X10_has (Nat.le_of_ble_eq_true rfl) ⟨rfl, rfl⟩ ⟨Nat.zero_le _, Nat.zero_le _⟩ (ct_X10_has (Int32.toInt64 set) x2 I J ) (fun r19 S19 Ic15 Jc16 q19_13 => ?_)
        obtain ⟨rfl, rfl, rfl, r18, rfl, hz19⟩ := q19_13
        refine g_st (st' := [.int r18, .long x1]) rfl ?_
        have J_46 : ∀ (w20 : Int32), (0 ≤ w20 ∧ w20 ≤ 1000) → G m_X10_weightOf (rq m_X10_weightOf (fun r S' I' J' => S' = SHF ∧ I = I' ∧ J = J' ∧ ∃ v : Int64, r = some (.long v) ∧ 0 ≤ v ∧ v ≤ 1000000)) 0 0 46 [some (.ref 78), some (.int set), some (.long x1), none, some (.int x2), none, none, none] [.int w20, .long x1] SHF I J := by
          intro w20 hp_46
          refine g_i2l d_X10_weightOf_46 ?_
          refine g_lmul d_X10_weightOf_47 ?_
          refine g_ldc2 (v := 1000) d_X10_weightOf_48 tw_1392 ?_
          refine g_ldiv d_X10_weightOf_51 (by decide) ?_
          refine g_topJ (fun v21 ev21 => ?_)
          refine g_lstore_n (L' := [some (.ref 78), some (.int set), some (.long v21), none, some (.int x2), none, none, none]) d_X10_weightOf_52 (by decide) rfl ?_
          have hw2 : 0 ≤ v21 ∧ v21 ≤ 1000000 := by rw [ev21]; exact wstep hw_7.1 hw_7.2 hp_46.1 hp_46.2
          refine g_iinc (v := (x2 + (1 : Int32))) (L' := [some (.ref 78), some (.int set), some (.long v21), none, some (.int (x2 + (1 : Int32))), none, none, none]) d_X10_weightOf_53 rfl (by rw [kI_1]) (by decide) rfl ?_
          refine g_goto d_X10_weightOf_56 ?_
          exact ih_7 _ (by rw [← hmu_7]; exact mu_up h11) v21 (x2 + (1 : Int32)) rfl (lo_up hl3 h11) hw2
        refine g_if_eq d_X10_weightOf_22 (fun h22 => ?_) (fun h22 => ?_)
        · skip
          refine g_sipush (v := 1000) d_X10_weightOf_35 kS_1000 ?_
          refine g_aload_n d_X10_weightOf_38 rfl ?_
          refine g_getR d_X10_weightOf_39 fq_RX10_61 rfl rfl ?_
          refine g_iload d_X10_weightOf_42 rfl ?_
          refine g_iaload (N := 7) d_X10_weightOf_44 rfl kT_7 ⟨hl3, Int32.not_le.mp h11⟩ rfl ?_
          refine g_isub d_X10_weightOf_45 ?_
          exact J_46 (((1000 : Int32) - (I 94 x2.toNatClampNeg))) (by have hq := ma_pri hma (x := x2) (by grind) (by grind); constructor <;> grind)
        · skip
          refine g_aload_n d_X10_weightOf_25 rfl ?_
          refine g_getR d_X10_weightOf_26 fq_RX10_61 rfl rfl ?_
          refine g_iload d_X10_weightOf_29 rfl ?_
          refine g_iaload (N := 7) d_X10_weightOf_31 rfl kT_7 ⟨hl3, Int32.not_le.mp h11⟩ rfl ?_
          refine g_goto d_X10_weightOf_32 ?_
          exact J_46 ((I 94 x2.toNatClampNeg)) (by have hq := ma_pri hma (x := x2) (by grind) (by grind); constructor <;> grind)
  exact K_7 _ (1000000 : Int64) (0 : Int32) rfl (Int32.le_refl _) (by decide)
set_option maxRecDepth 100000 in
set_option maxHeartbeats 4000000 in
theorem ct_X10_weigh (n : Int32) (I : Iv) (J : Jv) (hma : MA I) (hmj : MJ J) (hn6 : 1 ≤ n ∧ n ≤ 6) : Ct m_X10_weigh [.ref 78, .int n] SHF I J (fun r S' I' J' => S' = SHF ∧ (MI I I' ∧ MK J J') ∧ r = none ∧ 0 ≤ J' 78 28 ∧ J' 78 28 ≤ 128000000) := by
  refine ct_of 2 (by decide +kernel) rfl rfl ?_
  have hK0 : (MI I I ∧ MK J J) := ⟨mi_rfl hma, mk_rfl hmj⟩
  refine g_aload_n d_X10_weigh_0 rfl ?_
  refine g_lconst d_X10_weigh_1 kL_0 ?_
  refine g_putJ d_X10_weigh_2 fq_RX10_349 rfl rfl ?_
  refine g_nmJ (fun J1 eJ1 => ?_)
  have hK2 : (MI I I ∧ MK J J1) := (by rw [eJ1]; exact ⟨(hK0).1, mj_row (hK0).2 (by decide)⟩)
  have hz2 : J1 78 28 = 0 := by rw [eJ1, wJ_self]
  refine g_iconst (v := 0) d_X10_weigh_5 kI_0 ?_
  refine g_istore_n (L' := [some (.ref 78), some (.int n), some (.int (0 : Int32)), none]) d_X10_weigh_6 (by decide) rfl ?_
  have K_7 : ∀ (nu : Nat) (x3 : Int32) (I4 : Iv) (J5 : Jv), mU (128 : Int32) x3 = nu → ((MI I I4 ∧ MK J J5)) → ((0 : Int32) ≤ x3) → (0 ≤ (J5 78 28).toInt ∧ (J5 78 28).toInt ≤ (x3).toInt * 1000000) → (x3 ≤ 128) → G m_X10_weigh (rq m_X10_weigh (fun r S' I' J' => S' = SHF ∧ (MI I I' ∧ MK J J') ∧ r = none ∧ 0 ≤ J' 78 28 ∧ J' 78 28 ≤ 128000000)) 0 0 7 [some (.ref 78), some (.int n), some (.int x3), none] [] SHF I4 J5 := by
    intro nu
    induction nu using Nat.strongRecOn with
    | ind nu ih_7 =>
      intro x3 I4 J5 hmu_7 hK6 hl7 ha_7 hi_7
      refine g_iload_n d_X10_weigh_7 rfl ?_
      refine g_sipush (v := 128) d_X10_weigh_8 kS_128 ?_
      refine g_icmp_ge d_X10_weigh_11 (fun h11 => ?_) (fun h11 => ?_)
      · skip
        exact g_return d_X10_weigh_97 rfl rfl rfl ⟨rfl, hK6, rfl, (wl_end ha_7 hi_7)⟩
      · skip
        refine g_aload_n d_X10_weigh_14 rfl ?_
        refine g_getR d_X10_weigh_15 fq_RX10_67 rfl rfl ?_
        refine g_iload_n d_X10_weigh_18 rfl ?_
        refine g_lconst d_X10_weigh_19 kL_0 ?_
        refine g_lastore (N := 128) d_X10_weigh_20 rfl kT_128 ⟨hl7, Int32.not_le.mp h11⟩ rfl  ?_
        refine g_nmJ (fun J8 eJ8 => ?_)
        have hK9 : (MI I I4 ∧ MK J J8) := (by rw [eJ8]; exact ⟨(hK6).1, mj_row (hK6).2 (by decide)⟩)
        have hs19 : J8 78 28 = J5 78 28 := by rw [eJ8, wJ_row (by decide)]
        refine g_iload_n d_X10_weigh_21 rfl ?_
        refine g_S1 d_X10_weigh_22 cs_X10_weigh_X10_couldBe lk_RX10_353 im_X10_couldBe (Nat.le_of_ble_eq_true rfl) ⟨rfl, rfl⟩ ⟨Nat.zero_le _, Nat.zero_le _⟩ (ct_X10_couldBe x3 I4 J8 ) (fun r22 S22 Ic11 Jc12 q22_9 => ?_)
        obtain ⟨rfl, rfl, rfl, r14, rfl, hz22⟩ := q22_9
        refine g_st (st' := [.int r14]) rfl ?_
        refine g_if_eq d_X10_weigh_25 (fun h25 => ?_) (fun h25 => ?_)
        · skip
          refine g_iinc (v := (x3 + (1 : Int32))) (L' := [some (.ref 78), some (.int n), some (.int (x3 + (1 : Int32))), none]) d_X10_weigh_91 rfl (by rw [kI_1]) (by decide) rfl ?_
          refine g_goto d_X10_weigh_94 ?_
          exact ih_7 _ (by rw [← hmu_7]; exact mu_up h11) (x3 + (1 : Int32)) I4 J8 rfl hK9 (lo_up hl7 h11) (by first | exact ha88 | (rw [hs19]; exact wl_skip ha_7 h11)) (by grind)
        · skip
          refine g_aload_n d_X10_weigh_28 rfl ?_
          refine g_iload_n d_X10_weigh_29 rfl ?_
          refine g_iload_n d_X10_weigh_30 rfl ?_
          refine g_V2 d_X10_weigh_31 cs_X10_weigh_X10_findSigns lk_RX10_329 im_X10_findSigns se_X10_findSigns rfl rfl rfl (Nat.le_of_ble_eq_true rfl) ⟨rfl, rfl⟩ ⟨Nat.zero_le _, Nat.zero_le _⟩ (ct_X10_findSigns x3 n I4 J8 (hK9).1.2 (hK9).2.2 hn6) (fun r31 S31 I16 J17 q31_17 => ?_)
          obtain ⟨rfl, hc31_18, rfl, hr31_19⟩ := q31_17
          refine g_st (st' := []) rfl ?_
          have hK21 : (MI I I16 ∧ MK J J17) := ⟨mi_tr (hK9).1 hc31_18.1, mk_tr (hK9).2 hc31_18.2⟩
          have hs31 : J17 78 28 = J8 78 28 := by rw [hr31_19 78 (by decide) (by decide)]
          refine g_iconst (v := 0) d_X10_weigh_34 kI_0 ?_
          refine g_istore_n (L' := [some (.ref 78), some (.int n), some (.int x3), some (.int (0 : Int32))]) d_X10_weigh_35 (by decide) rfl ?_
          have K_36 : ∀ (nu : Nat) (x22 : Int32) (I23 : Iv), mU (7 : Int32) x22 = nu → ((MI I I23 ∧ MK J J17)) → ((0 : Int32) ≤ x22) → G m_X10_weigh (rq m_X10_weigh (fun r S' I' J' => S' = SHF ∧ (MI I I' ∧ MK J J') ∧ r = none ∧ 0 ≤ J' 78 28 ∧ J' 78 28 ≤ 128000000)) 0 0 36 [some (.ref 78), some (.int n), some (.int x3), some (.int x22)] [] SHF I23 J17 := by
            intro nu
            induction nu using Nat.strongRecOn with
            | ind nu ih_36 =>
              intro x22 I23 hmu_36 hK24 hl25
              refine g_iload_n d_X10_weigh_36 rfl ?_
              refine g_bipush (v := 7) d_X10_weigh_37 kB_7 ?_
              refine g_icmp_ge d_X10_weigh_39 (fun h39 => ?_) (fun h39 => ?_)
              · skip
                refine g_aload_n d_X10_weigh_65 rfl ?_
                refine g_getR d_X10_weigh_66 fq_RX10_67 rfl rfl ?_
                refine g_iload_n d_X10_weigh_69 rfl ?_
                refine g_aload_n d_X10_weigh_70 rfl ?_
                refine g_iload_n d_X10_weigh_71 rfl ?_
                refine g_V1 d_X10_weigh_72 cs_X10_weigh_X10_weightOf lk_RX10_356 im_X10_weightOf se_X10_weightOf rfl rfl rfl (Nat.le_of_ble_eq_true rfl) ⟨rfl, rfl⟩ ⟨Nat.zero_le _, Nat.zero_le _⟩ (ct_X10_weightOf x3 I23 J17 (hK24).1.2 (by grind)) (fun r72 S72 Ic27 Jc28 q72_25 => ?_)
                obtain ⟨rfl, rfl, rfl, r30, rfl, hr72_30⟩ := q72_25
                refine g_st (st' := [.long r30, .int x3, .ref 96]) rfl ?_
                refine g_lastore (N := 128) d_X10_weigh_75 rfl kT_128 ⟨hl7, Int32.not_le.mp h11⟩ rfl  ?_
                refine g_nmJ (fun J32 eJ32 => ?_)
                have hK33 : (MI I I23 ∧ MK J J32) := (by rw [eJ32]; exact ⟨(hK24).1, mj_row (hK24).2 (by decide)⟩)
                have hw75 : 0 ≤ J32 96 x3.toNatClampNeg ∧ J32 96 x3.toNatClampNeg ≤ 1000000 := by rw [eJ32, wJ_self]; exact hr72_30
                have hs75 : J32 78 28 = J17 78 28 := by rw [eJ32, wJ_row (by decide)]
                refine g_aload_n d_X10_weigh_76 rfl ?_
                refine g_dup d_X10_weigh_77 rfl ?_
                refine g_getJ d_X10_weigh_78 fq_RX10_349 rfl rfl ?_
                refine g_aload_n d_X10_weigh_81 rfl ?_
                refine g_getR d_X10_weigh_82 fq_RX10_67 rfl rfl ?_
                refine g_iload_n d_X10_weigh_85 rfl ?_
                refine g_laload (N := 128) d_X10_weigh_86 rfl kT_128 ⟨hl7, Int32.not_le.mp h11⟩ rfl ?_
                refine g_ladd d_X10_weigh_87 ?_
                refine g_putJ d_X10_weigh_88 fq_RX10_349 rfl rfl ?_
                refine g_nmJ (fun J34 eJ34 => ?_)
                have hK35 : (MI I I23 ∧ MK J J34) := (by rw [eJ34]; exact ⟨(hK33).1, mj_row (hK33).2 (by decide)⟩)
                have ha88 : 0 ≤ (J34 78 28).toInt ∧ (J34 78 28).toInt ≤ (x3 + 1).toInt * 1000000 := by rw [eJ34, wJ_self, hs75, hs31, hs19]; exact wl_step ha_7 h11 hw75.1 hw75.2
                refine g_iinc (v := (x3 + (1 : Int32))) (L' := [some (.ref 78), some (.int n), some (.int (x3 + (1 : Int32))), some (.int x22)]) d_X10_weigh_91 rfl (by rw [kI_1]) (by decide) rfl ?_
                refine g_goto d_X10_weigh_94 ?_
                refine g_sb [some (.ref 78), some (.int n), some (.int (x3 + (1 : Int32))), none] (by simp [subL]) ?_
                exact ih_7 _ (by rw [← hmu_7]; exact mu_up h11) (x3 + (1 : Int32)) I23 J34 rfl hK35 (lo_up hl7 h11) (by first | exact ha88 | (rw [hs19]; exact wl_skip ha_7 h11)) (by grind)
              · skip
                refine g_aload_n d_X10_weigh_42 rfl ?_
                refine g_getR d_X10_weigh_43 fq_RX10_70 rfl rfl ?_
                refine g_bipush (v := 7) d_X10_weigh_46 kB_7 ?_
                refine g_iload_n d_X10_weigh_48 rfl ?_
                refine g_imul d_X10_weigh_49 ?_
                refine g_iload_n d_X10_weigh_50 rfl ?_
                refine g_iadd d_X10_weigh_51 ?_
                refine g_aload_n d_X10_weigh_52 rfl ?_
                refine g_getR d_X10_weigh_53 fq_RX10_49 rfl rfl ?_
                refine g_iload_n d_X10_weigh_56 rfl ?_
                refine g_iaload (N := 7) d_X10_weigh_57 rfl kT_7 ⟨hl25, Int32.not_le.mp h39⟩ rfl ?_
                refine g_iastore (N := 896) d_X10_weigh_58 rfl kT_896 (by constructor <;> grind) rfl  ?_
                refine g_nmI (fun I36 eI36 => ?_)
                have hK37 : (MI I I36 ∧ MK J J17) := (by rw [eI36]; exact ⟨mi_free (hK24).1 rfl, (hK24).2⟩)
                refine g_iinc (v := (x22 + (1 : Int32))) (L' := [some (.ref 78), some (.int n), some (.int x3), some (.int (x22 + (1 : Int32)))]) d_X10_weigh_59 rfl (by rw [kI_1]) (by decide) rfl ?_
                refine g_goto d_X10_weigh_62 ?_
                exact ih_36 _ (by rw [← hmu_36]; exact mu_up h39) (x22 + (1 : Int32)) I36 rfl hK37 (lo_up hl25 h39)
          exact K_36 _ (0 : Int32) I16 rfl hK21 (Int32.le_refl _)
  exact K_7 _ (0 : Int32) I J1 rfl hK2 (Int32.le_refl _) (by rw [hz2]; decide) (by decide)
set_option maxRecDepth 100000 in
set_option maxHeartbeats 4000000 in
theorem ct_X10_oddsOf (set : Int32) (I : Iv) (J : Jv) (hset : 0 ≤ set ∧ set < 128) : Ct m_X10_oddsOf [.ref 78, .int set] SHF I J (fun r S' I' J' => S' = SHF ∧ I = I' ∧ J = J' ∧ ∃ v : Int32, r = some (.int v)) := by
  refine ct_of 0 (by decide +kernel) rfl rfl ?_
  refine g_aload_n d_X10_oddsOf_0 rfl ?_
  refine g_getJ d_X10_oddsOf_1 fq_RX10_349 rfl rfl ?_
  refine g_lconst d_X10_oddsOf_4 kL_0 ?_
  refine g_lcmp_ne d_X10_oddsOf_5 d_X10_oddsOf_6 (fun h6 => ?_) (fun h6 => ?_)
  · skip
    refine g_ldc2 (v := 1000000) d_X10_oddsOf_13 tw_1514 ?_
    refine g_aload_n d_X10_oddsOf_16 rfl ?_
    refine g_getR d_X10_oddsOf_17 fq_RX10_67 rfl rfl ?_
    refine g_iload_n d_X10_oddsOf_20 rfl ?_
    refine g_laload (N := 128) d_X10_oddsOf_21 rfl kT_128 (by constructor <;> grind) rfl ?_
    refine g_lmul d_X10_oddsOf_22 ?_
    refine g_aload_n d_X10_oddsOf_23 rfl ?_
    refine g_getJ d_X10_oddsOf_24 fq_RX10_349 rfl rfl ?_
    refine g_ldiv d_X10_oddsOf_27 (by grind) ?_
    refine g_l2i d_X10_oddsOf_28 ?_
    exact g_ireturn d_X10_oddsOf_29 rfl rfl rfl rfl ⟨rfl, rfl, rfl, (Int64.toInt32 (((1000000 : Int64) * (J 96 set.toNatClampNeg)) / (J 78 28))), rfl⟩
  · skip
    refine g_iconst (v := 0) d_X10_oddsOf_9 kI_0 ?_
    refine g_goto d_X10_oddsOf_10 ?_
    exact g_ireturn d_X10_oddsOf_29 rfl rfl rfl rfl ⟨rfl, rfl, rfl, (0 : Int32), rfl⟩
set_option maxRecDepth 100000 in
set_option maxHeartbeats 4000000 in
theorem ct_X10_tellsOf (what : Int32) (I : Iv) (J : Jv) (hma : MA I) (hwh : 0 ≤ what ∧ what < 7) (hal : 0 ≤ J 78 28 ∧ J 78 28 ≤ 128000000) : Ct m_X10_tellsOf [.ref 78, .int what] SHF I J (fun r S' I' J' => S' = SHF ∧ I = I' ∧ J = J' ∧ ∃ v : Int32, r = some (.int v)) := by
  refine ct_of 7 (by decide +kernel) rfl rfl ?_
  refine g_aload_n d_X10_tellsOf_0 rfl ?_
  refine g_getJ d_X10_tellsOf_1 fq_RX10_349 rfl rfl ?_
  refine g_lconst d_X10_tellsOf_4 kL_0 ?_
  refine g_lcmp_ne d_X10_tellsOf_5 d_X10_tellsOf_6 (fun h6 => ?_) (fun h6 => ?_)
  · skip
    refine g_aload_n d_X10_tellsOf_11 rfl ?_
    refine g_getR d_X10_tellsOf_12 fq_RX10_52 rfl rfl ?_
    refine g_iload_n d_X10_tellsOf_15 rfl ?_
    refine g_baload (N := 7) d_X10_tellsOf_16 rfl kT_7 (by constructor <;> grind) rfl (fun hz16 => ?_)
    have J_31 : ∀ (w1 : Int32), (1 ≤ w1) → G m_X10_tellsOf (rq m_X10_tellsOf (fun r S' I' J' => S' = SHF ∧ I = I' ∧ J = J' ∧ ∃ v : Int32, r = some (.int v))) 0 0 31 [some (.ref 78), some (.int what), none, none, none, none, none, none, none] [.int w1] SHF I J := by
      intro w1 he_31
      refine g_istore_n (L' := [some (.ref 78), some (.int what), some (.int w1), none, none, none, none, none, none]) d_X10_tellsOf_31 (by decide) rfl ?_
      refine g_lconst d_X10_tellsOf_32 kL_0 ?_
      refine g_lstore_n (L' := [some (.ref 78), some (.int what), some (.int w1), some (.long (0 : Int64)), none, none, none, none, none]) d_X10_tellsOf_33 (by decide) rfl ?_
      refine g_iconst (v := 0) d_X10_tellsOf_34 kI_0 ?_
      refine g_istore (L' := [some (.ref 78), some (.int what), some (.int w1), some (.long (0 : Int64)), none, some (.int (0 : Int32)), none, none, none]) d_X10_tellsOf_35 (by decide) rfl ?_
      have K_37 : ∀ (nu : Nat) (x2 : Int64) (x3 : Int32), mU (128 : Int32) x3 = nu → ((0 : Int32) ≤ x3) → G m_X10_tellsOf (rq m_X10_tellsOf (fun r S' I' J' => S' = SHF ∧ I = I' ∧ J = J' ∧ ∃ v : Int32, r = some (.int v))) 0 0 37 [some (.ref 78), some (.int what), some (.int w1), some (.long x2), none, some (.int x3), none, none, none] [] SHF I J := by
        intro nu
        induction nu using Nat.strongRecOn with
        | ind nu ih_37 =>
          intro x2 x3 hmu_37 hl4
          refine g_iload d_X10_tellsOf_37 rfl ?_
          refine g_sipush (v := 128) d_X10_tellsOf_39 kS_128 ?_
          refine g_icmp_ge d_X10_tellsOf_42 (fun h42 => ?_) (fun h42 => ?_)
          · skip
            refine g_ldc2 (v := 1000) d_X10_tellsOf_143 tw_1392 ?_
            refine g_ldc2 (v := 1000) d_X10_tellsOf_146 tw_1392 ?_
            refine g_lload_n d_X10_tellsOf_149 rfl ?_
            refine g_lmul d_X10_tellsOf_150 ?_
            refine g_aload_n d_X10_tellsOf_151 rfl ?_
            refine g_getJ d_X10_tellsOf_152 fq_RX10_349 rfl rfl ?_
            refine g_aload_n d_X10_tellsOf_155 rfl ?_
            refine g_getJ d_X10_tellsOf_156 fq_RX10_349 rfl rfl ?_
            refine g_lmul d_X10_tellsOf_159 ?_
            refine g_ldiv d_X10_tellsOf_160 (ne_sq2 h6 hal) ?_
            refine g_lsub d_X10_tellsOf_161 ?_
            refine g_l2i d_X10_tellsOf_162 ?_
            exact g_ireturn d_X10_tellsOf_163 rfl rfl rfl rfl ⟨rfl, rfl, rfl, (Int64.toInt32 ((1000 : Int64) - (((1000 : Int64) * x2) / ((J 78 28) * (J 78 28))))), rfl⟩
          · skip
            refine g_iload d_X10_tellsOf_45 rfl ?_
            refine g_S1 d_X10_tellsOf_47 cs_X10_tellsOf_X10_couldBe lk_RX10_353 im_X10_couldBe (Nat.le_of_ble_eq_true rfl) ⟨rfl, rfl⟩ ⟨Nat.zero_le _, Nat.zero_le _⟩ (ct_X10_couldBe x3 I J ) (fun r47 S47 Ic6 Jc7 q47_4 => ?_)
            obtain ⟨rfl, rfl, rfl, r9, rfl, hz47⟩ := q47_4
            refine g_st (st' := [.int r9]) rfl ?_
            refine g_if_eq d_X10_tellsOf_50 (fun h50 => ?_) (fun h50 => ?_)
            · skip
              refine g_iinc (v := (x3 + (1 : Int32))) (L' := [some (.ref 78), some (.int what), some (.int w1), some (.long x2), none, some (.int (x3 + (1 : Int32))), none, none, none]) d_X10_tellsOf_137 rfl (by rw [kI_1]) (by decide) rfl ?_
              refine g_goto d_X10_tellsOf_140 ?_
              exact ih_37 _ (by rw [← hmu_37]; exact mu_up h42) x2 (x3 + (1 : Int32)) rfl (lo_up hl4 h42)
            · skip
              refine g_lconst d_X10_tellsOf_53 kL_0 ?_
              refine g_lstore (L' := [some (.ref 78), some (.int what), some (.int w1), some (.long x2), none, some (.int x3), some (.long (0 : Int64)), none, none]) d_X10_tellsOf_54 (by decide) rfl ?_
              refine g_iconst (v := 0) d_X10_tellsOf_56 kI_0 ?_
              refine g_istore (L' := [some (.ref 78), some (.int what), some (.int w1), some (.long x2), none, some (.int x3), some (.long (0 : Int64)), none, some (.int (0 : Int32))]) d_X10_tellsOf_57 (by decide) rfl ?_
              have K_59 : ∀ (nu : Nat) (x11 : Int64) (x12 : Int32), mU (128 : Int32) x12 = nu → ((0 : Int32) ≤ x12) → G m_X10_tellsOf (rq m_X10_tellsOf (fun r S' I' J' => S' = SHF ∧ I = I' ∧ J = J' ∧ ∃ v : Int32, r = some (.int v))) 0 0 59 [some (.ref 78), some (.int what), some (.int w1), some (.long x2), none, some (.int x3), some (.long x11), none, some (.int x12)] [] SHF I J := by
                intro nu
                induction nu using Nat.strongRecOn with
                | ind nu ih_59 =>
                  intro x11 x12 hmu_59 hl13
                  refine g_iload d_X10_tellsOf_59 rfl ?_
                  refine g_sipush (v := 128) d_X10_tellsOf_61 kS_128 ?_
                  refine g_icmp_ge d_X10_tellsOf_64 (fun h64 => ?_) (fun h64 => ?_)
                  · skip
                    refine g_lload_n d_X10_tellsOf_124 rfl ?_
                    refine g_aload_n d_X10_tellsOf_125 rfl ?_
                    refine g_getR d_X10_tellsOf_126 fq_RX10_67 rfl rfl ?_
                    refine g_iload d_X10_tellsOf_129 rfl ?_
                    refine g_laload (N := 128) d_X10_tellsOf_131 rfl kT_128 ⟨hl4, Int32.not_le.mp h42⟩ rfl ?_
                    refine g_lload d_X10_tellsOf_132 rfl ?_
                    refine g_lmul d_X10_tellsOf_134 ?_
                    refine g_ladd d_X10_tellsOf_135 ?_
                    refine g_topJ (fun v14 ev14 => ?_)
                    refine g_lstore_n (L' := [some (.ref 78), some (.int what), some (.int w1), some (.long v14), none, some (.int x3), some (.long x11), none, some (.int x12)]) d_X10_tellsOf_136 (by decide) rfl ?_
                    refine g_iinc (v := (x3 + (1 : Int32))) (L' := [some (.ref 78), some (.int what), some (.int w1), some (.long v14), none, some (.int (x3 + (1 : Int32))), some (.long x11), none, some (.int x12)]) d_X10_tellsOf_137 rfl (by rw [kI_1]) (by decide) rfl ?_
                    refine g_goto d_X10_tellsOf_140 ?_
                    refine g_sb [some (.ref 78), some (.int what), some (.int w1), some (.long v14), none, some (.int (x3 + (1 : Int32))), none, none, none] (by simp [subL]) ?_
                    exact ih_37 _ (by rw [← hmu_37]; exact mu_up h42) v14 (x3 + (1 : Int32)) rfl (lo_up hl4 h42)
                  · skip
                    refine g_iload d_X10_tellsOf_67 rfl ?_
                    refine g_S1 d_X10_tellsOf_69 cs_X10_tellsOf_X10_couldBe lk_RX10_353 im_X10_couldBe (Nat.le_of_ble_eq_true rfl) ⟨rfl, rfl⟩ ⟨Nat.zero_le _, Nat.zero_le _⟩ (ct_X10_couldBe x12 I J ) (fun r69 S69 Ic16 Jc17 q69_14 => ?_)
                    obtain ⟨rfl, rfl, rfl, r19, rfl, hz69⟩ := q69_14
                    refine g_st (st' := [.int r19]) rfl ?_
                    refine g_if_eq d_X10_tellsOf_72 (fun h72 => ?_) (fun h72 => ?_)
                    · skip
                      refine g_iinc (v := (x12 + (1 : Int32))) (L' := [some (.ref 78), some (.int what), some (.int w1), some (.long x2), none, some (.int x3), some (.long x11), none, some (.int (x12 + (1 : Int32)))]) d_X10_tellsOf_118 rfl (by rw [kI_1]) (by decide) rfl ?_
                      refine g_goto d_X10_tellsOf_121 ?_
                      exact ih_59 _ (by rw [← hmu_59]; exact mu_up h64) x11 (x12 + (1 : Int32)) rfl (lo_up hl13 h64)
                    · skip
                      refine g_aload_n d_X10_tellsOf_75 rfl ?_
                      refine g_getR d_X10_tellsOf_76 fq_RX10_70 rfl rfl ?_
                      refine g_bipush (v := 7) d_X10_tellsOf_79 kB_7 ?_
                      refine g_iload d_X10_tellsOf_81 rfl ?_
                      refine g_imul d_X10_tellsOf_83 ?_
                      refine g_iload_n d_X10_tellsOf_84 rfl ?_
                      refine g_iadd d_X10_tellsOf_85 ?_
                      refine g_iaload (N := 896) d_X10_tellsOf_86 rfl kT_896 (by constructor <;> grind) rfl ?_
                      refine g_iload_n d_X10_tellsOf_87 rfl ?_
                      refine g_idiv d_X10_tellsOf_88 (by grind) ?_
                      refine g_aload_n d_X10_tellsOf_89 rfl ?_
                      refine g_getR d_X10_tellsOf_90 fq_RX10_70 rfl rfl ?_
                      refine g_bipush (v := 7) d_X10_tellsOf_93 kB_7 ?_
                      refine g_iload d_X10_tellsOf_95 rfl ?_
                      refine g_imul d_X10_tellsOf_97 ?_
                      refine g_iload_n d_X10_tellsOf_98 rfl ?_
                      refine g_iadd d_X10_tellsOf_99 ?_
                      refine g_iaload (N := 896) d_X10_tellsOf_100 rfl kT_896 (by constructor <;> grind) rfl ?_
                      refine g_iload_n d_X10_tellsOf_101 rfl ?_
                      refine g_idiv d_X10_tellsOf_102 (by grind) ?_
                      refine g_icmp_ne d_X10_tellsOf_103 (fun h103 => ?_) (fun h103 => ?_)
                      · skip
                        refine g_iinc (v := (x12 + (1 : Int32))) (L' := [some (.ref 78), some (.int what), some (.int w1), some (.long x2), none, some (.int x3), some (.long x11), none, some (.int (x12 + (1 : Int32)))]) d_X10_tellsOf_118 rfl (by rw [kI_1]) (by decide) rfl ?_
                        refine g_goto d_X10_tellsOf_121 ?_
                        exact ih_59 _ (by rw [← hmu_59]; exact mu_up h64) x11 (x12 + (1 : Int32)) rfl (lo_up hl13 h64)
                      · skip
                        refine g_lload d_X10_tellsOf_106 rfl ?_
                        refine g_aload_n d_X10_tellsOf_108 rfl ?_
                        refine g_getR d_X10_tellsOf_109 fq_RX10_67 rfl rfl ?_
                        refine g_iload d_X10_tellsOf_112 rfl ?_
                        refine g_laload (N := 128) d_X10_tellsOf_114 rfl kT_128 ⟨hl13, Int32.not_le.mp h64⟩ rfl ?_
                        refine g_ladd d_X10_tellsOf_115 ?_
                        refine g_topJ (fun v21 ev21 => ?_)
                        refine g_lstore (L' := [some (.ref 78), some (.int what), some (.int w1), some (.long x2), none, some (.int x3), some (.long v21), none, some (.int x12)]) d_X10_tellsOf_116 (by decide) rfl ?_
                        refine g_iinc (v := (x12 + (1 : Int32))) (L' := [some (.ref 78), some (.int what), some (.int w1), some (.long x2), none, some (.int x3), some (.long v21), none, some (.int (x12 + (1 : Int32)))]) d_X10_tellsOf_118 rfl (by rw [kI_1]) (by decide) rfl ?_
                        refine g_goto d_X10_tellsOf_121 ?_
                        exact ih_59 _ (by rw [← hmu_59]; exact mu_up h64) v21 (x12 + (1 : Int32)) rfl (lo_up hl13 h64)
              exact K_59 _ (0 : Int64) (0 : Int32) rfl (Int32.le_refl _)
      exact K_37 _ (0 : Int64) (0 : Int32) rfl (Int32.le_refl _)
    refine g_if_eq d_X10_tellsOf_17 (fun h17 => ?_) (fun h17 => ?_)
    · skip
      refine g_bipush (v := 50) d_X10_tellsOf_29 kB_50 ?_
      exact J_31 ((50 : Int32)) (by first | decide | exact (ma_seen hma hwh.1 hwh.2 (by assumption)).1)
    · skip
      refine g_aload_n d_X10_tellsOf_20 rfl ?_
      refine g_getR d_X10_tellsOf_21 fq_RX10_58 rfl rfl ?_
      refine g_iload_n d_X10_tellsOf_24 rfl ?_
      refine g_iaload (N := 7) d_X10_tellsOf_25 rfl kT_7 (by constructor <;> grind) rfl ?_
      refine g_goto d_X10_tellsOf_26 ?_
      exact J_31 ((I 93 what.toNatClampNeg)) (by first | decide | exact (ma_seen hma hwh.1 hwh.2 (by assumption)).1)
  · skip
    refine g_iconst (v := 0) d_X10_tellsOf_9 kI_0 ?_
    exact g_ireturn d_X10_tellsOf_10 rfl rfl rfl rfl ⟨rfl, rfl, rfl, (0 : Int32), rfl⟩
set_option maxRecDepth 100000 in
set_option maxHeartbeats 4000000 in
theorem ct_X10_odds (set : Int32) (n : Int32) (I : Iv) (J : Jv) (hma : MA I) (hmj : MJ J) : Ct m_X10_odds [.ref 78, .int set, .int n] SHF I J (fun r S' I' J' => S' = SHF ∧ True ∧ ∃ v : Int32, r = some (.int v) ∧ (MI (bgI I) I' ∧ MK (bgJ I J) J')) := by
  refine ct_of 0 (by decide +kernel) rfl rfl ?_
  have hK0 : (MI I I ∧ MK J J) := ⟨mi_rfl hma, mk_rfl hmj⟩
  refine g_aload_n d_X10_odds_0 rfl ?_
  refine g_V0 d_X10_odds_1 cs_X10_odds_X10_begin lk_RX10_166 im_X10_begin se_X10_begin rfl rfl rfl (Nat.le_of_ble_eq_true rfl) ⟨rfl, rfl⟩ ⟨Nat.zero_le _, Nat.zero_le _⟩ (ct_X10_begin  I J hma hmj) (fun r1 S1 I1 J2 q1_2 => ?_)
  obtain ⟨rfl, hc1_3, rfl, hr1_4⟩ := q1_2
  refine g_st (st' := []) rfl ?_
  have hK6 : (MI (bgI I) I1 ∧ MK (bgJ I J) J2) := hr1_4
  refine g_iload_n d_X10_odds_4 rfl ?_
  refine g_S1 d_X10_odds_5 cs_X10_odds_X10_isSet lk_RX10_259 im_X10_isSet (Nat.le_of_ble_eq_true rfl) ⟨rfl, rfl⟩ ⟨Nat.zero_le _, Nat.zero_le _⟩ (ct_X10_isSet set I1 J2 ) (fun r5 S5 Ic8 Jc9 q5_6 => ?_)
  obtain ⟨rfl, rfl, rfl, r11, rfl, hz5, hr5_11⟩ := q5_6
  refine g_st (st' := [.int r11]) rfl ?_
  refine g_if_eq d_X10_odds_8 (fun h8 => ?_) (fun h8 => ?_)
  · skip
    refine g_ldcw (v := -1000000001) d_X10_odds_18 tw_1296 ?_
    exact g_ireturn d_X10_odds_21 rfl rfl rfl rfl ⟨rfl, trivial, (-1000000001 : Int32), rfl, hK6⟩
  · skip
    refine g_iload_n d_X10_odds_11 rfl ?_
    refine g_S1 d_X10_odds_12 cs_X10_odds_X10_couldBe lk_RX10_353 im_X10_couldBe (Nat.le_of_ble_eq_true rfl) ⟨rfl, rfl⟩ ⟨Nat.zero_le _, Nat.zero_le _⟩ (ct_X10_couldBe set I1 J2 ) (fun r12 S12 Ic14 Jc15 q12_12 => ?_)
    obtain ⟨rfl, rfl, rfl, r17, rfl, hz12⟩ := q12_12
    refine g_st (st' := [.int r17]) rfl ?_
    refine g_if_ne d_X10_odds_15 (fun h15 => ?_) (fun h15 => ?_)
    · skip
      refine g_iload_n d_X10_odds_22 rfl ?_
      refine g_S1 d_X10_odds_23 cs_X10_odds_X10_areDays lk_RX10_326 im_X10_areDays (Nat.le_of_ble_eq_true rfl) ⟨rfl, rfl⟩ ⟨Nat.zero_le _, Nat.zero_le _⟩ (ct_X10_areDays n I1 J2 ) (fun r23 S23 Ic20 Jc21 q23_18 => ?_)
      obtain ⟨rfl, rfl, rfl, r23, rfl, hz23, hr23_23⟩ := q23_18
      refine g_st (st' := [.int r23]) rfl ?_
      refine g_if_ne d_X10_odds_26 (fun h26 => ?_) (fun h26 => ?_)
      · skip
        refine g_aload_n d_X10_odds_32 rfl ?_
        refine g_iload_n d_X10_odds_33 rfl ?_
        refine g_V1 d_X10_odds_34 cs_X10_odds_X10_weigh lk_RX10_360 im_X10_weigh se_X10_weigh rfl rfl rfl (Nat.le_of_ble_eq_true rfl) ⟨rfl, rfl⟩ ⟨Nat.zero_le _, Nat.zero_le _⟩ (ct_X10_weigh n I1 J2 (hK6).1.2 (hK6).2.2 (by grind)) (fun r34 S34 I25 J26 q34_26 => ?_)
        obtain ⟨rfl, hc34_27, rfl, hr34_28⟩ := q34_26
        refine g_st (st' := []) rfl ?_
        have hK30 : (MI (bgI I) I25 ∧ MK (bgJ I J) J26) := ⟨mi_tr (hK6).1 hc34_27.1, mk_tr (hK6).2 hc34_27.2⟩
        refine g_aload_n d_X10_odds_37 rfl ?_
        refine g_iload_n d_X10_odds_38 rfl ?_
        refine g_V1 d_X10_odds_39 cs_X10_odds_X10_oddsOf lk_RX10_363 im_X10_oddsOf se_X10_oddsOf rfl rfl rfl (Nat.le_of_ble_eq_true rfl) ⟨rfl, rfl⟩ ⟨Nat.zero_le _, Nat.zero_le _⟩ (ct_X10_oddsOf set I25 J26 (by grind)) (fun r39 S39 Ic32 Jc33 q39_30 => ?_)
        obtain ⟨rfl, rfl, rfl, r35, rfl⟩ := q39_30
        refine g_st (st' := [.int r35]) rfl ?_
        exact g_ireturn d_X10_odds_42 rfl rfl rfl rfl ⟨rfl, trivial, r35, rfl, hK30⟩
      · skip
        refine g_ldc (v := -1000000002) d_X10_odds_29 tw_1199 ?_
        exact g_ireturn d_X10_odds_31 rfl rfl rfl rfl ⟨rfl, trivial, (-1000000002 : Int32), rfl, hK6⟩
    · skip
      refine g_ldcw (v := -1000000001) d_X10_odds_18 tw_1296 ?_
      exact g_ireturn d_X10_odds_21 rfl rfl rfl rfl ⟨rfl, trivial, (-1000000001 : Int32), rfl, hK6⟩
set_option maxRecDepth 100000 in
set_option maxHeartbeats 4000000 in
theorem ct_X10_each (k : Int32) (n : Int32) (I : Iv) (J : Jv) (hma : MA I) (hmj : MJ J) : Ct m_X10_each [.ref 78, .int k, .int n] SHF I J (fun r S' I' J' => S' = SHF ∧ True ∧ ∃ v : Int32, r = some (.int v) ∧ (MI (bgI I) I' ∧ MK (bgJ I J) J')) := by
  refine ct_of 2 (by decide +kernel) rfl rfl ?_
  have hK0 : (MI I I ∧ MK J J) := ⟨mi_rfl hma, mk_rfl hmj⟩
  refine g_aload_n d_X10_each_0 rfl ?_
  refine g_V0 d_X10_each_1 cs_X10_each_X10_begin lk_RX10_166 im_X10_begin se_X10_begin rfl rfl rfl (Nat.le_of_ble_eq_true rfl) ⟨rfl, rfl⟩ ⟨Nat.zero_le _, Nat.zero_le _⟩ (ct_X10_begin  I J hma hmj) (fun r1 S1 I1 J2 q1_2 => ?_)
  obtain ⟨rfl, hc1_3, rfl, hr1_4⟩ := q1_2
  refine g_st (st' := []) rfl ?_
  have hK6 : (MI (bgI I) I1 ∧ MK (bgJ I J) J2) := hr1_4
  refine g_iload_n d_X10_each_4 rfl ?_
  refine g_S1 d_X10_each_5 cs_X10_each_X10_isTrouble lk_RX10_341 im_X10_isTrouble (Nat.le_of_ble_eq_true rfl) ⟨rfl, rfl⟩ ⟨Nat.zero_le _, Nat.zero_le _⟩ (ct_X10_isTrouble k I1 J2 ) (fun r5 S5 Ic8 Jc9 q5_6 => ?_)
  obtain ⟨rfl, rfl, rfl, r11, rfl, hz5, hr5_11⟩ := q5_6
  refine g_st (st' := [.int r11]) rfl ?_
  refine g_if_ne d_X10_each_8 (fun h8 => ?_) (fun h8 => ?_)
  · skip
    refine g_iload_n d_X10_each_15 rfl ?_
    refine g_S1 d_X10_each_16 cs_X10_each_X10_areDays lk_RX10_326 im_X10_areDays (Nat.le_of_ble_eq_true rfl) ⟨rfl, rfl⟩ ⟨Nat.zero_le _, Nat.zero_le _⟩ (ct_X10_areDays n I1 J2 ) (fun r16 S16 Ic14 Jc15 q16_12 => ?_)
    obtain ⟨rfl, rfl, rfl, r17, rfl, hz16, hr16_17⟩ := q16_12
    refine g_st (st' := [.int r17]) rfl ?_
    refine g_if_ne d_X10_each_19 (fun h19 => ?_) (fun h19 => ?_)
    · skip
      refine g_aload_n d_X10_each_25 rfl ?_
      refine g_iload_n d_X10_each_26 rfl ?_
      refine g_V1 d_X10_each_27 cs_X10_each_X10_weigh lk_RX10_360 im_X10_weigh se_X10_weigh rfl rfl rfl (Nat.le_of_ble_eq_true rfl) ⟨rfl, rfl⟩ ⟨Nat.zero_le _, Nat.zero_le _⟩ (ct_X10_weigh n I1 J2 (hK6).1.2 (hK6).2.2 (by grind)) (fun r27 S27 I19 J20 q27_20 => ?_)
      obtain ⟨rfl, hc27_21, rfl, hr27_22⟩ := q27_20
      refine g_st (st' := []) rfl ?_
      have hK24 : (MI (bgI I) I19 ∧ MK (bgJ I J) J20) := ⟨mi_tr (hK6).1 hc27_21.1, mk_tr (hK6).2 hc27_21.2⟩
      refine g_iconst (v := 0) d_X10_each_30 kI_0 ?_
      refine g_istore_n (L' := [some (.ref 78), some (.int k), some (.int n), some (.int (0 : Int32)), none]) d_X10_each_31 (by decide) rfl ?_
      refine g_iconst (v := 0) d_X10_each_32 kI_0 ?_
      refine g_istore (L' := [some (.ref 78), some (.int k), some (.int n), some (.int (0 : Int32)), some (.int (0 : Int32))]) d_X10_each_33 (by decide) rfl ?_
      have K_35 : ∀ (nu : Nat) (x25 : Int32) (x26 : Int32), mU (128 : Int32) x26 = nu → ((0 : Int32) ≤ x26) → G m_X10_each (rq m_X10_each (fun r S' I' J' => S' = SHF ∧ True ∧ ∃ v : Int32, r = some (.int v) ∧ (MI (bgI I) I' ∧ MK (bgJ I J) J'))) 0 0 35 [some (.ref 78), some (.int k), some (.int n), some (.int x25), some (.int x26)] [] SHF I19 J20 := by
        intro nu
        induction nu using Nat.strongRecOn with
        | ind nu ih_35 =>
          intro x25 x26 hmu_35 hl27
          refine g_iload d_X10_each_35 rfl ?_
          refine g_sipush (v := 128) d_X10_each_37 kS_128 ?_
          refine g_icmp_ge d_X10_each_40 (fun h40 => ?_) (fun h40 => ?_)
          · skip
            refine g_iload_n d_X10_each_80 rfl ?_
            exact g_ireturn d_X10_each_81 rfl rfl rfl rfl ⟨rfl, trivial, x25, rfl, hK24⟩
          · skip
            refine g_iload_n d_X10_each_43 rfl ?_
            refine g_iload d_X10_each_44 rfl ?_
            refine g_S1 d_X10_each_46 cs_X10_each_X10_couldBe lk_RX10_353 im_X10_couldBe (Nat.le_of_ble_eq_true rfl) ⟨rfl, rfl⟩ ⟨Nat.zero_le _, Nat.zero_le _⟩ (ct_X10_couldBe x26 I19 J20 ) (fun r46 S46 Ic29 Jc30 q46_27 => ?_)
            obtain ⟨rfl, rfl, rfl, r32, rfl, hz46⟩ := q46_27
            refine g_st (st' := [.int r32, .int x25]) rfl ?_
            refine g_if_eq d_X10_each_49 (fun h49 => ?_) (fun h49 => ?_)
            · skip
              refine g_iconst (v := 0) d_X10_each_71 kI_0 ?_
              refine g_iadd d_X10_each_72 ?_
              refine g_topI (fun v34 ev34 => ?_)
              refine g_istore_n (L' := [some (.ref 78), some (.int k), some (.int n), some (.int v34), some (.int x26)]) d_X10_each_73 (by decide) rfl ?_
              refine g_iinc (v := (x26 + (1 : Int32))) (L' := [some (.ref 78), some (.int k), some (.int n), some (.int v34), some (.int (x26 + (1 : Int32)))]) d_X10_each_74 rfl (by rw [kI_1]) (by decide) rfl ?_
              refine g_goto d_X10_each_77 ?_
              exact ih_35 _ (by rw [← hmu_35]; exact mu_up h40) v34 (x26 + (1 : Int32)) rfl (lo_up hl27 h40)
            · skip
              refine g_iload d_X10_each_52 rfl ?_
              refine g_i2l d_X10_each_54 ?_
              refine g_iload_n d_X10_each_55 rfl ?_
              refine g_S2 d_X10_each_56 cs_X10_each_X10_has lk_RX10_149 im_X10_has (Nat.le_of_ble_eq_true rfl) ⟨rfl, rfl⟩ ⟨Nat.zero_le _, Nat.zero_le _⟩ (ct_X10_has (Int32.toInt64 x26) k I19 J20 ) (fun r56 S56 Ic36 Jc37 q56_34 => ?_)
              obtain ⟨rfl, rfl, rfl, r39, rfl, hz56⟩ := q56_34
              refine g_st (st' := [.int r39, .int x25]) rfl ?_
              refine g_if_eq d_X10_each_59 (fun h59 => ?_) (fun h59 => ?_)
              · skip
                refine g_iconst (v := 0) d_X10_each_71 kI_0 ?_
                refine g_iadd d_X10_each_72 ?_
                refine g_topI (fun v41 ev41 => ?_)
                refine g_istore_n (L' := [some (.ref 78), some (.int k), some (.int n), some (.int v41), some (.int x26)]) d_X10_each_73 (by decide) rfl ?_
                refine g_iinc (v := (x26 + (1 : Int32))) (L' := [some (.ref 78), some (.int k), some (.int n), some (.int v41), some (.int (x26 + (1 : Int32)))]) d_X10_each_74 rfl (by rw [kI_1]) (by decide) rfl ?_
                refine g_goto d_X10_each_77 ?_
                exact ih_35 _ (by rw [← hmu_35]; exact mu_up h40) v41 (x26 + (1 : Int32)) rfl (lo_up hl27 h40)
              · skip
                refine g_aload_n d_X10_each_62 rfl ?_
                refine g_iload d_X10_each_63 rfl ?_
                refine g_V1 d_X10_each_65 cs_X10_each_X10_oddsOf lk_RX10_363 im_X10_oddsOf se_X10_oddsOf rfl rfl rfl (Nat.le_of_ble_eq_true rfl) ⟨rfl, rfl⟩ ⟨Nat.zero_le _, Nat.zero_le _⟩ (ct_X10_oddsOf x26 I19 J20 (by grind)) (fun r65 S65 Ic43 Jc44 q65_41 => ?_)
                obtain ⟨rfl, rfl, rfl, r46, rfl⟩ := q65_41
                refine g_st (st' := [.int r46, .int x25]) rfl ?_
                refine g_goto d_X10_each_68 ?_
                refine g_iadd d_X10_each_72 ?_
                refine g_topI (fun v48 ev48 => ?_)
                refine g_istore_n (L' := [some (.ref 78), some (.int k), some (.int n), some (.int v48), some (.int x26)]) d_X10_each_73 (by decide) rfl ?_
                refine g_iinc (v := (x26 + (1 : Int32))) (L' := [some (.ref 78), some (.int k), some (.int n), some (.int v48), some (.int (x26 + (1 : Int32)))]) d_X10_each_74 rfl (by rw [kI_1]) (by decide) rfl ?_
                refine g_goto d_X10_each_77 ?_
                exact ih_35 _ (by rw [← hmu_35]; exact mu_up h40) v48 (x26 + (1 : Int32)) rfl (lo_up hl27 h40)
      exact K_35 _ (0 : Int32) (0 : Int32) rfl (Int32.le_refl _)
    · skip
      refine g_ldc (v := -1000000002) d_X10_each_22 tw_1199 ?_
      exact g_ireturn d_X10_each_24 rfl rfl rfl rfl ⟨rfl, trivial, (-1000000002 : Int32), rfl, hK6⟩
  · skip
    refine g_ldcw (v := -1000000001) d_X10_each_11 tw_1296 ?_
    exact g_ireturn d_X10_each_14 rfl rfl rfl rfl ⟨rfl, trivial, (-1000000001 : Int32), rfl, hK6⟩
set_option maxRecDepth 100000 in
set_option maxHeartbeats 4000000 in
theorem ct_X10_tells (what : Int32) (n : Int32) (I : Iv) (J : Jv) (hma : MA I) (hmj : MJ J) : Ct m_X10_tells [.ref 78, .int what, .int n] SHF I J (fun r S' I' J' => S' = SHF ∧ True ∧ ∃ v : Int32, r = some (.int v) ∧ (MI (bgI I) I' ∧ MK (bgJ I J) J')) := by
  refine ct_of 0 (by decide +kernel) rfl rfl ?_
  have hK0 : (MI I I ∧ MK J J) := ⟨mi_rfl hma, mk_rfl hmj⟩
  refine g_aload_n d_X10_tells_0 rfl ?_
  refine g_V0 d_X10_tells_1 cs_X10_tells_X10_begin lk_RX10_166 im_X10_begin se_X10_begin rfl rfl rfl (Nat.le_of_ble_eq_true rfl) ⟨rfl, rfl⟩ ⟨Nat.zero_le _, Nat.zero_le _⟩ (ct_X10_begin  I J hma hmj) (fun r1 S1 I1 J2 q1_2 => ?_)
  obtain ⟨rfl, hc1_3, rfl, hr1_4⟩ := q1_2
  refine g_st (st' := []) rfl ?_
  have hK6 : (MI (bgI I) I1 ∧ MK (bgJ I J) J2) := hr1_4
  refine g_iload_n d_X10_tells_4 rfl ?_
  refine g_S1 d_X10_tells_5 cs_X10_tells_X10_isSign lk_RX10_323 im_X10_isSign (Nat.le_of_ble_eq_true rfl) ⟨rfl, rfl⟩ ⟨Nat.zero_le _, Nat.zero_le _⟩ (ct_X10_isSign what I1 J2 ) (fun r5 S5 Ic8 Jc9 q5_6 => ?_)
  obtain ⟨rfl, rfl, rfl, r11, rfl, hz5, hr5_11⟩ := q5_6
  refine g_st (st' := [.int r11]) rfl ?_
  refine g_if_ne d_X10_tells_8 (fun h8 => ?_) (fun h8 => ?_)
  · skip
    refine g_iload_n d_X10_tells_15 rfl ?_
    refine g_S1 d_X10_tells_16 cs_X10_tells_X10_areDays lk_RX10_326 im_X10_areDays (Nat.le_of_ble_eq_true rfl) ⟨rfl, rfl⟩ ⟨Nat.zero_le _, Nat.zero_le _⟩ (ct_X10_areDays n I1 J2 ) (fun r16 S16 Ic14 Jc15 q16_12 => ?_)
    obtain ⟨rfl, rfl, rfl, r17, rfl, hz16, hr16_17⟩ := q16_12
    refine g_st (st' := [.int r17]) rfl ?_
    refine g_if_ne d_X10_tells_19 (fun h19 => ?_) (fun h19 => ?_)
    · skip
      refine g_aload_n d_X10_tells_25 rfl ?_
      refine g_iload_n d_X10_tells_26 rfl ?_
      refine g_V1 d_X10_tells_27 cs_X10_tells_X10_weigh lk_RX10_360 im_X10_weigh se_X10_weigh rfl rfl rfl (Nat.le_of_ble_eq_true rfl) ⟨rfl, rfl⟩ ⟨Nat.zero_le _, Nat.zero_le _⟩ (ct_X10_weigh n I1 J2 (hK6).1.2 (hK6).2.2 (by grind)) (fun r27 S27 I19 J20 q27_20 => ?_)
      obtain ⟨rfl, hc27_21, rfl, hr27_22⟩ := q27_20
      refine g_st (st' := []) rfl ?_
      have hK24 : (MI (bgI I) I19 ∧ MK (bgJ I J) J20) := ⟨mi_tr (hK6).1 hc27_21.1, mk_tr (hK6).2 hc27_21.2⟩
      refine g_aload_n d_X10_tells_30 rfl ?_
      refine g_iload_n d_X10_tells_31 rfl ?_
      refine g_V1 d_X10_tells_32 cs_X10_tells_X10_tellsOf lk_RX10_366 im_X10_tellsOf se_X10_tellsOf rfl rfl rfl (Nat.le_of_ble_eq_true rfl) ⟨rfl, rfl⟩ ⟨Nat.zero_le _, Nat.zero_le _⟩ (ct_X10_tellsOf what I19 J20 (hK24).1.2 (by grind) (by grind)) (fun r32 S32 Ic26 Jc27 q32_24 => ?_)
      obtain ⟨rfl, rfl, rfl, r29, rfl⟩ := q32_24
      refine g_st (st' := [.int r29]) rfl ?_
      exact g_ireturn d_X10_tells_35 rfl rfl rfl rfl ⟨rfl, trivial, r29, rfl, hK24⟩
    · skip
      refine g_ldc (v := -1000000002) d_X10_tells_22 tw_1199 ?_
      exact g_ireturn d_X10_tells_24 rfl rfl rfl rfl ⟨rfl, trivial, (-1000000002 : Int32), rfl, hK6⟩
  · skip
    refine g_ldcw (v := -1000000001) d_X10_tells_11 tw_1296 ?_
    exact g_ireturn d_X10_tells_14 rfl rfl rfl rfl ⟨rfl, trivial, (-1000000001 : Int32), rfl, hK6⟩
set_option maxRecDepth 100000 in
set_option maxHeartbeats 4000000 in
theorem ct_X10_next (n : Int32) (I : Iv) (J : Jv) (hma : MA I) (hmj : MJ J) : Ct m_X10_next [.ref 78, .int n] SHF I J (fun r S' I' J' => S' = SHF ∧ True ∧ ∃ v : Int32, r = some (.int v) ∧ (MI (bgI I) I' ∧ MK (bgJ I J) J')) := by
  refine ct_of 4 (by decide +kernel) rfl rfl ?_
  have hK0 : (MI I I ∧ MK J J) := ⟨mi_rfl hma, mk_rfl hmj⟩
  refine g_aload_n d_X10_next_0 rfl ?_
  refine g_V0 d_X10_next_1 cs_X10_next_X10_begin lk_RX10_166 im_X10_begin se_X10_begin rfl rfl rfl (Nat.le_of_ble_eq_true rfl) ⟨rfl, rfl⟩ ⟨Nat.zero_le _, Nat.zero_le _⟩ (ct_X10_begin  I J hma hmj) (fun r1 S1 I1 J2 q1_2 => ?_)
  obtain ⟨rfl, hc1_3, rfl, hr1_4⟩ := q1_2
  refine g_st (st' := []) rfl ?_
  have hK6 : (MI (bgI I) I1 ∧ MK (bgJ I J) J2) := hr1_4
  refine g_iload_n d_X10_next_4 rfl ?_
  refine g_S1 d_X10_next_5 cs_X10_next_X10_areDays lk_RX10_326 im_X10_areDays (Nat.le_of_ble_eq_true rfl) ⟨rfl, rfl⟩ ⟨Nat.zero_le _, Nat.zero_le _⟩ (ct_X10_areDays n I1 J2 ) (fun r5 S5 Ic8 Jc9 q5_6 => ?_)
  obtain ⟨rfl, rfl, rfl, r11, rfl, hz5, hr5_11⟩ := q5_6
  refine g_st (st' := [.int r11]) rfl ?_
  refine g_if_ne d_X10_next_8 (fun h8 => ?_) (fun h8 => ?_)
  · skip
    refine g_aload_n d_X10_next_14 rfl ?_
    refine g_iload_n d_X10_next_15 rfl ?_
    refine g_V1 d_X10_next_16 cs_X10_next_X10_weigh lk_RX10_360 im_X10_weigh se_X10_weigh rfl rfl rfl (Nat.le_of_ble_eq_true rfl) ⟨rfl, rfl⟩ ⟨Nat.zero_le _, Nat.zero_le _⟩ (ct_X10_weigh n I1 J2 (hK6).1.2 (hK6).2.2 (by grind)) (fun r16 S16 I13 J14 q16_14 => ?_)
    obtain ⟨rfl, hc16_15, rfl, hr16_16⟩ := q16_14
    refine g_st (st' := []) rfl ?_
    have hK18 : (MI (bgI I) I13 ∧ MK (bgJ I J) J14) := ⟨mi_tr (hK6).1 hc16_15.1, mk_tr (hK6).2 hc16_15.2⟩
    refine g_iconst (v := -1) d_X10_next_19 kI_m1 ?_
    refine g_istore_n (L' := [some (.ref 78), some (.int n), some (.int (-1 : Int32)), none, none, none]) d_X10_next_20 (by decide) rfl ?_
    refine g_iconst (v := 0) d_X10_next_21 kI_0 ?_
    refine g_istore_n (L' := [some (.ref 78), some (.int n), some (.int (-1 : Int32)), some (.int (0 : Int32)), none, none]) d_X10_next_22 (by decide) rfl ?_
    refine g_iconst (v := 0) d_X10_next_23 kI_0 ?_
    refine g_istore (L' := [some (.ref 78), some (.int n), some (.int (-1 : Int32)), some (.int (0 : Int32)), some (.int (0 : Int32)), none]) d_X10_next_24 (by decide) rfl ?_
    have K_26 : ∀ (nu : Nat) (x19 : Int32) (x20 : Int32) (x21 : Int32), mU (7 : Int32) x21 = nu → ((0 : Int32) ≤ x21) → G m_X10_next (rq m_X10_next (fun r S' I' J' => S' = SHF ∧ True ∧ ∃ v : Int32, r = some (.int v) ∧ (MI (bgI I) I' ∧ MK (bgJ I J) J'))) 0 0 26 [some (.ref 78), some (.int n), some (.int x19), some (.int x20), some (.int x21), none] [] SHF I13 J14 := by
      intro nu
      induction nu using Nat.strongRecOn with
      | ind nu ih_26 =>
        intro x19 x20 x21 hmu_26 hl22
        refine g_iload d_X10_next_26 rfl ?_
        refine g_bipush (v := 7) d_X10_next_28 kB_7 ?_
        refine g_icmp_ge d_X10_next_30 (fun h30 => ?_) (fun h30 => ?_)
        · skip
          refine g_iload_n d_X10_next_95 rfl ?_
          exact g_ireturn d_X10_next_96 rfl rfl rfl rfl ⟨rfl, trivial, x19, rfl, hK18⟩
        · skip
          refine g_aload_n d_X10_next_33 rfl ?_
          refine g_getR d_X10_next_34 fq_RX10_52 rfl rfl ?_
          refine g_iload d_X10_next_37 rfl ?_
          refine g_baload (N := 7) d_X10_next_39 rfl kT_7 ⟨hl22, Int32.not_le.mp h30⟩ rfl (fun hz39 => ?_)
          have J_61 : ∀ (w23 : Int32), G m_X10_next (rq m_X10_next (fun r S' I' J' => S' = SHF ∧ True ∧ ∃ v : Int32, r = some (.int v) ∧ (MI (bgI I) I' ∧ MK (bgJ I J) J'))) 0 0 61 [some (.ref 78), some (.int n), some (.int x19), some (.int x20), some (.int x21), none] [.int w23] SHF I13 J14 := by
            intro w23
            refine g_istore (L' := [some (.ref 78), some (.int n), some (.int x19), some (.int x20), some (.int x21), some (.int w23)]) d_X10_next_61 (by decide) rfl ?_
            refine g_aload_n d_X10_next_63 rfl ?_
            refine g_getR d_X10_next_64 fq_RX10_52 rfl rfl ?_
            refine g_iload d_X10_next_67 rfl ?_
            refine g_baload (N := 7) d_X10_next_69 rfl kT_7 ⟨hl22, Int32.not_le.mp h30⟩ rfl (fun hz69 => ?_)
            refine g_if_ne d_X10_next_70 (fun h70 => ?_) (fun h70 => ?_)
            · skip
              refine g_iinc (v := (x21 + (1 : Int32))) (L' := [some (.ref 78), some (.int n), some (.int x19), some (.int x20), some (.int (x21 + (1 : Int32))), some (.int w23)]) d_X10_next_89 rfl (by rw [kI_1]) (by decide) rfl ?_
              refine g_goto d_X10_next_92 ?_
              refine g_sb [some (.ref 78), some (.int n), some (.int x19), some (.int x20), some (.int (x21 + (1 : Int32))), none] (by simp [subL]) ?_
              exact ih_26 _ (by rw [← hmu_26]; exact mu_up h30) x19 x20 (x21 + (1 : Int32)) rfl (lo_up hl22 h30)
            · skip
              refine g_iload_n d_X10_next_73 rfl ?_
              have J_83 : G m_X10_next (rq m_X10_next (fun r S' I' J' => S' = SHF ∧ True ∧ ∃ v : Int32, r = some (.int v) ∧ (MI (bgI I) I' ∧ MK (bgJ I J) J'))) 0 0 83 [some (.ref 78), some (.int n), some (.int x19), some (.int x20), some (.int x21), some (.int w23)] [] SHF I13 J14 := by
                skip
                refine g_iload d_X10_next_83 rfl ?_
                refine g_istore_n (L' := [some (.ref 78), some (.int n), some (.int x21), some (.int x20), some (.int x21), some (.int w23)]) d_X10_next_85 (by decide) rfl ?_
                refine g_iload d_X10_next_86 rfl ?_
                refine g_istore_n (L' := [some (.ref 78), some (.int n), some (.int x21), some (.int w23), some (.int x21), some (.int w23)]) d_X10_next_88 (by decide) rfl ?_
                refine g_iinc (v := (x21 + (1 : Int32))) (L' := [some (.ref 78), some (.int n), some (.int x21), some (.int w23), some (.int (x21 + (1 : Int32))), some (.int w23)]) d_X10_next_89 rfl (by rw [kI_1]) (by decide) rfl ?_
                refine g_goto d_X10_next_92 ?_
                refine g_sb [some (.ref 78), some (.int n), some (.int x21), some (.int w23), some (.int (x21 + (1 : Int32))), none] (by simp [subL]) ?_
                exact ih_26 _ (by rw [← hmu_26]; exact mu_up h30) x21 w23 (x21 + (1 : Int32)) rfl (lo_up hl22 h30)
              refine g_if_lt d_X10_next_74 (fun h74 => ?_) (fun h74 => ?_)
              · skip
                exact J_83
              · skip
                refine g_iload d_X10_next_77 rfl ?_
                refine g_iload_n d_X10_next_79 rfl ?_
                refine g_icmp_le d_X10_next_80 (fun h80 => ?_) (fun h80 => ?_)
                · skip
                  refine g_iinc (v := (x21 + (1 : Int32))) (L' := [some (.ref 78), some (.int n), some (.int x19), some (.int x20), some (.int (x21 + (1 : Int32))), some (.int w23)]) d_X10_next_89 rfl (by rw [kI_1]) (by decide) rfl ?_
                  refine g_goto d_X10_next_92 ?_
                  refine g_sb [some (.ref 78), some (.int n), some (.int x19), some (.int x20), some (.int (x21 + (1 : Int32))), none] (by simp [subL]) ?_
                  exact ih_26 _ (by rw [← hmu_26]; exact mu_up h30) x19 x20 (x21 + (1 : Int32)) rfl (lo_up hl22 h30)
                · skip
                  exact J_83
          refine g_if_eq d_X10_next_40 (fun h40 => ?_) (fun h40 => ?_)
          · skip
            refine g_aload_n d_X10_next_47 rfl ?_
            refine g_iload d_X10_next_48 rfl ?_
            refine g_V1 d_X10_next_50 cs_X10_next_X10_tellsOf lk_RX10_366 im_X10_tellsOf se_X10_tellsOf rfl rfl rfl (Nat.le_of_ble_eq_true rfl) ⟨rfl, rfl⟩ ⟨Nat.zero_le _, Nat.zero_le _⟩ (ct_X10_tellsOf x21 I13 J14 (hK18).1.2 (by grind) (by grind)) (fun r50 S50 Ic25 Jc26 q50_23 => ?_)
            obtain ⟨rfl, rfl, rfl, r28, rfl⟩ := q50_23
            refine g_st (st' := [.int r28]) rfl ?_
            refine g_aload_n d_X10_next_53 rfl ?_
            refine g_getR d_X10_next_54 fq_RX10_64 rfl rfl ?_
            refine g_iload d_X10_next_57 rfl ?_
            refine g_iaload (N := 7) d_X10_next_59 rfl kT_7 ⟨hl22, Int32.not_le.mp h30⟩ rfl ?_
            refine g_isub d_X10_next_60 ?_
            exact J_61 ((r28 - (I13 95 x21.toNatClampNeg)))
          · skip
            refine g_iconst (v := 0) d_X10_next_43 kI_0 ?_
            refine g_goto d_X10_next_44 ?_
            exact J_61 ((0 : Int32))
    exact K_26 _ (-1 : Int32) (0 : Int32) (0 : Int32) rfl (Int32.le_refl _)
  · skip
    refine g_ldc (v := -1000000002) d_X10_next_11 tw_1199 ?_
    exact g_ireturn d_X10_next_13 rfl rfl rfl rfl ⟨rfl, trivial, (-1000000002 : Int32), rfl, hK6⟩
set_option maxRecDepth 100000 in
set_option maxHeartbeats 4000000 in
theorem ct_X10_makes (set : Int32) (what : Int32) (I : Iv) (J : Jv) (hma : MA I) (hmj : MJ J) : Ct m_X10_makes [.ref 78, .int set, .int what] SHF I J (fun r S' I' J' => S' = SHF ∧ True ∧ ∃ v : Int32, r = some (.int v) ∧ (MI (bgI I) I' ∧ MK (bgJ I J) J')) := by
  refine ct_of 3 (by decide +kernel) rfl rfl ?_
  have hK0 : (MI I I ∧ MK J J) := ⟨mi_rfl hma, mk_rfl hmj⟩
  refine g_aload_n d_X10_makes_0 rfl ?_
  refine g_V0 d_X10_makes_1 cs_X10_makes_X10_begin lk_RX10_166 im_X10_begin se_X10_begin rfl rfl rfl (Nat.le_of_ble_eq_true rfl) ⟨rfl, rfl⟩ ⟨Nat.zero_le _, Nat.zero_le _⟩ (ct_X10_begin  I J hma hmj) (fun r1 S1 I1 J2 q1_2 => ?_)
  obtain ⟨rfl, hc1_3, rfl, hr1_4⟩ := q1_2
  refine g_st (st' := []) rfl ?_
  have hK6 : (MI (bgI I) I1 ∧ MK (bgJ I J) J2) := hr1_4
  refine g_iload_n d_X10_makes_4 rfl ?_
  refine g_S1 d_X10_makes_5 cs_X10_makes_X10_isSet lk_RX10_259 im_X10_isSet (Nat.le_of_ble_eq_true rfl) ⟨rfl, rfl⟩ ⟨Nat.zero_le _, Nat.zero_le _⟩ (ct_X10_isSet set I1 J2 ) (fun r5 S5 Ic8 Jc9 q5_6 => ?_)
  obtain ⟨rfl, rfl, rfl, r11, rfl, hz5, hr5_11⟩ := q5_6
  refine g_st (st' := [.int r11]) rfl ?_
  refine g_if_ne d_X10_makes_8 (fun h8 => ?_) (fun h8 => ?_)
  · skip
    refine g_iload_n d_X10_makes_15 rfl ?_
    refine g_i2l d_X10_makes_16 ?_
    refine g_lconst d_X10_makes_17 kL_0 ?_
    refine g_lconst d_X10_makes_18 kL_1 ?_
    refine g_S3 d_X10_makes_19 cs_X10_makes_X10_in lk_RX10_96 im_X10_in (Nat.le_of_ble_eq_true rfl) ⟨rfl, rfl⟩ ⟨Nat.zero_le _, Nat.zero_le _⟩ (ct_X10_inL what (0 : Int64) (1 : Int64) (0 : Int32) (1 : Int32) (by decide) (by decide) I1 J2) (fun r19 S19 Ic14 Jc15 q19_12 => ?_)
    obtain ⟨rfl, rfl, rfl, r17, rfl, hz19, hr19_17⟩ := q19_12
    refine g_st (st' := [.int r17]) rfl ?_
    refine g_if_ne d_X10_makes_22 (fun h22 => ?_) (fun h22 => ?_)
    · skip
      refine g_aload_n d_X10_makes_28 rfl ?_
      refine g_iload_n d_X10_makes_29 rfl ?_
      refine g_V1 d_X10_makes_30 cs_X10_makes_X10_tryFresh lk_RX10_317 im_X10_tryFresh se_X10_tryFresh rfl rfl rfl (Nat.le_of_ble_eq_true rfl) ⟨rfl, rfl⟩ ⟨Nat.zero_le _, Nat.zero_le _⟩ (ct_X10_tryFresh set I1 J2 ) (fun r30 S30 Ic21 J19 q30_19 => ?_)
      obtain ⟨rfl, ⟨rfl, hc30_21⟩, rfl, hr30_22⟩ := q30_19
      refine g_st (st' := []) rfl ?_
      have hK24 : (MI (bgI I) I1 ∧ MK (bgJ I J) J19) := ⟨(hK6).1, try_mk (hK6).2 hr30_22⟩
      refine g_iconst (v := 1) d_X10_makes_33 kI_1 ?_
      refine g_istore_n (L' := [some (.ref 78), some (.int set), some (.int what), some (.int (1 : Int32)), none, none]) d_X10_makes_34 (by decide) rfl ?_
      have K_35 : ∀ (nu : Nat) (x25 : Int32) (J26 : Jv), mUe (30 : Int32) x25 = nu → ((MI (bgI I) I1 ∧ MK (bgJ I J) J26)) → ((1 : Int32) ≤ x25) → G m_X10_makes (rq m_X10_makes (fun r S' I' J' => S' = SHF ∧ True ∧ ∃ v : Int32, r = some (.int v) ∧ (MI (bgI I) I' ∧ MK (bgJ I J) J'))) 0 0 35 [some (.ref 78), some (.int set), some (.int what), some (.int x25), none, none] [] SHF I1 J26 := by
        intro nu
        induction nu using Nat.strongRecOn with
        | ind nu ih_35 =>
          intro x25 J26 hmu_35 hK27 hl28
          refine g_iload_n d_X10_makes_35 rfl ?_
          refine g_bipush (v := 30) d_X10_makes_36 kB_30 ?_
          refine g_icmp_gt d_X10_makes_38 (fun h38 => ?_) (fun h38 => ?_)
          · skip
            refine g_iconst (v := -1) d_X10_makes_108 kI_m1 ?_
            exact g_ireturn d_X10_makes_109 rfl rfl rfl rfl ⟨rfl, trivial, (-1 : Int32), rfl, hK27⟩
          · skip
            refine g_aload_n d_X10_makes_41 rfl ?_
            refine g_getR d_X10_makes_42 fq_RX10_7 rfl rfl ?_
            refine g_sipush (v := 145) d_X10_makes_45 kS_145 ?_
            refine g_laload (N := 320) d_X10_makes_48 rfl kT_320 ⟨by decide, by decide⟩ kN_145 ?_
            refine g_topJ (fun v29 ev29 => ?_)
            refine g_lstore (L' := [some (.ref 78), some (.int set), some (.int what), some (.int x25), some (.long v29), none]) d_X10_makes_49 (by decide) rfl ?_
            refine g_aload_n d_X10_makes_51 rfl ?_
            refine g_bipush (v := 80) d_X10_makes_52 kB_80 ?_
            refine g_sipush (v := 288) d_X10_makes_54 kS_288 ?_
            refine g_V2 d_X10_makes_57 cs_X10_makes_X10_go lk_RX10_289 im_X10_go se_X10_go rfl rfl rfl (Nat.le_of_ble_eq_true rfl) ⟨rfl, rfl⟩ ⟨Nat.zero_le _, Nat.zero_le _⟩ (ct_X10_go (80 : Int32) (288 : Int32) I1 J26 (by decide) ((hK27).2.2 _ (by decide)).2.1 ((hK27).2.2 _ (by decide)).1 ((hK27).1.2.2.1) (by grind) ((hK27).1.2.2.2.1) ((hK27).1.2.2.2.2.1)) (fun r57 S57 Ic32 J30 q57_30 => ?_)
            obtain ⟨rfl, ⟨rfl, hc57_32⟩, rfl, hr57_33⟩ := q57_30
            refine g_st (st' := []) rfl ?_
            have hK35 : (MI (bgI I) I1 ∧ MK (bgJ I J) J30) := ⟨(hK27).1, tg_mk80 (hK27).2 hc57_32⟩
            refine g_iload_n d_X10_makes_60 rfl ?_
            refine g_if_ne d_X10_makes_61 (fun h61 => ?_) (fun h61 => ?_)
            · skip
              refine g_aload_n d_X10_makes_82 rfl ?_
              refine g_getR d_X10_makes_83 fq_RX10_7 rfl rfl ?_
              refine g_sipush (v := 145) d_X10_makes_86 kS_145 ?_
              refine g_laload (N := 320) d_X10_makes_89 rfl kT_320 ⟨by decide, by decide⟩ kN_145 ?_
              refine g_lload d_X10_makes_90 rfl ?_
              refine g_lsub d_X10_makes_92 ?_
              refine g_ldc2 (v := 288) d_X10_makes_93 tw_1370 ?_
              refine g_lcmp_ne d_X10_makes_96 d_X10_makes_97 (fun h97 => ?_) (fun h97 => ?_)
              · skip
                refine g_iinc (v := (x25 + (1 : Int32))) (L' := [some (.ref 78), some (.int set), some (.int what), some (.int (x25 + (1 : Int32))), some (.long v29), none]) d_X10_makes_102 rfl (by rw [kI_1]) (by decide) rfl ?_
                refine g_goto d_X10_makes_105 ?_
                refine g_sb [some (.ref 78), some (.int set), some (.int what), some (.int (x25 + (1 : Int32))), none, none] (by simp [subL]) ?_
                exact ih_35 _ (by rw [← hmu_35]; exact mu_upe h38 (by decide)) (x25 + (1 : Int32)) J30 rfl hK35 (lo_upe hl28 h38 (by decide))
              · skip
                refine g_iload_n d_X10_makes_100 rfl ?_
                exact g_ireturn d_X10_makes_101 rfl rfl rfl rfl ⟨rfl, trivial, x25, rfl, hK35⟩
            · skip
              refine g_aload_n d_X10_makes_64 rfl ?_
              refine g_getR d_X10_makes_65 fq_RX10_7 rfl rfl ?_
              refine g_sipush (v := 133) d_X10_makes_68 kS_133 ?_
              refine g_laload (N := 320) d_X10_makes_71 rfl kT_320 ⟨by decide, by decide⟩ kN_133 ?_
              refine g_ldc2 (v := 600) d_X10_makes_72 tw_1222 ?_
              refine g_lcmp_lt d_X10_makes_75 d_X10_makes_76 (fun h76 => ?_) (fun h76 => ?_)
              · skip
                refine g_iinc (v := (x25 + (1 : Int32))) (L' := [some (.ref 78), some (.int set), some (.int what), some (.int (x25 + (1 : Int32))), some (.long v29), none]) d_X10_makes_102 rfl (by rw [kI_1]) (by decide) rfl ?_
                refine g_goto d_X10_makes_105 ?_
                refine g_sb [some (.ref 78), some (.int set), some (.int what), some (.int (x25 + (1 : Int32))), none, none] (by simp [subL]) ?_
                exact ih_35 _ (by rw [← hmu_35]; exact mu_upe h38 (by decide)) (x25 + (1 : Int32)) J30 rfl hK35 (lo_upe hl28 h38 (by decide))
              · skip
                refine g_goto d_X10_makes_79 ?_
                refine g_iload_n d_X10_makes_100 rfl ?_
                exact g_ireturn d_X10_makes_101 rfl rfl rfl rfl ⟨rfl, trivial, x25, rfl, hK35⟩
      exact K_35 _ (1 : Int32) J19 rfl hK24 (Int32.le_refl _)
    · skip
      refine g_ldc (v := -1000000002) d_X10_makes_25 tw_1199 ?_
      exact g_ireturn d_X10_makes_27 rfl rfl rfl rfl ⟨rfl, trivial, (-1000000002 : Int32), rfl, hK6⟩
  · skip
    refine g_ldcw (v := -1000000001) d_X10_makes_11 tw_1296 ?_
    exact g_ireturn d_X10_makes_14 rfl rfl rfl rfl ⟨rfl, trivial, (-1000000001 : Int32), rfl, hK6⟩
