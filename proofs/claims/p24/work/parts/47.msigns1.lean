noncomputable def fn_X10_signOf (what : Int32) (I : Iv) (J : Jv) : Int32 × Iv × Jv :=
  j_n (b_n3 (fn_X10_warm (80 : Int32) (what - (2 : Int32)) I J) (fun (r6 : Int64) (_ : Iv) (_ : Jv) => ((Int64.toInt32 r6), I, J))) (fun (j32_0 : Int32 × Iv × Jv) => if (what).toInt < 2 ∨ 5 < (what).toInt then if what = 0 then ((Int64.toInt32 (J 79 (((80 : Int32) + (65 : Int32))).toNatClampNeg)), I, J) else if what = (1 : Int32) then ((Int64.toInt32 (J 79 (((80 : Int32) + (64 : Int32))).toNatClampNeg)), I, J) else ((Int64.toInt32 (J 79 (((80 : Int32) + (63 : Int32))).toNatClampNeg)), I, J) else l_t ((what).toInt - (2)).toNat (fun (sw1 : Nat) => if sw1 = 0 then j32_0 else if sw1 = 1 then j32_0 else if sw1 = 2 then j32_0 else if sw1 = 3 then ((Int64.toInt32 (J 79 133)), I, J) else (0, I, J)))
set_option maxRecDepth 100000 in
set_option maxHeartbeats 4000000 in
theorem ct_X10_signOf (what : Int32) (I : Iv) (J : Jv)  : Ct m_X10_signOf [.ref 78, .int what] SHF I J (fun r S' I' J' => S' = SHF ∧ I = I' ∧ J = J' ∧ ∃ v : Int32, r = some (.int v) ∧ fn_X10_signOf what I J = (v, I', J')) := by
  refine ct_of 0 (by decide +kernel) rfl rfl ?_
  have hF := fe_of (fn_X10_signOf.eq_1 what I J)
  refine g_iload_n d_X10_signOf_0 rfl ?_
  obtain ⟨j32_0, hj32_0, hF⟩ := fe_jx hF
  have J_32 : (2 ≤ what ∧ what ≤ 4) → (FE (fn_X10_signOf what I J) (fun _ => j32_0)) → G m_X10_signOf (rq m_X10_signOf (fun r S' I' J' => S' = SHF ∧ I = I' ∧ J = J' ∧ ∃ v : Int32, r = some (.int v) ∧ fn_X10_signOf what I J = (v, I', J'))) 0 0 32 [some (.ref 78), some (.int what)] [] SHF I J := by
    intro hr_32 hF_j32_0
    have hF := fe_eq hF_j32_0 hj32_0
    refine g_aload_n d_X10_signOf_32 rfl ?_
    refine g_bipush (v := 80) d_X10_signOf_33 kB_80 ?_
    refine g_iload_n d_X10_signOf_35 rfl ?_
    refine g_iconst (v := 2) d_X10_signOf_36 kI_2 ?_
    refine g_isub d_X10_signOf_37 ?_
    refine g_V2 d_X10_signOf_38 cs_X10_signOf_X10_warm lk_RX10_200 im_X10_warm se_X10_warm rfl rfl rfl (Nat.le_of_ble_eq_true rfl) ⟨rfl, rfl⟩ ⟨Nat.zero_le _, Nat.zero_le _⟩ (ct_X10_warm (80 : Int32) (what - (2 : Int32)) I J (by decide) (by grind) (by grind)) (fun r38 S38 Ic2 Jc3 q38_0 => ?_)
    obtain ⟨rfl, rfl, rfl, r6, rfl, hf38_4⟩ := q38_0
    replace hF := fe_b3 hF hf38_4
    refine g_st (st' := [.long r6]) rfl ?_
    refine g_l2i d_X10_signOf_41 ?_
    exact g_ireturn d_X10_signOf_42 rfl rfl rfl rfl ⟨rfl, rfl, rfl, (Int64.toInt32 r6), rfl, hF⟩
  rcases sw_split what (2) (5) with h1 | h1
  · skip
    refine g_swOut d_X10_signOf_1 h1 ?_
    replace hF := fe_pos hF h1
    refine g_aload_n d_X10_signOf_53 rfl ?_
    refine g_getR d_X10_signOf_54 fq_RX10_7 rfl rfl ?_
    refine g_bipush (v := 80) d_X10_signOf_57 kB_80 ?_
    refine g_iload_n d_X10_signOf_59 rfl ?_
    refine g_if_ne d_X10_signOf_60 (fun h60 => ?_) (fun h60 => ?_)
    · skip
      replace hF := fe_neg hF h60
      refine g_iload_n d_X10_signOf_68 rfl ?_
      refine g_iconst (v := 1) d_X10_signOf_69 kI_1 ?_
      refine g_icmp_ne d_X10_signOf_70 (fun h70 => ?_) (fun h70 => ?_)
      · skip
        replace hF := fe_neg hF h70
        refine g_bipush (v := 63) d_X10_signOf_78 kB_63 ?_
        refine g_iadd d_X10_signOf_80 ?_
        refine g_laload (N := 320) d_X10_signOf_81 rfl kT_320 (by constructor <;> grind) rfl ?_
        refine g_l2i d_X10_signOf_82 ?_
        exact g_ireturn d_X10_signOf_83 rfl rfl rfl rfl ⟨rfl, rfl, rfl, (Int64.toInt32 (J 79 (((80 : Int32) + (63 : Int32))).toNatClampNeg)), rfl, hF⟩
      · skip
        replace hF := fe_pos hF h70
        refine g_bipush (v := 64) d_X10_signOf_73 kB_64 ?_
        refine g_goto d_X10_signOf_75 ?_
        refine g_iadd d_X10_signOf_80 ?_
        refine g_laload (N := 320) d_X10_signOf_81 rfl kT_320 (by constructor <;> grind) rfl ?_
        refine g_l2i d_X10_signOf_82 ?_
        exact g_ireturn d_X10_signOf_83 rfl rfl rfl rfl ⟨rfl, rfl, rfl, (Int64.toInt32 (J 79 (((80 : Int32) + (64 : Int32))).toNatClampNeg)), rfl, hF⟩
    · skip
      replace hF := fe_pos hF h60
      refine g_bipush (v := 65) d_X10_signOf_63 kB_65 ?_
      refine g_goto d_X10_signOf_65 ?_
      refine g_iadd d_X10_signOf_80 ?_
      refine g_laload (N := 320) d_X10_signOf_81 rfl kT_320 (by constructor <;> grind) rfl ?_
      refine g_l2i d_X10_signOf_82 ?_
      exact g_ireturn d_X10_signOf_83 rfl rfl rfl rfl ⟨rfl, rfl, rfl, (Int64.toInt32 (J 79 (((80 : Int32) + (65 : Int32))).toNatClampNeg)), rfl, hF⟩
  · skip
    replace hF := fe_neg hF (fun q => by rcases q with q | q; exact h1.1 q; exact h1.2 q)
    have hz : ∃ k : Nat, k < 4 ∧ (what).toInt = (2 : Int) + (k : Int) := by obtain ⟨k, h1, h2⟩ := sw_k h1; exact ⟨k, by omega, h2⟩
    obtain ⟨k, hk, hz⟩ := hz
    match k, hk, hz with
    | 0, _, hz =>
      refine g_swIn d_X10_signOf_1_0 (by rw [hz]; decide) (by rw [hz]; decide) (by rw [hz]; rfl) ?_
      replace hF := fe_lt (v := 0) hF (by rw [hz]; rfl)
      replace hF := fe_pos hF rfl
      exact J_32 (by rw [Int32.le_iff_toInt_le, Int32.le_iff_toInt_le, hz]; decide) hF
    | 1, _, hz =>
      refine g_swIn d_X10_signOf_1_1 (by rw [hz]; decide) (by rw [hz]; decide) (by rw [hz]; rfl) ?_
      replace hF := fe_lt (v := 1) hF (by rw [hz]; rfl)
      replace hF := fe_neg hF (by decide)
      replace hF := fe_pos hF rfl
      exact J_32 (by rw [Int32.le_iff_toInt_le, Int32.le_iff_toInt_le, hz]; decide) hF
    | 2, _, hz =>
      refine g_swIn d_X10_signOf_1_2 (by rw [hz]; decide) (by rw [hz]; decide) (by rw [hz]; rfl) ?_
      replace hF := fe_lt (v := 2) hF (by rw [hz]; rfl)
      replace hF := fe_neg hF (by decide)
      replace hF := fe_neg hF (by decide)
      replace hF := fe_pos hF rfl
      exact J_32 (by rw [Int32.le_iff_toInt_le, Int32.le_iff_toInt_le, hz]; decide) hF
    | 3, _, hz =>
      refine g_swIn d_X10_signOf_1_3 (by rw [hz]; decide) (by rw [hz]; decide) (by rw [hz]; rfl) ?_
      replace hF := fe_lt (v := 3) hF (by rw [hz]; rfl)
      replace hF := fe_neg hF (by decide)
      replace hF := fe_neg hF (by decide)
      replace hF := fe_neg hF (by decide)
      replace hF := fe_pos hF rfl
      refine g_aload_n d_X10_signOf_43 rfl ?_
      refine g_getR d_X10_signOf_44 fq_RX10_7 rfl rfl ?_
      refine g_sipush (v := 133) d_X10_signOf_47 kS_133 ?_
      refine g_laload (N := 320) d_X10_signOf_50 rfl kT_320 ⟨by decide, by decide⟩ kN_133 ?_
      refine g_l2i d_X10_signOf_51 ?_
      exact g_ireturn d_X10_signOf_52 rfl rfl rfl rfl ⟨rfl, rfl, rfl, (Int64.toInt32 (J 79 133)), rfl, hF⟩
    | k + 4, hk, _ => exact absurd hk (by omega)
noncomputable def fl_X10_findSigns_51_0 (r20 : Int32) (r27 : Int32) (r34 : Int32) (J36 : Jv) (Kf0 : Int32 → Iv → Iv × Jv) : Nat → Int32 → Iv → Iv × Jv
  | 0, x43, I44 => (I44, J36)
  | kf0 + 1, x43, I44 => if (7 : Int32) ≤ x43 then Kf0 x43 I44 else b_n3 (fn_X10_signOf x43 I44 J36) (fun (r52 : Int32) (_ : Iv) (_ : Jv) => if x43 = 0 then l_t (wI I44 90 (x43.toNatClampNeg) (r52 - r20)) (fun (I60 : Iv) => fl_X10_findSigns_51_0 r20 r27 r34 J36 Kf0 kf0 (x43 + (1 : Int32)) I60) else if x43 = (1 : Int32) then l_t (wI I44 90 (x43.toNatClampNeg) (r52 - r27)) (fun (I58 : Iv) => fl_X10_findSigns_51_0 r20 r27 r34 J36 Kf0 kf0 (x43 + (1 : Int32)) I58) else if x43 = (6 : Int32) then l_t (wI I44 90 (x43.toNatClampNeg) (r52 - r34)) (fun (I56 : Iv) => fl_X10_findSigns_51_0 r20 r27 r34 J36 Kf0 kf0 (x43 + (1 : Int32)) I56) else l_t (wI I44 90 (x43.toNatClampNeg) (r52 - (0 : Int32))) (fun (I54 : Iv) => fl_X10_findSigns_51_0 r20 r27 r34 J36 Kf0 kf0 (x43 + (1 : Int32)) I54))
noncomputable def fn_X10_findSigns (set : Int32) (n : Int32) (I : Iv) (J : Jv) : Iv × Jv :=
  b_n2 (fn_X10_tryFresh set I J) (fun (_ : Iv) (J1 : Jv) => b_n2 (fn_X10_go (80 : Int32) ((288 : Int32) * (n - (1 : Int32))) I J1) (fun (_ : Iv) (J8 : Jv) => b_n3 (fn_X10_signOf (0 : Int32) I J8) (fun (r20 : Int32) (_ : Iv) (_ : Jv) => b_n3 (fn_X10_signOf (1 : Int32) I J8) (fun (r27 : Int32) (_ : Iv) (_ : Jv) => b_n3 (fn_X10_signOf (6 : Int32) I J8) (fun (r34 : Int32) (_ : Iv) (_ : Jv) => b_n2 (fn_X10_go (80 : Int32) (288 : Int32) I J8) (fun (_ : Iv) (J36 : Jv) => fl_X10_findSigns_51_0 r20 r27 r34 J36 (fun (x43 : Int32) (I44 : Iv) => (I44, J36)) (mU (7 : Int32) ((0 : Int32)) + 1) (0 : Int32) I))))))
set_option maxRecDepth 100000 in
set_option maxHeartbeats 4000000 in
theorem ct_X10_findSigns (set : Int32) (n : Int32) (I : Iv) (J : Jv) (hma : MA I) (hmj : MJ J) (hn6 : 1 ≤ n ∧ n ≤ 6) : Ct m_X10_findSigns [.ref 78, .int set, .int n] SHF I J (fun r S' I' J' => S' = SHF ∧ (MI I I' ∧ MK J J') ∧ r = none ∧ fn_X10_findSigns set n I J = (I', J') ∧ JR J J') := by
  refine ct_of 4 (by decide +kernel) rfl rfl ?_
  have hK0 : (MI I I ∧ MK J J) := ⟨mi_rfl hma, mk_rfl hmj⟩
  have hF := fe_of (fn_X10_findSigns.eq_1 set n I J)
  refine g_aload_n d_X10_findSigns_0 rfl ?_
  refine g_iload_n d_X10_findSigns_1 rfl ?_
  refine g_V1 d_X10_findSigns_2 cs_X10_findSigns_X10_tryFresh lk_RX10_317 im_X10_tryFresh se_X10_tryFresh rfl rfl rfl (Nat.le_of_ble_eq_true rfl) ⟨rfl, rfl⟩ ⟨Nat.zero_le _, Nat.zero_le _⟩ (ct_X10_tryFresh set I J ) (fun r2 S2 Ic3 J1 q2_1 => ?_)
  obtain ⟨rfl, ⟨rfl, hc2_3⟩, rfl, hf2_4, hr2_5⟩ := q2_1
  replace hF := fe_b2 hF hf2_4
  refine g_st (st' := []) rfl ?_
  have hK7 : (MI I I ∧ MK J J1) := ⟨(hK0).1, try_mk (hK0).2 hr2_5⟩
  have hj2 : JR J J1 := jr_fb (hr2_5).1
  refine g_aload_n d_X10_findSigns_5 rfl ?_
  refine g_bipush (v := 80) d_X10_findSigns_6 kB_80 ?_
  refine g_sipush (v := 288) d_X10_findSigns_8 kS_288 ?_
  refine g_iload_n d_X10_findSigns_11 rfl ?_
  refine g_iconst (v := 1) d_X10_findSigns_12 kI_1 ?_
  refine g_isub d_X10_findSigns_13 ?_
  refine g_imul d_X10_findSigns_14 ?_
  refine g_V2 d_X10_findSigns_15 cs_X10_findSigns_X10_go lk_RX10_289 im_X10_go se_X10_go rfl rfl rfl (Nat.le_of_ble_eq_true rfl) ⟨rfl, rfl⟩ ⟨Nat.zero_le _, Nat.zero_le _⟩ (ct_X10_go (80 : Int32) ((288 : Int32) * (n - (1 : Int32))) I J1 (by decide) ((hK7).2.2 _ (by decide)).2.1 ((hK7).2.2 _ (by decide)).1 ((hK7).1.2.2.1) (by grind) ((hK7).1.2.2.2.1) ((hK7).1.2.2.2.2.1)) (fun r15 S15 Ic10 J8 q15_8 => ?_)
  obtain ⟨rfl, ⟨rfl, hc15_10⟩, rfl, hf15_11, hr15_12⟩ := q15_8
  replace hF := fe_b2 hF hf15_11
  refine g_st (st' := []) rfl ?_
  have hK14 : (MI I I ∧ MK J J8) := ⟨(hK7).1, tg_mk80 (hK7).2 hc15_10⟩
  have hj15 : JR J J8 := hj2.tr (jr_tg hc15_10)
  refine g_aload_n d_X10_findSigns_18 rfl ?_
  refine g_iconst (v := 0) d_X10_findSigns_19 kI_0 ?_
  refine g_V1 d_X10_findSigns_20 cs_X10_findSigns_X10_signOf lk_RX10_320 im_X10_signOf se_X10_signOf rfl rfl rfl (Nat.le_of_ble_eq_true rfl) ⟨rfl, rfl⟩ ⟨Nat.zero_le _, Nat.zero_le _⟩ (ct_X10_signOf (0 : Int32) I J8 ) (fun r20 S20 Ic16 Jc17 q20_14 => ?_)
  obtain ⟨rfl, rfl, rfl, r20, rfl, hf20_18⟩ := q20_14
  replace hF := fe_b3 hF hf20_18
  refine g_st (st' := [.int r20]) rfl ?_
  refine g_istore_n (L' := [some (.ref 78), some (.int set), some (.int n), some (.int r20), none, none, none]) d_X10_findSigns_23 (by decide) rfl ?_
  refine g_aload_n d_X10_findSigns_24 rfl ?_
  refine g_iconst (v := 1) d_X10_findSigns_25 kI_1 ?_
  refine g_V1 d_X10_findSigns_26 cs_X10_findSigns_X10_signOf lk_RX10_320 im_X10_signOf se_X10_signOf rfl rfl rfl (Nat.le_of_ble_eq_true rfl) ⟨rfl, rfl⟩ ⟨Nat.zero_le _, Nat.zero_le _⟩ (ct_X10_signOf (1 : Int32) I J8 ) (fun r26 S26 Ic23 Jc24 q26_21 => ?_)
  obtain ⟨rfl, rfl, rfl, r27, rfl, hf26_25⟩ := q26_21
  replace hF := fe_b3 hF hf26_25
  refine g_st (st' := [.int r27]) rfl ?_
  refine g_istore (L' := [some (.ref 78), some (.int set), some (.int n), some (.int r20), some (.int r27), none, none]) d_X10_findSigns_29 (by decide) rfl ?_
  refine g_aload_n d_X10_findSigns_31 rfl ?_
  refine g_bipush (v := 6) d_X10_findSigns_32 kB_6 ?_
  refine g_V1 d_X10_findSigns_34 cs_X10_findSigns_X10_signOf lk_RX10_320 im_X10_signOf se_X10_signOf rfl rfl rfl (Nat.le_of_ble_eq_true rfl) ⟨rfl, rfl⟩ ⟨Nat.zero_le _, Nat.zero_le _⟩ (ct_X10_signOf (6 : Int32) I J8 ) (fun r34 S34 Ic30 Jc31 q34_28 => ?_)
  obtain ⟨rfl, rfl, rfl, r34, rfl, hf34_32⟩ := q34_28
  replace hF := fe_b3 hF hf34_32
  refine g_st (st' := [.int r34]) rfl ?_
  refine g_istore (L' := [some (.ref 78), some (.int set), some (.int n), some (.int r20), some (.int r27), some (.int r34), none]) d_X10_findSigns_37 (by decide) rfl ?_
  refine g_aload_n d_X10_findSigns_39 rfl ?_
  refine g_bipush (v := 80) d_X10_findSigns_40 kB_80 ?_
  refine g_sipush (v := 288) d_X10_findSigns_42 kS_288 ?_
  refine g_V2 d_X10_findSigns_45 cs_X10_findSigns_X10_go lk_RX10_289 im_X10_go se_X10_go rfl rfl rfl (Nat.le_of_ble_eq_true rfl) ⟨rfl, rfl⟩ ⟨Nat.zero_le _, Nat.zero_le _⟩ (ct_X10_go (80 : Int32) (288 : Int32) I J8 (by decide) ((hK14).2.2 _ (by decide)).2.1 ((hK14).2.2 _ (by decide)).1 ((hK14).1.2.2.1) (by grind) ((hK14).1.2.2.2.1) ((hK14).1.2.2.2.2.1)) (fun r45 S45 Ic38 J36 q45_36 => ?_)
  obtain ⟨rfl, ⟨rfl, hc45_38⟩, rfl, hf45_39, hr45_40⟩ := q45_36
  replace hF := fe_b2 hF hf45_39
  refine g_st (st' := []) rfl ?_
  have hK42 : (MI I I ∧ MK J J36) := ⟨(hK14).1, tg_mk80 (hK14).2 hc45_38⟩
  have hj45 : JR J J36 := hj15.tr (jr_tg hc45_38)
  refine g_iconst (v := 0) d_X10_findSigns_48 kI_0 ?_
  refine g_istore (L' := [some (.ref 78), some (.int set), some (.int n), some (.int r20), some (.int r27), some (.int r34), some (.int (0 : Int32))]) d_X10_findSigns_49 (by decide) rfl ?_
  obtain ⟨Kf0, hKf0, hF⟩ := fe_kx (f := fun K => fl_X10_findSigns_51_0 r20 r27 r34 J36 K (mU (7 : Int32) ((0 : Int32)) + 1) (0 : Int32) I) hF
  have K_51 : ∀ (nu : Nat) (x43 : Int32) (I44 : Iv), mU (7 : Int32) x43 = nu → ((MI I I44 ∧ MK J J36)) → ((0 : Int32) ≤ x43) → (∃ kq : Nat, nu < kq ∧ (fun kq => FE (fn_X10_findSigns set n I J) (fun _ => fl_X10_findSigns_51_0 r20 r27 r34 J36 Kf0 kq x43 I44)) kq) → G m_X10_findSigns (rq m_X10_findSigns (fun r S' I' J' => S' = SHF ∧ (MI I I' ∧ MK J J') ∧ r = none ∧ fn_X10_findSigns set n I J = (I', J') ∧ JR J J')) 0 0 51 [some (.ref 78), some (.int set), some (.int n), some (.int r20), some (.int r27), some (.int r34), some (.int x43)] [] SHF I44 J36 := by
    intro nu
    induction nu using Nat.strongRecOn with
    | ind nu ih_51 =>
      intro x43 I44 hmu_51 hK45 hl46 hF_Kf0
      obtain ⟨kf0, hkf0, hF⟩ := fe_fu (P := fun kq => FE (fn_X10_findSigns set n I J) (fun _ => fl_X10_findSigns_51_0 r20 r27 r34 J36 Kf0 kq x43 I44)) hF_Kf0
      replace hF := fe_eq hF (fl_X10_findSigns_51_0.eq_2 _ _ _ _ _ _ _ _)
      refine g_iload d_X10_findSigns_51 rfl ?_
      refine g_bipush (v := 7) d_X10_findSigns_53 kB_7 ?_
      refine g_icmp_ge d_X10_findSigns_55 (fun h55 => ?_) (fun h55 => ?_)
      · skip
        replace hF := fe_pos hF h55
        replace hF := fe_eq hF (congrFun (congrFun hKf0 x43) I44)
        exact g_return d_X10_findSigns_111 rfl rfl rfl ⟨rfl, hK45, rfl, hF, hj45⟩
      · skip
        replace hF := fe_neg hF h55
        refine g_aload_n d_X10_findSigns_58 rfl ?_
        refine g_getR d_X10_findSigns_59 fq_RX10_49 rfl rfl ?_
        refine g_iload d_X10_findSigns_62 rfl ?_
        refine g_aload_n d_X10_findSigns_64 rfl ?_
        refine g_iload d_X10_findSigns_65 rfl ?_
        refine g_V1 d_X10_findSigns_67 cs_X10_findSigns_X10_signOf lk_RX10_320 im_X10_signOf se_X10_signOf rfl rfl rfl (Nat.le_of_ble_eq_true rfl) ⟨rfl, rfl⟩ ⟨Nat.zero_le _, Nat.zero_le _⟩ (ct_X10_signOf x43 I44 J36 ) (fun r67 S67 Ic48 Jc49 q67_46 => ?_)
        obtain ⟨rfl, rfl, rfl, r52, rfl, hf67_50⟩ := q67_46
        replace hF := fe_b3 hF hf67_50
        refine g_st (st' := [.int r52, .int x43, .ref 90]) rfl ?_
        refine g_iload d_X10_findSigns_70 rfl ?_
        refine g_if_ne d_X10_findSigns_72 (fun h72 => ?_) (fun h72 => ?_)
        · skip
          replace hF := fe_neg hF h72
          refine g_iload d_X10_findSigns_79 rfl ?_
          refine g_iconst (v := 1) d_X10_findSigns_81 kI_1 ?_
          refine g_icmp_ne d_X10_findSigns_82 (fun h82 => ?_) (fun h82 => ?_)
          · skip
            replace hF := fe_neg hF h82
            refine g_iload d_X10_findSigns_90 rfl ?_
            refine g_bipush (v := 6) d_X10_findSigns_92 kB_6 ?_
            refine g_icmp_ne d_X10_findSigns_94 (fun h94 => ?_) (fun h94 => ?_)
            · skip
              replace hF := fe_neg hF h94
              refine g_iconst (v := 0) d_X10_findSigns_102 kI_0 ?_
              refine g_isub d_X10_findSigns_103 ?_
              refine g_iastore (N := 7) d_X10_findSigns_104 rfl kT_7 ⟨hl46, Int32.not_le.mp h55⟩ rfl  ?_
              refine g_nmI (fun I54 eI54 => ?_)
              replace hF := fe_lt hF eI54
              have hK55 : (MI I I54 ∧ MK J J36) := (by rw [eI54]; exact ⟨mi_free (hK45).1 rfl, (hK45).2⟩)
              refine g_iinc (v := (x43 + (1 : Int32))) (L' := [some (.ref 78), some (.int set), some (.int n), some (.int r20), some (.int r27), some (.int r34), some (.int (x43 + (1 : Int32)))]) d_X10_findSigns_105 rfl (by rw [kI_1]) (by decide) rfl ?_
              refine g_goto d_X10_findSigns_108 ?_
              exact ih_51 _ (by rw [← hmu_51]; exact mu_up h55) (x43 + (1 : Int32)) I54 rfl hK55 (lo_up hl46 h55) ⟨kf0, Nat.lt_of_lt_of_le (by rw [← hmu_51]; exact mu_up h55) hkf0, hF⟩
            · skip
              replace hF := fe_pos hF h94
              refine g_iload d_X10_findSigns_97 rfl ?_
              refine g_goto d_X10_findSigns_99 ?_
              refine g_isub d_X10_findSigns_103 ?_
              refine g_iastore (N := 7) d_X10_findSigns_104 rfl kT_7 ⟨hl46, Int32.not_le.mp h55⟩ rfl  ?_
              refine g_nmI (fun I56 eI56 => ?_)
              replace hF := fe_lt hF eI56
              have hK57 : (MI I I56 ∧ MK J J36) := (by rw [eI56]; exact ⟨mi_free (hK45).1 rfl, (hK45).2⟩)
              refine g_iinc (v := (x43 + (1 : Int32))) (L' := [some (.ref 78), some (.int set), some (.int n), some (.int r20), some (.int r27), some (.int r34), some (.int (x43 + (1 : Int32)))]) d_X10_findSigns_105 rfl (by rw [kI_1]) (by decide) rfl ?_
              refine g_goto d_X10_findSigns_108 ?_
              exact ih_51 _ (by rw [← hmu_51]; exact mu_up h55) (x43 + (1 : Int32)) I56 rfl hK57 (lo_up hl46 h55) ⟨kf0, Nat.lt_of_lt_of_le (by rw [← hmu_51]; exact mu_up h55) hkf0, hF⟩
          · skip
            replace hF := fe_pos hF h82
            refine g_iload d_X10_findSigns_85 rfl ?_
            refine g_goto d_X10_findSigns_87 ?_
            refine g_isub d_X10_findSigns_103 ?_
            refine g_iastore (N := 7) d_X10_findSigns_104 rfl kT_7 ⟨hl46, Int32.not_le.mp h55⟩ rfl  ?_
            refine g_nmI (fun I58 eI58 => ?_)
            replace hF := fe_lt hF eI58
            have hK59 : (MI I I58 ∧ MK J J36) := (by rw [eI58]; exact ⟨mi_free (hK45).1 rfl, (hK45).2⟩)
            refine g_iinc (v := (x43 + (1 : Int32))) (L' := [some (.ref 78), some (.int set), some (.int n), some (.int r20), some (.int r27), some (.int r34), some (.int (x43 + (1 : Int32)))]) d_X10_findSigns_105 rfl (by rw [kI_1]) (by decide) rfl ?_
            refine g_goto d_X10_findSigns_108 ?_
            exact ih_51 _ (by rw [← hmu_51]; exact mu_up h55) (x43 + (1 : Int32)) I58 rfl hK59 (lo_up hl46 h55) ⟨kf0, Nat.lt_of_lt_of_le (by rw [← hmu_51]; exact mu_up h55) hkf0, hF⟩
        · skip
          replace hF := fe_pos hF h72
          refine g_iload_n d_X10_findSigns_75 rfl ?_
          refine g_goto d_X10_findSigns_76 ?_
          refine g_isub d_X10_findSigns_103 ?_
          refine g_iastore (N := 7) d_X10_findSigns_104 rfl kT_7 ⟨hl46, Int32.not_le.mp h55⟩ rfl  ?_
          refine g_nmI (fun I60 eI60 => ?_)
          replace hF := fe_lt hF eI60
          have hK61 : (MI I I60 ∧ MK J J36) := (by rw [eI60]; exact ⟨mi_free (hK45).1 rfl, (hK45).2⟩)
          refine g_iinc (v := (x43 + (1 : Int32))) (L' := [some (.ref 78), some (.int set), some (.int n), some (.int r20), some (.int r27), some (.int r34), some (.int (x43 + (1 : Int32)))]) d_X10_findSigns_105 rfl (by rw [kI_1]) (by decide) rfl ?_
          refine g_goto d_X10_findSigns_108 ?_
          exact ih_51 _ (by rw [← hmu_51]; exact mu_up h55) (x43 + (1 : Int32)) I60 rfl hK61 (lo_up hl46 h55) ⟨kf0, Nat.lt_of_lt_of_le (by rw [← hmu_51]; exact mu_up h55) hkf0, hF⟩
  exact K_51 _ (0 : Int32) I rfl hK42 (Int32.le_refl _) ⟨_, Nat.lt_succ_self _, hF⟩
noncomputable def fn_X10_sign (set : Int32) (n : Int32) (what : Int32) (I : Iv) (J : Jv) : Int32 × Iv × Jv :=
  b_n2 (fn_X10_begin I J) (fun (I1 : Iv) (J2 : Jv) => b_n3 (fn_X10_isSet set I1 J2) (fun (r13 : Int32) (_ : Iv) (_ : Jv) => if r13 = 0 then ((-1000000001 : Int32), I1, J2) else b_n3 (fn_X10_isSign what I1 J2) (fun (r20 : Int32) (_ : Iv) (_ : Jv) => if r20 = 0 then ((-1000000001 : Int32), I1, J2) else b_n3 (fn_X10_areDays n I1 J2) (fun (r27 : Int32) (_ : Iv) (_ : Jv) => if r27 = 0 then ((-1000000002 : Int32), I1, J2) else b_n2 (fn_X10_findSigns set n I1 J2) (fun (I29 : Iv) (J30 : Jv) => ((I29 90 what.toNatClampNeg), I29, J30))))))
set_option maxRecDepth 100000 in
set_option maxHeartbeats 4000000 in
theorem ct_X10_sign (set : Int32) (n : Int32) (what : Int32) (I : Iv) (J : Jv) (hma : MA I) (hmj : MJ J) : Ct m_X10_sign [.ref 78, .int set, .int n, .int what] SHF I J (fun r S' I' J' => S' = SHF ∧ True ∧ ∃ v : Int32, r = some (.int v) ∧ fn_X10_sign set n what I J = (v, I', J') ∧ (MI (bgI I) I' ∧ MK (bgJ I J) J')) := by
  refine ct_of 0 (by decide +kernel) rfl rfl ?_
  have hK0 : (MI I I ∧ MK J J) := ⟨mi_rfl hma, mk_rfl hmj⟩
  have hF := fe_of (fn_X10_sign.eq_1 set n what I J)
  refine g_aload_n d_X10_sign_0 rfl ?_
  refine g_V0 d_X10_sign_1 cs_X10_sign_X10_begin lk_RX10_166 im_X10_begin se_X10_begin rfl rfl rfl (Nat.le_of_ble_eq_true rfl) ⟨rfl, rfl⟩ ⟨Nat.zero_le _, Nat.zero_le _⟩ (ct_X10_begin  I J hma hmj) (fun r1 S1 I1 J2 q1_2 => ?_)
  obtain ⟨rfl, hc1_3, rfl, hf1_4, hr1_5⟩ := q1_2
  replace hF := fe_b2 hF hf1_4
  refine g_st (st' := []) rfl ?_
  have hK7 : (MI (bgI I) I1 ∧ MK (bgJ I J) J2) := hr1_5
  refine g_iload_n d_X10_sign_4 rfl ?_
  refine g_S1 d_X10_sign_5 cs_X10_sign_X10_isSet lk_RX10_259 im_X10_isSet (Nat.le_of_ble_eq_true rfl) ⟨rfl, rfl⟩ ⟨Nat.zero_le _, Nat.zero_le _⟩ (ct_X10_isSet set I1 J2 ) (fun r5 S5 Ic9 Jc10 q5_7 => ?_)
  obtain ⟨rfl, rfl, rfl, r13, rfl, hz5, hf5_11, hr5_13⟩ := q5_7
  replace hF := fe_b3 hF hf5_11
  refine g_st (st' := [.int r13]) rfl ?_
  refine g_if_eq d_X10_sign_8 (fun h8 => ?_) (fun h8 => ?_)
  · skip
    replace hF := fe_pos hF h8
    refine g_ldcw (v := -1000000001) d_X10_sign_18 tw_1296 ?_
    exact g_ireturn d_X10_sign_21 rfl rfl rfl rfl ⟨rfl, trivial, (-1000000001 : Int32), rfl, hF, hK7⟩
  · skip
    replace hF := fe_neg hF h8
    refine g_iload_n d_X10_sign_11 rfl ?_
    refine g_S1 d_X10_sign_12 cs_X10_sign_X10_isSign lk_RX10_323 im_X10_isSign (Nat.le_of_ble_eq_true rfl) ⟨rfl, rfl⟩ ⟨Nat.zero_le _, Nat.zero_le _⟩ (ct_X10_isSign what I1 J2 ) (fun r12 S12 Ic16 Jc17 q12_14 => ?_)
    obtain ⟨rfl, rfl, rfl, r20, rfl, hz12, hf12_18, hr12_20⟩ := q12_14
    replace hF := fe_b3 hF hf12_18
    refine g_st (st' := [.int r20]) rfl ?_
    refine g_if_ne d_X10_sign_15 (fun h15 => ?_) (fun h15 => ?_)
    · skip
      replace hF := fe_neg hF h15
      refine g_iload_n d_X10_sign_22 rfl ?_
      refine g_S1 d_X10_sign_23 cs_X10_sign_X10_areDays lk_RX10_326 im_X10_areDays (Nat.le_of_ble_eq_true rfl) ⟨rfl, rfl⟩ ⟨Nat.zero_le _, Nat.zero_le _⟩ (ct_X10_areDays n I1 J2 ) (fun r23 S23 Ic23 Jc24 q23_21 => ?_)
      obtain ⟨rfl, rfl, rfl, r27, rfl, hz23, hf23_25, hr23_27⟩ := q23_21
      replace hF := fe_b3 hF hf23_25
      refine g_st (st' := [.int r27]) rfl ?_
      refine g_if_ne d_X10_sign_26 (fun h26 => ?_) (fun h26 => ?_)
      · skip
        replace hF := fe_neg hF h26
        refine g_aload_n d_X10_sign_32 rfl ?_
        refine g_iload_n d_X10_sign_33 rfl ?_
        refine g_iload_n d_X10_sign_34 rfl ?_
        refine g_V2 d_X10_sign_35 cs_X10_sign_X10_findSigns lk_RX10_329 im_X10_findSigns se_X10_findSigns rfl rfl rfl (Nat.le_of_ble_eq_true rfl) ⟨rfl, rfl⟩ ⟨Nat.zero_le _, Nat.zero_le _⟩ (ct_X10_findSigns set n I1 J2 (hK7).1.2 (hK7).2.2 (by grind)) (fun r35 S35 I29 J30 q35_30 => ?_)
        obtain ⟨rfl, hc35_31, rfl, hf35_32, hr35_33⟩ := q35_30
        replace hF := fe_b2 hF hf35_32
        refine g_st (st' := []) rfl ?_
        have hK35 : (MI (bgI I) I29 ∧ MK (bgJ I J) J30) := ⟨mi_tr (hK7).1 hc35_31.1, mk_tr (hK7).2 hc35_31.2⟩
        refine g_aload_n d_X10_sign_38 rfl ?_
        refine g_getR d_X10_sign_39 fq_RX10_49 rfl rfl ?_
        refine g_iload_n d_X10_sign_42 rfl ?_
        refine g_iaload (N := 7) d_X10_sign_43 rfl kT_7 (by constructor <;> grind) rfl ?_
        exact g_ireturn d_X10_sign_44 rfl rfl rfl rfl ⟨rfl, trivial, (I29 90 what.toNatClampNeg), rfl, hF, hK35⟩
      · skip
        replace hF := fe_pos hF h26
        refine g_ldc (v := -1000000002) d_X10_sign_29 tw_1199 ?_
        exact g_ireturn d_X10_sign_31 rfl rfl rfl rfl ⟨rfl, trivial, (-1000000002 : Int32), rfl, hF, hK7⟩
    · skip
      replace hF := fe_pos hF h15
      refine g_ldcw (v := -1000000001) d_X10_sign_18 tw_1296 ?_
      exact g_ireturn d_X10_sign_21 rfl rfl rfl rfl ⟨rfl, trivial, (-1000000001 : Int32), rfl, hF, hK7⟩
noncomputable def fn_X10_seen (what : Int32) (v_ : Int32) (e : Int32) (I : Iv) (J : Jv) : Int32 × Iv × Jv :=
  b_n3 (fn_X10_isSign what I J) (fun (r6 : Int32) (_ : Iv) (_ : Jv) => if r6 = 0 then ((-1000000001 : Int32), I, J) else b_n3 (fn_X10_in (Int32.toInt64 v_) (-99999 : Int64) (99999 : Int64) I J) (fun (r13 : Int32) (_ : Iv) (_ : Jv) => if r13 = 0 then ((-1000000002 : Int32), I, J) else b_n3 (fn_X10_in (Int32.toInt64 e) (1 : Int64) (999 : Int64) I J) (fun (r20 : Int32) (_ : Iv) (_ : Jv) => if r20 = 0 then ((-1000000002 : Int32), I, J) else l_t (wI I 91 (what.toNatClampNeg) (1 : Int32)) (fun (I22 : Iv) => l_t (wI I22 92 (what.toNatClampNeg) v_) (fun (I23 : Iv) => l_t (wI I23 93 (what.toNatClampNeg) e) (fun (I24 : Iv) => b_n3 (fn_X10_seens I24 J) (fun (r31 : Int32) (_ : Iv) (_ : Jv) => (r31, I24, J))))))))
set_option maxRecDepth 100000 in
set_option maxHeartbeats 4000000 in
theorem ct_X10_seen (what : Int32) (v_ : Int32) (e : Int32) (I : Iv) (J : Jv) (hma : MA I) (hmj : MJ J) : Ct m_X10_seen [.ref 78, .int what, .int v_, .int e] SHF I J (fun r S' I' J' => S' = SHF ∧ True ∧ ∃ v : Int32, r = some (.int v) ∧ fn_X10_seen what v_ e I J = (v, I', J') ∧ (((¬ (0 ≤ what ∧ what ≤ 6) ∧ v = -1000000001 ∧ MI I I') ∨ (0 ≤ what ∧ what ≤ 6 ∧ ¬ (-99999 ≤ v_ ∧ v_ ≤ 99999 ∧ 1 ≤ e ∧ e ≤ 999) ∧ v = -1000000002 ∧ MI I I') ∨ (0 ≤ what ∧ what ≤ 6 ∧ (-99999 ≤ v_ ∧ v_ ≤ 99999 ∧ 1 ≤ e ∧ e ≤ 999) ∧ v = cn (wI I 91 what.toNatClampNeg 1 91) 7 ∧ MI (wI I 91 what.toNatClampNeg 1) I')) ∧ MK J J')) := by
  refine ct_of 0 (by decide +kernel) rfl rfl ?_
  have hK0 : (MI I I ∧ MK J J) := ⟨mi_rfl hma, mk_rfl hmj⟩
  have hF := fe_of (fn_X10_seen.eq_1 what v_ e I J)
  refine g_iload_n d_X10_seen_0 rfl ?_
  refine g_S1 d_X10_seen_1 cs_X10_seen_X10_isSign lk_RX10_323 im_X10_isSign (Nat.le_of_ble_eq_true rfl) ⟨rfl, rfl⟩ ⟨Nat.zero_le _, Nat.zero_le _⟩ (ct_X10_isSign what I J ) (fun r1 S1 Ic2 Jc3 q1_0 => ?_)
  obtain ⟨rfl, rfl, rfl, r6, rfl, hz1, hf1_4, hr1_6⟩ := q1_0
  replace hF := fe_b3 hF hf1_4
  refine g_st (st' := [.int r6]) rfl ?_
  refine g_if_ne d_X10_seen_4 (fun h4 => ?_) (fun h4 => ?_)
  · skip
    replace hF := fe_neg hF h4
    refine g_iload_n d_X10_seen_11 rfl ?_
    refine g_i2l d_X10_seen_12 ?_
    refine g_ldc2 (v := -99999) d_X10_seen_13 tw_1474 ?_
    refine g_ldc2 (v := 99999) d_X10_seen_16 tw_1475 ?_
    refine g_S3 d_X10_seen_19 cs_X10_seen_X10_in lk_RX10_96 im_X10_in (Nat.le_of_ble_eq_true rfl) ⟨rfl, rfl⟩ ⟨Nat.zero_le _, Nat.zero_le _⟩ (ct_X10_inL v_ (-99999 : Int64) (99999 : Int64) (-99999 : Int32) (99999 : Int32) (by decide) (by decide) I J) (fun r19 S19 Ic9 Jc10 q19_7 => ?_)
    obtain ⟨rfl, rfl, rfl, r13, rfl, hz19, hf19_11, hr19_13⟩ := q19_7
    replace hF := fe_b3 hF hf19_11
    refine g_st (st' := [.int r13]) rfl ?_
    refine g_if_eq d_X10_seen_22 (fun h22 => ?_) (fun h22 => ?_)
    · skip
      replace hF := fe_pos hF h22
      refine g_ldc (v := -1000000002) d_X10_seen_37 tw_1199 ?_
      exact g_ireturn d_X10_seen_39 rfl rfl rfl rfl ⟨rfl, trivial, (-1000000002 : Int32), rfl, hF, ⟨Or.inr (Or.inl ⟨by grind, by grind, by grind, rfl, (hK0).1⟩), (hK0).2⟩⟩
    · skip
      replace hF := fe_neg hF h22
      refine g_iload_n d_X10_seen_25 rfl ?_
      refine g_i2l d_X10_seen_26 ?_
      refine g_lconst d_X10_seen_27 kL_1 ?_
      refine g_ldc2 (v := 999) d_X10_seen_28 tw_1476 ?_
      refine g_S3 d_X10_seen_31 cs_X10_seen_X10_in lk_RX10_96 im_X10_in (Nat.le_of_ble_eq_true rfl) ⟨rfl, rfl⟩ ⟨Nat.zero_le _, Nat.zero_le _⟩ (ct_X10_inL e (1 : Int64) (999 : Int64) (1 : Int32) (999 : Int32) (by decide) (by decide) I J) (fun r31 S31 Ic16 Jc17 q31_14 => ?_)
      obtain ⟨rfl, rfl, rfl, r20, rfl, hz31, hf31_18, hr31_20⟩ := q31_14
      replace hF := fe_b3 hF hf31_18
      refine g_st (st' := [.int r20]) rfl ?_
      refine g_if_ne d_X10_seen_34 (fun h34 => ?_) (fun h34 => ?_)
      · skip
        replace hF := fe_neg hF h34
        refine g_aload_n d_X10_seen_40 rfl ?_
        refine g_getR d_X10_seen_41 fq_RX10_52 rfl rfl ?_
        refine g_iload_n d_X10_seen_44 rfl ?_
        refine g_iconst (v := 1) d_X10_seen_45 kI_1 ?_
        refine g_bastore (N := 7) d_X10_seen_46 rfl kT_7 (by constructor <;> grind) rfl (Or.inr rfl) ?_
        refine g_nmI (fun I22 eI22 => ?_)
        replace hF := fe_lt hF eI22
        refine g_aload_n d_X10_seen_47 rfl ?_
        refine g_getR d_X10_seen_48 fq_RX10_55 rfl rfl ?_
        refine g_iload_n d_X10_seen_51 rfl ?_
        refine g_iload_n d_X10_seen_52 rfl ?_
        refine g_iastore (N := 7) d_X10_seen_53 rfl kT_7 (by constructor <;> grind) rfl  ?_
        refine g_nmI (fun I23 eI23 => ?_)
        replace hF := fe_lt hF eI23
        refine g_aload_n d_X10_seen_54 rfl ?_
        refine g_getR d_X10_seen_55 fq_RX10_58 rfl rfl ?_
        refine g_iload_n d_X10_seen_58 rfl ?_
        refine g_iload_n d_X10_seen_59 rfl ?_
        refine g_iastore (N := 7) d_X10_seen_60 rfl kT_7 (by constructor <;> grind) rfl  ?_
        refine g_nmI (fun I24 eI24 => ?_)
        replace hF := fe_lt hF eI24
        have hK25 : (MI (wI I 91 what.toNatClampNeg 1) I24 ∧ MK J J) := (by simp only [eI22, eI23, eI24]; exact ⟨mi_seen (hK0).1 (by constructor <;> grind), (hK0).2⟩)
        refine g_aload_n d_X10_seen_61 rfl ?_
        refine g_V0 d_X10_seen_62 cs_X10_seen_X10_seens lk_RX10_338 im_X10_seens se_X10_seens rfl rfl rfl (Nat.le_of_ble_eq_true rfl) ⟨rfl, rfl⟩ ⟨Nat.zero_le _, Nat.zero_le _⟩ (ct_X10_seens  I24 J ) (fun r62 S62 Ic27 Jc28 q62_25 => ?_)
        obtain ⟨rfl, rfl, rfl, r31, rfl, hf62_29, hr62_31⟩ := q62_25
        replace hF := fe_b3 hF hf62_29
        refine g_st (st' := [.int r31]) rfl ?_
        have hcn := hr62_31
        exact g_ireturn d_X10_seen_65 rfl rfl rfl rfl ⟨rfl, trivial, r31, rfl, hF, ⟨Or.inr (Or.inr ⟨by grind, by grind, by grind, by rw [hcn, mi_r91 (hK25).1], (hK25).1⟩), (hK25).2⟩⟩
      · skip
        replace hF := fe_pos hF h34
        refine g_ldc (v := -1000000002) d_X10_seen_37 tw_1199 ?_
        exact g_ireturn d_X10_seen_39 rfl rfl rfl rfl ⟨rfl, trivial, (-1000000002 : Int32), rfl, hF, ⟨Or.inr (Or.inl ⟨by grind, by grind, by grind, rfl, (hK0).1⟩), (hK0).2⟩⟩
  · skip
    replace hF := fe_pos hF h4
    refine g_ldcw (v := -1000000001) d_X10_seen_7 tw_1296 ?_
    exact g_ireturn d_X10_seen_10 rfl rfl rfl rfl ⟨rfl, trivial, (-1000000001 : Int32), rfl, hF, ⟨Or.inl ⟨by grind, rfl, (hK0).1⟩, (hK0).2⟩⟩
noncomputable def fl_X10_forget_7_0 (J : Jv) (Kf0 : Int32 → Iv → Int32 × Iv × Jv) : Nat → Int32 → Iv → Int32 × Iv × Jv
  | 0, x8, I9 => (0, I9, J)
  | kf0 + 1, x8, I9 => if (7 : Int32) ≤ x8 then Kf0 x8 I9 else l_t (wI I9 91 (x8.toNatClampNeg) (0 : Int32)) (fun (I12 : Iv) => fl_X10_forget_7_0 J Kf0 kf0 (x8 + (1 : Int32)) I12)
noncomputable def fn_X10_forget (I : Iv) (J : Jv) : Int32 × Iv × Jv :=
  b_n3 (fn_X10_seens I J) (fun (r6 : Int32) (_ : Iv) (_ : Jv) => fl_X10_forget_7_0 J (fun (x8 : Int32) (I9 : Iv) => (r6, I9, J)) (mU (7 : Int32) ((0 : Int32)) + 1) (0 : Int32) I)
set_option maxRecDepth 100000 in
set_option maxHeartbeats 4000000 in
theorem ct_X10_forget  (I : Iv) (J : Jv) (hma : MA I) (hmj : MJ J) : Ct m_X10_forget [.ref 78] SHF I J (fun r S' I' J' => S' = SHF ∧ (MI (rI2 I 91 (I' 91)) I' ∧ MK J J') ∧ ∃ v : Int32, r = some (.int v) ∧ fn_X10_forget I J = (v, I', J') ∧ v = cn (I 91) 7 ∧ (∀ k, k < 7 → I' 91 k = 0)) := by
  refine ct_of 2 (by decide +kernel) rfl rfl ?_
  have hK0 : (MI (rI2 I 91 (I 91)) I ∧ MK J J) := ⟨by rw [rI2_own]; exact mi_rfl hma, mk_rfl hmj⟩
  have hF := fe_of (fn_X10_forget.eq_1 I J)
  refine g_aload_n d_X10_forget_0 rfl ?_
  refine g_V0 d_X10_forget_1 cs_X10_forget_X10_seens lk_RX10_338 im_X10_seens se_X10_seens rfl rfl rfl (Nat.le_of_ble_eq_true rfl) ⟨rfl, rfl⟩ ⟨Nat.zero_le _, Nat.zero_le _⟩ (ct_X10_seens  I J ) (fun r1 S1 Ic2 Jc3 q1_0 => ?_)
  obtain ⟨rfl, rfl, rfl, r6, rfl, hf1_4, hr1_6⟩ := q1_0
  replace hF := fe_b3 hF hf1_4
  refine g_st (st' := [.int r6]) rfl ?_
  have hcn := hr1_6
  refine g_istore_n (L' := [some (.ref 78), some (.int r6), none]) d_X10_forget_4 (by decide) rfl ?_
  refine g_iconst (v := 0) d_X10_forget_5 kI_0 ?_
  refine g_istore_n (L' := [some (.ref 78), some (.int r6), some (.int (0 : Int32))]) d_X10_forget_6 (by decide) rfl ?_
  obtain ⟨Kf0, hKf0, hF⟩ := fe_kx (f := fun K => fl_X10_forget_7_0 J K (mU (7 : Int32) ((0 : Int32)) + 1) (0 : Int32) I) hF
  have K_7 : ∀ (nu : Nat) (x8 : Int32) (I9 : Iv), mU (7 : Int32) x8 = nu → ((MI (rI2 I 91 (I9 91)) I9 ∧ MK J J)) → ((0 : Int32) ≤ x8) → (∀ k, k < x8.toNatClampNeg → I9 91 k = 0) → (x8 ≤ 7) → (∃ kq : Nat, nu < kq ∧ (fun kq => FE (fn_X10_forget I J) (fun _ => fl_X10_forget_7_0 J Kf0 kq x8 I9)) kq) → G m_X10_forget (rq m_X10_forget (fun r S' I' J' => S' = SHF ∧ (MI (rI2 I 91 (I' 91)) I' ∧ MK J J') ∧ ∃ v : Int32, r = some (.int v) ∧ fn_X10_forget I J = (v, I', J') ∧ v = cn (I 91) 7 ∧ (∀ k, k < 7 → I' 91 k = 0))) 0 0 7 [some (.ref 78), some (.int r6), some (.int x8)] [] SHF I9 J := by
    intro nu
    induction nu using Nat.strongRecOn with
    | ind nu ih_7 =>
      intro x8 I9 hmu_7 hK10 hl11 hf_7 hi_7 hF_Kf0
      obtain ⟨kf0, hkf0, hF⟩ := fe_fu (P := fun kq => FE (fn_X10_forget I J) (fun _ => fl_X10_forget_7_0 J Kf0 kq x8 I9)) hF_Kf0
      replace hF := fe_eq hF (fl_X10_forget_7_0.eq_2 _ _ _ _ _)
      refine g_iload_n d_X10_forget_7 rfl ?_
      refine g_bipush (v := 7) d_X10_forget_8 kB_7 ?_
      refine g_icmp_ge d_X10_forget_10 (fun h10 => ?_) (fun h10 => ?_)
      · skip
        replace hF := fe_pos hF h10
        replace hF := fe_eq hF (congrFun (congrFun hKf0 x8) I9)
        refine g_iload_n d_X10_forget_26 rfl ?_
        exact g_ireturn d_X10_forget_27 rfl rfl rfl rfl ⟨rfl, hK10, r6, rfl, hF, ⟨hcn, fun k hk => hf_7 k (by rw [show x8 = 7 by grind, kN_7]; exact hk)⟩⟩
      · skip
        replace hF := fe_neg hF h10
        refine g_aload_n d_X10_forget_13 rfl ?_
        refine g_getR d_X10_forget_14 fq_RX10_52 rfl rfl ?_
        refine g_iload_n d_X10_forget_17 rfl ?_
        refine g_iconst (v := 0) d_X10_forget_18 kI_0 ?_
        refine g_bastore (N := 7) d_X10_forget_19 rfl kT_7 ⟨hl11, Int32.not_le.mp h10⟩ rfl (Or.inl rfl) ?_
        refine g_nmI (fun I12 eI12 => ?_)
        replace hF := fe_lt hF eI12
        have hK13 : (MI (rI2 I 91 (I12 91)) I12 ∧ MK J J) := (by rw [eI12]; exact ⟨mi_forg (hK10).1, (hK10).2⟩)
        refine g_iinc (v := (x8 + (1 : Int32))) (L' := [some (.ref 78), some (.int r6), some (.int (x8 + (1 : Int32)))]) d_X10_forget_20 rfl (by rw [kI_1]) (by decide) rfl ?_
        refine g_goto d_X10_forget_23 ?_
        exact ih_7 _ (by rw [← hmu_7]; exact mu_up h10) (x8 + (1 : Int32)) I12 rfl hK13 (lo_up hl11 h10) (by rw [eI12]; exact cn_clr hl11 h10 hf_7) (by grind) ⟨kf0, Nat.lt_of_lt_of_le (by rw [← hmu_7]; exact mu_up h10) hkf0, hF⟩
  exact K_7 _ (0 : Int32) I rfl hK0 (Int32.le_refl _) (fun k hk => absurd hk (by rw [kN_0]; omega)) (by decide) ⟨_, Nat.lt_succ_self _, hF⟩
noncomputable def fn_X10_prior (k : Int32) (p : Int32) (I : Iv) (J : Jv) : Int32 × Iv × Jv :=
  b_n2 (fn_X10_begin I J) (fun (I1 : Iv) (J2 : Jv) => b_n3 (fn_X10_isTrouble k I1 J2) (fun (r13 : Int32) (_ : Iv) (_ : Jv) => if r13 = 0 then ((-1000000001 : Int32), I1, J2) else b_n3 (fn_X10_in (Int32.toInt64 p) (0 : Int64) (1000 : Int64) I1 J2) (fun (r20 : Int32) (_ : Iv) (_ : Jv) => if r20 = 0 then ((-1000000002 : Int32), I1, J2) else l_t ((I1 94 k.toNatClampNeg)) (fun (v22 : Int32) => l_t (wI I1 94 (k.toNatClampNeg) p) (fun (I23 : Iv) => (v22, I23, J2))))))
set_option maxRecDepth 100000 in
set_option maxHeartbeats 4000000 in
theorem ct_X10_prior (k : Int32) (p : Int32) (I : Iv) (J : Jv) (hma : MA I) (hmj : MJ J) : Ct m_X10_prior [.ref 78, .int k, .int p] SHF I J (fun r S' I' J' => S' = SHF ∧ True ∧ ∃ v : Int32, r = some (.int v) ∧ fn_X10_prior k p I J = (v, I', J') ∧ (((¬ (0 ≤ k ∧ k ≤ 6) ∧ v = -1000000001 ∧ MI (bgI I) I') ∨ (0 ≤ k ∧ k ≤ 6 ∧ ¬ (0 ≤ p ∧ p ≤ 1000) ∧ v = -1000000002 ∧ MI (bgI I) I') ∨ (0 ≤ k ∧ k ≤ 6 ∧ 0 ≤ p ∧ p ≤ 1000 ∧ v = (bgI I) 94 k.toNatClampNeg ∧ MI (wI (bgI I) 94 k.toNatClampNeg p) I')) ∧ MK (bgJ I J) J')) := by
  refine ct_of 1 (by decide +kernel) rfl rfl ?_
  have hK0 : (MI I I ∧ MK J J) := ⟨mi_rfl hma, mk_rfl hmj⟩
  have hF := fe_of (fn_X10_prior.eq_1 k p I J)
  refine g_aload_n d_X10_prior_0 rfl ?_
  refine g_V0 d_X10_prior_1 cs_X10_prior_X10_begin lk_RX10_166 im_X10_begin se_X10_begin rfl rfl rfl (Nat.le_of_ble_eq_true rfl) ⟨rfl, rfl⟩ ⟨Nat.zero_le _, Nat.zero_le _⟩ (ct_X10_begin  I J hma hmj) (fun r1 S1 I1 J2 q1_2 => ?_)
  obtain ⟨rfl, hc1_3, rfl, hf1_4, hr1_5⟩ := q1_2
  replace hF := fe_b2 hF hf1_4
  refine g_st (st' := []) rfl ?_
  have hK7 : (MI (bgI I) I1 ∧ MK (bgJ I J) J2) := hr1_5
  have hrow := mi_r94 (hr1_5).1
  refine g_iload_n d_X10_prior_4 rfl ?_
  refine g_S1 d_X10_prior_5 cs_X10_prior_X10_isTrouble lk_RX10_341 im_X10_isTrouble (Nat.le_of_ble_eq_true rfl) ⟨rfl, rfl⟩ ⟨Nat.zero_le _, Nat.zero_le _⟩ (ct_X10_isTrouble k I1 J2 ) (fun r5 S5 Ic9 Jc10 q5_7 => ?_)
  obtain ⟨rfl, rfl, rfl, r13, rfl, hz5, hf5_11, hr5_13⟩ := q5_7
  replace hF := fe_b3 hF hf5_11
  refine g_st (st' := [.int r13]) rfl ?_
  refine g_if_ne d_X10_prior_8 (fun h8 => ?_) (fun h8 => ?_)
  · skip
    replace hF := fe_neg hF h8
    refine g_iload_n d_X10_prior_15 rfl ?_
    refine g_i2l d_X10_prior_16 ?_
    refine g_lconst d_X10_prior_17 kL_0 ?_
    refine g_ldc2 (v := 1000) d_X10_prior_18 tw_1392 ?_
    refine g_S3 d_X10_prior_21 cs_X10_prior_X10_in lk_RX10_96 im_X10_in (Nat.le_of_ble_eq_true rfl) ⟨rfl, rfl⟩ ⟨Nat.zero_le _, Nat.zero_le _⟩ (ct_X10_inL p (0 : Int64) (1000 : Int64) (0 : Int32) (1000 : Int32) (by decide) (by decide) I1 J2) (fun r21 S21 Ic16 Jc17 q21_14 => ?_)
    obtain ⟨rfl, rfl, rfl, r20, rfl, hz21, hf21_18, hr21_20⟩ := q21_14
    replace hF := fe_b3 hF hf21_18
    refine g_st (st' := [.int r20]) rfl ?_
    refine g_if_ne d_X10_prior_24 (fun h24 => ?_) (fun h24 => ?_)
    · skip
      replace hF := fe_neg hF h24
      refine g_aload_n d_X10_prior_30 rfl ?_
      refine g_getR d_X10_prior_31 fq_RX10_61 rfl rfl ?_
      refine g_iload_n d_X10_prior_34 rfl ?_
      refine g_iaload (N := 7) d_X10_prior_35 rfl kT_7 (by constructor <;> grind) rfl ?_
      refine g_topI (fun v22 ev22 => ?_)
      replace hF := fe_lt hF ev22
      refine g_istore_n (L' := [some (.ref 78), some (.int k), some (.int p), some (.int v22)]) d_X10_prior_36 (by decide) rfl ?_
      refine g_aload_n d_X10_prior_37 rfl ?_
      refine g_getR d_X10_prior_38 fq_RX10_61 rfl rfl ?_
      refine g_iload_n d_X10_prior_41 rfl ?_
      refine g_iload_n d_X10_prior_42 rfl ?_
      refine g_iastore (N := 7) d_X10_prior_43 rfl kT_7 (by constructor <;> grind) rfl  ?_
      refine g_nmI (fun I23 eI23 => ?_)
      replace hF := fe_lt hF eI23
      have hK24 : (MI (wI (bgI I) 94 k.toNatClampNeg p) I23 ∧ MK (bgJ I J) J2) := (by rw [eI23]; exact ⟨mi_94 (hK7).1 (by constructor <;> grind), (hK7).2⟩)
      refine g_iload_n d_X10_prior_44 rfl ?_
      exact g_ireturn d_X10_prior_45 rfl rfl rfl rfl ⟨rfl, trivial, v22, rfl, hF, ⟨Or.inr (Or.inr ⟨by grind, by grind, by grind, by grind, by rw [ev22, hrow], (hK24).1⟩), (hK24).2⟩⟩
    · skip
      replace hF := fe_pos hF h24
      refine g_ldc (v := -1000000002) d_X10_prior_27 tw_1199 ?_
      exact g_ireturn d_X10_prior_29 rfl rfl rfl rfl ⟨rfl, trivial, (-1000000002 : Int32), rfl, hF, ⟨Or.inr (Or.inl ⟨by grind, by grind, by grind, rfl, (hK7).1⟩), (hK7).2⟩⟩
  · skip
    replace hF := fe_pos hF h8
    refine g_ldcw (v := -1000000001) d_X10_prior_11 tw_1296 ?_
    exact g_ireturn d_X10_prior_14 rfl rfl rfl rfl ⟨rfl, trivial, (-1000000001 : Int32), rfl, hF, ⟨Or.inl ⟨by grind, rfl, (hK7).1⟩, (hK7).2⟩⟩
noncomputable def fn_X10_bother (what : Int32) (b : Int32) (I : Iv) (J : Jv) : Int32 × Iv × Jv :=
  b_n3 (fn_X10_isSign what I J) (fun (r6 : Int32) (_ : Iv) (_ : Jv) => if r6 = 0 then ((-1000000001 : Int32), I, J) else b_n3 (fn_X10_in (Int32.toInt64 b) (0 : Int64) (999 : Int64) I J) (fun (r13 : Int32) (_ : Iv) (_ : Jv) => if r13 = 0 then ((-1000000002 : Int32), I, J) else l_t ((I 95 what.toNatClampNeg)) (fun (v15 : Int32) => l_t (wI I 95 (what.toNatClampNeg) b) (fun (I16 : Iv) => (v15, I16, J)))))
set_option maxRecDepth 100000 in
set_option maxHeartbeats 4000000 in
theorem ct_X10_bother (what : Int32) (b : Int32) (I : Iv) (J : Jv) (hma : MA I) (hmj : MJ J) : Ct m_X10_bother [.ref 78, .int what, .int b] SHF I J (fun r S' I' J' => S' = SHF ∧ True ∧ ∃ v : Int32, r = some (.int v) ∧ fn_X10_bother what b I J = (v, I', J') ∧ (((¬ (0 ≤ what ∧ what ≤ 6) ∧ v = -1000000001 ∧ MI I I') ∨ (0 ≤ what ∧ what ≤ 6 ∧ ¬ (0 ≤ b ∧ b ≤ 999) ∧ v = -1000000002 ∧ MI I I') ∨ (0 ≤ what ∧ what ≤ 6 ∧ 0 ≤ b ∧ b ≤ 999 ∧ v = I 95 what.toNatClampNeg ∧ MI (wI I 95 what.toNatClampNeg b) I')) ∧ MK J J')) := by
  refine ct_of 1 (by decide +kernel) rfl rfl ?_
  have hK0 : (MI I I ∧ MK J J) := ⟨mi_rfl hma, mk_rfl hmj⟩
  have hF := fe_of (fn_X10_bother.eq_1 what b I J)
  refine g_iload_n d_X10_bother_0 rfl ?_
  refine g_S1 d_X10_bother_1 cs_X10_bother_X10_isSign lk_RX10_323 im_X10_isSign (Nat.le_of_ble_eq_true rfl) ⟨rfl, rfl⟩ ⟨Nat.zero_le _, Nat.zero_le _⟩ (ct_X10_isSign what I J ) (fun r1 S1 Ic2 Jc3 q1_0 => ?_)
  obtain ⟨rfl, rfl, rfl, r6, rfl, hz1, hf1_4, hr1_6⟩ := q1_0
  replace hF := fe_b3 hF hf1_4
  refine g_st (st' := [.int r6]) rfl ?_
  refine g_if_ne d_X10_bother_4 (fun h4 => ?_) (fun h4 => ?_)
  · skip
    replace hF := fe_neg hF h4
    refine g_iload_n d_X10_bother_11 rfl ?_
    refine g_i2l d_X10_bother_12 ?_
    refine g_lconst d_X10_bother_13 kL_0 ?_
    refine g_ldc2 (v := 999) d_X10_bother_14 tw_1476 ?_
    refine g_S3 d_X10_bother_17 cs_X10_bother_X10_in lk_RX10_96 im_X10_in (Nat.le_of_ble_eq_true rfl) ⟨rfl, rfl⟩ ⟨Nat.zero_le _, Nat.zero_le _⟩ (ct_X10_inL b (0 : Int64) (999 : Int64) (0 : Int32) (999 : Int32) (by decide) (by decide) I J) (fun r17 S17 Ic9 Jc10 q17_7 => ?_)
    obtain ⟨rfl, rfl, rfl, r13, rfl, hz17, hf17_11, hr17_13⟩ := q17_7
    replace hF := fe_b3 hF hf17_11
    refine g_st (st' := [.int r13]) rfl ?_
    refine g_if_ne d_X10_bother_20 (fun h20 => ?_) (fun h20 => ?_)
    · skip
      replace hF := fe_neg hF h20
      refine g_aload_n d_X10_bother_26 rfl ?_
      refine g_getR d_X10_bother_27 fq_RX10_64 rfl rfl ?_
      refine g_iload_n d_X10_bother_30 rfl ?_
      refine g_iaload (N := 7) d_X10_bother_31 rfl kT_7 (by constructor <;> grind) rfl ?_
      refine g_topI (fun v15 ev15 => ?_)
      replace hF := fe_lt hF ev15
      refine g_istore_n (L' := [some (.ref 78), some (.int what), some (.int b), some (.int v15)]) d_X10_bother_32 (by decide) rfl ?_
      refine g_aload_n d_X10_bother_33 rfl ?_
      refine g_getR d_X10_bother_34 fq_RX10_64 rfl rfl ?_
      refine g_iload_n d_X10_bother_37 rfl ?_
      refine g_iload_n d_X10_bother_38 rfl ?_
      refine g_iastore (N := 7) d_X10_bother_39 rfl kT_7 (by constructor <;> grind) rfl  ?_
      refine g_nmI (fun I16 eI16 => ?_)
      replace hF := fe_lt hF eI16
      have hK17 : (MI (wI I 95 what.toNatClampNeg b) I16 ∧ MK J J) := (by rw [eI16]; exact ⟨mi_trk (hK0).1 rfl, (hK0).2⟩)
      refine g_iload_n d_X10_bother_40 rfl ?_
      exact g_ireturn d_X10_bother_41 rfl rfl rfl rfl ⟨rfl, trivial, v15, rfl, hF, ⟨Or.inr (Or.inr ⟨by grind, by grind, by grind, by grind, by rw [ev15], (hK17).1⟩), (hK17).2⟩⟩
    · skip
      replace hF := fe_pos hF h20
      refine g_ldc (v := -1000000002) d_X10_bother_23 tw_1199 ?_
      exact g_ireturn d_X10_bother_25 rfl rfl rfl rfl ⟨rfl, trivial, (-1000000002 : Int32), rfl, hF, ⟨Or.inr (Or.inl ⟨by grind, by grind, by grind, rfl, (hK0).1⟩), (hK0).2⟩⟩
  · skip
    replace hF := fe_pos hF h4
    refine g_ldcw (v := -1000000001) d_X10_bother_7 tw_1296 ?_
    exact g_ireturn d_X10_bother_10 rfl rfl rfl rfl ⟨rfl, trivial, (-1000000001 : Int32), rfl, hF, ⟨Or.inl ⟨by grind, rfl, (hK0).1⟩, (hK0).2⟩⟩
noncomputable def fl_X10_weightOf_127_3 (I : Iv) (J : Jv) (v9 : Int32) (Kf3 : Int64 → Int32 → Int64 × Iv × Jv) : Nat → Int64 → Int32 → Int64 × Iv × Jv
  | 0, x10, x11 => (0, I, J)
  | kf3 + 1, x10, x11 => if v9 ≤ x11 then Kf3 x10 x11 else if (20 : Int32) ≤ x11 then Kf3 x10 x11 else l_t ((x10 / (2 : Int64))) (fun (v13 : Int64) => fl_X10_weightOf_127_3 I J v9 Kf3 kf3 v13 (x11 + (1 : Int32)))
noncomputable def fl_X10_weightOf_62_1 (I : Iv) (J : Jv) (set : Int32) (Kf1 : Int64 → Int32 → Int64 × Iv × Jv) : Nat → Int64 → Int32 → Int64 × Iv × Jv
  | 0, x4, x5 => (0, I, J)
  | kf1 + 1, x4, x5 => if (7 : Int32) ≤ x5 then Kf1 x4 x5 else if (I 91 x5.toNatClampNeg) = 0 then fl_X10_weightOf_62_1 I J set Kf1 kf1 x4 (x5 + (1 : Int32)) else l_t (((I 97 ((((7 : Int32) * set) + x5)).toNatClampNeg) - (I 92 x5.toNatClampNeg))) (fun (v7 : Int32) => j_n (fun (w8 : Int32) => l_t ((w8 / (I 93 x5.toNatClampNeg))) (fun (v9 : Int32) => fl_X10_weightOf_127_3 I J v9 (fun (x10 : Int64) (x11 : Int32) => fl_X10_weightOf_62_1 I J set Kf1 kf1 x10 (x5 + (1 : Int32))) (mU v9 ((0 : Int32)) + 1) x4 (0 : Int32))) (fun (j114_2 : Int32 → Int64 × Iv × Jv) => if 0 ≤ v7 then j114_2 v7 else j114_2 ((-v7))))
noncomputable def fl_X10_weightOf_7_0 (I : Iv) (J : Jv) (set : Int32) (Kf0 : Int64 → Int32 → Int64 × Iv × Jv) : Nat → Int64 → Int32 → Int64 × Iv × Jv
  | 0, x1, x2 => (0, I, J)
  | kf0 + 1, x1, x2 => if (7 : Int32) ≤ x2 then Kf0 x1 x2 else b_n3 (fn_X10_has (Int32.toInt64 set) x2 I J) (fun (r19 : Int32) (_ : Iv) (_ : Jv) => j_n (fun (w21 : Int32) => l_t (((x1 * (Int32.toInt64 w21)) / (1000 : Int64))) (fun (v22 : Int64) => fl_X10_weightOf_7_0 I J set Kf0 kf0 v22 (x2 + (1 : Int32)))) (fun (j46_4 : Int32 → Int64 × Iv × Jv) => if r19 = 0 then j46_4 (((1000 : Int32) - (I 94 x2.toNatClampNeg))) else j46_4 ((I 94 x2.toNatClampNeg))))
noncomputable def fn_X10_weightOf (set : Int32) (I : Iv) (J : Jv) : Int64 × Iv × Jv :=
  fl_X10_weightOf_7_0 I J set (fun (x1 : Int64) (x2 : Int32) => fl_X10_weightOf_62_1 I J set (fun (x4 : Int64) (x5 : Int32) => (x4, I, J)) (mU (7 : Int32) ((0 : Int32)) + 1) x1 (0 : Int32)) (mU (7 : Int32) ((0 : Int32)) + 1) (1000000 : Int64) (0 : Int32)
set_option maxRecDepth 100000 in
set_option maxHeartbeats 4000000 in
theorem ct_X10_weightOf (set : Int32) (I : Iv) (J : Jv) (hma : MA I) (hset : 0 ≤ set ∧ set < 128) : Ct m_X10_weightOf [.ref 78, .int set] SHF I J (fun r S' I' J' => S' = SHF ∧ I = I' ∧ J = J' ∧ ∃ v : Int64, r = some (.long v) ∧ fn_X10_weightOf set I J = (v, I', J') ∧ 0 ≤ v ∧ v ≤ 1000000) := by
  refine ct_of 6 (by decide +kernel) rfl rfl ?_
  have hF := fe_of (fn_X10_weightOf.eq_1 set I J)
  refine g_ldc2 (v := 1000000) d_X10_weightOf_0 tw_1514 ?_
  refine g_lstore_n (L' := [some (.ref 78), some (.int set), some (.long (1000000 : Int64)), none, none, none, none, none]) d_X10_weightOf_3 (by decide) rfl ?_
  refine g_iconst (v := 0) d_X10_weightOf_4 kI_0 ?_
  refine g_istore (L' := [some (.ref 78), some (.int set), some (.long (1000000 : Int64)), none, some (.int (0 : Int32)), none, none, none]) d_X10_weightOf_5 (by decide) rfl ?_
  obtain ⟨Kf0, hKf0, hF⟩ := fe_kx (f := fun K => fl_X10_weightOf_7_0 I J set K (mU (7 : Int32) ((0 : Int32)) + 1) (1000000 : Int64) (0 : Int32)) hF
  have K_7 : ∀ (nu : Nat) (x1 : Int64) (x2 : Int32), mU (7 : Int32) x2 = nu → ((0 : Int32) ≤ x2) → (0 ≤ x1 ∧ x1 ≤ 1000000) → (∃ kq : Nat, nu < kq ∧ (fun kq => FE (fn_X10_weightOf set I J) (fun _ => fl_X10_weightOf_7_0 I J set Kf0 kq x1 x2)) kq) → G m_X10_weightOf (rq m_X10_weightOf (fun r S' I' J' => S' = SHF ∧ I = I' ∧ J = J' ∧ ∃ v : Int64, r = some (.long v) ∧ fn_X10_weightOf set I J = (v, I', J') ∧ 0 ≤ v ∧ v ≤ 1000000)) 0 0 7 [some (.ref 78), some (.int set), some (.long x1), none, some (.int x2), none, none, none] [] SHF I J := by
    intro nu
    induction nu using Nat.strongRecOn with
    | ind nu ih_7 =>
      intro x1 x2 hmu_7 hl3 hw_7 hF_Kf0
      obtain ⟨kf0, hkf0, hF⟩ := fe_fu (P := fun kq => FE (fn_X10_weightOf set I J) (fun _ => fl_X10_weightOf_7_0 I J set Kf0 kq x1 x2)) hF_Kf0
      replace hF := fe_eq hF (fl_X10_weightOf_7_0.eq_2 _ _ _ _ _ _ _)
      refine g_iload d_X10_weightOf_7 rfl ?_
      refine g_bipush (v := 7) d_X10_weightOf_9 kB_7 ?_
      refine g_icmp_ge d_X10_weightOf_11 (fun h11 => ?_) (fun h11 => ?_)
      · skip
        replace hF := fe_pos hF h11
        replace hF := fe_eq hF (congrFun (congrFun hKf0 x1) x2)
        refine g_iconst (v := 0) d_X10_weightOf_59 kI_0 ?_
        refine g_istore (L' := [some (.ref 78), some (.int set), some (.long x1), none, some (.int (0 : Int32)), none, none, none]) d_X10_weightOf_60 (by decide) rfl ?_
        obtain ⟨Kf1, hKf1, hF⟩ := fe_kx (f := fun K => fl_X10_weightOf_62_1 I J set K (mU (7 : Int32) ((0 : Int32)) + 1) x1 (0 : Int32)) hF
        have K_62 : ∀ (nu : Nat) (x4 : Int64) (x5 : Int32), mU (7 : Int32) x5 = nu → ((0 : Int32) ≤ x5) → (0 ≤ x4 ∧ x4 ≤ 1000000) → (∃ kq : Nat, nu < kq ∧ (fun kq => FE (fn_X10_weightOf set I J) (fun _ => fl_X10_weightOf_62_1 I J set Kf1 kq x4 x5)) kq) → G m_X10_weightOf (rq m_X10_weightOf (fun r S' I' J' => S' = SHF ∧ I = I' ∧ J = J' ∧ ∃ v : Int64, r = some (.long v) ∧ fn_X10_weightOf set I J = (v, I', J') ∧ 0 ≤ v ∧ v ≤ 1000000)) 0 0 62 [some (.ref 78), some (.int set), some (.long x4), none, some (.int x5), none, none, none] [] SHF I J := by
          intro nu
          induction nu using Nat.strongRecOn with
          | ind nu ih_62 =>
            intro x4 x5 hmu_62 hl6 hw_62 hF_Kf1
            obtain ⟨kf1, hkf1, hF⟩ := fe_fu (P := fun kq => FE (fn_X10_weightOf set I J) (fun _ => fl_X10_weightOf_62_1 I J set Kf1 kq x4 x5)) hF_Kf1
            replace hF := fe_eq hF (fl_X10_weightOf_62_1.eq_2 _ _ _ _ _ _ _)
            refine g_iload d_X10_weightOf_62 rfl ?_
            refine g_bipush (v := 7) d_X10_weightOf_64 kB_7 ?_
            refine g_icmp_ge d_X10_weightOf_66 (fun h66 => ?_) (fun h66 => ?_)
            · skip
              replace hF := fe_pos hF h66
              replace hF := fe_eq hF (congrFun (congrFun hKf1 x4) x5)
              refine g_lload_n d_X10_weightOf_159 rfl ?_
              exact g_lreturn d_X10_weightOf_160 rfl rfl rfl ⟨rfl, rfl, rfl, x4, rfl, hF, hw_62⟩
            · skip
              replace hF := fe_neg hF h66
              refine g_aload_n d_X10_weightOf_69 rfl ?_
              refine g_getR d_X10_weightOf_70 fq_RX10_52 rfl rfl ?_
              refine g_iload d_X10_weightOf_73 rfl ?_
              refine g_baload (N := 7) d_X10_weightOf_75 rfl kT_7 ⟨hl6, Int32.not_le.mp h66⟩ rfl (fun hz75 => ?_)
              refine g_if_eq d_X10_weightOf_76 (fun h76 => ?_) (fun h76 => ?_)
              · skip
                replace hF := fe_pos hF h76
                refine g_iinc (v := (x5 + (1 : Int32))) (L' := [some (.ref 78), some (.int set), some (.long x4), none, some (.int (x5 + (1 : Int32))), none, none, none]) d_X10_weightOf_153 rfl (by rw [kI_1]) (by decide) rfl ?_
                refine g_goto d_X10_weightOf_156 ?_
                exact ih_62 _ (by rw [← hmu_62]; exact mu_up h66) x4 (x5 + (1 : Int32)) rfl (lo_up hl6 h66) (by assumption) ⟨kf1, Nat.lt_of_lt_of_le (by rw [← hmu_62]; exact mu_up h66) hkf1, hF⟩
              · skip
                replace hF := fe_neg hF h76
                refine g_aload_n d_X10_weightOf_79 rfl ?_
                refine g_getR d_X10_weightOf_80 fq_RX10_70 rfl rfl ?_
                refine g_bipush (v := 7) d_X10_weightOf_83 kB_7 ?_
                refine g_iload_n d_X10_weightOf_85 rfl ?_
                refine g_imul d_X10_weightOf_86 ?_
                refine g_iload d_X10_weightOf_87 rfl ?_
                refine g_iadd d_X10_weightOf_89 ?_
                refine g_iaload (N := 896) d_X10_weightOf_90 rfl kT_896 (by constructor <;> grind) rfl ?_
                refine g_aload_n d_X10_weightOf_91 rfl ?_
                refine g_getR d_X10_weightOf_92 fq_RX10_55 rfl rfl ?_
                refine g_iload d_X10_weightOf_95 rfl ?_
                refine g_iaload (N := 7) d_X10_weightOf_97 rfl kT_7 ⟨hl6, Int32.not_le.mp h66⟩ rfl ?_
                refine g_isub d_X10_weightOf_98 ?_
                refine g_topI (fun v7 ev7 => ?_)
                replace hF := fe_lt hF ev7
                refine g_istore (L' := [some (.ref 78), some (.int set), some (.long x4), none, some (.int x5), some (.int v7), none, none]) d_X10_weightOf_99 (by decide) rfl ?_
                refine g_iload d_X10_weightOf_101 rfl ?_
                obtain ⟨j114_2, hj114_2, hF⟩ := fe_jx hF
                have J_114 : ∀ (w8 : Int32), (FE (fn_X10_weightOf set I J) (fun _ => j114_2 w8)) → G m_X10_weightOf (rq m_X10_weightOf (fun r S' I' J' => S' = SHF ∧ I = I' ∧ J = J' ∧ ∃ v : Int64, r = some (.long v) ∧ fn_X10_weightOf set I J = (v, I', J') ∧ 0 ≤ v ∧ v ≤ 1000000)) 0 0 114 [some (.ref 78), some (.int set), some (.long x4), none, some (.int x5), some (.int v7), none, none] [.int w8] SHF I J := by
                  intro w8 hF_j114_2
                  have hF := fe_eq hF_j114_2 (congrFun hj114_2 w8)
                  have hse := ma_seen hma (x := x5) (by grind) (by grind) h76
                  refine g_aload_n d_X10_weightOf_114 rfl ?_
                  refine g_getR d_X10_weightOf_115 fq_RX10_58 rfl rfl ?_
                  refine g_iload d_X10_weightOf_118 rfl ?_
                  refine g_iaload (N := 7) d_X10_weightOf_120 rfl kT_7 ⟨hl6, Int32.not_le.mp h66⟩ rfl ?_
                  refine g_idiv d_X10_weightOf_121 (by grind) ?_
                  refine g_topI (fun v9 ev9 => ?_)
                  replace hF := fe_lt hF ev9
                  refine g_istore (L' := [some (.ref 78), some (.int set), some (.long x4), none, some (.int x5), some (.int v7), some (.int v9), none]) d_X10_weightOf_122 (by decide) rfl ?_
                  refine g_iconst (v := 0) d_X10_weightOf_124 kI_0 ?_
                  refine g_istore (L' := [some (.ref 78), some (.int set), some (.long x4), none, some (.int x5), some (.int v7), some (.int v9), some (.int (0 : Int32))]) d_X10_weightOf_125 (by decide) rfl ?_
                  obtain ⟨Kf3, hKf3, hF⟩ := fe_kx (f := fun K => fl_X10_weightOf_127_3 I J v9 K (mU v9 ((0 : Int32)) + 1) x4 (0 : Int32)) hF
                  have K_127 : ∀ (nu : Nat) (x10 : Int64) (x11 : Int32), mU v9 x11 = nu → ((0 : Int32) ≤ x11) → (0 ≤ x10 ∧ x10 ≤ 1000000) → (∃ kq : Nat, nu < kq ∧ (fun kq => FE (fn_X10_weightOf set I J) (fun _ => fl_X10_weightOf_127_3 I J v9 Kf3 kq x10 x11)) kq) → G m_X10_weightOf (rq m_X10_weightOf (fun r S' I' J' => S' = SHF ∧ I = I' ∧ J = J' ∧ ∃ v : Int64, r = some (.long v) ∧ fn_X10_weightOf set I J = (v, I', J') ∧ 0 ≤ v ∧ v ≤ 1000000)) 0 0 127 [some (.ref 78), some (.int set), some (.long x10), none, some (.int x5), some (.int v7), some (.int v9), some (.int x11)] [] SHF I J := by
                    intro nu
                    induction nu using Nat.strongRecOn with
                    | ind nu ih_127 =>
                      intro x10 x11 hmu_127 hl12 hw_127 hF_Kf3
                      obtain ⟨kf3, hkf3, hF⟩ := fe_fu (P := fun kq => FE (fn_X10_weightOf set I J) (fun _ => fl_X10_weightOf_127_3 I J v9 Kf3 kq x10 x11)) hF_Kf3
                      replace hF := fe_eq hF (fl_X10_weightOf_127_3.eq_2 _ _ _ _ _ _ _)
                      refine g_iload d_X10_weightOf_127 rfl ?_
                      refine g_iload d_X10_weightOf_129 rfl ?_
                      refine g_icmp_ge d_X10_weightOf_131 (fun h131 => ?_) (fun h131 => ?_)
                      · skip
                        replace hF := fe_pos hF h131
                        replace hF := fe_eq hF (congrFun (congrFun hKf3 x10) x11)
                        refine g_iinc (v := (x5 + (1 : Int32))) (L' := [some (.ref 78), some (.int set), some (.long x10), none, some (.int (x5 + (1 : Int32))), some (.int v7), some (.int v9), some (.int x11)]) d_X10_weightOf_153 rfl (by rw [kI_1]) (by decide) rfl ?_
                        refine g_goto d_X10_weightOf_156 ?_
                        refine g_sb [some (.ref 78), some (.int set), some (.long x10), none, some (.int (x5 + (1 : Int32))), none, none, none] (by simp [subL]) ?_
                        exact ih_62 _ (by rw [← hmu_62]; exact mu_up h66) x10 (x5 + (1 : Int32)) rfl (lo_up hl6 h66) (by assumption) ⟨kf1, Nat.lt_of_lt_of_le (by rw [← hmu_62]; exact mu_up h66) hkf1, hF⟩
                      · skip
                        replace hF := fe_neg hF h131
                        refine g_iload d_X10_weightOf_134 rfl ?_
                        refine g_bipush (v := 20) d_X10_weightOf_136 kB_20 ?_
                        refine g_icmp_ge d_X10_weightOf_138 (fun h138 => ?_) (fun h138 => ?_)
                        · skip
                          replace hF := fe_pos hF h138
                          replace hF := fe_eq hF (congrFun (congrFun hKf3 x10) x11)
                          refine g_iinc (v := (x5 + (1 : Int32))) (L' := [some (.ref 78), some (.int set), some (.long x10), none, some (.int (x5 + (1 : Int32))), some (.int v7), some (.int v9), some (.int x11)]) d_X10_weightOf_153 rfl (by rw [kI_1]) (by decide) rfl ?_
                          refine g_goto d_X10_weightOf_156 ?_
                          refine g_sb [some (.ref 78), some (.int set), some (.long x10), none, some (.int (x5 + (1 : Int32))), none, none, none] (by simp [subL]) ?_
                          exact ih_62 _ (by rw [← hmu_62]; exact mu_up h66) x10 (x5 + (1 : Int32)) rfl (lo_up hl6 h66) (by assumption) ⟨kf1, Nat.lt_of_lt_of_le (by rw [← hmu_62]; exact mu_up h66) hkf1, hF⟩
                        · skip
                          replace hF := fe_neg hF h138
                          refine g_lload_n d_X10_weightOf_141 rfl ?_
                          refine g_ldc2 (v := 2) d_X10_weightOf_142 tw_1319 ?_
                          refine g_ldiv d_X10_weightOf_145 (by decide) ?_
                          refine g_topJ (fun v13 ev13 => ?_)
                          replace hF := fe_lt hF ev13
                          refine g_lstore_n (L' := [some (.ref 78), some (.int set), some (.long v13), none, some (.int x5), some (.int v7), some (.int v9), some (.int x11)]) d_X10_weightOf_146 (by decide) rfl ?_
                          refine g_iinc (v := (x11 + (1 : Int32))) (L' := [some (.ref 78), some (.int set), some (.long v13), none, some (.int x5), some (.int v7), some (.int v9), some (.int (x11 + (1 : Int32)))]) d_X10_weightOf_147 rfl (by rw [kI_1]) (by decide) rfl ?_
                          refine g_goto d_X10_weightOf_150 ?_
                          exact ih_127 _ (by rw [← hmu_127]; exact mu_up h131) v13 (x11 + (1 : Int32)) rfl (lo_up hl12 h131) (by rw [ev13]; exact half_bd hw_127) ⟨kf3, Nat.lt_of_lt_of_le (by rw [← hmu_127]; exact mu_up h131) hkf3, hF⟩
                  exact K_127 _ x4 (0 : Int32) rfl (Int32.le_refl _) hw_62 ⟨_, Nat.lt_succ_self _, hF⟩
                refine g_if_ge d_X10_weightOf_103 (fun h103 => ?_) (fun h103 => ?_)
                · skip
                  replace hF := fe_pos hF h103
                  refine g_iload d_X10_weightOf_112 rfl ?_
                  exact J_114 v7 hF
                · skip
                  replace hF := fe_neg hF h103
                  refine g_iload d_X10_weightOf_106 rfl ?_
                  refine g_ineg d_X10_weightOf_108 ?_
                  refine g_goto d_X10_weightOf_109 ?_
                  exact J_114 ((-v7)) hF
        exact K_62 _ x1 (0 : Int32) rfl (Int32.le_refl _) hw_7 ⟨_, Nat.lt_succ_self _, hF⟩
      · skip
        replace hF := fe_neg hF h11
        refine g_lload_n d_X10_weightOf_14 rfl ?_
        refine g_iload_n d_X10_weightOf_15 rfl ?_
        refine g_i2l d_X10_weightOf_16 ?_
        refine g_iload d_X10_weightOf_17 rfl ?_
        refine g_S2 d_X10_weightOf_19 cs_X10_weightOf_X10_has lk_RX10_149 im_X10_has (Nat.le_of_ble_eq_true rfl) ⟨rfl, rfl⟩ ⟨Nat.zero_le _, Nat.zero_le _⟩ (ct_X10_has (Int32.toInt64 set) x2 I J ) (fun r19 S19 Ic15 Jc16 q19_13 => ?_)
        obtain ⟨rfl, rfl, rfl, r19, rfl, hz19, hf19_17⟩ := q19_13
        replace hF := fe_b3 hF hf19_17
        refine g_st (st' := [.int r19, .long x1]) rfl ?_
        obtain ⟨j46_4, hj46_4, hF⟩ := fe_jx hF
        have J_46 : ∀ (w21 : Int32), (0 ≤ w21 ∧ w21 ≤ 1000) → (FE (fn_X10_weightOf set I J) (fun _ => j46_4 w21)) → G m_X10_weightOf (rq m_X10_weightOf (fun r S' I' J' => S' = SHF ∧ I = I' ∧ J = J' ∧ ∃ v : Int64, r = some (.long v) ∧ fn_X10_weightOf set I J = (v, I', J') ∧ 0 ≤ v ∧ v ≤ 1000000)) 0 0 46 [some (.ref 78), some (.int set), some (.long x1), none, some (.int x2), none, none, none] [.int w21, .long x1] SHF I J := by
          intro w21 hp_46 hF_j46_4
          have hF := fe_eq hF_j46_4 (congrFun hj46_4 w21)
          refine g_i2l d_X10_weightOf_46 ?_
          refine g_lmul d_X10_weightOf_47 ?_
          refine g_ldc2 (v := 1000) d_X10_weightOf_48 tw_1392 ?_
          refine g_ldiv d_X10_weightOf_51 (by decide) ?_
          refine g_topJ (fun v22 ev22 => ?_)
          replace hF := fe_lt hF ev22
          refine g_lstore_n (L' := [some (.ref 78), some (.int set), some (.long v22), none, some (.int x2), none, none, none]) d_X10_weightOf_52 (by decide) rfl ?_
          have hw2 : 0 ≤ v22 ∧ v22 ≤ 1000000 := by rw [ev22]; exact wstep hw_7.1 hw_7.2 hp_46.1 hp_46.2
          refine g_iinc (v := (x2 + (1 : Int32))) (L' := [some (.ref 78), some (.int set), some (.long v22), none, some (.int (x2 + (1 : Int32))), none, none, none]) d_X10_weightOf_53 rfl (by rw [kI_1]) (by decide) rfl ?_
          refine g_goto d_X10_weightOf_56 ?_
          exact ih_7 _ (by rw [← hmu_7]; exact mu_up h11) v22 (x2 + (1 : Int32)) rfl (lo_up hl3 h11) hw2 ⟨kf0, Nat.lt_of_lt_of_le (by rw [← hmu_7]; exact mu_up h11) hkf0, hF⟩
        refine g_if_eq d_X10_weightOf_22 (fun h22 => ?_) (fun h22 => ?_)
        · skip
          replace hF := fe_pos hF h22
          refine g_sipush (v := 1000) d_X10_weightOf_35 kS_1000 ?_
          refine g_aload_n d_X10_weightOf_38 rfl ?_
          refine g_getR d_X10_weightOf_39 fq_RX10_61 rfl rfl ?_
          refine g_iload d_X10_weightOf_42 rfl ?_
          refine g_iaload (N := 7) d_X10_weightOf_44 rfl kT_7 ⟨hl3, Int32.not_le.mp h11⟩ rfl ?_
          refine g_isub d_X10_weightOf_45 ?_
          exact J_46 (((1000 : Int32) - (I 94 x2.toNatClampNeg))) (by have hq := ma_pri hma (x := x2) (by grind) (by grind); constructor <;> grind) hF
        · skip
          replace hF := fe_neg hF h22
          refine g_aload_n d_X10_weightOf_25 rfl ?_
          refine g_getR d_X10_weightOf_26 fq_RX10_61 rfl rfl ?_
          refine g_iload d_X10_weightOf_29 rfl ?_
          refine g_iaload (N := 7) d_X10_weightOf_31 rfl kT_7 ⟨hl3, Int32.not_le.mp h11⟩ rfl ?_
          refine g_goto d_X10_weightOf_32 ?_
          exact J_46 ((I 94 x2.toNatClampNeg)) (by have hq := ma_pri hma (x := x2) (by grind) (by grind); constructor <;> grind) hF
  exact K_7 _ (1000000 : Int64) (0 : Int32) rfl (Int32.le_refl _) (by decide) ⟨_, Nat.lt_succ_self _, hF⟩
noncomputable def fl_X10_weigh_36_1 (x3 : Int32) (J18 : Jv) (Kf1 : Int32 → Iv → Iv × Jv) : Nat → Int32 → Iv → Iv × Jv
  | 0, x24, I25 => (I25, J18)
  | kf1 + 1, x24, I25 => if (7 : Int32) ≤ x24 then Kf1 x24 I25 else l_t (wI I25 97 (((((7 : Int32) * x3) + x24)).toNatClampNeg) (I25 90 x24.toNatClampNeg)) (fun (I39 : Iv) => fl_X10_weigh_36_1 x3 J18 Kf1 kf1 (x24 + (1 : Int32)) I39)
noncomputable def fl_X10_weigh_7_0 (n : Int32) (Kf0 : Int32 → Iv → Jv → Iv × Jv) : Nat → Int32 → Iv → Jv → Iv × Jv
  | 0, x3, I4, J5 => (I4, J5)
  | kf0 + 1, x3, I4, J5 => if (128 : Int32) ≤ x3 then Kf0 x3 I4 J5 else l_t (wJ J5 96 (x3.toNatClampNeg) (0 : Int64)) (fun (J8 : Jv) => b_n3 (fn_X10_couldBe x3 I4 J8) (fun (r15 : Int32) (_ : Iv) (_ : Jv) => if r15 = 0 then fl_X10_weigh_7_0 n Kf0 kf0 (x3 + (1 : Int32)) I4 J8 else b_n2 (fn_X10_findSigns x3 n I4 J8) (fun (I17 : Iv) (J18 : Jv) => fl_X10_weigh_36_1 x3 J18 (fun (x24 : Int32) (I25 : Iv) => b_n3 (fn_X10_weightOf x3 I25 J18) (fun (r33 : Int64) (_ : Iv) (_ : Jv) => l_t (wJ J18 96 (x3.toNatClampNeg) r33) (fun (J35 : Jv) => l_t (wJ J35 78 28 ((J35 78 28) + (J35 96 x3.toNatClampNeg))) (fun (J37 : Jv) => fl_X10_weigh_7_0 n Kf0 kf0 (x3 + (1 : Int32)) I25 J37)))) (mU (7 : Int32) ((0 : Int32)) + 1) (0 : Int32) I17)))
noncomputable def fn_X10_weigh (n : Int32) (I : Iv) (J : Jv) : Iv × Jv :=
  l_t (wJ J 78 28 (0 : Int64)) (fun (J1 : Jv) => fl_X10_weigh_7_0 n (fun (x3 : Int32) (I4 : Iv) (J5 : Jv) => (I4, J5)) (mU (128 : Int32) ((0 : Int32)) + 1) (0 : Int32) I J1)
set_option maxRecDepth 100000 in
set_option maxHeartbeats 4000000 in
theorem ct_X10_weigh (n : Int32) (I : Iv) (J : Jv) (hma : MA I) (hmj : MJ J) (hn6 : 1 ≤ n ∧ n ≤ 6) : Ct m_X10_weigh [.ref 78, .int n] SHF I J (fun r S' I' J' => S' = SHF ∧ (MI I I' ∧ MK J J') ∧ r = none ∧ fn_X10_weigh n I J = (I', J') ∧ 0 ≤ J' 78 28 ∧ J' 78 28 ≤ 128000000) := by
  refine ct_of 2 (by decide +kernel) rfl rfl ?_
  have hK0 : (MI I I ∧ MK J J) := ⟨mi_rfl hma, mk_rfl hmj⟩
  have hF := fe_of (fn_X10_weigh.eq_1 n I J)
  refine g_aload_n d_X10_weigh_0 rfl ?_
  refine g_lconst d_X10_weigh_1 kL_0 ?_
  refine g_putJ d_X10_weigh_2 fq_RX10_349 rfl rfl ?_
  refine g_nmJ (fun J1 eJ1 => ?_)
  replace hF := fe_lt hF eJ1
  have hK2 : (MI I I ∧ MK J J1) := (by rw [eJ1]; exact ⟨(hK0).1, mj_row (hK0).2 (by decide)⟩)
  have hz2 : J1 78 28 = 0 := by rw [eJ1, wJ_self]
  refine g_iconst (v := 0) d_X10_weigh_5 kI_0 ?_
  refine g_istore_n (L' := [some (.ref 78), some (.int n), some (.int (0 : Int32)), none]) d_X10_weigh_6 (by decide) rfl ?_
  obtain ⟨Kf0, hKf0, hF⟩ := fe_kx (f := fun K => fl_X10_weigh_7_0 n K (mU (128 : Int32) ((0 : Int32)) + 1) (0 : Int32) I J1) hF
  have K_7 : ∀ (nu : Nat) (x3 : Int32) (I4 : Iv) (J5 : Jv), mU (128 : Int32) x3 = nu → ((MI I I4 ∧ MK J J5)) → ((0 : Int32) ≤ x3) → (0 ≤ (J5 78 28).toInt ∧ (J5 78 28).toInt ≤ (x3).toInt * 1000000) → (x3 ≤ 128) → (∃ kq : Nat, nu < kq ∧ (fun kq => FE (fn_X10_weigh n I J) (fun _ => fl_X10_weigh_7_0 n Kf0 kq x3 I4 J5)) kq) → G m_X10_weigh (rq m_X10_weigh (fun r S' I' J' => S' = SHF ∧ (MI I I' ∧ MK J J') ∧ r = none ∧ fn_X10_weigh n I J = (I', J') ∧ 0 ≤ J' 78 28 ∧ J' 78 28 ≤ 128000000)) 0 0 7 [some (.ref 78), some (.int n), some (.int x3), none] [] SHF I4 J5 := by
    intro nu
    induction nu using Nat.strongRecOn with
    | ind nu ih_7 =>
      intro x3 I4 J5 hmu_7 hK6 hl7 ha_7 hi_7 hF_Kf0
      obtain ⟨kf0, hkf0, hF⟩ := fe_fu (P := fun kq => FE (fn_X10_weigh n I J) (fun _ => fl_X10_weigh_7_0 n Kf0 kq x3 I4 J5)) hF_Kf0
      replace hF := fe_eq hF (fl_X10_weigh_7_0.eq_2 _ _ _ _ _ _)
      refine g_iload_n d_X10_weigh_7 rfl ?_
      refine g_sipush (v := 128) d_X10_weigh_8 kS_128 ?_
      refine g_icmp_ge d_X10_weigh_11 (fun h11 => ?_) (fun h11 => ?_)
      · skip
        replace hF := fe_pos hF h11
        replace hF := fe_eq hF (congrFun (congrFun (congrFun hKf0 x3) I4) J5)
        exact g_return d_X10_weigh_97 rfl rfl rfl ⟨rfl, hK6, rfl, hF, (wl_end ha_7 hi_7)⟩
      · skip
        replace hF := fe_neg hF h11
        refine g_aload_n d_X10_weigh_14 rfl ?_
        refine g_getR d_X10_weigh_15 fq_RX10_67 rfl rfl ?_
        refine g_iload_n d_X10_weigh_18 rfl ?_
        refine g_lconst d_X10_weigh_19 kL_0 ?_
        refine g_lastore (N := 128) d_X10_weigh_20 rfl kT_128 ⟨hl7, Int32.not_le.mp h11⟩ rfl  ?_
        refine g_nmJ (fun J8 eJ8 => ?_)
        replace hF := fe_lt hF eJ8
        have hK9 : (MI I I4 ∧ MK J J8) := (by rw [eJ8]; exact ⟨(hK6).1, mj_row (hK6).2 (by decide)⟩)
        have hs19 : J8 78 28 = J5 78 28 := by rw [eJ8, wJ_row (by decide)]
        refine g_iload_n d_X10_weigh_21 rfl ?_
        refine g_S1 d_X10_weigh_22 cs_X10_weigh_X10_couldBe lk_RX10_353 im_X10_couldBe (Nat.le_of_ble_eq_true rfl) ⟨rfl, rfl⟩ ⟨Nat.zero_le _, Nat.zero_le _⟩ (ct_X10_couldBe x3 I4 J8 ) (fun r22 S22 Ic11 Jc12 q22_9 => ?_)
        obtain ⟨rfl, rfl, rfl, r15, rfl, hz22, hf22_13⟩ := q22_9
        replace hF := fe_b3 hF hf22_13
        refine g_st (st' := [.int r15]) rfl ?_
        refine g_if_eq d_X10_weigh_25 (fun h25 => ?_) (fun h25 => ?_)
        · skip
          replace hF := fe_pos hF h25
          refine g_iinc (v := (x3 + (1 : Int32))) (L' := [some (.ref 78), some (.int n), some (.int (x3 + (1 : Int32))), none]) d_X10_weigh_91 rfl (by rw [kI_1]) (by decide) rfl ?_
          refine g_goto d_X10_weigh_94 ?_
          exact ih_7 _ (by rw [← hmu_7]; exact mu_up h11) (x3 + (1 : Int32)) I4 J8 rfl hK9 (lo_up hl7 h11) (by first | exact ha88 | (rw [hs19]; exact wl_skip ha_7 h11)) (by grind) ⟨kf0, Nat.lt_of_lt_of_le (by rw [← hmu_7]; exact mu_up h11) hkf0, hF⟩
        · skip
          replace hF := fe_neg hF h25
          refine g_aload_n d_X10_weigh_28 rfl ?_
          refine g_iload_n d_X10_weigh_29 rfl ?_
          refine g_iload_n d_X10_weigh_30 rfl ?_
          refine g_V2 d_X10_weigh_31 cs_X10_weigh_X10_findSigns lk_RX10_329 im_X10_findSigns se_X10_findSigns rfl rfl rfl (Nat.le_of_ble_eq_true rfl) ⟨rfl, rfl⟩ ⟨Nat.zero_le _, Nat.zero_le _⟩ (ct_X10_findSigns x3 n I4 J8 (hK9).1.2 (hK9).2.2 hn6) (fun r31 S31 I17 J18 q31_18 => ?_)
          obtain ⟨rfl, hc31_19, rfl, hf31_20, hr31_21⟩ := q31_18
          replace hF := fe_b2 hF hf31_20
          refine g_st (st' := []) rfl ?_
          have hK23 : (MI I I17 ∧ MK J J18) := ⟨mi_tr (hK9).1 hc31_19.1, mk_tr (hK9).2 hc31_19.2⟩
          have hs31 : J18 78 28 = J8 78 28 := by rw [hr31_21 78 (by decide) (by decide)]
          refine g_iconst (v := 0) d_X10_weigh_34 kI_0 ?_
          refine g_istore_n (L' := [some (.ref 78), some (.int n), some (.int x3), some (.int (0 : Int32))]) d_X10_weigh_35 (by decide) rfl ?_
          obtain ⟨Kf1, hKf1, hF⟩ := fe_kx (f := fun K => fl_X10_weigh_36_1 x3 J18 K (mU (7 : Int32) ((0 : Int32)) + 1) (0 : Int32) I17) hF
          have K_36 : ∀ (nu : Nat) (x24 : Int32) (I25 : Iv), mU (7 : Int32) x24 = nu → ((MI I I25 ∧ MK J J18)) → ((0 : Int32) ≤ x24) → (∃ kq : Nat, nu < kq ∧ (fun kq => FE (fn_X10_weigh n I J) (fun _ => fl_X10_weigh_36_1 x3 J18 Kf1 kq x24 I25)) kq) → G m_X10_weigh (rq m_X10_weigh (fun r S' I' J' => S' = SHF ∧ (MI I I' ∧ MK J J') ∧ r = none ∧ fn_X10_weigh n I J = (I', J') ∧ 0 ≤ J' 78 28 ∧ J' 78 28 ≤ 128000000)) 0 0 36 [some (.ref 78), some (.int n), some (.int x3), some (.int x24)] [] SHF I25 J18 := by
            intro nu
            induction nu using Nat.strongRecOn with
            | ind nu ih_36 =>
              intro x24 I25 hmu_36 hK26 hl27 hF_Kf1
              obtain ⟨kf1, hkf1, hF⟩ := fe_fu (P := fun kq => FE (fn_X10_weigh n I J) (fun _ => fl_X10_weigh_36_1 x3 J18 Kf1 kq x24 I25)) hF_Kf1
              replace hF := fe_eq hF (fl_X10_weigh_36_1.eq_2 _ _ _ _ _ _)
              refine g_iload_n d_X10_weigh_36 rfl ?_
              refine g_bipush (v := 7) d_X10_weigh_37 kB_7 ?_
              refine g_icmp_ge d_X10_weigh_39 (fun h39 => ?_) (fun h39 => ?_)
              · skip
                replace hF := fe_pos hF h39
                replace hF := fe_eq hF (congrFun (congrFun hKf1 x24) I25)
                refine g_aload_n d_X10_weigh_65 rfl ?_
                refine g_getR d_X10_weigh_66 fq_RX10_67 rfl rfl ?_
                refine g_iload_n d_X10_weigh_69 rfl ?_
                refine g_aload_n d_X10_weigh_70 rfl ?_
                refine g_iload_n d_X10_weigh_71 rfl ?_
                refine g_V1 d_X10_weigh_72 cs_X10_weigh_X10_weightOf lk_RX10_356 im_X10_weightOf se_X10_weightOf rfl rfl rfl (Nat.le_of_ble_eq_true rfl) ⟨rfl, rfl⟩ ⟨Nat.zero_le _, Nat.zero_le _⟩ (ct_X10_weightOf x3 I25 J18 (hK26).1.2 (by grind)) (fun r72 S72 Ic29 Jc30 q72_27 => ?_)
                obtain ⟨rfl, rfl, rfl, r33, rfl, hf72_31, hr72_33⟩ := q72_27
                replace hF := fe_b3 hF hf72_31
                refine g_st (st' := [.long r33, .int x3, .ref 96]) rfl ?_
                refine g_lastore (N := 128) d_X10_weigh_75 rfl kT_128 ⟨hl7, Int32.not_le.mp h11⟩ rfl  ?_
                refine g_nmJ (fun J35 eJ35 => ?_)
                replace hF := fe_lt hF eJ35
                have hK36 : (MI I I25 ∧ MK J J35) := (by rw [eJ35]; exact ⟨(hK26).1, mj_row (hK26).2 (by decide)⟩)
                have hw75 : 0 ≤ J35 96 x3.toNatClampNeg ∧ J35 96 x3.toNatClampNeg ≤ 1000000 := by rw [eJ35, wJ_self]; exact hr72_33
                have hs75 : J35 78 28 = J18 78 28 := by rw [eJ35, wJ_row (by decide)]
                refine g_aload_n d_X10_weigh_76 rfl ?_
                refine g_dup d_X10_weigh_77 rfl ?_
                refine g_getJ d_X10_weigh_78 fq_RX10_349 rfl rfl ?_
                refine g_aload_n d_X10_weigh_81 rfl ?_
                refine g_getR d_X10_weigh_82 fq_RX10_67 rfl rfl ?_
                refine g_iload_n d_X10_weigh_85 rfl ?_
                refine g_laload (N := 128) d_X10_weigh_86 rfl kT_128 ⟨hl7, Int32.not_le.mp h11⟩ rfl ?_
                refine g_ladd d_X10_weigh_87 ?_
                refine g_putJ d_X10_weigh_88 fq_RX10_349 rfl rfl ?_
                refine g_nmJ (fun J37 eJ37 => ?_)
                replace hF := fe_lt hF eJ37
                have hK38 : (MI I I25 ∧ MK J J37) := (by rw [eJ37]; exact ⟨(hK36).1, mj_row (hK36).2 (by decide)⟩)
                have ha88 : 0 ≤ (J37 78 28).toInt ∧ (J37 78 28).toInt ≤ (x3 + 1).toInt * 1000000 := by rw [eJ37, wJ_self, hs75, hs31, hs19]; exact wl_step ha_7 h11 hw75.1 hw75.2
                refine g_iinc (v := (x3 + (1 : Int32))) (L' := [some (.ref 78), some (.int n), some (.int (x3 + (1 : Int32))), some (.int x24)]) d_X10_weigh_91 rfl (by rw [kI_1]) (by decide) rfl ?_
                refine g_goto d_X10_weigh_94 ?_
                refine g_sb [some (.ref 78), some (.int n), some (.int (x3 + (1 : Int32))), none] (by simp [subL]) ?_
                exact ih_7 _ (by rw [← hmu_7]; exact mu_up h11) (x3 + (1 : Int32)) I25 J37 rfl hK38 (lo_up hl7 h11) (by first | exact ha88 | (rw [hs19]; exact wl_skip ha_7 h11)) (by grind) ⟨kf0, Nat.lt_of_lt_of_le (by rw [← hmu_7]; exact mu_up h11) hkf0, hF⟩
              · skip
                replace hF := fe_neg hF h39
                refine g_aload_n d_X10_weigh_42 rfl ?_
                refine g_getR d_X10_weigh_43 fq_RX10_70 rfl rfl ?_
                refine g_bipush (v := 7) d_X10_weigh_46 kB_7 ?_
                refine g_iload_n d_X10_weigh_48 rfl ?_
                refine g_imul d_X10_weigh_49 ?_
                refine g_iload_n d_X10_weigh_50 rfl ?_
                refine g_iadd d_X10_weigh_51 ?_
                refine g_aload_n d_X10_weigh_52 rfl ?_
                refine g_getR d_X10_weigh_53 fq_RX10_49 rfl rfl ?_
                refine g_iload_n d_X10_weigh_56 rfl ?_
                refine g_iaload (N := 7) d_X10_weigh_57 rfl kT_7 ⟨hl27, Int32.not_le.mp h39⟩ rfl ?_
                refine g_iastore (N := 896) d_X10_weigh_58 rfl kT_896 (by constructor <;> grind) rfl  ?_
                refine g_nmI (fun I39 eI39 => ?_)
                replace hF := fe_lt hF eI39
                have hK40 : (MI I I39 ∧ MK J J18) := (by rw [eI39]; exact ⟨mi_free (hK26).1 rfl, (hK26).2⟩)
                refine g_iinc (v := (x24 + (1 : Int32))) (L' := [some (.ref 78), some (.int n), some (.int x3), some (.int (x24 + (1 : Int32)))]) d_X10_weigh_59 rfl (by rw [kI_1]) (by decide) rfl ?_
                refine g_goto d_X10_weigh_62 ?_
                exact ih_36 _ (by rw [← hmu_36]; exact mu_up h39) (x24 + (1 : Int32)) I39 rfl hK40 (lo_up hl27 h39) ⟨kf1, Nat.lt_of_lt_of_le (by rw [← hmu_36]; exact mu_up h39) hkf1, hF⟩
          exact K_36 _ (0 : Int32) I17 rfl hK23 (Int32.le_refl _) ⟨_, Nat.lt_succ_self _, hF⟩
  exact K_7 _ (0 : Int32) I J1 rfl hK2 (Int32.le_refl _) (by rw [hz2]; decide) (by decide) ⟨_, Nat.lt_succ_self _, hF⟩
noncomputable def fn_X10_oddsOf (set : Int32) (I : Iv) (J : Jv) : Int32 × Iv × Jv :=
  if (J 78 28) = (0 : Int64) then ((0 : Int32), I, J) else ((Int64.toInt32 (((1000000 : Int64) * (J 96 set.toNatClampNeg)) / (J 78 28))), I, J)
set_option maxRecDepth 100000 in
set_option maxHeartbeats 4000000 in
theorem ct_X10_oddsOf (set : Int32) (I : Iv) (J : Jv) (hset : 0 ≤ set ∧ set < 128) : Ct m_X10_oddsOf [.ref 78, .int set] SHF I J (fun r S' I' J' => S' = SHF ∧ I = I' ∧ J = J' ∧ ∃ v : Int32, r = some (.int v) ∧ fn_X10_oddsOf set I J = (v, I', J')) := by
  refine ct_of 0 (by decide +kernel) rfl rfl ?_
  have hF := fe_of (fn_X10_oddsOf.eq_1 set I J)
  refine g_aload_n d_X10_oddsOf_0 rfl ?_
  refine g_getJ d_X10_oddsOf_1 fq_RX10_349 rfl rfl ?_
  refine g_lconst d_X10_oddsOf_4 kL_0 ?_
  refine g_lcmp_ne d_X10_oddsOf_5 d_X10_oddsOf_6 (fun h6 => ?_) (fun h6 => ?_)
  · skip
    replace hF := fe_neg hF h6
    refine g_ldc2 (v := 1000000) d_X10_oddsOf_13 tw_1514 ?_
    refine g_aload_n d_X10_oddsOf_16 rfl ?_
    refine g_getR d_X10_oddsOf_17 fq_RX10_67 rfl rfl ?_
    refine g_iload_n d_X10_oddsOf_20 rfl ?_
    refine g_laload (N := 128) d_X10_oddsOf_21 rfl kT_128 (by constructor <;> grind) rfl ?_
    refine g_lmul d_X10_oddsOf_22 ?_
    refine g_aload_n d_X10_oddsOf_23 rfl ?_
    refine g_getJ d_X10_oddsOf_24 fq_RX10_349 rfl rfl ?_
    refine g_ldiv d_X10_oddsOf_27 (by grind) ?_
    refine g_l2i d_X10_oddsOf_28 ?_
    exact g_ireturn d_X10_oddsOf_29 rfl rfl rfl rfl ⟨rfl, rfl, rfl, (Int64.toInt32 (((1000000 : Int64) * (J 96 set.toNatClampNeg)) / (J 78 28))), rfl, hF⟩
  · skip
    replace hF := fe_pos hF h6
    refine g_iconst (v := 0) d_X10_oddsOf_9 kI_0 ?_
    refine g_goto d_X10_oddsOf_10 ?_
    exact g_ireturn d_X10_oddsOf_29 rfl rfl rfl rfl ⟨rfl, rfl, rfl, (0 : Int32), rfl, hF⟩
noncomputable def fl_X10_tellsOf_59_2 (I : Iv) (J : Jv) (what : Int32) (w1 : Int32) (x3 : Int32) (Kf2 : Int64 → Int32 → Int32 × Iv × Jv) : Nat → Int64 → Int32 → Int32 × Iv × Jv
  | 0, x12, x13 => (0, I, J)
  | kf2 + 1, x12, x13 => if (128 : Int32) ≤ x13 then Kf2 x12 x13 else b_n3 (fn_X10_couldBe x13 I J) (fun (r21 : Int32) (_ : Iv) (_ : Jv) => if r21 = 0 then fl_X10_tellsOf_59_2 I J what w1 x3 Kf2 kf2 x12 (x13 + (1 : Int32)) else if ((I 97 ((((7 : Int32) * x13) + what)).toNatClampNeg) / w1) = ((I 97 ((((7 : Int32) * x3) + what)).toNatClampNeg) / w1) then l_t ((x12 + (J 96 x13.toNatClampNeg))) (fun (v23 : Int64) => fl_X10_tellsOf_59_2 I J what w1 x3 Kf2 kf2 v23 (x13 + (1 : Int32))) else fl_X10_tellsOf_59_2 I J what w1 x3 Kf2 kf2 x12 (x13 + (1 : Int32)))
noncomputable def fl_X10_tellsOf_37_1 (I : Iv) (J : Jv) (what : Int32) (w1 : Int32) (Kf1 : Int64 → Int32 → Int32 × Iv × Jv) : Nat → Int64 → Int32 → Int32 × Iv × Jv
  | 0, x2, x3 => (0, I, J)
  | kf1 + 1, x2, x3 => if (128 : Int32) ≤ x3 then Kf1 x2 x3 else b_n3 (fn_X10_couldBe x3 I J) (fun (r10 : Int32) (_ : Iv) (_ : Jv) => if r10 = 0 then fl_X10_tellsOf_37_1 I J what w1 Kf1 kf1 x2 (x3 + (1 : Int32)) else fl_X10_tellsOf_59_2 I J what w1 x3 (fun (x12 : Int64) (x13 : Int32) => l_t ((x2 + ((J 96 x3.toNatClampNeg) * x12))) (fun (v15 : Int64) => fl_X10_tellsOf_37_1 I J what w1 Kf1 kf1 v15 (x3 + (1 : Int32)))) (mU (128 : Int32) ((0 : Int32)) + 1) (0 : Int64) (0 : Int32))
noncomputable def fn_X10_tellsOf (what : Int32) (I : Iv) (J : Jv) : Int32 × Iv × Jv :=
  if (J 78 28) = (0 : Int64) then ((0 : Int32), I, J) else j_n (fun (w1 : Int32) => fl_X10_tellsOf_37_1 I J what w1 (fun (x2 : Int64) (x3 : Int32) => ((Int64.toInt32 ((1000 : Int64) - (((1000 : Int64) * x2) / ((J 78 28) * (J 78 28))))), I, J)) (mU (128 : Int32) ((0 : Int32)) + 1) (0 : Int64) (0 : Int32)) (fun (j31_0 : Int32 → Int32 × Iv × Jv) => if (I 91 what.toNatClampNeg) = 0 then j31_0 ((50 : Int32)) else j31_0 ((I 93 what.toNatClampNeg)))
set_option maxRecDepth 100000 in
set_option maxHeartbeats 4000000 in
theorem ct_X10_tellsOf (what : Int32) (I : Iv) (J : Jv) (hma : MA I) (hwh : 0 ≤ what ∧ what < 7) (hal : 0 ≤ J 78 28 ∧ J 78 28 ≤ 128000000) : Ct m_X10_tellsOf [.ref 78, .int what] SHF I J (fun r S' I' J' => S' = SHF ∧ I = I' ∧ J = J' ∧ ∃ v : Int32, r = some (.int v) ∧ fn_X10_tellsOf what I J = (v, I', J')) := by
  refine ct_of 7 (by decide +kernel) rfl rfl ?_
  have hF := fe_of (fn_X10_tellsOf.eq_1 what I J)
  refine g_aload_n d_X10_tellsOf_0 rfl ?_
  refine g_getJ d_X10_tellsOf_1 fq_RX10_349 rfl rfl ?_
  refine g_lconst d_X10_tellsOf_4 kL_0 ?_
  refine g_lcmp_ne d_X10_tellsOf_5 d_X10_tellsOf_6 (fun h6 => ?_) (fun h6 => ?_)
  · skip
    replace hF := fe_neg hF h6
    refine g_aload_n d_X10_tellsOf_11 rfl ?_
    refine g_getR d_X10_tellsOf_12 fq_RX10_52 rfl rfl ?_
    refine g_iload_n d_X10_tellsOf_15 rfl ?_
    refine g_baload (N := 7) d_X10_tellsOf_16 rfl kT_7 (by constructor <;> grind) rfl (fun hz16 => ?_)
    obtain ⟨j31_0, hj31_0, hF⟩ := fe_jx hF
    have J_31 : ∀ (w1 : Int32), (1 ≤ w1) → (FE (fn_X10_tellsOf what I J) (fun _ => j31_0 w1)) → G m_X10_tellsOf (rq m_X10_tellsOf (fun r S' I' J' => S' = SHF ∧ I = I' ∧ J = J' ∧ ∃ v : Int32, r = some (.int v) ∧ fn_X10_tellsOf what I J = (v, I', J'))) 0 0 31 [some (.ref 78), some (.int what), none, none, none, none, none, none, none] [.int w1] SHF I J := by
      intro w1 he_31 hF_j31_0
      have hF := fe_eq hF_j31_0 (congrFun hj31_0 w1)
      refine g_istore_n (L' := [some (.ref 78), some (.int what), some (.int w1), none, none, none, none, none, none]) d_X10_tellsOf_31 (by decide) rfl ?_
      refine g_lconst d_X10_tellsOf_32 kL_0 ?_
      refine g_lstore_n (L' := [some (.ref 78), some (.int what), some (.int w1), some (.long (0 : Int64)), none, none, none, none, none]) d_X10_tellsOf_33 (by decide) rfl ?_
      refine g_iconst (v := 0) d_X10_tellsOf_34 kI_0 ?_
      refine g_istore (L' := [some (.ref 78), some (.int what), some (.int w1), some (.long (0 : Int64)), none, some (.int (0 : Int32)), none, none, none]) d_X10_tellsOf_35 (by decide) rfl ?_
      obtain ⟨Kf1, hKf1, hF⟩ := fe_kx (f := fun K => fl_X10_tellsOf_37_1 I J what w1 K (mU (128 : Int32) ((0 : Int32)) + 1) (0 : Int64) (0 : Int32)) hF
      have K_37 : ∀ (nu : Nat) (x2 : Int64) (x3 : Int32), mU (128 : Int32) x3 = nu → ((0 : Int32) ≤ x3) → (∃ kq : Nat, nu < kq ∧ (fun kq => FE (fn_X10_tellsOf what I J) (fun _ => fl_X10_tellsOf_37_1 I J what w1 Kf1 kq x2 x3)) kq) → G m_X10_tellsOf (rq m_X10_tellsOf (fun r S' I' J' => S' = SHF ∧ I = I' ∧ J = J' ∧ ∃ v : Int32, r = some (.int v) ∧ fn_X10_tellsOf what I J = (v, I', J'))) 0 0 37 [some (.ref 78), some (.int what), some (.int w1), some (.long x2), none, some (.int x3), none, none, none] [] SHF I J := by
        intro nu
        induction nu using Nat.strongRecOn with
        | ind nu ih_37 =>
          intro x2 x3 hmu_37 hl4 hF_Kf1
          obtain ⟨kf1, hkf1, hF⟩ := fe_fu (P := fun kq => FE (fn_X10_tellsOf what I J) (fun _ => fl_X10_tellsOf_37_1 I J what w1 Kf1 kq x2 x3)) hF_Kf1
          replace hF := fe_eq hF (fl_X10_tellsOf_37_1.eq_2 _ _ _ _ _ _ _ _)
          refine g_iload d_X10_tellsOf_37 rfl ?_
          refine g_sipush (v := 128) d_X10_tellsOf_39 kS_128 ?_
          refine g_icmp_ge d_X10_tellsOf_42 (fun h42 => ?_) (fun h42 => ?_)
          · skip
            replace hF := fe_pos hF h42
            replace hF := fe_eq hF (congrFun (congrFun hKf1 x2) x3)
            refine g_ldc2 (v := 1000) d_X10_tellsOf_143 tw_1392 ?_
            refine g_ldc2 (v := 1000) d_X10_tellsOf_146 tw_1392 ?_
            refine g_lload_n d_X10_tellsOf_149 rfl ?_
            refine g_lmul d_X10_tellsOf_150 ?_
            refine g_aload_n d_X10_tellsOf_151 rfl ?_
            refine g_getJ d_X10_tellsOf_152 fq_RX10_349 rfl rfl ?_
            refine g_aload_n d_X10_tellsOf_155 rfl ?_
            refine g_getJ d_X10_tellsOf_156 fq_RX10_349 rfl rfl ?_
            refine g_lmul d_X10_tellsOf_159 ?_
            refine g_ldiv d_X10_tellsOf_160 (ne_sq2 h6 hal) ?_
            refine g_lsub d_X10_tellsOf_161 ?_
            refine g_l2i d_X10_tellsOf_162 ?_
            exact g_ireturn d_X10_tellsOf_163 rfl rfl rfl rfl ⟨rfl, rfl, rfl, (Int64.toInt32 ((1000 : Int64) - (((1000 : Int64) * x2) / ((J 78 28) * (J 78 28))))), rfl, hF⟩
          · skip
            replace hF := fe_neg hF h42
            refine g_iload d_X10_tellsOf_45 rfl ?_
            refine g_S1 d_X10_tellsOf_47 cs_X10_tellsOf_X10_couldBe lk_RX10_353 im_X10_couldBe (Nat.le_of_ble_eq_true rfl) ⟨rfl, rfl⟩ ⟨Nat.zero_le _, Nat.zero_le _⟩ (ct_X10_couldBe x3 I J ) (fun r47 S47 Ic6 Jc7 q47_4 => ?_)
            obtain ⟨rfl, rfl, rfl, r10, rfl, hz47, hf47_8⟩ := q47_4
            replace hF := fe_b3 hF hf47_8
            refine g_st (st' := [.int r10]) rfl ?_
            refine g_if_eq d_X10_tellsOf_50 (fun h50 => ?_) (fun h50 => ?_)
            · skip
              replace hF := fe_pos hF h50
              refine g_iinc (v := (x3 + (1 : Int32))) (L' := [some (.ref 78), some (.int what), some (.int w1), some (.long x2), none, some (.int (x3 + (1 : Int32))), none, none, none]) d_X10_tellsOf_137 rfl (by rw [kI_1]) (by decide) rfl ?_
              refine g_goto d_X10_tellsOf_140 ?_
              exact ih_37 _ (by rw [← hmu_37]; exact mu_up h42) x2 (x3 + (1 : Int32)) rfl (lo_up hl4 h42) ⟨kf1, Nat.lt_of_lt_of_le (by rw [← hmu_37]; exact mu_up h42) hkf1, hF⟩
            · skip
              replace hF := fe_neg hF h50
              refine g_lconst d_X10_tellsOf_53 kL_0 ?_
              refine g_lstore (L' := [some (.ref 78), some (.int what), some (.int w1), some (.long x2), none, some (.int x3), some (.long (0 : Int64)), none, none]) d_X10_tellsOf_54 (by decide) rfl ?_
              refine g_iconst (v := 0) d_X10_tellsOf_56 kI_0 ?_
              refine g_istore (L' := [some (.ref 78), some (.int what), some (.int w1), some (.long x2), none, some (.int x3), some (.long (0 : Int64)), none, some (.int (0 : Int32))]) d_X10_tellsOf_57 (by decide) rfl ?_
              obtain ⟨Kf2, hKf2, hF⟩ := fe_kx (f := fun K => fl_X10_tellsOf_59_2 I J what w1 x3 K (mU (128 : Int32) ((0 : Int32)) + 1) (0 : Int64) (0 : Int32)) hF
              have K_59 : ∀ (nu : Nat) (x12 : Int64) (x13 : Int32), mU (128 : Int32) x13 = nu → ((0 : Int32) ≤ x13) → (∃ kq : Nat, nu < kq ∧ (fun kq => FE (fn_X10_tellsOf what I J) (fun _ => fl_X10_tellsOf_59_2 I J what w1 x3 Kf2 kq x12 x13)) kq) → G m_X10_tellsOf (rq m_X10_tellsOf (fun r S' I' J' => S' = SHF ∧ I = I' ∧ J = J' ∧ ∃ v : Int32, r = some (.int v) ∧ fn_X10_tellsOf what I J = (v, I', J'))) 0 0 59 [some (.ref 78), some (.int what), some (.int w1), some (.long x2), none, some (.int x3), some (.long x12), none, some (.int x13)] [] SHF I J := by
                intro nu
                induction nu using Nat.strongRecOn with
                | ind nu ih_59 =>
                  intro x12 x13 hmu_59 hl14 hF_Kf2
                  obtain ⟨kf2, hkf2, hF⟩ := fe_fu (P := fun kq => FE (fn_X10_tellsOf what I J) (fun _ => fl_X10_tellsOf_59_2 I J what w1 x3 Kf2 kq x12 x13)) hF_Kf2
                  replace hF := fe_eq hF (fl_X10_tellsOf_59_2.eq_2 _ _ _ _ _ _ _ _ _)
                  refine g_iload d_X10_tellsOf_59 rfl ?_
                  refine g_sipush (v := 128) d_X10_tellsOf_61 kS_128 ?_
                  refine g_icmp_ge d_X10_tellsOf_64 (fun h64 => ?_) (fun h64 => ?_)
                  · skip
                    replace hF := fe_pos hF h64
                    replace hF := fe_eq hF (congrFun (congrFun hKf2 x12) x13)
                    refine g_lload_n d_X10_tellsOf_124 rfl ?_
                    refine g_aload_n d_X10_tellsOf_125 rfl ?_
                    refine g_getR d_X10_tellsOf_126 fq_RX10_67 rfl rfl ?_
                    refine g_iload d_X10_tellsOf_129 rfl ?_
                    refine g_laload (N := 128) d_X10_tellsOf_131 rfl kT_128 ⟨hl4, Int32.not_le.mp h42⟩ rfl ?_
                    refine g_lload d_X10_tellsOf_132 rfl ?_
                    refine g_lmul d_X10_tellsOf_134 ?_
                    refine g_ladd d_X10_tellsOf_135 ?_
                    refine g_topJ (fun v15 ev15 => ?_)
                    replace hF := fe_lt hF ev15
                    refine g_lstore_n (L' := [some (.ref 78), some (.int what), some (.int w1), some (.long v15), none, some (.int x3), some (.long x12), none, some (.int x13)]) d_X10_tellsOf_136 (by decide) rfl ?_
                    refine g_iinc (v := (x3 + (1 : Int32))) (L' := [some (.ref 78), some (.int what), some (.int w1), some (.long v15), none, some (.int (x3 + (1 : Int32))), some (.long x12), none, some (.int x13)]) d_X10_tellsOf_137 rfl (by rw [kI_1]) (by decide) rfl ?_
                    refine g_goto d_X10_tellsOf_140 ?_
                    refine g_sb [some (.ref 78), some (.int what), some (.int w1), some (.long v15), none, some (.int (x3 + (1 : Int32))), none, none, none] (by simp [subL]) ?_
                    exact ih_37 _ (by rw [← hmu_37]; exact mu_up h42) v15 (x3 + (1 : Int32)) rfl (lo_up hl4 h42) ⟨kf1, Nat.lt_of_lt_of_le (by rw [← hmu_37]; exact mu_up h42) hkf1, hF⟩
                  · skip
                    replace hF := fe_neg hF h64
                    refine g_iload d_X10_tellsOf_67 rfl ?_
                    refine g_S1 d_X10_tellsOf_69 cs_X10_tellsOf_X10_couldBe lk_RX10_353 im_X10_couldBe (Nat.le_of_ble_eq_true rfl) ⟨rfl, rfl⟩ ⟨Nat.zero_le _, Nat.zero_le _⟩ (ct_X10_couldBe x13 I J ) (fun r69 S69 Ic17 Jc18 q69_15 => ?_)
                    obtain ⟨rfl, rfl, rfl, r21, rfl, hz69, hf69_19⟩ := q69_15
                    replace hF := fe_b3 hF hf69_19
                    refine g_st (st' := [.int r21]) rfl ?_
                    refine g_if_eq d_X10_tellsOf_72 (fun h72 => ?_) (fun h72 => ?_)
                    · skip
                      replace hF := fe_pos hF h72
                      refine g_iinc (v := (x13 + (1 : Int32))) (L' := [some (.ref 78), some (.int what), some (.int w1), some (.long x2), none, some (.int x3), some (.long x12), none, some (.int (x13 + (1 : Int32)))]) d_X10_tellsOf_118 rfl (by rw [kI_1]) (by decide) rfl ?_
                      refine g_goto d_X10_tellsOf_121 ?_
                      exact ih_59 _ (by rw [← hmu_59]; exact mu_up h64) x12 (x13 + (1 : Int32)) rfl (lo_up hl14 h64) ⟨kf2, Nat.lt_of_lt_of_le (by rw [← hmu_59]; exact mu_up h64) hkf2, hF⟩
                    · skip
                      replace hF := fe_neg hF h72
                      refine g_aload_n d_X10_tellsOf_75 rfl ?_
                      refine g_getR d_X10_tellsOf_76 fq_RX10_70 rfl rfl ?_
                      refine g_bipush (v := 7) d_X10_tellsOf_79 kB_7 ?_
                      refine g_iload d_X10_tellsOf_81 rfl ?_
                      refine g_imul d_X10_tellsOf_83 ?_
                      refine g_iload_n d_X10_tellsOf_84 rfl ?_
                      refine g_iadd d_X10_tellsOf_85 ?_
                      refine g_iaload (N := 896) d_X10_tellsOf_86 rfl kT_896 (by constructor <;> grind) rfl ?_
                      refine g_iload_n d_X10_tellsOf_87 rfl ?_
                      refine g_idiv d_X10_tellsOf_88 (by grind) ?_
                      refine g_aload_n d_X10_tellsOf_89 rfl ?_
                      refine g_getR d_X10_tellsOf_90 fq_RX10_70 rfl rfl ?_
                      refine g_bipush (v := 7) d_X10_tellsOf_93 kB_7 ?_
                      refine g_iload d_X10_tellsOf_95 rfl ?_
                      refine g_imul d_X10_tellsOf_97 ?_
                      refine g_iload_n d_X10_tellsOf_98 rfl ?_
                      refine g_iadd d_X10_tellsOf_99 ?_
                      refine g_iaload (N := 896) d_X10_tellsOf_100 rfl kT_896 (by constructor <;> grind) rfl ?_
                      refine g_iload_n d_X10_tellsOf_101 rfl ?_
                      refine g_idiv d_X10_tellsOf_102 (by grind) ?_
                      refine g_icmp_ne d_X10_tellsOf_103 (fun h103 => ?_) (fun h103 => ?_)
                      · skip
                        replace hF := fe_neg hF h103
                        refine g_iinc (v := (x13 + (1 : Int32))) (L' := [some (.ref 78), some (.int what), some (.int w1), some (.long x2), none, some (.int x3), some (.long x12), none, some (.int (x13 + (1 : Int32)))]) d_X10_tellsOf_118 rfl (by rw [kI_1]) (by decide) rfl ?_
                        refine g_goto d_X10_tellsOf_121 ?_
                        exact ih_59 _ (by rw [← hmu_59]; exact mu_up h64) x12 (x13 + (1 : Int32)) rfl (lo_up hl14 h64) ⟨kf2, Nat.lt_of_lt_of_le (by rw [← hmu_59]; exact mu_up h64) hkf2, hF⟩
                      · skip
                        replace hF := fe_pos hF h103
                        refine g_lload d_X10_tellsOf_106 rfl ?_
                        refine g_aload_n d_X10_tellsOf_108 rfl ?_
                        refine g_getR d_X10_tellsOf_109 fq_RX10_67 rfl rfl ?_
                        refine g_iload d_X10_tellsOf_112 rfl ?_
                        refine g_laload (N := 128) d_X10_tellsOf_114 rfl kT_128 ⟨hl14, Int32.not_le.mp h64⟩ rfl ?_
                        refine g_ladd d_X10_tellsOf_115 ?_
                        refine g_topJ (fun v23 ev23 => ?_)
                        replace hF := fe_lt hF ev23
                        refine g_lstore (L' := [some (.ref 78), some (.int what), some (.int w1), some (.long x2), none, some (.int x3), some (.long v23), none, some (.int x13)]) d_X10_tellsOf_116 (by decide) rfl ?_
                        refine g_iinc (v := (x13 + (1 : Int32))) (L' := [some (.ref 78), some (.int what), some (.int w1), some (.long x2), none, some (.int x3), some (.long v23), none, some (.int (x13 + (1 : Int32)))]) d_X10_tellsOf_118 rfl (by rw [kI_1]) (by decide) rfl ?_
                        refine g_goto d_X10_tellsOf_121 ?_
                        exact ih_59 _ (by rw [← hmu_59]; exact mu_up h64) v23 (x13 + (1 : Int32)) rfl (lo_up hl14 h64) ⟨kf2, Nat.lt_of_lt_of_le (by rw [← hmu_59]; exact mu_up h64) hkf2, hF⟩
              exact K_59 _ (0 : Int64) (0 : Int32) rfl (Int32.le_refl _) ⟨_, Nat.lt_succ_self _, hF⟩
      exact K_37 _ (0 : Int64) (0 : Int32) rfl (Int32.le_refl _) ⟨_, Nat.lt_succ_self _, hF⟩
    refine g_if_eq d_X10_tellsOf_17 (fun h17 => ?_) (fun h17 => ?_)
    · skip
      replace hF := fe_pos hF h17
      refine g_bipush (v := 50) d_X10_tellsOf_29 kB_50 ?_
      exact J_31 ((50 : Int32)) (by first | decide | exact (ma_seen hma hwh.1 hwh.2 (by assumption)).1) hF
    · skip
      replace hF := fe_neg hF h17
      refine g_aload_n d_X10_tellsOf_20 rfl ?_
      refine g_getR d_X10_tellsOf_21 fq_RX10_58 rfl rfl ?_
      refine g_iload_n d_X10_tellsOf_24 rfl ?_
      refine g_iaload (N := 7) d_X10_tellsOf_25 rfl kT_7 (by constructor <;> grind) rfl ?_
      refine g_goto d_X10_tellsOf_26 ?_
      exact J_31 ((I 93 what.toNatClampNeg)) (by first | decide | exact (ma_seen hma hwh.1 hwh.2 (by assumption)).1) hF
  · skip
    replace hF := fe_pos hF h6
    refine g_iconst (v := 0) d_X10_tellsOf_9 kI_0 ?_
    exact g_ireturn d_X10_tellsOf_10 rfl rfl rfl rfl ⟨rfl, rfl, rfl, (0 : Int32), rfl, hF⟩
noncomputable def fn_X10_odds (set : Int32) (n : Int32) (I : Iv) (J : Jv) : Int32 × Iv × Jv :=
  b_n2 (fn_X10_begin I J) (fun (I1 : Iv) (J2 : Jv) => b_n3 (fn_X10_isSet set I1 J2) (fun (r13 : Int32) (_ : Iv) (_ : Jv) => if r13 = 0 then ((-1000000001 : Int32), I1, J2) else b_n3 (fn_X10_couldBe set I1 J2) (fun (r20 : Int32) (_ : Iv) (_ : Jv) => if r20 = 0 then ((-1000000001 : Int32), I1, J2) else b_n3 (fn_X10_areDays n I1 J2) (fun (r27 : Int32) (_ : Iv) (_ : Jv) => if r27 = 0 then ((-1000000002 : Int32), I1, J2) else b_n2 (fn_X10_weigh n I1 J2) (fun (I29 : Iv) (J30 : Jv) => b_n3 (fn_X10_oddsOf set I29 J30) (fun (r41 : Int32) (_ : Iv) (_ : Jv) => (r41, I29, J30)))))))
set_option maxRecDepth 100000 in
set_option maxHeartbeats 4000000 in
theorem ct_X10_odds (set : Int32) (n : Int32) (I : Iv) (J : Jv) (hma : MA I) (hmj : MJ J) : Ct m_X10_odds [.ref 78, .int set, .int n] SHF I J (fun r S' I' J' => S' = SHF ∧ True ∧ ∃ v : Int32, r = some (.int v) ∧ fn_X10_odds set n I J = (v, I', J') ∧ (MI (bgI I) I' ∧ MK (bgJ I J) J')) := by
  refine ct_of 0 (by decide +kernel) rfl rfl ?_
  have hK0 : (MI I I ∧ MK J J) := ⟨mi_rfl hma, mk_rfl hmj⟩
  have hF := fe_of (fn_X10_odds.eq_1 set n I J)
  refine g_aload_n d_X10_odds_0 rfl ?_
  refine g_V0 d_X10_odds_1 cs_X10_odds_X10_begin lk_RX10_166 im_X10_begin se_X10_begin rfl rfl rfl (Nat.le_of_ble_eq_true rfl) ⟨rfl, rfl⟩ ⟨Nat.zero_le _, Nat.zero_le _⟩ (ct_X10_begin  I J hma hmj) (fun r1 S1 I1 J2 q1_2 => ?_)
  obtain ⟨rfl, hc1_3, rfl, hf1_4, hr1_5⟩ := q1_2
  replace hF := fe_b2 hF hf1_4
  refine g_st (st' := []) rfl ?_
  have hK7 : (MI (bgI I) I1 ∧ MK (bgJ I J) J2) := hr1_5
  refine g_iload_n d_X10_odds_4 rfl ?_
  refine g_S1 d_X10_odds_5 cs_X10_odds_X10_isSet lk_RX10_259 im_X10_isSet (Nat.le_of_ble_eq_true rfl) ⟨rfl, rfl⟩ ⟨Nat.zero_le _, Nat.zero_le _⟩ (ct_X10_isSet set I1 J2 ) (fun r5 S5 Ic9 Jc10 q5_7 => ?_)
  obtain ⟨rfl, rfl, rfl, r13, rfl, hz5, hf5_11, hr5_13⟩ := q5_7
  replace hF := fe_b3 hF hf5_11
  refine g_st (st' := [.int r13]) rfl ?_
  refine g_if_eq d_X10_odds_8 (fun h8 => ?_) (fun h8 => ?_)
  · skip
    replace hF := fe_pos hF h8
    refine g_ldcw (v := -1000000001) d_X10_odds_18 tw_1296 ?_
    exact g_ireturn d_X10_odds_21 rfl rfl rfl rfl ⟨rfl, trivial, (-1000000001 : Int32), rfl, hF, hK7⟩
  · skip
    replace hF := fe_neg hF h8
    refine g_iload_n d_X10_odds_11 rfl ?_
    refine g_S1 d_X10_odds_12 cs_X10_odds_X10_couldBe lk_RX10_353 im_X10_couldBe (Nat.le_of_ble_eq_true rfl) ⟨rfl, rfl⟩ ⟨Nat.zero_le _, Nat.zero_le _⟩ (ct_X10_couldBe set I1 J2 ) (fun r12 S12 Ic16 Jc17 q12_14 => ?_)
    obtain ⟨rfl, rfl, rfl, r20, rfl, hz12, hf12_18⟩ := q12_14
    replace hF := fe_b3 hF hf12_18
    refine g_st (st' := [.int r20]) rfl ?_
    refine g_if_ne d_X10_odds_15 (fun h15 => ?_) (fun h15 => ?_)
    · skip
      replace hF := fe_neg hF h15
      refine g_iload_n d_X10_odds_22 rfl ?_
      refine g_S1 d_X10_odds_23 cs_X10_odds_X10_areDays lk_RX10_326 im_X10_areDays (Nat.le_of_ble_eq_true rfl) ⟨rfl, rfl⟩ ⟨Nat.zero_le _, Nat.zero_le _⟩ (ct_X10_areDays n I1 J2 ) (fun r23 S23 Ic23 Jc24 q23_21 => ?_)
      obtain ⟨rfl, rfl, rfl, r27, rfl, hz23, hf23_25, hr23_27⟩ := q23_21
      replace hF := fe_b3 hF hf23_25
      refine g_st (st' := [.int r27]) rfl ?_
      refine g_if_ne d_X10_odds_26 (fun h26 => ?_) (fun h26 => ?_)
      · skip
        replace hF := fe_neg hF h26
        refine g_aload_n d_X10_odds_32 rfl ?_
        refine g_iload_n d_X10_odds_33 rfl ?_
        refine g_V1 d_X10_odds_34 cs_X10_odds_X10_weigh lk_RX10_360 im_X10_weigh se_X10_weigh rfl rfl rfl (Nat.le_of_ble_eq_true rfl) ⟨rfl, rfl⟩ ⟨Nat.zero_le _, Nat.zero_le _⟩ (ct_X10_weigh n I1 J2 (hK7).1.2 (hK7).2.2 (by grind)) (fun r34 S34 I29 J30 q34_30 => ?_)
        obtain ⟨rfl, hc34_31, rfl, hf34_32, hr34_33⟩ := q34_30
        replace hF := fe_b2 hF hf34_32
        refine g_st (st' := []) rfl ?_
        have hK35 : (MI (bgI I) I29 ∧ MK (bgJ I J) J30) := ⟨mi_tr (hK7).1 hc34_31.1, mk_tr (hK7).2 hc34_31.2⟩
        refine g_aload_n d_X10_odds_37 rfl ?_
        refine g_iload_n d_X10_odds_38 rfl ?_
        refine g_V1 d_X10_odds_39 cs_X10_odds_X10_oddsOf lk_RX10_363 im_X10_oddsOf se_X10_oddsOf rfl rfl rfl (Nat.le_of_ble_eq_true rfl) ⟨rfl, rfl⟩ ⟨Nat.zero_le _, Nat.zero_le _⟩ (ct_X10_oddsOf set I29 J30 (by grind)) (fun r39 S39 Ic37 Jc38 q39_35 => ?_)
        obtain ⟨rfl, rfl, rfl, r41, rfl, hf39_39⟩ := q39_35
        replace hF := fe_b3 hF hf39_39
        refine g_st (st' := [.int r41]) rfl ?_
        exact g_ireturn d_X10_odds_42 rfl rfl rfl rfl ⟨rfl, trivial, r41, rfl, hF, hK35⟩
      · skip
        replace hF := fe_pos hF h26
        refine g_ldc (v := -1000000002) d_X10_odds_29 tw_1199 ?_
        exact g_ireturn d_X10_odds_31 rfl rfl rfl rfl ⟨rfl, trivial, (-1000000002 : Int32), rfl, hF, hK7⟩
    · skip
      replace hF := fe_pos hF h15
      refine g_ldcw (v := -1000000001) d_X10_odds_18 tw_1296 ?_
      exact g_ireturn d_X10_odds_21 rfl rfl rfl rfl ⟨rfl, trivial, (-1000000001 : Int32), rfl, hF, hK7⟩
noncomputable def fl_X10_each_35_0 (k : Int32) (I22 : Iv) (J23 : Jv) (Kf0 : Int32 → Int32 → Int32 × Iv × Jv) : Nat → Int32 → Int32 → Int32 × Iv × Jv
  | 0, x29, x30 => (0, I22, J23)
  | kf0 + 1, x29, x30 => if (128 : Int32) ≤ x30 then Kf0 x29 x30 else b_n3 (fn_X10_couldBe x30 I22 J23) (fun (r37 : Int32) (_ : Iv) (_ : Jv) => if r37 = 0 then l_t ((x29 + (0 : Int32))) (fun (v39 : Int32) => fl_X10_each_35_0 k I22 J23 Kf0 kf0 v39 (x30 + (1 : Int32))) else b_n3 (fn_X10_has (Int32.toInt64 x30) k I22 J23) (fun (r45 : Int32) (_ : Iv) (_ : Jv) => if r45 = 0 then l_t ((x29 + (0 : Int32))) (fun (v47 : Int32) => fl_X10_each_35_0 k I22 J23 Kf0 kf0 v47 (x30 + (1 : Int32))) else b_n3 (fn_X10_oddsOf x30 I22 J23) (fun (r53 : Int32) (_ : Iv) (_ : Jv) => l_t ((x29 + r53)) (fun (v55 : Int32) => fl_X10_each_35_0 k I22 J23 Kf0 kf0 v55 (x30 + (1 : Int32))))))
noncomputable def fn_X10_each (k : Int32) (n : Int32) (I : Iv) (J : Jv) : Int32 × Iv × Jv :=
  b_n2 (fn_X10_begin I J) (fun (I1 : Iv) (J2 : Jv) => b_n3 (fn_X10_isTrouble k I1 J2) (fun (r13 : Int32) (_ : Iv) (_ : Jv) => if r13 = 0 then ((-1000000001 : Int32), I1, J2) else b_n3 (fn_X10_areDays n I1 J2) (fun (r20 : Int32) (_ : Iv) (_ : Jv) => if r20 = 0 then ((-1000000002 : Int32), I1, J2) else b_n2 (fn_X10_weigh n I1 J2) (fun (I22 : Iv) (J23 : Jv) => fl_X10_each_35_0 k I22 J23 (fun (x29 : Int32) (x30 : Int32) => (x29, I22, J23)) (mU (128 : Int32) ((0 : Int32)) + 1) (0 : Int32) (0 : Int32)))))
set_option maxRecDepth 100000 in
set_option maxHeartbeats 4000000 in
theorem ct_X10_each (k : Int32) (n : Int32) (I : Iv) (J : Jv) (hma : MA I) (hmj : MJ J) : Ct m_X10_each [.ref 78, .int k, .int n] SHF I J (fun r S' I' J' => S' = SHF ∧ True ∧ ∃ v : Int32, r = some (.int v) ∧ fn_X10_each k n I J = (v, I', J') ∧ (MI (bgI I) I' ∧ MK (bgJ I J) J')) := by
  refine ct_of 2 (by decide +kernel) rfl rfl ?_
  have hK0 : (MI I I ∧ MK J J) := ⟨mi_rfl hma, mk_rfl hmj⟩
  have hF := fe_of (fn_X10_each.eq_1 k n I J)
  refine g_aload_n d_X10_each_0 rfl ?_
  refine g_V0 d_X10_each_1 cs_X10_each_X10_begin lk_RX10_166 im_X10_begin se_X10_begin rfl rfl rfl (Nat.le_of_ble_eq_true rfl) ⟨rfl, rfl⟩ ⟨Nat.zero_le _, Nat.zero_le _⟩ (ct_X10_begin  I J hma hmj) (fun r1 S1 I1 J2 q1_2 => ?_)
  obtain ⟨rfl, hc1_3, rfl, hf1_4, hr1_5⟩ := q1_2
  replace hF := fe_b2 hF hf1_4
  refine g_st (st' := []) rfl ?_
  have hK7 : (MI (bgI I) I1 ∧ MK (bgJ I J) J2) := hr1_5
  refine g_iload_n d_X10_each_4 rfl ?_
  refine g_S1 d_X10_each_5 cs_X10_each_X10_isTrouble lk_RX10_341 im_X10_isTrouble (Nat.le_of_ble_eq_true rfl) ⟨rfl, rfl⟩ ⟨Nat.zero_le _, Nat.zero_le _⟩ (ct_X10_isTrouble k I1 J2 ) (fun r5 S5 Ic9 Jc10 q5_7 => ?_)
  obtain ⟨rfl, rfl, rfl, r13, rfl, hz5, hf5_11, hr5_13⟩ := q5_7
  replace hF := fe_b3 hF hf5_11
  refine g_st (st' := [.int r13]) rfl ?_
  refine g_if_ne d_X10_each_8 (fun h8 => ?_) (fun h8 => ?_)
  · skip
    replace hF := fe_neg hF h8
    refine g_iload_n d_X10_each_15 rfl ?_
    refine g_S1 d_X10_each_16 cs_X10_each_X10_areDays lk_RX10_326 im_X10_areDays (Nat.le_of_ble_eq_true rfl) ⟨rfl, rfl⟩ ⟨Nat.zero_le _, Nat.zero_le _⟩ (ct_X10_areDays n I1 J2 ) (fun r16 S16 Ic16 Jc17 q16_14 => ?_)
    obtain ⟨rfl, rfl, rfl, r20, rfl, hz16, hf16_18, hr16_20⟩ := q16_14
    replace hF := fe_b3 hF hf16_18
    refine g_st (st' := [.int r20]) rfl ?_
    refine g_if_ne d_X10_each_19 (fun h19 => ?_) (fun h19 => ?_)
    · skip
      replace hF := fe_neg hF h19
      refine g_aload_n d_X10_each_25 rfl ?_
      refine g_iload_n d_X10_each_26 rfl ?_
      refine g_V1 d_X10_each_27 cs_X10_each_X10_weigh lk_RX10_360 im_X10_weigh se_X10_weigh rfl rfl rfl (Nat.le_of_ble_eq_true rfl) ⟨rfl, rfl⟩ ⟨Nat.zero_le _, Nat.zero_le _⟩ (ct_X10_weigh n I1 J2 (hK7).1.2 (hK7).2.2 (by grind)) (fun r27 S27 I22 J23 q27_23 => ?_)
      obtain ⟨rfl, hc27_24, rfl, hf27_25, hr27_26⟩ := q27_23
      replace hF := fe_b2 hF hf27_25
      refine g_st (st' := []) rfl ?_
      have hK28 : (MI (bgI I) I22 ∧ MK (bgJ I J) J23) := ⟨mi_tr (hK7).1 hc27_24.1, mk_tr (hK7).2 hc27_24.2⟩
      refine g_iconst (v := 0) d_X10_each_30 kI_0 ?_
      refine g_istore_n (L' := [some (.ref 78), some (.int k), some (.int n), some (.int (0 : Int32)), none]) d_X10_each_31 (by decide) rfl ?_
      refine g_iconst (v := 0) d_X10_each_32 kI_0 ?_
      refine g_istore (L' := [some (.ref 78), some (.int k), some (.int n), some (.int (0 : Int32)), some (.int (0 : Int32))]) d_X10_each_33 (by decide) rfl ?_
      obtain ⟨Kf0, hKf0, hF⟩ := fe_kx (f := fun K => fl_X10_each_35_0 k I22 J23 K (mU (128 : Int32) ((0 : Int32)) + 1) (0 : Int32) (0 : Int32)) hF
      have K_35 : ∀ (nu : Nat) (x29 : Int32) (x30 : Int32), mU (128 : Int32) x30 = nu → ((0 : Int32) ≤ x30) → (∃ kq : Nat, nu < kq ∧ (fun kq => FE (fn_X10_each k n I J) (fun _ => fl_X10_each_35_0 k I22 J23 Kf0 kq x29 x30)) kq) → G m_X10_each (rq m_X10_each (fun r S' I' J' => S' = SHF ∧ True ∧ ∃ v : Int32, r = some (.int v) ∧ fn_X10_each k n I J = (v, I', J') ∧ (MI (bgI I) I' ∧ MK (bgJ I J) J'))) 0 0 35 [some (.ref 78), some (.int k), some (.int n), some (.int x29), some (.int x30)] [] SHF I22 J23 := by
        intro nu
        induction nu using Nat.strongRecOn with
        | ind nu ih_35 =>
          intro x29 x30 hmu_35 hl31 hF_Kf0
          obtain ⟨kf0, hkf0, hF⟩ := fe_fu (P := fun kq => FE (fn_X10_each k n I J) (fun _ => fl_X10_each_35_0 k I22 J23 Kf0 kq x29 x30)) hF_Kf0
          replace hF := fe_eq hF (fl_X10_each_35_0.eq_2 _ _ _ _ _ _ _)
          refine g_iload d_X10_each_35 rfl ?_
          refine g_sipush (v := 128) d_X10_each_37 kS_128 ?_
          refine g_icmp_ge d_X10_each_40 (fun h40 => ?_) (fun h40 => ?_)
          · skip
            replace hF := fe_pos hF h40
            replace hF := fe_eq hF (congrFun (congrFun hKf0 x29) x30)
            refine g_iload_n d_X10_each_80 rfl ?_
            exact g_ireturn d_X10_each_81 rfl rfl rfl rfl ⟨rfl, trivial, x29, rfl, hF, hK28⟩
          · skip
            replace hF := fe_neg hF h40
            refine g_iload_n d_X10_each_43 rfl ?_
            refine g_iload d_X10_each_44 rfl ?_
            refine g_S1 d_X10_each_46 cs_X10_each_X10_couldBe lk_RX10_353 im_X10_couldBe (Nat.le_of_ble_eq_true rfl) ⟨rfl, rfl⟩ ⟨Nat.zero_le _, Nat.zero_le _⟩ (ct_X10_couldBe x30 I22 J23 ) (fun r46 S46 Ic33 Jc34 q46_31 => ?_)
            obtain ⟨rfl, rfl, rfl, r37, rfl, hz46, hf46_35⟩ := q46_31
            replace hF := fe_b3 hF hf46_35
            refine g_st (st' := [.int r37, .int x29]) rfl ?_
            refine g_if_eq d_X10_each_49 (fun h49 => ?_) (fun h49 => ?_)
            · skip
              replace hF := fe_pos hF h49
              refine g_iconst (v := 0) d_X10_each_71 kI_0 ?_
              refine g_iadd d_X10_each_72 ?_
              refine g_topI (fun v39 ev39 => ?_)
              replace hF := fe_lt hF ev39
              refine g_istore_n (L' := [some (.ref 78), some (.int k), some (.int n), some (.int v39), some (.int x30)]) d_X10_each_73 (by decide) rfl ?_
              refine g_iinc (v := (x30 + (1 : Int32))) (L' := [some (.ref 78), some (.int k), some (.int n), some (.int v39), some (.int (x30 + (1 : Int32)))]) d_X10_each_74 rfl (by rw [kI_1]) (by decide) rfl ?_
              refine g_goto d_X10_each_77 ?_
              exact ih_35 _ (by rw [← hmu_35]; exact mu_up h40) v39 (x30 + (1 : Int32)) rfl (lo_up hl31 h40) ⟨kf0, Nat.lt_of_lt_of_le (by rw [← hmu_35]; exact mu_up h40) hkf0, hF⟩
            · skip
              replace hF := fe_neg hF h49
              refine g_iload d_X10_each_52 rfl ?_
              refine g_i2l d_X10_each_54 ?_
              refine g_iload_n d_X10_each_55 rfl ?_
              refine g_S2 d_X10_each_56 cs_X10_each_X10_has lk_RX10_149 im_X10_has (Nat.le_of_ble_eq_true rfl) ⟨rfl, rfl⟩ ⟨Nat.zero_le _, Nat.zero_le _⟩ (ct_X10_has (Int32.toInt64 x30) k I22 J23 ) (fun r56 S56 Ic41 Jc42 q56_39 => ?_)
              obtain ⟨rfl, rfl, rfl, r45, rfl, hz56, hf56_43⟩ := q56_39
              replace hF := fe_b3 hF hf56_43
              refine g_st (st' := [.int r45, .int x29]) rfl ?_
              refine g_if_eq d_X10_each_59 (fun h59 => ?_) (fun h59 => ?_)
              · skip
                replace hF := fe_pos hF h59
                refine g_iconst (v := 0) d_X10_each_71 kI_0 ?_
                refine g_iadd d_X10_each_72 ?_
                refine g_topI (fun v47 ev47 => ?_)
                replace hF := fe_lt hF ev47
                refine g_istore_n (L' := [some (.ref 78), some (.int k), some (.int n), some (.int v47), some (.int x30)]) d_X10_each_73 (by decide) rfl ?_
                refine g_iinc (v := (x30 + (1 : Int32))) (L' := [some (.ref 78), some (.int k), some (.int n), some (.int v47), some (.int (x30 + (1 : Int32)))]) d_X10_each_74 rfl (by rw [kI_1]) (by decide) rfl ?_
                refine g_goto d_X10_each_77 ?_
                exact ih_35 _ (by rw [← hmu_35]; exact mu_up h40) v47 (x30 + (1 : Int32)) rfl (lo_up hl31 h40) ⟨kf0, Nat.lt_of_lt_of_le (by rw [← hmu_35]; exact mu_up h40) hkf0, hF⟩
              · skip
                replace hF := fe_neg hF h59
                refine g_aload_n d_X10_each_62 rfl ?_
                refine g_iload d_X10_each_63 rfl ?_
                refine g_V1 d_X10_each_65 cs_X10_each_X10_oddsOf lk_RX10_363 im_X10_oddsOf se_X10_oddsOf rfl rfl rfl (Nat.le_of_ble_eq_true rfl) ⟨rfl, rfl⟩ ⟨Nat.zero_le _, Nat.zero_le _⟩ (ct_X10_oddsOf x30 I22 J23 (by grind)) (fun r65 S65 Ic49 Jc50 q65_47 => ?_)
                obtain ⟨rfl, rfl, rfl, r53, rfl, hf65_51⟩ := q65_47
                replace hF := fe_b3 hF hf65_51
                refine g_st (st' := [.int r53, .int x29]) rfl ?_
                refine g_goto d_X10_each_68 ?_
                refine g_iadd d_X10_each_72 ?_
                refine g_topI (fun v55 ev55 => ?_)
                replace hF := fe_lt hF ev55
                refine g_istore_n (L' := [some (.ref 78), some (.int k), some (.int n), some (.int v55), some (.int x30)]) d_X10_each_73 (by decide) rfl ?_
                refine g_iinc (v := (x30 + (1 : Int32))) (L' := [some (.ref 78), some (.int k), some (.int n), some (.int v55), some (.int (x30 + (1 : Int32)))]) d_X10_each_74 rfl (by rw [kI_1]) (by decide) rfl ?_
                refine g_goto d_X10_each_77 ?_
                exact ih_35 _ (by rw [← hmu_35]; exact mu_up h40) v55 (x30 + (1 : Int32)) rfl (lo_up hl31 h40) ⟨kf0, Nat.lt_of_lt_of_le (by rw [← hmu_35]; exact mu_up h40) hkf0, hF⟩
      exact K_35 _ (0 : Int32) (0 : Int32) rfl (Int32.le_refl _) ⟨_, Nat.lt_succ_self _, hF⟩
    · skip
      replace hF := fe_pos hF h19
      refine g_ldc (v := -1000000002) d_X10_each_22 tw_1199 ?_
      exact g_ireturn d_X10_each_24 rfl rfl rfl rfl ⟨rfl, trivial, (-1000000002 : Int32), rfl, hF, hK7⟩
  · skip
    replace hF := fe_pos hF h8
    refine g_ldcw (v := -1000000001) d_X10_each_11 tw_1296 ?_
    exact g_ireturn d_X10_each_14 rfl rfl rfl rfl ⟨rfl, trivial, (-1000000001 : Int32), rfl, hF, hK7⟩
noncomputable def fn_X10_tells (what : Int32) (n : Int32) (I : Iv) (J : Jv) : Int32 × Iv × Jv :=
  b_n2 (fn_X10_begin I J) (fun (I1 : Iv) (J2 : Jv) => b_n3 (fn_X10_isSign what I1 J2) (fun (r13 : Int32) (_ : Iv) (_ : Jv) => if r13 = 0 then ((-1000000001 : Int32), I1, J2) else b_n3 (fn_X10_areDays n I1 J2) (fun (r20 : Int32) (_ : Iv) (_ : Jv) => if r20 = 0 then ((-1000000002 : Int32), I1, J2) else b_n2 (fn_X10_weigh n I1 J2) (fun (I22 : Iv) (J23 : Jv) => b_n3 (fn_X10_tellsOf what I22 J23) (fun (r34 : Int32) (_ : Iv) (_ : Jv) => (r34, I22, J23))))))
set_option maxRecDepth 100000 in
set_option maxHeartbeats 4000000 in
theorem ct_X10_tells (what : Int32) (n : Int32) (I : Iv) (J : Jv) (hma : MA I) (hmj : MJ J) : Ct m_X10_tells [.ref 78, .int what, .int n] SHF I J (fun r S' I' J' => S' = SHF ∧ True ∧ ∃ v : Int32, r = some (.int v) ∧ fn_X10_tells what n I J = (v, I', J') ∧ (MI (bgI I) I' ∧ MK (bgJ I J) J')) := by
  refine ct_of 0 (by decide +kernel) rfl rfl ?_
  have hK0 : (MI I I ∧ MK J J) := ⟨mi_rfl hma, mk_rfl hmj⟩
  have hF := fe_of (fn_X10_tells.eq_1 what n I J)
  refine g_aload_n d_X10_tells_0 rfl ?_
  refine g_V0 d_X10_tells_1 cs_X10_tells_X10_begin lk_RX10_166 im_X10_begin se_X10_begin rfl rfl rfl (Nat.le_of_ble_eq_true rfl) ⟨rfl, rfl⟩ ⟨Nat.zero_le _, Nat.zero_le _⟩ (ct_X10_begin  I J hma hmj) (fun r1 S1 I1 J2 q1_2 => ?_)
  obtain ⟨rfl, hc1_3, rfl, hf1_4, hr1_5⟩ := q1_2
  replace hF := fe_b2 hF hf1_4
  refine g_st (st' := []) rfl ?_
  have hK7 : (MI (bgI I) I1 ∧ MK (bgJ I J) J2) := hr1_5
  refine g_iload_n d_X10_tells_4 rfl ?_
  refine g_S1 d_X10_tells_5 cs_X10_tells_X10_isSign lk_RX10_323 im_X10_isSign (Nat.le_of_ble_eq_true rfl) ⟨rfl, rfl⟩ ⟨Nat.zero_le _, Nat.zero_le _⟩ (ct_X10_isSign what I1 J2 ) (fun r5 S5 Ic9 Jc10 q5_7 => ?_)
  obtain ⟨rfl, rfl, rfl, r13, rfl, hz5, hf5_11, hr5_13⟩ := q5_7
  replace hF := fe_b3 hF hf5_11
  refine g_st (st' := [.int r13]) rfl ?_
  refine g_if_ne d_X10_tells_8 (fun h8 => ?_) (fun h8 => ?_)
  · skip
    replace hF := fe_neg hF h8
    refine g_iload_n d_X10_tells_15 rfl ?_
    refine g_S1 d_X10_tells_16 cs_X10_tells_X10_areDays lk_RX10_326 im_X10_areDays (Nat.le_of_ble_eq_true rfl) ⟨rfl, rfl⟩ ⟨Nat.zero_le _, Nat.zero_le _⟩ (ct_X10_areDays n I1 J2 ) (fun r16 S16 Ic16 Jc17 q16_14 => ?_)
    obtain ⟨rfl, rfl, rfl, r20, rfl, hz16, hf16_18, hr16_20⟩ := q16_14
    replace hF := fe_b3 hF hf16_18
    refine g_st (st' := [.int r20]) rfl ?_
    refine g_if_ne d_X10_tells_19 (fun h19 => ?_) (fun h19 => ?_)
    · skip
      replace hF := fe_neg hF h19
      refine g_aload_n d_X10_tells_25 rfl ?_
      refine g_iload_n d_X10_tells_26 rfl ?_
      refine g_V1 d_X10_tells_27 cs_X10_tells_X10_weigh lk_RX10_360 im_X10_weigh se_X10_weigh rfl rfl rfl (Nat.le_of_ble_eq_true rfl) ⟨rfl, rfl⟩ ⟨Nat.zero_le _, Nat.zero_le _⟩ (ct_X10_weigh n I1 J2 (hK7).1.2 (hK7).2.2 (by grind)) (fun r27 S27 I22 J23 q27_23 => ?_)
      obtain ⟨rfl, hc27_24, rfl, hf27_25, hr27_26⟩ := q27_23
      replace hF := fe_b2 hF hf27_25
      refine g_st (st' := []) rfl ?_
      have hK28 : (MI (bgI I) I22 ∧ MK (bgJ I J) J23) := ⟨mi_tr (hK7).1 hc27_24.1, mk_tr (hK7).2 hc27_24.2⟩
      refine g_aload_n d_X10_tells_30 rfl ?_
      refine g_iload_n d_X10_tells_31 rfl ?_
      refine g_V1 d_X10_tells_32 cs_X10_tells_X10_tellsOf lk_RX10_366 im_X10_tellsOf se_X10_tellsOf rfl rfl rfl (Nat.le_of_ble_eq_true rfl) ⟨rfl, rfl⟩ ⟨Nat.zero_le _, Nat.zero_le _⟩ (ct_X10_tellsOf what I22 J23 (hK28).1.2 (by grind) (by grind)) (fun r32 S32 Ic30 Jc31 q32_28 => ?_)
      obtain ⟨rfl, rfl, rfl, r34, rfl, hf32_32⟩ := q32_28
      replace hF := fe_b3 hF hf32_32
      refine g_st (st' := [.int r34]) rfl ?_
      exact g_ireturn d_X10_tells_35 rfl rfl rfl rfl ⟨rfl, trivial, r34, rfl, hF, hK28⟩
    · skip
      replace hF := fe_pos hF h19
      refine g_ldc (v := -1000000002) d_X10_tells_22 tw_1199 ?_
      exact g_ireturn d_X10_tells_24 rfl rfl rfl rfl ⟨rfl, trivial, (-1000000002 : Int32), rfl, hF, hK7⟩
  · skip
    replace hF := fe_pos hF h8
    refine g_ldcw (v := -1000000001) d_X10_tells_11 tw_1296 ?_
    exact g_ireturn d_X10_tells_14 rfl rfl rfl rfl ⟨rfl, trivial, (-1000000001 : Int32), rfl, hF, hK7⟩
noncomputable def fl_X10_next_26_0 (I15 : Iv) (J16 : Jv) (Kf0 : Int32 → Int32 → Int32 → Int32 × Iv × Jv) : Nat → Int32 → Int32 → Int32 → Int32 × Iv × Jv
  | 0, x22, x23, x24 => (0, I15, J16)
  | kf0 + 1, x22, x23, x24 => if (7 : Int32) ≤ x24 then Kf0 x22 x23 x24 else j_n (fun (w26 : Int32) => if (I15 91 x24.toNatClampNeg) = 0 then j_n (fl_X10_next_26_0 I15 J16 Kf0 kf0 x24 w26 (x24 + (1 : Int32))) (fun (j83_2 : Int32 × Iv × Jv) => if x22 < 0 then j83_2 else if w26 ≤ x23 then fl_X10_next_26_0 I15 J16 Kf0 kf0 x22 x23 (x24 + (1 : Int32)) else j83_2) else fl_X10_next_26_0 I15 J16 Kf0 kf0 x22 x23 (x24 + (1 : Int32))) (fun (j61_1 : Int32 → Int32 × Iv × Jv) => if (I15 91 x24.toNatClampNeg) = 0 then b_n3 (fn_X10_tellsOf x24 I15 J16) (fun (r32 : Int32) (_ : Iv) (_ : Jv) => j61_1 ((r32 - (I15 95 x24.toNatClampNeg)))) else j61_1 ((0 : Int32)))
noncomputable def fn_X10_next (n : Int32) (I : Iv) (J : Jv) : Int32 × Iv × Jv :=
  b_n2 (fn_X10_begin I J) (fun (I1 : Iv) (J2 : Jv) => b_n3 (fn_X10_areDays n I1 J2) (fun (r13 : Int32) (_ : Iv) (_ : Jv) => if r13 = 0 then ((-1000000002 : Int32), I1, J2) else b_n2 (fn_X10_weigh n I1 J2) (fun (I15 : Iv) (J16 : Jv) => fl_X10_next_26_0 I15 J16 (fun (x22 : Int32) (x23 : Int32) (x24 : Int32) => (x22, I15, J16)) (mU (7 : Int32) ((0 : Int32)) + 1) (-1 : Int32) (0 : Int32) (0 : Int32))))
set_option maxRecDepth 100000 in
set_option maxHeartbeats 4000000 in
theorem ct_X10_next (n : Int32) (I : Iv) (J : Jv) (hma : MA I) (hmj : MJ J) : Ct m_X10_next [.ref 78, .int n] SHF I J (fun r S' I' J' => S' = SHF ∧ True ∧ ∃ v : Int32, r = some (.int v) ∧ fn_X10_next n I J = (v, I', J') ∧ (MI (bgI I) I' ∧ MK (bgJ I J) J')) := by
  refine ct_of 4 (by decide +kernel) rfl rfl ?_
  have hK0 : (MI I I ∧ MK J J) := ⟨mi_rfl hma, mk_rfl hmj⟩
  have hF := fe_of (fn_X10_next.eq_1 n I J)
  refine g_aload_n d_X10_next_0 rfl ?_
  refine g_V0 d_X10_next_1 cs_X10_next_X10_begin lk_RX10_166 im_X10_begin se_X10_begin rfl rfl rfl (Nat.le_of_ble_eq_true rfl) ⟨rfl, rfl⟩ ⟨Nat.zero_le _, Nat.zero_le _⟩ (ct_X10_begin  I J hma hmj) (fun r1 S1 I1 J2 q1_2 => ?_)
  obtain ⟨rfl, hc1_3, rfl, hf1_4, hr1_5⟩ := q1_2
  replace hF := fe_b2 hF hf1_4
  refine g_st (st' := []) rfl ?_
  have hK7 : (MI (bgI I) I1 ∧ MK (bgJ I J) J2) := hr1_5
  refine g_iload_n d_X10_next_4 rfl ?_
  refine g_S1 d_X10_next_5 cs_X10_next_X10_areDays lk_RX10_326 im_X10_areDays (Nat.le_of_ble_eq_true rfl) ⟨rfl, rfl⟩ ⟨Nat.zero_le _, Nat.zero_le _⟩ (ct_X10_areDays n I1 J2 ) (fun r5 S5 Ic9 Jc10 q5_7 => ?_)
  obtain ⟨rfl, rfl, rfl, r13, rfl, hz5, hf5_11, hr5_13⟩ := q5_7
  replace hF := fe_b3 hF hf5_11
  refine g_st (st' := [.int r13]) rfl ?_
  refine g_if_ne d_X10_next_8 (fun h8 => ?_) (fun h8 => ?_)
  · skip
    replace hF := fe_neg hF h8
    refine g_aload_n d_X10_next_14 rfl ?_
    refine g_iload_n d_X10_next_15 rfl ?_
    refine g_V1 d_X10_next_16 cs_X10_next_X10_weigh lk_RX10_360 im_X10_weigh se_X10_weigh rfl rfl rfl (Nat.le_of_ble_eq_true rfl) ⟨rfl, rfl⟩ ⟨Nat.zero_le _, Nat.zero_le _⟩ (ct_X10_weigh n I1 J2 (hK7).1.2 (hK7).2.2 (by grind)) (fun r16 S16 I15 J16 q16_16 => ?_)
    obtain ⟨rfl, hc16_17, rfl, hf16_18, hr16_19⟩ := q16_16
    replace hF := fe_b2 hF hf16_18
    refine g_st (st' := []) rfl ?_
    have hK21 : (MI (bgI I) I15 ∧ MK (bgJ I J) J16) := ⟨mi_tr (hK7).1 hc16_17.1, mk_tr (hK7).2 hc16_17.2⟩
    refine g_iconst (v := -1) d_X10_next_19 kI_m1 ?_
    refine g_istore_n (L' := [some (.ref 78), some (.int n), some (.int (-1 : Int32)), none, none, none]) d_X10_next_20 (by decide) rfl ?_
    refine g_iconst (v := 0) d_X10_next_21 kI_0 ?_
    refine g_istore_n (L' := [some (.ref 78), some (.int n), some (.int (-1 : Int32)), some (.int (0 : Int32)), none, none]) d_X10_next_22 (by decide) rfl ?_
    refine g_iconst (v := 0) d_X10_next_23 kI_0 ?_
    refine g_istore (L' := [some (.ref 78), some (.int n), some (.int (-1 : Int32)), some (.int (0 : Int32)), some (.int (0 : Int32)), none]) d_X10_next_24 (by decide) rfl ?_
    obtain ⟨Kf0, hKf0, hF⟩ := fe_kx (f := fun K => fl_X10_next_26_0 I15 J16 K (mU (7 : Int32) ((0 : Int32)) + 1) (-1 : Int32) (0 : Int32) (0 : Int32)) hF
    have K_26 : ∀ (nu : Nat) (x22 : Int32) (x23 : Int32) (x24 : Int32), mU (7 : Int32) x24 = nu → ((0 : Int32) ≤ x24) → (∃ kq : Nat, nu < kq ∧ (fun kq => FE (fn_X10_next n I J) (fun _ => fl_X10_next_26_0 I15 J16 Kf0 kq x22 x23 x24)) kq) → G m_X10_next (rq m_X10_next (fun r S' I' J' => S' = SHF ∧ True ∧ ∃ v : Int32, r = some (.int v) ∧ fn_X10_next n I J = (v, I', J') ∧ (MI (bgI I) I' ∧ MK (bgJ I J) J'))) 0 0 26 [some (.ref 78), some (.int n), some (.int x22), some (.int x23), some (.int x24), none] [] SHF I15 J16 := by
      intro nu
      induction nu using Nat.strongRecOn with
      | ind nu ih_26 =>
        intro x22 x23 x24 hmu_26 hl25 hF_Kf0
        obtain ⟨kf0, hkf0, hF⟩ := fe_fu (P := fun kq => FE (fn_X10_next n I J) (fun _ => fl_X10_next_26_0 I15 J16 Kf0 kq x22 x23 x24)) hF_Kf0
        replace hF := fe_eq hF (fl_X10_next_26_0.eq_2 _ _ _ _ _ _ _)
        refine g_iload d_X10_next_26 rfl ?_
        refine g_bipush (v := 7) d_X10_next_28 kB_7 ?_
        refine g_icmp_ge d_X10_next_30 (fun h30 => ?_) (fun h30 => ?_)
        · skip
          replace hF := fe_pos hF h30
          replace hF := fe_eq hF (congrFun (congrFun (congrFun hKf0 x22) x23) x24)
          refine g_iload_n d_X10_next_95 rfl ?_
          exact g_ireturn d_X10_next_96 rfl rfl rfl rfl ⟨rfl, trivial, x22, rfl, hF, hK21⟩
        · skip
          replace hF := fe_neg hF h30
          refine g_aload_n d_X10_next_33 rfl ?_
          refine g_getR d_X10_next_34 fq_RX10_52 rfl rfl ?_
          refine g_iload d_X10_next_37 rfl ?_
          refine g_baload (N := 7) d_X10_next_39 rfl kT_7 ⟨hl25, Int32.not_le.mp h30⟩ rfl (fun hz39 => ?_)
          obtain ⟨j61_1, hj61_1, hF⟩ := fe_jx hF
          have J_61 : ∀ (w26 : Int32), (FE (fn_X10_next n I J) (fun _ => j61_1 w26)) → G m_X10_next (rq m_X10_next (fun r S' I' J' => S' = SHF ∧ True ∧ ∃ v : Int32, r = some (.int v) ∧ fn_X10_next n I J = (v, I', J') ∧ (MI (bgI I) I' ∧ MK (bgJ I J) J'))) 0 0 61 [some (.ref 78), some (.int n), some (.int x22), some (.int x23), some (.int x24), none] [.int w26] SHF I15 J16 := by
            intro w26 hF_j61_1
            have hF := fe_eq hF_j61_1 (congrFun hj61_1 w26)
            refine g_istore (L' := [some (.ref 78), some (.int n), some (.int x22), some (.int x23), some (.int x24), some (.int w26)]) d_X10_next_61 (by decide) rfl ?_
            refine g_aload_n d_X10_next_63 rfl ?_
            refine g_getR d_X10_next_64 fq_RX10_52 rfl rfl ?_
            refine g_iload d_X10_next_67 rfl ?_
            refine g_baload (N := 7) d_X10_next_69 rfl kT_7 ⟨hl25, Int32.not_le.mp h30⟩ rfl (fun hz69 => ?_)
            refine g_if_ne d_X10_next_70 (fun h70 => ?_) (fun h70 => ?_)
            · skip
              replace hF := fe_neg hF h70
              refine g_iinc (v := (x24 + (1 : Int32))) (L' := [some (.ref 78), some (.int n), some (.int x22), some (.int x23), some (.int (x24 + (1 : Int32))), some (.int w26)]) d_X10_next_89 rfl (by rw [kI_1]) (by decide) rfl ?_
              refine g_goto d_X10_next_92 ?_
              refine g_sb [some (.ref 78), some (.int n), some (.int x22), some (.int x23), some (.int (x24 + (1 : Int32))), none] (by simp [subL]) ?_
              exact ih_26 _ (by rw [← hmu_26]; exact mu_up h30) x22 x23 (x24 + (1 : Int32)) rfl (lo_up hl25 h30) ⟨kf0, Nat.lt_of_lt_of_le (by rw [← hmu_26]; exact mu_up h30) hkf0, hF⟩
            · skip
              replace hF := fe_pos hF h70
              refine g_iload_n d_X10_next_73 rfl ?_
              obtain ⟨j83_2, hj83_2, hF⟩ := fe_jx hF
              have J_83 : (FE (fn_X10_next n I J) (fun _ => j83_2)) → G m_X10_next (rq m_X10_next (fun r S' I' J' => S' = SHF ∧ True ∧ ∃ v : Int32, r = some (.int v) ∧ fn_X10_next n I J = (v, I', J') ∧ (MI (bgI I) I' ∧ MK (bgJ I J) J'))) 0 0 83 [some (.ref 78), some (.int n), some (.int x22), some (.int x23), some (.int x24), some (.int w26)] [] SHF I15 J16 := by
                intro hF_j83_2
                have hF := fe_eq hF_j83_2 hj83_2
                refine g_iload d_X10_next_83 rfl ?_
                refine g_istore_n (L' := [some (.ref 78), some (.int n), some (.int x24), some (.int x23), some (.int x24), some (.int w26)]) d_X10_next_85 (by decide) rfl ?_
                refine g_iload d_X10_next_86 rfl ?_
                refine g_istore_n (L' := [some (.ref 78), some (.int n), some (.int x24), some (.int w26), some (.int x24), some (.int w26)]) d_X10_next_88 (by decide) rfl ?_
                refine g_iinc (v := (x24 + (1 : Int32))) (L' := [some (.ref 78), some (.int n), some (.int x24), some (.int w26), some (.int (x24 + (1 : Int32))), some (.int w26)]) d_X10_next_89 rfl (by rw [kI_1]) (by decide) rfl ?_
                refine g_goto d_X10_next_92 ?_
                refine g_sb [some (.ref 78), some (.int n), some (.int x24), some (.int w26), some (.int (x24 + (1 : Int32))), none] (by simp [subL]) ?_
                exact ih_26 _ (by rw [← hmu_26]; exact mu_up h30) x24 w26 (x24 + (1 : Int32)) rfl (lo_up hl25 h30) ⟨kf0, Nat.lt_of_lt_of_le (by rw [← hmu_26]; exact mu_up h30) hkf0, hF⟩
              refine g_if_lt d_X10_next_74 (fun h74 => ?_) (fun h74 => ?_)
              · skip
                replace hF := fe_pos hF h74
                exact J_83 hF
              · skip
                replace hF := fe_neg hF h74
                refine g_iload d_X10_next_77 rfl ?_
                refine g_iload_n d_X10_next_79 rfl ?_
                refine g_icmp_le d_X10_next_80 (fun h80 => ?_) (fun h80 => ?_)
                · skip
                  replace hF := fe_pos hF h80
                  refine g_iinc (v := (x24 + (1 : Int32))) (L' := [some (.ref 78), some (.int n), some (.int x22), some (.int x23), some (.int (x24 + (1 : Int32))), some (.int w26)]) d_X10_next_89 rfl (by rw [kI_1]) (by decide) rfl ?_
                  refine g_goto d_X10_next_92 ?_
                  refine g_sb [some (.ref 78), some (.int n), some (.int x22), some (.int x23), some (.int (x24 + (1 : Int32))), none] (by simp [subL]) ?_
                  exact ih_26 _ (by rw [← hmu_26]; exact mu_up h30) x22 x23 (x24 + (1 : Int32)) rfl (lo_up hl25 h30) ⟨kf0, Nat.lt_of_lt_of_le (by rw [← hmu_26]; exact mu_up h30) hkf0, hF⟩
                · skip
                  replace hF := fe_neg hF h80
                  exact J_83 hF
          refine g_if_eq d_X10_next_40 (fun h40 => ?_) (fun h40 => ?_)
          · skip
            replace hF := fe_pos hF h40
            refine g_aload_n d_X10_next_47 rfl ?_
            refine g_iload d_X10_next_48 rfl ?_
            refine g_V1 d_X10_next_50 cs_X10_next_X10_tellsOf lk_RX10_366 im_X10_tellsOf se_X10_tellsOf rfl rfl rfl (Nat.le_of_ble_eq_true rfl) ⟨rfl, rfl⟩ ⟨Nat.zero_le _, Nat.zero_le _⟩ (ct_X10_tellsOf x24 I15 J16 (hK21).1.2 (by grind) (by grind)) (fun r50 S50 Ic28 Jc29 q50_26 => ?_)
            obtain ⟨rfl, rfl, rfl, r32, rfl, hf50_30⟩ := q50_26
            replace hF := fe_b3 hF hf50_30
            refine g_st (st' := [.int r32]) rfl ?_
            refine g_aload_n d_X10_next_53 rfl ?_
            refine g_getR d_X10_next_54 fq_RX10_64 rfl rfl ?_
            refine g_iload d_X10_next_57 rfl ?_
            refine g_iaload (N := 7) d_X10_next_59 rfl kT_7 ⟨hl25, Int32.not_le.mp h30⟩ rfl ?_
            refine g_isub d_X10_next_60 ?_
            exact J_61 ((r32 - (I15 95 x24.toNatClampNeg))) hF
          · skip
            replace hF := fe_neg hF h40
            refine g_iconst (v := 0) d_X10_next_43 kI_0 ?_
            refine g_goto d_X10_next_44 ?_
            exact J_61 ((0 : Int32)) hF
    exact K_26 _ (-1 : Int32) (0 : Int32) (0 : Int32) rfl (Int32.le_refl _) ⟨_, Nat.lt_succ_self _, hF⟩
  · skip
    replace hF := fe_pos hF h8
    refine g_ldc (v := -1000000002) d_X10_next_11 tw_1199 ?_
    exact g_ireturn d_X10_next_13 rfl rfl rfl rfl ⟨rfl, trivial, (-1000000002 : Int32), rfl, hF, hK7⟩
noncomputable def fl_X10_makes_35_0 (what : Int32) (I1 : Iv) (Kf0 : Int32 → Jv → Int32 × Iv × Jv) : Nat → Int32 → Jv → Int32 × Iv × Jv
  | 0, x29, J30 => (0, I1, J30)
  | kf0 + 1, x29, J30 => if (30 : Int32) < x29 then Kf0 x29 J30 else l_t ((J30 79 145)) (fun (v33 : Int64) => b_n2 (fn_X10_go (80 : Int32) (288 : Int32) I1 J30) (fun (_ : Iv) (J34 : Jv) => if what = 0 then if (J34 79 133) < (600 : Int64) then fl_X10_makes_35_0 what I1 Kf0 kf0 (x29 + (1 : Int32)) J34 else (x29, I1, J34) else if ((J34 79 145) - v33) = (288 : Int64) then (x29, I1, J34) else fl_X10_makes_35_0 what I1 Kf0 kf0 (x29 + (1 : Int32)) J34))
noncomputable def fn_X10_makes (set : Int32) (what : Int32) (I : Iv) (J : Jv) : Int32 × Iv × Jv :=
  b_n2 (fn_X10_begin I J) (fun (I1 : Iv) (J2 : Jv) => b_n3 (fn_X10_isSet set I1 J2) (fun (r13 : Int32) (_ : Iv) (_ : Jv) => if r13 = 0 then ((-1000000001 : Int32), I1, J2) else b_n3 (fn_X10_in (Int32.toInt64 what) (0 : Int64) (1 : Int64) I1 J2) (fun (r20 : Int32) (_ : Iv) (_ : Jv) => if r20 = 0 then ((-1000000002 : Int32), I1, J2) else b_n2 (fn_X10_tryFresh set I1 J2) (fun (_ : Iv) (J22 : Jv) => fl_X10_makes_35_0 what I1 (fun (x29 : Int32) (J30 : Jv) => ((-1 : Int32), I1, J30)) (mUe (30 : Int32) ((1 : Int32)) + 1) (1 : Int32) J22))))
set_option maxRecDepth 100000 in
set_option maxHeartbeats 4000000 in
theorem ct_X10_makes (set : Int32) (what : Int32) (I : Iv) (J : Jv) (hma : MA I) (hmj : MJ J) : Ct m_X10_makes [.ref 78, .int set, .int what] SHF I J (fun r S' I' J' => S' = SHF ∧ True ∧ ∃ v : Int32, r = some (.int v) ∧ fn_X10_makes set what I J = (v, I', J') ∧ (MI (bgI I) I' ∧ MK (bgJ I J) J')) := by
  refine ct_of 3 (by decide +kernel) rfl rfl ?_
  have hK0 : (MI I I ∧ MK J J) := ⟨mi_rfl hma, mk_rfl hmj⟩
  have hF := fe_of (fn_X10_makes.eq_1 set what I J)
  refine g_aload_n d_X10_makes_0 rfl ?_
  refine g_V0 d_X10_makes_1 cs_X10_makes_X10_begin lk_RX10_166 im_X10_begin se_X10_begin rfl rfl rfl (Nat.le_of_ble_eq_true rfl) ⟨rfl, rfl⟩ ⟨Nat.zero_le _, Nat.zero_le _⟩ (ct_X10_begin  I J hma hmj) (fun r1 S1 I1 J2 q1_2 => ?_)
  obtain ⟨rfl, hc1_3, rfl, hf1_4, hr1_5⟩ := q1_2
  replace hF := fe_b2 hF hf1_4
  refine g_st (st' := []) rfl ?_
  have hK7 : (MI (bgI I) I1 ∧ MK (bgJ I J) J2) := hr1_5
  refine g_iload_n d_X10_makes_4 rfl ?_
  refine g_S1 d_X10_makes_5 cs_X10_makes_X10_isSet lk_RX10_259 im_X10_isSet (Nat.le_of_ble_eq_true rfl) ⟨rfl, rfl⟩ ⟨Nat.zero_le _, Nat.zero_le _⟩ (ct_X10_isSet set I1 J2 ) (fun r5 S5 Ic9 Jc10 q5_7 => ?_)
  obtain ⟨rfl, rfl, rfl, r13, rfl, hz5, hf5_11, hr5_13⟩ := q5_7
  replace hF := fe_b3 hF hf5_11
  refine g_st (st' := [.int r13]) rfl ?_
  refine g_if_ne d_X10_makes_8 (fun h8 => ?_) (fun h8 => ?_)
  · skip
    replace hF := fe_neg hF h8
    refine g_iload_n d_X10_makes_15 rfl ?_
    refine g_i2l d_X10_makes_16 ?_
    refine g_lconst d_X10_makes_17 kL_0 ?_
    refine g_lconst d_X10_makes_18 kL_1 ?_
    refine g_S3 d_X10_makes_19 cs_X10_makes_X10_in lk_RX10_96 im_X10_in (Nat.le_of_ble_eq_true rfl) ⟨rfl, rfl⟩ ⟨Nat.zero_le _, Nat.zero_le _⟩ (ct_X10_inL what (0 : Int64) (1 : Int64) (0 : Int32) (1 : Int32) (by decide) (by decide) I1 J2) (fun r19 S19 Ic16 Jc17 q19_14 => ?_)
    obtain ⟨rfl, rfl, rfl, r20, rfl, hz19, hf19_18, hr19_20⟩ := q19_14
    replace hF := fe_b3 hF hf19_18
    refine g_st (st' := [.int r20]) rfl ?_
    refine g_if_ne d_X10_makes_22 (fun h22 => ?_) (fun h22 => ?_)
    · skip
      replace hF := fe_neg hF h22
      refine g_aload_n d_X10_makes_28 rfl ?_
      refine g_iload_n d_X10_makes_29 rfl ?_
      refine g_V1 d_X10_makes_30 cs_X10_makes_X10_tryFresh lk_RX10_317 im_X10_tryFresh se_X10_tryFresh rfl rfl rfl (Nat.le_of_ble_eq_true rfl) ⟨rfl, rfl⟩ ⟨Nat.zero_le _, Nat.zero_le _⟩ (ct_X10_tryFresh set I1 J2 ) (fun r30 S30 Ic24 J22 q30_22 => ?_)
      obtain ⟨rfl, ⟨rfl, hc30_24⟩, rfl, hf30_25, hr30_26⟩ := q30_22
      replace hF := fe_b2 hF hf30_25
      refine g_st (st' := []) rfl ?_
      have hK28 : (MI (bgI I) I1 ∧ MK (bgJ I J) J22) := ⟨(hK7).1, try_mk (hK7).2 hr30_26⟩
      refine g_iconst (v := 1) d_X10_makes_33 kI_1 ?_
      refine g_istore_n (L' := [some (.ref 78), some (.int set), some (.int what), some (.int (1 : Int32)), none, none]) d_X10_makes_34 (by decide) rfl ?_
      obtain ⟨Kf0, hKf0, hF⟩ := fe_kx (f := fun K => fl_X10_makes_35_0 what I1 K (mUe (30 : Int32) ((1 : Int32)) + 1) (1 : Int32) J22) hF
      have K_35 : ∀ (nu : Nat) (x29 : Int32) (J30 : Jv), mUe (30 : Int32) x29 = nu → ((MI (bgI I) I1 ∧ MK (bgJ I J) J30)) → ((1 : Int32) ≤ x29) → (∃ kq : Nat, nu < kq ∧ (fun kq => FE (fn_X10_makes set what I J) (fun _ => fl_X10_makes_35_0 what I1 Kf0 kq x29 J30)) kq) → G m_X10_makes (rq m_X10_makes (fun r S' I' J' => S' = SHF ∧ True ∧ ∃ v : Int32, r = some (.int v) ∧ fn_X10_makes set what I J = (v, I', J') ∧ (MI (bgI I) I' ∧ MK (bgJ I J) J'))) 0 0 35 [some (.ref 78), some (.int set), some (.int what), some (.int x29), none, none] [] SHF I1 J30 := by
        intro nu
        induction nu using Nat.strongRecOn with
        | ind nu ih_35 =>
          intro x29 J30 hmu_35 hK31 hl32 hF_Kf0
          obtain ⟨kf0, hkf0, hF⟩ := fe_fu (P := fun kq => FE (fn_X10_makes set what I J) (fun _ => fl_X10_makes_35_0 what I1 Kf0 kq x29 J30)) hF_Kf0
          replace hF := fe_eq hF (fl_X10_makes_35_0.eq_2 _ _ _ _ _ _)
          refine g_iload_n d_X10_makes_35 rfl ?_
          refine g_bipush (v := 30) d_X10_makes_36 kB_30 ?_
          refine g_icmp_gt d_X10_makes_38 (fun h38 => ?_) (fun h38 => ?_)
          · skip
            replace hF := fe_pos hF h38
            replace hF := fe_eq hF (congrFun (congrFun hKf0 x29) J30)
            refine g_iconst (v := -1) d_X10_makes_108 kI_m1 ?_
            exact g_ireturn d_X10_makes_109 rfl rfl rfl rfl ⟨rfl, trivial, (-1 : Int32), rfl, hF, hK31⟩
          · skip
            replace hF := fe_neg hF h38
            refine g_aload_n d_X10_makes_41 rfl ?_
            refine g_getR d_X10_makes_42 fq_RX10_7 rfl rfl ?_
            refine g_sipush (v := 145) d_X10_makes_45 kS_145 ?_
            refine g_laload (N := 320) d_X10_makes_48 rfl kT_320 ⟨by decide, by decide⟩ kN_145 ?_
            refine g_topJ (fun v33 ev33 => ?_)
            replace hF := fe_lt hF ev33
            refine g_lstore (L' := [some (.ref 78), some (.int set), some (.int what), some (.int x29), some (.long v33), none]) d_X10_makes_49 (by decide) rfl ?_
            refine g_aload_n d_X10_makes_51 rfl ?_
            refine g_bipush (v := 80) d_X10_makes_52 kB_80 ?_
            refine g_sipush (v := 288) d_X10_makes_54 kS_288 ?_
            refine g_V2 d_X10_makes_57 cs_X10_makes_X10_go lk_RX10_289 im_X10_go se_X10_go rfl rfl rfl (Nat.le_of_ble_eq_true rfl) ⟨rfl, rfl⟩ ⟨Nat.zero_le _, Nat.zero_le _⟩ (ct_X10_go (80 : Int32) (288 : Int32) I1 J30 (by decide) ((hK31).2.2 _ (by decide)).2.1 ((hK31).2.2 _ (by decide)).1 ((hK31).1.2.2.1) (by grind) ((hK31).1.2.2.2.1) ((hK31).1.2.2.2.2.1)) (fun r57 S57 Ic36 J34 q57_34 => ?_)
            obtain ⟨rfl, ⟨rfl, hc57_36⟩, rfl, hf57_37, hr57_38⟩ := q57_34
            replace hF := fe_b2 hF hf57_37
            refine g_st (st' := []) rfl ?_
            have hK40 : (MI (bgI I) I1 ∧ MK (bgJ I J) J34) := ⟨(hK31).1, tg_mk80 (hK31).2 hc57_36⟩
            refine g_iload_n d_X10_makes_60 rfl ?_
            refine g_if_ne d_X10_makes_61 (fun h61 => ?_) (fun h61 => ?_)
            · skip
              replace hF := fe_neg hF h61
              refine g_aload_n d_X10_makes_82 rfl ?_
              refine g_getR d_X10_makes_83 fq_RX10_7 rfl rfl ?_
              refine g_sipush (v := 145) d_X10_makes_86 kS_145 ?_
              refine g_laload (N := 320) d_X10_makes_89 rfl kT_320 ⟨by decide, by decide⟩ kN_145 ?_
              refine g_lload d_X10_makes_90 rfl ?_
              refine g_lsub d_X10_makes_92 ?_
              refine g_ldc2 (v := 288) d_X10_makes_93 tw_1370 ?_
              refine g_lcmp_ne d_X10_makes_96 d_X10_makes_97 (fun h97 => ?_) (fun h97 => ?_)
              · skip
                replace hF := fe_neg hF h97
                refine g_iinc (v := (x29 + (1 : Int32))) (L' := [some (.ref 78), some (.int set), some (.int what), some (.int (x29 + (1 : Int32))), some (.long v33), none]) d_X10_makes_102 rfl (by rw [kI_1]) (by decide) rfl ?_
                refine g_goto d_X10_makes_105 ?_
                refine g_sb [some (.ref 78), some (.int set), some (.int what), some (.int (x29 + (1 : Int32))), none, none] (by simp [subL]) ?_
                exact ih_35 _ (by rw [← hmu_35]; exact mu_upe h38 (by decide)) (x29 + (1 : Int32)) J34 rfl hK40 (lo_upe hl32 h38 (by decide)) ⟨kf0, Nat.lt_of_lt_of_le (by rw [← hmu_35]; exact mu_upe h38 (by decide)) hkf0, hF⟩
              · skip
                replace hF := fe_pos hF h97
                refine g_iload_n d_X10_makes_100 rfl ?_
                exact g_ireturn d_X10_makes_101 rfl rfl rfl rfl ⟨rfl, trivial, x29, rfl, hF, hK40⟩
            · skip
              replace hF := fe_pos hF h61
              refine g_aload_n d_X10_makes_64 rfl ?_
              refine g_getR d_X10_makes_65 fq_RX10_7 rfl rfl ?_
              refine g_sipush (v := 133) d_X10_makes_68 kS_133 ?_
              refine g_laload (N := 320) d_X10_makes_71 rfl kT_320 ⟨by decide, by decide⟩ kN_133 ?_
              refine g_ldc2 (v := 600) d_X10_makes_72 tw_1222 ?_
              refine g_lcmp_lt d_X10_makes_75 d_X10_makes_76 (fun h76 => ?_) (fun h76 => ?_)
              · skip
                replace hF := fe_pos hF h76
                refine g_iinc (v := (x29 + (1 : Int32))) (L' := [some (.ref 78), some (.int set), some (.int what), some (.int (x29 + (1 : Int32))), some (.long v33), none]) d_X10_makes_102 rfl (by rw [kI_1]) (by decide) rfl ?_
                refine g_goto d_X10_makes_105 ?_
                refine g_sb [some (.ref 78), some (.int set), some (.int what), some (.int (x29 + (1 : Int32))), none, none] (by simp [subL]) ?_
                exact ih_35 _ (by rw [← hmu_35]; exact mu_upe h38 (by decide)) (x29 + (1 : Int32)) J34 rfl hK40 (lo_upe hl32 h38 (by decide)) ⟨kf0, Nat.lt_of_lt_of_le (by rw [← hmu_35]; exact mu_upe h38 (by decide)) hkf0, hF⟩
              · skip
                replace hF := fe_neg hF h76
                refine g_goto d_X10_makes_79 ?_
                refine g_iload_n d_X10_makes_100 rfl ?_
                exact g_ireturn d_X10_makes_101 rfl rfl rfl rfl ⟨rfl, trivial, x29, rfl, hF, hK40⟩
      exact K_35 _ (1 : Int32) J22 rfl hK28 (Int32.le_refl _) ⟨_, Nat.lt_succ_self _, hF⟩
    · skip
      replace hF := fe_pos hF h22
      refine g_ldc (v := -1000000002) d_X10_makes_25 tw_1199 ?_
      exact g_ireturn d_X10_makes_27 rfl rfl rfl rfl ⟨rfl, trivial, (-1000000002 : Int32), rfl, hF, hK7⟩
  · skip
    replace hF := fe_pos hF h8
    refine g_ldcw (v := -1000000001) d_X10_makes_11 tw_1296 ?_
    exact g_ireturn d_X10_makes_14 rfl rfl rfl rfl ⟨rfl, trivial, (-1000000001 : Int32), rfl, hF, hK7⟩
