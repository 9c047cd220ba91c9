noncomputable def fl_X6_becomeFresh_49_1 (o : Nat) (Kf1 : Int32 → Iv → Jv → Iv × Jv) : Nat → Int32 → Iv → Jv → Iv × Jv
  | 0, x10, I11, J12 => (I11, J12)
  | kf1 + 1, x10, I11, J12 => if (8 : Int32) ≤ x10 then Kf1 x10 I11 J12 else l_t (wI I11 (o + 3) (x10.toNatClampNeg) (0 : Int32)) (fun (I46 : Iv) => l_t (wJ J12 (o + 1) ((((4 : Int32) + x10)).toNatClampNeg) (0 : Int64)) (fun (J48 : Jv) => fl_X6_becomeFresh_49_1 o Kf1 kf1 (x10 + (1 : Int32)) I46 J48))
noncomputable def fl_X6_becomeFresh_2_0 (o : Nat) (Kf0 : Int32 → Iv → Jv → Iv × Jv) : Nat → Int32 → Iv → Jv → Iv × Jv
  | 0, x1, I2, J3 => (I2, J3)
  | kf0 + 1, x1, I2, J3 => if (3 : Int32) ≤ x1 then Kf0 x1 I2 J3 else l_t (wI I2 (o + 2) (x1.toNatClampNeg) (20 : Int32)) (fun (I50 : Iv) => l_t (wJ J3 (o + 1) (x1.toNatClampNeg) (10000 : Int64)) (fun (J52 : Jv) => fl_X6_becomeFresh_2_0 o Kf0 kf0 (x1 + (1 : Int32)) I50 J52))
noncomputable def fn_X6_becomeFresh (o : Nat) (I : Iv) (J : Jv) : Iv × Jv :=
  fl_X6_becomeFresh_2_0 o (fun (x1 : Int32) (I2 : Iv) (J3 : Jv) => l_t (wI I2 (o + 2) 3 (40 : Int32)) (fun (I6 : Iv) => l_t (wJ J3 (o + 1) 3 (-40000 : Int64)) (fun (J8 : Jv) => fl_X6_becomeFresh_49_1 o (fun (x10 : Int32) (I11 : Iv) (J12 : Jv) => l_t (cJ J12 (o + 7) 6 (fun _ => (0 : Int64))) (fun (J16 : Jv) => l_t I11 (fun (I15 : Iv) => l_t (cI I15 (o + 8) 8 (fun _ => (0 : Int32))) (fun (I22 : Iv) => l_t J16 (fun (J23 : Jv) => b_n3 (fn_X6_has o (2 : Int32) I22 J23) (fun (r34 : Int32) (_ : Iv) (_ : Jv) => j_n (fun (I36 : Iv) => l_t (wI I36 o 9 (500 : Int32)) (fun (I38 : Iv) => l_t (wI I38 o 10 (0 : Int32)) (fun (I40 : Iv) => l_t (wI I40 o 11 (0 : Int32)) (fun (I42 : Iv) => (I42, J23))))) (fun (j110_2 : Iv → Iv × Jv) => if r34 = 0 then j110_2 I22 else l_t (wI I22 (o + 8) 5 (600 : Int32)) (fun (I44 : Iv) => j110_2 I44)))))))) (mU (8 : Int32) ((0 : Int32)) + 1) (0 : Int32) I6 J8))) (mU (3 : Int32) ((0 : Int32)) + 1) (0 : Int32) I J
set_option maxRecDepth 100000 in
set_option maxHeartbeats 4000000 in
theorem ct_X6_becomeFresh {o : Nat} (I : Iv) (J : Jv) (ho : StA o) : Ct m_X6_becomeFresh [.ref o] SHF I J (fun r S' I' J' => S' = SHF ∧ FSx o I J I' J' ∧ r = none ∧ fn_X6_becomeFresh o I J = (I', J') ∧ I' (o + 8) 0 = 0) := by
  refine ct_of 1 (by decide +kernel) rfl rfl ?_
  have hK0 : FSx o I J I J := fsx_rfl
  have hF := fe_of (fn_X6_becomeFresh.eq_1 o I J)
  refine g_iconst (v := 0) d_X6_becomeFresh_0 kI_0 ?_
  refine g_istore_n (L' := [some (.ref o), some (.int (0 : Int32))]) d_X6_becomeFresh_1 (by decide) rfl ?_
  obtain ⟨Kf0, hKf0, hF⟩ := fe_kx (f := fun K => fl_X6_becomeFresh_2_0 o K (mU (3 : Int32) ((0 : Int32)) + 1) (0 : Int32) I J) hF
  have K_2 : ∀ (nu : Nat) (x1 : Int32) (I2 : Iv) (J3 : Jv), mU (3 : Int32) x1 = nu → (FSx o I J I2 J3) → ((0 : Int32) ≤ x1) → (∃ kq : Nat, nu < kq ∧ (fun kq => FE (fn_X6_becomeFresh o I J) (fun _ => fl_X6_becomeFresh_2_0 o Kf0 kq x1 I2 J3)) kq) → G m_X6_becomeFresh (rq m_X6_becomeFresh (fun r S' I' J' => S' = SHF ∧ FSx o I J I' J' ∧ r = none ∧ fn_X6_becomeFresh o I J = (I', J') ∧ I' (o + 8) 0 = 0)) 0 0 2 [some (.ref o), some (.int x1)] [] SHF I2 J3 := by
    intro nu
    induction nu using Nat.strongRecOn with
    | ind nu ih_2 =>
      intro x1 I2 J3 hmu_2 hK4 hl5 hF_Kf0
      obtain ⟨kf0, hkf0, hF⟩ := fe_fu (P := fun kq => FE (fn_X6_becomeFresh o I J) (fun _ => fl_X6_becomeFresh_2_0 o Kf0 kq x1 I2 J3)) hF_Kf0
      replace hF := fe_eq hF (fl_X6_becomeFresh_2_0.eq_2 _ _ _ _ _ _)
      refine g_iload_n d_X6_becomeFresh_2 rfl ?_
      refine g_iconst (v := 3) d_X6_becomeFresh_3 kI_3 ?_
      refine g_icmp_ge d_X6_becomeFresh_4 (fun h4 => ?_) (fun h4 => ?_)
      · skip
        replace hF := fe_pos hF h4
        replace hF := fe_eq hF (congrFun (congrFun (congrFun hKf0 x1) I2) J3)
        refine g_aload_n d_X6_becomeFresh_30 rfl ?_
        refine g_getR d_X6_becomeFresh_31 fq_RX6_15 (sa0 ho) rfl ?_
        refine g_iconst (v := 3) d_X6_becomeFresh_34 kI_3 ?_
        refine g_bipush (v := 40) d_X6_becomeFresh_35 kB_40 ?_
        refine g_iastore (N := 12) d_X6_becomeFresh_37 (sa2 ho) kT_12 ⟨by decide, by decide⟩ kN_3  ?_
        refine g_nmI (fun I6 eI6 => ?_)
        replace hF := fe_lt hF eI6
        have hK7 : FSx o I J I6 J3 := (by rw [eI6]; exact fsx_wI ho hK4 (by omega))
        refine g_aload_n d_X6_becomeFresh_38 rfl ?_
        refine g_getR d_X6_becomeFresh_39 fq_RX6_9 (sa0 ho) rfl ?_
        refine g_iconst (v := 3) d_X6_becomeFresh_42 kI_3 ?_
        refine g_ldc2 (v := -40000) d_X6_becomeFresh_43 tw_343 ?_
        refine g_lastore (N := 12) d_X6_becomeFresh_46 (sa1 ho) kT_12 ⟨by decide, by decide⟩ kN_3  ?_
        refine g_nmJ (fun J8 eJ8 => ?_)
        replace hF := fe_lt hF eJ8
        have hK9 : FSx o I J I6 J8 := (by rw [eJ8]; exact fsx_wJ hK7 (by omega))
        refine g_iconst (v := 0) d_X6_becomeFresh_47 kI_0 ?_
        refine g_istore_n (L' := [some (.ref o), some (.int (0 : Int32))]) d_X6_becomeFresh_48 (by decide) rfl ?_
        obtain ⟨Kf1, hKf1, hF⟩ := fe_kx (f := fun K => fl_X6_becomeFresh_49_1 o K (mU (8 : Int32) ((0 : Int32)) + 1) (0 : Int32) I6 J8) hF
        have K_49 : ∀ (nu : Nat) (x10 : Int32) (I11 : Iv) (J12 : Jv), mU (8 : Int32) x10 = nu → (FSx o I J I11 J12) → ((0 : Int32) ≤ x10) → (∃ kq : Nat, nu < kq ∧ (fun kq => FE (fn_X6_becomeFresh o I J) (fun _ => fl_X6_becomeFresh_49_1 o Kf1 kq x10 I11 J12)) kq) → G m_X6_becomeFresh (rq m_X6_becomeFresh (fun r S' I' J' => S' = SHF ∧ FSx o I J I' J' ∧ r = none ∧ fn_X6_becomeFresh o I J = (I', J') ∧ I' (o + 8) 0 = 0)) 0 0 49 [some (.ref o), some (.int x10)] [] SHF I11 J12 := by
          intro nu
          induction nu using Nat.strongRecOn with
          | ind nu ih_49 =>
            intro x10 I11 J12 hmu_49 hK13 hl14 hF_Kf1
            obtain ⟨kf1, hkf1, hF⟩ := fe_fu (P := fun kq => FE (fn_X6_becomeFresh o I J) (fun _ => fl_X6_becomeFresh_49_1 o Kf1 kq x10 I11 J12)) hF_Kf1
            replace hF := fe_eq hF (fl_X6_becomeFresh_49_1.eq_2 _ _ _ _ _ _)
            refine g_iload_n d_X6_becomeFresh_49 rfl ?_
            refine g_bipush (v := 8) d_X6_becomeFresh_50 kB_8 ?_
            refine g_icmp_ge d_X6_becomeFresh_52 (fun h52 => ?_) (fun h52 => ?_)
            · skip
              replace hF := fe_pos hF h52
              replace hF := fe_eq hF (congrFun (congrFun (congrFun hKf1 x10) I11) J12)
              refine g_aload_n d_X6_becomeFresh_77 rfl ?_
              refine g_getR d_X6_becomeFresh_78 fq_RX6_32 (sa0 ho) rfl ?_
              refine g_lconst d_X6_becomeFresh_81 kL_0 ?_
              refine g_S2 d_X6_becomeFresh_82 cs_X6_becomeFresh_J7_fill_d0a16 lk_RX6_42 im_J7_fill_d0a16 (Nat.le_of_ble_eq_true rfl) ⟨rfl, rfl⟩ ⟨Nat.zero_le _, Nat.zero_le _⟩ (ct_fillJ SHF (sa7 ho) kT_6 (by decide) (0 : Int64) I11 J12) (fun r82 S82 I15 J16 q82_16 => ?_)
              obtain ⟨rfl, hc82_17, rfl⟩ := q82_16
              replace hF := fe_lt hF hc82_17.2
              replace hF := fe_lt hF hc82_17.1.symm
              refine g_st (st' := []) rfl ?_
              have hK21 : FSx o I J I15 J16 := (by obtain ⟨e1, e2⟩ := hc82_17; rw [← e1, e2]; exact fsx_rowJ hK13 (fun b hb => cJ_row hb) (by omega))
              refine g_aload_n d_X6_becomeFresh_85 rfl ?_
              refine g_getR d_X6_becomeFresh_86 fq_RX6_35 (sa0 ho) rfl ?_
              refine g_iconst (v := 0) d_X6_becomeFresh_89 kI_0 ?_
              refine g_S2 d_X6_becomeFresh_90 cs_X6_becomeFresh_J7_fill_53178 lk_RX6_48 im_J7_fill_53178 (Nat.le_of_ble_eq_true rfl) ⟨rfl, rfl⟩ ⟨Nat.zero_le _, Nat.zero_le _⟩ (ct_fillI SHF (sa8 ho) kT_8 (by decide) (0 : Int32) I15 J16) (fun r90 S90 I22 J23 q90_23 => ?_)
              obtain ⟨rfl, hc90_24, rfl⟩ := q90_23
              replace hF := fe_lt hF hc90_24.2
              replace hF := fe_lt hF hc90_24.1.symm
              refine g_st (st' := []) rfl ?_
              have hK28 : FSx o I J I22 J23 := (by obtain ⟨e1, e2⟩ := hc90_24; rw [← e1, e2]; exact fsx_rowI hK21 (fun b hb => cI_row hb) (by omega))
              have htk : I22 (o + 8) 0 = 0 := by rw [hc90_24.2]; simp [cI]
              refine g_aload_n d_X6_becomeFresh_93 rfl ?_
              refine g_iconst (v := 2) d_X6_becomeFresh_94 kI_2 ?_
              refine g_V1 d_X6_becomeFresh_95 cs_X6_becomeFresh_X6_has lk_RX6_51 im_X6_has se_X6_has (sa0 ho) rfl rfl (Nat.le_of_ble_eq_true rfl) ⟨rfl, rfl⟩ ⟨Nat.zero_le _, Nat.zero_le _⟩ (ct_X6_has (2 : Int32) I22 J23 ho) (fun r95 S95 Ic30 Jc31 q95_28 => ?_)
              obtain ⟨rfl, rfl, rfl, r34, rfl, hz95, hf95_32⟩ := q95_28
              replace hF := fe_b3 hF hf95_32
              refine g_st (st' := [.int r34]) rfl ?_
              obtain ⟨j110_2, hj110_2, hF⟩ := fe_jx hF
              have J_110 : ∀ (I36 : Iv), (FSx o I J I36 J23) → (I36 (o + 8) 0 = 0) → (FE (fn_X6_becomeFresh o I J) (fun _ => j110_2 I36)) → G m_X6_becomeFresh (rq m_X6_becomeFresh (fun r S' I' J' => S' = SHF ∧ FSx o I J I' J' ∧ r = none ∧ fn_X6_becomeFresh o I J = (I', J') ∧ I' (o + 8) 0 = 0)) 0 0 110 [some (.ref o), some (.int x10)] [] SHF I36 J23 := by
                intro I36 hK37 ht_110 hF_j110_2
                have hF := fe_eq hF_j110_2 (congrFun hj110_2 I36)
                refine g_aload_n d_X6_becomeFresh_110 rfl ?_
                refine g_sipush (v := 500) d_X6_becomeFresh_111 kS_500 ?_
                refine g_putI d_X6_becomeFresh_114 fq_RX6_55 (sa0 ho) rfl ?_
                refine g_nmI (fun I38 eI38 => ?_)
                replace hF := fe_lt hF eI38
                have hK39 : FSx o I J I38 J23 := (by rw [eI38]; exact fsx_wI ho hK37 (by omega))
                refine g_aload_n d_X6_becomeFresh_117 rfl ?_
                refine g_iconst (v := 0) d_X6_becomeFresh_118 kI_0 ?_
                refine g_putZ d_X6_becomeFresh_119 fq_RX6_59 (sa0 ho) rfl (Or.inl rfl) ?_
                refine g_nmI (fun I40 eI40 => ?_)
                replace hF := fe_lt hF eI40
                have hK41 : FSx o I J I40 J23 := (by rw [eI40]; exact fsx_wI ho hK39 (by omega))
                refine g_aload_n d_X6_becomeFresh_122 rfl ?_
                refine g_iconst (v := 0) d_X6_becomeFresh_123 kI_0 ?_
                refine g_putZ d_X6_becomeFresh_124 fq_RX6_63 (sa0 ho) rfl (Or.inl rfl) ?_
                refine g_nmI (fun I42 eI42 => ?_)
                replace hF := fe_lt hF eI42
                have hK43 : FSx o I J I42 J23 := (by rw [eI42]; exact fsx_wI ho hK41 (by omega))
                exact g_return d_X6_becomeFresh_127 rfl rfl rfl ⟨rfl, hK43, rfl, hF, (by simp only [eI38, eI40, eI42]; simp [wI, ht_110])⟩
              refine g_if_eq d_X6_becomeFresh_98 (fun h98 => ?_) (fun h98 => ?_)
              · skip
                replace hF := fe_pos hF h98
                exact J_110 I22 hK28 (by first | exact htk | (simp only [NOE]; simp [wI, htk])) hF
              · skip
                replace hF := fe_neg hF h98
                refine g_aload_n d_X6_becomeFresh_101 rfl ?_
                refine g_getR d_X6_becomeFresh_102 fq_RX6_35 (sa0 ho) rfl ?_
                refine g_iconst (v := 5) d_X6_becomeFresh_105 kI_5 ?_
                refine g_sipush (v := 600) d_X6_becomeFresh_106 kS_600 ?_
                refine g_iastore (N := 8) d_X6_becomeFresh_109 (sa8 ho) kT_8 ⟨by decide, by decide⟩ kN_5  ?_
                refine g_nmI (fun I44 eI44 => ?_)
                replace hF := fe_lt hF eI44
                have hK45 : FSx o I J I44 J23 := (by rw [eI44]; exact fsx_wI ho hK28 (by omega))
                exact J_110 I44 hK45 (by first | exact htk | (simp only [eI44]; simp [wI, htk])) hF
            · skip
              replace hF := fe_neg hF h52
              refine g_aload_n d_X6_becomeFresh_55 rfl ?_
              refine g_getR d_X6_becomeFresh_56 fq_RX6_19 (sa0 ho) rfl ?_
              refine g_iload_n d_X6_becomeFresh_59 rfl ?_
              refine g_iconst (v := 0) d_X6_becomeFresh_60 kI_0 ?_
              refine g_bastore (N := 8) d_X6_becomeFresh_61 (sa3 ho) kT_8 ⟨hl14, Int32.not_le.mp h52⟩ rfl (Or.inl rfl) ?_
              refine g_nmI (fun I46 eI46 => ?_)
              replace hF := fe_lt hF eI46
              have hK47 : FSx o I J I46 J12 := (by rw [eI46]; exact fsx_wI ho hK13 (by omega))
              refine g_aload_n d_X6_becomeFresh_62 rfl ?_
              refine g_getR d_X6_becomeFresh_63 fq_RX6_9 (sa0 ho) rfl ?_
              refine g_iconst (v := 4) d_X6_becomeFresh_66 kI_4 ?_
              refine g_iload_n d_X6_becomeFresh_67 rfl ?_
              refine g_iadd d_X6_becomeFresh_68 ?_
              refine g_lconst d_X6_becomeFresh_69 kL_0 ?_
              refine g_lastore (N := 12) d_X6_becomeFresh_70 (sa1 ho) kT_12 (by constructor <;> grind) rfl  ?_
              refine g_nmJ (fun J48 eJ48 => ?_)
              replace hF := fe_lt hF eJ48
              have hK49 : FSx o I J I46 J48 := (by rw [eJ48]; exact fsx_wJ hK47 (by omega))
              refine g_iinc (v := (x10 + (1 : Int32))) (L' := [some (.ref o), some (.int (x10 + (1 : Int32)))]) d_X6_becomeFresh_71 rfl (by rw [kI_1]) (by decide) rfl ?_
              refine g_goto d_X6_becomeFresh_74 ?_
              exact ih_49 _ (by rw [← hmu_49]; exact mu_up h52) (x10 + (1 : Int32)) I46 J48 rfl hK49 (lo_up hl14 h52) ⟨kf1, Nat.lt_of_lt_of_le (by rw [← hmu_49]; exact mu_up h52) hkf1, hF⟩
        exact K_49 _ (0 : Int32) I6 J8 rfl hK9 (Int32.le_refl _) ⟨_, Nat.lt_succ_self _, hF⟩
      · skip
        replace hF := fe_neg hF h4
        refine g_aload_n d_X6_becomeFresh_7 rfl ?_
        refine g_getR d_X6_becomeFresh_8 fq_RX6_15 (sa0 ho) rfl ?_
        refine g_iload_n d_X6_becomeFresh_11 rfl ?_
        refine g_bipush (v := 20) d_X6_becomeFresh_12 kB_20 ?_
        refine g_iastore (N := 12) d_X6_becomeFresh_14 (sa2 ho) kT_12 (by constructor <;> grind) rfl  ?_
        refine g_nmI (fun I50 eI50 => ?_)
        replace hF := fe_lt hF eI50
        have hK51 : FSx o I J I50 J3 := (by rw [eI50]; exact fsx_wI ho hK4 (by omega))
        refine g_aload_n d_X6_becomeFresh_15 rfl ?_
        refine g_getR d_X6_becomeFresh_16 fq_RX6_9 (sa0 ho) rfl ?_
        refine g_iload_n d_X6_becomeFresh_19 rfl ?_
        refine g_ldc2 (v := 10000) d_X6_becomeFresh_20 tw_342 ?_
        refine g_lastore (N := 12) d_X6_becomeFresh_23 (sa1 ho) kT_12 (by constructor <;> grind) rfl  ?_
        refine g_nmJ (fun J52 eJ52 => ?_)
        replace hF := fe_lt hF eJ52
        have hK53 : FSx o I J I50 J52 := (by rw [eJ52]; exact fsx_wJ hK51 (by omega))
        refine g_iinc (v := (x1 + (1 : Int32))) (L' := [some (.ref o), some (.int (x1 + (1 : Int32)))]) d_X6_becomeFresh_24 rfl (by rw [kI_1]) (by decide) rfl ?_
        refine g_goto d_X6_becomeFresh_27 ?_
        exact ih_2 _ (by rw [← hmu_2]; exact mu_up h4) (x1 + (1 : Int32)) I50 J52 rfl hK53 (lo_up hl5 h4) ⟨kf0, Nat.lt_of_lt_of_le (by rw [← hmu_2]; exact mu_up h4) hkf0, hF⟩
  exact K_2 _ (0 : Int32) I J rfl hK0 (Int32.le_refl _) ⟨_, Nat.lt_succ_self _, hF⟩
noncomputable def fn_X6_copyFrom (o : Nat) (p : Nat) (I : Iv) (J : Jv) : Iv × Jv :=
  l_t (cJ J (o + 1) 12 (J (p + 1))) (fun (J1 : Jv) => l_t (cI I (o + 2) 12 (I (p + 2))) (fun (I3 : Iv) => l_t (cI I3 (o + 3) 8 (I3 (p + 3))) (fun (I5 : Iv) => l_t (cI I5 (o + 4) 8 (I5 (p + 4))) (fun (I7 : Iv) => l_t (cI I7 (o + 5) 8 (I7 (p + 5))) (fun (I9 : Iv) => l_t (cI I9 (o + 6) 8 (I9 (p + 6))) (fun (I11 : Iv) => l_t (cJ J1 (o + 7) 6 (J1 (p + 7))) (fun (J13 : Jv) => l_t (cI I11 (o + 8) 8 (I11 (p + 8))) (fun (I15 : Iv) => l_t (wI I15 o 8 (I15 p 8)) (fun (I17 : Iv) => l_t (wI I17 o 9 (I17 p 9)) (fun (I19 : Iv) => l_t (wI I19 o 10 (I19 p 10)) (fun (I21 : Iv) => l_t (wI I21 o 11 (I21 p 11)) (fun (I23 : Iv) => l_t (wI I23 o 12 (I23 p 12)) (fun (I25 : Iv) => l_t (wI I25 o 13 (I25 p 13)) (fun (I27 : Iv) => (I27, J13)))))))))))))))
set_option maxRecDepth 100000 in
set_option maxHeartbeats 4000000 in
theorem ct_X6_copyFrom {o p : Nat} (I : Iv) (J : Jv) (ho : StA o) (hp : StA p) (hop : o ≠ p) : Ct m_X6_copyFrom [.ref o, .ref p] SHF I J (fun r S' I' J' => S' = SHF ∧ (∀ b, (b < o ∨ o + 8 < b) → I' b = I b ∧ J' b = J b) ∧ r = none ∧ fn_X6_copyFrom o p I J = (I', J') ∧ I' o 8 = I p 8 ∧ I' o 12 = I p 12 ∧ I' (o + 8) 0 = I (p + 8) 0) := by
  refine ct_of 0 (by decide +kernel) rfl rfl ?_
  have hK0 : (∀ b, (b < o ∨ o + 8 < b) → I b = I b ∧ J b = J b) := (fun _ _ => ⟨rfl, rfl⟩)
  have hF := fe_of (fn_X6_copyFrom.eq_1 o p I J)
  refine g_aload_n d_X6_copyFrom_0 rfl ?_
  refine g_getR d_X6_copyFrom_1 fq_RX6_9 (sa0 hp) rfl ?_
  refine g_iconst (v := 0) d_X6_copyFrom_4 kI_0 ?_
  refine g_aload_n d_X6_copyFrom_5 rfl ?_
  refine g_getR d_X6_copyFrom_6 fq_RX6_9 (sa0 ho) rfl ?_
  refine g_iconst (v := 0) d_X6_copyFrom_9 kI_0 ?_
  refine g_bipush (v := 12) d_X6_copyFrom_10 kB_12 ?_
  refine g_copyJ (j := 0) d_X6_copyFrom_12 ⟨tw_997, tw_85, tw_84, tw_4, by decide, by decide⟩ (sa1 hp) rfl (sa1 ho) rfl ⟨kN_0, by decide⟩ ⟨kN_0, by decide⟩ ⟨kN_12, by decide⟩ (Nat.le_of_ble_eq_true rfl) ?_
  refine g_nmJ (fun J1 eJ1 => ?_)
  replace hF := fe_lt hF eJ1
  have hK2 : (∀ b, (b < o ∨ o + 8 < b) → I b = I b ∧ J1 b = J b) := (fun b hb => by rw [eJ1, cJ_row (by omega)]; exact hK0 b hb)
  refine g_aload_n d_X6_copyFrom_15 rfl ?_
  refine g_getR d_X6_copyFrom_16 fq_RX6_15 (sa0 hp) rfl ?_
  refine g_iconst (v := 0) d_X6_copyFrom_19 kI_0 ?_
  refine g_aload_n d_X6_copyFrom_20 rfl ?_
  refine g_getR d_X6_copyFrom_21 fq_RX6_15 (sa0 ho) rfl ?_
  refine g_iconst (v := 0) d_X6_copyFrom_24 kI_0 ?_
  refine g_bipush (v := 12) d_X6_copyFrom_25 kB_12 ?_
  refine g_copyI (j := 0) d_X6_copyFrom_27 ⟨tw_997, tw_85, tw_84, tw_4, by decide, by decide⟩ (sa2 hp) rfl (sa2 ho) (Or.inl rfl) ⟨kN_0, by decide⟩ ⟨kN_0, by decide⟩ ⟨kN_12, by decide⟩ (Nat.le_of_ble_eq_true rfl) ?_
  refine g_nmI (fun I3 eI3 => ?_)
  replace hF := fe_lt hF eI3
  have hK4 : (∀ b, (b < o ∨ o + 8 < b) → I3 b = I b ∧ J1 b = J b) := (fun b hb => by rw [eI3, cI_row (by omega)]; exact hK2 b hb)
  refine g_aload_n d_X6_copyFrom_30 rfl ?_
  refine g_getR d_X6_copyFrom_31 fq_RX6_19 (sa0 hp) rfl ?_
  refine g_iconst (v := 0) d_X6_copyFrom_34 kI_0 ?_
  refine g_aload_n d_X6_copyFrom_35 rfl ?_
  refine g_getR d_X6_copyFrom_36 fq_RX6_19 (sa0 ho) rfl ?_
  refine g_iconst (v := 0) d_X6_copyFrom_39 kI_0 ?_
  refine g_bipush (v := 8) d_X6_copyFrom_40 kB_8 ?_
  refine g_copyI (j := 0) d_X6_copyFrom_42 ⟨tw_997, tw_85, tw_84, tw_4, by decide, by decide⟩ (sa3 hp) rfl (sa3 ho) (Or.inr rfl) ⟨kN_0, by decide⟩ ⟨kN_0, by decide⟩ ⟨kN_8, by decide⟩ (Nat.le_of_ble_eq_true rfl) ?_
  refine g_nmI (fun I5 eI5 => ?_)
  replace hF := fe_lt hF eI5
  have hK6 : (∀ b, (b < o ∨ o + 8 < b) → I5 b = I b ∧ J1 b = J b) := (fun b hb => by rw [eI5, cI_row (by omega)]; exact hK4 b hb)
  refine g_aload_n d_X6_copyFrom_45 rfl ?_
  refine g_getR d_X6_copyFrom_46 fq_RX6_23 (sa0 hp) rfl ?_
  refine g_iconst (v := 0) d_X6_copyFrom_49 kI_0 ?_
  refine g_aload_n d_X6_copyFrom_50 rfl ?_
  refine g_getR d_X6_copyFrom_51 fq_RX6_23 (sa0 ho) rfl ?_
  refine g_iconst (v := 0) d_X6_copyFrom_54 kI_0 ?_
  refine g_bipush (v := 8) d_X6_copyFrom_55 kB_8 ?_
  refine g_copyI (j := 0) d_X6_copyFrom_57 ⟨tw_997, tw_85, tw_84, tw_4, by decide, by decide⟩ (sa4 hp) rfl (sa4 ho) (Or.inl rfl) ⟨kN_0, by decide⟩ ⟨kN_0, by decide⟩ ⟨kN_8, by decide⟩ (Nat.le_of_ble_eq_true rfl) ?_
  refine g_nmI (fun I7 eI7 => ?_)
  replace hF := fe_lt hF eI7
  have hK8 : (∀ b, (b < o ∨ o + 8 < b) → I7 b = I b ∧ J1 b = J b) := (fun b hb => by rw [eI7, cI_row (by omega)]; exact hK6 b hb)
  refine g_aload_n d_X6_copyFrom_60 rfl ?_
  refine g_getR d_X6_copyFrom_61 fq_RX6_26 (sa0 hp) rfl ?_
  refine g_iconst (v := 0) d_X6_copyFrom_64 kI_0 ?_
  refine g_aload_n d_X6_copyFrom_65 rfl ?_
  refine g_getR d_X6_copyFrom_66 fq_RX6_26 (sa0 ho) rfl ?_
  refine g_iconst (v := 0) d_X6_copyFrom_69 kI_0 ?_
  refine g_bipush (v := 8) d_X6_copyFrom_70 kB_8 ?_
  refine g_copyI (j := 0) d_X6_copyFrom_72 ⟨tw_997, tw_85, tw_84, tw_4, by decide, by decide⟩ (sa5 hp) rfl (sa5 ho) (Or.inl rfl) ⟨kN_0, by decide⟩ ⟨kN_0, by decide⟩ ⟨kN_8, by decide⟩ (Nat.le_of_ble_eq_true rfl) ?_
  refine g_nmI (fun I9 eI9 => ?_)
  replace hF := fe_lt hF eI9
  have hK10 : (∀ b, (b < o ∨ o + 8 < b) → I9 b = I b ∧ J1 b = J b) := (fun b hb => by rw [eI9, cI_row (by omega)]; exact hK8 b hb)
  refine g_aload_n d_X6_copyFrom_75 rfl ?_
  refine g_getR d_X6_copyFrom_76 fq_RX6_29 (sa0 hp) rfl ?_
  refine g_iconst (v := 0) d_X6_copyFrom_79 kI_0 ?_
  refine g_aload_n d_X6_copyFrom_80 rfl ?_
  refine g_getR d_X6_copyFrom_81 fq_RX6_29 (sa0 ho) rfl ?_
  refine g_iconst (v := 0) d_X6_copyFrom_84 kI_0 ?_
  refine g_bipush (v := 8) d_X6_copyFrom_85 kB_8 ?_
  refine g_copyI (j := 0) d_X6_copyFrom_87 ⟨tw_997, tw_85, tw_84, tw_4, by decide, by decide⟩ (sa6 hp) rfl (sa6 ho) (Or.inl rfl) ⟨kN_0, by decide⟩ ⟨kN_0, by decide⟩ ⟨kN_8, by decide⟩ (Nat.le_of_ble_eq_true rfl) ?_
  refine g_nmI (fun I11 eI11 => ?_)
  replace hF := fe_lt hF eI11
  have hK12 : (∀ b, (b < o ∨ o + 8 < b) → I11 b = I b ∧ J1 b = J b) := (fun b hb => by rw [eI11, cI_row (by omega)]; exact hK10 b hb)
  refine g_aload_n d_X6_copyFrom_90 rfl ?_
  refine g_getR d_X6_copyFrom_91 fq_RX6_32 (sa0 hp) rfl ?_
  refine g_iconst (v := 0) d_X6_copyFrom_94 kI_0 ?_
  refine g_aload_n d_X6_copyFrom_95 rfl ?_
  refine g_getR d_X6_copyFrom_96 fq_RX6_32 (sa0 ho) rfl ?_
  refine g_iconst (v := 0) d_X6_copyFrom_99 kI_0 ?_
  refine g_bipush (v := 6) d_X6_copyFrom_100 kB_6 ?_
  refine g_copyJ (j := 0) d_X6_copyFrom_102 ⟨tw_997, tw_85, tw_84, tw_4, by decide, by decide⟩ (sa7 hp) rfl (sa7 ho) rfl ⟨kN_0, by decide⟩ ⟨kN_0, by decide⟩ ⟨kN_6, by decide⟩ (Nat.le_of_ble_eq_true rfl) ?_
  refine g_nmJ (fun J13 eJ13 => ?_)
  replace hF := fe_lt hF eJ13
  have hK14 : (∀ b, (b < o ∨ o + 8 < b) → I11 b = I b ∧ J13 b = J b) := (fun b hb => by rw [eJ13, cJ_row (by omega)]; exact hK12 b hb)
  refine g_aload_n d_X6_copyFrom_105 rfl ?_
  refine g_getR d_X6_copyFrom_106 fq_RX6_35 (sa0 hp) rfl ?_
  refine g_iconst (v := 0) d_X6_copyFrom_109 kI_0 ?_
  refine g_aload_n d_X6_copyFrom_110 rfl ?_
  refine g_getR d_X6_copyFrom_111 fq_RX6_35 (sa0 ho) rfl ?_
  refine g_iconst (v := 0) d_X6_copyFrom_114 kI_0 ?_
  refine g_bipush (v := 8) d_X6_copyFrom_115 kB_8 ?_
  refine g_copyI (j := 0) d_X6_copyFrom_117 ⟨tw_997, tw_85, tw_84, tw_4, by decide, by decide⟩ (sa8 hp) rfl (sa8 ho) (Or.inl rfl) ⟨kN_0, by decide⟩ ⟨kN_0, by decide⟩ ⟨kN_8, by decide⟩ (Nat.le_of_ble_eq_true rfl) ?_
  refine g_nmI (fun I15 eI15 => ?_)
  replace hF := fe_lt hF eI15
  have hK16 : (∀ b, (b < o ∨ o + 8 < b) → I15 b = I b ∧ J13 b = J b) := (fun b hb => by rw [eI15, cI_row (by omega)]; exact hK14 b hb)
  refine g_aload_n d_X6_copyFrom_120 rfl ?_
  refine g_aload_n d_X6_copyFrom_121 rfl ?_
  refine g_getI d_X6_copyFrom_122 fq_RX6_72 (sa0 hp) rfl ?_
  refine g_putI d_X6_copyFrom_125 fq_RX6_72 (sa0 ho) rfl ?_
  refine g_nmI (fun I17 eI17 => ?_)
  replace hF := fe_lt hF eI17
  have hK18 : (∀ b, (b < o ∨ o + 8 < b) → I17 b = I b ∧ J13 b = J b) := (fun b hb => by rw [eI17, wI_row (by omega)]; exact hK16 b hb)
  refine g_aload_n d_X6_copyFrom_128 rfl ?_
  refine g_aload_n d_X6_copyFrom_129 rfl ?_
  refine g_getI d_X6_copyFrom_130 fq_RX6_55 (sa0 hp) rfl ?_
  refine g_putI d_X6_copyFrom_133 fq_RX6_55 (sa0 ho) rfl ?_
  refine g_nmI (fun I19 eI19 => ?_)
  replace hF := fe_lt hF eI19
  have hK20 : (∀ b, (b < o ∨ o + 8 < b) → I19 b = I b ∧ J13 b = J b) := (fun b hb => by rw [eI19, wI_row (by omega)]; exact hK18 b hb)
  refine g_aload_n d_X6_copyFrom_136 rfl ?_
  refine g_aload_n d_X6_copyFrom_137 rfl ?_
  refine g_getZ d_X6_copyFrom_138 fq_RX6_59 (sa0 hp) rfl (fun hz138 => ?_)
  refine g_putZ d_X6_copyFrom_141 fq_RX6_59 (sa0 ho) rfl (by assumption) ?_
  refine g_nmI (fun I21 eI21 => ?_)
  replace hF := fe_lt hF eI21
  have hK22 : (∀ b, (b < o ∨ o + 8 < b) → I21 b = I b ∧ J13 b = J b) := (fun b hb => by rw [eI21, wI_row (by omega)]; exact hK20 b hb)
  refine g_aload_n d_X6_copyFrom_144 rfl ?_
  refine g_aload_n d_X6_copyFrom_145 rfl ?_
  refine g_getZ d_X6_copyFrom_146 fq_RX6_63 (sa0 hp) rfl (fun hz146 => ?_)
  refine g_putZ d_X6_copyFrom_149 fq_RX6_63 (sa0 ho) rfl (by assumption) ?_
  refine g_nmI (fun I23 eI23 => ?_)
  replace hF := fe_lt hF eI23
  have hK24 : (∀ b, (b < o ∨ o + 8 < b) → I23 b = I b ∧ J13 b = J b) := (fun b hb => by rw [eI23, wI_row (by omega)]; exact hK22 b hb)
  refine g_aload_n d_X6_copyFrom_152 rfl ?_
  refine g_aload_n d_X6_copyFrom_153 rfl ?_
  refine g_getZ d_X6_copyFrom_154 fq_RX6_75 (sa0 hp) rfl (fun hz154 => ?_)
  refine g_putZ d_X6_copyFrom_157 fq_RX6_75 (sa0 ho) rfl (by assumption) ?_
  refine g_nmI (fun I25 eI25 => ?_)
  replace hF := fe_lt hF eI25
  have hK26 : (∀ b, (b < o ∨ o + 8 < b) → I25 b = I b ∧ J13 b = J b) := (fun b hb => by rw [eI25, wI_row (by omega)]; exact hK24 b hb)
  refine g_aload_n d_X6_copyFrom_160 rfl ?_
  refine g_aload_n d_X6_copyFrom_161 rfl ?_
  refine g_getI d_X6_copyFrom_162 fq_RX6_78 (sa0 hp) rfl ?_
  refine g_putI d_X6_copyFrom_165 fq_RX6_78 (sa0 ho) rfl ?_
  refine g_nmI (fun I27 eI27 => ?_)
  replace hF := fe_lt hF eI27
  have hK28 : (∀ b, (b < o ∨ o + 8 < b) → I27 b = I b ∧ J13 b = J b) := (fun b hb => by rw [eI27, wI_row (by omega)]; exact hK26 b hb)
  exact g_return d_X6_copyFrom_168 rfl rfl rfl ⟨rfl, hK28, rfl, hF, (by rcases ho with rfl | rfl | rfl | rfl | rfl <;> rcases hp with rfl | rfl | rfl | rfl | rfl <;> first | exact absurd rfl hop | (refine ⟨?_, ?_, ?_⟩ <;> simp only [eJ1, eI3, eI5, eI7, eI9, eI11, eJ13, eI15, eI17, eI19, eI21, eI23, eI25, eI27] <;> simp [wI, cI]))⟩
