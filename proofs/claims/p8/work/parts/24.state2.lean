set_option maxRecDepth 100000 in
set_option maxHeartbeats 4000000 in
theorem ct_X6_becomeFresh {o : Nat} (I : Iv) (J : Jv) (ho : StA o) : Ct m_X6_becomeFresh [.ref o] SHF I J (fun r S' I' J' => S' = SHF ∧ FSx o I J I' J' ∧ r = none ∧ I' (o + 8) 0 = 0) := by
  refine ct_of 1 (by decide +kernel) rfl rfl ?_
  have hK0 : FSx o I J I J := fsx_rfl
  refine g_iconst (v := 0) d_X6_becomeFresh_0 kI_0 ?_
  refine g_istore_n (L' := [some (.ref o), some (.int (0 : Int32))]) d_X6_becomeFresh_1 (by decide) rfl ?_
  have K_2 : ∀ (nu : Nat) (x1 : Int32) (I2 : Iv) (J3 : Jv), mU (3 : Int32) x1 = nu → (FSx o I J I2 J3) → ((0 : Int32) ≤ x1) → G m_X6_becomeFresh (rq m_X6_becomeFresh (fun r S' I' J' => S' = SHF ∧ FSx o I J I' J' ∧ r = none ∧ I' (o + 8) 0 = 0)) 0 0 2 [some (.ref o), some (.int x1)] [] SHF I2 J3 := by
    intro nu
    induction nu using Nat.strongRecOn with
    | ind nu ih_2 =>
      intro x1 I2 J3 hmu_2 hK4 hl5
      refine g_iload_n d_X6_becomeFresh_2 rfl ?_
      refine g_iconst (v := 3) d_X6_becomeFresh_3 kI_3 ?_
      refine g_icmp_ge d_X6_becomeFresh_4 (fun h4 => ?_) (fun h4 => ?_)
      · skip
        refine g_aload_n d_X6_becomeFresh_30 rfl ?_
        refine g_getR d_X6_becomeFresh_31 fq_RX6_15 (sa0 ho) rfl ?_
        refine g_iconst (v := 3) d_X6_becomeFresh_34 kI_3 ?_
        refine g_bipush (v := 40) d_X6_becomeFresh_35 kB_40 ?_
        refine g_iastore (N := 12) d_X6_becomeFresh_37 (sa2 ho) kT_12 ⟨by decide, by decide⟩ kN_3  ?_
        refine g_nmI (fun I6 eI6 => ?_)
        have hK7 : FSx o I J I6 J3 := (by rw [eI6]; exact fsx_wI ho hK4 (by omega))
        refine g_aload_n d_X6_becomeFresh_38 rfl ?_
        refine g_getR d_X6_becomeFresh_39 fq_RX6_9 (sa0 ho) rfl ?_
        refine g_iconst (v := 3) d_X6_becomeFresh_42 kI_3 ?_
        refine g_ldc2 (v := -40000) d_X6_becomeFresh_43 tw_343 ?_
        refine g_lastore (N := 12) d_X6_becomeFresh_46 (sa1 ho) kT_12 ⟨by decide, by decide⟩ kN_3  ?_
        refine g_nmJ (fun J8 eJ8 => ?_)
        have hK9 : FSx o I J I6 J8 := (by rw [eJ8]; exact fsx_wJ hK7 (by omega))
        refine g_iconst (v := 0) d_X6_becomeFresh_47 kI_0 ?_
        refine g_istore_n (L' := [some (.ref o), some (.int (0 : Int32))]) d_X6_becomeFresh_48 (by decide) rfl ?_
        have K_49 : ∀ (nu : Nat) (x10 : Int32) (I11 : Iv) (J12 : Jv), mU (8 : Int32) x10 = nu → (FSx o I J I11 J12) → ((0 : Int32) ≤ x10) → G m_X6_becomeFresh (rq m_X6_becomeFresh (fun r S' I' J' => S' = SHF ∧ FSx o I J I' J' ∧ r = none ∧ I' (o + 8) 0 = 0)) 0 0 49 [some (.ref o), some (.int x10)] [] SHF I11 J12 := by
          intro nu
          induction nu using Nat.strongRecOn with
          | ind nu ih_49 =>
            intro x10 I11 J12 hmu_49 hK13 hl14
            refine g_iload_n d_X6_becomeFresh_49 rfl ?_
            refine g_bipush (v := 8) d_X6_becomeFresh_50 kB_8 ?_
            refine g_icmp_ge d_X6_becomeFresh_52 (fun h52 => ?_) (fun h52 => ?_)
            · skip
              refine g_aload_n d_X6_becomeFresh_77 rfl ?_
              refine g_getR d_X6_becomeFresh_78 fq_RX6_32 (sa0 ho) rfl ?_
              refine g_lconst d_X6_becomeFresh_81 kL_0 ?_
              refine g_S2 d_X6_becomeFresh_82 cs_X6_becomeFresh_J7_fill_d0a16 lk_RX6_42 im_J7_fill_d0a16 (Nat.le_of_ble_eq_true rfl) ⟨rfl, rfl⟩ ⟨Nat.zero_le _, Nat.zero_le _⟩ (ct_fillJ SHF (sa7 ho) kT_6 (by decide) (0 : Int64) I11 J12) (fun r82 S82 I15 J16 q82_16 => ?_)
              obtain ⟨rfl, hc82_17, rfl⟩ := q82_16
              refine g_st (st' := []) rfl ?_
              have hK20 : FSx o I J I15 J16 := (by obtain ⟨e1, e2⟩ := hc82_17; rw [← e1, e2]; exact fsx_rowJ hK13 (fun b hb => cJ_row hb) (by omega))
              refine g_aload_n d_X6_becomeFresh_85 rfl ?_
              refine g_getR d_X6_becomeFresh_86 fq_RX6_35 (sa0 ho) rfl ?_
              refine g_iconst (v := 0) d_X6_becomeFresh_89 kI_0 ?_
              refine g_S2 d_X6_becomeFresh_90 cs_X6_becomeFresh_J7_fill_53178 lk_RX6_48 im_J7_fill_53178 (Nat.le_of_ble_eq_true rfl) ⟨rfl, rfl⟩ ⟨Nat.zero_le _, Nat.zero_le _⟩ (ct_fillI SHF (sa8 ho) kT_8 (by decide) (0 : Int32) I15 J16) (fun r90 S90 I21 J22 q90_22 => ?_)
              obtain ⟨rfl, hc90_23, rfl⟩ := q90_22
              refine g_st (st' := []) rfl ?_
              have hK26 : FSx o I J I21 J22 := (by obtain ⟨e1, e2⟩ := hc90_23; rw [← e1, e2]; exact fsx_rowI hK20 (fun b hb => cI_row hb) (by omega))
              have htk : I21 (o + 8) 0 = 0 := by rw [hc90_23.2]; simp [cI]
              refine g_aload_n d_X6_becomeFresh_93 rfl ?_
              refine g_iconst (v := 2) d_X6_becomeFresh_94 kI_2 ?_
              refine g_V1 d_X6_becomeFresh_95 cs_X6_becomeFresh_X6_has lk_RX6_51 im_X6_has se_X6_has (sa0 ho) rfl rfl (Nat.le_of_ble_eq_true rfl) ⟨rfl, rfl⟩ ⟨Nat.zero_le _, Nat.zero_le _⟩ (ct_X6_has (2 : Int32) I21 J22 ho) (fun r95 S95 Ic28 Jc29 q95_26 => ?_)
              obtain ⟨rfl, rfl, rfl, r31, rfl, hz95⟩ := q95_26
              refine g_st (st' := [.int r31]) rfl ?_
              have J_110 : ∀ (I33 : Iv), (FSx o I J I33 J22) → (I33 (o + 8) 0 = 0) → G m_X6_becomeFresh (rq m_X6_becomeFresh (fun r S' I' J' => S' = SHF ∧ FSx o I J I' J' ∧ r = none ∧ I' (o + 8) 0 = 0)) 0 0 110 [some (.ref o), some (.int x10)] [] SHF I33 J22 := by
                intro I33 hK34 ht_110
                refine g_aload_n d_X6_becomeFresh_110 rfl ?_
                refine g_sipush (v := 500) d_X6_becomeFresh_111 kS_500 ?_
                refine g_putI d_X6_becomeFresh_114 fq_RX6_55 (sa0 ho) rfl ?_
                refine g_nmI (fun I35 eI35 => ?_)
                have hK36 : FSx o I J I35 J22 := (by rw [eI35]; exact fsx_wI ho hK34 (by omega))
                refine g_aload_n d_X6_becomeFresh_117 rfl ?_
                refine g_iconst (v := 0) d_X6_becomeFresh_118 kI_0 ?_
                refine g_putZ d_X6_becomeFresh_119 fq_RX6_59 (sa0 ho) rfl (Or.inl rfl) ?_
                refine g_nmI (fun I37 eI37 => ?_)
                have hK38 : FSx o I J I37 J22 := (by rw [eI37]; exact fsx_wI ho hK36 (by omega))
                refine g_aload_n d_X6_becomeFresh_122 rfl ?_
                refine g_iconst (v := 0) d_X6_becomeFresh_123 kI_0 ?_
                refine g_putZ d_X6_becomeFresh_124 fq_RX6_63 (sa0 ho) rfl (Or.inl rfl) ?_
                refine g_nmI (fun I39 eI39 => ?_)
                have hK40 : FSx o I J I39 J22 := (by rw [eI39]; exact fsx_wI ho hK38 (by omega))
                exact g_return d_X6_becomeFresh_127 rfl rfl rfl ⟨rfl, hK40, rfl, (by simp only [eI35, eI37, eI39]; simp [wI, ht_110])⟩
              refine g_if_eq d_X6_becomeFresh_98 (fun h98 => ?_) (fun h98 => ?_)
              · skip
                exact J_110 I21 hK26 (by first | exact htk | (simp only [NOE]; simp [wI, htk]))
              · skip
                refine g_aload_n d_X6_becomeFresh_101 rfl ?_
                refine g_getR d_X6_becomeFresh_102 fq_RX6_35 (sa0 ho) rfl ?_
                refine g_iconst (v := 5) d_X6_becomeFresh_105 kI_5 ?_
                refine g_sipush (v := 600) d_X6_becomeFresh_106 kS_600 ?_
                refine g_iastore (N := 8) d_X6_becomeFresh_109 (sa8 ho) kT_8 ⟨by decide, by decide⟩ kN_5  ?_
                refine g_nmI (fun I41 eI41 => ?_)
                have hK42 : FSx o I J I41 J22 := (by rw [eI41]; exact fsx_wI ho hK26 (by omega))
                exact J_110 I41 hK42 (by first | exact htk | (simp only [eI41]; simp [wI, htk]))
            · skip
              refine g_aload_n d_X6_becomeFresh_55 rfl ?_
              refine g_getR d_X6_becomeFresh_56 fq_RX6_19 (sa0 ho) rfl ?_
              refine g_iload_n d_X6_becomeFresh_59 rfl ?_
              refine g_iconst (v := 0) d_X6_becomeFresh_60 kI_0 ?_
              refine g_bastore (N := 8) d_X6_becomeFresh_61 (sa3 ho) kT_8 ⟨hl14, Int32.not_le.mp h52⟩ rfl (Or.inl rfl) ?_
              refine g_nmI (fun I43 eI43 => ?_)
              have hK44 : FSx o I J I43 J12 := (by rw [eI43]; exact fsx_wI ho hK13 (by omega))
              refine g_aload_n d_X6_becomeFresh_62 rfl ?_
              refine g_getR d_X6_becomeFresh_63 fq_RX6_9 (sa0 ho) rfl ?_
              refine g_iconst (v := 4) d_X6_becomeFresh_66 kI_4 ?_
              refine g_iload_n d_X6_becomeFresh_67 rfl ?_
              refine g_iadd d_X6_becomeFresh_68 ?_
              refine g_lconst d_X6_becomeFresh_69 kL_0 ?_
              refine g_lastore (N := 12) d_X6_becomeFresh_70 (sa1 ho) kT_12 (by constructor <;> grind) rfl  ?_
              refine g_nmJ (fun J45 eJ45 => ?_)
              have hK46 : FSx o I J I43 J45 := (by rw [eJ45]; exact fsx_wJ hK44 (by omega))
              refine g_iinc (v := (x10 + (1 : Int32))) (L' := [some (.ref o), some (.int (x10 + (1 : Int32)))]) d_X6_becomeFresh_71 rfl (by rw [kI_1]) (by decide) rfl ?_
              refine g_goto d_X6_becomeFresh_74 ?_
              exact ih_49 _ (by rw [← hmu_49]; exact mu_up h52) (x10 + (1 : Int32)) I43 J45 rfl hK46 (lo_up hl14 h52)
        exact K_49 _ (0 : Int32) I6 J8 rfl hK9 (Int32.le_refl _)
      · skip
        refine g_aload_n d_X6_becomeFresh_7 rfl ?_
        refine g_getR d_X6_becomeFresh_8 fq_RX6_15 (sa0 ho) rfl ?_
        refine g_iload_n d_X6_becomeFresh_11 rfl ?_
        refine g_bipush (v := 20) d_X6_becomeFresh_12 kB_20 ?_
        refine g_iastore (N := 12) d_X6_becomeFresh_14 (sa2 ho) kT_12 (by constructor <;> grind) rfl  ?_
        refine g_nmI (fun I47 eI47 => ?_)
        have hK48 : FSx o I J I47 J3 := (by rw [eI47]; exact fsx_wI ho hK4 (by omega))
        refine g_aload_n d_X6_becomeFresh_15 rfl ?_
        refine g_getR d_X6_becomeFresh_16 fq_RX6_9 (sa0 ho) rfl ?_
        refine g_iload_n d_X6_becomeFresh_19 rfl ?_
        refine g_ldc2 (v := 10000) d_X6_becomeFresh_20 tw_342 ?_
        refine g_lastore (N := 12) d_X6_becomeFresh_23 (sa1 ho) kT_12 (by constructor <;> grind) rfl  ?_
        refine g_nmJ (fun J49 eJ49 => ?_)
        have hK50 : FSx o I J I47 J49 := (by rw [eJ49]; exact fsx_wJ hK48 (by omega))
        refine g_iinc (v := (x1 + (1 : Int32))) (L' := [some (.ref o), some (.int (x1 + (1 : Int32)))]) d_X6_becomeFresh_24 rfl (by rw [kI_1]) (by decide) rfl ?_
        refine g_goto d_X6_becomeFresh_27 ?_
        exact ih_2 _ (by rw [← hmu_2]; exact mu_up h4) (x1 + (1 : Int32)) I47 J49 rfl hK50 (lo_up hl5 h4)
  exact K_2 _ (0 : Int32) I J rfl hK0 (Int32.le_refl _)
set_option maxRecDepth 100000 in
set_option maxHeartbeats 4000000 in
theorem ct_X6_copyFrom {o p : Nat} (I : Iv) (J : Jv) (ho : StA o) (hp : StA p) (hop : o ≠ p) : Ct m_X6_copyFrom [.ref o, .ref p] SHF I J (fun r S' I' J' => S' = SHF ∧ (∀ b, (b < o ∨ o + 8 < b) → I' b = I b ∧ J' b = J b) ∧ r = none ∧ I' o 8 = I p 8 ∧ I' o 12 = I p 12 ∧ I' (o + 8) 0 = I (p + 8) 0) := by
  refine ct_of 0 (by decide +kernel) rfl rfl ?_
  have hK0 : (∀ b, (b < o ∨ o + 8 < b) → I b = I b ∧ J b = J b) := (fun _ _ => ⟨rfl, rfl⟩)
  refine g_aload_n d_X6_copyFrom_0 rfl ?_
  refine g_getR d_X6_copyFrom_1 fq_RX6_9 (sa0 hp) rfl ?_
  refine g_iconst (v := 0) d_X6_copyFrom_4 kI_0 ?_
  refine g_aload_n d_X6_copyFrom_5 rfl ?_
  refine g_getR d_X6_copyFrom_6 fq_RX6_9 (sa0 ho) rfl ?_
  refine g_iconst (v := 0) d_X6_copyFrom_9 kI_0 ?_
  refine g_bipush (v := 12) d_X6_copyFrom_10 kB_12 ?_
  refine g_copyJ (j := 0) d_X6_copyFrom_12 ⟨tw_997, tw_85, tw_84, tw_4, by decide, by decide⟩ (sa1 hp) rfl (sa1 ho) rfl ⟨kN_0, by decide⟩ ⟨kN_0, by decide⟩ ⟨kN_12, by decide⟩ (Nat.le_of_ble_eq_true rfl) ?_
  refine g_nmJ (fun J1 eJ1 => ?_)
  have hK2 : (∀ b, (b < o ∨ o + 8 < b) → I b = I b ∧ J1 b = J b) := (fun b hb => by rw [eJ1, cJ_row (by omega)]; exact hK0 b hb)
  refine g_aload_n d_X6_copyFrom_15 rfl ?_
  refine g_getR d_X6_copyFrom_16 fq_RX6_15 (sa0 hp) rfl ?_
  refine g_iconst (v := 0) d_X6_copyFrom_19 kI_0 ?_
  refine g_aload_n d_X6_copyFrom_20 rfl ?_
  refine g_getR d_X6_copyFrom_21 fq_RX6_15 (sa0 ho) rfl ?_
  refine g_iconst (v := 0) d_X6_copyFrom_24 kI_0 ?_
  refine g_bipush (v := 12) d_X6_copyFrom_25 kB_12 ?_
  refine g_copyI (j := 0) d_X6_copyFrom_27 ⟨tw_997, tw_85, tw_84, tw_4, by decide, by decide⟩ (sa2 hp) rfl (sa2 ho) (Or.inl rfl) ⟨kN_0, by decide⟩ ⟨kN_0, by decide⟩ ⟨kN_12, by decide⟩ (Nat.le_of_ble_eq_true rfl) ?_
  refine g_nmI (fun I3 eI3 => ?_)
  have hK4 : (∀ b, (b < o ∨ o + 8 < b) → I3 b = I b ∧ J1 b = J b) := (fun b hb => by rw [eI3, cI_row (by omega)]; exact hK2 b hb)
  refine g_aload_n d_X6_copyFrom_30 rfl ?_
  refine g_getR d_X6_copyFrom_31 fq_RX6_19 (sa0 hp) rfl ?_
  refine g_iconst (v := 0) d_X6_copyFrom_34 kI_0 ?_
  refine g_aload_n d_X6_copyFrom_35 rfl ?_
  refine g_getR d_X6_copyFrom_36 fq_RX6_19 (sa0 ho) rfl ?_
  refine g_iconst (v := 0) d_X6_copyFrom_39 kI_0 ?_
  refine g_bipush (v := 8) d_X6_copyFrom_40 kB_8 ?_
  refine g_copyI (j := 0) d_X6_copyFrom_42 ⟨tw_997, tw_85, tw_84, tw_4, by decide, by decide⟩ (sa3 hp) rfl (sa3 ho) (Or.inr rfl) ⟨kN_0, by decide⟩ ⟨kN_0, by decide⟩ ⟨kN_8, by decide⟩ (Nat.le_of_ble_eq_true rfl) ?_
  refine g_nmI (fun I5 eI5 => ?_)
  have hK6 : (∀ b, (b < o ∨ o + 8 < b) → I5 b = I b ∧ J1 b = J b) := (fun b hb => by rw [eI5, cI_row (by omega)]; exact hK4 b hb)
  refine g_aload_n d_X6_copyFrom_45 rfl ?_
  refine g_getR d_X6_copyFrom_46 fq_RX6_23 (sa0 hp) rfl ?_
  refine g_iconst (v := 0) d_X6_copyFrom_49 kI_0 ?_
  refine g_aload_n d_X6_copyFrom_50 rfl ?_
  refine g_getR d_X6_copyFrom_51 fq_RX6_23 (sa0 ho) rfl ?_
  refine g_iconst (v := 0) d_X6_copyFrom_54 kI_0 ?_
  refine g_bipush (v := 8) d_X6_copyFrom_55 kB_8 ?_
  refine g_copyI (j := 0) d_X6_copyFrom_57 ⟨tw_997, tw_85, tw_84, tw_4, by decide, by decide⟩ (sa4 hp) rfl (sa4 ho) (Or.inl rfl) ⟨kN_0, by decide⟩ ⟨kN_0, by decide⟩ ⟨kN_8, by decide⟩ (Nat.le_of_ble_eq_true rfl) ?_
  refine g_nmI (fun I7 eI7 => ?_)
  have hK8 : (∀ b, (b < o ∨ o + 8 < b) → I7 b = I b ∧ J1 b = J b) := (fun b hb => by rw [eI7, cI_row (by omega)]; exact hK6 b hb)
  refine g_aload_n d_X6_copyFrom_60 rfl ?_
  refine g_getR d_X6_copyFrom_61 fq_RX6_26 (sa0 hp) rfl ?_
  refine g_iconst (v := 0) d_X6_copyFrom_64 kI_0 ?_
  refine g_aload_n d_X6_copyFrom_65 rfl ?_
  refine g_getR d_X6_copyFrom_66 fq_RX6_26 (sa0 ho) rfl ?_
  refine g_iconst (v := 0) d_X6_copyFrom_69 kI_0 ?_
  refine g_bipush (v := 8) d_X6_copyFrom_70 kB_8 ?_
  refine g_copyI (j := 0) d_X6_copyFrom_72 ⟨tw_997, tw_85, tw_84, tw_4, by decide, by decide⟩ (sa5 hp) rfl (sa5 ho) (Or.inl rfl) ⟨kN_0, by decide⟩ ⟨kN_0, by decide⟩ ⟨kN_8, by decide⟩ (Nat.le_of_ble_eq_true rfl) ?_
  refine g_nmI (fun I9 eI9 => ?_)
  have hK10 : (∀ b, (b < o ∨ o + 8 < b) → I9 b = I b ∧ J1 b = J b) := (fun b hb => by rw [eI9, cI_row (by omega)]; exact hK8 b hb)
  refine g_aload_n d_X6_copyFrom_75 rfl ?_
  refine g_getR d_X6_copyFrom_76 fq_RX6_29 (sa0 hp) rfl ?_
  refine g_iconst (v := 0) d_X6_copyFrom_79 kI_0 ?_
  refine g_aload_n d_X6_copyFrom_80 rfl ?_
  refine g_getR d_X6_copyFrom_81 fq_RX6_29 (sa0 ho) rfl ?_
  refine g_iconst (v := 0) d_X6_copyFrom_84 kI_0 ?_
  refine g_bipush (v := 8) d_X6_copyFrom_85 kB_8 ?_
  refine g_copyI (j := 0) d_X6_copyFrom_87 ⟨tw_997, tw_85, tw_84, tw_4, by decide, by decide⟩ (sa6 hp) rfl (sa6 ho) (Or.inl rfl) ⟨kN_0, by decide⟩ ⟨kN_0, by decide⟩ ⟨kN_8, by decide⟩ (Nat.le_of_ble_eq_true rfl) ?_
  refine g_nmI (fun I11 eI11 => ?_)
  have hK12 : (∀ b, (b < o ∨ o + 8 < b) → I11 b = I b ∧ J1 b = J b) := (fun b hb => by rw [eI11, cI_row (by omega)]; exact hK10 b hb)
  refine g_aload_n d_X6_copyFrom_90 rfl ?_
  refine g_getR d_X6_copyFrom_91 fq_RX6_32 (sa0 hp) rfl ?_
  refine g_iconst (v := 0) d_X6_copyFrom_94 kI_0 ?_
  refine g_aload_n d_X6_copyFrom_95 rfl ?_
  refine g_getR d_X6_copyFrom_96 fq_RX6_32 (sa0 ho) rfl ?_
  refine g_iconst (v := 0) d_X6_copyFrom_99 kI_0 ?_
  refine g_bipush (v := 6) d_X6_copyFrom_100 kB_6 ?_
  refine g_copyJ (j := 0) d_X6_copyFrom_102 ⟨tw_997, tw_85, tw_84, tw_4, by decide, by decide⟩ (sa7 hp) rfl (sa7 ho) rfl ⟨kN_0, by decide⟩ ⟨kN_0, by decide⟩ ⟨kN_6, by decide⟩ (Nat.le_of_ble_eq_true rfl) ?_
  refine g_nmJ (fun J13 eJ13 => ?_)
  have hK14 : (∀ b, (b < o ∨ o + 8 < b) → I11 b = I b ∧ J13 b = J b) := (fun b hb => by rw [eJ13, cJ_row (by omega)]; exact hK12 b hb)
  refine g_aload_n d_X6_copyFrom_105 rfl ?_
  refine g_getR d_X6_copyFrom_106 fq_RX6_35 (sa0 hp) rfl ?_
  refine g_iconst (v := 0) d_X6_copyFrom_109 kI_0 ?_
  refine g_aload_n d_X6_copyFrom_110 rfl ?_
  refine g_getR d_X6_copyFrom_111 fq_RX6_35 (sa0 ho) rfl ?_
  refine g_iconst (v := 0) d_X6_copyFrom_114 kI_0 ?_
  refine g_bipush (v := 8) d_X6_copyFrom_115 kB_8 ?_
  refine g_copyI (j := 0) d_X6_copyFrom_117 ⟨tw_997, tw_85, tw_84, tw_4, by decide, by decide⟩ (sa8 hp) rfl (sa8 ho) (Or.inl rfl) ⟨kN_0, by decide⟩ ⟨kN_0, by decide⟩ ⟨kN_8, by decide⟩ (Nat.le_of_ble_eq_true rfl) ?_
  refine g_nmI (fun I15 eI15 => ?_)
  have hK16 : (∀ b, (b < o ∨ o + 8 < b) → I15 b = I b ∧ J13 b = J b) := (fun b hb => by rw [eI15, cI_row (by omega)]; exact hK14 b hb)
  refine g_aload_n d_X6_copyFrom_120 rfl ?_
  refine g_aload_n d_X6_copyFrom_121 rfl ?_
  refine g_getI d_X6_copyFrom_122 fq_RX6_72 (sa0 hp) rfl ?_
  refine g_putI d_X6_copyFrom_125 fq_RX6_72 (sa0 ho) rfl ?_
  refine g_nmI (fun I17 eI17 => ?_)
  have hK18 : (∀ b, (b < o ∨ o + 8 < b) → I17 b = I b ∧ J13 b = J b) := (fun b hb => by rw [eI17, wI_row (by omega)]; exact hK16 b hb)
  refine g_aload_n d_X6_copyFrom_128 rfl ?_
  refine g_aload_n d_X6_copyFrom_129 rfl ?_
  refine g_getI d_X6_copyFrom_130 fq_RX6_55 (sa0 hp) rfl ?_
  refine g_putI d_X6_copyFrom_133 fq_RX6_55 (sa0 ho) rfl ?_
  refine g_nmI (fun I19 eI19 => ?_)
  have hK20 : (∀ b, (b < o ∨ o + 8 < b) → I19 b = I b ∧ J13 b = J b) := (fun b hb => by rw [eI19, wI_row (by omega)]; exact hK18 b hb)
  refine g_aload_n d_X6_copyFrom_136 rfl ?_
  refine g_aload_n d_X6_copyFrom_137 rfl ?_
  refine g_getZ d_X6_copyFrom_138 fq_RX6_59 (sa0 hp) rfl (fun hz138 => ?_)
  refine g_putZ d_X6_copyFrom_141 fq_RX6_59 (sa0 ho) rfl (by assumption) ?_
  refine g_nmI (fun I21 eI21 => ?_)
  have hK22 : (∀ b, (b < o ∨ o + 8 < b) → I21 b = I b ∧ J13 b = J b) := (fun b hb => by rw [eI21, wI_row (by omega)]; exact hK20 b hb)
  refine g_aload_n d_X6_copyFrom_144 rfl ?_
  refine g_aload_n d_X6_copyFrom_145 rfl ?_
  refine g_getZ d_X6_copyFrom_146 fq_RX6_63 (sa0 hp) rfl (fun hz146 => ?_)
  refine g_putZ d_X6_copyFrom_149 fq_RX6_63 (sa0 ho) rfl (by assumption) ?_
  refine g_nmI (fun I23 eI23 => ?_)
  have hK24 : (∀ b, (b < o ∨ o + 8 < b) → I23 b = I b ∧ J13 b = J b) := (fun b hb => by rw [eI23, wI_row (by omega)]; exact hK22 b hb)
  refine g_aload_n d_X6_copyFrom_152 rfl ?_
  refine g_aload_n d_X6_copyFrom_153 rfl ?_
  refine g_getZ d_X6_copyFrom_154 fq_RX6_75 (sa0 hp) rfl (fun hz154 => ?_)
  refine g_putZ d_X6_copyFrom_157 fq_RX6_75 (sa0 ho) rfl (by assumption) ?_
  refine g_nmI (fun I25 eI25 => ?_)
  have hK26 : (∀ b, (b < o ∨ o + 8 < b) → I25 b = I b ∧ J13 b = J b) := (fun b hb => by rw [eI25, wI_row (by omega)]; exact hK24 b hb)
  refine g_aload_n d_X6_copyFrom_160 rfl ?_
  refine g_aload_n d_X6_copyFrom_161 rfl ?_
  refine g_getI d_X6_copyFrom_162 fq_RX6_78 (sa0 hp) rfl ?_
  refine g_putI d_X6_copyFrom_165 fq_RX6_78 (sa0 ho) rfl ?_
  refine g_nmI (fun I27 eI27 => ?_)
  have hK28 : (∀ b, (b < o ∨ o + 8 < b) → I27 b = I b ∧ J13 b = J b) := (fun b hb => by rw [eI27, wI_row (by omega)]; exact hK26 b hb)
  exact g_return d_X6_copyFrom_168 rfl rfl rfl ⟨rfl, hK28, rfl, (by rcases ho with rfl | rfl | rfl | rfl | rfl <;> rcases hp with rfl | rfl | rfl | rfl | rfl <;> first | exact absurd rfl hop | (refine ⟨?_, ?_, ?_⟩ <;> simp only [eJ1, eI3, eI5, eI7, eI9, eI11, eJ13, eI15, eI17, eI19, eI21, eI23, eI25, eI27] <;> simp [wI, cI]))⟩
