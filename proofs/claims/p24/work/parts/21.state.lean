noncomputable def fn_X6_has (o : Nat) (t : Int32) (I : Iv) (J : Jv) : Int32 × Iv × Jv :=
  if ((I o 8) &&& t) = 0 then ((0 : Int32), I, J) else ((1 : Int32), I, J)
set_option maxRecDepth 100000 in
set_option maxHeartbeats 4000000 in
theorem ct_X6_has (t : Int32) {o : Nat} (I : Iv) (J : Jv) (ho : StA o) : Ct m_X6_has [.ref o, .int t] SHF I J (fun r S' I' J' => S' = SHF ∧ I = I' ∧ J = J' ∧ ∃ v : Int32, r = some (.int v) ∧ (v = 0 ∨ v = 1) ∧ fn_X6_has o t I J = (v, I', J')) := by
  refine ct_of 0 (by decide +kernel) rfl rfl ?_
  have hF := fe_of (fn_X6_has.eq_1 o t I J)
  refine g_aload_n d_X6_has_0 rfl ?_
  refine g_getI d_X6_has_1 fq_RX6_72 (sa0 ho) rfl ?_
  refine g_iload_n d_X6_has_4 rfl ?_
  refine g_iand d_X6_has_5 ?_
  refine g_if_eq d_X6_has_6 (fun h6 => ?_) (fun h6 => ?_)
  · skip
    replace hF := fe_pos hF h6
    refine g_iconst (v := 0) d_X6_has_13 kI_0 ?_
    exact g_ireturn d_X6_has_14 rfl rfl rfl rfl ⟨rfl, rfl, rfl, (0 : Int32), rfl, Or.inl rfl, hF⟩
  · skip
    replace hF := fe_neg hF h6
    refine g_iconst (v := 1) d_X6_has_9 kI_1 ?_
    refine g_goto d_X6_has_10 ?_
    exact g_ireturn d_X6_has_14 rfl rfl rfl rfl ⟨rfl, rfl, rfl, (1 : Int32), rfl, Or.inr rfl, hF⟩
noncomputable def fn_X6_warmthOf (o : Nat) (cell : Int32) (I : Iv) (J : Jv) : Int32 × Iv × Jv :=
  if cell < 0 then ((0 : Int32), I, J) else if (12 : Int32) ≤ cell then ((0 : Int32), I, J) else if (1 : Int32) ≤ (I (o + 2) cell.toNatClampNeg) then ((Int64.toInt32 ((J (o + 1) cell.toNatClampNeg) / (Int32.toInt64 (I (o + 2) cell.toNatClampNeg)))), I, J) else ((0 : Int32), I, J)
set_option maxRecDepth 100000 in
set_option maxHeartbeats 4000000 in
theorem ct_X6_warmthOf (cell : Int32) {o : Nat} (I : Iv) (J : Jv) (ho : StA o) : Ct m_X6_warmthOf [.ref o, .int cell] SHF I J (fun r S' I' J' => S' = SHF ∧ I = I' ∧ J = J' ∧ ∃ v : Int32, r = some (.int v) ∧ fn_X6_warmthOf o cell I J = (v, I', J')) := by
  refine ct_of 0 (by decide +kernel) rfl rfl ?_
  have hF := fe_of (fn_X6_warmthOf.eq_1 o cell I J)
  refine g_iload_n d_X6_warmthOf_0 rfl ?_
  refine g_if_lt d_X6_warmthOf_1 (fun h1 => ?_) (fun h1 => ?_)
  · skip
    replace hF := fe_pos hF h1
    refine g_iconst (v := 0) d_X6_warmthOf_20 kI_0 ?_
    exact g_ireturn d_X6_warmthOf_21 rfl rfl rfl rfl ⟨rfl, rfl, rfl, (0 : Int32), rfl, hF⟩
  · skip
    replace hF := fe_neg hF h1
    refine g_iload_n d_X6_warmthOf_4 rfl ?_
    refine g_bipush (v := 12) d_X6_warmthOf_5 kB_12 ?_
    refine g_icmp_ge d_X6_warmthOf_7 (fun h7 => ?_) (fun h7 => ?_)
    · skip
      replace hF := fe_pos hF h7
      refine g_iconst (v := 0) d_X6_warmthOf_20 kI_0 ?_
      exact g_ireturn d_X6_warmthOf_21 rfl rfl rfl rfl ⟨rfl, rfl, rfl, (0 : Int32), rfl, hF⟩
    · skip
      replace hF := fe_neg hF h7
      refine g_aload_n d_X6_warmthOf_10 rfl ?_
      refine g_getR d_X6_warmthOf_11 fq_RX6_15 (sa0 ho) rfl ?_
      refine g_iload_n d_X6_warmthOf_14 rfl ?_
      refine g_iaload (N := 12) d_X6_warmthOf_15 (sa2 ho) kT_12 (by constructor <;> grind) rfl ?_
      refine g_iconst (v := 1) d_X6_warmthOf_16 kI_1 ?_
      refine g_icmp_ge d_X6_warmthOf_17 (fun h17 => ?_) (fun h17 => ?_)
      · skip
        replace hF := fe_pos hF h17
        refine g_aload_n d_X6_warmthOf_22 rfl ?_
        refine g_getR d_X6_warmthOf_23 fq_RX6_9 (sa0 ho) rfl ?_
        refine g_iload_n d_X6_warmthOf_26 rfl ?_
        refine g_laload (N := 12) d_X6_warmthOf_27 (sa1 ho) kT_12 (by constructor <;> grind) rfl ?_
        refine g_aload_n d_X6_warmthOf_28 rfl ?_
        refine g_getR d_X6_warmthOf_29 fq_RX6_15 (sa0 ho) rfl ?_
        refine g_iload_n d_X6_warmthOf_32 rfl ?_
        refine g_iaload (N := 12) d_X6_warmthOf_33 (sa2 ho) kT_12 (by constructor <;> grind) rfl ?_
        refine g_i2l d_X6_warmthOf_34 ?_
        refine g_ldiv d_X6_warmthOf_35 (ne_i2l h17) ?_
        refine g_l2i d_X6_warmthOf_36 ?_
        exact g_ireturn d_X6_warmthOf_37 rfl rfl rfl rfl ⟨rfl, rfl, rfl, (Int64.toInt32 ((J (o + 1) cell.toNatClampNeg) / (Int32.toInt64 (I (o + 2) cell.toNatClampNeg)))), rfl, hF⟩
      · skip
        replace hF := fe_neg hF h17
        refine g_iconst (v := 0) d_X6_warmthOf_20 kI_0 ?_
        exact g_ireturn d_X6_warmthOf_21 rfl rfl rfl rfl ⟨rfl, rfl, rfl, (0 : Int32), rfl, hF⟩
noncomputable def fn_X6_tickOfDay (o : Nat) (I : Iv) (J : Jv) : Int32 × Iv × Jv :=
  (((I (o + 8) 0) - (I (o + 8) 0) / (288 : Int32) * (288 : Int32)), I, J)
set_option maxRecDepth 100000 in
set_option maxHeartbeats 4000000 in
theorem ct_X6_tickOfDay {o : Nat} (I : Iv) (J : Jv) (ho : StA o) : Ct m_X6_tickOfDay [.ref o] SHF I J (fun r S' I' J' => S' = SHF ∧ I = I' ∧ J = J' ∧ ∃ v : Int32, r = some (.int v) ∧ fn_X6_tickOfDay o I J = (v, I', J') ∧ v = I (o + 8) 0 - I (o + 8) 0 / 288 * 288) := by
  refine ct_of 0 (by decide +kernel) rfl rfl ?_
  have hF := fe_of (fn_X6_tickOfDay.eq_1 o I J)
  refine g_aload_n d_X6_tickOfDay_0 rfl ?_
  refine g_getR d_X6_tickOfDay_1 fq_RX6_35 (sa0 ho) rfl ?_
  refine g_iconst (v := 0) d_X6_tickOfDay_4 kI_0 ?_
  refine g_iaload (N := 8) d_X6_tickOfDay_5 (sa8 ho) kT_8 ⟨by decide, by decide⟩ kN_0 ?_
  refine g_sipush (v := 288) d_X6_tickOfDay_6 kS_288 ?_
  refine g_irem d_X6_tickOfDay_9 (by decide) ?_
  exact g_ireturn d_X6_tickOfDay_10 rfl rfl rfl rfl ⟨rfl, rfl, rfl, ((I (o + 8) 0) - (I (o + 8) 0) / (288 : Int32) * (288 : Int32)), rfl, hF, rfl⟩
noncomputable def fl_X6_allHeat_26_1 (I : Iv) (J : Jv) (o : Nat) (Kf1 : Int64 → Int32 → Int64 × Iv × Jv) : Nat → Int64 → Int32 → Int64 × Iv × Jv
  | 0, x4, x5 => (0, I, J)
  | kf1 + 1, x4, x5 => if (8 : Int32) ≤ x5 then Kf1 x4 x5 else if (I (o + 3) x5.toNatClampNeg) = 0 then fl_X6_allHeat_26_1 I J o Kf1 kf1 x4 (x5 + (1 : Int32)) else l_t ((x4 + (J (o + 1) (((4 : Int32) + x5)).toNatClampNeg))) (fun (v7 : Int64) => fl_X6_allHeat_26_1 I J o Kf1 kf1 v7 (x5 + (1 : Int32)))
noncomputable def fl_X6_allHeat_4_0 (I : Iv) (J : Jv) (o : Nat) (Kf0 : Int64 → Int32 → Int64 × Iv × Jv) : Nat → Int64 → Int32 → Int64 × Iv × Jv
  | 0, x1, x2 => (0, I, J)
  | kf0 + 1, x1, x2 => if (4 : Int32) ≤ x2 then Kf0 x1 x2 else l_t ((x1 + (J (o + 1) x2.toNatClampNeg))) (fun (v8 : Int64) => fl_X6_allHeat_4_0 I J o Kf0 kf0 v8 (x2 + (1 : Int32)))
noncomputable def fn_X6_allHeat (o : Nat) (I : Iv) (J : Jv) : Int64 × Iv × Jv :=
  fl_X6_allHeat_4_0 I J o (fun (x1 : Int64) (x2 : Int32) => fl_X6_allHeat_26_1 I J o (fun (x4 : Int64) (x5 : Int32) => (x4, I, J)) (mU (8 : Int32) ((0 : Int32)) + 1) x1 (0 : Int32)) (mU (4 : Int32) ((0 : Int32)) + 1) (0 : Int64) (0 : Int32)
set_option maxRecDepth 100000 in
set_option maxHeartbeats 4000000 in
theorem ct_X6_allHeat {o : Nat} (I : Iv) (J : Jv) (ho : StA o) : Ct m_X6_allHeat [.ref o] SHF I J (fun r S' I' J' => S' = SHF ∧ I = I' ∧ J = J' ∧ ∃ v : Int64, r = some (.long v) ∧ fn_X6_allHeat o I J = (v, I', J')) := by
  refine ct_of 3 (by decide +kernel) rfl rfl ?_
  have hF := fe_of (fn_X6_allHeat.eq_1 o I J)
  refine g_lconst d_X6_allHeat_0 kL_0 ?_
  refine g_lstore_n (L' := [some (.ref o), some (.long (0 : Int64)), none, none]) d_X6_allHeat_1 (by decide) rfl ?_
  refine g_iconst (v := 0) d_X6_allHeat_2 kI_0 ?_
  refine g_istore_n (L' := [some (.ref o), some (.long (0 : Int64)), none, some (.int (0 : Int32))]) d_X6_allHeat_3 (by decide) rfl ?_
  obtain ⟨Kf0, hKf0, hF⟩ := fe_kx (f := fun K => fl_X6_allHeat_4_0 I J o K (mU (4 : Int32) ((0 : Int32)) + 1) (0 : Int64) (0 : Int32)) hF
  have K_4 : ∀ (nu : Nat) (x1 : Int64) (x2 : Int32), mU (4 : Int32) x2 = nu → ((0 : Int32) ≤ x2) → (∃ kq : Nat, nu < kq ∧ (fun kq => FE (fn_X6_allHeat o I J) (fun _ => fl_X6_allHeat_4_0 I J o Kf0 kq x1 x2)) kq) → G m_X6_allHeat (rq m_X6_allHeat (fun r S' I' J' => S' = SHF ∧ I = I' ∧ J = J' ∧ ∃ v : Int64, r = some (.long v) ∧ fn_X6_allHeat o I J = (v, I', J'))) 0 0 4 [some (.ref o), some (.long x1), none, some (.int x2)] [] SHF I J := by
    intro nu
    induction nu using Nat.strongRecOn with
    | ind nu ih_4 =>
      intro x1 x2 hmu_4 hl3 hF_Kf0
      obtain ⟨kf0, hkf0, hF⟩ := fe_fu (P := fun kq => FE (fn_X6_allHeat o I J) (fun _ => fl_X6_allHeat_4_0 I J o Kf0 kq x1 x2)) hF_Kf0
      replace hF := fe_eq hF (fl_X6_allHeat_4_0.eq_2 _ _ _ _ _ _ _)
      refine g_iload_n d_X6_allHeat_4 rfl ?_
      refine g_iconst (v := 4) d_X6_allHeat_5 kI_4 ?_
      refine g_icmp_ge d_X6_allHeat_6 (fun h6 => ?_) (fun h6 => ?_)
      · skip
        replace hF := fe_pos hF h6
        replace hF := fe_eq hF (congrFun (congrFun hKf0 x1) x2)
        refine g_iconst (v := 0) d_X6_allHeat_24 kI_0 ?_
        refine g_istore_n (L' := [some (.ref o), some (.long x1), none, some (.int (0 : Int32))]) d_X6_allHeat_25 (by decide) rfl ?_
        obtain ⟨Kf1, hKf1, hF⟩ := fe_kx (f := fun K => fl_X6_allHeat_26_1 I J o K (mU (8 : Int32) ((0 : Int32)) + 1) x1 (0 : Int32)) hF
        have K_26 : ∀ (nu : Nat) (x4 : Int64) (x5 : Int32), mU (8 : Int32) x5 = nu → ((0 : Int32) ≤ x5) → (∃ kq : Nat, nu < kq ∧ (fun kq => FE (fn_X6_allHeat o I J) (fun _ => fl_X6_allHeat_26_1 I J o Kf1 kq x4 x5)) kq) → G m_X6_allHeat (rq m_X6_allHeat (fun r S' I' J' => S' = SHF ∧ I = I' ∧ J = J' ∧ ∃ v : Int64, r = some (.long v) ∧ fn_X6_allHeat o I J = (v, I', J'))) 0 0 26 [some (.ref o), some (.long x4), none, some (.int x5)] [] SHF I J := by
          intro nu
          induction nu using Nat.strongRecOn with
          | ind nu ih_26 =>
            intro x4 x5 hmu_26 hl6 hF_Kf1
            obtain ⟨kf1, hkf1, hF⟩ := fe_fu (P := fun kq => FE (fn_X6_allHeat o I J) (fun _ => fl_X6_allHeat_26_1 I J o Kf1 kq x4 x5)) hF_Kf1
            replace hF := fe_eq hF (fl_X6_allHeat_26_1.eq_2 _ _ _ _ _ _ _)
            refine g_iload_n d_X6_allHeat_26 rfl ?_
            refine g_bipush (v := 8) d_X6_allHeat_27 kB_8 ?_
            refine g_icmp_ge d_X6_allHeat_29 (fun h29 => ?_) (fun h29 => ?_)
            · skip
              replace hF := fe_pos hF h29
              replace hF := fe_eq hF (congrFun (congrFun hKf1 x4) x5)
              refine g_lload_n d_X6_allHeat_58 rfl ?_
              exact g_lreturn d_X6_allHeat_59 rfl rfl rfl ⟨rfl, rfl, rfl, x4, rfl, hF⟩
            · skip
              replace hF := fe_neg hF h29
              refine g_aload_n d_X6_allHeat_32 rfl ?_
              refine g_getR d_X6_allHeat_33 fq_RX6_19 (sa0 ho) rfl ?_
              refine g_iload_n d_X6_allHeat_36 rfl ?_
              refine g_baload (N := 8) d_X6_allHeat_37 (sa3 ho) kT_8 ⟨hl6, Int32.not_le.mp h29⟩ rfl (fun hz37 => ?_)
              refine g_if_eq d_X6_allHeat_38 (fun h38 => ?_) (fun h38 => ?_)
              · skip
                replace hF := fe_pos hF h38
                refine g_iinc (v := (x5 + (1 : Int32))) (L' := [some (.ref o), some (.long x4), none, some (.int (x5 + (1 : Int32)))]) d_X6_allHeat_52 rfl (by rw [kI_1]) (by decide) rfl ?_
                refine g_goto d_X6_allHeat_55 ?_
                exact ih_26 _ (by rw [← hmu_26]; exact mu_up h29) x4 (x5 + (1 : Int32)) rfl (lo_up hl6 h29) ⟨kf1, Nat.lt_of_lt_of_le (by rw [← hmu_26]; exact mu_up h29) hkf1, hF⟩
              · skip
                replace hF := fe_neg hF h38
                refine g_lload_n d_X6_allHeat_41 rfl ?_
                refine g_aload_n d_X6_allHeat_42 rfl ?_
                refine g_getR d_X6_allHeat_43 fq_RX6_9 (sa0 ho) rfl ?_
                refine g_iconst (v := 4) d_X6_allHeat_46 kI_4 ?_
                refine g_iload_n d_X6_allHeat_47 rfl ?_
                refine g_iadd d_X6_allHeat_48 ?_
                refine g_laload (N := 12) d_X6_allHeat_49 (sa1 ho) kT_12 (by constructor <;> grind) rfl ?_
                refine g_ladd d_X6_allHeat_50 ?_
                refine g_topJ (fun v7 ev7 => ?_)
                replace hF := fe_lt hF ev7
                refine g_lstore_n (L' := [some (.ref o), some (.long v7), none, some (.int x5)]) d_X6_allHeat_51 (by decide) rfl ?_
                refine g_iinc (v := (x5 + (1 : Int32))) (L' := [some (.ref o), some (.long v7), none, some (.int (x5 + (1 : Int32)))]) d_X6_allHeat_52 rfl (by rw [kI_1]) (by decide) rfl ?_
                refine g_goto d_X6_allHeat_55 ?_
                exact ih_26 _ (by rw [← hmu_26]; exact mu_up h29) v7 (x5 + (1 : Int32)) rfl (lo_up hl6 h29) ⟨kf1, Nat.lt_of_lt_of_le (by rw [← hmu_26]; exact mu_up h29) hkf1, hF⟩
        exact K_26 _ x1 (0 : Int32) rfl (Int32.le_refl _) ⟨_, Nat.lt_succ_self _, hF⟩
      · skip
        replace hF := fe_neg hF h6
        refine g_lload_n d_X6_allHeat_9 rfl ?_
        refine g_aload_n d_X6_allHeat_10 rfl ?_
        refine g_getR d_X6_allHeat_11 fq_RX6_9 (sa0 ho) rfl ?_
        refine g_iload_n d_X6_allHeat_14 rfl ?_
        refine g_laload (N := 12) d_X6_allHeat_15 (sa1 ho) kT_12 (by constructor <;> grind) rfl ?_
        refine g_ladd d_X6_allHeat_16 ?_
        refine g_topJ (fun v8 ev8 => ?_)
        replace hF := fe_lt hF ev8
        refine g_lstore_n (L' := [some (.ref o), some (.long v8), none, some (.int x2)]) d_X6_allHeat_17 (by decide) rfl ?_
        refine g_iinc (v := (x2 + (1 : Int32))) (L' := [some (.ref o), some (.long v8), none, some (.int (x2 + (1 : Int32)))]) d_X6_allHeat_18 rfl (by rw [kI_1]) (by decide) rfl ?_
        refine g_goto d_X6_allHeat_21 ?_
        exact ih_4 _ (by rw [← hmu_4]; exact mu_up h6) v8 (x2 + (1 : Int32)) rfl (lo_up hl3 h6) ⟨kf0, Nat.lt_of_lt_of_le (by rw [← hmu_4]; exact mu_up h6) hkf0, hF⟩
  exact K_4 _ (0 : Int64) (0 : Int32) rfl (Int32.le_refl _) ⟨_, Nat.lt_succ_self _, hF⟩
noncomputable def fn_X6_hasFood (o : Nat) (f : Int32) (I : Iv) (J : Jv) : Int32 × Iv × Jv :=
  if f < 0 then ((0 : Int32), I, J) else if (8 : Int32) ≤ f then ((0 : Int32), I, J) else if (I (o + 3) f.toNatClampNeg) = 0 then ((0 : Int32), I, J) else ((1 : Int32), I, J)
set_option maxRecDepth 100000 in
set_option maxHeartbeats 4000000 in
theorem ct_X6_hasFood (f : Int32) {o : Nat} (I : Iv) (J : Jv) (ho : StA o) : Ct m_X6_hasFood [.ref o, .int f] SHF I J (fun r S' I' J' => S' = SHF ∧ I = I' ∧ J = J' ∧ ∃ v : Int32, r = some (.int v) ∧ (v = 0 ∨ v = 1) ∧ fn_X6_hasFood o f I J = (v, I', J') ∧ (v = 1 → 0 ≤ f ∧ f ≤ 7)) := by
  refine ct_of 0 (by decide +kernel) rfl rfl ?_
  have hF := fe_of (fn_X6_hasFood.eq_1 o f I J)
  refine g_iload_n d_X6_hasFood_0 rfl ?_
  refine g_if_lt d_X6_hasFood_1 (fun h1 => ?_) (fun h1 => ?_)
  · skip
    replace hF := fe_pos hF h1
    refine g_iconst (v := 0) d_X6_hasFood_23 kI_0 ?_
    exact g_ireturn d_X6_hasFood_24 rfl rfl rfl rfl ⟨rfl, rfl, rfl, (0 : Int32), rfl, Or.inl rfl, hF, by grind⟩
  · skip
    replace hF := fe_neg hF h1
    refine g_iload_n d_X6_hasFood_4 rfl ?_
    refine g_bipush (v := 8) d_X6_hasFood_5 kB_8 ?_
    refine g_icmp_ge d_X6_hasFood_7 (fun h7 => ?_) (fun h7 => ?_)
    · skip
      replace hF := fe_pos hF h7
      refine g_iconst (v := 0) d_X6_hasFood_23 kI_0 ?_
      exact g_ireturn d_X6_hasFood_24 rfl rfl rfl rfl ⟨rfl, rfl, rfl, (0 : Int32), rfl, Or.inl rfl, hF, by grind⟩
    · skip
      replace hF := fe_neg hF h7
      refine g_aload_n d_X6_hasFood_10 rfl ?_
      refine g_getR d_X6_hasFood_11 fq_RX6_19 (sa0 ho) rfl ?_
      refine g_iload_n d_X6_hasFood_14 rfl ?_
      refine g_baload (N := 8) d_X6_hasFood_15 (sa3 ho) kT_8 (by constructor <;> grind) rfl (fun hz15 => ?_)
      refine g_if_eq d_X6_hasFood_16 (fun h16 => ?_) (fun h16 => ?_)
      · skip
        replace hF := fe_pos hF h16
        refine g_iconst (v := 0) d_X6_hasFood_23 kI_0 ?_
        exact g_ireturn d_X6_hasFood_24 rfl rfl rfl rfl ⟨rfl, rfl, rfl, (0 : Int32), rfl, Or.inl rfl, hF, by grind⟩
      · skip
        replace hF := fe_neg hF h16
        refine g_iconst (v := 1) d_X6_hasFood_19 kI_1 ?_
        refine g_goto d_X6_hasFood_20 ?_
        exact g_ireturn d_X6_hasFood_24 rfl rfl rfl rfl ⟨rfl, rfl, rfl, (1 : Int32), rfl, Or.inr rfl, hF, by grind⟩
noncomputable def fl_X6_firstNotThere_2_0 (I : Iv) (J : Jv) (o : Nat) (Kf0 : Int32 → Int32 × Iv × Jv) : Nat → Int32 → Int32 × Iv × Jv
  | 0, x1 => (0, I, J)
  | kf0 + 1, x1 => if (8 : Int32) ≤ x1 then Kf0 x1 else if (I (o + 3) x1.toNatClampNeg) = 0 then (x1, I, J) else fl_X6_firstNotThere_2_0 I J o Kf0 kf0 (x1 + (1 : Int32))
noncomputable def fn_X6_firstNotThere (o : Nat) (I : Iv) (J : Jv) : Int32 × Iv × Jv :=
  fl_X6_firstNotThere_2_0 I J o (fun (x1 : Int32) => ((-1 : Int32), I, J)) (mU (8 : Int32) ((0 : Int32)) + 1) (0 : Int32)
set_option maxRecDepth 100000 in
set_option maxHeartbeats 4000000 in
theorem ct_X6_firstNotThere {o : Nat} (I : Iv) (J : Jv) (ho : StA o) : Ct m_X6_firstNotThere [.ref o] SHF I J (fun r S' I' J' => S' = SHF ∧ I = I' ∧ J = J' ∧ ∃ v : Int32, r = some (.int v) ∧ fn_X6_firstNotThere o I J = (v, I', J') ∧ (v < 0 ∨ (0 ≤ v ∧ v < 8))) := by
  refine ct_of 1 (by decide +kernel) rfl rfl ?_
  have hF := fe_of (fn_X6_firstNotThere.eq_1 o I J)
  refine g_iconst (v := 0) d_X6_firstNotThere_0 kI_0 ?_
  refine g_istore_n (L' := [some (.ref o), some (.int (0 : Int32))]) d_X6_firstNotThere_1 (by decide) rfl ?_
  obtain ⟨Kf0, hKf0, hF⟩ := fe_kx (f := fun K => fl_X6_firstNotThere_2_0 I J o K (mU (8 : Int32) ((0 : Int32)) + 1) (0 : Int32)) hF
  have K_2 : ∀ (nu : Nat) (x1 : Int32), mU (8 : Int32) x1 = nu → ((0 : Int32) ≤ x1) → (∃ kq : Nat, nu < kq ∧ (fun kq => FE (fn_X6_firstNotThere o I J) (fun _ => fl_X6_firstNotThere_2_0 I J o Kf0 kq x1)) kq) → G m_X6_firstNotThere (rq m_X6_firstNotThere (fun r S' I' J' => S' = SHF ∧ I = I' ∧ J = J' ∧ ∃ v : Int32, r = some (.int v) ∧ fn_X6_firstNotThere o I J = (v, I', J') ∧ (v < 0 ∨ (0 ≤ v ∧ v < 8)))) 0 0 2 [some (.ref o), some (.int x1)] [] SHF I J := by
    intro nu
    induction nu using Nat.strongRecOn with
    | ind nu ih_2 =>
      intro x1 hmu_2 hl2 hF_Kf0
      obtain ⟨kf0, hkf0, hF⟩ := fe_fu (P := fun kq => FE (fn_X6_firstNotThere o I J) (fun _ => fl_X6_firstNotThere_2_0 I J o Kf0 kq x1)) hF_Kf0
      replace hF := fe_eq hF (fl_X6_firstNotThere_2_0.eq_2 _ _ _ _ _ _)
      refine g_iload_n d_X6_firstNotThere_2 rfl ?_
      refine g_bipush (v := 8) d_X6_firstNotThere_3 kB_8 ?_
      refine g_icmp_ge d_X6_firstNotThere_5 (fun h5 => ?_) (fun h5 => ?_)
      · skip
        replace hF := fe_pos hF h5
        replace hF := fe_eq hF (congrFun hKf0 x1)
        refine g_iconst (v := -1) d_X6_firstNotThere_25 kI_m1 ?_
        exact g_ireturn d_X6_firstNotThere_26 rfl rfl rfl rfl ⟨rfl, rfl, rfl, (-1 : Int32), rfl, hF, by grind⟩
      · skip
        replace hF := fe_neg hF h5
        refine g_aload_n d_X6_firstNotThere_8 rfl ?_
        refine g_getR d_X6_firstNotThere_9 fq_RX6_19 (sa0 ho) rfl ?_
        refine g_iload_n d_X6_firstNotThere_12 rfl ?_
        refine g_baload (N := 8) d_X6_firstNotThere_13 (sa3 ho) kT_8 ⟨hl2, Int32.not_le.mp h5⟩ rfl (fun hz13 => ?_)
        refine g_if_ne d_X6_firstNotThere_14 (fun h14 => ?_) (fun h14 => ?_)
        · skip
          replace hF := fe_neg hF h14
          refine g_iinc (v := (x1 + (1 : Int32))) (L' := [some (.ref o), some (.int (x1 + (1 : Int32)))]) d_X6_firstNotThere_19 rfl (by rw [kI_1]) (by decide) rfl ?_
          refine g_goto d_X6_firstNotThere_22 ?_
          exact ih_2 _ (by rw [← hmu_2]; exact mu_up h5) (x1 + (1 : Int32)) rfl (lo_up hl2 h5) ⟨kf0, Nat.lt_of_lt_of_le (by rw [← hmu_2]; exact mu_up h5) hkf0, hF⟩
        · skip
          replace hF := fe_pos hF h14
          refine g_iload_n d_X6_firstNotThere_17 rfl ?_
          exact g_ireturn d_X6_firstNotThere_18 rfl rfl rfl rfl ⟨rfl, rfl, rfl, x1, rfl, hF, by grind⟩
  exact K_2 _ (0 : Int32) rfl (Int32.le_refl _) ⟨_, Nat.lt_succ_self _, hF⟩
noncomputable def fl_X6_foodsThere_4_0 (I : Iv) (J : Jv) (o : Nat) (Kf0 : Int32 → Int32 → Int32 × Iv × Jv) : Nat → Int32 → Int32 → Int32 × Iv × Jv
  | 0, x1, x2 => (0, I, J)
  | kf0 + 1, x1, x2 => if (8 : Int32) ≤ x2 then Kf0 x1 x2 else if (I (o + 3) x2.toNatClampNeg) = 0 then fl_X6_foodsThere_4_0 I J o Kf0 kf0 x1 (x2 + (1 : Int32)) else fl_X6_foodsThere_4_0 I J o Kf0 kf0 (x1 + (1 : Int32)) (x2 + (1 : Int32))
noncomputable def fn_X6_foodsThere (o : Nat) (I : Iv) (J : Jv) : Int32 × Iv × Jv :=
  fl_X6_foodsThere_4_0 I J o (fun (x1 : Int32) (x2 : Int32) => (x1, I, J)) (mU (8 : Int32) ((0 : Int32)) + 1) (0 : Int32) (0 : Int32)
set_option maxRecDepth 100000 in
set_option maxHeartbeats 4000000 in
theorem ct_X6_foodsThere {o : Nat} (I : Iv) (J : Jv) (ho : StA o) : Ct m_X6_foodsThere [.ref o] SHF I J (fun r S' I' J' => S' = SHF ∧ I = I' ∧ J = J' ∧ ∃ v : Int32, r = some (.int v) ∧ fn_X6_foodsThere o I J = (v, I', J')) := by
  refine ct_of 2 (by decide +kernel) rfl rfl ?_
  have hF := fe_of (fn_X6_foodsThere.eq_1 o I J)
  refine g_iconst (v := 0) d_X6_foodsThere_0 kI_0 ?_
  refine g_istore_n (L' := [some (.ref o), some (.int (0 : Int32)), none]) d_X6_foodsThere_1 (by decide) rfl ?_
  refine g_iconst (v := 0) d_X6_foodsThere_2 kI_0 ?_
  refine g_istore_n (L' := [some (.ref o), some (.int (0 : Int32)), some (.int (0 : Int32))]) d_X6_foodsThere_3 (by decide) rfl ?_
  obtain ⟨Kf0, hKf0, hF⟩ := fe_kx (f := fun K => fl_X6_foodsThere_4_0 I J o K (mU (8 : Int32) ((0 : Int32)) + 1) (0 : Int32) (0 : Int32)) hF
  have K_4 : ∀ (nu : Nat) (x1 : Int32) (x2 : Int32), mU (8 : Int32) x2 = nu → ((0 : Int32) ≤ x2) → (∃ kq : Nat, nu < kq ∧ (fun kq => FE (fn_X6_foodsThere o I J) (fun _ => fl_X6_foodsThere_4_0 I J o Kf0 kq x1 x2)) kq) → G m_X6_foodsThere (rq m_X6_foodsThere (fun r S' I' J' => S' = SHF ∧ I = I' ∧ J = J' ∧ ∃ v : Int32, r = some (.int v) ∧ fn_X6_foodsThere o I J = (v, I', J'))) 0 0 4 [some (.ref o), some (.int x1), some (.int x2)] [] SHF I J := by
    intro nu
    induction nu using Nat.strongRecOn with
    | ind nu ih_4 =>
      intro x1 x2 hmu_4 hl3 hF_Kf0
      obtain ⟨kf0, hkf0, hF⟩ := fe_fu (P := fun kq => FE (fn_X6_foodsThere o I J) (fun _ => fl_X6_foodsThere_4_0 I J o Kf0 kq x1 x2)) hF_Kf0
      replace hF := fe_eq hF (fl_X6_foodsThere_4_0.eq_2 _ _ _ _ _ _ _)
      refine g_iload_n d_X6_foodsThere_4 rfl ?_
      refine g_bipush (v := 8) d_X6_foodsThere_5 kB_8 ?_
      refine g_icmp_ge d_X6_foodsThere_7 (fun h7 => ?_) (fun h7 => ?_)
      · skip
        replace hF := fe_pos hF h7
        replace hF := fe_eq hF (congrFun (congrFun hKf0 x1) x2)
        refine g_iload_n d_X6_foodsThere_28 rfl ?_
        exact g_ireturn d_X6_foodsThere_29 rfl rfl rfl rfl ⟨rfl, rfl, rfl, x1, rfl, hF⟩
      · skip
        replace hF := fe_neg hF h7
        refine g_aload_n d_X6_foodsThere_10 rfl ?_
        refine g_getR d_X6_foodsThere_11 fq_RX6_19 (sa0 ho) rfl ?_
        refine g_iload_n d_X6_foodsThere_14 rfl ?_
        refine g_baload (N := 8) d_X6_foodsThere_15 (sa3 ho) kT_8 ⟨hl3, Int32.not_le.mp h7⟩ rfl (fun hz15 => ?_)
        refine g_if_eq d_X6_foodsThere_16 (fun h16 => ?_) (fun h16 => ?_)
        · skip
          replace hF := fe_pos hF h16
          refine g_iinc (v := (x2 + (1 : Int32))) (L' := [some (.ref o), some (.int x1), some (.int (x2 + (1 : Int32)))]) d_X6_foodsThere_22 rfl (by rw [kI_1]) (by decide) rfl ?_
          refine g_goto d_X6_foodsThere_25 ?_
          exact ih_4 _ (by rw [← hmu_4]; exact mu_up h7) x1 (x2 + (1 : Int32)) rfl (lo_up hl3 h7) ⟨kf0, Nat.lt_of_lt_of_le (by rw [← hmu_4]; exact mu_up h7) hkf0, hF⟩
        · skip
          replace hF := fe_neg hF h16
          refine g_iinc (v := (x1 + (1 : Int32))) (L' := [some (.ref o), some (.int (x1 + (1 : Int32))), some (.int x2)]) d_X6_foodsThere_19 rfl (by rw [kI_1]) (by decide) rfl ?_
          refine g_iinc (v := (x2 + (1 : Int32))) (L' := [some (.ref o), some (.int (x1 + (1 : Int32))), some (.int (x2 + (1 : Int32)))]) d_X6_foodsThere_22 rfl (by rw [kI_1]) (by decide) rfl ?_
          refine g_goto d_X6_foodsThere_25 ?_
          exact ih_4 _ (by rw [← hmu_4]; exact mu_up h7) (x1 + (1 : Int32)) (x2 + (1 : Int32)) rfl (lo_up hl3 h7) ⟨kf0, Nat.lt_of_lt_of_le (by rw [← hmu_4]; exact mu_up h7) hkf0, hF⟩
  exact K_4 _ (0 : Int32) (0 : Int32) rfl (Int32.le_refl _) ⟨_, Nat.lt_succ_self _, hF⟩
noncomputable def fn_X6_addFood (o : Nat) (f : Int32) (shelf : Int32) (warm : Int32) (cap : Int32) (I : Iv) (J : Jv) : Iv × Jv :=
  if f < 0 then (I, J) else if f < (8 : Int32) then l_t (wI I (o + 3) (f.toNatClampNeg) (1 : Int32)) (fun (I1 : Iv) => l_t (wI I1 (o + 4) (f.toNatClampNeg) shelf) (fun (I3 : Iv) => l_t (wI I3 (o + 2) ((((4 : Int32) + f)).toNatClampNeg) cap) (fun (I5 : Iv) => l_t (wJ J (o + 1) ((((4 : Int32) + f)).toNatClampNeg) ((Int32.toInt64 warm) * (Int32.toInt64 cap))) (fun (J7 : Jv) => l_t (wJ J7 (o + 7) 2 ((J7 (o + 7) 2) + (J7 (o + 1) (((4 : Int32) + f)).toNatClampNeg))) (fun (J9 : Jv) => (I5, J9)))))) else (I, J)
set_option maxRecDepth 100000 in
set_option maxHeartbeats 4000000 in
theorem ct_X6_addFood (f : Int32) (shelf : Int32) (warm : Int32) (cap : Int32) {o : Nat} (I : Iv) (J : Jv) (ho : StA o) : Ct m_X6_addFood [.ref o, .int f, .int shelf, .int warm, .int cap] SHF I J (fun r S' I' J' => S' = SHF ∧ FS o I J I' J' ∧ r = none ∧ fn_X6_addFood o f shelf warm cap I J = (I', J')) := by
  refine ct_of 0 (by decide +kernel) rfl rfl ?_
  have hK0 : FS o I J I J := fs_rfl
  have hF := fe_of (fn_X6_addFood.eq_1 o f shelf warm cap I J)
  refine g_iload_n d_X6_addFood_0 rfl ?_
  refine g_if_lt d_X6_addFood_1 (fun h1 => ?_) (fun h1 => ?_)
  · skip
    replace hF := fe_pos hF h1
    exact g_return d_X6_addFood_10 rfl rfl rfl ⟨rfl, hK0, rfl, hF⟩
  · skip
    replace hF := fe_neg hF h1
    refine g_iload_n d_X6_addFood_4 rfl ?_
    refine g_bipush (v := 8) d_X6_addFood_5 kB_8 ?_
    refine g_icmp_lt d_X6_addFood_7 (fun h7 => ?_) (fun h7 => ?_)
    · skip
      replace hF := fe_pos hF h7
      refine g_aload_n d_X6_addFood_11 rfl ?_
      refine g_getR d_X6_addFood_12 fq_RX6_19 (sa0 ho) rfl ?_
      refine g_iload_n d_X6_addFood_15 rfl ?_
      refine g_iconst (v := 1) d_X6_addFood_16 kI_1 ?_
      refine g_bastore (N := 8) d_X6_addFood_17 (sa3 ho) kT_8 (by constructor <;> grind) rfl (Or.inr rfl) ?_
      refine g_nmI (fun I1 eI1 => ?_)
      replace hF := fe_lt hF eI1
      have hK2 : FS o I J I1 J := (by rw [eI1]; exact fs_wI ho hK0 (by omega))
      refine g_aload_n d_X6_addFood_18 rfl ?_
      refine g_getR d_X6_addFood_19 fq_RX6_23 (sa0 ho) rfl ?_
      refine g_iload_n d_X6_addFood_22 rfl ?_
      refine g_iload_n d_X6_addFood_23 rfl ?_
      refine g_iastore (N := 8) d_X6_addFood_24 (sa4 ho) kT_8 (by constructor <;> grind) rfl  ?_
      refine g_nmI (fun I3 eI3 => ?_)
      replace hF := fe_lt hF eI3
      have hK4 : FS o I J I3 J := (by rw [eI3]; exact fs_wI ho hK2 (by omega))
      refine g_aload_n d_X6_addFood_25 rfl ?_
      refine g_getR d_X6_addFood_26 fq_RX6_15 (sa0 ho) rfl ?_
      refine g_iconst (v := 4) d_X6_addFood_29 kI_4 ?_
      refine g_iload_n d_X6_addFood_30 rfl ?_
      refine g_iadd d_X6_addFood_31 ?_
      refine g_iload d_X6_addFood_32 rfl ?_
      refine g_iastore (N := 12) d_X6_addFood_34 (sa2 ho) kT_12 (by constructor <;> grind) rfl  ?_
      refine g_nmI (fun I5 eI5 => ?_)
      replace hF := fe_lt hF eI5
      have hK6 : FS o I J I5 J := (by rw [eI5]; exact fs_wI ho hK4 (by omega))
      refine g_aload_n d_X6_addFood_35 rfl ?_
      refine g_getR d_X6_addFood_36 fq_RX6_9 (sa0 ho) rfl ?_
      refine g_iconst (v := 4) d_X6_addFood_39 kI_4 ?_
      refine g_iload_n d_X6_addFood_40 rfl ?_
      refine g_iadd d_X6_addFood_41 ?_
      refine g_iload_n d_X6_addFood_42 rfl ?_
      refine g_i2l d_X6_addFood_43 ?_
      refine g_iload d_X6_addFood_44 rfl ?_
      refine g_i2l d_X6_addFood_46 ?_
      refine g_lmul d_X6_addFood_47 ?_
      refine g_lastore (N := 12) d_X6_addFood_48 (sa1 ho) kT_12 (by constructor <;> grind) rfl  ?_
      refine g_nmJ (fun J7 eJ7 => ?_)
      replace hF := fe_lt hF eJ7
      have hK8 : FS o I J I5 J7 := (by rw [eJ7]; exact fs_wJ hK6 (by omega))
      refine g_aload_n d_X6_addFood_49 rfl ?_
      refine g_getR d_X6_addFood_50 fq_RX6_32 (sa0 ho) rfl ?_
      refine g_iconst (v := 2) d_X6_addFood_53 kI_2 ?_
      refine g_dup2 d_X6_addFood_54 rfl rfl ?_
      refine g_laload (N := 6) d_X6_addFood_55 (sa7 ho) kT_6 ⟨by decide, by decide⟩ kN_2 ?_
      refine g_aload_n d_X6_addFood_56 rfl ?_
      refine g_getR d_X6_addFood_57 fq_RX6_9 (sa0 ho) rfl ?_
      refine g_iconst (v := 4) d_X6_addFood_60 kI_4 ?_
      refine g_iload_n d_X6_addFood_61 rfl ?_
      refine g_iadd d_X6_addFood_62 ?_
      refine g_laload (N := 12) d_X6_addFood_63 (sa1 ho) kT_12 (by constructor <;> grind) rfl ?_
      refine g_ladd d_X6_addFood_64 ?_
      refine g_lastore (N := 6) d_X6_addFood_65 (sa7 ho) kT_6 ⟨by decide, by decide⟩ kN_2  ?_
      refine g_nmJ (fun J9 eJ9 => ?_)
      replace hF := fe_lt hF eJ9
      have hK10 : FS o I J I5 J9 := (by rw [eJ9]; exact fs_wJ hK8 (by omega))
      exact g_return d_X6_addFood_66 rfl rfl rfl ⟨rfl, hK10, rfl, hF⟩
    · skip
      replace hF := fe_neg hF h7
      exact g_return d_X6_addFood_10 rfl rfl rfl ⟨rfl, hK0, rfl, hF⟩
noncomputable def fn_X6_removeFood (o : Nat) (f : Int32) (I : Iv) (J : Jv) : Iv × Jv :=
  if f < 0 then (I, J) else if f < (8 : Int32) then l_t (wI I (o + 3) (f.toNatClampNeg) (0 : Int32)) (fun (I1 : Iv) => l_t (wJ J (o + 7) 5 ((J (o + 7) 5) + (J (o + 1) (((4 : Int32) + f)).toNatClampNeg))) (fun (J3 : Jv) => l_t (wJ J3 (o + 1) ((((4 : Int32) + f)).toNatClampNeg) (0 : Int64)) (fun (J5 : Jv) => (I1, J5)))) else (I, J)
set_option maxRecDepth 100000 in
set_option maxHeartbeats 4000000 in
theorem ct_X6_removeFood (f : Int32) {o : Nat} (I : Iv) (J : Jv) (ho : StA o) : Ct m_X6_removeFood [.ref o, .int f] SHF I J (fun r S' I' J' => S' = SHF ∧ FS o I J I' J' ∧ r = none ∧ fn_X6_removeFood o f I J = (I', J')) := by
  refine ct_of 0 (by decide +kernel) rfl rfl ?_
  have hK0 : FS o I J I J := fs_rfl
  have hF := fe_of (fn_X6_removeFood.eq_1 o f I J)
  refine g_iload_n d_X6_removeFood_0 rfl ?_
  refine g_if_lt d_X6_removeFood_1 (fun h1 => ?_) (fun h1 => ?_)
  · skip
    replace hF := fe_pos hF h1
    exact g_return d_X6_removeFood_10 rfl rfl rfl ⟨rfl, hK0, rfl, hF⟩
  · skip
    replace hF := fe_neg hF h1
    refine g_iload_n d_X6_removeFood_4 rfl ?_
    refine g_bipush (v := 8) d_X6_removeFood_5 kB_8 ?_
    refine g_icmp_lt d_X6_removeFood_7 (fun h7 => ?_) (fun h7 => ?_)
    · skip
      replace hF := fe_pos hF h7
      refine g_aload_n d_X6_removeFood_11 rfl ?_
      refine g_getR d_X6_removeFood_12 fq_RX6_19 (sa0 ho) rfl ?_
      refine g_iload_n d_X6_removeFood_15 rfl ?_
      refine g_iconst (v := 0) d_X6_removeFood_16 kI_0 ?_
      refine g_bastore (N := 8) d_X6_removeFood_17 (sa3 ho) kT_8 (by constructor <;> grind) rfl (Or.inl rfl) ?_
      refine g_nmI (fun I1 eI1 => ?_)
      replace hF := fe_lt hF eI1
      have hK2 : FS o I J I1 J := (by rw [eI1]; exact fs_wI ho hK0 (by omega))
      refine g_aload_n d_X6_removeFood_18 rfl ?_
      refine g_getR d_X6_removeFood_19 fq_RX6_32 (sa0 ho) rfl ?_
      refine g_iconst (v := 5) d_X6_removeFood_22 kI_5 ?_
      refine g_dup2 d_X6_removeFood_23 rfl rfl ?_
      refine g_laload (N := 6) d_X6_removeFood_24 (sa7 ho) kT_6 ⟨by decide, by decide⟩ kN_5 ?_
      refine g_aload_n d_X6_removeFood_25 rfl ?_
      refine g_getR d_X6_removeFood_26 fq_RX6_9 (sa0 ho) rfl ?_
      refine g_iconst (v := 4) d_X6_removeFood_29 kI_4 ?_
      refine g_iload_n d_X6_removeFood_30 rfl ?_
      refine g_iadd d_X6_removeFood_31 ?_
      refine g_laload (N := 12) d_X6_removeFood_32 (sa1 ho) kT_12 (by constructor <;> grind) rfl ?_
      refine g_ladd d_X6_removeFood_33 ?_
      refine g_lastore (N := 6) d_X6_removeFood_34 (sa7 ho) kT_6 ⟨by decide, by decide⟩ kN_5  ?_
      refine g_nmJ (fun J3 eJ3 => ?_)
      replace hF := fe_lt hF eJ3
      have hK4 : FS o I J I1 J3 := (by rw [eJ3]; exact fs_wJ hK2 (by omega))
      refine g_aload_n d_X6_removeFood_35 rfl ?_
      refine g_getR d_X6_removeFood_36 fq_RX6_9 (sa0 ho) rfl ?_
      refine g_iconst (v := 4) d_X6_removeFood_39 kI_4 ?_
      refine g_iload_n d_X6_removeFood_40 rfl ?_
      refine g_iadd d_X6_removeFood_41 ?_
      refine g_lconst d_X6_removeFood_42 kL_0 ?_
      refine g_lastore (N := 12) d_X6_removeFood_43 (sa1 ho) kT_12 (by constructor <;> grind) rfl  ?_
      refine g_nmJ (fun J5 eJ5 => ?_)
      replace hF := fe_lt hF eJ5
      have hK6 : FS o I J I1 J5 := (by rw [eJ5]; exact fs_wJ hK4 (by omega))
      exact g_return d_X6_removeFood_44 rfl rfl rfl ⟨rfl, hK6, rfl, hF⟩
    · skip
      replace hF := fe_neg hF h7
      exact g_return d_X6_removeFood_10 rfl rfl rfl ⟨rfl, hK0, rfl, hF⟩
noncomputable def fn_X6_isWithin (o : Nat) (f : Int32) (I : Iv) (J : Jv) : Int32 × Iv × Jv :=
  b_n3 (fn_X6_warmthOf o ((4 : Int32) + f) I J) (fun (r6 : Int32) (_ : Iv) (_ : Jv) => if f < 0 then ((0 : Int32), I, J) else if (8 : Int32) ≤ f then ((0 : Int32), I, J) else if r6 < (I (o + 5) f.toNatClampNeg) then ((0 : Int32), I, J) else if (I (o + 6) f.toNatClampNeg) < r6 then ((0 : Int32), I, J) else ((1 : Int32), I, J))
set_option maxRecDepth 100000 in
set_option maxHeartbeats 4000000 in
theorem ct_X6_isWithin (f : Int32) {o : Nat} (I : Iv) (J : Jv) (ho : StA o) : Ct m_X6_isWithin [.ref o, .int f] SHF I J (fun r S' I' J' => S' = SHF ∧ I = I' ∧ J = J' ∧ ∃ v : Int32, r = some (.int v) ∧ (v = 0 ∨ v = 1) ∧ fn_X6_isWithin o f I J = (v, I', J')) := by
  refine ct_of 1 (by decide +kernel) rfl rfl ?_
  have hF := fe_of (fn_X6_isWithin.eq_1 o f I J)
  refine g_aload_n d_X6_isWithin_0 rfl ?_
  refine g_iconst (v := 4) d_X6_isWithin_1 kI_4 ?_
  refine g_iload_n d_X6_isWithin_2 rfl ?_
  refine g_iadd d_X6_isWithin_3 ?_
  refine g_V1 d_X6_isWithin_4 cs_X6_isWithin_X6_warmthOf lk_RX6_81 im_X6_warmthOf se_X6_warmthOf (sa0 ho) rfl rfl (Nat.le_of_ble_eq_true rfl) ⟨rfl, rfl⟩ ⟨Nat.zero_le _, Nat.zero_le _⟩ (ct_X6_warmthOf ((4 : Int32) + f) I J ho) (fun r4 S4 Ic2 Jc3 q4_0 => ?_)
  obtain ⟨rfl, rfl, rfl, r6, rfl, hf4_4⟩ := q4_0
  replace hF := fe_b3 hF hf4_4
  refine g_st (st' := [.int r6]) rfl ?_
  refine g_istore_n (L' := [some (.ref o), some (.int f), some (.int r6)]) d_X6_isWithin_7 (by decide) rfl ?_
  refine g_iload_n d_X6_isWithin_8 rfl ?_
  refine g_if_lt d_X6_isWithin_9 (fun h9 => ?_) (fun h9 => ?_)
  · skip
    replace hF := fe_pos hF h9
    refine g_iconst (v := 0) d_X6_isWithin_42 kI_0 ?_
    exact g_ireturn d_X6_isWithin_43 rfl rfl rfl rfl ⟨rfl, rfl, rfl, (0 : Int32), rfl, Or.inl rfl, hF⟩
  · skip
    replace hF := fe_neg hF h9
    refine g_iload_n d_X6_isWithin_12 rfl ?_
    refine g_bipush (v := 8) d_X6_isWithin_13 kB_8 ?_
    refine g_icmp_ge d_X6_isWithin_15 (fun h15 => ?_) (fun h15 => ?_)
    · skip
      replace hF := fe_pos hF h15
      refine g_iconst (v := 0) d_X6_isWithin_42 kI_0 ?_
      exact g_ireturn d_X6_isWithin_43 rfl rfl rfl rfl ⟨rfl, rfl, rfl, (0 : Int32), rfl, Or.inl rfl, hF⟩
    · skip
      replace hF := fe_neg hF h15
      refine g_aload_n d_X6_isWithin_18 rfl ?_
      refine g_getR d_X6_isWithin_19 fq_RX6_26 (sa0 ho) rfl ?_
      refine g_iload_n d_X6_isWithin_22 rfl ?_
      refine g_iaload (N := 8) d_X6_isWithin_23 (sa5 ho) kT_8 (by constructor <;> grind) rfl ?_
      refine g_iload_n d_X6_isWithin_24 rfl ?_
      refine g_icmp_gt d_X6_isWithin_25 (fun h25 => ?_) (fun h25 => ?_)
      · skip
        replace hF := fe_pos hF h25
        refine g_iconst (v := 0) d_X6_isWithin_42 kI_0 ?_
        exact g_ireturn d_X6_isWithin_43 rfl rfl rfl rfl ⟨rfl, rfl, rfl, (0 : Int32), rfl, Or.inl rfl, hF⟩
      · skip
        replace hF := fe_neg hF h25
        refine g_iload_n d_X6_isWithin_28 rfl ?_
        refine g_aload_n d_X6_isWithin_29 rfl ?_
        refine g_getR d_X6_isWithin_30 fq_RX6_29 (sa0 ho) rfl ?_
        refine g_iload_n d_X6_isWithin_33 rfl ?_
        refine g_iaload (N := 8) d_X6_isWithin_34 (sa6 ho) kT_8 (by constructor <;> grind) rfl ?_
        refine g_icmp_gt d_X6_isWithin_35 (fun h35 => ?_) (fun h35 => ?_)
        · skip
          replace hF := fe_pos hF h35
          refine g_iconst (v := 0) d_X6_isWithin_42 kI_0 ?_
          exact g_ireturn d_X6_isWithin_43 rfl rfl rfl rfl ⟨rfl, rfl, rfl, (0 : Int32), rfl, Or.inl rfl, hF⟩
        · skip
          replace hF := fe_neg hF h35
          refine g_iconst (v := 1) d_X6_isWithin_38 kI_1 ?_
          refine g_goto d_X6_isWithin_39 ?_
          exact g_ireturn d_X6_isWithin_43 rfl rfl rfl rfl ⟨rfl, rfl, rfl, (1 : Int32), rfl, Or.inr rfl, hF⟩
noncomputable def fl_X6_foodsWithin_4_0 (I : Iv) (J : Jv) (o : Nat) (Kf0 : Int32 → Int32 → Int32 × Iv × Jv) : Nat → Int32 → Int32 → Int32 × Iv × Jv
  | 0, x1, x2 => (0, I, J)
  | kf0 + 1, x1, x2 => if (8 : Int32) ≤ x2 then Kf0 x1 x2 else if (I (o + 3) x2.toNatClampNeg) = 0 then fl_X6_foodsWithin_4_0 I J o Kf0 kf0 x1 (x2 + (1 : Int32)) else b_n3 (fn_X6_isWithin o x2 I J) (fun (r9 : Int32) (_ : Iv) (_ : Jv) => if r9 = 0 then fl_X6_foodsWithin_4_0 I J o Kf0 kf0 x1 (x2 + (1 : Int32)) else fl_X6_foodsWithin_4_0 I J o Kf0 kf0 (x1 + (1 : Int32)) (x2 + (1 : Int32)))
noncomputable def fn_X6_foodsWithin (o : Nat) (I : Iv) (J : Jv) : Int32 × Iv × Jv :=
  fl_X6_foodsWithin_4_0 I J o (fun (x1 : Int32) (x2 : Int32) => (x1, I, J)) (mU (8 : Int32) ((0 : Int32)) + 1) (0 : Int32) (0 : Int32)
set_option maxRecDepth 100000 in
set_option maxHeartbeats 4000000 in
theorem ct_X6_foodsWithin {o : Nat} (I : Iv) (J : Jv) (ho : StA o) : Ct m_X6_foodsWithin [.ref o] SHF I J (fun r S' I' J' => S' = SHF ∧ I = I' ∧ J = J' ∧ ∃ v : Int32, r = some (.int v) ∧ fn_X6_foodsWithin o I J = (v, I', J')) := by
  refine ct_of 2 (by decide +kernel) rfl rfl ?_
  have hF := fe_of (fn_X6_foodsWithin.eq_1 o I J)
  refine g_iconst (v := 0) d_X6_foodsWithin_0 kI_0 ?_
  refine g_istore_n (L' := [some (.ref o), some (.int (0 : Int32)), none]) d_X6_foodsWithin_1 (by decide) rfl ?_
  refine g_iconst (v := 0) d_X6_foodsWithin_2 kI_0 ?_
  refine g_istore_n (L' := [some (.ref o), some (.int (0 : Int32)), some (.int (0 : Int32))]) d_X6_foodsWithin_3 (by decide) rfl ?_
  obtain ⟨Kf0, hKf0, hF⟩ := fe_kx (f := fun K => fl_X6_foodsWithin_4_0 I J o K (mU (8 : Int32) ((0 : Int32)) + 1) (0 : Int32) (0 : Int32)) hF
  have K_4 : ∀ (nu : Nat) (x1 : Int32) (x2 : Int32), mU (8 : Int32) x2 = nu → ((0 : Int32) ≤ x2) → (∃ kq : Nat, nu < kq ∧ (fun kq => FE (fn_X6_foodsWithin o I J) (fun _ => fl_X6_foodsWithin_4_0 I J o Kf0 kq x1 x2)) kq) → G m_X6_foodsWithin (rq m_X6_foodsWithin (fun r S' I' J' => S' = SHF ∧ I = I' ∧ J = J' ∧ ∃ v : Int32, r = some (.int v) ∧ fn_X6_foodsWithin o I J = (v, I', J'))) 0 0 4 [some (.ref o), some (.int x1), some (.int x2)] [] SHF I J := by
    intro nu
    induction nu using Nat.strongRecOn with
    | ind nu ih_4 =>
      intro x1 x2 hmu_4 hl3 hF_Kf0
      obtain ⟨kf0, hkf0, hF⟩ := fe_fu (P := fun kq => FE (fn_X6_foodsWithin o I J) (fun _ => fl_X6_foodsWithin_4_0 I J o Kf0 kq x1 x2)) hF_Kf0
      replace hF := fe_eq hF (fl_X6_foodsWithin_4_0.eq_2 _ _ _ _ _ _ _)
      refine g_iload_n d_X6_foodsWithin_4 rfl ?_
      refine g_bipush (v := 8) d_X6_foodsWithin_5 kB_8 ?_
      refine g_icmp_ge d_X6_foodsWithin_7 (fun h7 => ?_) (fun h7 => ?_)
      · skip
        replace hF := fe_pos hF h7
        replace hF := fe_eq hF (congrFun (congrFun hKf0 x1) x2)
        refine g_iload_n d_X6_foodsWithin_36 rfl ?_
        exact g_ireturn d_X6_foodsWithin_37 rfl rfl rfl rfl ⟨rfl, rfl, rfl, x1, rfl, hF⟩
      · skip
        replace hF := fe_neg hF h7
        refine g_aload_n d_X6_foodsWithin_10 rfl ?_
        refine g_getR d_X6_foodsWithin_11 fq_RX6_19 (sa0 ho) rfl ?_
        refine g_iload_n d_X6_foodsWithin_14 rfl ?_
        refine g_baload (N := 8) d_X6_foodsWithin_15 (sa3 ho) kT_8 ⟨hl3, Int32.not_le.mp h7⟩ rfl (fun hz15 => ?_)
        refine g_if_eq d_X6_foodsWithin_16 (fun h16 => ?_) (fun h16 => ?_)
        · skip
          replace hF := fe_pos hF h16
          refine g_iinc (v := (x2 + (1 : Int32))) (L' := [some (.ref o), some (.int x1), some (.int (x2 + (1 : Int32)))]) d_X6_foodsWithin_30 rfl (by rw [kI_1]) (by decide) rfl ?_
          refine g_goto d_X6_foodsWithin_33 ?_
          exact ih_4 _ (by rw [← hmu_4]; exact mu_up h7) x1 (x2 + (1 : Int32)) rfl (lo_up hl3 h7) ⟨kf0, Nat.lt_of_lt_of_le (by rw [← hmu_4]; exact mu_up h7) hkf0, hF⟩
        · skip
          replace hF := fe_neg hF h16
          refine g_aload_n d_X6_foodsWithin_19 rfl ?_
          refine g_iload_n d_X6_foodsWithin_20 rfl ?_
          refine g_V1 d_X6_foodsWithin_21 cs_X6_foodsWithin_X6_isWithin lk_RX6_85 im_X6_isWithin se_X6_isWithin (sa0 ho) rfl rfl (Nat.le_of_ble_eq_true rfl) ⟨rfl, rfl⟩ ⟨Nat.zero_le _, Nat.zero_le _⟩ (ct_X6_isWithin x2 I J ho) (fun r21 S21 Ic5 Jc6 q21_3 => ?_)
          obtain ⟨rfl, rfl, rfl, r9, rfl, hz21, hf21_7⟩ := q21_3
          replace hF := fe_b3 hF hf21_7
          refine g_st (st' := [.int r9]) rfl ?_
          refine g_if_eq d_X6_foodsWithin_24 (fun h24 => ?_) (fun h24 => ?_)
          · skip
            replace hF := fe_pos hF h24
            refine g_iinc (v := (x2 + (1 : Int32))) (L' := [some (.ref o), some (.int x1), some (.int (x2 + (1 : Int32)))]) d_X6_foodsWithin_30 rfl (by rw [kI_1]) (by decide) rfl ?_
            refine g_goto d_X6_foodsWithin_33 ?_
            exact ih_4 _ (by rw [← hmu_4]; exact mu_up h7) x1 (x2 + (1 : Int32)) rfl (lo_up hl3 h7) ⟨kf0, Nat.lt_of_lt_of_le (by rw [← hmu_4]; exact mu_up h7) hkf0, hF⟩
          · skip
            replace hF := fe_neg hF h24
            refine g_iinc (v := (x1 + (1 : Int32))) (L' := [some (.ref o), some (.int (x1 + (1 : Int32))), some (.int x2)]) d_X6_foodsWithin_27 rfl (by rw [kI_1]) (by decide) rfl ?_
            refine g_iinc (v := (x2 + (1 : Int32))) (L' := [some (.ref o), some (.int (x1 + (1 : Int32))), some (.int (x2 + (1 : Int32)))]) d_X6_foodsWithin_30 rfl (by rw [kI_1]) (by decide) rfl ?_
            refine g_goto d_X6_foodsWithin_33 ?_
            exact ih_4 _ (by rw [← hmu_4]; exact mu_up h7) (x1 + (1 : Int32)) (x2 + (1 : Int32)) rfl (lo_up hl3 h7) ⟨kf0, Nat.lt_of_lt_of_le (by rw [← hmu_4]; exact mu_up h7) hkf0, hF⟩
  exact K_4 _ (0 : Int32) (0 : Int32) rfl (Int32.le_refl _) ⟨_, Nat.lt_succ_self _, hF⟩
noncomputable def fl_X6_letOffIce_27_0 (o : Nat) (I4 : Iv) (Kf0 : Int32 → Jv → Int32 × Iv × Jv) : Nat → Int32 → Jv → Int32 × Iv × Jv
  | 0, x6, J7 => (0, I4, J7)
  | kf0 + 1, x6, J7 => if (3 : Int32) < x6 then Kf0 x6 J7 else l_t (((1000 : Int64) * (Int32.toInt64 (I4 (o + 2) x6.toNatClampNeg)))) (fun (v10 : Int64) => b_n3 (fn_X6_warmthOf o x6 I4 J7) (fun (r16 : Int32) (_ : Iv) (_ : Jv) => if (1000 : Int32) ≤ r16 then fl_X6_letOffIce_27_0 o I4 Kf0 kf0 (x6 + (1 : Int32)) J7 else l_t (wJ J7 (o + 7) 1 ((J7 (o + 7) 1) + (v10 - (J7 (o + 1) x6.toNatClampNeg)))) (fun (J18 : Jv) => l_t (wJ J18 (o + 1) (x6.toNatClampNeg) v10) (fun (J20 : Jv) => fl_X6_letOffIce_27_0 o I4 Kf0 kf0 (x6 + (1 : Int32)) J20))))
noncomputable def fn_X6_letOffIce (o : Nat) (I : Iv) (J : Jv) : Int32 × Iv × Jv :=
  l_t ((I (o + 8) 5)) (fun (v1 : Int32) => l_t (wI I (o + 8) 5 (0 : Int32)) (fun (I2 : Iv) => l_t (wI I2 (o + 8) 6 ((I2 (o + 8) 6) + v1)) (fun (I4 : Iv) => fl_X6_letOffIce_27_0 o I4 (fun (x6 : Int32) (J7 : Jv) => (v1, I4, J7)) (mUe (3 : Int32) ((0 : Int32)) + 1) (0 : Int32) J)))
set_option maxRecDepth 100000 in
set_option maxHeartbeats 4000000 in
theorem ct_X6_letOffIce {o : Nat} (I : Iv) (J : Jv) (ho : StA o) : Ct m_X6_letOffIce [.ref o] SHF I J (fun r S' I' J' => S' = SHF ∧ FS o I J I' J' ∧ ∃ v : Int32, r = some (.int v) ∧ fn_X6_letOffIce o I J = (v, I', J')) := by
  refine ct_of 4 (by decide +kernel) rfl rfl ?_
  have hK0 : FS o I J I J := fs_rfl
  have hF := fe_of (fn_X6_letOffIce.eq_1 o I J)
  refine g_aload_n d_X6_letOffIce_0 rfl ?_
  refine g_getR d_X6_letOffIce_1 fq_RX6_35 (sa0 ho) rfl ?_
  refine g_iconst (v := 5) d_X6_letOffIce_4 kI_5 ?_
  refine g_iaload (N := 8) d_X6_letOffIce_5 (sa8 ho) kT_8 ⟨by decide, by decide⟩ kN_5 ?_
  refine g_topI (fun v1 ev1 => ?_)
  replace hF := fe_lt hF ev1
  refine g_istore_n (L' := [some (.ref o), some (.int v1), none, none, none]) d_X6_letOffIce_6 (by decide) rfl ?_
  refine g_aload_n d_X6_letOffIce_7 rfl ?_
  refine g_getR d_X6_letOffIce_8 fq_RX6_35 (sa0 ho) rfl ?_
  refine g_iconst (v := 5) d_X6_letOffIce_11 kI_5 ?_
  refine g_iconst (v := 0) d_X6_letOffIce_12 kI_0 ?_
  refine g_iastore (N := 8) d_X6_letOffIce_13 (sa8 ho) kT_8 ⟨by decide, by decide⟩ kN_5  ?_
  refine g_nmI (fun I2 eI2 => ?_)
  replace hF := fe_lt hF eI2
  have hK3 : FS o I J I2 J := (by rw [eI2]; exact fs_wI ho hK0 (by omega))
  refine g_aload_n d_X6_letOffIce_14 rfl ?_
  refine g_getR d_X6_letOffIce_15 fq_RX6_35 (sa0 ho) rfl ?_
  refine g_bipush (v := 6) d_X6_letOffIce_18 kB_6 ?_
  refine g_dup2 d_X6_letOffIce_20 rfl rfl ?_
  refine g_iaload (N := 8) d_X6_letOffIce_21 (sa8 ho) kT_8 ⟨by decide, by decide⟩ kN_6 ?_
  refine g_iload_n d_X6_letOffIce_22 rfl ?_
  refine g_iadd d_X6_letOffIce_23 ?_
  refine g_iastore (N := 8) d_X6_letOffIce_24 (sa8 ho) kT_8 ⟨by decide, by decide⟩ kN_6  ?_
  refine g_nmI (fun I4 eI4 => ?_)
  replace hF := fe_lt hF eI4
  have hK5 : FS o I J I4 J := (by rw [eI4]; exact fs_wI ho hK3 (by omega))
  refine g_iconst (v := 0) d_X6_letOffIce_25 kI_0 ?_
  refine g_istore_n (L' := [some (.ref o), some (.int v1), some (.int (0 : Int32)), none, none]) d_X6_letOffIce_26 (by decide) rfl ?_
  obtain ⟨Kf0, hKf0, hF⟩ := fe_kx (f := fun K => fl_X6_letOffIce_27_0 o I4 K (mUe (3 : Int32) ((0 : Int32)) + 1) (0 : Int32) J) hF
  have K_27 : ∀ (nu : Nat) (x6 : Int32) (J7 : Jv), mUe (3 : Int32) x6 = nu → (FS o I J I4 J7) → ((0 : Int32) ≤ x6) → (∃ kq : Nat, nu < kq ∧ (fun kq => FE (fn_X6_letOffIce o I J) (fun _ => fl_X6_letOffIce_27_0 o I4 Kf0 kq x6 J7)) kq) → G m_X6_letOffIce (rq m_X6_letOffIce (fun r S' I' J' => S' = SHF ∧ FS o I J I' J' ∧ ∃ v : Int32, r = some (.int v) ∧ fn_X6_letOffIce o I J = (v, I', J'))) 0 0 27 [some (.ref o), some (.int v1), some (.int x6), none, none] [] SHF I4 J7 := by
    intro nu
    induction nu using Nat.strongRecOn with
    | ind nu ih_27 =>
      intro x6 J7 hmu_27 hK8 hl9 hF_Kf0
      obtain ⟨kf0, hkf0, hF⟩ := fe_fu (P := fun kq => FE (fn_X6_letOffIce o I J) (fun _ => fl_X6_letOffIce_27_0 o I4 Kf0 kq x6 J7)) hF_Kf0
      replace hF := fe_eq hF (fl_X6_letOffIce_27_0.eq_2 _ _ _ _ _ _)
      refine g_iload_n d_X6_letOffIce_27 rfl ?_
      refine g_iconst (v := 3) d_X6_letOffIce_28 kI_3 ?_
      refine g_icmp_gt d_X6_letOffIce_29 (fun h29 => ?_) (fun h29 => ?_)
      · skip
        replace hF := fe_pos hF h29
        replace hF := fe_eq hF (congrFun (congrFun hKf0 x6) J7)
        refine g_iload_n d_X6_letOffIce_85 rfl ?_
        exact g_ireturn d_X6_letOffIce_86 rfl rfl rfl rfl ⟨rfl, hK8, v1, rfl, hF⟩
      · skip
        replace hF := fe_neg hF h29
        refine g_ldc2 (v := 1000) d_X6_letOffIce_32 tw_756 ?_
        refine g_aload_n d_X6_letOffIce_35 rfl ?_
        refine g_getR d_X6_letOffIce_36 fq_RX6_15 (sa0 ho) rfl ?_
        refine g_iload_n d_X6_letOffIce_39 rfl ?_
        refine g_iaload (N := 12) d_X6_letOffIce_40 (sa2 ho) kT_12 (by constructor <;> grind) rfl ?_
        refine g_i2l d_X6_letOffIce_41 ?_
        refine g_lmul d_X6_letOffIce_42 ?_
        refine g_topJ (fun v10 ev10 => ?_)
        replace hF := fe_lt hF ev10
        refine g_lstore_n (L' := [some (.ref o), some (.int v1), some (.int x6), some (.long v10), none]) d_X6_letOffIce_43 (by decide) rfl ?_
        refine g_aload_n d_X6_letOffIce_44 rfl ?_
        refine g_iload_n d_X6_letOffIce_45 rfl ?_
        refine g_V1 d_X6_letOffIce_46 cs_X6_letOffIce_X6_warmthOf lk_RX6_81 im_X6_warmthOf se_X6_warmthOf (sa0 ho) rfl rfl (Nat.le_of_ble_eq_true rfl) ⟨rfl, rfl⟩ ⟨Nat.zero_le _, Nat.zero_le _⟩ (ct_X6_warmthOf x6 I4 J7 ho) (fun r46 S46 Ic12 Jc13 q46_10 => ?_)
        obtain ⟨rfl, rfl, rfl, r16, rfl, hf46_14⟩ := q46_10
        replace hF := fe_b3 hF hf46_14
        refine g_st (st' := [.int r16]) rfl ?_
        refine g_sipush (v := 1000) d_X6_letOffIce_49 kS_1000 ?_
        refine g_icmp_ge d_X6_letOffIce_52 (fun h52 => ?_) (fun h52 => ?_)
        · skip
          replace hF := fe_pos hF h52
          refine g_iinc (v := (x6 + (1 : Int32))) (L' := [some (.ref o), some (.int v1), some (.int (x6 + (1 : Int32))), some (.long v10), none]) d_X6_letOffIce_79 rfl (by rw [kI_1]) (by decide) rfl ?_
          refine g_goto d_X6_letOffIce_82 ?_
          refine g_sb [some (.ref o), some (.int v1), some (.int (x6 + (1 : Int32))), none, none] (by simp [subL]) ?_
          exact ih_27 _ (by rw [← hmu_27]; exact mu_upe h29 (by decide)) (x6 + (1 : Int32)) J7 rfl hK8 (lo_upe hl9 h29 (by decide)) ⟨kf0, Nat.lt_of_lt_of_le (by rw [← hmu_27]; exact mu_upe h29 (by decide)) hkf0, hF⟩
        · skip
          replace hF := fe_neg hF h52
          refine g_aload_n d_X6_letOffIce_55 rfl ?_
          refine g_getR d_X6_letOffIce_56 fq_RX6_32 (sa0 ho) rfl ?_
          refine g_iconst (v := 1) d_X6_letOffIce_59 kI_1 ?_
          refine g_dup2 d_X6_letOffIce_60 rfl rfl ?_
          refine g_laload (N := 6) d_X6_letOffIce_61 (sa7 ho) kT_6 ⟨by decide, by decide⟩ kN_1 ?_
          refine g_lload_n d_X6_letOffIce_62 rfl ?_
          refine g_aload_n d_X6_letOffIce_63 rfl ?_
          refine g_getR d_X6_letOffIce_64 fq_RX6_9 (sa0 ho) rfl ?_
          refine g_iload_n d_X6_letOffIce_67 rfl ?_
          refine g_laload (N := 12) d_X6_letOffIce_68 (sa1 ho) kT_12 (by constructor <;> grind) rfl ?_
          refine g_lsub d_X6_letOffIce_69 ?_
          refine g_ladd d_X6_letOffIce_70 ?_
          refine g_lastore (N := 6) d_X6_letOffIce_71 (sa7 ho) kT_6 ⟨by decide, by decide⟩ kN_1  ?_
          refine g_nmJ (fun J18 eJ18 => ?_)
          replace hF := fe_lt hF eJ18
          have hK19 : FS o I J I4 J18 := (by rw [eJ18]; exact fs_wJ hK8 (by omega))
          refine g_aload_n d_X6_letOffIce_72 rfl ?_
          refine g_getR d_X6_letOffIce_73 fq_RX6_9 (sa0 ho) rfl ?_
          refine g_iload_n d_X6_letOffIce_76 rfl ?_
          refine g_lload_n d_X6_letOffIce_77 rfl ?_
          refine g_lastore (N := 12) d_X6_letOffIce_78 (sa1 ho) kT_12 (by constructor <;> grind) rfl  ?_
          refine g_nmJ (fun J20 eJ20 => ?_)
          replace hF := fe_lt hF eJ20
          have hK21 : FS o I J I4 J20 := (by rw [eJ20]; exact fs_wJ hK19 (by omega))
          refine g_iinc (v := (x6 + (1 : Int32))) (L' := [some (.ref o), some (.int v1), some (.int (x6 + (1 : Int32))), some (.long v10), none]) d_X6_letOffIce_79 rfl (by rw [kI_1]) (by decide) rfl ?_
          refine g_goto d_X6_letOffIce_82 ?_
          refine g_sb [some (.ref o), some (.int v1), some (.int (x6 + (1 : Int32))), none, none] (by simp [subL]) ?_
          exact ih_27 _ (by rw [← hmu_27]; exact mu_upe h29 (by decide)) (x6 + (1 : Int32)) J20 rfl hK21 (lo_upe hl9 h29 (by decide)) ⟨kf0, Nat.lt_of_lt_of_le (by rw [← hmu_27]; exact mu_upe h29 (by decide)) hkf0, hF⟩
  exact K_27 _ (0 : Int32) J rfl hK5 (Int32.le_refl _) ⟨_, Nat.lt_succ_self _, hF⟩
noncomputable def fn_X6_draw (o : Nat) (n : Int32) (I : Iv) (J : Jv) : Int32 × Iv × Jv :=
  l_t (wI I o 13 (Int64.toInt32 ((((Int32.toInt64 (I o 13)) * (1103515245 : Int64)) + (12345 : Int64)) &&& (2147483647 : Int64)))) (fun (I1 : Iv) => if n ≤ 0 then ((0 : Int32), I1, J) else ((((I1 o 13) / (65536 : Int32)) - ((I1 o 13) / (65536 : Int32)) / n * n), I1, J))
set_option maxRecDepth 100000 in
set_option maxHeartbeats 4000000 in
theorem ct_X6_draw (n : Int32) {o : Nat} (I : Iv) (J : Jv) (ho : StA o) : Ct m_X6_draw [.ref o, .int n] SHF I J (fun r S' I' J' => S' = SHF ∧ FS o I J I' J' ∧ ∃ v : Int32, r = some (.int v) ∧ fn_X6_draw o n I J = (v, I', J')) := by
  refine ct_of 0 (by decide +kernel) rfl rfl ?_
  have hK0 : FS o I J I J := fs_rfl
  have hF := fe_of (fn_X6_draw.eq_1 o n I J)
  refine g_aload_n d_X6_draw_0 rfl ?_
  refine g_aload_n d_X6_draw_1 rfl ?_
  refine g_getI d_X6_draw_2 fq_RX6_78 (sa0 ho) rfl ?_
  refine g_i2l d_X6_draw_5 ?_
  refine g_ldc2 (v := 1103515245) d_X6_draw_6 tw_722 ?_
  refine g_lmul d_X6_draw_9 ?_
  refine g_ldc2 (v := 12345) d_X6_draw_10 tw_723 ?_
  refine g_ladd d_X6_draw_13 ?_
  refine g_ldc2 (v := 2147483647) d_X6_draw_14 tw_724 ?_
  refine g_land d_X6_draw_17 ?_
  refine g_l2i d_X6_draw_18 ?_
  refine g_putI d_X6_draw_19 fq_RX6_78 (sa0 ho) rfl ?_
  refine g_nmI (fun I1 eI1 => ?_)
  replace hF := fe_lt hF eI1
  have hK2 : FS o I J I1 J := (by rw [eI1]; exact fs_wI ho hK0 (by omega))
  refine g_iload_n d_X6_draw_22 rfl ?_
  refine g_if_le d_X6_draw_23 (fun h23 => ?_) (fun h23 => ?_)
  · skip
    replace hF := fe_pos hF h23
    refine g_iconst (v := 0) d_X6_draw_38 kI_0 ?_
    exact g_ireturn d_X6_draw_39 rfl rfl rfl rfl ⟨rfl, hK2, (0 : Int32), rfl, hF⟩
  · skip
    replace hF := fe_neg hF h23
    refine g_aload_n d_X6_draw_26 rfl ?_
    refine g_getI d_X6_draw_27 fq_RX6_78 (sa0 ho) rfl ?_
    refine g_ldc (v := 65536) d_X6_draw_30 tw_725 ?_
    refine g_idiv d_X6_draw_32 (by decide) ?_
    refine g_iload_n d_X6_draw_33 rfl ?_
    refine g_irem d_X6_draw_34 (by grind) ?_
    refine g_goto d_X6_draw_35 ?_
    exact g_ireturn d_X6_draw_39 rfl rfl rfl rfl ⟨rfl, hK2, (((I1 o 13) / (65536 : Int32)) - ((I1 o 13) / (65536 : Int32)) / n * n), rfl, hF⟩
