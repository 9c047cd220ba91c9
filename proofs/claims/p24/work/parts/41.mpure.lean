noncomputable def fn_X10_one (x : Int32) (I : Iv) (J : Jv) : Int32 × Iv × Jv :=
  if x = 0 then ((0 : Int32), I, J) else ((1 : Int32), I, J)
set_option maxRecDepth 100000 in
set_option maxHeartbeats 4000000 in
theorem ct_X10_one (x : Int32) (I : Iv) (J : Jv)  : Ct m_X10_one [.int x] SHF I J (fun r S' I' J' => S' = SHF ∧ I = I' ∧ J = J' ∧ ∃ v : Int32, r = some (.int v) ∧ fn_X10_one x I J = (v, I', J') ∧ (v = 0 ∨ v = 1) ∧ v = (if x = 0 then 0 else 1)) := by
  refine ct_of 0 (by decide +kernel) rfl rfl ?_
  have hF := fe_of (fn_X10_one.eq_1 x I J)
  refine g_iload_n d_X10_one_0 rfl ?_
  refine g_if_eq d_X10_one_1 (fun h1 => ?_) (fun h1 => ?_)
  · skip
    replace hF := fe_pos hF h1
    refine g_iconst (v := 0) d_X10_one_8 kI_0 ?_
    exact g_ireturn d_X10_one_9 rfl rfl rfl rfl ⟨rfl, rfl, rfl, (0 : Int32), rfl, hF, ⟨by decide, by simp [h1]⟩⟩
  · skip
    replace hF := fe_neg hF h1
    refine g_iconst (v := 1) d_X10_one_4 kI_1 ?_
    refine g_goto d_X10_one_5 ?_
    exact g_ireturn d_X10_one_9 rfl rfl rfl rfl ⟨rfl, rfl, rfl, (1 : Int32), rfl, hF, ⟨by decide, by simp [h1]⟩⟩
noncomputable def fn_X10_has (set : Int64) (k : Int32) (I : Iv) (J : Jv) : Int32 × Iv × Jv :=
  if ((set >>> (k.toInt64 &&& 63)) &&& (1 : Int64)) = (1 : Int64) then ((1 : Int32), I, J) else ((0 : Int32), I, J)
set_option maxRecDepth 100000 in
set_option maxHeartbeats 4000000 in
theorem ct_X10_has (set : Int64) (k : Int32) (I : Iv) (J : Jv)  : Ct m_X10_has [.long set, .int k] SHF I J (fun r S' I' J' => S' = SHF ∧ I = I' ∧ J = J' ∧ ∃ v : Int32, r = some (.int v) ∧ (v = 0 ∨ v = 1) ∧ fn_X10_has set k I J = (v, I', J')) := by
  refine ct_of 0 (by decide +kernel) rfl rfl ?_
  have hF := fe_of (fn_X10_has.eq_1 set k I J)
  refine g_lload_n d_X10_has_0 rfl ?_
  refine g_iload_n d_X10_has_1 rfl ?_
  refine g_lshr d_X10_has_2 ?_
  refine g_lconst d_X10_has_3 kL_1 ?_
  refine g_land d_X10_has_4 ?_
  refine g_lconst d_X10_has_5 kL_1 ?_
  refine g_lcmp_ne d_X10_has_6 d_X10_has_7 (fun h7 => ?_) (fun h7 => ?_)
  · skip
    replace hF := fe_neg hF h7
    refine g_iconst (v := 0) d_X10_has_14 kI_0 ?_
    exact g_ireturn d_X10_has_15 rfl rfl rfl rfl ⟨rfl, rfl, rfl, (0 : Int32), rfl, Or.inl rfl, hF⟩
  · skip
    replace hF := fe_pos hF h7
    refine g_iconst (v := 1) d_X10_has_10 kI_1 ?_
    refine g_goto d_X10_has_11 ?_
    exact g_ireturn d_X10_has_15 rfl rfl rfl rfl ⟨rfl, rfl, rfl, (1 : Int32), rfl, Or.inr rfl, hF⟩
noncomputable def fl_X10_ones_4_0 (I : Iv) (J : Jv) (set : Int32) (Kf0 : Int32 → Int32 → Int32 × Iv × Jv) : Nat → Int32 → Int32 → Int32 × Iv × Jv
  | 0, x1, x2 => (0, I, J)
  | kf0 + 1, x1, x2 => if (16 : Int32) ≤ x2 then Kf0 x1 x2 else l_t ((x1 + ((set >>> (x2 &&& 31)) &&& (1 : Int32)))) (fun (v4 : Int32) => fl_X10_ones_4_0 I J set Kf0 kf0 v4 (x2 + (1 : Int32)))
noncomputable def fn_X10_ones (set : Int32) (I : Iv) (J : Jv) : Int32 × Iv × Jv :=
  fl_X10_ones_4_0 I J set (fun (x1 : Int32) (x2 : Int32) => (x1, I, J)) (mU (16 : Int32) ((0 : Int32)) + 1) (0 : Int32) (0 : Int32)
set_option maxRecDepth 100000 in
set_option maxHeartbeats 4000000 in
theorem ct_X10_ones (set : Int32) (I : Iv) (J : Jv)  : Ct m_X10_ones [.int set] SHF I J (fun r S' I' J' => S' = SHF ∧ I = I' ∧ J = J' ∧ ∃ v : Int32, r = some (.int v) ∧ fn_X10_ones set I J = (v, I', J')) := by
  refine ct_of 2 (by decide +kernel) rfl rfl ?_
  have hF := fe_of (fn_X10_ones.eq_1 set I J)
  refine g_iconst (v := 0) d_X10_ones_0 kI_0 ?_
  refine g_istore_n (L' := [some (.int set), some (.int (0 : Int32)), none]) d_X10_ones_1 (by decide) rfl ?_
  refine g_iconst (v := 0) d_X10_ones_2 kI_0 ?_
  refine g_istore_n (L' := [some (.int set), some (.int (0 : Int32)), some (.int (0 : Int32))]) d_X10_ones_3 (by decide) rfl ?_
  obtain ⟨Kf0, hKf0, hF⟩ := fe_kx (f := fun K => fl_X10_ones_4_0 I J set K (mU (16 : Int32) ((0 : Int32)) + 1) (0 : Int32) (0 : Int32)) hF
  have K_4 : ∀ (nu : Nat) (x1 : Int32) (x2 : Int32), mU (16 : Int32) x2 = nu → ((0 : Int32) ≤ x2) → (∃ kq : Nat, nu < kq ∧ (fun kq => FE (fn_X10_ones set I J) (fun _ => fl_X10_ones_4_0 I J set Kf0 kq x1 x2)) kq) → G m_X10_ones (rq m_X10_ones (fun r S' I' J' => S' = SHF ∧ I = I' ∧ J = J' ∧ ∃ v : Int32, r = some (.int v) ∧ fn_X10_ones set I J = (v, I', J'))) 0 0 4 [some (.int set), some (.int x1), some (.int x2)] [] SHF I J := by
    intro nu
    induction nu using Nat.strongRecOn with
    | ind nu ih_4 =>
      intro x1 x2 hmu_4 hl3 hF_Kf0
      obtain ⟨kf0, hkf0, hF⟩ := fe_fu (P := fun kq => FE (fn_X10_ones set I J) (fun _ => fl_X10_ones_4_0 I J set Kf0 kq x1 x2)) hF_Kf0
      replace hF := fe_eq hF (fl_X10_ones_4_0.eq_2 _ _ _ _ _ _ _)
      refine g_iload_n d_X10_ones_4 rfl ?_
      refine g_bipush (v := 16) d_X10_ones_5 kB_16 ?_
      refine g_icmp_ge d_X10_ones_7 (fun h7 => ?_) (fun h7 => ?_)
      · skip
        replace hF := fe_pos hF h7
        replace hF := fe_eq hF (congrFun (congrFun hKf0 x1) x2)
        refine g_iload_n d_X10_ones_24 rfl ?_
        exact g_ireturn d_X10_ones_25 rfl rfl rfl rfl ⟨rfl, rfl, rfl, x1, rfl, hF⟩
      · skip
        replace hF := fe_neg hF h7
        refine g_iload_n d_X10_ones_10 rfl ?_
        refine g_iload_n d_X10_ones_11 rfl ?_
        refine g_iload_n d_X10_ones_12 rfl ?_
        refine g_ishr d_X10_ones_13 ?_
        refine g_iconst (v := 1) d_X10_ones_14 kI_1 ?_
        refine g_iand d_X10_ones_15 ?_
        refine g_iadd d_X10_ones_16 ?_
        refine g_topI (fun v4 ev4 => ?_)
        replace hF := fe_lt hF ev4
        refine g_istore_n (L' := [some (.int set), some (.int v4), some (.int x2)]) d_X10_ones_17 (by decide) rfl ?_
        refine g_iinc (v := (x2 + (1 : Int32))) (L' := [some (.int set), some (.int v4), some (.int (x2 + (1 : Int32)))]) d_X10_ones_18 rfl (by rw [kI_1]) (by decide) rfl ?_
        refine g_goto d_X10_ones_21 ?_
        exact ih_4 _ (by rw [← hmu_4]; exact mu_up h7) v4 (x2 + (1 : Int32)) rfl (lo_up hl3 h7) ⟨kf0, Nat.lt_of_lt_of_le (by rw [← hmu_4]; exact mu_up h7) hkf0, hF⟩
  exact K_4 _ (0 : Int32) (0 : Int32) rfl (Int32.le_refl _) ⟨_, Nat.lt_succ_self _, hF⟩
noncomputable def fn_X10_couldBe (set : Int32) (I : Iv) (J : Jv) : Int32 × Iv × Jv :=
  b_n3 (fn_X10_ones set I J) (fun (r6 : Int32) (_ : Iv) (_ : Jv) => if (3 : Int32) ≤ r6 then ((0 : Int32), I, J) else ((1 : Int32), I, J))
set_option maxRecDepth 100000 in
set_option maxHeartbeats 4000000 in
theorem ct_X10_couldBe (set : Int32) (I : Iv) (J : Jv)  : Ct m_X10_couldBe [.int set] SHF I J (fun r S' I' J' => S' = SHF ∧ I = I' ∧ J = J' ∧ ∃ v : Int32, r = some (.int v) ∧ (v = 0 ∨ v = 1) ∧ fn_X10_couldBe set I J = (v, I', J')) := by
  refine ct_of 0 (by decide +kernel) rfl rfl ?_
  have hF := fe_of (fn_X10_couldBe.eq_1 set I J)
  refine g_iload_n d_X10_couldBe_0 rfl ?_
  refine g_S1 d_X10_couldBe_1 cs_X10_couldBe_X10_ones lk_RX10_344 im_X10_ones (Nat.le_of_ble_eq_true rfl) ⟨rfl, rfl⟩ ⟨Nat.zero_le _, Nat.zero_le _⟩ (ct_X10_ones set I J ) (fun r1 S1 Ic2 Jc3 q1_0 => ?_)
  obtain ⟨rfl, rfl, rfl, r6, rfl, hf1_4⟩ := q1_0
  replace hF := fe_b3 hF hf1_4
  refine g_st (st' := [.int r6]) rfl ?_
  refine g_iconst (v := 3) d_X10_couldBe_4 kI_3 ?_
  refine g_icmp_ge d_X10_couldBe_5 (fun h5 => ?_) (fun h5 => ?_)
  · skip
    replace hF := fe_pos hF h5
    refine g_iconst (v := 0) d_X10_couldBe_12 kI_0 ?_
    exact g_ireturn d_X10_couldBe_13 rfl rfl rfl rfl ⟨rfl, rfl, rfl, (0 : Int32), rfl, Or.inl rfl, hF⟩
  · skip
    replace hF := fe_neg hF h5
    refine g_iconst (v := 1) d_X10_couldBe_8 kI_1 ?_
    refine g_goto d_X10_couldBe_9 ?_
    exact g_ireturn d_X10_couldBe_13 rfl rfl rfl rfl ⟨rfl, rfl, rfl, (1 : Int32), rfl, Or.inr rfl, hF⟩
noncomputable def fn_X10_untold (x : Int32) (I : Iv) (J : Jv) : Int32 × Iv × Jv :=
  if (x).toInt < 0 ∨ 14 < (x).toInt then ((-1 : Int32), I, J) else l_t ((x).toInt - (0)).toNat (fun (sw0 : Nat) => if sw0 = 0 then ((900 : Int32), I, J) else if sw0 = 1 then ((4 : Int32), I, J) else if sw0 = 2 then ((3 : Int32), I, J) else if sw0 = 3 then ((40 : Int32), I, J) else if sw0 = 4 then ((60 : Int32), I, J) else if sw0 = 5 then ((10 : Int32), I, J) else if sw0 = 6 then ((70 : Int32), I, J) else if sw0 = 7 then ((30 : Int32), I, J) else if sw0 = 8 then ((1 : Int32), I, J) else if sw0 = 9 then ((10 : Int32), I, J) else if sw0 = 10 then ((4 : Int32), I, J) else if sw0 = 11 then ((200 : Int32), I, J) else if sw0 = 12 then ((-1 : Int32), I, J) else if sw0 = 13 then ((-1 : Int32), I, J) else if sw0 = 14 then ((0 : Int32), I, J) else (0, I, J))
set_option maxRecDepth 100000 in
set_option maxHeartbeats 4000000 in
theorem ct_X10_untold (x : Int32) (I : Iv) (J : Jv)  : Ct m_X10_untold [.int x] SHF I J (fun r S' I' J' => S' = SHF ∧ I = I' ∧ J = J' ∧ ∃ v : Int32, r = some (.int v) ∧ fn_X10_untold x I J = (v, I', J') ∧ (x = 8 → v = 1) ∧ (x = 2 → v = 3)) := by
  refine ct_of 0 (by decide +kernel) rfl rfl ?_
  have hF := fe_of (fn_X10_untold.eq_1 x I J)
  refine g_iload_n d_X10_untold_0 rfl ?_
  rcases sw_split x (0) (14) with h1 | h1
  · skip
    refine g_swOut d_X10_untold_1 h1 ?_
    replace hF := fe_pos hF h1
    refine g_iconst (v := -1) d_X10_untold_112 kI_m1 ?_
    exact g_ireturn d_X10_untold_113 rfl rfl rfl rfl ⟨rfl, rfl, rfl, (-1 : Int32), rfl, hF, (by constructor <;> intro hh <;> subst hh <;> first | rfl | (exfalso; revert hz; decide) | (exfalso; revert h1; decide))⟩
  · skip
    replace hF := fe_neg hF (fun q => by rcases q with q | q; exact h1.1 q; exact h1.2 q)
    have hz : ∃ k : Nat, k < 15 ∧ (x).toInt = (0 : Int) + (k : Int) := by obtain ⟨k, h1, h2⟩ := sw_k h1; exact ⟨k, by omega, h2⟩
    obtain ⟨k, hk, hz⟩ := hz
    match k, hk, hz with
    | 0, _, hz =>
      refine g_swIn d_X10_untold_1_0 (by rw [hz]; decide) (by rw [hz]; decide) (by rw [hz]; rfl) ?_
      replace hF := fe_lt (v := 0) hF (by rw [hz]; rfl)
      replace hF := fe_pos hF rfl
      refine g_sipush (v := 900) d_X10_untold_76 kS_900 ?_
      exact g_ireturn d_X10_untold_79 rfl rfl rfl rfl ⟨rfl, rfl, rfl, (900 : Int32), rfl, hF, (by constructor <;> intro hh <;> subst hh <;> first | rfl | (exfalso; revert hz; decide) | (exfalso; revert h1; decide))⟩
    | 1, _, hz =>
      refine g_swIn d_X10_untold_1_1 (by rw [hz]; decide) (by rw [hz]; decide) (by rw [hz]; rfl) ?_
      replace hF := fe_lt (v := 1) hF (by rw [hz]; rfl)
      replace hF := fe_neg hF (by decide)
      replace hF := fe_pos hF rfl
      refine g_iconst (v := 4) d_X10_untold_80 kI_4 ?_
      exact g_ireturn d_X10_untold_81 rfl rfl rfl rfl ⟨rfl, rfl, rfl, (4 : Int32), rfl, hF, (by constructor <;> intro hh <;> subst hh <;> first | rfl | (exfalso; revert hz; decide) | (exfalso; revert h1; decide))⟩
    | 2, _, hz =>
      refine g_swIn d_X10_untold_1_2 (by rw [hz]; decide) (by rw [hz]; decide) (by rw [hz]; rfl) ?_
      replace hF := fe_lt (v := 2) hF (by rw [hz]; rfl)
      replace hF := fe_neg hF (by decide)
      replace hF := fe_neg hF (by decide)
      replace hF := fe_pos hF rfl
      refine g_iconst (v := 3) d_X10_untold_82 kI_3 ?_
      exact g_ireturn d_X10_untold_83 rfl rfl rfl rfl ⟨rfl, rfl, rfl, (3 : Int32), rfl, hF, (by constructor <;> intro hh <;> subst hh <;> first | rfl | (exfalso; revert hz; decide) | (exfalso; revert h1; decide))⟩
    | 3, _, hz =>
      refine g_swIn d_X10_untold_1_3 (by rw [hz]; decide) (by rw [hz]; decide) (by rw [hz]; rfl) ?_
      replace hF := fe_lt (v := 3) hF (by rw [hz]; rfl)
      replace hF := fe_neg hF (by decide)
      replace hF := fe_neg hF (by decide)
      replace hF := fe_neg hF (by decide)
      replace hF := fe_pos hF rfl
      refine g_bipush (v := 40) d_X10_untold_84 kB_40 ?_
      exact g_ireturn d_X10_untold_86 rfl rfl rfl rfl ⟨rfl, rfl, rfl, (40 : Int32), rfl, hF, (by constructor <;> intro hh <;> subst hh <;> first | rfl | (exfalso; revert hz; decide) | (exfalso; revert h1; decide))⟩
    | 4, _, hz =>
      refine g_swIn d_X10_untold_1_4 (by rw [hz]; decide) (by rw [hz]; decide) (by rw [hz]; rfl) ?_
      replace hF := fe_lt (v := 4) hF (by rw [hz]; rfl)
      replace hF := fe_neg hF (by decide)
      replace hF := fe_neg hF (by decide)
      replace hF := fe_neg hF (by decide)
      replace hF := fe_neg hF (by decide)
      replace hF := fe_pos hF rfl
      refine g_bipush (v := 60) d_X10_untold_87 kB_60 ?_
      exact g_ireturn d_X10_untold_89 rfl rfl rfl rfl ⟨rfl, rfl, rfl, (60 : Int32), rfl, hF, (by constructor <;> intro hh <;> subst hh <;> first | rfl | (exfalso; revert hz; decide) | (exfalso; revert h1; decide))⟩
    | 5, _, hz =>
      refine g_swIn d_X10_untold_1_5 (by rw [hz]; decide) (by rw [hz]; decide) (by rw [hz]; rfl) ?_
      replace hF := fe_lt (v := 5) hF (by rw [hz]; rfl)
      replace hF := fe_neg hF (by decide)
      replace hF := fe_neg hF (by decide)
      replace hF := fe_neg hF (by decide)
      replace hF := fe_neg hF (by decide)
      replace hF := fe_neg hF (by decide)
      replace hF := fe_pos hF rfl
      refine g_bipush (v := 10) d_X10_untold_90 kB_10 ?_
      exact g_ireturn d_X10_untold_92 rfl rfl rfl rfl ⟨rfl, rfl, rfl, (10 : Int32), rfl, hF, (by constructor <;> intro hh <;> subst hh <;> first | rfl | (exfalso; revert hz; decide) | (exfalso; revert h1; decide))⟩
    | 6, _, hz =>
      refine g_swIn d_X10_untold_1_6 (by rw [hz]; decide) (by rw [hz]; decide) (by rw [hz]; rfl) ?_
      replace hF := fe_lt (v := 6) hF (by rw [hz]; rfl)
      replace hF := fe_neg hF (by decide)
      replace hF := fe_neg hF (by decide)
      replace hF := fe_neg hF (by decide)
      replace hF := fe_neg hF (by decide)
      replace hF := fe_neg hF (by decide)
      replace hF := fe_neg hF (by decide)
      replace hF := fe_pos hF rfl
      refine g_bipush (v := 70) d_X10_untold_93 kB_70 ?_
      exact g_ireturn d_X10_untold_95 rfl rfl rfl rfl ⟨rfl, rfl, rfl, (70 : Int32), rfl, hF, (by constructor <;> intro hh <;> subst hh <;> first | rfl | (exfalso; revert hz; decide) | (exfalso; revert h1; decide))⟩
    | 7, _, hz =>
      refine g_swIn d_X10_untold_1_7 (by rw [hz]; decide) (by rw [hz]; decide) (by rw [hz]; rfl) ?_
      replace hF := fe_lt (v := 7) hF (by rw [hz]; rfl)
      replace hF := fe_neg hF (by decide)
      replace hF := fe_neg hF (by decide)
      replace hF := fe_neg hF (by decide)
      replace hF := fe_neg hF (by decide)
      replace hF := fe_neg hF (by decide)
      replace hF := fe_neg hF (by decide)
      replace hF := fe_neg hF (by decide)
      replace hF := fe_pos hF rfl
      refine g_bipush (v := 30) d_X10_untold_96 kB_30 ?_
      exact g_ireturn d_X10_untold_98 rfl rfl rfl rfl ⟨rfl, rfl, rfl, (30 : Int32), rfl, hF, (by constructor <;> intro hh <;> subst hh <;> first | rfl | (exfalso; revert hz; decide) | (exfalso; revert h1; decide))⟩
    | 8, _, hz =>
      refine g_swIn d_X10_untold_1_8 (by rw [hz]; decide) (by rw [hz]; decide) (by rw [hz]; rfl) ?_
      replace hF := fe_lt (v := 8) hF (by rw [hz]; rfl)
      replace hF := fe_neg hF (by decide)
      replace hF := fe_neg hF (by decide)
      replace hF := fe_neg hF (by decide)
      replace hF := fe_neg hF (by decide)
      replace hF := fe_neg hF (by decide)
      replace hF := fe_neg hF (by decide)
      replace hF := fe_neg hF (by decide)
      replace hF := fe_neg hF (by decide)
      replace hF := fe_pos hF rfl
      refine g_iconst (v := 1) d_X10_untold_99 kI_1 ?_
      exact g_ireturn d_X10_untold_100 rfl rfl rfl rfl ⟨rfl, rfl, rfl, (1 : Int32), rfl, hF, (by constructor <;> intro hh <;> subst hh <;> first | rfl | (exfalso; revert hz; decide) | (exfalso; revert h1; decide))⟩
    | 9, _, hz =>
      refine g_swIn d_X10_untold_1_9 (by rw [hz]; decide) (by rw [hz]; decide) (by rw [hz]; rfl) ?_
      replace hF := fe_lt (v := 9) hF (by rw [hz]; rfl)
      replace hF := fe_neg hF (by decide)
      replace hF := fe_neg hF (by decide)
      replace hF := fe_neg hF (by decide)
      replace hF := fe_neg hF (by decide)
      replace hF := fe_neg hF (by decide)
      replace hF := fe_neg hF (by decide)
      replace hF := fe_neg hF (by decide)
      replace hF := fe_neg hF (by decide)
      replace hF := fe_neg hF (by decide)
      replace hF := fe_pos hF rfl
      refine g_bipush (v := 10) d_X10_untold_101 kB_10 ?_
      exact g_ireturn d_X10_untold_103 rfl rfl rfl rfl ⟨rfl, rfl, rfl, (10 : Int32), rfl, hF, (by constructor <;> intro hh <;> subst hh <;> first | rfl | (exfalso; revert hz; decide) | (exfalso; revert h1; decide))⟩
    | 10, _, hz =>
      refine g_swIn d_X10_untold_1_10 (by rw [hz]; decide) (by rw [hz]; decide) (by rw [hz]; rfl) ?_
      replace hF := fe_lt (v := 10) hF (by rw [hz]; rfl)
      replace hF := fe_neg hF (by decide)
      replace hF := fe_neg hF (by decide)
      replace hF := fe_neg hF (by decide)
      replace hF := fe_neg hF (by decide)
      replace hF := fe_neg hF (by decide)
      replace hF := fe_neg hF (by decide)
      replace hF := fe_neg hF (by decide)
      replace hF := fe_neg hF (by decide)
      replace hF := fe_neg hF (by decide)
      replace hF := fe_neg hF (by decide)
      replace hF := fe_pos hF rfl
      refine g_iconst (v := 4) d_X10_untold_104 kI_4 ?_
      exact g_ireturn d_X10_untold_105 rfl rfl rfl rfl ⟨rfl, rfl, rfl, (4 : Int32), rfl, hF, (by constructor <;> intro hh <;> subst hh <;> first | rfl | (exfalso; revert hz; decide) | (exfalso; revert h1; decide))⟩
    | 11, _, hz =>
      refine g_swIn d_X10_untold_1_11 (by rw [hz]; decide) (by rw [hz]; decide) (by rw [hz]; rfl) ?_
      replace hF := fe_lt (v := 11) hF (by rw [hz]; rfl)
      replace hF := fe_neg hF (by decide)
      replace hF := fe_neg hF (by decide)
      replace hF := fe_neg hF (by decide)
      replace hF := fe_neg hF (by decide)
      replace hF := fe_neg hF (by decide)
      replace hF := fe_neg hF (by decide)
      replace hF := fe_neg hF (by decide)
      replace hF := fe_neg hF (by decide)
      replace hF := fe_neg hF (by decide)
      replace hF := fe_neg hF (by decide)
      replace hF := fe_neg hF (by decide)
      replace hF := fe_pos hF rfl
      refine g_sipush (v := 200) d_X10_untold_106 kS_200 ?_
      exact g_ireturn d_X10_untold_109 rfl rfl rfl rfl ⟨rfl, rfl, rfl, (200 : Int32), rfl, hF, (by constructor <;> intro hh <;> subst hh <;> first | rfl | (exfalso; revert hz; decide) | (exfalso; revert h1; decide))⟩
    | 12, _, hz =>
      refine g_swIn d_X10_untold_1_12 (by rw [hz]; decide) (by rw [hz]; decide) (by rw [hz]; rfl) ?_
      replace hF := fe_lt (v := 12) hF (by rw [hz]; rfl)
      replace hF := fe_neg hF (by decide)
      replace hF := fe_neg hF (by decide)
      replace hF := fe_neg hF (by decide)
      replace hF := fe_neg hF (by decide)
      replace hF := fe_neg hF (by decide)
      replace hF := fe_neg hF (by decide)
      replace hF := fe_neg hF (by decide)
      replace hF := fe_neg hF (by decide)
      replace hF := fe_neg hF (by decide)
      replace hF := fe_neg hF (by decide)
      replace hF := fe_neg hF (by decide)
      replace hF := fe_neg hF (by decide)
      replace hF := fe_pos hF rfl
      refine g_iconst (v := -1) d_X10_untold_112 kI_m1 ?_
      exact g_ireturn d_X10_untold_113 rfl rfl rfl rfl ⟨rfl, rfl, rfl, (-1 : Int32), rfl, hF, (by constructor <;> intro hh <;> subst hh <;> first | rfl | (exfalso; revert hz; decide) | (exfalso; revert h1; decide))⟩
    | 13, _, hz =>
      refine g_swIn d_X10_untold_1_13 (by rw [hz]; decide) (by rw [hz]; decide) (by rw [hz]; rfl) ?_
      replace hF := fe_lt (v := 13) hF (by rw [hz]; rfl)
      replace hF := fe_neg hF (by decide)
      replace hF := fe_neg hF (by decide)
      replace hF := fe_neg hF (by decide)
      replace hF := fe_neg hF (by decide)
      replace hF := fe_neg hF (by decide)
      replace hF := fe_neg hF (by decide)
      replace hF := fe_neg hF (by decide)
      replace hF := fe_neg hF (by decide)
      replace hF := fe_neg hF (by decide)
      replace hF := fe_neg hF (by decide)
      replace hF := fe_neg hF (by decide)
      replace hF := fe_neg hF (by decide)
      replace hF := fe_neg hF (by decide)
      replace hF := fe_pos hF rfl
      refine g_iconst (v := -1) d_X10_untold_112 kI_m1 ?_
      exact g_ireturn d_X10_untold_113 rfl rfl rfl rfl ⟨rfl, rfl, rfl, (-1 : Int32), rfl, hF, (by constructor <;> intro hh <;> subst hh <;> first | rfl | (exfalso; revert hz; decide) | (exfalso; revert h1; decide))⟩
    | 14, _, hz =>
      refine g_swIn d_X10_untold_1_14 (by rw [hz]; decide) (by rw [hz]; decide) (by rw [hz]; rfl) ?_
      replace hF := fe_lt (v := 14) hF (by rw [hz]; rfl)
      replace hF := fe_neg hF (by decide)
      replace hF := fe_neg hF (by decide)
      replace hF := fe_neg hF (by decide)
      replace hF := fe_neg hF (by decide)
      replace hF := fe_neg hF (by decide)
      replace hF := fe_neg hF (by decide)
      replace hF := fe_neg hF (by decide)
      replace hF := fe_neg hF (by decide)
      replace hF := fe_neg hF (by decide)
      replace hF := fe_neg hF (by decide)
      replace hF := fe_neg hF (by decide)
      replace hF := fe_neg hF (by decide)
      replace hF := fe_neg hF (by decide)
      replace hF := fe_neg hF (by decide)
      replace hF := fe_pos hF rfl
      refine g_iconst (v := 0) d_X10_untold_110 kI_0 ?_
      exact g_ireturn d_X10_untold_111 rfl rfl rfl rfl ⟨rfl, rfl, rfl, (0 : Int32), rfl, hF, (by constructor <;> intro hh <;> subst hh <;> first | rfl | (exfalso; revert hz; decide) | (exfalso; revert h1; decide))⟩
    | k + 15, hk, _ => exact absurd hk (by omega)
noncomputable def fn_X10_leastOf (x : Int32) (I : Iv) (J : Jv) : Int32 × Iv × Jv :=
  if x = 0 then ((1 : Int32), I, J) else if x = (5 : Int32) then ((1 : Int32), I, J) else if x = (9 : Int32) then ((1 : Int32), I, J) else ((0 : Int32), I, J)
set_option maxRecDepth 100000 in
set_option maxHeartbeats 4000000 in
theorem ct_X10_leastOf (x : Int32) (I : Iv) (J : Jv)  : Ct m_X10_leastOf [.int x] SHF I J (fun r S' I' J' => S' = SHF ∧ I = I' ∧ J = J' ∧ ∃ v : Int32, r = some (.int v) ∧ fn_X10_leastOf x I J = (v, I', J') ∧ (x = 8 → v = 0) ∧ (x = 2 → v = 0)) := by
  refine ct_of 0 (by decide +kernel) rfl rfl ?_
  have hF := fe_of (fn_X10_leastOf.eq_1 x I J)
  refine g_iload_n d_X10_leastOf_0 rfl ?_
  refine g_if_eq d_X10_leastOf_1 (fun h1 => ?_) (fun h1 => ?_)
  · skip
    replace hF := fe_pos hF h1
    refine g_iconst (v := 1) d_X10_leastOf_15 kI_1 ?_
    refine g_goto d_X10_leastOf_16 ?_
    exact g_ireturn d_X10_leastOf_20 rfl rfl rfl rfl ⟨rfl, rfl, rfl, (1 : Int32), rfl, hF, by grind⟩
  · skip
    replace hF := fe_neg hF h1
    refine g_iload_n d_X10_leastOf_4 rfl ?_
    refine g_iconst (v := 5) d_X10_leastOf_5 kI_5 ?_
    refine g_icmp_eq d_X10_leastOf_6 (fun h6 => ?_) (fun h6 => ?_)
    · skip
      replace hF := fe_pos hF h6
      refine g_iconst (v := 1) d_X10_leastOf_15 kI_1 ?_
      refine g_goto d_X10_leastOf_16 ?_
      exact g_ireturn d_X10_leastOf_20 rfl rfl rfl rfl ⟨rfl, rfl, rfl, (1 : Int32), rfl, hF, by grind⟩
    · skip
      replace hF := fe_neg hF h6
      refine g_iload_n d_X10_leastOf_9 rfl ?_
      refine g_bipush (v := 9) d_X10_leastOf_10 kB_9 ?_
      refine g_icmp_ne d_X10_leastOf_12 (fun h12 => ?_) (fun h12 => ?_)
      · skip
        replace hF := fe_neg hF h12
        refine g_iconst (v := 0) d_X10_leastOf_19 kI_0 ?_
        exact g_ireturn d_X10_leastOf_20 rfl rfl rfl rfl ⟨rfl, rfl, rfl, (0 : Int32), rfl, hF, by grind⟩
      · skip
        replace hF := fe_pos hF h12
        refine g_iconst (v := 1) d_X10_leastOf_15 kI_1 ?_
        refine g_goto d_X10_leastOf_16 ?_
        exact g_ireturn d_X10_leastOf_20 rfl rfl rfl rfl ⟨rfl, rfl, rfl, (1 : Int32), rfl, hF, by grind⟩
noncomputable def fn_X10_mostOf (x : Int32) (I : Iv) (J : Jv) : Int32 × Iv × Jv :=
  if x = 0 then ((999 : Int32), I, J) else if x = (6 : Int32) then ((200 : Int32), I, J) else if x = (7 : Int32) then ((200 : Int32), I, J) else if x = (8 : Int32) then ((2 : Int32), I, J) else if x = (11 : Int32) then ((400 : Int32), I, J) else ((99 : Int32), I, J)
set_option maxRecDepth 100000 in
set_option maxHeartbeats 4000000 in
theorem ct_X10_mostOf (x : Int32) (I : Iv) (J : Jv)  : Ct m_X10_mostOf [.int x] SHF I J (fun r S' I' J' => S' = SHF ∧ I = I' ∧ J = J' ∧ ∃ v : Int32, r = some (.int v) ∧ fn_X10_mostOf x I J = (v, I', J') ∧ (x = 8 → v = 2) ∧ (x = 2 → v = 99)) := by
  refine ct_of 0 (by decide +kernel) rfl rfl ?_
  have hF := fe_of (fn_X10_mostOf.eq_1 x I J)
  refine g_iload_n d_X10_mostOf_0 rfl ?_
  refine g_if_ne d_X10_mostOf_1 (fun h1 => ?_) (fun h1 => ?_)
  · skip
    replace hF := fe_neg hF h1
    refine g_iload_n d_X10_mostOf_10 rfl ?_
    refine g_bipush (v := 6) d_X10_mostOf_11 kB_6 ?_
    refine g_icmp_eq d_X10_mostOf_13 (fun h13 => ?_) (fun h13 => ?_)
    · skip
      replace hF := fe_pos hF h13
      refine g_sipush (v := 200) d_X10_mostOf_22 kS_200 ?_
      refine g_goto d_X10_mostOf_25 ?_
      exact g_ireturn d_X10_mostOf_52 rfl rfl rfl rfl ⟨rfl, rfl, rfl, (200 : Int32), rfl, hF, by grind⟩
    · skip
      replace hF := fe_neg hF h13
      refine g_iload_n d_X10_mostOf_16 rfl ?_
      refine g_bipush (v := 7) d_X10_mostOf_17 kB_7 ?_
      refine g_icmp_ne d_X10_mostOf_19 (fun h19 => ?_) (fun h19 => ?_)
      · skip
        replace hF := fe_neg hF h19
        refine g_iload_n d_X10_mostOf_28 rfl ?_
        refine g_bipush (v := 8) d_X10_mostOf_29 kB_8 ?_
        refine g_icmp_ne d_X10_mostOf_31 (fun h31 => ?_) (fun h31 => ?_)
        · skip
          replace hF := fe_neg hF h31
          refine g_iload_n d_X10_mostOf_38 rfl ?_
          refine g_bipush (v := 11) d_X10_mostOf_39 kB_11 ?_
          refine g_icmp_ne d_X10_mostOf_41 (fun h41 => ?_) (fun h41 => ?_)
          · skip
            replace hF := fe_neg hF h41
            refine g_bipush (v := 99) d_X10_mostOf_50 kB_99 ?_
            exact g_ireturn d_X10_mostOf_52 rfl rfl rfl rfl ⟨rfl, rfl, rfl, (99 : Int32), rfl, hF, by grind⟩
          · skip
            replace hF := fe_pos hF h41
            refine g_sipush (v := 400) d_X10_mostOf_44 kS_400 ?_
            refine g_goto d_X10_mostOf_47 ?_
            exact g_ireturn d_X10_mostOf_52 rfl rfl rfl rfl ⟨rfl, rfl, rfl, (400 : Int32), rfl, hF, by grind⟩
        · skip
          replace hF := fe_pos hF h31
          refine g_iconst (v := 2) d_X10_mostOf_34 kI_2 ?_
          refine g_goto d_X10_mostOf_35 ?_
          exact g_ireturn d_X10_mostOf_52 rfl rfl rfl rfl ⟨rfl, rfl, rfl, (2 : Int32), rfl, hF, by grind⟩
      · skip
        replace hF := fe_pos hF h19
        refine g_sipush (v := 200) d_X10_mostOf_22 kS_200 ?_
        refine g_goto d_X10_mostOf_25 ?_
        exact g_ireturn d_X10_mostOf_52 rfl rfl rfl rfl ⟨rfl, rfl, rfl, (200 : Int32), rfl, hF, by grind⟩
  · skip
    replace hF := fe_pos hF h1
    refine g_sipush (v := 999) d_X10_mostOf_4 kS_999 ?_
    refine g_goto d_X10_mostOf_7 ?_
    exact g_ireturn d_X10_mostOf_52 rfl rfl rfl rfl ⟨rfl, rfl, rfl, (999 : Int32), rfl, hF, by grind⟩
noncomputable def fn_X10_isSet (x : Int32) (I : Iv) (J : Jv) : Int32 × Iv × Jv :=
  b_n3 (fn_X10_in (Int32.toInt64 x) (0 : Int64) (127 : Int64) I J) (fun (r6 : Int32) (_ : Iv) (_ : Jv) => (r6, I, J))
set_option maxRecDepth 100000 in
set_option maxHeartbeats 4000000 in
theorem ct_X10_isSet (x : Int32) (I : Iv) (J : Jv)  : Ct m_X10_isSet [.int x] SHF I J (fun r S' I' J' => S' = SHF ∧ I = I' ∧ J = J' ∧ ∃ v : Int32, r = some (.int v) ∧ (v = 0 ∨ v = 1) ∧ fn_X10_isSet x I J = (v, I', J') ∧ (v = 1 → 0 ≤ x ∧ x ≤ 127) ∧ (v = 0 → ¬ (0 ≤ x ∧ x ≤ 127))) := by
  refine ct_of 0 (by decide +kernel) rfl rfl ?_
  have hF := fe_of (fn_X10_isSet.eq_1 x I J)
  refine g_iload_n d_X10_isSet_0 rfl ?_
  refine g_i2l d_X10_isSet_1 ?_
  refine g_lconst d_X10_isSet_2 kL_0 ?_
  refine g_ldc2 (v := 127) d_X10_isSet_3 tw_1295 ?_
  refine g_S3 d_X10_isSet_6 cs_X10_isSet_X10_in lk_RX10_96 im_X10_in (Nat.le_of_ble_eq_true rfl) ⟨rfl, rfl⟩ ⟨Nat.zero_le _, Nat.zero_le _⟩ (ct_X10_inL x (0 : Int64) (127 : Int64) (0 : Int32) (127 : Int32) (by decide) (by decide) I J) (fun r6 S6 Ic2 Jc3 q6_0 => ?_)
  obtain ⟨rfl, rfl, rfl, r6, rfl, hz6, hf6_4, hr6_6⟩ := q6_0
  replace hF := fe_b3 hF hf6_4
  refine g_st (st' := [.int r6]) rfl ?_
  exact g_ireturn d_X10_isSet_9 rfl rfl rfl (nar_z (by assumption)) ⟨rfl, rfl, rfl, r6, rfl, by assumption, hF, by grind⟩
noncomputable def fn_X10_isTrouble (x : Int32) (I : Iv) (J : Jv) : Int32 × Iv × Jv :=
  b_n3 (fn_X10_in (Int32.toInt64 x) (0 : Int64) (6 : Int64) I J) (fun (r6 : Int32) (_ : Iv) (_ : Jv) => (r6, I, J))
set_option maxRecDepth 100000 in
set_option maxHeartbeats 4000000 in
theorem ct_X10_isTrouble (x : Int32) (I : Iv) (J : Jv)  : Ct m_X10_isTrouble [.int x] SHF I J (fun r S' I' J' => S' = SHF ∧ I = I' ∧ J = J' ∧ ∃ v : Int32, r = some (.int v) ∧ (v = 0 ∨ v = 1) ∧ fn_X10_isTrouble x I J = (v, I', J') ∧ (v = 1 → 0 ≤ x ∧ x ≤ 6) ∧ (v = 0 → ¬ (0 ≤ x ∧ x ≤ 6))) := by
  refine ct_of 0 (by decide +kernel) rfl rfl ?_
  have hF := fe_of (fn_X10_isTrouble.eq_1 x I J)
  refine g_iload_n d_X10_isTrouble_0 rfl ?_
  refine g_i2l d_X10_isTrouble_1 ?_
  refine g_lconst d_X10_isTrouble_2 kL_0 ?_
  refine g_ldc2 (v := 6) d_X10_isTrouble_3 tw_1454 ?_
  refine g_S3 d_X10_isTrouble_6 cs_X10_isTrouble_X10_in lk_RX10_96 im_X10_in (Nat.le_of_ble_eq_true rfl) ⟨rfl, rfl⟩ ⟨Nat.zero_le _, Nat.zero_le _⟩ (ct_X10_inL x (0 : Int64) (6 : Int64) (0 : Int32) (6 : Int32) (by decide) (by decide) I J) (fun r6 S6 Ic2 Jc3 q6_0 => ?_)
  obtain ⟨rfl, rfl, rfl, r6, rfl, hz6, hf6_4, hr6_6⟩ := q6_0
  replace hF := fe_b3 hF hf6_4
  refine g_st (st' := [.int r6]) rfl ?_
  exact g_ireturn d_X10_isTrouble_9 rfl rfl rfl (nar_z (by assumption)) ⟨rfl, rfl, rfl, r6, rfl, by assumption, hF, by grind⟩
noncomputable def fn_X10_isSign (x : Int32) (I : Iv) (J : Jv) : Int32 × Iv × Jv :=
  b_n3 (fn_X10_in (Int32.toInt64 x) (0 : Int64) (6 : Int64) I J) (fun (r6 : Int32) (_ : Iv) (_ : Jv) => (r6, I, J))
set_option maxRecDepth 100000 in
set_option maxHeartbeats 4000000 in
theorem ct_X10_isSign (x : Int32) (I : Iv) (J : Jv)  : Ct m_X10_isSign [.int x] SHF I J (fun r S' I' J' => S' = SHF ∧ I = I' ∧ J = J' ∧ ∃ v : Int32, r = some (.int v) ∧ (v = 0 ∨ v = 1) ∧ fn_X10_isSign x I J = (v, I', J') ∧ (v = 1 → 0 ≤ x ∧ x ≤ 6) ∧ (v = 0 → ¬ (0 ≤ x ∧ x ≤ 6))) := by
  refine ct_of 0 (by decide +kernel) rfl rfl ?_
  have hF := fe_of (fn_X10_isSign.eq_1 x I J)
  refine g_iload_n d_X10_isSign_0 rfl ?_
  refine g_i2l d_X10_isSign_1 ?_
  refine g_lconst d_X10_isSign_2 kL_0 ?_
  refine g_ldc2 (v := 6) d_X10_isSign_3 tw_1454 ?_
  refine g_S3 d_X10_isSign_6 cs_X10_isSign_X10_in lk_RX10_96 im_X10_in (Nat.le_of_ble_eq_true rfl) ⟨rfl, rfl⟩ ⟨Nat.zero_le _, Nat.zero_le _⟩ (ct_X10_inL x (0 : Int64) (6 : Int64) (0 : Int32) (6 : Int32) (by decide) (by decide) I J) (fun r6 S6 Ic2 Jc3 q6_0 => ?_)
  obtain ⟨rfl, rfl, rfl, r6, rfl, hz6, hf6_4, hr6_6⟩ := q6_0
  replace hF := fe_b3 hF hf6_4
  refine g_st (st' := [.int r6]) rfl ?_
  exact g_ireturn d_X10_isSign_9 rfl rfl rfl (nar_z (by assumption)) ⟨rfl, rfl, rfl, r6, rfl, by assumption, hF, by grind⟩
noncomputable def fn_X10_isShelf (x : Int32) (I : Iv) (J : Jv) : Int32 × Iv × Jv :=
  b_n3 (fn_X10_in (Int32.toInt64 x) (0 : Int64) (2 : Int64) I J) (fun (r6 : Int32) (_ : Iv) (_ : Jv) => (r6, I, J))
set_option maxRecDepth 100000 in
set_option maxHeartbeats 4000000 in
theorem ct_X10_isShelf (x : Int32) (I : Iv) (J : Jv)  : Ct m_X10_isShelf [.int x] SHF I J (fun r S' I' J' => S' = SHF ∧ I = I' ∧ J = J' ∧ ∃ v : Int32, r = some (.int v) ∧ (v = 0 ∨ v = 1) ∧ fn_X10_isShelf x I J = (v, I', J') ∧ (v = 1 → 0 ≤ x ∧ x ≤ 2) ∧ (v = 0 → ¬ (0 ≤ x ∧ x ≤ 2))) := by
  refine ct_of 0 (by decide +kernel) rfl rfl ?_
  have hF := fe_of (fn_X10_isShelf.eq_1 x I J)
  refine g_iload_n d_X10_isShelf_0 rfl ?_
  refine g_i2l d_X10_isShelf_1 ?_
  refine g_lconst d_X10_isShelf_2 kL_0 ?_
  refine g_ldc2 (v := 2) d_X10_isShelf_3 tw_1319 ?_
  refine g_S3 d_X10_isShelf_6 cs_X10_isShelf_X10_in lk_RX10_96 im_X10_in (Nat.le_of_ble_eq_true rfl) ⟨rfl, rfl⟩ ⟨Nat.zero_le _, Nat.zero_le _⟩ (ct_X10_inL x (0 : Int64) (2 : Int64) (0 : Int32) (2 : Int32) (by decide) (by decide) I J) (fun r6 S6 Ic2 Jc3 q6_0 => ?_)
  obtain ⟨rfl, rfl, rfl, r6, rfl, hz6, hf6_4, hr6_6⟩ := q6_0
  replace hF := fe_b3 hF hf6_4
  refine g_st (st' := [.int r6]) rfl ?_
  exact g_ireturn d_X10_isShelf_9 rfl rfl rfl (nar_z (by assumption)) ⟨rfl, rfl, rfl, r6, rfl, by assumption, hF, by grind⟩
noncomputable def fn_X10_isDegree (x : Int32) (I : Iv) (J : Jv) : Int32 × Iv × Jv :=
  b_n3 (fn_X10_in (Int32.toInt64 x) (-3000 : Int64) (9000 : Int64) I J) (fun (r6 : Int32) (_ : Iv) (_ : Jv) => (r6, I, J))
set_option maxRecDepth 100000 in
set_option maxHeartbeats 4000000 in
theorem ct_X10_isDegree (x : Int32) (I : Iv) (J : Jv)  : Ct m_X10_isDegree [.int x] SHF I J (fun r S' I' J' => S' = SHF ∧ I = I' ∧ J = J' ∧ ∃ v : Int32, r = some (.int v) ∧ (v = 0 ∨ v = 1) ∧ fn_X10_isDegree x I J = (v, I', J') ∧ (v = 1 → -3000 ≤ x ∧ x ≤ 9000) ∧ (v = 0 → ¬ (-3000 ≤ x ∧ x ≤ 9000))) := by
  refine ct_of 0 (by decide +kernel) rfl rfl ?_
  have hF := fe_of (fn_X10_isDegree.eq_1 x I J)
  refine g_iload_n d_X10_isDegree_0 rfl ?_
  refine g_i2l d_X10_isDegree_1 ?_
  refine g_ldc2 (v := -3000) d_X10_isDegree_2 tw_1323 ?_
  refine g_ldc2 (v := 9000) d_X10_isDegree_5 tw_1324 ?_
  refine g_S3 d_X10_isDegree_8 cs_X10_isDegree_X10_in lk_RX10_96 im_X10_in (Nat.le_of_ble_eq_true rfl) ⟨rfl, rfl⟩ ⟨Nat.zero_le _, Nat.zero_le _⟩ (ct_X10_inL x (-3000 : Int64) (9000 : Int64) (-3000 : Int32) (9000 : Int32) (by decide) (by decide) I J) (fun r8 S8 Ic2 Jc3 q8_0 => ?_)
  obtain ⟨rfl, rfl, rfl, r6, rfl, hz8, hf8_4, hr8_6⟩ := q8_0
  replace hF := fe_b3 hF hf8_4
  refine g_st (st' := [.int r6]) rfl ?_
  exact g_ireturn d_X10_isDegree_11 rfl rfl rfl (nar_z (by assumption)) ⟨rfl, rfl, rfl, r6, rfl, by assumption, hF, by grind⟩
noncomputable def fn_X10_areDays (x : Int32) (I : Iv) (J : Jv) : Int32 × Iv × Jv :=
  b_n3 (fn_X10_in (Int32.toInt64 x) (1 : Int64) (6 : Int64) I J) (fun (r6 : Int32) (_ : Iv) (_ : Jv) => (r6, I, J))
set_option maxRecDepth 100000 in
set_option maxHeartbeats 4000000 in
theorem ct_X10_areDays (x : Int32) (I : Iv) (J : Jv)  : Ct m_X10_areDays [.int x] SHF I J (fun r S' I' J' => S' = SHF ∧ I = I' ∧ J = J' ∧ ∃ v : Int32, r = some (.int v) ∧ (v = 0 ∨ v = 1) ∧ fn_X10_areDays x I J = (v, I', J') ∧ (v = 1 → 1 ≤ x ∧ x ≤ 6) ∧ (v = 0 → ¬ (1 ≤ x ∧ x ≤ 6))) := by
  refine ct_of 0 (by decide +kernel) rfl rfl ?_
  have hF := fe_of (fn_X10_areDays.eq_1 x I J)
  refine g_iload_n d_X10_areDays_0 rfl ?_
  refine g_i2l d_X10_areDays_1 ?_
  refine g_lconst d_X10_areDays_2 kL_1 ?_
  refine g_ldc2 (v := 6) d_X10_areDays_3 tw_1454 ?_
  refine g_S3 d_X10_areDays_6 cs_X10_areDays_X10_in lk_RX10_96 im_X10_in (Nat.le_of_ble_eq_true rfl) ⟨rfl, rfl⟩ ⟨Nat.zero_le _, Nat.zero_le _⟩ (ct_X10_inL x (1 : Int64) (6 : Int64) (1 : Int32) (6 : Int32) (by decide) (by decide) I J) (fun r6 S6 Ic2 Jc3 q6_0 => ?_)
  obtain ⟨rfl, rfl, rfl, r6, rfl, hz6, hf6_4, hr6_6⟩ := q6_0
  replace hF := fe_b3 hF hf6_4
  refine g_st (st' := [.int r6]) rfl ?_
  exact g_ireturn d_X10_areDays_9 rfl rfl rfl (nar_z (by assumption)) ⟨rfl, rfl, rfl, r6, rfl, by assumption, hF, by grind⟩
noncomputable def fn_X10_isHour (tick : Int64) (from_ : Int32) (till : Int32) (I : Iv) (J : Jv) : Int32 × Iv × Jv :=
  l_t (((tick - tick / (288 : Int64) * (288 : Int64)) / (12 : Int64))) (fun (v1 : Int64) => if from_ < 0 then ((0 : Int32), I, J) else if v1 < (Int32.toInt64 from_) then ((0 : Int32), I, J) else if (Int32.toInt64 till) ≤ v1 then ((0 : Int32), I, J) else ((1 : Int32), I, J))
set_option maxRecDepth 100000 in
set_option maxHeartbeats 4000000 in
theorem ct_X10_isHour (tick : Int64) (from_ : Int32) (till : Int32) (I : Iv) (J : Jv)  : Ct m_X10_isHour [.long tick, .int from_, .int till] SHF I J (fun r S' I' J' => S' = SHF ∧ I = I' ∧ J = J' ∧ ∃ v : Int32, r = some (.int v) ∧ (v = 0 ∨ v = 1) ∧ fn_X10_isHour tick from_ till I J = (v, I', J')) := by
  refine ct_of 2 (by decide +kernel) rfl rfl ?_
  have hF := fe_of (fn_X10_isHour.eq_1 tick from_ till I J)
  refine g_lload_n d_X10_isHour_0 rfl ?_
  refine g_ldc2 (v := 288) d_X10_isHour_1 tw_1370 ?_
  refine g_lrem d_X10_isHour_4 (by decide) ?_
  refine g_ldc2 (v := 12) d_X10_isHour_5 tw_1379 ?_
  refine g_ldiv d_X10_isHour_8 (by decide) ?_
  refine g_topJ (fun v1 ev1 => ?_)
  replace hF := fe_lt hF ev1
  refine g_lstore (L' := [some (.long tick), none, some (.int from_), some (.int till), some (.long v1), none]) d_X10_isHour_9 (by decide) rfl ?_
  refine g_iload_n d_X10_isHour_11 rfl ?_
  refine g_if_lt d_X10_isHour_12 (fun h12 => ?_) (fun h12 => ?_)
  · skip
    replace hF := fe_pos hF h12
    refine g_iconst (v := 0) d_X10_isHour_35 kI_0 ?_
    exact g_ireturn d_X10_isHour_36 rfl rfl rfl rfl ⟨rfl, rfl, rfl, (0 : Int32), rfl, Or.inl rfl, hF⟩
  · skip
    replace hF := fe_neg hF h12
    refine g_iload_n d_X10_isHour_15 rfl ?_
    refine g_i2l d_X10_isHour_16 ?_
    refine g_lload d_X10_isHour_17 rfl ?_
    refine g_lcmp_gt d_X10_isHour_19 d_X10_isHour_20 (fun h20 => ?_) (fun h20 => ?_)
    · skip
      replace hF := fe_pos hF h20
      refine g_iconst (v := 0) d_X10_isHour_35 kI_0 ?_
      exact g_ireturn d_X10_isHour_36 rfl rfl rfl rfl ⟨rfl, rfl, rfl, (0 : Int32), rfl, Or.inl rfl, hF⟩
    · skip
      replace hF := fe_neg hF h20
      refine g_lload d_X10_isHour_23 rfl ?_
      refine g_iload_n d_X10_isHour_25 rfl ?_
      refine g_i2l d_X10_isHour_26 ?_
      refine g_lcmp_ge d_X10_isHour_27 d_X10_isHour_28 (fun h28 => ?_) (fun h28 => ?_)
      · skip
        replace hF := fe_pos hF h28
        refine g_iconst (v := 0) d_X10_isHour_35 kI_0 ?_
        exact g_ireturn d_X10_isHour_36 rfl rfl rfl rfl ⟨rfl, rfl, rfl, (0 : Int32), rfl, Or.inl rfl, hF⟩
      · skip
        replace hF := fe_neg hF h28
        refine g_iconst (v := 1) d_X10_isHour_31 kI_1 ?_
        refine g_goto d_X10_isHour_32 ?_
        exact g_ireturn d_X10_isHour_36 rfl rfl rfl rfl ⟨rfl, rfl, rfl, (1 : Int32), rfl, Or.inr rfl, hF⟩
noncomputable def fl_X10_isOpen_12_0 (I : Iv) (J : Jv) (v1 : Int64) (Kf0 : Int32 → Int32 → Int32 × Iv × Jv) : Nat → Int32 → Int32 → Int32 × Iv × Jv
  | 0, x2, x3 => (0, I, J)
  | kf0 + 1, x2, x3 => if (I 78 5) ≤ x3 then Kf0 x2 x3 else if x2 = 0 then b_n3 (fn_X10_in v1 (Int32.toInt64 (I 83 x3.toNatClampNeg)) (Int32.toInt64 (((I 83 x3.toNatClampNeg) + (I 84 x3.toNatClampNeg)) - (1 : Int32))) I J) (fun (r10 : Int32) (_ : Iv) (_ : Jv) => if r10 = 0 then fl_X10_isOpen_12_0 I J v1 Kf0 kf0 (0 : Int32) (x3 + (1 : Int32)) else fl_X10_isOpen_12_0 I J v1 Kf0 kf0 (1 : Int32) (x3 + (1 : Int32))) else fl_X10_isOpen_12_0 I J v1 Kf0 kf0 (1 : Int32) (x3 + (1 : Int32))
noncomputable def fn_X10_isOpen (tick : Int64) (I : Iv) (J : Jv) : Int32 × Iv × Jv :=
  l_t ((tick - tick / (288 : Int64) * (288 : Int64))) (fun (v1 : Int64) => fl_X10_isOpen_12_0 I J v1 (fun (x2 : Int32) (x3 : Int32) => (x2, I, J)) (mU (I 78 5) ((0 : Int32)) + 1) (0 : Int32) (0 : Int32))
set_option maxRecDepth 100000 in
set_option maxHeartbeats 4000000 in
theorem ct_X10_isOpen (tick : Int64) (I : Iv) (J : Jv) (hop2 : 0 ≤ I 78 5 ∧ I 78 5 ≤ 12) : Ct m_X10_isOpen [.ref 78, .long tick] SHF I J (fun r S' I' J' => S' = SHF ∧ I = I' ∧ J = J' ∧ ∃ v : Int32, r = some (.int v) ∧ (v = 0 ∨ v = 1) ∧ fn_X10_isOpen tick I J = (v, I', J')) := by
  refine ct_of 4 (by decide +kernel) rfl rfl ?_
  have hF := fe_of (fn_X10_isOpen.eq_1 tick I J)
  refine g_lload_n d_X10_isOpen_0 rfl ?_
  refine g_ldc2 (v := 288) d_X10_isOpen_1 tw_1370 ?_
  refine g_lrem d_X10_isOpen_4 (by decide) ?_
  refine g_topJ (fun v1 ev1 => ?_)
  replace hF := fe_lt hF ev1
  refine g_lstore_n (L' := [some (.ref 78), some (.long tick), none, some (.long v1), none, none, none]) d_X10_isOpen_5 (by decide) rfl ?_
  refine g_iconst (v := 0) d_X10_isOpen_6 kI_0 ?_
  refine g_istore (L' := [some (.ref 78), some (.long tick), none, some (.long v1), none, some (.int (0 : Int32)), none]) d_X10_isOpen_7 (by decide) rfl ?_
  refine g_iconst (v := 0) d_X10_isOpen_9 kI_0 ?_
  refine g_istore (L' := [some (.ref 78), some (.long tick), none, some (.long v1), none, some (.int (0 : Int32)), some (.int (0 : Int32))]) d_X10_isOpen_10 (by decide) rfl ?_
  obtain ⟨Kf0, hKf0, hF⟩ := fe_kx (f := fun K => fl_X10_isOpen_12_0 I J v1 K (mU (I 78 5) ((0 : Int32)) + 1) (0 : Int32) (0 : Int32)) hF
  have K_12 : ∀ (nu : Nat) (x2 : Int32) (x3 : Int32), mU (I 78 5) x3 = nu → ((0 : Int32) ≤ x3) → (x2 = 0 ∨ x2 = 1) → (∃ kq : Nat, nu < kq ∧ (fun kq => FE (fn_X10_isOpen tick I J) (fun _ => fl_X10_isOpen_12_0 I J v1 Kf0 kq x2 x3)) kq) → G m_X10_isOpen (rq m_X10_isOpen (fun r S' I' J' => S' = SHF ∧ I = I' ∧ J = J' ∧ ∃ v : Int32, r = some (.int v) ∧ (v = 0 ∨ v = 1) ∧ fn_X10_isOpen tick I J = (v, I', J'))) 0 0 12 [some (.ref 78), some (.long tick), none, some (.long v1), none, some (.int x2), some (.int x3)] [] SHF I J := by
    intro nu
    induction nu using Nat.strongRecOn with
    | ind nu ih_12 =>
      intro x2 x3 hmu_12 hl4 hb_12 hF_Kf0
      obtain ⟨kf0, hkf0, hF⟩ := fe_fu (P := fun kq => FE (fn_X10_isOpen tick I J) (fun _ => fl_X10_isOpen_12_0 I J v1 Kf0 kq x2 x3)) hF_Kf0
      replace hF := fe_eq hF (fl_X10_isOpen_12_0.eq_2 _ _ _ _ _ _ _)
      refine g_iload d_X10_isOpen_12 rfl ?_
      refine g_aload_n d_X10_isOpen_14 rfl ?_
      refine g_getI d_X10_isOpen_15 fq_RX10_175 rfl rfl ?_
      refine g_icmp_ge d_X10_isOpen_18 (fun h18 => ?_) (fun h18 => ?_)
      · skip
        replace hF := fe_pos hF h18
        replace hF := fe_eq hF (congrFun (congrFun hKf0 x2) x3)
        refine g_iload d_X10_isOpen_72 rfl ?_
        exact g_ireturn d_X10_isOpen_74 rfl rfl rfl (nar_z (by assumption)) ⟨rfl, rfl, rfl, x2, rfl, by assumption, hF⟩
      · skip
        replace hF := fe_neg hF h18
        refine g_iload d_X10_isOpen_21 rfl ?_
        refine g_if_ne d_X10_isOpen_23 (fun h23 => ?_) (fun h23 => ?_)
        · skip
          replace hF := fe_neg hF h23
          refine g_iconst (v := 1) d_X10_isOpen_59 kI_1 ?_
          refine g_goto d_X10_isOpen_60 ?_
          refine g_istore (L' := [some (.ref 78), some (.long tick), none, some (.long v1), none, some (.int (1 : Int32)), some (.int x3)]) d_X10_isOpen_64 (by decide) rfl ?_
          refine g_iinc (v := (x3 + (1 : Int32))) (L' := [some (.ref 78), some (.long tick), none, some (.long v1), none, some (.int (1 : Int32)), some (.int (x3 + (1 : Int32)))]) d_X10_isOpen_66 rfl (by rw [kI_1]) (by decide) rfl ?_
          refine g_goto d_X10_isOpen_69 ?_
          exact ih_12 _ (by rw [← hmu_12]; exact mu_up h18) (1 : Int32) (x3 + (1 : Int32)) rfl (lo_up hl4 h18) (by grind) ⟨kf0, Nat.lt_of_lt_of_le (by rw [← hmu_12]; exact mu_up h18) hkf0, hF⟩
        · skip
          replace hF := fe_pos hF h23
          refine g_lload_n d_X10_isOpen_26 rfl ?_
          refine g_aload_n d_X10_isOpen_27 rfl ?_
          refine g_getR d_X10_isOpen_28 fq_RX10_24 rfl rfl ?_
          refine g_iload d_X10_isOpen_31 rfl ?_
          refine g_iaload (N := 12) d_X10_isOpen_33 rfl kT_12 (by constructor <;> grind) rfl ?_
          refine g_i2l d_X10_isOpen_34 ?_
          refine g_aload_n d_X10_isOpen_35 rfl ?_
          refine g_getR d_X10_isOpen_36 fq_RX10_24 rfl rfl ?_
          refine g_iload d_X10_isOpen_39 rfl ?_
          refine g_iaload (N := 12) d_X10_isOpen_41 rfl kT_12 (by constructor <;> grind) rfl ?_
          refine g_aload_n d_X10_isOpen_42 rfl ?_
          refine g_getR d_X10_isOpen_43 fq_RX10_27 rfl rfl ?_
          refine g_iload d_X10_isOpen_46 rfl ?_
          refine g_iaload (N := 12) d_X10_isOpen_48 rfl kT_12 (by constructor <;> grind) rfl ?_
          refine g_iadd d_X10_isOpen_49 ?_
          refine g_iconst (v := 1) d_X10_isOpen_50 kI_1 ?_
          refine g_isub d_X10_isOpen_51 ?_
          refine g_i2l d_X10_isOpen_52 ?_
          refine g_S3 d_X10_isOpen_53 cs_X10_isOpen_X10_in lk_RX10_96 im_X10_in (Nat.le_of_ble_eq_true rfl) ⟨rfl, rfl⟩ ⟨Nat.zero_le _, Nat.zero_le _⟩ (ct_X10_in v1 (Int32.toInt64 (I 83 x3.toNatClampNeg)) (Int32.toInt64 (((I 83 x3.toNatClampNeg) + (I 84 x3.toNatClampNeg)) - (1 : Int32))) I J) (fun r53 S53 Ic6 Jc7 q53_4 => ?_)
          obtain ⟨rfl, rfl, rfl, r10, rfl, hz53, hf53_8, hr53_10⟩ := q53_4
          replace hF := fe_b3 hF hf53_8
          refine g_st (st' := [.int r10]) rfl ?_
          refine g_if_eq d_X10_isOpen_56 (fun h56 => ?_) (fun h56 => ?_)
          · skip
            replace hF := fe_pos hF h56
            refine g_iconst (v := 0) d_X10_isOpen_63 kI_0 ?_
            refine g_istore (L' := [some (.ref 78), some (.long tick), none, some (.long v1), none, some (.int (0 : Int32)), some (.int x3)]) d_X10_isOpen_64 (by decide) rfl ?_
            refine g_iinc (v := (x3 + (1 : Int32))) (L' := [some (.ref 78), some (.long tick), none, some (.long v1), none, some (.int (0 : Int32)), some (.int (x3 + (1 : Int32)))]) d_X10_isOpen_66 rfl (by rw [kI_1]) (by decide) rfl ?_
            refine g_goto d_X10_isOpen_69 ?_
            exact ih_12 _ (by rw [← hmu_12]; exact mu_up h18) (0 : Int32) (x3 + (1 : Int32)) rfl (lo_up hl4 h18) (by grind) ⟨kf0, Nat.lt_of_lt_of_le (by rw [← hmu_12]; exact mu_up h18) hkf0, hF⟩
          · skip
            replace hF := fe_neg hF h56
            refine g_iconst (v := 1) d_X10_isOpen_59 kI_1 ?_
            refine g_goto d_X10_isOpen_60 ?_
            refine g_istore (L' := [some (.ref 78), some (.long tick), none, some (.long v1), none, some (.int (1 : Int32)), some (.int x3)]) d_X10_isOpen_64 (by decide) rfl ?_
            refine g_iinc (v := (x3 + (1 : Int32))) (L' := [some (.ref 78), some (.long tick), none, some (.long v1), none, some (.int (1 : Int32)), some (.int (x3 + (1 : Int32)))]) d_X10_isOpen_66 rfl (by rw [kI_1]) (by decide) rfl ?_
            refine g_goto d_X10_isOpen_69 ?_
            exact ih_12 _ (by rw [← hmu_12]; exact mu_up h18) (1 : Int32) (x3 + (1 : Int32)) rfl (lo_up hl4 h18) (by grind) ⟨kf0, Nat.lt_of_lt_of_le (by rw [← hmu_12]; exact mu_up h18) hkf0, hF⟩
  exact K_12 _ (0 : Int32) (0 : Int32) rfl (Int32.le_refl _) (by grind) ⟨_, Nat.lt_succ_self _, hF⟩
noncomputable def fn_X10_capOf (x : Int32) (cell : Int32) (I : Iv) (J : Jv) : Int64 × Iv × Jv :=
  if (3 : Int32) ≤ cell then if cell = (3 : Int32) then ((40 : Int64), I, J) else ((J 79 ((((x + (28 : Int32)) + cell) - (4 : Int32))).toNatClampNeg), I, J) else ((20 : Int64), I, J)
set_option maxRecDepth 100000 in
set_option maxHeartbeats 4000000 in
theorem ct_X10_capOf (x : Int32) (cell : Int32) (I : Iv) (J : Jv) (hx : HX x) (hcell : 0 ≤ cell ∧ cell < 12) : Ct m_X10_capOf [.ref 78, .int x, .int cell] SHF I J (fun r S' I' J' => S' = SHF ∧ I = I' ∧ J = J' ∧ ∃ v : Int64, r = some (.long v) ∧ fn_X10_capOf x cell I J = (v, I', J') ∧ (cell < 3 → v = 20) ∧ (cell = 3 → v = 40) ∧ (3 < cell → v = J 79 (x + 28 + cell - 4).toNatClampNeg)) := by
  refine ct_of 0 (by decide +kernel) rfl rfl ?_
  have hF := fe_of (fn_X10_capOf.eq_1 x cell I J)
  refine g_iload_n d_X10_capOf_0 rfl ?_
  refine g_iconst (v := 3) d_X10_capOf_1 kI_3 ?_
  refine g_icmp_ge d_X10_capOf_2 (fun h2 => ?_) (fun h2 => ?_)
  · skip
    replace hF := fe_pos hF h2
    refine g_iload_n d_X10_capOf_11 rfl ?_
    refine g_iconst (v := 3) d_X10_capOf_12 kI_3 ?_
    refine g_icmp_ne d_X10_capOf_13 (fun h13 => ?_) (fun h13 => ?_)
    · skip
      replace hF := fe_neg hF h13
      refine g_aload_n d_X10_capOf_22 rfl ?_
      refine g_getR d_X10_capOf_23 fq_RX10_7 rfl rfl ?_
      refine g_iload_n d_X10_capOf_26 rfl ?_
      refine g_bipush (v := 28) d_X10_capOf_27 kB_28 ?_
      refine g_iadd d_X10_capOf_29 ?_
      refine g_iload_n d_X10_capOf_30 rfl ?_
      refine g_iadd d_X10_capOf_31 ?_
      refine g_iconst (v := 4) d_X10_capOf_32 kI_4 ?_
      refine g_isub d_X10_capOf_33 ?_
      refine g_laload (N := 320) d_X10_capOf_34 rfl kT_320 (by constructor <;> grind) rfl ?_
      exact g_lreturn d_X10_capOf_35 rfl rfl rfl ⟨rfl, rfl, rfl, (J 79 ((((x + (28 : Int32)) + cell) - (4 : Int32))).toNatClampNeg), rfl, hF, by grind⟩
    · skip
      replace hF := fe_pos hF h13
      refine g_ldc2 (v := 40) d_X10_capOf_16 tw_1344 ?_
      refine g_goto d_X10_capOf_19 ?_
      exact g_lreturn d_X10_capOf_35 rfl rfl rfl ⟨rfl, rfl, rfl, (40 : Int64), rfl, hF, by grind⟩
  · skip
    replace hF := fe_neg hF h2
    refine g_ldc2 (v := 20) d_X10_capOf_5 tw_1343 ?_
    refine g_goto d_X10_capOf_8 ?_
    exact g_lreturn d_X10_capOf_35 rfl rfl rfl ⟨rfl, rfl, rfl, (20 : Int64), rfl, hF, by grind⟩
noncomputable def fn_X10_warm (x : Int32) (cell : Int32) (I : Iv) (J : Jv) : Int64 × Iv × Jv :=
  b_n3 (fn_X10_capOf x cell I J) (fun (r6 : Int64) (_ : Iv) (_ : Jv) => (((J 79 ((x + cell)).toNatClampNeg) / r6), I, J))
set_option maxRecDepth 100000 in
set_option maxHeartbeats 4000000 in
theorem ct_X10_warm (x : Int32) (cell : Int32) (I : Iv) (J : Jv) (hx : HX x) (hcell : 0 ≤ cell ∧ cell < 12) (hcap : 3 < cell → 1 ≤ J 79 (x + 28 + cell - 4).toNatClampNeg) : Ct m_X10_warm [.ref 78, .int x, .int cell] SHF I J (fun r S' I' J' => S' = SHF ∧ I = I' ∧ J = J' ∧ ∃ v : Int64, r = some (.long v) ∧ fn_X10_warm x cell I J = (v, I', J')) := by
  refine ct_of 0 (by decide +kernel) rfl rfl ?_
  have hF := fe_of (fn_X10_warm.eq_1 x cell I J)
  refine g_aload_n d_X10_warm_0 rfl ?_
  refine g_getR d_X10_warm_1 fq_RX10_7 rfl rfl ?_
  refine g_iload_n d_X10_warm_4 rfl ?_
  refine g_iload_n d_X10_warm_5 rfl ?_
  refine g_iadd d_X10_warm_6 ?_
  refine g_laload (N := 320) d_X10_warm_7 rfl kT_320 (by constructor <;> grind) rfl ?_
  refine g_aload_n d_X10_warm_8 rfl ?_
  refine g_iload_n d_X10_warm_9 rfl ?_
  refine g_iload_n d_X10_warm_10 rfl ?_
  refine g_V2 d_X10_warm_11 cs_X10_warm_X10_capOf lk_RX10_192 im_X10_capOf se_X10_capOf rfl rfl rfl (Nat.le_of_ble_eq_true rfl) ⟨rfl, rfl⟩ ⟨Nat.zero_le _, Nat.zero_le _⟩ (ct_X10_capOf x cell I J hx hcell) (fun r11 S11 Ic2 Jc3 q11_0 => ?_)
  obtain ⟨rfl, rfl, rfl, r6, rfl, hf11_4, hr11_6⟩ := q11_0
  replace hF := fe_b3 hF hf11_4
  refine g_st (st' := [.long r6, .long (J 79 ((x + cell)).toNatClampNeg)]) rfl ?_
  refine g_ldiv d_X10_warm_14 (by grind) ?_
  exact g_lreturn d_X10_warm_15 rfl rfl rfl ⟨rfl, rfl, rfl, ((J 79 ((x + cell)).toNatClampNeg) / r6), rfl, hF⟩
noncomputable def fn_X10_isWithin (x : Int32) (f : Int32) (I : Iv) (J : Jv) : Int32 × Iv × Jv :=
  b_n3 (fn_X10_warm x ((4 : Int32) + f) I J) (fun (r6 : Int64) (_ : Iv) (_ : Jv) => b_n3 (fn_X10_in r6 (J 79 (((x + (36 : Int32)) + f)).toNatClampNeg) (J 79 (((x + (44 : Int32)) + f)).toNatClampNeg) I J) (fun (r13 : Int32) (_ : Iv) (_ : Jv) => (r13, I, J)))
set_option maxRecDepth 100000 in
set_option maxHeartbeats 4000000 in
theorem ct_X10_isWithin (x : Int32) (f : Int32) (I : Iv) (J : Jv) (hx : HX x) (hf8 : 0 ≤ f ∧ f < 8) (hcap : 1 ≤ J 79 (x + 28 + (4 + f) - 4).toNatClampNeg) : Ct m_X10_isWithin [.ref 78, .int x, .int f] SHF I J (fun r S' I' J' => S' = SHF ∧ I = I' ∧ J = J' ∧ ∃ v : Int32, r = some (.int v) ∧ (v = 0 ∨ v = 1) ∧ fn_X10_isWithin x f I J = (v, I', J')) := by
  refine ct_of 0 (by decide +kernel) rfl rfl ?_
  have hF := fe_of (fn_X10_isWithin.eq_1 x f I J)
  refine g_aload_n d_X10_isWithin_0 rfl ?_
  refine g_iload_n d_X10_isWithin_1 rfl ?_
  refine g_iconst (v := 4) d_X10_isWithin_2 kI_4 ?_
  refine g_iload_n d_X10_isWithin_3 rfl ?_
  refine g_iadd d_X10_isWithin_4 ?_
  refine g_V2 d_X10_isWithin_5 cs_X10_isWithin_X10_warm lk_RX10_200 im_X10_warm se_X10_warm rfl rfl rfl (Nat.le_of_ble_eq_true rfl) ⟨rfl, rfl⟩ ⟨Nat.zero_le _, Nat.zero_le _⟩ (ct_X10_warm x ((4 : Int32) + f) I J hx (by grind) (by grind)) (fun r5 S5 Ic2 Jc3 q5_0 => ?_)
  obtain ⟨rfl, rfl, rfl, r6, rfl, hf5_4⟩ := q5_0
  replace hF := fe_b3 hF hf5_4
  refine g_st (st' := [.long r6]) rfl ?_
  refine g_aload_n d_X10_isWithin_8 rfl ?_
  refine g_getR d_X10_isWithin_9 fq_RX10_7 rfl rfl ?_
  refine g_iload_n d_X10_isWithin_12 rfl ?_
  refine g_bipush (v := 36) d_X10_isWithin_13 kB_36 ?_
  refine g_iadd d_X10_isWithin_15 ?_
  refine g_iload_n d_X10_isWithin_16 rfl ?_
  refine g_iadd d_X10_isWithin_17 ?_
  refine g_laload (N := 320) d_X10_isWithin_18 rfl kT_320 (by constructor <;> grind) rfl ?_
  refine g_aload_n d_X10_isWithin_19 rfl ?_
  refine g_getR d_X10_isWithin_20 fq_RX10_7 rfl rfl ?_
  refine g_iload_n d_X10_isWithin_23 rfl ?_
  refine g_bipush (v := 44) d_X10_isWithin_24 kB_44 ?_
  refine g_iadd d_X10_isWithin_26 ?_
  refine g_iload_n d_X10_isWithin_27 rfl ?_
  refine g_iadd d_X10_isWithin_28 ?_
  refine g_laload (N := 320) d_X10_isWithin_29 rfl kT_320 (by constructor <;> grind) rfl ?_
  refine g_S3 d_X10_isWithin_30 cs_X10_isWithin_X10_in lk_RX10_96 im_X10_in (Nat.le_of_ble_eq_true rfl) ⟨rfl, rfl⟩ ⟨Nat.zero_le _, Nat.zero_le _⟩ (ct_X10_in r6 (J 79 (((x + (36 : Int32)) + f)).toNatClampNeg) (J 79 (((x + (44 : Int32)) + f)).toNatClampNeg) I J) (fun r30 S30 Ic9 Jc10 q30_7 => ?_)
  obtain ⟨rfl, rfl, rfl, r13, rfl, hz30, hf30_11, hr30_13⟩ := q30_7
  replace hF := fe_b3 hF hf30_11
  refine g_st (st' := [.int r13]) rfl ?_
  exact g_ireturn d_X10_isWithin_33 rfl rfl rfl (nar_z (by assumption)) ⟨rfl, rfl, rfl, r13, rfl, by assumption, hF⟩
noncomputable def fn_X10_isFood (f : Int32) (I : Iv) (J : Jv) : Int32 × Iv × Jv :=
  b_n3 (fn_X10_in (Int32.toInt64 f) (0 : Int64) (7 : Int64) I J) (fun (r6 : Int32) (_ : Iv) (_ : Jv) => if r6 = 0 then ((0 : Int32), I, J) else if (J 79 (((12 : Int32) + f)).toNatClampNeg) = (1 : Int64) then ((1 : Int32), I, J) else ((0 : Int32), I, J))
set_option maxRecDepth 100000 in
set_option maxHeartbeats 4000000 in
theorem ct_X10_isFood (f : Int32) (I : Iv) (J : Jv)  : Ct m_X10_isFood [.ref 78, .int f] SHF I J (fun r S' I' J' => S' = SHF ∧ I = I' ∧ J = J' ∧ ∃ v : Int32, r = some (.int v) ∧ (v = 0 ∨ v = 1) ∧ fn_X10_isFood f I J = (v, I', J') ∧ (v = 1 → 0 ≤ f ∧ f ≤ 7 ∧ J 79 (12 + f).toNatClampNeg = 1)) := by
  refine ct_of 0 (by decide +kernel) rfl rfl ?_
  have hF := fe_of (fn_X10_isFood.eq_1 f I J)
  refine g_iload_n d_X10_isFood_0 rfl ?_
  refine g_i2l d_X10_isFood_1 ?_
  refine g_lconst d_X10_isFood_2 kL_0 ?_
  refine g_ldc2 (v := 7) d_X10_isFood_3 tw_1334 ?_
  refine g_S3 d_X10_isFood_6 cs_X10_isFood_X10_in lk_RX10_96 im_X10_in (Nat.le_of_ble_eq_true rfl) ⟨rfl, rfl⟩ ⟨Nat.zero_le _, Nat.zero_le _⟩ (ct_X10_inL f (0 : Int64) (7 : Int64) (0 : Int32) (7 : Int32) (by decide) (by decide) I J) (fun r6 S6 Ic2 Jc3 q6_0 => ?_)
  obtain ⟨rfl, rfl, rfl, r6, rfl, hz6, hf6_4, hr6_6⟩ := q6_0
  replace hF := fe_b3 hF hf6_4
  refine g_st (st' := [.int r6]) rfl ?_
  refine g_if_eq d_X10_isFood_9 (fun h9 => ?_) (fun h9 => ?_)
  · skip
    replace hF := fe_pos hF h9
    refine g_iconst (v := 0) d_X10_isFood_30 kI_0 ?_
    exact g_ireturn d_X10_isFood_31 rfl rfl rfl rfl ⟨rfl, rfl, rfl, (0 : Int32), rfl, Or.inl rfl, hF, by grind⟩
  · skip
    replace hF := fe_neg hF h9
    refine g_aload_n d_X10_isFood_12 rfl ?_
    refine g_getR d_X10_isFood_13 fq_RX10_7 rfl rfl ?_
    refine g_bipush (v := 12) d_X10_isFood_16 kB_12 ?_
    refine g_iload_n d_X10_isFood_18 rfl ?_
    refine g_iadd d_X10_isFood_19 ?_
    refine g_laload (N := 320) d_X10_isFood_20 rfl kT_320 (by constructor <;> grind) rfl ?_
    refine g_lconst d_X10_isFood_21 kL_1 ?_
    refine g_lcmp_ne d_X10_isFood_22 d_X10_isFood_23 (fun h23 => ?_) (fun h23 => ?_)
    · skip
      replace hF := fe_neg hF h23
      refine g_iconst (v := 0) d_X10_isFood_30 kI_0 ?_
      exact g_ireturn d_X10_isFood_31 rfl rfl rfl rfl ⟨rfl, rfl, rfl, (0 : Int32), rfl, Or.inl rfl, hF, by grind⟩
    · skip
      replace hF := fe_pos hF h23
      refine g_iconst (v := 1) d_X10_isFood_26 kI_1 ?_
      refine g_goto d_X10_isFood_27 ?_
      exact g_ireturn d_X10_isFood_31 rfl rfl rfl rfl ⟨rfl, rfl, rfl, (1 : Int32), rfl, Or.inr rfl, hF, by grind⟩
noncomputable def fl_X10_seens_4_0 (I : Iv) (J : Jv) (Kf0 : Int32 → Int32 → Int32 × Iv × Jv) : Nat → Int32 → Int32 → Int32 × Iv × Jv
  | 0, x1, x2 => (0, I, J)
  | kf0 + 1, x1, x2 => if (7 : Int32) ≤ x2 then Kf0 x1 x2 else b_n3 (fn_X10_one (I 91 x2.toNatClampNeg) I J) (fun (r9 : Int32) (_ : Iv) (_ : Jv) => l_t ((x1 + r9)) (fun (v11 : Int32) => fl_X10_seens_4_0 I J Kf0 kf0 v11 (x2 + (1 : Int32))))
noncomputable def fn_X10_seens (I : Iv) (J : Jv) : Int32 × Iv × Jv :=
  fl_X10_seens_4_0 I J (fun (x1 : Int32) (x2 : Int32) => (x1, I, J)) (mU (7 : Int32) ((0 : Int32)) + 1) (0 : Int32) (0 : Int32)
set_option maxRecDepth 100000 in
set_option maxHeartbeats 4000000 in
theorem ct_X10_seens  (I : Iv) (J : Jv)  : Ct m_X10_seens [.ref 78] SHF I J (fun r S' I' J' => S' = SHF ∧ I = I' ∧ J = J' ∧ ∃ v : Int32, r = some (.int v) ∧ fn_X10_seens I J = (v, I', J') ∧ v = cn (I 91) 7) := by
  refine ct_of 2 (by decide +kernel) rfl rfl ?_
  have hF := fe_of (fn_X10_seens.eq_1 I J)
  refine g_iconst (v := 0) d_X10_seens_0 kI_0 ?_
  refine g_istore_n (L' := [some (.ref 78), some (.int (0 : Int32)), none]) d_X10_seens_1 (by decide) rfl ?_
  refine g_iconst (v := 0) d_X10_seens_2 kI_0 ?_
  refine g_istore_n (L' := [some (.ref 78), some (.int (0 : Int32)), some (.int (0 : Int32))]) d_X10_seens_3 (by decide) rfl ?_
  obtain ⟨Kf0, hKf0, hF⟩ := fe_kx (f := fun K => fl_X10_seens_4_0 I J K (mU (7 : Int32) ((0 : Int32)) + 1) (0 : Int32) (0 : Int32)) hF
  have K_4 : ∀ (nu : Nat) (x1 : Int32) (x2 : Int32), mU (7 : Int32) x2 = nu → ((0 : Int32) ≤ x2) → (x1 = cn (I 91) x2.toNatClampNeg) → (x2 ≤ 7) → (∃ kq : Nat, nu < kq ∧ (fun kq => FE (fn_X10_seens I J) (fun _ => fl_X10_seens_4_0 I J Kf0 kq x1 x2)) kq) → G m_X10_seens (rq m_X10_seens (fun r S' I' J' => S' = SHF ∧ I = I' ∧ J = J' ∧ ∃ v : Int32, r = some (.int v) ∧ fn_X10_seens I J = (v, I', J') ∧ v = cn (I 91) 7)) 0 0 4 [some (.ref 78), some (.int x1), some (.int x2)] [] SHF I J := by
    intro nu
    induction nu using Nat.strongRecOn with
    | ind nu ih_4 =>
      intro x1 x2 hmu_4 hl3 hn_4 hi_4 hF_Kf0
      obtain ⟨kf0, hkf0, hF⟩ := fe_fu (P := fun kq => FE (fn_X10_seens I J) (fun _ => fl_X10_seens_4_0 I J Kf0 kq x1 x2)) hF_Kf0
      replace hF := fe_eq hF (fl_X10_seens_4_0.eq_2 _ _ _ _ _ _)
      refine g_iload_n d_X10_seens_4 rfl ?_
      refine g_bipush (v := 7) d_X10_seens_5 kB_7 ?_
      refine g_icmp_ge d_X10_seens_7 (fun h7 => ?_) (fun h7 => ?_)
      · skip
        replace hF := fe_pos hF h7
        replace hF := fe_eq hF (congrFun (congrFun hKf0 x1) x2)
        refine g_iload_n d_X10_seens_28 rfl ?_
        exact g_ireturn d_X10_seens_29 rfl rfl rfl rfl ⟨rfl, rfl, rfl, x1, rfl, hF, (by rw [hn_4, show x2 = 7 by grind, kN_7])⟩
      · skip
        replace hF := fe_neg hF h7
        refine g_iload_n d_X10_seens_10 rfl ?_
        refine g_aload_n d_X10_seens_11 rfl ?_
        refine g_getR d_X10_seens_12 fq_RX10_52 rfl rfl ?_
        refine g_iload_n d_X10_seens_15 rfl ?_
        refine g_baload (N := 7) d_X10_seens_16 rfl kT_7 ⟨hl3, Int32.not_le.mp h7⟩ rfl (fun hz16 => ?_)
        refine g_S1 d_X10_seens_17 cs_X10_seens_X10_one lk_RX10_211 im_X10_one (Nat.le_of_ble_eq_true rfl) ⟨rfl, rfl⟩ ⟨Nat.zero_le _, Nat.zero_le _⟩ (ct_X10_one (I 91 x2.toNatClampNeg) I J ) (fun r17 S17 Ic5 Jc6 q17_3 => ?_)
        obtain ⟨rfl, rfl, rfl, r9, rfl, hf17_7, hr17_9⟩ := q17_3
        replace hF := fe_b3 hF hf17_7
        refine g_st (st' := [.int r9, .int x1]) rfl ?_
        have h1v := (hr17_9).2
        refine g_iadd d_X10_seens_20 ?_
        refine g_topI (fun v11 ev11 => ?_)
        replace hF := fe_lt hF ev11
        refine g_istore_n (L' := [some (.ref 78), some (.int v11), some (.int x2)]) d_X10_seens_21 (by decide) rfl ?_
        refine g_iinc (v := (x2 + (1 : Int32))) (L' := [some (.ref 78), some (.int v11), some (.int (x2 + (1 : Int32)))]) d_X10_seens_22 rfl (by rw [kI_1]) (by decide) rfl ?_
        refine g_goto d_X10_seens_25 ?_
        exact ih_4 _ (by rw [← hmu_4]; exact mu_up h7) v11 (x2 + (1 : Int32)) rfl (lo_up hl3 h7) (by rw [cn_step hl3 h7 hn_4, ev11, h1v]) (by grind) ⟨kf0, Nat.lt_of_lt_of_le (by rw [← hmu_4]; exact mu_up h7) hkf0, hF⟩
  exact K_4 _ (0 : Int32) (0 : Int32) rfl (Int32.le_refl _) (by rw [kN_0]; rfl) (by decide) ⟨_, Nat.lt_succ_self _, hF⟩
noncomputable def fl_X10_foods_4_0 (I : Iv) (J : Jv) (Kf0 : Int32 → Int32 → Int32 × Iv × Jv) : Nat → Int32 → Int32 → Int32 × Iv × Jv
  | 0, x1, x2 => (0, I, J)
  | kf0 + 1, x1, x2 => if (8 : Int32) ≤ x2 then Kf0 x1 x2 else l_t ((x1 + (Int64.toInt32 (J 79 (12 + x2.toNatClampNeg))))) (fun (v4 : Int32) => fl_X10_foods_4_0 I J Kf0 kf0 v4 (x2 + (1 : Int32)))
noncomputable def fn_X10_foods (I : Iv) (J : Jv) : Int32 × Iv × Jv :=
  fl_X10_foods_4_0 I J (fun (x1 : Int32) (x2 : Int32) => (x1, I, J)) (mU (8 : Int32) ((0 : Int32)) + 1) (0 : Int32) (0 : Int32)
set_option maxRecDepth 100000 in
set_option maxHeartbeats 4000000 in
theorem ct_X10_foods  (I : Iv) (J : Jv) (hb0 : BI 0 J) : Ct m_X10_foods [.ref 78] SHF I J (fun r S' I' J' => S' = SHF ∧ I = I' ∧ J = J' ∧ ∃ v : Int32, r = some (.int v) ∧ fn_X10_foods I J = (v, I', J') ∧ 0 ≤ v ∧ v ≤ 8) := by
  refine ct_of 2 (by decide +kernel) rfl rfl ?_
  have hF := fe_of (fn_X10_foods.eq_1 I J)
  refine g_iconst (v := 0) d_X10_foods_0 kI_0 ?_
  refine g_istore_n (L' := [some (.ref 78), some (.int (0 : Int32)), none]) d_X10_foods_1 (by decide) rfl ?_
  refine g_iconst (v := 0) d_X10_foods_2 kI_0 ?_
  refine g_istore_n (L' := [some (.ref 78), some (.int (0 : Int32)), some (.int (0 : Int32))]) d_X10_foods_3 (by decide) rfl ?_
  obtain ⟨Kf0, hKf0, hF⟩ := fe_kx (f := fun K => fl_X10_foods_4_0 I J K (mU (8 : Int32) ((0 : Int32)) + 1) (0 : Int32) (0 : Int32)) hF
  have K_4 : ∀ (nu : Nat) (x1 : Int32) (x2 : Int32), mU (8 : Int32) x2 = nu → ((0 : Int32) ≤ x2) → (0 ≤ x1 ∧ x1 ≤ x2) → (x2 ≤ 8) → (∃ kq : Nat, nu < kq ∧ (fun kq => FE (fn_X10_foods I J) (fun _ => fl_X10_foods_4_0 I J Kf0 kq x1 x2)) kq) → G m_X10_foods (rq m_X10_foods (fun r S' I' J' => S' = SHF ∧ I = I' ∧ J = J' ∧ ∃ v : Int32, r = some (.int v) ∧ fn_X10_foods I J = (v, I', J') ∧ 0 ≤ v ∧ v ≤ 8)) 0 0 4 [some (.ref 78), some (.int x1), some (.int x2)] [] SHF I J := by
    intro nu
    induction nu using Nat.strongRecOn with
    | ind nu ih_4 =>
      intro x1 x2 hmu_4 hl3 hn_4 h8_4 hF_Kf0
      obtain ⟨kf0, hkf0, hF⟩ := fe_fu (P := fun kq => FE (fn_X10_foods I J) (fun _ => fl_X10_foods_4_0 I J Kf0 kq x1 x2)) hF_Kf0
      replace hF := fe_eq hF (fl_X10_foods_4_0.eq_2 _ _ _ _ _ _)
      refine g_iload_n d_X10_foods_4 rfl ?_
      refine g_bipush (v := 8) d_X10_foods_5 kB_8 ?_
      refine g_icmp_ge d_X10_foods_7 (fun h7 => ?_) (fun h7 => ?_)
      · skip
        replace hF := fe_pos hF h7
        replace hF := fe_eq hF (congrFun (congrFun hKf0 x1) x2)
        refine g_iload_n d_X10_foods_29 rfl ?_
        exact g_ireturn d_X10_foods_30 rfl rfl rfl rfl ⟨rfl, rfl, rfl, x1, rfl, hF, by grind⟩
      · skip
        replace hF := fe_neg hF h7
        refine g_iload_n d_X10_foods_10 rfl ?_
        refine g_aload_n d_X10_foods_11 rfl ?_
        refine g_getR d_X10_foods_12 fq_RX10_7 rfl rfl ?_
        refine g_bipush (v := 12) d_X10_foods_15 kB_12 ?_
        refine g_iload_n d_X10_foods_17 rfl ?_
        refine g_iadd d_X10_foods_18 ?_
        refine g_laload (N := 320) d_X10_foods_19 rfl kT_320 (by constructor <;> grind) (by rw [tn_add (by constructor <;> grind) (by constructor <;> grind), kN_12]) ?_
        refine g_l2i d_X10_foods_20 ?_
        refine g_iadd d_X10_foods_21 ?_
        refine g_topI (fun v4 ev4 => ?_)
        replace hF := fe_lt hF ev4
        refine g_istore_n (L' := [some (.ref 78), some (.int v4), some (.int x2)]) d_X10_foods_22 (by decide) rfl ?_
        refine g_iinc (v := (x2 + (1 : Int32))) (L' := [some (.ref 78), some (.int v4), some (.int (x2 + (1 : Int32)))]) d_X10_foods_23 rfl (by rw [kI_1]) (by decide) rfl ?_
        refine g_goto d_X10_foods_26 ?_
        exact ih_4 _ (by rw [← hmu_4]; exact mu_up h7) v4 (x2 + (1 : Int32)) rfl (lo_up hl3 h7) (by rw [ev4]; have q := bi_int (x := x2) hb0 (by grind) (by grind); grind) (by grind) ⟨kf0, Nat.lt_of_lt_of_le (by rw [← hmu_4]; exact mu_up h7) hkf0, hF⟩
  exact K_4 _ (0 : Int32) (0 : Int32) rfl (Int32.le_refl _) (by grind) (by grind) ⟨_, Nat.lt_succ_self _, hF⟩
