set_option maxRecDepth 100000 in
set_option maxHeartbeats 4000000 in
theorem ct_X10_one (x : Int32) (I : Iv) (J : Jv)  : Ct m_X10_one [.int x] SHF I J (fun r S' I' J' => S' = SHF ∧ I = I' ∧ J = J' ∧ ∃ v : Int32, r = some (.int v) ∧ (v = 0 ∨ v = 1) ∧ v = (if x = 0 then 0 else 1)) := by
  refine ct_of 0 (by decide +kernel) rfl rfl ?_
  refine g_iload_n d_X10_one_0 rfl ?_
  refine g_if_eq d_X10_one_1 (fun h1 => ?_) (fun h1 => ?_)
  · skip
    refine g_iconst (v := 0) d_X10_one_8 kI_0 ?_
    exact g_ireturn d_X10_one_9 rfl rfl rfl rfl ⟨rfl, rfl, rfl, (0 : Int32), rfl, ⟨by decide, by simp [h1]⟩⟩
  · skip
    refine g_iconst (v := 1) d_X10_one_4 kI_1 ?_
    refine g_goto d_X10_one_5 ?_
    exact g_ireturn d_X10_one_9 rfl rfl rfl rfl ⟨rfl, rfl, rfl, (1 : Int32), rfl, ⟨by decide, by simp [h1]⟩⟩
set_option maxRecDepth 100000 in
set_option maxHeartbeats 4000000 in
theorem ct_X10_has (set : Int64) (k : Int32) (I : Iv) (J : Jv)  : Ct m_X10_has [.long set, .int k] SHF I J (fun r S' I' J' => S' = SHF ∧ I = I' ∧ J = J' ∧ ∃ v : Int32, r = some (.int v) ∧ (v = 0 ∨ v = 1)) := by
  refine ct_of 0 (by decide +kernel) rfl rfl ?_
  refine g_lload_n d_X10_has_0 rfl ?_
  refine g_iload_n d_X10_has_1 rfl ?_
  refine g_lshr d_X10_has_2 ?_
  refine g_lconst d_X10_has_3 kL_1 ?_
  refine g_land d_X10_has_4 ?_
  refine g_lconst d_X10_has_5 kL_1 ?_
  refine g_lcmp_ne d_X10_has_6 d_X10_has_7 (fun h7 => ?_) (fun h7 => ?_)
  · skip
    refine g_iconst (v := 0) d_X10_has_14 kI_0 ?_
    exact g_ireturn d_X10_has_15 rfl rfl rfl rfl ⟨rfl, rfl, rfl, (0 : Int32), rfl, Or.inl rfl⟩
  · skip
    refine g_iconst (v := 1) d_X10_has_10 kI_1 ?_
    refine g_goto d_X10_has_11 ?_
    exact g_ireturn d_X10_has_15 rfl rfl rfl rfl ⟨rfl, rfl, rfl, (1 : Int32), rfl, Or.inr rfl⟩
set_option maxRecDepth 100000 in
set_option maxHeartbeats 4000000 in
theorem ct_X10_ones (set : Int32) (I : Iv) (J : Jv)  : Ct m_X10_ones [.int set] SHF I J (fun r S' I' J' => S' = SHF ∧ I = I' ∧ J = J' ∧ ∃ v : Int32, r = some (.int v)) := by
  refine ct_of 2 (by decide +kernel) rfl rfl ?_
  refine g_iconst (v := 0) d_X10_ones_0 kI_0 ?_
  refine g_istore_n (L' := [some (.int set), some (.int (0 : Int32)), none]) d_X10_ones_1 (by decide) rfl ?_
  refine g_iconst (v := 0) d_X10_ones_2 kI_0 ?_
  refine g_istore_n (L' := [some (.int set), some (.int (0 : Int32)), some (.int (0 : Int32))]) d_X10_ones_3 (by decide) rfl ?_
  have K_4 : ∀ (nu : Nat) (x1 : Int32) (x2 : Int32), mU (16 : Int32) x2 = nu → ((0 : Int32) ≤ x2) → G m_X10_ones (rq m_X10_ones (fun r S' I' J' => S' = SHF ∧ I = I' ∧ J = J' ∧ ∃ v : Int32, r = some (.int v))) 0 0 4 [some (.int set), some (.int x1), some (.int x2)] [] SHF I J := by
    intro nu
    induction nu using Nat.strongRecOn with
    | ind nu ih_4 =>
      intro x1 x2 hmu_4 hl3
      refine g_iload_n d_X10_ones_4 rfl ?_
      refine g_bipush (v := 16) d_X10_ones_5 kB_16 ?_
      refine g_icmp_ge d_X10_ones_7 (fun h7 => ?_) (fun h7 => ?_)
      · skip
        refine g_iload_n d_X10_ones_24 rfl ?_
        exact g_ireturn d_X10_ones_25 rfl rfl rfl rfl ⟨rfl, rfl, rfl, x1, rfl⟩
      · skip
        refine g_iload_n d_X10_ones_10 rfl ?_
        refine g_iload_n d_X10_ones_11 rfl ?_
        refine g_iload_n d_X10_ones_12 rfl ?_
        refine g_ishr d_X10_ones_13 ?_
        refine g_iconst (v := 1) d_X10_ones_14 kI_1 ?_
        refine g_iand d_X10_ones_15 ?_
        refine g_iadd d_X10_ones_16 ?_
        refine g_topI (fun v4 ev4 => ?_)
        refine g_istore_n (L' := [some (.int set), some (.int v4), some (.int x2)]) d_X10_ones_17 (by decide) rfl ?_
        refine g_iinc (v := (x2 + (1 : Int32))) (L' := [some (.int set), some (.int v4), some (.int (x2 + (1 : Int32)))]) d_X10_ones_18 rfl (by rw [kI_1]) (by decide) rfl ?_
        refine g_goto d_X10_ones_21 ?_
        exact ih_4 _ (by rw [← hmu_4]; exact mu_up h7) v4 (x2 + (1 : Int32)) rfl (lo_up hl3 h7)
  exact K_4 _ (0 : Int32) (0 : Int32) rfl (Int32.le_refl _)
set_option maxRecDepth 100000 in
set_option maxHeartbeats 4000000 in
theorem ct_X10_couldBe (set : Int32) (I : Iv) (J : Jv)  : Ct m_X10_couldBe [.int set] SHF I J (fun r S' I' J' => S' = SHF ∧ I = I' ∧ J = J' ∧ ∃ v : Int32, r = some (.int v) ∧ (v = 0 ∨ v = 1)) := by
  refine ct_of 0 (by decide +kernel) rfl rfl ?_
  refine g_iload_n d_X10_couldBe_0 rfl ?_
  refine g_S1 d_X10_couldBe_1 cs_X10_couldBe_X10_ones lk_RX10_344 im_X10_ones (Nat.le_of_ble_eq_true rfl) ⟨rfl, rfl⟩ ⟨Nat.zero_le _, Nat.zero_le _⟩ (ct_X10_ones set I J ) (fun r1 S1 Ic2 Jc3 q1_0 => ?_)
  obtain ⟨rfl, rfl, rfl, r5, rfl⟩ := q1_0
  refine g_st (st' := [.int r5]) rfl ?_
  refine g_iconst (v := 3) d_X10_couldBe_4 kI_3 ?_
  refine g_icmp_ge d_X10_couldBe_5 (fun h5 => ?_) (fun h5 => ?_)
  · skip
    refine g_iconst (v := 0) d_X10_couldBe_12 kI_0 ?_
    exact g_ireturn d_X10_couldBe_13 rfl rfl rfl rfl ⟨rfl, rfl, rfl, (0 : Int32), rfl, Or.inl rfl⟩
  · skip
    refine g_iconst (v := 1) d_X10_couldBe_8 kI_1 ?_
    refine g_goto d_X10_couldBe_9 ?_
    exact g_ireturn d_X10_couldBe_13 rfl rfl rfl rfl ⟨rfl, rfl, rfl, (1 : Int32), rfl, Or.inr rfl⟩
set_option maxRecDepth 100000 in
set_option maxHeartbeats 4000000 in
theorem ct_X10_untold (x : Int32) (I : Iv) (J : Jv)  : Ct m_X10_untold [.int x] SHF I J (fun r S' I' J' => S' = SHF ∧ I = I' ∧ J = J' ∧ ∃ v : Int32, r = some (.int v) ∧ (x = 8 → v = 1) ∧ (x = 2 → v = 3)) := by
  refine ct_of 0 (by decide +kernel) rfl rfl ?_
  refine g_iload_n d_X10_untold_0 rfl ?_
  rcases sw_split x (0) (14) with h1 | h1
  · skip
    refine g_swOut d_X10_untold_1 h1 ?_
    refine g_iconst (v := -1) d_X10_untold_112 kI_m1 ?_
    exact g_ireturn d_X10_untold_113 rfl rfl rfl rfl ⟨rfl, rfl, rfl, (-1 : Int32), rfl, (by constructor <;> intro hh <;> subst hh <;> first | rfl | (exfalso; revert hz; decide) | (exfalso; revert h1; decide))⟩
  · skip
    have hz : ∃ k : Nat, k < 15 ∧ (x).toInt = (0 : Int) + (k : Int) := by obtain ⟨k, h1, h2⟩ := sw_k h1; exact ⟨k, by omega, h2⟩
    obtain ⟨k, hk, hz⟩ := hz
    match k, hk, hz with
    | 0, _, hz =>
      refine g_swIn d_X10_untold_1_0 (by rw [hz]; decide) (by rw [hz]; decide) (by rw [hz]; rfl) ?_
      refine g_sipush (v := 900) d_X10_untold_76 kS_900 ?_
      exact g_ireturn d_X10_untold_79 rfl rfl rfl rfl ⟨rfl, rfl, rfl, (900 : Int32), rfl, (by constructor <;> intro hh <;> subst hh <;> first | rfl | (exfalso; revert hz; decide) | (exfalso; revert h1; decide))⟩
    | 1, _, hz =>
      refine g_swIn d_X10_untold_1_1 (by rw [hz]; decide) (by rw [hz]; decide) (by rw [hz]; rfl) ?_
      refine g_iconst (v := 4) d_X10_untold_80 kI_4 ?_
      exact g_ireturn d_X10_untold_81 rfl rfl rfl rfl ⟨rfl, rfl, rfl, (4 : Int32), rfl, (by constructor <;> intro hh <;> subst hh <;> first | rfl | (exfalso; revert hz; decide) | (exfalso; revert h1; decide))⟩
    | 2, _, hz =>
      refine g_swIn d_X10_untold_1_2 (by rw [hz]; decide) (by rw [hz]; decide) (by rw [hz]; rfl) ?_
      refine g_iconst (v := 3) d_X10_untold_82 kI_3 ?_
      exact g_ireturn d_X10_untold_83 rfl rfl rfl rfl ⟨rfl, rfl, rfl, (3 : Int32), rfl, (by constructor <;> intro hh <;> subst hh <;> first | rfl | (exfalso; revert hz; decide) | (exfalso; revert h1; decide))⟩
    | 3, _, hz =>
      refine g_swIn d_X10_untold_1_3 (by rw [hz]; decide) (by rw [hz]; decide) (by rw [hz]; rfl) ?_
      refine g_bipush (v := 40) d_X10_untold_84 kB_40 ?_
      exact g_ireturn d_X10_untold_86 rfl rfl rfl rfl ⟨rfl, rfl, rfl, (40 : Int32), rfl, (by constructor <;> intro hh <;> subst hh <;> first | rfl | (exfalso; revert hz; decide) | (exfalso; revert h1; decide))⟩
    | 4, _, hz =>
      refine g_swIn d_X10_untold_1_4 (by rw [hz]; decide) (by rw [hz]; decide) (by rw [hz]; rfl) ?_
      refine g_bipush (v := 60) d_X10_untold_87 kB_60 ?_
      exact g_ireturn d_X10_untold_89 rfl rfl rfl rfl ⟨rfl, rfl, rfl, (60 : Int32), rfl, (by constructor <;> intro hh <;> subst hh <;> first | rfl | (exfalso; revert hz; decide) | (exfalso; revert h1; decide))⟩
    | 5, _, hz =>
      refine g_swIn d_X10_untold_1_5 (by rw [hz]; decide) (by rw [hz]; decide) (by rw [hz]; rfl) ?_
      refine g_bipush (v := 10) d_X10_untold_90 kB_10 ?_
      exact g_ireturn d_X10_untold_92 rfl rfl rfl rfl ⟨rfl, rfl, rfl, (10 : Int32), rfl, (by constructor <;> intro hh <;> subst hh <;> first | rfl | (exfalso; revert hz; decide) | (exfalso; revert h1; decide))⟩
    | 6, _, hz =>
      refine g_swIn d_X10_untold_1_6 (by rw [hz]; decide) (by rw [hz]; decide) (by rw [hz]; rfl) ?_
      refine g_bipush (v := 70) d_X10_untold_93 kB_70 ?_
      exact g_ireturn d_X10_untold_95 rfl rfl rfl rfl ⟨rfl, rfl, rfl, (70 : Int32), rfl, (by constructor <;> intro hh <;> subst hh <;> first | rfl | (exfalso; revert hz; decide) | (exfalso; revert h1; decide))⟩
    | 7, _, hz =>
      refine g_swIn d_X10_untold_1_7 (by rw [hz]; decide) (by rw [hz]; decide) (by rw [hz]; rfl) ?_
      refine g_bipush (v := 30) d_X10_untold_96 kB_30 ?_
      exact g_ireturn d_X10_untold_98 rfl rfl rfl rfl ⟨rfl, rfl, rfl, (30 : Int32), rfl, (by constructor <;> intro hh <;> subst hh <;> first | rfl | (exfalso; revert hz; decide) | (exfalso; revert h1; decide))⟩
    | 8, _, hz =>
      refine g_swIn d_X10_untold_1_8 (by rw [hz]; decide) (by rw [hz]; decide) (by rw [hz]; rfl) ?_
      refine g_iconst (v := 1) d_X10_untold_99 kI_1 ?_
      exact g_ireturn d_X10_untold_100 rfl rfl rfl rfl ⟨rfl, rfl, rfl, (1 : Int32), rfl, (by constructor <;> intro hh <;> subst hh <;> first | rfl | (exfalso; revert hz; decide) | (exfalso; revert h1; decide))⟩
    | 9, _, hz =>
      refine g_swIn d_X10_untold_1_9 (by rw [hz]; decide) (by rw [hz]; decide) (by rw [hz]; rfl) ?_
      refine g_bipush (v := 10) d_X10_untold_101 kB_10 ?_
      exact g_ireturn d_X10_untold_103 rfl rfl rfl rfl ⟨rfl, rfl, rfl, (10 : Int32), rfl, (by constructor <;> intro hh <;> subst hh <;> first | rfl | (exfalso; revert hz; decide) | (exfalso; revert h1; decide))⟩
    | 10, _, hz =>
      refine g_swIn d_X10_untold_1_10 (by rw [hz]; decide) (by rw [hz]; decide) (by rw [hz]; rfl) ?_
      refine g_iconst (v := 4) d_X10_untold_104 kI_4 ?_
      exact g_ireturn d_X10_untold_105 rfl rfl rfl rfl ⟨rfl, rfl, rfl, (4 : Int32), rfl, (by constructor <;> intro hh <;> subst hh <;> first | rfl | (exfalso; revert hz; decide) | (exfalso; revert h1; decide))⟩
    | 11, _, hz =>
      refine g_swIn d_X10_untold_1_11 (by rw [hz]; decide) (by rw [hz]; decide) (by rw [hz]; rfl) ?_
      refine g_sipush (v := 200) d_X10_untold_106 kS_200 ?_
      exact g_ireturn d_X10_untold_109 rfl rfl rfl rfl ⟨rfl, rfl, rfl, (200 : Int32), rfl, (by constructor <;> intro hh <;> subst hh <;> first | rfl | (exfalso; revert hz; decide) | (exfalso; revert h1; decide))⟩
    | 12, _, hz =>
      refine g_swIn d_X10_untold_1_12 (by rw [hz]; decide) (by rw [hz]; decide) (by rw [hz]; rfl) ?_
      refine g_iconst (v := -1) d_X10_untold_112 kI_m1 ?_
      exact g_ireturn d_X10_untold_113 rfl rfl rfl rfl ⟨rfl, rfl, rfl, (-1 : Int32), rfl, (by constructor <;> intro hh <;> subst hh <;> first | rfl | (exfalso; revert hz; decide) | (exfalso; revert h1; decide))⟩
    | 13, _, hz =>
      refine g_swIn d_X10_untold_1_13 (by rw [hz]; decide) (by rw [hz]; decide) (by rw [hz]; rfl) ?_
      refine g_iconst (v := -1) d_X10_untold_112 kI_m1 ?_
      exact g_ireturn d_X10_untold_113 rfl rfl rfl rfl ⟨rfl, rfl, rfl, (-1 : Int32), rfl, (by constructor <;> intro hh <;> subst hh <;> first | rfl | (exfalso; revert hz; decide) | (exfalso; revert h1; decide))⟩
    | 14, _, hz =>
      refine g_swIn d_X10_untold_1_14 (by rw [hz]; decide) (by rw [hz]; decide) (by rw [hz]; rfl) ?_
      refine g_iconst (v := 0) d_X10_untold_110 kI_0 ?_
      exact g_ireturn d_X10_untold_111 rfl rfl rfl rfl ⟨rfl, rfl, rfl, (0 : Int32), rfl, (by constructor <;> intro hh <;> subst hh <;> first | rfl | (exfalso; revert hz; decide) | (exfalso; revert h1; decide))⟩
    | k + 15, hk, _ => exact absurd hk (by omega)
set_option maxRecDepth 100000 in
set_option maxHeartbeats 4000000 in
theorem ct_X10_leastOf (x : Int32) (I : Iv) (J : Jv)  : Ct m_X10_leastOf [.int x] SHF I J (fun r S' I' J' => S' = SHF ∧ I = I' ∧ J = J' ∧ ∃ v : Int32, r = some (.int v) ∧ (x = 8 → v = 0) ∧ (x = 2 → v = 0)) := by
  refine ct_of 0 (by decide +kernel) rfl rfl ?_
  refine g_iload_n d_X10_leastOf_0 rfl ?_
  refine g_if_eq d_X10_leastOf_1 (fun h1 => ?_) (fun h1 => ?_)
  · skip
    refine g_iconst (v := 1) d_X10_leastOf_15 kI_1 ?_
    refine g_goto d_X10_leastOf_16 ?_
    exact g_ireturn d_X10_leastOf_20 rfl rfl rfl rfl ⟨rfl, rfl, rfl, (1 : Int32), rfl, by grind⟩
  · skip
    refine g_iload_n d_X10_leastOf_4 rfl ?_
    refine g_iconst (v := 5) d_X10_leastOf_5 kI_5 ?_
    refine g_icmp_eq d_X10_leastOf_6 (fun h6 => ?_) (fun h6 => ?_)
    · skip
      refine g_iconst (v := 1) d_X10_leastOf_15 kI_1 ?_
      refine g_goto d_X10_leastOf_16 ?_
      exact g_ireturn d_X10_leastOf_20 rfl rfl rfl rfl ⟨rfl, rfl, rfl, (1 : Int32), rfl, by grind⟩
    · skip
      refine g_iload_n d_X10_leastOf_9 rfl ?_
      refine g_bipush (v := 9) d_X10_leastOf_10 kB_9 ?_
      refine g_icmp_ne d_X10_leastOf_12 (fun h12 => ?_) (fun h12 => ?_)
      · skip
        refine g_iconst (v := 0) d_X10_leastOf_19 kI_0 ?_
        exact g_ireturn d_X10_leastOf_20 rfl rfl rfl rfl ⟨rfl, rfl, rfl, (0 : Int32), rfl, by grind⟩
      · skip
        refine g_iconst (v := 1) d_X10_leastOf_15 kI_1 ?_
        refine g_goto d_X10_leastOf_16 ?_
        exact g_ireturn d_X10_leastOf_20 rfl rfl rfl rfl ⟨rfl, rfl, rfl, (1 : Int32), rfl, by grind⟩
set_option maxRecDepth 100000 in
set_option maxHeartbeats 4000000 in
theorem ct_X10_mostOf (x : Int32) (I : Iv) (J : Jv)  : Ct m_X10_mostOf [.int x] SHF I J (fun r S' I' J' => S' = SHF ∧ I = I' ∧ J = J' ∧ ∃ v : Int32, r = some (.int v) ∧ (x = 8 → v = 2) ∧ (x = 2 → v = 99)) := by
  refine ct_of 0 (by decide +kernel) rfl rfl ?_
  refine g_iload_n d_X10_mostOf_0 rfl ?_
  refine g_if_ne d_X10_mostOf_1 (fun h1 => ?_) (fun h1 => ?_)
  · skip
    refine g_iload_n d_X10_mostOf_10 rfl ?_
    refine g_bipush (v := 6) d_X10_mostOf_11 kB_6 ?_
    refine g_icmp_eq d_X10_mostOf_13 (fun h13 => ?_) (fun h13 => ?_)
    · skip
      refine g_sipush (v := 200) d_X10_mostOf_22 kS_200 ?_
      refine g_goto d_X10_mostOf_25 ?_
      exact g_ireturn d_X10_mostOf_52 rfl rfl rfl rfl ⟨rfl, rfl, rfl, (200 : Int32), rfl, by grind⟩
    · skip
      refine g_iload_n d_X10_mostOf_16 rfl ?_
      refine g_bipush (v := 7) d_X10_mostOf_17 kB_7 ?_
      refine g_icmp_ne d_X10_mostOf_19 (fun h19 => ?_) (fun h19 => ?_)
      · skip
        refine g_iload_n d_X10_mostOf_28 rfl ?_
        refine g_bipush (v := 8) d_X10_mostOf_29 kB_8 ?_
        refine g_icmp_ne d_X10_mostOf_31 (fun h31 => ?_) (fun h31 => ?_)
        · skip
          refine g_iload_n d_X10_mostOf_38 rfl ?_
          refine g_bipush (v := 11) d_X10_mostOf_39 kB_11 ?_
          refine g_icmp_ne d_X10_mostOf_41 (fun h41 => ?_) (fun h41 => ?_)
          · skip
            refine g_bipush (v := 99) d_X10_mostOf_50 kB_99 ?_
            exact g_ireturn d_X10_mostOf_52 rfl rfl rfl rfl ⟨rfl, rfl, rfl, (99 : Int32), rfl, by grind⟩
          · skip
            refine g_sipush (v := 400) d_X10_mostOf_44 kS_400 ?_
            refine g_goto d_X10_mostOf_47 ?_
            exact g_ireturn d_X10_mostOf_52 rfl rfl rfl rfl ⟨rfl, rfl, rfl, (400 : Int32), rfl, by grind⟩
        · skip
          refine g_iconst (v := 2) d_X10_mostOf_34 kI_2 ?_
          refine g_goto d_X10_mostOf_35 ?_
          exact g_ireturn d_X10_mostOf_52 rfl rfl rfl rfl ⟨rfl, rfl, rfl, (2 : Int32), rfl, by grind⟩
      · skip
        refine g_sipush (v := 200) d_X10_mostOf_22 kS_200 ?_
        refine g_goto d_X10_mostOf_25 ?_
        exact g_ireturn d_X10_mostOf_52 rfl rfl rfl rfl ⟨rfl, rfl, rfl, (200 : Int32), rfl, by grind⟩
  · skip
    refine g_sipush (v := 999) d_X10_mostOf_4 kS_999 ?_
    refine g_goto d_X10_mostOf_7 ?_
    exact g_ireturn d_X10_mostOf_52 rfl rfl rfl rfl ⟨rfl, rfl, rfl, (999 : Int32), rfl, by grind⟩
set_option maxRecDepth 100000 in
set_option maxHeartbeats 4000000 in
theorem ct_X10_isSet (x : Int32) (I : Iv) (J : Jv)  : Ct m_X10_isSet [.int x] SHF I J (fun r S' I' J' => S' = SHF ∧ I = I' ∧ J = J' ∧ ∃ v : Int32, r = some (.int v) ∧ (v = 0 ∨ v = 1) ∧ (v = 1 → 0 ≤ x ∧ x ≤ 127) ∧ (v = 0 → ¬ (0 ≤ x ∧ x ≤ 127))) := by
  refine ct_of 0 (by decide +kernel) rfl rfl ?_
  refine g_iload_n d_X10_isSet_0 rfl ?_
  refine g_i2l d_X10_isSet_1 ?_
  refine g_lconst d_X10_isSet_2 kL_0 ?_
  refine g_ldc2 (v := 127) d_X10_isSet_3 tw_1295 ?_
  refine g_S3 d_X10_isSet_6 cs_X10_isSet_X10_in lk_RX10_96 im_X10_in (Nat.le_of_ble_eq_true rfl) ⟨rfl, rfl⟩ ⟨Nat.zero_le _, Nat.zero_le _⟩ (ct_X10_inL x (0 : Int64) (127 : Int64) (0 : Int32) (127 : Int32) (by decide) (by decide) I J) (fun r6 S6 Ic2 Jc3 q6_0 => ?_)
  obtain ⟨rfl, rfl, rfl, r5, rfl, hz6, hr6_5⟩ := q6_0
  refine g_st (st' := [.int r5]) rfl ?_
  exact g_ireturn d_X10_isSet_9 rfl rfl rfl (nar_z (by assumption)) ⟨rfl, rfl, rfl, r5, rfl, by assumption, by grind⟩
set_option maxRecDepth 100000 in
set_option maxHeartbeats 4000000 in
theorem ct_X10_isTrouble (x : Int32) (I : Iv) (J : Jv)  : Ct m_X10_isTrouble [.int x] SHF I J (fun r S' I' J' => S' = SHF ∧ I = I' ∧ J = J' ∧ ∃ v : Int32, r = some (.int v) ∧ (v = 0 ∨ v = 1) ∧ (v = 1 → 0 ≤ x ∧ x ≤ 6) ∧ (v = 0 → ¬ (0 ≤ x ∧ x ≤ 6))) := by
  refine ct_of 0 (by decide +kernel) rfl rfl ?_
  refine g_iload_n d_X10_isTrouble_0 rfl ?_
  refine g_i2l d_X10_isTrouble_1 ?_
  refine g_lconst d_X10_isTrouble_2 kL_0 ?_
  refine g_ldc2 (v := 6) d_X10_isTrouble_3 tw_1454 ?_
  refine g_S3 d_X10_isTrouble_6 cs_X10_isTrouble_X10_in lk_RX10_96 im_X10_in (Nat.le_of_ble_eq_true rfl) ⟨rfl, rfl⟩ ⟨Nat.zero_le _, Nat.zero_le _⟩ (ct_X10_inL x (0 : Int64) (6 : Int64) (0 : Int32) (6 : Int32) (by decide) (by decide) I J) (fun r6 S6 Ic2 Jc3 q6_0 => ?_)
  obtain ⟨rfl, rfl, rfl, r5, rfl, hz6, hr6_5⟩ := q6_0
  refine g_st (st' := [.int r5]) rfl ?_
  exact g_ireturn d_X10_isTrouble_9 rfl rfl rfl (nar_z (by assumption)) ⟨rfl, rfl, rfl, r5, rfl, by assumption, by grind⟩
set_option maxRecDepth 100000 in
set_option maxHeartbeats 4000000 in
theorem ct_X10_isSign (x : Int32) (I : Iv) (J : Jv)  : Ct m_X10_isSign [.int x] SHF I J (fun r S' I' J' => S' = SHF ∧ I = I' ∧ J = J' ∧ ∃ v : Int32, r = some (.int v) ∧ (v = 0 ∨ v = 1) ∧ (v = 1 → 0 ≤ x ∧ x ≤ 6) ∧ (v = 0 → ¬ (0 ≤ x ∧ x ≤ 6))) := by
  refine ct_of 0 (by decide +kernel) rfl rfl ?_
  refine g_iload_n d_X10_isSign_0 rfl ?_
  refine g_i2l d_X10_isSign_1 ?_
  refine g_lconst d_X10_isSign_2 kL_0 ?_
  refine g_ldc2 (v := 6) d_X10_isSign_3 tw_1454 ?_
  refine g_S3 d_X10_isSign_6 cs_X10_isSign_X10_in lk_RX10_96 im_X10_in (Nat.le_of_ble_eq_true rfl) ⟨rfl, rfl⟩ ⟨Nat.zero_le _, Nat.zero_le _⟩ (ct_X10_inL x (0 : Int64) (6 : Int64) (0 : Int32) (6 : Int32) (by decide) (by decide) I J) (fun r6 S6 Ic2 Jc3 q6_0 => ?_)
  obtain ⟨rfl, rfl, rfl, r5, rfl, hz6, hr6_5⟩ := q6_0
  refine g_st (st' := [.int r5]) rfl ?_
  exact g_ireturn d_X10_isSign_9 rfl rfl rfl (nar_z (by assumption)) ⟨rfl, rfl, rfl, r5, rfl, by assumption, by grind⟩
set_option maxRecDepth 100000 in
set_option maxHeartbeats 4000000 in
theorem ct_X10_isShelf (x : Int32) (I : Iv) (J : Jv)  : Ct m_X10_isShelf [.int x] SHF I J (fun r S' I' J' => S' = SHF ∧ I = I' ∧ J = J' ∧ ∃ v : Int32, r = some (.int v) ∧ (v = 0 ∨ v = 1) ∧ (v = 1 → 0 ≤ x ∧ x ≤ 2) ∧ (v = 0 → ¬ (0 ≤ x ∧ x ≤ 2))) := by
  refine ct_of 0 (by decide +kernel) rfl rfl ?_
  refine g_iload_n d_X10_isShelf_0 rfl ?_
  refine g_i2l d_X10_isShelf_1 ?_
  refine g_lconst d_X10_isShelf_2 kL_0 ?_
  refine g_ldc2 (v := 2) d_X10_isShelf_3 tw_1319 ?_
  refine g_S3 d_X10_isShelf_6 cs_X10_isShelf_X10_in lk_RX10_96 im_X10_in (Nat.le_of_ble_eq_true rfl) ⟨rfl, rfl⟩ ⟨Nat.zero_le _, Nat.zero_le _⟩ (ct_X10_inL x (0 : Int64) (2 : Int64) (0 : Int32) (2 : Int32) (by decide) (by decide) I J) (fun r6 S6 Ic2 Jc3 q6_0 => ?_)
  obtain ⟨rfl, rfl, rfl, r5, rfl, hz6, hr6_5⟩ := q6_0
  refine g_st (st' := [.int r5]) rfl ?_
  exact g_ireturn d_X10_isShelf_9 rfl rfl rfl (nar_z (by assumption)) ⟨rfl, rfl, rfl, r5, rfl, by assumption, by grind⟩
set_option maxRecDepth 100000 in
set_option maxHeartbeats 4000000 in
theorem ct_X10_isDegree (x : Int32) (I : Iv) (J : Jv)  : Ct m_X10_isDegree [.int x] SHF I J (fun r S' I' J' => S' = SHF ∧ I = I' ∧ J = J' ∧ ∃ v : Int32, r = some (.int v) ∧ (v = 0 ∨ v = 1) ∧ (v = 1 → -3000 ≤ x ∧ x ≤ 9000) ∧ (v = 0 → ¬ (-3000 ≤ x ∧ x ≤ 9000))) := by
  refine ct_of 0 (by decide +kernel) rfl rfl ?_
  refine g_iload_n d_X10_isDegree_0 rfl ?_
  refine g_i2l d_X10_isDegree_1 ?_
  refine g_ldc2 (v := -3000) d_X10_isDegree_2 tw_1323 ?_
  refine g_ldc2 (v := 9000) d_X10_isDegree_5 tw_1324 ?_
  refine g_S3 d_X10_isDegree_8 cs_X10_isDegree_X10_in lk_RX10_96 im_X10_in (Nat.le_of_ble_eq_true rfl) ⟨rfl, rfl⟩ ⟨Nat.zero_le _, Nat.zero_le _⟩ (ct_X10_inL x (-3000 : Int64) (9000 : Int64) (-3000 : Int32) (9000 : Int32) (by decide) (by decide) I J) (fun r8 S8 Ic2 Jc3 q8_0 => ?_)
  obtain ⟨rfl, rfl, rfl, r5, rfl, hz8, hr8_5⟩ := q8_0
  refine g_st (st' := [.int r5]) rfl ?_
  exact g_ireturn d_X10_isDegree_11 rfl rfl rfl (nar_z (by assumption)) ⟨rfl, rfl, rfl, r5, rfl, by assumption, by grind⟩
set_option maxRecDepth 100000 in
set_option maxHeartbeats 4000000 in
theorem ct_X10_areDays (x : Int32) (I : Iv) (J : Jv)  : Ct m_X10_areDays [.int x] SHF I J (fun r S' I' J' => S' = SHF ∧ I = I' ∧ J = J' ∧ ∃ v : Int32, r = some (.int v) ∧ (v = 0 ∨ v = 1) ∧ (v = 1 → 1 ≤ x ∧ x ≤ 6) ∧ (v = 0 → ¬ (1 ≤ x ∧ x ≤ 6))) := by
  refine ct_of 0 (by decide +kernel) rfl rfl ?_
  refine g_iload_n d_X10_areDays_0 rfl ?_
  refine g_i2l d_X10_areDays_1 ?_
  refine g_lconst d_X10_areDays_2 kL_1 ?_
  refine g_ldc2 (v := 6) d_X10_areDays_3 tw_1454 ?_
  refine g_S3 d_X10_areDays_6 cs_X10_areDays_X10_in lk_RX10_96 im_X10_in (Nat.le_of_ble_eq_true rfl) ⟨rfl, rfl⟩ ⟨Nat.zero_le _, Nat.zero_le _⟩ (ct_X10_inL x (1 : Int64) (6 : Int64) (1 : Int32) (6 : Int32) (by decide) (by decide) I J) (fun r6 S6 Ic2 Jc3 q6_0 => ?_)
  obtain ⟨rfl, rfl, rfl, r5, rfl, hz6, hr6_5⟩ := q6_0
  refine g_st (st' := [.int r5]) rfl ?_
  exact g_ireturn d_X10_areDays_9 rfl rfl rfl (nar_z (by assumption)) ⟨rfl, rfl, rfl, r5, rfl, by assumption, by grind⟩
set_option maxRecDepth 100000 in
set_option maxHeartbeats 4000000 in
theorem ct_X10_isHour (tick : Int64) (from_ : Int32) (till : Int32) (I : Iv) (J : Jv)  : Ct m_X10_isHour [.long tick, .int from_, .int till] SHF I J (fun r S' I' J' => S' = SHF ∧ I = I' ∧ J = J' ∧ ∃ v : Int32, r = some (.int v) ∧ (v = 0 ∨ v = 1)) := by
  refine ct_of 2 (by decide +kernel) rfl rfl ?_
  refine g_lload_n d_X10_isHour_0 rfl ?_
  refine g_ldc2 (v := 288) d_X10_isHour_1 tw_1370 ?_
  refine g_lrem d_X10_isHour_4 (by decide) ?_
  refine g_ldc2 (v := 12) d_X10_isHour_5 tw_1379 ?_
  refine g_ldiv d_X10_isHour_8 (by decide) ?_
  refine g_topJ (fun v1 ev1 => ?_)
  refine g_lstore (L' := [some (.long tick), none, some (.int from_), some (.int till), some (.long v1), none]) d_X10_isHour_9 (by decide) rfl ?_
  refine g_iload_n d_X10_isHour_11 rfl ?_
  refine g_if_lt d_X10_isHour_12 (fun h12 => ?_) (fun h12 => ?_)
  · skip
    refine g_iconst (v := 0) d_X10_isHour_35 kI_0 ?_
    exact g_ireturn d_X10_isHour_36 rfl rfl rfl rfl ⟨rfl, rfl, rfl, (0 : Int32), rfl, Or.inl rfl⟩
  · skip
    refine g_iload_n d_X10_isHour_15 rfl ?_
    refine g_i2l d_X10_isHour_16 ?_
    refine g_lload d_X10_isHour_17 rfl ?_
    refine g_lcmp_gt d_X10_isHour_19 d_X10_isHour_20 (fun h20 => ?_) (fun h20 => ?_)
    · skip
      refine g_iconst (v := 0) d_X10_isHour_35 kI_0 ?_
      exact g_ireturn d_X10_isHour_36 rfl rfl rfl rfl ⟨rfl, rfl, rfl, (0 : Int32), rfl, Or.inl rfl⟩
    · skip
      refine g_lload d_X10_isHour_23 rfl ?_
      refine g_iload_n d_X10_isHour_25 rfl ?_
      refine g_i2l d_X10_isHour_26 ?_
      refine g_lcmp_ge d_X10_isHour_27 d_X10_isHour_28 (fun h28 => ?_) (fun h28 => ?_)
      · skip
        refine g_iconst (v := 0) d_X10_isHour_35 kI_0 ?_
        exact g_ireturn d_X10_isHour_36 rfl rfl rfl rfl ⟨rfl, rfl, rfl, (0 : Int32), rfl, Or.inl rfl⟩
      · skip
        refine g_iconst (v := 1) d_X10_isHour_31 kI_1 ?_
        refine g_goto d_X10_isHour_32 ?_
        exact g_ireturn d_X10_isHour_36 rfl rfl rfl rfl ⟨rfl, rfl, rfl, (1 : Int32), rfl, Or.inr rfl⟩
set_option maxRecDepth 100000 in
set_option maxHeartbeats 4000000 in
theorem ct_X10_isOpen (tick : Int64) (I : Iv) (J : Jv) (hop2 : 0 ≤ I 78 5 ∧ I 78 5 ≤ 12) : Ct m_X10_isOpen [.ref 78, .long tick] SHF I J (fun r S' I' J' => S' = SHF ∧ I = I' ∧ J = J' ∧ ∃ v : Int32, r = some (.int v) ∧ (v = 0 ∨ v = 1)) := by
  refine ct_of 4 (by decide +kernel) rfl rfl ?_
  refine g_lload_n d_X10_isOpen_0 rfl ?_
  refine g_ldc2 (v := 288) d_X10_isOpen_1 tw_1370 ?_
  refine g_lrem d_X10_isOpen_4 (by decide) ?_
  refine g_topJ (fun v1 ev1 => ?_)
  refine g_lstore_n (L' := [some (.ref 78), some (.long tick), none, some (.long v1), none, none, none]) d_X10_isOpen_5 (by decide) rfl ?_
  refine g_iconst (v := 0) d_X10_isOpen_6 kI_0 ?_
  refine g_istore (L' := [some (.ref 78), some (.long tick), none, some (.long v1), none, some (.int (0 : Int32)), none]) d_X10_isOpen_7 (by decide) rfl ?_
  refine g_iconst (v := 0) d_X10_isOpen_9 kI_0 ?_
  refine g_istore (L' := [some (.ref 78), some (.long tick), none, some (.long v1), none, some (.int (0 : Int32)), some (.int (0 : Int32))]) d_X10_isOpen_10 (by decide) rfl ?_
  have K_12 : ∀ (nu : Nat) (x2 : Int32) (x3 : Int32), mU (I 78 5) x3 = nu → ((0 : Int32) ≤ x3) → (x2 = 0 ∨ x2 = 1) → G m_X10_isOpen (rq m_X10_isOpen (fun r S' I' J' => S' = SHF ∧ I = I' ∧ J = J' ∧ ∃ v : Int32, r = some (.int v) ∧ (v = 0 ∨ v = 1))) 0 0 12 [some (.ref 78), some (.long tick), none, some (.long v1), none, some (.int x2), some (.int x3)] [] SHF I J := by
    intro nu
    induction nu using Nat.strongRecOn with
    | ind nu ih_12 =>
      intro x2 x3 hmu_12 hl4 hb_12
      refine g_iload d_X10_isOpen_12 rfl ?_
      refine g_aload_n d_X10_isOpen_14 rfl ?_
      refine g_getI d_X10_isOpen_15 fq_RX10_175 rfl rfl ?_
      refine g_icmp_ge d_X10_isOpen_18 (fun h18 => ?_) (fun h18 => ?_)
      · skip
        refine g_iload d_X10_isOpen_72 rfl ?_
        exact g_ireturn d_X10_isOpen_74 rfl rfl rfl (nar_z (by assumption)) ⟨rfl, rfl, rfl, x2, rfl, by assumption⟩
      · skip
        refine g_iload d_X10_isOpen_21 rfl ?_
        refine g_if_ne d_X10_isOpen_23 (fun h23 => ?_) (fun h23 => ?_)
        · skip
          refine g_iconst (v := 1) d_X10_isOpen_59 kI_1 ?_
          refine g_goto d_X10_isOpen_60 ?_
          refine g_istore (L' := [some (.ref 78), some (.long tick), none, some (.long v1), none, some (.int (1 : Int32)), some (.int x3)]) d_X10_isOpen_64 (by decide) rfl ?_
          refine g_iinc (v := (x3 + (1 : Int32))) (L' := [some (.ref 78), some (.long tick), none, some (.long v1), none, some (.int (1 : Int32)), some (.int (x3 + (1 : Int32)))]) d_X10_isOpen_66 rfl (by rw [kI_1]) (by decide) rfl ?_
          refine g_goto d_X10_isOpen_69 ?_
          exact ih_12 _ (by rw [← hmu_12]; exact mu_up h18) (1 : Int32) (x3 + (1 : Int32)) rfl (lo_up hl4 h18) (by grind)
        · skip
          refine g_lload_n d_X10_isOpen_26 rfl ?_
          refine g_aload_n d_X10_isOpen_27 rfl ?_
          refine g_getR d_X10_isOpen_28 fq_RX10_24 rfl rfl ?_
          refine g_iload d_X10_isOpen_31 rfl ?_
          refine g_iaload (N := 12) d_X10_isOpen_33 rfl kT_12 (by constructor <;> grind) rfl ?_
          refine g_i2l d_X10_isOpen_34 ?_
          refine g_aload_n d_X10_isOpen_35 rfl ?_
          refine g_getR d_X10_isOpen_36 fq_RX10_24 rfl rfl ?_
          refine g_iload d_X10_isOpen_39 rfl ?_
          refine g_iaload (N := 12) d_X10_isOpen_41 rfl kT_12 (by constructor <;> grind) rfl ?_
          refine g_aload_n d_X10_isOpen_42 rfl ?_
          refine g_getR d_X10_isOpen_43 fq_RX10_27 rfl rfl ?_
          refine g_iload d_X10_isOpen_46 rfl ?_
          refine g_iaload (N := 12) d_X10_isOpen_48 rfl kT_12 (by constructor <;> grind) rfl ?_
          refine g_iadd d_X10_isOpen_49 ?_
          refine g_iconst (v := 1) d_X10_isOpen_50 kI_1 ?_
          refine g_isub d_X10_isOpen_51 ?_
          refine g_i2l d_X10_isOpen_52 ?_
          refine g_S3 d_X10_isOpen_53 cs_X10_isOpen_X10_in lk_RX10_96 im_X10_in (Nat.le_of_ble_eq_true rfl) ⟨rfl, rfl⟩ ⟨Nat.zero_le _, Nat.zero_le _⟩ (ct_X10_in v1 (Int32.toInt64 (I 83 x3.toNatClampNeg)) (Int32.toInt64 (((I 83 x3.toNatClampNeg) + (I 84 x3.toNatClampNeg)) - (1 : Int32))) I J) (fun r53 S53 Ic6 Jc7 q53_4 => ?_)
          obtain ⟨rfl, rfl, rfl, r9, rfl, hz53, hr53_9⟩ := q53_4
          refine g_st (st' := [.int r9]) rfl ?_
          refine g_if_eq d_X10_isOpen_56 (fun h56 => ?_) (fun h56 => ?_)
          · skip
            refine g_iconst (v := 0) d_X10_isOpen_63 kI_0 ?_
            refine g_istore (L' := [some (.ref 78), some (.long tick), none, some (.long v1), none, some (.int (0 : Int32)), some (.int x3)]) d_X10_isOpen_64 (by decide) rfl ?_
            refine g_iinc (v := (x3 + (1 : Int32))) (L' := [some (.ref 78), some (.long tick), none, some (.long v1), none, some (.int (0 : Int32)), some (.int (x3 + (1 : Int32)))]) d_X10_isOpen_66 rfl (by rw [kI_1]) (by decide) rfl ?_
            refine g_goto d_X10_isOpen_69 ?_
            exact ih_12 _ (by rw [← hmu_12]; exact mu_up h18) (0 : Int32) (x3 + (1 : Int32)) rfl (lo_up hl4 h18) (by grind)
          · skip
            refine g_iconst (v := 1) d_X10_isOpen_59 kI_1 ?_
            refine g_goto d_X10_isOpen_60 ?_
            refine g_istore (L' := [some (.ref 78), some (.long tick), none, some (.long v1), none, some (.int (1 : Int32)), some (.int x3)]) d_X10_isOpen_64 (by decide) rfl ?_
            refine g_iinc (v := (x3 + (1 : Int32))) (L' := [some (.ref 78), some (.long tick), none, some (.long v1), none, some (.int (1 : Int32)), some (.int (x3 + (1 : Int32)))]) d_X10_isOpen_66 rfl (by rw [kI_1]) (by decide) rfl ?_
            refine g_goto d_X10_isOpen_69 ?_
            exact ih_12 _ (by rw [← hmu_12]; exact mu_up h18) (1 : Int32) (x3 + (1 : Int32)) rfl (lo_up hl4 h18) (by grind)
  exact K_12 _ (0 : Int32) (0 : Int32) rfl (Int32.le_refl _) (by grind)
set_option maxRecDepth 100000 in
set_option maxHeartbeats 4000000 in
theorem ct_X10_capOf (x : Int32) (cell : Int32) (I : Iv) (J : Jv) (hx : HX x) (hcell : 0 ≤ cell ∧ cell < 12) : Ct m_X10_capOf [.ref 78, .int x, .int cell] SHF I J (fun r S' I' J' => S' = SHF ∧ I = I' ∧ J = J' ∧ ∃ v : Int64, r = some (.long v) ∧ (cell < 3 → v = 20) ∧ (cell = 3 → v = 40) ∧ (3 < cell → v = J 79 (x + 28 + cell - 4).toNatClampNeg)) := by
  refine ct_of 0 (by decide +kernel) rfl rfl ?_
  refine g_iload_n d_X10_capOf_0 rfl ?_
  refine g_iconst (v := 3) d_X10_capOf_1 kI_3 ?_
  refine g_icmp_ge d_X10_capOf_2 (fun h2 => ?_) (fun h2 => ?_)
  · skip
    refine g_iload_n d_X10_capOf_11 rfl ?_
    refine g_iconst (v := 3) d_X10_capOf_12 kI_3 ?_
    refine g_icmp_ne d_X10_capOf_13 (fun h13 => ?_) (fun h13 => ?_)
    · skip
      refine g_aload_n d_X10_capOf_22 rfl ?_
      refine g_getR d_X10_capOf_23 fq_RX10_7 rfl rfl ?_
      refine g_iload_n d_X10_capOf_26 rfl ?_
      refine g_bipush (v := 28) d_X10_capOf_27 kB_28 ?_
      refine g_iadd d_X10_capOf_29 ?_
      refine g_iload_n d_X10_capOf_30 rfl ?_
      refine g_iadd d_X10_capOf_31 ?_
      refine g_iconst (v := 4) d_X10_capOf_32 kI_4 ?_
      refine g_isub d_X10_capOf_33 ?_
      refine g_laload (N := 320) d_X10_capOf_34 rfl kT_320 (by constructor <;> grind) rfl ?_
      exact g_lreturn d_X10_capOf_35 rfl rfl rfl ⟨rfl, rfl, rfl, (J 79 ((((x + (28 : Int32)) + cell) - (4 : Int32))).toNatClampNeg), rfl, by grind⟩
    · skip
      refine g_ldc2 (v := 40) d_X10_capOf_16 tw_1344 ?_
      refine g_goto d_X10_capOf_19 ?_
      exact g_lreturn d_X10_capOf_35 rfl rfl rfl ⟨rfl, rfl, rfl, (40 : Int64), rfl, by grind⟩
  · skip
    refine g_ldc2 (v := 20) d_X10_capOf_5 tw_1343 ?_
    refine g_goto d_X10_capOf_8 ?_
    exact g_lreturn d_X10_capOf_35 rfl rfl rfl ⟨rfl, rfl, rfl, (20 : Int64), rfl, by grind⟩
set_option maxRecDepth 100000 in
set_option maxHeartbeats 4000000 in
theorem ct_X10_warm (x : Int32) (cell : Int32) (I : Iv) (J : Jv) (hx : HX x) (hcell : 0 ≤ cell ∧ cell < 12) (hcap : 3 < cell → 1 ≤ J 79 (x + 28 + cell - 4).toNatClampNeg) : Ct m_X10_warm [.ref 78, .int x, .int cell] SHF I J (fun r S' I' J' => S' = SHF ∧ I = I' ∧ J = J' ∧ ∃ v : Int64, r = some (.long v)) := by
  refine ct_of 0 (by decide +kernel) rfl rfl ?_
  refine g_aload_n d_X10_warm_0 rfl ?_
  refine g_getR d_X10_warm_1 fq_RX10_7 rfl rfl ?_
  refine g_iload_n d_X10_warm_4 rfl ?_
  refine g_iload_n d_X10_warm_5 rfl ?_
  refine g_iadd d_X10_warm_6 ?_
  refine g_laload (N := 320) d_X10_warm_7 rfl kT_320 (by constructor <;> grind) rfl ?_
  refine g_aload_n d_X10_warm_8 rfl ?_
  refine g_iload_n d_X10_warm_9 rfl ?_
  refine g_iload_n d_X10_warm_10 rfl ?_
  refine g_V2 d_X10_warm_11 cs_X10_warm_X10_capOf lk_RX10_192 im_X10_capOf se_X10_capOf rfl rfl rfl (Nat.le_of_ble_eq_true rfl) ⟨rfl, rfl⟩ ⟨Nat.zero_le _, Nat.zero_le _⟩ (ct_X10_capOf x cell I J hx hcell) (fun r11 S11 Ic2 Jc3 q11_0 => ?_)
  obtain ⟨rfl, rfl, rfl, r5, rfl, hr11_5⟩ := q11_0
  refine g_st (st' := [.long r5, .long (J 79 ((x + cell)).toNatClampNeg)]) rfl ?_
  refine g_ldiv d_X10_warm_14 (by grind) ?_
  exact g_lreturn d_X10_warm_15 rfl rfl rfl ⟨rfl, rfl, rfl, ((J 79 ((x + cell)).toNatClampNeg) / r5), rfl⟩
set_option maxRecDepth 100000 in
set_option maxHeartbeats 4000000 in
theorem ct_X10_isWithin (x : Int32) (f : Int32) (I : Iv) (J : Jv) (hx : HX x) (hf8 : 0 ≤ f ∧ f < 8) (hcap : 1 ≤ J 79 (x + 28 + (4 + f) - 4).toNatClampNeg) : Ct m_X10_isWithin [.ref 78, .int x, .int f] SHF I J (fun r S' I' J' => S' = SHF ∧ I = I' ∧ J = J' ∧ ∃ v : Int32, r = some (.int v) ∧ (v = 0 ∨ v = 1)) := by
  refine ct_of 0 (by decide +kernel) rfl rfl ?_
  refine g_aload_n d_X10_isWithin_0 rfl ?_
  refine g_iload_n d_X10_isWithin_1 rfl ?_
  refine g_iconst (v := 4) d_X10_isWithin_2 kI_4 ?_
  refine g_iload_n d_X10_isWithin_3 rfl ?_
  refine g_iadd d_X10_isWithin_4 ?_
  refine g_V2 d_X10_isWithin_5 cs_X10_isWithin_X10_warm lk_RX10_200 im_X10_warm se_X10_warm rfl rfl rfl (Nat.le_of_ble_eq_true rfl) ⟨rfl, rfl⟩ ⟨Nat.zero_le _, Nat.zero_le _⟩ (ct_X10_warm x ((4 : Int32) + f) I J hx (by grind) (by grind)) (fun r5 S5 Ic2 Jc3 q5_0 => ?_)
  obtain ⟨rfl, rfl, rfl, r5, rfl⟩ := q5_0
  refine g_st (st' := [.long r5]) rfl ?_
  refine g_aload_n d_X10_isWithin_8 rfl ?_
  refine g_getR d_X10_isWithin_9 fq_RX10_7 rfl rfl ?_
  refine g_iload_n d_X10_isWithin_12 rfl ?_
  refine g_bipush (v := 36) d_X10_isWithin_13 kB_36 ?_
  refine g_iadd d_X10_isWithin_15 ?_
  refine g_iload_n d_X10_isWithin_16 rfl ?_
  refine g_iadd d_X10_isWithin_17 ?_
  refine g_laload (N := 320) d_X10_isWithin_18 rfl kT_320 (by constructor <;> grind) rfl ?_
  refine g_aload_n d_X10_isWithin_19 rfl ?_
  refine g_getR d_X10_isWithin_20 fq_RX10_7 rfl rfl ?_
  refine g_iload_n d_X10_isWithin_23 rfl ?_
  refine g_bipush (v := 44) d_X10_isWithin_24 kB_44 ?_
  refine g_iadd d_X10_isWithin_26 ?_
  refine g_iload_n d_X10_isWithin_27 rfl ?_
  refine g_iadd d_X10_isWithin_28 ?_
  refine g_laload (N := 320) d_X10_isWithin_29 rfl kT_320 (by constructor <;> grind) rfl ?_
  refine g_S3 d_X10_isWithin_30 cs_X10_isWithin_X10_in lk_RX10_96 im_X10_in (Nat.le_of_ble_eq_true rfl) ⟨rfl, rfl⟩ ⟨Nat.zero_le _, Nat.zero_le _⟩ (ct_X10_in r5 (J 79 (((x + (36 : Int32)) + f)).toNatClampNeg) (J 79 (((x + (44 : Int32)) + f)).toNatClampNeg) I J) (fun r30 S30 Ic8 Jc9 q30_6 => ?_)
  obtain ⟨rfl, rfl, rfl, r11, rfl, hz30, hr30_11⟩ := q30_6
  refine g_st (st' := [.int r11]) rfl ?_
  exact g_ireturn d_X10_isWithin_33 rfl rfl rfl (nar_z (by assumption)) ⟨rfl, rfl, rfl, r11, rfl, by assumption⟩
set_option maxRecDepth 100000 in
set_option maxHeartbeats 4000000 in
theorem ct_X10_isFood (f : Int32) (I : Iv) (J : Jv)  : Ct m_X10_isFood [.ref 78, .int f] SHF I J (fun r S' I' J' => S' = SHF ∧ I = I' ∧ J = J' ∧ ∃ v : Int32, r = some (.int v) ∧ (v = 0 ∨ v = 1) ∧ (v = 1 → 0 ≤ f ∧ f ≤ 7 ∧ J 79 (12 + f).toNatClampNeg = 1)) := by
  refine ct_of 0 (by decide +kernel) rfl rfl ?_
  refine g_iload_n d_X10_isFood_0 rfl ?_
  refine g_i2l d_X10_isFood_1 ?_
  refine g_lconst d_X10_isFood_2 kL_0 ?_
  refine g_ldc2 (v := 7) d_X10_isFood_3 tw_1334 ?_
  refine g_S3 d_X10_isFood_6 cs_X10_isFood_X10_in lk_RX10_96 im_X10_in (Nat.le_of_ble_eq_true rfl) ⟨rfl, rfl⟩ ⟨Nat.zero_le _, Nat.zero_le _⟩ (ct_X10_inL f (0 : Int64) (7 : Int64) (0 : Int32) (7 : Int32) (by decide) (by decide) I J) (fun r6 S6 Ic2 Jc3 q6_0 => ?_)
  obtain ⟨rfl, rfl, rfl, r5, rfl, hz6, hr6_5⟩ := q6_0
  refine g_st (st' := [.int r5]) rfl ?_
  refine g_if_eq d_X10_isFood_9 (fun h9 => ?_) (fun h9 => ?_)
  · skip
    refine g_iconst (v := 0) d_X10_isFood_30 kI_0 ?_
    exact g_ireturn d_X10_isFood_31 rfl rfl rfl rfl ⟨rfl, rfl, rfl, (0 : Int32), rfl, Or.inl rfl, by grind⟩
  · skip
    refine g_aload_n d_X10_isFood_12 rfl ?_
    refine g_getR d_X10_isFood_13 fq_RX10_7 rfl rfl ?_
    refine g_bipush (v := 12) d_X10_isFood_16 kB_12 ?_
    refine g_iload_n d_X10_isFood_18 rfl ?_
    refine g_iadd d_X10_isFood_19 ?_
    refine g_laload (N := 320) d_X10_isFood_20 rfl kT_320 (by constructor <;> grind) rfl ?_
    refine g_lconst d_X10_isFood_21 kL_1 ?_
    refine g_lcmp_ne d_X10_isFood_22 d_X10_isFood_23 (fun h23 => ?_) (fun h23 => ?_)
    · skip
      refine g_iconst (v := 0) d_X10_isFood_30 kI_0 ?_
      exact g_ireturn d_X10_isFood_31 rfl rfl rfl rfl ⟨rfl, rfl, rfl, (0 : Int32), rfl, Or.inl rfl, by grind⟩
    · skip
      refine g_iconst (v := 1) d_X10_isFood_26 kI_1 ?_
      refine g_goto d_X10_isFood_27 ?_
      exact g_ireturn d_X10_isFood_31 rfl rfl rfl rfl ⟨rfl, rfl, rfl, (1 : Int32), rfl, Or.inr rfl, by grind⟩
set_option maxRecDepth 100000 in
set_option maxHeartbeats 4000000 in
theorem ct_X10_seens  (I : Iv) (J : Jv)  : Ct m_X10_seens [.ref 78] SHF I J (fun r S' I' J' => S' = SHF ∧ I = I' ∧ J = J' ∧ ∃ v : Int32, r = some (.int v) ∧ v = cn (I 91) 7) := by
  refine ct_of 2 (by decide +kernel) rfl rfl ?_
  refine g_iconst (v := 0) d_X10_seens_0 kI_0 ?_
  refine g_istore_n (L' := [some (.ref 78), some (.int (0 : Int32)), none]) d_X10_seens_1 (by decide) rfl ?_
  refine g_iconst (v := 0) d_X10_seens_2 kI_0 ?_
  refine g_istore_n (L' := [some (.ref 78), some (.int (0 : Int32)), some (.int (0 : Int32))]) d_X10_seens_3 (by decide) rfl ?_
  have K_4 : ∀ (nu : Nat) (x1 : Int32) (x2 : Int32), mU (7 : Int32) x2 = nu → ((0 : Int32) ≤ x2) → (x1 = cn (I 91) x2.toNatClampNeg) → (x2 ≤ 7) → G m_X10_seens (rq m_X10_seens (fun r S' I' J' => S' = SHF ∧ I = I' ∧ J = J' ∧ ∃ v : Int32, r = some (.int v) ∧ v = cn (I 91) 7)) 0 0 4 [some (.ref 78), some (.int x1), some (.int x2)] [] SHF I J := by
    intro nu
    induction nu using Nat.strongRecOn with
    | ind nu ih_4 =>
      intro x1 x2 hmu_4 hl3 hn_4 hi_4
      refine g_iload_n d_X10_seens_4 rfl ?_
      refine g_bipush (v := 7) d_X10_seens_5 kB_7 ?_
      refine g_icmp_ge d_X10_seens_7 (fun h7 => ?_) (fun h7 => ?_)
      · skip
        refine g_iload_n d_X10_seens_28 rfl ?_
        exact g_ireturn d_X10_seens_29 rfl rfl rfl rfl ⟨rfl, rfl, rfl, x1, rfl, (by rw [hn_4, show x2 = 7 by grind, kN_7])⟩
      · skip
        refine g_iload_n d_X10_seens_10 rfl ?_
        refine g_aload_n d_X10_seens_11 rfl ?_
        refine g_getR d_X10_seens_12 fq_RX10_52 rfl rfl ?_
        refine g_iload_n d_X10_seens_15 rfl ?_
        refine g_baload (N := 7) d_X10_seens_16 rfl kT_7 ⟨hl3, Int32.not_le.mp h7⟩ rfl (fun hz16 => ?_)
        refine g_S1 d_X10_seens_17 cs_X10_seens_X10_one lk_RX10_211 im_X10_one (Nat.le_of_ble_eq_true rfl) ⟨rfl, rfl⟩ ⟨Nat.zero_le _, Nat.zero_le _⟩ (ct_X10_one (I 91 x2.toNatClampNeg) I J ) (fun r17 S17 Ic5 Jc6 q17_3 => ?_)
        obtain ⟨rfl, rfl, rfl, r8, rfl, hr17_8⟩ := q17_3
        refine g_st (st' := [.int r8, .int x1]) rfl ?_
        have h1v := (hr17_8).2
        refine g_iadd d_X10_seens_20 ?_
        refine g_topI (fun v10 ev10 => ?_)
        refine g_istore_n (L' := [some (.ref 78), some (.int v10), some (.int x2)]) d_X10_seens_21 (by decide) rfl ?_
        refine g_iinc (v := (x2 + (1 : Int32))) (L' := [some (.ref 78), some (.int v10), some (.int (x2 + (1 : Int32)))]) d_X10_seens_22 rfl (by rw [kI_1]) (by decide) rfl ?_
        refine g_goto d_X10_seens_25 ?_
        exact ih_4 _ (by rw [← hmu_4]; exact mu_up h7) v10 (x2 + (1 : Int32)) rfl (lo_up hl3 h7) (by rw [cn_step hl3 h7 hn_4, ev10, h1v]) (by grind)
  exact K_4 _ (0 : Int32) (0 : Int32) rfl (Int32.le_refl _) (by rw [kN_0]; rfl) (by decide)
set_option maxRecDepth 100000 in
set_option maxHeartbeats 4000000 in
theorem ct_X10_foods  (I : Iv) (J : Jv) (hb0 : BI 0 J) : Ct m_X10_foods [.ref 78] SHF I J (fun r S' I' J' => S' = SHF ∧ I = I' ∧ J = J' ∧ ∃ v : Int32, r = some (.int v) ∧ 0 ≤ v ∧ v ≤ 8) := by
  refine ct_of 2 (by decide +kernel) rfl rfl ?_
  refine g_iconst (v := 0) d_X10_foods_0 kI_0 ?_
  refine g_istore_n (L' := [some (.ref 78), some (.int (0 : Int32)), none]) d_X10_foods_1 (by decide) rfl ?_
  refine g_iconst (v := 0) d_X10_foods_2 kI_0 ?_
  refine g_istore_n (L' := [some (.ref 78), some (.int (0 : Int32)), some (.int (0 : Int32))]) d_X10_foods_3 (by decide) rfl ?_
  have K_4 : ∀ (nu : Nat) (x1 : Int32) (x2 : Int32), mU (8 : Int32) x2 = nu → ((0 : Int32) ≤ x2) → (0 ≤ x1 ∧ x1 ≤ x2) → (x2 ≤ 8) → G m_X10_foods (rq m_X10_foods (fun r S' I' J' => S' = SHF ∧ I = I' ∧ J = J' ∧ ∃ v : Int32, r = some (.int v) ∧ 0 ≤ v ∧ v ≤ 8)) 0 0 4 [some (.ref 78), some (.int x1), some (.int x2)] [] SHF I J := by
    intro nu
    induction nu using Nat.strongRecOn with
    | ind nu ih_4 =>
      intro x1 x2 hmu_4 hl3 hn_4 h8_4
      refine g_iload_n d_X10_foods_4 rfl ?_
      refine g_bipush (v := 8) d_X10_foods_5 kB_8 ?_
      refine g_icmp_ge d_X10_foods_7 (fun h7 => ?_) (fun h7 => ?_)
      · skip
        refine g_iload_n d_X10_foods_29 rfl ?_
        exact g_ireturn d_X10_foods_30 rfl rfl rfl rfl ⟨rfl, rfl, rfl, x1, rfl, by grind⟩
      · skip
        refine g_iload_n d_X10_foods_10 rfl ?_
        refine g_aload_n d_X10_foods_11 rfl ?_
        refine g_getR d_X10_foods_12 fq_RX10_7 rfl rfl ?_
        refine g_bipush (v := 12) d_X10_foods_15 kB_12 ?_
        refine g_iload_n d_X10_foods_17 rfl ?_
        refine g_iadd d_X10_foods_18 ?_
        refine g_laload (N := 320) d_X10_foods_19 rfl kT_320 (by constructor <;> grind) (by rw [tn_add (by constructor <;> grind) (by constructor <;> grind), kN_12]) ?_
        refine g_l2i d_X10_foods_20 ?_
        refine g_iadd d_X10_foods_21 ?_
        refine g_topI (fun v4 ev4 => ?_)
        refine g_istore_n (L' := [some (.ref 78), some (.int v4), some (.int x2)]) d_X10_foods_22 (by decide) rfl ?_
        refine g_iinc (v := (x2 + (1 : Int32))) (L' := [some (.ref 78), some (.int v4), some (.int (x2 + (1 : Int32)))]) d_X10_foods_23 rfl (by rw [kI_1]) (by decide) rfl ?_
        refine g_goto d_X10_foods_26 ?_
        exact ih_4 _ (by rw [← hmu_4]; exact mu_up h7) v4 (x2 + (1 : Int32)) rfl (lo_up hl3 h7) (by rw [ev4]; have q := bi_int (x := x2) hb0 (by grind) (by grind); grind) (by grind)
  exact K_4 _ (0 : Int32) (0 : Int32) rfl (Int32.le_refl _) (by grind) (by grind)
