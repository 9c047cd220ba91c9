set_option maxRecDepth 100000 in
set_option maxHeartbeats 4000000 in
theorem ct_fillI {a n : Nat} {N : Int32} (S : Shp) (hS : S[a]? = some (.inl (.int, n))) (hN : N.toInt = (n : Int)) (hv : Int32.ofNat n = N) (v : Int32) (I : Iv) (J : Jv) : Ct m_J7_fill_53178 [.ref a, .int v] S I J (fun r S' I' J' => S' = S ∧ (J = J' ∧ I' = cI I a n (fun _ => v)) ∧ r = none) := by
  refine ct_of 2 (by decide +kernel) rfl rfl ?_
  refine g_iconst (v := 0) d_J7_fill_53178_0 kI_0 ?_
  refine g_istore_n (L' := [some (.ref a), some (.int v), some (.int 0), none]) d_J7_fill_53178_1 (by decide) rfl ?_
  refine g_aload_n d_J7_fill_53178_2 rfl ?_
  refine g_alen d_J7_fill_53178_3 hS (Or.inl rfl) hv ?_
  refine g_istore_n (L' := [some (.ref a), some (.int v), some (.int 0), some (.int N)]) d_J7_fill_53178_4 (by decide) rfl ?_
  have K : ∀ (k : Nat) (c : Int32) (I1 : Iv), mU N c = k → 0 ≤ c → c ≤ N → I1 = cI I a c.toNatClampNeg (fun _ => v) → G m_J7_fill_53178 (rq m_J7_fill_53178 (fun r S' I' J' => S' = S ∧ (J = J' ∧ I' = cI I a n (fun _ => v)) ∧ r = none)) 0 0 5 [some (.ref a), some (.int v), some (.int c), some (.int N)] [] S I1 J := by
    intro k
    induction k using Nat.strongRecOn with
    | ind k ih =>
      intro c I1 hk h0 h1 hX
      refine g_iload_n d_J7_fill_53178_5 rfl ?_
      refine g_iload_n d_J7_fill_53178_6 rfl ?_
      refine g_icmp_ge d_J7_fill_53178_7 (fun h => ?_) (fun h => ?_)
      · have : c.toNatClampNeg = n := by
          have e1 := Int32.le_iff_toInt_le.mp h
          have e2 := Int32.le_iff_toInt_le.mp h1
          show c.toInt.toNat = n
          omega
        rw [this] at hX
        exact g_return d_J7_fill_53178_20 rfl rfl rfl ⟨rfl, ⟨rfl, hX⟩, rfl⟩
      · refine g_aload_n d_J7_fill_53178_10 rfl ?_
        refine g_iload_n d_J7_fill_53178_11 rfl ?_
        refine g_iload_n d_J7_fill_53178_12 rfl ?_
        refine g_iastore d_J7_fill_53178_13 hS hN ⟨h0, Int32.not_le.mp h⟩ rfl ?_
        refine g_iinc (v := c + 1) (L' := [some (.ref a), some (.int v), some (.int (c + 1)), some (.int N)]) d_J7_fill_53178_14 rfl (by rw [kI_1]) (by decide) rfl ?_
        refine g_goto d_J7_fill_53178_17 ?_
        have hu := i32_up (Int32.not_le.mp h)
        have h0' := Int32.le_iff_toInt_le.mp h0
        have hlt := Int32.lt_iff_toInt_lt.mp (Int32.not_le.mp h)
        refine ih _ (by rw [← hk]; exact mu_up h) (c + 1) _ rfl (lo_up h0 h) (by rw [Int32.le_iff_toInt_le, hu]; omega) ?_
        have e : (c + 1).toNatClampNeg = c.toNatClampNeg + 1 := by
          show (c + 1).toInt.toNat = c.toInt.toNat + 1
          simp at h0'
          rw [hu]; omega
        rw [hX, e]
        funext b j
        simp only [wI, cI]
        by_cases hb : b = a
        · by_cases hj : j = c.toNatClampNeg
          · simp [hb, hj]
          · by_cases hj2 : j < c.toNatClampNeg
            · simp [hb, hj, hj2, Nat.lt_succ_of_lt hj2]
            · have : ¬ j < c.toNatClampNeg + 1 := by omega
              simp [hb, hj, hj2, this]
        · simp [hb]
  have hN0 : (0 : Int32) ≤ N := by
    rw [Int32.le_iff_toInt_le, hN]; simp
  refine K _ 0 _ rfl (Int32.le_refl _) hN0 ?_
  funext b j
  have : (0 : Int32).toNatClampNeg = 0 := by decide
  simp [cI, this]
set_option maxRecDepth 100000 in
set_option maxHeartbeats 4000000 in
theorem ct_fillJ {a n : Nat} {N : Int32} (S : Shp) (hS : S[a]? = some (.inl (.long, n))) (hN : N.toInt = (n : Int)) (hv : Int32.ofNat n = N) (v : Int64) (I : Iv) (J : Jv) : Ct m_J7_fill_d0a16 [.ref a, .long v] S I J (fun r S' I' J' => S' = S ∧ (I = I' ∧ J' = cJ J a n (fun _ => v)) ∧ r = none) := by
  refine ct_of 2 (by decide +kernel) rfl rfl ?_
  refine g_iconst (v := 0) d_J7_fill_d0a16_0 kI_0 ?_
  refine g_istore_n (L' := [some (.ref a), some (.long v), none, some (.int 0), none]) d_J7_fill_d0a16_1 (by decide) rfl ?_
  refine g_aload_n d_J7_fill_d0a16_2 rfl ?_
  refine g_alen d_J7_fill_d0a16_3 hS (Or.inr (Or.inl rfl)) hv ?_
  refine g_istore (L' := [some (.ref a), some (.long v), none, some (.int 0), some (.int N)]) d_J7_fill_d0a16_4 (by decide) rfl ?_
  have K : ∀ (k : Nat) (c : Int32) (J1 : Jv), mU N c = k → 0 ≤ c → c ≤ N → J1 = cJ J a c.toNatClampNeg (fun _ => v) → G m_J7_fill_d0a16 (rq m_J7_fill_d0a16 (fun r S' I' J' => S' = S ∧ (I = I' ∧ J' = cJ J a n (fun _ => v)) ∧ r = none)) 0 0 6 [some (.ref a), some (.long v), none, some (.int c), some (.int N)] [] S I J1 := by
    intro k
    induction k using Nat.strongRecOn with
    | ind k ih =>
      intro c J1 hk h0 h1 hX
      refine g_iload_n d_J7_fill_d0a16_6 rfl ?_
      refine g_iload d_J7_fill_d0a16_7 rfl ?_
      refine g_icmp_ge d_J7_fill_d0a16_9 (fun h => ?_) (fun h => ?_)
      · have : c.toNatClampNeg = n := by
          have e1 := Int32.le_iff_toInt_le.mp h
          have e2 := Int32.le_iff_toInt_le.mp h1
          show c.toInt.toNat = n
          omega
        rw [this] at hX
        exact g_return d_J7_fill_d0a16_22 rfl rfl rfl ⟨rfl, ⟨rfl, hX⟩, rfl⟩
      · refine g_aload_n d_J7_fill_d0a16_12 rfl ?_
        refine g_iload_n d_J7_fill_d0a16_13 rfl ?_
        refine g_lload_n d_J7_fill_d0a16_14 rfl ?_
        refine g_lastore d_J7_fill_d0a16_15 hS hN ⟨h0, Int32.not_le.mp h⟩ rfl ?_
        refine g_iinc (v := c + 1) (L' := [some (.ref a), some (.long v), none, some (.int (c + 1)), some (.int N)]) d_J7_fill_d0a16_16 rfl (by rw [kI_1]) (by decide) rfl ?_
        refine g_goto d_J7_fill_d0a16_19 ?_
        have hu := i32_up (Int32.not_le.mp h)
        have h0' := Int32.le_iff_toInt_le.mp h0
        have hlt := Int32.lt_iff_toInt_lt.mp (Int32.not_le.mp h)
        refine ih _ (by rw [← hk]; exact mu_up h) (c + 1) _ rfl (lo_up h0 h) (by rw [Int32.le_iff_toInt_le, hu]; omega) ?_
        have e : (c + 1).toNatClampNeg = c.toNatClampNeg + 1 := by
          show (c + 1).toInt.toNat = c.toInt.toNat + 1
          simp at h0'
          rw [hu]; omega
        rw [hX, e]
        funext b j
        simp only [wJ, cJ]
        by_cases hb : b = a
        · by_cases hj : j = c.toNatClampNeg
          · simp [hb, hj]
          · by_cases hj2 : j < c.toNatClampNeg
            · simp [hb, hj, hj2, Nat.lt_succ_of_lt hj2]
            · have : ¬ j < c.toNatClampNeg + 1 := by omega
              simp [hb, hj, hj2, this]
        · simp [hb]
  have hN0 : (0 : Int32) ≤ N := by
    rw [Int32.le_iff_toInt_le, hN]; simp
  refine K _ 0 _ rfl (Int32.le_refl _) hN0 ?_
  funext b j
  have : (0 : Int32).toNatClampNeg = 0 := by decide
  simp [cJ, this]
