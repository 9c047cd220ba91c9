noncomputable def fn_X10_in (x : Int64) (low : Int64) (high : Int64) (I : Iv) (J : Jv) : Int32 × Iv × Jv :=
  if x < low then ((0 : Int32), I, J) else if high < x then ((0 : Int32), I, J) else ((1 : Int32), I, J)
set_option maxRecDepth 100000 in
set_option maxHeartbeats 4000000 in
theorem ct_X10_in (x : Int64) (low : Int64) (high : Int64) (I : Iv) (J : Jv)  : Ct m_X10_in [.long x, .long low, .long high] SHF I J (fun r S' I' J' => S' = SHF ∧ I = I' ∧ J = J' ∧ ∃ v : Int32, r = some (.int v) ∧ (v = 0 ∨ v = 1) ∧ fn_X10_in x low high I J = (v, I', J') ∧ (v = 1 → low ≤ x ∧ x ≤ high) ∧ (v = 0 → ¬ (low ≤ x ∧ x ≤ high))) := by
  refine ct_of 0 (by decide +kernel) rfl rfl ?_
  have hF := fe_of (fn_X10_in.eq_1 x low high I J)
  refine g_lload_n d_X10_in_0 rfl ?_
  refine g_lload_n d_X10_in_1 rfl ?_
  refine g_lcmp_lt d_X10_in_2 d_X10_in_3 (fun h3 => ?_) (fun h3 => ?_)
  · skip
    replace hF := fe_pos hF h3
    refine g_iconst (v := 0) d_X10_in_17 kI_0 ?_
    exact g_ireturn d_X10_in_18 rfl rfl rfl rfl ⟨rfl, rfl, rfl, (0 : Int32), rfl, Or.inl rfl, hF, by grind⟩
  · skip
    replace hF := fe_neg hF h3
    refine g_lload_n d_X10_in_6 rfl ?_
    refine g_lload d_X10_in_7 rfl ?_
    refine g_lcmp_gt d_X10_in_9 d_X10_in_10 (fun h10 => ?_) (fun h10 => ?_)
    · skip
      replace hF := fe_pos hF h10
      refine g_iconst (v := 0) d_X10_in_17 kI_0 ?_
      exact g_ireturn d_X10_in_18 rfl rfl rfl rfl ⟨rfl, rfl, rfl, (0 : Int32), rfl, Or.inl rfl, hF, by grind⟩
    · skip
      replace hF := fe_neg hF h10
      refine g_iconst (v := 1) d_X10_in_13 kI_1 ?_
      refine g_goto d_X10_in_14 ?_
      exact g_ireturn d_X10_in_18 rfl rfl rfl rfl ⟨rfl, rfl, rfl, (1 : Int32), rfl, Or.inr rfl, hF, by grind⟩
