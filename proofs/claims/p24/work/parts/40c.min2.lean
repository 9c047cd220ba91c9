theorem i2l_le {a b : Int32} : a.toInt64 ≤ b.toInt64 ↔ a ≤ b := by
  rw [Int64.le_iff_toInt_le, Int32.le_iff_toInt_le, Int32.toInt_toInt64, Int32.toInt_toInt64]
theorem ct_X10_inL (x : Int32) (lo hi : Int64) (low high : Int32) (h1 : lo = low.toInt64) (h2 : hi = high.toInt64) (I : Iv) (J : Jv) : Ct m_X10_in [.long x.toInt64, .long lo, .long hi] SHF I J (fun r S' I' J' => S' = SHF ∧ I = I' ∧ J = J' ∧ ∃ v : Int32, r = some (.int v) ∧ (v = 0 ∨ v = 1) ∧ fn_X10_in x.toInt64 lo hi I J = (v, I', J') ∧ (v = 1 → low ≤ x ∧ x ≤ high) ∧ (v = 0 → ¬(low ≤ x ∧ x ≤ high))) := by
  subst h1 h2
  refine (ct_X10_in x.toInt64 low.toInt64 high.toInt64 I J).mono fun r S' I' J' h => ?_
  obtain ⟨e1, e2, e3, v, e4, e5, ef, e6, e7⟩ := h
  rw [i2l_le, i2l_le] at e6 e7
  exact ⟨e1, e2, e3, v, e4, e5, ef, e6, e7⟩
