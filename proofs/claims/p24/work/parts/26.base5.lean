/-! ===== how many are seen ===== -/
def cn (f : Nat → Int32) : Nat → Int32
  | 0 => 0
  | k + 1 => cn f k + (if f k = 0 then 0 else 1)
theorem cn_congr {f g : Nat → Int32} : ∀ (n : Nat), (∀ k, k < n → f k = g k) → cn f n = cn g n
  | 0, _ => rfl
  | n + 1, h => by
    have e := cn_congr n (fun k hk => h k (by omega))
    simp only [cn, e, h n (by omega)]
theorem cn_up {x : Int32} (h0 : 0 ≤ x) (h7 : ¬ 7 ≤ x) : (x + 1).toNatClampNeg = x.toNatClampNeg + 1 := by
  have hu := i32_up (Int32.not_le.mp h7)
  have a0 := Int32.le_iff_toInt_le.mp h0
  have c0 : (0 : Int32).toInt = 0 := by decide
  rw [c0] at a0
  show (x + 1).toInt.toNat = x.toInt.toNat + 1
  rw [hu]; omega
theorem cn_step {f : Nat → Int32} {x n : Int32} (h0 : 0 ≤ x) (h7 : ¬ 7 ≤ x) (h : n = cn f x.toNatClampNeg) : cn f (x + 1).toNatClampNeg = n + (if f x.toNatClampNeg = 0 then 0 else 1) := by
  rw [cn_up h0 h7, h]; rfl
theorem cn_clr {I : Iv} {r : Nat} {x : Int32} (h0 : 0 ≤ x) (h7 : ¬ 7 ≤ x) (h : ∀ k, k < x.toNatClampNeg → I r k = 0) : ∀ k, k < (x + 1).toNatClampNeg → wI I r x.toNatClampNeg 0 r k = 0 := by
  intro k hk
  rw [cn_up h0 h7] at hk
  by_cases e : k = x.toNatClampNeg
  · subst e; exact wI_self
  · rw [wI_ne (Or.inr e)]; exact h k (by omega)
theorem xt_58 {I I' : Iv} {J J' : Jv} (h : XT I' J' = XT I J) : I' 58 = I 58 := congrArg (fun q => q.2.2.2.2.1) h
