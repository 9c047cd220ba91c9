theorem mi_feed {v c : Int32} {B I : Iv} (h : MI (wI B 78 11 c) I) (hv : 0 ≤ v ∧ v ≤ 300) : MI (wI B 78 11 v) (wI I 78 11 v) := by
  have := mi_11 h hv
  rwa [wI_two] at this
theorem br_pa {I I1 : Iv} (h : MA I) (r : (∀ k, (k < 12 ∨ 17 < k) → I1 78 k = I 78 k)) (z : I1 78 12 = 0) : PA I1 := by
  unfold PA; rw [z, r 11 (by omega)]; exact ⟨by decide, h.1.1, h.1.2⟩
theorem pa_w {I : Iv} {a k : Nat} {v : Int32} (h : PA I) (hk : ¬ (a = 78 ∧ (k = 11 ∨ k = 12))) : PA (wI I a k v) := by
  unfold PA at *; rw [wI_ne (by omega), wI_ne (by omega)]; exact h
theorem pf_rk {I I1 : Iv} (h : PF I I1) (k : RK I) : RK I1 := fun q => by rw [h.1 82 (by decide)]; exact k (h.2.2.2.2.1 q)
theorem day_gt {a b f l c s : Int32} (h1 : a ≤ b) (h2 : b ≤ f ∧ f + l = c ∧ 0 ≤ l) (h3 : l = 4) (h4 : c ≤ s) (h5 : s ≤ 300) (h6 : 0 ≤ a) (h7 : 0 ≤ c) : a < c := by grind
theorem day_wd {b f l c : Int32} (h2 : b ≤ f ∧ f + l = c ∧ 0 ≤ l) (h6 : 0 ≤ b) : 0 ≤ f ∧ f + l = c ∧ 0 ≤ l := ⟨Int32.le_trans h6 h2.1, h2.2⟩
theorem day_up {x : Int32} (h : 0 ≤ x ∧ x ≤ 12) (h2 : x < 12) : 0 ≤ x + 1 ∧ x + 1 ≤ 12 := by grind
theorem day_ix {x : Int32} (h : 0 ≤ x) (h2 : x < 12) (h3 : ¬ x = 0) : 0 ≤ x - 1 ∧ x - 1 < 12 := by grind
theorem day_lt {k n : Int32} (h : ¬ n ≤ k) (h2 : n ≤ 12) : k < 12 := by grind
