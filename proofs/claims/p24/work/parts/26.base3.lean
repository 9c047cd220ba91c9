def rI (I : Iv) (a : Nat) (f : Nat → Int32) : Iv := fun b => if b = a then f else I b
theorem xt_cong {I I' : Iv} {J J' : Jv} {a k : Nat} {v : Int32} (h : XT I' J' = XT I J) : XT (wI I' a k v) J' = XT (wI I a k v) J := by
  simp only [XT, XN, Prod.mk.injEq] at h ⊢
  obtain ⟨h0, h1, h2, h3, h4, h5, h6, h7, h8, h9, ha, hb, hc, hd, he, hf, hg, hh⟩ := h
  have r : ∀ b, I' b = I b → wI I' a k v b = wI I a k v b := by
    intro b e; funext j; simp only [wI, e]
  have c : ∀ b j, I' b j = I b j → wI I' a k v b j = wI I a k v b j := by
    intro b j e; simp only [wI, e]
  refine ⟨c _ _ h0, r _ h1, r _ h2, r _ h3, r _ h4, r _ h5, c _ _ h6, c _ _ h7, c _ _ h8, c _ _ h9, c _ _ ha, c _ _ hb, c _ _ hc, c _ _ hd, c _ _ he, c _ _ hf, ?_, hh⟩
  funext b
  exact r _ (congrFun hg b)
theorem xt_tick {I I' : Iv} {J J' : Jv} {t : Int32} (h : XN I' J' = XN I J) (ht : I' 24 0 = t) : XT I' J' = XT (wI I 24 0 t) J := by
  have e : XN (wI I 24 0 t) J = XN I J := by
    have e1 : (fun b => wI I 24 0 t (b + 78)) = fun b => I (b + 78) := by funext b; exact wI_row (by omega)
    simp only [XN, e1]
    rfl
  have e2 : wI I 24 0 t 24 0 = t := rfl
  simp only [XT, h, e, e2, ht]
theorem xt_copy16 {p : Nat} {I I' : Iv} {J J' : Jv} (h : ∀ b, (b < 16 ∨ 16 + 8 < b) → I' b = I b ∧ J' b = J b) (h8 : I' 16 8 = I p 8) (h12 : I' 16 12 = I p 12) (ht : I' (16 + 8) 0 = I (p + 8) 0) : XT I' J' = XT (wI (wI (wI I 16 8 (I p 8)) 16 12 (I p 12)) 24 0 (I (p + 8) 0)) J := by
  have e1 : (fun b => I' (b + 78)) = fun b => I (b + 78) := by funext b; exact (h _ (by omega)).1
  have e2 : (fun b => J' (b + 78)) = fun b => J (b + 78) := by funext b; exact (h _ (by omega)).2
  have e3 : (fun b => wI (wI (wI I 16 8 (I p 8)) 16 12 (I p 12)) 24 0 (I (p + 8) 0) (b + 78)) = fun b => I (b + 78) := by
    funext b; rw [wI_row (by omega), wI_row (by omega), wI_row (by omega)]
  have ht : I' 24 0 = I (p + 8) 0 := ht
  have g : ∀ b, (b < 16 ∨ 16 + 8 < b) → I' b = I b := fun b q => (h b q).1
  simp only [XT, XN, e1, e2, e3, h8, h12, ht, g 66 (by omega), g 61 (by omega), g 62 (by omega), g 58 (by omega), g 43 (by omega), g 65 (by omega), g 25 (by omega), g 34 (by omega), g 1 (by omega), g 33 (by omega), g 42 (by omega)]
  rfl
theorem xt_copy25 {I I' : Iv} {J J' : Jv} (h : ∀ b, (b < 25 ∨ 25 + 8 < b) → I' b = I b ∧ J' b = J b) (h8 : I' 25 8 = I 16 8) (h12 : I' 25 12 = I 16 12) (ht : I' (25 + 8) 0 = I (16 + 8) 0) : XT I' J' = XT (wI (wI (wI I 25 8 (I 16 8)) 25 12 (I 16 12)) 33 0 (I 24 0)) J := by
  have e1 : (fun b => I' (b + 78)) = fun b => I (b + 78) := by funext b; exact (h _ (by omega)).1
  have e2 : (fun b => J' (b + 78)) = fun b => J (b + 78) := by funext b; exact (h _ (by omega)).2
  have e3 : (fun b => wI (wI (wI I 25 8 (I 16 8)) 25 12 (I 16 12)) 33 0 (I 24 0) (b + 78)) = fun b => I (b + 78) := by
    funext b; rw [wI_row (by omega), wI_row (by omega), wI_row (by omega)]
  have ht : I' 33 0 = I 24 0 := ht
  have g : ∀ b, (b < 25 ∨ 25 + 8 < b) → I' b = I b := fun b q => (h b q).1
  simp only [XT, XN, e1, e2, e3, h8, h12, ht, g 66 (by omega), g 61 (by omega), g 62 (by omega), g 58 (by omega), g 43 (by omega), g 65 (by omega), g 16 (by omega), g 24 (by omega), g 34 (by omega), g 1 (by omega), g 42 (by omega)]
  rfl
theorem xt_copy34 {I I' : Iv} {J J' : Jv} (h : ∀ b, (b < 34 ∨ 34 + 8 < b) → I' b = I b ∧ J' b = J b) (h8 : I' 34 8 = I 16 8) (h12 : I' 34 12 = I 16 12) (ht : I' (34 + 8) 0 = I (16 + 8) 0) : XT I' J' = XT (wI (wI (wI I 34 8 (I 16 8)) 34 12 (I 16 12)) 42 0 (I 24 0)) J := by
  have e1 : (fun b => I' (b + 78)) = fun b => I (b + 78) := by funext b; exact (h _ (by omega)).1
  have e2 : (fun b => J' (b + 78)) = fun b => J (b + 78) := by funext b; exact (h _ (by omega)).2
  have e3 : (fun b => wI (wI (wI I 34 8 (I 16 8)) 34 12 (I 16 12)) 42 0 (I 24 0) (b + 78)) = fun b => I (b + 78) := by
    funext b; rw [wI_row (by omega), wI_row (by omega), wI_row (by omega)]
  have ht : I' 42 0 = I 24 0 := ht
  have g : ∀ b, (b < 34 ∨ 34 + 8 < b) → I' b = I b := fun b q => (h b q).1
  simp only [XT, XN, e1, e2, e3, h8, h12, ht, g 66 (by omega), g 61 (by omega), g 62 (by omega), g 58 (by omega), g 43 (by omega), g 65 (by omega), g 16 (by omega), g 24 (by omega), g 25 (by omega), g 1 (by omega), g 33 (by omega)]
  rfl
theorem xt_copyT {o : Nat} {I I' : Iv} {J J' : Jv} (ho : o = 46 ∨ o = 68) (h : ∀ b, (b < o ∨ o + 8 < b) → I' b = I b ∧ J' b = J b) : XT I' J' = XT I J := by
  have e1 : (fun b => I' (b + 78)) = fun b => I (b + 78) := by funext b; exact (h _ (by omega)).1
  have e2 : (fun b => J' (b + 78)) = fun b => J (b + 78) := by funext b; exact (h _ (by omega)).2
  have g : ∀ b, (b < o ∨ o + 8 < b) → I' b = I b := fun b q => (h b q).1
  simp only [XT, XN, e1, e2, g 66 (by omega), g 61 (by omega), g 62 (by omega), g 58 (by omega), g 43 (by omega), g 65 (by omega), g 16 (by omega), g 24 (by omega), g 25 (by omega), g 34 (by omega), g 1 (by omega), g 33 (by omega), g 42 (by omega)]
/-- the chances that the weights go by -/
def PRI (I : Iv) : Prop := ∀ k, k < 7 → 0 ≤ I 61 k ∧ I 61 k ≤ 1000
theorem pri_of {I I' : Iv} {J J' : Jv} (h : XT I' J' = XT I J) (p : PRI I) : PRI I' := by
  intro k hk; rw [xt_pri h]; exact p k hk
theorem pri_at {I : Iv} (p : PRI I) {x : Int32} (h0 : 0 ≤ x) (h1 : x < 7) : 0 ≤ I 61 x.toNatClampNeg ∧ I 61 x.toNatClampNeg ≤ 1000 := by
  refine p _ ?_
  have e1 := Int32.le_iff_toInt_le.mp h0
  have e2 := Int32.lt_iff_toInt_lt.mp h1
  simp at e1
  have : (7 : Int32).toInt = 7 := by decide
  show x.toInt.toNat < 7
  omega
theorem wstep {w : Int64} {p : Int32} (h0 : 0 ≤ w) (h1 : w ≤ 1000000) (p0 : 0 ≤ p) (p1 : p ≤ 1000) : 0 ≤ w * p.toInt64 / 1000 ∧ w * p.toInt64 / 1000 ≤ 1000000 := by
  have a0 := Int64.le_iff_toInt_le.mp h0
  have a1 := Int64.le_iff_toInt_le.mp h1
  have b0 := Int32.le_iff_toInt_le.mp p0
  have b1 := Int32.le_iff_toInt_le.mp p1
  have c1 : (1000000 : Int64).toInt = 1000000 := by decide
  have c2 : (1000 : Int32).toInt = 1000 := by decide
  have c3 : (1000 : Int64).toInt = 1000 := by decide
  simp at a0 b0
  rw [c1] at a1
  rw [c2] at b1
  have m0 : 0 ≤ w.toInt * p.toInt := Int.mul_nonneg a0 b0
  have m1 : w.toInt * p.toInt ≤ 1000000 * 1000 := Int.mul_le_mul a1 b1 b0 (by decide)
  have e1 : (w * p.toInt64).toInt = w.toInt * p.toInt := by
    rw [Int64.toInt_mul, Int32.toInt_toInt64]
    apply Int.bmod_eq_of_le <;> omega
  have e2 : (w * p.toInt64 / 1000).toInt = w.toInt * p.toInt / 1000 := by
    rw [Int64.toInt_div, e1, c3, Int.tdiv_eq_ediv_of_nonneg m0]
    apply Int.bmod_eq_of_le <;> omega
  rw [Int64.le_iff_toInt_le, Int64.le_iff_toInt_le, e2, c1]
  simp
  omega
theorem ne_sq {a : Int64} (h0 : ¬ a ≤ 0) (h1 : a ≤ 29000000) : ¬ a * a = 0 := by
  intro q
  have a0 := Int64.lt_iff_toInt_lt.mp (Int64.not_le.mp h0)
  have a1 := Int64.le_iff_toInt_le.mp h1
  have c1 : (29000000 : Int64).toInt = 29000000 := by decide
  rw [c1] at a1
  simp at a0
  have m1 : a.toInt * a.toInt ≤ 29000000 * 29000000 := Int.mul_le_mul a1 a1 (by omega) (by decide)
  have m0 : 0 < a.toInt * a.toInt := Int.mul_pos a0 a0
  have e1 : (a * a).toInt = a.toInt * a.toInt := by
    rw [Int64.toInt_mul]
    apply Int.bmod_eq_of_le <;> omega
  rw [q] at e1
  simp at e1
  omega
/-- what the Reader's walk keeps -/
abbrev RDI (I : Iv) : Prop := 0 ≤ I 1 5 ∧ I 1 5 ≤ I 1 2 ∧ I 1 2 ≤ I 1 1 ∧ I 1 1 ≤ 300
theorem wshift {w s : Int64} (h0 : 0 ≤ w) (h1 : w ≤ 1000000) : 0 ≤ w >>> s ∧ w >>> s ≤ 1000000 := by
  have a0 := Int64.le_iff_toInt_le.mp h0
  have a1 := Int64.le_iff_toInt_le.mp h1
  have c1 : (1000000 : Int64).toInt = 1000000 := by decide
  rw [c1] at a1
  simp at a0
  obtain ⟨k, e⟩ : ∃ k : Nat, (w >>> s).toInt = w.toInt / 2 ^ k := by
    refine ⟨(s.toBitVec.smod 64).toNat, ?_⟩
    rw [← Int64.toInt_toBitVec, Int64.toBitVec_shiftRight, BitVec.sshiftRight_eq', BitVec.toInt_sshiftRight, Int64.toInt_toBitVec, Int.shiftRight_eq_div_pow]
    rfl
  have b0 : 0 ≤ w.toInt / 2 ^ k := Int.ediv_nonneg a0 (Int.le_of_lt (Int.pow_pos (by decide)))
  have b1 : w.toInt / 2 ^ k ≤ w.toInt := Int.ediv_le_self _ a0
  rw [Int64.le_iff_toInt_le, Int64.le_iff_toInt_le, e, c1]
  generalize w.toInt / 2 ^ k = z at *
  simp
  omega
theorem wall_step {all w : Int64} {i : Int32} (h : 0 ≤ all.toInt ∧ all.toInt ≤ i.toInt * 1000000) (hi : ¬ 29 ≤ i) (h0 : 0 ≤ w) (h1 : w ≤ 1000000) : 0 ≤ (all + w).toInt ∧ (all + w).toInt ≤ (i + 1).toInt * 1000000 := by
  have a0 := Int64.le_iff_toInt_le.mp h0
  have a1 := Int64.le_iff_toInt_le.mp h1
  have c1 : (1000000 : Int64).toInt = 1000000 := by decide
  rw [c1] at a1
  simp at a0
  have hlt := Int32.not_le.mp hi
  have u := i32_up hlt
  have q := Int32.lt_iff_toInt_lt.mp hlt
  have c2 : (29 : Int32).toInt = 29 := by decide
  rw [c2] at q
  have e : (all + w).toInt = all.toInt + w.toInt := by
    rw [Int64.toInt_add]
    apply Int.bmod_eq_of_le <;> omega
  rw [e, u]; omega
theorem wall_end {all : Int64} {i : Int32} (h : 0 ≤ all.toInt ∧ all.toInt ≤ i.toInt * 1000000) (hi : i ≤ 29) : 0 ≤ all ∧ all ≤ 29000000 := by
  have q := Int32.le_iff_toInt_le.mp hi
  have c2 : (29 : Int32).toInt = 29 := by decide
  have c1 : (29000000 : Int64).toInt = 29000000 := by decide
  rw [c2] at q
  rw [Int64.le_iff_toInt_le, Int64.le_iff_toInt_le, c1]
  simp
  omega
def iA (i : Int32) : Nat := if i = 0 then 25 else 34
theorem stA_iA (i : Int32) : StA (iA i) := by
  unfold iA; split
  · exact stA_25
  · exact stA_34
theorem iA_16 (i : Int32) : iA i ≠ 16 := by
  unfold iA; split <;> decide
