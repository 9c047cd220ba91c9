theorem hs_cap2 {J : Jv} {f : Int32} (h : HS J) (h0 : 0 ≤ f) (h1 : f < 8) (ht : J 79 (12 + f.toNatClampNeg) = 1) : 1 ≤ J 79 ((80 : Int32) + 28 + (4 + f) - 4).toNatClampNeg := by
  refine hs_cap h h0 h1 ?_
  rw [tn_add (by decide) (by constructor <;> grind)]; exact ht
theorem cy_there {J J1 : Jv} {f : Int32} (c : CY 0 80 J J1) (h0 : 0 ≤ f) (h1 : f < 8) (ht : J 79 (12 + f).toNatClampNeg = 1) : J1 79 (12 + f).toNatClampNeg = 1 := by
  have hl : f.toNatClampNeg < 8 := tn_lt (n := 8) h0 (Int32.not_le.mpr h1)
  have e1 : (12 + f).toNatClampNeg = 12 + f.toNatClampNeg := tn_add (by decide) (by constructor <;> grind)
  rw [c.1.2 _ (by rw [e1]; omega)]; exact ht
theorem cf_tg {J J1 : Jv} {f : Int32} (h0 : 0 ≤ f) (h1 : f < 8) (t : TG 80 J J1) (h : 1 ≤ J 79 ((80 : Int32) + 28 + (4 + f) - 4).toNatClampNeg) : 1 ≤ J1 79 ((80 : Int32) + 28 + (4 + f) - 4).toNatClampNeg := by
  have hl : f.toNatClampNeg < 8 := tn_lt (n := 8) h0 (Int32.not_le.mpr h1)
  have e2 := cap_ix (x := 80) (f := f) (by decide) h0 h1
  rw [t.2.1 _ (by rw [e2]; unfold KG; have : (80 : Int32).toNatClampNeg = 80 := rfl; omega)]; exact h
theorem cf_w {J : Jv} {f : Int32} {v : Int64} (h0 : 0 ≤ f) (h1 : f < 8) (h : 1 ≤ J 79 ((80 : Int32) + 28 + (4 + f) - 4).toNatClampNeg) : 1 ≤ wJ J 79 149 v 79 ((80 : Int32) + 28 + (4 + f) - 4).toNatClampNeg := by
  have hl : f.toNatClampNeg < 8 := tn_lt (n := 8) h0 (Int32.not_le.mpr h1)
  have e2 := cap_ix (x := 80) (f := f) (by decide) h0 h1
  rw [wJ_ne (Or.inr (by rw [e2]; have : (80 : Int32).toNatClampNeg = 80 := rfl; omega))]; exact h
def kpJ (C : Jv) (i : Int32) : Jv := if i = 0 then wJ (wJ (wJ C 79 212 (C 79 52)) 79 214 (C 79 54)) 79 229 (C 79 69) else wJ (wJ (wJ C 79 292 (C 79 52)) 79 294 (C 79 54)) 79 309 (C 79 69)
def gbJ (C : Jv) (i : Int32) : Jv := if i = 0 then wJ (wJ (wJ C 79 52 (C 79 212)) 79 54 (C 79 214)) 79 69 (C 79 229) else wJ (wJ (wJ C 79 52 (C 79 292)) 79 54 (C 79 294)) 79 69 (C 79 309)
theorem mtj_row {C J J1 D : Jv} (h : MTJ J = MTJ C) (hr : ∀ b, b ≠ 79 → J1 b = J b) (hd : ∀ b, b ≠ 79 → D b = C b) : (fun b => if b < 78 then J1 b else fun _ => 0) = (fun b => if b < 78 then D b else fun _ => 0) := by
  have := congrArg (fun q => q.1) h
  funext b
  have q := congrFun this b
  simp only [MTJ] at q
  split
  · next z => rw [if_pos z, if_pos z] at q; rw [hr b (by omega), hd b (by omega), q]
  · rfl
theorem mk_keep {i : Int32} {C J J1 : Jv} (hi : i = 0 ∨ i = 1) (h : MK C J) (c : CY 0 (160 + 80 * i).toNatClampNeg J J1) : MK (kpJ C i) J1 := by
  have hh := h.1
  simp only [MTJ, Prod.mk.injEq] at hh
  obtain ⟨-, h1, h2, h3, h4, h5, h6, h7, h8, h9⟩ := hh
  rcases hi with rfl | rfl
  · have c : CY 0 160 J J1 := c
    refine ⟨?_, cy_mj (by omega) (by omega) h.2 c⟩
    have e := mtj_row (J1 := J1) (D := kpJ C 0) h.1 (fun b q => c.1.1 b q) (fun b q => by unfold kpJ; rw [if_pos rfl, wJ_row q, wJ_row q, wJ_row q])
    have n : ∀ j, (j < 160 ∨ 240 ≤ j) → J1 79 j = J 79 j := fun j hj => c.1.2 j (by omega)
    have a1 : J1 79 212 = J 79 52 := c.2 52 (by omega)
    have a2 : J1 79 214 = J 79 54 := c.2 54 (by omega)
    have a3 : J1 79 229 = J 79 69 := c.2 69 (by omega)
    simp only [MTJ, e, n 52 (by omega), n 54 (by omega), n 69 (by omega), n 292 (by omega), n 294 (by omega), n 309 (by omega), a1, a2, a3, h1, h2, h3, h7, h8, h9]
    simp [kpJ, wJ]
  · have c : CY 0 240 J J1 := c
    refine ⟨?_, cy_mj (by omega) (by omega) h.2 c⟩
    have e := mtj_row (J1 := J1) (D := kpJ C 1) h.1 (fun b q => c.1.1 b q) (fun b q => by unfold kpJ; rw [if_neg (by decide), wJ_row q, wJ_row q, wJ_row q])
    have n : ∀ j, (j < 240 ∨ 320 ≤ j) → J1 79 j = J 79 j := fun j hj => c.1.2 j (by omega)
    have a1 : J1 79 292 = J 79 52 := c.2 52 (by omega)
    have a2 : J1 79 294 = J 79 54 := c.2 54 (by omega)
    have a3 : J1 79 309 = J 79 69 := c.2 69 (by omega)
    simp only [MTJ, e, n 52 (by omega), n 54 (by omega), n 69 (by omega), n 212 (by omega), n 214 (by omega), n 229 (by omega), a1, a2, a3, h1, h2, h3, h4, h5, h6]
    simp [kpJ, wJ]
theorem mk_back {i : Int32} {C J J1 : Jv} (hi : i = 0 ∨ i = 1) (h : MK C J) (c : CY (160 + 80 * i).toNatClampNeg 0 J J1) : MK (gbJ C i) J1 := by
  have hh := h.1
  simp only [MTJ, Prod.mk.injEq] at hh
  obtain ⟨-, h1, h2, h3, h4, h5, h6, h7, h8, h9⟩ := hh
  rcases hi with rfl | rfl
  · have c : CY 160 0 J J1 := c
    refine ⟨?_, cy_mj (by omega) (by omega) h.2 c⟩
    have e := mtj_row (J1 := J1) (D := gbJ C 0) h.1 (fun b q => c.1.1 b q) (fun b q => by unfold gbJ; rw [if_pos rfl, wJ_row q, wJ_row q, wJ_row q])
    have n : ∀ j, 80 ≤ j → J1 79 j = J 79 j := fun j hj => c.1.2 j (by omega)
    have a1 : J1 79 52 = J 79 212 := c.2 52 (by omega)
    have a2 : J1 79 54 = J 79 214 := c.2 54 (by omega)
    have a3 : J1 79 69 = J 79 229 := c.2 69 (by omega)
    simp only [MTJ, e, n 212 (by omega), n 214 (by omega), n 229 (by omega), n 292 (by omega), n 294 (by omega), n 309 (by omega), a1, a2, a3, h4, h5, h6, h7, h8, h9]
    simp [gbJ, wJ]
  · have c : CY 240 0 J J1 := c
    refine ⟨?_, cy_mj (by omega) (by omega) h.2 c⟩
    have e := mtj_row (J1 := J1) (D := gbJ C 1) h.1 (fun b q => c.1.1 b q) (fun b q => by unfold gbJ; rw [if_neg (by decide), wJ_row q, wJ_row q, wJ_row q])
    have n : ∀ j, 80 ≤ j → J1 79 j = J 79 j := fun j hj => c.1.2 j (by omega)
    have a1 : J1 79 52 = J 79 292 := c.2 52 (by omega)
    have a2 : J1 79 54 = J 79 294 := c.2 54 (by omega)
    have a3 : J1 79 69 = J 79 309 := c.2 69 (by omega)
    simp only [MTJ, e, n 212 (by omega), n 214 (by omega), n 229 (by omega), n 292 (by omega), n 294 (by omega), n 309 (by omega), a1, a2, a3, h4, h5, h6, h7, h8, h9]
    simp [gbJ, wJ]
theorem i2l_31 {a : Int32} (h : 0 ≤ a) : 0 ≤ a.toInt64 ∧ a.toInt64 < 2147483648 := by
  have x0 := Int32.le_iff_toInt_le.mp h
  have x1 := Int32.toInt_lt a
  simp at x0
  have c : (2147483648 : Int64).toInt = 2147483648 := by decide
  rw [Int64.le_iff_toInt_le, Int64.lt_iff_toInt_lt, Int32.toInt_toInt64, c]
  simp; omega
