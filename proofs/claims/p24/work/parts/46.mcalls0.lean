theorem mj_53 {v : Int64} {C J : Jv} (h : MK C J) (hv : 0 ≤ v ∧ v ≤ 9999) : MK C (wJ J 79 53 v) := by
  obtain ⟨b1, b2, b3⟩ := h.2 0 (by omega)
  have n : ∀ j, j ≠ 53 → wJ J 79 53 v 79 j = J 79 j := fun j hj => wJ_ne (Or.inr hj)
  have q := mj_blk (X := 0) (k := 53) (v := v) (by omega) h (by omega) (bi_eq (fun j h1 h2 => n j (by omega)) b1) (by unfold FU; rw [show 0 + 53 = 53 from rfl, wJ_self]; exact hv) (by unfold SD at *; rw [n _ (by omega)]; exact b3)
  refine ⟨?_, q.2⟩
  rw [← h.1]
  have e : (fun b => if b < 78 then wJ J 79 53 v b else fun _ => 0) = (fun b => if b < 78 then J b else fun _ => 0) := by
    funext b; split
    · exact wJ_row (by omega)
    · rfl
  simp only [MTJ, e, n 52 (by omega), n 54 (by omega), n 69 (by omega), n 212 (by omega), n 214 (by omega), n 229 (by omega), n 292 (by omega), n 294 (by omega), n 309 (by omega)]
theorem mj_low {k : Nat} {v : Int64} {C J : Jv} (h : MK C J) (hk : k < 52) (hb : BI 0 (wJ J 79 k v)) : MK C (wJ J 79 k v) := by
  obtain ⟨b1, b2, b3⟩ := h.2 0 (by omega)
  have n : ∀ j, 52 ≤ j → wJ J 79 k v 79 j = J 79 j := fun j hj => wJ_ne (Or.inr (by omega))
  have q := mj_blk (X := 0) (k := k) (v := v) (by omega) h (by omega) hb (by unfold FU; rw [n _ (by omega)]; exact b2) (by unfold SD at *; rw [n _ (by omega)]; exact b3)
  refine ⟨?_, q.2⟩
  rw [← h.1]
  have e : (fun b => if b < 78 then wJ J 79 k v b else fun _ => 0) = (fun b => if b < 78 then J b else fun _ => 0) := by
    funext b; split
    · exact wJ_row (by omega)
    · rfl
  simp only [MTJ, e, n 52 (by omega), n 54 (by omega), n 69 (by omega), n 212 (by omega), n 214 (by omega), n 229 (by omega), n 292 (by omega), n 294 (by omega), n 309 (by omega)]
theorem mj_12 {f : Nat} {C J : Jv} (h : MK C J) (hf : f < 8) : MK C (wJ J 79 (12 + f) 0) := by
  refine mj_low h (by omega) ?_
  intro g hg
  have b := (h.2 0 (by omega)).1 g hg
  have n : ∀ j, j ≠ 12 + f → wJ J 79 (12 + f) 0 79 j = J 79 j := fun j hj => wJ_ne (Or.inr hj)
  by_cases e : g = f
  · subst e
    have z : wJ J 79 (12 + g) 0 79 (0 + 12 + g) = 0 := by rw [Nat.zero_add, wJ_self]
    rw [z]
    exact ⟨Or.inl rfl, fun q => absurd q (by decide)⟩
  · rw [n (0 + 12 + g) (by omega), n (0 + 20 + g) (by omega), n (0 + 28 + g) (by omega)]; exact b
theorem mj_20 {f : Nat} {v : Int64} {C J : Jv} (h : MK C J) (hf : f < 8) (hv : 0 ≤ v ∧ v ≤ 2) : MK C (wJ J 79 (20 + f) v) := by
  refine mj_low h (by omega) ?_
  intro g hg
  have b := (h.2 0 (by omega)).1 g hg
  have n : ∀ j, j ≠ 20 + f → wJ J 79 (20 + f) v 79 j = J 79 j := fun j hj => wJ_ne (Or.inr hj)
  rw [n (0 + 12 + g) (by omega), n (0 + 28 + g) (by omega)]
  by_cases e : g = f
  · subst e
    have z : wJ J 79 (20 + g) v 79 (0 + 20 + g) = v := by rw [Nat.zero_add, wJ_self]
    rw [z]; exact ⟨b.1, fun q => ⟨hv, (b.2 q).2⟩⟩
  · rw [n (0 + 20 + g) (by omega)]; exact b
theorem mj_put {f : Nat} {v s c : Int64} {C J : Jv} (h : MK C J) (hf : f < 8) (hs : 0 ≤ s ∧ s ≤ 2) (hc : 1 ≤ c ∧ c ≤ 200) : MK C (wJ (wJ (wJ (wJ J 79 (12 + f) 1) 79 (4 + f) v) 79 (20 + f) s) 79 (28 + f) c) := by
  have m : ∀ j, j ≠ 12 + f → j ≠ 4 + f → j ≠ 20 + f → j ≠ 28 + f → wJ (wJ (wJ (wJ J 79 (12 + f) 1) 79 (4 + f) v) 79 (20 + f) s) 79 (28 + f) c 79 j = J 79 j := fun j h1 h2 h3 h4 => by
    rw [wJ_ne (Or.inr h4), wJ_ne (Or.inr h3), wJ_ne (Or.inr h2), wJ_ne (Or.inr h1)]
  refine ⟨?_, ?_⟩
  · rw [← h.1]
    have e : (fun b => if b < 78 then wJ (wJ (wJ (wJ J 79 (12 + f) 1) 79 (4 + f) v) 79 (20 + f) s) 79 (28 + f) c b else fun _ => 0) = (fun b => if b < 78 then J b else fun _ => 0) := by
      funext b; split
      · rw [wJ_row (by omega), wJ_row (by omega), wJ_row (by omega), wJ_row (by omega)]
      · rfl
    simp only [MTJ, e, m 52 (by omega) (by omega) (by omega) (by omega), m 54 (by omega) (by omega) (by omega) (by omega), m 69 (by omega) (by omega) (by omega) (by omega), m 212 (by omega) (by omega) (by omega) (by omega), m 214 (by omega) (by omega) (by omega) (by omega), m 229 (by omega) (by omega) (by omega) (by omega), m 292 (by omega) (by omega) (by omega) (by omega), m 294 (by omega) (by omega) (by omega) (by omega), m 309 (by omega) (by omega) (by omega) (by omega)]
  · intro X hX
    obtain ⟨b1, b2, b3⟩ := h.2 X hX
    refine ⟨fun g hg => ?_, ?_, ?_⟩
    · by_cases e : X = 0 ∧ g = f
      · obtain ⟨rfl, rfl⟩ := e
        have z1 : wJ (wJ (wJ (wJ J 79 (12 + g) 1) 79 (4 + g) v) 79 (20 + g) s) 79 (28 + g) c 79 (0 + 12 + g) = 1 := by
          rw [Nat.zero_add, wJ_ne (by omega), wJ_ne (by omega), wJ_ne (by omega), wJ_self]
        have z2 : wJ (wJ (wJ (wJ J 79 (12 + g) 1) 79 (4 + g) v) 79 (20 + g) s) 79 (28 + g) c 79 (0 + 20 + g) = s := by
          rw [Nat.zero_add, wJ_ne (by omega), wJ_self]
        have z3 : wJ (wJ (wJ (wJ J 79 (12 + g) 1) 79 (4 + g) v) 79 (20 + g) s) 79 (28 + g) c 79 (0 + 28 + g) = c := by
          rw [Nat.zero_add, wJ_self]
        rw [z1, z2, z3]
        exact ⟨Or.inr rfl, fun _ => ⟨hs, hc⟩⟩
      · rw [m (X + 12 + g) (by omega) (by omega) (by omega) (by omega), m (X + 20 + g) (by omega) (by omega) (by omega) (by omega), m (X + 28 + g) (by omega) (by omega) (by omega) (by omega)]
        exact b1 g hg
    · unfold FU; rw [m (X + 53) (by omega) (by omega) (by omega) (by omega)]; exact b2
    · unfold SD at *; rw [m (X + 70) (by omega) (by omega) (by omega) (by omega)]; exact b3
theorem mj_70 {v : Int64} {C J : Jv} (h : MK C J) (hv : 0 ≤ v ∧ v < 2147483648) : MK C (wJ J 79 70 v) := by
  obtain ⟨b1, b2, b3⟩ := h.2 0 (by omega)
  have n : ∀ j, j ≠ 70 → wJ J 79 70 v 79 j = J 79 j := fun j hj => wJ_ne (Or.inr hj)
  have q := mj_blk (X := 0) (k := 70) (v := v) (by omega) h (by omega) (bi_eq (fun j h1 h2 => n j (by omega)) b1) (by unfold FU; rw [n _ (by omega)]; exact b2) (by unfold SD; rw [show 0 + 70 = 70 from rfl, wJ_self]; exact hv)
  refine ⟨?_, q.2⟩
  rw [← h.1]
  have e : (fun b => if b < 78 then wJ J 79 70 v b else fun _ => 0) = (fun b => if b < 78 then J b else fun _ => 0) := by
    funext b; split
    · exact wJ_row (by omega)
    · rfl
  simp only [MTJ, e, n 52 (by omega), n 54 (by omega), n 69 (by omega), n 212 (by omega), n 214 (by omega), n 229 (by omega), n 292 (by omega), n 294 (by omega), n 309 (by omega)]
theorem mk_t54 {C J : Jv} (h : MK C J) : J 79 54 = C 79 54 := congrArg (fun q => q.2.2.1) h.1
theorem cap0 {C J : Jv} {f : Int32} (h : MK C J) (h0 : 0 ≤ f) (h1 : f < 8) (ht : J 79 (12 + f).toNatClampNeg = 1) : 1 ≤ J 79 ((0 : Int32) + 28 + (4 + f) - 4).toNatClampNeg ∧ J 79 ((0 : Int32) + 28 + (4 + f) - 4).toNatClampNeg ≤ 200 := by
  have e1 : (12 + f).toNatClampNeg = 12 + f.toNatClampNeg := tn_add (by decide) (by constructor <;> grind)
  have e2 := cap_ix (x := 0) (f := f) (by decide) h0 h1
  have hl : f.toNatClampNeg < 8 := tn_lt (n := 8) h0 (Int32.not_le.mpr h1)
  have b := (h.2 0 (by omega)).1 f.toNatClampNeg hl
  rw [e1] at ht
  rw [e2]
  have z : J 79 (0 + 12 + f.toNatClampNeg) = 1 := by rw [Nat.zero_add]; exact ht
  exact (b.2 z).2
theorem tk_mk0 {C J J1 : Jv} (h : MK C J) (t : TK 0 J J1) : MK C J1 := by
  refine ⟨?_, tg_mj (by omega) h.2 t.tg⟩
  have e : (fun b => if b < 78 then J1 b else fun _ => 0) = (fun b => if b < 78 then J b else fun _ => 0) := by
    funext b; split
    · exact t.1 b (by omega) (by omega)
    · rfl
  have n : ∀ j, 80 ≤ j ∨ j = 52 ∨ j = 54 ∨ j = 69 → J1 79 j = J 79 j := fun j hj => t.2.1 j (by unfold KP; omega)
  rw [← h.1]; simp only [MTJ, e, n 52 (by omega), n 54 (by omega), n 69 (by omega), n 212 (by omega), n 214 (by omega), n 229 (by omega), n 292 (by omega), n 294 (by omega), n 309 (by omega)]
theorem mod64 {x m : Int64} (hx : 0 ≤ x) (hm : 0 < m) : 0 ≤ x - x / m * m ∧ x - x / m * m < m := by
  have x0 := Int64.le_iff_toInt_le.mp hx
  have m0 := Int64.lt_iff_toInt_lt.mp hm
  have x2 := Int64.toInt_lt x
  have m2 := Int64.toInt_lt m
  simp at x0 m0
  have d0 : 0 ≤ x.toInt / m.toInt := Int.ediv_nonneg x0 (by omega)
  have d1 : x.toInt / m.toInt ≤ x.toInt := Int.ediv_le_self _ x0
  have e1 : (x / m).toInt = x.toInt / m.toInt := by
    rw [Int64.toInt_div, Int.tdiv_eq_ediv_of_nonneg x0]
    apply Int.bmod_eq_of_le <;> omega
  have p0 : x.toInt / m.toInt * m.toInt ≤ x.toInt := Int.ediv_mul_le _ (by omega)
  have p1 : 0 ≤ x.toInt / m.toInt * m.toInt := Int.mul_nonneg d0 (by omega)
  have e2 : (x / m * m).toInt = x.toInt / m.toInt * m.toInt := by
    rw [Int64.toInt_mul, e1]
    apply Int.bmod_eq_of_le <;> omega
  have q : x.toInt - x.toInt / m.toInt * m.toInt = x.toInt % m.toInt := by
    have := Int.emod_add_mul_ediv x.toInt m.toInt
    rw [Int.mul_comm] at this; omega
  have r0 := Int.emod_nonneg x.toInt (show m.toInt ≠ 0 by omega)
  have r1 := Int.emod_lt_of_pos x.toInt m0
  have e3 : (x - x / m * m).toInt = x.toInt % m.toInt := by
    rw [Int64.toInt_sub, e2, ← q]
    apply Int.bmod_eq_of_le <;> omega
  rw [Int64.le_iff_toInt_le, Int64.lt_iff_toInt_lt, e3]
  simp
  exact ⟨r0, r1⟩
theorem seed_bd {s : Int64} (h : 0 ≤ s ∧ s < 2147483648) : 0 ≤ (s * 1103515245 + 12345) - (s * 1103515245 + 12345) / 2147483648 * 2147483648 ∧ (s * 1103515245 + 12345) - (s * 1103515245 + 12345) / 2147483648 * 2147483648 < 2147483648 := by
  refine mod64 ?_ (by decide)
  have x0 := Int64.le_iff_toInt_le.mp h.1
  have x1 := Int64.lt_iff_toInt_lt.mp h.2
  have c1 : (2147483648 : Int64).toInt = 2147483648 := by decide
  have c2 : (1103515245 : Int64).toInt = 1103515245 := by decide
  have c3 : (12345 : Int64).toInt = 12345 := by decide
  rw [c1] at x1
  simp at x0
  have e1 : (s * 1103515245).toInt = s.toInt * 1103515245 := by
    rw [Int64.toInt_mul, c2]
    apply Int.bmod_eq_of_le <;> omega
  have e2 : (s * 1103515245 + 12345).toInt = s.toInt * 1103515245 + 12345 := by
    rw [Int64.toInt_add, e1, c3]
    apply Int.bmod_eq_of_le <;> omega
  rw [Int64.le_iff_toInt_le, e2]; simp; omega
theorem div_bd {s : Int64} (h : 0 ≤ s ∧ s < 2147483648) : 0 ≤ s / 65536 := by
  have x0 := Int64.le_iff_toInt_le.mp h.1
  have x1 := Int64.lt_iff_toInt_lt.mp h.2
  have c1 : (2147483648 : Int64).toInt = 2147483648 := by decide
  have c2 : (65536 : Int64).toInt = 65536 := by decide
  rw [c1] at x1
  simp at x0
  have e : (s / 65536).toInt = s.toInt / 65536 := by
    rw [Int64.toInt_div, c2, Int.tdiv_eq_ediv_of_nonneg x0]
    apply Int.bmod_eq_of_le <;> omega
  rw [Int64.le_iff_toInt_le, e]; simp; omega
theorem l2i_288 {a : Int64} (h : 0 ≤ a ∧ a < 288) : 0 ≤ a.toInt32 ∧ a.toInt32 < 288 := by
  have q := l2i_bd h.1 (by have := h.2; grind)
  have a1 := Int64.lt_iff_toInt_lt.mp h.2
  refine ⟨q.1, ?_⟩
  rw [Int32.lt_iff_toInt_lt, q.2]; exact a1
theorem i2l_le1 {a b : Int32} (h : a ≤ b) : a.toInt64 ≤ b.toInt64 := by
  rw [Int64.le_iff_toInt_le, Int32.toInt_toInt64, Int32.toInt_toInt64]
  exact Int32.le_iff_toInt_le.mp h
theorem mk_own54 {C J : Jv} (h : MK C J) : MK (wJ C 79 54 (J 79 54)) J := by
  have e : wJ C 79 54 (J 79 54) = C := by
    rw [show J 79 54 = C 79 54 from congrArg (fun q => q.2.2.1) h.1]
    funext b j; simp only [wJ]; split
    · next q => rw [q.1, q.2]
    · rfl
  rw [e]; exact h
theorem i2l_bd2 {a : Int32} (h : 1 ≤ a ∧ a ≤ 200) : 1 ≤ a.toInt64 ∧ a.toInt64 ≤ 200 := by
  have h1 : (1 : Int32).toInt64 ≤ a.toInt64 := i2l_le1 h.1
  have h2 : a.toInt64 ≤ (200 : Int32).toInt64 := i2l_le1 h.2
  exact ⟨h1, h2⟩
theorem mk_t0 {C J : Jv} (h : MK C J) : MK (wJ C 79 54 (C 79 54 + 0)) J := by
  have e : wJ C 79 54 (C 79 54 + 0) = C := by
    funext b j; simp only [wJ]; split
    · next q => rw [q.1, q.2]; simp
    · rfl
  rw [e]; exact h
theorem wJ_two {J : Jv} {a k : Nat} {v w : Int64} : wJ (wJ J a k v) a k w = wJ J a k w := by
  funext b j; simp only [wJ]; split <;> rfl
theorem mk_dd {C J J1 : Jv} (h : MK (wJ C 79 54 (J 79 54)) J) (k : MK J J1) : MK (wJ C 79 54 (J1 79 54)) J1 := by
  rw [mk_t54 k]; exact mk_tr h k
theorem mk_tt {C J J1 : Jv} (h : MK (wJ C 79 54 (J 79 54)) J) (t : TG 0 J J1) (ht : J1 79 (0 + 54) = J 79 (0 + 54) + 1) : MK (wJ C 79 54 (J1 79 54)) J1 := by
  have := tg_mk0 (t0 := J1 79 54) h t rfl
  rwa [wJ_two] at this
theorem tk0 {J J1 : Jv} (ht : J1 79 (0 + 54) = J 79 (0 + 54) + 1) : J1 79 54 = J 79 54 + 1 := ht
theorem tk_nn {t : Int64} {x n : Int32} (h : 0 ≤ t ∧ t ≤ 1000000000000) (h0 : 0 ≤ x) (hx : ¬ n ≤ x) (hn : n ≤ 2880) : 0 ≤ t + x.toInt64 := by
  have q := i2l_bd (a := x) (b := 2880) ⟨h0, by grind⟩
  have q2 : x.toInt64 ≤ 2880 := q.2
  grind
