def JR (J J' : Jv) : Prop := ∀ b, b ≠ 79 → b ≠ 88 → J' b = J b
theorem jr_rfl {J : Jv} : JR J J := fun _ _ _ => rfl
theorem JR.tr {J J1 J2 : Jv} (h : JR J J1) (k : JR J1 J2) : JR J J2 := fun b h1 h2 => (k b h1 h2).trans (h b h1 h2)
theorem jr_fb {X : Nat} {J J1 : Jv} (h : FB X J J1) : JR J J1 := fun b h1 _ => h.1 b h1
theorem jr_tg {X : Nat} {J J1 : Jv} (h : TG X J J1) : JR J J1 := fun b h1 h2 => h.1 b h1 h2
theorem mi_seen {k : Nat} {v e : Int32} {B I : Iv} (h : MI B I) (he : 1 ≤ e ∧ e ≤ 999) : MI (wI B 91 k 1) (wI (wI (wI I 91 k 1) 92 k v) 93 k e) := by
  have m : ∀ b, b ≠ 91 → b ≠ 92 → b ≠ 93 → wI (wI (wI I 91 k 1) 92 k v) 93 k e b = I b := fun b h1 h2 h3 => by rw [wI_row h3, wI_row h2, wI_row h1]
  have m91 : wI (wI (wI I 91 k 1) 92 k v) 93 k e 91 = wI I 91 k 1 91 := by rw [wI_row (by decide), wI_row (by decide)]
  have z : (fun b => if b < 78 then wI (wI (wI I 91 k 1) 92 k v) 93 k e b else fun _ => 0) = (fun b => if b < 78 then wI I 91 k 1 b else fun _ => 0) := by
    funext b; split
    · rw [m b (by omega) (by omega) (by omega), wI_row (by omega)]
    · rfl
  refine ⟨?_, ?_⟩
  · rw [← mti_cong (a := 91) (k := k) (v := 1) h.1]
    have n : ∀ b, b ≠ 91 → wI I 91 k 1 b = I b := fun b q => wI_row q
    simp only [MTI, z, m91, m 80 (by decide) (by decide) (by decide), m 94 (by decide) (by decide) (by decide), m 95 (by decide) (by decide) (by decide), m 98 (by decide) (by decide) (by decide), m 78 (by decide) (by decide) (by decide), n 78 (by decide), n 80 (by decide), n 94 (by decide), n 95 (by decide), n 98 (by decide)]
  · obtain ⟨a1, a2, a3, a4, a5, a6⟩ := h.2
    unfold MA
    rw [m 78 (by decide) (by decide) (by decide), m 81 (by decide) (by decide) (by decide), m 94 (by decide) (by decide) (by decide), m91]
    refine ⟨a1, a2, a3, a4, fun j hj => ?_, a6⟩
    by_cases q : j = k
    · subst q; rw [wI_self]; exact Or.inr (by rw [wI_self]; exact he)
    · rw [wI_ne (Or.inr q), wI_ne (Or.inr q), wI_row (by decide), wI_row (by decide)]; exact a5 j hj
theorem rI2_own {I : Iv} {a : Nat} : rI2 I a (I a) = I := by
  funext b; simp only [rI2]; split
  · next q => rw [q]
  · rfl
theorem mi_forg {k : Nat} {B I : Iv} (h : MI (rI2 B 91 (I 91)) I) : MI (rI2 B 91 (wI I 91 k 0 91)) (wI I 91 k 0) := by
  have q := mi_91z (k := k) h
  have e : wI (rI2 B 91 (I 91)) 91 k 0 = rI2 B 91 (wI I 91 k 0 91) := by
    funext b j; simp only [wI, rI2]
    by_cases z : b = 91
    · subst z; simp [wI]
    · simp [z]
  rw [e] at q; exact q
theorem mi_30 {B I : Iv} (h : MI B I) : I 78 30 = B 78 30 := congrArg (fun q => q.2.2.2.2.2.2.2.2) h.1
theorem mi_2 {B I : Iv} (h : MI B I) : I 78 2 = B 78 2 := congrArg (fun q => q.2.2.2.2.2.2.1) h.1
theorem half_bd {v : Int64} (h : 0 ≤ v ∧ v ≤ 1000000) : 0 ≤ v / 2 ∧ v / 2 ≤ 1000000 := by
  have x0 := Int64.le_iff_toInt_le.mp h.1
  have x1 := Int64.le_iff_toInt_le.mp h.2
  have c1 : (1000000 : Int64).toInt = 1000000 := by decide
  have c2 : (2 : Int64).toInt = 2 := by decide
  rw [c1] at x1
  simp at x0
  have e : (v / 2).toInt = v.toInt / 2 := by
    rw [Int64.toInt_div, c2, Int.tdiv_eq_ediv_of_nonneg x0]
    apply Int.bmod_eq_of_le <;> omega
  rw [Int64.le_iff_toInt_le, Int64.le_iff_toInt_le, e, c1]; simp; omega
theorem ma_pri {I : Iv} (h : MA I) {x : Int32} (h0 : 0 ≤ x) (h1 : x < 7) : 0 ≤ I 94 x.toNatClampNeg ∧ I 94 x.toNatClampNeg ≤ 1000 :=
  h.2.2.2.2.2 _ (tn_lt (n := 7) h0 (Int32.not_le.mpr h1))
theorem ma_seen {I : Iv} (h : MA I) {x : Int32} (h0 : 0 ≤ x) (h1 : x < 7) (hs : ¬ I 91 x.toNatClampNeg = 0) : 1 ≤ I 93 x.toNatClampNeg ∧ I 93 x.toNatClampNeg ≤ 999 :=
  (h.2.2.2.2.1 _ (tn_lt (n := 7) h0 (Int32.not_le.mpr h1))).resolve_left hs
theorem wl_step {all w : Int64} {i : Int32} (h : 0 ≤ all.toInt ∧ all.toInt ≤ i.toInt * 1000000) (hi : ¬ 128 ≤ i) (h0 : 0 ≤ w) (h1 : w ≤ 1000000) : 0 ≤ (all + w).toInt ∧ (all + w).toInt ≤ (i + 1).toInt * 1000000 := by
  have a0 := Int64.le_iff_toInt_le.mp h0
  have a1 := Int64.le_iff_toInt_le.mp h1
  have c1 : (1000000 : Int64).toInt = 1000000 := by decide
  rw [c1] at a1
  simp at a0
  have hlt := Int32.not_le.mp hi
  have u := i32_up hlt
  have q := Int32.lt_iff_toInt_lt.mp hlt
  have c2 : (128 : Int32).toInt = 128 := by decide
  rw [c2] at q
  have e : (all + w).toInt = all.toInt + w.toInt := by
    rw [Int64.toInt_add]
    apply Int.bmod_eq_of_le <;> omega
  rw [e, u]; omega
theorem wl_skip {all : Int64} {i : Int32} (h : 0 ≤ all.toInt ∧ all.toInt ≤ i.toInt * 1000000) (hi : ¬ 128 ≤ i) : 0 ≤ all.toInt ∧ all.toInt ≤ (i + 1).toInt * 1000000 := by
  have u := i32_up (Int32.not_le.mp hi)
  rw [u]; omega
theorem wl_end {all : Int64} {i : Int32} (h : 0 ≤ all.toInt ∧ all.toInt ≤ i.toInt * 1000000) (hi : i ≤ 128) : 0 ≤ all ∧ all ≤ 128000000 := by
  have q := Int32.le_iff_toInt_le.mp hi
  have c2 : (128 : Int32).toInt = 128 := by decide
  have c1 : (128000000 : Int64).toInt = 128000000 := by decide
  rw [c2] at q
  rw [Int64.le_iff_toInt_le, Int64.le_iff_toInt_le, c1]
  simp
  omega
theorem ne_sq2 {a : Int64} (hn : ¬ a = 0) (h : 0 ≤ a ∧ a ≤ 128000000) : ¬ a * a = 0 := by
  intro q
  have a0 := Int64.le_iff_toInt_le.mp h.1
  have a1 := Int64.le_iff_toInt_le.mp h.2
  have c1 : (128000000 : Int64).toInt = 128000000 := by decide
  rw [c1] at a1
  simp at a0
  have a2 : a.toInt ≠ 0 := fun z => hn (Int64.toInt_inj.mp (by rw [z]; rfl))
  have m1 : a.toInt * a.toInt ≤ 128000000 * 128000000 := Int.mul_le_mul a1 a1 (by omega) (by decide)
  have m0 : 0 < a.toInt * a.toInt := Int.mul_pos (by omega) (by omega)
  have e1 : (a * a).toInt = a.toInt * a.toInt := by
    rw [Int64.toInt_mul]
    apply Int.bmod_eq_of_le <;> omega
  rw [q] at e1
  simp at e1
  omega
/-- the FOODS of now have their caps in the tried block too -/
def HS (J : Jv) : Prop := ∀ f, f < 8 → J 79 (12 + f) = 1 → 1 ≤ J 79 (108 + f)
theorem hs_tg {J J1 : Jv} (h : HS J) (t : TG 80 J J1) : HS J1 := by
  intro f hf q
  rw [t.2.1 (108 + f) (by unfold KG; omega)]
  rw [t.2.1 (12 + f) (by unfold KG; omega)] at q
  exact h f hf q
theorem cy_hs {J J1 : Jv} (b : BI 0 J) (c : CY 0 80 J J1) : HS J1 := by
  intro f hf q
  rw [c.1.2 (12 + f) (by omega)] at q
  have e : J1 79 (108 + f) = J 79 (0 + (28 + f)) := by
    have := c.2 (28 + f) (by omega)
    rwa [show 80 + (28 + f) = 108 + f by omega] at this
  rw [e]
  have z : J 79 (0 + 12 + f) = 1 := by rw [Nat.zero_add]; exact q
  have := ((b f hf).2 z).2.1
  rwa [Nat.add_assoc] at this
theorem hs_cap {J : Jv} {f : Int32} (h : HS J) (h0 : 0 ≤ f) (h1 : f < 8) (ht : J 79 (12 + f).toNatClampNeg = 1) : 1 ≤ J 79 ((80 : Int32) + 28 + (4 + f) - 4).toNatClampNeg := by
  have e1 : (12 + f).toNatClampNeg = 12 + f.toNatClampNeg := tn_add (by decide) (by constructor <;> grind)
  have e2 := cap_ix (x := 80) (f := f) (by decide) h0 h1
  have hl : f.toNatClampNeg < 8 := tn_lt (n := 8) h0 (Int32.not_le.mpr h1)
  rw [e1] at ht
  rw [e2]
  exact h _ hl ht
theorem hs_w {J : Jv} {k : Nat} {v : Int64} (h : HS J) (hk : 20 ≤ k ∧ (k < 108 ∨ 116 ≤ k)) : HS (wJ J 79 k v) := by
  intro f hf q
  rw [wJ_ne (by omega)] at q ⊢
  exact h f hf q
theorem mj_100 {g : Nat} {v : Int64} {C J : Jv} (h : MK C J) (hg : g < 8) (hv : 0 ≤ v ∧ v ≤ 2) : MK C (wJ J 79 (100 + g) v) := by
  have n : ∀ j, j ≠ 100 + g → wJ J 79 (100 + g) v 79 j = J 79 j := fun j hj => wJ_ne (Or.inr hj)
  refine ⟨?_, ?_⟩
  · rw [← h.1]
    have e : (fun b => if b < 78 then wJ J 79 (100 + g) v b else fun _ => 0) = (fun b => if b < 78 then J b else fun _ => 0) := by
      funext b; split
      · exact wJ_row (by omega)
      · rfl
    simp only [MTJ, e, n 52 (by omega), n 54 (by omega), n 69 (by omega), n 212 (by omega), n 214 (by omega), n 229 (by omega), n 292 (by omega), n 294 (by omega), n 309 (by omega)]
  · refine mj_out (X := 80) (by omega) h.2 (fun k hk => n k (by omega)) ?_ ?_ ?_
    · intro f hf
      have b := (h.2 80 (by omega)).1 f hf
      rw [n (80 + 12 + f) (by omega), n (80 + 28 + f) (by omega)]
      by_cases q : f = g
      · subst q
        have z : wJ J 79 (100 + f) v 79 (80 + 20 + f) = v := by rw [show 80 + 20 + f = 100 + f by omega, wJ_self]
        rw [z]; exact ⟨b.1, fun w => ⟨hv, (b.2 w).2⟩⟩
      · rw [n (80 + 20 + f) (by omega)]; exact b
    · unfold FU; rw [n _ (by omega)]; exact (h.2 80 (by omega)).2.1
    · have := (h.2 80 (by omega)).2.2
      unfold SD at *; rw [n _ (by omega)]; exact this
theorem row_bd {r p : Int32} (h0 : 0 ≤ r) (hp : 1 ≤ p) : 0 ≤ r / p - r / p / 3 * 3 ∧ r / p - r / p / 3 * 3 ≤ 2 := by
  have x0 := Int32.le_iff_toInt_le.mp h0
  have p0 := Int32.le_iff_toInt_le.mp hp
  have x2 := Int32.toInt_lt r
  have p2 := Int32.toInt_lt p
  simp at x0
  have c1 : (1 : Int32).toInt = 1 := by decide
  have c3 : (3 : Int32).toInt = 3 := by decide
  rw [c1] at p0
  have d0 : 0 ≤ r.toInt / p.toInt := Int.ediv_nonneg x0 (by omega)
  have d1 : r.toInt / p.toInt ≤ r.toInt := Int.ediv_le_self _ x0
  have e1 : (r / p).toInt = r.toInt / p.toInt := by
    rw [Int32.toInt_div, Int.tdiv_eq_ediv_of_nonneg x0]
    apply Int.bmod_eq_of_le <;> omega
  generalize r / p = q at *
  generalize r.toInt / p.toInt = z at *
  have e2 : (q / 3).toInt = z / 3 := by
    rw [Int32.toInt_div, e1, c3, Int.tdiv_eq_ediv_of_nonneg d0]
    apply Int.bmod_eq_of_le <;> omega
  have e3 : (q / 3 * 3).toInt = z / 3 * 3 := by
    rw [Int32.toInt_mul, e2, c3]
    apply Int.bmod_eq_of_le <;> omega
  have e4 : (q - q / 3 * 3).toInt = z - z / 3 * 3 := by
    rw [Int32.toInt_sub, e1, e3]
    apply Int.bmod_eq_of_le <;> omega
  have c2 : (2 : Int32).toInt = 2 := by decide
  rw [Int32.le_iff_toInt_le, Int32.le_iff_toInt_le, e4, c2]; simp; omega
