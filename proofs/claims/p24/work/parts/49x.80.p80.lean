/-! ===== numbers of both widths ===== -/
theorem i3_add {a b : Int32} (h0 : -2147483648 ≤ a.toInt + b.toInt) (h1 : a.toInt + b.toInt ≤ 2147483647) : (a + b).toInt = a.toInt + b.toInt := by
  rw [Int32.toInt_add]; apply Int.bmod_eq_of_le <;> omega
theorem i3_sub {a b : Int32} (h0 : -2147483648 ≤ a.toInt - b.toInt) (h1 : a.toInt - b.toInt ≤ 2147483647) : (a - b).toInt = a.toInt - b.toInt := by
  rw [Int32.toInt_sub]; apply Int.bmod_eq_of_le <;> omega
theorem i3_mul {a b : Int32} (h0 : -2147483648 ≤ a.toInt * b.toInt) (h1 : a.toInt * b.toInt ≤ 2147483647) : (a * b).toInt = a.toInt * b.toInt := by
  rw [Int32.toInt_mul]; apply Int.bmod_eq_of_le <;> omega
theorem i6_add {a b : Int64} (h0 : -9223372036854775808 ≤ a.toInt + b.toInt) (h1 : a.toInt + b.toInt ≤ 9223372036854775807) : (a + b).toInt = a.toInt + b.toInt := by
  rw [Int64.toInt_add]; apply Int.bmod_eq_of_le <;> omega
theorem i6_sub {a b : Int64} (h0 : -9223372036854775808 ≤ a.toInt - b.toInt) (h1 : a.toInt - b.toInt ≤ 9223372036854775807) : (a - b).toInt = a.toInt - b.toInt := by
  rw [Int64.toInt_sub]; apply Int.bmod_eq_of_le <;> omega
theorem i6_mul {a b : Int64} (h0 : -9223372036854775808 ≤ a.toInt * b.toInt) (h1 : a.toInt * b.toInt ≤ 9223372036854775807) : (a * b).toInt = a.toInt * b.toInt := by
  rw [Int64.toInt_mul]; apply Int.bmod_eq_of_le <;> omega
theorem wd6 (a : Int32) : a.toInt64.toInt = a.toInt := Int32.toInt_toInt64 a
theorem wd6_eq {a : Int32} {b : Int64} (h : a.toInt = b.toInt) : a.toInt64 = b := Int64.toInt_inj.mp ((wd6 a).trans h)
theorem i3_rng (a : Int32) : -2147483648 ≤ a.toInt ∧ a.toInt ≤ 2147483647 := by
  have h1 := Int32.le_toInt a
  have h2 := Int32.toInt_lt a
  omega
theorem i6_rng (a : Int64) : -9223372036854775808 ≤ a.toInt ∧ a.toInt ≤ 9223372036854775807 := by
  have h1 := Int64.le_toInt a
  have h2 := Int64.toInt_lt a
  omega
theorem wd6_add {a b : Int32} (h0 : -2147483648 ≤ a.toInt + b.toInt) (h1 : a.toInt + b.toInt ≤ 2147483647) : (a + b).toInt64 = a.toInt64 + b.toInt64 :=
  wd6_eq (by rw [i3_add h0 h1, i6_add (by rw [wd6, wd6]; omega) (by rw [wd6, wd6]; omega), wd6, wd6])
theorem wd6_sub {a b : Int32} (h0 : -2147483648 ≤ a.toInt - b.toInt) (h1 : a.toInt - b.toInt ≤ 2147483647) : (a - b).toInt64 = a.toInt64 - b.toInt64 :=
  wd6_eq (by rw [i3_sub h0 h1, i6_sub (by rw [wd6, wd6]; omega) (by rw [wd6, wd6]; omega), wd6, wd6])
theorem wd6_mul {a b : Int32} (h0 : -2147483648 ≤ a.toInt * b.toInt) (h1 : a.toInt * b.toInt ≤ 2147483647) : (a * b).toInt64 = a.toInt64 * b.toInt64 :=
  wd6_eq (by rw [i3_mul h0 h1, i6_mul (by rw [wd6, wd6]; omega) (by rw [wd6, wd6]; omega), wd6, wd6])
theorem wd6_div {a b : Int32} (h : b ≠ -1) : (a / b).toInt64 = a.toInt64 / b.toInt64 := Int32.toInt64_div_of_ne_right a b h
theorem i6_div {a b : Int64} (h : b ≠ -1) : (a / b).toInt = a.toInt.tdiv b.toInt := Int64.toInt_div_of_ne_right a b h
theorem i3_div {a b : Int32} (h : b ≠ -1) : (a / b).toInt = a.toInt.tdiv b.toInt := Int32.toInt_div_of_ne_right a b h
theorem sd6 {v : Int64} (h0 : -2147483648 ≤ v.toInt) (h1 : v.toInt ≤ 2147483647) : v.toInt32.toInt = v.toInt := by
  rw [Int64.toInt_toInt32]; apply Int.bmod_eq_of_le <;> omega
theorem sd6w {v : Int64} (h0 : -2147483648 ≤ v.toInt) (h1 : v.toInt ≤ 2147483647) : v.toInt32.toInt64 = v := wd6_eq (sd6 h0 h1)
theorem wsd6 (a : Int32) : a.toInt64.toInt32 = a := by
  apply Int32.toInt_inj.mp
  have h := i3_rng a
  rw [sd6 (by rw [wd6]; omega) (by rw [wd6]; omega), wd6]
theorem wd6_inj {a b : Int32} : a.toInt64 = b.toInt64 ↔ a = b := ⟨fun h => by rw [← wsd6 a, h, wsd6], fun h => by rw [h]⟩
theorem wd6_le {a b : Int32} : a.toInt64 ≤ b.toInt64 ↔ a ≤ b := Int32.toInt64_le
theorem wd6_lt {a b : Int32} : a.toInt64 < b.toInt64 ↔ a < b := Int32.toInt64_lt
/-- cut towards 0, by a positive number -/
theorem td_ge {x n : Int} (hn : 0 < n) (h : 0 ≤ x) : n * x.tdiv n ≤ x ∧ x < n * x.tdiv n + n ∧ 0 ≤ x.tdiv n := by
  have h1 := Int.mul_tdiv_add_tmod x n
  have h2 := Int.tmod_nonneg n h
  have h3 := Int.tmod_lt_of_pos x hn
  exact ⟨by omega, by omega, Int.tdiv_nonneg h (Int.le_of_lt hn)⟩
theorem td_le {x n : Int} (hn : 0 < n) (h : x ≤ 0) : x ≤ n * x.tdiv n ∧ n * x.tdiv n < x + n ∧ x.tdiv n ≤ 0 := by
  have h1 := td_ge (x := -x) hn (by omega)
  rw [Int.neg_tdiv] at h1
  have h2 : n * -x.tdiv n = -(n * x.tdiv n) := Int.mul_neg n (x.tdiv n)
  rw [h2] at h1
  omega
/-- both ways: what is cut stays within what it was cut of -/
theorem td_up {x n P : Int} (hn : 0 < n) (hP : 0 ≤ P) (h : x ≤ P) : n * x.tdiv n ≤ P := by
  rcases Int.le_total 0 x with q | q
  · have := td_ge hn q; omega
  · have := td_le hn q
    have h0 : n * x.tdiv n ≤ 0 := by
      have := Int.mul_le_mul_of_nonneg_left this.2.2 (Int.le_of_lt hn)
      rw [Int.mul_zero] at this; exact this
    omega
theorem td_dn {x n P : Int} (hn : 0 < n) (hP : 0 ≤ P) (h : -P ≤ x) : -P ≤ n * x.tdiv n := by
  have h1 := td_up (x := -x) hn hP (by omega)
  rw [Int.neg_tdiv, Int.mul_neg] at h1
  omega
/-- a flow: by an ease, from the one to the other -/
def fl6 (e a b : Int64) : Int64 := e * (a - b) / 100
theorem c1h : (100 : Int64).toInt = 100 := by decide
theorem fl6_t {e a b : Int64} (he : 0 ≤ e.toInt ∧ e.toInt ≤ 1000) (ha : -100000000 ≤ a.toInt ∧ a.toInt ≤ 100000000) (hb : -100000000 ≤ b.toInt ∧ b.toInt ≤ 100000000) : (fl6 e a b).toInt = (e.toInt * (a.toInt - b.toInt)).tdiv 100 := by
  unfold fl6
  have d : (a - b).toInt = a.toInt - b.toInt := i6_sub (by omega) (by omega)
  have p1 : e.toInt * (a.toInt - b.toInt) ≤ 1000 * 200000000 := by
    have h1 : e.toInt * (a.toInt - b.toInt) ≤ e.toInt * 200000000 := Int.mul_le_mul_of_nonneg_left (by omega) he.1
    omega
  have p2 : -(1000 * 200000000) ≤ e.toInt * (a.toInt - b.toInt) := by
    have h1 : e.toInt * (-200000000) ≤ e.toInt * (a.toInt - b.toInt) := Int.mul_le_mul_of_nonneg_left (by omega) he.1
    omega
  rw [i6_div (by decide), i6_mul (by rw [d]; omega) (by rw [d]; omega), d, c1h]
/-- bounds of a flow: to a, of warmth at most M and at least -M, from b -/
theorem fl6_b {e a b : Int64} {E M : Int} (he : 0 ≤ e.toInt ∧ e.toInt ≤ E) (hE : E ≤ 1000) (hM : M ≤ 100000000) (ha : -M ≤ a.toInt ∧ a.toInt ≤ M) (hb : -M ≤ b.toInt ∧ b.toInt ≤ M) :
    100 * (fl6 e a b).toInt ≤ E * (M - b.toInt) ∧ -(E * (M + b.toInt)) ≤ 100 * (fl6 e a b).toInt ∧ 100 * (fl6 e a b).toInt ≤ E * (M + a.toInt) ∧ -(E * (M - a.toInt)) ≤ 100 * (fl6 e a b).toInt := by
  rw [fl6_t ⟨he.1, by omega⟩ ⟨by omega, by omega⟩ ⟨by omega, by omega⟩]
  have m1 : ∀ x : Int, 0 ≤ x → e.toInt * x ≤ E * x := fun x hx => Int.mul_le_mul_of_nonneg_right he.2 hx
  have m0 : ∀ x : Int, 0 ≤ x → 0 ≤ E * x := fun x hx => Int.mul_nonneg (by omega) hx
  have mm : ∀ x y : Int, x ≤ y → e.toInt * x ≤ e.toInt * y := fun x y h => Int.mul_le_mul_of_nonneg_left h he.1
  have n1 : e.toInt * -(M + b.toInt) = -(e.toInt * (M + b.toInt)) := Int.mul_neg _ _
  have n2 : e.toInt * -(M - a.toInt) = -(e.toInt * (M - a.toInt)) := Int.mul_neg _ _
  refine ⟨td_up (by decide) (m0 _ (by omega)) ?_, td_dn (by decide) (m0 _ (by omega)) ?_, td_up (by decide) (m0 _ (by omega)) ?_, td_dn (by decide) (m0 _ (by omega)) ?_⟩
  · have h1 := mm (a.toInt - b.toInt) (M - b.toInt) (by omega)
    have h2 := m1 (M - b.toInt) (by omega)
    omega
  · have h1 := mm (-(M + b.toInt)) (a.toInt - b.toInt) (by omega)
    have h2 := m1 (M + b.toInt) (by omega)
    omega
  · have h1 := mm (a.toInt - b.toInt) (M + a.toInt) (by omega)
    have h2 := m1 (M + a.toInt) (by omega)
    omega
  · have h1 := mm (-(M - a.toInt)) (a.toInt - b.toInt) (by omega)
    have h2 := m1 (M - a.toInt) (by omega)
    omega
/-- a flow through fur: no more than without, the same way -/
def fu6 (v f : Int64) : Int64 := v * 1000 / (1000 + f)
theorem fu6_t {v f : Int64} (hv : -1000000000000 ≤ v.toInt ∧ v.toInt ≤ 1000000000000) (hf : 0 ≤ f.toInt ∧ f.toInt ≤ 9999) : (fu6 v f).toInt = (v.toInt * 1000).tdiv (1000 + f.toInt) := by
  unfold fu6
  have c1 : (1000 : Int64).toInt = 1000 := by decide
  have d : (1000 + f).toInt = 1000 + f.toInt := by rw [i6_add (by rw [c1]; omega) (by rw [c1]; omega), c1]
  have ne : (1000 + f) ≠ -1 := by
    intro h
    have := congrArg Int64.toInt h
    rw [d, show (-1 : Int64).toInt = -1 by decide] at this; omega
  rw [i6_div ne, i6_mul (by rw [c1]; omega) (by rw [c1]; omega), d, c1]
theorem fu6_0 {v : Int64} (hv : -1000000000000 ≤ v.toInt ∧ v.toInt ≤ 1000000000000) : fu6 v 0 = v := by
  apply Int64.toInt_inj.mp
  rw [fu6_t hv (by decide), show (0 : Int64).toInt = 0 by decide]
  exact Int.mul_tdiv_cancel _ (by decide)
theorem fu6_b {v f : Int64} {P Q : Int} (hv : -1000000000000 ≤ v.toInt ∧ v.toInt ≤ 1000000000000) (hf : 0 ≤ f.toInt ∧ f.toInt ≤ 9999) (hP : 0 ≤ P) (hQ : 0 ≤ Q) (h1 : 100 * v.toInt ≤ P) (h2 : -Q ≤ 100 * v.toInt) :
    100 * (fu6 v f).toInt ≤ P ∧ -Q ≤ 100 * (fu6 v f).toInt := by
  rw [fu6_t hv hf]
  have hd : (0 : Int) < 1000 + f.toInt := by omega
  have sm : ∀ x : Int, 0 ≤ x → (x * 1000).tdiv (1000 + f.toInt) ≤ x ∧ 0 ≤ (x * 1000).tdiv (1000 + f.toInt) := by
    intro x hx
    have t := td_ge hd (show 0 ≤ x * 1000 by omega)
    refine ⟨?_, t.2.2⟩
    have q1 : 1000 * (x * 1000).tdiv (1000 + f.toInt) ≤ (1000 + f.toInt) * (x * 1000).tdiv (1000 + f.toInt) := Int.mul_le_mul_of_nonneg_right (by omega) t.2.2
    omega
  rcases Int.le_total 0 v.toInt with q | q
  · have := sm v.toInt q; omega
  · have t := sm (-v.toInt) (by omega)
    rw [Int.neg_mul, Int.neg_tdiv] at t
    omega
