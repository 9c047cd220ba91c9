/-! ===== THE BEST ROW ===== -/
theorem n3_div {a b : Nat} (ha : a ≤ 1000000000) (hb : b ≤ 1000000000) : n3 a / n3 b = n3 (a / b) := (Int32.ofNat_div (by omega) (by omega)).symm
theorem n3_mul (a b : Nat) : n3 a * n3 b = n3 (a * b) := (Int32.ofNat_mul a b).symm
theorem n3_mod3 {r : Nat} (hr : r ≤ 1000000) : n3 r - n3 r / 3 * 3 = n3 (r % 3) := by
  rw [show (3 : Int32) = n3 3 from rfl, n3_div (by omega) (by omega), n3_mul, n3_sub (by omega)]
  exact congrArg n3 (by omega)
theorem pw3_le {n : Nat} (hn : n ≤ 6) : 1 ≤ 3 ^ n ∧ 3 ^ n ≤ 729 := by
  rcases (show n = 0 ∨ n = 1 ∨ n = 2 ∨ n = 3 ∨ n = 4 ∨ n = 5 ∨ n = 6 by omega) with rfl | rfl | rfl | rfl | rfl | rfl | rfl <;> decide
theorem pw3L {C : Iv} {D : Jv} {n : Nat} (hn : n ≤ 6) : ∀ (f k fu x : Nat), k + f = n → f < fu → ∀ K : Int32 → Int32 → Int32 × Iv × Jv, fl_X10_powerOf3_4_0 C D (n3 n) K fu (n3 x) (n3 k) = K (n3 (x * 3 ^ f)) (n3 n)
  | f, k, 0, _, _, h, _ => absurd h (Nat.not_lt_zero _)
  | 0, k, fu + 1, x, hk, _, K => by
    rw [fl_X10_powerOf3_4_0.eq_2, if_pos (by rw [n3_le (by omega) (by omega)]; omega), show k = n by omega, Nat.pow_zero, Nat.mul_one]
  | f + 1, k, fu + 1, x, hk, hf, K => by
    rw [fl_X10_powerOf3_4_0.eq_2, if_neg (by rw [n3_le (by omega) (by omega)]; omega), l_t, show (3 : Int32) = n3 3 from rfl, n3_mul, n3_up, pw3L hn f (k + 1) fu (x * 3) (by omega) (by omega) K, Nat.pow_succ, Nat.mul_assoc, Nat.mul_comm 3 (3 ^ f)]
theorem pw3 {n : Nat} (hn : n ≤ 6) (C : Iv) (D : Jv) : fn_X10_powerOf3 (n3 n) C D = (n3 (3 ^ n), C, D) := by
  have z := pw3L (C := C) (D := D) hn n 0 (n + 1) 1 (by omega) (by omega) (fun (x1 : Int32) (_ : Int32) => (x1, C, D))
  rw [Nat.one_mul] at z
  unfold fn_X10_powerOf3
  rw [mU_n (by omega)]
  exact z
/-- the foods there: T -/
def hTd (T : Nat → Bool) (I : Iv) (D : Jv) : Prop := ∀ k, k < 8 → (T k = true ∧ I 19 k = 1 ∧ D 79 (12 + k) = 1) ∨ (T k = false ∧ I 19 k = 0 ∧ D 79 (12 + k) = 0)
theorem hT_of {N : Int} {I : Iv} {J D : Jv} (h : STm N 16 0 I J D) : hTd (thS 16 I) I D := by
  intro k hk
  have e : thS 16 I k = decide (I 19 k = 1) := rfl
  rcases h.2.2.1 k hk with ⟨a1, a2, -⟩ | ⟨a1, a2, -⟩
  · rw [show 0 + 12 + k = 12 + k by omega] at a2
    have a1' : I 19 k = 0 := a1
    exact Or.inr ⟨by rw [e, a1']; rfl, a1', a2⟩
  · rw [show 0 + 12 + k = 12 + k by omega] at a2
    have a1' : I 19 k = 1 := a1
    exact Or.inl ⟨by rw [e, a1']; rfl, a1', a2⟩
theorem hT_tr {T : Nat → Bool} {I I' : Iv} {D D' : Jv} (h : hTd T I D) (a : I' 19 = I 19) (c : TrX D D') : hTd T I' D' := by
  intro k hk
  rw [a, c.2 (12 + k) (by omega)]; exact h k hk
theorem ftC {T : Nat → Bool} {I : Iv} {J D : Jv} (h : hTd T I D) : ∀ (f k fu : Nat) (x : Int32), k + f = 8 → f < fu → ∀ K : Int32 → Int32 → Int32 × Iv × Jv, fl_X6_foodsThere_4_0 I J 16 K fu x (n3 k) = K (upN x (cN T f k)) 8
  | f, k, 0, _, _, h, _ => absurd h (Nat.not_lt_zero _)
  | 0, k, fu + 1, x, hk, _, K => by
    rw [fl_X6_foodsThere_4_0.eq_2, if_pos (by rw [show (8 : Int32) = n3 8 from rfl, n3_le (by omega) (by omega)]; omega), show k = 8 by omega]
    show K x 8 = K (upN x 0) 8
    rw [upN_0]
  | f + 1, k, fu + 1, x, hk, hf, K => by
    rw [fl_X6_foodsThere_4_0.eq_2, if_neg (by rw [show (8 : Int32) = n3 8 from rfl, n3_le (by omega) (by omega)]; omega), n3_tn (by omega)]
    show _ = K (upN x ((if T k = true then 1 else 0) + cN T f (k + 1))) 8
    rcases h k (by omega) with ⟨a, b, -⟩ | ⟨a, b, -⟩
    · rw [if_neg (show ¬ I (16 + 3) k = 0 by show ¬ I 19 k = 0; rw [b]; decide), n3_up, ftC h f (k + 1) fu (x + 1) (by omega) (by omega) K, a, if_pos rfl, upN_1]
    · rw [if_pos (show I (16 + 3) k = 0 from b), n3_up, ftC h f (k + 1) fu x (by omega) (by omega) K, a, if_neg (by decide), Nat.zero_add]
theorem z01 : (1 : Int64).toInt32 = 1 ∧ (0 : Int64).toInt32 = 0 := by decide
theorem ftR {T : Nat → Bool} {I C : Iv} {D : Jv} (h : hTd T I D) : ∀ (f k fu : Nat) (x : Int32), k + f = 8 → f < fu → ∀ K : Int32 → Int32 → Int32 × Iv × Jv, fl_X10_foods_4_0 C D K fu x (n3 k) = K (upN x (cN T f k)) 8
  | f, k, 0, _, _, h, _ => absurd h (Nat.not_lt_zero _)
  | 0, k, fu + 1, x, hk, _, K => by
    rw [fl_X10_foods_4_0.eq_2, if_pos (by rw [show (8 : Int32) = n3 8 from rfl, n3_le (by omega) (by omega)]; omega), show k = 8 by omega]
    show K x 8 = K (upN x 0) 8
    rw [upN_0]
  | f + 1, k, fu + 1, x, hk, hf, K => by
    rw [fl_X10_foods_4_0.eq_2, if_neg (by rw [show (8 : Int32) = n3 8 from rfl, n3_le (by omega) (by omega)]; omega), n3_tn (by omega), l_t, n3_up]
    show _ = K (upN x ((if T k = true then 1 else 0) + cN T f (k + 1))) 8
    rcases h k (by omega) with ⟨a, -, b⟩ | ⟨a, -, b⟩
    · rw [b, z01.1, ftR h f (k + 1) fu (x + 1) (by omega) (by omega) K, a, if_pos rfl, upN_1]
    · rw [b, z01.2, Int32.add_zero, ftR h f (k + 1) fu x (by omega) (by omega) K, a, if_neg (by decide), Nat.zero_add]
theorem ft_both {T : Nat → Bool} {I C : Iv} {J D : Jv} (h : hTd T I D) : fn_X6_foodsThere 16 I J = (n3 (cN T 8 0), I, J) ∧ fn_X10_foods C D = (n3 (cN T 8 0), C, D) := by
  have u0 : upN 0 (cN T 8 0) = n3 (cN T 8 0) := by unfold upN; exact Int32.zero_add _
  constructor
  · have z := ftC (J := J) h 8 0 (mU (8 : Int32) ((0 : Int32)) + 1) 0 rfl (by decide) (fun (x1 : Int32) (_ : Int32) => (x1, I, J))
    rw [u0] at z
    exact z
  · have z := ftR (C := C) h 8 0 (mU (8 : Int32) ((0 : Int32)) + 1) 0 rfl (by decide) (fun (x1 : Int32) (_ : Int32) => (x1, C, D))
    rw [u0] at z
    exact z
theorem plL {T : Nat → Bool} {I C : Iv} {D : Jv} {g : Nat} (hg : g ≤ 8) (h : hTd T I D) : ∀ (f k fu : Nat) (x : Int32), k + f = g → f < fu → ∀ K : Int32 → Int32 → Int32 × Iv × Jv, fl_X10_placeOf_4_0 C D (n3 g) K fu x (n3 k) = K (upN x (cN T f k)) (n3 g)
  | f, k, 0, _, _, h, _ => absurd h (Nat.not_lt_zero _)
  | 0, k, fu + 1, x, hk, _, K => by
    rw [fl_X10_placeOf_4_0.eq_2, if_pos (by rw [n3_le (by omega) (by omega)]; omega), show k = g by omega]
    show K x (n3 g) = K (upN x 0) (n3 g)
    rw [upN_0]
  | f + 1, k, fu + 1, x, hk, hf, K => by
    rw [fl_X10_placeOf_4_0.eq_2, if_neg (by rw [n3_le (by omega) (by omega)]; omega), n3_tn (by omega), l_t, n3_up]
    show _ = K (upN x ((if T k = true then 1 else 0) + cN T f (k + 1))) (n3 g)
    rcases h k (by omega) with ⟨a, -, b⟩ | ⟨a, -, b⟩
    · rw [b, z01.1, plL hg h f (k + 1) fu (x + 1) (by omega) (by omega) K, a, if_pos rfl, upN_1]
    · rw [b, z01.2, Int32.add_zero, plL hg h f (k + 1) fu x (by omega) (by omega) K, a, if_neg (by decide), Nat.zero_add]
theorem placeIs {T : Nat → Bool} {I C : Iv} {D : Jv} {g : Nat} (hg : g ≤ 8) (h : hTd T I D) : fn_X10_placeOf (n3 g) C D = (n3 (cN T g 0), C, D) := by
  have u0 : upN 0 (cN T g 0) = n3 (cN T g 0) := by unfold upN; exact Int32.zero_add _
  have z := plL (C := C) hg h g 0 (g + 1) 0 (by omega) (by omega) (fun (x1 : Int32) (_ : Int32) => (x1, C, D))
  rw [u0] at z
  unfold fn_X10_placeOf
  rw [mU_n (by omega)]
  exact z
theorem cN_sp {p : Nat → Bool} : ∀ (a b k : Nat), cN p (a + b) k = cN p a k + cN p b (k + a)
  | 0, b, k => by rw [Nat.zero_add]; show _ = 0 + _; rw [Nat.zero_add, Nat.add_zero]
  | a + 1, b, k => by
    rw [show a + 1 + b = (a + b) + 1 by omega]
    simp only [cN]
    rw [cN_sp a b (k + 1), show k + 1 + a = k + (a + 1) by omega]; omega
/-- of the foods, how many are there above one that is -/
theorem cN_ab {T : Nat → Bool} {g : Nat} (hg : g < 8) (t : T g = true) : cN T 8 0 - 1 - cN T g 0 = cN T (7 - g) (g + 1) ∧ cN T g 0 + 1 ≤ cN T 8 0 := by
  have a := cN_sp (p := T) g (8 - g) 0
  rw [show g + (8 - g) = 8 by omega, Nat.zero_add, show 8 - g = (7 - g) + 1 by omega] at a
  have s : cN T ((7 - g) + 1) g = (if T g = true then 1 else 0) + cN T (7 - g) (g + 1) := rfl
  rw [s, if_pos t] at a
  omega
/-- the SHELF of food g in row R -/
def shN (T : Nat → Bool) (R g : Nat) : Nat := R / 3 ^ cN T (7 - g) (g + 1) % 3
theorem rowIs {T : Nat → Bool} {C : Iv} {D : Jv} {R g : Nat} (hR : R ≤ 1000) (hm : cN T 8 0 ≤ 6) (hg : g < 8) (t : T g = true) : fn_X10_rowAt (n3 R) (n3 (cN T 8 0)) (n3 (cN T g 0)) C D = (n3 (shN T R g), C, D) := by
  obtain ⟨a1, a2⟩ := cN_ab hg t
  have p := pw3_le (n := cN T (7 - g) (g + 1)) (by omega)
  unfold fn_X10_rowAt
  rw [show (1 : Int32) = n3 1 from rfl, n3_sub (by omega), n3_sub (by omega), a1, pw3 (by omega), b_n3_mk, n3_div (by omega) (by omega), n3_mod3 (Nat.le_trans (Nat.div_le_self _ _) (by omega))]
  rfl
/-- the class lays a row -/
theorem lyC {J D0 : Jv} {T : Nat → Bool} {q : Nat} (hq : q ≠ 19) : ∀ (n fu r : Nat) (I : Iv), n ≤ 8 → n < fu → r ≤ 1000 → hTd T I D0 → ∃ (r' : Nat) (I' : Iv), (∀ K : Int32 → Int32 → Iv → Iv × Jv, fl_X8_layByRow_6_0 J q K fu (n3 r) (n3 n - 1) I = K (n3 r') (-1) I') ∧ (∀ b, b ≠ q → I' b = I b) ∧ ∀ j, I' q j = (if j < n ∧ T j = true then n3 (r / 3 ^ cN T (n - 1 - j) (j + 1) % 3) else I q j)
  | n, 0, _, _, _, h, _, _ => absurd h (Nat.not_lt_zero _)
  | 0, fu + 1, r, I, _, _, _, _ => ⟨r, I, fun K => by
      rw [fl_X8_layByRow_6_0.eq_2, if_pos (by decide)]; rfl, fun _ _ => rfl, fun j => by rw [if_neg (fun z => absurd z.1 (Nat.not_lt_zero _))]⟩
  | n + 1, fu + 1, r, I, hn, hf, hr, h => by
    have e0 : n3 (n + 1) - 1 = n3 n := by
      rw [show (1 : Int32) = n3 1 from rfl, n3_sub (by omega)]; rfl
    have e1 : n3 n + (-1 : Int32) = n3 n - 1 := (Int32.sub_eq_add_neg _ _).symm
    have n8 : ¬ (8 : Int32) ≤ n3 n := by rw [show (8 : Int32) = n3 8 from rfl, n3_le (by omega) (by omega)]; omega
    have ex : ∀ j, j < n → cN T (n + 1 - 1 - j) (j + 1) = cN T (n - 1 - j) (j + 1) + (if T n = true then 1 else 0) := by
      intro j hj
      have a := cN_sp (p := T) (n - 1 - j) 1 (j + 1)
      rw [show n - 1 - j + 1 = n + 1 - 1 - j by omega, show j + 1 + (n - 1 - j) = n by omega] at a
      rw [a]; rfl
    rcases h n (by omega) with ⟨a, b, -⟩ | ⟨a, b, -⟩
    · have h' : hTd T (wI I q n (n3 (r % 3))) D0 := fun k hk => by
        rw [wI_row (Ne.symm hq)]; exact h k hk
      obtain ⟨r', I', x1, x2, x3⟩ := lyC (J := J) hq n fu (r / 3) (wI I q n (n3 (r % 3))) (by omega) (by omega) (by omega) h'
      refine ⟨r', I', fun K => ?_, fun b' hb => by rw [x2 b' hb, wI_row hb], fun j => ?_⟩
      · rw [fl_X8_layByRow_6_0.eq_2, e0, if_neg (n3_no0 (by omega)), n3_tn (by omega), if_neg (by rw [b]; decide), if_neg n8, n3_mod3 (by omega), l_t, show (3 : Int32) = n3 3 from rfl, n3_div (by omega) (by omega), l_t, e1]
        exact x1 K
      · rw [x3 j]
        by_cases z : j < n
        · by_cases t : T j = true
          · rw [if_pos ⟨z, t⟩, if_pos ⟨by omega, t⟩, ex j z, a, if_pos rfl, Nat.pow_succ, Nat.mul_comm, ← Nat.div_div_eq_div_mul]
          · rw [if_neg (fun y => t y.2), if_neg (fun y => t y.2), wI_ne (by omega)]
        · rw [if_neg (fun y => z y.1)]
          by_cases y : j = n
          · subst y
            rw [wI_self, if_pos ⟨by omega, a⟩, show j + 1 - 1 - j = 0 by omega]
            show n3 (r % 3) = n3 (r / 3 ^ 0 % 3)
            rw [Nat.pow_zero, Nat.div_one]
          · rw [wI_ne (Or.inr y), if_neg (fun w => by have := w.1; omega)]
    · obtain ⟨r', I', x1, x2, x3⟩ := lyC (J := J) hq n fu r I (by omega) (by omega) hr h
      refine ⟨r', I', fun K => ?_, x2, fun j => ?_⟩
      · rw [fl_X8_layByRow_6_0.eq_2, e0, if_neg (n3_no0 (by omega)), n3_tn (by omega), if_pos b, e1]
        exact x1 K
      · rw [x3 j]
        by_cases z : j < n
        · by_cases t : T j = true
          · rw [if_pos ⟨z, t⟩, if_pos ⟨by omega, t⟩, ex j z, a]; rfl
          · rw [if_neg (fun y => t y.2), if_neg (fun y => t y.2)]
        · rw [if_neg (fun y => z y.1), if_neg (fun w => by
            have h1 := w.1
            have : j = n := by omega
            rw [this, a] at w
            exact absurd w.2 (by decide))]
theorem layIs {J D0 : Jv} {T : Nat → Bool} {q R : Nat} (I : Iv) (hq : q ≠ 19) (hR : R ≤ 1000) (h : hTd T I D0) : ∃ I' : Iv, fn_X8_layByRow q (n3 R) I J = (I', J) ∧ (∀ b, b ≠ q → I' b = I b) ∧ ∀ j, j < 8 → T j = true → I' q j = n3 (shN T R j) := by
  obtain ⟨r', I', x1, x2, x3⟩ := lyC (J := J) hq 8 9 R I (by omega) (by omega) hR h
  refine ⟨I', ?_, x2, fun j hj t => ?_⟩
  · have x1' : ∀ K : Int32 → Int32 → Iv → Iv × Jv, fl_X8_layByRow_6_0 J q K 9 (n3 R) 7 I = K (n3 r') (-1) I' := x1
    unfold fn_X8_layByRow
    rw [show mD (7 : Int32) + 1 = 9 by decide, x1']
  · rw [x3 j, if_pos ⟨hj, t⟩]; rfl
/-- the reference lays it -/
theorem lyR {T : Nat → Bool} {I C : Iv} {R : Nat} (hR : R ≤ 1000) (hm : cN T 8 0 ≤ 6) : ∀ (f g fu : Nat) (D : Jv), g + f = 8 → f < fu → hTd T I D → ∃ D' : Jv, (∀ K : Int32 → Jv → Int32 × Iv × Jv, fl_X10_lying_63_2 (n3 (cN T 8 0)) (n3 R) C K fu (n3 g) D = K 8 D') ∧ (∀ r, r ≠ 79 → D' r = D r) ∧ ∀ j, D' 79 j = (if 100 + g ≤ j ∧ j < 108 ∧ T (j - 100) = true then (n3 (shN T R (j - 100))).toInt64 else D 79 j)
  | f, g, 0, _, _, h, _ => absurd h (Nat.not_lt_zero _)
  | 0, g, fu + 1, D, hg, _, _ => ⟨D, fun K => by
      rw [fl_X10_lying_63_2.eq_2, if_pos (by rw [show (8 : Int32) = n3 8 from rfl, n3_le (by omega) (by omega)]; omega), show g = 8 by omega]; rfl, fun _ _ => rfl, fun j => by rw [if_neg (fun z => by have := z.1; have := z.2.1; omega)]⟩
  | f + 1, g, fu + 1, D, hg, hf, h => by
    have n8 : ¬ (8 : Int32) ≤ n3 g := by rw [show (8 : Int32) = n3 8 from rfl, n3_le (by omega) (by omega)]; omega
    rcases h g (by omega) with ⟨a, b, c⟩ | ⟨a, b, c⟩
    · have h' : hTd T I (wJ D 79 (100 + g) (n3 (shN T R g)).toInt64) := fun k hk => by
        rw [wJ_ne (by omega)]; exact h k hk
      obtain ⟨D', x1, x2, x3⟩ := lyR (C := C) hR hm f (g + 1) fu (wJ D 79 (100 + g) (n3 (shN T R g)).toInt64) (by omega) (by omega) h'
      refine ⟨D', fun K => ?_, fun r hr => by rw [x2 r hr, wJ_row hr], fun j => ?_⟩
      · rw [fl_X10_lying_63_2.eq_2, if_neg n8, n3_tn (by omega), if_pos c, placeIs (by omega) h, b_n3_mk, rowIs hR hm (by omega) a, b_n3_mk, l_t, n3_up]
        exact x1 K
      · rw [x3 j]
        by_cases z : j = 100 + g
        · subst z
          rw [if_neg (fun y => by have := y.1; omega), wJ_self, if_pos ⟨Nat.le_refl _, by omega, by rw [show 100 + g - 100 = g by omega]; exact a⟩, show 100 + g - 100 = g by omega]
        · rw [wJ_ne (Or.inr z)]
          by_cases y : 100 + (g + 1) ≤ j ∧ j < 108 ∧ T (j - 100) = true
          · rw [if_pos y, if_pos ⟨by omega, y.2⟩]
          · rw [if_neg y, if_neg (fun w => y ⟨by have := w.1; omega, w.2⟩)]
    · obtain ⟨D', x1, x2, x3⟩ := lyR (C := C) hR hm f (g + 1) fu D (by omega) (by omega) h
      refine ⟨D', fun K => ?_, x2, fun j => ?_⟩
      · rw [fl_X10_lying_63_2.eq_2, if_neg n8, n3_tn (by omega), if_neg (by rw [c]; decide), n3_up]
        exact x1 K
      · rw [x3 j]
        by_cases z : j = 100 + g
        · subst z
          rw [if_neg (fun y => by have := y.1; omega), if_neg (fun y => by
            have := y.2.2
            rw [show 100 + g - 100 = g by omega, a] at this
            exact absurd this (by decide))]
        · by_cases y : 100 + (g + 1) ≤ j ∧ j < 108 ∧ T (j - 100) = true
          · rw [if_pos y, if_pos ⟨by omega, y.2⟩]
          · rw [if_neg y, if_neg (fun w => y ⟨by have := w.1; omega, w.2⟩)]
theorem st_shelf {N : Int} {I I' : Iv} {J B B' : Jv} (h : STm N 68 80 I J B) (hI : ∀ b, b ≠ 72 → I' b = I b) (hB : ∀ j, j < 100 ∨ 108 ≤ j → B' 79 j = B 79 j) (hs : ∀ f, f < 8 → I 71 f = 1 → B' 79 (100 + f) = (I' 72 f).toInt64 ∧ 0 ≤ (I' 72 f).toInt ∧ (I' 72 f).toInt ≤ 2) : STm N 68 80 I' J B' := by
  obtain ⟨q1, q2, q3, q4, q5⟩ := h
  have r : ∀ b, b ≠ 72 → I' b = I b := hI
  refine ⟨fun k hk => by rw [hB _ (by omega)]; exact q1 k hk, fun k hk => by rw [r (68 + 2) (by decide), r (68 + 8) (by decide)]; exact q2 k hk, fun f hf => ?_, fun j j1 j6 => by rw [hB _ (by omega)]; exact q4 j j1 j6, ?_⟩
  · have g := q3 f hf
    have s := hs f hf
    unfold STf at g ⊢
    rw [r (68 + 3) (by decide), r (68 + 2) (by decide), r (68 + 5) (by decide), r (68 + 6) (by decide), r (68 + 8) (by decide), hB (80 + 12 + f) (by omega), hB (80 + 28 + f) (by omega), hB (80 + 36 + f) (by omega), hB (80 + 44 + f) (by omega)]
    rcases g with g | ⟨a1, a2, a3, a4, a5⟩
    · exact Or.inl g
    · obtain ⟨s1, s2, s3⟩ := s a1
      exact Or.inr ⟨a1, a2, by rw [show 80 + 20 + f = 100 + f by omega]; exact s1, ⟨s2, s3⟩, a5⟩
  · unfold STn SDm at q5 ⊢
    rw [r 68 (by decide), r (68 + 8) (by decide), hB (80 + 52) (by omega), hB (80 + 53) (by omega), hB (80 + 54) (by omega), hB (80 + 60) (by omega), hB (80 + 61) (by omega), hB (80 + 62) (by omega), hB (80 + 63) (by omega), hB (80 + 64) (by omega), hB (80 + 65) (by omega), hB (80 + 66) (by omega), hB (80 + 67) (by omega), hB (80 + 68) (by omega), hB (80 + 69) (by omega), hB (80 + 70) (by omega)]
    exact q5
/-- one trial: a row laid -/
theorem try_r {T : Nat → Bool} {u R : Nat} {N : Int} {I A : Iv} {J D : Jv} (hu : u < 3) (hR : R ≤ 1000) (hm : cN T 8 0 ≤ 6) (hN : N + 576 ≤ 2000000) (hE : ENv I A) (h : STm N 16 0 I J D) (hT : hTd T I D) :
    ∃ (d : Nat) (I1 I2 I3 : Iv) (J1 J3 D1 D2 D3 : Jv), fn_X6_copyFrom 68 16 I J = (I1, J1) ∧ fn_X8_layByRow 72 (n3 R) I1 J1 = (I2, J1) ∧ I2 8 = I 8 ∧ fn_X8_withinOnSecondDay (n3 u) I2 J1 = (n3 d, I3, J3) ∧ fn_X10_copy 0 80 A D = (A, D1) ∧ (∀ K : Int32 → Jv → Int32 × Iv × Jv, fl_X10_lying_63_2 (n3 (cN T 8 0)) (n3 R) A K (mU (8 : Int32) ((0 : Int32)) + 1) 0 D1 = K 8 D2) ∧ fn_X10_within (n3 u) A D2 = (n3 d, A, D3) ∧ d ≤ 288 * cN T 8 0 ∧ (∀ b, b ≠ 14 → (b < 68 ∨ 76 < b) → I3 b = I b) ∧ TrJ J J3 ∧ TrX D D3 := by
  obtain ⟨I1, J1, D1, e1, e2, s1, c2, c3, g2, g3, c6⟩ := trial A h
  have hT1 : hTd T I1 D1 := fun k hk => by
    rw [c2 19 (by omega), g3 (12 + k) (by omega)]; exact hT k hk
  obtain ⟨I2, l1, l2, l3⟩ := layIs (J := J1) (q := 72) I1 (by decide) hR hT1
  obtain ⟨D2, m1, m2, m3⟩ := lyR (T := T) (I := I1) (C := A) hR hm 8 0 (mU (8 : Int32) ((0 : Int32)) + 1) D1 rfl (by decide) hT1
  have m1' : ∀ K : Int32 → Jv → Int32 × Iv × Jv, fl_X10_lying_63_2 (n3 (cN T 8 0)) (n3 R) A K (mU (8 : Int32) ((0 : Int32)) + 1) 0 D1 = K 8 D2 := m1
  have s2 : STm N 68 80 I2 J1 D2 := by
    refine st_shelf s1 l2 (fun j hj => by rw [m3 j, if_neg (fun z => by have := z.1; have := z.2.1; omega)]) (fun f hf t => ?_)
    have tf : T f = true := by
      rcases hT f hf with ⟨a, -, -⟩ | ⟨-, b, -⟩
      · exact a
      · rw [c6 f hf, b] at t; exact absurd t (by decide)
    have sh : shN T R f < 3 := Nat.mod_lt _ (by decide)
    rw [m3 (100 + f), if_pos ⟨by omega, by omega, by rw [show 100 + f - 100 = f by omega]; exact tf⟩, show 100 + f - 100 = f by omega, l3 f hf tf, nb_t (by omega)]
    exact ⟨rfl, by omega, by omega⟩
  have hE2 : ENv I2 A := env_row hE (fun b hb => by rw [l2 b (by omega), c2 b (by omega)]) rfl (fun _ _ => rfl) rfl rfl
  have th2 : thB I2 D2 := fun k hk => by
    rw [l2 71 (by decide), c6 k hk, m3 (12 + k), if_neg (fun z => by have := z.1; omega), g3 (12 + k) (by omega)]
    rcases hT k hk with ⟨-, b, c⟩ | ⟨-, b, c⟩
    · exact Or.inl ⟨b, c⟩
    · exact Or.inr ⟨b, by rw [c]; decide⟩
  obtain ⟨d, I3, J3, D3, w1, w2, w3, f1, f2, f3⟩ := within_both hu hN hE2 s2 th2
  have ep : cN (pT I2) 8 0 = cN T 8 0 := cN_c 8 0 (fun j _ hj => by
    unfold pT
    rw [l2 71 (by decide), c6 j (by omega)]
    rcases hT j (by omega) with ⟨a, b, -⟩ | ⟨a, b, -⟩
    · rw [a, b]; rfl
    · rw [a, b]; rfl)
  rw [ep] at w3
  refine ⟨d, I1, I2, I3, J1, J3, D1, D2, D3, e1, l1, by rw [l2 8 (by decide), c2 8 (by omega)], w1, e2, m1', w2, w3, fun b b1 b2 => ?_, fun r r1 r2 => ?_, fun r r1 r2 => ?_, fun j hj => ?_⟩
  · rw [f1.1 b b1 (by omega) (by omega), l2 b (by omega), c2 b b2]
  · rw [f2 r r1 (by omega) (by omega), c3 r r2]
  · rw [f3.1 r r1 r2, m2 r r1, g2 r r1]
  · rw [f3.2 j (by omega), m3 j, if_neg (fun z => by have := z.1; have := z.2.1; omega), g3 j hj]
