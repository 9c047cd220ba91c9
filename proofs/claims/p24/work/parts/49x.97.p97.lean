/-! ===== run, heat, count ===== -/
theorem cq_run {c : Nat} {n v1 v2 : Int32} {I I1 I2 : Iv} {J J1 J2 : Jv} (hc : c ≤ 600) (h : CQx c I J) (e1 : fn_X9_run n I J = (v1, I1, J1)) (e2 : fn_X10_run n I1 J1 = (v2, I2, J2)) : v1 = v2 ∧ CQx (c + 1) I2 J2 := by
  unfold fn_X9_run at e1
  unfold fn_X10_run at e2
  by_cases h1 : n < 1
  · rw [if_pos h1] at e1
    exact cq_ref h e1 (fun C D eb => by rw [eb, b_n2_mk, fX10_in3 n 1 2880 1 2880 (by decide) (by decide), b_n3_mk, decide_eq_false (fun z => absurd z.1 (Int32.not_le.mpr h1)), if_pos (show b3 false = 0 from rfl)] at e2; exact e2)
  rw [if_neg h1] at e1
  by_cases h2 : n ≤ 2880
  rotate_left
  · rw [if_neg h2] at e1
    exact cq_ref h e1 (fun C D eb => by rw [eb, b_n2_mk, fX10_in3 n 1 2880 1 2880 (by decide) (by decide), b_n3_mk, decide_eq_false (fun z => h2 z.2), if_pos (show b3 false = 0 from rfl)] at e2; exact e2)
  rw [if_pos h2, l_t] at e1
  obtain ⟨m, rfl, m1, m2⟩ : ∃ m : Nat, n = n3 m ∧ 1 ≤ m ∧ m ≤ 2880 := by
    have a := Int32.le_iff_toInt_le.mp (Int32.not_lt.mp h1)
    have b := Int32.le_iff_toInt_le.mp h2
    rw [show (1 : Int32).toInt = 1 by decide] at a
    rw [show (2880 : Int32).toInt = 2880 by decide] at b
    have p0 : (0 : Int32) ≤ n := by rw [Int32.le_iff_toInt_le, show (0 : Int32).toInt = 0 by decide]; omega
    refine ⟨n.toNatClampNeg, n3_of p0, ?_, ?_⟩ <;> (unfold Int32.toNatClampNeg; omega)
  obtain ⟨u, hu, e8⟩ : ∃ u : Nat, u < 3 ∧ I 8 8 = n3 u := by
    have b8 := h.2.1.1.2.2.2.2.2.2.2.2.1
    exact ⟨(I 8 8).toNatClampNeg, (sh_of b8).2, (sh_of b8).1⟩
  have A8 : ∀ A : Iv, ENv I A → A 81 8 = n3 u := fun A hA => by rw [hA.2.1 8 (by omega)]; exact e8
  obtain ⟨K, L, B', g1, g2, g3, g4, g5, g6, g7⟩ := go_both (o := 16) (X := 0) (u := u) (n := m) (by omega) (by omega) hu (by omega) (A8 _ h.2.1) (by omega) h.2.1 h.1
  rw [e8, g1, b_n2_mk] at e1
  cases e1
  obtain ⟨C, D, eb, n2, lo, lj, q⟩ := cq_open (I1 := I1) (J1 := J1) h (fun b hb => g4.1 b (by omega) (by omega) (by omega)) (g5 79 (by omega) (by omega) (by omega))
  obtain ⟨K', L', B2, k1, k2, k3, k4, k5, k6, k7⟩ := go_both (o := 16) (X := 0) (u := u) (n := m) (by omega) (by omega) hu (by omega) (A8 _ q.2.1) (by omega) q.2.1 q.1
  rw [g1] at k1
  cases k1
  have k2' : fn_X10_go 0 (n3 m) C D = (C, B2) := k2
  rw [eb, b_n2_mk, fX10_in3 (n3 m) 1 2880 1 2880 (by decide) (by decide), b_n3_mk, decide_eq_true ⟨Int32.not_lt.mp h1, h2⟩, if_neg (show ¬ b3 true = 0 by decide), l_t, k2', b_n2_mk] at e2
  cases e2
  have a1 := q.1.2.2.2.2.2.2.2.1.2.2.2.2.2
  have a2 := k3.2.2.2.2.2.2.2.1.2.2.2.2.2
  have a1' : (D 79 65).toInt32 = I 24 3 := a1
  have a2' : (J2 79 65).toInt32 = I1 24 3 := a2
  refine ⟨by rw [Int64.toInt32_sub, a1', a2'], cqx_fin eb (fun _ _ => rfl) (fun r hr => k6.1 r (by omega) (by omega)) rfl ?_⟩
  refine cq_now q (k3.mono (by omega)) (fun b hb => g4.1 b (by omega) (by omega) (by omega)) (fun r h1 h2 => g5 r (by omega) (by omega) (by omega)) (fun k hk => k6.2 k (by omega)) rfl
/-- HEAT of all cells -/
theorem htC0 {I : Iv} {J : Jv} {o : Nat} : ∀ (f k fu : Nat) (x : Int64), k + f = 4 → f < fu → ∀ K : Int64 → Int32 → Int64 × Iv × Jv, fl_X6_allHeat_4_0 I J o K fu x (n3 k) = K (cA (J (o + 1)) f k x) 4
  | f, k, 0, _, _, h => absurd h (Nat.not_lt_zero _)
  | 0, k, fu + 1, x, hk, _ => fun K => by
    rw [fl_X6_allHeat_4_0.eq_2, if_pos (by rw [show (4 : Int32) = n3 4 from rfl, n3_le (by omega) (by omega)]; omega), show k = 4 by omega]; rfl
  | f + 1, k, fu + 1, x, hk, hf => fun K => by
    rw [fl_X6_allHeat_4_0.eq_2, if_neg (by rw [show (4 : Int32) = n3 4 from rfl, n3_le (by omega) (by omega)]; omega), n3_tn (by omega), l_t, n3_up]
    exact htC0 f (k + 1) fu _ (by omega) (by omega) K
theorem htC1 {I : Iv} {J : Jv} {o : Nat} (hz : ∀ k, k < 8 → I (o + 3) k = 0 → J (o + 1) (4 + k) = 0) : ∀ (f k fu : Nat) (x : Int64), k + f = 8 → f < fu → ∀ K : Int64 → Int32 → Int64 × Iv × Jv, fl_X6_allHeat_26_1 I J o K fu x (n3 k) = K (cA (fun j => J (o + 1) (4 + j)) f k x) 8
  | f, k, 0, _, _, h => absurd h (Nat.not_lt_zero _)
  | 0, k, fu + 1, x, hk, _ => fun K => by
    rw [fl_X6_allHeat_26_1.eq_2, if_pos (by rw [show (8 : Int32) = n3 8 from rfl, n3_le (by omega) (by omega)]; omega), show k = 8 by omega]; rfl
  | f + 1, k, fu + 1, x, hk, hf => fun K => by
    rw [fl_X6_allHeat_26_1.eq_2, if_neg (by rw [show (8 : Int32) = n3 8 from rfl, n3_le (by omega) (by omega)]; omega), n3_tn (by omega)]
    by_cases q : I (o + 3) k = 0
    · rw [if_pos q, n3_up]
      have := htC1 hz f (k + 1) fu x (by omega) (by omega) K
      rw [this]
      simp only [cA]
      rw [hz k (by omega) q, Int64.add_zero]
    · rw [if_neg q, show (4 : Int32) = n3 4 from rfl, n3_add, n3_tn (by omega), l_t, n3_up]
      exact htC1 hz f (k + 1) fu _ (by omega) (by omega) K
theorem htR {C : Iv} {D : Jv} : ∀ (f k fu : Nat) (x : Int64), k + f = 12 → f < fu → ∀ K : Int64 → Int32 → Int64 × Iv × Jv, fl_X10_heat_41_0 C D K fu x (n3 k) = K (cA (D 79) f k x) 12
  | f, k, 0, _, _, h => absurd h (Nat.not_lt_zero _)
  | 0, k, fu + 1, x, hk, _ => fun K => by
    rw [fl_X10_heat_41_0.eq_2, if_pos (by rw [show (12 : Int32) = n3 12 from rfl, n3_le (by omega) (by omega)]; omega), show k = 12 by omega]; rfl
  | f + 1, k, fu + 1, x, hk, hf => fun K => by
    rw [fl_X10_heat_41_0.eq_2, if_neg (by rw [show (12 : Int32) = n3 12 from rfl, n3_le (by omega) (by omega)]; omega), n3_tn (by omega), l_t, n3_up]
    exact htR f (k + 1) fu _ (by omega) (by omega) K
theorem cq_ref6 {c : Nat} {v : Int64} {v1 v2 : Int64} {I I1 I2 : Iv} {J J1 J2 : Jv} (h : CQx c I J) (e1 : ((v, I, J) : Int64 × Iv × Jv) = (v1, I1, J1)) (e2 : ∀ (C : Iv) (D : Jv), fn_X10_begin I1 J1 = (C, D) → CQ c I J C D → ((v, C, D) : Int64 × Iv × Jv) = (v2, I2, J2)) : v1 = v2 ∧ CQx (c + 1) I2 J2 := by
  cases e1
  obtain ⟨C, D, eb, n2, lo, lj, q⟩ := cq_open (I1 := I) (J1 := J) h (fun _ _ => rfl) rfl
  have e := e2 C D eb q
  cases e
  exact ⟨rfl, cq_same eb q⟩
theorem cq_heat {c : Nat} {w : Int32} {v1 v2 : Int64} {I I1 I2 : Iv} {J J1 J2 : Jv} (h : CQx c I J) (e1 : fn_X9_heat w I J = (v1, I1, J1)) (e2 : fn_X10_heat w I1 J1 = (v2, I2, J2)) : v1 = v2 ∧ CQx (c + 1) I2 J2 := by
  unfold fn_X9_heat at e1
  unfold fn_X10_heat at e2
  by_cases h1 : w < 0
  · rw [if_pos h1] at e1
    exact cq_ref6 h e1 (fun C D eb q => by rw [eb, b_n2_mk, fX10_in3 w 0 5 0 5 (by decide) (by decide), b_n3_mk, decide_eq_false (fun z => absurd z.1 (Int32.not_le.mpr h1)), if_pos (show b3 false = 0 from rfl)] at e2; exact e2)
  rw [if_neg h1] at e1
  by_cases h2 : w < 6
  rotate_left
  · have h5 : ¬ w ≤ 5 := by
      intro z
      apply h2
      have a := Int32.le_iff_toInt_le.mp z
      rw [show (5 : Int32).toInt = 5 by decide] at a
      rw [Int32.lt_iff_toInt_lt, show (6 : Int32).toInt = 6 by decide]; omega
    rw [if_neg h2] at e1
    exact cq_ref6 h e1 (fun C D eb q => by rw [eb, b_n2_mk, fX10_in3 w 0 5 0 5 (by decide) (by decide), b_n3_mk, decide_eq_false (fun z => h5 z.2), if_pos (show b3 false = 0 from rfl)] at e2; exact e2)
  rw [if_pos h2] at e1
  obtain ⟨k, hk, rfl⟩ : ∃ k, k < 6 ∧ w = n3 k := by
    have a := Int32.le_iff_toInt_le.mp (Int32.not_lt.mp h1)
    have b := Int32.lt_iff_toInt_lt.mp h2
    rw [show (0 : Int32).toInt = 0 by decide] at a
    rw [show (6 : Int32).toInt = 6 by decide] at b
    exact ⟨w.toNatClampNeg, by show w.toInt.toNat < 6; omega, n3_of (Int32.not_lt.mp h1)⟩
  have h05 : 0 ≤ n3 k ∧ n3 k ≤ 5 := ⟨Int32.not_lt.mp h1, by rw [show (5 : Int32) = n3 5 from rfl, n3_le (by omega) (by omega)]; omega⟩
  by_cases k0 : k = 0
  · subst k0
    rw [if_pos (show n3 0 = 0 from rfl)] at e1
    have ea : fn_X6_allHeat 16 I J = (cA (fun j => J 17 (4 + j)) 8 0 (cA (J 17) 4 0 0), I, J) := by
      unfold fn_X6_allHeat
      have z0 := htC0 (I := I) (J := J) (o := 16) 4 0 (mU (4 : Int32) ((0 : Int32)) + 1) 0 rfl (by decide)
      have z0' : ∀ K : Int64 → Int32 → Int64 × Iv × Jv, fl_X6_allHeat_4_0 I J 16 K (mU (4 : Int32) ((0 : Int32)) + 1) 0 0 = K (cA (J 17) 4 0 0) 4 := z0
      have z1 := htC1 (I := I) (J := J) (o := 16) (fun k hk hz => by
        rcases h.1.2.2.1 k hk with ⟨a1, a2, a3⟩ | ⟨a1, a2, a3⟩
        · exact a3
        · rw [a1] at hz; exact absurd hz (by decide)) 8 0 (mU (8 : Int32) ((0 : Int32)) + 1) (cA (J 17) 4 0 0) rfl (by decide)
      have z1' : ∀ K : Int64 → Int32 → Int64 × Iv × Jv, fl_X6_allHeat_26_1 I J 16 K (mU (8 : Int32) ((0 : Int32)) + 1) (cA (J 17) 4 0 0) 0 = K (cA (fun j => J 17 (4 + j)) 8 0 (cA (J 17) 4 0 0)) 8 := z1
      rw [z0', z1']
    rw [ea, b_n3_mk] at e1
    refine cq_ref6 h e1 (fun C D eb q => ?_)
    have z2 := htR (C := C) (D := D) 12 0 (mU (12 : Int32) ((0 : Int32)) + 1) 0 rfl (by decide)
    have z2' : ∀ K : Int64 → Int32 → Int64 × Iv × Jv, fl_X10_heat_41_0 C D K (mU (12 : Int32) ((0 : Int32)) + 1) 0 0 = K (cA (D 79) 12 0 0) 12 := z2
    rw [eb, b_n2_mk, fX10_in3 (n3 0) 0 5 0 5 (by decide) (by decide), b_n3_mk, decide_eq_true h05, if_neg (show ¬ b3 true = 0 by decide), if_pos (show n3 0 ≤ 0 by decide), z2'] at e2
    rw [← e2]
    have es : cA (D 79) 12 0 0 = cA (J 17) 12 0 0 := cA_c 12 0 0 (fun j _ hj => by
      have := q.1.1 j (by omega)
      rwa [Nat.zero_add] at this)
    rw [es]
    rfl
  · rw [if_neg (show ¬ n3 k = 0 from fun z => k0 ((n3_inj (b := 0) (by omega) (by omega)).mp z)), n3_tn (by omega)] at e1
    refine cq_ref6 h e1 (fun C D eb q => ?_)
    rw [eb, b_n2_mk, fX10_in3 (n3 k) 0 5 0 5 (by decide) (by decide), b_n3_mk, decide_eq_true h05, if_neg (show ¬ b3 true = 0 by decide), if_neg (show ¬ n3 k ≤ 0 by rw [show (0 : Int32) = n3 0 from rfl, n3_le (by omega) (by omega)]; omega), show (55 : Int32) = n3 55 from rfl, n3_add, show (1 : Int32) = n3 1 from rfl, n3_sub (by omega), n3_tn (by omega)] at e2
    rw [← e2]
    have := q.1.2.2.2.1 k (by omega) (by omega)
    have this' : D 79 (0 + 54 + k) = J 23 k := this
    rw [show 55 + k - 1 = 0 + 54 + k by omega, this']
/-- FOODS counted -/
theorem ctC {I : Iv} {J : Jv} {o : Nat} : ∀ (f k fu : Nat) (x : Int32), k + f = 8 → f < fu → ∀ K : Int32 → Int32 → Int32 × Iv × Jv, ∃ r : Int32, fl_X6_foodsThere_4_0 I J o K fu x (n3 k) = K r 8 ∧ ∀ (C : Iv) (D : Jv) (fu2 : Nat), f < fu2 → (∀ j, j < 8 → (I (o + 3) j = 0 ∧ D 79 (12 + j) = 0) ∨ (¬ I (o + 3) j = 0 ∧ D 79 (12 + j) = 1)) → ∀ K2 : Int32 → Int32 → Int32 × Iv × Jv, fl_X10_foods_4_0 C D K2 fu2 x (n3 k) = K2 r 8
  | f, k, 0, _, _, h => absurd h (Nat.not_lt_zero _)
  | 0, k, fu + 1, x, hk, _ => fun K => by
    refine ⟨x, ?_, fun C D fu2 hf2 hj K2 => ?_⟩
    · rw [fl_X6_foodsThere_4_0.eq_2, if_pos (by rw [show (8 : Int32) = n3 8 from rfl, n3_le (by omega) (by omega)]; omega), show k = 8 by omega]; rfl
    · cases fu2 with
      | zero => omega
      | succ fu2 => rw [fl_X10_foods_4_0.eq_2, if_pos (by rw [show (8 : Int32) = n3 8 from rfl, n3_le (by omega) (by omega)]; omega), show k = 8 by omega]; rfl
  | f + 1, k, fu + 1, x, hk, hf => fun K => by
    have n8 : ¬ (8 : Int32) ≤ n3 k := by rw [show (8 : Int32) = n3 8 from rfl, n3_le (by omega) (by omega)]; omega
    by_cases q : I (o + 3) k = 0
    · obtain ⟨r, r1, r2⟩ := ctC (I := I) (J := J) (o := o) f (k + 1) fu x (by omega) (by omega) K
      refine ⟨r, ?_, fun C D fu2 hf2 hj K2 => ?_⟩
      · rw [fl_X6_foodsThere_4_0.eq_2, if_neg n8, n3_tn (by omega), if_pos q, n3_up]; exact r1
      · cases fu2 with
        | zero => omega
        | succ fu2 =>
          have d0 : D 79 (12 + k) = 0 := by
            rcases hj k (by omega) with ⟨_, b⟩ | ⟨a, _⟩
            · exact b
            · exact absurd q a
          rw [fl_X10_foods_4_0.eq_2, if_neg n8, n3_tn (by omega), l_t, d0, n3_up, show x + (0 : Int64).toInt32 = x by rw [show (0 : Int64).toInt32 = 0 by decide]; exact Int32.add_zero x]
          exact r2 C D fu2 (by omega) hj K2
    · obtain ⟨r, r1, r2⟩ := ctC (I := I) (J := J) (o := o) f (k + 1) fu (x + 1) (by omega) (by omega) K
      refine ⟨r, ?_, fun C D fu2 hf2 hj K2 => ?_⟩
      · rw [fl_X6_foodsThere_4_0.eq_2, if_neg n8, n3_tn (by omega), if_neg q, n3_up]; exact r1
      · cases fu2 with
        | zero => omega
        | succ fu2 =>
          have d1 : D 79 (12 + k) = 1 := by
            rcases hj k (by omega) with ⟨a, _⟩ | ⟨_, b⟩
            · exact absurd a q
            · exact b
          rw [fl_X10_foods_4_0.eq_2, if_neg n8, n3_tn (by omega), l_t, d1, n3_up, show (1 : Int64).toInt32 = 1 by decide]
          exact r2 C D fu2 (by omega) hj K2
theorem foods_both {N : Int} {I C : Iv} {J D : Jv} (h : STm N 16 0 I J D) : ∃ r : Int32, fn_X6_foodsThere 16 I J = (r, I, J) ∧ fn_X10_foods C D = (r, C, D) := by
  obtain ⟨r, r1, r2⟩ := ctC (I := I) (J := J) (o := 16) 8 0 (mU (8 : Int32) ((0 : Int32)) + 1) 0 rfl (by decide) (fun (x1 : Int32) (_ : Int32) => (x1, I, J))
  refine ⟨r, r1, ?_⟩
  exact r2 C D (mU (8 : Int32) ((0 : Int32)) + 1) (by decide) (fun j hj => by
    rcases h.2.2.1 j hj with ⟨a1, a2, a3⟩ | ⟨a1, a2, a3⟩
    · rw [show 0 + 12 + j = 12 + j by omega] at a2
      exact Or.inl ⟨a1, a2⟩
    · rw [show 0 + 12 + j = 12 + j by omega] at a2
      exact Or.inr ⟨by rw [a1]; decide, a2⟩) (fun (x1 : Int32) (_ : Int32) => (x1, C, D))
