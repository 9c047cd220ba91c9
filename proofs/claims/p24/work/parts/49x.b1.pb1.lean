/-! ===== FOODS within their spans over the second DAY; THE BEST BULB ===== -/
def cN (p : Nat → Bool) : Nat → Nat → Nat
  | 0, _ => 0
  | f + 1, k => (if p k = true then 1 else 0) + cN p f (k + 1)
theorem cN_le {p q : Nat → Bool} (h : ∀ k, p k = true → q k = true) : ∀ (f k : Nat), cN p f k ≤ cN q f k
  | 0, _ => Nat.le_refl _
  | f + 1, k => by
    have := cN_le h f (k + 1)
    simp only [cN]
    by_cases z : p k = true
    · rw [if_pos z, if_pos (h k z)]; omega
    · rw [if_neg z]; omega
theorem cN_top {p : Nat → Bool} : ∀ (f k : Nat), cN p f k ≤ f
  | 0, _ => Nat.le_refl _
  | f + 1, k => by
    have := cN_top (p := p) f (k + 1)
    simp only [cN]
    split <;> omega
theorem cN_c {p q : Nat → Bool} : ∀ (f k : Nat), (∀ j, k ≤ j → j < k + f → p j = q j) → cN p f k = cN q f k
  | 0, _, _ => rfl
  | f + 1, k, h => by
    simp only [cN]
    rw [h k (by omega) (by omega), cN_c f (k + 1) (fun j a b => h j (by omega) (by omega))]
/-- x, and so many more -/
def upN (x : Int32) (d : Nat) : Int32 := x + n3 d
theorem upN_0 (x : Int32) : upN x 0 = x := Int32.add_zero x
theorem upN_1 (x : Int32) (d : Nat) : upN (x + 1) d = upN x (1 + d) := by
  unfold upN
  rw [Int32.add_assoc, show (1 : Int32) = n3 1 from rfl, n3_add]
theorem upN_up (x : Int32) (a b : Nat) : upN (upN x a) b = upN x (a + b) := by
  unfold upN
  rw [Int32.add_assoc, n3_add]
theorem fwC {o : Nat} {I : Iv} {J : Jv} {p : Nat → Bool} (hp : ∀ k, k < 8 → (p k = true ∧ ¬ I (o + 3) k = 0 ∧ fn_X6_isWithin o (n3 k) I J = (1, I, J)) ∨ (p k = false ∧ (I (o + 3) k = 0 ∨ (¬ I (o + 3) k = 0 ∧ fn_X6_isWithin o (n3 k) I J = (0, I, J))))) : ∀ (f k fu : Nat) (x : Int32), k + f = 8 → f < fu → ∀ K : Int32 → Int32 → Int32 × Iv × Jv, fl_X6_foodsWithin_4_0 I J o K fu x (n3 k) = K (upN x (cN p f k)) 8
  | f, k, 0, _, _, h, _ => absurd h (Nat.not_lt_zero _)
  | 0, k, fu + 1, x, hk, _, K => by
    rw [fl_X6_foodsWithin_4_0.eq_2, if_pos (by rw [show (8 : Int32) = n3 8 from rfl, n3_le (by omega) (by omega)]; omega), show k = 8 by omega]
    show K x 8 = K (upN x 0) 8
    rw [upN_0]
  | f + 1, k, fu + 1, x, hk, hf, K => by
    have n8 : ¬ (8 : Int32) ≤ n3 k := by rw [show (8 : Int32) = n3 8 from rfl, n3_le (by omega) (by omega)]; omega
    rw [fl_X6_foodsWithin_4_0.eq_2, if_neg n8, n3_tn (by omega)]
    show _ = K (upN x ((if p k = true then 1 else 0) + cN p f (k + 1))) 8
    rcases hp k (by omega) with ⟨a, b, c⟩ | ⟨a, b | ⟨b, c⟩⟩
    · rw [if_neg b, c, b_n3_mk, if_neg (show ¬ (1 : Int32) = 0 by decide), n3_up, fwC hp f (k + 1) fu (x + 1) (by omega) (by omega) K, a, if_pos rfl, upN_1]
    · rw [if_pos b, n3_up, fwC hp f (k + 1) fu x (by omega) (by omega) K, a, if_neg (by decide), Nat.zero_add]
    · rw [if_neg b, c, b_n3_mk, if_pos rfl, n3_up, fwC hp f (k + 1) fu x (by omega) (by omega) K, a, if_neg (by decide), Nat.zero_add]
theorem fwR {x2 : Int32} {A : Iv} {B : Jv} {p : Nat → Bool} (h2 : ¬ x2 < 288) (hp : ∀ k, k < 8 → (p k = true ∧ B 79 (12 + k) = 1 ∧ fn_X10_isWithin 80 (n3 k) A B = (1, A, B)) ∨ (p k = false ∧ (¬ B 79 (12 + k) = 1 ∨ (B 79 (12 + k) = 1 ∧ fn_X10_isWithin 80 (n3 k) A B = (0, A, B))))) : ∀ (f k fu : Nat) (x : Int32), k + f = 8 → f < fu → ∀ K : Int32 → Int32 → Int32 × Iv × Jv, fl_X10_within_34_1 A x2 B K fu x (n3 k) = K (upN x (cN p f k)) 8
  | f, k, 0, _, _, h, _ => absurd h (Nat.not_lt_zero _)
  | 0, k, fu + 1, x, hk, _, K => by
    rw [fl_X10_within_34_1.eq_2, if_pos (by rw [show (8 : Int32) = n3 8 from rfl, n3_le (by omega) (by omega)]; omega), show k = 8 by omega]
    show K x 8 = K (upN x 0) 8
    rw [upN_0]
  | f + 1, k, fu + 1, x, hk, hf, K => by
    have n8 : ¬ (8 : Int32) ≤ n3 k := by rw [show (8 : Int32) = n3 8 from rfl, n3_le (by omega) (by omega)]; omega
    have o1 : fn_X10_one 1 A B = (1, A, B) := fX10_one true A B
    have o0 : fn_X10_one 0 A B = (0, A, B) := fX10_one false A B
    rw [fl_X10_within_34_1.eq_2, if_neg n8, if_neg h2, n3_tn (by omega)]
    dsimp only [j_n]
    show _ = K (upN x ((if p k = true then 1 else 0) + cN p f (k + 1))) 8
    rcases hp k (by omega) with ⟨a, b, c⟩ | ⟨a, b | ⟨b, c⟩⟩
    · rw [if_pos b, c, b_n3_mk, if_neg (show ¬ (1 : Int32) = 0 by decide), o1, b_n3_mk, l_t, n3_up, fwR h2 hp f (k + 1) fu (x + 1) (by omega) (by omega) K, a, if_pos rfl, upN_1]
    · rw [if_neg b, o0, b_n3_mk, l_t, n3_up, Int32.add_zero, fwR h2 hp f (k + 1) fu x (by omega) (by omega) K, a, if_neg (by decide), Nat.zero_add]
    · rw [if_pos b, c, b_n3_mk, if_pos rfl, o0, b_n3_mk, l_t, n3_up, Int32.add_zero, fwR h2 hp f (k + 1) fu x (by omega) (by omega) K, a, if_neg (by decide), Nat.zero_add]
/-- the trial's foods are those of what is so -/
def thB (I : Iv) (B : Jv) : Prop := ∀ k, k < 8 → (I 71 k = 1 ∧ B 79 (12 + k) = 1) ∨ (I 71 k = 0 ∧ ¬ B 79 (12 + k) = 1)
def pW (I : Iv) (J : Jv) (k : Nat) : Bool := decide (I 71 k = 1) && wnB 68 I J k
def pT (I : Iv) (k : Nat) : Bool := decide (I 71 k = 1)
theorem pW_le {I : Iv} {J : Jv} {k : Nat} (h : pW I J k = true) : pT I k = true := by
  unfold pW at h; unfold pT
  rw [Bool.and_eq_true] at h; exact h.1
theorem wn_tick {N : Int} {I A : Iv} {J B : Jv} (hN : N ≤ 2000000) (h : STm N 68 80 I J B) (th : thB I B) : fn_X6_foodsWithin 68 I J = (n3 (cN (pW I J) 8 0), I, J) ∧ ∀ (x2 x : Int32), ¬ x2 < 288 → ∀ K : Int32 → Int32 → Int32 × Iv × Jv, fl_X10_within_34_1 A x2 B K (mU (8 : Int32) ((0 : Int32)) + 1) x 0 = K (upN x (cN (pW I J) 8 0)) 8 := by
  constructor
  · have z := fwC (o := 68) (I := I) (J := J) (p := pW I J) (fun k hk => by
      rcases th k hk with ⟨a, b⟩ | ⟨a, b⟩
      · have w := (within_g A (by omega) h hN hk a).1
        have e : pW I J k = wnB 68 I J k := by unfold pW; rw [a]; rfl
        have ne : ¬ I (68 + 3) k = 0 := by show ¬ I 71 k = 0; rw [a]; decide
        cases hw : wnB 68 I J k with
        | true => rw [hw] at w e; exact Or.inl ⟨e, ne, w⟩
        | false => rw [hw] at w e; exact Or.inr ⟨e, Or.inr ⟨ne, w⟩⟩
      · refine Or.inr ⟨?_, Or.inl a⟩
        unfold pW; rw [a]; rfl) 8 0 (mU (8 : Int32) ((0 : Int32)) + 1) 0 rfl (by decide)
    have z' : ∀ K : Int32 → Int32 → Int32 × Iv × Jv, fl_X6_foodsWithin_4_0 I J 68 K (mU (8 : Int32) ((0 : Int32)) + 1) 0 0 = K (upN 0 (cN (pW I J) 8 0)) 8 := z
    unfold fn_X6_foodsWithin
    rw [z']
    show (upN 0 (cN (pW I J) 8 0), I, J) = _
    unfold upN; rw [Int32.zero_add]
  · intro x2 x h2 K
    exact fwR (A := A) (B := B) (p := pW I J) h2 (fun k hk => by
      rcases th k hk with ⟨a, b⟩ | ⟨a, b⟩
      · have w := (within_g A (by omega) h hN hk a).2
        have w' : fn_X10_isWithin 80 (n3 k) A B = (b3 (wnB 68 I J k), A, B) := w
        have e : pW I J k = wnB 68 I J k := by unfold pW; rw [a]; rfl
        cases hw : wnB 68 I J k with
        | true => rw [hw] at w' e; exact Or.inl ⟨e, b, w'⟩
        | false => rw [hw] at w' e; exact Or.inr ⟨e, Or.inr ⟨b, w'⟩⟩
      · refine Or.inr ⟨?_, Or.inl b⟩
        unfold pW; rw [a]; rfl) 8 0 (mU (8 : Int32) ((0 : Int32)) + 1) x rfl (by decide) K
theorem thB_fr {I I' : Iv} {J J' B B' : Jv} (h : thB I B) (f : FrI 68 I I') (g : FrX 80 B B') : thB I' B' := by
  intro k hk
  rw [f.1 71 (by decide) (by decide) (by decide), g.2 (12 + k) (by omega)]
  exact h k hk
theorem pT_fr {I I' : Iv} (f : FrI 68 I I') : pT I' = pT I := by
  funext k; unfold pT; rw [f.1 71 (by decide) (by decide) (by decide)]
theorem w_ph1 {u : Nat} {A : Iv} (hu : u < 3) : ∀ (f k fc fr : Nat) (N : Int) (I : Iv) (J B : Jv) (x : Int32), k + f = 288 → f < fc → N + (f : Int) ≤ 2000000 → ENv I A → STm N 68 80 I J B →
    ∃ (I' : Iv) (J' B' : Jv), (∀ K : Int32 → Iv → Jv → Iv × Jv, fl_X7_passByDay_3_0 (n3 288) (n3 u) 68 K fc (n3 k) I J = K (n3 288) I' J') ∧ (∀ K : Int32 → Int32 → Jv → Int32 × Iv × Jv, fl_X10_within_4_0 A (n3 u) K (fr + f) x (n3 k) B = fl_X10_within_4_0 A (n3 u) K fr x (n3 288) B') ∧ STm (N + (f : Int)) 68 80 I' J' B' ∧ FrI 68 I I' ∧ FrJ 68 J J' ∧ FrX 80 B B'
  | f, k, 0, _, _, _, _, _, _, _, h, _, _, _ => absurd h (Nat.not_lt_zero _)
  | 0, k, fc + 1, fr, N, I, J, B, x, hk, _, hN, hE, h => by
    refine ⟨I, J, B, fun K => ?_, fun K => ?_, by rw [show N + ((0 : Nat) : Int) = N by omega]; exact h, frI_rfl, frJ_rfl, frX_rfl⟩
    · rw [fl_X7_passByDay_3_0.eq_2, if_pos (by rw [nb_le (by omega) (by omega)]; omega), show k = 288 by omega]
    · rw [show k = 288 by omega]; rfl
  | f + 1, k, fc + 1, fr, N, I, J, B, x, hk, hfc, hN, hE, h => by
    obtain ⟨op, I1, J1, B1, e1, eo, et, s1, f1, f2, f3, st⟩ := tick1 (o := 68) (X := 80) (u := u) (N := N) (A := A) (by omega) (by omega) hu (by omega) hE h
    obtain ⟨I2, J2, B2, x1, x2, x3, x4, x5, x6⟩ := w_ph1 hu f (k + 1) fc fr (N + 1) I1 J1 B1 x (by omega) (by omega) (by omega) (env_fr (by omega) hE f1) s1
    refine ⟨I2, J2, B2, fun K => ?_, fun K => ?_, by rw [show N + ((f + 1 : Nat) : Int) = N + 1 + (f : Int) by omega]; exact x3, f1.tr x4, FrJ.tr f2 x5, FrX.tr f3 x6⟩
    · rw [st (n3 288) fc (n3 k) (by rw [nb_le (by omega) (by omega)]; omega) K, n3_up]; exact x1 K
    · have eo' : fn_X10_isOpen (B 79 134) A B = (b3 op, A, B) := eo
      have et' : fn_X10_tick 80 (b3 op) (n3 u) 0 A B = (A, B1) := et
      rw [show fr + (f + 1) = (fr + f) + 1 from rfl, fl_X10_within_4_0.eq_2, if_neg (by rw [show (576 : Int32) = n3 576 from rfl, n3_le (by omega) (by omega)]; omega), eo', b_n3_mk, et', b_n2_mk, show mU (8 : Int32) ((0 : Int32)) + 1 = 8 + 1 by decide, fl_X10_within_34_1.eq_2, if_neg (by decide), if_pos (by rw [show (288 : Int32) = n3 288 from rfl, n3_lt (by omega) (by omega)]; omega), n3_up]
      exact x2 K
theorem w_ph2 {u : Nat} {A : Iv} (hu : u < 3) : ∀ (f t fc fr : Nat) (N : Int) (I : Iv) (J B : Jv) (x : Int32), t + f = 288 → f < fc → f < fr → N + (f : Int) ≤ 2000000 → ENv I A → STm N 68 80 I J B → thB I B →
    ∃ (d : Nat) (I' : Iv) (J' B' : Jv), fl_X8_withinOnSecondDay_19_0 (n3 u) (fun (x8 : Int32) (_ : Int32) (I10 : Iv) (J11 : Jv) => (x8, I10, J11)) fc x (n3 t) I J = (upN x d, I', J') ∧ fl_X10_within_4_0 A (n3 u) (fun (x1 : Int32) (_ : Int32) (J3 : Jv) => (x1, A, J3)) fr x (n3 (288 + t)) B = (upN x d, A, B') ∧ d ≤ f * cN (pT I) 8 0 ∧ FrI 68 I I' ∧ FrJ 68 J J' ∧ FrX 80 B B'
  | f, t, 0, _, _, _, _, _, _, _, h, _, _, _, _, _ => absurd h (Nat.not_lt_zero _)
  | f, t, _ + 1, 0, _, _, _, _, _, _, _, h, _, _, _, _ => absurd h (Nat.not_lt_zero _)
  | 0, t, fc + 1, fr + 1, N, I, J, B, x, ht, _, _, hN, hE, h, th => by
    refine ⟨0, I, J, B, ?_, ?_, Nat.zero_le _, frI_rfl, frJ_rfl, frX_rfl⟩
    · rw [fl_X8_withinOnSecondDay_19_0.eq_2, if_pos (by rw [show (288 : Int32) = n3 288 from rfl, n3_le (by omega) (by omega)]; omega), upN_0]
    · rw [fl_X10_within_4_0.eq_2, if_pos (by rw [show (576 : Int32) = n3 576 from rfl, n3_le (by omega) (by omega)]; omega), upN_0]
  | f + 1, t, fc + 1, fr + 1, N, I, J, B, x, ht, hfc, hfr, hN, hE, h, th => by
    obtain ⟨op, I1, J1, B1, e1, eo, et, s1, f1, f2, f3, -⟩ := tick1 (o := 68) (X := 80) (u := u) (N := N) (A := A) (by omega) (by omega) hu (by omega) hE h
    have th1 : thB I1 B1 := thB_fr (J := J) (J' := J1) th f1 f3
    obtain ⟨w1, w2⟩ := wn_tick (A := A) (by omega) s1 th1
    obtain ⟨d, I2, J2, B2, x1, x2, x3, x4, x5, x6⟩ := w_ph2 hu f (t + 1) fc fr (N + 1) I1 J1 B1 (upN x (cN (pW I1 J1) 8 0)) (by omega) (by omega) (by omega) (by omega) (env_fr (by omega) hE f1) s1 th1
    have le1 : cN (pW I1 J1) 8 0 ≤ cN (pT I1) 8 0 := cN_le (fun k hk => pW_le hk) 8 0
    rw [pT_fr f1] at le1 x3
    rw [upN_up] at x1 x2
    have eo' : fn_X10_isOpen (B 79 134) A B = (b3 op, A, B) := eo
    have et' : fn_X10_tick 80 (b3 op) (n3 u) 0 A B = (A, B1) := et
    refine ⟨cN (pW I1 J1) 8 0 + d, I2, J2, B2, ?_, ?_, by rw [Nat.add_mul, Nat.one_mul]; omega, f1.tr x4, FrJ.tr f2 x5, FrX.tr f3 x6⟩
    · rw [fl_X8_withinOnSecondDay_19_0.eq_2, if_neg (by rw [show (288 : Int32) = n3 288 from rfl, n3_le (by omega) (by omega)]; omega), e1, b_n2_mk, w1, b_n3_mk, l_t, n3_up]
      exact x1
    · rw [fl_X10_within_4_0.eq_2, if_neg (by rw [show (576 : Int32) = n3 576 from rfl, n3_le (by omega) (by omega)]; omega), eo', b_n3_mk, et', b_n2_mk, w2 (n3 (288 + t)) x (by rw [show (288 : Int32) = n3 288 from rfl, n3_lt (by omega) (by omega)]; omega), n3_up]
      exact x2
theorem within_both {u : Nat} {N : Int} {I A : Iv} {J B : Jv} (hu : u < 3) (hN : N + 576 ≤ 2000000) (hE : ENv I A) (h : STm N 68 80 I J B) (th : thB I B) :
    ∃ (d : Nat) (I' : Iv) (J' B' : Jv), fn_X8_withinOnSecondDay (n3 u) I J = (n3 d, I', J') ∧ fn_X10_within (n3 u) A B = (n3 d, A, B') ∧ d ≤ 288 * cN (pT I) 8 0 ∧ FrI 68 I I' ∧ FrJ 68 J J' ∧ FrX 80 B B' := by
  obtain ⟨I1, J1, B1, x1, x2, x3, x4, x5, x6⟩ := w_ph1 (A := A) hu 288 0 289 289 N I J B 0 (by omega) (by omega) (by omega) hE h
  have th1 : thB I1 B1 := thB_fr (J := J) (J' := J1) th x4 x6
  obtain ⟨d, I2, J2, B2, y1, y2, y3, y4, y5, y6⟩ := w_ph2 (A := A) hu 288 0 289 289 (N + 288) I1 J1 B1 0 (by omega) (by omega) (by omega) (by omega) (env_fr (by omega) hE x4) (by exact x3) th1
  have u0 : upN 0 d = n3 d := by unfold upN; exact Int32.zero_add _
  rw [u0] at y1 y2
  rw [pT_fr x4] at y3
  refine ⟨d, I2, J2, B2, ?_, ?_, y3, x4.tr y4, FrJ.tr x5 y5, FrX.tr x6 y6⟩
  · have z1 : ∀ K : Int32 → Iv → Jv → Iv × Jv, fl_X7_passByDay_3_0 288 (n3 u) 68 K 289 0 I J = K 288 I1 J1 := x1
    have ep : fn_X7_passByDay 68 288 (n3 u) I J = (I1, J1) := by
      unfold fn_X7_passByDay
      rw [show mU (288 : Int32) ((0 : Int32)) + 1 = 289 by decide, z1]
    unfold fn_X8_withinOnSecondDay
    rw [ep, b_n2_mk, show mU (288 : Int32) ((0 : Int32)) + 1 = 289 by decide]
    exact y1
  · unfold fn_X10_within
    rw [show mU (576 : Int32) ((0 : Int32)) + 1 = 289 + 288 by decide]
    have z2 : ∀ K : Int32 → Int32 → Jv → Int32 × Iv × Jv, fl_X10_within_4_0 A (n3 u) K (289 + 288) 0 0 B = fl_X10_within_4_0 A (n3 u) K 289 0 (n3 288) B1 := x2
    rw [z2]
    exact y2
/-! THE BEST BULB -/
theorem trial_th {N : Int} {I I' : Iv} {J D D' : Jv} (h : STm N 16 0 I J D) (c6 : ∀ k, k < 8 → I' 71 k = I 19 k) (g3 : ∀ j, j < 80 ∨ 160 ≤ j → D' 79 j = D 79 j) : thB I' D' := by
  intro k hk
  rw [c6 k hk, g3 (12 + k) (by omega)]
  rcases h.2.2.1 k hk with ⟨a1, a2, -⟩ | ⟨a1, a2, -⟩
  · rw [show 0 + 12 + k = 12 + k by omega] at a2
    exact Or.inr ⟨a1, by rw [a2]; decide⟩
  · rw [show 0 + 12 + k = 12 + k by omega] at a2
    exact Or.inl ⟨a1, a2⟩
/-- what a trial leaves -/
def TrI (I I' : Iv) : Prop := ∀ b, b ≠ 14 → b ≠ 67 → (b < 68 ∨ 76 < b) → I' b = I b
def TrJ (J J' : Jv) : Prop := ∀ r, r ≠ 15 → (r < 68 ∨ 76 < r) → J' r = J r
def TrX (D D' : Jv) : Prop := (∀ r, r ≠ 79 → r ≠ 88 → D' r = D r) ∧ ∀ j, j < 80 ∨ 160 ≤ j → D' 79 j = D 79 j
theorem TrI.tr {I I1 I2 : Iv} (h : TrI I I1) (k : TrI I1 I2) : TrI I I2 := fun b x y z => (k b x y z).trans (h b x y z)
theorem TrJ.tr {J J1 J2 : Jv} (h : TrJ J J1) (k : TrJ J1 J2) : TrJ J J2 := fun b x y => (k b x y).trans (h b x y)
theorem TrX.tr {D D1 D2 : Jv} (h : TrX D D1) (k : TrX D1 D2) : TrX D D2 := ⟨fun r x y => (k.1 r x y).trans (h.1 r x y), fun j x => (k.2 j x).trans (h.2 j x)⟩
theorem st_tr {N : Int} {I I' : Iv} {J J' D D' : Jv} (h : STm N 16 0 I J D) (a : TrI I I') (b : TrJ J J') (c : TrX D D') : STm N 16 0 I' J' D' :=
  st_row h (fun r h1 h2 => a r (by omega) (by omega) (by omega)) ⟨b _ (by omega) (by omega), b _ (by omega) (by omega)⟩ (fun k hk => c.2 _ (by omega))
theorem env_tr {I I' A : Iv} (h : ENv I A) (a : TrI I I') : ENv I' A := env_row h (fun b hb => a b (by omega) (by omega) (by omega)) rfl (fun _ _ => rfl) rfl rfl
/-- one trial: the bulb on u -/
theorem try_b {u : Nat} {N : Int} {I A : Iv} {J D : Jv} (hu : u < 3) (hN : N + 576 ≤ 2000000) (hE : ENv I A) (h : STm N 16 0 I J D) :
    ∃ (d : Nat) (I1 I2 : Iv) (J1 J2 D1 D2 : Jv), fn_X6_copyFrom 68 16 I J = (I1, J1) ∧ fn_X10_copy 0 80 A D = (A, D1) ∧ fn_X8_withinOnSecondDay (n3 u) I1 J1 = (n3 d, I2, J2) ∧ fn_X10_within (n3 u) A D1 = (n3 d, A, D2) ∧ d ≤ 2304 ∧ (∀ b, b ≠ 14 → (b < 68 ∨ 76 < b) → I2 b = I b) ∧ TrJ J J2 ∧ TrX D D2 := by
  obtain ⟨I1, J1, D1, e1, e2, s1, c2, c3, g2, g3, c6⟩ := trial A h
  have hE1 : ENv I1 A := env_row hE (fun b hb => c2 b (by omega)) rfl (fun _ _ => rfl) rfl rfl
  obtain ⟨d, I2, J2, D2, w1, w2, w3, f1, f2, f3⟩ := within_both hu hN hE1 s1 (trial_th h c6 g3)
  have t8 := cN_top (p := pT I1) 8 0
  refine ⟨d, I1, I2, J1, J2, D1, D2, e1, e2, w1, w2, ?_, fun b b1 b2 => ?_, fun r r1 r2 => ?_, fun r r1 r2 => ?_, fun j hj => ?_⟩
  · have := Nat.mul_le_mul_left 288 t8; omega
  · rw [f1.1 b b1 (by omega) (by omega), c2 b b2]
  · rw [f2 r r1 (by omega) (by omega), c3 r r2]
  · rw [f3.1 r r1 r2, g2 r r1]
  · rw [f3.2 j (by omega), g3 j hj]
theorem bu_loop {A : Iv} {N : Int} (hN : N + 576 ≤ 2000000) : ∀ (f s fc fr : Nat) (I : Iv) (J D : Jv) (b m : Int32), s + f = 3 → f < fc → f < fr → ENv I A → STm N 16 0 I J D → I 67 8 = m → (s = 0 → m = -1) → (¬ s = 0 → I 67 7 = b) → 
    ∃ (b' m' : Int32) (I' : Iv) (J' D' : Jv), (∀ K : Int32 → Iv → Jv → Iv × Jv, fl_X8_findBestBulb_12_0 K fc (n3 s) I J = K 3 I' J') ∧ (∀ K : Int32 → Int32 → Int32 → Iv → Jv → Int32 × Iv × Jv, fl_X10_bulb_24_0 K fr b m (n3 s) A D = K b' m' 3 A D') ∧ I' 67 8 = m' ∧ ((¬ s = 0 ∨ ¬ f = 0) → I' 67 7 = b') ∧ TrI I I' ∧ TrJ J J' ∧ TrX D D'
  | f, s, 0, _, _, _, _, _, _, _, h, _, _, _, _, _, _ => absurd h (Nat.not_lt_zero _)
  | f, s, _ + 1, 0, _, _, _, _, _, _, _, h, _, _, _, _, _ => absurd h (Nat.not_lt_zero _)
  | 0, s, fc + 1, fr + 1, I, J, D, b, m, hs, _, _, hE, h, h8, h0, h7 => by
    refine ⟨b, m, I, J, D, fun K => ?_, fun K => ?_, h8, fun _ => h7 (by omega), fun _ _ _ _ => rfl, fun _ _ _ => rfl, ⟨fun _ _ _ => rfl, fun _ _ => rfl⟩⟩
    · rw [fl_X8_findBestBulb_12_0.eq_2, if_pos (by rw [show (3 : Int32) = n3 3 from rfl, n3_le (by omega) (by omega)]; omega), show s = 3 by omega]; rfl
    · rw [fl_X10_bulb_24_0.eq_2, if_pos (by rw [show (3 : Int32) = n3 3 from rfl, n3_le (by omega) (by omega)]; omega), show s = 3 by omega]; rfl
  | f + 1, s, fc + 1, fr + 1, I, J, D, b, m, hs, hfc, hfr, hE, h, h8, h0, h7 => by
    obtain ⟨d, I1, I2, J1, J2, D1, D2, e1, e2, w1, w2, d4, r1, r2, r3⟩ := try_b (u := s) (by omega) hN hE h
    have n33 : ¬ (3 : Int32) ≤ n3 s := by rw [show (3 : Int32) = n3 3 from rfl, n3_le (by omega) (by omega)]; omega
    have q8 : I2 67 8 = m := by rw [r1 67 (by decide) (by decide)]; exact h8
    have q7 : ¬ s = 0 → I2 67 7 = b := fun z => by rw [r1 67 (by decide) (by decide)]; exact h7 z
    have td : (n3 d).toInt = (d : Int) := nb_t (by omega)
    have cstep : ∀ K : Int32 → Iv → Jv → Iv × Jv, fl_X8_findBestBulb_12_0 K (fc + 1) (n3 s) I J = (if n3 d ≤ m then fl_X8_findBestBulb_12_0 K fc (n3 (s + 1)) I2 J2 else fl_X8_findBestBulb_12_0 K fc (n3 (s + 1)) (wI (wI I2 67 7 (n3 s)) 67 8 (n3 d)) J2) := fun K => by
      rw [fl_X8_findBestBulb_12_0.eq_2, if_neg n33, e1, b_n2_mk, w1, b_n3_mk]
      unfold fn_X8_takeIfMore
      rw [q8, n3_up]
      by_cases z : n3 d ≤ m
      · rw [if_pos z, if_pos z, b_n2_mk]
      · rw [if_neg z, if_neg z, l_t, l_t, b_n2_mk]
    have rstep : ∀ K : Int32 → Int32 → Int32 → Iv → Jv → Int32 × Iv × Jv, fl_X10_bulb_24_0 K (fr + 1) b m (n3 s) A D = (if n3 d ≤ m then fl_X10_bulb_24_0 K fr b m (n3 (s + 1)) A D2 else fl_X10_bulb_24_0 K fr (n3 s) (n3 d) (n3 (s + 1)) A D2) := fun K => by
      rw [fl_X10_bulb_24_0.eq_2, if_neg n33, e2, b_n2_mk, w2, b_n3_mk, n3_up]
      dsimp only [j_n]
      by_cases z : n3 d ≤ m
      · rw [if_pos z, if_pos z, if_pos z]
      · rw [if_neg z, if_neg z, if_neg z]
    by_cases z : n3 d ≤ m
    · have s0 : ¬ s = 0 := fun y => by
        have := Int32.le_iff_toInt_le.mp z
        rw [td, h0 y, show (-1 : Int32).toInt = -1 by decide] at this
        omega
      have tI : TrI I I2 := fun b b1 _ b3 => r1 b b1 b3
      obtain ⟨b', m', I', J', D', x1, x2, x3, x4, x5, x6, x7⟩ := bu_loop hN f (s + 1) fc fr I2 J2 D2 b m (by omega) (by omega) (by omega) (env_tr hE tI) (st_tr h tI r2 r3) q8 (fun y => absurd y (Nat.succ_ne_zero s)) (fun _ => q7 s0)
      exact ⟨b', m', I', J', D', fun K => by rw [cstep, if_pos z]; exact x1 K, fun K => by rw [rstep, if_pos z]; exact x2 K, x3, fun _ => x4 (Or.inl (Nat.succ_ne_zero s)), tI.tr x5, r2.tr x6, r3.tr x7⟩
    · have tI : TrI I (wI (wI I2 67 7 (n3 s)) 67 8 (n3 d)) := fun b b1 b2 b3 => by rw [wI_row b2, wI_row b2]; exact r1 b b1 b3
      obtain ⟨b', m', I', J', D', x1, x2, x3, x4, x5, x6, x7⟩ := bu_loop hN f (s + 1) fc fr (wI (wI I2 67 7 (n3 s)) 67 8 (n3 d)) J2 D2 (n3 s) (n3 d) (by omega) (by omega) (by omega) (env_tr hE tI) (st_tr h tI r2 r3) wI_self (fun y => absurd y (Nat.succ_ne_zero s)) (fun _ => by rw [wI_ne (by omega), wI_self])
      exact ⟨b', m', I', J', D', fun K => by rw [cstep, if_neg z]; exact x1 K, fun K => by rw [rstep, if_neg z]; exact x2 K, x3, fun _ => x4 (Or.inl (Nat.succ_ne_zero s)), tI.tr x5, r2.tr x6, r3.tr x7⟩
theorem bu_both {c : Nat} {I C : Iv} {J D : Jv} (hc : c ≤ 600) (q : CQ c I J C D) : ∃ (b m : Int32) (I' : Iv) (J' D' : Jv), fn_X8_findBestBulb I J = (I', J') ∧ (∀ K : Int32 → Int32 → Int32 → Iv → Jv → Int32 × Iv × Jv, fl_X10_bulb_24_0 K (mU (3 : Int32) ((0 : Int32)) + 1) (-1) (-1) 0 C D = K b m 3 C D') ∧ I' 67 7 = b ∧ I' 67 8 = m ∧ (∀ b, 78 ≤ b → I' b = I b) ∧ J' 79 = J 79 := by
  have tI : TrI I (wI (wI I 67 7 0) 67 8 (-1)) := fun b _ b2 _ => by rw [wI_row b2, wI_row b2]
  have tJ : TrJ J J := fun _ _ _ => rfl
  have tX : TrX D D := ⟨fun _ _ _ => rfl, fun _ _ => rfl⟩
  obtain ⟨b', m', I', J', D', x1, x2, x3, x4, x5, x6, x7⟩ := bu_loop (A := C) (N := 2880 * (c : Int)) (by omega) 3 0 4 4 (wI (wI I 67 7 0) 67 8 (-1)) J D (-1) (-1) (by omega) (by omega) (by omega) (env_tr q.2.1 tI) (st_tr q.1 tI tJ tX) wI_self (fun _ => rfl) (fun y => absurd rfl y)
  refine ⟨b', m', I', J', D', ?_, fun K => ?_, x4 (Or.inr (by decide)), x3, fun b hb => ?_, ?_⟩
  · unfold fn_X8_findBestBulb
    rw [l_t, l_t, show mU (3 : Int32) ((0 : Int32)) + 1 = 4 by decide]
    exact x1 _
  · rw [show mU (3 : Int32) ((0 : Int32)) + 1 = 4 by decide]
    exact x2 K
  · rw [x5 b (by omega) (by omega) (by omega)]; exact tI b (by omega) (by omega) (by omega)
  · exact x6 79 (by omega) (by omega)
theorem cs_bulb {c : Nat} {w v1 v2 : Int32} {I I1 I2 : Iv} {J J1 J2 : Jv} (hc : c ≤ 600) (h : CQx c I J) (e1 : fn_X9_bulb w I J = (v1, I1, J1)) (e2 : fn_X10_bulb w I1 J1 = (v2, I2, J2)) : v1 = v2 := by
  unfold fn_X9_bulb at e1
  unfold fn_X10_bulb at e2
  by_cases h0 : w < 0
  · rw [if_pos h0] at e1
    exact (cq_ref h e1 (fun C D eb => by rw [eb, b_n2_mk, fX10_in3 w 0 1 0 1 (by decide) (by decide), b_n3_mk, decide_eq_false (fun z => absurd z.1 (Int32.not_le.mpr h0)), if_pos (show b3 false = 0 from rfl)] at e2; exact e2)).1
  rw [if_neg h0] at e1
  by_cases h1 : w ≤ 1
  rotate_left
  · rw [if_neg h1] at e1
    exact (cq_ref h e1 (fun C D eb => by rw [eb, b_n2_mk, fX10_in3 w 0 1 0 1 (by decide) (by decide), b_n3_mk, decide_eq_false (fun z => h1 z.2), if_pos (show b3 false = 0 from rfl)] at e2; exact e2)).1
  obtain ⟨b, m, I3, J3, D3, x1, -, x7, x8, x3, x4⟩ := bu_both hc h
  rw [if_pos h1, x1, b_n2_mk, x7, x8] at e1
  have e1' : ((if w = 0 then b else m, I3, J3) : Int32 × Iv × Jv) = (v1, I1, J1) := by
    by_cases z : w = 0
    · rw [if_pos z] at e1 ⊢; exact e1
    · rw [if_neg z] at e1 ⊢; exact e1
  have y1 : I3 = I1 := congrArg (fun (y : Int32 × Iv × Jv) => y.2.1) e1'
  have y2 : J3 = J1 := congrArg (fun (y : Int32 × Iv × Jv) => y.2.2) e1'
  have y0 : (if w = 0 then b else m) = v1 := congrArg (fun (y : Int32 × Iv × Jv) => y.1) e1'
  rw [← y1, ← y2] at e2
  obtain ⟨C, D, eb, n2, lo, lj, q⟩ := cq_open (I1 := I3) (J1 := J3) h x3 x4
  obtain ⟨b', m', I4, J4, D4, z1, z2, z7, z8, -, -⟩ := bu_both hc q
  rw [x1] at z1
  have y3 : I3 = I4 := congrArg (fun (y : Iv × Jv) => y.1) z1
  rw [← y3, x7] at z7
  rw [← y3, x8] at z8
  rw [eb, b_n2_mk, fX10_in3 w 0 1 0 1 (by decide) (by decide), b_n3_mk, decide_eq_true ⟨Int32.not_lt.mp h0, h1⟩, if_neg (show ¬ b3 true = 0 by decide), z2, ← z7, ← z8] at e2
  rw [← y0]
  by_cases z : w = 0
  · rw [if_pos z] at e2 ⊢
    exact congrArg (fun (y : Int32 × Iv × Jv) => y.1) e2
  · rw [if_neg z] at e2 ⊢
    exact congrArg (fun (y : Int32 × Iv × Jv) => y.1) e2
