/-! ===== the reference's runs as a function; SIGNS ===== -/
theorem nb_tn {a : Nat} (ha : a ≤ 1000000000) : (n3 a).toNatClampNeg = a := Int32.toNatClampNeg_ofNat_of_lt (by omega)
noncomputable def stR (A : Iv) (X : Nat) (B : Jv) : Jv := (fn_X10_tick (n3 X) (fn_X10_isOpen (B 79 (X + 54)) A B).1 (A 81 8) 0 A B).2
noncomputable def itR (A : Iv) (X : Nat) : Nat → Jv → Jv
  | 0, B => B
  | n + 1, B => itR A X n (stR A X B)
theorem itR_add (A : Iv) (X : Nat) : ∀ (a b : Nat) (B : Jv), itR A X (a + b) B = itR A X b (itR A X a B)
  | 0, b, B => by rw [Nat.zero_add]; rfl
  | a + 1, b, B => by
    rw [show a + 1 + b = (a + b) + 1 by omega]
    exact itR_add A X a b (stR A X B)
theorem goL {A : Iv} {X n : Nat} (hX : X ≤ 240) (hn : n ≤ 1000000) : ∀ (f k fu : Nat) (B : Jv), k + f = n → f < fu → ∀ K : Int32 → Jv → Iv × Jv, fl_X10_go_2_0 A (n3 X) (n3 n) K fu (n3 k) B = K (n3 n) (itR A X f B)
  | f, k, 0, _, _, h, _ => absurd h (Nat.not_lt_zero _)
  | 0, k, fu + 1, B, hk, _, K => by
    rw [fl_X10_go_2_0.eq_2, if_pos (by rw [nb_le (by omega) (by omega)]; omega), show k = n by omega]; rfl
  | f + 1, k, fu + 1, B, hk, hf, K => by
    have e := goL (A := A) hX hn f (k + 1) fu (stR A X B) (by omega) (by omega) K
    rw [fl_X10_go_2_0.eq_2, if_neg (by rw [nb_le (by omega) (by omega)]; omega), n3_tn (by omega)]
    show _ = K (n3 n) (itR A X f (stR A X B))
    rw [← e]
    unfold stR
    generalize fn_X10_isOpen (B 79 (X + 54)) A B = p
    obtain ⟨r, i, j⟩ := p
    rw [b_n3_mk]
    dsimp only
    generalize fn_X10_tick (n3 X) r (A 81 8) 0 A B = q
    obtain ⟨i2, j2⟩ := q
    rw [b_n2_mk, n3_up]
theorem goR_it {X n : Nat} (A : Iv) (B : Jv) (hX : X ≤ 240) (hn : n ≤ 1000000) : fn_X10_go (n3 X) (n3 n) A B = (A, itR A X n B) := by
  unfold fn_X10_go
  rw [mU_n hn]
  exact goL hX hn n 0 (n + 1) B (by omega) (by omega) _
/-- a trial of a SET, begun -/
noncomputable def tfR (s : Nat) (A : Iv) (B : Jv) : Jv := (fn_X10_tryFresh (n3 s) A B).2
theorem tryR (s : Nat) (A : Iv) (B : Jv) : fn_X10_tryFresh (n3 s) A B = (A, tfR s A B) ∧ (∀ r, r ≠ 79 → tfR s A B r = B r) ∧ tfR s A B 79 = freshR 80 ((wJ (wJ B 79 132 (n3 s).toInt64) 79 149 1) 79) := by
  obtain ⟨J5, e, r, h⟩ := freshenR (X := 80) A (wJ (wJ B 79 132 (n3 s).toInt64) 79 149 1) (by omega)
  have e' : fn_X10_freshen 80 A (wJ (wJ B 79 132 (n3 s).toInt64) 79 149 1) = (A, J5) := e
  have t : fn_X10_tryFresh (n3 s) A B = (A, J5) := by
    unfold fn_X10_tryFresh
    rw [l_t, l_t, e', b_n2_mk]
  have t2 : tfR s A B = J5 := by unfold tfR; rw [t]
  rw [t2]
  exact ⟨t, fun q hq => by rw [r q hq, wJ_row hq, wJ_row hq], h⟩
/-- what a SIGN's cell holds; what a SIGN is: B1 the block a day before, B2 at the end -/
def sgE (J : Jv) (k : Nat) : Int32 := if k = 0 then (J 79 145).toInt32 else if k = 1 then (J 79 144).toInt32 else if k = 6 then (J 79 143).toInt32 else if k = 5 then (J 79 133).toInt32 else (J 79 (80 + (k - 2)) / cpR 80 J (k - 2)).toInt32
def sgD (B1 B2 : Jv) (k : Nat) : Int32 := sgE B2 k - (if k = 0 then (B1 79 145).toInt32 else if k = 1 then (B1 79 144).toInt32 else if k = 6 then (B1 79 143).toInt32 else 0)
theorem fX10_sgn {k : Nat} (hk : k < 7) (I : Iv) (J : Jv) : fn_X10_signOf (n3 k) I J = (sgE J k, I, J) := by
  unfold fn_X10_signOf sgE
  dsimp only [j_n]
  rcases (show k = 0 ∨ k = 1 ∨ k = 2 ∨ k = 3 ∨ k = 4 ∨ k = 5 ∨ k = 6 by omega) with rfl | rfl | rfl | rfl | rfl | rfl | rfl
  · rw [if_pos (show (n3 0).toInt < 2 ∨ 5 < (n3 0).toInt by decide), if_pos (show n3 0 = 0 from rfl), show ((80 : Int32) + (65 : Int32)).toNatClampNeg = 145 by decide, if_pos rfl]
  · rw [if_pos (show (n3 1).toInt < 2 ∨ 5 < (n3 1).toInt by decide), if_neg (show ¬ n3 1 = 0 by decide), if_pos (show n3 1 = 1 from rfl), show ((80 : Int32) + (64 : Int32)).toNatClampNeg = 144 by decide, if_neg (by decide), if_pos rfl]
  · rw [if_neg (show ¬ ((n3 2).toInt < 2 ∨ 5 < (n3 2).toInt) by decide), l_t, if_pos (show ((n3 2).toInt - 2).toNat = 0 by decide), show (80 : Int32) = n3 80 from rfl, show (n3 2 - 2 : Int32) = n3 0 by decide, fX10_warm (by omega) (by omega), b_n3_mk, if_neg (by decide), if_neg (by decide), if_neg (by decide), if_neg (by decide)]
  · rw [if_neg (show ¬ ((n3 3).toInt < 2 ∨ 5 < (n3 3).toInt) by decide), l_t, if_neg (show ¬ ((n3 3).toInt - 2).toNat = 0 by decide), if_pos (show ((n3 3).toInt - 2).toNat = 1 by decide), show (80 : Int32) = n3 80 from rfl, show (n3 3 - 2 : Int32) = n3 1 by decide, fX10_warm (by omega) (by omega), b_n3_mk, if_neg (by decide), if_neg (by decide), if_neg (by decide), if_neg (by decide)]
  · rw [if_neg (show ¬ ((n3 4).toInt < 2 ∨ 5 < (n3 4).toInt) by decide), l_t, if_neg (show ¬ ((n3 4).toInt - 2).toNat = 0 by decide), if_neg (show ¬ ((n3 4).toInt - 2).toNat = 1 by decide), if_pos (show ((n3 4).toInt - 2).toNat = 2 by decide), show (80 : Int32) = n3 80 from rfl, show (n3 4 - 2 : Int32) = n3 2 by decide, fX10_warm (by omega) (by omega), b_n3_mk, if_neg (by decide), if_neg (by decide), if_neg (by decide), if_neg (by decide)]
  · rw [if_neg (show ¬ ((n3 5).toInt < 2 ∨ 5 < (n3 5).toInt) by decide), l_t, if_neg (show ¬ ((n3 5).toInt - 2).toNat = 0 by decide), if_neg (show ¬ ((n3 5).toInt - 2).toNat = 1 by decide), if_neg (show ¬ ((n3 5).toInt - 2).toNat = 2 by decide), if_pos (show ((n3 5).toInt - 2).toNat = 3 by decide), if_neg (by decide), if_neg (by decide), if_neg (by decide), if_pos rfl]
  · rw [if_pos (show (n3 6).toInt < 2 ∨ 5 < (n3 6).toInt by decide), if_neg (show ¬ n3 6 = 0 by decide), if_neg (show ¬ n3 6 = 1 by decide), show ((80 : Int32) + (63 : Int32)).toNatClampNeg = 143 by decide, if_neg (by decide), if_neg (by decide), if_pos rfl]
theorem fsL {B1 B2 : Jv} : ∀ (f k fu : Nat) (I : Iv), k + f = 7 → f < fu → ∃ I' : Iv, (∀ K : Int32 → Iv → Iv × Jv, fl_X10_findSigns_51_0 (B1 79 145).toInt32 (B1 79 144).toInt32 (B1 79 143).toInt32 B2 K fu (n3 k) I = K 7 I') ∧ (∀ b, b ≠ 90 → I' b = I b) ∧ ∀ j, I' 90 j = (if k ≤ j ∧ j < 7 then sgD B1 B2 j else I 90 j)
  | f, k, 0, _, _, h => absurd h (Nat.not_lt_zero _)
  | 0, k, fu + 1, I, hk, _ => ⟨I, fun K => by
      rw [fl_X10_findSigns_51_0.eq_2, if_pos (by rw [show (7 : Int32) = n3 7 from rfl, n3_le (by omega) (by omega)]; omega), show k = 7 by omega]; rfl, fun _ _ => rfl, fun j => by rw [if_neg (by omega)]⟩
  | f + 1, k, fu + 1, I, hk, hf => by
    obtain ⟨I', e, r1, r2⟩ := fsL (B1 := B1) (B2 := B2) f (k + 1) fu (wI I 90 k (sgD B1 B2 k)) (by omega) (by omega)
    refine ⟨I', fun K => ?_, fun b h => by rw [r1 b h, wI_row h], fun j => ?_⟩
    · have n0 : n3 k = 0 ↔ k = 0 := n3_inj (a := k) (b := 0) (by omega) (by omega)
      have n1 : n3 k = 1 ↔ k = 1 := n3_inj (a := k) (b := 1) (by omega) (by omega)
      have n6 : n3 k = 6 ↔ k = 6 := n3_inj (a := k) (b := 6) (by omega) (by omega)
      rw [fl_X10_findSigns_51_0.eq_2, if_neg (by rw [show (7 : Int32) = n3 7 from rfl, n3_le (by omega) (by omega)]; omega), fX10_sgn (by omega), b_n3_mk, n3_tn (by omega), n3_up, ← e K]
      unfold sgD
      by_cases q0 : k = 0
      · rw [if_pos (n0.mpr q0), l_t, if_pos q0]
      · rw [if_neg (fun z => q0 (n0.mp z)), if_neg q0]
        by_cases q1 : k = 1
        · rw [if_pos (n1.mpr q1), l_t, if_pos q1]
        · rw [if_neg (fun z => q1 (n1.mp z)), if_neg q1]
          by_cases q6 : k = 6
          · rw [if_pos (n6.mpr q6), l_t, if_pos q6]
          · rw [if_neg (fun z => q6 (n6.mp z)), l_t, if_neg q6]
    · rw [r2 j]
      by_cases q : j = k
      · rw [q, if_neg (by omega), if_pos (by omega), wI_self]
      · rw [wI_ne (Or.inr q)]
        by_cases q2 : k + 1 ≤ j ∧ j < 7
        · rw [if_pos q2, if_pos (by omega)]
        · rw [if_neg q2, if_neg (by omega)]
theorem findR {s n : Nat} (A : Iv) (B : Jv) (hn : 1 ≤ n ∧ n ≤ 6) : ∃ A' : Iv, fn_X10_findSigns (n3 s) (n3 n) A B = (A', itR A 80 (288 * n) (tfR s A B)) ∧ (∀ b, b ≠ 90 → A' b = A b) ∧ ∀ k, k < 7 → A' 90 k = sgD (itR A 80 (288 * (n - 1)) (tfR s A B)) (itR A 80 (288 * n) (tfR s A B)) k := by
  obtain ⟨t, -, -⟩ := tryR s A B
  have g1 : fn_X10_go 80 (288 * (n3 n - 1)) A (tfR s A B) = (A, itR A 80 (288 * (n - 1)) (tfR s A B)) := by
    have e : (288 * (n3 n - 1) : Int32) = n3 (288 * (n - 1)) := by
      rw [show (1 : Int32) = n3 1 from rfl, n3_sub hn.1, show (288 : Int32) = n3 288 from rfl, ← Int32.ofNat_mul]
    rw [e]; exact goR_it (X := 80) A _ (by omega) (by omega)
  have g2 : fn_X10_go 80 288 A (itR A 80 (288 * (n - 1)) (tfR s A B)) = (A, itR A 80 (288 * n) (tfR s A B)) := by
    have := goR_it (X := 80) (n := 288) A (itR A 80 (288 * (n - 1)) (tfR s A B)) (by omega) (by omega)
    rw [← itR_add, show 288 * (n - 1) + 288 = 288 * n by omega] at this
    exact this
  generalize itR A 80 (288 * (n - 1)) (tfR s A B) = B1 at *
  generalize itR A 80 (288 * n) (tfR s A B) = B2 at *
  obtain ⟨A', e, r1, r2⟩ := fsL (B1 := B1) (B2 := B2) 7 0 (mU (7 : Int32) ((0 : Int32)) + 1) A rfl (by decide)
  have e' : ∀ K : Int32 → Iv → Iv × Jv, fl_X10_findSigns_51_0 (B1 79 145).toInt32 (B1 79 144).toInt32 (B1 79 143).toInt32 B2 K (mU (7 : Int32) ((0 : Int32)) + 1) 0 A = K 7 A' := e
  have s0 : fn_X10_signOf 0 A B1 = ((B1 79 145).toInt32, A, B1) := fX10_sgn (k := 0) (by omega) A B1
  have s1 : fn_X10_signOf 1 A B1 = ((B1 79 144).toInt32, A, B1) := fX10_sgn (k := 1) (by omega) A B1
  have s6 : fn_X10_signOf 6 A B1 = ((B1 79 143).toInt32, A, B1) := fX10_sgn (k := 6) (by omega) A B1
  refine ⟨A', ?_, r1, fun k hk => by rw [r2 k, if_pos ⟨Nat.zero_le _, hk⟩]⟩
  unfold fn_X10_findSigns
  rw [t, b_n2_mk, g1, b_n2_mk, s0, b_n3_mk, s1, b_n3_mk, s6, b_n3_mk, g2, b_n2_mk, e']
/-! ===== what is counted grows slowly ===== -/
def CNx (o : Nat) (t : Int) (I : Iv) : Prop := ∀ j, 1 ≤ j → j ≤ 3 → 0 ≤ (I (o + 8) j).toInt ∧ (I (o + 8) j).toInt ≤ 200 * t
theorem opN_b {b : Bool} {n : Int32} {M : Int} (h : 0 ≤ n.toInt ∧ n.toInt ≤ M) : 0 ≤ (opN b n).toInt ∧ (opN b n).toInt ≤ M := by
  unfold opN
  cases b with
  | false => rw [if_neg (by decide), show (0 : Int32).toInt = 0 by decide]; omega
  | true => rw [if_pos rfl]; exact h
theorem cn_tick {N t : Int} {o X u : Nat} {less : Int32} {op : Bool} {I I' : Iv} {J J' B : Jv} (ho : 15 < o) (hu : u < 3) (hN : N ≤ 2000000) (ht : 0 ≤ t ∧ t ≤ 1000000) (hb : BX I) (h : STm N o X I J B) (c : CNx o t I) (e : fn_X7_pass o (b3 op) (n3 u) less I J = (I', J')) : CNx o (t + 1) I' := by
  obtain ⟨g1, g2, g3, g4, ⟨n1, n52⟩, ⟨n2, n53⟩, ⟨n3', n54⟩, -, ⟨was, n10, n66⟩, ⟨n67, n9a, n9b⟩, ⟨cov, n11, n68⟩, ⟨cur, n12, n69⟩, n70⟩ := id h
  have hT : TkB (I (o + 8) 0) := ⟨n3'.1, by omega⟩
  have hM : wmT (I (o + 8) 0) ≤ 100000000 := by unfold wmT; omega
  obtain ⟨hW, -⟩ := st_W rfl hM h
  obtain ⟨I1, J1, e1, p1, p2, p3, p4, p5, p6, p7, p8, p9, p10, p11, p12, p13, p14, -⟩ := passC (op := op) (less := less) ho hu hM hb n1 hT n2 n11 n10 n12 hW
  rw [e] at e1
  have x1 : I' = I1 := congrArg (fun (y : Iv × Jv) => y.1) e1
  rw [← x1] at p12 p13 p14
  have b9 := hb.2.2.2.2.2.2.2.2.2.1
  have b10 := hb.2.2.2.2.2.2.2.2.2.2.1
  have l1 := opN_b (b := tkLit o I op cur) (n := I 8 10) (M := 99) ⟨by omega, by omega⟩
  have l2 := opN_b (b := tkOn o u less I J cov was cur) (n := I 8 9) (M := 99) ⟨by omega, by omega⟩
  have l3 := opN_b (b := (tkOn o u less I J cov was cur && !was)) (n := 1) (M := 1) (by decide)
  have l4 := opN_b (b := tkOn o u less I J cov was cur) (n := 1) (M := 1) (by decide)
  generalize opN (tkLit o I op cur) (I 8 10) = y1 at *
  generalize opN (tkOn o u less I J cov was cur) (I 8 9) = y2 at *
  generalize opN (tkOn o u less I J cov was cur && !was) 1 = y3 at *
  generalize opN (tkOn o u less I J cov was cur) 1 = y4 at *
  intro j h1 h3
  have cj := c j h1 h3
  rcases (show j = 1 ∨ j = 2 ∨ j = 3 by omega) with rfl | rfl | rfl
  · have s1 : (I (o + 8) 1 + y1).toInt = (I (o + 8) 1).toInt + y1.toInt := i3_add (by omega) (by omega)
    rw [p12, i3_add (by rw [s1]; omega) (by rw [s1]; omega), s1]; omega
  · rw [p13, i3_add (by omega) (by omega)]; omega
  · rw [p14, i3_add (by omega) (by omega)]; omega
theorem cn_go {o X u n : Nat} {A : Iv} (ho : 15 < o) (hX : X ≤ 240) (hu : u < 3) (hn : n ≤ 1000000) : ∀ (f k fc : Nat) (N t : Int) (I : Iv) (J B : Jv), k + f = n → f < fc → N + (f : Int) ≤ 2000000 → 0 ≤ t → t + (f : Int) ≤ 1000000 → ENv I A → STm N o X I J B → CNx o t I →
    ∃ (I' : Iv) (J' : Jv), (∀ K : Int32 → Iv → Jv → Iv × Jv, fl_X7_passByDay_3_0 (n3 n) (n3 u) o K fc (n3 k) I J = K (n3 n) I' J') ∧ CNx o (t + (f : Int)) I'
  | f, k, 0, _, _, _, _, _, _, h, _, _, _, _, _, _ => absurd h (Nat.not_lt_zero _)
  | 0, k, fc + 1, N, t, I, J, B, hk, _, hN, _, _, hE, h, c => by
    refine ⟨I, J, fun K => ?_, by rw [show t + ((0 : Nat) : Int) = t by omega]; exact c⟩
    rw [fl_X7_passByDay_3_0.eq_2, if_pos (by rw [nb_le (by omega) (by omega)]; omega), show k = n by omega]
  | f + 1, k, fc + 1, N, t, I, J, B, hk, hfc, hN, ht0, ht, hE, h, c => by
    obtain ⟨hb, hA, m, m1, m2, m3, m4⟩ := id hE
    have hT : TkB (I (o + 8) 0) := by have := tn_of h; exact ⟨this.1, by omega⟩
    obtain ⟨I1, J1, B1, e1, e2, s1, p1, p2, p3, p4, p5, p6⟩ := st_tick (u := u) (less := 0) (op := opB (I 10) (I 11) m (dT (I (o + 8) 0))) (A := A) ho hX hu (by omega) hb hA (by decide) h
    have f1 : FrI o I I1 := ⟨p1, p2⟩
    have c1 := cn_tick (X := X) ho hu (by omega) ⟨ht0, by omega⟩ hb h c e1
    obtain ⟨I2, J2, e3, c2⟩ := cn_go (A := A) ho hX hu hn f (k + 1) fc (N + 1) (t + 1) I1 J1 B1 (by omega) (by omega) (by omega) (by omega) (by omega) (env_fr ho hE f1) s1 c1
    refine ⟨I2, J2, fun K => ?_, by rw [show t + ((f + 1 : Nat) : Int) = t + 1 + (f : Int) by omega]; exact c2⟩
    rw [fl_X7_passByDay_3_0.eq_2, if_neg (by rw [nb_le (by omega) (by omega)]; omega), fX6_day hT, b_n3_mk, fX3_open J (dT_lt _) (m4 _ (dT_lt _)), b_n3_mk, e1, b_n2_mk, n3_up, e3]
theorem cn_run {o X u n : Nat} {N t : Int} {I I' A : Iv} {J J' B : Jv} (ho : 15 < o) (hX : X ≤ 240) (hu : u < 3) (hn : n ≤ 1000000) (hN : N + (n : Int) ≤ 2000000) (ht : 0 ≤ t ∧ t + (n : Int) ≤ 1000000) (hE : ENv I A) (h : STm N o X I J B) (c : CNx o t I) (e : fn_X7_passByDay o (n3 n) (n3 u) I J = (I', J')) : CNx o (t + (n : Int)) I' := by
  obtain ⟨I1, J1, e1, c1⟩ := cn_go (A := A) ho hX hu hn n 0 (n + 1) N t I J B (by omega) (by omega) hN ht.1 ht.2 hE h c
  have e2 : fn_X7_passByDay o (n3 n) (n3 u) I J = (I1, J1) := by
    unfold fn_X7_passByDay
    rw [mU_n hn]
    exact e1 _
  rw [e] at e2
  have x : I' = I1 := congrArg (fun (y : Iv × Jv) => y.1) e2
  rw [x]; exact c1
