/-! ===== the door by THE DAY; runs of ticks ===== -/
theorem nb_le {a b : Nat} (ha : a ≤ 1000000000) (hb : b ≤ 1000000000) : n3 a ≤ n3 b ↔ a ≤ b := Int32.ofNat_le_iff_le (by omega) (by omega)
theorem nb_t {a : Nat} (ha : a ≤ 1000000000) : (n3 a).toInt = (a : Int) := Int32.toInt_ofNat_of_lt (by omega)
def opP (F L : Nat → Int32) (t j : Nat) : Bool := decide (F j ≤ n3 t ∧ n3 t ≤ F j + L j - 1)
def opB (F L : Nat → Int32) (m t : Nat) : Bool := (List.range' 0 m).any (opP F L t)
/-- what both hold of THE DAY and of THE BOX: I the class's, A the reference's -/
def OPv (I A : Iv) : Prop := ∃ m, m ≤ 12 ∧ A 78 5 = n3 m ∧ (∀ j, j < m → A 83 j = I 10 j ∧ A 84 j = I 11 j ∧ (0 ≤ (I 10 j).toInt ∧ (I 10 j).toInt ≤ 287) ∧ (1 ≤ (I 11 j).toInt ∧ (I 11 j).toInt ≤ 20)) ∧ ∀ t, t < 288 → I 12 t = b3 (opB (I 10) (I 11) m t)
def ENv (I A : Iv) : Prop := BX I ∧ (∀ j, j < 15 → A 81 j = I 8 j) ∧ OPv I A
theorem env_row {I I' A A' : Iv} (h : ENv I A) (e : ∀ b, b = 8 ∨ b = 10 ∨ b = 11 ∨ b = 12 → I' b = I b) (a : A' 78 5 = A 78 5) (a1 : ∀ j, j < 15 → A' 81 j = A 81 j) (a3 : A' 83 = A 83) (a4 : A' 84 = A 84) : ENv I' A' := by
  obtain ⟨h1, h2, m, m1, m2, m3, m4⟩ := h
  refine ⟨bx_row h1 (e 8 (by omega)), fun j hj => by rw [a1 j hj, e 8 (by omega)]; exact h2 j hj, m, m1, by rw [a]; exact m2, ?_, ?_⟩
  · rw [a3, a4, e 10 (by omega), e 11 (by omega)]; exact m3
  · rw [e 10 (by omega), e 11 (by omega), e 12 (by omega)]; exact m4
theorem fX3_open {t : Nat} {b : Bool} {I : Iv} (J : Jv) (ht : t < 288) (h : I 12 t = b3 b) : fn_X3_isOpenIn (n3 t) I J = (b3 b, I, J) := by
  unfold fn_X3_isOpenIn
  rw [if_neg (n3_no0 (by omega)), if_neg (by rw [show (288 : Int32) = n3 288 from rfl, n3_le (by omega) (by omega)]; omega), n3_tn (by omega), h]
  cases b with
  | false => rfl
  | true => rfl
theorem opL {A : Iv} {J : Jv} {F L : Nat → Int32} {m t : Nat} (hm : m ≤ 12) (ha : A 78 5 = n3 m) (hj : ∀ j, j < m → A 83 j = F j ∧ A 84 j = L j ∧ (0 ≤ (F j).toInt ∧ (F j).toInt ≤ 287) ∧ (1 ≤ (L j).toInt ∧ (L j).toInt ≤ 20)) : ∀ (f k fu : Nat) (b : Bool), k + f = m → f < fu → ∀ K : Int32 → Int32 → Int32 × Iv × Jv, fl_X10_isOpen_12_0 A J (n3 t).toInt64 K fu (b3 b) (n3 k) = K (b3 (b || (List.range' k f).any (opP F L t))) (n3 m)
  | f, k, 0, _, _, h => absurd h (Nat.not_lt_zero _)
  | 0, k, fu + 1, b, hk, _ => fun K => by
    rw [fl_X10_isOpen_12_0.eq_2, if_pos (by rw [ha, n3_le (by omega) (by omega)]; omega), show k = m by omega]
    simp
  | f + 1, k, fu + 1, b, hk, hf => fun K => by
    obtain ⟨j1, j2, j3, j4⟩ := hj k (by omega)
    rw [fl_X10_isOpen_12_0.eq_2, if_neg (by rw [ha, n3_le (by omega) (by omega)]; omega), List.range'_succ]
    cases b with
    | true =>
      rw [if_neg (show ¬ b3 true = 0 by decide), n3_up]
      have := opL (J := J) (t := t) hm ha hj f (k + 1) fu true (by omega) (by omega) K
      rw [Bool.true_or] at this ⊢
      exact this
    | false =>
      rw [if_pos (show b3 false = 0 from rfl), n3_tn (by omega), j1, j2, fX10_in3 (n3 t) _ _ (F k) (F k + L k - 1) rfl rfl, b_n3_mk, n3_up]
      simp only [List.any_cons, Bool.false_or]
      have e : decide (F k ≤ n3 t ∧ n3 t ≤ F k + L k - 1) = opP F L t k := rfl
      rw [e]
      cases hq : opP F L t k with
      | false =>
        rw [if_pos (show b3 false = 0 from rfl)]
        have := opL (J := J) (t := t) hm ha hj f (k + 1) fu false (by omega) (by omega) K
        simp only [Bool.false_or] at this ⊢
        exact this
      | true =>
        rw [if_neg (show ¬ b3 true = 0 by decide)]
        have := opL (J := J) (t := t) hm ha hj f (k + 1) fu true (by omega) (by omega) K
        simp only [Bool.true_or] at this ⊢
        exact this
theorem fX10_open {A : Iv} {F L : Nat → Int32} {m : Nat} {t : Int32} (J : Jv) (ht : TkB t) (hm : m ≤ 12) (ha : A 78 5 = n3 m) (hj : ∀ j, j < m → A 83 j = F j ∧ A 84 j = L j ∧ (0 ≤ (F j).toInt ∧ (F j).toInt ≤ 287) ∧ (1 ≤ (L j).toInt ∧ (L j).toInt ≤ 20)) : fn_X10_isOpen t.toInt64 A J = (b3 (opB F L m (dT t)), A, J) := by
  unfold fn_X10_isOpen
  rw [l_t, day6 ht, ha]
  have hf : mU (n3 m) 0 + 1 = m + 1 := by
    unfold mU; rw [Int32.toInt_ofNat_of_lt (by omega), show (0 : Int32).toInt = 0 by decide]; omega
  rw [hf]
  have := opL (J := J) (t := dT t) hm ha hj m 0 (m + 1) false (by omega) (by omega) (fun (x2 : Int32) (_ : Int32) => (x2, A, J))
  exact this.trans (by rw [Bool.false_or]; rfl)
def FrI (o : Nat) (I I' : Iv) : Prop := (∀ b, b ≠ 14 → b ≠ o → b ≠ o + 8 → I' b = I b) ∧ ∀ k, k ≠ 9 → k ≠ 10 → I' o k = I o k
def FrJ (o : Nat) (J J' : Jv) : Prop := ∀ r, r ≠ 15 → r ≠ o + 1 → r ≠ o + 7 → J' r = J r
def FrX (X : Nat) (B B' : Jv) : Prop := (∀ r, r ≠ 79 → r ≠ 88 → B' r = B r) ∧ ∀ k, k < X ∨ X + 70 ≤ k → B' 79 k = B 79 k
theorem FrI.tr {o : Nat} {I I1 I2 : Iv} (h : FrI o I I1) (k : FrI o I1 I2) : FrI o I I2 := ⟨fun b x y z => (k.1 b x y z).trans (h.1 b x y z), fun j a b => (k.2 j a b).trans (h.2 j a b)⟩
theorem FrJ.tr {o : Nat} {J J1 J2 : Jv} (h : FrJ o J J1) (k : FrJ o J1 J2) : FrJ o J J2 := fun r x y z => (k r x y z).trans (h r x y z)
theorem FrX.tr {X : Nat} {J J1 J2 : Jv} (h : FrX X J J1) (k : FrX X J1 J2) : FrX X J J2 := ⟨fun r x y => (k.1 r x y).trans (h.1 r x y), fun j a => (k.2 j a).trans (h.2 j a)⟩
theorem frI_rfl {o : Nat} {I : Iv} : FrI o I I := ⟨fun _ _ _ _ => rfl, fun _ _ _ => rfl⟩
theorem frJ_rfl {o : Nat} {J : Jv} : FrJ o J J := fun _ _ _ _ => rfl
theorem frX_rfl {X : Nat} {B : Jv} : FrX X B B := ⟨fun _ _ _ => rfl, fun _ _ => rfl⟩
theorem STm.mono {N N' : Int} {o X : Nat} {I : Iv} {J B : Jv} (h : STm N o X I J B) (hN : N ≤ N') : STm N' o X I J B := by
  obtain ⟨h1, h2, h3, h4, h5, h6, ⟨h7, h8⟩, h9⟩ := h
  exact ⟨h1, h2, h3, h4, h5, h6, ⟨⟨h7.1, by omega⟩, h8⟩, h9⟩
theorem tn_of {N : Int} {o X : Nat} {I : Iv} {J B : Jv} (h : STm N o X I J B) : 0 ≤ (I (o + 8) 0).toInt ∧ (I (o + 8) 0).toInt ≤ N := h.2.2.2.2.2.2.1.1
theorem t54_of {N : Int} {o X : Nat} {I : Iv} {J B : Jv} (h : STm N o X I J B) : B 79 (X + 54) = (I (o + 8) 0).toInt64 := h.2.2.2.2.2.2.1.2
/-- one TICK by THE DAY, both -/
theorem env_fr {o : Nat} {I I' A : Iv} (ho : 15 < o) (h : ENv I A) (f : FrI o I I') : ENv I' A := env_row h (fun b hb => f.1 b (by omega) (by omega) (by omega)) rfl (fun _ _ => rfl) rfl rfl
theorem st_go {o X u n : Nat} {A : Iv} (ho : 15 < o) (hX : X ≤ 240) (hu : u < 3) (hn : n ≤ 1000000) (hA8 : A 81 8 = n3 u) : ∀ (f k fc fr : Nat) (N : Int) (I : Iv) (J B : Jv), k + f = n → f < fc → f < fr → N + (f : Int) ≤ 2000000 → ENv I A → STm N o X I J B →
    ∃ (I' : Iv) (J' B' : Jv), (∀ K : Int32 → Iv → Jv → Iv × Jv, fl_X7_passByDay_3_0 (n3 n) (n3 u) o K fc (n3 k) I J = K (n3 n) I' J') ∧ (∀ K : Int32 → Jv → Iv × Jv, fl_X10_go_2_0 A (n3 X) (n3 n) K fr (n3 k) B = K (n3 n) B') ∧ STm (N + (f : Int)) o X I' J' B' ∧ FrI o I I' ∧ FrJ o J J' ∧ FrX X B B' ∧ (I' (o + 8) 0).toInt = (I (o + 8) 0).toInt + (f : Int)
  | f, k, 0, _, _, _, _, _, _, h, _, _, _, _ => absurd h (Nat.not_lt_zero _)
  | f, k, _ + 1, 0, _, _, _, _, _, _, h, _, _, _ => absurd h (Nat.not_lt_zero _)
  | 0, k, fc + 1, fr + 1, N, I, J, B, hk, _, _, hN, hE, h => by
    refine ⟨I, J, B, fun K => ?_, fun K => ?_, by rw [show N + ((0 : Nat) : Int) = N by omega]; exact h, frI_rfl, frJ_rfl, frX_rfl, by omega⟩
    · rw [fl_X7_passByDay_3_0.eq_2, if_pos (by rw [nb_le (by omega) (by omega)]; omega), show k = n by omega]
    · rw [fl_X10_go_2_0.eq_2, if_pos (by rw [nb_le (by omega) (by omega)]; omega), show k = n by omega]
  | f + 1, k, fc + 1, fr + 1, N, I, J, B, hk, hfc, hfr, hN, hE, h => by
    have hE' := hE
    obtain ⟨hb, hA, m, m1, m2, m3, m4⟩ := hE'
    have hT : TkB (I (o + 8) 0) := by have := tn_of h; exact ⟨this.1, by omega⟩
    obtain ⟨I1, J1, B1, e1, e2, s1, p1, p2, p3, p4, p5, p6⟩ := st_tick (u := u) (less := 0) (op := opB (I 10) (I 11) m (dT (I (o + 8) 0))) (A := A) ho hX hu (by omega) hb hA (by decide) h
    have f1 : FrI o I I1 := ⟨p1, p2⟩
    obtain ⟨I2, J2, B2, e3, e4, s2, q1, q2, q3, q4⟩ := st_go (A := A) ho hX hu hn hA8 f (k + 1) fc fr (N + 1) I1 J1 B1 (by omega) (by omega) (by omega) (by omega) (env_fr ho hE f1) s1
    have t1 : (I1 (o + 8) 0).toInt = (I (o + 8) 0).toInt + 1 := by
      rw [p3, i3_add (by rw [show (1 : Int32).toInt = 1 by decide]; have := hT.1; omega) (by rw [show (1 : Int32).toInt = 1 by decide]; have := hT.2; omega)]; rfl
    refine ⟨I2, J2, B2, fun K => ?_, fun K => ?_, by rw [show N + ((f + 1 : Nat) : Int) = N + 1 + (f : Int) by omega]; exact s2, f1.tr q1, FrJ.tr p4 q2, FrX.tr ⟨p5, p6⟩ q3, by rw [q4, t1]; omega⟩
    · rw [fl_X7_passByDay_3_0.eq_2, if_neg (by rw [nb_le (by omega) (by omega)]; omega), fX6_day hT, b_n3_mk, fX3_open J (dT_lt _) (m4 _ (dT_lt _)), b_n3_mk, e1, b_n2_mk, n3_up, e3]
    · rw [fl_X10_go_2_0.eq_2, if_neg (by rw [nb_le (by omega) (by omega)]; omega), n3_tn (by omega), t54_of h, fX10_open B hT m1 m2 m3, b_n3_mk, hA8, e2, b_n2_mk, n3_up, e4]
theorem mU_n {n : Nat} (hn : n ≤ 1000000) : mU (n3 n) 0 + 1 = n + 1 := by
  unfold mU; rw [nb_t (by omega), show (0 : Int32).toInt = 0 by decide]; omega
theorem go_both {o X u n : Nat} {N : Int} {I A : Iv} {J B : Jv} (ho : 15 < o) (hX : X ≤ 240) (hu : u < 3) (hn : n ≤ 1000000) (hA8 : A 81 8 = n3 u) (hN : N + (n : Int) ≤ 2000000) (hE : ENv I A) (h : STm N o X I J B) :
    ∃ (I' : Iv) (J' B' : Jv), fn_X7_passByDay o (n3 n) (n3 u) I J = (I', J') ∧ fn_X10_go (n3 X) (n3 n) A B = (A, B') ∧ STm (N + (n : Int)) o X I' J' B' ∧ FrI o I I' ∧ FrJ o J J' ∧ FrX X B B' ∧ (I' (o + 8) 0).toInt = (I (o + 8) 0).toInt + (n : Int) := by
  obtain ⟨I', J', B', e1, e2, r⟩ := st_go (A := A) ho hX hu hn hA8 n 0 (n + 1) (n + 1) N I J B (by omega) (by omega) (by omega) hN hE h
  refine ⟨I', J', B', ?_, ?_, r⟩
  · unfold fn_X7_passByDay
    rw [mU_n hn]
    exact e1 _
  · unfold fn_X10_go
    rw [mU_n hn]
    exact e2 _
