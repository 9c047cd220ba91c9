/-! ===== what stays: the text, the box's numbers, the openings, the fault's place ===== -/
def S1 (b k : Nat) : Bool := b == 2 || b == 8 || b == 9 || b == 10 || b == 11 || b == 12 || b == 81 || b == 83 || b == 84 || b == 87 || (b == 1 && k == 1) || (b == 1 && k == 4) || (b == 1 && k == 5) || (b == 78 && k == 2) || (b == 78 && k == 5) || (b == 78 && k == 11) || (b == 78 && k == 16)
def KI (I0 I : Iv) : Prop := ∀ b k, S1 b k = true → I b k = I0 b k
def Q3 {α : Type} (I0 : Iv) (x : α × Iv × Jv) : Prop := KI I0 x.2.1
def Q2 (I0 : Iv) (x : Iv × Jv) : Prop := KI I0 x.1
theorem kI_w {I0 I : Iv} {a k : Nat} {v : Int32} (h : S1 a k = false) (q : KI I0 I) : KI I0 (wI I a k v) := by
  intro b j hb
  rw [wI_ne (by
    by_cases e : b = a
    · by_cases e2 : j = k
      · rw [e, e2, h] at hb; exact absurd hb (by decide)
      · exact Or.inr e2
    · exact Or.inl e)]
  exact q b j hb
theorem kI_c {I0 I : Iv} {a n : Nat} {f : Nat → Int32} (h : ∀ k, S1 a k = false) (q : KI I0 I) : KI I0 (cI I a n f) := by
  intro b j hb
  rw [cI_row (by rintro rfl; rw [h j] at hb; exact absurd hb (by decide))]
  exact q b j hb
theorem q_ite {c : Prop} [Decidable c] {α : Type} {Q : α → Prop} {a b : α} (h1 : Q a) (h2 : Q b) : Q (if c then a else b) := by
  by_cases q : c
  · rw [if_pos q]; exact h1
  · rw [if_neg q]; exact h2
theorem q_ltI {α : Type} {Q : α → Prop} {I0 x : Iv} {k : Iv → α} (hx : KI I0 x) (hk : ∀ I, KI I0 I → Q (k I)) : Q (l_t x k) := hk x hx
theorem q_lt {α β : Type} {Q : α → Prop} {x : β} {k : β → α} (hk : ∀ y, Q (k y)) : Q (l_t x k) := hk x
theorem q_b3 {α β : Type} {Q : β → Prop} {I0 : Iv} {x : α × Iv × Jv} {k : α → Iv → Jv → β} (hx : Q3 I0 x) (hk : ∀ r I J, KI I0 I → Q (k r I J)) : Q (b_n3 x k) := hk _ _ _ hx
theorem q_b2 {β : Type} {Q : β → Prop} {I0 : Iv} {x : Iv × Jv} {k : Iv → Jv → β} (hx : Q2 I0 x) (hk : ∀ I J, KI I0 I → Q (k I J)) : Q (b_n2 x k) := hk _ _ hx
theorem q_jn {α β : Type} {Q : β → Prop} {P : α → Prop} {x : α} {k : α → β} (hx : P x) (hk : ∀ j, P j → Q (k j)) : Q (j_n x k) := hk x hx
theorem st0 {o k : Nat} (h : StA o) : S1 (o) k = false := by
  rcases h with rfl | rfl | rfl | rfl | rfl <;> rfl
theorem st1 {o k : Nat} (h : StA o) : S1 (o + 1) k = false := by
  rcases h with rfl | rfl | rfl | rfl | rfl <;> rfl
theorem st2 {o k : Nat} (h : StA o) : S1 (o + 2) k = false := by
  rcases h with rfl | rfl | rfl | rfl | rfl <;> rfl
theorem st3 {o k : Nat} (h : StA o) : S1 (o + 3) k = false := by
  rcases h with rfl | rfl | rfl | rfl | rfl <;> rfl
theorem st4 {o k : Nat} (h : StA o) : S1 (o + 4) k = false := by
  rcases h with rfl | rfl | rfl | rfl | rfl <;> rfl
theorem st5 {o k : Nat} (h : StA o) : S1 (o + 5) k = false := by
  rcases h with rfl | rfl | rfl | rfl | rfl <;> rfl
theorem st6 {o k : Nat} (h : StA o) : S1 (o + 6) k = false := by
  rcases h with rfl | rfl | rfl | rfl | rfl <;> rfl
theorem st7 {o k : Nat} (h : StA o) : S1 (o + 7) k = false := by
  rcases h with rfl | rfl | rfl | rfl | rfl <;> rfl
theorem st8 {o k : Nat} (h : StA o) : S1 (o + 8) k = false := by
  rcases h with rfl | rfl | rfl | rfl | rfl <;> rfl
theorem fr_fn_X6_has {I0 : Iv} (o : Nat) (ho : StA o) (t : Int32) (I : Iv) (hI : KI I0 I) (J : Jv) : Q3 I0 (fn_X6_has o t I J) := by
  unfold fn_X6_has
  exact (q_ite hI hI)
theorem fr_fn_X6_warmthOf {I0 : Iv} (o : Nat) (ho : StA o) (cell : Int32) (I : Iv) (hI : KI I0 I) (J : Jv) : Q3 I0 (fn_X6_warmthOf o cell I J) := by
  unfold fn_X6_warmthOf
  exact (q_ite hI (q_ite hI (q_ite hI hI)))
theorem fr_fn_X6_tickOfDay {I0 : Iv} (o : Nat) (ho : StA o) (I : Iv) (hI : KI I0 I) (J : Jv) : Q3 I0 (fn_X6_tickOfDay o I J) := by
  unfold fn_X6_tickOfDay
  exact hI
theorem fr_fl_X6_allHeat_26_1 {I0 : Iv} (I : Iv) (J : Jv) (o : Nat) (Kf1 : Int64 → Int32 → Int64 × Iv × Jv) (hI : KI I0 I) (hKf1 : ∀ (a1 : Int64) (a2 : Int32), Q3 I0 (Kf1 a1 a2)) (ho : StA o) : ∀ (fu : Nat) (x4 : Int64) (x5 : Int32), Q3 I0 (fl_X6_allHeat_26_1 I J o Kf1 fu x4 x5) := by
  intro fu
  induction fu with
  | zero =>
    intro x4 x5
    rw [fl_X6_allHeat_26_1.eq_1]
    exact hI
  | succ kf1 ih =>
    intro x4 x5
    rw [fl_X6_allHeat_26_1.eq_2]
    exact (q_ite (hKf1 x4 x5) (q_ite (ih x4 (x5 + (1 : Int32))) (q_lt (fun v7 => (ih v7 (x5 + (1 : Int32)))))))
theorem fr_fl_X6_allHeat_4_0 {I0 : Iv} (I : Iv) (J : Jv) (o : Nat) (Kf0 : Int64 → Int32 → Int64 × Iv × Jv) (hI : KI I0 I) (hKf0 : ∀ (a3 : Int64) (a4 : Int32), Q3 I0 (Kf0 a3 a4)) (ho : StA o) : ∀ (fu : Nat) (x1 : Int64) (x2 : Int32), Q3 I0 (fl_X6_allHeat_4_0 I J o Kf0 fu x1 x2) := by
  intro fu
  induction fu with
  | zero =>
    intro x1 x2
    rw [fl_X6_allHeat_4_0.eq_1]
    exact hI
  | succ kf0 ih =>
    intro x1 x2
    rw [fl_X6_allHeat_4_0.eq_2]
    exact (q_ite (hKf0 x1 x2) (q_lt (fun v8 => (ih v8 (x2 + (1 : Int32))))))
theorem fr_fn_X6_allHeat {I0 : Iv} (o : Nat) (ho : StA o) (I : Iv) (hI : KI I0 I) (J : Jv) : Q3 I0 (fn_X6_allHeat o I J) := by
  unfold fn_X6_allHeat
  exact (fr_fl_X6_allHeat_4_0 I J o (fun (x1 : Int64) (x2 : Int32) => fl_X6_allHeat_26_1 I J o (fun (x4 : Int64) (x5 : Int32) => (x4, I, J)) (mU (8 : Int32) ((0 : Int32)) + 1) x1 (0 : Int32)) hI (fun x1 x2 => (fr_fl_X6_allHeat_26_1 I J o (fun (x4 : Int64) (x5 : Int32) => (x4, I, J)) hI (fun x4 x5 => hI) ho (mU (8 : Int32) ((0 : Int32)) + 1) x1 (0 : Int32))) ho (mU (4 : Int32) ((0 : Int32)) + 1) (0 : Int64) (0 : Int32))
theorem fr_fn_X6_hasFood {I0 : Iv} (o : Nat) (ho : StA o) (f : Int32) (I : Iv) (hI : KI I0 I) (J : Jv) : Q3 I0 (fn_X6_hasFood o f I J) := by
  unfold fn_X6_hasFood
  exact (q_ite hI (q_ite hI (q_ite hI hI)))
theorem fr_fl_X6_firstNotThere_2_0 {I0 : Iv} (I : Iv) (J : Jv) (o : Nat) (Kf0 : Int32 → Int32 × Iv × Jv) (hI : KI I0 I) (hKf0 : ∀ (a5 : Int32), Q3 I0 (Kf0 a5)) (ho : StA o) : ∀ (fu : Nat) (x1 : Int32), Q3 I0 (fl_X6_firstNotThere_2_0 I J o Kf0 fu x1) := by
  intro fu
  induction fu with
  | zero =>
    intro x1
    rw [fl_X6_firstNotThere_2_0.eq_1]
    exact hI
  | succ kf0 ih =>
    intro x1
    rw [fl_X6_firstNotThere_2_0.eq_2]
    exact (q_ite (hKf0 x1) (q_ite hI (ih (x1 + (1 : Int32)))))
theorem fr_fn_X6_firstNotThere {I0 : Iv} (o : Nat) (ho : StA o) (I : Iv) (hI : KI I0 I) (J : Jv) : Q3 I0 (fn_X6_firstNotThere o I J) := by
  unfold fn_X6_firstNotThere
  exact (fr_fl_X6_firstNotThere_2_0 I J o (fun (x1 : Int32) => ((-1 : Int32), I, J)) hI (fun x1 => hI) ho (mU (8 : Int32) ((0 : Int32)) + 1) (0 : Int32))
theorem fr_fl_X6_foodsThere_4_0 {I0 : Iv} (I : Iv) (J : Jv) (o : Nat) (Kf0 : Int32 → Int32 → Int32 × Iv × Jv) (hI : KI I0 I) (hKf0 : ∀ (a6 : Int32) (a7 : Int32), Q3 I0 (Kf0 a6 a7)) (ho : StA o) : ∀ (fu : Nat) (x1 : Int32) (x2 : Int32), Q3 I0 (fl_X6_foodsThere_4_0 I J o Kf0 fu x1 x2) := by
  intro fu
  induction fu with
  | zero =>
    intro x1 x2
    rw [fl_X6_foodsThere_4_0.eq_1]
    exact hI
  | succ kf0 ih =>
    intro x1 x2
    rw [fl_X6_foodsThere_4_0.eq_2]
    exact (q_ite (hKf0 x1 x2) (q_ite (ih x1 (x2 + (1 : Int32))) (ih (x1 + (1 : Int32)) (x2 + (1 : Int32)))))
theorem fr_fn_X6_foodsThere {I0 : Iv} (o : Nat) (ho : StA o) (I : Iv) (hI : KI I0 I) (J : Jv) : Q3 I0 (fn_X6_foodsThere o I J) := by
  unfold fn_X6_foodsThere
  exact (fr_fl_X6_foodsThere_4_0 I J o (fun (x1 : Int32) (x2 : Int32) => (x1, I, J)) hI (fun x1 x2 => hI) ho (mU (8 : Int32) ((0 : Int32)) + 1) (0 : Int32) (0 : Int32))
theorem fr_fn_X6_addFood {I0 : Iv} (o : Nat) (ho : StA o) (f : Int32) (shelf : Int32) (warm : Int32) (cap : Int32) (I : Iv) (hI : KI I0 I) (J : Jv) : Q2 I0 (fn_X6_addFood o f shelf warm cap I J) := by
  unfold fn_X6_addFood
  exact (q_ite hI (q_ite (q_ltI (kI_w (st3 ho) hI) (fun I1 h8 => (q_ltI (kI_w (st4 ho) h8) (fun I3 h9 => (q_ltI (kI_w (st2 ho) h9) (fun I5 h10 => (q_lt (fun J7 => (q_lt (fun J9 => h10)))))))))) hI))
theorem fr_fn_X6_removeFood {I0 : Iv} (o : Nat) (ho : StA o) (f : Int32) (I : Iv) (hI : KI I0 I) (J : Jv) : Q2 I0 (fn_X6_removeFood o f I J) := by
  unfold fn_X6_removeFood
  exact (q_ite hI (q_ite (q_ltI (kI_w (st3 ho) hI) (fun I1 h11 => (q_lt (fun J3 => (q_lt (fun J5 => h11)))))) hI))
theorem fr_fn_X6_isWithin {I0 : Iv} (o : Nat) (ho : StA o) (f : Int32) (I : Iv) (hI : KI I0 I) (J : Jv) : Q3 I0 (fn_X6_isWithin o f I J) := by
  unfold fn_X6_isWithin
  exact (q_b3 (fr_fn_X6_warmthOf o ho ((4 : Int32) + f) I hI J) (fun r6 _ _ h12 => (q_ite hI (q_ite hI (q_ite hI (q_ite hI hI))))))
theorem fr_fl_X6_foodsWithin_4_0 {I0 : Iv} (I : Iv) (J : Jv) (o : Nat) (Kf0 : Int32 → Int32 → Int32 × Iv × Jv) (hI : KI I0 I) (hKf0 : ∀ (a13 : Int32) (a14 : Int32), Q3 I0 (Kf0 a13 a14)) (ho : StA o) : ∀ (fu : Nat) (x1 : Int32) (x2 : Int32), Q3 I0 (fl_X6_foodsWithin_4_0 I J o Kf0 fu x1 x2) := by
  intro fu
  induction fu with
  | zero =>
    intro x1 x2
    rw [fl_X6_foodsWithin_4_0.eq_1]
    exact hI
  | succ kf0 ih =>
    intro x1 x2
    rw [fl_X6_foodsWithin_4_0.eq_2]
    exact (q_ite (hKf0 x1 x2) (q_ite (ih x1 (x2 + (1 : Int32))) (q_b3 (fr_fn_X6_isWithin o ho x2 I hI J) (fun r9 _ _ h15 => (q_ite (ih x1 (x2 + (1 : Int32))) (ih (x1 + (1 : Int32)) (x2 + (1 : Int32))))))))
theorem fr_fn_X6_foodsWithin {I0 : Iv} (o : Nat) (ho : StA o) (I : Iv) (hI : KI I0 I) (J : Jv) : Q3 I0 (fn_X6_foodsWithin o I J) := by
  unfold fn_X6_foodsWithin
  exact (fr_fl_X6_foodsWithin_4_0 I J o (fun (x1 : Int32) (x2 : Int32) => (x1, I, J)) hI (fun x1 x2 => hI) ho (mU (8 : Int32) ((0 : Int32)) + 1) (0 : Int32) (0 : Int32))
theorem fr_fl_X6_letOffIce_27_0 {I0 : Iv} (o : Nat) (I4 : Iv) (Kf0 : Int32 → Jv → Int32 × Iv × Jv) (hI4 : KI I0 I4) (hKf0 : ∀ (a16 : Int32) (a17 : Jv), Q3 I0 (Kf0 a16 a17)) (ho : StA o) : ∀ (fu : Nat) (x6 : Int32) (J7 : Jv), Q3 I0 (fl_X6_letOffIce_27_0 o I4 Kf0 fu x6 J7) := by
  intro fu
  induction fu with
  | zero =>
    intro x6 J7
    rw [fl_X6_letOffIce_27_0.eq_1]
    exact hI4
  | succ kf0 ih =>
    intro x6 J7
    rw [fl_X6_letOffIce_27_0.eq_2]
    exact (q_ite (hKf0 x6 J7) (q_lt (fun v10 => (q_b3 (fr_fn_X6_warmthOf o ho x6 I4 hI4 J7) (fun r16 _ _ h18 => (q_ite (ih (x6 + (1 : Int32)) J7) (q_lt (fun J18 => (q_lt (fun J20 => (ih (x6 + (1 : Int32)) J20)))))))))))
theorem fr_fn_X6_letOffIce {I0 : Iv} (o : Nat) (ho : StA o) (I : Iv) (hI : KI I0 I) (J : Jv) : Q3 I0 (fn_X6_letOffIce o I J) := by
  unfold fn_X6_letOffIce
  exact (q_lt (fun v1 => (q_ltI (kI_w (st8 ho) hI) (fun I2 h19 => (q_ltI (kI_w (st8 ho) h19) (fun I4 h20 => (fr_fl_X6_letOffIce_27_0 o I4 (fun (x6 : Int32) (J7 : Jv) => (v1, I4, J7)) h20 (fun x6 J7 => h20) ho (mUe (3 : Int32) ((0 : Int32)) + 1) (0 : Int32) J)))))))
theorem fr_fn_X6_draw {I0 : Iv} (o : Nat) (ho : StA o) (n : Int32) (I : Iv) (hI : KI I0 I) (J : Jv) : Q3 I0 (fn_X6_draw o n I J) := by
  unfold fn_X6_draw
  exact (q_ltI (kI_w (st0 ho) hI) (fun I1 h21 => (q_ite h21 h21)))
theorem fr_fl_X6_becomeFresh_49_1 {I0 : Iv} (o : Nat) (Kf1 : Int32 → Iv → Jv → Iv × Jv) (hKf1 : ∀ (a22 : Int32) (a23 : Iv) (a24 : Jv), KI I0 a23 → Q2 I0 (Kf1 a22 a23 a24)) (ho : StA o) : ∀ (fu : Nat) (x10 : Int32) (I11 : Iv) (J12 : Jv), KI I0 I11 → Q2 I0 (fl_X6_becomeFresh_49_1 o Kf1 fu x10 I11 J12) := by
  intro fu
  induction fu with
  | zero =>
    intro x10 I11 J12 hI11
    rw [fl_X6_becomeFresh_49_1.eq_1]
    exact hI11
  | succ kf1 ih =>
    intro x10 I11 J12 hI11
    rw [fl_X6_becomeFresh_49_1.eq_2]
    exact (q_ite (hKf1 x10 I11 J12 hI11) (q_ltI (kI_w (st3 ho) hI11) (fun I46 h25 => (q_lt (fun J48 => (ih (x10 + (1 : Int32)) I46 J48 h25))))))
theorem fr_fl_X6_becomeFresh_2_0 {I0 : Iv} (o : Nat) (Kf0 : Int32 → Iv → Jv → Iv × Jv) (hKf0 : ∀ (a26 : Int32) (a27 : Iv) (a28 : Jv), KI I0 a27 → Q2 I0 (Kf0 a26 a27 a28)) (ho : StA o) : ∀ (fu : Nat) (x1 : Int32) (I2 : Iv) (J3 : Jv), KI I0 I2 → Q2 I0 (fl_X6_becomeFresh_2_0 o Kf0 fu x1 I2 J3) := by
  intro fu
  induction fu with
  | zero =>
    intro x1 I2 J3 hI2
    rw [fl_X6_becomeFresh_2_0.eq_1]
    exact hI2
  | succ kf0 ih =>
    intro x1 I2 J3 hI2
    rw [fl_X6_becomeFresh_2_0.eq_2]
    exact (q_ite (hKf0 x1 I2 J3 hI2) (q_ltI (kI_w (st2 ho) hI2) (fun I50 h29 => (q_lt (fun J52 => (ih (x1 + (1 : Int32)) I50 J52 h29))))))
theorem fr_fn_X6_becomeFresh {I0 : Iv} (o : Nat) (ho : StA o) (I : Iv) (hI : KI I0 I) (J : Jv) : Q2 I0 (fn_X6_becomeFresh o I J) := by
  unfold fn_X6_becomeFresh
  exact (fr_fl_X6_becomeFresh_2_0 o (fun (x1 : Int32) (I2 : Iv) (J3 : Jv) => l_t (wI I2 (o + 2) 3 (40 : Int32)) (fun (I6 : Iv) => l_t (wJ J3 (o + 1) 3 (-40000 : Int64)) (fun (J8 : Jv) => fl_X6_becomeFresh_49_1 o (fun (x10 : Int32) (I11 : Iv) (J12 : Jv) => l_t (cJ J12 (o + 7) 6 (fun _ => (0 : Int64))) (fun (J16 : Jv) => l_t I11 (fun (I15 : Iv) => l_t (cI I15 (o + 8) 8 (fun _ => (0 : Int32))) (fun (I22 : Iv) => l_t J16 (fun (J23 : Jv) => b_n3 (fn_X6_has o (2 : Int32) I22 J23) (fun (r34 : Int32) (_ : Iv) (_ : Jv) => j_n (fun (I36 : Iv) => l_t (wI I36 o 9 (500 : Int32)) (fun (I38 : Iv) => l_t (wI I38 o 10 (0 : Int32)) (fun (I40 : Iv) => l_t (wI I40 o 11 (0 : Int32)) (fun (I42 : Iv) => (I42, J23))))) (fun (j110_2 : Iv → Iv × Jv) => if r34 = 0 then j110_2 I22 else l_t (wI I22 (o + 8) 5 (600 : Int32)) (fun (I44 : Iv) => j110_2 I44)))))))) (mU (8 : Int32) ((0 : Int32)) + 1) (0 : Int32) I6 J8))) (fun x1 I2 J3 h30 => (q_ltI (kI_w (st2 ho) h30) (fun I6 h31 => (q_lt (fun J8 => (fr_fl_X6_becomeFresh_49_1 o (fun (x10 : Int32) (I11 : Iv) (J12 : Jv) => l_t (cJ J12 (o + 7) 6 (fun _ => (0 : Int64))) (fun (J16 : Jv) => l_t I11 (fun (I15 : Iv) => l_t (cI I15 (o + 8) 8 (fun _ => (0 : Int32))) (fun (I22 : Iv) => l_t J16 (fun (J23 : Jv) => b_n3 (fn_X6_has o (2 : Int32) I22 J23) (fun (r34 : Int32) (_ : Iv) (_ : Jv) => j_n (fun (I36 : Iv) => l_t (wI I36 o 9 (500 : Int32)) (fun (I38 : Iv) => l_t (wI I38 o 10 (0 : Int32)) (fun (I40 : Iv) => l_t (wI I40 o 11 (0 : Int32)) (fun (I42 : Iv) => (I42, J23))))) (fun (j110_2 : Iv → Iv × Jv) => if r34 = 0 then j110_2 I22 else l_t (wI I22 (o + 8) 5 (600 : Int32)) (fun (I44 : Iv) => j110_2 I44)))))))) (fun x10 I11 J12 h32 => (q_lt (fun J16 => (q_ltI h32 (fun I15 h33 => (q_ltI (kI_c (fun _ => (st8 ho)) h33) (fun I22 h34 => (q_lt (fun J23 => (q_b3 (fr_fn_X6_has o ho (2 : Int32) I22 h34 J23) (fun r34 _ _ h35 => (q_jn (P := fun (j : Iv → Iv × Jv) => ∀ (a36 : Iv), KI I0 a36 → Q2 I0 (j a36)) (fun I36 h37 => (q_ltI (kI_w (st0 ho) h37) (fun I38 h38 => (q_ltI (kI_w (st0 ho) h38) (fun I40 h39 => (q_ltI (kI_w (st0 ho) h39) (fun I42 h40 => h40))))))) (fun j110_2 j41 => (q_ite (j41 I22 h34) (q_ltI (kI_w (st8 ho) h34) (fun I44 h42 => (j41 I44 h42))))))))))))))))) ho (mU (8 : Int32) ((0 : Int32)) + 1) (0 : Int32) I6 J8 h31)))))) ho (mU (3 : Int32) ((0 : Int32)) + 1) (0 : Int32) I J hI)
theorem fr_fn_X6_copyFrom {I0 : Iv} (o : Nat) (ho : StA o) (p : Nat) (I : Iv) (hI : KI I0 I) (J : Jv) : Q2 I0 (fn_X6_copyFrom o p I J) := by
  unfold fn_X6_copyFrom
  exact (q_lt (fun J1 => (q_ltI (kI_c (fun _ => (st2 ho)) hI) (fun I3 h43 => (q_ltI (kI_c (fun _ => (st3 ho)) h43) (fun I5 h44 => (q_ltI (kI_c (fun _ => (st4 ho)) h44) (fun I7 h45 => (q_ltI (kI_c (fun _ => (st5 ho)) h45) (fun I9 h46 => (q_ltI (kI_c (fun _ => (st6 ho)) h46) (fun I11 h47 => (q_lt (fun J13 => (q_ltI (kI_c (fun _ => (st8 ho)) h47) (fun I15 h48 => (q_ltI (kI_w (st0 ho) h48) (fun I17 h49 => (q_ltI (kI_w (st0 ho) h49) (fun I19 h50 => (q_ltI (kI_w (st0 ho) h50) (fun I21 h51 => (q_ltI (kI_w (st0 ho) h51) (fun I23 h52 => (q_ltI (kI_w (st0 ho) h52) (fun I25 h53 => (q_ltI (kI_w (st0 ho) h53) (fun I27 h54 => h54))))))))))))))))))))))))))))
theorem fr_fn_X3_isOpenIn {I0 : Iv} (t : Int32) (I : Iv) (hI : KI I0 I) (J : Jv) : Q3 I0 (fn_X3_isOpenIn t I J) := by
  unfold fn_X3_isOpenIn
  exact (q_ite hI (q_ite hI (q_ite hI hI)))
theorem fr_fn_X0_sealOf {I0 : Iv} (o : Nat) (ho : StA o) (I : Iv) (hI : KI I0 I) (J : Jv) : Q3 I0 (fn_X0_sealOf o I J) := by
  unfold fn_X0_sealOf
  exact (q_b3 (fr_fn_X6_has o ho (1 : Int32) I hI J) (fun r6 _ _ h55 => (q_ite hI hI)))
theorem fr_fn_X0_powerOf {I0 : Iv} (o : Nat) (ho : StA o) (I : Iv) (hI : KI I0 I) (J : Jv) : Q3 I0 (fn_X0_powerOf o I J) := by
  unfold fn_X0_powerOf
  exact (q_lt (fun v1 => (q_b3 (fr_fn_X6_has o ho (4 : Int32) I hI J) (fun r7 _ _ h56 => (q_jn (P := fun (j : Int32 → Int32 × Iv × Jv) => ∀ (a57 : Int32), Q3 I0 (j a57)) (fun y9 => (q_b3 (fr_fn_X6_has o ho (8 : Int32) I hI J) (fun r15 _ _ h58 => (q_ite hI (q_lt (fun v17 => hI)))))) (fun j25_0 j59 => (q_ite (j59 v1) (q_lt (fun v18 => (j59 v18))))))))))
theorem fr_fn_X0_roomOf {I0 : Iv} (o : Nat) (ho : StA o) (I : Iv) (hI : KI I0 I) (J : Jv) : Q3 I0 (fn_X0_roomOf o I J) := by
  unfold fn_X0_roomOf
  exact (q_lt (fun v1 => (q_b3 (fr_fn_X6_tickOfDay o ho I hI J) (fun r7 _ _ h60 => (q_lt (fun v9 => (q_jn (P := fun (j : Int32 → Int32 × Iv × Jv) => ∀ (a61 : Int32), Q3 I0 (j a61)) (fun w10 => (q_jn (P := fun (j : Int32 → Int32 × Iv × Jv) => ∀ (a62 : Int32), Q3 I0 (j a62)) (fun y11 => (q_b3 (fr_fn_X6_has o ho (64 : Int32) I hI J) (fun r17 _ _ h63 => (q_ite hI hI)))) (fun j77_1 j64 => (q_ite (j64 v1) (q_lt (fun v19 => (j64 v19))))))) (fun j57_0 j65 => (q_jn (P := Q3 I0) (j65 ((0 : Int32))) (fun j56_2 j66 => (q_ite j66 (q_ite j66 (q_ite j66 (j65 ((1 : Int32))))))))))))))))
theorem fr_fl_X7_lookAtWarmths_2_0 {I0 : Iv} (J : Jv) (o : Nat) (Kf0 : Int32 → Iv → Iv × Jv) (hKf0 : ∀ (a67 : Int32) (a68 : Iv), KI I0 a68 → Q2 I0 (Kf0 a67 a68)) (ho : StA o) : ∀ (fu : Nat) (x1 : Int32) (I2 : Iv), KI I0 I2 → Q2 I0 (fl_X7_lookAtWarmths_2_0 J o Kf0 fu x1 I2) := by
  intro fu
  induction fu with
  | zero =>
    intro x1 I2 hI2
    rw [fl_X7_lookAtWarmths_2_0.eq_1]
    exact hI2
  | succ kf0 ih =>
    intro x1 I2 hI2
    rw [fl_X7_lookAtWarmths_2_0.eq_2]
    exact (q_ite (hKf0 x1 I2 hI2) (q_b3 (fr_fn_X6_warmthOf o ho x1 I2 hI2 J) (fun r10 _ _ h69 => (q_ltI (kI_w rfl hI2) (fun I12 h70 => (ih (x1 + (1 : Int32)) I12 h70))))))
theorem fr_fn_X7_lookAtWarmths {I0 : Iv} (o : Nat) (ho : StA o) (I : Iv) (hI : KI I0 I) (J : Jv) : Q2 I0 (fn_X7_lookAtWarmths o I J) := by
  unfold fn_X7_lookAtWarmths
  exact (fr_fl_X7_lookAtWarmths_2_0 J o (fun (x1 : Int32) (I2 : Iv) => (I2, J)) (fun x1 I2 h71 => h71) ho (mU (12 : Int32) ((0 : Int32)) + 1) (0 : Int32) I hI)
theorem fr_fn_X7_switchMachine {I0 : Iv} (o : Nat) (ho : StA o) (bulb : Int32) (less : Int32) (I : Iv) (hI : KI I0 I) (J : Jv) : Q2 I0 (fn_X7_switchMachine o bulb less I J) := by
  unfold fn_X7_switchMachine
  exact (q_jn (P := fun (j : Int32 → Iv × Jv) => ∀ (a72 : Int32), Q2 I0 (j a72)) (fun w1 => (q_jn (P := fun (j : Int32 → Iv × Jv) => ∀ (a73 : Int32), Q2 I0 (j a73)) (fun w2 => (q_ltI (kI_w (st0 ho) hI) (fun I3 h74 => (q_lt (fun v5 => (q_jn (P := fun (j : Iv → Iv × Jv) => ∀ (a75 : Iv), KI I0 a75 → Q2 I0 (j a75)) (fun I6 h76 => (q_ite h76 (q_ite (q_ltI (kI_w (st8 ho) h76) (fun I8 h77 => h77)) h76))) (fun j139_2 j78 => (q_ite (q_ltI (kI_w (st0 ho) h74) (fun I21 h79 => (j78 I21 h79))) (q_b3 (fr_fn_X6_has o ho (16 : Int32) I3 h74 J) (fun r15 _ _ h80 => (q_jn (P := Q2 I0) (q_ltI (kI_w (st0 ho) h74) (fun I17 h82 => (j78 I17 h82))) (fun j104_3 j81 => (q_ite (q_ite (q_ite (j78 I3 h74) (q_ltI (kI_w (st0 ho) h74) (fun I19 h83 => (j78 I19 h83)))) j81) j81))))))))))))) (fun j49_1 j84 => (q_ite (j84 w1) (j84 (((I o 9) + ((w1 - (I o 9)) / (8 : Int32))))))))) (fun j19_0 j85 => (q_jn (P := Q2 I0) (j85 ((0 : Int32))) (fun j18_4 j86 => (q_ite j86 (q_ite j86 (j85 ((I 14 bulb.toNatClampNeg)))))))))
theorem fr_fn_X7_flow {I0 : Iv} (ease : Int32) (from_ : Int32) (to_ : Int32) (fur : Int32) (I : Iv) (hI : KI I0 I) (J : Jv) : Q2 I0 (fn_X7_flow ease from_ to_ fur I J) := by
  unfold fn_X7_flow
  exact (q_ite hI (q_ite hI (q_ite hI (q_ite hI (q_ite (q_lt (fun v1 => (q_lt (fun v2 => (q_lt (fun J3 => (q_lt (fun J5 => hI)))))))) hI)))))
theorem fr_fl_X7_exchange_175_3 {I0 : Iv} (o : Nat) (I25 : Iv) (Kf3 : Int32 → Jv → Iv × Jv) (hI25 : KI I0 I25) (hKf3 : ∀ (a87 : Int32) (a88 : Jv), Q2 I0 (Kf3 a87 a88)) (ho : StA o) : ∀ (fu : Nat) (x29 : Int32) (J30 : Jv), Q2 I0 (fl_X7_exchange_175_3 o I25 Kf3 fu x29 J30) := by
  intro fu
  induction fu with
  | zero =>
    intro x29 J30
    rw [fl_X7_exchange_175_3.eq_1]
    exact hI25
  | succ kf3 ih =>
    intro x29 J30
    rw [fl_X7_exchange_175_3.eq_2]
    exact (q_ite (hKf3 x29 J30) (q_lt (fun J33 => (ih (x29 + (1 : Int32)) J33))))
theorem fr_fl_X7_exchange_124_2 {I0 : Iv} (o : Nat) (Kf2 : Int32 → Iv → Jv → Iv × Jv) (hKf2 : ∀ (a89 : Int32) (a90 : Iv) (a91 : Jv), KI I0 a90 → Q2 I0 (Kf2 a89 a90 a91)) (ho : StA o) : ∀ (fu : Nat) (x24 : Int32) (I25 : Iv) (J26 : Jv), KI I0 I25 → Q2 I0 (fl_X7_exchange_124_2 o Kf2 fu x24 I25 J26) := by
  intro fu
  induction fu with
  | zero =>
    intro x24 I25 J26 hI25
    rw [fl_X7_exchange_124_2.eq_1]
    exact hI25
  | succ kf2 ih =>
    intro x24 I25 J26 hI25
    rw [fl_X7_exchange_124_2.eq_2]
    exact (q_ite (hKf2 x24 I25 J26 hI25) (q_ite (ih (x24 + (1 : Int32)) I25 J26 hI25) (q_b2 (fr_fn_X7_flow (I25 8 5) (I25 (o + 4) x24.toNatClampNeg) ((4 : Int32) + x24) (0 : Int32) I25 hI25 J26) (fun I35 J36 h92 => (ih (x24 + (1 : Int32)) I35 J36 h92)))))
theorem fr_fl_X7_exchange_68_1 {I0 : Iv} (Kf1 : Int32 → Iv → Jv → Iv × Jv) (hKf1 : ∀ (a93 : Int32) (a94 : Iv) (a95 : Jv), KI I0 a94 → Q2 I0 (Kf1 a93 a94 a95)) : ∀ (fu : Nat) (x12 : Int32) (I13 : Iv) (J14 : Jv), KI I0 I13 → Q2 I0 (fl_X7_exchange_68_1 Kf1 fu x12 I13 J14) := by
  intro fu
  induction fu with
  | zero =>
    intro x12 I13 J14 hI13
    rw [fl_X7_exchange_68_1.eq_1]
    exact hI13
  | succ kf1 ih =>
    intro x12 I13 J14 hI13
    rw [fl_X7_exchange_68_1.eq_2]
    exact (q_ite (hKf1 x12 I13 J14 hI13) (q_b2 (fr_fn_X7_flow (I13 8 3) x12 (x12 + (1 : Int32)) (0 : Int32) I13 hI13 J14) (fun I42 J43 h96 => (ih (x12 + (1 : Int32)) I42 J43 h96))))
theorem fr_fl_X7_exchange_11_0 {I0 : Iv} (room : Int32) (leak : Int32) (o : Nat) (I1 : Iv) (Kf0 : Int32 → Jv → Iv × Jv) (hI1 : KI I0 I1) (hKf0 : ∀ (a97 : Int32) (a98 : Jv), Q2 I0 (Kf0 a97 a98)) (ho : StA o) : ∀ (fu : Nat) (x8 : Int32) (J9 : Jv), Q2 I0 (fl_X7_exchange_11_0 room leak o I1 Kf0 fu x8 J9) := by
  intro fu
  induction fu with
  | zero =>
    intro x8 J9
    rw [fl_X7_exchange_11_0.eq_1]
    exact hI1
  | succ kf0 ih =>
    intro x8 J9
    rw [fl_X7_exchange_11_0.eq_2]
    exact (q_ite (hKf0 x8 J9) (q_lt (fun v49 => (q_lt (fun J50 => (q_lt (fun J52 => (ih (x8 + (1 : Int32)) J52))))))))
theorem fr_fn_X7_exchange {I0 : Iv} (o : Nat) (ho : StA o) (room : Int32) (leak : Int32) (I : Iv) (hI : KI I0 I) (J : Jv) : Q2 I0 (fn_X7_exchange o room leak I J) := by
  unfold fn_X7_exchange
  exact (q_lt (fun J2 => (q_ltI hI (fun I1 h99 => (fr_fl_X7_exchange_11_0 room leak o I1 (fun (x8 : Int32) (J9 : Jv) => fl_X7_exchange_68_1  (fun (x12 : Int32) (I13 : Iv) (J14 : Jv) => b_n2 (fn_X7_flow (I13 8 4) (0 : Int32) (3 : Int32) (I13 (o + 8) 5) I13 J14) (fun (I17 : Iv) (J18 : Jv) => fl_X7_exchange_124_2 o (fun (x24 : Int32) (I25 : Iv) (J26 : Jv) => fl_X7_exchange_175_3 o I25 (fun (x29 : Int32) (J30 : Jv) => (I25, J30)) (mU (12 : Int32) ((0 : Int32)) + 1) (0 : Int32) J26) (mU (8 : Int32) ((0 : Int32)) + 1) (0 : Int32) I17 J18)) (mU (2 : Int32) ((0 : Int32)) + 1) (0 : Int32) I1 J9) h99 (fun x8 J9 => (fr_fl_X7_exchange_68_1 (fun (x12 : Int32) (I13 : Iv) (J14 : Jv) => b_n2 (fn_X7_flow (I13 8 4) (0 : Int32) (3 : Int32) (I13 (o + 8) 5) I13 J14) (fun (I17 : Iv) (J18 : Jv) => fl_X7_exchange_124_2 o (fun (x24 : Int32) (I25 : Iv) (J26 : Jv) => fl_X7_exchange_175_3 o I25 (fun (x29 : Int32) (J30 : Jv) => (I25, J30)) (mU (12 : Int32) ((0 : Int32)) + 1) (0 : Int32) J26) (mU (8 : Int32) ((0 : Int32)) + 1) (0 : Int32) I17 J18)) (fun x12 I13 J14 h100 => (q_b2 (fr_fn_X7_flow (I13 8 4) (0 : Int32) (3 : Int32) (I13 (o + 8) 5) I13 h100 J14) (fun I17 J18 h101 => (fr_fl_X7_exchange_124_2 o (fun (x24 : Int32) (I25 : Iv) (J26 : Jv) => fl_X7_exchange_175_3 o I25 (fun (x29 : Int32) (J30 : Jv) => (I25, J30)) (mU (12 : Int32) ((0 : Int32)) + 1) (0 : Int32) J26) (fun x24 I25 J26 h102 => (fr_fl_X7_exchange_175_3 o I25 (fun (x29 : Int32) (J30 : Jv) => (I25, J30)) h102 (fun x29 J30 => h102) ho (mU (12 : Int32) ((0 : Int32)) + 1) (0 : Int32) J26)) ho (mU (8 : Int32) ((0 : Int32)) + 1) (0 : Int32) I17 J18 h101)))) (mU (2 : Int32) ((0 : Int32)) + 1) (0 : Int32) I1 J9 h99)) ho (mU (3 : Int32) ((0 : Int32)) + 1) (0 : Int32) J2)))))
theorem fr_fn_X7_giveLight {I0 : Iv} (o : Nat) (ho : StA o) (I : Iv) (hI : KI I0 I) (J : Jv) : Q2 I0 (fn_X7_giveLight o I J) := by
  unfold fn_X7_giveLight
  exact (q_lt (fun v1 => (q_lt (fun J2 => (q_lt (fun J4 => (q_ltI (kI_w (st8 ho) hI) (fun I6 h103 => h103))))))))
theorem fr_fn_X7_moveOut {I0 : Iv} (o : Nat) (ho : StA o) (power : Int32) (I : Iv) (hI : KI I0 I) (J : Jv) : Q2 I0 (fn_X7_moveOut o power I J) := by
  unfold fn_X7_moveOut
  exact (q_lt (fun v1 => (q_lt (fun J2 => (q_lt (fun J4 => (q_ltI (kI_w (st8 ho) hI) (fun I6 h104 => (q_ltI (kI_w (st8 ho) h104) (fun I8 h105 => h105))))))))))
theorem fr_fn_X7_takeWet {I0 : Iv} (o : Nat) (ho : StA o) (wet : Int32) (I : Iv) (hI : KI I0 I) (J : Jv) : Q2 I0 (fn_X7_takeWet o wet I J) := by
  unfold fn_X7_takeWet
  exact (q_ltI (kI_w (st8 ho) hI) (fun I1 h106 => (q_b3 (fr_fn_X6_warmthOf o ho (3 : Int32) I1 h106 J) (fun r8 _ _ h107 => (q_ite (q_lt (fun v10 => (q_ltI (kI_w (st8 ho) h106) (fun I11 h108 => (q_ltI (kI_w (st8 ho) h108) (fun I13 h109 => (q_ltI (kI_w (st8 ho) h109) (fun I15 h110 => h110)))))))) (q_lt (fun v17 => (q_ltI (kI_w (st8 ho) h106) (fun I18 h111 => (q_ltI (kI_w (st8 ho) h111) (fun I20 h112 => h112)))))))))))
theorem fr_fn_X7_pass {I0 : Iv} (o : Nat) (ho : StA o) (open_ : Int32) (bulb : Int32) (less : Int32) (I : Iv) (hI : KI I0 I) (J : Jv) : Q2 I0 (fn_X7_pass o open_ bulb less I J) := by
  unfold fn_X7_pass
  exact (q_b2 (fr_fn_X7_lookAtWarmths o ho I hI J) (fun I1 J2 h113 => (q_b3 (fr_fn_X0_roomOf o ho I1 h113 J2) (fun r13 _ _ h114 => (q_b3 (fr_fn_X0_sealOf o ho I1 h113 J2) (fun r20 _ _ h115 => (q_b2 (fr_fn_X7_switchMachine o ho bulb less I1 h113 J2) (fun I22 J23 h116 => (q_jn (P := fun (j : Int32 → Iv × Jv) => ∀ (a117 : Int32), Q2 I0 (j a117)) (fun w29 => (q_b2 (fr_fn_X7_exchange o ho r13 (((I22 8 1) + r20) + w29) I22 h116 J23) (fun I30 J31 h118 => (q_jn (P := fun (j : Iv → Jv → Iv × Jv) => ∀ (a119 : Iv) (a120 : Jv), KI I0 a119 → Q2 I0 (j a119 a120)) (fun I37 J38 h121 => (q_jn (P := fun (j : Iv → Jv → Iv × Jv) => ∀ (a122 : Iv) (a123 : Jv), KI I0 a122 → Q2 I0 (j a122 a123)) (fun I40 J41 h124 => (q_jn (P := fun (j : Int32 → Iv × Jv) => ∀ (a125 : Int32), Q2 I0 (j a125)) (fun w43 => (q_b2 (fr_fn_X7_takeWet o ho (r20 + w43) I40 h124 J41) (fun I44 J45 h126 => (q_ltI (kI_w (st8 ho) h126) (fun I51 h127 => h127))))) (fun j135_3 j128 => (q_ite (j128 ((0 : Int32))) (j128 ((20 : Int32))))))) (fun j121_2 j129 => (q_ite (j129 I37 J38 h121) (q_b3 (fr_fn_X0_powerOf o ho I37 h121 J38) (fun r58 _ _ h130 => (q_b2 (fr_fn_X7_moveOut o ho (r58 - ((r13 - (I37 14 3)) / (8 : Int32))) I37 h121 J38) (fun I60 J61 h131 => (j129 I60 J61 h131))))))))) (fun j88_1 j132 => (q_ite (j132 I30 J31 h118) (q_jn (P := Q2 I0) (q_b2 (fr_fn_X7_giveLight o ho I30 h118 J31) (fun I67 J68 h134 => (j132 I67 J68 h134))) (fun j83_4 j133 => (q_ite (q_b3 (fr_fn_X6_has o ho (32 : Int32) I30 h118 J31) (fun r79 _ _ h135 => (q_ite (j132 I30 J31 h118) j133))) j133))))))))) (fun j59_0 j136 => (q_ite (j136 ((0 : Int32))) (j136 ((60 : Int32))))))))))))))
theorem fr_fl_X7_passByDay_3_0 {I0 : Iv} (n : Int32) (bulb : Int32) (o : Nat) (Kf0 : Int32 → Iv → Jv → Iv × Jv) (hKf0 : ∀ (a137 : Int32) (a138 : Iv) (a139 : Jv), KI I0 a138 → Q2 I0 (Kf0 a137 a138 a139)) (ho : StA o) : ∀ (fu : Nat) (x1 : Int32) (I2 : Iv) (J3 : Jv), KI I0 I2 → Q2 I0 (fl_X7_passByDay_3_0 n bulb o Kf0 fu x1 I2 J3) := by
  intro fu
  induction fu with
  | zero =>
    intro x1 I2 J3 hI2
    rw [fl_X7_passByDay_3_0.eq_1]
    exact hI2
  | succ kf0 ih =>
    intro x1 I2 J3 hI2
    rw [fl_X7_passByDay_3_0.eq_2]
    exact (q_ite (hKf0 x1 I2 J3 hI2) (q_b3 (fr_fn_X6_tickOfDay o ho I2 hI2 J3) (fun r11 _ _ h140 => (q_b3 (fr_fn_X3_isOpenIn r11 I2 hI2 J3) (fun r18 _ _ h141 => (q_b2 (fr_fn_X7_pass o ho r18 bulb (0 : Int32) I2 hI2 J3) (fun I20 J21 h142 => (ih (x1 + (1 : Int32)) I20 J21 h142))))))))
theorem fr_fn_X7_passByDay {I0 : Iv} (o : Nat) (ho : StA o) (n : Int32) (bulb : Int32) (I : Iv) (hI : KI I0 I) (J : Jv) : Q2 I0 (fn_X7_passByDay o n bulb I J) := by
  unfold fn_X7_passByDay
  exact (fr_fl_X7_passByDay_3_0 n bulb o (fun (x1 : Int32) (I2 : Iv) (J3 : Jv) => (I2, J3)) (fun x1 I2 J3 h143 => h143) ho (mU n ((0 : Int32)) + 1) (0 : Int32) I J hI)
theorem fr_fn_X9_isSet {I0 : Iv} (x : Int32) (I : Iv) (hI : KI I0 I) (J : Jv) : Q3 I0 (fn_X9_isSet x I J) := by
  unfold fn_X9_isSet
  exact (q_ite hI (q_ite hI hI))
theorem fr_fn_X9_isTrouble {I0 : Iv} (x : Int32) (I : Iv) (hI : KI I0 I) (J : Jv) : Q3 I0 (fn_X9_isTrouble x I J) := by
  unfold fn_X9_isTrouble
  exact (q_ite hI (q_ite hI hI))
theorem fr_fn_X9_isSign {I0 : Iv} (x : Int32) (I : Iv) (hI : KI I0 I) (J : Jv) : Q3 I0 (fn_X9_isSign x I J) := by
  unfold fn_X9_isSign
  exact (q_ite hI (q_ite hI hI))
theorem fr_fn_X9_isShelf {I0 : Iv} (x : Int32) (I : Iv) (hI : KI I0 I) (J : Jv) : Q3 I0 (fn_X9_isShelf x I J) := by
  unfold fn_X9_isShelf
  exact (q_ite hI (q_ite hI hI))
theorem fr_fn_X9_isPrice {I0 : Iv} (x : Int32) (I : Iv) (hI : KI I0 I) (J : Jv) : Q3 I0 (fn_X9_isPrice x I J) := by
  unfold fn_X9_isPrice
  exact (q_ite hI (q_ite hI hI))
theorem fr_fn_X9_canBeWarmth {I0 : Iv} (x : Int32) (I : Iv) (hI : KI I0 I) (J : Jv) : Q3 I0 (fn_X9_canBeWarmth x I J) := by
  unfold fn_X9_canBeWarmth
  exact (q_ite hI (q_ite hI hI))
theorem fr_fn_X9_areSignDays {I0 : Iv} (x : Int32) (I : Iv) (hI : KI I0 I) (J : Jv) : Q3 I0 (fn_X9_areSignDays x I J) := by
  unfold fn_X9_areSignDays
  exact (q_ite hI (q_ite hI hI))
theorem fr_fn_X9_isPart {I0 : Iv} (part : Int32) (set : Int32) (I : Iv) (hI : KI I0 I) (J : Jv) : Q3 I0 (fn_X9_isPart part set I J) := by
  unfold fn_X9_isPart
  exact (q_ite hI hI)
theorem fr_fn_J6_bitCount_0f7a4 {I0 : Iv} (x : Int32) (I : Iv) (hI : KI I0 I) (J : Jv) : Q3 I0 (fn_J6_bitCount_0f7a4 x I J) := by
  unfold fn_J6_bitCount_0f7a4
  exact (q_lt (fun v1 => (q_lt (fun v2 => (q_lt (fun v3 => (q_lt (fun v4 => (q_lt (fun v5 => hI))))))))))
theorem fr_fn_X1_forgetSigns {I0 : Iv} (I : Iv) (hI : KI I0 I) (J : Jv) : Q2 I0 (fn_X1_forgetSigns I J) := by
  unfold fn_X1_forgetSigns
  exact (q_ltI (kI_c (fun _ => rfl) hI) (fun I1 h144 => (q_lt (fun J2 => h144))))
theorem fr_fn_X1_placeOf {I0 : Iv} (set : Int32) (n : Int32) (I : Iv) (hI : KI I0 I) (J : Jv) : Q3 I0 (fn_X1_placeOf set n I J) := by
  unfold fn_X1_placeOf
  exact hI
theorem fr_fn_X1_signOf {I0 : Iv} (set : Int32) (n : Int32) (what : Int32) (I : Iv) (hI : KI I0 I) (J : Jv) : Q3 I0 (fn_X1_signOf set n what I J) := by
  unfold fn_X1_signOf
  exact (q_b3 (fr_fn_X9_isSet set I hI J) (fun r6 _ _ h145 => (q_ite hI (q_b3 (fr_fn_X9_areSignDays n I hI J) (fun r13 _ _ h146 => (q_ite hI (q_b3 (fr_fn_X9_isSign what I hI J) (fun r20 _ _ h147 => (q_ite hI (q_b3 (fr_fn_X1_placeOf set n I hI J) (fun r27 _ _ h148 => hI)))))))))))
theorem fr_fn_X1_begin {I0 : Iv} (set : Int32) (cur : Int32) (I : Iv) (hI : KI I0 I) (J : Jv) : Q2 I0 (fn_X1_begin set cur I J) := by
  unfold fn_X1_begin
  exact (q_ltI (kI_w rfl hI) (fun I1 h149 => (q_ltI (kI_w rfl h149) (fun I3 h150 => (q_b2 (fr_fn_X6_becomeFresh 46 stA_46 I3 h150 J) (fun I5 J6 h151 => h151))))))
theorem fr_fl_X1_learn_148_1 {I0 : Iv} (J33 : Jv) (r44 : Int32) (Kf1 : Int32 → Iv → Iv × Jv) (hKf1 : ∀ (a152 : Int32) (a153 : Iv), KI I0 a153 → Q2 I0 (Kf1 a152 a153)) : ∀ (fu : Nat) (x50 : Int32) (I51 : Iv), KI I0 I51 → Q2 I0 (fl_X1_learn_148_1 J33 r44 Kf1 fu x50 I51) := by
  intro fu
  induction fu with
  | zero =>
    intro x50 I51 hI51
    rw [fl_X1_learn_148_1.eq_1]
    exact hI51
  | succ kf1 ih =>
    intro x50 I51 hI51
    rw [fl_X1_learn_148_1.eq_2]
    exact (q_ite (hKf1 x50 I51 hI51) (q_b3 (fr_fn_X6_warmthOf 46 stA_46 x50 I51 hI51 J33) (fun r63 _ _ h154 => (q_ltI (kI_w rfl hI51) (fun I65 h155 => (ih (x50 + (1 : Int32)) I65 h155))))))
theorem fr_fl_X1_learn_33_0 {I0 : Iv} (set : Int32) (n : Int32) (Kf0 : Int32 → Iv → Jv → Iv × Jv) (hKf0 : ∀ (a156 : Int32) (a157 : Iv) (a158 : Jv), KI I0 a157 → Q2 I0 (Kf0 a156 a157 a158)) : ∀ (fu : Nat) (x22 : Int32) (I23 : Iv) (J24 : Jv), KI I0 I23 → Q2 I0 (fl_X1_learn_33_0 set n Kf0 fu x22 I23 J24) := by
  intro fu
  induction fu with
  | zero =>
    intro x22 I23 J24 hI23
    rw [fl_X1_learn_33_0.eq_1]
    exact hI23
  | succ kf0 ih =>
    intro x22 I23 J24 hI23
    rw [fl_X1_learn_33_0.eq_2]
    exact (q_ite (hKf0 x22 I23 J24 hI23) (q_lt (fun v29 => (q_lt (fun v30 => (q_lt (fun v31 => (q_b2 (fr_fn_X7_passByDay 46 stA_46 (288 : Int32) (I23 8 8) I23 hI23 J24) (fun I32 J33 h159 => (q_b3 (fr_fn_X1_placeOf set x22 I32 h159 J33) (fun r44 _ _ h160 => (q_ltI (kI_w rfl h159) (fun I46 h161 => (q_ltI (kI_w rfl h161) (fun I48 h162 => (fr_fl_X1_learn_148_1 J33 r44 (fun (x50 : Int32) (I51 : Iv) => l_t (wI I51 56 (((r44 + (5 : Int32))).toNatClampNeg) (I51 54 5)) (fun (I54 : Iv) => l_t (wI I54 56 (((r44 + (6 : Int32))).toNatClampNeg) ((I54 54 1) - v31)) (fun (I56 : Iv) => fl_X1_learn_33_0 set n Kf0 kf0 (x22 + (1 : Int32)) I56 J33))) (fun x50 I51 h163 => (q_ltI (kI_w rfl h163) (fun I54 h164 => (q_ltI (kI_w rfl h164) (fun I56 h165 => (ih (x22 + (1 : Int32)) I56 J33 h165)))))) (mU (3 : Int32) ((0 : Int32)) + 1) (0 : Int32) I48 h162))))))))))))))))
theorem fr_fn_X1_learn {I0 : Iv} (set : Int32) (n : Int32) (I : Iv) (hI : KI I0 I) (J : Jv) : Q2 I0 (fn_X1_learn set n I J) := by
  unfold fn_X1_learn
  exact (q_b3 (fr_fn_X9_isSet set I hI J) (fun r6 _ _ h166 => (q_ite hI (q_b3 (fr_fn_X9_areSignDays n I hI J) (fun r13 _ _ h167 => (q_ite hI (q_ite (q_b2 (fr_fn_X1_begin set (1 : Int32) I hI J) (fun I15 J16 h168 => (fr_fl_X1_learn_33_0 set n (fun (x22 : Int32) (I23 : Iv) (J24 : Jv) => l_t (wI I23 55 (set.toNatClampNeg) n) (fun (I27 : Iv) => (I27, J24))) (fun x22 I23 J24 h169 => (q_ltI (kI_w rfl h169) (fun I27 h170 => h170))) (mUe n ((1 : Int32)) + 1) (1 : Int32) I15 J16 h168))) hI)))))))
theorem fr_fl_X1_learnCouldBe_2_0 {I0 : Iv} (n : Int32) (Kf0 : Int32 → Iv → Jv → Iv × Jv) (hKf0 : ∀ (a171 : Int32) (a172 : Iv) (a173 : Jv), KI I0 a172 → Q2 I0 (Kf0 a171 a172 a173)) : ∀ (fu : Nat) (x1 : Int32) (I2 : Iv) (J3 : Jv), KI I0 I2 → Q2 I0 (fl_X1_learnCouldBe_2_0 n Kf0 fu x1 I2 J3) := by
  intro fu
  induction fu with
  | zero =>
    intro x1 I2 J3 hI2
    rw [fl_X1_learnCouldBe_2_0.eq_1]
    exact hI2
  | succ kf0 ih =>
    intro x1 I2 J3 hI2
    rw [fl_X1_learnCouldBe_2_0.eq_2]
    exact (q_ite (hKf0 x1 I2 J3 hI2) (q_lt (fun t6 => (q_b2 (fr_fn_X1_learn t6 n I2 hI2 J3) (fun I7 J8 h174 => (ih (x1 + (1 : Int32)) I7 J8 h174))))))
theorem fr_fn_X1_learnCouldBe {I0 : Iv} (n : Int32) (I : Iv) (hI : KI I0 I) (J : Jv) : Q2 I0 (fn_X1_learnCouldBe n I J) := by
  unfold fn_X1_learnCouldBe
  exact (fr_fl_X1_learnCouldBe_2_0 n (fun (x1 : Int32) (I2 : Iv) (J3 : Jv) => (I2, J3)) (fun x1 I2 J3 h175 => h175) (mU (29 : Int32) ((0 : Int32)) + 1) (0 : Int32) I J hI)
theorem fr_fl_X1_learnParts_2_0 {I0 : Iv} (set : Int32) (n : Int32) (Kf0 : Int32 → Iv → Jv → Iv × Jv) (hKf0 : ∀ (a176 : Int32) (a177 : Iv) (a178 : Jv), KI I0 a177 → Q2 I0 (Kf0 a176 a177 a178)) : ∀ (fu : Nat) (x1 : Int32) (I2 : Iv) (J3 : Jv), KI I0 I2 → Q2 I0 (fl_X1_learnParts_2_0 set n Kf0 fu x1 I2 J3) := by
  intro fu
  induction fu with
  | zero =>
    intro x1 I2 J3 hI2
    rw [fl_X1_learnParts_2_0.eq_1]
    exact hI2
  | succ kf0 ih =>
    intro x1 I2 J3 hI2
    rw [fl_X1_learnParts_2_0.eq_2]
    exact (q_ite (hKf0 x1 I2 J3 hI2) (q_b3 (fr_fn_X9_isPart x1 set I2 hI2 J3) (fun r11 _ _ h179 => (q_ite (ih (x1 + (1 : Int32)) I2 J3 hI2) (q_b2 (fr_fn_X1_learn x1 n I2 hI2 J3) (fun I13 J14 h180 => (ih (x1 + (1 : Int32)) I13 J14 h180)))))))
theorem fr_fn_X1_learnParts {I0 : Iv} (set : Int32) (n : Int32) (I : Iv) (hI : KI I0 I) (J : Jv) : Q2 I0 (fn_X1_learnParts set n I J) := by
  unfold fn_X1_learnParts
  exact (fr_fl_X1_learnParts_2_0 set n (fun (x1 : Int32) (I2 : Iv) (J3 : Jv) => (I2, J3)) (fun x1 I2 J3 h181 => h181) (mUe set ((0 : Int32)) + 1) (0 : Int32) I J hI)
theorem fr_fl_X1_firstDay_9_0 {I0 : Iv} (fur : Int32) (Kf0 : Int32 → Iv → Jv → Int32 × Iv × Jv) (hKf0 : ∀ (a182 : Int32) (a183 : Iv) (a184 : Jv), KI I0 a183 → Q3 I0 (Kf0 a182 a183 a184)) : ∀ (fu : Nat) (x8 : Int32) (I9 : Iv) (J10 : Jv), KI I0 I9 → Q3 I0 (fl_X1_firstDay_9_0 fur Kf0 fu x8 I9 J10) := by
  intro fu
  induction fu with
  | zero =>
    intro x8 I9 J10 hI9
    rw [fl_X1_firstDay_9_0.eq_1]
    exact hI9
  | succ kf0 ih =>
    intro x8 I9 J10 hI9
    rw [fl_X1_firstDay_9_0.eq_2]
    exact (q_ite (hKf0 x8 I9 J10 hI9) (q_lt (fun v13 => (q_b2 (fr_fn_X7_passByDay 46 stA_46 (288 : Int32) (I9 8 8) I9 hI9 J10) (fun I14 J15 h185 => (q_jn (P := fun (j : Int32 → Int32 × Iv × Jv) => ∀ (a186 : Int32), Q3 I0 (j a186)) (fun w21 => (q_ite (ih (x8 + (1 : Int32)) I14 J15 h185) h185)) (fun j104_1 j187 => (q_ite (q_ite (j187 ((1 : Int32))) (j187 ((0 : Int32)))) (q_ite (j187 ((0 : Int32))) (j187 ((1 : Int32))))))))))))
theorem fr_fn_X1_firstDay {I0 : Iv} (set : Int32) (fur : Int32) (cur : Int32) (I : Iv) (hI : KI I0 I) (J : Jv) : Q3 I0 (fn_X1_firstDay set fur cur I J) := by
  unfold fn_X1_firstDay
  exact (q_b2 (fr_fn_X1_begin set cur I hI J) (fun I1 J2 h188 => (fr_fl_X1_firstDay_9_0 fur (fun (x8 : Int32) (I9 : Iv) (J10 : Jv) => ((-1 : Int32), I9, J10)) (fun x8 I9 J10 h189 => h189) (mUe (30 : Int32) ((1 : Int32)) + 1) (1 : Int32) I1 J2 h188)))
theorem fr_fl_X1_usedThawing_10_0 {I0 : Iv} (n : Int32) (p : Int32) (Kf0 : Int32 → Iv → Jv → Int32 × Iv × Jv) (hKf0 : ∀ (a190 : Int32) (a191 : Iv) (a192 : Jv), KI I0 a191 → Q3 I0 (Kf0 a190 a191 a192)) : ∀ (fu : Nat) (x8 : Int32) (I9 : Iv) (J10 : Jv), KI I0 I9 → Q3 I0 (fl_X1_usedThawing_10_0 n p Kf0 fu x8 I9 J10) := by
  intro fu
  induction fu with
  | zero =>
    intro x8 I9 J10 hI9
    rw [fl_X1_usedThawing_10_0.eq_1]
    exact hI9
  | succ kf0 ih =>
    intro x8 I9 J10 hI9
    rw [fl_X1_usedThawing_10_0.eq_2]
    exact (q_ite (hKf0 x8 I9 J10 hI9) (q_jn (P := fun (j : Iv → Jv → Int32 × Iv × Jv) => ∀ (a193 : Iv) (a194 : Jv), KI I0 a193 → Q3 I0 (j a193 a194)) (fun I13 J14 h195 => (q_b2 (fr_fn_X7_passByDay 46 stA_46 (288 : Int32) (I13 8 8) I13 h195 J14) (fun I16 J17 h196 => (ih (x8 + (1 : Int32)) I16 J17 h196)))) (fun j40_1 j197 => (q_ite (j197 I9 J10 hI9) (q_ite (j197 I9 J10 hI9) (q_ite (q_b3 (fr_fn_X6_letOffIce 46 stA_46 I9 hI9 J10) (fun r28 I23 J24 h198 => (j197 I23 J24 h198))) (j197 I9 J10 hI9)))))))
theorem fr_fn_X1_usedThawing {I0 : Iv} (set : Int32) (n : Int32) (p : Int32) (cur : Int32) (I : Iv) (hI : KI I0 I) (J : Jv) : Q3 I0 (fn_X1_usedThawing set n p cur I J) := by
  unfold fn_X1_usedThawing
  exact (q_b2 (fr_fn_X1_begin set cur I hI J) (fun I1 J2 h199 => (fr_fl_X1_usedThawing_10_0 n p (fun (x8 : Int32) (I9 : Iv) (J10 : Jv) => ((I9 54 1), I9, J10)) (fun x8 I9 J10 h200 => h200) (mU n ((0 : Int32)) + 1) (0 : Int32) I1 J2 h199)))
theorem fr_fl_X2_howManySeen_4_0 {I0 : Iv} (I : Iv) (J : Jv) (Kf0 : Int32 → Int32 → Int32 × Iv × Jv) (hI : KI I0 I) (hKf0 : ∀ (a201 : Int32) (a202 : Int32), Q3 I0 (Kf0 a201 a202)) : ∀ (fu : Nat) (x1 : Int32) (x2 : Int32), Q3 I0 (fl_X2_howManySeen_4_0 I J Kf0 fu x1 x2) := by
  intro fu
  induction fu with
  | zero =>
    intro x1 x2
    rw [fl_X2_howManySeen_4_0.eq_1]
    exact hI
  | succ kf0 ih =>
    intro x1 x2
    rw [fl_X2_howManySeen_4_0.eq_2]
    exact (q_ite (hKf0 x1 x2) (q_ite (ih x1 (x2 + (1 : Int32))) (ih (x1 + (1 : Int32)) (x2 + (1 : Int32)))))
theorem fr_fn_X2_howManySeen {I0 : Iv} (I : Iv) (hI : KI I0 I) (J : Jv) : Q3 I0 (fn_X2_howManySeen I J) := by
  unfold fn_X2_howManySeen
  exact (fr_fl_X2_howManySeen_4_0 I J (fun (x1 : Int32) (x2 : Int32) => (x1, I, J)) hI (fun x1 x2 => hI) (mU (7 : Int32) ((0 : Int32)) + 1) (0 : Int32) (0 : Int32))
theorem fr_fn_X2_exactOf {I0 : Iv} (what : Int32) (I : Iv) (hI : KI I0 I) (J : Jv) : Q3 I0 (fn_X2_exactOf what I J) := by
  unfold fn_X2_exactOf
  exact (q_ite hI (q_ite hI hI))
theorem fr_fn_X2_halvings {I0 : Iv} (set : Int32) (n : Int32) (what : Int32) (I : Iv) (hI : KI I0 I) (J : Jv) : Q3 I0 (fn_X2_halvings set n what I J) := by
  unfold fn_X2_halvings
  exact (q_b3 (fr_fn_X1_signOf set n what I hI J) (fun r6 _ _ h203 => (q_lt (fun v8 => (q_b3 (fr_fn_X2_exactOf what I hI J) (fun r14 _ _ h204 => hI))))))
theorem fr_fl_X2_weightOf_61_1 {I0 : Iv} (I : Iv) (J : Jv) (set : Int32) (n : Int32) (Kf1 : Int64 → Int32 → Int64 × Iv × Jv) (hI : KI I0 I) (hKf1 : ∀ (a205 : Int64) (a206 : Int32), Q3 I0 (Kf1 a205 a206)) : ∀ (fu : Nat) (x4 : Int64) (x5 : Int32), Q3 I0 (fl_X2_weightOf_61_1 I J set n Kf1 fu x4 x5) := by
  intro fu
  induction fu with
  | zero =>
    intro x4 x5
    rw [fl_X2_weightOf_61_1.eq_1]
    exact hI
  | succ kf1 ih =>
    intro x4 x5
    rw [fl_X2_weightOf_61_1.eq_2]
    exact (q_ite (hKf1 x4 x5) (q_ite (ih x4 (x5 + (1 : Int32))) (q_b3 (fr_fn_X2_halvings set n x5 I hI J) (fun r12 _ _ h207 => (q_lt (fun v14 => (ih v14 (x5 + (1 : Int32)))))))))
theorem fr_fl_X2_weightOf_7_0 {I0 : Iv} (I : Iv) (J : Jv) (set : Int32) (Kf0 : Int64 → Int32 → Int64 × Iv × Jv) (hI : KI I0 I) (hKf0 : ∀ (a208 : Int64) (a209 : Int32), Q3 I0 (Kf0 a208 a209)) : ∀ (fu : Nat) (x1 : Int64) (x2 : Int32), Q3 I0 (fl_X2_weightOf_7_0 I J set Kf0 fu x1 x2) := by
  intro fu
  induction fu with
  | zero =>
    intro x1 x2
    rw [fl_X2_weightOf_7_0.eq_1]
    exact hI
  | succ kf0 ih =>
    intro x1 x2
    rw [fl_X2_weightOf_7_0.eq_2]
    exact (q_ite (hKf0 x1 x2) (q_jn (P := fun (j : Int32 → Int64 × Iv × Jv) => ∀ (a210 : Int32), Q3 I0 (j a210)) (fun w15 => (q_lt (fun v16 => (ih v16 (x2 + (1 : Int32)))))) (fun j45_2 j211 => (q_ite (j211 (((1000 : Int32) - (I 61 x2.toNatClampNeg)))) (j211 ((I 61 x2.toNatClampNeg)))))))
theorem fr_fn_X2_weightOf {I0 : Iv} (set : Int32) (n : Int32) (I : Iv) (hI : KI I0 I) (J : Jv) : Q3 I0 (fn_X2_weightOf set n I J) := by
  unfold fn_X2_weightOf
  exact (fr_fl_X2_weightOf_7_0 I J set (fun (x1 : Int64) (x2 : Int32) => fl_X2_weightOf_61_1 I J set n (fun (x4 : Int64) (x5 : Int32) => (x4, I, J)) (mU (7 : Int32) ((0 : Int32)) + 1) x1 (0 : Int32)) hI (fun x1 x2 => (fr_fl_X2_weightOf_61_1 I J set n (fun (x4 : Int64) (x5 : Int32) => (x4, I, J)) hI (fun x4 x5 => hI) (mU (7 : Int32) ((0 : Int32)) + 1) x1 (0 : Int32))) (mU (7 : Int32) ((0 : Int32)) + 1) (1000000 : Int64) (0 : Int32))
theorem fr_fl_X2_weighAll_5_0 {I0 : Iv} (I : Iv) (n : Int32) (Kf0 : Int64 → Int32 → Jv → Int64 × Iv × Jv) (hI : KI I0 I) (hKf0 : ∀ (a212 : Int64) (a213 : Int32) (a214 : Jv), Q3 I0 (Kf0 a212 a213 a214)) : ∀ (fu : Nat) (x1 : Int64) (x2 : Int32) (J3 : Jv), Q3 I0 (fl_X2_weighAll_5_0 I n Kf0 fu x1 x2 J3) := by
  intro fu
  induction fu with
  | zero =>
    intro x1 x2 J3
    rw [fl_X2_weighAll_5_0.eq_1]
    exact hI
  | succ kf0 ih =>
    intro x1 x2 J3
    rw [fl_X2_weighAll_5_0.eq_2]
    exact (q_ite (hKf0 x1 x2 J3) (q_lt (fun t6 => (q_b3 (fr_fn_X2_weightOf t6 n I hI J3) (fun r12 _ _ h215 => (q_lt (fun J14 => (q_lt (fun v16 => (ih v16 (x2 + (1 : Int32)) J14))))))))))
theorem fr_fn_X2_weighAll {I0 : Iv} (n : Int32) (I : Iv) (hI : KI I0 I) (J : Jv) : Q3 I0 (fn_X2_weighAll n I J) := by
  unfold fn_X2_weighAll
  exact (fr_fl_X2_weighAll_5_0 I n (fun (x1 : Int64) (x2 : Int32) (J3 : Jv) => (x1, I, J3)) hI (fun x1 x2 J3 => hI) (mU (29 : Int32) ((0 : Int32)) + 1) (0 : Int64) (0 : Int32) J)
theorem fr_fn_X2_share {I0 : Iv} (i : Int32) (all : Int64) (I : Iv) (hI : KI I0 I) (J : Jv) : Q3 I0 (fn_X2_share i all I J) := by
  unfold fn_X2_share
  exact (q_ite hI (q_ite hI (q_ite hI hI)))
theorem fr_fl_X2_isFirstOfClass_2_0 {I0 : Iv} (I : Iv) (J : Jv) (i : Int32) (Kf0 : Int32 → Int32 × Iv × Jv) (hI : KI I0 I) (hKf0 : ∀ (a216 : Int32), Q3 I0 (Kf0 a216)) : ∀ (fu : Nat) (x1 : Int32), Q3 I0 (fl_X2_isFirstOfClass_2_0 I J i Kf0 fu x1) := by
  intro fu
  induction fu with
  | zero =>
    intro x1
    rw [fl_X2_isFirstOfClass_2_0.eq_1]
    exact hI
  | succ kf0 ih =>
    intro x1
    rw [fl_X2_isFirstOfClass_2_0.eq_2]
    exact (q_ite (hKf0 x1) (q_ite hI (ih (x1 + (1 : Int32)))))
theorem fr_fn_X2_isFirstOfClass {I0 : Iv} (i : Int32) (I : Iv) (hI : KI I0 I) (J : Jv) : Q3 I0 (fn_X2_isFirstOfClass i I J) := by
  unfold fn_X2_isFirstOfClass
  exact (fr_fl_X2_isFirstOfClass_2_0 I J i (fun (x1 : Int32) => ((1 : Int32), I, J)) hI (fun x1 => hI) (mU i ((0 : Int32)) + 1) (0 : Int32))
theorem fr_fl_X2_weightOfClass_5_0 {I0 : Iv} (I : Iv) (J : Jv) (i : Int32) (Kf0 : Int64 → Int32 → Int64 × Iv × Jv) (hI : KI I0 I) (hKf0 : ∀ (a217 : Int64) (a218 : Int32), Q3 I0 (Kf0 a217 a218)) : ∀ (fu : Nat) (x1 : Int64) (x2 : Int32), Q3 I0 (fl_X2_weightOfClass_5_0 I J i Kf0 fu x1 x2) := by
  intro fu
  induction fu with
  | zero =>
    intro x1 x2
    rw [fl_X2_weightOfClass_5_0.eq_1]
    exact hI
  | succ kf0 ih =>
    intro x1 x2
    rw [fl_X2_weightOfClass_5_0.eq_2]
    exact (q_ite (hKf0 x1 x2) (q_ite (q_lt (fun v3 => (ih v3 (x2 + (1 : Int32))))) (ih x1 (x2 + (1 : Int32)))))
theorem fr_fn_X2_weightOfClass {I0 : Iv} (i : Int32) (I : Iv) (hI : KI I0 I) (J : Jv) : Q3 I0 (fn_X2_weightOfClass i I J) := by
  unfold fn_X2_weightOfClass
  exact (fr_fl_X2_weightOfClass_5_0 I J i (fun (x1 : Int64) (x2 : Int32) => (x1, I, J)) hI (fun x1 x2 => hI) (mU (29 : Int32) i + 1) (0 : Int64) i)
theorem fr_fl_X2_tellingBy_61_1 {I0 : Iv} (J : Jv) (I2 : Iv) (Kf1 : Int64 → Int32 → Int32 × Iv × Jv) (hI2 : KI I0 I2) (hKf1 : ∀ (a219 : Int64) (a220 : Int32), Q3 I0 (Kf1 a219 a220)) : ∀ (fu : Nat) (x5 : Int64) (x6 : Int32), Q3 I0 (fl_X2_tellingBy_61_1 J I2 Kf1 fu x5 x6) := by
  intro fu
  induction fu with
  | zero =>
    intro x5 x6
    rw [fl_X2_tellingBy_61_1.eq_1]
    exact hI2
  | succ kf1 ih =>
    intro x5 x6
    rw [fl_X2_tellingBy_61_1.eq_2]
    exact (q_ite (hKf1 x5 x6) (q_b3 (fr_fn_X2_isFirstOfClass x6 I2 hI2 J) (fun r13 _ _ h221 => (q_ite (ih x5 (x6 + (1 : Int32))) (q_b3 (fr_fn_X2_weightOfClass x6 I2 hI2 J) (fun r20 _ _ h222 => (q_lt (fun v22 => (ih v22 (x6 + (1 : Int32)))))))))))
theorem fr_fl_X2_tellingBy_11_0 {I0 : Iv} (J : Jv) (what : Int32) (n : Int32) (Kf0 : Int32 → Iv → Int32 × Iv × Jv) (hKf0 : ∀ (a223 : Int32) (a224 : Iv), KI I0 a224 → Q3 I0 (Kf0 a223 a224)) : ∀ (fu : Nat) (x1 : Int32) (I2 : Iv), KI I0 I2 → Q3 I0 (fl_X2_tellingBy_11_0 J what n Kf0 fu x1 I2) := by
  intro fu
  induction fu with
  | zero =>
    intro x1 I2 hI2
    rw [fl_X2_tellingBy_11_0.eq_1]
    exact hI2
  | succ kf0 ih =>
    intro x1 I2 hI2
    rw [fl_X2_tellingBy_11_0.eq_2]
    exact (q_ite (hKf0 x1 I2 hI2) (q_lt (fun t23 => (q_b3 (fr_fn_X1_signOf t23 n what I2 hI2 J) (fun r29 _ _ h225 => (q_b3 (fr_fn_X2_exactOf what I2 hI2 J) (fun r36 _ _ h226 => (q_ltI (kI_w rfl hI2) (fun I38 h227 => (ih (x1 + (1 : Int32)) I38 h227))))))))))
theorem fr_fn_X2_tellingBy {I0 : Iv} (what : Int32) (n : Int32) (all : Int64) (I : Iv) (hI : KI I0 I) (J : Jv) : Q3 I0 (fn_X2_tellingBy what n all I J) := by
  unfold fn_X2_tellingBy
  exact (q_ite (fr_fl_X2_tellingBy_11_0 J what n (fun (x1 : Int32) (I2 : Iv) => fl_X2_tellingBy_61_1 J I2 (fun (x5 : Int64) (x6 : Int32) => ((Int64.toInt32 ((1000 : Int64) - (((1000 : Int64) * x5) / (all * all)))), I2, J)) (mU (29 : Int32) ((0 : Int32)) + 1) (0 : Int64) (0 : Int32)) (fun x1 I2 h228 => (fr_fl_X2_tellingBy_61_1 J I2 (fun (x5 : Int64) (x6 : Int32) => ((Int64.toInt32 ((1000 : Int64) - (((1000 : Int64) * x5) / (all * all)))), I2, J)) h228 (fun x5 x6 => h228) (mU (29 : Int32) ((0 : Int32)) + 1) (0 : Int64) (0 : Int32))) (mU (29 : Int32) ((0 : Int32)) + 1) (0 : Int32) I hI) hI)
theorem fr_fl_X2_oddsOf_9_0 {I0 : Iv} (set : Int32) (I1 : Iv) (J2 : Jv) (r6 : Int64) (Kf0 : Int32 → Int32 × Iv × Jv) (hI1 : KI I0 I1) (hKf0 : ∀ (a229 : Int32), Q3 I0 (Kf0 a229)) : ∀ (fu : Nat) (x9 : Int32), Q3 I0 (fl_X2_oddsOf_9_0 set I1 J2 r6 Kf0 fu x9) := by
  intro fu
  induction fu with
  | zero =>
    intro x9
    rw [fl_X2_oddsOf_9_0.eq_1]
    exact hI1
  | succ kf0 ih =>
    intro x9
    rw [fl_X2_oddsOf_9_0.eq_2]
    exact (q_ite (hKf0 x9) (q_lt (fun t11 => (q_ite (q_b3 (fr_fn_X2_share x9 r6 I1 hI1 J2) (fun r17 _ _ h230 => hI1)) (ih (x9 + (1 : Int32)))))))
theorem fr_fn_X2_oddsOf {I0 : Iv} (set : Int32) (n : Int32) (I : Iv) (hI : KI I0 I) (J : Jv) : Q3 I0 (fn_X2_oddsOf set n I J) := by
  unfold fn_X2_oddsOf
  exact (q_b3 (fr_fn_X2_weighAll n I hI J) (fun r6 I1 J2 h231 => (fr_fl_X2_oddsOf_9_0 set I1 J2 r6 (fun (x9 : Int32) => ((0 : Int32), I1, J2)) h231 (fun x9 => h231) (mU (29 : Int32) ((0 : Int32)) + 1) (0 : Int32))))
theorem fr_fl_X2_oddsWith_12_0 {I0 : Iv} (k : Int32) (I1 : Iv) (J2 : Jv) (r6 : Int64) (Kf0 : Int32 → Int32 → Int32 × Iv × Jv) (hI1 : KI I0 I1) (hKf0 : ∀ (a232 : Int32) (a233 : Int32), Q3 I0 (Kf0 a232 a233)) : ∀ (fu : Nat) (x9 : Int32) (x10 : Int32), Q3 I0 (fl_X2_oddsWith_12_0 k I1 J2 r6 Kf0 fu x9 x10) := by
  intro fu
  induction fu with
  | zero =>
    intro x9 x10
    rw [fl_X2_oddsWith_12_0.eq_1]
    exact hI1
  | succ kf0 ih =>
    intro x9 x10
    rw [fl_X2_oddsWith_12_0.eq_2]
    exact (q_ite (hKf0 x9 x10) (q_lt (fun t12 => (q_ite (ih x9 (x10 + (1 : Int32))) (q_b3 (fr_fn_X2_share x10 r6 I1 hI1 J2) (fun r18 _ _ h234 => (q_lt (fun v20 => (ih v20 (x10 + (1 : Int32)))))))))))
theorem fr_fn_X2_oddsWith {I0 : Iv} (k : Int32) (n : Int32) (I : Iv) (hI : KI I0 I) (J : Jv) : Q3 I0 (fn_X2_oddsWith k n I J) := by
  unfold fn_X2_oddsWith
  exact (q_b3 (fr_fn_X2_weighAll n I hI J) (fun r6 I1 J2 h235 => (fr_fl_X2_oddsWith_12_0 k I1 J2 r6 (fun (x9 : Int32) (x10 : Int32) => (x9, I1, J2)) h235 (fun x9 x10 => h235) (mU (29 : Int32) ((0 : Int32)) + 1) (0 : Int32) (0 : Int32))))
theorem fr_fn_X2_howMuchTells {I0 : Iv} (what : Int32) (n : Int32) (I : Iv) (hI : KI I0 I) (J : Jv) : Q3 I0 (fn_X2_howMuchTells what n I J) := by
  unfold fn_X2_howMuchTells
  exact (q_b3 (fr_fn_X2_weighAll n I hI J) (fun r6 I1 J2 h236 => (q_b3 (fr_fn_X2_tellingBy what n r6 I1 h236 J2) (fun r14 I9 J10 h237 => h237))))
theorem fr_fl_X2_nextSign_15_0 {I0 : Iv} (n : Int32) (r6 : Int64) (Kf0 : Int32 → Int32 → Int32 → Iv → Jv → Int32 × Iv × Jv) (hKf0 : ∀ (a238 : Int32) (a239 : Int32) (a240 : Int32) (a241 : Iv) (a242 : Jv), KI I0 a241 → Q3 I0 (Kf0 a238 a239 a240 a241 a242)) : ∀ (fu : Nat) (x9 : Int32) (x10 : Int32) (x11 : Int32) (I12 : Iv) (J13 : Jv), KI I0 I12 → Q3 I0 (fl_X2_nextSign_15_0 n r6 Kf0 fu x9 x10 x11 I12 J13) := by
  intro fu
  induction fu with
  | zero =>
    intro x9 x10 x11 I12 J13 hI12
    rw [fl_X2_nextSign_15_0.eq_1]
    exact hI12
  | succ kf0 ih =>
    intro x9 x10 x11 I12 J13 hI12
    rw [fl_X2_nextSign_15_0.eq_2]
    exact (q_ite (hKf0 x9 x10 x11 I12 J13 hI12) (q_ite (q_b3 (fr_fn_X2_tellingBy x11 n r6 I12 hI12 J13) (fun r21 I16 J17 h243 => (q_lt (fun v24 => (q_jn (P := Q3 I0) (ih x11 v24 (x11 + (1 : Int32)) I16 J17 h243) (fun j66_1 j244 => (q_ite j244 (q_ite (ih x9 x10 (x11 + (1 : Int32)) I16 J17 h243) j244)))))))) (ih x9 x10 (x11 + (1 : Int32)) I12 J13 hI12)))
theorem fr_fn_X2_nextSign {I0 : Iv} (n : Int32) (I : Iv) (hI : KI I0 I) (J : Jv) : Q3 I0 (fn_X2_nextSign n I J) := by
  unfold fn_X2_nextSign
  exact (q_b3 (fr_fn_X2_weighAll n I hI J) (fun r6 I1 J2 h245 => (fr_fl_X2_nextSign_15_0 n r6 (fun (x9 : Int32) (x10 : Int32) (x11 : Int32) (I12 : Iv) (J13 : Jv) => (x9, I12, J13)) (fun x9 x10 x11 I12 J13 h246 => h246) (mU (7 : Int32) ((0 : Int32)) + 1) (-1 : Int32) (0 : Int32) (0 : Int32) I1 J2 h245)))
theorem fr_fn_X4_yearByUse {I0 : Iv} (used : Int32) (I : Iv) (hI : KI I0 I) (J : Jv) : Q3 I0 (fn_X4_yearByUse used I J) := by
  unfold fn_X4_yearByUse
  exact hI
theorem fr_fn_X4_yearOf {I0 : Iv} (set : Int32) (cur : Int32) (I : Iv) (hI : KI I0 I) (J : Jv) : Q3 I0 (fn_X4_yearOf set cur I J) := by
  unfold fn_X4_yearOf
  exact (q_ite hI (q_b3 (fr_fn_X1_signOf set (2 : Int32) (6 : Int32) I hI J) (fun r6 _ _ h247 => (q_b3 (fr_fn_X4_yearByUse r6 I hI J) (fun r13 _ _ h248 => hI)))))
theorem fr_fn_X4_saved {I0 : Iv} (set : Int32) (part : Int32) (cur : Int32) (I : Iv) (hI : KI I0 I) (J : Jv) : Q3 I0 (fn_X4_saved set part cur I J) := by
  unfold fn_X4_saved
  exact (q_b3 (fr_fn_X4_yearOf set cur I hI J) (fun r6 _ _ h249 => (q_b3 (fr_fn_X4_yearOf (set &&& (part ^^^ (-1 : Int32))) cur I hI J) (fun r13 _ _ h250 => hI))))
theorem fr_fl_X4_costOf_4_0 {I0 : Iv} (I : Iv) (J : Jv) (part : Int32) (Kf0 : Int32 → Int32 → Int32 × Iv × Jv) (hI : KI I0 I) (hKf0 : ∀ (a251 : Int32) (a252 : Int32), Q3 I0 (Kf0 a251 a252)) : ∀ (fu : Nat) (x1 : Int32) (x2 : Int32), Q3 I0 (fl_X4_costOf_4_0 I J part Kf0 fu x1 x2) := by
  intro fu
  induction fu with
  | zero =>
    intro x1 x2
    rw [fl_X4_costOf_4_0.eq_1]
    exact hI
  | succ kf0 ih =>
    intro x1 x2
    rw [fl_X4_costOf_4_0.eq_2]
    exact (q_ite (hKf0 x1 x2) (q_ite (ih x1 (x2 + (1 : Int32))) (q_lt (fun v4 => (ih v4 (x2 + (1 : Int32)))))))
theorem fr_fn_X4_costOf {I0 : Iv} (part : Int32) (I : Iv) (hI : KI I0 I) (J : Jv) : Q3 I0 (fn_X4_costOf part I J) := by
  unfold fn_X4_costOf
  exact (fr_fl_X4_costOf_4_0 I J part (fun (x1 : Int32) (x2 : Int32) => (x1, I, J)) hI (fun x1 x2 => hI) (mU (7 : Int32) ((0 : Int32)) + 1) (0 : Int32) (0 : Int32))
theorem fr_fl_X4_bestPart_12_0 {I0 : Iv} (I : Iv) (J : Jv) (set : Int32) (c : Int32) (cur : Int32) (Kf0 : Int32 → Int32 → Int32 → Int32 → Int32 × Iv × Jv) (hI : KI I0 I) (hKf0 : ∀ (a253 : Int32) (a254 : Int32) (a255 : Int32) (a256 : Int32), Q3 I0 (Kf0 a253 a254 a255 a256)) : ∀ (fu : Nat) (x1 : Int32) (x2 : Int32) (x3 : Int32) (x4 : Int32), Q3 I0 (fl_X4_bestPart_12_0 I J set c cur Kf0 fu x1 x2 x3 x4) := by
  intro fu
  induction fu with
  | zero =>
    intro x1 x2 x3 x4
    rw [fl_X4_bestPart_12_0.eq_1]
    exact hI
  | succ kf0 ih =>
    intro x1 x2 x3 x4
    rw [fl_X4_bestPart_12_0.eq_2]
    exact (q_ite (hKf0 x1 x2 x3 x4) (q_b3 (fr_fn_X4_costOf x4 I hI J) (fun r11 _ _ h257 => (q_b3 (fr_fn_X9_isPart x4 set I hI J) (fun r18 _ _ h258 => (q_ite (ih x1 x2 x3 (x4 + (1 : Int32))) (q_ite (q_b3 (fr_fn_X4_saved set x4 cur I hI J) (fun r25 _ _ h259 => (q_jn (P := Q3 I0) (ih x4 r25 r11 (x4 + (1 : Int32))) (fun j75_1 j260 => (q_ite j260 (q_ite (q_ite (ih x1 x2 x3 (x4 + (1 : Int32))) j260) (ih x1 x2 x3 (x4 + (1 : Int32))))))))) (ih x1 x2 x3 (x4 + (1 : Int32))))))))))
theorem fr_fn_X4_bestPart {I0 : Iv} (set : Int32) (c : Int32) (cur : Int32) (I : Iv) (hI : KI I0 I) (J : Jv) : Q3 I0 (fn_X4_bestPart set c cur I J) := by
  unfold fn_X4_bestPart
  exact (fr_fl_X4_bestPart_12_0 I J set c cur (fun (x1 : Int32) (x2 : Int32) (x3 : Int32) (x4 : Int32) => (x1, I, J)) hI (fun x1 x2 x3 x4 => hI) (mUe set ((1 : Int32)) + 1) (0 : Int32) (0 : Int32) (0 : Int32) (1 : Int32))
theorem fr_fl_X4_yearsToPay_19_0 {I0 : Iv} (I : Iv) (J : Jv) (c : Int32) (v15 : Int64) (Kf0 : Int32 → Int32 × Iv × Jv) (hI : KI I0 I) (hKf0 : ∀ (a261 : Int32), Q3 I0 (Kf0 a261)) : ∀ (fu : Nat) (x16 : Int32), Q3 I0 (fl_X4_yearsToPay_19_0 I J c v15 Kf0 fu x16) := by
  intro fu
  induction fu with
  | zero =>
    intro x16
    rw [fl_X4_yearsToPay_19_0.eq_1]
    exact hI
  | succ kf0 ih =>
    intro x16
    rw [fl_X4_yearsToPay_19_0.eq_2]
    exact (q_ite (hKf0 x16) (q_ite (ih (x16 + (1 : Int32))) hI))
theorem fr_fn_X4_yearsToPay {I0 : Iv} (set : Int32) (c : Int32) (u : Int32) (cur : Int32) (I : Iv) (hI : KI I0 I) (J : Jv) : Q3 I0 (fn_X4_yearsToPay set c u cur I J) := by
  unfold fn_X4_yearsToPay
  exact (q_b3 (fr_fn_X4_yearOf set cur I hI J) (fun r6 _ _ h262 => (q_b3 (fr_fn_X4_yearByUse u I hI J) (fun r13 _ _ h263 => (q_lt (fun v15 => (fr_fl_X4_yearsToPay_19_0 I J c v15 (fun (x16 : Int32) => ((-1 : Int32), I, J)) hI (fun x16 => hI) (mUe (30 : Int32) ((1 : Int32)) + 1) (1 : Int32))))))))
theorem fr_fl_X4_bestThawing_9_0 {I0 : Iv} (set : Int32) (n : Int32) (b : Int32) (cur : Int32) (Kf0 : Int32 → Int64 → Int32 → Iv → Jv → Int32 × Iv × Jv) (hKf0 : ∀ (a264 : Int32) (a265 : Int64) (a266 : Int32) (a267 : Iv) (a268 : Jv), KI I0 a267 → Q3 I0 (Kf0 a264 a265 a266 a267 a268)) : ∀ (fu : Nat) (x1 : Int32) (x2 : Int64) (x3 : Int32) (I4 : Iv) (J5 : Jv), KI I0 I4 → Q3 I0 (fl_X4_bestThawing_9_0 set n b cur Kf0 fu x1 x2 x3 I4 J5) := by
  intro fu
  induction fu with
  | zero =>
    intro x1 x2 x3 I4 J5 hI4
    rw [fl_X4_bestThawing_9_0.eq_1]
    exact hI4
  | succ kf0 ih =>
    intro x1 x2 x3 I4 J5 hI4
    rw [fl_X4_bestThawing_9_0.eq_2]
    exact (q_ite (hKf0 x1 x2 x3 I4 J5 hI4) (q_b3 (fr_fn_X1_usedThawing set n x3 cur I4 hI4 J5) (fun r13 I8 J9 h269 => (q_lt (fun v16 => (q_jn (P := fun (j : Int32 → Int32 × Iv × Jv) => ∀ (a270 : Int32), Q3 I0 (j a270)) (fun w17 => (q_lt (fun v18 => (q_jn (P := Q3 I0) (ih x3 v18 (x3 + (1 : Int32)) I8 J9 h269) (fun j82_2 j271 => (q_ite j271 (q_ite (ih x1 x2 (x3 + (1 : Int32)) I8 J9 h269) j271))))))) (fun j46_1 j272 => (q_ite (j272 ((0 : Int32))) (j272 (((n - (1 : Int32)) / x3)))))))))))
theorem fr_fn_X4_bestThawing {I0 : Iv} (set : Int32) (n : Int32) (b : Int32) (cur : Int32) (I : Iv) (hI : KI I0 I) (J : Jv) : Q3 I0 (fn_X4_bestThawing set n b cur I J) := by
  unfold fn_X4_bestThawing
  exact (fr_fl_X4_bestThawing_9_0 set n b cur (fun (x1 : Int32) (x2 : Int64) (x3 : Int32) (I4 : Iv) (J5 : Jv) => (x1, I4, J5)) (fun x1 x2 x3 I4 J5 h273 => h273) (mU n ((0 : Int32)) + 1) (0 : Int32) (0 : Int64) (0 : Int32) I J hI)
theorem fr_fn_X8_boxBulb {I0 : Iv} (I : Iv) (hI : KI I0 I) (J : Jv) : Q3 I0 (fn_X8_boxBulb I J) := by
  unfold fn_X8_boxBulb
  exact hI
theorem fr_fn_X8_isCheapHour {I0 : Iv} (h : Int32) (I : Iv) (hI : KI I0 I) (J : Jv) : Q3 I0 (fn_X8_isCheapHour h I J) := by
  unfold fn_X8_isCheapHour
  exact (q_ite hI (q_ite hI (q_ite hI hI)))
theorem fr_fn_X8_takeIfMore {I0 : Iv} (choice : Int32) (much : Int32) (I : Iv) (hI : KI I0 I) (J : Jv) : Q2 I0 (fn_X8_takeIfMore choice much I J) := by
  unfold fn_X8_takeIfMore
  exact (q_ite hI (q_ltI (kI_w rfl hI) (fun I1 h274 => (q_ltI (kI_w rfl h274) (fun I3 h275 => h275)))))
theorem fr_fl_X8_layByRow_6_0 {I0 : Iv} (J : Jv) (q : Nat) (Kf0 : Int32 → Int32 → Iv → Iv × Jv) (hKf0 : ∀ (a276 : Int32) (a277 : Int32) (a278 : Iv), KI I0 a278 → Q2 I0 (Kf0 a276 a277 a278)) (hq : ∀ k, S1 q k = false) : ∀ (fu : Nat) (x1 : Int32) (x2 : Int32) (I3 : Iv), KI I0 I3 → Q2 I0 (fl_X8_layByRow_6_0 J q Kf0 fu x1 x2 I3) := by
  intro fu
  induction fu with
  | zero =>
    intro x1 x2 I3 hI3
    rw [fl_X8_layByRow_6_0.eq_1]
    exact hI3
  | succ kf0 ih =>
    intro x1 x2 I3 hI3
    rw [fl_X8_layByRow_6_0.eq_2]
    exact (q_ite (hKf0 x1 x2 I3 hI3) (q_ite (ih x1 (x2 + (-1 : Int32)) I3 hI3) (q_ite (ih x1 (x2 + (-1 : Int32)) I3 hI3) (q_ltI (kI_w (hq _) hI3) (fun I6 h279 => (q_lt (fun v8 => (ih v8 (x2 + (-1 : Int32)) I6 h279))))))))
theorem fr_fn_X8_layByRow {I0 : Iv} (q : Nat) (hq : ∀ k, S1 q k = false) (rw_ : Int32) (I : Iv) (hI : KI I0 I) (J : Jv) : Q2 I0 (fn_X8_layByRow q rw_ I J) := by
  unfold fn_X8_layByRow
  exact (fr_fl_X8_layByRow_6_0 J q (fun (x1 : Int32) (x2 : Int32) (I3 : Iv) => (I3, J)) (fun x1 x2 I3 h280 => h280) hq (mD ((7 : Int32)) + 1) rw_ (7 : Int32) I hI)
theorem fr_fn_X8_shelfInBestRow {I0 : Iv} (f : Int32) (I : Iv) (hI : KI I0 I) (J : Jv) : Q3 I0 (fn_X8_shelfInBestRow f I J) := by
  unfold fn_X8_shelfInBestRow
  exact (q_b2 (fr_fn_X8_layByRow 77 (fun _ => rfl) (I 67 7) I hI J) (fun I1 J2 h281 => (q_ite h281 (q_ite h281 h281))))
theorem fr_fl_X8_withinOnSecondDay_19_0 {I0 : Iv} (bulb : Int32) (Kf0 : Int32 → Int32 → Iv → Jv → Int32 × Iv × Jv) (hKf0 : ∀ (a282 : Int32) (a283 : Int32) (a284 : Iv) (a285 : Jv), KI I0 a284 → Q3 I0 (Kf0 a282 a283 a284 a285)) : ∀ (fu : Nat) (x8 : Int32) (x9 : Int32) (I10 : Iv) (J11 : Jv), KI I0 I10 → Q3 I0 (fl_X8_withinOnSecondDay_19_0 bulb Kf0 fu x8 x9 I10 J11) := by
  intro fu
  induction fu with
  | zero =>
    intro x8 x9 I10 J11 hI10
    rw [fl_X8_withinOnSecondDay_19_0.eq_1]
    exact hI10
  | succ kf0 ih =>
    intro x8 x9 I10 J11 hI10
    rw [fl_X8_withinOnSecondDay_19_0.eq_2]
    exact (q_ite (hKf0 x8 x9 I10 J11 hI10) (q_b2 (fr_fn_X7_passByDay 68 stA_68 (1 : Int32) bulb I10 hI10 J11) (fun I14 J15 h286 => (q_b3 (fr_fn_X6_foodsWithin 68 stA_68 I14 h286 J15) (fun r26 _ _ h287 => (q_lt (fun v28 => (ih v28 (x9 + (1 : Int32)) I14 J15 h286))))))))
theorem fr_fn_X8_withinOnSecondDay {I0 : Iv} (bulb : Int32) (I : Iv) (hI : KI I0 I) (J : Jv) : Q3 I0 (fn_X8_withinOnSecondDay bulb I J) := by
  unfold fn_X8_withinOnSecondDay
  exact (q_b2 (fr_fn_X7_passByDay 68 stA_68 (288 : Int32) bulb I hI J) (fun I1 J2 h288 => (fr_fl_X8_withinOnSecondDay_19_0 bulb (fun (x8 : Int32) (x9 : Int32) (I10 : Iv) (J11 : Jv) => (x8, I10, J11)) (fun x8 x9 I10 J11 h289 => h289) (mU (288 : Int32) ((0 : Int32)) + 1) (0 : Int32) (0 : Int32) I1 J2 h288)))
theorem fr_fl_X8_findBestRow_45_2 {I0 : Iv} (r6 : Int32) (x8 : Int32) (Kf2 : Int32 → Iv → Jv → Iv × Jv) (hKf2 : ∀ (a290 : Int32) (a291 : Iv) (a292 : Jv), KI I0 a291 → Q2 I0 (Kf2 a290 a291 a292)) : ∀ (fu : Nat) (x15 : Int32) (I16 : Iv) (J17 : Jv), KI I0 I16 → Q2 I0 (fl_X8_findBestRow_45_2 r6 x8 Kf2 fu x15 I16 J17) := by
  intro fu
  induction fu with
  | zero =>
    intro x15 I16 J17 hI16
    rw [fl_X8_findBestRow_45_2.eq_1]
    exact hI16
  | succ kf2 ih =>
    intro x15 I16 J17 hI16
    rw [fl_X8_findBestRow_45_2.eq_2]
    exact (q_ite (hKf2 x15 I16 J17 hI16) (q_ite (hKf2 x15 I16 J17 hI16) (q_b2 (fr_fn_X6_copyFrom 68 stA_68 16 I16 hI16 J17) (fun I20 J21 h293 => (q_b2 (fr_fn_X8_layByRow 72 (fun _ => rfl) x15 I20 h293 J21) (fun I27 J28 h294 => (q_b3 (fr_fn_X8_boxBulb I27 h294 J28) (fun r39 _ _ h295 => (q_b3 (fr_fn_X8_withinOnSecondDay r39 I27 h294 J28) (fun r46 I41 J42 h296 => (q_b2 (fr_fn_X8_takeIfMore x15 r46 I41 h296 J42) (fun I49 J50 h297 => (ih (x15 + (1 : Int32)) I49 J50 h297)))))))))))))
theorem fr_fl_X8_findBestRow_12_0 {I0 : Iv} (I : Iv) (J : Jv) (r6 : Int32) (Kf0 : Int32 → Int32 → Iv × Jv) (hI : KI I0 I) (hKf0 : ∀ (a298 : Int32) (a299 : Int32), Q2 I0 (Kf0 a298 a299)) : ∀ (fu : Nat) (x8 : Int32) (x9 : Int32), Q2 I0 (fl_X8_findBestRow_12_0 I J r6 Kf0 fu x8 x9) := by
  intro fu
  induction fu with
  | zero =>
    intro x8 x9
    rw [fl_X8_findBestRow_12_0.eq_1]
    exact hI
  | succ kf0 ih =>
    intro x8 x9
    rw [fl_X8_findBestRow_12_0.eq_2]
    exact (q_jn (P := Q2 I0) (hKf0 x8 x9) (fun j33_1 j300 => (q_ite j300 (q_ite j300 (q_lt (fun v56 => (ih v56 (x9 + (1 : Int32)))))))))
theorem fr_fn_X8_findBestRow {I0 : Iv} (I : Iv) (hI : KI I0 I) (J : Jv) : Q2 I0 (fn_X8_findBestRow I J) := by
  unfold fn_X8_findBestRow
  exact (q_b3 (fr_fn_X6_foodsThere 16 stA_16 I hI J) (fun r6 _ _ h301 => (fr_fl_X8_findBestRow_12_0 I J r6 (fun (x8 : Int32) (x9 : Int32) => l_t (wI I 67 7 (0 : Int32)) (fun (I11 : Iv) => l_t (wI I11 67 8 (-1 : Int32)) (fun (I13 : Iv) => fl_X8_findBestRow_45_2 r6 x8 (fun (x15 : Int32) (I16 : Iv) (J17 : Jv) => (I16, J17)) (mU x8 ((0 : Int32)) + 1) (0 : Int32) I13 J))) hI (fun x8 x9 => (q_ltI (kI_w rfl hI) (fun I11 h302 => (q_ltI (kI_w rfl h302) (fun I13 h303 => (fr_fl_X8_findBestRow_45_2 r6 x8 (fun (x15 : Int32) (I16 : Iv) (J17 : Jv) => (I16, J17)) (fun x15 I16 J17 h304 => h304) (mU x8 ((0 : Int32)) + 1) (0 : Int32) I13 J h303)))))) (mU r6 ((0 : Int32)) + 1) (1 : Int32) (0 : Int32))))
theorem fr_fl_X8_findBestBulb_12_0 {I0 : Iv} (Kf0 : Int32 → Iv → Jv → Iv × Jv) (hKf0 : ∀ (a305 : Int32) (a306 : Iv) (a307 : Jv), KI I0 a306 → Q2 I0 (Kf0 a305 a306 a307)) : ∀ (fu : Nat) (x5 : Int32) (I6 : Iv) (J7 : Jv), KI I0 I6 → Q2 I0 (fl_X8_findBestBulb_12_0 Kf0 fu x5 I6 J7) := by
  intro fu
  induction fu with
  | zero =>
    intro x5 I6 J7 hI6
    rw [fl_X8_findBestBulb_12_0.eq_1]
    exact hI6
  | succ kf0 ih =>
    intro x5 I6 J7 hI6
    rw [fl_X8_findBestBulb_12_0.eq_2]
    exact (q_ite (hKf0 x5 I6 J7 hI6) (q_b2 (fr_fn_X6_copyFrom 68 stA_68 16 I6 hI6 J7) (fun I10 J11 h308 => (q_b3 (fr_fn_X8_withinOnSecondDay x5 I10 h308 J11) (fun r22 I17 J18 h309 => (q_b2 (fr_fn_X8_takeIfMore x5 r22 I17 h309 J18) (fun I25 J26 h310 => (ih (x5 + (1 : Int32)) I25 J26 h310))))))))
theorem fr_fn_X8_findBestBulb {I0 : Iv} (I : Iv) (hI : KI I0 I) (J : Jv) : Q2 I0 (fn_X8_findBestBulb I J) := by
  unfold fn_X8_findBestBulb
  exact (q_ltI (kI_w rfl hI) (fun I1 h311 => (q_ltI (kI_w rfl h311) (fun I3 h312 => (fr_fl_X8_findBestBulb_12_0 (fun (x5 : Int32) (I6 : Iv) (J7 : Jv) => (I6, J7)) (fun x5 I6 J7 h313 => h313) (mU (3 : Int32) ((0 : Int32)) + 1) (0 : Int32) I3 J h312)))))
theorem fr_fl_X8_ticksWithoutCurrent_21_0 {I0 : Iv} (f : Int32) (Kf0 : Int32 → Iv → Jv → Int32 × Iv × Jv) (hKf0 : ∀ (a314 : Int32) (a315 : Iv) (a316 : Jv), KI I0 a315 → Q3 I0 (Kf0 a314 a315 a316)) : ∀ (fu : Nat) (x10 : Int32) (I11 : Iv) (J12 : Jv), KI I0 I11 → Q3 I0 (fl_X8_ticksWithoutCurrent_21_0 f Kf0 fu x10 I11 J12) := by
  intro fu
  induction fu with
  | zero =>
    intro x10 I11 J12 hI11
    rw [fl_X8_ticksWithoutCurrent_21_0.eq_1]
    exact hI11
  | succ kf0 ih =>
    intro x10 I11 J12 hI11
    rw [fl_X8_ticksWithoutCurrent_21_0.eq_2]
    exact (q_ite (hKf0 x10 I11 J12 hI11) (q_b3 (fr_fn_X8_boxBulb I11 hI11 J12) (fun r20 _ _ h317 => (q_b2 (fr_fn_X7_passByDay 68 stA_68 (1 : Int32) r20 I11 hI11 J12) (fun I22 J23 h318 => (q_b3 (fr_fn_X6_isWithin 68 stA_68 f I22 h318 J23) (fun r34 _ _ h319 => (q_ite h318 (ih (x10 + (1 : Int32)) I22 J23 h318)))))))))
theorem fr_fn_X8_ticksWithoutCurrent {I0 : Iv} (f : Int32) (I : Iv) (hI : KI I0 I) (J : Jv) : Q3 I0 (fn_X8_ticksWithoutCurrent f I J) := by
  unfold fn_X8_ticksWithoutCurrent
  exact (q_b2 (fr_fn_X6_copyFrom 68 stA_68 16 I hI J) (fun I1 J2 h320 => (q_ltI (kI_w rfl h320) (fun I8 h321 => (fr_fl_X8_ticksWithoutCurrent_21_0 f (fun (x10 : Int32) (I11 : Iv) (J12 : Jv) => ((-1 : Int32), I11, J12)) (fun x10 I11 J12 h322 => h322) (mUe (864 : Int32) ((0 : Int32)) + 1) (0 : Int32) I8 J2 h321)))))
theorem fr_fl_X8_paidStoring_26_0 {I0 : Iv} (n : Int32) (d : Int32) (price : Int32) (r6 : Int32) (Kf0 : Int64 → Int32 → Iv → Jv → Int32 × Iv × Jv) (hKf0 : ∀ (a323 : Int64) (a324 : Int32) (a325 : Iv) (a326 : Jv), KI I0 a325 → Q3 I0 (Kf0 a323 a324 a325 a326)) : ∀ (fu : Nat) (x15 : Int64) (x16 : Int32) (I17 : Iv) (J18 : Jv), KI I0 I17 → Q3 I0 (fl_X8_paidStoring_26_0 n d price r6 Kf0 fu x15 x16 I17 J18) := by
  intro fu
  induction fu with
  | zero =>
    intro x15 x16 I17 J18 hI17
    rw [fl_X8_paidStoring_26_0.eq_1]
    exact hI17
  | succ kf0 ih =>
    intro x15 x16 I17 J18 hI17
    rw [fl_X8_paidStoring_26_0.eq_2]
    exact (q_ite (hKf0 x15 x16 I17 J18 hI17) (q_b3 (fr_fn_X6_tickOfDay 68 stA_68 I17 hI17 J18) (fun r26 _ _ h327 => (q_b3 (fr_fn_X8_isCheapHour (r26 / (12 : Int32)) I17 hI17 J18) (fun r33 _ _ h328 => (q_lt (fun v35 => (q_b3 (fr_fn_X3_isOpenIn r26 I17 hI17 J18) (fun r41 _ _ h329 => (q_b3 (fr_fn_X8_boxBulb I17 hI17 J18) (fun r48 _ _ h330 => (q_jn (P := fun (j : Int32 → Int32 × Iv × Jv) => ∀ (a331 : Int32), Q3 I0 (j a331)) (fun w50 => (q_b2 (fr_fn_X7_pass 68 stA_68 r41 r48 w50 I17 hI17 J18) (fun I51 J52 h332 => (q_b3 (fr_fn_X6_foodsWithin 68 stA_68 I51 h332 J52) (fun r63 _ _ h333 => (q_ite (q_jn (P := fun (j : Int32 → Int32 × Iv × Jv) => ∀ (a334 : Int32), Q3 I0 (j a334)) (fun w65 => (q_lt (fun v66 => (ih v66 (x16 + (1 : Int32)) I51 J52 h332)))) (fun j146_2 j335 => (q_ite (j335 price) (j335 ((I51 67 6)))))) h332)))))) (fun j101_1 j336 => (q_ite (j336 ((0 : Int32))) (j336 d)))))))))))))))
theorem fr_fn_X8_paidStoring {I0 : Iv} (n : Int32) (d : Int32) (price : Int32) (I : Iv) (hI : KI I0 I) (J : Jv) : Q3 I0 (fn_X8_paidStoring n d price I J) := by
  unfold fn_X8_paidStoring
  exact (q_b3 (fr_fn_X6_foodsThere 16 stA_16 I hI J) (fun r6 _ _ h337 => (q_b2 (fr_fn_X6_copyFrom 68 stA_68 16 I hI J) (fun I8 J9 h338 => (fr_fl_X8_paidStoring_26_0 n d price r6 (fun (x15 : Int64) (x16 : Int32) (I17 : Iv) (J18 : Jv) => ((Int64.toInt32 (x15 / (1000 : Int64))), I17, J18)) (fun x15 x16 I17 J18 h339 => h339) (mU (n * (288 : Int32)) ((0 : Int32)) + 1) (0 : Int64) (0 : Int32) I8 J9 h338)))))
theorem fr_fl_X8_findBestStore_12_0 {I0 : Iv} (n : Int32) (price : Int32) (Kf0 : Int32 → Iv → Jv → Iv × Jv) (hKf0 : ∀ (a340 : Int32) (a341 : Iv) (a342 : Jv), KI I0 a341 → Q2 I0 (Kf0 a340 a341 a342)) : ∀ (fu : Nat) (x5 : Int32) (I6 : Iv) (J7 : Jv), KI I0 I6 → Q2 I0 (fl_X8_findBestStore_12_0 n price Kf0 fu x5 I6 J7) := by
  intro fu
  induction fu with
  | zero =>
    intro x5 I6 J7 hI6
    rw [fl_X8_findBestStore_12_0.eq_1]
    exact hI6
  | succ kf0 ih =>
    intro x5 I6 J7 hI6
    rw [fl_X8_findBestStore_12_0.eq_2]
    exact (q_ite (hKf0 x5 I6 J7 hI6) (q_b3 (fr_fn_X8_paidStoring n x5 price I6 hI6 J7) (fun r14 I9 J10 h343 => (q_ite (ih (x5 + (5 : Int32)) I9 J10 h343) (q_jn (P := Q2 I0) (q_ltI (kI_w rfl h343) (fun I17 h345 => (q_ltI (kI_w rfl h345) (fun I19 h346 => (ih (x5 + (5 : Int32)) I19 J10 h346))))) (fun j50_1 j344 => (q_ite j344 (q_ite (ih (x5 + (5 : Int32)) I9 J10 h343) j344))))))))
theorem fr_fn_X8_findBestStore {I0 : Iv} (n : Int32) (price : Int32) (I : Iv) (hI : KI I0 I) (J : Jv) : Q2 I0 (fn_X8_findBestStore n price I J) := by
  unfold fn_X8_findBestStore
  exact (q_ltI (kI_w rfl hI) (fun I1 h347 => (q_ltI (kI_w rfl h347) (fun I3 h348 => (fr_fl_X8_findBestStore_12_0 n price (fun (x5 : Int32) (I6 : Iv) (J7 : Jv) => (I6, J7)) (fun x5 I6 J7 h349 => h349) (mUe 40 ((0 : Int32)) + 1) (0 : Int32) I3 J h348)))))
theorem fr_fn_X5_isFigure {I0 : Iv} (x : Int32) (I : Iv) (hI : KI I0 I) (J : Jv) : Q3 I0 (fn_X5_isFigure x I J) := by
  unfold fn_X5_isFigure
  exact (q_ite hI (q_ite hI hI))
theorem fr_fn_X5_isLetter {I0 : Iv} (x : Int32) (I : Iv) (hI : KI I0 I) (J : Jv) : Q3 I0 (fn_X5_isLetter x I J) := by
  unfold fn_X5_isLetter
  exact (q_ite hI (q_ite hI hI))
theorem fr_fl_X5_skipBlanks_0_0 {I0 : Iv} (J : Jv) (Kf0 : Iv → Iv × Jv) (hKf0 : ∀ (a350 : Iv), KI I0 a350 → Q2 I0 (Kf0 a350)) : ∀ (fu : Nat) (I1 : Iv), KI I0 I1 → Q2 I0 (fl_X5_skipBlanks_0_0 J Kf0 fu I1) := by
  intro fu
  induction fu with
  | zero =>
    intro I1 hI1
    rw [fl_X5_skipBlanks_0_0.eq_1]
    exact hI1
  | succ kf0 ih =>
    intro I1 hI1
    rw [fl_X5_skipBlanks_0_0.eq_2]
    exact (q_ite (hKf0 I1 hI1) (q_ite (q_ltI (kI_w rfl hI1) (fun I3 h351 => (ih I3 h351))) (hKf0 I1 hI1)))
theorem fr_fn_X5_skipBlanks {I0 : Iv} (I : Iv) (hI : KI I0 I) (J : Jv) : Q2 I0 (fn_X5_skipBlanks I J) := by
  unfold fn_X5_skipBlanks
  exact (fr_fl_X5_skipBlanks_0_0 J (fun (I1 : Iv) => (I1, J)) (fun I1 h352 => h352) (mU (I 1 1) (I 1 2) + 1) I hI)
theorem fr_fl_X5_readWord_0_0 {I0 : Iv} (J : Jv) (Kf0 : Iv → Iv × Jv) (hKf0 : ∀ (a353 : Iv), KI I0 a353 → Q2 I0 (Kf0 a353)) : ∀ (fu : Nat) (I1 : Iv), KI I0 I1 → Q2 I0 (fl_X5_readWord_0_0 J Kf0 fu I1) := by
  intro fu
  induction fu with
  | zero =>
    intro I1 hI1
    rw [fl_X5_readWord_0_0.eq_1]
    exact hI1
  | succ kf0 ih =>
    intro I1 hI1
    rw [fl_X5_readWord_0_0.eq_2]
    exact (q_ite (hKf0 I1 hI1) (q_b3 (fr_fn_X5_isLetter (I1 2 ((I1 1 2)).toNatClampNeg) I1 hI1 J) (fun r8 _ _ h354 => (q_ite (hKf0 I1 hI1) (q_ltI (kI_w rfl hI1) (fun I10 h355 => (ih I10 h355)))))))
theorem fr_fn_X5_readWord {I0 : Iv} (I : Iv) (hI : KI I0 I) (J : Jv) : Q2 I0 (fn_X5_readWord I J) := by
  unfold fn_X5_readWord
  exact (fr_fl_X5_readWord_0_0 J (fun (I1 : Iv) => (I1, J)) (fun I1 h356 => h356) (mU (I 1 1) (I 1 2) + 1) I hI)
theorem fr_fn_X5_wordOf {I0 : Iv} (x : Int32) (I : Iv) (hI : KI I0 I) (J : Jv) : Q3 I0 (fn_X5_wordOf x I J) := by
  unfold fn_X5_wordOf
  exact (q_ite hI (q_lt (fun sw0 => (q_ite hI (q_ite hI (q_ite hI (q_ite hI (q_ite hI (q_ite hI (q_ite hI (q_ite hI (q_ite hI (q_ite hI (q_ite hI (q_ite hI hI)))))))))))))))
theorem fr_fl_X5_isWord_17_0 {I0 : Iv} (I : Iv) (J : Jv) (first : Int32) (j : Nat) (Kf0 : Int32 → Int32 × Iv × Jv) (hI : KI I0 I) (hKf0 : ∀ (a357 : Int32), Q3 I0 (Kf0 a357)) : ∀ (fu : Nat) (x8 : Int32), Q3 I0 (fl_X5_isWord_17_0 I J first j Kf0 fu x8) := by
  intro fu
  induction fu with
  | zero =>
    intro x8
    rw [fl_X5_isWord_17_0.eq_1]
    exact hI
  | succ kf0 ih =>
    intro x8
    rw [fl_X5_isWord_17_0.eq_2]
    exact (q_lt (fun r15 => (q_ite (hKf0 x8) (q_lt (fun r22 => (q_ite (ih (x8 + (1 : Int32))) hI))))))
theorem fr_fn_X5_isWord {I0 : Iv} (j : Nat) (first : Int32) (I : Iv) (hI : KI I0 I) (J : Jv) : Q3 I0 (fn_X5_isWord j first I J) := by
  unfold fn_X5_isWord
  exact (q_lt (fun r6 => (q_ite (fr_fl_X5_isWord_17_0 I J first j (fun (x8 : Int32) => ((1 : Int32), I, J)) hI (fun x8 => hI) (mU (Int32.ofNat (sB j).length) ((0 : Int32)) + 1) (0 : Int32)) hI)))
theorem fr_fl_X5_clauseFrom_2_0 {I0 : Iv} (I : Iv) (J : Jv) (first : Int32) (Kf0 : Int32 → Int32 × Iv × Jv) (hI : KI I0 I) (hKf0 : ∀ (a358 : Int32), Q3 I0 (Kf0 a358)) : ∀ (fu : Nat) (x1 : Int32), Q3 I0 (fl_X5_clauseFrom_2_0 I J first Kf0 fu x1) := by
  intro fu
  induction fu with
  | zero =>
    intro x1
    rw [fl_X5_clauseFrom_2_0.eq_1]
    exact hI
  | succ kf0 ih =>
    intro x1
    rw [fl_X5_clauseFrom_2_0.eq_2]
    exact (q_ite (hKf0 x1) (q_b3 (fr_fn_X5_wordOf x1 I hI J) (fun r8 _ _ h359 => (q_lt (fun j => (q_b3 (fr_fn_X5_isWord j first I hI J) (fun r15 _ _ h360 => (q_ite (ih (x1 + (1 : Int32))) hI))))))))
theorem fr_fn_X5_clauseFrom {I0 : Iv} (first : Int32) (I : Iv) (hI : KI I0 I) (J : Jv) : Q3 I0 (fn_X5_clauseFrom first I J) := by
  unfold fn_X5_clauseFrom
  exact (fr_fl_X5_clauseFrom_2_0 I J first (fun (x1 : Int32) => ((-1 : Int32), I, J)) hI (fun x1 => hI) (mU (13 : Int32) ((0 : Int32)) + 1) (0 : Int32))
theorem fr_fl_X5_readNumber_21_0 {I0 : Iv} (J2 : Jv) (v8 : Int32) (Kf0 : Int32 → Iv → Int32 × Iv × Jv) (hKf0 : ∀ (a361 : Int32) (a362 : Iv), KI I0 a362 → Q3 I0 (Kf0 a361 a362)) : ∀ (fu : Nat) (x9 : Int32) (I10 : Iv), KI I0 I10 → Q3 I0 (fl_X5_readNumber_21_0 J2 v8 Kf0 fu x9 I10) := by
  intro fu
  induction fu with
  | zero =>
    intro x9 I10 hI10
    rw [fl_X5_readNumber_21_0.eq_1]
    exact hI10
  | succ kf0 ih =>
    intro x9 I10 hI10
    rw [fl_X5_readNumber_21_0.eq_2]
    exact (q_jn (P := Q3 I0) (hKf0 x9 I10 hI10) (fun j90_1 j363 => (q_ite j363 (q_b3 (fr_fn_X5_isFigure (I10 2 ((I10 1 2)).toNatClampNeg) I10 hI10 J2) (fun r31 _ _ h364 => (q_ite j363 (q_jn (P := fun (j : Int32 → Int32 × Iv × Jv) => ∀ (a365 : Int32), Q3 I0 (j a365)) (fun y33 => (q_ltI (kI_w rfl hI10) (fun I34 h366 => (ih y33 I34 h366)))) (fun j77_3 j367 => (q_ite (j367 x9) (q_lt (fun v36 => (j367 v36))))))))))))
theorem fr_fl_X5_readBox_6_0 {I0 : Iv} (J2 : Jv) (Kf0 : Int32 → Iv → Iv × Jv) (hKf0 : ∀ (a368 : Int32) (a369 : Iv), KI I0 a369 → Q2 I0 (Kf0 a368 a369)) : ∀ (fu : Nat) (x8 : Int32) (I9 : Iv), KI I0 I9 → Q2 I0 (fl_X5_readBox_6_0 J2 Kf0 fu x8 I9) := by
  intro fu
  induction fu with
  | zero =>
    intro x8 I9 hI9
    rw [fl_X5_readBox_6_0.eq_1]
    exact hI9
  | succ kf0 ih =>
    intro x8 I9 hI9
    rw [fl_X5_readBox_6_0.eq_2]
    exact (q_ite (hKf0 x8 I9 hI9) (q_ltI (kI_w rfl hI9) (fun I40 h370 => (ih (x8 + (1 : Int32)) I40 h370))))
theorem fr_fn_X9_fault {I0 : Iv} (I : Iv) (hI : KI I0 I) (J : Jv) : Q3 I0 (fn_X9_fault I J) := by
  unfold fn_X9_fault
  exact hI
theorem fr_fn_X9_told {I0 : Iv} (what : Int32) (I : Iv) (hI : KI I0 I) (J : Jv) : Q3 I0 (fn_X9_told what I J) := by
  unfold fn_X9_told
  exact (q_ite hI (q_ite hI hI))
theorem fr_fn_X9_opening {I0 : Iv} (i : Int32) (what : Int32) (I : Iv) (hI : KI I0 I) (J : Jv) : Q3 I0 (fn_X9_opening i what I J) := by
  unfold fn_X9_opening
  exact (q_ite hI (q_ite (q_ite hI (q_ite hI (q_ite (q_ite hI hI) hI))) hI))
theorem fr_fn_X9_trouble {I0 : Iv} (set : Int32) (I : Iv) (hI : KI I0 I) (J : Jv) : Q3 I0 (fn_X9_trouble set I J) := by
  unfold fn_X9_trouble
  exact (q_b3 (fr_fn_X9_isSet set I hI J) (fun r6 _ _ h371 => (q_ite hI (q_lt (fun v8 => (q_ltI (kI_w rfl hI) (fun I9 h372 => (q_ite h372 (q_ite (q_ltI (kI_w rfl h372) (fun I11 h373 => h373)) h372)))))))))
theorem fr_fn_X9_fresh {I0 : Iv} (I : Iv) (hI : KI I0 I) (J : Jv) : Q3 I0 (fn_X9_fresh I J) := by
  unfold fn_X9_fresh
  exact (q_lt (fun v1 => (q_b2 (fr_fn_X6_becomeFresh 16 stA_16 I hI J) (fun I2 J3 h374 => h374))))
theorem fr_fn_X9_current {I0 : Iv} (on : Int32) (I : Iv) (hI : KI I0 I) (J : Jv) : Q3 I0 (fn_X9_current on I J) := by
  unfold fn_X9_current
  exact (q_jn (P := fun (j : Int32 → Int32 × Iv × Jv) => ∀ (a375 : Int32), Q3 I0 (j a375)) (fun w1 => (q_ltI (kI_w rfl hI) (fun I2 h376 => h376))) (fun j15_0 j377 => (q_ite (j377 ((0 : Int32))) (j377 ((1 : Int32))))))
theorem fr_fn_X9_cover {I0 : Iv} (on : Int32) (I : Iv) (hI : KI I0 I) (J : Jv) : Q3 I0 (fn_X9_cover on I J) := by
  unfold fn_X9_cover
  exact (q_jn (P := fun (j : Int32 → Int32 × Iv × Jv) => ∀ (a378 : Int32), Q3 I0 (j a378)) (fun w1 => (q_ltI (kI_w rfl hI) (fun I2 h379 => h379))) (fun j15_0 j380 => (q_ite (j380 ((0 : Int32))) (j380 ((1 : Int32))))))
theorem fr_fn_X9_put {I0 : Iv} (s : Int32) (w : Int32) (c : Int32) (low : Int32) (high : Int32) (I : Iv) (hI : KI I0 I) (J : Jv) : Q3 I0 (fn_X9_put s w c low high I J) := by
  unfold fn_X9_put
  exact (q_b3 (fr_fn_X9_isShelf s I hI J) (fun r6 _ _ h381 => (q_ite hI (q_b3 (fr_fn_X9_canBeWarmth w I hI J) (fun r13 _ _ h382 => (q_ite hI (q_ite hI (q_ite (q_b3 (fr_fn_X9_canBeWarmth low I hI J) (fun r20 _ _ h383 => (q_ite hI (q_b3 (fr_fn_X9_canBeWarmth high I hI J) (fun r27 _ _ h384 => (q_ite hI (q_ite (q_b3 (fr_fn_X6_firstNotThere 16 stA_16 I hI J) (fun r34 _ _ h385 => (q_ite (q_ltI (kI_w rfl hI) (fun I36 h386 => (q_ltI (kI_w rfl h386) (fun I38 h387 => (q_b2 (fr_fn_X6_addFood 16 stA_16 r34 s w c I38 h387 J) (fun I40 J41 h388 => h388)))))) hI))) hI))))))) hI))))))))
theorem fr_fn_X9_take {I0 : Iv} (f : Int32) (I : Iv) (hI : KI I0 I) (J : Jv) : Q3 I0 (fn_X9_take f I J) := by
  unfold fn_X9_take
  exact (q_b3 (fr_fn_X6_hasFood 16 stA_16 f I hI J) (fun r6 _ _ h389 => (q_ite hI (q_b3 (fr_fn_X6_warmthOf 16 stA_16 ((4 : Int32) + f) I hI J) (fun r13 _ _ h390 => (q_b2 (fr_fn_X6_removeFood 16 stA_16 f I hI J) (fun I15 J16 h391 => h391)))))))
theorem fr_fn_X9_lay {I0 : Iv} (f : Int32) (s : Int32) (I : Iv) (hI : KI I0 I) (J : Jv) : Q3 I0 (fn_X9_lay f s I J) := by
  unfold fn_X9_lay
  exact (q_b3 (fr_fn_X6_hasFood 16 stA_16 f I hI J) (fun r6 _ _ h392 => (q_ite hI (q_b3 (fr_fn_X9_isShelf s I hI J) (fun r13 _ _ h393 => (q_ite hI (q_lt (fun v15 => (q_ltI (kI_w rfl hI) (fun I16 h394 => h394))))))))))
theorem fr_fn_X9_food {I0 : Iv} (f : Int32) (what : Int32) (I : Iv) (hI : KI I0 I) (J : Jv) : Q3 I0 (fn_X9_food f what I J) := by
  unfold fn_X9_food
  exact (q_b3 (fr_fn_X6_hasFood 16 stA_16 f I hI J) (fun r6 _ _ h395 => (q_ite hI (q_ite hI (q_lt (fun sw0 => (q_ite hI (q_ite (q_b3 (fr_fn_X6_warmthOf 16 stA_16 ((4 : Int32) + f) I hI J) (fun r13 _ _ h396 => hI)) (q_ite hI (q_ite hI (q_ite hI (q_ite (q_b3 (fr_fn_X6_isWithin 16 stA_16 f I hI J) (fun r20 _ _ h397 => (q_ite hI hI))) hI))))))))))))
theorem fr_fn_X9_run {I0 : Iv} (n : Int32) (I : Iv) (hI : KI I0 I) (J : Jv) : Q3 I0 (fn_X9_run n I J) := by
  unfold fn_X9_run
  exact (q_ite hI (q_ite (q_lt (fun v1 => (q_b2 (fr_fn_X7_passByDay 16 stA_16 n (I 8 8) I hI J) (fun I2 J3 h398 => h398)))) hI))
theorem fr_fl_X9_drawDoor_24_1 {I0 : Iv} (m : Int32) (Kf1 : Int32 → Iv → Jv → Iv × Jv) (hKf1 : ∀ (a399 : Int32) (a400 : Iv) (a401 : Jv), KI I0 a400 → Q2 I0 (Kf1 a399 a400 a401)) : ∀ (fu : Nat) (x5 : Int32) (I6 : Iv) (J7 : Jv), KI I0 I6 → Q2 I0 (fl_X9_drawDoor_24_1 m Kf1 fu x5 I6 J7) := by
  intro fu
  induction fu with
  | zero =>
    intro x5 I6 J7 hI6
    rw [fl_X9_drawDoor_24_1.eq_1]
    exact hI6
  | succ kf1 ih =>
    intro x5 I6 J7 hI6
    rw [fl_X9_drawDoor_24_1.eq_2]
    exact (q_ite (hKf1 x5 I6 J7 hI6) (q_b3 (fr_fn_X6_draw 16 stA_16 (288 : Int32) I6 hI6 J7) (fun r15 I10 J11 h402 => (q_ite (ih (x5 + (1 : Int32)) I10 J11 h402) (q_ite (ih (x5 + (1 : Int32)) I10 J11 h402) (q_ltI (kI_w rfl h402) (fun I18 h403 => (ih (x5 + (1 : Int32)) I18 J11 h403))))))))
theorem fr_fl_X9_drawDoor_2_0 {I0 : Iv} (J : Jv) (Kf0 : Int32 → Iv → Iv × Jv) (hKf0 : ∀ (a404 : Int32) (a405 : Iv), KI I0 a405 → Q2 I0 (Kf0 a404 a405)) : ∀ (fu : Nat) (x1 : Int32) (I2 : Iv), KI I0 I2 → Q2 I0 (fl_X9_drawDoor_2_0 J Kf0 fu x1 I2) := by
  intro fu
  induction fu with
  | zero =>
    intro x1 I2 hI2
    rw [fl_X9_drawDoor_2_0.eq_1]
    exact hI2
  | succ kf0 ih =>
    intro x1 I2 hI2
    rw [fl_X9_drawDoor_2_0.eq_2]
    exact (q_ite (hKf0 x1 I2 hI2) (q_ltI (kI_w rfl hI2) (fun I20 h406 => (ih (x1 + (1 : Int32)) I20 h406))))
theorem fr_fn_X9_drawDoor {I0 : Iv} (m : Int32) (I : Iv) (hI : KI I0 I) (J : Jv) : Q2 I0 (fn_X9_drawDoor m I J) := by
  unfold fn_X9_drawDoor
  exact (fr_fl_X9_drawDoor_2_0 J (fun (x1 : Int32) (I2 : Iv) => fl_X9_drawDoor_24_1 m (fun (x5 : Int32) (I6 : Iv) (J7 : Jv) => (I6, J7)) (mU m ((0 : Int32)) + 1) (0 : Int32) I2 J) (fun x1 I2 h407 => (fr_fl_X9_drawDoor_24_1 m (fun (x5 : Int32) (I6 : Iv) (J7 : Jv) => (I6, J7)) (fun x5 I6 J7 h408 => h408) (mU m ((0 : Int32)) + 1) (0 : Int32) I2 J h407)) (mU (288 : Int32) ((0 : Int32)) + 1) (0 : Int32) I hI)
theorem fr_fl_X9_drawn_37_0 {I0 : Iv} (n : Int32) (m : Int32) (Kf0 : Int32 → Iv → Jv → Int32 × Iv × Jv) (hKf0 : ∀ (a409 : Int32) (a410 : Iv) (a411 : Jv), KI I0 a410 → Q3 I0 (Kf0 a409 a410 a411)) : ∀ (fu : Nat) (x2 : Int32) (I3 : Iv) (J4 : Jv), KI I0 I3 → Q3 I0 (fl_X9_drawn_37_0 n m Kf0 fu x2 I3 J4) := by
  intro fu
  induction fu with
  | zero =>
    intro x2 I3 J4 hI3
    rw [fl_X9_drawn_37_0.eq_1]
    exact hI3
  | succ kf0 ih =>
    intro x2 I3 J4 hI3
    rw [fl_X9_drawn_37_0.eq_2]
    exact (q_ite (hKf0 x2 I3 J4 hI3) (q_b3 (fr_fn_X6_tickOfDay 16 stA_16 I3 hI3 J4) (fun r12 _ _ h412 => (q_jn (P := fun (j : Iv → Jv → Int32 × Iv × Jv) => ∀ (a413 : Iv) (a414 : Jv), KI I0 a413 → Q3 I0 (j a413 a414)) (fun I14 J15 h415 => (q_b2 (fr_fn_X7_pass 16 stA_16 (I14 44 r12.toNatClampNeg) (I14 8 8) (0 : Int32) I14 h415 J15) (fun I17 J18 h416 => (ih (x2 + (1 : Int32)) I17 J18 h416)))) (fun j71_1 j417 => (q_jn (P := Q3 I0) (q_b2 (fr_fn_X9_drawDoor m I3 hI3 J4) (fun I24 J25 h419 => (j417 I24 J25 h419))) (fun j66_2 j418 => (q_ite j418 (q_ite j418 (j417 I3 J4 hI3))))))))))
theorem fr_fn_X9_drawn {I0 : Iv} (n : Int32) (m : Int32) (I : Iv) (hI : KI I0 I) (J : Jv) : Q3 I0 (fn_X9_drawn n m I J) := by
  unfold fn_X9_drawn
  exact (q_ite hI (q_ite hI (q_ite hI (q_ite (q_lt (fun v1 => (fr_fl_X9_drawn_37_0 n m (fun (x2 : Int32) (I3 : Iv) (J4 : Jv) => (((I3 24 1) - v1), I3, J4)) (fun x2 I3 J4 h420 => h420) (mU (n * (288 : Int32)) ((0 : Int32)) + 1) (0 : Int32) I J hI))) hI))))
theorem fr_fn_X9_warmth {I0 : Iv} (s : Int32) (I : Iv) (hI : KI I0 I) (J : Jv) : Q3 I0 (fn_X9_warmth s I J) := by
  unfold fn_X9_warmth
  exact (q_ite hI (q_ite (q_b3 (fr_fn_X6_warmthOf 16 stA_16 s I hI J) (fun r6 _ _ h421 => hI)) hI))
theorem fr_fn_X9_heat {I0 : Iv} (what : Int32) (I : Iv) (hI : KI I0 I) (J : Jv) : Q3 I0 (fn_X9_heat what I J) := by
  unfold fn_X9_heat
  exact (q_ite hI (q_ite (q_ite (q_b3 (fr_fn_X6_allHeat 16 stA_16 I hI J) (fun r6 _ _ h422 => hI)) hI) hI))
theorem fr_fn_X9_count {I0 : Iv} (what : Int32) (I : Iv) (hI : KI I0 I) (J : Jv) : Q3 I0 (fn_X9_count what I J) := by
  unfold fn_X9_count
  exact (q_ite hI (q_ite (q_ite (q_ite hI (q_lt (fun sw0 => (q_ite hI (q_ite (q_ite hI hI) (q_ite (q_b3 (fr_fn_X6_foodsThere 16 stA_16 I hI J) (fun r6 _ _ h423 => hI)) hI)))))) hI) hI))
theorem fr_fn_X9_thaw {I0 : Iv} (I : Iv) (hI : KI I0 I) (J : Jv) : Q3 I0 (fn_X9_thaw I J) := by
  unfold fn_X9_thaw
  exact (q_b3 (fr_fn_X6_letOffIce 16 stA_16 I hI J) (fun r6 I1 J2 h424 => h424))
theorem fr_fn_X9_sign {I0 : Iv} (set : Int32) (n : Int32) (what : Int32) (I : Iv) (hI : KI I0 I) (J : Jv) : Q3 I0 (fn_X9_sign set n what I J) := by
  unfold fn_X9_sign
  exact (q_b3 (fr_fn_X9_isSet set I hI J) (fun r6 _ _ h425 => (q_ite hI (q_b3 (fr_fn_X9_isSign what I hI J) (fun r13 _ _ h426 => (q_ite hI (q_b3 (fr_fn_X9_areSignDays n I hI J) (fun r20 _ _ h427 => (q_ite hI (q_b2 (fr_fn_X1_learn set n I hI J) (fun I22 J23 h428 => (q_b3 (fr_fn_X1_signOf set n what I22 h428 J23) (fun r34 _ _ h429 => h428)))))))))))))
theorem fr_fn_X9_seen {I0 : Iv} (what : Int32) (v_ : Int32) (e : Int32) (I : Iv) (hI : KI I0 I) (J : Jv) : Q3 I0 (fn_X9_seen what v_ e I J) := by
  unfold fn_X9_seen
  exact (q_b3 (fr_fn_X9_isSign what I hI J) (fun r6 _ _ h430 => (q_ite hI (q_ite hI (q_ite hI (q_ite hI (q_ite (q_ltI (kI_w rfl hI) (fun I8 h431 => (q_ltI (kI_w rfl h431) (fun I10 h432 => (q_ltI (kI_w rfl h432) (fun I12 h433 => (q_b3 (fr_fn_X2_howManySeen I12 h433 J) (fun r19 _ _ h434 => h433)))))))) hI)))))))
theorem fr_fn_X9_prior {I0 : Iv} (k : Int32) (p : Int32) (I : Iv) (hI : KI I0 I) (J : Jv) : Q3 I0 (fn_X9_prior k p I J) := by
  unfold fn_X9_prior
  exact (q_b3 (fr_fn_X9_isTrouble k I hI J) (fun r6 _ _ h435 => (q_ite hI (q_ite hI (q_ite (q_lt (fun v8 => (q_ltI (kI_w rfl hI) (fun I9 h436 => h436)))) hI)))))
theorem fr_fn_X9_bother {I0 : Iv} (what : Int32) (b : Int32) (I : Iv) (hI : KI I0 I) (J : Jv) : Q3 I0 (fn_X9_bother what b I J) := by
  unfold fn_X9_bother
  exact (q_b3 (fr_fn_X9_isSign what I hI J) (fun r6 _ _ h437 => (q_ite hI (q_ite hI (q_ite (q_lt (fun v8 => (q_ltI (kI_w rfl hI) (fun I9 h438 => h438)))) hI)))))
theorem fr_fn_X9_mending {I0 : Iv} (k : Int32) (c : Int32) (I : Iv) (hI : KI I0 I) (J : Jv) : Q3 I0 (fn_X9_mending k c I J) := by
  unfold fn_X9_mending
  exact (q_b3 (fr_fn_X9_isTrouble k I hI J) (fun r6 _ _ h439 => (q_ite hI (q_ite hI (q_ite (q_lt (fun v8 => (q_ltI (kI_w rfl hI) (fun I9 h440 => h440)))) hI)))))
theorem fr_fn_X9_price {I0 : Iv} (x : Int32) (I : Iv) (hI : KI I0 I) (J : Jv) : Q3 I0 (fn_X9_price x I J) := by
  unfold fn_X9_price
  exact (q_b3 (fr_fn_X9_isPrice x I hI J) (fun r6 _ _ h441 => (q_ite hI (q_lt (fun v8 => (q_ltI (kI_w rfl hI) (fun I9 h442 => h442)))))))
theorem fr_fn_X9_odds {I0 : Iv} (set : Int32) (n : Int32) (I : Iv) (hI : KI I0 I) (J : Jv) : Q3 I0 (fn_X9_odds set n I J) := by
  unfold fn_X9_odds
  exact (q_b3 (fr_fn_X9_isSet set I hI J) (fun r6 _ _ h443 => (q_ite hI (q_b3 (fr_fn_J6_bitCount_0f7a4 set I hI J) (fun r13 _ _ h444 => (q_ite (q_b3 (fr_fn_X9_areSignDays n I hI J) (fun r20 _ _ h445 => (q_ite hI (q_b2 (fr_fn_X1_learnCouldBe n I hI J) (fun I22 J23 h446 => (q_b3 (fr_fn_X2_oddsOf set n I22 h446 J23) (fun r34 I29 J30 h447 => h447))))))) hI))))))
theorem fr_fn_X9_each {I0 : Iv} (k : Int32) (n : Int32) (I : Iv) (hI : KI I0 I) (J : Jv) : Q3 I0 (fn_X9_each k n I J) := by
  unfold fn_X9_each
  exact (q_b3 (fr_fn_X9_isTrouble k I hI J) (fun r6 _ _ h448 => (q_ite hI (q_b3 (fr_fn_X9_areSignDays n I hI J) (fun r13 _ _ h449 => (q_ite hI (q_b2 (fr_fn_X1_learnCouldBe n I hI J) (fun I15 J16 h450 => (q_b3 (fr_fn_X2_oddsWith k n I15 h450 J16) (fun r27 I22 J23 h451 => h451))))))))))
theorem fr_fn_X9_tells {I0 : Iv} (what : Int32) (n : Int32) (I : Iv) (hI : KI I0 I) (J : Jv) : Q3 I0 (fn_X9_tells what n I J) := by
  unfold fn_X9_tells
  exact (q_b3 (fr_fn_X9_isSign what I hI J) (fun r6 _ _ h452 => (q_ite hI (q_b3 (fr_fn_X9_areSignDays n I hI J) (fun r13 _ _ h453 => (q_ite hI (q_b2 (fr_fn_X1_learnCouldBe n I hI J) (fun I15 J16 h454 => (q_b3 (fr_fn_X2_howMuchTells what n I15 h454 J16) (fun r27 I22 J23 h455 => h455))))))))))
theorem fr_fn_X9_next {I0 : Iv} (n : Int32) (I : Iv) (hI : KI I0 I) (J : Jv) : Q3 I0 (fn_X9_next n I J) := by
  unfold fn_X9_next
  exact (q_b3 (fr_fn_X9_areSignDays n I hI J) (fun r6 _ _ h456 => (q_ite hI (q_b2 (fr_fn_X1_learnCouldBe n I hI J) (fun I8 J9 h457 => (q_b3 (fr_fn_X2_nextSign n I8 h457 J9) (fun r20 I15 J16 h458 => h458)))))))
theorem fr_fn_X9_makes {I0 : Iv} (set : Int32) (what : Int32) (I : Iv) (hI : KI I0 I) (J : Jv) : Q3 I0 (fn_X9_makes set what I J) := by
  unfold fn_X9_makes
  exact (q_b3 (fr_fn_X9_isSet set I hI J) (fun r6 _ _ h459 => (q_ite hI (q_ite hI (q_ite (q_jn (P := fun (j : Int32 → Int32 × Iv × Jv) => ∀ (a460 : Int32), Q3 I0 (j a460)) (fun w8 => (q_b3 (fr_fn_X1_firstDay set w8 (I 16 12) I hI J) (fun r14 I9 J10 h461 => h461))) (fun j36_0 j462 => (q_ite (j462 ((1 : Int32))) (j462 ((0 : Int32)))))) hI)))))
theorem fr_fn_X9_year {I0 : Iv} (set : Int32) (I : Iv) (hI : KI I0 I) (J : Jv) : Q3 I0 (fn_X9_year set I J) := by
  unfold fn_X9_year
  exact (q_b3 (fr_fn_X9_isSet set I hI J) (fun r6 _ _ h463 => (q_ite hI (q_b2 (fr_fn_X1_learn set (2 : Int32) I hI J) (fun I8 J9 h464 => (q_b3 (fr_fn_X4_yearOf set (I8 16 12) I8 h464 J9) (fun r20 _ _ h465 => h464)))))))
theorem fr_fn_X9_saves {I0 : Iv} (set : Int32) (part : Int32) (I : Iv) (hI : KI I0 I) (J : Jv) : Q3 I0 (fn_X9_saves set part I J) := by
  unfold fn_X9_saves
  exact (q_b3 (fr_fn_X9_isSet set I hI J) (fun r6 _ _ h466 => (q_ite hI (q_b3 (fr_fn_X9_isSet part I hI J) (fun r13 _ _ h467 => (q_ite hI (q_b3 (fr_fn_X9_isPart part set I hI J) (fun r20 _ _ h468 => (q_ite hI (q_b2 (fr_fn_X1_learn set (2 : Int32) I hI J) (fun I22 J23 h469 => (q_b2 (fr_fn_X1_learn (set &&& (part ^^^ (-1 : Int32))) (2 : Int32) I22 h469 J23) (fun I29 J30 h470 => (q_b3 (fr_fn_X4_saved set part (I29 16 12) I29 h470 J30) (fun r41 _ _ h471 => h470)))))))))))))))
theorem fr_fn_X9_best {I0 : Iv} (set : Int32) (c : Int32) (what : Int32) (I : Iv) (hI : KI I0 I) (J : Jv) : Q3 I0 (fn_X9_best set c what I J) := by
  unfold fn_X9_best
  exact (q_b3 (fr_fn_X9_isSet set I hI J) (fun r6 _ _ h472 => (q_ite hI (q_ite hI (q_ite hI (q_ite hI (q_ite (q_b2 (fr_fn_X1_learnParts set (2 : Int32) I hI J) (fun I8 J9 h473 => (q_b3 (fr_fn_X4_bestPart set c (I8 16 12) I8 h473 J9) (fun r20 _ _ h474 => (q_ite h473 (q_ite (q_b3 (fr_fn_X4_saved set r20 (I8 16 12) I8 h473 J9) (fun r27 _ _ h475 => h473)) (q_b3 (fr_fn_X4_costOf r20 I8 h473 J9) (fun r34 _ _ h476 => h473)))))))) hI)))))))
theorem fr_fn_X9_pays {I0 : Iv} (set : Int32) (c : Int32) (u : Int32) (I : Iv) (hI : KI I0 I) (J : Jv) : Q3 I0 (fn_X9_pays set c u I J) := by
  unfold fn_X9_pays
  exact (q_b3 (fr_fn_X9_isSet set I hI J) (fun r6 _ _ h477 => (q_ite hI (q_ite hI (q_ite hI (q_ite hI (q_ite (q_b2 (fr_fn_X1_learn set (2 : Int32) I hI J) (fun I8 J9 h478 => (q_b3 (fr_fn_X4_yearsToPay set c u (I8 16 12) I8 h478 J9) (fun r20 _ _ h479 => h478)))) hI)))))))
theorem fr_fn_X9_ice {I0 : Iv} (set : Int32) (n : Int32) (b : Int32) (I : Iv) (hI : KI I0 I) (J : Jv) : Q3 I0 (fn_X9_ice set n b I J) := by
  unfold fn_X9_ice
  exact (q_b3 (fr_fn_X9_isSet set I hI J) (fun r6 _ _ h480 => (q_ite hI (q_ite hI (q_ite hI (q_ite hI (q_ite (q_b3 (fr_fn_X4_bestThawing set n b (I 16 12) I hI J) (fun r13 I8 J9 h481 => h481)) hI)))))))
theorem fr_fn_X9_lying {I0 : Iv} (f : Int32) (I : Iv) (hI : KI I0 I) (J : Jv) : Q3 I0 (fn_X9_lying f I J) := by
  unfold fn_X9_lying
  exact (q_jn (P := Q3 I0) (q_b3 (fr_fn_X6_foodsThere 16 stA_16 I hI J) (fun r6 _ _ h483 => (q_ite (q_b2 (fr_fn_X8_findBestRow I hI J) (fun I8 J9 h484 => (q_ite h484 (q_b3 (fr_fn_X8_shelfInBestRow f I8 h484 J9) (fun r20 I15 J16 h485 => h485))))) hI))) (fun j19_0 j482 => (q_ite j482 (q_b3 (fr_fn_X6_hasFood 16 stA_16 f I hI J) (fun r28 _ _ h486 => (q_ite hI j482))))))
theorem fr_fn_X9_bulb {I0 : Iv} (what : Int32) (I : Iv) (hI : KI I0 I) (J : Jv) : Q3 I0 (fn_X9_bulb what I J) := by
  unfold fn_X9_bulb
  exact (q_ite hI (q_ite (q_b2 (fr_fn_X8_findBestBulb I hI J) (fun I1 J2 h487 => (q_ite h487 h487))) hI))
theorem fr_fn_X9_without {I0 : Iv} (f : Int32) (I : Iv) (hI : KI I0 I) (J : Jv) : Q3 I0 (fn_X9_without f I J) := by
  unfold fn_X9_without
  exact (q_b3 (fr_fn_X6_hasFood 16 stA_16 f I hI J) (fun r6 _ _ h488 => (q_ite hI (q_b3 (fr_fn_X8_ticksWithoutCurrent f I hI J) (fun r13 I8 J9 h489 => h489)))))
theorem fr_fn_X9_cheap {I0 : Iv} (a : Int32) (b : Int32) (v_ : Int32) (I : Iv) (hI : KI I0 I) (J : Jv) : Q3 I0 (fn_X9_cheap a b v_ I J) := by
  unfold fn_X9_cheap
  exact (q_b3 (fr_fn_X9_isPrice v_ I hI J) (fun r6 _ _ h490 => (q_ite hI (q_jn (P := Q3 I0) (q_ltI (kI_w rfl hI) (fun I8 h492 => (q_jn (P := fun (j : Int32 → Int32 × Iv × Jv) => ∀ (a493 : Int32), Q3 I0 (j a493)) (fun w10 => (q_ltI (kI_w rfl h492) (fun I11 h494 => (q_ltI (kI_w rfl h494) (fun I13 h495 => h495))))) (fun j55_1 j496 => (q_ite (j496 ((-1 : Int32))) (j496 b)))))) (fun j33_0 j491 => (q_ite j491 (q_ite hI (q_ite hI (q_ite j491 hI)))))))))
theorem fr_fn_X9_store {I0 : Iv} (n : Int32) (what : Int32) (I : Iv) (hI : KI I0 I) (J : Jv) : Q3 I0 (fn_X9_store n what I J) := by
  unfold fn_X9_store
  exact (q_ite hI (q_ite hI (q_ite hI (q_ite (q_b2 (fr_fn_X8_findBestStore n (I 65 2) I hI J) (fun I1 J2 h497 => (q_ite h497 h497))) hI))))
theorem fr_fn_X9_seed {I0 : Iv} (v_ : Int32) (I : Iv) (hI : KI I0 I) (J : Jv) : Q3 I0 (fn_X9_seed v_ I J) := by
  unfold fn_X9_seed
  exact (q_ite (q_lt (fun v1 => (q_ltI (kI_w rfl hI) (fun I2 h498 => h498)))) hI)
theorem fr_fn_X9_imageOf {I0 : Iv} (i : Int32) (I : Iv) (hI : KI I0 I) (J : Jv) : Q3 I0 (fn_X9_imageOf i I J) := by
  unfold fn_X9_imageOf
  exact (q_ite hI hI)
theorem fr_fn_X9_keep {I0 : Iv} (i : Int32) (I : Iv) (hI : KI I0 I) (J : Jv) : Q3 I0 (fn_X9_keep i I J) := by
  unfold fn_X9_keep
  exact (q_ite hI (q_ite (q_b3 (fr_fn_X9_imageOf i I hI J) (fun r6 _ _ h499 => (q_b2 (fr_fn_X6_copyFrom (iA i) (stA_iA _) 16 I hI J) (fun I8 J9 h500 => (q_ltI (kI_w rfl h500) (fun I15 h501 => h501)))))) hI))
theorem fr_fn_X9_goBack {I0 : Iv} (i : Int32) (I : Iv) (hI : KI I0 I) (J : Jv) : Q3 I0 (fn_X9_goBack i I J) := by
  unfold fn_X9_goBack
  exact (q_ite hI (q_ite (q_ite hI (q_b3 (fr_fn_X9_imageOf i I hI J) (fun r6 _ _ h502 => (q_b2 (fr_fn_X6_copyFrom 16 stA_16 (iA i) I hI J) (fun I8 J9 h503 => h503))))) hI))
theorem fr_fn_X10_in {I0 : Iv} (x : Int64) (low : Int64) (high : Int64) (I : Iv) (hI : KI I0 I) (J : Jv) : Q3 I0 (fn_X10_in x low high I J) := by
  unfold fn_X10_in
  exact (q_ite hI (q_ite hI hI))
theorem fr_fn_X10_one {I0 : Iv} (x : Int32) (I : Iv) (hI : KI I0 I) (J : Jv) : Q3 I0 (fn_X10_one x I J) := by
  unfold fn_X10_one
  exact (q_ite hI hI)
theorem fr_fn_X10_has {I0 : Iv} (set : Int64) (k : Int32) (I : Iv) (hI : KI I0 I) (J : Jv) : Q3 I0 (fn_X10_has set k I J) := by
  unfold fn_X10_has
  exact (q_ite hI hI)
theorem fr_fl_X10_ones_4_0 {I0 : Iv} (I : Iv) (J : Jv) (set : Int32) (Kf0 : Int32 → Int32 → Int32 × Iv × Jv) (hI : KI I0 I) (hKf0 : ∀ (a504 : Int32) (a505 : Int32), Q3 I0 (Kf0 a504 a505)) : ∀ (fu : Nat) (x1 : Int32) (x2 : Int32), Q3 I0 (fl_X10_ones_4_0 I J set Kf0 fu x1 x2) := by
  intro fu
  induction fu with
  | zero =>
    intro x1 x2
    rw [fl_X10_ones_4_0.eq_1]
    exact hI
  | succ kf0 ih =>
    intro x1 x2
    rw [fl_X10_ones_4_0.eq_2]
    exact (q_ite (hKf0 x1 x2) (q_lt (fun v4 => (ih v4 (x2 + (1 : Int32))))))
theorem fr_fn_X10_ones {I0 : Iv} (set : Int32) (I : Iv) (hI : KI I0 I) (J : Jv) : Q3 I0 (fn_X10_ones set I J) := by
  unfold fn_X10_ones
  exact (fr_fl_X10_ones_4_0 I J set (fun (x1 : Int32) (x2 : Int32) => (x1, I, J)) hI (fun x1 x2 => hI) (mU (16 : Int32) ((0 : Int32)) + 1) (0 : Int32) (0 : Int32))
theorem fr_fn_X10_couldBe {I0 : Iv} (set : Int32) (I : Iv) (hI : KI I0 I) (J : Jv) : Q3 I0 (fn_X10_couldBe set I J) := by
  unfold fn_X10_couldBe
  exact (q_b3 (fr_fn_X10_ones set I hI J) (fun r6 _ _ h506 => (q_ite hI hI)))
theorem fr_fn_X10_untold {I0 : Iv} (x : Int32) (I : Iv) (hI : KI I0 I) (J : Jv) : Q3 I0 (fn_X10_untold x I J) := by
  unfold fn_X10_untold
  exact (q_ite hI (q_lt (fun sw0 => (q_ite hI (q_ite hI (q_ite hI (q_ite hI (q_ite hI (q_ite hI (q_ite hI (q_ite hI (q_ite hI (q_ite hI (q_ite hI (q_ite hI (q_ite hI (q_ite hI (q_ite hI hI))))))))))))))))))
theorem fr_fn_X10_leastOf {I0 : Iv} (x : Int32) (I : Iv) (hI : KI I0 I) (J : Jv) : Q3 I0 (fn_X10_leastOf x I J) := by
  unfold fn_X10_leastOf
  exact (q_ite hI (q_ite hI (q_ite hI hI)))
theorem fr_fn_X10_mostOf {I0 : Iv} (x : Int32) (I : Iv) (hI : KI I0 I) (J : Jv) : Q3 I0 (fn_X10_mostOf x I J) := by
  unfold fn_X10_mostOf
  exact (q_ite hI (q_ite hI (q_ite hI (q_ite hI (q_ite hI hI)))))
theorem fr_fn_X10_isSet {I0 : Iv} (x : Int32) (I : Iv) (hI : KI I0 I) (J : Jv) : Q3 I0 (fn_X10_isSet x I J) := by
  unfold fn_X10_isSet
  exact (q_b3 (fr_fn_X10_in (Int32.toInt64 x) (0 : Int64) (127 : Int64) I hI J) (fun r6 _ _ h507 => hI))
theorem fr_fn_X10_isTrouble {I0 : Iv} (x : Int32) (I : Iv) (hI : KI I0 I) (J : Jv) : Q3 I0 (fn_X10_isTrouble x I J) := by
  unfold fn_X10_isTrouble
  exact (q_b3 (fr_fn_X10_in (Int32.toInt64 x) (0 : Int64) (6 : Int64) I hI J) (fun r6 _ _ h508 => hI))
theorem fr_fn_X10_isSign {I0 : Iv} (x : Int32) (I : Iv) (hI : KI I0 I) (J : Jv) : Q3 I0 (fn_X10_isSign x I J) := by
  unfold fn_X10_isSign
  exact (q_b3 (fr_fn_X10_in (Int32.toInt64 x) (0 : Int64) (6 : Int64) I hI J) (fun r6 _ _ h509 => hI))
theorem fr_fn_X10_isShelf {I0 : Iv} (x : Int32) (I : Iv) (hI : KI I0 I) (J : Jv) : Q3 I0 (fn_X10_isShelf x I J) := by
  unfold fn_X10_isShelf
  exact (q_b3 (fr_fn_X10_in (Int32.toInt64 x) (0 : Int64) (2 : Int64) I hI J) (fun r6 _ _ h510 => hI))
theorem fr_fn_X10_isDegree {I0 : Iv} (x : Int32) (I : Iv) (hI : KI I0 I) (J : Jv) : Q3 I0 (fn_X10_isDegree x I J) := by
  unfold fn_X10_isDegree
  exact (q_b3 (fr_fn_X10_in (Int32.toInt64 x) (-3000 : Int64) (9000 : Int64) I hI J) (fun r6 _ _ h511 => hI))
theorem fr_fn_X10_areDays {I0 : Iv} (x : Int32) (I : Iv) (hI : KI I0 I) (J : Jv) : Q3 I0 (fn_X10_areDays x I J) := by
  unfold fn_X10_areDays
  exact (q_b3 (fr_fn_X10_in (Int32.toInt64 x) (1 : Int64) (6 : Int64) I hI J) (fun r6 _ _ h512 => hI))
theorem fr_fn_X10_isHour {I0 : Iv} (tick : Int64) (from_ : Int32) (till : Int32) (I : Iv) (hI : KI I0 I) (J : Jv) : Q3 I0 (fn_X10_isHour tick from_ till I J) := by
  unfold fn_X10_isHour
  exact (q_lt (fun v1 => (q_ite hI (q_ite hI (q_ite hI hI)))))
theorem fr_fl_X10_isOpen_12_0 {I0 : Iv} (I : Iv) (J : Jv) (v1 : Int64) (Kf0 : Int32 → Int32 → Int32 × Iv × Jv) (hI : KI I0 I) (hKf0 : ∀ (a513 : Int32) (a514 : Int32), Q3 I0 (Kf0 a513 a514)) : ∀ (fu : Nat) (x2 : Int32) (x3 : Int32), Q3 I0 (fl_X10_isOpen_12_0 I J v1 Kf0 fu x2 x3) := by
  intro fu
  induction fu with
  | zero =>
    intro x2 x3
    rw [fl_X10_isOpen_12_0.eq_1]
    exact hI
  | succ kf0 ih =>
    intro x2 x3
    rw [fl_X10_isOpen_12_0.eq_2]
    exact (q_ite (hKf0 x2 x3) (q_ite (q_b3 (fr_fn_X10_in v1 (Int32.toInt64 (I 83 x3.toNatClampNeg)) (Int32.toInt64 (((I 83 x3.toNatClampNeg) + (I 84 x3.toNatClampNeg)) - (1 : Int32))) I hI J) (fun r10 _ _ h515 => (q_ite (ih (0 : Int32) (x3 + (1 : Int32))) (ih (1 : Int32) (x3 + (1 : Int32)))))) (ih (1 : Int32) (x3 + (1 : Int32)))))
theorem fr_fn_X10_isOpen {I0 : Iv} (tick : Int64) (I : Iv) (hI : KI I0 I) (J : Jv) : Q3 I0 (fn_X10_isOpen tick I J) := by
  unfold fn_X10_isOpen
  exact (q_lt (fun v1 => (fr_fl_X10_isOpen_12_0 I J v1 (fun (x2 : Int32) (x3 : Int32) => (x2, I, J)) hI (fun x2 x3 => hI) (mU (I 78 5) ((0 : Int32)) + 1) (0 : Int32) (0 : Int32))))
theorem fr_fn_X10_capOf {I0 : Iv} (x : Int32) (cell : Int32) (I : Iv) (hI : KI I0 I) (J : Jv) : Q3 I0 (fn_X10_capOf x cell I J) := by
  unfold fn_X10_capOf
  exact (q_ite (q_ite hI hI) hI)
theorem fr_fn_X10_warm {I0 : Iv} (x : Int32) (cell : Int32) (I : Iv) (hI : KI I0 I) (J : Jv) : Q3 I0 (fn_X10_warm x cell I J) := by
  unfold fn_X10_warm
  exact (q_b3 (fr_fn_X10_capOf x cell I hI J) (fun r6 _ _ h516 => hI))
theorem fr_fn_X10_isWithin {I0 : Iv} (x : Int32) (f : Int32) (I : Iv) (hI : KI I0 I) (J : Jv) : Q3 I0 (fn_X10_isWithin x f I J) := by
  unfold fn_X10_isWithin
  exact (q_b3 (fr_fn_X10_warm x ((4 : Int32) + f) I hI J) (fun r6 _ _ h517 => (q_b3 (fr_fn_X10_in r6 (J 79 (((x + (36 : Int32)) + f)).toNatClampNeg) (J 79 (((x + (44 : Int32)) + f)).toNatClampNeg) I hI J) (fun r13 _ _ h518 => hI))))
theorem fr_fn_X10_isFood {I0 : Iv} (f : Int32) (I : Iv) (hI : KI I0 I) (J : Jv) : Q3 I0 (fn_X10_isFood f I J) := by
  unfold fn_X10_isFood
  exact (q_b3 (fr_fn_X10_in (Int32.toInt64 f) (0 : Int64) (7 : Int64) I hI J) (fun r6 _ _ h519 => (q_ite hI (q_ite hI hI))))
theorem fr_fl_X10_seens_4_0 {I0 : Iv} (I : Iv) (J : Jv) (Kf0 : Int32 → Int32 → Int32 × Iv × Jv) (hI : KI I0 I) (hKf0 : ∀ (a520 : Int32) (a521 : Int32), Q3 I0 (Kf0 a520 a521)) : ∀ (fu : Nat) (x1 : Int32) (x2 : Int32), Q3 I0 (fl_X10_seens_4_0 I J Kf0 fu x1 x2) := by
  intro fu
  induction fu with
  | zero =>
    intro x1 x2
    rw [fl_X10_seens_4_0.eq_1]
    exact hI
  | succ kf0 ih =>
    intro x1 x2
    rw [fl_X10_seens_4_0.eq_2]
    exact (q_ite (hKf0 x1 x2) (q_b3 (fr_fn_X10_one (I 91 x2.toNatClampNeg) I hI J) (fun r9 _ _ h522 => (q_lt (fun v11 => (ih v11 (x2 + (1 : Int32))))))))
theorem fr_fn_X10_seens {I0 : Iv} (I : Iv) (hI : KI I0 I) (J : Jv) : Q3 I0 (fn_X10_seens I J) := by
  unfold fn_X10_seens
  exact (fr_fl_X10_seens_4_0 I J (fun (x1 : Int32) (x2 : Int32) => (x1, I, J)) hI (fun x1 x2 => hI) (mU (7 : Int32) ((0 : Int32)) + 1) (0 : Int32) (0 : Int32))
theorem fr_fl_X10_foods_4_0 {I0 : Iv} (I : Iv) (J : Jv) (Kf0 : Int32 → Int32 → Int32 × Iv × Jv) (hI : KI I0 I) (hKf0 : ∀ (a523 : Int32) (a524 : Int32), Q3 I0 (Kf0 a523 a524)) : ∀ (fu : Nat) (x1 : Int32) (x2 : Int32), Q3 I0 (fl_X10_foods_4_0 I J Kf0 fu x1 x2) := by
  intro fu
  induction fu with
  | zero =>
    intro x1 x2
    rw [fl_X10_foods_4_0.eq_1]
    exact hI
  | succ kf0 ih =>
    intro x1 x2
    rw [fl_X10_foods_4_0.eq_2]
    exact (q_ite (hKf0 x1 x2) (q_lt (fun v4 => (ih v4 (x2 + (1 : Int32))))))
theorem fr_fn_X10_foods {I0 : Iv} (I : Iv) (hI : KI I0 I) (J : Jv) : Q3 I0 (fn_X10_foods I J) := by
  unfold fn_X10_foods
  exact (fr_fl_X10_foods_4_0 I J (fun (x1 : Int32) (x2 : Int32) => (x1, I, J)) hI (fun x1 x2 => hI) (mU (8 : Int32) ((0 : Int32)) + 1) (0 : Int32) (0 : Int32))
theorem fr_fn_X10_moves {I0 : Iv} (x : Int32) (room : Int64) (I : Iv) (hI : KI I0 I) (J : Jv) : Q3 I0 (fn_X10_moves x room I J) := by
  unfold fn_X10_moves
  exact (q_lt (fun v1 => (q_b3 (fr_fn_X10_has (J 79 (x.toNatClampNeg + 52)) (2 : Int32) I hI J) (fun r7 _ _ h525 => (q_jn (P := fun (j : Int64 → Int64 × Iv × Jv) => ∀ (a526 : Int64), Q3 I0 (j a526)) (fun w9 => (q_lt (fun v10 => (q_b3 (fr_fn_X10_has (J 79 (x.toNatClampNeg + 52)) (3 : Int32) I hI J) (fun r16 _ _ h527 => (q_jn (P := fun (j : Int64 → Int64 × Iv × Jv) => ∀ (a528 : Int64), Q3 I0 (j a528)) (fun w18 => (q_lt (fun v19 => (q_b3 (fr_fn_X10_warm x (3 : Int32) I hI J) (fun r25 _ _ h529 => (q_lt (fun v27 => (q_ite hI hI)))))))) (fun j76_1 j530 => (q_ite (j530 ((0 : Int64))) (j530 (((v10 * (45 : Int64)) / (100 : Int64)))))))))))) (fun j41_0 j531 => (q_ite (j531 ((0 : Int64))) (j531 (((v1 * (50 : Int64)) / (100 : Int64)))))))))))
theorem fr_fn_X10_wet {I0 : Iv} (x : Int32) (came : Int64) (I : Iv) (hI : KI I0 I) (J : Jv) : Q2 I0 (fn_X10_wet x came I J) := by
  unfold fn_X10_wet
  exact (q_lt (fun J1 => (q_b3 (fr_fn_X10_warm x (3 : Int32) I hI J1) (fun r8 _ _ h532 => (q_ite (q_lt (fun J10 => (q_lt (fun v12 => (q_jn (P := fun (j : Int64 → Iv × Jv) => ∀ (a533 : Int64), Q2 I0 (j a533)) (fun w13 => (q_lt (fun J14 => (q_lt (fun J16 => hI))))) (fun j145_0 j534 => (q_ite (j534 v12) (j534 ((J10 79 (x.toNatClampNeg + 53))))))))))) (q_lt (fun v18 => (q_jn (P := fun (j : Int64 → Iv × Jv) => ∀ (a535 : Int64), Q2 I0 (j a535)) (fun w19 => (q_lt (fun J20 => (q_lt (fun J22 => hI))))) (fun j60_1 j536 => (q_ite (j536 ((0 : Int64))) (j536 ((v18 - (9999 : Int64))))))))))))))
theorem fr_fn_X10_readBulb {I0 : Iv} (x : Int32) (shelf : Int32) (less : Int32) (I : Iv) (hI : KI I0 I) (J : Jv) : Q2 I0 (fn_X10_readBulb x shelf less I J) := by
  unfold fn_X10_readBulb
  exact (q_b3 (fr_fn_X10_warm x shelf I hI J) (fun r6 _ _ h537 => (q_lt (fun v8 => (q_jn (P := fun (j : Int64 → Iv × Jv) => ∀ (a538 : Int64), Q2 I0 (j a538)) (fun w9 => (q_lt (fun J10 => (q_jn (P := fun (j : Int32 → Iv × Jv) => ∀ (a539 : Int32), Q2 I0 (j a539)) (fun w12 => (q_jn (P := fun (j : Int32 → Iv × Jv) => ∀ (a540 : Int32), Q2 I0 (j a540)) (fun w13 => (q_jn (P := fun (j : Int32 → Iv × Jv) => ∀ (a541 : Int32), Q2 I0 (j a541)) (fun w14 => (q_jn (P := fun (j : Int32 → Iv × Jv) => ∀ (a542 : Int32), Q2 I0 (j a542)) (fun w15 => (q_jn (P := fun (j : Int32 → Iv × Jv) => ∀ (a543 : Int32), Q2 I0 (j a543)) (fun w16 => (q_b3 (fr_fn_X10_one w16 I hI J10) (fun r22 _ _ h544 => (q_lt (fun J24 => (q_jn (P := fun (j : Int32 → Iv × Jv) => ∀ (a545 : Int32), Q2 I0 (j a545)) (fun w26 => (q_b3 (fr_fn_X10_one w26 I hI J24) (fun r32 _ _ h546 => (q_lt (fun J34 => (q_b3 (fr_fn_X10_one w16 I hI J34) (fun r41 _ _ h547 => (q_lt (fun J43 => hI))))))))) (fun j247_6 j548 => (q_jn (P := Q2 I0) (j548 ((0 : Int32))) (fun j246_7 j549 => (q_ite j549 (q_ite (j548 ((1 : Int32))) j549))))))))))) (fun j205_5 j550 => (q_jn (P := Q2 I0) (j550 ((1 : Int32))) (fun j200_8 j551 => (q_ite (q_jn (P := Q2 I0) (j550 ((0 : Int32))) (fun j204_9 j552 => (q_ite (q_ite j552 j551) j552))) j551)))))) (fun j183_4 j553 => (q_jn (P := Q2 I0) (j553 ((1 : Int32))) (fun j178_10 j554 => (q_ite j554 (q_ite (j553 ((0 : Int32))) j554))))))) (fun j151_3 j555 => (q_jn (P := Q2 I0) (j555 ((0 : Int32))) (fun j150_11 j556 => (q_ite j556 (q_b3 (fr_fn_X10_has (J10 79 (x.toNatClampNeg + 52)) (4 : Int32) I hI J10) (fun r50 _ _ h557 => (q_jn (P := Q2 I0) (j555 ((1 : Int32))) (fun j146_12 j558 => (q_ite (q_ite j556 j558) j558))))))))))) (fun j103_2 j559 => (q_ite (j559 ((1 : Int32))) (j559 ((0 : Int32))))))) (fun j82_1 j560 => (q_ite (j560 ((1 : Int32))) (j560 ((0 : Int32))))))))) (fun j50_0 j561 => (q_ite (j561 ((v8 + ((r6 - v8) / (8 : Int64))))) (j561 r6))))))))
theorem fr_fl_X10_findFlows_225_3 {I0 : Iv} (I : Iv) (x : Int32) (Kf3 : Int32 → Jv → Iv × Jv) (hI : KI I0 I) (hKf3 : ∀ (a562 : Int32) (a563 : Jv), Q2 I0 (Kf3 a562 a563)) : ∀ (fu : Nat) (x32 : Int32) (J33 : Jv), Q2 I0 (fl_X10_findFlows_225_3 I x Kf3 fu x32 J33) := by
  intro fu
  induction fu with
  | zero =>
    intro x32 J33
    rw [fl_X10_findFlows_225_3.eq_1]
    exact hI
  | succ kf3 ih =>
    intro x32 J33
    rw [fl_X10_findFlows_225_3.eq_2]
    exact (q_ite (hKf3 x32 J33) (q_ite (q_lt (fun v36 => (q_b3 (fr_fn_X10_warm x v36 I hI J33) (fun r42 _ _ h564 => (q_b3 (fr_fn_X10_warm x ((4 : Int32) + x32) I hI J33) (fun r49 _ _ h565 => (q_lt (fun v51 => (q_lt (fun J52 => (q_lt (fun J54 => (ih (x32 + (1 : Int32)) J54))))))))))))) (ih (x32 + (1 : Int32)) J33)))
theorem fr_fl_X10_findFlows_86_2 {I0 : Iv} (I : Iv) (x : Int32) (Kf2 : Int32 → Jv → Iv × Jv) (hI : KI I0 I) (hKf2 : ∀ (a566 : Int32) (a567 : Jv), Q2 I0 (Kf2 a566 a567)) : ∀ (fu : Nat) (x9 : Int32) (J10 : Jv), Q2 I0 (fl_X10_findFlows_86_2 I x Kf2 fu x9 J10) := by
  intro fu
  induction fu with
  | zero =>
    intro x9 J10
    rw [fl_X10_findFlows_86_2.eq_1]
    exact hI
  | succ kf2 ih =>
    intro x9 J10
    rw [fl_X10_findFlows_86_2.eq_2]
    exact (q_ite (hKf2 x9 J10) (q_b3 (fr_fn_X10_warm x x9 I hI J10) (fun r61 _ _ h568 => (q_b3 (fr_fn_X10_warm x (x9 + (1 : Int32)) I hI J10) (fun r68 _ _ h569 => (q_lt (fun v70 => (q_lt (fun J71 => (q_lt (fun J73 => (ih (x9 + (1 : Int32)) J73))))))))))))
theorem fr_fl_X10_findFlows_27_1 {I0 : Iv} (I : Iv) (x : Int32) (room : Int64) (gap : Int64) (Kf1 : Int32 → Jv → Iv × Jv) (hI : KI I0 I) (hKf1 : ∀ (a570 : Int32) (a571 : Jv), Q2 I0 (Kf1 a570 a571)) : ∀ (fu : Nat) (x5 : Int32) (J6 : Jv), Q2 I0 (fl_X10_findFlows_27_1 I x room gap Kf1 fu x5 J6) := by
  intro fu
  induction fu with
  | zero =>
    intro x5 J6
    rw [fl_X10_findFlows_27_1.eq_1]
    exact hI
  | succ kf1 ih =>
    intro x5 J6
    rw [fl_X10_findFlows_27_1.eq_2]
    exact (q_ite (hKf1 x5 J6) (q_b3 (fr_fn_X10_warm x x5 I hI J6) (fun r80 _ _ h572 => (q_lt (fun v82 => (q_lt (fun J83 => (q_lt (fun J85 => (ih (x5 + (1 : Int32)) J85))))))))))
theorem fr_fl_X10_findFlows_3_0 {I0 : Iv} (I : Iv) (Kf0 : Int32 → Jv → Iv × Jv) (hI : KI I0 I) (hKf0 : ∀ (a573 : Int32) (a574 : Jv), Q2 I0 (Kf0 a573 a574)) : ∀ (fu : Nat) (x1 : Int32) (J2 : Jv), Q2 I0 (fl_X10_findFlows_3_0 I Kf0 fu x1 J2) := by
  intro fu
  induction fu with
  | zero =>
    intro x1 J2
    rw [fl_X10_findFlows_3_0.eq_1]
    exact hI
  | succ kf0 ih =>
    intro x1 J2
    rw [fl_X10_findFlows_3_0.eq_2]
    exact (q_ite (hKf0 x1 J2) (q_lt (fun J87 => (ih (x1 + (1 : Int32)) J87))))
theorem fr_fn_X10_findFlows {I0 : Iv} (x : Int32) (room : Int64) (gap : Int64) (I : Iv) (hI : KI I0 I) (J : Jv) : Q2 I0 (fn_X10_findFlows x room gap I J) := by
  unfold fn_X10_findFlows
  exact (fr_fl_X10_findFlows_3_0 I (fun (x1 : Int32) (J2 : Jv) => fl_X10_findFlows_27_1 I x room gap (fun (x5 : Int32) (J6 : Jv) => fl_X10_findFlows_86_2 I x (fun (x9 : Int32) (J10 : Jv) => b_n3 (fn_X10_warm x (0 : Int32) I J10) (fun (r18 : Int64) (_ : Iv) (_ : Jv) => b_n3 (fn_X10_warm x (3 : Int32) I J10) (fun (r25 : Int64) (_ : Iv) (_ : Jv) => l_t ((((((Int32.toInt64 (I 81 4)) * (r18 - r25)) / (100 : Int64)) * (1000 : Int64)) / ((1000 : Int64) + (J10 79 (x.toNatClampNeg + 53))))) (fun (v27 : Int64) => l_t (wJ J10 88 0 ((J10 88 0) - v27)) (fun (J28 : Jv) => l_t (wJ J28 88 3 ((J28 88 3) + v27)) (fun (J30 : Jv) => fl_X10_findFlows_225_3 I x (fun (x32 : Int32) (J33 : Jv) => (I, J33)) (mU (8 : Int32) ((0 : Int32)) + 1) (0 : Int32) J30)))))) (mU (2 : Int32) ((0 : Int32)) + 1) (0 : Int32) J6) (mU (3 : Int32) ((0 : Int32)) + 1) (0 : Int32) J2) hI (fun x1 J2 => (fr_fl_X10_findFlows_27_1 I x room gap (fun (x5 : Int32) (J6 : Jv) => fl_X10_findFlows_86_2 I x (fun (x9 : Int32) (J10 : Jv) => b_n3 (fn_X10_warm x (0 : Int32) I J10) (fun (r18 : Int64) (_ : Iv) (_ : Jv) => b_n3 (fn_X10_warm x (3 : Int32) I J10) (fun (r25 : Int64) (_ : Iv) (_ : Jv) => l_t ((((((Int32.toInt64 (I 81 4)) * (r18 - r25)) / (100 : Int64)) * (1000 : Int64)) / ((1000 : Int64) + (J10 79 (x.toNatClampNeg + 53))))) (fun (v27 : Int64) => l_t (wJ J10 88 0 ((J10 88 0) - v27)) (fun (J28 : Jv) => l_t (wJ J28 88 3 ((J28 88 3) + v27)) (fun (J30 : Jv) => fl_X10_findFlows_225_3 I x (fun (x32 : Int32) (J33 : Jv) => (I, J33)) (mU (8 : Int32) ((0 : Int32)) + 1) (0 : Int32) J30)))))) (mU (2 : Int32) ((0 : Int32)) + 1) (0 : Int32) J6) hI (fun x5 J6 => (fr_fl_X10_findFlows_86_2 I x (fun (x9 : Int32) (J10 : Jv) => b_n3 (fn_X10_warm x (0 : Int32) I J10) (fun (r18 : Int64) (_ : Iv) (_ : Jv) => b_n3 (fn_X10_warm x (3 : Int32) I J10) (fun (r25 : Int64) (_ : Iv) (_ : Jv) => l_t ((((((Int32.toInt64 (I 81 4)) * (r18 - r25)) / (100 : Int64)) * (1000 : Int64)) / ((1000 : Int64) + (J10 79 (x.toNatClampNeg + 53))))) (fun (v27 : Int64) => l_t (wJ J10 88 0 ((J10 88 0) - v27)) (fun (J28 : Jv) => l_t (wJ J28 88 3 ((J28 88 3) + v27)) (fun (J30 : Jv) => fl_X10_findFlows_225_3 I x (fun (x32 : Int32) (J33 : Jv) => (I, J33)) (mU (8 : Int32) ((0 : Int32)) + 1) (0 : Int32) J30)))))) hI (fun x9 J10 => (q_b3 (fr_fn_X10_warm x (0 : Int32) I hI J10) (fun r18 _ _ h575 => (q_b3 (fr_fn_X10_warm x (3 : Int32) I hI J10) (fun r25 _ _ h576 => (q_lt (fun v27 => (q_lt (fun J28 => (q_lt (fun J30 => (fr_fl_X10_findFlows_225_3 I x (fun (x32 : Int32) (J33 : Jv) => (I, J33)) hI (fun x32 J33 => hI) (mU (8 : Int32) ((0 : Int32)) + 1) (0 : Int32) J30)))))))))))) (mU (2 : Int32) ((0 : Int32)) + 1) (0 : Int32) J6)) (mU (3 : Int32) ((0 : Int32)) + 1) (0 : Int32) J2)) (mU (12 : Int32) ((0 : Int32)) + 1) (0 : Int32) J)
theorem fr_fl_X10_tick_230_6 {I0 : Iv} (I : Iv) (x : Int32) (Kf6 : Int32 → Jv → Iv × Jv) (hI : KI I0 I) (hKf6 : ∀ (a577 : Int32) (a578 : Jv), Q2 I0 (Kf6 a577 a578)) : ∀ (fu : Nat) (x45 : Int32) (J46 : Jv), Q2 I0 (fl_X10_tick_230_6 I x Kf6 fu x45 J46) := by
  intro fu
  induction fu with
  | zero =>
    intro x45 J46
    rw [fl_X10_tick_230_6.eq_1]
    exact hI
  | succ kf6 ih =>
    intro x45 J46
    rw [fl_X10_tick_230_6.eq_2]
    exact (q_ite (hKf6 x45 J46) (q_lt (fun J74 => (ih (x45 + (1 : Int32)) J74))))
theorem fr_fn_X10_tick {I0 : Iv} (x : Int32) (open_ : Int32) (shelf : Int32) (less : Int32) (I : Iv) (hI : KI I0 I) (J : Jv) : Q2 I0 (fn_X10_tick x open_ shelf less I J) := by
  unfold fn_X10_tick
  exact (q_lt (fun v1 => (q_lt (fun v2 => (q_b3 (fr_fn_X10_isHour v2 (I 81 12) (I 81 13) I hI J) (fun r8 _ _ h579 => (q_jn (P := fun (j : Int64 → Iv × Jv) => ∀ (a580 : Int64), Q2 I0 (j a580)) (fun w10 => (q_b3 (fr_fn_X10_has v1 (6 : Int32) I hI J) (fun r16 _ _ h581 => (q_jn (P := fun (j : Int64 → Iv × Jv) => ∀ (a582 : Int64), Q2 I0 (j a582)) (fun w18 => (q_lt (fun v19 => (q_jn (P := fun (j : Int32 → Iv × Jv) => ∀ (a583 : Int32), Q2 I0 (j a583)) (fun w20 => (q_b2 (fr_fn_X10_readBulb x shelf less I hI J) (fun _ J21 h584 => (q_b3 (fr_fn_X10_has v1 (0 : Int32) I hI J21) (fun r33 _ _ h585 => (q_jn (P := fun (j : Int64 → Iv × Jv) => ∀ (a586 : Int64), Q2 I0 (j a586)) (fun w35 => (q_jn (P := fun (j : Int64 → Iv × Jv) => ∀ (a587 : Int64), Q2 I0 (j a587)) (fun w36 => (q_b2 (fr_fn_X10_findFlows x v19 (((Int32.toInt64 (I 81 1)) + w35) + w36) I hI J21) (fun _ J37 h588 => (q_jn (P := fun (j : Int64 → Iv × Jv) => ∀ (a589 : Int64), Q2 I0 (j a589)) (fun w44 => (fr_fl_X10_tick_230_6 I x (fun (x45 : Int32) (J46 : Jv) => j_n (fun (J49 : Jv) => l_t (wJ J49 79 (x.toNatClampNeg + 3) ((J49 79 (x.toNatClampNeg + 3)) - w44)) (fun (J51 : Jv) => l_t (wJ J51 79 (x.toNatClampNeg + 58) ((J51 79 (x.toNatClampNeg + 58)) + w44)) (fun (J53 : Jv) => j_n (fun (w55 : Int64) => l_t (wJ J53 79 (x.toNatClampNeg + 63) ((J53 79 (x.toNatClampNeg + 63)) + w55)) (fun (J56 : Jv) => j_n (fun (w58 : Int64) => b_n2 (fn_X10_wet x (w35 + w58) I J56) (fun (_ : Iv) (J59 : Jv) => l_t (wJ J59 79 (x.toNatClampNeg + 54) ((J59 79 (x.toNatClampNeg + 54)) + (1 : Int64))) (fun (J66 : Jv) => (I, J66)))) (fun (j412_9 : Int64 → Iv × Jv) => if open_ = 0 then j412_9 ((0 : Int64)) else j412_9 ((20 : Int64))))) (fun (j395_8 : Int64 → Iv × Jv) => if (J53 79 (x.toNatClampNeg + 66)) = (1 : Int64) then j395_8 ((Int32.toInt64 (I 81 9))) else j395_8 ((0 : Int64)))))) (fun (j332_7 : Jv → Iv × Jv) => if w20 = 0 then j332_7 J46 else l_t (wJ J46 79 (x.toNatClampNeg) ((J46 79 x.toNatClampNeg) + ((5 : Int64) * (Int32.toInt64 (I 81 10))))) (fun (J68 : Jv) => l_t (wJ J68 79 (x.toNatClampNeg + 57) ((J68 79 (x.toNatClampNeg + 57)) + ((5 : Int64) * (Int32.toInt64 (I 81 10))))) (fun (J70 : Jv) => l_t (wJ J70 79 (x.toNatClampNeg + 63) ((J70 79 (x.toNatClampNeg + 63)) + (Int32.toInt64 (I 81 10)))) (fun (J72 : Jv) => j332_7 J72))))) hI (fun x45 J46 => (q_jn (P := fun (j : Jv → Iv × Jv) => ∀ (a590 : Jv), Q2 I0 (j a590)) (fun J49 => (q_lt (fun J51 => (q_lt (fun J53 => (q_jn (P := fun (j : Int64 → Iv × Jv) => ∀ (a591 : Int64), Q2 I0 (j a591)) (fun w55 => (q_lt (fun J56 => (q_jn (P := fun (j : Int64 → Iv × Jv) => ∀ (a592 : Int64), Q2 I0 (j a592)) (fun w58 => (q_b2 (fr_fn_X10_wet x (w35 + w58) I hI J56) (fun _ J59 h593 => (q_lt (fun J66 => hI))))) (fun j412_9 j594 => (q_ite (j594 ((0 : Int64))) (j594 ((20 : Int64))))))))) (fun j395_8 j595 => (q_ite (j595 ((Int32.toInt64 (I 81 9)))) (j595 ((0 : Int64))))))))))) (fun j332_7 j596 => (q_ite (j596 J46) (q_lt (fun J68 => (q_lt (fun J70 => (q_lt (fun J72 => (j596 J72))))))))))) (mU (12 : Int32) ((0 : Int32)) + 1) (0 : Int32) J37)) (fun j225_5 j597 => (q_ite (q_b3 (fr_fn_X10_moves x v19 I hI J37) (fun r81 _ _ h598 => (j597 r81))) (j597 ((0 : Int64))))))))) (fun j196_4 j599 => (q_ite (j599 ((0 : Int64))) (j599 ((60 : Int64))))))) (fun j169_3 j600 => (q_ite (j600 ((Int32.toInt64 (I 81 2)))) (j600 ((((4 : Int64) * (Int32.toInt64 (I 81 2))) + (12 : Int64)))))))))))) (fun j125_2 j601 => (q_jn (P := Q2 I0) (j601 ((0 : Int32))) (fun j124_10 j602 => (q_jn (P := Q2 I0) (q_ite (j601 ((1 : Int32))) j602) (fun j106_11 j603 => (q_ite (q_b3 (fr_fn_X10_has v1 (5 : Int32) I hI J) (fun r88 _ _ h604 => (q_ite j602 j603))) j603)))))))))) (fun j90_1 j605 => (q_ite (j605 ((0 : Int64))) (j605 ((800 : Int64))))))))) (fun j72_0 j606 => (q_ite (j606 ((0 : Int64))) (j606 (((10 : Int64) * (Int32.toInt64 (I 81 14))))))))))))))
theorem fr_fl_X10_go_2_0 {I0 : Iv} (I : Iv) (x : Int32) (n : Int32) (Kf0 : Int32 → Jv → Iv × Jv) (hI : KI I0 I) (hKf0 : ∀ (a607 : Int32) (a608 : Jv), Q2 I0 (Kf0 a607 a608)) : ∀ (fu : Nat) (x1 : Int32) (J2 : Jv), Q2 I0 (fl_X10_go_2_0 I x n Kf0 fu x1 J2) := by
  intro fu
  induction fu with
  | zero =>
    intro x1 J2
    rw [fl_X10_go_2_0.eq_1]
    exact hI
  | succ kf0 ih =>
    intro x1 J2
    rw [fl_X10_go_2_0.eq_2]
    exact (q_ite (hKf0 x1 J2) (q_b3 (fr_fn_X10_isOpen (J2 79 (x.toNatClampNeg + 54)) I hI J2) (fun r10 _ _ h609 => (q_b2 (fr_fn_X10_tick x r10 (I 81 8) (0 : Int32) I hI J2) (fun _ J12 h610 => (ih (x1 + (1 : Int32)) J12))))))
theorem fr_fn_X10_go {I0 : Iv} (x : Int32) (n : Int32) (I : Iv) (hI : KI I0 I) (J : Jv) : Q2 I0 (fn_X10_go x n I J) := by
  unfold fn_X10_go
  exact (fr_fl_X10_go_2_0 I x n (fun (x1 : Int32) (J2 : Jv) => (I, J2)) hI (fun x1 J2 => hI) (mU n ((0 : Int32)) + 1) (0 : Int32) J)
theorem fr_fl_X10_here_0_0 {I0 : Iv} (J : Jv) (Kf0 : Iv → Int32 × Iv × Jv) (hKf0 : ∀ (a611 : Iv), KI I0 a611 → Q3 I0 (Kf0 a611)) : ∀ (fu : Nat) (I1 : Iv), KI I0 I1 → Q3 I0 (fl_X10_here_0_0 J Kf0 fu I1) := by
  intro fu
  induction fu with
  | zero =>
    intro I1 hI1
    rw [fl_X10_here_0_0.eq_1]
    exact hI1
  | succ kf0 ih =>
    intro I1 hI1
    rw [fl_X10_here_0_0.eq_2]
    exact (q_jn (P := Q3 I0) (hKf0 I1 hI1) (fun j38_1 j612 => (q_ite j612 (q_ite (q_ltI (kI_w rfl hI1) (fun I3 h613 => (ih I3 h613))) j612))))
theorem fr_fn_X10_here {I0 : Iv} (I : Iv) (hI : KI I0 I) (J : Jv) : Q3 I0 (fn_X10_here I J) := by
  unfold fn_X10_here
  exact (fr_fl_X10_here_0_0 J (fun (I1 : Iv) => if (I1 78 11) ≤ (I1 78 12) then ((-1 : Int32), I1, J) else ((I1 87 ((I1 78 12)).toNatClampNeg), I1, J)) (fun I1 h614 => (q_ite h614 h614)) (mU (I 78 11) (I 78 12) + 1) I hI)
theorem fr_fl_X10_takeWord_13_0 {I0 : Iv} (J : Jv) (Kf0 : Iv → Iv × Jv) (hKf0 : ∀ (a615 : Iv), KI I0 a615 → Q2 I0 (Kf0 a615)) : ∀ (fu : Nat) (I11 : Iv), KI I0 I11 → Q2 I0 (fl_X10_takeWord_13_0 J Kf0 fu I11) := by
  intro fu
  induction fu with
  | zero =>
    intro I11 hI11
    rw [fl_X10_takeWord_13_0.eq_1]
    exact hI11
  | succ kf0 ih =>
    intro I11 hI11
    rw [fl_X10_takeWord_13_0.eq_2]
    exact (q_jn (P := Q2 I0) (hKf0 I11 hI11) (fun j59_1 j616 => (q_ite j616 (q_b3 (fr_fn_X10_in (Int32.toInt64 (I11 87 ((I11 78 12)).toNatClampNeg)) (97 : Int64) (122 : Int64) I11 hI11 J) (fun r20 _ _ h617 => (q_ite j616 (q_ltI (kI_w rfl hI11) (fun I22 h618 => (ih I22 h618)))))))))
theorem fr_fn_X10_takeWord {I0 : Iv} (I : Iv) (hI : KI I0 I) (J : Jv) : Q2 I0 (fn_X10_takeWord I J) := by
  unfold fn_X10_takeWord
  exact (q_b3 (fr_fn_X10_here I hI J) (fun r6 I1 _ h619 => (q_ltI (kI_w rfl h619) (fun I9 h620 => (fr_fl_X10_takeWord_13_0 J (fun (I11 : Iv) => l_t (wI I11 78 14 ((I11 78 12) - (I11 78 13))) (fun (I13 : Iv) => (I13, J))) (fun I11 h621 => (q_ltI (kI_w rfl h621) (fun I13 h622 => h622))) (mU (I9 78 11) (I9 78 12) + 1) I9 h620)))))
theorem fr_fl_X10_isWord_18_1 {I0 : Iv} (I : Iv) (J : Jv) (n : Int32) (a : Int32) (b : Int32) (c : Int32) (d : Int32) (e : Int32) (Kf1 : Int32 → Int32 → Int32 × Iv × Jv) (hI : KI I0 I) (hKf1 : ∀ (a623 : Int32) (a624 : Int32), Q3 I0 (Kf1 a623 a624)) : ∀ (fu : Nat) (x2 : Int32) (x3 : Int32), Q3 I0 (fl_X10_isWord_18_1 I J n a b c d e Kf1 fu x2 x3) := by
  intro fu
  induction fu with
  | zero =>
    intro x2 x3
    rw [fl_X10_isWord_18_1.eq_1]
    exact hI
  | succ kf1 ih =>
    intro x2 x3
    rw [fl_X10_isWord_18_1.eq_2]
    exact (q_ite (hKf1 x2 x3) (q_ite (hKf1 x2 x3) (q_jn (P := fun (j : Int32 → Int32 × Iv × Jv) => ∀ (a625 : Int32), Q3 I0 (j a625)) (fun w5 => (q_ite (ih (1 : Int32) (x3 + (1 : Int32))) (ih (0 : Int32) (x3 + (1 : Int32))))) (fun j84_2 j626 => (q_ite (j626 a) (q_ite (j626 b) (q_ite (j626 c) (q_ite (j626 d) (j626 e)))))))))
theorem fr_fn_X10_isWord {I0 : Iv} (n : Int32) (a : Int32) (b : Int32) (c : Int32) (d : Int32) (e : Int32) (I : Iv) (hI : KI I0 I) (J : Jv) : Q3 I0 (fn_X10_isWord n a b c d e I J) := by
  unfold fn_X10_isWord
  exact (q_jn (P := fun (j : Int32 → Int32 × Iv × Jv) => ∀ (a627 : Int32), Q3 I0 (j a627)) (fun w1 => (fr_fl_X10_isWord_18_1 I J n a b c d e (fun (x2 : Int32) (x3 : Int32) => (x2, I, J)) hI (fun x2 x3 => hI) (mU n ((0 : Int32)) + 1) w1 (0 : Int32))) (fun j13_0 j628 => (q_ite (j628 ((1 : Int32))) (j628 ((0 : Int32))))))
theorem fr_fn_X10_kindHere {I0 : Iv} (I : Iv) (hI : KI I0 I) (J : Jv) : Q3 I0 (fn_X10_kindHere I J) := by
  unfold fn_X10_kindHere
  exact (q_ite (q_ite (q_b3 (fr_fn_X10_isWord (5 : Int32) (112 : Int32) (111 : Int32) (119 : Int32) (101 : Int32) (114 : Int32) I hI J) (fun r55 _ _ h629 => (q_ite (q_b3 (fr_fn_X10_isWord (5 : Int32) (115 : Int32) (116 : Int32) (111 : Int32) (118 : Int32) (101 : Int32) I hI J) (fun r62 _ _ h630 => (q_ite hI hI))) hI))) (q_b3 (fr_fn_X10_isWord (4 : Int32) (119 : Int32) (97 : Int32) (108 : Int32) (108 : Int32) (0 : Int32) I hI J) (fun r6 _ _ h631 => (q_ite (q_b3 (fr_fn_X10_isWord (4 : Int32) (115 : Int32) (101 : Int32) (97 : Int32) (108 : Int32) (0 : Int32) I hI J) (fun r13 _ _ h632 => (q_ite (q_b3 (fr_fn_X10_isWord (4 : Int32) (99 : Int32) (111 : Int32) (108 : Int32) (100 : Int32) (0 : Int32) I hI J) (fun r20 _ _ h633 => (q_ite (q_b3 (fr_fn_X10_isWord (4 : Int32) (102 : Int32) (111 : Int32) (111 : Int32) (100 : Int32) (0 : Int32) I hI J) (fun r27 _ _ h634 => (q_ite (q_b3 (fr_fn_X10_isWord (4 : Int32) (98 : Int32) (117 : Int32) (108 : Int32) (98 : Int32) (0 : Int32) I hI J) (fun r34 _ _ h635 => (q_ite (q_b3 (fr_fn_X10_isWord (4 : Int32) (108 : Int32) (97 : Int32) (109 : Int32) (112 : Int32) (0 : Int32) I hI J) (fun r41 _ _ h636 => (q_ite (q_b3 (fr_fn_X10_isWord (4 : Int32) (114 : Int32) (111 : Int32) (111 : Int32) (109 : Int32) (0 : Int32) I hI J) (fun r48 _ _ h637 => (q_ite hI hI))) hI))) hI))) hI))) hI))) hI))) hI)))) (q_b3 (fr_fn_X10_isWord (3 : Int32) (109 : Int32) (105 : Int32) (120 : Int32) (0 : Int32) (0 : Int32) I hI J) (fun r69 _ _ h638 => (q_ite (q_b3 (fr_fn_X10_isWord (2 : Int32) (111 : Int32) (110 : Int32) (0 : Int32) (0 : Int32) (0 : Int32) I hI J) (fun r76 _ _ h639 => (q_ite (q_b3 (fr_fn_X10_isWord (3 : Int32) (111 : Int32) (102 : Int32) (102 : Int32) (0 : Int32) (0 : Int32) I hI J) (fun r83 _ _ h640 => (q_ite (q_b3 (fr_fn_X10_isWord (3 : Int32) (117 : Int32) (115 : Int32) (101 : Int32) (0 : Int32) (0 : Int32) I hI J) (fun r90 _ _ h641 => (q_ite hI hI))) hI))) hI))) hI))))
theorem fr_fl_X10_takeNumber_41_0 {I0 : Iv} (J : Jv) (Kf0 : Int32 → Iv → Int32 × Iv × Jv) (hKf0 : ∀ (a642 : Int32) (a643 : Iv), KI I0 a643 → Q3 I0 (Kf0 a642 a643)) : ∀ (fu : Nat) (x26 : Int32) (I27 : Iv), KI I0 I27 → Q3 I0 (fl_X10_takeNumber_41_0 J Kf0 fu x26 I27) := by
  intro fu
  induction fu with
  | zero =>
    intro x26 I27 hI27
    rw [fl_X10_takeNumber_41_0.eq_1]
    exact hI27
  | succ kf0 ih =>
    intro x26 I27 hI27
    rw [fl_X10_takeNumber_41_0.eq_2]
    exact (q_jn (P := Q3 I0) (hKf0 x26 I27 hI27) (fun j119_1 j644 => (q_ite j644 (q_b3 (fr_fn_X10_in (Int32.toInt64 (I27 87 ((I27 78 12)).toNatClampNeg)) (48 : Int64) (57 : Int64) I27 hI27 J) (fun r50 _ _ h645 => (q_ite j644 (q_jn (P := fun (j : Int32 → Int32 × Iv × Jv) => ∀ (a646 : Int32), Q3 I0 (j a646)) (fun w52 => (q_ltI (kI_w rfl hI27) (fun I53 h647 => (ih w52 I53 h647)))) (fun j104_4 j648 => (q_ite (j648 (((((10 : Int32) * x26) + (I27 87 ((I27 78 12)).toNatClampNeg)) - (48 : Int32)))) (j648 x26))))))))))
theorem fr_fl_X10_freshen_93_1 {I0 : Iv} (I : Iv) (x : Int32) (Kf1 : Int32 → Jv → Iv × Jv) (hI : KI I0 I) (hKf1 : ∀ (a649 : Int32) (a650 : Jv), Q2 I0 (Kf1 a649 a650)) : ∀ (fu : Nat) (x14 : Int32) (J15 : Jv), Q2 I0 (fl_X10_freshen_93_1 I x Kf1 fu x14 J15) := by
  intro fu
  induction fu with
  | zero =>
    intro x14 J15
    rw [fl_X10_freshen_93_1.eq_1]
    exact hI
  | succ kf1 ih =>
    intro x14 J15
    rw [fl_X10_freshen_93_1.eq_2]
    exact (q_ite (hKf1 x14 J15) (q_lt (fun J32 => (ih (x14 + (1 : Int32)) J32))))
theorem fr_fl_X10_freshen_35_0 {I0 : Iv} (I : Iv) (x : Int32) (Kf0 : Int32 → Jv → Iv × Jv) (hI : KI I0 I) (hKf0 : ∀ (a651 : Int32) (a652 : Jv), Q2 I0 (Kf0 a651 a652)) : ∀ (fu : Nat) (x4 : Int32) (J5 : Jv), Q2 I0 (fl_X10_freshen_35_0 I x Kf0 fu x4 J5) := by
  intro fu
  induction fu with
  | zero =>
    intro x4 J5
    rw [fl_X10_freshen_35_0.eq_1]
    exact hI
  | succ kf0 ih =>
    intro x4 J5
    rw [fl_X10_freshen_35_0.eq_2]
    exact (q_ite (hKf0 x4 J5) (q_lt (fun J34 => (ih (x4 + (1 : Int32)) J34))))
theorem fr_fn_X10_freshen {I0 : Iv} (x : Int32) (I : Iv) (hI : KI I0 I) (J : Jv) : Q2 I0 (fn_X10_freshen x I J) := by
  unfold fn_X10_freshen
  exact (q_lt (fun v1 => (q_lt (fun v2 => (q_lt (fun v3 => (fr_fl_X10_freshen_35_0 I x (fun (x4 : Int32) (J5 : Jv) => l_t (wJ J5 79 (x.toNatClampNeg + 52) v1) (fun (J8 : Jv) => l_t (wJ J8 79 (x.toNatClampNeg + 69) v2) (fun (J10 : Jv) => l_t (wJ J10 79 (x.toNatClampNeg + 70) v3) (fun (J12 : Jv) => fl_X10_freshen_93_1 I x (fun (x14 : Int32) (J15 : Jv) => l_t (wJ J15 79 (x.toNatClampNeg + 3) (-40000 : Int64)) (fun (J18 : Jv) => b_n3 (fn_X10_has v1 (1 : Int32) I J18) (fun (r25 : Int32) (_ : Iv) (_ : Jv) => j_n (fun (w27 : Int64) => l_t (wJ J18 79 (x.toNatClampNeg + 53) w27) (fun (J28 : Jv) => l_t (wJ J28 79 (x.toNatClampNeg + 67) (500 : Int64)) (fun (J30 : Jv) => (I, J30)))) (fun (j151_2 : Int64 → Iv × Jv) => if r25 = 0 then j151_2 ((0 : Int64)) else j151_2 ((600 : Int64)))))) (mU (3 : Int32) ((0 : Int32)) + 1) (0 : Int32) J12)))) hI (fun x4 J5 => (q_lt (fun J8 => (q_lt (fun J10 => (q_lt (fun J12 => (fr_fl_X10_freshen_93_1 I x (fun (x14 : Int32) (J15 : Jv) => l_t (wJ J15 79 (x.toNatClampNeg + 3) (-40000 : Int64)) (fun (J18 : Jv) => b_n3 (fn_X10_has v1 (1 : Int32) I J18) (fun (r25 : Int32) (_ : Iv) (_ : Jv) => j_n (fun (w27 : Int64) => l_t (wJ J18 79 (x.toNatClampNeg + 53) w27) (fun (J28 : Jv) => l_t (wJ J28 79 (x.toNatClampNeg + 67) (500 : Int64)) (fun (J30 : Jv) => (I, J30)))) (fun (j151_2 : Int64 → Iv × Jv) => if r25 = 0 then j151_2 ((0 : Int64)) else j151_2 ((600 : Int64)))))) hI (fun x14 J15 => (q_lt (fun J18 => (q_b3 (fr_fn_X10_has v1 (1 : Int32) I hI J18) (fun r25 _ _ h653 => (q_jn (P := fun (j : Int64 → Iv × Jv) => ∀ (a654 : Int64), Q2 I0 (j a654)) (fun w27 => (q_lt (fun J28 => (q_lt (fun J30 => hI))))) (fun j151_2 j655 => (q_ite (j655 ((0 : Int64))) (j655 ((600 : Int64))))))))))) (mU (3 : Int32) ((0 : Int32)) + 1) (0 : Int32) J12)))))))) (mU (80 : Int32) ((0 : Int32)) + 1) (0 : Int32) J)))))))
theorem fr_fl_X10_copy_2_0 {I0 : Iv} (I : Iv) (x : Int32) (y : Int32) (Kf0 : Int32 → Jv → Iv × Jv) (hI : KI I0 I) (hKf0 : ∀ (a656 : Int32) (a657 : Jv), Q2 I0 (Kf0 a656 a657)) : ∀ (fu : Nat) (x1 : Int32) (J2 : Jv), Q2 I0 (fl_X10_copy_2_0 I x y Kf0 fu x1 J2) := by
  intro fu
  induction fu with
  | zero =>
    intro x1 J2
    rw [fl_X10_copy_2_0.eq_1]
    exact hI
  | succ kf0 ih =>
    intro x1 J2
    rw [fl_X10_copy_2_0.eq_2]
    exact (q_ite (hKf0 x1 J2) (q_lt (fun J5 => (ih (x1 + (1 : Int32)) J5))))
theorem fr_fn_X10_copy {I0 : Iv} (x : Int32) (y : Int32) (I : Iv) (hI : KI I0 I) (J : Jv) : Q2 I0 (fn_X10_copy x y I J) := by
  unfold fn_X10_copy
  exact (fr_fl_X10_copy_2_0 I x y (fun (x1 : Int32) (J2 : Jv) => (I, J2)) hI (fun x1 J2 => hI) (mU (80 : Int32) ((0 : Int32)) + 1) (0 : Int32) J)
theorem fr_fn_X10_tryFresh {I0 : Iv} (set : Int32) (I : Iv) (hI : KI I0 I) (J : Jv) : Q2 I0 (fn_X10_tryFresh set I J) := by
  unfold fn_X10_tryFresh
  exact (q_lt (fun J1 => (q_lt (fun J3 => (q_b2 (fr_fn_X10_freshen (80 : Int32) I hI J3) (fun _ J5 h658 => hI))))))
theorem fr_fl_X10_begin_51_1 {I0 : Iv} (J9 : Jv) (Kf1 : Int32 → Iv → Iv × Jv) (hKf1 : ∀ (a659 : Int32) (a660 : Iv), KI I0 a660 → Q2 I0 (Kf1 a659 a660)) : ∀ (fu : Nat) (x16 : Int32) (I17 : Iv), KI I0 I17 → Q2 I0 (fl_X10_begin_51_1 J9 Kf1 fu x16 I17) := by
  intro fu
  induction fu with
  | zero =>
    intro x16 I17 hI17
    rw [fl_X10_begin_51_1.eq_1]
    exact hI17
  | succ kf1 ih =>
    intro x16 I17 hI17
    rw [fl_X10_begin_51_1.eq_2]
    exact (q_ite (hKf1 x16 I17 hI17) (q_ltI (kI_w rfl hI17) (fun I24 h661 => (q_ltI (kI_w rfl h661) (fun I26 h662 => (ih (x16 + (1 : Int32)) I26 h662))))))
theorem fr_fl_X10_melt_36_0 {I0 : Iv} (I : Iv) (x : Int32) (Kf0 : Int32 → Jv → Int32 × Iv × Jv) (hI : KI I0 I) (hKf0 : ∀ (a663 : Int32) (a664 : Jv), Q3 I0 (Kf0 a663 a664)) : ∀ (fu : Nat) (x6 : Int32) (J7 : Jv), Q3 I0 (fl_X10_melt_36_0 I x Kf0 fu x6 J7) := by
  intro fu
  induction fu with
  | zero =>
    intro x6 J7
    rw [fl_X10_melt_36_0.eq_1]
    exact hI
  | succ kf0 ih =>
    intro x6 J7
    rw [fl_X10_melt_36_0.eq_2]
    exact (q_ite (hKf0 x6 J7) (q_b3 (fr_fn_X10_capOf x x6 I hI J7) (fun r15 _ _ h665 => (q_lt (fun v17 => (q_b3 (fr_fn_X10_warm x x6 I hI J7) (fun r23 _ _ h666 => (q_ite (ih (x6 + (1 : Int32)) J7) (q_lt (fun J25 => (q_lt (fun J27 => (ih (x6 + (1 : Int32)) J27)))))))))))))
theorem fr_fn_X10_melt {I0 : Iv} (x : Int32) (I : Iv) (hI : KI I0 I) (J : Jv) : Q3 I0 (fn_X10_melt x I J) := by
  unfold fn_X10_melt
  exact (q_lt (fun v1 => (q_lt (fun J2 => (q_lt (fun J4 => (fr_fl_X10_melt_36_0 I x (fun (x6 : Int32) (J7 : Jv) => ((Int64.toInt32 v1), I, J7)) hI (fun x6 J7 => hI) (mU (4 : Int32) ((0 : Int32)) + 1) (0 : Int32) J4)))))))
theorem fr_fn_X10_fault {I0 : Iv} (I : Iv) (hI : KI I0 I) (J : Jv) : Q3 I0 (fn_X10_fault I J) := by
  unfold fn_X10_fault
  exact hI
theorem fr_fn_X10_opening {I0 : Iv} (i : Int32) (what : Int32) (I : Iv) (hI : KI I0 I) (J : Jv) : Q3 I0 (fn_X10_opening i what I J) := by
  unfold fn_X10_opening
  exact (q_b3 (fr_fn_X10_in (Int32.toInt64 what) (0 : Int64) (1 : Int64) I hI J) (fun r6 _ _ h667 => (q_ite hI (q_b3 (fr_fn_X10_in (Int32.toInt64 i) (0 : Int64) (Int32.toInt64 ((I 78 5) - (1 : Int32))) I hI J) (fun r13 _ _ h668 => (q_ite hI (q_ite hI hI)))))))
theorem fr_fn_X10_told {I0 : Iv} (what : Int32) (I : Iv) (J : Jv) (hb : KI I0 (fn_X10_begin I J).1) : Q3 I0 (fn_X10_told what I J) := by
  unfold fn_X10_told
  exact (q_b2 hb (fun I1 J2 h669 => (q_b3 (fr_fn_X10_in (Int32.toInt64 what) (0 : Int64) (14 : Int64) I1 h669 J2) (fun r13 _ _ h670 => (q_ite h669 h669)))))
theorem fr_fn_X10_trouble {I0 : Iv} (set : Int32) (I : Iv) (J : Jv) (hb : KI I0 (fn_X10_begin I J).1) : Q3 I0 (fn_X10_trouble set I J) := by
  unfold fn_X10_trouble
  exact (q_b2 hb (fun I1 J2 h671 => (q_b3 (fr_fn_X10_isSet set I1 h671 J2) (fun r13 _ _ h672 => (q_ite h671 (q_lt (fun v15 => (q_lt (fun J16 => (q_b3 (fr_fn_X10_has (Int32.toInt64 set) (1 : Int32) I1 h671 J16) (fun r23 _ _ h673 => (q_ite h671 (q_b3 (fr_fn_X10_has (Int32.toInt64 v15) (1 : Int32) I1 h671 J16) (fun r30 _ _ h674 => (q_ite (q_ite h671 (q_lt (fun J32 => h671))) h671)))))))))))))))
theorem fr_fn_X10_fresh {I0 : Iv} (I : Iv) (J : Jv) (hb : KI I0 (fn_X10_begin I J).1) : Q3 I0 (fn_X10_fresh I J) := by
  unfold fn_X10_fresh
  exact (q_b2 hb (fun I1 J2 h675 => (q_lt (fun v8 => (q_b2 (fr_fn_X10_freshen (0 : Int32) I1 h675 J2) (fun _ J9 h676 => h675))))))
theorem fr_fn_X10_current {I0 : Iv} (on : Int32) (I : Iv) (J : Jv) (hb : KI I0 (fn_X10_begin I J).1) : Q3 I0 (fn_X10_current on I J) := by
  unfold fn_X10_current
  exact (q_b2 hb (fun I1 J2 h677 => (q_lt (fun v8 => (q_b3 (fr_fn_X10_one on I1 h677 J2) (fun r14 _ _ h678 => (q_lt (fun J16 => h677))))))))
theorem fr_fn_X10_cover {I0 : Iv} (on : Int32) (I : Iv) (J : Jv) (hb : KI I0 (fn_X10_begin I J).1) : Q3 I0 (fn_X10_cover on I J) := by
  unfold fn_X10_cover
  exact (q_b2 hb (fun I1 J2 h679 => (q_lt (fun v8 => (q_b3 (fr_fn_X10_one on I1 h679 J2) (fun r14 _ _ h680 => (q_lt (fun J16 => h679))))))))
theorem fr_fl_X10_put_63_0 {I0 : Iv} (I1 : Iv) (J2 : Jv) (Kf0 : Int32 → Int32 × Iv × Jv) (hI1 : KI I0 I1) (hKf0 : ∀ (a681 : Int32), Q3 I0 (Kf0 a681)) : ∀ (fu : Nat) (x43 : Int32), Q3 I0 (fl_X10_put_63_0 I1 J2 Kf0 fu x43) := by
  intro fu
  induction fu with
  | zero =>
    intro x43
    rw [fl_X10_put_63_0.eq_1]
    exact hI1
  | succ kf0 ih =>
    intro x43
    rw [fl_X10_put_63_0.eq_2]
    exact (q_jn (P := Q3 I0) (hKf0 x43) (fun j91_1 j682 => (q_ite j682 (q_ite (ih (x43 + (1 : Int32))) j682))))
theorem fr_fn_X10_put {I0 : Iv} (s : Int32) (v_ : Int32) (c : Int32) (low : Int32) (high : Int32) (I : Iv) (J : Jv) (hb : KI I0 (fn_X10_begin I J).1) : Q3 I0 (fn_X10_put s v_ c low high I J) := by
  unfold fn_X10_put
  exact (q_b2 hb (fun I1 J2 h683 => (q_b3 (fr_fn_X10_isShelf s I1 h683 J2) (fun r13 _ _ h684 => (q_ite h683 (q_b3 (fr_fn_X10_isDegree v_ I1 h683 J2) (fun r20 _ _ h685 => (q_ite h683 (q_b3 (fr_fn_X10_in (Int32.toInt64 c) (1 : Int64) (200 : Int64) I1 h683 J2) (fun r27 _ _ h686 => (q_ite h683 (q_b3 (fr_fn_X10_isDegree low I1 h683 J2) (fun r34 _ _ h687 => (q_ite h683 (q_b3 (fr_fn_X10_isDegree high I1 h683 J2) (fun r41 _ _ h688 => (q_ite h683 (q_ite (fr_fl_X10_put_63_0 I1 J2 (fun (x43 : Int32) => if x43 = (8 : Int32) then ((-1000000004 : Int32), I1, J2) else l_t (wJ J2 79 (12 + x43.toNatClampNeg) (1 : Int64)) (fun (J45 : Jv) => l_t (wJ J45 79 (4 + x43.toNatClampNeg) ((Int32.toInt64 v_) * (Int32.toInt64 c))) (fun (J46 : Jv) => l_t (wJ J46 79 (20 + x43.toNatClampNeg) (Int32.toInt64 s)) (fun (J47 : Jv) => l_t (wJ J47 79 (28 + x43.toNatClampNeg) (Int32.toInt64 c)) (fun (J48 : Jv) => l_t (wJ J48 79 (36 + x43.toNatClampNeg) (Int32.toInt64 low)) (fun (J50 : Jv) => l_t (wJ J50 79 (44 + x43.toNatClampNeg) (Int32.toInt64 high)) (fun (J52 : Jv) => l_t (wJ J52 79 56 ((J52 79 56) + ((Int32.toInt64 v_) * (Int32.toInt64 c)))) (fun (J54 : Jv) => (x43, I1, J54))))))))) h683 (fun x43 => (q_ite h683 (q_lt (fun J45 => (q_lt (fun J46 => (q_lt (fun J47 => (q_lt (fun J48 => (q_lt (fun J50 => (q_lt (fun J52 => (q_lt (fun J54 => h683)))))))))))))))) (mU (8 : Int32) ((0 : Int32)) + 1) (0 : Int32)) h683))))))))))))))))))
theorem fr_fn_X10_take {I0 : Iv} (f : Int32) (I : Iv) (J : Jv) (hb : KI I0 (fn_X10_begin I J).1) : Q3 I0 (fn_X10_take f I J) := by
  unfold fn_X10_take
  exact (q_b2 hb (fun I1 J2 h689 => (q_b3 (fr_fn_X10_isFood f I1 h689 J2) (fun r13 _ _ h690 => (q_ite h689 (q_b3 (fr_fn_X10_warm (0 : Int32) ((4 : Int32) + f) I1 h689 J2) (fun r20 _ _ h691 => (q_lt (fun v22 => (q_lt (fun J23 => (q_lt (fun J25 => (q_lt (fun J27 => h689)))))))))))))))
theorem fr_fn_X10_lay {I0 : Iv} (f : Int32) (s : Int32) (I : Iv) (J : Jv) (hb : KI I0 (fn_X10_begin I J).1) : Q3 I0 (fn_X10_lay f s I J) := by
  unfold fn_X10_lay
  exact (q_b2 hb (fun I1 J2 h692 => (q_b3 (fr_fn_X10_isFood f I1 h692 J2) (fun r13 _ _ h693 => (q_ite h692 (q_b3 (fr_fn_X10_isShelf s I1 h692 J2) (fun r20 _ _ h694 => (q_ite h692 (q_lt (fun v22 => (q_lt (fun J23 => h692))))))))))))
theorem fr_fn_X10_food {I0 : Iv} (f : Int32) (what : Int32) (I : Iv) (J : Jv) (hb : KI I0 (fn_X10_begin I J).1) : Q3 I0 (fn_X10_food f what I J) := by
  unfold fn_X10_food
  exact (q_b2 hb (fun I1 J2 h695 => (q_b3 (fr_fn_X10_isFood f I1 h695 J2) (fun r13 _ _ h696 => (q_ite h695 (q_ite h695 (q_lt (fun sw0 => (q_ite h695 (q_ite (q_b3 (fr_fn_X10_warm (0 : Int32) ((4 : Int32) + f) I1 h695 J2) (fun r20 _ _ h697 => h695)) (q_ite h695 (q_ite h695 (q_ite h695 (q_ite (q_b3 (fr_fn_X10_isWithin (0 : Int32) f I1 h695 J2) (fun r27 _ _ h698 => (q_b3 (fr_fn_X10_one r27 I1 h695 J2) (fun r34 _ _ h699 => h695)))) h695))))))))))))))
theorem fr_fn_X10_run {I0 : Iv} (n : Int32) (I : Iv) (J : Jv) (hb : KI I0 (fn_X10_begin I J).1) : Q3 I0 (fn_X10_run n I J) := by
  unfold fn_X10_run
  exact (q_b2 hb (fun I1 J2 h700 => (q_b3 (fr_fn_X10_in (Int32.toInt64 n) (1 : Int64) (2880 : Int64) I1 h700 J2) (fun r13 _ _ h701 => (q_ite h700 (q_lt (fun v15 => (q_b2 (fr_fn_X10_go (0 : Int32) n I1 h700 J2) (fun _ J16 h702 => h700)))))))))
theorem fr_fn_X10_draw {I0 : Iv} (n : Int32) (I : Iv) (hI : KI I0 I) (J : Jv) : Q3 I0 (fn_X10_draw n I J) := by
  unfold fn_X10_draw
  exact (q_lt (fun J1 => hI))
theorem fr_fl_X10_drawDay_24_1 {I0 : Iv} (m : Int32) (Kf1 : Int32 → Iv → Jv → Iv × Jv) (hKf1 : ∀ (a703 : Int32) (a704 : Iv) (a705 : Jv), KI I0 a704 → Q2 I0 (Kf1 a703 a704 a705)) : ∀ (fu : Nat) (x5 : Int32) (I6 : Iv) (J7 : Jv), KI I0 I6 → Q2 I0 (fl_X10_drawDay_24_1 m Kf1 fu x5 I6 J7) := by
  intro fu
  induction fu with
  | zero =>
    intro x5 I6 J7 hI6
    rw [fl_X10_drawDay_24_1.eq_1]
    exact hI6
  | succ kf1 ih =>
    intro x5 I6 J7 hI6
    rw [fl_X10_drawDay_24_1.eq_2]
    exact (q_ite (hKf1 x5 I6 J7 hI6) (q_b3 (fr_fn_X10_draw (288 : Int32) I6 hI6 J7) (fun r15 _ J10 h706 => (q_ltI (kI_w rfl hI6) (fun I18 h707 => (ih (x5 + (1 : Int32)) I18 J10 h707))))))
theorem fr_fl_X10_drawDay_2_0 {I0 : Iv} (J : Jv) (Kf0 : Int32 → Iv → Iv × Jv) (hKf0 : ∀ (a708 : Int32) (a709 : Iv), KI I0 a709 → Q2 I0 (Kf0 a708 a709)) : ∀ (fu : Nat) (x1 : Int32) (I2 : Iv), KI I0 I2 → Q2 I0 (fl_X10_drawDay_2_0 J Kf0 fu x1 I2) := by
  intro fu
  induction fu with
  | zero =>
    intro x1 I2 hI2
    rw [fl_X10_drawDay_2_0.eq_1]
    exact hI2
  | succ kf0 ih =>
    intro x1 I2 hI2
    rw [fl_X10_drawDay_2_0.eq_2]
    exact (q_ite (hKf0 x1 I2 hI2) (q_ltI (kI_w rfl hI2) (fun I20 h710 => (ih (x1 + (1 : Int32)) I20 h710))))
theorem fr_fn_X10_drawDay {I0 : Iv} (m : Int32) (I : Iv) (hI : KI I0 I) (J : Jv) : Q2 I0 (fn_X10_drawDay m I J) := by
  unfold fn_X10_drawDay
  exact (fr_fl_X10_drawDay_2_0 J (fun (x1 : Int32) (I2 : Iv) => fl_X10_drawDay_24_1 m (fun (x5 : Int32) (I6 : Iv) (J7 : Jv) => (I6, J7)) (mU m ((0 : Int32)) + 1) (0 : Int32) I2 J) (fun x1 I2 h711 => (fr_fl_X10_drawDay_24_1 m (fun (x5 : Int32) (I6 : Iv) (J7 : Jv) => (I6, J7)) (fun x5 I6 J7 h712 => h712) (mU m ((0 : Int32)) + 1) (0 : Int32) I2 J h711)) (mU (288 : Int32) ((0 : Int32)) + 1) (0 : Int32) I hI)
theorem fr_fl_X10_drawn_42_0 {I0 : Iv} (n : Int32) (m : Int32) (Kf0 : Int32 → Iv → Jv → Int32 × Iv × Jv) (hKf0 : ∀ (a713 : Int32) (a714 : Iv) (a715 : Jv), KI I0 a714 → Q3 I0 (Kf0 a713 a714 a715)) : ∀ (fu : Nat) (x23 : Int32) (I24 : Iv) (J25 : Jv), KI I0 I24 → Q3 I0 (fl_X10_drawn_42_0 n m Kf0 fu x23 I24 J25) := by
  intro fu
  induction fu with
  | zero =>
    intro x23 I24 J25 hI24
    rw [fl_X10_drawn_42_0.eq_1]
    exact hI24
  | succ kf0 ih =>
    intro x23 I24 J25 hI24
    rw [fl_X10_drawn_42_0.eq_2]
    exact (q_ite (hKf0 x23 I24 J25 hI24) (q_lt (fun v28 => (q_jn (P := fun (j : Iv → Jv → Int32 × Iv × Jv) => ∀ (a716 : Iv) (a717 : Jv), KI I0 a716 → Q3 I0 (j a716 a717)) (fun I29 J30 h718 => (q_b2 (fr_fn_X10_tick (0 : Int32) (I29 89 v28.toNatClampNeg) (I29 81 8) (0 : Int32) I29 h718 J30) (fun _ J32 h719 => (ih (x23 + (1 : Int32)) I29 J32 h718)))) (fun j81_1 j720 => (q_jn (P := Q3 I0) (q_b2 (fr_fn_X10_drawDay m I24 hI24 J25) (fun I39 J40 h722 => (j720 I39 J40 h722))) (fun j76_2 j721 => (q_ite j721 (q_ite j721 (j720 I24 J25 hI24))))))))))
theorem fr_fn_X10_drawn {I0 : Iv} (n : Int32) (m : Int32) (I : Iv) (J : Jv) (hb : KI I0 (fn_X10_begin I J).1) : Q3 I0 (fn_X10_drawn n m I J) := by
  unfold fn_X10_drawn
  exact (q_b2 hb (fun I1 J2 h723 => (q_b3 (fr_fn_X10_in (Int32.toInt64 n) (1 : Int64) (10 : Int64) I1 h723 J2) (fun r13 _ _ h724 => (q_ite h723 (q_b3 (fr_fn_X10_in (Int32.toInt64 m) (0 : Int64) (20 : Int64) I1 h723 J2) (fun r20 _ _ h725 => (q_ite h723 (q_lt (fun v22 => (fr_fl_X10_drawn_42_0 n m (fun (x23 : Int32) (I24 : Iv) (J25 : Jv) => ((Int64.toInt32 ((J25 79 63) - v22)), I24, J25)) (fun x23 I24 J25 h726 => h726) (mU ((288 : Int32) * n) ((0 : Int32)) + 1) (0 : Int32) I1 J2 h723)))))))))))
theorem fr_fn_X10_warmth {I0 : Iv} (s : Int32) (I : Iv) (J : Jv) (hb : KI I0 (fn_X10_begin I J).1) : Q3 I0 (fn_X10_warmth s I J) := by
  unfold fn_X10_warmth
  exact (q_b2 hb (fun I1 J2 h727 => (q_b3 (fr_fn_X10_in (Int32.toInt64 s) (0 : Int64) (3 : Int64) I1 h727 J2) (fun r13 _ _ h728 => (q_ite h727 (q_b3 (fr_fn_X10_warm (0 : Int32) s I1 h727 J2) (fun r20 _ _ h729 => h727)))))))
theorem fr_fl_X10_heat_41_0 {I0 : Iv} (I1 : Iv) (J2 : Jv) (Kf0 : Int64 → Int32 → Int64 × Iv × Jv) (hI1 : KI I0 I1) (hKf0 : ∀ (a730 : Int64) (a731 : Int32), Q3 I0 (Kf0 a730 a731)) : ∀ (fu : Nat) (x15 : Int64) (x16 : Int32), Q3 I0 (fl_X10_heat_41_0 I1 J2 Kf0 fu x15 x16) := by
  intro fu
  induction fu with
  | zero =>
    intro x15 x16
    rw [fl_X10_heat_41_0.eq_1]
    exact hI1
  | succ kf0 ih =>
    intro x15 x16
    rw [fl_X10_heat_41_0.eq_2]
    exact (q_ite (hKf0 x15 x16) (q_lt (fun v18 => (ih v18 (x16 + (1 : Int32))))))
theorem fr_fn_X10_heat {I0 : Iv} (what : Int32) (I : Iv) (J : Jv) (hb : KI I0 (fn_X10_begin I J).1) : Q3 I0 (fn_X10_heat what I J) := by
  unfold fn_X10_heat
  exact (q_b2 hb (fun I1 J2 h732 => (q_b3 (fr_fn_X10_in (Int32.toInt64 what) (0 : Int64) (5 : Int64) I1 h732 J2) (fun r13 _ _ h733 => (q_ite h732 (q_ite (fr_fl_X10_heat_41_0 I1 J2 (fun (x15 : Int64) (x16 : Int32) => (x15, I1, J2)) h732 (fun x15 x16 => h732) (mU (12 : Int32) ((0 : Int32)) + 1) (0 : Int64) (0 : Int32)) h732))))))
theorem fr_fn_X10_count {I0 : Iv} (what : Int32) (I : Iv) (J : Jv) (hb : KI I0 (fn_X10_begin I J).1) : Q3 I0 (fn_X10_count what I J) := by
  unfold fn_X10_count
  exact (q_b2 hb (fun I1 J2 h734 => (q_ite h734 (q_lt (fun sw0 => (q_ite h734 (q_ite h734 (q_ite h734 (q_ite h734 (q_ite h734 (q_ite h734 (q_ite h734 (q_ite h734 (q_ite h734 (q_ite h734 (q_ite (q_b3 (fr_fn_X10_foods I1 h734 J2) (fun r13 _ _ h735 => h734)) (q_ite h734 h734)))))))))))))))))
theorem fr_fn_X10_thaw {I0 : Iv} (I : Iv) (J : Jv) (hb : KI I0 (fn_X10_begin I J).1) : Q3 I0 (fn_X10_thaw I J) := by
  unfold fn_X10_thaw
  exact (q_b2 hb (fun I1 J2 h736 => (q_b3 (fr_fn_X10_melt (0 : Int32) I1 h736 J2) (fun r13 _ J8 h737 => h736))))
theorem fr_fn_X10_signOf {I0 : Iv} (what : Int32) (I : Iv) (hI : KI I0 I) (J : Jv) : Q3 I0 (fn_X10_signOf what I J) := by
  unfold fn_X10_signOf
  exact (q_jn (P := Q3 I0) (q_b3 (fr_fn_X10_warm (80 : Int32) (what - (2 : Int32)) I hI J) (fun r6 _ _ h739 => hI)) (fun j32_0 j738 => (q_ite (q_ite hI (q_ite hI hI)) (q_lt (fun sw1 => (q_ite j738 (q_ite j738 (q_ite j738 (q_ite hI hI)))))))))
theorem fr_fl_X10_findSigns_51_0 {I0 : Iv} (r20 : Int32) (r27 : Int32) (r34 : Int32) (J36 : Jv) (Kf0 : Int32 → Iv → Iv × Jv) (hKf0 : ∀ (a740 : Int32) (a741 : Iv), KI I0 a741 → Q2 I0 (Kf0 a740 a741)) : ∀ (fu : Nat) (x43 : Int32) (I44 : Iv), KI I0 I44 → Q2 I0 (fl_X10_findSigns_51_0 r20 r27 r34 J36 Kf0 fu x43 I44) := by
  intro fu
  induction fu with
  | zero =>
    intro x43 I44 hI44
    rw [fl_X10_findSigns_51_0.eq_1]
    exact hI44
  | succ kf0 ih =>
    intro x43 I44 hI44
    rw [fl_X10_findSigns_51_0.eq_2]
    exact (q_ite (hKf0 x43 I44 hI44) (q_b3 (fr_fn_X10_signOf x43 I44 hI44 J36) (fun r52 _ _ h742 => (q_ite (q_ltI (kI_w rfl hI44) (fun I60 h743 => (ih (x43 + (1 : Int32)) I60 h743))) (q_ite (q_ltI (kI_w rfl hI44) (fun I58 h744 => (ih (x43 + (1 : Int32)) I58 h744))) (q_ite (q_ltI (kI_w rfl hI44) (fun I56 h745 => (ih (x43 + (1 : Int32)) I56 h745))) (q_ltI (kI_w rfl hI44) (fun I54 h746 => (ih (x43 + (1 : Int32)) I54 h746)))))))))
theorem fr_fn_X10_findSigns {I0 : Iv} (set : Int32) (n : Int32) (I : Iv) (hI : KI I0 I) (J : Jv) : Q2 I0 (fn_X10_findSigns set n I J) := by
  unfold fn_X10_findSigns
  exact (q_b2 (fr_fn_X10_tryFresh set I hI J) (fun _ J1 h747 => (q_b2 (fr_fn_X10_go (80 : Int32) ((288 : Int32) * (n - (1 : Int32))) I hI J1) (fun _ J8 h748 => (q_b3 (fr_fn_X10_signOf (0 : Int32) I hI J8) (fun r20 _ _ h749 => (q_b3 (fr_fn_X10_signOf (1 : Int32) I hI J8) (fun r27 _ _ h750 => (q_b3 (fr_fn_X10_signOf (6 : Int32) I hI J8) (fun r34 _ _ h751 => (q_b2 (fr_fn_X10_go (80 : Int32) (288 : Int32) I hI J8) (fun _ J36 h752 => (fr_fl_X10_findSigns_51_0 r20 r27 r34 J36 (fun (x43 : Int32) (I44 : Iv) => (I44, J36)) (fun x43 I44 h753 => h753) (mU (7 : Int32) ((0 : Int32)) + 1) (0 : Int32) I hI)))))))))))))
theorem fr_fn_X10_sign {I0 : Iv} (set : Int32) (n : Int32) (what : Int32) (I : Iv) (J : Jv) (hb : KI I0 (fn_X10_begin I J).1) : Q3 I0 (fn_X10_sign set n what I J) := by
  unfold fn_X10_sign
  exact (q_b2 hb (fun I1 J2 h754 => (q_b3 (fr_fn_X10_isSet set I1 h754 J2) (fun r13 _ _ h755 => (q_ite h754 (q_b3 (fr_fn_X10_isSign what I1 h754 J2) (fun r20 _ _ h756 => (q_ite h754 (q_b3 (fr_fn_X10_areDays n I1 h754 J2) (fun r27 _ _ h757 => (q_ite h754 (q_b2 (fr_fn_X10_findSigns set n I1 h754 J2) (fun I29 J30 h758 => h758)))))))))))))
theorem fr_fn_X10_seen {I0 : Iv} (what : Int32) (v_ : Int32) (e : Int32) (I : Iv) (hI : KI I0 I) (J : Jv) : Q3 I0 (fn_X10_seen what v_ e I J) := by
  unfold fn_X10_seen
  exact (q_b3 (fr_fn_X10_isSign what I hI J) (fun r6 _ _ h759 => (q_ite hI (q_b3 (fr_fn_X10_in (Int32.toInt64 v_) (-99999 : Int64) (99999 : Int64) I hI J) (fun r13 _ _ h760 => (q_ite hI (q_b3 (fr_fn_X10_in (Int32.toInt64 e) (1 : Int64) (999 : Int64) I hI J) (fun r20 _ _ h761 => (q_ite hI (q_ltI (kI_w rfl hI) (fun I22 h762 => (q_ltI (kI_w rfl h762) (fun I23 h763 => (q_ltI (kI_w rfl h763) (fun I24 h764 => (q_b3 (fr_fn_X10_seens I24 h764 J) (fun r31 _ _ h765 => h764)))))))))))))))))
theorem fr_fl_X10_forget_7_0 {I0 : Iv} (J : Jv) (Kf0 : Int32 → Iv → Int32 × Iv × Jv) (hKf0 : ∀ (a766 : Int32) (a767 : Iv), KI I0 a767 → Q3 I0 (Kf0 a766 a767)) : ∀ (fu : Nat) (x8 : Int32) (I9 : Iv), KI I0 I9 → Q3 I0 (fl_X10_forget_7_0 J Kf0 fu x8 I9) := by
  intro fu
  induction fu with
  | zero =>
    intro x8 I9 hI9
    rw [fl_X10_forget_7_0.eq_1]
    exact hI9
  | succ kf0 ih =>
    intro x8 I9 hI9
    rw [fl_X10_forget_7_0.eq_2]
    exact (q_ite (hKf0 x8 I9 hI9) (q_ltI (kI_w rfl hI9) (fun I12 h768 => (ih (x8 + (1 : Int32)) I12 h768))))
theorem fr_fn_X10_forget {I0 : Iv} (I : Iv) (hI : KI I0 I) (J : Jv) : Q3 I0 (fn_X10_forget I J) := by
  unfold fn_X10_forget
  exact (q_b3 (fr_fn_X10_seens I hI J) (fun r6 _ _ h769 => (fr_fl_X10_forget_7_0 J (fun (x8 : Int32) (I9 : Iv) => (r6, I9, J)) (fun x8 I9 h770 => h770) (mU (7 : Int32) ((0 : Int32)) + 1) (0 : Int32) I hI)))
theorem fr_fn_X10_prior {I0 : Iv} (k : Int32) (p : Int32) (I : Iv) (J : Jv) (hb : KI I0 (fn_X10_begin I J).1) : Q3 I0 (fn_X10_prior k p I J) := by
  unfold fn_X10_prior
  exact (q_b2 hb (fun I1 J2 h771 => (q_b3 (fr_fn_X10_isTrouble k I1 h771 J2) (fun r13 _ _ h772 => (q_ite h771 (q_b3 (fr_fn_X10_in (Int32.toInt64 p) (0 : Int64) (1000 : Int64) I1 h771 J2) (fun r20 _ _ h773 => (q_ite h771 (q_lt (fun v22 => (q_ltI (kI_w rfl h771) (fun I23 h774 => h774))))))))))))
theorem fr_fn_X10_bother {I0 : Iv} (what : Int32) (b : Int32) (I : Iv) (hI : KI I0 I) (J : Jv) : Q3 I0 (fn_X10_bother what b I J) := by
  unfold fn_X10_bother
  exact (q_b3 (fr_fn_X10_isSign what I hI J) (fun r6 _ _ h775 => (q_ite hI (q_b3 (fr_fn_X10_in (Int32.toInt64 b) (0 : Int64) (999 : Int64) I hI J) (fun r13 _ _ h776 => (q_ite hI (q_lt (fun v15 => (q_ltI (kI_w rfl hI) (fun I16 h777 => h777))))))))))
theorem fr_fl_X10_weightOf_127_3 {I0 : Iv} (I : Iv) (J : Jv) (v9 : Int32) (Kf3 : Int64 → Int32 → Int64 × Iv × Jv) (hI : KI I0 I) (hKf3 : ∀ (a778 : Int64) (a779 : Int32), Q3 I0 (Kf3 a778 a779)) : ∀ (fu : Nat) (x10 : Int64) (x11 : Int32), Q3 I0 (fl_X10_weightOf_127_3 I J v9 Kf3 fu x10 x11) := by
  intro fu
  induction fu with
  | zero =>
    intro x10 x11
    rw [fl_X10_weightOf_127_3.eq_1]
    exact hI
  | succ kf3 ih =>
    intro x10 x11
    rw [fl_X10_weightOf_127_3.eq_2]
    exact (q_ite (hKf3 x10 x11) (q_ite (hKf3 x10 x11) (q_lt (fun v13 => (ih v13 (x11 + (1 : Int32)))))))
theorem fr_fl_X10_weightOf_62_1 {I0 : Iv} (I : Iv) (J : Jv) (set : Int32) (Kf1 : Int64 → Int32 → Int64 × Iv × Jv) (hI : KI I0 I) (hKf1 : ∀ (a780 : Int64) (a781 : Int32), Q3 I0 (Kf1 a780 a781)) : ∀ (fu : Nat) (x4 : Int64) (x5 : Int32), Q3 I0 (fl_X10_weightOf_62_1 I J set Kf1 fu x4 x5) := by
  intro fu
  induction fu with
  | zero =>
    intro x4 x5
    rw [fl_X10_weightOf_62_1.eq_1]
    exact hI
  | succ kf1 ih =>
    intro x4 x5
    rw [fl_X10_weightOf_62_1.eq_2]
    exact (q_ite (hKf1 x4 x5) (q_ite (ih x4 (x5 + (1 : Int32))) (q_lt (fun v7 => (q_jn (P := fun (j : Int32 → Int64 × Iv × Jv) => ∀ (a782 : Int32), Q3 I0 (j a782)) (fun w8 => (q_lt (fun v9 => (fr_fl_X10_weightOf_127_3 I J v9 (fun (x10 : Int64) (x11 : Int32) => fl_X10_weightOf_62_1 I J set Kf1 kf1 x10 (x5 + (1 : Int32))) hI (fun x10 x11 => (ih x10 (x5 + (1 : Int32)))) (mU v9 ((0 : Int32)) + 1) x4 (0 : Int32))))) (fun j114_2 j783 => (q_ite (j783 v7) (j783 ((-v7))))))))))
theorem fr_fl_X10_weightOf_7_0 {I0 : Iv} (I : Iv) (J : Jv) (set : Int32) (Kf0 : Int64 → Int32 → Int64 × Iv × Jv) (hI : KI I0 I) (hKf0 : ∀ (a784 : Int64) (a785 : Int32), Q3 I0 (Kf0 a784 a785)) : ∀ (fu : Nat) (x1 : Int64) (x2 : Int32), Q3 I0 (fl_X10_weightOf_7_0 I J set Kf0 fu x1 x2) := by
  intro fu
  induction fu with
  | zero =>
    intro x1 x2
    rw [fl_X10_weightOf_7_0.eq_1]
    exact hI
  | succ kf0 ih =>
    intro x1 x2
    rw [fl_X10_weightOf_7_0.eq_2]
    exact (q_ite (hKf0 x1 x2) (q_b3 (fr_fn_X10_has (Int32.toInt64 set) x2 I hI J) (fun r19 _ _ h786 => (q_jn (P := fun (j : Int32 → Int64 × Iv × Jv) => ∀ (a787 : Int32), Q3 I0 (j a787)) (fun w21 => (q_lt (fun v22 => (ih v22 (x2 + (1 : Int32)))))) (fun j46_4 j788 => (q_ite (j788 (((1000 : Int32) - (I 94 x2.toNatClampNeg)))) (j788 ((I 94 x2.toNatClampNeg)))))))))
theorem fr_fn_X10_weightOf {I0 : Iv} (set : Int32) (I : Iv) (hI : KI I0 I) (J : Jv) : Q3 I0 (fn_X10_weightOf set I J) := by
  unfold fn_X10_weightOf
  exact (fr_fl_X10_weightOf_7_0 I J set (fun (x1 : Int64) (x2 : Int32) => fl_X10_weightOf_62_1 I J set (fun (x4 : Int64) (x5 : Int32) => (x4, I, J)) (mU (7 : Int32) ((0 : Int32)) + 1) x1 (0 : Int32)) hI (fun x1 x2 => (fr_fl_X10_weightOf_62_1 I J set (fun (x4 : Int64) (x5 : Int32) => (x4, I, J)) hI (fun x4 x5 => hI) (mU (7 : Int32) ((0 : Int32)) + 1) x1 (0 : Int32))) (mU (7 : Int32) ((0 : Int32)) + 1) (1000000 : Int64) (0 : Int32))
theorem fr_fl_X10_weigh_36_1 {I0 : Iv} (x3 : Int32) (J18 : Jv) (Kf1 : Int32 → Iv → Iv × Jv) (hKf1 : ∀ (a789 : Int32) (a790 : Iv), KI I0 a790 → Q2 I0 (Kf1 a789 a790)) : ∀ (fu : Nat) (x24 : Int32) (I25 : Iv), KI I0 I25 → Q2 I0 (fl_X10_weigh_36_1 x3 J18 Kf1 fu x24 I25) := by
  intro fu
  induction fu with
  | zero =>
    intro x24 I25 hI25
    rw [fl_X10_weigh_36_1.eq_1]
    exact hI25
  | succ kf1 ih =>
    intro x24 I25 hI25
    rw [fl_X10_weigh_36_1.eq_2]
    exact (q_ite (hKf1 x24 I25 hI25) (q_ltI (kI_w rfl hI25) (fun I39 h791 => (ih (x24 + (1 : Int32)) I39 h791))))
theorem fr_fl_X10_weigh_7_0 {I0 : Iv} (n : Int32) (Kf0 : Int32 → Iv → Jv → Iv × Jv) (hKf0 : ∀ (a792 : Int32) (a793 : Iv) (a794 : Jv), KI I0 a793 → Q2 I0 (Kf0 a792 a793 a794)) : ∀ (fu : Nat) (x3 : Int32) (I4 : Iv) (J5 : Jv), KI I0 I4 → Q2 I0 (fl_X10_weigh_7_0 n Kf0 fu x3 I4 J5) := by
  intro fu
  induction fu with
  | zero =>
    intro x3 I4 J5 hI4
    rw [fl_X10_weigh_7_0.eq_1]
    exact hI4
  | succ kf0 ih =>
    intro x3 I4 J5 hI4
    rw [fl_X10_weigh_7_0.eq_2]
    exact (q_ite (hKf0 x3 I4 J5 hI4) (q_lt (fun J8 => (q_b3 (fr_fn_X10_couldBe x3 I4 hI4 J8) (fun r15 _ _ h795 => (q_ite (ih (x3 + (1 : Int32)) I4 J8 hI4) (q_b2 (fr_fn_X10_findSigns x3 n I4 hI4 J8) (fun I17 J18 h796 => (fr_fl_X10_weigh_36_1 x3 J18 (fun (x24 : Int32) (I25 : Iv) => b_n3 (fn_X10_weightOf x3 I25 J18) (fun (r33 : Int64) (_ : Iv) (_ : Jv) => l_t (wJ J18 96 (x3.toNatClampNeg) r33) (fun (J35 : Jv) => l_t (wJ J35 78 28 ((J35 78 28) + (J35 96 x3.toNatClampNeg))) (fun (J37 : Jv) => fl_X10_weigh_7_0 n Kf0 kf0 (x3 + (1 : Int32)) I25 J37)))) (fun x24 I25 h797 => (q_b3 (fr_fn_X10_weightOf x3 I25 h797 J18) (fun r33 _ _ h798 => (q_lt (fun J35 => (q_lt (fun J37 => (ih (x3 + (1 : Int32)) I25 J37 h797)))))))) (mU (7 : Int32) ((0 : Int32)) + 1) (0 : Int32) I17 h796)))))))))
theorem fr_fn_X10_weigh {I0 : Iv} (n : Int32) (I : Iv) (hI : KI I0 I) (J : Jv) : Q2 I0 (fn_X10_weigh n I J) := by
  unfold fn_X10_weigh
  exact (q_lt (fun J1 => (fr_fl_X10_weigh_7_0 n (fun (x3 : Int32) (I4 : Iv) (J5 : Jv) => (I4, J5)) (fun x3 I4 J5 h799 => h799) (mU (128 : Int32) ((0 : Int32)) + 1) (0 : Int32) I J1 hI)))
theorem fr_fn_X10_oddsOf {I0 : Iv} (set : Int32) (I : Iv) (hI : KI I0 I) (J : Jv) : Q3 I0 (fn_X10_oddsOf set I J) := by
  unfold fn_X10_oddsOf
  exact (q_ite hI hI)
theorem fr_fl_X10_tellsOf_59_2 {I0 : Iv} (I : Iv) (J : Jv) (what : Int32) (w1 : Int32) (x3 : Int32) (Kf2 : Int64 → Int32 → Int32 × Iv × Jv) (hI : KI I0 I) (hKf2 : ∀ (a800 : Int64) (a801 : Int32), Q3 I0 (Kf2 a800 a801)) : ∀ (fu : Nat) (x12 : Int64) (x13 : Int32), Q3 I0 (fl_X10_tellsOf_59_2 I J what w1 x3 Kf2 fu x12 x13) := by
  intro fu
  induction fu with
  | zero =>
    intro x12 x13
    rw [fl_X10_tellsOf_59_2.eq_1]
    exact hI
  | succ kf2 ih =>
    intro x12 x13
    rw [fl_X10_tellsOf_59_2.eq_2]
    exact (q_ite (hKf2 x12 x13) (q_b3 (fr_fn_X10_couldBe x13 I hI J) (fun r21 _ _ h802 => (q_ite (ih x12 (x13 + (1 : Int32))) (q_ite (q_lt (fun v23 => (ih v23 (x13 + (1 : Int32))))) (ih x12 (x13 + (1 : Int32))))))))
theorem fr_fl_X10_tellsOf_37_1 {I0 : Iv} (I : Iv) (J : Jv) (what : Int32) (w1 : Int32) (Kf1 : Int64 → Int32 → Int32 × Iv × Jv) (hI : KI I0 I) (hKf1 : ∀ (a803 : Int64) (a804 : Int32), Q3 I0 (Kf1 a803 a804)) : ∀ (fu : Nat) (x2 : Int64) (x3 : Int32), Q3 I0 (fl_X10_tellsOf_37_1 I J what w1 Kf1 fu x2 x3) := by
  intro fu
  induction fu with
  | zero =>
    intro x2 x3
    rw [fl_X10_tellsOf_37_1.eq_1]
    exact hI
  | succ kf1 ih =>
    intro x2 x3
    rw [fl_X10_tellsOf_37_1.eq_2]
    exact (q_ite (hKf1 x2 x3) (q_b3 (fr_fn_X10_couldBe x3 I hI J) (fun r10 _ _ h805 => (q_ite (ih x2 (x3 + (1 : Int32))) (fr_fl_X10_tellsOf_59_2 I J what w1 x3 (fun (x12 : Int64) (x13 : Int32) => l_t ((x2 + ((J 96 x3.toNatClampNeg) * x12))) (fun (v15 : Int64) => fl_X10_tellsOf_37_1 I J what w1 Kf1 kf1 v15 (x3 + (1 : Int32)))) hI (fun x12 x13 => (q_lt (fun v15 => (ih v15 (x3 + (1 : Int32)))))) (mU (128 : Int32) ((0 : Int32)) + 1) (0 : Int64) (0 : Int32))))))
theorem fr_fn_X10_tellsOf {I0 : Iv} (what : Int32) (I : Iv) (hI : KI I0 I) (J : Jv) : Q3 I0 (fn_X10_tellsOf what I J) := by
  unfold fn_X10_tellsOf
  exact (q_ite hI (q_jn (P := fun (j : Int32 → Int32 × Iv × Jv) => ∀ (a806 : Int32), Q3 I0 (j a806)) (fun w1 => (fr_fl_X10_tellsOf_37_1 I J what w1 (fun (x2 : Int64) (x3 : Int32) => ((Int64.toInt32 ((1000 : Int64) - (((1000 : Int64) * x2) / ((J 78 28) * (J 78 28))))), I, J)) hI (fun x2 x3 => hI) (mU (128 : Int32) ((0 : Int32)) + 1) (0 : Int64) (0 : Int32))) (fun j31_0 j807 => (q_ite (j807 ((50 : Int32))) (j807 ((I 93 what.toNatClampNeg)))))))
theorem fr_fn_X10_odds {I0 : Iv} (set : Int32) (n : Int32) (I : Iv) (J : Jv) (hb : KI I0 (fn_X10_begin I J).1) : Q3 I0 (fn_X10_odds set n I J) := by
  unfold fn_X10_odds
  exact (q_b2 hb (fun I1 J2 h808 => (q_b3 (fr_fn_X10_isSet set I1 h808 J2) (fun r13 _ _ h809 => (q_ite h808 (q_b3 (fr_fn_X10_couldBe set I1 h808 J2) (fun r20 _ _ h810 => (q_ite h808 (q_b3 (fr_fn_X10_areDays n I1 h808 J2) (fun r27 _ _ h811 => (q_ite h808 (q_b2 (fr_fn_X10_weigh n I1 h808 J2) (fun I29 J30 h812 => (q_b3 (fr_fn_X10_oddsOf set I29 h812 J30) (fun r41 _ _ h813 => h812)))))))))))))))
theorem fr_fl_X10_each_35_0 {I0 : Iv} (k : Int32) (I22 : Iv) (J23 : Jv) (Kf0 : Int32 → Int32 → Int32 × Iv × Jv) (hI22 : KI I0 I22) (hKf0 : ∀ (a814 : Int32) (a815 : Int32), Q3 I0 (Kf0 a814 a815)) : ∀ (fu : Nat) (x29 : Int32) (x30 : Int32), Q3 I0 (fl_X10_each_35_0 k I22 J23 Kf0 fu x29 x30) := by
  intro fu
  induction fu with
  | zero =>
    intro x29 x30
    rw [fl_X10_each_35_0.eq_1]
    exact hI22
  | succ kf0 ih =>
    intro x29 x30
    rw [fl_X10_each_35_0.eq_2]
    exact (q_ite (hKf0 x29 x30) (q_b3 (fr_fn_X10_couldBe x30 I22 hI22 J23) (fun r37 _ _ h816 => (q_ite (q_lt (fun v39 => (ih v39 (x30 + (1 : Int32))))) (q_b3 (fr_fn_X10_has (Int32.toInt64 x30) k I22 hI22 J23) (fun r45 _ _ h817 => (q_ite (q_lt (fun v47 => (ih v47 (x30 + (1 : Int32))))) (q_b3 (fr_fn_X10_oddsOf x30 I22 hI22 J23) (fun r53 _ _ h818 => (q_lt (fun v55 => (ih v55 (x30 + (1 : Int32))))))))))))))
theorem fr_fn_X10_each {I0 : Iv} (k : Int32) (n : Int32) (I : Iv) (J : Jv) (hb : KI I0 (fn_X10_begin I J).1) : Q3 I0 (fn_X10_each k n I J) := by
  unfold fn_X10_each
  exact (q_b2 hb (fun I1 J2 h819 => (q_b3 (fr_fn_X10_isTrouble k I1 h819 J2) (fun r13 _ _ h820 => (q_ite h819 (q_b3 (fr_fn_X10_areDays n I1 h819 J2) (fun r20 _ _ h821 => (q_ite h819 (q_b2 (fr_fn_X10_weigh n I1 h819 J2) (fun I22 J23 h822 => (fr_fl_X10_each_35_0 k I22 J23 (fun (x29 : Int32) (x30 : Int32) => (x29, I22, J23)) h822 (fun x29 x30 => h822) (mU (128 : Int32) ((0 : Int32)) + 1) (0 : Int32) (0 : Int32))))))))))))
theorem fr_fn_X10_tells {I0 : Iv} (what : Int32) (n : Int32) (I : Iv) (J : Jv) (hb : KI I0 (fn_X10_begin I J).1) : Q3 I0 (fn_X10_tells what n I J) := by
  unfold fn_X10_tells
  exact (q_b2 hb (fun I1 J2 h823 => (q_b3 (fr_fn_X10_isSign what I1 h823 J2) (fun r13 _ _ h824 => (q_ite h823 (q_b3 (fr_fn_X10_areDays n I1 h823 J2) (fun r20 _ _ h825 => (q_ite h823 (q_b2 (fr_fn_X10_weigh n I1 h823 J2) (fun I22 J23 h826 => (q_b3 (fr_fn_X10_tellsOf what I22 h826 J23) (fun r34 _ _ h827 => h826))))))))))))
theorem fr_fl_X10_next_26_0 {I0 : Iv} (I15 : Iv) (J16 : Jv) (Kf0 : Int32 → Int32 → Int32 → Int32 × Iv × Jv) (hI15 : KI I0 I15) (hKf0 : ∀ (a828 : Int32) (a829 : Int32) (a830 : Int32), Q3 I0 (Kf0 a828 a829 a830)) : ∀ (fu : Nat) (x22 : Int32) (x23 : Int32) (x24 : Int32), Q3 I0 (fl_X10_next_26_0 I15 J16 Kf0 fu x22 x23 x24) := by
  intro fu
  induction fu with
  | zero =>
    intro x22 x23 x24
    rw [fl_X10_next_26_0.eq_1]
    exact hI15
  | succ kf0 ih =>
    intro x22 x23 x24
    rw [fl_X10_next_26_0.eq_2]
    exact (q_ite (hKf0 x22 x23 x24) (q_jn (P := fun (j : Int32 → Int32 × Iv × Jv) => ∀ (a831 : Int32), Q3 I0 (j a831)) (fun w26 => (q_ite (q_jn (P := Q3 I0) (ih x24 w26 (x24 + (1 : Int32))) (fun j83_2 j832 => (q_ite j832 (q_ite (ih x22 x23 (x24 + (1 : Int32))) j832)))) (ih x22 x23 (x24 + (1 : Int32))))) (fun j61_1 j833 => (q_ite (q_b3 (fr_fn_X10_tellsOf x24 I15 hI15 J16) (fun r32 _ _ h834 => (j833 ((r32 - (I15 95 x24.toNatClampNeg)))))) (j833 ((0 : Int32)))))))
theorem fr_fn_X10_next {I0 : Iv} (n : Int32) (I : Iv) (J : Jv) (hb : KI I0 (fn_X10_begin I J).1) : Q3 I0 (fn_X10_next n I J) := by
  unfold fn_X10_next
  exact (q_b2 hb (fun I1 J2 h835 => (q_b3 (fr_fn_X10_areDays n I1 h835 J2) (fun r13 _ _ h836 => (q_ite h835 (q_b2 (fr_fn_X10_weigh n I1 h835 J2) (fun I15 J16 h837 => (fr_fl_X10_next_26_0 I15 J16 (fun (x22 : Int32) (x23 : Int32) (x24 : Int32) => (x22, I15, J16)) h837 (fun x22 x23 x24 => h837) (mU (7 : Int32) ((0 : Int32)) + 1) (-1 : Int32) (0 : Int32) (0 : Int32)))))))))
theorem fr_fl_X10_makes_35_0 {I0 : Iv} (what : Int32) (I1 : Iv) (Kf0 : Int32 → Jv → Int32 × Iv × Jv) (hI1 : KI I0 I1) (hKf0 : ∀ (a838 : Int32) (a839 : Jv), Q3 I0 (Kf0 a838 a839)) : ∀ (fu : Nat) (x29 : Int32) (J30 : Jv), Q3 I0 (fl_X10_makes_35_0 what I1 Kf0 fu x29 J30) := by
  intro fu
  induction fu with
  | zero =>
    intro x29 J30
    rw [fl_X10_makes_35_0.eq_1]
    exact hI1
  | succ kf0 ih =>
    intro x29 J30
    rw [fl_X10_makes_35_0.eq_2]
    exact (q_ite (hKf0 x29 J30) (q_lt (fun v33 => (q_b2 (fr_fn_X10_go (80 : Int32) (288 : Int32) I1 hI1 J30) (fun _ J34 h840 => (q_ite (q_ite (ih (x29 + (1 : Int32)) J34) hI1) (q_ite hI1 (ih (x29 + (1 : Int32)) J34))))))))
theorem fr_fn_X10_makes {I0 : Iv} (set : Int32) (what : Int32) (I : Iv) (J : Jv) (hb : KI I0 (fn_X10_begin I J).1) : Q3 I0 (fn_X10_makes set what I J) := by
  unfold fn_X10_makes
  exact (q_b2 hb (fun I1 J2 h841 => (q_b3 (fr_fn_X10_isSet set I1 h841 J2) (fun r13 _ _ h842 => (q_ite h841 (q_b3 (fr_fn_X10_in (Int32.toInt64 what) (0 : Int64) (1 : Int64) I1 h841 J2) (fun r20 _ _ h843 => (q_ite h841 (q_b2 (fr_fn_X10_tryFresh set I1 h841 J2) (fun _ J22 h844 => (fr_fl_X10_makes_35_0 what I1 (fun (x29 : Int32) (J30 : Jv) => ((-1 : Int32), I1, J30)) h841 (fun x29 J30 => h841) (mUe (30 : Int32) ((1 : Int32)) + 1) (1 : Int32) J22)))))))))))
theorem fr_fn_X10_mending {I0 : Iv} (k : Int32) (c : Int32) (I : Iv) (J : Jv) (hb : KI I0 (fn_X10_begin I J).1) : Q3 I0 (fn_X10_mending k c I J) := by
  unfold fn_X10_mending
  exact (q_b2 hb (fun I1 J2 h845 => (q_b3 (fr_fn_X10_isTrouble k I1 h845 J2) (fun r13 _ _ h846 => (q_ite h845 (q_b3 (fr_fn_X10_in (Int32.toInt64 c) (0 : Int64) (999 : Int64) I1 h845 J2) (fun r20 _ _ h847 => (q_ite h845 (q_lt (fun v22 => (q_ltI (kI_w rfl h845) (fun I23 h848 => h848))))))))))))
theorem fr_fn_X10_price {I0 : Iv} (x : Int32) (I : Iv) (J : Jv) (hb : KI I0 (fn_X10_begin I J).1) : Q3 I0 (fn_X10_price x I J) := by
  unfold fn_X10_price
  exact (q_b2 hb (fun I1 J2 h849 => (q_b3 (fr_fn_X10_in (Int32.toInt64 x) (0 : Int64) (999 : Int64) I1 h849 J2) (fun r13 _ _ h850 => (q_ite h849 (q_lt (fun v15 => (q_ltI (kI_w rfl h849) (fun I16 h851 => h851)))))))))
theorem fr_fn_X10_yearOf {I0 : Iv} (set : Int32) (I : Iv) (hI : KI I0 I) (J : Jv) : Q3 I0 (fn_X10_yearOf set I J) := by
  unfold fn_X10_yearOf
  exact (q_b2 (fr_fn_X10_findSigns set (2 : Int32) I hI J) (fun I1 J2 h852 => h852))
theorem fr_fn_X10_year {I0 : Iv} (set : Int32) (I : Iv) (J : Jv) (hb : KI I0 (fn_X10_begin I J).1) : Q3 I0 (fn_X10_year set I J) := by
  unfold fn_X10_year
  exact (q_b2 hb (fun I1 J2 h853 => (q_b3 (fr_fn_X10_isSet set I1 h853 J2) (fun r13 _ _ h854 => (q_ite h853 (q_b3 (fr_fn_X10_yearOf set I1 h853 J2) (fun r20 I15 J16 h855 => h855)))))))
theorem fr_fn_X10_saves {I0 : Iv} (set : Int32) (part : Int32) (I : Iv) (J : Jv) (hb : KI I0 (fn_X10_begin I J).1) : Q3 I0 (fn_X10_saves set part I J) := by
  unfold fn_X10_saves
  exact (q_b2 hb (fun I1 J2 h856 => (q_b3 (fr_fn_X10_isSet set I1 h856 J2) (fun r13 _ _ h857 => (q_ite h856 (q_b3 (fr_fn_X10_isSet part I1 h856 J2) (fun r20 _ _ h858 => (q_ite h856 (q_ite (q_b3 (fr_fn_X10_yearOf set I1 h856 J2) (fun r27 I22 J23 h859 => (q_b3 (fr_fn_X10_yearOf (set &&& (part ^^^ (-1 : Int32))) I22 h859 J23) (fun r35 I30 J31 h860 => h860)))) h856)))))))))
theorem fr_fl_X10_best_75_1 {I0 : Iv} (x40 : Int32) (I41 : Iv) (J42 : Jv) (Kf1 : Int32 → Int32 → Int32 × Iv × Jv) (hI41 : KI I0 I41) (hKf1 : ∀ (a861 : Int32) (a862 : Int32), Q3 I0 (Kf1 a861 a862)) : ∀ (fu : Nat) (x45 : Int32) (x46 : Int32), Q3 I0 (fl_X10_best_75_1 x40 I41 J42 Kf1 fu x45 x46) := by
  intro fu
  induction fu with
  | zero =>
    intro x45 x46
    rw [fl_X10_best_75_1.eq_1]
    exact hI41
  | succ kf1 ih =>
    intro x45 x46
    rw [fl_X10_best_75_1.eq_2]
    exact (q_ite (hKf1 x45 x46) (q_b3 (fr_fn_X10_has (Int32.toInt64 x40) x46 I41 hI41 J42) (fun r62 _ _ h863 => (q_ite (q_lt (fun v64 => (ih v64 (x46 + (1 : Int32))))) (q_lt (fun v65 => (ih v65 (x46 + (1 : Int32)))))))))
theorem fr_fl_X10_best_61_0 {I0 : Iv} (set : Int32) (c : Int32) (r34 : Int32) (Kf0 : Int32 → Int32 → Int32 → Int32 → Iv → Jv → Int32 × Iv × Jv) (hKf0 : ∀ (a864 : Int32) (a865 : Int32) (a866 : Int32) (a867 : Int32) (a868 : Iv) (a869 : Jv), KI I0 a868 → Q3 I0 (Kf0 a864 a865 a866 a867 a868 a869)) : ∀ (fu : Nat) (x37 : Int32) (x38 : Int32) (x39 : Int32) (x40 : Int32) (I41 : Iv) (J42 : Jv), KI I0 I41 → Q3 I0 (fl_X10_best_61_0 set c r34 Kf0 fu x37 x38 x39 x40 I41 J42) := by
  intro fu
  induction fu with
  | zero =>
    intro x37 x38 x39 x40 I41 J42 hI41
    rw [fl_X10_best_61_0.eq_1]
    exact hI41
  | succ kf0 ih =>
    intro x37 x38 x39 x40 I41 J42 hI41
    rw [fl_X10_best_61_0.eq_2]
    exact (q_ite (hKf0 x37 x38 x39 x40 I41 J42 hI41) (fr_fl_X10_best_75_1 x40 I41 J42 (fun (x45 : Int32) (x46 : Int32) => if (x40 &&& (set ^^^ (-1 : Int32))) = 0 then if c < x45 then fl_X10_best_61_0 set c r34 Kf0 kf0 x37 x38 x39 (x40 + (1 : Int32)) I41 J42 else b_n3 (fn_X10_yearOf (set &&& (x40 ^^^ (-1 : Int32))) I41 J42) (fun (r53 : Int32) (I48 : Iv) (J49 : Jv) => l_t ((r34 - r53)) (fun (v56 : Int32) => j_n (fl_X10_best_61_0 set c r34 Kf0 kf0 x40 v56 x45 (x40 + (1 : Int32)) I48 J49) (fun (j166_2 : Int32 × Iv × Jv) => if x38 < v56 then j166_2 else if v56 = x38 then if x39 ≤ x45 then fl_X10_best_61_0 set c r34 Kf0 kf0 x37 x38 x39 (x40 + (1 : Int32)) I48 J49 else j166_2 else fl_X10_best_61_0 set c r34 Kf0 kf0 x37 x38 x39 (x40 + (1 : Int32)) I48 J49))) else fl_X10_best_61_0 set c r34 Kf0 kf0 x37 x38 x39 (x40 + (1 : Int32)) I41 J42) hI41 (fun x45 x46 => (q_ite (q_ite (ih x37 x38 x39 (x40 + (1 : Int32)) I41 J42 hI41) (q_b3 (fr_fn_X10_yearOf (set &&& (x40 ^^^ (-1 : Int32))) I41 hI41 J42) (fun r53 I48 J49 h870 => (q_lt (fun v56 => (q_jn (P := Q3 I0) (ih x40 v56 x45 (x40 + (1 : Int32)) I48 J49 h870) (fun j166_2 j871 => (q_ite j871 (q_ite (q_ite (ih x37 x38 x39 (x40 + (1 : Int32)) I48 J49 h870) j871) (ih x37 x38 x39 (x40 + (1 : Int32)) I48 J49 h870)))))))))) (ih x37 x38 x39 (x40 + (1 : Int32)) I41 J42 hI41))) (mU (7 : Int32) ((0 : Int32)) + 1) (0 : Int32) (0 : Int32)))
theorem fr_fn_X10_best {I0 : Iv} (set : Int32) (c : Int32) (what : Int32) (I : Iv) (J : Jv) (hb : KI I0 (fn_X10_begin I J).1) : Q3 I0 (fn_X10_best set c what I J) := by
  unfold fn_X10_best
  exact (q_b2 hb (fun I1 J2 h872 => (q_b3 (fr_fn_X10_isSet set I1 h872 J2) (fun r13 _ _ h873 => (q_ite h872 (q_b3 (fr_fn_X10_in (Int32.toInt64 c) (0 : Int64) (9999 : Int64) I1 h872 J2) (fun r20 _ _ h874 => (q_ite h872 (q_b3 (fr_fn_X10_in (Int32.toInt64 what) (0 : Int64) (2 : Int64) I1 h872 J2) (fun r27 _ _ h875 => (q_ite h872 (q_b3 (fr_fn_X10_yearOf set I1 h872 J2) (fun r34 I29 J30 h876 => (fr_fl_X10_best_61_0 set c r34 (fun (x37 : Int32) (x38 : Int32) (x39 : Int32) (x40 : Int32) (I41 : Iv) (J42 : Jv) => if what = 0 then (x37, I41, J42) else if what = (1 : Int32) then (x38, I41, J42) else (x39, I41, J42)) (fun x37 x38 x39 x40 I41 J42 h877 => (q_ite h877 (q_ite h877 h877))) (mU (128 : Int32) ((1 : Int32)) + 1) (0 : Int32) (0 : Int32) (0 : Int32) (1 : Int32) I29 J30 h876))))))))))))))
theorem fr_fl_X10_pays_70_0 {I0 : Iv} (c : Int32) (I29 : Iv) (J30 : Jv) (v37 : Int64) (Kf0 : Int32 → Int32 × Iv × Jv) (hI29 : KI I0 I29) (hKf0 : ∀ (a878 : Int32), Q3 I0 (Kf0 a878)) : ∀ (fu : Nat) (x38 : Int32), Q3 I0 (fl_X10_pays_70_0 c I29 J30 v37 Kf0 fu x38) := by
  intro fu
  induction fu with
  | zero =>
    intro x38
    rw [fl_X10_pays_70_0.eq_1]
    exact hI29
  | succ kf0 ih =>
    intro x38
    rw [fl_X10_pays_70_0.eq_2]
    exact (q_ite (hKf0 x38) (q_ite (ih (x38 + (1 : Int32))) hI29))
theorem fr_fn_X10_pays {I0 : Iv} (set : Int32) (c : Int32) (u : Int32) (I : Iv) (J : Jv) (hb : KI I0 (fn_X10_begin I J).1) : Q3 I0 (fn_X10_pays set c u I J) := by
  unfold fn_X10_pays
  exact (q_b2 hb (fun I1 J2 h879 => (q_b3 (fr_fn_X10_isSet set I1 h879 J2) (fun r13 _ _ h880 => (q_ite h879 (q_b3 (fr_fn_X10_in (Int32.toInt64 c) (0 : Int64) (99999 : Int64) I1 h879 J2) (fun r20 _ _ h881 => (q_ite h879 (q_b3 (fr_fn_X10_in (Int32.toInt64 u) (0 : Int64) (9999 : Int64) I1 h879 J2) (fun r27 _ _ h882 => (q_ite h879 (q_b3 (fr_fn_X10_yearOf set I1 h879 J2) (fun r34 I29 J30 h883 => (q_lt (fun v37 => (fr_fl_X10_pays_70_0 c I29 J30 v37 (fun (x38 : Int32) => ((-1 : Int32), I29, J30)) h883 (fun x38 => h883) (mUe (30 : Int32) ((1 : Int32)) + 1) (1 : Int32)))))))))))))))))
theorem fr_fl_X10_iceOf_11_0 {I0 : Iv} (I : Iv) (n : Int32) (p : Int32) (Kf0 : Int32 → Int32 → Jv → Int64 × Iv × Jv) (hI : KI I0 I) (hKf0 : ∀ (a884 : Int32) (a885 : Int32) (a886 : Jv), Q3 I0 (Kf0 a884 a885 a886)) : ∀ (fu : Nat) (x8 : Int32) (x9 : Int32) (J10 : Jv), Q3 I0 (fl_X10_iceOf_11_0 I n p Kf0 fu x8 x9 J10) := by
  intro fu
  induction fu with
  | zero =>
    intro x8 x9 J10
    rw [fl_X10_iceOf_11_0.eq_1]
    exact hI
  | succ kf0 ih =>
    intro x8 x9 J10
    rw [fl_X10_iceOf_11_0.eq_2]
    exact (q_ite (hKf0 x8 x9 J10) (q_jn (P := fun (j : Int32 → Jv → Int64 × Iv × Jv) => ∀ (a887 : Int32) (a888 : Jv), Q3 I0 (j a887 a888)) (fun y13 J14 => (q_b2 (fr_fn_X10_go (80 : Int32) (288 : Int32) I hI J14) (fun _ J16 h889 => (ih y13 (x9 + (1 : Int32)) J16)))) (fun j46_1 j890 => (q_ite (j890 x8 J10) (q_ite (j890 x8 J10) (q_ite (q_b3 (fr_fn_X10_melt (80 : Int32) I hI J10) (fun r28 _ J23 h891 => (j890 ((x8 + (1 : Int32))) J23))) (j890 x8 J10)))))))
theorem fr_fn_X10_iceOf {I0 : Iv} (set : Int32) (n : Int32) (b : Int32) (p : Int32) (I : Iv) (hI : KI I0 I) (J : Jv) : Q3 I0 (fn_X10_iceOf set n b p I J) := by
  unfold fn_X10_iceOf
  exact (q_b2 (fr_fn_X10_tryFresh set I hI J) (fun _ J1 h892 => (fr_fl_X10_iceOf_11_0 I n p (fun (x8 : Int32) (x9 : Int32) (J10 : Jv) => (((((J10 79 143) * (Int32.toInt64 (I 78 30))) / (1000 : Int64)) + ((Int32.toInt64 b) * (Int32.toInt64 x8))), I, J10)) hI (fun x8 x9 J10 => hI) (mU n ((0 : Int32)) + 1) (0 : Int32) (0 : Int32) J1)))
theorem fr_fl_X10_ice_58_0 {I0 : Iv} (set : Int32) (n : Int32) (b : Int32) (Kf0 : Int32 → Int64 → Int32 → Iv → Jv → Int32 × Iv × Jv) (hKf0 : ∀ (a893 : Int32) (a894 : Int64) (a895 : Int32) (a896 : Iv) (a897 : Jv), KI I0 a896 → Q3 I0 (Kf0 a893 a894 a895 a896 a897)) : ∀ (fu : Nat) (x37 : Int32) (x38 : Int64) (x39 : Int32) (I40 : Iv) (J41 : Jv), KI I0 I40 → Q3 I0 (fl_X10_ice_58_0 set n b Kf0 fu x37 x38 x39 I40 J41) := by
  intro fu
  induction fu with
  | zero =>
    intro x37 x38 x39 I40 J41 hI40
    rw [fl_X10_ice_58_0.eq_1]
    exact hI40
  | succ kf0 ih =>
    intro x37 x38 x39 I40 J41 hI40
    rw [fl_X10_ice_58_0.eq_2]
    exact (q_ite (hKf0 x37 x38 x39 I40 J41 hI40) (q_b3 (fr_fn_X10_iceOf set n b x39 I40 hI40 J41) (fun r49 I44 J45 h898 => (q_jn (P := fun (j : Int32 → Int32 × Iv × Jv) => ∀ (a899 : Int32), Q3 I0 (j a899)) (fun w52 => (q_ite (ih w52 x38 (x39 + (1 : Int32)) I44 J45 h898) (ih w52 r49 (x39 + (1 : Int32)) I44 J45 h898))) (fun j91_1 j900 => (q_ite (j900 x37) (j900 x39)))))))
theorem fr_fn_X10_ice {I0 : Iv} (set : Int32) (n : Int32) (b : Int32) (I : Iv) (J : Jv) (hb : KI I0 (fn_X10_begin I J).1) : Q3 I0 (fn_X10_ice set n b I J) := by
  unfold fn_X10_ice
  exact (q_b2 hb (fun I1 J2 h901 => (q_b3 (fr_fn_X10_isSet set I1 h901 J2) (fun r13 _ _ h902 => (q_ite h901 (q_b3 (fr_fn_X10_in (Int32.toInt64 n) (1 : Int64) (20 : Int64) I1 h901 J2) (fun r20 _ _ h903 => (q_ite h901 (q_b3 (fr_fn_X10_in (Int32.toInt64 b) (0 : Int64) (999 : Int64) I1 h901 J2) (fun r27 _ _ h904 => (q_ite h901 (q_b3 (fr_fn_X10_iceOf set n b (0 : Int32) I1 h901 J2) (fun r34 I29 J30 h905 => (fr_fl_X10_ice_58_0 set n b (fun (x37 : Int32) (x38 : Int64) (x39 : Int32) (I40 : Iv) (J41 : Jv) => (x37, I40, J41)) (fun x37 x38 x39 I40 J41 h906 => h906) (mUe (20 : Int32) ((1 : Int32)) + 1) (0 : Int32) r34 (1 : Int32) I29 J30 h905))))))))))))))
theorem fr_fl_X10_within_34_1 {I0 : Iv} (I : Iv) (x2 : Int32) (J13 : Jv) (Kf1 : Int32 → Int32 → Int32 × Iv × Jv) (hI : KI I0 I) (hKf1 : ∀ (a907 : Int32) (a908 : Int32), Q3 I0 (Kf1 a907 a908)) : ∀ (fu : Nat) (x20 : Int32) (x21 : Int32), Q3 I0 (fl_X10_within_34_1 I x2 J13 Kf1 fu x20 x21) := by
  intro fu
  induction fu with
  | zero =>
    intro x20 x21
    rw [fl_X10_within_34_1.eq_1]
    exact hI
  | succ kf1 ih =>
    intro x20 x21
    rw [fl_X10_within_34_1.eq_2]
    exact (q_ite (hKf1 x20 x21) (q_ite (hKf1 x20 x21) (q_jn (P := fun (j : Int32 → Int32 × Iv × Jv) => ∀ (a909 : Int32), Q3 I0 (j a909)) (fun w23 => (q_b3 (fr_fn_X10_one w23 I hI J13) (fun r29 _ _ h910 => (q_lt (fun v31 => (ih v31 (x21 + (1 : Int32)))))))) (fun j80_2 j911 => (q_jn (P := Q3 I0) (j911 ((0 : Int32))) (fun j79_3 j912 => (q_ite (q_b3 (fr_fn_X10_isWithin (80 : Int32) x21 I hI J13) (fun r37 _ _ h913 => (q_ite j912 (j911 ((1 : Int32)))))) j912)))))))
theorem fr_fl_X10_within_4_0 {I0 : Iv} (I : Iv) (shelf : Int32) (Kf0 : Int32 → Int32 → Jv → Int32 × Iv × Jv) (hI : KI I0 I) (hKf0 : ∀ (a914 : Int32) (a915 : Int32) (a916 : Jv), Q3 I0 (Kf0 a914 a915 a916)) : ∀ (fu : Nat) (x1 : Int32) (x2 : Int32) (J3 : Jv), Q3 I0 (fl_X10_within_4_0 I shelf Kf0 fu x1 x2 J3) := by
  intro fu
  induction fu with
  | zero =>
    intro x1 x2 J3
    rw [fl_X10_within_4_0.eq_1]
    exact hI
  | succ kf0 ih =>
    intro x1 x2 J3
    rw [fl_X10_within_4_0.eq_2]
    exact (q_ite (hKf0 x1 x2 J3) (q_b3 (fr_fn_X10_isOpen (J3 79 134) I hI J3) (fun r11 _ _ h917 => (q_b2 (fr_fn_X10_tick (80 : Int32) r11 shelf (0 : Int32) I hI J3) (fun _ J13 h918 => (fr_fl_X10_within_34_1 I x2 J13 (fun (x20 : Int32) (x21 : Int32) => fl_X10_within_4_0 I shelf Kf0 kf0 x20 (x2 + (1 : Int32)) J13) hI (fun x20 x21 => (ih x20 (x2 + (1 : Int32)) J13)) (mU (8 : Int32) ((0 : Int32)) + 1) x1 (0 : Int32)))))))
theorem fr_fn_X10_within {I0 : Iv} (shelf : Int32) (I : Iv) (hI : KI I0 I) (J : Jv) : Q3 I0 (fn_X10_within shelf I J) := by
  unfold fn_X10_within
  exact (fr_fl_X10_within_4_0 I shelf (fun (x1 : Int32) (x2 : Int32) (J3 : Jv) => (x1, I, J3)) hI (fun x1 x2 J3 => hI) (mU (576 : Int32) ((0 : Int32)) + 1) (0 : Int32) (0 : Int32) J)
theorem fr_fl_X10_powerOf3_4_0 {I0 : Iv} (I : Iv) (J : Jv) (n : Int32) (Kf0 : Int32 → Int32 → Int32 × Iv × Jv) (hI : KI I0 I) (hKf0 : ∀ (a919 : Int32) (a920 : Int32), Q3 I0 (Kf0 a919 a920)) : ∀ (fu : Nat) (x1 : Int32) (x2 : Int32), Q3 I0 (fl_X10_powerOf3_4_0 I J n Kf0 fu x1 x2) := by
  intro fu
  induction fu with
  | zero =>
    intro x1 x2
    rw [fl_X10_powerOf3_4_0.eq_1]
    exact hI
  | succ kf0 ih =>
    intro x1 x2
    rw [fl_X10_powerOf3_4_0.eq_2]
    exact (q_ite (hKf0 x1 x2) (q_lt (fun v4 => (ih v4 (x2 + (1 : Int32))))))
theorem fr_fn_X10_powerOf3 {I0 : Iv} (n : Int32) (I : Iv) (hI : KI I0 I) (J : Jv) : Q3 I0 (fn_X10_powerOf3 n I J) := by
  unfold fn_X10_powerOf3
  exact (fr_fl_X10_powerOf3_4_0 I J n (fun (x1 : Int32) (x2 : Int32) => (x1, I, J)) hI (fun x1 x2 => hI) (mU n ((0 : Int32)) + 1) (1 : Int32) (0 : Int32))
theorem fr_fn_X10_rowAt {I0 : Iv} (row : Int32) (many : Int32) (i : Int32) (I : Iv) (hI : KI I0 I) (J : Jv) : Q3 I0 (fn_X10_rowAt row many i I J) := by
  unfold fn_X10_rowAt
  exact (q_b3 (fr_fn_X10_powerOf3 ((many - (1 : Int32)) - i) I hI J) (fun r6 _ _ h921 => hI))
theorem fr_fl_X10_placeOf_4_0 {I0 : Iv} (I : Iv) (J : Jv) (f : Int32) (Kf0 : Int32 → Int32 → Int32 × Iv × Jv) (hI : KI I0 I) (hKf0 : ∀ (a922 : Int32) (a923 : Int32), Q3 I0 (Kf0 a922 a923)) : ∀ (fu : Nat) (x1 : Int32) (x2 : Int32), Q3 I0 (fl_X10_placeOf_4_0 I J f Kf0 fu x1 x2) := by
  intro fu
  induction fu with
  | zero =>
    intro x1 x2
    rw [fl_X10_placeOf_4_0.eq_1]
    exact hI
  | succ kf0 ih =>
    intro x1 x2
    rw [fl_X10_placeOf_4_0.eq_2]
    exact (q_ite (hKf0 x1 x2) (q_lt (fun v4 => (ih v4 (x2 + (1 : Int32))))))
theorem fr_fn_X10_placeOf {I0 : Iv} (f : Int32) (I : Iv) (hI : KI I0 I) (J : Jv) : Q3 I0 (fn_X10_placeOf f I J) := by
  unfold fn_X10_placeOf
  exact (fr_fl_X10_placeOf_4_0 I J f (fun (x1 : Int32) (x2 : Int32) => (x1, I, J)) hI (fun x1 x2 => hI) (mU f ((0 : Int32)) + 1) (0 : Int32) (0 : Int32))
theorem fr_fl_X10_lying_63_2 {I0 : Iv} (r13 : Int32) (x17 : Int32) (I18 : Iv) (Kf2 : Int32 → Jv → Int32 × Iv × Jv) (hI18 : KI I0 I18) (hKf2 : ∀ (a924 : Int32) (a925 : Jv), Q3 I0 (Kf2 a924 a925)) : ∀ (fu : Nat) (x49 : Int32) (J50 : Jv), Q3 I0 (fl_X10_lying_63_2 r13 x17 I18 Kf2 fu x49 J50) := by
  intro fu
  induction fu with
  | zero =>
    intro x49 J50
    rw [fl_X10_lying_63_2.eq_1]
    exact hI18
  | succ kf2 ih =>
    intro x49 J50
    rw [fl_X10_lying_63_2.eq_2]
    exact (q_ite (hKf2 x49 J50) (q_ite (q_b3 (fr_fn_X10_placeOf x49 I18 hI18 J50) (fun r67 _ _ h926 => (q_b3 (fr_fn_X10_rowAt x17 r13 r67 I18 hI18 J50) (fun r74 _ _ h927 => (q_lt (fun J76 => (ih (x49 + (1 : Int32)) J76))))))) (ih (x49 + (1 : Int32)) J50)))
theorem fr_fl_X10_lying_44_1 {I0 : Iv} (r13 : Int32) (Kf1 : Int32 → Int32 → Int32 → Iv → Jv → Int32 × Iv × Jv) (hKf1 : ∀ (a928 : Int32) (a929 : Int32) (a930 : Int32) (a931 : Iv) (a932 : Jv), KI I0 a931 → Q3 I0 (Kf1 a928 a929 a930 a931 a932)) : ∀ (fu : Nat) (x15 : Int32) (x16 : Int32) (x17 : Int32) (I18 : Iv) (J19 : Jv), KI I0 I18 → Q3 I0 (fl_X10_lying_44_1 r13 Kf1 fu x15 x16 x17 I18 J19) := by
  intro fu
  induction fu with
  | zero =>
    intro x15 x16 x17 I18 J19 hI18
    rw [fl_X10_lying_44_1.eq_1]
    exact hI18
  | succ kf1 ih =>
    intro x15 x16 x17 I18 J19 hI18
    rw [fl_X10_lying_44_1.eq_2]
    exact (q_b3 (fr_fn_X10_powerOf3 r13 I18 hI18 J19) (fun r26 _ _ h933 => (q_ite (hKf1 x15 x16 x17 I18 J19 hI18) (q_b2 (fr_fn_X10_copy (0 : Int32) (80 : Int32) I18 hI18 J19) (fun _ J42 h934 => (fr_fl_X10_lying_63_2 r13 x17 I18 (fun (x49 : Int32) (J50 : Jv) => b_n3 (fn_X10_within (I18 81 8) I18 J50) (fun (r58 : Int32) (I53 : Iv) (J54 : Jv) => j_n (fun (w61 : Int32) => if r58 ≤ x16 then fl_X10_lying_44_1 r13 Kf1 kf1 w61 x16 (x17 + (1 : Int32)) I53 J54 else fl_X10_lying_44_1 r13 Kf1 kf1 w61 r58 (x17 + (1 : Int32)) I53 J54) (fun (j140_3 : Int32 → Int32 × Iv × Jv) => if r58 ≤ x16 then j140_3 x15 else j140_3 x17))) hI18 (fun x49 J50 => (q_b3 (fr_fn_X10_within (I18 81 8) I18 hI18 J50) (fun r58 I53 J54 h935 => (q_jn (P := fun (j : Int32 → Int32 × Iv × Jv) => ∀ (a936 : Int32), Q3 I0 (j a936)) (fun w61 => (q_ite (ih w61 x16 (x17 + (1 : Int32)) I53 J54 h935) (ih w61 r58 (x17 + (1 : Int32)) I53 J54 h935))) (fun j140_3 j937 => (q_ite (j937 x15) (j937 x17))))))) (mU (8 : Int32) ((0 : Int32)) + 1) (0 : Int32) J42))))))
theorem fr_fn_X10_lying {I0 : Iv} (f : Int32) (I : Iv) (J : Jv) (hb : KI I0 (fn_X10_begin I J).1) : Q3 I0 (fn_X10_lying f I J) := by
  unfold fn_X10_lying
  exact (q_b2 hb (fun I1 J2 h938 => (q_jn (P := Q3 I0) (q_b3 (fr_fn_X10_foods I1 h938 J2) (fun r13 _ _ h940 => (q_ite (fr_fl_X10_lying_44_1 r13 (fun (x15 : Int32) (x16 : Int32) (x17 : Int32) (I18 : Iv) (J19 : Jv) => if f = (-1 : Int32) then (x16, I18, J19) else b_n3 (fn_X10_placeOf f I18 J19) (fun (r33 : Int32) (_ : Iv) (_ : Jv) => b_n3 (fn_X10_rowAt x15 r13 r33 I18 J19) (fun (r40 : Int32) (_ : Iv) (_ : Jv) => (r40, I18, J19)))) (fun x15 x16 x17 I18 J19 h941 => (q_ite h941 (q_b3 (fr_fn_X10_placeOf f I18 h941 J19) (fun r33 _ _ h942 => (q_b3 (fr_fn_X10_rowAt x15 r13 r33 I18 h941 J19) (fun r40 _ _ h943 => h941)))))) (mU 6561 ((0 : Int32)) + 1) (-1 : Int32) (-1 : Int32) (0 : Int32) I1 J2 h938) h938))) (fun j21_0 j939 => (q_ite j939 (q_b3 (fr_fn_X10_isFood f I1 h938 J2) (fun r83 _ _ h944 => (q_ite h938 j939))))))))
theorem fr_fl_X10_bulb_24_0 {I0 : Iv} (Kf0 : Int32 → Int32 → Int32 → Iv → Jv → Int32 × Iv × Jv) (hKf0 : ∀ (a945 : Int32) (a946 : Int32) (a947 : Int32) (a948 : Iv) (a949 : Jv), KI I0 a948 → Q3 I0 (Kf0 a945 a946 a947 a948 a949)) : ∀ (fu : Nat) (x15 : Int32) (x16 : Int32) (x17 : Int32) (I18 : Iv) (J19 : Jv), KI I0 I18 → Q3 I0 (fl_X10_bulb_24_0 Kf0 fu x15 x16 x17 I18 J19) := by
  intro fu
  induction fu with
  | zero =>
    intro x15 x16 x17 I18 J19 hI18
    rw [fl_X10_bulb_24_0.eq_1]
    exact hI18
  | succ kf0 ih =>
    intro x15 x16 x17 I18 J19 hI18
    rw [fl_X10_bulb_24_0.eq_2]
    exact (q_ite (hKf0 x15 x16 x17 I18 J19 hI18) (q_b2 (fr_fn_X10_copy (0 : Int32) (80 : Int32) I18 hI18 J19) (fun _ J22 h950 => (q_b3 (fr_fn_X10_within x17 I18 hI18 J22) (fun r34 I29 J30 h951 => (q_jn (P := fun (j : Int32 → Int32 × Iv × Jv) => ∀ (a952 : Int32), Q3 I0 (j a952)) (fun w37 => (q_ite (ih w37 x16 (x17 + (1 : Int32)) I29 J30 h951) (ih w37 r34 (x17 + (1 : Int32)) I29 J30 h951))) (fun j57_1 j953 => (q_ite (j953 x15) (j953 x17)))))))))
theorem fr_fn_X10_bulb {I0 : Iv} (what : Int32) (I : Iv) (J : Jv) (hb : KI I0 (fn_X10_begin I J).1) : Q3 I0 (fn_X10_bulb what I J) := by
  unfold fn_X10_bulb
  exact (q_b2 hb (fun I1 J2 h954 => (q_b3 (fr_fn_X10_in (Int32.toInt64 what) (0 : Int64) (1 : Int64) I1 h954 J2) (fun r13 _ _ h955 => (q_ite h954 (fr_fl_X10_bulb_24_0 (fun (x15 : Int32) (x16 : Int32) (x17 : Int32) (I18 : Iv) (J19 : Jv) => if what = 0 then (x15, I18, J19) else (x16, I18, J19)) (fun x15 x16 x17 I18 J19 h956 => (q_ite h956 h956)) (mU (3 : Int32) ((0 : Int32)) + 1) (-1 : Int32) (-1 : Int32) (0 : Int32) I1 J2 h954))))))
theorem fr_fl_X10_without_34_0 {I0 : Iv} (f : Int32) (I1 : Iv) (Kf0 : Int32 → Jv → Int32 × Iv × Jv) (hI1 : KI I0 I1) (hKf0 : ∀ (a957 : Int32) (a958 : Jv), Q3 I0 (Kf0 a957 a958)) : ∀ (fu : Nat) (x24 : Int32) (J25 : Jv), Q3 I0 (fl_X10_without_34_0 f I1 Kf0 fu x24 J25) := by
  intro fu
  induction fu with
  | zero =>
    intro x24 J25
    rw [fl_X10_without_34_0.eq_1]
    exact hI1
  | succ kf0 ih =>
    intro x24 J25
    rw [fl_X10_without_34_0.eq_2]
    exact (q_ite (hKf0 x24 J25) (q_b2 (fr_fn_X10_go (80 : Int32) (1 : Int32) I1 hI1 J25) (fun _ J28 h959 => (q_b3 (fr_fn_X10_isWithin (80 : Int32) f I1 hI1 J28) (fun r40 _ _ h960 => (q_ite hI1 (ih (x24 + (1 : Int32)) J28)))))))
theorem fr_fn_X10_without {I0 : Iv} (f : Int32) (I : Iv) (J : Jv) (hb : KI I0 (fn_X10_begin I J).1) : Q3 I0 (fn_X10_without f I J) := by
  unfold fn_X10_without
  exact (q_b2 hb (fun I1 J2 h961 => (q_b3 (fr_fn_X10_isFood f I1 h961 J2) (fun r13 _ _ h962 => (q_ite h961 (q_b2 (fr_fn_X10_copy (0 : Int32) (80 : Int32) I1 h961 J2) (fun _ J15 h963 => (q_lt (fun J22 => (fr_fl_X10_without_34_0 f I1 (fun (x24 : Int32) (J25 : Jv) => ((-1 : Int32), I1, J25)) h961 (fun x24 J25 => h961) (mUe (864 : Int32) ((0 : Int32)) + 1) (0 : Int32) J22))))))))))
theorem fr_fn_X10_cheap {I0 : Iv} (a : Int32) (b : Int32) (v_ : Int32) (I : Iv) (J : Jv) (hb : KI I0 (fn_X10_begin I J).1) : Q3 I0 (fn_X10_cheap a b v_ I J) := by
  unfold fn_X10_cheap
  exact (q_b2 hb (fun I1 J2 h964 => (q_jn (P := Q3 I0) (q_ltI (kI_w rfl h964) (fun I8 h966 => (q_ltI (kI_w rfl h966) (fun I10 h967 => (q_ltI (kI_w rfl h967) (fun I12 h968 => h968)))))) (fun j51_0 j965 => (q_ite j965 (q_b3 (fr_fn_X10_in (Int32.toInt64 a) (0 : Int64) (24 : Int64) I1 h964 J2) (fun r19 _ _ h969 => (q_ite h964 (q_b3 (fr_fn_X10_in (Int32.toInt64 b) (Int32.toInt64 (a + (1 : Int32))) (24 : Int64) I1 h964 J2) (fun r26 _ _ h970 => (q_ite h964 (q_b3 (fr_fn_X10_in (Int32.toInt64 v_) (0 : Int64) (999 : Int64) I1 h964 J2) (fun r33 _ _ h971 => (q_ite h964 j965))))))))))))))
theorem fr_fl_X10_paid_117_3 {I0 : Iv} (I : Iv) (J30 : Jv) (Kf3 : Int32 → Int64 × Iv × Jv) (hI : KI I0 I) (hKf3 : ∀ (a972 : Int32), Q3 I0 (Kf3 a972)) : ∀ (fu : Nat) (x39 : Int32), Q3 I0 (fl_X10_paid_117_3 I J30 Kf3 fu x39) := by
  intro fu
  induction fu with
  | zero =>
    intro x39
    rw [fl_X10_paid_117_3.eq_1]
    exact hI
  | succ kf3 ih =>
    intro x39
    rw [fl_X10_paid_117_3.eq_2]
    exact (q_ite (hKf3 x39) (q_ite (q_b3 (fr_fn_X10_isWithin (80 : Int32) x39 I hI J30) (fun r46 _ _ h973 => (q_ite hI (ih (x39 + (1 : Int32)))))) (ih (x39 + (1 : Int32)))))
theorem fr_fl_X10_paid_12_0 {I0 : Iv} (I : Iv) (ticks : Int32) (d : Int32) (Kf0 : Int64 → Int32 → Jv → Int64 × Iv × Jv) (hI : KI I0 I) (hKf0 : ∀ (a974 : Int64) (a975 : Int32) (a976 : Jv), Q3 I0 (Kf0 a974 a975 a976)) : ∀ (fu : Nat) (x8 : Int64) (x9 : Int32) (J10 : Jv), Q3 I0 (fl_X10_paid_12_0 I ticks d Kf0 fu x8 x9 J10) := by
  intro fu
  induction fu with
  | zero =>
    intro x8 x9 J10
    rw [fl_X10_paid_12_0.eq_1]
    exact hI
  | succ kf0 ih =>
    intro x8 x9 J10
    rw [fl_X10_paid_12_0.eq_2]
    exact (q_ite (hKf0 x8 x9 J10) (q_lt (fun v13 => (q_b3 (fr_fn_X10_isHour v13 (I 78 31) (I 78 32) I hI J10) (fun r19 _ _ h977 => (q_lt (fun v21 => (q_b3 (fr_fn_X10_isOpen v13 I hI J10) (fun r27 _ _ h978 => (q_jn (P := fun (j : Int32 → Int64 × Iv × Jv) => ∀ (a979 : Int32), Q3 I0 (j a979)) (fun w29 => (q_b2 (fr_fn_X10_tick (80 : Int32) r27 (I 81 8) w29 I hI J10) (fun _ J30 h980 => (q_jn (P := fun (j : Int32 → Int64 × Iv × Jv) => ∀ (a981 : Int32), Q3 I0 (j a981)) (fun w37 => (q_lt (fun v38 => (fr_fl_X10_paid_117_3 I J30 (fun (x39 : Int32) => fl_X10_paid_12_0 I ticks d Kf0 kf0 v38 (x9 + (1 : Int32)) J30) hI (fun x39 => (ih v38 (x9 + (1 : Int32)) J30)) (mU (8 : Int32) ((0 : Int32)) + 1) (0 : Int32))))) (fun j110_2 j982 => (q_ite (j982 ((I 78 30))) (j982 ((I 78 33))))))))) (fun j79_1 j983 => (q_ite (j983 ((0 : Int32))) (j983 d)))))))))))))
theorem fr_fn_X10_paid {I0 : Iv} (ticks : Int32) (d : Int32) (I : Iv) (hI : KI I0 I) (J : Jv) : Q3 I0 (fn_X10_paid ticks d I J) := by
  unfold fn_X10_paid
  exact (q_b2 (fr_fn_X10_copy (0 : Int32) (80 : Int32) I hI J) (fun _ J1 h984 => (fr_fl_X10_paid_12_0 I ticks d (fun (x8 : Int64) (x9 : Int32) (J10 : Jv) => ((x8 / (1000 : Int64)), I, J10)) hI (fun x8 x9 J10 => hI) (mU ticks ((0 : Int32)) + 1) (0 : Int64) (0 : Int32) J1)))
theorem fr_fl_X10_store_34_0 {I0 : Iv} (n : Int32) (Kf0 : Int32 → Int64 → Int32 → Iv → Jv → Int32 × Iv × Jv) (hKf0 : ∀ (a985 : Int32) (a986 : Int64) (a987 : Int32) (a988 : Iv) (a989 : Jv), KI I0 a988 → Q3 I0 (Kf0 a985 a986 a987 a988 a989)) : ∀ (fu : Nat) (x22 : Int32) (x23 : Int64) (x24 : Int32) (I25 : Iv) (J26 : Jv), KI I0 I25 → Q3 I0 (fl_X10_store_34_0 n Kf0 fu x22 x23 x24 I25 J26) := by
  intro fu
  induction fu with
  | zero =>
    intro x22 x23 x24 I25 J26 hI25
    rw [fl_X10_store_34_0.eq_1]
    exact hI25
  | succ kf0 ih =>
    intro x22 x23 x24 I25 J26 hI25
    rw [fl_X10_store_34_0.eq_2]
    exact (q_ite (hKf0 x22 x23 x24 I25 J26 hI25) (q_b3 (fr_fn_X10_paid ((288 : Int32) * n) x24 I25 hI25 J26) (fun r33 I28 J29 h990 => (q_ite (ih x22 x23 (x24 + (5 : Int32)) I28 J29 h990) (q_jn (P := Q3 I0) (ih x24 r33 (x24 + (5 : Int32)) I28 J29 h990) (fun j73_1 j991 => (q_ite j991 (q_ite (ih x22 x23 (x24 + (5 : Int32)) I28 J29 h990) j991))))))))
theorem fr_fn_X10_store {I0 : Iv} (n : Int32) (what : Int32) (I : Iv) (J : Jv) (hb : KI I0 (fn_X10_begin I J).1) : Q3 I0 (fn_X10_store n what I J) := by
  unfold fn_X10_store
  exact (q_b2 hb (fun I1 J2 h992 => (q_b3 (fr_fn_X10_areDays n I1 h992 J2) (fun r13 _ _ h993 => (q_ite h992 (q_b3 (fr_fn_X10_in (Int32.toInt64 what) (0 : Int64) (1 : Int64) I1 h992 J2) (fun r20 _ _ h994 => (q_ite h992 (fr_fl_X10_store_34_0 n (fun (x22 : Int32) (x23 : Int64) (x24 : Int32) (I25 : Iv) (J26 : Jv) => if what = 0 then (x22, I25, J26) else ((Int64.toInt32 x23), I25, J26)) (fun x22 x23 x24 I25 J26 h995 => (q_ite h995 h995)) (mUe 40 ((0 : Int32)) + 1) (-1 : Int32) (-1 : Int64) (0 : Int32) I1 J2 h992)))))))))
theorem fr_fn_X10_seed {I0 : Iv} (v_ : Int32) (I : Iv) (J : Jv) (hb : KI I0 (fn_X10_begin I J).1) : Q3 I0 (fn_X10_seed v_ I J) := by
  unfold fn_X10_seed
  exact (q_b2 hb (fun I1 J2 h996 => (q_ite (q_lt (fun v8 => (q_lt (fun J9 => h996)))) h996)))
theorem fr_fn_X10_keep {I0 : Iv} (i : Int32) (I : Iv) (J : Jv) (hb : KI I0 (fn_X10_begin I J).1) : Q3 I0 (fn_X10_keep i I J) := by
  unfold fn_X10_keep
  exact (q_b2 hb (fun I1 J2 h997 => (q_b3 (fr_fn_X10_in (Int32.toInt64 i) (0 : Int64) (1 : Int64) I1 h997 J2) (fun r13 _ _ h998 => (q_ite h997 (q_b2 (fr_fn_X10_copy (0 : Int32) ((160 : Int32) + ((80 : Int32) * i)) I1 h997 J2) (fun _ J15 h999 => (q_ltI (kI_w rfl h997) (fun I22 h1000 => h1000)))))))))
theorem fr_fn_X10_goBack {I0 : Iv} (i : Int32) (I : Iv) (J : Jv) (hb : KI I0 (fn_X10_begin I J).1) : Q3 I0 (fn_X10_goBack i I J) := by
  unfold fn_X10_goBack
  exact (q_b2 hb (fun I1 J2 h1001 => (q_b3 (fr_fn_X10_in (Int32.toInt64 i) (0 : Int64) (1 : Int64) I1 h1001 J2) (fun r13 _ _ h1002 => (q_ite h1001 (q_ite h1001 (q_b2 (fr_fn_X10_copy ((160 : Int32) + ((80 : Int32) * i)) (0 : Int32) I1 h1001 J2) (fun _ J15 h1003 => h1001))))))))
theorem fr_fl_X10_box_15_0 {I0 : Iv} (J2 : Jv) (Kf0 : Int32 → Iv → Int32 × Iv × Jv) (hKf0 : ∀ (a1004 : Int32) (a1005 : Iv), KI I0 a1005 → Q3 I0 (Kf0 a1004 a1005)) : ∀ (fu : Nat) (x17 : Int32) (I18 : Iv), KI I0 I18 → Q3 I0 (fl_X10_box_15_0 J2 Kf0 fu x17 I18) := by
  intro fu
  induction fu with
  | zero =>
    intro x17 I18 hI18
    rw [fl_X10_box_15_0.eq_1]
    exact hI18
  | succ kf0 ih =>
    intro x17 I18 hI18
    rw [fl_X10_box_15_0.eq_2]
    exact (q_ite (hKf0 x17 I18 hI18) (q_b3 (fr_fn_X10_untold x17 I18 hI18 J2) (fun r70 _ _ h1006 => (q_ltI (kI_w rfl hI18) (fun I72 h1007 => (ih (x17 + (1 : Int32)) I72 h1007))))))
theorem fr_fl_X9_forget_10_0 {I0 : Iv} (J : Jv) (Kf0 : Int32 → Iv → Int32 × Iv × Jv) (hKf0 : ∀ (a1008 : Int32) (a1009 : Iv), KI I0 a1009 → Q3 I0 (Kf0 a1008 a1009)) : ∀ (fu : Nat) (x8 : Int32) (I9 : Iv), KI I0 I9 → Q3 I0 (fl_X9_forget_10_0 J Kf0 fu x8 I9) := by
  intro fu
  induction fu with
  | zero =>
    intro x8 I9 hI9
    rw [fl_X9_forget_10_0.eq_1]
    exact hI9
  | succ kf0 ih =>
    intro x8 I9 hI9
    rw [fl_X9_forget_10_0.eq_2]
    exact (q_ite (hKf0 x8 I9 hI9) (q_ltI (kI_w rfl hI9) (fun I12 h1010 => (ih (x8 + (1 : Int32)) I12 h1010))))
theorem fr_fn_X9_forget {I0 : Iv} (I : Iv) (hI : KI I0 I) (J : Jv) : Q3 I0 (fn_X9_forget I J) := by
  unfold fn_X9_forget
  exact (q_b3 (fr_fn_X2_howManySeen I hI J) (fun r6 _ _ h1011 => (fr_fl_X9_forget_10_0 J (fun (x8 : Int32) (I9 : Iv) => (r6, I9, J)) (fun x8 I9 h1012 => h1012) (mU (7 : Int32) ((0 : Int32)) + 1) (0 : Int32) I hI)))
