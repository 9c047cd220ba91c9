/-! ===== what stays: the guess, all of the reference ===== -/
def S4 (b _k : Nat) : Bool := b == 58 || b == 59 || b == 60 || b == 61 || b == 62 || Nat.ble 78 b
def KI4 (I0 I : Iv) : Prop := ∀ b k, S4 b k = true → I b k = I0 b k
theorem kI4_rfl {I : Iv} : KI4 I I := fun _ _ _ => rfl
theorem KI4.row {I0 I : Iv} (h : KI4 I0 I) (b : Nat) (hb : ∀ k, S4 b k = true) : I b = I0 b := by funext k; exact h b k (hb k)
def Qd3 {α : Type} (I0 : Iv) (x : α × Iv × Jv) : Prop := KI4 I0 x.2.1
def Qd2 (I0 : Iv) (x : Iv × Jv) : Prop := KI4 I0 x.1
theorem kI4_w {I0 I : Iv} {a k : Nat} {v : Int32} (h : S4 a k = false) (q : KI4 I0 I) : KI4 I0 (wI I a k v) := by
  intro b j hb
  rw [wI_ne (by
    by_cases e : b = a
    · by_cases e2 : j = k
      · rw [e, e2, h] at hb; exact absurd hb (by decide)
      · exact Or.inr e2
    · exact Or.inl e)]
  exact q b j hb
theorem kI4_c {I0 I : Iv} {a n : Nat} {f : Nat → Int32} (h : ∀ k, S4 a k = false) (q : KI4 I0 I) : KI4 I0 (cI I a n f) := by
  intro b j hb
  rw [cI_row (by rintro rfl; rw [h j] at hb; exact absurd hb (by decide))]
  exact q b j hb
theorem q4x_ite {c : Prop} [Decidable c] {α : Type} {Q : α → Prop} {a b : α} (h1 : Q a) (h2 : Q b) : Q (if c then a else b) := by
  by_cases q : c
  · rw [if_pos q]; exact h1
  · rw [if_neg q]; exact h2
theorem q4x_ltI {α : Type} {Q : α → Prop} {I0 x : Iv} {k : Iv → α} (hx : KI4 I0 x) (hk : ∀ I, KI4 I0 I → Q (k I)) : Q (l_t x k) := hk x hx
theorem q4x_lt {α β : Type} {Q : α → Prop} {x : β} {k : β → α} (hk : ∀ y, Q (k y)) : Q (l_t x k) := hk x
theorem q4x_b3 {α β : Type} {Q : β → Prop} {I0 : Iv} {x : α × Iv × Jv} {k : α → Iv → Jv → β} (hx : Qd3 I0 x) (hk : ∀ r I J, KI4 I0 I → Q (k r I J)) : Q (b_n3 x k) := hk _ _ _ hx
theorem q4x_b2 {β : Type} {Q : β → Prop} {I0 : Iv} {x : Iv × Jv} {k : Iv → Jv → β} (hx : Qd2 I0 x) (hk : ∀ I J, KI4 I0 I → Q (k I J)) : Q (b_n2 x k) := hk _ _ hx
theorem q4x_jn {α β : Type} {Q : β → Prop} {P : α → Prop} {x : α} {k : α → β} (hx : P x) (hk : ∀ j, P j → Q (k j)) : Q (j_n x k) := hk x hx
theorem s4t0 {o k : Nat} (h : StA o) : S4 (o) k = false := by
  rcases h with rfl | rfl | rfl | rfl | rfl <;> rfl
theorem s4t1 {o k : Nat} (h : StA o) : S4 (o + 1) k = false := by
  rcases h with rfl | rfl | rfl | rfl | rfl <;> rfl
theorem s4t2 {o k : Nat} (h : StA o) : S4 (o + 2) k = false := by
  rcases h with rfl | rfl | rfl | rfl | rfl <;> rfl
theorem s4t3 {o k : Nat} (h : StA o) : S4 (o + 3) k = false := by
  rcases h with rfl | rfl | rfl | rfl | rfl <;> rfl
theorem s4t4 {o k : Nat} (h : StA o) : S4 (o + 4) k = false := by
  rcases h with rfl | rfl | rfl | rfl | rfl <;> rfl
theorem s4t5 {o k : Nat} (h : StA o) : S4 (o + 5) k = false := by
  rcases h with rfl | rfl | rfl | rfl | rfl <;> rfl
theorem s4t6 {o k : Nat} (h : StA o) : S4 (o + 6) k = false := by
  rcases h with rfl | rfl | rfl | rfl | rfl <;> rfl
theorem s4t7 {o k : Nat} (h : StA o) : S4 (o + 7) k = false := by
  rcases h with rfl | rfl | rfl | rfl | rfl <;> rfl
theorem s4t8 {o k : Nat} (h : StA o) : S4 (o + 8) k = false := by
  rcases h with rfl | rfl | rfl | rfl | rfl <;> rfl

theorem fr4_fn_X6_has {I0 : Iv} (o : Nat) (ho : StA o) (t : Int32) (I : Iv) (hI : KI4 I0 I) (J : Jv) : Qd3 I0 (fn_X6_has o t I J) := by
  unfold fn_X6_has
  exact (q4x_ite hI hI)
theorem fr4_fn_X6_warmthOf {I0 : Iv} (o : Nat) (ho : StA o) (cell : Int32) (I : Iv) (hI : KI4 I0 I) (J : Jv) : Qd3 I0 (fn_X6_warmthOf o cell I J) := by
  unfold fn_X6_warmthOf
  exact (q4x_ite hI (q4x_ite hI (q4x_ite hI hI)))
theorem fr4_fn_X6_tickOfDay {I0 : Iv} (o : Nat) (ho : StA o) (I : Iv) (hI : KI4 I0 I) (J : Jv) : Qd3 I0 (fn_X6_tickOfDay o I J) := by
  unfold fn_X6_tickOfDay
  exact hI
theorem fr4_fl_X6_allHeat_26_1 {I0 : Iv} (I : Iv) (J : Jv) (o : Nat) (Kf1 : Int64 → Int32 → Int64 × Iv × Jv) (hI : KI4 I0 I) (hKf1 : ∀ (a1 : Int64) (a2 : Int32), Qd3 I0 (Kf1 a1 a2)) (ho : StA o) : ∀ (fu : Nat) (x4 : Int64) (x5 : Int32), Qd3 I0 (fl_X6_allHeat_26_1 I J o Kf1 fu x4 x5) := by
  intro fu
  induction fu with
  | zero =>
    intro x4 x5
    rw [fl_X6_allHeat_26_1.eq_1]
    exact hI
  | succ kf1 ih =>
    intro x4 x5
    rw [fl_X6_allHeat_26_1.eq_2]
    exact (q4x_ite (hKf1 x4 x5) (q4x_ite (ih x4 (x5 + (1 : Int32))) (q4x_lt (fun v7 => (ih v7 (x5 + (1 : Int32)))))))
theorem fr4_fl_X6_allHeat_4_0 {I0 : Iv} (I : Iv) (J : Jv) (o : Nat) (Kf0 : Int64 → Int32 → Int64 × Iv × Jv) (hI : KI4 I0 I) (hKf0 : ∀ (a3 : Int64) (a4 : Int32), Qd3 I0 (Kf0 a3 a4)) (ho : StA o) : ∀ (fu : Nat) (x1 : Int64) (x2 : Int32), Qd3 I0 (fl_X6_allHeat_4_0 I J o Kf0 fu x1 x2) := by
  intro fu
  induction fu with
  | zero =>
    intro x1 x2
    rw [fl_X6_allHeat_4_0.eq_1]
    exact hI
  | succ kf0 ih =>
    intro x1 x2
    rw [fl_X6_allHeat_4_0.eq_2]
    exact (q4x_ite (hKf0 x1 x2) (q4x_lt (fun v8 => (ih v8 (x2 + (1 : Int32))))))
theorem fr4_fn_X6_allHeat {I0 : Iv} (o : Nat) (ho : StA o) (I : Iv) (hI : KI4 I0 I) (J : Jv) : Qd3 I0 (fn_X6_allHeat o I J) := by
  unfold fn_X6_allHeat
  exact (fr4_fl_X6_allHeat_4_0 I J o (fun (x1 : Int64) (x2 : Int32) => fl_X6_allHeat_26_1 I J o (fun (x4 : Int64) (x5 : Int32) => (x4, I, J)) (mU (8 : Int32) ((0 : Int32)) + 1) x1 (0 : Int32)) hI (fun x1 x2 => (fr4_fl_X6_allHeat_26_1 I J o (fun (x4 : Int64) (x5 : Int32) => (x4, I, J)) hI (fun x4 x5 => hI) ho (mU (8 : Int32) ((0 : Int32)) + 1) x1 (0 : Int32))) ho (mU (4 : Int32) ((0 : Int32)) + 1) (0 : Int64) (0 : Int32))
theorem fr4_fn_X6_hasFood {I0 : Iv} (o : Nat) (ho : StA o) (f : Int32) (I : Iv) (hI : KI4 I0 I) (J : Jv) : Qd3 I0 (fn_X6_hasFood o f I J) := by
  unfold fn_X6_hasFood
  exact (q4x_ite hI (q4x_ite hI (q4x_ite hI hI)))
theorem fr4_fl_X6_firstNotThere_2_0 {I0 : Iv} (I : Iv) (J : Jv) (o : Nat) (Kf0 : Int32 → Int32 × Iv × Jv) (hI : KI4 I0 I) (hKf0 : ∀ (a5 : Int32), Qd3 I0 (Kf0 a5)) (ho : StA o) : ∀ (fu : Nat) (x1 : Int32), Qd3 I0 (fl_X6_firstNotThere_2_0 I J o Kf0 fu x1) := by
  intro fu
  induction fu with
  | zero =>
    intro x1
    rw [fl_X6_firstNotThere_2_0.eq_1]
    exact hI
  | succ kf0 ih =>
    intro x1
    rw [fl_X6_firstNotThere_2_0.eq_2]
    exact (q4x_ite (hKf0 x1) (q4x_ite hI (ih (x1 + (1 : Int32)))))
theorem fr4_fn_X6_firstNotThere {I0 : Iv} (o : Nat) (ho : StA o) (I : Iv) (hI : KI4 I0 I) (J : Jv) : Qd3 I0 (fn_X6_firstNotThere o I J) := by
  unfold fn_X6_firstNotThere
  exact (fr4_fl_X6_firstNotThere_2_0 I J o (fun (x1 : Int32) => ((-1 : Int32), I, J)) hI (fun x1 => hI) ho (mU (8 : Int32) ((0 : Int32)) + 1) (0 : Int32))
theorem fr4_fl_X6_foodsThere_4_0 {I0 : Iv} (I : Iv) (J : Jv) (o : Nat) (Kf0 : Int32 → Int32 → Int32 × Iv × Jv) (hI : KI4 I0 I) (hKf0 : ∀ (a6 : Int32) (a7 : Int32), Qd3 I0 (Kf0 a6 a7)) (ho : StA o) : ∀ (fu : Nat) (x1 : Int32) (x2 : Int32), Qd3 I0 (fl_X6_foodsThere_4_0 I J o Kf0 fu x1 x2) := by
  intro fu
  induction fu with
  | zero =>
    intro x1 x2
    rw [fl_X6_foodsThere_4_0.eq_1]
    exact hI
  | succ kf0 ih =>
    intro x1 x2
    rw [fl_X6_foodsThere_4_0.eq_2]
    exact (q4x_ite (hKf0 x1 x2) (q4x_ite (ih x1 (x2 + (1 : Int32))) (ih (x1 + (1 : Int32)) (x2 + (1 : Int32)))))
theorem fr4_fn_X6_foodsThere {I0 : Iv} (o : Nat) (ho : StA o) (I : Iv) (hI : KI4 I0 I) (J : Jv) : Qd3 I0 (fn_X6_foodsThere o I J) := by
  unfold fn_X6_foodsThere
  exact (fr4_fl_X6_foodsThere_4_0 I J o (fun (x1 : Int32) (x2 : Int32) => (x1, I, J)) hI (fun x1 x2 => hI) ho (mU (8 : Int32) ((0 : Int32)) + 1) (0 : Int32) (0 : Int32))
theorem fr4_fn_X6_addFood {I0 : Iv} (o : Nat) (ho : StA o) (f : Int32) (shelf : Int32) (warm : Int32) (cap : Int32) (I : Iv) (hI : KI4 I0 I) (J : Jv) : Qd2 I0 (fn_X6_addFood o f shelf warm cap I J) := by
  unfold fn_X6_addFood
  exact (q4x_ite hI (q4x_ite (q4x_ltI (kI4_w (s4t3 ho) hI) (fun I1 h8 => (q4x_ltI (kI4_w (s4t4 ho) h8) (fun I3 h9 => (q4x_ltI (kI4_w (s4t2 ho) h9) (fun I5 h10 => (q4x_lt (fun J7 => (q4x_lt (fun J9 => h10)))))))))) hI))
theorem fr4_fn_X6_removeFood {I0 : Iv} (o : Nat) (ho : StA o) (f : Int32) (I : Iv) (hI : KI4 I0 I) (J : Jv) : Qd2 I0 (fn_X6_removeFood o f I J) := by
  unfold fn_X6_removeFood
  exact (q4x_ite hI (q4x_ite (q4x_ltI (kI4_w (s4t3 ho) hI) (fun I1 h11 => (q4x_lt (fun J3 => (q4x_lt (fun J5 => h11)))))) hI))
theorem fr4_fn_X6_isWithin {I0 : Iv} (o : Nat) (ho : StA o) (f : Int32) (I : Iv) (hI : KI4 I0 I) (J : Jv) : Qd3 I0 (fn_X6_isWithin o f I J) := by
  unfold fn_X6_isWithin
  exact (q4x_b3 (fr4_fn_X6_warmthOf o ho ((4 : Int32) + f) I hI J) (fun r6 _ _ h12 => (q4x_ite hI (q4x_ite hI (q4x_ite hI (q4x_ite hI hI))))))
theorem fr4_fl_X6_foodsWithin_4_0 {I0 : Iv} (I : Iv) (J : Jv) (o : Nat) (Kf0 : Int32 → Int32 → Int32 × Iv × Jv) (hI : KI4 I0 I) (hKf0 : ∀ (a13 : Int32) (a14 : Int32), Qd3 I0 (Kf0 a13 a14)) (ho : StA o) : ∀ (fu : Nat) (x1 : Int32) (x2 : Int32), Qd3 I0 (fl_X6_foodsWithin_4_0 I J o Kf0 fu x1 x2) := by
  intro fu
  induction fu with
  | zero =>
    intro x1 x2
    rw [fl_X6_foodsWithin_4_0.eq_1]
    exact hI
  | succ kf0 ih =>
    intro x1 x2
    rw [fl_X6_foodsWithin_4_0.eq_2]
    exact (q4x_ite (hKf0 x1 x2) (q4x_ite (ih x1 (x2 + (1 : Int32))) (q4x_b3 (fr4_fn_X6_isWithin o ho x2 I hI J) (fun r9 _ _ h15 => (q4x_ite (ih x1 (x2 + (1 : Int32))) (ih (x1 + (1 : Int32)) (x2 + (1 : Int32))))))))
theorem fr4_fn_X6_foodsWithin {I0 : Iv} (o : Nat) (ho : StA o) (I : Iv) (hI : KI4 I0 I) (J : Jv) : Qd3 I0 (fn_X6_foodsWithin o I J) := by
  unfold fn_X6_foodsWithin
  exact (fr4_fl_X6_foodsWithin_4_0 I J o (fun (x1 : Int32) (x2 : Int32) => (x1, I, J)) hI (fun x1 x2 => hI) ho (mU (8 : Int32) ((0 : Int32)) + 1) (0 : Int32) (0 : Int32))
theorem fr4_fl_X6_letOffIce_27_0 {I0 : Iv} (o : Nat) (I4 : Iv) (Kf0 : Int32 → Jv → Int32 × Iv × Jv) (hI4 : KI4 I0 I4) (hKf0 : ∀ (a16 : Int32) (a17 : Jv), Qd3 I0 (Kf0 a16 a17)) (ho : StA o) : ∀ (fu : Nat) (x6 : Int32) (J7 : Jv), Qd3 I0 (fl_X6_letOffIce_27_0 o I4 Kf0 fu x6 J7) := by
  intro fu
  induction fu with
  | zero =>
    intro x6 J7
    rw [fl_X6_letOffIce_27_0.eq_1]
    exact hI4
  | succ kf0 ih =>
    intro x6 J7
    rw [fl_X6_letOffIce_27_0.eq_2]
    exact (q4x_ite (hKf0 x6 J7) (q4x_lt (fun v10 => (q4x_b3 (fr4_fn_X6_warmthOf o ho x6 I4 hI4 J7) (fun r16 _ _ h18 => (q4x_ite (ih (x6 + (1 : Int32)) J7) (q4x_lt (fun J18 => (q4x_lt (fun J20 => (ih (x6 + (1 : Int32)) J20)))))))))))
theorem fr4_fn_X6_letOffIce {I0 : Iv} (o : Nat) (ho : StA o) (I : Iv) (hI : KI4 I0 I) (J : Jv) : Qd3 I0 (fn_X6_letOffIce o I J) := by
  unfold fn_X6_letOffIce
  exact (q4x_lt (fun v1 => (q4x_ltI (kI4_w (s4t8 ho) hI) (fun I2 h19 => (q4x_ltI (kI4_w (s4t8 ho) h19) (fun I4 h20 => (fr4_fl_X6_letOffIce_27_0 o I4 (fun (x6 : Int32) (J7 : Jv) => (v1, I4, J7)) h20 (fun x6 J7 => h20) ho (mUe (3 : Int32) ((0 : Int32)) + 1) (0 : Int32) J)))))))
theorem fr4_fn_X6_draw {I0 : Iv} (o : Nat) (ho : StA o) (n : Int32) (I : Iv) (hI : KI4 I0 I) (J : Jv) : Qd3 I0 (fn_X6_draw o n I J) := by
  unfold fn_X6_draw
  exact (q4x_ltI (kI4_w (s4t0 ho) hI) (fun I1 h21 => (q4x_ite h21 h21)))
theorem fr4_fl_X6_becomeFresh_49_1 {I0 : Iv} (o : Nat) (Kf1 : Int32 → Iv → Jv → Iv × Jv) (hKf1 : ∀ (a22 : Int32) (a23 : Iv) (a24 : Jv), KI4 I0 a23 → Qd2 I0 (Kf1 a22 a23 a24)) (ho : StA o) : ∀ (fu : Nat) (x10 : Int32) (I11 : Iv) (J12 : Jv), KI4 I0 I11 → Qd2 I0 (fl_X6_becomeFresh_49_1 o Kf1 fu x10 I11 J12) := by
  intro fu
  induction fu with
  | zero =>
    intro x10 I11 J12 hI11
    rw [fl_X6_becomeFresh_49_1.eq_1]
    exact hI11
  | succ kf1 ih =>
    intro x10 I11 J12 hI11
    rw [fl_X6_becomeFresh_49_1.eq_2]
    exact (q4x_ite (hKf1 x10 I11 J12 hI11) (q4x_ltI (kI4_w (s4t3 ho) hI11) (fun I46 h25 => (q4x_lt (fun J48 => (ih (x10 + (1 : Int32)) I46 J48 h25))))))
theorem fr4_fl_X6_becomeFresh_2_0 {I0 : Iv} (o : Nat) (Kf0 : Int32 → Iv → Jv → Iv × Jv) (hKf0 : ∀ (a26 : Int32) (a27 : Iv) (a28 : Jv), KI4 I0 a27 → Qd2 I0 (Kf0 a26 a27 a28)) (ho : StA o) : ∀ (fu : Nat) (x1 : Int32) (I2 : Iv) (J3 : Jv), KI4 I0 I2 → Qd2 I0 (fl_X6_becomeFresh_2_0 o Kf0 fu x1 I2 J3) := by
  intro fu
  induction fu with
  | zero =>
    intro x1 I2 J3 hI2
    rw [fl_X6_becomeFresh_2_0.eq_1]
    exact hI2
  | succ kf0 ih =>
    intro x1 I2 J3 hI2
    rw [fl_X6_becomeFresh_2_0.eq_2]
    exact (q4x_ite (hKf0 x1 I2 J3 hI2) (q4x_ltI (kI4_w (s4t2 ho) hI2) (fun I50 h29 => (q4x_lt (fun J52 => (ih (x1 + (1 : Int32)) I50 J52 h29))))))
theorem fr4_fn_X6_becomeFresh {I0 : Iv} (o : Nat) (ho : StA o) (I : Iv) (hI : KI4 I0 I) (J : Jv) : Qd2 I0 (fn_X6_becomeFresh o I J) := by
  unfold fn_X6_becomeFresh
  exact (fr4_fl_X6_becomeFresh_2_0 o (fun (x1 : Int32) (I2 : Iv) (J3 : Jv) => l_t (wI I2 (o + 2) 3 (40 : Int32)) (fun (I6 : Iv) => l_t (wJ J3 (o + 1) 3 (-40000 : Int64)) (fun (J8 : Jv) => fl_X6_becomeFresh_49_1 o (fun (x10 : Int32) (I11 : Iv) (J12 : Jv) => l_t (cJ J12 (o + 7) 6 (fun _ => (0 : Int64))) (fun (J16 : Jv) => l_t I11 (fun (I15 : Iv) => l_t (cI I15 (o + 8) 8 (fun _ => (0 : Int32))) (fun (I22 : Iv) => l_t J16 (fun (J23 : Jv) => b_n3 (fn_X6_has o (2 : Int32) I22 J23) (fun (r34 : Int32) (_ : Iv) (_ : Jv) => j_n (fun (I36 : Iv) => l_t (wI I36 o 9 (500 : Int32)) (fun (I38 : Iv) => l_t (wI I38 o 10 (0 : Int32)) (fun (I40 : Iv) => l_t (wI I40 o 11 (0 : Int32)) (fun (I42 : Iv) => (I42, J23))))) (fun (j110_2 : Iv → Iv × Jv) => if r34 = 0 then j110_2 I22 else l_t (wI I22 (o + 8) 5 (600 : Int32)) (fun (I44 : Iv) => j110_2 I44)))))))) (mU (8 : Int32) ((0 : Int32)) + 1) (0 : Int32) I6 J8))) (fun x1 I2 J3 h30 => (q4x_ltI (kI4_w (s4t2 ho) h30) (fun I6 h31 => (q4x_lt (fun J8 => (fr4_fl_X6_becomeFresh_49_1 o (fun (x10 : Int32) (I11 : Iv) (J12 : Jv) => l_t (cJ J12 (o + 7) 6 (fun _ => (0 : Int64))) (fun (J16 : Jv) => l_t I11 (fun (I15 : Iv) => l_t (cI I15 (o + 8) 8 (fun _ => (0 : Int32))) (fun (I22 : Iv) => l_t J16 (fun (J23 : Jv) => b_n3 (fn_X6_has o (2 : Int32) I22 J23) (fun (r34 : Int32) (_ : Iv) (_ : Jv) => j_n (fun (I36 : Iv) => l_t (wI I36 o 9 (500 : Int32)) (fun (I38 : Iv) => l_t (wI I38 o 10 (0 : Int32)) (fun (I40 : Iv) => l_t (wI I40 o 11 (0 : Int32)) (fun (I42 : Iv) => (I42, J23))))) (fun (j110_2 : Iv → Iv × Jv) => if r34 = 0 then j110_2 I22 else l_t (wI I22 (o + 8) 5 (600 : Int32)) (fun (I44 : Iv) => j110_2 I44)))))))) (fun x10 I11 J12 h32 => (q4x_lt (fun J16 => (q4x_ltI h32 (fun I15 h33 => (q4x_ltI (kI4_c (fun _ => (s4t8 ho)) h33) (fun I22 h34 => (q4x_lt (fun J23 => (q4x_b3 (fr4_fn_X6_has o ho (2 : Int32) I22 h34 J23) (fun r34 _ _ h35 => (q4x_jn (P := fun (j : Iv → Iv × Jv) => ∀ (a36 : Iv), KI4 I0 a36 → Qd2 I0 (j a36)) (fun I36 h37 => (q4x_ltI (kI4_w (s4t0 ho) h37) (fun I38 h38 => (q4x_ltI (kI4_w (s4t0 ho) h38) (fun I40 h39 => (q4x_ltI (kI4_w (s4t0 ho) h39) (fun I42 h40 => h40))))))) (fun j110_2 j41 => (q4x_ite (j41 I22 h34) (q4x_ltI (kI4_w (s4t8 ho) h34) (fun I44 h42 => (j41 I44 h42))))))))))))))))) ho (mU (8 : Int32) ((0 : Int32)) + 1) (0 : Int32) I6 J8 h31)))))) ho (mU (3 : Int32) ((0 : Int32)) + 1) (0 : Int32) I J hI)
theorem fr4_fn_X6_copyFrom {I0 : Iv} (o : Nat) (ho : StA o) (p : Nat) (I : Iv) (hI : KI4 I0 I) (J : Jv) : Qd2 I0 (fn_X6_copyFrom o p I J) := by
  unfold fn_X6_copyFrom
  exact (q4x_lt (fun J1 => (q4x_ltI (kI4_c (fun _ => (s4t2 ho)) hI) (fun I3 h43 => (q4x_ltI (kI4_c (fun _ => (s4t3 ho)) h43) (fun I5 h44 => (q4x_ltI (kI4_c (fun _ => (s4t4 ho)) h44) (fun I7 h45 => (q4x_ltI (kI4_c (fun _ => (s4t5 ho)) h45) (fun I9 h46 => (q4x_ltI (kI4_c (fun _ => (s4t6 ho)) h46) (fun I11 h47 => (q4x_lt (fun J13 => (q4x_ltI (kI4_c (fun _ => (s4t8 ho)) h47) (fun I15 h48 => (q4x_ltI (kI4_w (s4t0 ho) h48) (fun I17 h49 => (q4x_ltI (kI4_w (s4t0 ho) h49) (fun I19 h50 => (q4x_ltI (kI4_w (s4t0 ho) h50) (fun I21 h51 => (q4x_ltI (kI4_w (s4t0 ho) h51) (fun I23 h52 => (q4x_ltI (kI4_w (s4t0 ho) h52) (fun I25 h53 => (q4x_ltI (kI4_w (s4t0 ho) h53) (fun I27 h54 => h54))))))))))))))))))))))))))))
theorem fr4_fn_X3_isOpenIn {I0 : Iv} (t : Int32) (I : Iv) (hI : KI4 I0 I) (J : Jv) : Qd3 I0 (fn_X3_isOpenIn t I J) := by
  unfold fn_X3_isOpenIn
  exact (q4x_ite hI (q4x_ite hI (q4x_ite hI hI)))
theorem fr4_fn_X0_sealOf {I0 : Iv} (o : Nat) (ho : StA o) (I : Iv) (hI : KI4 I0 I) (J : Jv) : Qd3 I0 (fn_X0_sealOf o I J) := by
  unfold fn_X0_sealOf
  exact (q4x_b3 (fr4_fn_X6_has o ho (1 : Int32) I hI J) (fun r6 _ _ h55 => (q4x_ite hI hI)))
theorem fr4_fn_X0_powerOf {I0 : Iv} (o : Nat) (ho : StA o) (I : Iv) (hI : KI4 I0 I) (J : Jv) : Qd3 I0 (fn_X0_powerOf o I J) := by
  unfold fn_X0_powerOf
  exact (q4x_lt (fun v1 => (q4x_b3 (fr4_fn_X6_has o ho (4 : Int32) I hI J) (fun r7 _ _ h56 => (q4x_jn (P := fun (j : Int32 → Int32 × Iv × Jv) => ∀ (a57 : Int32), Qd3 I0 (j a57)) (fun y9 => (q4x_b3 (fr4_fn_X6_has o ho (8 : Int32) I hI J) (fun r15 _ _ h58 => (q4x_ite hI (q4x_lt (fun v17 => hI)))))) (fun j25_0 j59 => (q4x_ite (j59 v1) (q4x_lt (fun v18 => (j59 v18))))))))))
theorem fr4_fn_X0_roomOf {I0 : Iv} (o : Nat) (ho : StA o) (I : Iv) (hI : KI4 I0 I) (J : Jv) : Qd3 I0 (fn_X0_roomOf o I J) := by
  unfold fn_X0_roomOf
  exact (q4x_lt (fun v1 => (q4x_b3 (fr4_fn_X6_tickOfDay o ho I hI J) (fun r7 _ _ h60 => (q4x_lt (fun v9 => (q4x_jn (P := fun (j : Int32 → Int32 × Iv × Jv) => ∀ (a61 : Int32), Qd3 I0 (j a61)) (fun w10 => (q4x_jn (P := fun (j : Int32 → Int32 × Iv × Jv) => ∀ (a62 : Int32), Qd3 I0 (j a62)) (fun y11 => (q4x_b3 (fr4_fn_X6_has o ho (64 : Int32) I hI J) (fun r17 _ _ h63 => (q4x_ite hI hI)))) (fun j77_1 j64 => (q4x_ite (j64 v1) (q4x_lt (fun v19 => (j64 v19))))))) (fun j57_0 j65 => (q4x_jn (P := Qd3 I0) (j65 ((0 : Int32))) (fun j56_2 j66 => (q4x_ite j66 (q4x_ite j66 (q4x_ite j66 (j65 ((1 : Int32))))))))))))))))
theorem fr4_fl_X7_lookAtWarmths_2_0 {I0 : Iv} (J : Jv) (o : Nat) (Kf0 : Int32 → Iv → Iv × Jv) (hKf0 : ∀ (a67 : Int32) (a68 : Iv), KI4 I0 a68 → Qd2 I0 (Kf0 a67 a68)) (ho : StA o) : ∀ (fu : Nat) (x1 : Int32) (I2 : Iv), KI4 I0 I2 → Qd2 I0 (fl_X7_lookAtWarmths_2_0 J o Kf0 fu x1 I2) := by
  intro fu
  induction fu with
  | zero =>
    intro x1 I2 hI2
    rw [fl_X7_lookAtWarmths_2_0.eq_1]
    exact hI2
  | succ kf0 ih =>
    intro x1 I2 hI2
    rw [fl_X7_lookAtWarmths_2_0.eq_2]
    exact (q4x_ite (hKf0 x1 I2 hI2) (q4x_b3 (fr4_fn_X6_warmthOf o ho x1 I2 hI2 J) (fun r10 _ _ h69 => (q4x_ltI (kI4_w rfl hI2) (fun I12 h70 => (ih (x1 + (1 : Int32)) I12 h70))))))
theorem fr4_fn_X7_lookAtWarmths {I0 : Iv} (o : Nat) (ho : StA o) (I : Iv) (hI : KI4 I0 I) (J : Jv) : Qd2 I0 (fn_X7_lookAtWarmths o I J) := by
  unfold fn_X7_lookAtWarmths
  exact (fr4_fl_X7_lookAtWarmths_2_0 J o (fun (x1 : Int32) (I2 : Iv) => (I2, J)) (fun x1 I2 h71 => h71) ho (mU (12 : Int32) ((0 : Int32)) + 1) (0 : Int32) I hI)
theorem fr4_fn_X7_switchMachine {I0 : Iv} (o : Nat) (ho : StA o) (bulb : Int32) (less : Int32) (I : Iv) (hI : KI4 I0 I) (J : Jv) : Qd2 I0 (fn_X7_switchMachine o bulb less I J) := by
  unfold fn_X7_switchMachine
  exact (q4x_jn (P := fun (j : Int32 → Iv × Jv) => ∀ (a72 : Int32), Qd2 I0 (j a72)) (fun w1 => (q4x_jn (P := fun (j : Int32 → Iv × Jv) => ∀ (a73 : Int32), Qd2 I0 (j a73)) (fun w2 => (q4x_ltI (kI4_w (s4t0 ho) hI) (fun I3 h74 => (q4x_lt (fun v5 => (q4x_jn (P := fun (j : Iv → Iv × Jv) => ∀ (a75 : Iv), KI4 I0 a75 → Qd2 I0 (j a75)) (fun I6 h76 => (q4x_ite h76 (q4x_ite (q4x_ltI (kI4_w (s4t8 ho) h76) (fun I8 h77 => h77)) h76))) (fun j139_2 j78 => (q4x_ite (q4x_ltI (kI4_w (s4t0 ho) h74) (fun I21 h79 => (j78 I21 h79))) (q4x_b3 (fr4_fn_X6_has o ho (16 : Int32) I3 h74 J) (fun r15 _ _ h80 => (q4x_jn (P := Qd2 I0) (q4x_ltI (kI4_w (s4t0 ho) h74) (fun I17 h82 => (j78 I17 h82))) (fun j104_3 j81 => (q4x_ite (q4x_ite (q4x_ite (j78 I3 h74) (q4x_ltI (kI4_w (s4t0 ho) h74) (fun I19 h83 => (j78 I19 h83)))) j81) j81))))))))))))) (fun j49_1 j84 => (q4x_ite (j84 w1) (j84 (((I o 9) + ((w1 - (I o 9)) / (8 : Int32))))))))) (fun j19_0 j85 => (q4x_jn (P := Qd2 I0) (j85 ((0 : Int32))) (fun j18_4 j86 => (q4x_ite j86 (q4x_ite j86 (j85 ((I 14 bulb.toNatClampNeg)))))))))
theorem fr4_fn_X7_flow {I0 : Iv} (ease : Int32) (from_ : Int32) (to_ : Int32) (fur : Int32) (I : Iv) (hI : KI4 I0 I) (J : Jv) : Qd2 I0 (fn_X7_flow ease from_ to_ fur I J) := by
  unfold fn_X7_flow
  exact (q4x_ite hI (q4x_ite hI (q4x_ite hI (q4x_ite hI (q4x_ite (q4x_lt (fun v1 => (q4x_lt (fun v2 => (q4x_lt (fun J3 => (q4x_lt (fun J5 => hI)))))))) hI)))))
theorem fr4_fl_X7_exchange_175_3 {I0 : Iv} (o : Nat) (I25 : Iv) (Kf3 : Int32 → Jv → Iv × Jv) (hI25 : KI4 I0 I25) (hKf3 : ∀ (a87 : Int32) (a88 : Jv), Qd2 I0 (Kf3 a87 a88)) (ho : StA o) : ∀ (fu : Nat) (x29 : Int32) (J30 : Jv), Qd2 I0 (fl_X7_exchange_175_3 o I25 Kf3 fu x29 J30) := by
  intro fu
  induction fu with
  | zero =>
    intro x29 J30
    rw [fl_X7_exchange_175_3.eq_1]
    exact hI25
  | succ kf3 ih =>
    intro x29 J30
    rw [fl_X7_exchange_175_3.eq_2]
    exact (q4x_ite (hKf3 x29 J30) (q4x_lt (fun J33 => (ih (x29 + (1 : Int32)) J33))))
theorem fr4_fl_X7_exchange_124_2 {I0 : Iv} (o : Nat) (Kf2 : Int32 → Iv → Jv → Iv × Jv) (hKf2 : ∀ (a89 : Int32) (a90 : Iv) (a91 : Jv), KI4 I0 a90 → Qd2 I0 (Kf2 a89 a90 a91)) (ho : StA o) : ∀ (fu : Nat) (x24 : Int32) (I25 : Iv) (J26 : Jv), KI4 I0 I25 → Qd2 I0 (fl_X7_exchange_124_2 o Kf2 fu x24 I25 J26) := by
  intro fu
  induction fu with
  | zero =>
    intro x24 I25 J26 hI25
    rw [fl_X7_exchange_124_2.eq_1]
    exact hI25
  | succ kf2 ih =>
    intro x24 I25 J26 hI25
    rw [fl_X7_exchange_124_2.eq_2]
    exact (q4x_ite (hKf2 x24 I25 J26 hI25) (q4x_ite (ih (x24 + (1 : Int32)) I25 J26 hI25) (q4x_b2 (fr4_fn_X7_flow (I25 8 5) (I25 (o + 4) x24.toNatClampNeg) ((4 : Int32) + x24) (0 : Int32) I25 hI25 J26) (fun I35 J36 h92 => (ih (x24 + (1 : Int32)) I35 J36 h92)))))
theorem fr4_fl_X7_exchange_68_1 {I0 : Iv} (Kf1 : Int32 → Iv → Jv → Iv × Jv) (hKf1 : ∀ (a93 : Int32) (a94 : Iv) (a95 : Jv), KI4 I0 a94 → Qd2 I0 (Kf1 a93 a94 a95)) : ∀ (fu : Nat) (x12 : Int32) (I13 : Iv) (J14 : Jv), KI4 I0 I13 → Qd2 I0 (fl_X7_exchange_68_1 Kf1 fu x12 I13 J14) := by
  intro fu
  induction fu with
  | zero =>
    intro x12 I13 J14 hI13
    rw [fl_X7_exchange_68_1.eq_1]
    exact hI13
  | succ kf1 ih =>
    intro x12 I13 J14 hI13
    rw [fl_X7_exchange_68_1.eq_2]
    exact (q4x_ite (hKf1 x12 I13 J14 hI13) (q4x_b2 (fr4_fn_X7_flow (I13 8 3) x12 (x12 + (1 : Int32)) (0 : Int32) I13 hI13 J14) (fun I42 J43 h96 => (ih (x12 + (1 : Int32)) I42 J43 h96))))
theorem fr4_fl_X7_exchange_11_0 {I0 : Iv} (room : Int32) (leak : Int32) (o : Nat) (I1 : Iv) (Kf0 : Int32 → Jv → Iv × Jv) (hI1 : KI4 I0 I1) (hKf0 : ∀ (a97 : Int32) (a98 : Jv), Qd2 I0 (Kf0 a97 a98)) (ho : StA o) : ∀ (fu : Nat) (x8 : Int32) (J9 : Jv), Qd2 I0 (fl_X7_exchange_11_0 room leak o I1 Kf0 fu x8 J9) := by
  intro fu
  induction fu with
  | zero =>
    intro x8 J9
    rw [fl_X7_exchange_11_0.eq_1]
    exact hI1
  | succ kf0 ih =>
    intro x8 J9
    rw [fl_X7_exchange_11_0.eq_2]
    exact (q4x_ite (hKf0 x8 J9) (q4x_lt (fun v49 => (q4x_lt (fun J50 => (q4x_lt (fun J52 => (ih (x8 + (1 : Int32)) J52))))))))
theorem fr4_fn_X7_exchange {I0 : Iv} (o : Nat) (ho : StA o) (room : Int32) (leak : Int32) (I : Iv) (hI : KI4 I0 I) (J : Jv) : Qd2 I0 (fn_X7_exchange o room leak I J) := by
  unfold fn_X7_exchange
  exact (q4x_lt (fun J2 => (q4x_ltI hI (fun I1 h99 => (fr4_fl_X7_exchange_11_0 room leak o I1 (fun (x8 : Int32) (J9 : Jv) => fl_X7_exchange_68_1  (fun (x12 : Int32) (I13 : Iv) (J14 : Jv) => b_n2 (fn_X7_flow (I13 8 4) (0 : Int32) (3 : Int32) (I13 (o + 8) 5) I13 J14) (fun (I17 : Iv) (J18 : Jv) => fl_X7_exchange_124_2 o (fun (x24 : Int32) (I25 : Iv) (J26 : Jv) => fl_X7_exchange_175_3 o I25 (fun (x29 : Int32) (J30 : Jv) => (I25, J30)) (mU (12 : Int32) ((0 : Int32)) + 1) (0 : Int32) J26) (mU (8 : Int32) ((0 : Int32)) + 1) (0 : Int32) I17 J18)) (mU (2 : Int32) ((0 : Int32)) + 1) (0 : Int32) I1 J9) h99 (fun x8 J9 => (fr4_fl_X7_exchange_68_1 (fun (x12 : Int32) (I13 : Iv) (J14 : Jv) => b_n2 (fn_X7_flow (I13 8 4) (0 : Int32) (3 : Int32) (I13 (o + 8) 5) I13 J14) (fun (I17 : Iv) (J18 : Jv) => fl_X7_exchange_124_2 o (fun (x24 : Int32) (I25 : Iv) (J26 : Jv) => fl_X7_exchange_175_3 o I25 (fun (x29 : Int32) (J30 : Jv) => (I25, J30)) (mU (12 : Int32) ((0 : Int32)) + 1) (0 : Int32) J26) (mU (8 : Int32) ((0 : Int32)) + 1) (0 : Int32) I17 J18)) (fun x12 I13 J14 h100 => (q4x_b2 (fr4_fn_X7_flow (I13 8 4) (0 : Int32) (3 : Int32) (I13 (o + 8) 5) I13 h100 J14) (fun I17 J18 h101 => (fr4_fl_X7_exchange_124_2 o (fun (x24 : Int32) (I25 : Iv) (J26 : Jv) => fl_X7_exchange_175_3 o I25 (fun (x29 : Int32) (J30 : Jv) => (I25, J30)) (mU (12 : Int32) ((0 : Int32)) + 1) (0 : Int32) J26) (fun x24 I25 J26 h102 => (fr4_fl_X7_exchange_175_3 o I25 (fun (x29 : Int32) (J30 : Jv) => (I25, J30)) h102 (fun x29 J30 => h102) ho (mU (12 : Int32) ((0 : Int32)) + 1) (0 : Int32) J26)) ho (mU (8 : Int32) ((0 : Int32)) + 1) (0 : Int32) I17 J18 h101)))) (mU (2 : Int32) ((0 : Int32)) + 1) (0 : Int32) I1 J9 h99)) ho (mU (3 : Int32) ((0 : Int32)) + 1) (0 : Int32) J2)))))
theorem fr4_fn_X7_giveLight {I0 : Iv} (o : Nat) (ho : StA o) (I : Iv) (hI : KI4 I0 I) (J : Jv) : Qd2 I0 (fn_X7_giveLight o I J) := by
  unfold fn_X7_giveLight
  exact (q4x_lt (fun v1 => (q4x_lt (fun J2 => (q4x_lt (fun J4 => (q4x_ltI (kI4_w (s4t8 ho) hI) (fun I6 h103 => h103))))))))
theorem fr4_fn_X7_moveOut {I0 : Iv} (o : Nat) (ho : StA o) (power : Int32) (I : Iv) (hI : KI4 I0 I) (J : Jv) : Qd2 I0 (fn_X7_moveOut o power I J) := by
  unfold fn_X7_moveOut
  exact (q4x_lt (fun v1 => (q4x_lt (fun J2 => (q4x_lt (fun J4 => (q4x_ltI (kI4_w (s4t8 ho) hI) (fun I6 h104 => (q4x_ltI (kI4_w (s4t8 ho) h104) (fun I8 h105 => h105))))))))))
theorem fr4_fn_X7_takeWet {I0 : Iv} (o : Nat) (ho : StA o) (wet : Int32) (I : Iv) (hI : KI4 I0 I) (J : Jv) : Qd2 I0 (fn_X7_takeWet o wet I J) := by
  unfold fn_X7_takeWet
  exact (q4x_ltI (kI4_w (s4t8 ho) hI) (fun I1 h106 => (q4x_b3 (fr4_fn_X6_warmthOf o ho (3 : Int32) I1 h106 J) (fun r8 _ _ h107 => (q4x_ite (q4x_lt (fun v10 => (q4x_ltI (kI4_w (s4t8 ho) h106) (fun I11 h108 => (q4x_ltI (kI4_w (s4t8 ho) h108) (fun I13 h109 => (q4x_ltI (kI4_w (s4t8 ho) h109) (fun I15 h110 => h110)))))))) (q4x_lt (fun v17 => (q4x_ltI (kI4_w (s4t8 ho) h106) (fun I18 h111 => (q4x_ltI (kI4_w (s4t8 ho) h111) (fun I20 h112 => h112)))))))))))
theorem fr4_fn_X7_pass {I0 : Iv} (o : Nat) (ho : StA o) (open_ : Int32) (bulb : Int32) (less : Int32) (I : Iv) (hI : KI4 I0 I) (J : Jv) : Qd2 I0 (fn_X7_pass o open_ bulb less I J) := by
  unfold fn_X7_pass
  exact (q4x_b2 (fr4_fn_X7_lookAtWarmths o ho I hI J) (fun I1 J2 h113 => (q4x_b3 (fr4_fn_X0_roomOf o ho I1 h113 J2) (fun r13 _ _ h114 => (q4x_b3 (fr4_fn_X0_sealOf o ho I1 h113 J2) (fun r20 _ _ h115 => (q4x_b2 (fr4_fn_X7_switchMachine o ho bulb less I1 h113 J2) (fun I22 J23 h116 => (q4x_jn (P := fun (j : Int32 → Iv × Jv) => ∀ (a117 : Int32), Qd2 I0 (j a117)) (fun w29 => (q4x_b2 (fr4_fn_X7_exchange o ho r13 (((I22 8 1) + r20) + w29) I22 h116 J23) (fun I30 J31 h118 => (q4x_jn (P := fun (j : Iv → Jv → Iv × Jv) => ∀ (a119 : Iv) (a120 : Jv), KI4 I0 a119 → Qd2 I0 (j a119 a120)) (fun I37 J38 h121 => (q4x_jn (P := fun (j : Iv → Jv → Iv × Jv) => ∀ (a122 : Iv) (a123 : Jv), KI4 I0 a122 → Qd2 I0 (j a122 a123)) (fun I40 J41 h124 => (q4x_jn (P := fun (j : Int32 → Iv × Jv) => ∀ (a125 : Int32), Qd2 I0 (j a125)) (fun w43 => (q4x_b2 (fr4_fn_X7_takeWet o ho (r20 + w43) I40 h124 J41) (fun I44 J45 h126 => (q4x_ltI (kI4_w (s4t8 ho) h126) (fun I51 h127 => h127))))) (fun j135_3 j128 => (q4x_ite (j128 ((0 : Int32))) (j128 ((20 : Int32))))))) (fun j121_2 j129 => (q4x_ite (j129 I37 J38 h121) (q4x_b3 (fr4_fn_X0_powerOf o ho I37 h121 J38) (fun r58 _ _ h130 => (q4x_b2 (fr4_fn_X7_moveOut o ho (r58 - ((r13 - (I37 14 3)) / (8 : Int32))) I37 h121 J38) (fun I60 J61 h131 => (j129 I60 J61 h131))))))))) (fun j88_1 j132 => (q4x_ite (j132 I30 J31 h118) (q4x_jn (P := Qd2 I0) (q4x_b2 (fr4_fn_X7_giveLight o ho I30 h118 J31) (fun I67 J68 h134 => (j132 I67 J68 h134))) (fun j83_4 j133 => (q4x_ite (q4x_b3 (fr4_fn_X6_has o ho (32 : Int32) I30 h118 J31) (fun r79 _ _ h135 => (q4x_ite (j132 I30 J31 h118) j133))) j133))))))))) (fun j59_0 j136 => (q4x_ite (j136 ((0 : Int32))) (j136 ((60 : Int32))))))))))))))
theorem fr4_fl_X7_passByDay_3_0 {I0 : Iv} (n : Int32) (bulb : Int32) (o : Nat) (Kf0 : Int32 → Iv → Jv → Iv × Jv) (hKf0 : ∀ (a137 : Int32) (a138 : Iv) (a139 : Jv), KI4 I0 a138 → Qd2 I0 (Kf0 a137 a138 a139)) (ho : StA o) : ∀ (fu : Nat) (x1 : Int32) (I2 : Iv) (J3 : Jv), KI4 I0 I2 → Qd2 I0 (fl_X7_passByDay_3_0 n bulb o Kf0 fu x1 I2 J3) := by
  intro fu
  induction fu with
  | zero =>
    intro x1 I2 J3 hI2
    rw [fl_X7_passByDay_3_0.eq_1]
    exact hI2
  | succ kf0 ih =>
    intro x1 I2 J3 hI2
    rw [fl_X7_passByDay_3_0.eq_2]
    exact (q4x_ite (hKf0 x1 I2 J3 hI2) (q4x_b3 (fr4_fn_X6_tickOfDay o ho I2 hI2 J3) (fun r11 _ _ h140 => (q4x_b3 (fr4_fn_X3_isOpenIn r11 I2 hI2 J3) (fun r18 _ _ h141 => (q4x_b2 (fr4_fn_X7_pass o ho r18 bulb (0 : Int32) I2 hI2 J3) (fun I20 J21 h142 => (ih (x1 + (1 : Int32)) I20 J21 h142))))))))
theorem fr4_fn_X7_passByDay {I0 : Iv} (o : Nat) (ho : StA o) (n : Int32) (bulb : Int32) (I : Iv) (hI : KI4 I0 I) (J : Jv) : Qd2 I0 (fn_X7_passByDay o n bulb I J) := by
  unfold fn_X7_passByDay
  exact (fr4_fl_X7_passByDay_3_0 n bulb o (fun (x1 : Int32) (I2 : Iv) (J3 : Jv) => (I2, J3)) (fun x1 I2 J3 h143 => h143) ho (mU n ((0 : Int32)) + 1) (0 : Int32) I J hI)
theorem fr4_fn_X9_isSet {I0 : Iv} (x : Int32) (I : Iv) (hI : KI4 I0 I) (J : Jv) : Qd3 I0 (fn_X9_isSet x I J) := by
  unfold fn_X9_isSet
  exact (q4x_ite hI (q4x_ite hI hI))
theorem fr4_fn_X9_isTrouble {I0 : Iv} (x : Int32) (I : Iv) (hI : KI4 I0 I) (J : Jv) : Qd3 I0 (fn_X9_isTrouble x I J) := by
  unfold fn_X9_isTrouble
  exact (q4x_ite hI (q4x_ite hI hI))
theorem fr4_fn_X9_isSign {I0 : Iv} (x : Int32) (I : Iv) (hI : KI4 I0 I) (J : Jv) : Qd3 I0 (fn_X9_isSign x I J) := by
  unfold fn_X9_isSign
  exact (q4x_ite hI (q4x_ite hI hI))
theorem fr4_fn_X9_isShelf {I0 : Iv} (x : Int32) (I : Iv) (hI : KI4 I0 I) (J : Jv) : Qd3 I0 (fn_X9_isShelf x I J) := by
  unfold fn_X9_isShelf
  exact (q4x_ite hI (q4x_ite hI hI))
theorem fr4_fn_X9_isPrice {I0 : Iv} (x : Int32) (I : Iv) (hI : KI4 I0 I) (J : Jv) : Qd3 I0 (fn_X9_isPrice x I J) := by
  unfold fn_X9_isPrice
  exact (q4x_ite hI (q4x_ite hI hI))
theorem fr4_fn_X9_canBeWarmth {I0 : Iv} (x : Int32) (I : Iv) (hI : KI4 I0 I) (J : Jv) : Qd3 I0 (fn_X9_canBeWarmth x I J) := by
  unfold fn_X9_canBeWarmth
  exact (q4x_ite hI (q4x_ite hI hI))
theorem fr4_fn_X9_areSignDays {I0 : Iv} (x : Int32) (I : Iv) (hI : KI4 I0 I) (J : Jv) : Qd3 I0 (fn_X9_areSignDays x I J) := by
  unfold fn_X9_areSignDays
  exact (q4x_ite hI (q4x_ite hI hI))
theorem fr4_fn_X9_isPart {I0 : Iv} (part : Int32) (set : Int32) (I : Iv) (hI : KI4 I0 I) (J : Jv) : Qd3 I0 (fn_X9_isPart part set I J) := by
  unfold fn_X9_isPart
  exact (q4x_ite hI hI)
theorem fr4_fl_X3_copyFrom_103_2 {I0 : Iv} (J : Jv) (x7 : Int32) (Kf2 : Int32 → Iv → Iv × Jv) (hKf2 : ∀ (a144 : Int32) (a145 : Iv), KI4 I0 a145 → Qd2 I0 (Kf2 a144 a145)) : ∀ (fu : Nat) (x18 : Int32) (I19 : Iv), KI4 I0 I19 → Qd2 I0 (fl_X3_copyFrom_103_2 J x7 Kf2 fu x18 I19) := by
  intro fu
  induction fu with
  | zero =>
    intro x18 I19 hI19
    rw [fl_X3_copyFrom_103_2.eq_1]
    exact hI19
  | succ kf2 ih =>
    intro x18 I19 hI19
    rw [fl_X3_copyFrom_103_2.eq_2]
    exact (q4x_ite (hKf2 x18 I19 hI19) (q4x_ite (hKf2 x18 I19 hI19) (q4x_ltI (kI4_w rfl hI19) (fun I21 h146 => (ih (x18 + (1 : Int32)) I21 h146)))))
theorem fr4_fl_X3_copyFrom_33_1 {I0 : Iv} (J : Jv) (n : Int32) (Kf1 : Int32 → Iv → Iv × Jv) (hKf1 : ∀ (a147 : Int32) (a148 : Iv), KI4 I0 a148 → Qd2 I0 (Kf1 a147 a148)) : ∀ (fu : Nat) (x7 : Int32) (I8 : Iv), KI4 I0 I8 → Qd2 I0 (fl_X3_copyFrom_33_1 J n Kf1 fu x7 I8) := by
  intro fu
  induction fu with
  | zero =>
    intro x7 I8 hI8
    rw [fl_X3_copyFrom_33_1.eq_1]
    exact hI8
  | succ kf1 ih =>
    intro x7 I8 hI8
    rw [fl_X3_copyFrom_33_1.eq_2]
    exact (q4x_ite (hKf1 x7 I8 hI8) (q4x_ite (hKf1 x7 I8 hI8) (q4x_ite (hKf1 x7 I8 hI8) (q4x_ite (hKf1 x7 I8 hI8) (q4x_ltI (kI4_w rfl hI8) (fun I11 h149 => (q4x_ltI (kI4_w rfl h149) (fun I13 h150 => (q4x_ltI (kI4_w rfl h150) (fun I15 h151 => (q4x_lt (fun v17 => (fr4_fl_X3_copyFrom_103_2 J x7 (fun (x18 : Int32) (I19 : Iv) => fl_X3_copyFrom_33_1 J n Kf1 kf1 (x7 + (1 : Int32)) I19) (fun x18 I19 h152 => (ih (x7 + (1 : Int32)) I19 h152)) (mU 288 v17 + 1) v17 I15 h151)))))))))))))
theorem fr4_fl_X3_copyFrom_3_0 {I0 : Iv} (J : Jv) (Kf0 : Int32 → Iv → Iv × Jv) (hKf0 : ∀ (a153 : Int32) (a154 : Iv), KI4 I0 a154 → Qd2 I0 (Kf0 a153 a154)) : ∀ (fu : Nat) (x1 : Int32) (I2 : Iv), KI4 I0 I2 → Qd2 I0 (fl_X3_copyFrom_3_0 J Kf0 fu x1 I2) := by
  intro fu
  induction fu with
  | zero =>
    intro x1 I2 hI2
    rw [fl_X3_copyFrom_3_0.eq_1]
    exact hI2
  | succ kf0 ih =>
    intro x1 I2 hI2
    rw [fl_X3_copyFrom_3_0.eq_2]
    exact (q4x_ite (hKf0 x1 I2 hI2) (q4x_ltI (kI4_w rfl hI2) (fun I23 h155 => (ih (x1 + (1 : Int32)) I23 h155))))
theorem fr4_fn_X3_copyFrom {I0 : Iv} (n : Int32) (I : Iv) (hI : KI4 I0 I) (J : Jv) : Qd2 I0 (fn_X3_copyFrom n I J) := by
  unfold fn_X3_copyFrom
  exact (fr4_fl_X3_copyFrom_3_0 J (fun (x1 : Int32) (I2 : Iv) => l_t (wI I2 9 0 (0 : Int32)) (fun (I5 : Iv) => fl_X3_copyFrom_33_1 J n (fun (x7 : Int32) (I8 : Iv) => (I8, J)) (mU n ((0 : Int32)) + 1) (0 : Int32) I5)) (fun x1 I2 h156 => (q4x_ltI (kI4_w rfl h156) (fun I5 h157 => (fr4_fl_X3_copyFrom_33_1 J n (fun (x7 : Int32) (I8 : Iv) => (I8, J)) (fun x7 I8 h158 => h158) (mU n ((0 : Int32)) + 1) (0 : Int32) I5 h157)))) (mU (288 : Int32) ((0 : Int32)) + 1) (0 : Int32) I hI)
theorem fr4_fn_X0_copyFrom {I0 : Iv} (I : Iv) (hI : KI4 I0 I) (J : Jv) : Qd2 I0 (fn_X0_copyFrom I J) := by
  unfold fn_X0_copyFrom
  exact (q4x_ite (q4x_ltI (kI4_c (fun _ => rfl) hI) (fun I1 h159 => h159)) hI)
theorem fr4_fn_J6_bitCount_0f7a4 {I0 : Iv} (x : Int32) (I : Iv) (hI : KI4 I0 I) (J : Jv) : Qd3 I0 (fn_J6_bitCount_0f7a4 x I J) := by
  unfold fn_J6_bitCount_0f7a4
  exact (q4x_lt (fun v1 => (q4x_lt (fun v2 => (q4x_lt (fun v3 => (q4x_lt (fun v4 => (q4x_lt (fun v5 => hI))))))))))
theorem fr4_fn_X1_forgetSigns {I0 : Iv} (I : Iv) (hI : KI4 I0 I) (J : Jv) : Qd2 I0 (fn_X1_forgetSigns I J) := by
  unfold fn_X1_forgetSigns
  exact (q4x_ltI (kI4_c (fun _ => rfl) hI) (fun I1 h160 => (q4x_lt (fun J2 => h160))))
theorem fr4_fn_X1_placeOf {I0 : Iv} (set : Int32) (n : Int32) (I : Iv) (hI : KI4 I0 I) (J : Jv) : Qd3 I0 (fn_X1_placeOf set n I J) := by
  unfold fn_X1_placeOf
  exact hI
theorem fr4_fn_X1_signOf {I0 : Iv} (set : Int32) (n : Int32) (what : Int32) (I : Iv) (hI : KI4 I0 I) (J : Jv) : Qd3 I0 (fn_X1_signOf set n what I J) := by
  unfold fn_X1_signOf
  exact (q4x_b3 (fr4_fn_X9_isSet set I hI J) (fun r6 _ _ h161 => (q4x_ite hI (q4x_b3 (fr4_fn_X9_areSignDays n I hI J) (fun r13 _ _ h162 => (q4x_ite hI (q4x_b3 (fr4_fn_X9_isSign what I hI J) (fun r20 _ _ h163 => (q4x_ite hI (q4x_b3 (fr4_fn_X1_placeOf set n I hI J) (fun r27 _ _ h164 => hI)))))))))))
theorem fr4_fn_X1_begin {I0 : Iv} (set : Int32) (cur : Int32) (I : Iv) (hI : KI4 I0 I) (J : Jv) : Qd2 I0 (fn_X1_begin set cur I J) := by
  unfold fn_X1_begin
  exact (q4x_ltI (kI4_w rfl hI) (fun I1 h165 => (q4x_ltI (kI4_w rfl h165) (fun I3 h166 => (q4x_b2 (fr4_fn_X6_becomeFresh 46 stA_46 I3 h166 J) (fun I5 J6 h167 => h167))))))
theorem fr4_fl_X1_learn_148_1 {I0 : Iv} (J33 : Jv) (r44 : Int32) (Kf1 : Int32 → Iv → Iv × Jv) (hKf1 : ∀ (a168 : Int32) (a169 : Iv), KI4 I0 a169 → Qd2 I0 (Kf1 a168 a169)) : ∀ (fu : Nat) (x50 : Int32) (I51 : Iv), KI4 I0 I51 → Qd2 I0 (fl_X1_learn_148_1 J33 r44 Kf1 fu x50 I51) := by
  intro fu
  induction fu with
  | zero =>
    intro x50 I51 hI51
    rw [fl_X1_learn_148_1.eq_1]
    exact hI51
  | succ kf1 ih =>
    intro x50 I51 hI51
    rw [fl_X1_learn_148_1.eq_2]
    exact (q4x_ite (hKf1 x50 I51 hI51) (q4x_b3 (fr4_fn_X6_warmthOf 46 stA_46 x50 I51 hI51 J33) (fun r63 _ _ h170 => (q4x_ltI (kI4_w rfl hI51) (fun I65 h171 => (ih (x50 + (1 : Int32)) I65 h171))))))
theorem fr4_fl_X1_learn_33_0 {I0 : Iv} (set : Int32) (n : Int32) (Kf0 : Int32 → Iv → Jv → Iv × Jv) (hKf0 : ∀ (a172 : Int32) (a173 : Iv) (a174 : Jv), KI4 I0 a173 → Qd2 I0 (Kf0 a172 a173 a174)) : ∀ (fu : Nat) (x22 : Int32) (I23 : Iv) (J24 : Jv), KI4 I0 I23 → Qd2 I0 (fl_X1_learn_33_0 set n Kf0 fu x22 I23 J24) := by
  intro fu
  induction fu with
  | zero =>
    intro x22 I23 J24 hI23
    rw [fl_X1_learn_33_0.eq_1]
    exact hI23
  | succ kf0 ih =>
    intro x22 I23 J24 hI23
    rw [fl_X1_learn_33_0.eq_2]
    exact (q4x_ite (hKf0 x22 I23 J24 hI23) (q4x_lt (fun v29 => (q4x_lt (fun v30 => (q4x_lt (fun v31 => (q4x_b2 (fr4_fn_X7_passByDay 46 stA_46 (288 : Int32) (I23 8 8) I23 hI23 J24) (fun I32 J33 h175 => (q4x_b3 (fr4_fn_X1_placeOf set x22 I32 h175 J33) (fun r44 _ _ h176 => (q4x_ltI (kI4_w rfl h175) (fun I46 h177 => (q4x_ltI (kI4_w rfl h177) (fun I48 h178 => (fr4_fl_X1_learn_148_1 J33 r44 (fun (x50 : Int32) (I51 : Iv) => l_t (wI I51 56 (((r44 + (5 : Int32))).toNatClampNeg) (I51 54 5)) (fun (I54 : Iv) => l_t (wI I54 56 (((r44 + (6 : Int32))).toNatClampNeg) ((I54 54 1) - v31)) (fun (I56 : Iv) => fl_X1_learn_33_0 set n Kf0 kf0 (x22 + (1 : Int32)) I56 J33))) (fun x50 I51 h179 => (q4x_ltI (kI4_w rfl h179) (fun I54 h180 => (q4x_ltI (kI4_w rfl h180) (fun I56 h181 => (ih (x22 + (1 : Int32)) I56 J33 h181)))))) (mU (3 : Int32) ((0 : Int32)) + 1) (0 : Int32) I48 h178))))))))))))))))
theorem fr4_fn_X1_learn {I0 : Iv} (set : Int32) (n : Int32) (I : Iv) (hI : KI4 I0 I) (J : Jv) : Qd2 I0 (fn_X1_learn set n I J) := by
  unfold fn_X1_learn
  exact (q4x_b3 (fr4_fn_X9_isSet set I hI J) (fun r6 _ _ h182 => (q4x_ite hI (q4x_b3 (fr4_fn_X9_areSignDays n I hI J) (fun r13 _ _ h183 => (q4x_ite hI (q4x_ite (q4x_b2 (fr4_fn_X1_begin set (1 : Int32) I hI J) (fun I15 J16 h184 => (fr4_fl_X1_learn_33_0 set n (fun (x22 : Int32) (I23 : Iv) (J24 : Jv) => l_t (wI I23 55 (set.toNatClampNeg) n) (fun (I27 : Iv) => (I27, J24))) (fun x22 I23 J24 h185 => (q4x_ltI (kI4_w rfl h185) (fun I27 h186 => h186))) (mUe n ((1 : Int32)) + 1) (1 : Int32) I15 J16 h184))) hI)))))))
theorem fr4_fl_X1_learnCouldBe_2_0 {I0 : Iv} (n : Int32) (Kf0 : Int32 → Iv → Jv → Iv × Jv) (hKf0 : ∀ (a187 : Int32) (a188 : Iv) (a189 : Jv), KI4 I0 a188 → Qd2 I0 (Kf0 a187 a188 a189)) : ∀ (fu : Nat) (x1 : Int32) (I2 : Iv) (J3 : Jv), KI4 I0 I2 → Qd2 I0 (fl_X1_learnCouldBe_2_0 n Kf0 fu x1 I2 J3) := by
  intro fu
  induction fu with
  | zero =>
    intro x1 I2 J3 hI2
    rw [fl_X1_learnCouldBe_2_0.eq_1]
    exact hI2
  | succ kf0 ih =>
    intro x1 I2 J3 hI2
    rw [fl_X1_learnCouldBe_2_0.eq_2]
    exact (q4x_ite (hKf0 x1 I2 J3 hI2) (q4x_lt (fun t6 => (q4x_b2 (fr4_fn_X1_learn t6 n I2 hI2 J3) (fun I7 J8 h190 => (ih (x1 + (1 : Int32)) I7 J8 h190))))))
theorem fr4_fn_X1_learnCouldBe {I0 : Iv} (n : Int32) (I : Iv) (hI : KI4 I0 I) (J : Jv) : Qd2 I0 (fn_X1_learnCouldBe n I J) := by
  unfold fn_X1_learnCouldBe
  exact (fr4_fl_X1_learnCouldBe_2_0 n (fun (x1 : Int32) (I2 : Iv) (J3 : Jv) => (I2, J3)) (fun x1 I2 J3 h191 => h191) (mU (29 : Int32) ((0 : Int32)) + 1) (0 : Int32) I J hI)
theorem fr4_fl_X1_learnParts_2_0 {I0 : Iv} (set : Int32) (n : Int32) (Kf0 : Int32 → Iv → Jv → Iv × Jv) (hKf0 : ∀ (a192 : Int32) (a193 : Iv) (a194 : Jv), KI4 I0 a193 → Qd2 I0 (Kf0 a192 a193 a194)) : ∀ (fu : Nat) (x1 : Int32) (I2 : Iv) (J3 : Jv), KI4 I0 I2 → Qd2 I0 (fl_X1_learnParts_2_0 set n Kf0 fu x1 I2 J3) := by
  intro fu
  induction fu with
  | zero =>
    intro x1 I2 J3 hI2
    rw [fl_X1_learnParts_2_0.eq_1]
    exact hI2
  | succ kf0 ih =>
    intro x1 I2 J3 hI2
    rw [fl_X1_learnParts_2_0.eq_2]
    exact (q4x_ite (hKf0 x1 I2 J3 hI2) (q4x_b3 (fr4_fn_X9_isPart x1 set I2 hI2 J3) (fun r11 _ _ h195 => (q4x_ite (ih (x1 + (1 : Int32)) I2 J3 hI2) (q4x_b2 (fr4_fn_X1_learn x1 n I2 hI2 J3) (fun I13 J14 h196 => (ih (x1 + (1 : Int32)) I13 J14 h196)))))))
theorem fr4_fn_X1_learnParts {I0 : Iv} (set : Int32) (n : Int32) (I : Iv) (hI : KI4 I0 I) (J : Jv) : Qd2 I0 (fn_X1_learnParts set n I J) := by
  unfold fn_X1_learnParts
  exact (fr4_fl_X1_learnParts_2_0 set n (fun (x1 : Int32) (I2 : Iv) (J3 : Jv) => (I2, J3)) (fun x1 I2 J3 h197 => h197) (mUe set ((0 : Int32)) + 1) (0 : Int32) I J hI)
theorem fr4_fl_X1_firstDay_9_0 {I0 : Iv} (fur : Int32) (Kf0 : Int32 → Iv → Jv → Int32 × Iv × Jv) (hKf0 : ∀ (a198 : Int32) (a199 : Iv) (a200 : Jv), KI4 I0 a199 → Qd3 I0 (Kf0 a198 a199 a200)) : ∀ (fu : Nat) (x8 : Int32) (I9 : Iv) (J10 : Jv), KI4 I0 I9 → Qd3 I0 (fl_X1_firstDay_9_0 fur Kf0 fu x8 I9 J10) := by
  intro fu
  induction fu with
  | zero =>
    intro x8 I9 J10 hI9
    rw [fl_X1_firstDay_9_0.eq_1]
    exact hI9
  | succ kf0 ih =>
    intro x8 I9 J10 hI9
    rw [fl_X1_firstDay_9_0.eq_2]
    exact (q4x_ite (hKf0 x8 I9 J10 hI9) (q4x_lt (fun v13 => (q4x_b2 (fr4_fn_X7_passByDay 46 stA_46 (288 : Int32) (I9 8 8) I9 hI9 J10) (fun I14 J15 h201 => (q4x_jn (P := fun (j : Int32 → Int32 × Iv × Jv) => ∀ (a202 : Int32), Qd3 I0 (j a202)) (fun w21 => (q4x_ite (ih (x8 + (1 : Int32)) I14 J15 h201) h201)) (fun j104_1 j203 => (q4x_ite (q4x_ite (j203 ((1 : Int32))) (j203 ((0 : Int32)))) (q4x_ite (j203 ((0 : Int32))) (j203 ((1 : Int32))))))))))))
theorem fr4_fn_X1_firstDay {I0 : Iv} (set : Int32) (fur : Int32) (cur : Int32) (I : Iv) (hI : KI4 I0 I) (J : Jv) : Qd3 I0 (fn_X1_firstDay set fur cur I J) := by
  unfold fn_X1_firstDay
  exact (q4x_b2 (fr4_fn_X1_begin set cur I hI J) (fun I1 J2 h204 => (fr4_fl_X1_firstDay_9_0 fur (fun (x8 : Int32) (I9 : Iv) (J10 : Jv) => ((-1 : Int32), I9, J10)) (fun x8 I9 J10 h205 => h205) (mUe (30 : Int32) ((1 : Int32)) + 1) (1 : Int32) I1 J2 h204)))
theorem fr4_fl_X1_usedThawing_10_0 {I0 : Iv} (n : Int32) (p : Int32) (Kf0 : Int32 → Iv → Jv → Int32 × Iv × Jv) (hKf0 : ∀ (a206 : Int32) (a207 : Iv) (a208 : Jv), KI4 I0 a207 → Qd3 I0 (Kf0 a206 a207 a208)) : ∀ (fu : Nat) (x8 : Int32) (I9 : Iv) (J10 : Jv), KI4 I0 I9 → Qd3 I0 (fl_X1_usedThawing_10_0 n p Kf0 fu x8 I9 J10) := by
  intro fu
  induction fu with
  | zero =>
    intro x8 I9 J10 hI9
    rw [fl_X1_usedThawing_10_0.eq_1]
    exact hI9
  | succ kf0 ih =>
    intro x8 I9 J10 hI9
    rw [fl_X1_usedThawing_10_0.eq_2]
    exact (q4x_ite (hKf0 x8 I9 J10 hI9) (q4x_jn (P := fun (j : Iv → Jv → Int32 × Iv × Jv) => ∀ (a209 : Iv) (a210 : Jv), KI4 I0 a209 → Qd3 I0 (j a209 a210)) (fun I13 J14 h211 => (q4x_b2 (fr4_fn_X7_passByDay 46 stA_46 (288 : Int32) (I13 8 8) I13 h211 J14) (fun I16 J17 h212 => (ih (x8 + (1 : Int32)) I16 J17 h212)))) (fun j40_1 j213 => (q4x_ite (j213 I9 J10 hI9) (q4x_ite (j213 I9 J10 hI9) (q4x_ite (q4x_b3 (fr4_fn_X6_letOffIce 46 stA_46 I9 hI9 J10) (fun r28 I23 J24 h214 => (j213 I23 J24 h214))) (j213 I9 J10 hI9)))))))
theorem fr4_fn_X1_usedThawing {I0 : Iv} (set : Int32) (n : Int32) (p : Int32) (cur : Int32) (I : Iv) (hI : KI4 I0 I) (J : Jv) : Qd3 I0 (fn_X1_usedThawing set n p cur I J) := by
  unfold fn_X1_usedThawing
  exact (q4x_b2 (fr4_fn_X1_begin set cur I hI J) (fun I1 J2 h215 => (fr4_fl_X1_usedThawing_10_0 n p (fun (x8 : Int32) (I9 : Iv) (J10 : Jv) => ((I9 54 1), I9, J10)) (fun x8 I9 J10 h216 => h216) (mU n ((0 : Int32)) + 1) (0 : Int32) I1 J2 h215)))
theorem fr4_fl_X2_howManySeen_4_0 {I0 : Iv} (I : Iv) (J : Jv) (Kf0 : Int32 → Int32 → Int32 × Iv × Jv) (hI : KI4 I0 I) (hKf0 : ∀ (a217 : Int32) (a218 : Int32), Qd3 I0 (Kf0 a217 a218)) : ∀ (fu : Nat) (x1 : Int32) (x2 : Int32), Qd3 I0 (fl_X2_howManySeen_4_0 I J Kf0 fu x1 x2) := by
  intro fu
  induction fu with
  | zero =>
    intro x1 x2
    rw [fl_X2_howManySeen_4_0.eq_1]
    exact hI
  | succ kf0 ih =>
    intro x1 x2
    rw [fl_X2_howManySeen_4_0.eq_2]
    exact (q4x_ite (hKf0 x1 x2) (q4x_ite (ih x1 (x2 + (1 : Int32))) (ih (x1 + (1 : Int32)) (x2 + (1 : Int32)))))
theorem fr4_fn_X2_howManySeen {I0 : Iv} (I : Iv) (hI : KI4 I0 I) (J : Jv) : Qd3 I0 (fn_X2_howManySeen I J) := by
  unfold fn_X2_howManySeen
  exact (fr4_fl_X2_howManySeen_4_0 I J (fun (x1 : Int32) (x2 : Int32) => (x1, I, J)) hI (fun x1 x2 => hI) (mU (7 : Int32) ((0 : Int32)) + 1) (0 : Int32) (0 : Int32))
theorem fr4_fn_X2_exactOf {I0 : Iv} (what : Int32) (I : Iv) (hI : KI4 I0 I) (J : Jv) : Qd3 I0 (fn_X2_exactOf what I J) := by
  unfold fn_X2_exactOf
  exact (q4x_ite hI (q4x_ite hI hI))
theorem fr4_fn_X2_halvings {I0 : Iv} (set : Int32) (n : Int32) (what : Int32) (I : Iv) (hI : KI4 I0 I) (J : Jv) : Qd3 I0 (fn_X2_halvings set n what I J) := by
  unfold fn_X2_halvings
  exact (q4x_b3 (fr4_fn_X1_signOf set n what I hI J) (fun r6 _ _ h219 => (q4x_lt (fun v8 => (q4x_b3 (fr4_fn_X2_exactOf what I hI J) (fun r14 _ _ h220 => hI))))))
theorem fr4_fl_X2_weightOf_61_1 {I0 : Iv} (I : Iv) (J : Jv) (set : Int32) (n : Int32) (Kf1 : Int64 → Int32 → Int64 × Iv × Jv) (hI : KI4 I0 I) (hKf1 : ∀ (a221 : Int64) (a222 : Int32), Qd3 I0 (Kf1 a221 a222)) : ∀ (fu : Nat) (x4 : Int64) (x5 : Int32), Qd3 I0 (fl_X2_weightOf_61_1 I J set n Kf1 fu x4 x5) := by
  intro fu
  induction fu with
  | zero =>
    intro x4 x5
    rw [fl_X2_weightOf_61_1.eq_1]
    exact hI
  | succ kf1 ih =>
    intro x4 x5
    rw [fl_X2_weightOf_61_1.eq_2]
    exact (q4x_ite (hKf1 x4 x5) (q4x_ite (ih x4 (x5 + (1 : Int32))) (q4x_b3 (fr4_fn_X2_halvings set n x5 I hI J) (fun r12 _ _ h223 => (q4x_lt (fun v14 => (ih v14 (x5 + (1 : Int32)))))))))
theorem fr4_fl_X2_weightOf_7_0 {I0 : Iv} (I : Iv) (J : Jv) (set : Int32) (Kf0 : Int64 → Int32 → Int64 × Iv × Jv) (hI : KI4 I0 I) (hKf0 : ∀ (a224 : Int64) (a225 : Int32), Qd3 I0 (Kf0 a224 a225)) : ∀ (fu : Nat) (x1 : Int64) (x2 : Int32), Qd3 I0 (fl_X2_weightOf_7_0 I J set Kf0 fu x1 x2) := by
  intro fu
  induction fu with
  | zero =>
    intro x1 x2
    rw [fl_X2_weightOf_7_0.eq_1]
    exact hI
  | succ kf0 ih =>
    intro x1 x2
    rw [fl_X2_weightOf_7_0.eq_2]
    exact (q4x_ite (hKf0 x1 x2) (q4x_jn (P := fun (j : Int32 → Int64 × Iv × Jv) => ∀ (a226 : Int32), Qd3 I0 (j a226)) (fun w15 => (q4x_lt (fun v16 => (ih v16 (x2 + (1 : Int32)))))) (fun j45_2 j227 => (q4x_ite (j227 (((1000 : Int32) - (I 61 x2.toNatClampNeg)))) (j227 ((I 61 x2.toNatClampNeg)))))))
theorem fr4_fn_X2_weightOf {I0 : Iv} (set : Int32) (n : Int32) (I : Iv) (hI : KI4 I0 I) (J : Jv) : Qd3 I0 (fn_X2_weightOf set n I J) := by
  unfold fn_X2_weightOf
  exact (fr4_fl_X2_weightOf_7_0 I J set (fun (x1 : Int64) (x2 : Int32) => fl_X2_weightOf_61_1 I J set n (fun (x4 : Int64) (x5 : Int32) => (x4, I, J)) (mU (7 : Int32) ((0 : Int32)) + 1) x1 (0 : Int32)) hI (fun x1 x2 => (fr4_fl_X2_weightOf_61_1 I J set n (fun (x4 : Int64) (x5 : Int32) => (x4, I, J)) hI (fun x4 x5 => hI) (mU (7 : Int32) ((0 : Int32)) + 1) x1 (0 : Int32))) (mU (7 : Int32) ((0 : Int32)) + 1) (1000000 : Int64) (0 : Int32))
theorem fr4_fl_X2_weighAll_5_0 {I0 : Iv} (I : Iv) (n : Int32) (Kf0 : Int64 → Int32 → Jv → Int64 × Iv × Jv) (hI : KI4 I0 I) (hKf0 : ∀ (a228 : Int64) (a229 : Int32) (a230 : Jv), Qd3 I0 (Kf0 a228 a229 a230)) : ∀ (fu : Nat) (x1 : Int64) (x2 : Int32) (J3 : Jv), Qd3 I0 (fl_X2_weighAll_5_0 I n Kf0 fu x1 x2 J3) := by
  intro fu
  induction fu with
  | zero =>
    intro x1 x2 J3
    rw [fl_X2_weighAll_5_0.eq_1]
    exact hI
  | succ kf0 ih =>
    intro x1 x2 J3
    rw [fl_X2_weighAll_5_0.eq_2]
    exact (q4x_ite (hKf0 x1 x2 J3) (q4x_lt (fun t6 => (q4x_b3 (fr4_fn_X2_weightOf t6 n I hI J3) (fun r12 _ _ h231 => (q4x_lt (fun J14 => (q4x_lt (fun v16 => (ih v16 (x2 + (1 : Int32)) J14))))))))))
theorem fr4_fn_X2_weighAll {I0 : Iv} (n : Int32) (I : Iv) (hI : KI4 I0 I) (J : Jv) : Qd3 I0 (fn_X2_weighAll n I J) := by
  unfold fn_X2_weighAll
  exact (fr4_fl_X2_weighAll_5_0 I n (fun (x1 : Int64) (x2 : Int32) (J3 : Jv) => (x1, I, J3)) hI (fun x1 x2 J3 => hI) (mU (29 : Int32) ((0 : Int32)) + 1) (0 : Int64) (0 : Int32) J)
theorem fr4_fn_X2_share {I0 : Iv} (i : Int32) (all : Int64) (I : Iv) (hI : KI4 I0 I) (J : Jv) : Qd3 I0 (fn_X2_share i all I J) := by
  unfold fn_X2_share
  exact (q4x_ite hI (q4x_ite hI (q4x_ite hI hI)))
theorem fr4_fl_X2_isFirstOfClass_2_0 {I0 : Iv} (I : Iv) (J : Jv) (i : Int32) (Kf0 : Int32 → Int32 × Iv × Jv) (hI : KI4 I0 I) (hKf0 : ∀ (a232 : Int32), Qd3 I0 (Kf0 a232)) : ∀ (fu : Nat) (x1 : Int32), Qd3 I0 (fl_X2_isFirstOfClass_2_0 I J i Kf0 fu x1) := by
  intro fu
  induction fu with
  | zero =>
    intro x1
    rw [fl_X2_isFirstOfClass_2_0.eq_1]
    exact hI
  | succ kf0 ih =>
    intro x1
    rw [fl_X2_isFirstOfClass_2_0.eq_2]
    exact (q4x_ite (hKf0 x1) (q4x_ite hI (ih (x1 + (1 : Int32)))))
theorem fr4_fn_X2_isFirstOfClass {I0 : Iv} (i : Int32) (I : Iv) (hI : KI4 I0 I) (J : Jv) : Qd3 I0 (fn_X2_isFirstOfClass i I J) := by
  unfold fn_X2_isFirstOfClass
  exact (fr4_fl_X2_isFirstOfClass_2_0 I J i (fun (x1 : Int32) => ((1 : Int32), I, J)) hI (fun x1 => hI) (mU i ((0 : Int32)) + 1) (0 : Int32))
theorem fr4_fl_X2_weightOfClass_5_0 {I0 : Iv} (I : Iv) (J : Jv) (i : Int32) (Kf0 : Int64 → Int32 → Int64 × Iv × Jv) (hI : KI4 I0 I) (hKf0 : ∀ (a233 : Int64) (a234 : Int32), Qd3 I0 (Kf0 a233 a234)) : ∀ (fu : Nat) (x1 : Int64) (x2 : Int32), Qd3 I0 (fl_X2_weightOfClass_5_0 I J i Kf0 fu x1 x2) := by
  intro fu
  induction fu with
  | zero =>
    intro x1 x2
    rw [fl_X2_weightOfClass_5_0.eq_1]
    exact hI
  | succ kf0 ih =>
    intro x1 x2
    rw [fl_X2_weightOfClass_5_0.eq_2]
    exact (q4x_ite (hKf0 x1 x2) (q4x_ite (q4x_lt (fun v3 => (ih v3 (x2 + (1 : Int32))))) (ih x1 (x2 + (1 : Int32)))))
theorem fr4_fn_X2_weightOfClass {I0 : Iv} (i : Int32) (I : Iv) (hI : KI4 I0 I) (J : Jv) : Qd3 I0 (fn_X2_weightOfClass i I J) := by
  unfold fn_X2_weightOfClass
  exact (fr4_fl_X2_weightOfClass_5_0 I J i (fun (x1 : Int64) (x2 : Int32) => (x1, I, J)) hI (fun x1 x2 => hI) (mU (29 : Int32) i + 1) (0 : Int64) i)
theorem fr4_fl_X2_tellingBy_61_1 {I0 : Iv} (J : Jv) (I2 : Iv) (Kf1 : Int64 → Int32 → Int32 × Iv × Jv) (hI2 : KI4 I0 I2) (hKf1 : ∀ (a235 : Int64) (a236 : Int32), Qd3 I0 (Kf1 a235 a236)) : ∀ (fu : Nat) (x5 : Int64) (x6 : Int32), Qd3 I0 (fl_X2_tellingBy_61_1 J I2 Kf1 fu x5 x6) := by
  intro fu
  induction fu with
  | zero =>
    intro x5 x6
    rw [fl_X2_tellingBy_61_1.eq_1]
    exact hI2
  | succ kf1 ih =>
    intro x5 x6
    rw [fl_X2_tellingBy_61_1.eq_2]
    exact (q4x_ite (hKf1 x5 x6) (q4x_b3 (fr4_fn_X2_isFirstOfClass x6 I2 hI2 J) (fun r13 _ _ h237 => (q4x_ite (ih x5 (x6 + (1 : Int32))) (q4x_b3 (fr4_fn_X2_weightOfClass x6 I2 hI2 J) (fun r20 _ _ h238 => (q4x_lt (fun v22 => (ih v22 (x6 + (1 : Int32)))))))))))
theorem fr4_fl_X2_tellingBy_11_0 {I0 : Iv} (J : Jv) (what : Int32) (n : Int32) (Kf0 : Int32 → Iv → Int32 × Iv × Jv) (hKf0 : ∀ (a239 : Int32) (a240 : Iv), KI4 I0 a240 → Qd3 I0 (Kf0 a239 a240)) : ∀ (fu : Nat) (x1 : Int32) (I2 : Iv), KI4 I0 I2 → Qd3 I0 (fl_X2_tellingBy_11_0 J what n Kf0 fu x1 I2) := by
  intro fu
  induction fu with
  | zero =>
    intro x1 I2 hI2
    rw [fl_X2_tellingBy_11_0.eq_1]
    exact hI2
  | succ kf0 ih =>
    intro x1 I2 hI2
    rw [fl_X2_tellingBy_11_0.eq_2]
    exact (q4x_ite (hKf0 x1 I2 hI2) (q4x_lt (fun t23 => (q4x_b3 (fr4_fn_X1_signOf t23 n what I2 hI2 J) (fun r29 _ _ h241 => (q4x_b3 (fr4_fn_X2_exactOf what I2 hI2 J) (fun r36 _ _ h242 => (q4x_ltI (kI4_w rfl hI2) (fun I38 h243 => (ih (x1 + (1 : Int32)) I38 h243))))))))))
theorem fr4_fn_X2_tellingBy {I0 : Iv} (what : Int32) (n : Int32) (all : Int64) (I : Iv) (hI : KI4 I0 I) (J : Jv) : Qd3 I0 (fn_X2_tellingBy what n all I J) := by
  unfold fn_X2_tellingBy
  exact (q4x_ite (fr4_fl_X2_tellingBy_11_0 J what n (fun (x1 : Int32) (I2 : Iv) => fl_X2_tellingBy_61_1 J I2 (fun (x5 : Int64) (x6 : Int32) => ((Int64.toInt32 ((1000 : Int64) - (((1000 : Int64) * x5) / (all * all)))), I2, J)) (mU (29 : Int32) ((0 : Int32)) + 1) (0 : Int64) (0 : Int32)) (fun x1 I2 h244 => (fr4_fl_X2_tellingBy_61_1 J I2 (fun (x5 : Int64) (x6 : Int32) => ((Int64.toInt32 ((1000 : Int64) - (((1000 : Int64) * x5) / (all * all)))), I2, J)) h244 (fun x5 x6 => h244) (mU (29 : Int32) ((0 : Int32)) + 1) (0 : Int64) (0 : Int32))) (mU (29 : Int32) ((0 : Int32)) + 1) (0 : Int32) I hI) hI)
theorem fr4_fl_X2_oddsOf_9_0 {I0 : Iv} (set : Int32) (I1 : Iv) (J2 : Jv) (r6 : Int64) (Kf0 : Int32 → Int32 × Iv × Jv) (hI1 : KI4 I0 I1) (hKf0 : ∀ (a245 : Int32), Qd3 I0 (Kf0 a245)) : ∀ (fu : Nat) (x9 : Int32), Qd3 I0 (fl_X2_oddsOf_9_0 set I1 J2 r6 Kf0 fu x9) := by
  intro fu
  induction fu with
  | zero =>
    intro x9
    rw [fl_X2_oddsOf_9_0.eq_1]
    exact hI1
  | succ kf0 ih =>
    intro x9
    rw [fl_X2_oddsOf_9_0.eq_2]
    exact (q4x_ite (hKf0 x9) (q4x_lt (fun t11 => (q4x_ite (q4x_b3 (fr4_fn_X2_share x9 r6 I1 hI1 J2) (fun r17 _ _ h246 => hI1)) (ih (x9 + (1 : Int32)))))))
theorem fr4_fn_X2_oddsOf {I0 : Iv} (set : Int32) (n : Int32) (I : Iv) (hI : KI4 I0 I) (J : Jv) : Qd3 I0 (fn_X2_oddsOf set n I J) := by
  unfold fn_X2_oddsOf
  exact (q4x_b3 (fr4_fn_X2_weighAll n I hI J) (fun r6 I1 J2 h247 => (fr4_fl_X2_oddsOf_9_0 set I1 J2 r6 (fun (x9 : Int32) => ((0 : Int32), I1, J2)) h247 (fun x9 => h247) (mU (29 : Int32) ((0 : Int32)) + 1) (0 : Int32))))
theorem fr4_fl_X2_oddsWith_12_0 {I0 : Iv} (k : Int32) (I1 : Iv) (J2 : Jv) (r6 : Int64) (Kf0 : Int32 → Int32 → Int32 × Iv × Jv) (hI1 : KI4 I0 I1) (hKf0 : ∀ (a248 : Int32) (a249 : Int32), Qd3 I0 (Kf0 a248 a249)) : ∀ (fu : Nat) (x9 : Int32) (x10 : Int32), Qd3 I0 (fl_X2_oddsWith_12_0 k I1 J2 r6 Kf0 fu x9 x10) := by
  intro fu
  induction fu with
  | zero =>
    intro x9 x10
    rw [fl_X2_oddsWith_12_0.eq_1]
    exact hI1
  | succ kf0 ih =>
    intro x9 x10
    rw [fl_X2_oddsWith_12_0.eq_2]
    exact (q4x_ite (hKf0 x9 x10) (q4x_lt (fun t12 => (q4x_ite (ih x9 (x10 + (1 : Int32))) (q4x_b3 (fr4_fn_X2_share x10 r6 I1 hI1 J2) (fun r18 _ _ h250 => (q4x_lt (fun v20 => (ih v20 (x10 + (1 : Int32)))))))))))
theorem fr4_fn_X2_oddsWith {I0 : Iv} (k : Int32) (n : Int32) (I : Iv) (hI : KI4 I0 I) (J : Jv) : Qd3 I0 (fn_X2_oddsWith k n I J) := by
  unfold fn_X2_oddsWith
  exact (q4x_b3 (fr4_fn_X2_weighAll n I hI J) (fun r6 I1 J2 h251 => (fr4_fl_X2_oddsWith_12_0 k I1 J2 r6 (fun (x9 : Int32) (x10 : Int32) => (x9, I1, J2)) h251 (fun x9 x10 => h251) (mU (29 : Int32) ((0 : Int32)) + 1) (0 : Int32) (0 : Int32))))
theorem fr4_fn_X2_howMuchTells {I0 : Iv} (what : Int32) (n : Int32) (I : Iv) (hI : KI4 I0 I) (J : Jv) : Qd3 I0 (fn_X2_howMuchTells what n I J) := by
  unfold fn_X2_howMuchTells
  exact (q4x_b3 (fr4_fn_X2_weighAll n I hI J) (fun r6 I1 J2 h252 => (q4x_b3 (fr4_fn_X2_tellingBy what n r6 I1 h252 J2) (fun r14 I9 J10 h253 => h253))))
theorem fr4_fl_X2_nextSign_15_0 {I0 : Iv} (n : Int32) (r6 : Int64) (Kf0 : Int32 → Int32 → Int32 → Iv → Jv → Int32 × Iv × Jv) (hKf0 : ∀ (a254 : Int32) (a255 : Int32) (a256 : Int32) (a257 : Iv) (a258 : Jv), KI4 I0 a257 → Qd3 I0 (Kf0 a254 a255 a256 a257 a258)) : ∀ (fu : Nat) (x9 : Int32) (x10 : Int32) (x11 : Int32) (I12 : Iv) (J13 : Jv), KI4 I0 I12 → Qd3 I0 (fl_X2_nextSign_15_0 n r6 Kf0 fu x9 x10 x11 I12 J13) := by
  intro fu
  induction fu with
  | zero =>
    intro x9 x10 x11 I12 J13 hI12
    rw [fl_X2_nextSign_15_0.eq_1]
    exact hI12
  | succ kf0 ih =>
    intro x9 x10 x11 I12 J13 hI12
    rw [fl_X2_nextSign_15_0.eq_2]
    exact (q4x_ite (hKf0 x9 x10 x11 I12 J13 hI12) (q4x_ite (q4x_b3 (fr4_fn_X2_tellingBy x11 n r6 I12 hI12 J13) (fun r21 I16 J17 h259 => (q4x_lt (fun v24 => (q4x_jn (P := Qd3 I0) (ih x11 v24 (x11 + (1 : Int32)) I16 J17 h259) (fun j66_1 j260 => (q4x_ite j260 (q4x_ite (ih x9 x10 (x11 + (1 : Int32)) I16 J17 h259) j260)))))))) (ih x9 x10 (x11 + (1 : Int32)) I12 J13 hI12)))
theorem fr4_fn_X2_nextSign {I0 : Iv} (n : Int32) (I : Iv) (hI : KI4 I0 I) (J : Jv) : Qd3 I0 (fn_X2_nextSign n I J) := by
  unfold fn_X2_nextSign
  exact (q4x_b3 (fr4_fn_X2_weighAll n I hI J) (fun r6 I1 J2 h261 => (fr4_fl_X2_nextSign_15_0 n r6 (fun (x9 : Int32) (x10 : Int32) (x11 : Int32) (I12 : Iv) (J13 : Jv) => (x9, I12, J13)) (fun x9 x10 x11 I12 J13 h262 => h262) (mU (7 : Int32) ((0 : Int32)) + 1) (-1 : Int32) (0 : Int32) (0 : Int32) I1 J2 h261)))
theorem fr4_fn_X4_yearByUse {I0 : Iv} (used : Int32) (I : Iv) (hI : KI4 I0 I) (J : Jv) : Qd3 I0 (fn_X4_yearByUse used I J) := by
  unfold fn_X4_yearByUse
  exact hI
theorem fr4_fn_X4_yearOf {I0 : Iv} (set : Int32) (cur : Int32) (I : Iv) (hI : KI4 I0 I) (J : Jv) : Qd3 I0 (fn_X4_yearOf set cur I J) := by
  unfold fn_X4_yearOf
  exact (q4x_ite hI (q4x_b3 (fr4_fn_X1_signOf set (2 : Int32) (6 : Int32) I hI J) (fun r6 _ _ h263 => (q4x_b3 (fr4_fn_X4_yearByUse r6 I hI J) (fun r13 _ _ h264 => hI)))))
theorem fr4_fn_X4_saved {I0 : Iv} (set : Int32) (part : Int32) (cur : Int32) (I : Iv) (hI : KI4 I0 I) (J : Jv) : Qd3 I0 (fn_X4_saved set part cur I J) := by
  unfold fn_X4_saved
  exact (q4x_b3 (fr4_fn_X4_yearOf set cur I hI J) (fun r6 _ _ h265 => (q4x_b3 (fr4_fn_X4_yearOf (set &&& (part ^^^ (-1 : Int32))) cur I hI J) (fun r13 _ _ h266 => hI))))
theorem fr4_fl_X4_costOf_4_0 {I0 : Iv} (I : Iv) (J : Jv) (part : Int32) (Kf0 : Int32 → Int32 → Int32 × Iv × Jv) (hI : KI4 I0 I) (hKf0 : ∀ (a267 : Int32) (a268 : Int32), Qd3 I0 (Kf0 a267 a268)) : ∀ (fu : Nat) (x1 : Int32) (x2 : Int32), Qd3 I0 (fl_X4_costOf_4_0 I J part Kf0 fu x1 x2) := by
  intro fu
  induction fu with
  | zero =>
    intro x1 x2
    rw [fl_X4_costOf_4_0.eq_1]
    exact hI
  | succ kf0 ih =>
    intro x1 x2
    rw [fl_X4_costOf_4_0.eq_2]
    exact (q4x_ite (hKf0 x1 x2) (q4x_ite (ih x1 (x2 + (1 : Int32))) (q4x_lt (fun v4 => (ih v4 (x2 + (1 : Int32)))))))
theorem fr4_fn_X4_costOf {I0 : Iv} (part : Int32) (I : Iv) (hI : KI4 I0 I) (J : Jv) : Qd3 I0 (fn_X4_costOf part I J) := by
  unfold fn_X4_costOf
  exact (fr4_fl_X4_costOf_4_0 I J part (fun (x1 : Int32) (x2 : Int32) => (x1, I, J)) hI (fun x1 x2 => hI) (mU (7 : Int32) ((0 : Int32)) + 1) (0 : Int32) (0 : Int32))
theorem fr4_fl_X4_bestPart_12_0 {I0 : Iv} (I : Iv) (J : Jv) (set : Int32) (c : Int32) (cur : Int32) (Kf0 : Int32 → Int32 → Int32 → Int32 → Int32 × Iv × Jv) (hI : KI4 I0 I) (hKf0 : ∀ (a269 : Int32) (a270 : Int32) (a271 : Int32) (a272 : Int32), Qd3 I0 (Kf0 a269 a270 a271 a272)) : ∀ (fu : Nat) (x1 : Int32) (x2 : Int32) (x3 : Int32) (x4 : Int32), Qd3 I0 (fl_X4_bestPart_12_0 I J set c cur Kf0 fu x1 x2 x3 x4) := by
  intro fu
  induction fu with
  | zero =>
    intro x1 x2 x3 x4
    rw [fl_X4_bestPart_12_0.eq_1]
    exact hI
  | succ kf0 ih =>
    intro x1 x2 x3 x4
    rw [fl_X4_bestPart_12_0.eq_2]
    exact (q4x_ite (hKf0 x1 x2 x3 x4) (q4x_b3 (fr4_fn_X4_costOf x4 I hI J) (fun r11 _ _ h273 => (q4x_b3 (fr4_fn_X9_isPart x4 set I hI J) (fun r18 _ _ h274 => (q4x_ite (ih x1 x2 x3 (x4 + (1 : Int32))) (q4x_ite (q4x_b3 (fr4_fn_X4_saved set x4 cur I hI J) (fun r25 _ _ h275 => (q4x_jn (P := Qd3 I0) (ih x4 r25 r11 (x4 + (1 : Int32))) (fun j75_1 j276 => (q4x_ite j276 (q4x_ite (q4x_ite (ih x1 x2 x3 (x4 + (1 : Int32))) j276) (ih x1 x2 x3 (x4 + (1 : Int32))))))))) (ih x1 x2 x3 (x4 + (1 : Int32))))))))))
theorem fr4_fn_X4_bestPart {I0 : Iv} (set : Int32) (c : Int32) (cur : Int32) (I : Iv) (hI : KI4 I0 I) (J : Jv) : Qd3 I0 (fn_X4_bestPart set c cur I J) := by
  unfold fn_X4_bestPart
  exact (fr4_fl_X4_bestPart_12_0 I J set c cur (fun (x1 : Int32) (x2 : Int32) (x3 : Int32) (x4 : Int32) => (x1, I, J)) hI (fun x1 x2 x3 x4 => hI) (mUe set ((1 : Int32)) + 1) (0 : Int32) (0 : Int32) (0 : Int32) (1 : Int32))
theorem fr4_fl_X4_yearsToPay_19_0 {I0 : Iv} (I : Iv) (J : Jv) (c : Int32) (v15 : Int64) (Kf0 : Int32 → Int32 × Iv × Jv) (hI : KI4 I0 I) (hKf0 : ∀ (a277 : Int32), Qd3 I0 (Kf0 a277)) : ∀ (fu : Nat) (x16 : Int32), Qd3 I0 (fl_X4_yearsToPay_19_0 I J c v15 Kf0 fu x16) := by
  intro fu
  induction fu with
  | zero =>
    intro x16
    rw [fl_X4_yearsToPay_19_0.eq_1]
    exact hI
  | succ kf0 ih =>
    intro x16
    rw [fl_X4_yearsToPay_19_0.eq_2]
    exact (q4x_ite (hKf0 x16) (q4x_ite (ih (x16 + (1 : Int32))) hI))
theorem fr4_fn_X4_yearsToPay {I0 : Iv} (set : Int32) (c : Int32) (u : Int32) (cur : Int32) (I : Iv) (hI : KI4 I0 I) (J : Jv) : Qd3 I0 (fn_X4_yearsToPay set c u cur I J) := by
  unfold fn_X4_yearsToPay
  exact (q4x_b3 (fr4_fn_X4_yearOf set cur I hI J) (fun r6 _ _ h278 => (q4x_b3 (fr4_fn_X4_yearByUse u I hI J) (fun r13 _ _ h279 => (q4x_lt (fun v15 => (fr4_fl_X4_yearsToPay_19_0 I J c v15 (fun (x16 : Int32) => ((-1 : Int32), I, J)) hI (fun x16 => hI) (mUe (30 : Int32) ((1 : Int32)) + 1) (1 : Int32))))))))
theorem fr4_fl_X4_bestThawing_9_0 {I0 : Iv} (set : Int32) (n : Int32) (b : Int32) (cur : Int32) (Kf0 : Int32 → Int64 → Int32 → Iv → Jv → Int32 × Iv × Jv) (hKf0 : ∀ (a280 : Int32) (a281 : Int64) (a282 : Int32) (a283 : Iv) (a284 : Jv), KI4 I0 a283 → Qd3 I0 (Kf0 a280 a281 a282 a283 a284)) : ∀ (fu : Nat) (x1 : Int32) (x2 : Int64) (x3 : Int32) (I4 : Iv) (J5 : Jv), KI4 I0 I4 → Qd3 I0 (fl_X4_bestThawing_9_0 set n b cur Kf0 fu x1 x2 x3 I4 J5) := by
  intro fu
  induction fu with
  | zero =>
    intro x1 x2 x3 I4 J5 hI4
    rw [fl_X4_bestThawing_9_0.eq_1]
    exact hI4
  | succ kf0 ih =>
    intro x1 x2 x3 I4 J5 hI4
    rw [fl_X4_bestThawing_9_0.eq_2]
    exact (q4x_ite (hKf0 x1 x2 x3 I4 J5 hI4) (q4x_b3 (fr4_fn_X1_usedThawing set n x3 cur I4 hI4 J5) (fun r13 I8 J9 h285 => (q4x_lt (fun v16 => (q4x_jn (P := fun (j : Int32 → Int32 × Iv × Jv) => ∀ (a286 : Int32), Qd3 I0 (j a286)) (fun w17 => (q4x_lt (fun v18 => (q4x_jn (P := Qd3 I0) (ih x3 v18 (x3 + (1 : Int32)) I8 J9 h285) (fun j82_2 j287 => (q4x_ite j287 (q4x_ite (ih x1 x2 (x3 + (1 : Int32)) I8 J9 h285) j287))))))) (fun j46_1 j288 => (q4x_ite (j288 ((0 : Int32))) (j288 (((n - (1 : Int32)) / x3)))))))))))
theorem fr4_fn_X4_bestThawing {I0 : Iv} (set : Int32) (n : Int32) (b : Int32) (cur : Int32) (I : Iv) (hI : KI4 I0 I) (J : Jv) : Qd3 I0 (fn_X4_bestThawing set n b cur I J) := by
  unfold fn_X4_bestThawing
  exact (fr4_fl_X4_bestThawing_9_0 set n b cur (fun (x1 : Int32) (x2 : Int64) (x3 : Int32) (I4 : Iv) (J5 : Jv) => (x1, I4, J5)) (fun x1 x2 x3 I4 J5 h289 => h289) (mU n ((0 : Int32)) + 1) (0 : Int32) (0 : Int64) (0 : Int32) I J hI)
theorem fr4_fn_X8_boxBulb {I0 : Iv} (I : Iv) (hI : KI4 I0 I) (J : Jv) : Qd3 I0 (fn_X8_boxBulb I J) := by
  unfold fn_X8_boxBulb
  exact hI
theorem fr4_fn_X8_isCheapHour {I0 : Iv} (h : Int32) (I : Iv) (hI : KI4 I0 I) (J : Jv) : Qd3 I0 (fn_X8_isCheapHour h I J) := by
  unfold fn_X8_isCheapHour
  exact (q4x_ite hI (q4x_ite hI (q4x_ite hI hI)))
theorem fr4_fn_X8_takeIfMore {I0 : Iv} (choice : Int32) (much : Int32) (I : Iv) (hI : KI4 I0 I) (J : Jv) : Qd2 I0 (fn_X8_takeIfMore choice much I J) := by
  unfold fn_X8_takeIfMore
  exact (q4x_ite hI (q4x_ltI (kI4_w rfl hI) (fun I1 h290 => (q4x_ltI (kI4_w rfl h290) (fun I3 h291 => h291)))))
theorem fr4_fl_X8_layByRow_6_0 {I0 : Iv} (J : Jv) (q : Nat) (Kf0 : Int32 → Int32 → Iv → Iv × Jv) (hKf0 : ∀ (a292 : Int32) (a293 : Int32) (a294 : Iv), KI4 I0 a294 → Qd2 I0 (Kf0 a292 a293 a294)) (hq : ∀ k, S4 q k = false) : ∀ (fu : Nat) (x1 : Int32) (x2 : Int32) (I3 : Iv), KI4 I0 I3 → Qd2 I0 (fl_X8_layByRow_6_0 J q Kf0 fu x1 x2 I3) := by
  intro fu
  induction fu with
  | zero =>
    intro x1 x2 I3 hI3
    rw [fl_X8_layByRow_6_0.eq_1]
    exact hI3
  | succ kf0 ih =>
    intro x1 x2 I3 hI3
    rw [fl_X8_layByRow_6_0.eq_2]
    exact (q4x_ite (hKf0 x1 x2 I3 hI3) (q4x_ite (ih x1 (x2 + (-1 : Int32)) I3 hI3) (q4x_ite (ih x1 (x2 + (-1 : Int32)) I3 hI3) (q4x_ltI (kI4_w (hq _) hI3) (fun I6 h295 => (q4x_lt (fun v8 => (ih v8 (x2 + (-1 : Int32)) I6 h295))))))))
theorem fr4_fn_X8_layByRow {I0 : Iv} (q : Nat) (hq : ∀ k, S4 q k = false) (rw_ : Int32) (I : Iv) (hI : KI4 I0 I) (J : Jv) : Qd2 I0 (fn_X8_layByRow q rw_ I J) := by
  unfold fn_X8_layByRow
  exact (fr4_fl_X8_layByRow_6_0 J q (fun (x1 : Int32) (x2 : Int32) (I3 : Iv) => (I3, J)) (fun x1 x2 I3 h296 => h296) hq (mD ((7 : Int32)) + 1) rw_ (7 : Int32) I hI)
theorem fr4_fn_X8_shelfInBestRow {I0 : Iv} (f : Int32) (I : Iv) (hI : KI4 I0 I) (J : Jv) : Qd3 I0 (fn_X8_shelfInBestRow f I J) := by
  unfold fn_X8_shelfInBestRow
  exact (q4x_b2 (fr4_fn_X8_layByRow 77 (fun _ => rfl) (I 67 7) I hI J) (fun I1 J2 h297 => (q4x_ite h297 (q4x_ite h297 h297))))
theorem fr4_fl_X8_withinOnSecondDay_19_0 {I0 : Iv} (bulb : Int32) (Kf0 : Int32 → Int32 → Iv → Jv → Int32 × Iv × Jv) (hKf0 : ∀ (a298 : Int32) (a299 : Int32) (a300 : Iv) (a301 : Jv), KI4 I0 a300 → Qd3 I0 (Kf0 a298 a299 a300 a301)) : ∀ (fu : Nat) (x8 : Int32) (x9 : Int32) (I10 : Iv) (J11 : Jv), KI4 I0 I10 → Qd3 I0 (fl_X8_withinOnSecondDay_19_0 bulb Kf0 fu x8 x9 I10 J11) := by
  intro fu
  induction fu with
  | zero =>
    intro x8 x9 I10 J11 hI10
    rw [fl_X8_withinOnSecondDay_19_0.eq_1]
    exact hI10
  | succ kf0 ih =>
    intro x8 x9 I10 J11 hI10
    rw [fl_X8_withinOnSecondDay_19_0.eq_2]
    exact (q4x_ite (hKf0 x8 x9 I10 J11 hI10) (q4x_b2 (fr4_fn_X7_passByDay 68 stA_68 (1 : Int32) bulb I10 hI10 J11) (fun I14 J15 h302 => (q4x_b3 (fr4_fn_X6_foodsWithin 68 stA_68 I14 h302 J15) (fun r26 _ _ h303 => (q4x_lt (fun v28 => (ih v28 (x9 + (1 : Int32)) I14 J15 h302))))))))
theorem fr4_fn_X8_withinOnSecondDay {I0 : Iv} (bulb : Int32) (I : Iv) (hI : KI4 I0 I) (J : Jv) : Qd3 I0 (fn_X8_withinOnSecondDay bulb I J) := by
  unfold fn_X8_withinOnSecondDay
  exact (q4x_b2 (fr4_fn_X7_passByDay 68 stA_68 (288 : Int32) bulb I hI J) (fun I1 J2 h304 => (fr4_fl_X8_withinOnSecondDay_19_0 bulb (fun (x8 : Int32) (x9 : Int32) (I10 : Iv) (J11 : Jv) => (x8, I10, J11)) (fun x8 x9 I10 J11 h305 => h305) (mU (288 : Int32) ((0 : Int32)) + 1) (0 : Int32) (0 : Int32) I1 J2 h304)))
theorem fr4_fl_X8_findBestRow_45_2 {I0 : Iv} (r6 : Int32) (x8 : Int32) (Kf2 : Int32 → Iv → Jv → Iv × Jv) (hKf2 : ∀ (a306 : Int32) (a307 : Iv) (a308 : Jv), KI4 I0 a307 → Qd2 I0 (Kf2 a306 a307 a308)) : ∀ (fu : Nat) (x15 : Int32) (I16 : Iv) (J17 : Jv), KI4 I0 I16 → Qd2 I0 (fl_X8_findBestRow_45_2 r6 x8 Kf2 fu x15 I16 J17) := by
  intro fu
  induction fu with
  | zero =>
    intro x15 I16 J17 hI16
    rw [fl_X8_findBestRow_45_2.eq_1]
    exact hI16
  | succ kf2 ih =>
    intro x15 I16 J17 hI16
    rw [fl_X8_findBestRow_45_2.eq_2]
    exact (q4x_ite (hKf2 x15 I16 J17 hI16) (q4x_ite (hKf2 x15 I16 J17 hI16) (q4x_b2 (fr4_fn_X6_copyFrom 68 stA_68 16 I16 hI16 J17) (fun I20 J21 h309 => (q4x_b2 (fr4_fn_X8_layByRow 72 (fun _ => rfl) x15 I20 h309 J21) (fun I27 J28 h310 => (q4x_b3 (fr4_fn_X8_boxBulb I27 h310 J28) (fun r39 _ _ h311 => (q4x_b3 (fr4_fn_X8_withinOnSecondDay r39 I27 h310 J28) (fun r46 I41 J42 h312 => (q4x_b2 (fr4_fn_X8_takeIfMore x15 r46 I41 h312 J42) (fun I49 J50 h313 => (ih (x15 + (1 : Int32)) I49 J50 h313)))))))))))))
theorem fr4_fl_X8_findBestRow_12_0 {I0 : Iv} (I : Iv) (J : Jv) (r6 : Int32) (Kf0 : Int32 → Int32 → Iv × Jv) (hI : KI4 I0 I) (hKf0 : ∀ (a314 : Int32) (a315 : Int32), Qd2 I0 (Kf0 a314 a315)) : ∀ (fu : Nat) (x8 : Int32) (x9 : Int32), Qd2 I0 (fl_X8_findBestRow_12_0 I J r6 Kf0 fu x8 x9) := by
  intro fu
  induction fu with
  | zero =>
    intro x8 x9
    rw [fl_X8_findBestRow_12_0.eq_1]
    exact hI
  | succ kf0 ih =>
    intro x8 x9
    rw [fl_X8_findBestRow_12_0.eq_2]
    exact (q4x_jn (P := Qd2 I0) (hKf0 x8 x9) (fun j33_1 j316 => (q4x_ite j316 (q4x_ite j316 (q4x_lt (fun v56 => (ih v56 (x9 + (1 : Int32)))))))))
theorem fr4_fn_X8_findBestRow {I0 : Iv} (I : Iv) (hI : KI4 I0 I) (J : Jv) : Qd2 I0 (fn_X8_findBestRow I J) := by
  unfold fn_X8_findBestRow
  exact (q4x_b3 (fr4_fn_X6_foodsThere 16 stA_16 I hI J) (fun r6 _ _ h317 => (fr4_fl_X8_findBestRow_12_0 I J r6 (fun (x8 : Int32) (x9 : Int32) => l_t (wI I 67 7 (0 : Int32)) (fun (I11 : Iv) => l_t (wI I11 67 8 (-1 : Int32)) (fun (I13 : Iv) => fl_X8_findBestRow_45_2 r6 x8 (fun (x15 : Int32) (I16 : Iv) (J17 : Jv) => (I16, J17)) (mU x8 ((0 : Int32)) + 1) (0 : Int32) I13 J))) hI (fun x8 x9 => (q4x_ltI (kI4_w rfl hI) (fun I11 h318 => (q4x_ltI (kI4_w rfl h318) (fun I13 h319 => (fr4_fl_X8_findBestRow_45_2 r6 x8 (fun (x15 : Int32) (I16 : Iv) (J17 : Jv) => (I16, J17)) (fun x15 I16 J17 h320 => h320) (mU x8 ((0 : Int32)) + 1) (0 : Int32) I13 J h319)))))) (mU r6 ((0 : Int32)) + 1) (1 : Int32) (0 : Int32))))
theorem fr4_fl_X8_findBestBulb_12_0 {I0 : Iv} (Kf0 : Int32 → Iv → Jv → Iv × Jv) (hKf0 : ∀ (a321 : Int32) (a322 : Iv) (a323 : Jv), KI4 I0 a322 → Qd2 I0 (Kf0 a321 a322 a323)) : ∀ (fu : Nat) (x5 : Int32) (I6 : Iv) (J7 : Jv), KI4 I0 I6 → Qd2 I0 (fl_X8_findBestBulb_12_0 Kf0 fu x5 I6 J7) := by
  intro fu
  induction fu with
  | zero =>
    intro x5 I6 J7 hI6
    rw [fl_X8_findBestBulb_12_0.eq_1]
    exact hI6
  | succ kf0 ih =>
    intro x5 I6 J7 hI6
    rw [fl_X8_findBestBulb_12_0.eq_2]
    exact (q4x_ite (hKf0 x5 I6 J7 hI6) (q4x_b2 (fr4_fn_X6_copyFrom 68 stA_68 16 I6 hI6 J7) (fun I10 J11 h324 => (q4x_b3 (fr4_fn_X8_withinOnSecondDay x5 I10 h324 J11) (fun r22 I17 J18 h325 => (q4x_b2 (fr4_fn_X8_takeIfMore x5 r22 I17 h325 J18) (fun I25 J26 h326 => (ih (x5 + (1 : Int32)) I25 J26 h326))))))))
theorem fr4_fn_X8_findBestBulb {I0 : Iv} (I : Iv) (hI : KI4 I0 I) (J : Jv) : Qd2 I0 (fn_X8_findBestBulb I J) := by
  unfold fn_X8_findBestBulb
  exact (q4x_ltI (kI4_w rfl hI) (fun I1 h327 => (q4x_ltI (kI4_w rfl h327) (fun I3 h328 => (fr4_fl_X8_findBestBulb_12_0 (fun (x5 : Int32) (I6 : Iv) (J7 : Jv) => (I6, J7)) (fun x5 I6 J7 h329 => h329) (mU (3 : Int32) ((0 : Int32)) + 1) (0 : Int32) I3 J h328)))))
theorem fr4_fl_X8_ticksWithoutCurrent_21_0 {I0 : Iv} (f : Int32) (Kf0 : Int32 → Iv → Jv → Int32 × Iv × Jv) (hKf0 : ∀ (a330 : Int32) (a331 : Iv) (a332 : Jv), KI4 I0 a331 → Qd3 I0 (Kf0 a330 a331 a332)) : ∀ (fu : Nat) (x10 : Int32) (I11 : Iv) (J12 : Jv), KI4 I0 I11 → Qd3 I0 (fl_X8_ticksWithoutCurrent_21_0 f Kf0 fu x10 I11 J12) := by
  intro fu
  induction fu with
  | zero =>
    intro x10 I11 J12 hI11
    rw [fl_X8_ticksWithoutCurrent_21_0.eq_1]
    exact hI11
  | succ kf0 ih =>
    intro x10 I11 J12 hI11
    rw [fl_X8_ticksWithoutCurrent_21_0.eq_2]
    exact (q4x_ite (hKf0 x10 I11 J12 hI11) (q4x_b3 (fr4_fn_X8_boxBulb I11 hI11 J12) (fun r20 _ _ h333 => (q4x_b2 (fr4_fn_X7_passByDay 68 stA_68 (1 : Int32) r20 I11 hI11 J12) (fun I22 J23 h334 => (q4x_b3 (fr4_fn_X6_isWithin 68 stA_68 f I22 h334 J23) (fun r34 _ _ h335 => (q4x_ite h334 (ih (x10 + (1 : Int32)) I22 J23 h334)))))))))
theorem fr4_fn_X8_ticksWithoutCurrent {I0 : Iv} (f : Int32) (I : Iv) (hI : KI4 I0 I) (J : Jv) : Qd3 I0 (fn_X8_ticksWithoutCurrent f I J) := by
  unfold fn_X8_ticksWithoutCurrent
  exact (q4x_b2 (fr4_fn_X6_copyFrom 68 stA_68 16 I hI J) (fun I1 J2 h336 => (q4x_ltI (kI4_w rfl h336) (fun I8 h337 => (fr4_fl_X8_ticksWithoutCurrent_21_0 f (fun (x10 : Int32) (I11 : Iv) (J12 : Jv) => ((-1 : Int32), I11, J12)) (fun x10 I11 J12 h338 => h338) (mUe (864 : Int32) ((0 : Int32)) + 1) (0 : Int32) I8 J2 h337)))))
theorem fr4_fl_X8_paidStoring_26_0 {I0 : Iv} (n : Int32) (d : Int32) (price : Int32) (r6 : Int32) (Kf0 : Int64 → Int32 → Iv → Jv → Int32 × Iv × Jv) (hKf0 : ∀ (a339 : Int64) (a340 : Int32) (a341 : Iv) (a342 : Jv), KI4 I0 a341 → Qd3 I0 (Kf0 a339 a340 a341 a342)) : ∀ (fu : Nat) (x15 : Int64) (x16 : Int32) (I17 : Iv) (J18 : Jv), KI4 I0 I17 → Qd3 I0 (fl_X8_paidStoring_26_0 n d price r6 Kf0 fu x15 x16 I17 J18) := by
  intro fu
  induction fu with
  | zero =>
    intro x15 x16 I17 J18 hI17
    rw [fl_X8_paidStoring_26_0.eq_1]
    exact hI17
  | succ kf0 ih =>
    intro x15 x16 I17 J18 hI17
    rw [fl_X8_paidStoring_26_0.eq_2]
    exact (q4x_ite (hKf0 x15 x16 I17 J18 hI17) (q4x_b3 (fr4_fn_X6_tickOfDay 68 stA_68 I17 hI17 J18) (fun r26 _ _ h343 => (q4x_b3 (fr4_fn_X8_isCheapHour (r26 / (12 : Int32)) I17 hI17 J18) (fun r33 _ _ h344 => (q4x_lt (fun v35 => (q4x_b3 (fr4_fn_X3_isOpenIn r26 I17 hI17 J18) (fun r41 _ _ h345 => (q4x_b3 (fr4_fn_X8_boxBulb I17 hI17 J18) (fun r48 _ _ h346 => (q4x_jn (P := fun (j : Int32 → Int32 × Iv × Jv) => ∀ (a347 : Int32), Qd3 I0 (j a347)) (fun w50 => (q4x_b2 (fr4_fn_X7_pass 68 stA_68 r41 r48 w50 I17 hI17 J18) (fun I51 J52 h348 => (q4x_b3 (fr4_fn_X6_foodsWithin 68 stA_68 I51 h348 J52) (fun r63 _ _ h349 => (q4x_ite (q4x_jn (P := fun (j : Int32 → Int32 × Iv × Jv) => ∀ (a350 : Int32), Qd3 I0 (j a350)) (fun w65 => (q4x_lt (fun v66 => (ih v66 (x16 + (1 : Int32)) I51 J52 h348)))) (fun j146_2 j351 => (q4x_ite (j351 price) (j351 ((I51 67 6)))))) h348)))))) (fun j101_1 j352 => (q4x_ite (j352 ((0 : Int32))) (j352 d)))))))))))))))
theorem fr4_fn_X8_paidStoring {I0 : Iv} (n : Int32) (d : Int32) (price : Int32) (I : Iv) (hI : KI4 I0 I) (J : Jv) : Qd3 I0 (fn_X8_paidStoring n d price I J) := by
  unfold fn_X8_paidStoring
  exact (q4x_b3 (fr4_fn_X6_foodsThere 16 stA_16 I hI J) (fun r6 _ _ h353 => (q4x_b2 (fr4_fn_X6_copyFrom 68 stA_68 16 I hI J) (fun I8 J9 h354 => (fr4_fl_X8_paidStoring_26_0 n d price r6 (fun (x15 : Int64) (x16 : Int32) (I17 : Iv) (J18 : Jv) => ((Int64.toInt32 (x15 / (1000 : Int64))), I17, J18)) (fun x15 x16 I17 J18 h355 => h355) (mU (n * (288 : Int32)) ((0 : Int32)) + 1) (0 : Int64) (0 : Int32) I8 J9 h354)))))
theorem fr4_fl_X8_findBestStore_12_0 {I0 : Iv} (n : Int32) (price : Int32) (Kf0 : Int32 → Iv → Jv → Iv × Jv) (hKf0 : ∀ (a356 : Int32) (a357 : Iv) (a358 : Jv), KI4 I0 a357 → Qd2 I0 (Kf0 a356 a357 a358)) : ∀ (fu : Nat) (x5 : Int32) (I6 : Iv) (J7 : Jv), KI4 I0 I6 → Qd2 I0 (fl_X8_findBestStore_12_0 n price Kf0 fu x5 I6 J7) := by
  intro fu
  induction fu with
  | zero =>
    intro x5 I6 J7 hI6
    rw [fl_X8_findBestStore_12_0.eq_1]
    exact hI6
  | succ kf0 ih =>
    intro x5 I6 J7 hI6
    rw [fl_X8_findBestStore_12_0.eq_2]
    exact (q4x_ite (hKf0 x5 I6 J7 hI6) (q4x_b3 (fr4_fn_X8_paidStoring n x5 price I6 hI6 J7) (fun r14 I9 J10 h359 => (q4x_ite (ih (x5 + (5 : Int32)) I9 J10 h359) (q4x_jn (P := Qd2 I0) (q4x_ltI (kI4_w rfl h359) (fun I17 h361 => (q4x_ltI (kI4_w rfl h361) (fun I19 h362 => (ih (x5 + (5 : Int32)) I19 J10 h362))))) (fun j50_1 j360 => (q4x_ite j360 (q4x_ite (ih (x5 + (5 : Int32)) I9 J10 h359) j360))))))))
theorem fr4_fn_X8_findBestStore {I0 : Iv} (n : Int32) (price : Int32) (I : Iv) (hI : KI4 I0 I) (J : Jv) : Qd2 I0 (fn_X8_findBestStore n price I J) := by
  unfold fn_X8_findBestStore
  exact (q4x_ltI (kI4_w rfl hI) (fun I1 h363 => (q4x_ltI (kI4_w rfl h363) (fun I3 h364 => (fr4_fl_X8_findBestStore_12_0 n price (fun (x5 : Int32) (I6 : Iv) (J7 : Jv) => (I6, J7)) (fun x5 I6 J7 h365 => h365) (mUe 40 ((0 : Int32)) + 1) (0 : Int32) I3 J h364)))))
theorem fr4_fn_X5_isFigure {I0 : Iv} (x : Int32) (I : Iv) (hI : KI4 I0 I) (J : Jv) : Qd3 I0 (fn_X5_isFigure x I J) := by
  unfold fn_X5_isFigure
  exact (q4x_ite hI (q4x_ite hI hI))
theorem fr4_fn_X5_isLetter {I0 : Iv} (x : Int32) (I : Iv) (hI : KI4 I0 I) (J : Jv) : Qd3 I0 (fn_X5_isLetter x I J) := by
  unfold fn_X5_isLetter
  exact (q4x_ite hI (q4x_ite hI hI))
theorem fr4_fn_X5_faultAt {I0 : Iv} (number : Int32) (where_ : Int32) (I : Iv) (hI : KI4 I0 I) (J : Jv) : Qd2 I0 (fn_X5_faultAt number where_ I J) := by
  unfold fn_X5_faultAt
  exact (q4x_ltI (kI4_w rfl hI) (fun I1 h366 => (q4x_ltI (kI4_w rfl h366) (fun I3 h367 => h367))))
theorem fr4_fl_X5_skipBlanks_0_0 {I0 : Iv} (J : Jv) (Kf0 : Iv → Iv × Jv) (hKf0 : ∀ (a368 : Iv), KI4 I0 a368 → Qd2 I0 (Kf0 a368)) : ∀ (fu : Nat) (I1 : Iv), KI4 I0 I1 → Qd2 I0 (fl_X5_skipBlanks_0_0 J Kf0 fu I1) := by
  intro fu
  induction fu with
  | zero =>
    intro I1 hI1
    rw [fl_X5_skipBlanks_0_0.eq_1]
    exact hI1
  | succ kf0 ih =>
    intro I1 hI1
    rw [fl_X5_skipBlanks_0_0.eq_2]
    exact (q4x_ite (hKf0 I1 hI1) (q4x_ite (q4x_ltI (kI4_w rfl hI1) (fun I3 h369 => (ih I3 h369))) (hKf0 I1 hI1)))
theorem fr4_fn_X5_skipBlanks {I0 : Iv} (I : Iv) (hI : KI4 I0 I) (J : Jv) : Qd2 I0 (fn_X5_skipBlanks I J) := by
  unfold fn_X5_skipBlanks
  exact (fr4_fl_X5_skipBlanks_0_0 J (fun (I1 : Iv) => (I1, J)) (fun I1 h370 => h370) (mU (I 1 1) (I 1 2) + 1) I hI)
theorem fr4_fl_X5_readWord_0_0 {I0 : Iv} (J : Jv) (Kf0 : Iv → Iv × Jv) (hKf0 : ∀ (a371 : Iv), KI4 I0 a371 → Qd2 I0 (Kf0 a371)) : ∀ (fu : Nat) (I1 : Iv), KI4 I0 I1 → Qd2 I0 (fl_X5_readWord_0_0 J Kf0 fu I1) := by
  intro fu
  induction fu with
  | zero =>
    intro I1 hI1
    rw [fl_X5_readWord_0_0.eq_1]
    exact hI1
  | succ kf0 ih =>
    intro I1 hI1
    rw [fl_X5_readWord_0_0.eq_2]
    exact (q4x_ite (hKf0 I1 hI1) (q4x_b3 (fr4_fn_X5_isLetter (I1 2 ((I1 1 2)).toNatClampNeg) I1 hI1 J) (fun r8 _ _ h372 => (q4x_ite (hKf0 I1 hI1) (q4x_ltI (kI4_w rfl hI1) (fun I10 h373 => (ih I10 h373)))))))
theorem fr4_fn_X5_readWord {I0 : Iv} (I : Iv) (hI : KI4 I0 I) (J : Jv) : Qd2 I0 (fn_X5_readWord I J) := by
  unfold fn_X5_readWord
  exact (fr4_fl_X5_readWord_0_0 J (fun (I1 : Iv) => (I1, J)) (fun I1 h374 => h374) (mU (I 1 1) (I 1 2) + 1) I hI)
theorem fr4_fn_X5_begin {I0 : Iv} (I : Iv) (hI : KI4 I0 I) (J : Jv) : Qd2 I0 (fn_X5_begin I J) := by
  unfold fn_X5_begin
  exact (q4x_ltI (kI4_w rfl hI) (fun I1 h375 => (q4x_ltI (kI4_w rfl h375) (fun I3 h376 => (q4x_ltI (kI4_w rfl h376) (fun I5 h377 => (q4x_ltI (kI4_w rfl h377) (fun I7 h378 => (q4x_b2 (fr4_fn_X5_skipBlanks I7 h378 J) (fun I9 J10 h379 => h379))))))))))
theorem fr4_fn_X5_wordOf {I0 : Iv} (x : Int32) (I : Iv) (hI : KI4 I0 I) (J : Jv) : Qd3 I0 (fn_X5_wordOf x I J) := by
  unfold fn_X5_wordOf
  exact (q4x_ite hI (q4x_lt (fun sw0 => (q4x_ite hI (q4x_ite hI (q4x_ite hI (q4x_ite hI (q4x_ite hI (q4x_ite hI (q4x_ite hI (q4x_ite hI (q4x_ite hI (q4x_ite hI (q4x_ite hI (q4x_ite hI hI)))))))))))))))
theorem fr4_fl_X5_isWord_17_0 {I0 : Iv} (I : Iv) (J : Jv) (first : Int32) (j : Nat) (Kf0 : Int32 → Int32 × Iv × Jv) (hI : KI4 I0 I) (hKf0 : ∀ (a380 : Int32), Qd3 I0 (Kf0 a380)) : ∀ (fu : Nat) (x8 : Int32), Qd3 I0 (fl_X5_isWord_17_0 I J first j Kf0 fu x8) := by
  intro fu
  induction fu with
  | zero =>
    intro x8
    rw [fl_X5_isWord_17_0.eq_1]
    exact hI
  | succ kf0 ih =>
    intro x8
    rw [fl_X5_isWord_17_0.eq_2]
    exact (q4x_lt (fun r15 => (q4x_ite (hKf0 x8) (q4x_lt (fun r22 => (q4x_ite (ih (x8 + (1 : Int32))) hI))))))
theorem fr4_fn_X5_isWord {I0 : Iv} (j : Nat) (first : Int32) (I : Iv) (hI : KI4 I0 I) (J : Jv) : Qd3 I0 (fn_X5_isWord j first I J) := by
  unfold fn_X5_isWord
  exact (q4x_lt (fun r6 => (q4x_ite (fr4_fl_X5_isWord_17_0 I J first j (fun (x8 : Int32) => ((1 : Int32), I, J)) hI (fun x8 => hI) (mU (Int32.ofNat (sB j).length) ((0 : Int32)) + 1) (0 : Int32)) hI)))
theorem fr4_fl_X5_clauseFrom_2_0 {I0 : Iv} (I : Iv) (J : Jv) (first : Int32) (Kf0 : Int32 → Int32 × Iv × Jv) (hI : KI4 I0 I) (hKf0 : ∀ (a381 : Int32), Qd3 I0 (Kf0 a381)) : ∀ (fu : Nat) (x1 : Int32), Qd3 I0 (fl_X5_clauseFrom_2_0 I J first Kf0 fu x1) := by
  intro fu
  induction fu with
  | zero =>
    intro x1
    rw [fl_X5_clauseFrom_2_0.eq_1]
    exact hI
  | succ kf0 ih =>
    intro x1
    rw [fl_X5_clauseFrom_2_0.eq_2]
    exact (q4x_ite (hKf0 x1) (q4x_b3 (fr4_fn_X5_wordOf x1 I hI J) (fun r8 _ _ h382 => (q4x_lt (fun j => (q4x_b3 (fr4_fn_X5_isWord j first I hI J) (fun r15 _ _ h383 => (q4x_ite (ih (x1 + (1 : Int32))) hI))))))))
theorem fr4_fn_X5_clauseFrom {I0 : Iv} (first : Int32) (I : Iv) (hI : KI4 I0 I) (J : Jv) : Qd3 I0 (fn_X5_clauseFrom first I J) := by
  unfold fn_X5_clauseFrom
  exact (fr4_fl_X5_clauseFrom_2_0 I J first (fun (x1 : Int32) => ((-1 : Int32), I, J)) hI (fun x1 => hI) (mU (13 : Int32) ((0 : Int32)) + 1) (0 : Int32))
theorem fr4_fl_X5_readNumber_21_0 {I0 : Iv} (J2 : Jv) (v8 : Int32) (Kf0 : Int32 → Iv → Int32 × Iv × Jv) (hKf0 : ∀ (a384 : Int32) (a385 : Iv), KI4 I0 a385 → Qd3 I0 (Kf0 a384 a385)) : ∀ (fu : Nat) (x9 : Int32) (I10 : Iv), KI4 I0 I10 → Qd3 I0 (fl_X5_readNumber_21_0 J2 v8 Kf0 fu x9 I10) := by
  intro fu
  induction fu with
  | zero =>
    intro x9 I10 hI10
    rw [fl_X5_readNumber_21_0.eq_1]
    exact hI10
  | succ kf0 ih =>
    intro x9 I10 hI10
    rw [fl_X5_readNumber_21_0.eq_2]
    exact (q4x_jn (P := Qd3 I0) (hKf0 x9 I10 hI10) (fun j90_1 j386 => (q4x_ite j386 (q4x_b3 (fr4_fn_X5_isFigure (I10 2 ((I10 1 2)).toNatClampNeg) I10 hI10 J2) (fun r31 _ _ h387 => (q4x_ite j386 (q4x_jn (P := fun (j : Int32 → Int32 × Iv × Jv) => ∀ (a388 : Int32), Qd3 I0 (j a388)) (fun y33 => (q4x_ltI (kI4_w rfl hI10) (fun I34 h389 => (ih y33 I34 h389)))) (fun j77_3 j390 => (q4x_ite (j390 x9) (q4x_lt (fun v36 => (j390 v36))))))))))))
theorem fr4_fn_X5_readNumber {I0 : Iv} (least : Int32) (most : Int32) (I : Iv) (hI : KI4 I0 I) (J : Jv) : Qd3 I0 (fn_X5_readNumber least most I J) := by
  unfold fn_X5_readNumber
  exact (q4x_ite (q4x_b2 (fr4_fn_X5_skipBlanks I hI J) (fun I1 J2 h391 => (q4x_lt (fun v8 => (fr4_fl_X5_readNumber_21_0 J2 v8 (fun (x9 : Int32) (I10 : Iv) => if (I10 1 2) = v8 then b_n2 (fn_X5_faultAt (1 : Int32) v8 I10 J2) (fun (I19 : Iv) (J20 : Jv) => (x9, I19, J20)) else j_n (b_n2 (fn_X5_faultAt (2 : Int32) v8 I10 J2) (fun (I12 : Iv) (J13 : Jv) => (x9, I12, J13))) (fun (j129_2 : Int32 × Iv × Jv) => if (3 : Int32) < ((I10 1 2) - v8) then j129_2 else if x9 < least then j129_2 else if x9 ≤ most then (x9, I10, J2) else j129_2)) (fun x9 I10 h392 => (q4x_ite (q4x_b2 (fr4_fn_X5_faultAt (1 : Int32) v8 I10 h392 J2) (fun I19 J20 h393 => h393)) (q4x_jn (P := Qd3 I0) (q4x_b2 (fr4_fn_X5_faultAt (2 : Int32) v8 I10 h392 J2) (fun I12 J13 h395 => h395)) (fun j129_2 j394 => (q4x_ite j394 (q4x_ite j394 (q4x_ite h392 j394))))))) (mU (I1 1 1) (I1 1 2) + 1) (0 : Int32) I1 h391))))) hI)
theorem fr4_fn_X5_readClauseEnd {I0 : Iv} (I : Iv) (hI : KI4 I0 I) (J : Jv) : Qd2 I0 (fn_X5_readClauseEnd I J) := by
  unfold fn_X5_readClauseEnd
  exact (q4x_ite (q4x_b2 (fr4_fn_X5_skipBlanks I hI J) (fun I1 J2 h396 => (q4x_jn (P := Qd2 I0) (q4x_b2 (fr4_fn_X5_faultAt (1 : Int32) (I1 1 2) I1 h396 J2) (fun I8 J9 h398 => h398)) (fun j60_0 j397 => (q4x_ite j397 (q4x_ite (q4x_ltI (kI4_w rfl h396) (fun I15 h399 => (q4x_ltI (kI4_w rfl h399) (fun I17 h400 => h400)))) j397)))))) hI)
theorem fr4_fn_X5_readClauseNumbers {I0 : Iv} (clause : Int32) (I : Iv) (hI : KI4 I0 I) (J : Jv) : Qd2 I0 (fn_X5_readClauseNumbers clause I J) := by
  unfold fn_X5_readClauseNumbers
  exact (q4x_lt (fun t1 => (q4x_lt (fun t2 => (q4x_b3 (fr4_fn_X5_readNumber t1 t2 I hI J) (fun r8 I3 J4 h401 => (q4x_ltI (kI4_w rfl h401) (fun I11 h402 => (q4x_ite (q4x_lt (fun t13 => (q4x_b3 (fr4_fn_X5_readNumber ((I11 4 12) + (1 : Int32)) t13 I11 h402 J4) (fun r19 I14 J15 h403 => (q4x_ltI (kI4_w rfl h403) (fun I22 h404 => (q4x_lt (fun t24 => (q4x_lt (fun t25 => (q4x_b3 (fr4_fn_X5_readNumber t24 t25 I22 h404 J15) (fun r31 I26 J27 h405 => (q4x_ltI (kI4_w rfl h405) (fun I34 h406 => h406)))))))))))))) h402)))))))))
theorem fr4_fn_X5_readClause {I0 : Iv} (I : Iv) (hI : KI4 I0 I) (J : Jv) : Qd2 I0 (fn_X5_readClause I J) := by
  unfold fn_X5_readClause
  exact (q4x_lt (fun v1 => (q4x_b2 (fr4_fn_X5_readWord I hI J) (fun I2 J3 h407 => (q4x_b3 (fr4_fn_X5_clauseFrom v1 I2 h407 J3) (fun r14 _ _ h408 => (q4x_jn (P := Qd2 I0) (q4x_b2 (fr4_fn_X5_faultAt (1 : Int32) v1 I2 h407 J3) (fun I16 J17 h410 => h410)) (fun j25_0 j409 => (q4x_ite j409 (q4x_ite (q4x_ite (q4x_ltI (kI4_w rfl h407) (fun I23 h411 => (q4x_b2 (fr4_fn_X5_readClauseNumbers r14 I23 h411 J3) (fun I25 J26 h412 => (q4x_b2 (fr4_fn_X5_readClauseEnd I25 h412 J26) (fun I32 J33 h413 => h413)))))) (q4x_b2 (fr4_fn_X5_faultAt (3 : Int32) v1 I2 h407 J3) (fun I39 J40 h414 => h414))) j409))))))))))
theorem fr4_fn_X5_readOpening {I0 : Iv} (I : Iv) (hI : KI4 I0 I) (J : Jv) : Qd2 I0 (fn_X5_readOpening I J) := by
  unfold fn_X5_readOpening
  exact (q4x_lt (fun v1 => (q4x_b2 (fr4_fn_X5_readWord I hI J) (fun I2 J3 h415 => (q4x_b3 (fr4_fn_X5_isWord 13 v1 I2 h415 J3) (fun r14 _ _ h416 => (q4x_ite (q4x_b2 (fr4_fn_X5_faultAt (1 : Int32) v1 I2 h415 J3) (fun I52 J53 h417 => h417)) (q4x_ite (q4x_lt (fun v16 => (q4x_jn (P := fun (j : Int32 → Iv × Jv) => ∀ (a418 : Int32), Qd2 I0 (j a418)) (fun w17 => (q4x_b3 (fr4_fn_X5_readNumber w17 (287 : Int32) I2 h415 J3) (fun r23 I18 J19 h419 => (q4x_ltI (kI4_w rfl h419) (fun I26 h420 => (q4x_b3 (fr4_fn_X5_readNumber (1 : Int32) (20 : Int32) I26 h420 J19) (fun r33 I28 J29 h421 => (q4x_ltI (kI4_w rfl h421) (fun I36 h422 => (q4x_b2 (fr4_fn_X5_readClauseEnd I36 h422 J29) (fun I38 J39 h423 => h423))))))))))) (fun j69_0 j424 => (q4x_ite (j424 ((0 : Int32))) (j424 (((I2 5 ((v16 - (1 : Int32))).toNatClampNeg) + (1 : Int32))))))))) (q4x_b2 (fr4_fn_X5_faultAt (3 : Int32) v1 I2 h415 J3) (fun I45 J46 h425 => h425))))))))))
theorem fr4_fl_X5_readBox_41_1 {I0 : Iv} (Kf1 : Int32 → Iv → Jv → Iv × Jv) (hKf1 : ∀ (a426 : Int32) (a427 : Iv) (a428 : Jv), KI4 I0 a427 → Qd2 I0 (Kf1 a426 a427 a428)) : ∀ (fu : Nat) (x14 : Int32) (I15 : Iv) (J16 : Jv), KI4 I0 I15 → Qd2 I0 (fl_X5_readBox_41_1 Kf1 fu x14 I15 J16) := by
  intro fu
  induction fu with
  | zero =>
    intro x14 I15 J16 hI15
    rw [fl_X5_readBox_41_1.eq_1]
    exact hI15
  | succ kf1 ih =>
    intro x14 I15 J16 hI15
    rw [fl_X5_readBox_41_1.eq_2]
    exact (q4x_jn (P := Qd2 I0) (hKf1 x14 I15 J16 hI15) (fun j80_2 j429 => (q4x_ite j429 (q4x_ite (q4x_ite j429 (q4x_b2 (fr4_fn_X5_readClause I15 hI15 J16) (fun I26 J27 h430 => (q4x_b2 (fr4_fn_X5_skipBlanks I26 h430 J27) (fun I33 J34 h431 => (ih (x14 + (1 : Int32)) I33 J34 h431)))))) j429))))
theorem fr4_fl_X5_readBox_6_0 {I0 : Iv} (J2 : Jv) (Kf0 : Int32 → Iv → Iv × Jv) (hKf0 : ∀ (a432 : Int32) (a433 : Iv), KI4 I0 a433 → Qd2 I0 (Kf0 a432 a433)) : ∀ (fu : Nat) (x8 : Int32) (I9 : Iv), KI4 I0 I9 → Qd2 I0 (fl_X5_readBox_6_0 J2 Kf0 fu x8 I9) := by
  intro fu
  induction fu with
  | zero =>
    intro x8 I9 hI9
    rw [fl_X5_readBox_6_0.eq_1]
    exact hI9
  | succ kf0 ih =>
    intro x8 I9 hI9
    rw [fl_X5_readBox_6_0.eq_2]
    exact (q4x_ite (hKf0 x8 I9 hI9) (q4x_ltI (kI4_w rfl hI9) (fun I40 h434 => (ih (x8 + (1 : Int32)) I40 h434))))
theorem fr4_fn_X5_readBox {I0 : Iv} (I : Iv) (hI : KI4 I0 I) (J : Jv) : Qd2 I0 (fn_X5_readBox I J) := by
  unfold fn_X5_readBox
  exact (q4x_b2 (fr4_fn_X5_begin I hI J) (fun I1 J2 h435 => (fr4_fl_X5_readBox_6_0 J2 (fun (x8 : Int32) (I9 : Iv) => l_t (cI I9 4 15 (fun i => (((stI.getD 0 default).2).getD i 0))) (fun (I12 : Iv) => fl_X5_readBox_41_1  (fun (x14 : Int32) (I15 : Iv) (J16 : Jv) => if (I15 1 3) = 0 then if (I15 4 7) < (I15 4 6) then (I15, J16) else b_n2 (fn_X5_faultAt (4 : Int32) (I15 1 1) I15 J16) (fun (I19 : Iv) (J20 : Jv) => (I19, J20)) else (I15, J16)) (mUe (300 : Int32) ((0 : Int32)) + 1) (0 : Int32) I12 J2)) (fun x8 I9 h436 => (q4x_ltI (kI4_c (fun _ => rfl) h436) (fun I12 h437 => (fr4_fl_X5_readBox_41_1 (fun (x14 : Int32) (I15 : Iv) (J16 : Jv) => if (I15 1 3) = 0 then if (I15 4 7) < (I15 4 6) then (I15, J16) else b_n2 (fn_X5_faultAt (4 : Int32) (I15 1 1) I15 J16) (fun (I19 : Iv) (J20 : Jv) => (I19, J20)) else (I15, J16)) (fun x14 I15 J16 h438 => (q4x_ite (q4x_ite h438 (q4x_b2 (fr4_fn_X5_faultAt (4 : Int32) (I15 1 1) I15 h438 J16) (fun I19 J20 h439 => h439))) h438)) (mUe (300 : Int32) ((0 : Int32)) + 1) (0 : Int32) I12 J2 h437)))) (mU (13 : Int32) ((0 : Int32)) + 1) (0 : Int32) I1 h435)))
theorem fr4_fl_X5_readDay_6_0 {I0 : Iv} (Kf0 : Int32 → Iv → Jv → Iv × Jv) (hKf0 : ∀ (a440 : Int32) (a441 : Iv) (a442 : Jv), KI4 I0 a441 → Qd2 I0 (Kf0 a440 a441 a442)) : ∀ (fu : Nat) (x8 : Int32) (I9 : Iv) (J10 : Jv), KI4 I0 I9 → Qd2 I0 (fl_X5_readDay_6_0 Kf0 fu x8 I9 J10) := by
  intro fu
  induction fu with
  | zero =>
    intro x8 I9 J10 hI9
    rw [fl_X5_readDay_6_0.eq_1]
    exact hI9
  | succ kf0 ih =>
    intro x8 I9 J10 hI9
    rw [fl_X5_readDay_6_0.eq_2]
    exact (q4x_ite (hKf0 x8 I9 J10 hI9) (q4x_ite (q4x_ite (hKf0 x8 I9 J10 hI9) (q4x_b2 (fr4_fn_X5_readOpening I9 hI9 J10) (fun I13 J14 h443 => (q4x_b2 (fr4_fn_X5_skipBlanks I13 h443 J14) (fun I20 J21 h444 => (ih (x8 + (1 : Int32)) I20 J21 h444)))))) (hKf0 x8 I9 J10 hI9)))
theorem fr4_fn_X5_readDay {I0 : Iv} (I : Iv) (hI : KI4 I0 I) (J : Jv) : Qd2 I0 (fn_X5_readDay I J) := by
  unfold fn_X5_readDay
  exact (q4x_b2 (fr4_fn_X5_begin I hI J) (fun I1 J2 h445 => (fr4_fl_X5_readDay_6_0 (fun (x8 : Int32) (I9 : Iv) (J10 : Jv) => (I9, J10)) (fun x8 I9 J10 h446 => h446) (mUe (300 : Int32) ((0 : Int32)) + 1) (0 : Int32) I1 J2 h445)))
theorem fr4_fl_X5_append_19_0 {I0 : Iv} (J : Jv) (bytes : Int64) (Kf0 : Int32 → Iv → Int32 × Iv × Jv) (hKf0 : ∀ (a447 : Int32) (a448 : Iv), KI4 I0 a448 → Qd3 I0 (Kf0 a447 a448)) : ∀ (fu : Nat) (x2 : Int32) (I3 : Iv), KI4 I0 I3 → Qd3 I0 (fl_X5_append_19_0 J bytes Kf0 fu x2 I3) := by
  intro fu
  induction fu with
  | zero =>
    intro x2 I3 hI3
    rw [fl_X5_append_19_0.eq_1]
    exact hI3
  | succ kf0 ih =>
    intro x2 I3 hI3
    rw [fl_X5_append_19_0.eq_2]
    exact (q4x_ite (hKf0 x2 I3 hI3) (q4x_ite (ih (x2 + (-1 : Int32)) I3 hI3) (q4x_ltI (kI4_w rfl hI3) (fun I6 h449 => (q4x_ltI (kI4_w rfl h449) (fun I8 h450 => (ih (x2 + (-1 : Int32)) I8 h450)))))))
theorem fr4_fn_X5_append {I0 : Iv} (n : Int32) (bytes : Int64) (I : Iv) (hI : KI4 I0 I) (J : Jv) : Qd3 I0 (fn_X5_append n bytes I J) := by
  unfold fn_X5_append
  exact (q4x_ite (q4x_lt (fun v1 => (fr4_fl_X5_append_19_0 J bytes (fun (x2 : Int32) (I3 : Iv) => ((1 : Int32), I3, J)) (fun x2 I3 h451 => h451) (mD v1 + 1) v1 I hI))) hI)
theorem fr4_fn_X9_feed {I0 : Iv} (n : Int32) (bytes : Int64) (I : Iv) (hI : KI4 I0 I) (J : Jv) : Qd3 I0 (fn_X9_feed n bytes I J) := by
  unfold fn_X9_feed
  exact (q4x_ite hI (q4x_ite (q4x_b3 (fr4_fn_X5_append n bytes I hI J) (fun r6 I1 J2 h452 => (q4x_ite h452 h452))) hI))
theorem fr4_fn_X9_box {I0 : Iv} (I : Iv) (hI : KI4 I0 I) (J : Jv) : Qd3 I0 (fn_X9_box I J) := by
  unfold fn_X9_box
  exact (q4x_b2 (fr4_fn_X5_readBox I hI J) (fun I1 J2 h453 => (q4x_ltI (kI4_w rfl h453) (fun I8 h454 => (q4x_ite (q4x_b2 (fr4_fn_X0_copyFrom I8 h454 J2) (fun I10 J11 h455 => (q4x_b2 (fr4_fn_X6_becomeFresh 16 stA_16 I10 h455 J11) (fun I17 J18 h456 => (q4x_b2 (fr4_fn_X1_forgetSigns I17 h456 J18) (fun I24 J25 h457 => h457)))))) h454)))))
theorem fr4_fn_X9_day {I0 : Iv} (I : Iv) (hI : KI4 I0 I) (J : Jv) : Qd3 I0 (fn_X9_day I J) := by
  unfold fn_X9_day
  exact (q4x_b2 (fr4_fn_X5_readDay I hI J) (fun I1 J2 h458 => (q4x_ltI (kI4_w rfl h458) (fun I8 h459 => (q4x_ite (q4x_b2 (fr4_fn_X3_copyFrom (I8 1 5) I8 h459 J2) (fun I10 J11 h460 => (q4x_b2 (fr4_fn_X1_forgetSigns I10 h460 J11) (fun I17 J18 h461 => h461)))) h459)))))
theorem fr4_fn_X9_fault {I0 : Iv} (I : Iv) (hI : KI4 I0 I) (J : Jv) : Qd3 I0 (fn_X9_fault I J) := by
  unfold fn_X9_fault
  exact hI
theorem fr4_fn_X9_told {I0 : Iv} (what : Int32) (I : Iv) (hI : KI4 I0 I) (J : Jv) : Qd3 I0 (fn_X9_told what I J) := by
  unfold fn_X9_told
  exact (q4x_ite hI (q4x_ite hI hI))
theorem fr4_fn_X9_opening {I0 : Iv} (i : Int32) (what : Int32) (I : Iv) (hI : KI4 I0 I) (J : Jv) : Qd3 I0 (fn_X9_opening i what I J) := by
  unfold fn_X9_opening
  exact (q4x_ite hI (q4x_ite (q4x_ite hI (q4x_ite hI (q4x_ite (q4x_ite hI hI) hI))) hI))
theorem fr4_fn_X9_trouble {I0 : Iv} (set : Int32) (I : Iv) (hI : KI4 I0 I) (J : Jv) : Qd3 I0 (fn_X9_trouble set I J) := by
  unfold fn_X9_trouble
  exact (q4x_b3 (fr4_fn_X9_isSet set I hI J) (fun r6 _ _ h462 => (q4x_ite hI (q4x_lt (fun v8 => (q4x_ltI (kI4_w rfl hI) (fun I9 h463 => (q4x_ite h463 (q4x_ite (q4x_ltI (kI4_w rfl h463) (fun I11 h464 => h464)) h463)))))))))
theorem fr4_fn_X9_fresh {I0 : Iv} (I : Iv) (hI : KI4 I0 I) (J : Jv) : Qd3 I0 (fn_X9_fresh I J) := by
  unfold fn_X9_fresh
  exact (q4x_lt (fun v1 => (q4x_b2 (fr4_fn_X6_becomeFresh 16 stA_16 I hI J) (fun I2 J3 h465 => h465))))
theorem fr4_fn_X9_current {I0 : Iv} (on : Int32) (I : Iv) (hI : KI4 I0 I) (J : Jv) : Qd3 I0 (fn_X9_current on I J) := by
  unfold fn_X9_current
  exact (q4x_jn (P := fun (j : Int32 → Int32 × Iv × Jv) => ∀ (a466 : Int32), Qd3 I0 (j a466)) (fun w1 => (q4x_ltI (kI4_w rfl hI) (fun I2 h467 => h467))) (fun j15_0 j468 => (q4x_ite (j468 ((0 : Int32))) (j468 ((1 : Int32))))))
theorem fr4_fn_X9_cover {I0 : Iv} (on : Int32) (I : Iv) (hI : KI4 I0 I) (J : Jv) : Qd3 I0 (fn_X9_cover on I J) := by
  unfold fn_X9_cover
  exact (q4x_jn (P := fun (j : Int32 → Int32 × Iv × Jv) => ∀ (a469 : Int32), Qd3 I0 (j a469)) (fun w1 => (q4x_ltI (kI4_w rfl hI) (fun I2 h470 => h470))) (fun j15_0 j471 => (q4x_ite (j471 ((0 : Int32))) (j471 ((1 : Int32))))))
theorem fr4_fn_X9_put {I0 : Iv} (s : Int32) (w : Int32) (c : Int32) (low : Int32) (high : Int32) (I : Iv) (hI : KI4 I0 I) (J : Jv) : Qd3 I0 (fn_X9_put s w c low high I J) := by
  unfold fn_X9_put
  exact (q4x_b3 (fr4_fn_X9_isShelf s I hI J) (fun r6 _ _ h472 => (q4x_ite hI (q4x_b3 (fr4_fn_X9_canBeWarmth w I hI J) (fun r13 _ _ h473 => (q4x_ite hI (q4x_ite hI (q4x_ite (q4x_b3 (fr4_fn_X9_canBeWarmth low I hI J) (fun r20 _ _ h474 => (q4x_ite hI (q4x_b3 (fr4_fn_X9_canBeWarmth high I hI J) (fun r27 _ _ h475 => (q4x_ite hI (q4x_ite (q4x_b3 (fr4_fn_X6_firstNotThere 16 stA_16 I hI J) (fun r34 _ _ h476 => (q4x_ite (q4x_ltI (kI4_w rfl hI) (fun I36 h477 => (q4x_ltI (kI4_w rfl h477) (fun I38 h478 => (q4x_b2 (fr4_fn_X6_addFood 16 stA_16 r34 s w c I38 h478 J) (fun I40 J41 h479 => h479)))))) hI))) hI))))))) hI))))))))
theorem fr4_fn_X9_take {I0 : Iv} (f : Int32) (I : Iv) (hI : KI4 I0 I) (J : Jv) : Qd3 I0 (fn_X9_take f I J) := by
  unfold fn_X9_take
  exact (q4x_b3 (fr4_fn_X6_hasFood 16 stA_16 f I hI J) (fun r6 _ _ h480 => (q4x_ite hI (q4x_b3 (fr4_fn_X6_warmthOf 16 stA_16 ((4 : Int32) + f) I hI J) (fun r13 _ _ h481 => (q4x_b2 (fr4_fn_X6_removeFood 16 stA_16 f I hI J) (fun I15 J16 h482 => h482)))))))
theorem fr4_fn_X9_lay {I0 : Iv} (f : Int32) (s : Int32) (I : Iv) (hI : KI4 I0 I) (J : Jv) : Qd3 I0 (fn_X9_lay f s I J) := by
  unfold fn_X9_lay
  exact (q4x_b3 (fr4_fn_X6_hasFood 16 stA_16 f I hI J) (fun r6 _ _ h483 => (q4x_ite hI (q4x_b3 (fr4_fn_X9_isShelf s I hI J) (fun r13 _ _ h484 => (q4x_ite hI (q4x_lt (fun v15 => (q4x_ltI (kI4_w rfl hI) (fun I16 h485 => h485))))))))))
theorem fr4_fn_X9_food {I0 : Iv} (f : Int32) (what : Int32) (I : Iv) (hI : KI4 I0 I) (J : Jv) : Qd3 I0 (fn_X9_food f what I J) := by
  unfold fn_X9_food
  exact (q4x_b3 (fr4_fn_X6_hasFood 16 stA_16 f I hI J) (fun r6 _ _ h486 => (q4x_ite hI (q4x_ite hI (q4x_lt (fun sw0 => (q4x_ite hI (q4x_ite (q4x_b3 (fr4_fn_X6_warmthOf 16 stA_16 ((4 : Int32) + f) I hI J) (fun r13 _ _ h487 => hI)) (q4x_ite hI (q4x_ite hI (q4x_ite hI (q4x_ite (q4x_b3 (fr4_fn_X6_isWithin 16 stA_16 f I hI J) (fun r20 _ _ h488 => (q4x_ite hI hI))) hI))))))))))))
theorem fr4_fn_X9_run {I0 : Iv} (n : Int32) (I : Iv) (hI : KI4 I0 I) (J : Jv) : Qd3 I0 (fn_X9_run n I J) := by
  unfold fn_X9_run
  exact (q4x_ite hI (q4x_ite (q4x_lt (fun v1 => (q4x_b2 (fr4_fn_X7_passByDay 16 stA_16 n (I 8 8) I hI J) (fun I2 J3 h489 => h489)))) hI))
theorem fr4_fl_X9_drawDoor_24_1 {I0 : Iv} (m : Int32) (Kf1 : Int32 → Iv → Jv → Iv × Jv) (hKf1 : ∀ (a490 : Int32) (a491 : Iv) (a492 : Jv), KI4 I0 a491 → Qd2 I0 (Kf1 a490 a491 a492)) : ∀ (fu : Nat) (x5 : Int32) (I6 : Iv) (J7 : Jv), KI4 I0 I6 → Qd2 I0 (fl_X9_drawDoor_24_1 m Kf1 fu x5 I6 J7) := by
  intro fu
  induction fu with
  | zero =>
    intro x5 I6 J7 hI6
    rw [fl_X9_drawDoor_24_1.eq_1]
    exact hI6
  | succ kf1 ih =>
    intro x5 I6 J7 hI6
    rw [fl_X9_drawDoor_24_1.eq_2]
    exact (q4x_ite (hKf1 x5 I6 J7 hI6) (q4x_b3 (fr4_fn_X6_draw 16 stA_16 (288 : Int32) I6 hI6 J7) (fun r15 I10 J11 h493 => (q4x_ite (ih (x5 + (1 : Int32)) I10 J11 h493) (q4x_ite (ih (x5 + (1 : Int32)) I10 J11 h493) (q4x_ltI (kI4_w rfl h493) (fun I18 h494 => (ih (x5 + (1 : Int32)) I18 J11 h494))))))))
theorem fr4_fl_X9_drawDoor_2_0 {I0 : Iv} (J : Jv) (Kf0 : Int32 → Iv → Iv × Jv) (hKf0 : ∀ (a495 : Int32) (a496 : Iv), KI4 I0 a496 → Qd2 I0 (Kf0 a495 a496)) : ∀ (fu : Nat) (x1 : Int32) (I2 : Iv), KI4 I0 I2 → Qd2 I0 (fl_X9_drawDoor_2_0 J Kf0 fu x1 I2) := by
  intro fu
  induction fu with
  | zero =>
    intro x1 I2 hI2
    rw [fl_X9_drawDoor_2_0.eq_1]
    exact hI2
  | succ kf0 ih =>
    intro x1 I2 hI2
    rw [fl_X9_drawDoor_2_0.eq_2]
    exact (q4x_ite (hKf0 x1 I2 hI2) (q4x_ltI (kI4_w rfl hI2) (fun I20 h497 => (ih (x1 + (1 : Int32)) I20 h497))))
theorem fr4_fn_X9_drawDoor {I0 : Iv} (m : Int32) (I : Iv) (hI : KI4 I0 I) (J : Jv) : Qd2 I0 (fn_X9_drawDoor m I J) := by
  unfold fn_X9_drawDoor
  exact (fr4_fl_X9_drawDoor_2_0 J (fun (x1 : Int32) (I2 : Iv) => fl_X9_drawDoor_24_1 m (fun (x5 : Int32) (I6 : Iv) (J7 : Jv) => (I6, J7)) (mU m ((0 : Int32)) + 1) (0 : Int32) I2 J) (fun x1 I2 h498 => (fr4_fl_X9_drawDoor_24_1 m (fun (x5 : Int32) (I6 : Iv) (J7 : Jv) => (I6, J7)) (fun x5 I6 J7 h499 => h499) (mU m ((0 : Int32)) + 1) (0 : Int32) I2 J h498)) (mU (288 : Int32) ((0 : Int32)) + 1) (0 : Int32) I hI)
theorem fr4_fl_X9_drawn_37_0 {I0 : Iv} (n : Int32) (m : Int32) (Kf0 : Int32 → Iv → Jv → Int32 × Iv × Jv) (hKf0 : ∀ (a500 : Int32) (a501 : Iv) (a502 : Jv), KI4 I0 a501 → Qd3 I0 (Kf0 a500 a501 a502)) : ∀ (fu : Nat) (x2 : Int32) (I3 : Iv) (J4 : Jv), KI4 I0 I3 → Qd3 I0 (fl_X9_drawn_37_0 n m Kf0 fu x2 I3 J4) := by
  intro fu
  induction fu with
  | zero =>
    intro x2 I3 J4 hI3
    rw [fl_X9_drawn_37_0.eq_1]
    exact hI3
  | succ kf0 ih =>
    intro x2 I3 J4 hI3
    rw [fl_X9_drawn_37_0.eq_2]
    exact (q4x_ite (hKf0 x2 I3 J4 hI3) (q4x_b3 (fr4_fn_X6_tickOfDay 16 stA_16 I3 hI3 J4) (fun r12 _ _ h503 => (q4x_jn (P := fun (j : Iv → Jv → Int32 × Iv × Jv) => ∀ (a504 : Iv) (a505 : Jv), KI4 I0 a504 → Qd3 I0 (j a504 a505)) (fun I14 J15 h506 => (q4x_b2 (fr4_fn_X7_pass 16 stA_16 (I14 44 r12.toNatClampNeg) (I14 8 8) (0 : Int32) I14 h506 J15) (fun I17 J18 h507 => (ih (x2 + (1 : Int32)) I17 J18 h507)))) (fun j71_1 j508 => (q4x_jn (P := Qd3 I0) (q4x_b2 (fr4_fn_X9_drawDoor m I3 hI3 J4) (fun I24 J25 h510 => (j508 I24 J25 h510))) (fun j66_2 j509 => (q4x_ite j509 (q4x_ite j509 (j508 I3 J4 hI3))))))))))
theorem fr4_fn_X9_drawn {I0 : Iv} (n : Int32) (m : Int32) (I : Iv) (hI : KI4 I0 I) (J : Jv) : Qd3 I0 (fn_X9_drawn n m I J) := by
  unfold fn_X9_drawn
  exact (q4x_ite hI (q4x_ite hI (q4x_ite hI (q4x_ite (q4x_lt (fun v1 => (fr4_fl_X9_drawn_37_0 n m (fun (x2 : Int32) (I3 : Iv) (J4 : Jv) => (((I3 24 1) - v1), I3, J4)) (fun x2 I3 J4 h511 => h511) (mU (n * (288 : Int32)) ((0 : Int32)) + 1) (0 : Int32) I J hI))) hI))))
theorem fr4_fn_X9_warmth {I0 : Iv} (s : Int32) (I : Iv) (hI : KI4 I0 I) (J : Jv) : Qd3 I0 (fn_X9_warmth s I J) := by
  unfold fn_X9_warmth
  exact (q4x_ite hI (q4x_ite (q4x_b3 (fr4_fn_X6_warmthOf 16 stA_16 s I hI J) (fun r6 _ _ h512 => hI)) hI))
theorem fr4_fn_X9_heat {I0 : Iv} (what : Int32) (I : Iv) (hI : KI4 I0 I) (J : Jv) : Qd3 I0 (fn_X9_heat what I J) := by
  unfold fn_X9_heat
  exact (q4x_ite hI (q4x_ite (q4x_ite (q4x_b3 (fr4_fn_X6_allHeat 16 stA_16 I hI J) (fun r6 _ _ h513 => hI)) hI) hI))
theorem fr4_fn_X9_count {I0 : Iv} (what : Int32) (I : Iv) (hI : KI4 I0 I) (J : Jv) : Qd3 I0 (fn_X9_count what I J) := by
  unfold fn_X9_count
  exact (q4x_ite hI (q4x_ite (q4x_ite (q4x_ite hI (q4x_lt (fun sw0 => (q4x_ite hI (q4x_ite (q4x_ite hI hI) (q4x_ite (q4x_b3 (fr4_fn_X6_foodsThere 16 stA_16 I hI J) (fun r6 _ _ h514 => hI)) hI)))))) hI) hI))
theorem fr4_fn_X9_thaw {I0 : Iv} (I : Iv) (hI : KI4 I0 I) (J : Jv) : Qd3 I0 (fn_X9_thaw I J) := by
  unfold fn_X9_thaw
  exact (q4x_b3 (fr4_fn_X6_letOffIce 16 stA_16 I hI J) (fun r6 I1 J2 h515 => h515))
theorem fr4_fn_X9_sign {I0 : Iv} (set : Int32) (n : Int32) (what : Int32) (I : Iv) (hI : KI4 I0 I) (J : Jv) : Qd3 I0 (fn_X9_sign set n what I J) := by
  unfold fn_X9_sign
  exact (q4x_b3 (fr4_fn_X9_isSet set I hI J) (fun r6 _ _ h516 => (q4x_ite hI (q4x_b3 (fr4_fn_X9_isSign what I hI J) (fun r13 _ _ h517 => (q4x_ite hI (q4x_b3 (fr4_fn_X9_areSignDays n I hI J) (fun r20 _ _ h518 => (q4x_ite hI (q4x_b2 (fr4_fn_X1_learn set n I hI J) (fun I22 J23 h519 => (q4x_b3 (fr4_fn_X1_signOf set n what I22 h519 J23) (fun r34 _ _ h520 => h519)))))))))))))
theorem fr4_fn_X9_mending {I0 : Iv} (k : Int32) (c : Int32) (I : Iv) (hI : KI4 I0 I) (J : Jv) : Qd3 I0 (fn_X9_mending k c I J) := by
  unfold fn_X9_mending
  exact (q4x_b3 (fr4_fn_X9_isTrouble k I hI J) (fun r6 _ _ h521 => (q4x_ite hI (q4x_ite hI (q4x_ite (q4x_lt (fun v8 => (q4x_ltI (kI4_w rfl hI) (fun I9 h522 => h522)))) hI)))))
theorem fr4_fn_X9_price {I0 : Iv} (x : Int32) (I : Iv) (hI : KI4 I0 I) (J : Jv) : Qd3 I0 (fn_X9_price x I J) := by
  unfold fn_X9_price
  exact (q4x_b3 (fr4_fn_X9_isPrice x I hI J) (fun r6 _ _ h523 => (q4x_ite hI (q4x_lt (fun v8 => (q4x_ltI (kI4_w rfl hI) (fun I9 h524 => h524)))))))
theorem fr4_fn_X9_odds {I0 : Iv} (set : Int32) (n : Int32) (I : Iv) (hI : KI4 I0 I) (J : Jv) : Qd3 I0 (fn_X9_odds set n I J) := by
  unfold fn_X9_odds
  exact (q4x_b3 (fr4_fn_X9_isSet set I hI J) (fun r6 _ _ h525 => (q4x_ite hI (q4x_b3 (fr4_fn_J6_bitCount_0f7a4 set I hI J) (fun r13 _ _ h526 => (q4x_ite (q4x_b3 (fr4_fn_X9_areSignDays n I hI J) (fun r20 _ _ h527 => (q4x_ite hI (q4x_b2 (fr4_fn_X1_learnCouldBe n I hI J) (fun I22 J23 h528 => (q4x_b3 (fr4_fn_X2_oddsOf set n I22 h528 J23) (fun r34 I29 J30 h529 => h529))))))) hI))))))
theorem fr4_fn_X9_each {I0 : Iv} (k : Int32) (n : Int32) (I : Iv) (hI : KI4 I0 I) (J : Jv) : Qd3 I0 (fn_X9_each k n I J) := by
  unfold fn_X9_each
  exact (q4x_b3 (fr4_fn_X9_isTrouble k I hI J) (fun r6 _ _ h530 => (q4x_ite hI (q4x_b3 (fr4_fn_X9_areSignDays n I hI J) (fun r13 _ _ h531 => (q4x_ite hI (q4x_b2 (fr4_fn_X1_learnCouldBe n I hI J) (fun I15 J16 h532 => (q4x_b3 (fr4_fn_X2_oddsWith k n I15 h532 J16) (fun r27 I22 J23 h533 => h533))))))))))
theorem fr4_fn_X9_tells {I0 : Iv} (what : Int32) (n : Int32) (I : Iv) (hI : KI4 I0 I) (J : Jv) : Qd3 I0 (fn_X9_tells what n I J) := by
  unfold fn_X9_tells
  exact (q4x_b3 (fr4_fn_X9_isSign what I hI J) (fun r6 _ _ h534 => (q4x_ite hI (q4x_b3 (fr4_fn_X9_areSignDays n I hI J) (fun r13 _ _ h535 => (q4x_ite hI (q4x_b2 (fr4_fn_X1_learnCouldBe n I hI J) (fun I15 J16 h536 => (q4x_b3 (fr4_fn_X2_howMuchTells what n I15 h536 J16) (fun r27 I22 J23 h537 => h537))))))))))
theorem fr4_fn_X9_next {I0 : Iv} (n : Int32) (I : Iv) (hI : KI4 I0 I) (J : Jv) : Qd3 I0 (fn_X9_next n I J) := by
  unfold fn_X9_next
  exact (q4x_b3 (fr4_fn_X9_areSignDays n I hI J) (fun r6 _ _ h538 => (q4x_ite hI (q4x_b2 (fr4_fn_X1_learnCouldBe n I hI J) (fun I8 J9 h539 => (q4x_b3 (fr4_fn_X2_nextSign n I8 h539 J9) (fun r20 I15 J16 h540 => h540)))))))
theorem fr4_fn_X9_makes {I0 : Iv} (set : Int32) (what : Int32) (I : Iv) (hI : KI4 I0 I) (J : Jv) : Qd3 I0 (fn_X9_makes set what I J) := by
  unfold fn_X9_makes
  exact (q4x_b3 (fr4_fn_X9_isSet set I hI J) (fun r6 _ _ h541 => (q4x_ite hI (q4x_ite hI (q4x_ite (q4x_jn (P := fun (j : Int32 → Int32 × Iv × Jv) => ∀ (a542 : Int32), Qd3 I0 (j a542)) (fun w8 => (q4x_b3 (fr4_fn_X1_firstDay set w8 (I 16 12) I hI J) (fun r14 I9 J10 h543 => h543))) (fun j36_0 j544 => (q4x_ite (j544 ((1 : Int32))) (j544 ((0 : Int32)))))) hI)))))
theorem fr4_fn_X9_year {I0 : Iv} (set : Int32) (I : Iv) (hI : KI4 I0 I) (J : Jv) : Qd3 I0 (fn_X9_year set I J) := by
  unfold fn_X9_year
  exact (q4x_b3 (fr4_fn_X9_isSet set I hI J) (fun r6 _ _ h545 => (q4x_ite hI (q4x_b2 (fr4_fn_X1_learn set (2 : Int32) I hI J) (fun I8 J9 h546 => (q4x_b3 (fr4_fn_X4_yearOf set (I8 16 12) I8 h546 J9) (fun r20 _ _ h547 => h546)))))))
theorem fr4_fn_X9_saves {I0 : Iv} (set : Int32) (part : Int32) (I : Iv) (hI : KI4 I0 I) (J : Jv) : Qd3 I0 (fn_X9_saves set part I J) := by
  unfold fn_X9_saves
  exact (q4x_b3 (fr4_fn_X9_isSet set I hI J) (fun r6 _ _ h548 => (q4x_ite hI (q4x_b3 (fr4_fn_X9_isSet part I hI J) (fun r13 _ _ h549 => (q4x_ite hI (q4x_b3 (fr4_fn_X9_isPart part set I hI J) (fun r20 _ _ h550 => (q4x_ite hI (q4x_b2 (fr4_fn_X1_learn set (2 : Int32) I hI J) (fun I22 J23 h551 => (q4x_b2 (fr4_fn_X1_learn (set &&& (part ^^^ (-1 : Int32))) (2 : Int32) I22 h551 J23) (fun I29 J30 h552 => (q4x_b3 (fr4_fn_X4_saved set part (I29 16 12) I29 h552 J30) (fun r41 _ _ h553 => h552)))))))))))))))
theorem fr4_fn_X9_best {I0 : Iv} (set : Int32) (c : Int32) (what : Int32) (I : Iv) (hI : KI4 I0 I) (J : Jv) : Qd3 I0 (fn_X9_best set c what I J) := by
  unfold fn_X9_best
  exact (q4x_b3 (fr4_fn_X9_isSet set I hI J) (fun r6 _ _ h554 => (q4x_ite hI (q4x_ite hI (q4x_ite hI (q4x_ite hI (q4x_ite (q4x_b2 (fr4_fn_X1_learnParts set (2 : Int32) I hI J) (fun I8 J9 h555 => (q4x_b3 (fr4_fn_X4_bestPart set c (I8 16 12) I8 h555 J9) (fun r20 _ _ h556 => (q4x_ite h555 (q4x_ite (q4x_b3 (fr4_fn_X4_saved set r20 (I8 16 12) I8 h555 J9) (fun r27 _ _ h557 => h555)) (q4x_b3 (fr4_fn_X4_costOf r20 I8 h555 J9) (fun r34 _ _ h558 => h555)))))))) hI)))))))
theorem fr4_fn_X9_pays {I0 : Iv} (set : Int32) (c : Int32) (u : Int32) (I : Iv) (hI : KI4 I0 I) (J : Jv) : Qd3 I0 (fn_X9_pays set c u I J) := by
  unfold fn_X9_pays
  exact (q4x_b3 (fr4_fn_X9_isSet set I hI J) (fun r6 _ _ h559 => (q4x_ite hI (q4x_ite hI (q4x_ite hI (q4x_ite hI (q4x_ite (q4x_b2 (fr4_fn_X1_learn set (2 : Int32) I hI J) (fun I8 J9 h560 => (q4x_b3 (fr4_fn_X4_yearsToPay set c u (I8 16 12) I8 h560 J9) (fun r20 _ _ h561 => h560)))) hI)))))))
theorem fr4_fn_X9_ice {I0 : Iv} (set : Int32) (n : Int32) (b : Int32) (I : Iv) (hI : KI4 I0 I) (J : Jv) : Qd3 I0 (fn_X9_ice set n b I J) := by
  unfold fn_X9_ice
  exact (q4x_b3 (fr4_fn_X9_isSet set I hI J) (fun r6 _ _ h562 => (q4x_ite hI (q4x_ite hI (q4x_ite hI (q4x_ite hI (q4x_ite (q4x_b3 (fr4_fn_X4_bestThawing set n b (I 16 12) I hI J) (fun r13 I8 J9 h563 => h563)) hI)))))))
theorem fr4_fn_X9_lying {I0 : Iv} (f : Int32) (I : Iv) (hI : KI4 I0 I) (J : Jv) : Qd3 I0 (fn_X9_lying f I J) := by
  unfold fn_X9_lying
  exact (q4x_jn (P := Qd3 I0) (q4x_b3 (fr4_fn_X6_foodsThere 16 stA_16 I hI J) (fun r6 _ _ h565 => (q4x_ite (q4x_b2 (fr4_fn_X8_findBestRow I hI J) (fun I8 J9 h566 => (q4x_ite h566 (q4x_b3 (fr4_fn_X8_shelfInBestRow f I8 h566 J9) (fun r20 I15 J16 h567 => h567))))) hI))) (fun j19_0 j564 => (q4x_ite j564 (q4x_b3 (fr4_fn_X6_hasFood 16 stA_16 f I hI J) (fun r28 _ _ h568 => (q4x_ite hI j564))))))
theorem fr4_fn_X9_bulb {I0 : Iv} (what : Int32) (I : Iv) (hI : KI4 I0 I) (J : Jv) : Qd3 I0 (fn_X9_bulb what I J) := by
  unfold fn_X9_bulb
  exact (q4x_ite hI (q4x_ite (q4x_b2 (fr4_fn_X8_findBestBulb I hI J) (fun I1 J2 h569 => (q4x_ite h569 h569))) hI))
theorem fr4_fn_X9_without {I0 : Iv} (f : Int32) (I : Iv) (hI : KI4 I0 I) (J : Jv) : Qd3 I0 (fn_X9_without f I J) := by
  unfold fn_X9_without
  exact (q4x_b3 (fr4_fn_X6_hasFood 16 stA_16 f I hI J) (fun r6 _ _ h570 => (q4x_ite hI (q4x_b3 (fr4_fn_X8_ticksWithoutCurrent f I hI J) (fun r13 I8 J9 h571 => h571)))))
theorem fr4_fn_X9_cheap {I0 : Iv} (a : Int32) (b : Int32) (v_ : Int32) (I : Iv) (hI : KI4 I0 I) (J : Jv) : Qd3 I0 (fn_X9_cheap a b v_ I J) := by
  unfold fn_X9_cheap
  exact (q4x_b3 (fr4_fn_X9_isPrice v_ I hI J) (fun r6 _ _ h572 => (q4x_ite hI (q4x_jn (P := Qd3 I0) (q4x_ltI (kI4_w rfl hI) (fun I8 h574 => (q4x_jn (P := fun (j : Int32 → Int32 × Iv × Jv) => ∀ (a575 : Int32), Qd3 I0 (j a575)) (fun w10 => (q4x_ltI (kI4_w rfl h574) (fun I11 h576 => (q4x_ltI (kI4_w rfl h576) (fun I13 h577 => h577))))) (fun j55_1 j578 => (q4x_ite (j578 ((-1 : Int32))) (j578 b)))))) (fun j33_0 j573 => (q4x_ite j573 (q4x_ite hI (q4x_ite hI (q4x_ite j573 hI)))))))))
theorem fr4_fn_X9_store {I0 : Iv} (n : Int32) (what : Int32) (I : Iv) (hI : KI4 I0 I) (J : Jv) : Qd3 I0 (fn_X9_store n what I J) := by
  unfold fn_X9_store
  exact (q4x_ite hI (q4x_ite hI (q4x_ite hI (q4x_ite (q4x_b2 (fr4_fn_X8_findBestStore n (I 65 2) I hI J) (fun I1 J2 h579 => (q4x_ite h579 h579))) hI))))
theorem fr4_fn_X9_seed {I0 : Iv} (v_ : Int32) (I : Iv) (hI : KI4 I0 I) (J : Jv) : Qd3 I0 (fn_X9_seed v_ I J) := by
  unfold fn_X9_seed
  exact (q4x_ite (q4x_lt (fun v1 => (q4x_ltI (kI4_w rfl hI) (fun I2 h580 => h580)))) hI)
theorem fr4_fn_X9_imageOf {I0 : Iv} (i : Int32) (I : Iv) (hI : KI4 I0 I) (J : Jv) : Qd3 I0 (fn_X9_imageOf i I J) := by
  unfold fn_X9_imageOf
  exact (q4x_ite hI hI)
theorem fr4_fn_X9_keep {I0 : Iv} (i : Int32) (I : Iv) (hI : KI4 I0 I) (J : Jv) : Qd3 I0 (fn_X9_keep i I J) := by
  unfold fn_X9_keep
  exact (q4x_ite hI (q4x_ite (q4x_b3 (fr4_fn_X9_imageOf i I hI J) (fun r6 _ _ h581 => (q4x_b2 (fr4_fn_X6_copyFrom (iA i) (stA_iA _) 16 I hI J) (fun I8 J9 h582 => (q4x_ltI (kI4_w rfl h582) (fun I15 h583 => h583)))))) hI))
theorem fr4_fn_X9_goBack {I0 : Iv} (i : Int32) (I : Iv) (hI : KI4 I0 I) (J : Jv) : Qd3 I0 (fn_X9_goBack i I J) := by
  unfold fn_X9_goBack
  exact (q4x_ite hI (q4x_ite (q4x_ite hI (q4x_b3 (fr4_fn_X9_imageOf i I hI J) (fun r6 _ _ h584 => (q4x_b2 (fr4_fn_X6_copyFrom 16 stA_16 (iA i) I hI J) (fun I8 J9 h585 => h585))))) hI))
