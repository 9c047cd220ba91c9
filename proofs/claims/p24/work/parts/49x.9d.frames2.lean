/-! ===== what stays of what CQ looks at ===== -/
def S2 (b k : Nat) : Bool := (Nat.ble 8 b && Nat.ble b 12) || (Nat.ble 16 b && Nat.ble b 43) || b == 80 || b == 81 || b == 83 || b == 84 || (b == 78 && (k == 2 || k == 5))
def T2 (r k : Nat) : Bool := (Nat.ble 16 r && Nat.ble r 42) || (r == 79 && (Nat.ble k 79 || Nat.ble 160 k))
def KI2 (I0 I : Iv) : Prop := ∀ b k, S2 b k = true → I b k = I0 b k
def KJ2 (J0 J : Jv) : Prop := ∀ b k, T2 b k = true → J b k = J0 b k
def Qb3 {α : Type} (I0 : Iv) (J0 : Jv) (x : α × Iv × Jv) : Prop := KI2 I0 x.2.1 ∧ KJ2 J0 x.2.2
def Qb2 (I0 : Iv) (J0 : Jv) (x : Iv × Jv) : Prop := KI2 I0 x.1 ∧ KJ2 J0 x.2
theorem ki2_rfl {I : Iv} : KI2 I I := fun _ _ _ => rfl
theorem kj2_rfl {J : Jv} : KJ2 J J := fun _ _ _ => rfl
theorem k2_wI {I0 I : Iv} {a k : Nat} {v : Int32} (h : S2 a k = false) (q : KI2 I0 I) : KI2 I0 (wI I a k v) := by
  intro b j hb
  rw [wI_ne (by
    by_cases e : b = a
    · by_cases e2 : j = k
      · rw [e, e2, h] at hb; exact absurd hb (by decide)
      · exact Or.inr e2
    · exact Or.inl e)]
  exact q b j hb
theorem k2_cI {I0 I : Iv} {a n : Nat} {f : Nat → Int32} (h : ∀ k, S2 a k = false) (q : KI2 I0 I) : KI2 I0 (cI I a n f) := by
  intro b j hb
  rw [cI_row (by rintro rfl; rw [h j] at hb; exact absurd hb (by decide))]
  exact q b j hb
theorem k2_wJ {J0 J : Jv} {a k : Nat} {v : Int64} (h : T2 a k = false) (q : KJ2 J0 J) : KJ2 J0 (wJ J a k v) := by
  intro b j hb
  rw [wJ_ne (by
    by_cases e : b = a
    · by_cases e2 : j = k
      · rw [e, e2, h] at hb; exact absurd hb (by decide)
      · exact Or.inr e2
    · exact Or.inl e)]
  exact q b j hb
theorem k2_cJ {J0 J : Jv} {a n : Nat} {f : Nat → Int64} (h : ∀ k, T2 a k = false) (q : KJ2 J0 J) : KJ2 J0 (cJ J a n f) := by
  intro b j hb
  rw [cJ_row (by rintro rfl; rw [h j] at hb; exact absurd hb (by decide))]
  exact q b j hb
theorem q2_ite {c : Prop} [Decidable c] {α : Type} {Q : α → Prop} {a b : α} (h1 : Q a) (h2 : Q b) : Q (if c then a else b) := by
  by_cases q : c
  · rw [if_pos q]; exact h1
  · rw [if_neg q]; exact h2
theorem q2_iteh {c : Prop} [Decidable c] {α : Type} {Q : α → Prop} {a b : α} (h1 : c → Q a) (h2 : ¬ c → Q b) : Q (if c then a else b) := by
  by_cases q : c
  · rw [if_pos q]; exact h1 q
  · rw [if_neg q]; exact h2 q
theorem q2_ltI {α : Type} {Q : α → Prop} {I0 x : Iv} {k : Iv → α} (hx : KI2 I0 x) (hk : ∀ I, KI2 I0 I → Q (k I)) : Q (l_t x k) := hk x hx
theorem q2_ltJ {α : Type} {Q : α → Prop} {J0 x : Jv} {k : Jv → α} (hx : KJ2 J0 x) (hk : ∀ J, KJ2 J0 J → Q (k J)) : Q (l_t x k) := hk x hx
theorem q2_lt {α β : Type} {Q : α → Prop} {x : β} {k : β → α} (hk : ∀ y, Q (k y)) : Q (l_t x k) := hk x
theorem q2_b3 {α β : Type} {Q : β → Prop} {I0 : Iv} {J0 : Jv} {x : α × Iv × Jv} {k : α → Iv → Jv → β} (hx : Qb3 I0 J0 x) (hk : ∀ r I J, KI2 I0 I → KJ2 J0 J → Q (k r I J)) : Q (b_n3 x k) := hk _ _ _ hx.1 hx.2
theorem q2_b2 {β : Type} {Q : β → Prop} {I0 : Iv} {J0 : Jv} {x : Iv × Jv} {k : Iv → Jv → β} (hx : Qb2 I0 J0 x) (hk : ∀ I J, KI2 I0 I → KJ2 J0 J → Q (k I J)) : Q (b_n2 x k) := hk _ _ hx.1 hx.2
theorem q2_jn {α β : Type} {Q : β → Prop} {P : α → Prop} {x : α} {k : α → β} (hx : P x) (hk : ∀ j, P j → Q (k j)) : Q (j_n x k) := hk x hx
def StB (o : Nat) : Prop := o = 46 ∨ o = 68
theorem stB_46 : StB 46 := Or.inl rfl
theorem stB_68 : StB 68 := Or.inr rfl
theorem bleF {a b : Nat} (h : b < a) : Nat.ble a b = false := by
  rw [Bool.eq_false_iff]; intro z; have := Nat.le_of_ble_eq_true z; omega
theorem t2_x {a n : Nat} (h : a = 80) (hn : n < 80) : T2 79 (a + n) = false := by
  subst h
  show (false || (true && (Nat.ble (80 + n) 79 || Nat.ble 160 (80 + n)))) = false
  rw [bleF (by omega), bleF (by omega)]; rfl
theorem t2_0 {a : Nat} (h : a = 80) : T2 79 a = false := by subst h; rfl
theorem t2_p {a n : Nat} (ha : 80 ≤ a) (hb : a ≤ 120) (hn : n < 8) : T2 79 (a + n) = false := by
  show (false || (true && (Nat.ble (a + n) 79 || Nat.ble 160 (a + n)))) = false
  rw [bleF (by omega), bleF (by omega)]; rfl
theorem gd_n {m : Nat} {x : Int32} (h0 : 0 < m) (hm : m ≤ 1000) (h : ¬ n3 m ≤ x) : x.toNatClampNeg < m := by
  have q := Int32.lt_iff_toInt_lt.mp (Int32.not_le.mp h)
  rw [Int32.toInt_ofNat_of_lt (by omega)] at q
  show x.toInt.toNat < m
  omega
theorem gd_3 {x : Int32} (h : ¬ (3 : Int32) ≤ x) : x.toNatClampNeg < 80 := Nat.lt_of_lt_of_le (gd_n (m := 3) (by decide) (by decide) h) (by decide)
theorem gd_4 {x : Int32} (h : ¬ (4 : Int32) ≤ x) : x.toNatClampNeg < 80 := Nat.lt_of_lt_of_le (gd_n (m := 4) (by decide) (by decide) h) (by decide)
theorem gd_12 {x : Int32} (h : ¬ (12 : Int32) ≤ x) : x.toNatClampNeg < 80 := Nat.lt_of_lt_of_le (gd_n (m := 12) (by decide) (by decide) h) (by decide)
theorem gd_80 {x : Int32} (h : ¬ (80 : Int32) ≤ x) : x.toNatClampNeg < 80 := gd_n (m := 80) (by decide) (by decide) h
theorem gd_8 {x : Int32} (h : ¬ (8 : Int32) ≤ x) : x.toNatClampNeg < 8 := gd_n (m := 8) (by decide) (by decide) h
theorem s2o_0 {o k : Nat} (h : StB o) : S2 (o) k = false := by
  rcases h with rfl | rfl <;> rfl
theorem t2o_0 {o k : Nat} (h : StB o) : T2 (o) k = false := by
  rcases h with rfl | rfl <;> rfl
theorem s2o_1 {o k : Nat} (h : StB o) : S2 (o + 1) k = false := by
  rcases h with rfl | rfl <;> rfl
theorem t2o_1 {o k : Nat} (h : StB o) : T2 (o + 1) k = false := by
  rcases h with rfl | rfl <;> rfl
theorem s2o_2 {o k : Nat} (h : StB o) : S2 (o + 2) k = false := by
  rcases h with rfl | rfl <;> rfl
theorem t2o_2 {o k : Nat} (h : StB o) : T2 (o + 2) k = false := by
  rcases h with rfl | rfl <;> rfl
theorem s2o_3 {o k : Nat} (h : StB o) : S2 (o + 3) k = false := by
  rcases h with rfl | rfl <;> rfl
theorem t2o_3 {o k : Nat} (h : StB o) : T2 (o + 3) k = false := by
  rcases h with rfl | rfl <;> rfl
theorem s2o_4 {o k : Nat} (h : StB o) : S2 (o + 4) k = false := by
  rcases h with rfl | rfl <;> rfl
theorem t2o_4 {o k : Nat} (h : StB o) : T2 (o + 4) k = false := by
  rcases h with rfl | rfl <;> rfl
theorem s2o_5 {o k : Nat} (h : StB o) : S2 (o + 5) k = false := by
  rcases h with rfl | rfl <;> rfl
theorem t2o_5 {o k : Nat} (h : StB o) : T2 (o + 5) k = false := by
  rcases h with rfl | rfl <;> rfl
theorem s2o_6 {o k : Nat} (h : StB o) : S2 (o + 6) k = false := by
  rcases h with rfl | rfl <;> rfl
theorem t2o_6 {o k : Nat} (h : StB o) : T2 (o + 6) k = false := by
  rcases h with rfl | rfl <;> rfl
theorem s2o_7 {o k : Nat} (h : StB o) : S2 (o + 7) k = false := by
  rcases h with rfl | rfl <;> rfl
theorem t2o_7 {o k : Nat} (h : StB o) : T2 (o + 7) k = false := by
  rcases h with rfl | rfl <;> rfl
theorem s2o_8 {o k : Nat} (h : StB o) : S2 (o + 8) k = false := by
  rcases h with rfl | rfl <;> rfl
theorem t2o_8 {o k : Nat} (h : StB o) : T2 (o + 8) k = false := by
  rcases h with rfl | rfl <;> rfl
theorem fr2_fn_X6_has {I0 : Iv} {J0 : Jv} (o : Nat) (t : Int32) (I : Iv) (hI : KI2 I0 I) (J : Jv) (hJ : KJ2 J0 J) : Qb3 I0 J0 (fn_X6_has o t I J) := by
  unfold fn_X6_has
  exact (q2_ite ⟨hI, hJ⟩ ⟨hI, hJ⟩)
theorem fr2_fn_X6_warmthOf {I0 : Iv} {J0 : Jv} (o : Nat) (cell : Int32) (I : Iv) (hI : KI2 I0 I) (J : Jv) (hJ : KJ2 J0 J) : Qb3 I0 J0 (fn_X6_warmthOf o cell I J) := by
  unfold fn_X6_warmthOf
  exact (q2_ite ⟨hI, hJ⟩ (q2_ite ⟨hI, hJ⟩ (q2_ite ⟨hI, hJ⟩ ⟨hI, hJ⟩)))
theorem fr2_fn_X6_tickOfDay {I0 : Iv} {J0 : Jv} (o : Nat) (I : Iv) (hI : KI2 I0 I) (J : Jv) (hJ : KJ2 J0 J) : Qb3 I0 J0 (fn_X6_tickOfDay o I J) := by
  unfold fn_X6_tickOfDay
  exact ⟨hI, hJ⟩
theorem fr2_fn_X6_hasFood {I0 : Iv} {J0 : Jv} (o : Nat) (f : Int32) (I : Iv) (hI : KI2 I0 I) (J : Jv) (hJ : KJ2 J0 J) : Qb3 I0 J0 (fn_X6_hasFood o f I J) := by
  unfold fn_X6_hasFood
  exact (q2_ite ⟨hI, hJ⟩ (q2_ite ⟨hI, hJ⟩ (q2_ite ⟨hI, hJ⟩ ⟨hI, hJ⟩)))
theorem fr2_fl_X6_foodsThere_4_0 {I0 : Iv} {J0 : Jv} (I : Iv) (J : Jv) (o : Nat) (Kf0 : Int32 → Int32 → Int32 × Iv × Jv) (hI : KI2 I0 I) (hJ : KJ2 J0 J) (hKf0 : ∀ (a1 : Int32) (a2 : Int32), Qb3 I0 J0 (Kf0 a1 a2)) : ∀ (fu : Nat) (x1 : Int32) (x2 : Int32), Qb3 I0 J0 (fl_X6_foodsThere_4_0 I J o Kf0 fu x1 x2) := by
  intro fu
  induction fu with
  | zero =>
    intro x1 x2
    rw [fl_X6_foodsThere_4_0.eq_1]
    exact ⟨hI, hJ⟩
  | succ kf0 ih =>
    intro x1 x2
    rw [fl_X6_foodsThere_4_0.eq_2]
    exact (q2_ite (hKf0 x1 x2) (q2_ite (ih x1 (x2 + (1 : Int32))) (ih (x1 + (1 : Int32)) (x2 + (1 : Int32)))))
theorem fr2_fn_X6_foodsThere {I0 : Iv} {J0 : Jv} (o : Nat) (I : Iv) (hI : KI2 I0 I) (J : Jv) (hJ : KJ2 J0 J) : Qb3 I0 J0 (fn_X6_foodsThere o I J) := by
  unfold fn_X6_foodsThere
  exact (fr2_fl_X6_foodsThere_4_0 I J o (fun (x1 : Int32) (x2 : Int32) => (x1, I, J)) hI hJ (fun x1 x2 => ⟨hI, hJ⟩) (mU (8 : Int32) ((0 : Int32)) + 1) (0 : Int32) (0 : Int32))
theorem fr2_fn_X6_isWithin {I0 : Iv} {J0 : Jv} (o : Nat) (f : Int32) (I : Iv) (hI : KI2 I0 I) (J : Jv) (hJ : KJ2 J0 J) : Qb3 I0 J0 (fn_X6_isWithin o f I J) := by
  unfold fn_X6_isWithin
  exact (q2_b3 (fr2_fn_X6_warmthOf o ((4 : Int32) + f) I hI J hJ) (fun r6 _ _ h3 h4 => (q2_ite ⟨hI, hJ⟩ (q2_ite ⟨hI, hJ⟩ (q2_ite ⟨hI, hJ⟩ (q2_ite ⟨hI, hJ⟩ ⟨hI, hJ⟩))))))
theorem fr2_fl_X6_foodsWithin_4_0 {I0 : Iv} {J0 : Jv} (I : Iv) (J : Jv) (o : Nat) (Kf0 : Int32 → Int32 → Int32 × Iv × Jv) (hI : KI2 I0 I) (hJ : KJ2 J0 J) (hKf0 : ∀ (a5 : Int32) (a6 : Int32), Qb3 I0 J0 (Kf0 a5 a6)) : ∀ (fu : Nat) (x1 : Int32) (x2 : Int32), Qb3 I0 J0 (fl_X6_foodsWithin_4_0 I J o Kf0 fu x1 x2) := by
  intro fu
  induction fu with
  | zero =>
    intro x1 x2
    rw [fl_X6_foodsWithin_4_0.eq_1]
    exact ⟨hI, hJ⟩
  | succ kf0 ih =>
    intro x1 x2
    rw [fl_X6_foodsWithin_4_0.eq_2]
    exact (q2_ite (hKf0 x1 x2) (q2_ite (ih x1 (x2 + (1 : Int32))) (q2_b3 (fr2_fn_X6_isWithin o x2 I hI J hJ) (fun r9 _ _ h7 h8 => (q2_ite (ih x1 (x2 + (1 : Int32))) (ih (x1 + (1 : Int32)) (x2 + (1 : Int32))))))))
theorem fr2_fn_X6_foodsWithin {I0 : Iv} {J0 : Jv} (o : Nat) (I : Iv) (hI : KI2 I0 I) (J : Jv) (hJ : KJ2 J0 J) : Qb3 I0 J0 (fn_X6_foodsWithin o I J) := by
  unfold fn_X6_foodsWithin
  exact (fr2_fl_X6_foodsWithin_4_0 I J o (fun (x1 : Int32) (x2 : Int32) => (x1, I, J)) hI hJ (fun x1 x2 => ⟨hI, hJ⟩) (mU (8 : Int32) ((0 : Int32)) + 1) (0 : Int32) (0 : Int32))
theorem fr2_fl_X6_letOffIce_27_0 {I0 : Iv} {J0 : Jv} (o : Nat) (I4 : Iv) (Kf0 : Int32 → Jv → Int32 × Iv × Jv) (ho : StB o) (hI4 : KI2 I0 I4) (hKf0 : ∀ (a9 : Int32) (a10 : Jv), KJ2 J0 a10 → Qb3 I0 J0 (Kf0 a9 a10)) : ∀ (fu : Nat) (x6 : Int32) (J7 : Jv), KJ2 J0 J7 → Qb3 I0 J0 (fl_X6_letOffIce_27_0 o I4 Kf0 fu x6 J7) := by
  intro fu
  induction fu with
  | zero =>
    intro x6 J7 hJ7
    rw [fl_X6_letOffIce_27_0.eq_1]
    exact ⟨hI4, hJ7⟩
  | succ kf0 ih =>
    intro x6 J7 hJ7
    rw [fl_X6_letOffIce_27_0.eq_2]
    exact (q2_ite (hKf0 x6 J7 hJ7) (q2_lt (fun v10 => (q2_b3 (fr2_fn_X6_warmthOf o x6 I4 hI4 J7 hJ7) (fun r16 _ _ h11 h12 => (q2_ite (ih (x6 + (1 : Int32)) J7 hJ7) (q2_ltJ (k2_wJ (t2o_7 ho) hJ7) (fun J18 h13 => (q2_ltJ (k2_wJ (t2o_1 ho) h13) (fun J20 h14 => (ih (x6 + (1 : Int32)) J20 h14)))))))))))
theorem fr2_fn_X6_letOffIce {I0 : Iv} {J0 : Jv} (o : Nat) (ho : StB o) (I : Iv) (hI : KI2 I0 I) (J : Jv) (hJ : KJ2 J0 J) : Qb3 I0 J0 (fn_X6_letOffIce o I J) := by
  unfold fn_X6_letOffIce
  exact (q2_lt (fun v1 => (q2_ltI (k2_wI (s2o_8 ho) hI) (fun I2 h15 => (q2_ltI (k2_wI (s2o_8 ho) h15) (fun I4 h16 => (fr2_fl_X6_letOffIce_27_0 o I4 (fun (x6 : Int32) (J7 : Jv) => (v1, I4, J7)) ho h16 (fun x6 J7 h17 => ⟨h16, h17⟩) (mUe (3 : Int32) ((0 : Int32)) + 1) (0 : Int32) J hJ)))))))
theorem fr2_fl_X6_becomeFresh_49_1 {I0 : Iv} {J0 : Jv} (o : Nat) (Kf1 : Int32 → Iv → Jv → Iv × Jv) (ho : StB o) (hKf1 : ∀ (a18 : Int32) (a19 : Iv) (a20 : Jv), KI2 I0 a19 → KJ2 J0 a20 → Qb2 I0 J0 (Kf1 a18 a19 a20)) : ∀ (fu : Nat) (x10 : Int32) (I11 : Iv) (J12 : Jv), KI2 I0 I11 → KJ2 J0 J12 → Qb2 I0 J0 (fl_X6_becomeFresh_49_1 o Kf1 fu x10 I11 J12) := by
  intro fu
  induction fu with
  | zero =>
    intro x10 I11 J12 hI11 hJ12
    rw [fl_X6_becomeFresh_49_1.eq_1]
    exact ⟨hI11, hJ12⟩
  | succ kf1 ih =>
    intro x10 I11 J12 hI11 hJ12
    rw [fl_X6_becomeFresh_49_1.eq_2]
    exact (q2_ite (hKf1 x10 I11 J12 hI11 hJ12) (q2_ltI (k2_wI (s2o_3 ho) hI11) (fun I46 h21 => (q2_ltJ (k2_wJ (t2o_1 ho) hJ12) (fun J48 h22 => (ih (x10 + (1 : Int32)) I46 J48 h21 h22))))))
theorem fr2_fl_X6_becomeFresh_2_0 {I0 : Iv} {J0 : Jv} (o : Nat) (Kf0 : Int32 → Iv → Jv → Iv × Jv) (ho : StB o) (hKf0 : ∀ (a23 : Int32) (a24 : Iv) (a25 : Jv), KI2 I0 a24 → KJ2 J0 a25 → Qb2 I0 J0 (Kf0 a23 a24 a25)) : ∀ (fu : Nat) (x1 : Int32) (I2 : Iv) (J3 : Jv), KI2 I0 I2 → KJ2 J0 J3 → Qb2 I0 J0 (fl_X6_becomeFresh_2_0 o Kf0 fu x1 I2 J3) := by
  intro fu
  induction fu with
  | zero =>
    intro x1 I2 J3 hI2 hJ3
    rw [fl_X6_becomeFresh_2_0.eq_1]
    exact ⟨hI2, hJ3⟩
  | succ kf0 ih =>
    intro x1 I2 J3 hI2 hJ3
    rw [fl_X6_becomeFresh_2_0.eq_2]
    exact (q2_ite (hKf0 x1 I2 J3 hI2 hJ3) (q2_ltI (k2_wI (s2o_2 ho) hI2) (fun I50 h26 => (q2_ltJ (k2_wJ (t2o_1 ho) hJ3) (fun J52 h27 => (ih (x1 + (1 : Int32)) I50 J52 h26 h27))))))
theorem fr2_fn_X6_becomeFresh {I0 : Iv} {J0 : Jv} (o : Nat) (ho : StB o) (I : Iv) (hI : KI2 I0 I) (J : Jv) (hJ : KJ2 J0 J) : Qb2 I0 J0 (fn_X6_becomeFresh o I J) := by
  unfold fn_X6_becomeFresh
  exact (fr2_fl_X6_becomeFresh_2_0 o (fun (x1 : Int32) (I2 : Iv) (J3 : Jv) => l_t (wI I2 (o + 2) 3 (40 : Int32)) (fun (I6 : Iv) => l_t (wJ J3 (o + 1) 3 (-40000 : Int64)) (fun (J8 : Jv) => fl_X6_becomeFresh_49_1 o (fun (x10 : Int32) (I11 : Iv) (J12 : Jv) => l_t (cJ J12 (o + 7) 6 (fun _ => (0 : Int64))) (fun (J16 : Jv) => l_t I11 (fun (I15 : Iv) => l_t (cI I15 (o + 8) 8 (fun _ => (0 : Int32))) (fun (I22 : Iv) => l_t J16 (fun (J23 : Jv) => b_n3 (fn_X6_has o (2 : Int32) I22 J23) (fun (r34 : Int32) (_ : Iv) (_ : Jv) => j_n (fun (I36 : Iv) => l_t (wI I36 o 9 (500 : Int32)) (fun (I38 : Iv) => l_t (wI I38 o 10 (0 : Int32)) (fun (I40 : Iv) => l_t (wI I40 o 11 (0 : Int32)) (fun (I42 : Iv) => (I42, J23))))) (fun (j110_2 : Iv → Iv × Jv) => if r34 = 0 then j110_2 I22 else l_t (wI I22 (o + 8) 5 (600 : Int32)) (fun (I44 : Iv) => j110_2 I44)))))))) (mU (8 : Int32) ((0 : Int32)) + 1) (0 : Int32) I6 J8))) ho (fun x1 I2 J3 h28 h29 => (q2_ltI (k2_wI (s2o_2 ho) h28) (fun I6 h30 => (q2_ltJ (k2_wJ (t2o_1 ho) h29) (fun J8 h31 => (fr2_fl_X6_becomeFresh_49_1 o (fun (x10 : Int32) (I11 : Iv) (J12 : Jv) => l_t (cJ J12 (o + 7) 6 (fun _ => (0 : Int64))) (fun (J16 : Jv) => l_t I11 (fun (I15 : Iv) => l_t (cI I15 (o + 8) 8 (fun _ => (0 : Int32))) (fun (I22 : Iv) => l_t J16 (fun (J23 : Jv) => b_n3 (fn_X6_has o (2 : Int32) I22 J23) (fun (r34 : Int32) (_ : Iv) (_ : Jv) => j_n (fun (I36 : Iv) => l_t (wI I36 o 9 (500 : Int32)) (fun (I38 : Iv) => l_t (wI I38 o 10 (0 : Int32)) (fun (I40 : Iv) => l_t (wI I40 o 11 (0 : Int32)) (fun (I42 : Iv) => (I42, J23))))) (fun (j110_2 : Iv → Iv × Jv) => if r34 = 0 then j110_2 I22 else l_t (wI I22 (o + 8) 5 (600 : Int32)) (fun (I44 : Iv) => j110_2 I44)))))))) ho (fun x10 I11 J12 h32 h33 => (q2_ltJ (k2_cJ (fun _ => (t2o_7 ho)) h33) (fun J16 h34 => (q2_ltI h32 (fun I15 h35 => (q2_ltI (k2_cI (fun _ => (s2o_8 ho)) h35) (fun I22 h36 => (q2_ltJ h34 (fun J23 h37 => (q2_b3 (fr2_fn_X6_has o (2 : Int32) I22 h36 J23 h37) (fun r34 _ _ h38 h39 => (q2_jn (P := fun (j : Iv → Iv × Jv) => ∀ (a40 : Iv), KI2 I0 a40 → Qb2 I0 J0 (j a40)) (fun I36 h41 => (q2_ltI (k2_wI (s2o_0 ho) h41) (fun I38 h42 => (q2_ltI (k2_wI (s2o_0 ho) h42) (fun I40 h43 => (q2_ltI (k2_wI (s2o_0 ho) h43) (fun I42 h44 => ⟨h44, h37⟩))))))) (fun j110_2 j45 => (q2_ite (j45 I22 h36) (q2_ltI (k2_wI (s2o_8 ho) h36) (fun I44 h46 => (j45 I44 h46))))))))))))))))) (mU (8 : Int32) ((0 : Int32)) + 1) (0 : Int32) I6 J8 h30 h31)))))) (mU (3 : Int32) ((0 : Int32)) + 1) (0 : Int32) I J hI hJ)
theorem fr2_fn_X6_copyFrom {I0 : Iv} {J0 : Jv} (o : Nat) (ho : StB o) (p : Nat) (I : Iv) (hI : KI2 I0 I) (J : Jv) (hJ : KJ2 J0 J) : Qb2 I0 J0 (fn_X6_copyFrom o p I J) := by
  unfold fn_X6_copyFrom
  exact (q2_ltJ (k2_cJ (fun _ => (t2o_1 ho)) hJ) (fun J1 h47 => (q2_ltI (k2_cI (fun _ => (s2o_2 ho)) hI) (fun I3 h48 => (q2_ltI (k2_cI (fun _ => (s2o_3 ho)) h48) (fun I5 h49 => (q2_ltI (k2_cI (fun _ => (s2o_4 ho)) h49) (fun I7 h50 => (q2_ltI (k2_cI (fun _ => (s2o_5 ho)) h50) (fun I9 h51 => (q2_ltI (k2_cI (fun _ => (s2o_6 ho)) h51) (fun I11 h52 => (q2_ltJ (k2_cJ (fun _ => (t2o_7 ho)) h47) (fun J13 h53 => (q2_ltI (k2_cI (fun _ => (s2o_8 ho)) h52) (fun I15 h54 => (q2_ltI (k2_wI (s2o_0 ho) h54) (fun I17 h55 => (q2_ltI (k2_wI (s2o_0 ho) h55) (fun I19 h56 => (q2_ltI (k2_wI (s2o_0 ho) h56) (fun I21 h57 => (q2_ltI (k2_wI (s2o_0 ho) h57) (fun I23 h58 => (q2_ltI (k2_wI (s2o_0 ho) h58) (fun I25 h59 => (q2_ltI (k2_wI (s2o_0 ho) h59) (fun I27 h60 => ⟨h60, h53⟩))))))))))))))))))))))))))))
theorem fr2_fn_X3_isOpenIn {I0 : Iv} {J0 : Jv} (t : Int32) (I : Iv) (hI : KI2 I0 I) (J : Jv) (hJ : KJ2 J0 J) : Qb3 I0 J0 (fn_X3_isOpenIn t I J) := by
  unfold fn_X3_isOpenIn
  exact (q2_ite ⟨hI, hJ⟩ (q2_ite ⟨hI, hJ⟩ (q2_ite ⟨hI, hJ⟩ ⟨hI, hJ⟩)))
theorem fr2_fn_X0_sealOf {I0 : Iv} {J0 : Jv} (o : Nat) (I : Iv) (hI : KI2 I0 I) (J : Jv) (hJ : KJ2 J0 J) : Qb3 I0 J0 (fn_X0_sealOf o I J) := by
  unfold fn_X0_sealOf
  exact (q2_b3 (fr2_fn_X6_has o (1 : Int32) I hI J hJ) (fun r6 _ _ h61 h62 => (q2_ite ⟨hI, hJ⟩ ⟨hI, hJ⟩)))
theorem fr2_fn_X0_powerOf {I0 : Iv} {J0 : Jv} (o : Nat) (I : Iv) (hI : KI2 I0 I) (J : Jv) (hJ : KJ2 J0 J) : Qb3 I0 J0 (fn_X0_powerOf o I J) := by
  unfold fn_X0_powerOf
  exact (q2_lt (fun v1 => (q2_b3 (fr2_fn_X6_has o (4 : Int32) I hI J hJ) (fun r7 _ _ h63 h64 => (q2_jn (P := fun (j : Int32 → Int32 × Iv × Jv) => ∀ (a65 : Int32), Qb3 I0 J0 (j a65)) (fun y9 => (q2_b3 (fr2_fn_X6_has o (8 : Int32) I hI J hJ) (fun r15 _ _ h66 h67 => (q2_ite ⟨hI, hJ⟩ (q2_lt (fun v17 => ⟨hI, hJ⟩)))))) (fun j25_0 j68 => (q2_ite (j68 v1) (q2_lt (fun v18 => (j68 v18))))))))))
theorem fr2_fn_X0_roomOf {I0 : Iv} {J0 : Jv} (o : Nat) (I : Iv) (hI : KI2 I0 I) (J : Jv) (hJ : KJ2 J0 J) : Qb3 I0 J0 (fn_X0_roomOf o I J) := by
  unfold fn_X0_roomOf
  exact (q2_lt (fun v1 => (q2_b3 (fr2_fn_X6_tickOfDay o I hI J hJ) (fun r7 _ _ h69 h70 => (q2_lt (fun v9 => (q2_jn (P := fun (j : Int32 → Int32 × Iv × Jv) => ∀ (a71 : Int32), Qb3 I0 J0 (j a71)) (fun w10 => (q2_jn (P := fun (j : Int32 → Int32 × Iv × Jv) => ∀ (a72 : Int32), Qb3 I0 J0 (j a72)) (fun y11 => (q2_b3 (fr2_fn_X6_has o (64 : Int32) I hI J hJ) (fun r17 _ _ h73 h74 => (q2_ite ⟨hI, hJ⟩ ⟨hI, hJ⟩)))) (fun j77_1 j75 => (q2_ite (j75 v1) (q2_lt (fun v19 => (j75 v19))))))) (fun j57_0 j76 => (q2_jn (P := Qb3 I0 J0) (j76 ((0 : Int32))) (fun j56_2 j77 => (q2_ite j77 (q2_ite j77 (q2_ite j77 (j76 ((1 : Int32))))))))))))))))
theorem fr2_fl_X7_lookAtWarmths_2_0 {I0 : Iv} {J0 : Jv} (J : Jv) (o : Nat) (Kf0 : Int32 → Iv → Iv × Jv) (hJ : KJ2 J0 J) (hKf0 : ∀ (a78 : Int32) (a79 : Iv), KI2 I0 a79 → Qb2 I0 J0 (Kf0 a78 a79)) : ∀ (fu : Nat) (x1 : Int32) (I2 : Iv), KI2 I0 I2 → Qb2 I0 J0 (fl_X7_lookAtWarmths_2_0 J o Kf0 fu x1 I2) := by
  intro fu
  induction fu with
  | zero =>
    intro x1 I2 hI2
    rw [fl_X7_lookAtWarmths_2_0.eq_1]
    exact ⟨hI2, hJ⟩
  | succ kf0 ih =>
    intro x1 I2 hI2
    rw [fl_X7_lookAtWarmths_2_0.eq_2]
    exact (q2_ite (hKf0 x1 I2 hI2) (q2_b3 (fr2_fn_X6_warmthOf o x1 I2 hI2 J hJ) (fun r10 _ _ h80 h81 => (q2_ltI (k2_wI rfl hI2) (fun I12 h82 => (ih (x1 + (1 : Int32)) I12 h82))))))
theorem fr2_fn_X7_lookAtWarmths {I0 : Iv} {J0 : Jv} (o : Nat) (I : Iv) (hI : KI2 I0 I) (J : Jv) (hJ : KJ2 J0 J) : Qb2 I0 J0 (fn_X7_lookAtWarmths o I J) := by
  unfold fn_X7_lookAtWarmths
  exact (fr2_fl_X7_lookAtWarmths_2_0 J o (fun (x1 : Int32) (I2 : Iv) => (I2, J)) hJ (fun x1 I2 h83 => ⟨h83, hJ⟩) (mU (12 : Int32) ((0 : Int32)) + 1) (0 : Int32) I hI)
theorem fr2_fn_X7_switchMachine {I0 : Iv} {J0 : Jv} (o : Nat) (ho : StB o) (bulb : Int32) (less : Int32) (I : Iv) (hI : KI2 I0 I) (J : Jv) (hJ : KJ2 J0 J) : Qb2 I0 J0 (fn_X7_switchMachine o bulb less I J) := by
  unfold fn_X7_switchMachine
  exact (q2_jn (P := fun (j : Int32 → Iv × Jv) => ∀ (a84 : Int32), Qb2 I0 J0 (j a84)) (fun w1 => (q2_jn (P := fun (j : Int32 → Iv × Jv) => ∀ (a85 : Int32), Qb2 I0 J0 (j a85)) (fun w2 => (q2_ltI (k2_wI (s2o_0 ho) hI) (fun I3 h86 => (q2_lt (fun v5 => (q2_jn (P := fun (j : Iv → Iv × Jv) => ∀ (a87 : Iv), KI2 I0 a87 → Qb2 I0 J0 (j a87)) (fun I6 h88 => (q2_ite ⟨h88, hJ⟩ (q2_ite (q2_ltI (k2_wI (s2o_8 ho) h88) (fun I8 h89 => ⟨h89, hJ⟩)) ⟨h88, hJ⟩))) (fun j139_2 j90 => (q2_ite (q2_ltI (k2_wI (s2o_0 ho) h86) (fun I21 h91 => (j90 I21 h91))) (q2_b3 (fr2_fn_X6_has o (16 : Int32) I3 h86 J hJ) (fun r15 _ _ h92 h93 => (q2_jn (P := Qb2 I0 J0) (q2_ltI (k2_wI (s2o_0 ho) h86) (fun I17 h95 => (j90 I17 h95))) (fun j104_3 j94 => (q2_ite (q2_ite (q2_ite (j90 I3 h86) (q2_ltI (k2_wI (s2o_0 ho) h86) (fun I19 h96 => (j90 I19 h96)))) j94) j94))))))))))))) (fun j49_1 j97 => (q2_ite (j97 w1) (j97 (((I o 9) + ((w1 - (I o 9)) / (8 : Int32))))))))) (fun j19_0 j98 => (q2_jn (P := Qb2 I0 J0) (j98 ((0 : Int32))) (fun j18_4 j99 => (q2_ite j99 (q2_ite j99 (j98 ((I 14 bulb.toNatClampNeg)))))))))
theorem fr2_fn_X7_flow {I0 : Iv} {J0 : Jv} (ease : Int32) (from_ : Int32) (to_ : Int32) (fur : Int32) (I : Iv) (hI : KI2 I0 I) (J : Jv) (hJ : KJ2 J0 J) : Qb2 I0 J0 (fn_X7_flow ease from_ to_ fur I J) := by
  unfold fn_X7_flow
  exact (q2_ite ⟨hI, hJ⟩ (q2_ite ⟨hI, hJ⟩ (q2_ite ⟨hI, hJ⟩ (q2_ite ⟨hI, hJ⟩ (q2_ite (q2_lt (fun v1 => (q2_lt (fun v2 => (q2_ltJ (k2_wJ rfl hJ) (fun J3 h100 => (q2_ltJ (k2_wJ rfl h100) (fun J5 h101 => ⟨hI, h101⟩)))))))) ⟨hI, hJ⟩)))))
theorem fr2_fl_X7_exchange_175_3 {I0 : Iv} {J0 : Jv} (o : Nat) (I25 : Iv) (Kf3 : Int32 → Jv → Iv × Jv) (ho : StB o) (hI25 : KI2 I0 I25) (hKf3 : ∀ (a102 : Int32) (a103 : Jv), KJ2 J0 a103 → Qb2 I0 J0 (Kf3 a102 a103)) : ∀ (fu : Nat) (x29 : Int32) (J30 : Jv), KJ2 J0 J30 → Qb2 I0 J0 (fl_X7_exchange_175_3 o I25 Kf3 fu x29 J30) := by
  intro fu
  induction fu with
  | zero =>
    intro x29 J30 hJ30
    rw [fl_X7_exchange_175_3.eq_1]
    exact ⟨hI25, hJ30⟩
  | succ kf3 ih =>
    intro x29 J30 hJ30
    rw [fl_X7_exchange_175_3.eq_2]
    exact (q2_ite (hKf3 x29 J30 hJ30) (q2_ltJ (k2_wJ (t2o_1 ho) hJ30) (fun J33 h104 => (ih (x29 + (1 : Int32)) J33 h104))))
theorem fr2_fl_X7_exchange_124_2 {I0 : Iv} {J0 : Jv} (o : Nat) (Kf2 : Int32 → Iv → Jv → Iv × Jv) (hKf2 : ∀ (a105 : Int32) (a106 : Iv) (a107 : Jv), KI2 I0 a106 → KJ2 J0 a107 → Qb2 I0 J0 (Kf2 a105 a106 a107)) : ∀ (fu : Nat) (x24 : Int32) (I25 : Iv) (J26 : Jv), KI2 I0 I25 → KJ2 J0 J26 → Qb2 I0 J0 (fl_X7_exchange_124_2 o Kf2 fu x24 I25 J26) := by
  intro fu
  induction fu with
  | zero =>
    intro x24 I25 J26 hI25 hJ26
    rw [fl_X7_exchange_124_2.eq_1]
    exact ⟨hI25, hJ26⟩
  | succ kf2 ih =>
    intro x24 I25 J26 hI25 hJ26
    rw [fl_X7_exchange_124_2.eq_2]
    exact (q2_ite (hKf2 x24 I25 J26 hI25 hJ26) (q2_ite (ih (x24 + (1 : Int32)) I25 J26 hI25 hJ26) (q2_b2 (fr2_fn_X7_flow (I25 8 5) (I25 (o + 4) x24.toNatClampNeg) ((4 : Int32) + x24) (0 : Int32) I25 hI25 J26 hJ26) (fun I35 J36 h108 h109 => (ih (x24 + (1 : Int32)) I35 J36 h108 h109)))))
theorem fr2_fl_X7_exchange_68_1 {I0 : Iv} {J0 : Jv} (Kf1 : Int32 → Iv → Jv → Iv × Jv) (hKf1 : ∀ (a110 : Int32) (a111 : Iv) (a112 : Jv), KI2 I0 a111 → KJ2 J0 a112 → Qb2 I0 J0 (Kf1 a110 a111 a112)) : ∀ (fu : Nat) (x12 : Int32) (I13 : Iv) (J14 : Jv), KI2 I0 I13 → KJ2 J0 J14 → Qb2 I0 J0 (fl_X7_exchange_68_1 Kf1 fu x12 I13 J14) := by
  intro fu
  induction fu with
  | zero =>
    intro x12 I13 J14 hI13 hJ14
    rw [fl_X7_exchange_68_1.eq_1]
    exact ⟨hI13, hJ14⟩
  | succ kf1 ih =>
    intro x12 I13 J14 hI13 hJ14
    rw [fl_X7_exchange_68_1.eq_2]
    exact (q2_ite (hKf1 x12 I13 J14 hI13 hJ14) (q2_b2 (fr2_fn_X7_flow (I13 8 3) x12 (x12 + (1 : Int32)) (0 : Int32) I13 hI13 J14 hJ14) (fun I42 J43 h113 h114 => (ih (x12 + (1 : Int32)) I42 J43 h113 h114))))
theorem fr2_fl_X7_exchange_11_0 {I0 : Iv} {J0 : Jv} (room : Int32) (leak : Int32) (o : Nat) (I1 : Iv) (Kf0 : Int32 → Jv → Iv × Jv) (ho : StB o) (hI1 : KI2 I0 I1) (hKf0 : ∀ (a115 : Int32) (a116 : Jv), KJ2 J0 a116 → Qb2 I0 J0 (Kf0 a115 a116)) : ∀ (fu : Nat) (x8 : Int32) (J9 : Jv), KJ2 J0 J9 → Qb2 I0 J0 (fl_X7_exchange_11_0 room leak o I1 Kf0 fu x8 J9) := by
  intro fu
  induction fu with
  | zero =>
    intro x8 J9 hJ9
    rw [fl_X7_exchange_11_0.eq_1]
    exact ⟨hI1, hJ9⟩
  | succ kf0 ih =>
    intro x8 J9 hJ9
    rw [fl_X7_exchange_11_0.eq_2]
    exact (q2_ite (hKf0 x8 J9 hJ9) (q2_lt (fun v49 => (q2_ltJ (k2_wJ rfl hJ9) (fun J50 h117 => (q2_ltJ (k2_wJ (t2o_7 ho) h117) (fun J52 h118 => (ih (x8 + (1 : Int32)) J52 h118))))))))
theorem fr2_fn_X7_exchange {I0 : Iv} {J0 : Jv} (o : Nat) (ho : StB o) (room : Int32) (leak : Int32) (I : Iv) (hI : KI2 I0 I) (J : Jv) (hJ : KJ2 J0 J) : Qb2 I0 J0 (fn_X7_exchange o room leak I J) := by
  unfold fn_X7_exchange
  exact (q2_ltJ (k2_cJ (fun _ => rfl) hJ) (fun J2 h119 => (q2_ltI hI (fun I1 h120 => (fr2_fl_X7_exchange_11_0 room leak o I1 (fun (x8 : Int32) (J9 : Jv) => fl_X7_exchange_68_1  (fun (x12 : Int32) (I13 : Iv) (J14 : Jv) => b_n2 (fn_X7_flow (I13 8 4) (0 : Int32) (3 : Int32) (I13 (o + 8) 5) I13 J14) (fun (I17 : Iv) (J18 : Jv) => fl_X7_exchange_124_2 o (fun (x24 : Int32) (I25 : Iv) (J26 : Jv) => fl_X7_exchange_175_3 o I25 (fun (x29 : Int32) (J30 : Jv) => (I25, J30)) (mU (12 : Int32) ((0 : Int32)) + 1) (0 : Int32) J26) (mU (8 : Int32) ((0 : Int32)) + 1) (0 : Int32) I17 J18)) (mU (2 : Int32) ((0 : Int32)) + 1) (0 : Int32) I1 J9) ho h120 (fun x8 J9 h121 => (fr2_fl_X7_exchange_68_1 (fun (x12 : Int32) (I13 : Iv) (J14 : Jv) => b_n2 (fn_X7_flow (I13 8 4) (0 : Int32) (3 : Int32) (I13 (o + 8) 5) I13 J14) (fun (I17 : Iv) (J18 : Jv) => fl_X7_exchange_124_2 o (fun (x24 : Int32) (I25 : Iv) (J26 : Jv) => fl_X7_exchange_175_3 o I25 (fun (x29 : Int32) (J30 : Jv) => (I25, J30)) (mU (12 : Int32) ((0 : Int32)) + 1) (0 : Int32) J26) (mU (8 : Int32) ((0 : Int32)) + 1) (0 : Int32) I17 J18)) (fun x12 I13 J14 h122 h123 => (q2_b2 (fr2_fn_X7_flow (I13 8 4) (0 : Int32) (3 : Int32) (I13 (o + 8) 5) I13 h122 J14 h123) (fun I17 J18 h124 h125 => (fr2_fl_X7_exchange_124_2 o (fun (x24 : Int32) (I25 : Iv) (J26 : Jv) => fl_X7_exchange_175_3 o I25 (fun (x29 : Int32) (J30 : Jv) => (I25, J30)) (mU (12 : Int32) ((0 : Int32)) + 1) (0 : Int32) J26) (fun x24 I25 J26 h126 h127 => (fr2_fl_X7_exchange_175_3 o I25 (fun (x29 : Int32) (J30 : Jv) => (I25, J30)) ho h126 (fun x29 J30 h128 => ⟨h126, h128⟩) (mU (12 : Int32) ((0 : Int32)) + 1) (0 : Int32) J26 h127)) (mU (8 : Int32) ((0 : Int32)) + 1) (0 : Int32) I17 J18 h124 h125)))) (mU (2 : Int32) ((0 : Int32)) + 1) (0 : Int32) I1 J9 h120 h121)) (mU (3 : Int32) ((0 : Int32)) + 1) (0 : Int32) J2 h119)))))
theorem fr2_fn_X7_giveLight {I0 : Iv} {J0 : Jv} (o : Nat) (ho : StB o) (I : Iv) (hI : KI2 I0 I) (J : Jv) (hJ : KJ2 J0 J) : Qb2 I0 J0 (fn_X7_giveLight o I J) := by
  unfold fn_X7_giveLight
  exact (q2_lt (fun v1 => (q2_ltJ (k2_wJ (t2o_1 ho) hJ) (fun J2 h129 => (q2_ltJ (k2_wJ (t2o_7 ho) h129) (fun J4 h130 => (q2_ltI (k2_wI (s2o_8 ho) hI) (fun I6 h131 => ⟨h131, h130⟩))))))))
theorem fr2_fn_X7_moveOut {I0 : Iv} {J0 : Jv} (o : Nat) (ho : StB o) (power : Int32) (I : Iv) (hI : KI2 I0 I) (J : Jv) (hJ : KJ2 J0 J) : Qb2 I0 J0 (fn_X7_moveOut o power I J) := by
  unfold fn_X7_moveOut
  exact (q2_lt (fun v1 => (q2_ltJ (k2_wJ (t2o_1 ho) hJ) (fun J2 h132 => (q2_ltJ (k2_wJ (t2o_7 ho) h132) (fun J4 h133 => (q2_ltI (k2_wI (s2o_8 ho) hI) (fun I6 h134 => (q2_ltI (k2_wI (s2o_8 ho) h134) (fun I8 h135 => ⟨h135, h133⟩))))))))))
theorem fr2_fn_X7_takeWet {I0 : Iv} {J0 : Jv} (o : Nat) (ho : StB o) (wet : Int32) (I : Iv) (hI : KI2 I0 I) (J : Jv) (hJ : KJ2 J0 J) : Qb2 I0 J0 (fn_X7_takeWet o wet I J) := by
  unfold fn_X7_takeWet
  exact (q2_ltI (k2_wI (s2o_8 ho) hI) (fun I1 h136 => (q2_b3 (fr2_fn_X6_warmthOf o (3 : Int32) I1 h136 J hJ) (fun r8 _ _ h137 h138 => (q2_ite (q2_lt (fun v10 => (q2_ltI (k2_wI (s2o_8 ho) h136) (fun I11 h139 => (q2_ltI (k2_wI (s2o_8 ho) h139) (fun I13 h140 => (q2_ltI (k2_wI (s2o_8 ho) h140) (fun I15 h141 => ⟨h141, hJ⟩)))))))) (q2_lt (fun v17 => (q2_ltI (k2_wI (s2o_8 ho) h136) (fun I18 h142 => (q2_ltI (k2_wI (s2o_8 ho) h142) (fun I20 h143 => ⟨h143, hJ⟩)))))))))))
theorem fr2_fn_X7_pass {I0 : Iv} {J0 : Jv} (o : Nat) (ho : StB o) (open_ : Int32) (bulb : Int32) (less : Int32) (I : Iv) (hI : KI2 I0 I) (J : Jv) (hJ : KJ2 J0 J) : Qb2 I0 J0 (fn_X7_pass o open_ bulb less I J) := by
  unfold fn_X7_pass
  exact (q2_b2 (fr2_fn_X7_lookAtWarmths o I hI J hJ) (fun I1 J2 h144 h145 => (q2_b3 (fr2_fn_X0_roomOf o I1 h144 J2 h145) (fun r13 _ _ h146 h147 => (q2_b3 (fr2_fn_X0_sealOf o I1 h144 J2 h145) (fun r20 _ _ h148 h149 => (q2_b2 (fr2_fn_X7_switchMachine o ho bulb less I1 h144 J2 h145) (fun I22 J23 h150 h151 => (q2_jn (P := fun (j : Int32 → Iv × Jv) => ∀ (a152 : Int32), Qb2 I0 J0 (j a152)) (fun w29 => (q2_b2 (fr2_fn_X7_exchange o ho r13 (((I22 8 1) + r20) + w29) I22 h150 J23 h151) (fun I30 J31 h153 h154 => (q2_jn (P := fun (j : Iv → Jv → Iv × Jv) => ∀ (a155 : Iv) (a156 : Jv), KI2 I0 a155 → KJ2 J0 a156 → Qb2 I0 J0 (j a155 a156)) (fun I37 J38 h157 h158 => (q2_jn (P := fun (j : Iv → Jv → Iv × Jv) => ∀ (a159 : Iv) (a160 : Jv), KI2 I0 a159 → KJ2 J0 a160 → Qb2 I0 J0 (j a159 a160)) (fun I40 J41 h161 h162 => (q2_jn (P := fun (j : Int32 → Iv × Jv) => ∀ (a163 : Int32), Qb2 I0 J0 (j a163)) (fun w43 => (q2_b2 (fr2_fn_X7_takeWet o ho (r20 + w43) I40 h161 J41 h162) (fun I44 J45 h164 h165 => (q2_ltI (k2_wI (s2o_8 ho) h164) (fun I51 h166 => ⟨h166, h165⟩))))) (fun j135_3 j167 => (q2_ite (j167 ((0 : Int32))) (j167 ((20 : Int32))))))) (fun j121_2 j168 => (q2_ite (j168 I37 J38 h157 h158) (q2_b3 (fr2_fn_X0_powerOf o I37 h157 J38 h158) (fun r58 _ _ h169 h170 => (q2_b2 (fr2_fn_X7_moveOut o ho (r58 - ((r13 - (I37 14 3)) / (8 : Int32))) I37 h157 J38 h158) (fun I60 J61 h171 h172 => (j168 I60 J61 h171 h172))))))))) (fun j88_1 j173 => (q2_ite (j173 I30 J31 h153 h154) (q2_jn (P := Qb2 I0 J0) (q2_b2 (fr2_fn_X7_giveLight o ho I30 h153 J31 h154) (fun I67 J68 h175 h176 => (j173 I67 J68 h175 h176))) (fun j83_4 j174 => (q2_ite (q2_b3 (fr2_fn_X6_has o (32 : Int32) I30 h153 J31 h154) (fun r79 _ _ h177 h178 => (q2_ite (j173 I30 J31 h153 h154) j174))) j174))))))))) (fun j59_0 j179 => (q2_ite (j179 ((0 : Int32))) (j179 ((60 : Int32))))))))))))))
theorem fr2_fl_X7_passByDay_3_0 {I0 : Iv} {J0 : Jv} (n : Int32) (bulb : Int32) (o : Nat) (Kf0 : Int32 → Iv → Jv → Iv × Jv) (ho : StB o) (hKf0 : ∀ (a180 : Int32) (a181 : Iv) (a182 : Jv), KI2 I0 a181 → KJ2 J0 a182 → Qb2 I0 J0 (Kf0 a180 a181 a182)) : ∀ (fu : Nat) (x1 : Int32) (I2 : Iv) (J3 : Jv), KI2 I0 I2 → KJ2 J0 J3 → Qb2 I0 J0 (fl_X7_passByDay_3_0 n bulb o Kf0 fu x1 I2 J3) := by
  intro fu
  induction fu with
  | zero =>
    intro x1 I2 J3 hI2 hJ3
    rw [fl_X7_passByDay_3_0.eq_1]
    exact ⟨hI2, hJ3⟩
  | succ kf0 ih =>
    intro x1 I2 J3 hI2 hJ3
    rw [fl_X7_passByDay_3_0.eq_2]
    exact (q2_ite (hKf0 x1 I2 J3 hI2 hJ3) (q2_b3 (fr2_fn_X6_tickOfDay o I2 hI2 J3 hJ3) (fun r11 _ _ h183 h184 => (q2_b3 (fr2_fn_X3_isOpenIn r11 I2 hI2 J3 hJ3) (fun r18 _ _ h185 h186 => (q2_b2 (fr2_fn_X7_pass o ho r18 bulb (0 : Int32) I2 hI2 J3 hJ3) (fun I20 J21 h187 h188 => (ih (x1 + (1 : Int32)) I20 J21 h187 h188))))))))
theorem fr2_fn_X7_passByDay {I0 : Iv} {J0 : Jv} (o : Nat) (ho : StB o) (n : Int32) (bulb : Int32) (I : Iv) (hI : KI2 I0 I) (J : Jv) (hJ : KJ2 J0 J) : Qb2 I0 J0 (fn_X7_passByDay o n bulb I J) := by
  unfold fn_X7_passByDay
  exact (fr2_fl_X7_passByDay_3_0 n bulb o (fun (x1 : Int32) (I2 : Iv) (J3 : Jv) => (I2, J3)) ho (fun x1 I2 J3 h189 h190 => ⟨h189, h190⟩) (mU n ((0 : Int32)) + 1) (0 : Int32) I J hI hJ)
theorem fr2_fn_X9_isSet {I0 : Iv} {J0 : Jv} (x : Int32) (I : Iv) (hI : KI2 I0 I) (J : Jv) (hJ : KJ2 J0 J) : Qb3 I0 J0 (fn_X9_isSet x I J) := by
  unfold fn_X9_isSet
  exact (q2_ite ⟨hI, hJ⟩ (q2_ite ⟨hI, hJ⟩ ⟨hI, hJ⟩))
theorem fr2_fn_X9_isTrouble {I0 : Iv} {J0 : Jv} (x : Int32) (I : Iv) (hI : KI2 I0 I) (J : Jv) (hJ : KJ2 J0 J) : Qb3 I0 J0 (fn_X9_isTrouble x I J) := by
  unfold fn_X9_isTrouble
  exact (q2_ite ⟨hI, hJ⟩ (q2_ite ⟨hI, hJ⟩ ⟨hI, hJ⟩))
theorem fr2_fn_X9_isSign {I0 : Iv} {J0 : Jv} (x : Int32) (I : Iv) (hI : KI2 I0 I) (J : Jv) (hJ : KJ2 J0 J) : Qb3 I0 J0 (fn_X9_isSign x I J) := by
  unfold fn_X9_isSign
  exact (q2_ite ⟨hI, hJ⟩ (q2_ite ⟨hI, hJ⟩ ⟨hI, hJ⟩))
theorem fr2_fn_X9_isPrice {I0 : Iv} {J0 : Jv} (x : Int32) (I : Iv) (hI : KI2 I0 I) (J : Jv) (hJ : KJ2 J0 J) : Qb3 I0 J0 (fn_X9_isPrice x I J) := by
  unfold fn_X9_isPrice
  exact (q2_ite ⟨hI, hJ⟩ (q2_ite ⟨hI, hJ⟩ ⟨hI, hJ⟩))
theorem fr2_fn_X9_areSignDays {I0 : Iv} {J0 : Jv} (x : Int32) (I : Iv) (hI : KI2 I0 I) (J : Jv) (hJ : KJ2 J0 J) : Qb3 I0 J0 (fn_X9_areSignDays x I J) := by
  unfold fn_X9_areSignDays
  exact (q2_ite ⟨hI, hJ⟩ (q2_ite ⟨hI, hJ⟩ ⟨hI, hJ⟩))
theorem fr2_fn_X9_isPart {I0 : Iv} {J0 : Jv} (part : Int32) (set : Int32) (I : Iv) (hI : KI2 I0 I) (J : Jv) (hJ : KJ2 J0 J) : Qb3 I0 J0 (fn_X9_isPart part set I J) := by
  unfold fn_X9_isPart
  exact (q2_ite ⟨hI, hJ⟩ ⟨hI, hJ⟩)
theorem fr2_fn_J6_bitCount_0f7a4 {I0 : Iv} {J0 : Jv} (x : Int32) (I : Iv) (hI : KI2 I0 I) (J : Jv) (hJ : KJ2 J0 J) : Qb3 I0 J0 (fn_J6_bitCount_0f7a4 x I J) := by
  unfold fn_J6_bitCount_0f7a4
  exact (q2_lt (fun v1 => (q2_lt (fun v2 => (q2_lt (fun v3 => (q2_lt (fun v4 => (q2_lt (fun v5 => ⟨hI, hJ⟩))))))))))
theorem fr2_fn_X1_forgetSigns {I0 : Iv} {J0 : Jv} (I : Iv) (hI : KI2 I0 I) (J : Jv) (hJ : KJ2 J0 J) : Qb2 I0 J0 (fn_X1_forgetSigns I J) := by
  unfold fn_X1_forgetSigns
  exact (q2_ltI (k2_cI (fun _ => rfl) hI) (fun I1 h191 => (q2_ltJ hJ (fun J2 h192 => ⟨h191, h192⟩))))
theorem fr2_fn_X1_placeOf {I0 : Iv} {J0 : Jv} (set : Int32) (n : Int32) (I : Iv) (hI : KI2 I0 I) (J : Jv) (hJ : KJ2 J0 J) : Qb3 I0 J0 (fn_X1_placeOf set n I J) := by
  unfold fn_X1_placeOf
  exact ⟨hI, hJ⟩
theorem fr2_fn_X1_signOf {I0 : Iv} {J0 : Jv} (set : Int32) (n : Int32) (what : Int32) (I : Iv) (hI : KI2 I0 I) (J : Jv) (hJ : KJ2 J0 J) : Qb3 I0 J0 (fn_X1_signOf set n what I J) := by
  unfold fn_X1_signOf
  exact (q2_b3 (fr2_fn_X9_isSet set I hI J hJ) (fun r6 _ _ h193 h194 => (q2_ite ⟨hI, hJ⟩ (q2_b3 (fr2_fn_X9_areSignDays n I hI J hJ) (fun r13 _ _ h195 h196 => (q2_ite ⟨hI, hJ⟩ (q2_b3 (fr2_fn_X9_isSign what I hI J hJ) (fun r20 _ _ h197 h198 => (q2_ite ⟨hI, hJ⟩ (q2_b3 (fr2_fn_X1_placeOf set n I hI J hJ) (fun r27 _ _ h199 h200 => ⟨hI, hJ⟩)))))))))))
theorem fr2_fn_X1_begin {I0 : Iv} {J0 : Jv} (set : Int32) (cur : Int32) (I : Iv) (hI : KI2 I0 I) (J : Jv) (hJ : KJ2 J0 J) : Qb2 I0 J0 (fn_X1_begin set cur I J) := by
  unfold fn_X1_begin
  exact (q2_ltI (k2_wI rfl hI) (fun I1 h201 => (q2_ltI (k2_wI rfl h201) (fun I3 h202 => (q2_b2 (fr2_fn_X6_becomeFresh 46 stB_46 I3 h202 J hJ) (fun I5 J6 h203 h204 => ⟨h203, h204⟩))))))
theorem fr2_fl_X1_learn_148_1 {I0 : Iv} {J0 : Jv} (J33 : Jv) (r44 : Int32) (Kf1 : Int32 → Iv → Iv × Jv) (hJ33 : KJ2 J0 J33) (hKf1 : ∀ (a205 : Int32) (a206 : Iv), KI2 I0 a206 → Qb2 I0 J0 (Kf1 a205 a206)) : ∀ (fu : Nat) (x50 : Int32) (I51 : Iv), KI2 I0 I51 → Qb2 I0 J0 (fl_X1_learn_148_1 J33 r44 Kf1 fu x50 I51) := by
  intro fu
  induction fu with
  | zero =>
    intro x50 I51 hI51
    rw [fl_X1_learn_148_1.eq_1]
    exact ⟨hI51, hJ33⟩
  | succ kf1 ih =>
    intro x50 I51 hI51
    rw [fl_X1_learn_148_1.eq_2]
    exact (q2_ite (hKf1 x50 I51 hI51) (q2_b3 (fr2_fn_X6_warmthOf 46 x50 I51 hI51 J33 hJ33) (fun r63 _ _ h207 h208 => (q2_ltI (k2_wI rfl hI51) (fun I65 h209 => (ih (x50 + (1 : Int32)) I65 h209))))))
theorem fr2_fl_X1_learn_33_0 {I0 : Iv} {J0 : Jv} (set : Int32) (n : Int32) (Kf0 : Int32 → Iv → Jv → Iv × Jv) (hKf0 : ∀ (a210 : Int32) (a211 : Iv) (a212 : Jv), KI2 I0 a211 → KJ2 J0 a212 → Qb2 I0 J0 (Kf0 a210 a211 a212)) : ∀ (fu : Nat) (x22 : Int32) (I23 : Iv) (J24 : Jv), KI2 I0 I23 → KJ2 J0 J24 → Qb2 I0 J0 (fl_X1_learn_33_0 set n Kf0 fu x22 I23 J24) := by
  intro fu
  induction fu with
  | zero =>
    intro x22 I23 J24 hI23 hJ24
    rw [fl_X1_learn_33_0.eq_1]
    exact ⟨hI23, hJ24⟩
  | succ kf0 ih =>
    intro x22 I23 J24 hI23 hJ24
    rw [fl_X1_learn_33_0.eq_2]
    exact (q2_ite (hKf0 x22 I23 J24 hI23 hJ24) (q2_lt (fun v29 => (q2_lt (fun v30 => (q2_lt (fun v31 => (q2_b2 (fr2_fn_X7_passByDay 46 stB_46 (288 : Int32) (I23 8 8) I23 hI23 J24 hJ24) (fun I32 J33 h213 h214 => (q2_b3 (fr2_fn_X1_placeOf set x22 I32 h213 J33 h214) (fun r44 _ _ h215 h216 => (q2_ltI (k2_wI rfl h213) (fun I46 h217 => (q2_ltI (k2_wI rfl h217) (fun I48 h218 => (fr2_fl_X1_learn_148_1 J33 r44 (fun (x50 : Int32) (I51 : Iv) => l_t (wI I51 56 (((r44 + (5 : Int32))).toNatClampNeg) (I51 54 5)) (fun (I54 : Iv) => l_t (wI I54 56 (((r44 + (6 : Int32))).toNatClampNeg) ((I54 54 1) - v31)) (fun (I56 : Iv) => fl_X1_learn_33_0 set n Kf0 kf0 (x22 + (1 : Int32)) I56 J33))) h214 (fun x50 I51 h219 => (q2_ltI (k2_wI rfl h219) (fun I54 h220 => (q2_ltI (k2_wI rfl h220) (fun I56 h221 => (ih (x22 + (1 : Int32)) I56 J33 h221 h214)))))) (mU (3 : Int32) ((0 : Int32)) + 1) (0 : Int32) I48 h218))))))))))))))))
theorem fr2_fn_X1_learn {I0 : Iv} {J0 : Jv} (set : Int32) (n : Int32) (I : Iv) (hI : KI2 I0 I) (J : Jv) (hJ : KJ2 J0 J) : Qb2 I0 J0 (fn_X1_learn set n I J) := by
  unfold fn_X1_learn
  exact (q2_b3 (fr2_fn_X9_isSet set I hI J hJ) (fun r6 _ _ h222 h223 => (q2_ite ⟨hI, hJ⟩ (q2_b3 (fr2_fn_X9_areSignDays n I hI J hJ) (fun r13 _ _ h224 h225 => (q2_ite ⟨hI, hJ⟩ (q2_ite (q2_b2 (fr2_fn_X1_begin set (1 : Int32) I hI J hJ) (fun I15 J16 h226 h227 => (fr2_fl_X1_learn_33_0 set n (fun (x22 : Int32) (I23 : Iv) (J24 : Jv) => l_t (wI I23 55 (set.toNatClampNeg) n) (fun (I27 : Iv) => (I27, J24))) (fun x22 I23 J24 h228 h229 => (q2_ltI (k2_wI rfl h228) (fun I27 h230 => ⟨h230, h229⟩))) (mUe n ((1 : Int32)) + 1) (1 : Int32) I15 J16 h226 h227))) ⟨hI, hJ⟩)))))))
theorem fr2_fl_X1_learnCouldBe_2_0 {I0 : Iv} {J0 : Jv} (n : Int32) (Kf0 : Int32 → Iv → Jv → Iv × Jv) (hKf0 : ∀ (a231 : Int32) (a232 : Iv) (a233 : Jv), KI2 I0 a232 → KJ2 J0 a233 → Qb2 I0 J0 (Kf0 a231 a232 a233)) : ∀ (fu : Nat) (x1 : Int32) (I2 : Iv) (J3 : Jv), KI2 I0 I2 → KJ2 J0 J3 → Qb2 I0 J0 (fl_X1_learnCouldBe_2_0 n Kf0 fu x1 I2 J3) := by
  intro fu
  induction fu with
  | zero =>
    intro x1 I2 J3 hI2 hJ3
    rw [fl_X1_learnCouldBe_2_0.eq_1]
    exact ⟨hI2, hJ3⟩
  | succ kf0 ih =>
    intro x1 I2 J3 hI2 hJ3
    rw [fl_X1_learnCouldBe_2_0.eq_2]
    exact (q2_ite (hKf0 x1 I2 J3 hI2 hJ3) (q2_lt (fun t6 => (q2_b2 (fr2_fn_X1_learn t6 n I2 hI2 J3 hJ3) (fun I7 J8 h234 h235 => (ih (x1 + (1 : Int32)) I7 J8 h234 h235))))))
theorem fr2_fn_X1_learnCouldBe {I0 : Iv} {J0 : Jv} (n : Int32) (I : Iv) (hI : KI2 I0 I) (J : Jv) (hJ : KJ2 J0 J) : Qb2 I0 J0 (fn_X1_learnCouldBe n I J) := by
  unfold fn_X1_learnCouldBe
  exact (fr2_fl_X1_learnCouldBe_2_0 n (fun (x1 : Int32) (I2 : Iv) (J3 : Jv) => (I2, J3)) (fun x1 I2 J3 h236 h237 => ⟨h236, h237⟩) (mU (29 : Int32) ((0 : Int32)) + 1) (0 : Int32) I J hI hJ)
theorem fr2_fl_X1_learnParts_2_0 {I0 : Iv} {J0 : Jv} (set : Int32) (n : Int32) (Kf0 : Int32 → Iv → Jv → Iv × Jv) (hKf0 : ∀ (a238 : Int32) (a239 : Iv) (a240 : Jv), KI2 I0 a239 → KJ2 J0 a240 → Qb2 I0 J0 (Kf0 a238 a239 a240)) : ∀ (fu : Nat) (x1 : Int32) (I2 : Iv) (J3 : Jv), KI2 I0 I2 → KJ2 J0 J3 → Qb2 I0 J0 (fl_X1_learnParts_2_0 set n Kf0 fu x1 I2 J3) := by
  intro fu
  induction fu with
  | zero =>
    intro x1 I2 J3 hI2 hJ3
    rw [fl_X1_learnParts_2_0.eq_1]
    exact ⟨hI2, hJ3⟩
  | succ kf0 ih =>
    intro x1 I2 J3 hI2 hJ3
    rw [fl_X1_learnParts_2_0.eq_2]
    exact (q2_ite (hKf0 x1 I2 J3 hI2 hJ3) (q2_b3 (fr2_fn_X9_isPart x1 set I2 hI2 J3 hJ3) (fun r11 _ _ h241 h242 => (q2_ite (ih (x1 + (1 : Int32)) I2 J3 hI2 hJ3) (q2_b2 (fr2_fn_X1_learn x1 n I2 hI2 J3 hJ3) (fun I13 J14 h243 h244 => (ih (x1 + (1 : Int32)) I13 J14 h243 h244)))))))
theorem fr2_fn_X1_learnParts {I0 : Iv} {J0 : Jv} (set : Int32) (n : Int32) (I : Iv) (hI : KI2 I0 I) (J : Jv) (hJ : KJ2 J0 J) : Qb2 I0 J0 (fn_X1_learnParts set n I J) := by
  unfold fn_X1_learnParts
  exact (fr2_fl_X1_learnParts_2_0 set n (fun (x1 : Int32) (I2 : Iv) (J3 : Jv) => (I2, J3)) (fun x1 I2 J3 h245 h246 => ⟨h245, h246⟩) (mUe set ((0 : Int32)) + 1) (0 : Int32) I J hI hJ)
theorem fr2_fl_X1_firstDay_9_0 {I0 : Iv} {J0 : Jv} (fur : Int32) (Kf0 : Int32 → Iv → Jv → Int32 × Iv × Jv) (hKf0 : ∀ (a247 : Int32) (a248 : Iv) (a249 : Jv), KI2 I0 a248 → KJ2 J0 a249 → Qb3 I0 J0 (Kf0 a247 a248 a249)) : ∀ (fu : Nat) (x8 : Int32) (I9 : Iv) (J10 : Jv), KI2 I0 I9 → KJ2 J0 J10 → Qb3 I0 J0 (fl_X1_firstDay_9_0 fur Kf0 fu x8 I9 J10) := by
  intro fu
  induction fu with
  | zero =>
    intro x8 I9 J10 hI9 hJ10
    rw [fl_X1_firstDay_9_0.eq_1]
    exact ⟨hI9, hJ10⟩
  | succ kf0 ih =>
    intro x8 I9 J10 hI9 hJ10
    rw [fl_X1_firstDay_9_0.eq_2]
    exact (q2_ite (hKf0 x8 I9 J10 hI9 hJ10) (q2_lt (fun v13 => (q2_b2 (fr2_fn_X7_passByDay 46 stB_46 (288 : Int32) (I9 8 8) I9 hI9 J10 hJ10) (fun I14 J15 h250 h251 => (q2_jn (P := fun (j : Int32 → Int32 × Iv × Jv) => ∀ (a252 : Int32), Qb3 I0 J0 (j a252)) (fun w21 => (q2_ite (ih (x8 + (1 : Int32)) I14 J15 h250 h251) ⟨h250, h251⟩)) (fun j104_1 j253 => (q2_ite (q2_ite (j253 ((1 : Int32))) (j253 ((0 : Int32)))) (q2_ite (j253 ((0 : Int32))) (j253 ((1 : Int32))))))))))))
theorem fr2_fn_X1_firstDay {I0 : Iv} {J0 : Jv} (set : Int32) (fur : Int32) (cur : Int32) (I : Iv) (hI : KI2 I0 I) (J : Jv) (hJ : KJ2 J0 J) : Qb3 I0 J0 (fn_X1_firstDay set fur cur I J) := by
  unfold fn_X1_firstDay
  exact (q2_b2 (fr2_fn_X1_begin set cur I hI J hJ) (fun I1 J2 h254 h255 => (fr2_fl_X1_firstDay_9_0 fur (fun (x8 : Int32) (I9 : Iv) (J10 : Jv) => ((-1 : Int32), I9, J10)) (fun x8 I9 J10 h256 h257 => ⟨h256, h257⟩) (mUe (30 : Int32) ((1 : Int32)) + 1) (1 : Int32) I1 J2 h254 h255)))
theorem fr2_fl_X1_usedThawing_10_0 {I0 : Iv} {J0 : Jv} (n : Int32) (p : Int32) (Kf0 : Int32 → Iv → Jv → Int32 × Iv × Jv) (hKf0 : ∀ (a258 : Int32) (a259 : Iv) (a260 : Jv), KI2 I0 a259 → KJ2 J0 a260 → Qb3 I0 J0 (Kf0 a258 a259 a260)) : ∀ (fu : Nat) (x8 : Int32) (I9 : Iv) (J10 : Jv), KI2 I0 I9 → KJ2 J0 J10 → Qb3 I0 J0 (fl_X1_usedThawing_10_0 n p Kf0 fu x8 I9 J10) := by
  intro fu
  induction fu with
  | zero =>
    intro x8 I9 J10 hI9 hJ10
    rw [fl_X1_usedThawing_10_0.eq_1]
    exact ⟨hI9, hJ10⟩
  | succ kf0 ih =>
    intro x8 I9 J10 hI9 hJ10
    rw [fl_X1_usedThawing_10_0.eq_2]
    exact (q2_ite (hKf0 x8 I9 J10 hI9 hJ10) (q2_jn (P := fun (j : Iv → Jv → Int32 × Iv × Jv) => ∀ (a261 : Iv) (a262 : Jv), KI2 I0 a261 → KJ2 J0 a262 → Qb3 I0 J0 (j a261 a262)) (fun I13 J14 h263 h264 => (q2_b2 (fr2_fn_X7_passByDay 46 stB_46 (288 : Int32) (I13 8 8) I13 h263 J14 h264) (fun I16 J17 h265 h266 => (ih (x8 + (1 : Int32)) I16 J17 h265 h266)))) (fun j40_1 j267 => (q2_ite (j267 I9 J10 hI9 hJ10) (q2_ite (j267 I9 J10 hI9 hJ10) (q2_ite (q2_b3 (fr2_fn_X6_letOffIce 46 stB_46 I9 hI9 J10 hJ10) (fun r28 I23 J24 h268 h269 => (j267 I23 J24 h268 h269))) (j267 I9 J10 hI9 hJ10)))))))
theorem fr2_fn_X1_usedThawing {I0 : Iv} {J0 : Jv} (set : Int32) (n : Int32) (p : Int32) (cur : Int32) (I : Iv) (hI : KI2 I0 I) (J : Jv) (hJ : KJ2 J0 J) : Qb3 I0 J0 (fn_X1_usedThawing set n p cur I J) := by
  unfold fn_X1_usedThawing
  exact (q2_b2 (fr2_fn_X1_begin set cur I hI J hJ) (fun I1 J2 h270 h271 => (fr2_fl_X1_usedThawing_10_0 n p (fun (x8 : Int32) (I9 : Iv) (J10 : Jv) => ((I9 54 1), I9, J10)) (fun x8 I9 J10 h272 h273 => ⟨h272, h273⟩) (mU n ((0 : Int32)) + 1) (0 : Int32) I1 J2 h270 h271)))
theorem fr2_fl_X2_howManySeen_4_0 {I0 : Iv} {J0 : Jv} (I : Iv) (J : Jv) (Kf0 : Int32 → Int32 → Int32 × Iv × Jv) (hI : KI2 I0 I) (hJ : KJ2 J0 J) (hKf0 : ∀ (a274 : Int32) (a275 : Int32), Qb3 I0 J0 (Kf0 a274 a275)) : ∀ (fu : Nat) (x1 : Int32) (x2 : Int32), Qb3 I0 J0 (fl_X2_howManySeen_4_0 I J Kf0 fu x1 x2) := by
  intro fu
  induction fu with
  | zero =>
    intro x1 x2
    rw [fl_X2_howManySeen_4_0.eq_1]
    exact ⟨hI, hJ⟩
  | succ kf0 ih =>
    intro x1 x2
    rw [fl_X2_howManySeen_4_0.eq_2]
    exact (q2_ite (hKf0 x1 x2) (q2_ite (ih x1 (x2 + (1 : Int32))) (ih (x1 + (1 : Int32)) (x2 + (1 : Int32)))))
theorem fr2_fn_X2_howManySeen {I0 : Iv} {J0 : Jv} (I : Iv) (hI : KI2 I0 I) (J : Jv) (hJ : KJ2 J0 J) : Qb3 I0 J0 (fn_X2_howManySeen I J) := by
  unfold fn_X2_howManySeen
  exact (fr2_fl_X2_howManySeen_4_0 I J (fun (x1 : Int32) (x2 : Int32) => (x1, I, J)) hI hJ (fun x1 x2 => ⟨hI, hJ⟩) (mU (7 : Int32) ((0 : Int32)) + 1) (0 : Int32) (0 : Int32))
theorem fr2_fn_X2_exactOf {I0 : Iv} {J0 : Jv} (what : Int32) (I : Iv) (hI : KI2 I0 I) (J : Jv) (hJ : KJ2 J0 J) : Qb3 I0 J0 (fn_X2_exactOf what I J) := by
  unfold fn_X2_exactOf
  exact (q2_ite ⟨hI, hJ⟩ (q2_ite ⟨hI, hJ⟩ ⟨hI, hJ⟩))
theorem fr2_fn_X2_halvings {I0 : Iv} {J0 : Jv} (set : Int32) (n : Int32) (what : Int32) (I : Iv) (hI : KI2 I0 I) (J : Jv) (hJ : KJ2 J0 J) : Qb3 I0 J0 (fn_X2_halvings set n what I J) := by
  unfold fn_X2_halvings
  exact (q2_b3 (fr2_fn_X1_signOf set n what I hI J hJ) (fun r6 _ _ h276 h277 => (q2_lt (fun v8 => (q2_b3 (fr2_fn_X2_exactOf what I hI J hJ) (fun r14 _ _ h278 h279 => ⟨hI, hJ⟩))))))
theorem fr2_fl_X2_weightOf_61_1 {I0 : Iv} {J0 : Jv} (I : Iv) (J : Jv) (set : Int32) (n : Int32) (Kf1 : Int64 → Int32 → Int64 × Iv × Jv) (hI : KI2 I0 I) (hJ : KJ2 J0 J) (hKf1 : ∀ (a280 : Int64) (a281 : Int32), Qb3 I0 J0 (Kf1 a280 a281)) : ∀ (fu : Nat) (x4 : Int64) (x5 : Int32), Qb3 I0 J0 (fl_X2_weightOf_61_1 I J set n Kf1 fu x4 x5) := by
  intro fu
  induction fu with
  | zero =>
    intro x4 x5
    rw [fl_X2_weightOf_61_1.eq_1]
    exact ⟨hI, hJ⟩
  | succ kf1 ih =>
    intro x4 x5
    rw [fl_X2_weightOf_61_1.eq_2]
    exact (q2_ite (hKf1 x4 x5) (q2_ite (ih x4 (x5 + (1 : Int32))) (q2_b3 (fr2_fn_X2_halvings set n x5 I hI J hJ) (fun r12 _ _ h282 h283 => (q2_lt (fun v14 => (ih v14 (x5 + (1 : Int32)))))))))
theorem fr2_fl_X2_weightOf_7_0 {I0 : Iv} {J0 : Jv} (I : Iv) (J : Jv) (set : Int32) (Kf0 : Int64 → Int32 → Int64 × Iv × Jv) (hI : KI2 I0 I) (hJ : KJ2 J0 J) (hKf0 : ∀ (a284 : Int64) (a285 : Int32), Qb3 I0 J0 (Kf0 a284 a285)) : ∀ (fu : Nat) (x1 : Int64) (x2 : Int32), Qb3 I0 J0 (fl_X2_weightOf_7_0 I J set Kf0 fu x1 x2) := by
  intro fu
  induction fu with
  | zero =>
    intro x1 x2
    rw [fl_X2_weightOf_7_0.eq_1]
    exact ⟨hI, hJ⟩
  | succ kf0 ih =>
    intro x1 x2
    rw [fl_X2_weightOf_7_0.eq_2]
    exact (q2_ite (hKf0 x1 x2) (q2_jn (P := fun (j : Int32 → Int64 × Iv × Jv) => ∀ (a286 : Int32), Qb3 I0 J0 (j a286)) (fun w15 => (q2_lt (fun v16 => (ih v16 (x2 + (1 : Int32)))))) (fun j45_2 j287 => (q2_ite (j287 (((1000 : Int32) - (I 61 x2.toNatClampNeg)))) (j287 ((I 61 x2.toNatClampNeg)))))))
theorem fr2_fn_X2_weightOf {I0 : Iv} {J0 : Jv} (set : Int32) (n : Int32) (I : Iv) (hI : KI2 I0 I) (J : Jv) (hJ : KJ2 J0 J) : Qb3 I0 J0 (fn_X2_weightOf set n I J) := by
  unfold fn_X2_weightOf
  exact (fr2_fl_X2_weightOf_7_0 I J set (fun (x1 : Int64) (x2 : Int32) => fl_X2_weightOf_61_1 I J set n (fun (x4 : Int64) (x5 : Int32) => (x4, I, J)) (mU (7 : Int32) ((0 : Int32)) + 1) x1 (0 : Int32)) hI hJ (fun x1 x2 => (fr2_fl_X2_weightOf_61_1 I J set n (fun (x4 : Int64) (x5 : Int32) => (x4, I, J)) hI hJ (fun x4 x5 => ⟨hI, hJ⟩) (mU (7 : Int32) ((0 : Int32)) + 1) x1 (0 : Int32))) (mU (7 : Int32) ((0 : Int32)) + 1) (1000000 : Int64) (0 : Int32))
theorem fr2_fl_X2_weighAll_5_0 {I0 : Iv} {J0 : Jv} (I : Iv) (n : Int32) (Kf0 : Int64 → Int32 → Jv → Int64 × Iv × Jv) (hI : KI2 I0 I) (hKf0 : ∀ (a288 : Int64) (a289 : Int32) (a290 : Jv), KJ2 J0 a290 → Qb3 I0 J0 (Kf0 a288 a289 a290)) : ∀ (fu : Nat) (x1 : Int64) (x2 : Int32) (J3 : Jv), KJ2 J0 J3 → Qb3 I0 J0 (fl_X2_weighAll_5_0 I n Kf0 fu x1 x2 J3) := by
  intro fu
  induction fu with
  | zero =>
    intro x1 x2 J3 hJ3
    rw [fl_X2_weighAll_5_0.eq_1]
    exact ⟨hI, hJ3⟩
  | succ kf0 ih =>
    intro x1 x2 J3 hJ3
    rw [fl_X2_weighAll_5_0.eq_2]
    exact (q2_ite (hKf0 x1 x2 J3 hJ3) (q2_lt (fun t6 => (q2_b3 (fr2_fn_X2_weightOf t6 n I hI J3 hJ3) (fun r12 _ _ h291 h292 => (q2_ltJ (k2_wJ rfl hJ3) (fun J14 h293 => (q2_lt (fun v16 => (ih v16 (x2 + (1 : Int32)) J14 h293))))))))))
theorem fr2_fn_X2_weighAll {I0 : Iv} {J0 : Jv} (n : Int32) (I : Iv) (hI : KI2 I0 I) (J : Jv) (hJ : KJ2 J0 J) : Qb3 I0 J0 (fn_X2_weighAll n I J) := by
  unfold fn_X2_weighAll
  exact (fr2_fl_X2_weighAll_5_0 I n (fun (x1 : Int64) (x2 : Int32) (J3 : Jv) => (x1, I, J3)) hI (fun x1 x2 J3 h294 => ⟨hI, h294⟩) (mU (29 : Int32) ((0 : Int32)) + 1) (0 : Int64) (0 : Int32) J hJ)
theorem fr2_fn_X2_share {I0 : Iv} {J0 : Jv} (i : Int32) (all : Int64) (I : Iv) (hI : KI2 I0 I) (J : Jv) (hJ : KJ2 J0 J) : Qb3 I0 J0 (fn_X2_share i all I J) := by
  unfold fn_X2_share
  exact (q2_ite ⟨hI, hJ⟩ (q2_ite ⟨hI, hJ⟩ (q2_ite ⟨hI, hJ⟩ ⟨hI, hJ⟩)))
theorem fr2_fl_X2_isFirstOfClass_2_0 {I0 : Iv} {J0 : Jv} (I : Iv) (J : Jv) (i : Int32) (Kf0 : Int32 → Int32 × Iv × Jv) (hI : KI2 I0 I) (hJ : KJ2 J0 J) (hKf0 : ∀ (a295 : Int32), Qb3 I0 J0 (Kf0 a295)) : ∀ (fu : Nat) (x1 : Int32), Qb3 I0 J0 (fl_X2_isFirstOfClass_2_0 I J i Kf0 fu x1) := by
  intro fu
  induction fu with
  | zero =>
    intro x1
    rw [fl_X2_isFirstOfClass_2_0.eq_1]
    exact ⟨hI, hJ⟩
  | succ kf0 ih =>
    intro x1
    rw [fl_X2_isFirstOfClass_2_0.eq_2]
    exact (q2_ite (hKf0 x1) (q2_ite ⟨hI, hJ⟩ (ih (x1 + (1 : Int32)))))
theorem fr2_fn_X2_isFirstOfClass {I0 : Iv} {J0 : Jv} (i : Int32) (I : Iv) (hI : KI2 I0 I) (J : Jv) (hJ : KJ2 J0 J) : Qb3 I0 J0 (fn_X2_isFirstOfClass i I J) := by
  unfold fn_X2_isFirstOfClass
  exact (fr2_fl_X2_isFirstOfClass_2_0 I J i (fun (x1 : Int32) => ((1 : Int32), I, J)) hI hJ (fun x1 => ⟨hI, hJ⟩) (mU i ((0 : Int32)) + 1) (0 : Int32))
theorem fr2_fl_X2_weightOfClass_5_0 {I0 : Iv} {J0 : Jv} (I : Iv) (J : Jv) (i : Int32) (Kf0 : Int64 → Int32 → Int64 × Iv × Jv) (hI : KI2 I0 I) (hJ : KJ2 J0 J) (hKf0 : ∀ (a296 : Int64) (a297 : Int32), Qb3 I0 J0 (Kf0 a296 a297)) : ∀ (fu : Nat) (x1 : Int64) (x2 : Int32), Qb3 I0 J0 (fl_X2_weightOfClass_5_0 I J i Kf0 fu x1 x2) := by
  intro fu
  induction fu with
  | zero =>
    intro x1 x2
    rw [fl_X2_weightOfClass_5_0.eq_1]
    exact ⟨hI, hJ⟩
  | succ kf0 ih =>
    intro x1 x2
    rw [fl_X2_weightOfClass_5_0.eq_2]
    exact (q2_ite (hKf0 x1 x2) (q2_ite (q2_lt (fun v3 => (ih v3 (x2 + (1 : Int32))))) (ih x1 (x2 + (1 : Int32)))))
theorem fr2_fn_X2_weightOfClass {I0 : Iv} {J0 : Jv} (i : Int32) (I : Iv) (hI : KI2 I0 I) (J : Jv) (hJ : KJ2 J0 J) : Qb3 I0 J0 (fn_X2_weightOfClass i I J) := by
  unfold fn_X2_weightOfClass
  exact (fr2_fl_X2_weightOfClass_5_0 I J i (fun (x1 : Int64) (x2 : Int32) => (x1, I, J)) hI hJ (fun x1 x2 => ⟨hI, hJ⟩) (mU (29 : Int32) i + 1) (0 : Int64) i)
theorem fr2_fl_X2_tellingBy_61_1 {I0 : Iv} {J0 : Jv} (J : Jv) (I2 : Iv) (Kf1 : Int64 → Int32 → Int32 × Iv × Jv) (hJ : KJ2 J0 J) (hI2 : KI2 I0 I2) (hKf1 : ∀ (a298 : Int64) (a299 : Int32), Qb3 I0 J0 (Kf1 a298 a299)) : ∀ (fu : Nat) (x5 : Int64) (x6 : Int32), Qb3 I0 J0 (fl_X2_tellingBy_61_1 J I2 Kf1 fu x5 x6) := by
  intro fu
  induction fu with
  | zero =>
    intro x5 x6
    rw [fl_X2_tellingBy_61_1.eq_1]
    exact ⟨hI2, hJ⟩
  | succ kf1 ih =>
    intro x5 x6
    rw [fl_X2_tellingBy_61_1.eq_2]
    exact (q2_ite (hKf1 x5 x6) (q2_b3 (fr2_fn_X2_isFirstOfClass x6 I2 hI2 J hJ) (fun r13 _ _ h300 h301 => (q2_ite (ih x5 (x6 + (1 : Int32))) (q2_b3 (fr2_fn_X2_weightOfClass x6 I2 hI2 J hJ) (fun r20 _ _ h302 h303 => (q2_lt (fun v22 => (ih v22 (x6 + (1 : Int32)))))))))))
theorem fr2_fl_X2_tellingBy_11_0 {I0 : Iv} {J0 : Jv} (J : Jv) (what : Int32) (n : Int32) (Kf0 : Int32 → Iv → Int32 × Iv × Jv) (hJ : KJ2 J0 J) (hKf0 : ∀ (a304 : Int32) (a305 : Iv), KI2 I0 a305 → Qb3 I0 J0 (Kf0 a304 a305)) : ∀ (fu : Nat) (x1 : Int32) (I2 : Iv), KI2 I0 I2 → Qb3 I0 J0 (fl_X2_tellingBy_11_0 J what n Kf0 fu x1 I2) := by
  intro fu
  induction fu with
  | zero =>
    intro x1 I2 hI2
    rw [fl_X2_tellingBy_11_0.eq_1]
    exact ⟨hI2, hJ⟩
  | succ kf0 ih =>
    intro x1 I2 hI2
    rw [fl_X2_tellingBy_11_0.eq_2]
    exact (q2_ite (hKf0 x1 I2 hI2) (q2_lt (fun t23 => (q2_b3 (fr2_fn_X1_signOf t23 n what I2 hI2 J hJ) (fun r29 _ _ h306 h307 => (q2_b3 (fr2_fn_X2_exactOf what I2 hI2 J hJ) (fun r36 _ _ h308 h309 => (q2_ltI (k2_wI rfl hI2) (fun I38 h310 => (ih (x1 + (1 : Int32)) I38 h310))))))))))
theorem fr2_fn_X2_tellingBy {I0 : Iv} {J0 : Jv} (what : Int32) (n : Int32) (all : Int64) (I : Iv) (hI : KI2 I0 I) (J : Jv) (hJ : KJ2 J0 J) : Qb3 I0 J0 (fn_X2_tellingBy what n all I J) := by
  unfold fn_X2_tellingBy
  exact (q2_ite (fr2_fl_X2_tellingBy_11_0 J what n (fun (x1 : Int32) (I2 : Iv) => fl_X2_tellingBy_61_1 J I2 (fun (x5 : Int64) (x6 : Int32) => ((Int64.toInt32 ((1000 : Int64) - (((1000 : Int64) * x5) / (all * all)))), I2, J)) (mU (29 : Int32) ((0 : Int32)) + 1) (0 : Int64) (0 : Int32)) hJ (fun x1 I2 h311 => (fr2_fl_X2_tellingBy_61_1 J I2 (fun (x5 : Int64) (x6 : Int32) => ((Int64.toInt32 ((1000 : Int64) - (((1000 : Int64) * x5) / (all * all)))), I2, J)) hJ h311 (fun x5 x6 => ⟨h311, hJ⟩) (mU (29 : Int32) ((0 : Int32)) + 1) (0 : Int64) (0 : Int32))) (mU (29 : Int32) ((0 : Int32)) + 1) (0 : Int32) I hI) ⟨hI, hJ⟩)
theorem fr2_fl_X2_oddsOf_9_0 {I0 : Iv} {J0 : Jv} (set : Int32) (I1 : Iv) (J2 : Jv) (r6 : Int64) (Kf0 : Int32 → Int32 × Iv × Jv) (hI1 : KI2 I0 I1) (hJ2 : KJ2 J0 J2) (hKf0 : ∀ (a312 : Int32), Qb3 I0 J0 (Kf0 a312)) : ∀ (fu : Nat) (x9 : Int32), Qb3 I0 J0 (fl_X2_oddsOf_9_0 set I1 J2 r6 Kf0 fu x9) := by
  intro fu
  induction fu with
  | zero =>
    intro x9
    rw [fl_X2_oddsOf_9_0.eq_1]
    exact ⟨hI1, hJ2⟩
  | succ kf0 ih =>
    intro x9
    rw [fl_X2_oddsOf_9_0.eq_2]
    exact (q2_ite (hKf0 x9) (q2_lt (fun t11 => (q2_ite (q2_b3 (fr2_fn_X2_share x9 r6 I1 hI1 J2 hJ2) (fun r17 _ _ h313 h314 => ⟨hI1, hJ2⟩)) (ih (x9 + (1 : Int32)))))))
theorem fr2_fn_X2_oddsOf {I0 : Iv} {J0 : Jv} (set : Int32) (n : Int32) (I : Iv) (hI : KI2 I0 I) (J : Jv) (hJ : KJ2 J0 J) : Qb3 I0 J0 (fn_X2_oddsOf set n I J) := by
  unfold fn_X2_oddsOf
  exact (q2_b3 (fr2_fn_X2_weighAll n I hI J hJ) (fun r6 I1 J2 h315 h316 => (fr2_fl_X2_oddsOf_9_0 set I1 J2 r6 (fun (x9 : Int32) => ((0 : Int32), I1, J2)) h315 h316 (fun x9 => ⟨h315, h316⟩) (mU (29 : Int32) ((0 : Int32)) + 1) (0 : Int32))))
theorem fr2_fl_X2_oddsWith_12_0 {I0 : Iv} {J0 : Jv} (k : Int32) (I1 : Iv) (J2 : Jv) (r6 : Int64) (Kf0 : Int32 → Int32 → Int32 × Iv × Jv) (hI1 : KI2 I0 I1) (hJ2 : KJ2 J0 J2) (hKf0 : ∀ (a317 : Int32) (a318 : Int32), Qb3 I0 J0 (Kf0 a317 a318)) : ∀ (fu : Nat) (x9 : Int32) (x10 : Int32), Qb3 I0 J0 (fl_X2_oddsWith_12_0 k I1 J2 r6 Kf0 fu x9 x10) := by
  intro fu
  induction fu with
  | zero =>
    intro x9 x10
    rw [fl_X2_oddsWith_12_0.eq_1]
    exact ⟨hI1, hJ2⟩
  | succ kf0 ih =>
    intro x9 x10
    rw [fl_X2_oddsWith_12_0.eq_2]
    exact (q2_ite (hKf0 x9 x10) (q2_lt (fun t12 => (q2_ite (ih x9 (x10 + (1 : Int32))) (q2_b3 (fr2_fn_X2_share x10 r6 I1 hI1 J2 hJ2) (fun r18 _ _ h319 h320 => (q2_lt (fun v20 => (ih v20 (x10 + (1 : Int32)))))))))))
theorem fr2_fn_X2_oddsWith {I0 : Iv} {J0 : Jv} (k : Int32) (n : Int32) (I : Iv) (hI : KI2 I0 I) (J : Jv) (hJ : KJ2 J0 J) : Qb3 I0 J0 (fn_X2_oddsWith k n I J) := by
  unfold fn_X2_oddsWith
  exact (q2_b3 (fr2_fn_X2_weighAll n I hI J hJ) (fun r6 I1 J2 h321 h322 => (fr2_fl_X2_oddsWith_12_0 k I1 J2 r6 (fun (x9 : Int32) (x10 : Int32) => (x9, I1, J2)) h321 h322 (fun x9 x10 => ⟨h321, h322⟩) (mU (29 : Int32) ((0 : Int32)) + 1) (0 : Int32) (0 : Int32))))
theorem fr2_fn_X2_howMuchTells {I0 : Iv} {J0 : Jv} (what : Int32) (n : Int32) (I : Iv) (hI : KI2 I0 I) (J : Jv) (hJ : KJ2 J0 J) : Qb3 I0 J0 (fn_X2_howMuchTells what n I J) := by
  unfold fn_X2_howMuchTells
  exact (q2_b3 (fr2_fn_X2_weighAll n I hI J hJ) (fun r6 I1 J2 h323 h324 => (q2_b3 (fr2_fn_X2_tellingBy what n r6 I1 h323 J2 h324) (fun r14 I9 J10 h325 h326 => ⟨h325, h326⟩))))
theorem fr2_fl_X2_nextSign_15_0 {I0 : Iv} {J0 : Jv} (n : Int32) (r6 : Int64) (Kf0 : Int32 → Int32 → Int32 → Iv → Jv → Int32 × Iv × Jv) (hKf0 : ∀ (a327 : Int32) (a328 : Int32) (a329 : Int32) (a330 : Iv) (a331 : Jv), KI2 I0 a330 → KJ2 J0 a331 → Qb3 I0 J0 (Kf0 a327 a328 a329 a330 a331)) : ∀ (fu : Nat) (x9 : Int32) (x10 : Int32) (x11 : Int32) (I12 : Iv) (J13 : Jv), KI2 I0 I12 → KJ2 J0 J13 → Qb3 I0 J0 (fl_X2_nextSign_15_0 n r6 Kf0 fu x9 x10 x11 I12 J13) := by
  intro fu
  induction fu with
  | zero =>
    intro x9 x10 x11 I12 J13 hI12 hJ13
    rw [fl_X2_nextSign_15_0.eq_1]
    exact ⟨hI12, hJ13⟩
  | succ kf0 ih =>
    intro x9 x10 x11 I12 J13 hI12 hJ13
    rw [fl_X2_nextSign_15_0.eq_2]
    exact (q2_ite (hKf0 x9 x10 x11 I12 J13 hI12 hJ13) (q2_ite (q2_b3 (fr2_fn_X2_tellingBy x11 n r6 I12 hI12 J13 hJ13) (fun r21 I16 J17 h332 h333 => (q2_lt (fun v24 => (q2_jn (P := Qb3 I0 J0) (ih x11 v24 (x11 + (1 : Int32)) I16 J17 h332 h333) (fun j66_1 j334 => (q2_ite j334 (q2_ite (ih x9 x10 (x11 + (1 : Int32)) I16 J17 h332 h333) j334)))))))) (ih x9 x10 (x11 + (1 : Int32)) I12 J13 hI12 hJ13)))
theorem fr2_fn_X2_nextSign {I0 : Iv} {J0 : Jv} (n : Int32) (I : Iv) (hI : KI2 I0 I) (J : Jv) (hJ : KJ2 J0 J) : Qb3 I0 J0 (fn_X2_nextSign n I J) := by
  unfold fn_X2_nextSign
  exact (q2_b3 (fr2_fn_X2_weighAll n I hI J hJ) (fun r6 I1 J2 h335 h336 => (fr2_fl_X2_nextSign_15_0 n r6 (fun (x9 : Int32) (x10 : Int32) (x11 : Int32) (I12 : Iv) (J13 : Jv) => (x9, I12, J13)) (fun x9 x10 x11 I12 J13 h337 h338 => ⟨h337, h338⟩) (mU (7 : Int32) ((0 : Int32)) + 1) (-1 : Int32) (0 : Int32) (0 : Int32) I1 J2 h335 h336)))
theorem fr2_fn_X4_yearByUse {I0 : Iv} {J0 : Jv} (used : Int32) (I : Iv) (hI : KI2 I0 I) (J : Jv) (hJ : KJ2 J0 J) : Qb3 I0 J0 (fn_X4_yearByUse used I J) := by
  unfold fn_X4_yearByUse
  exact ⟨hI, hJ⟩
theorem fr2_fn_X4_yearOf {I0 : Iv} {J0 : Jv} (set : Int32) (cur : Int32) (I : Iv) (hI : KI2 I0 I) (J : Jv) (hJ : KJ2 J0 J) : Qb3 I0 J0 (fn_X4_yearOf set cur I J) := by
  unfold fn_X4_yearOf
  exact (q2_ite ⟨hI, hJ⟩ (q2_b3 (fr2_fn_X1_signOf set (2 : Int32) (6 : Int32) I hI J hJ) (fun r6 _ _ h339 h340 => (q2_b3 (fr2_fn_X4_yearByUse r6 I hI J hJ) (fun r13 _ _ h341 h342 => ⟨hI, hJ⟩)))))
theorem fr2_fn_X4_saved {I0 : Iv} {J0 : Jv} (set : Int32) (part : Int32) (cur : Int32) (I : Iv) (hI : KI2 I0 I) (J : Jv) (hJ : KJ2 J0 J) : Qb3 I0 J0 (fn_X4_saved set part cur I J) := by
  unfold fn_X4_saved
  exact (q2_b3 (fr2_fn_X4_yearOf set cur I hI J hJ) (fun r6 _ _ h343 h344 => (q2_b3 (fr2_fn_X4_yearOf (set &&& (part ^^^ (-1 : Int32))) cur I hI J hJ) (fun r13 _ _ h345 h346 => ⟨hI, hJ⟩))))
theorem fr2_fl_X4_costOf_4_0 {I0 : Iv} {J0 : Jv} (I : Iv) (J : Jv) (part : Int32) (Kf0 : Int32 → Int32 → Int32 × Iv × Jv) (hI : KI2 I0 I) (hJ : KJ2 J0 J) (hKf0 : ∀ (a347 : Int32) (a348 : Int32), Qb3 I0 J0 (Kf0 a347 a348)) : ∀ (fu : Nat) (x1 : Int32) (x2 : Int32), Qb3 I0 J0 (fl_X4_costOf_4_0 I J part Kf0 fu x1 x2) := by
  intro fu
  induction fu with
  | zero =>
    intro x1 x2
    rw [fl_X4_costOf_4_0.eq_1]
    exact ⟨hI, hJ⟩
  | succ kf0 ih =>
    intro x1 x2
    rw [fl_X4_costOf_4_0.eq_2]
    exact (q2_ite (hKf0 x1 x2) (q2_ite (ih x1 (x2 + (1 : Int32))) (q2_lt (fun v4 => (ih v4 (x2 + (1 : Int32)))))))
theorem fr2_fn_X4_costOf {I0 : Iv} {J0 : Jv} (part : Int32) (I : Iv) (hI : KI2 I0 I) (J : Jv) (hJ : KJ2 J0 J) : Qb3 I0 J0 (fn_X4_costOf part I J) := by
  unfold fn_X4_costOf
  exact (fr2_fl_X4_costOf_4_0 I J part (fun (x1 : Int32) (x2 : Int32) => (x1, I, J)) hI hJ (fun x1 x2 => ⟨hI, hJ⟩) (mU (7 : Int32) ((0 : Int32)) + 1) (0 : Int32) (0 : Int32))
theorem fr2_fl_X4_bestPart_12_0 {I0 : Iv} {J0 : Jv} (I : Iv) (J : Jv) (set : Int32) (c : Int32) (cur : Int32) (Kf0 : Int32 → Int32 → Int32 → Int32 → Int32 × Iv × Jv) (hI : KI2 I0 I) (hJ : KJ2 J0 J) (hKf0 : ∀ (a349 : Int32) (a350 : Int32) (a351 : Int32) (a352 : Int32), Qb3 I0 J0 (Kf0 a349 a350 a351 a352)) : ∀ (fu : Nat) (x1 : Int32) (x2 : Int32) (x3 : Int32) (x4 : Int32), Qb3 I0 J0 (fl_X4_bestPart_12_0 I J set c cur Kf0 fu x1 x2 x3 x4) := by
  intro fu
  induction fu with
  | zero =>
    intro x1 x2 x3 x4
    rw [fl_X4_bestPart_12_0.eq_1]
    exact ⟨hI, hJ⟩
  | succ kf0 ih =>
    intro x1 x2 x3 x4
    rw [fl_X4_bestPart_12_0.eq_2]
    exact (q2_ite (hKf0 x1 x2 x3 x4) (q2_b3 (fr2_fn_X4_costOf x4 I hI J hJ) (fun r11 _ _ h353 h354 => (q2_b3 (fr2_fn_X9_isPart x4 set I hI J hJ) (fun r18 _ _ h355 h356 => (q2_ite (ih x1 x2 x3 (x4 + (1 : Int32))) (q2_ite (q2_b3 (fr2_fn_X4_saved set x4 cur I hI J hJ) (fun r25 _ _ h357 h358 => (q2_jn (P := Qb3 I0 J0) (ih x4 r25 r11 (x4 + (1 : Int32))) (fun j75_1 j359 => (q2_ite j359 (q2_ite (q2_ite (ih x1 x2 x3 (x4 + (1 : Int32))) j359) (ih x1 x2 x3 (x4 + (1 : Int32))))))))) (ih x1 x2 x3 (x4 + (1 : Int32))))))))))
theorem fr2_fn_X4_bestPart {I0 : Iv} {J0 : Jv} (set : Int32) (c : Int32) (cur : Int32) (I : Iv) (hI : KI2 I0 I) (J : Jv) (hJ : KJ2 J0 J) : Qb3 I0 J0 (fn_X4_bestPart set c cur I J) := by
  unfold fn_X4_bestPart
  exact (fr2_fl_X4_bestPart_12_0 I J set c cur (fun (x1 : Int32) (x2 : Int32) (x3 : Int32) (x4 : Int32) => (x1, I, J)) hI hJ (fun x1 x2 x3 x4 => ⟨hI, hJ⟩) (mUe set ((1 : Int32)) + 1) (0 : Int32) (0 : Int32) (0 : Int32) (1 : Int32))
theorem fr2_fl_X4_yearsToPay_19_0 {I0 : Iv} {J0 : Jv} (I : Iv) (J : Jv) (c : Int32) (v15 : Int64) (Kf0 : Int32 → Int32 × Iv × Jv) (hI : KI2 I0 I) (hJ : KJ2 J0 J) (hKf0 : ∀ (a360 : Int32), Qb3 I0 J0 (Kf0 a360)) : ∀ (fu : Nat) (x16 : Int32), Qb3 I0 J0 (fl_X4_yearsToPay_19_0 I J c v15 Kf0 fu x16) := by
  intro fu
  induction fu with
  | zero =>
    intro x16
    rw [fl_X4_yearsToPay_19_0.eq_1]
    exact ⟨hI, hJ⟩
  | succ kf0 ih =>
    intro x16
    rw [fl_X4_yearsToPay_19_0.eq_2]
    exact (q2_ite (hKf0 x16) (q2_ite (ih (x16 + (1 : Int32))) ⟨hI, hJ⟩))
theorem fr2_fn_X4_yearsToPay {I0 : Iv} {J0 : Jv} (set : Int32) (c : Int32) (u : Int32) (cur : Int32) (I : Iv) (hI : KI2 I0 I) (J : Jv) (hJ : KJ2 J0 J) : Qb3 I0 J0 (fn_X4_yearsToPay set c u cur I J) := by
  unfold fn_X4_yearsToPay
  exact (q2_b3 (fr2_fn_X4_yearOf set cur I hI J hJ) (fun r6 _ _ h361 h362 => (q2_b3 (fr2_fn_X4_yearByUse u I hI J hJ) (fun r13 _ _ h363 h364 => (q2_lt (fun v15 => (fr2_fl_X4_yearsToPay_19_0 I J c v15 (fun (x16 : Int32) => ((-1 : Int32), I, J)) hI hJ (fun x16 => ⟨hI, hJ⟩) (mUe (30 : Int32) ((1 : Int32)) + 1) (1 : Int32))))))))
theorem fr2_fl_X4_bestThawing_9_0 {I0 : Iv} {J0 : Jv} (set : Int32) (n : Int32) (b : Int32) (cur : Int32) (Kf0 : Int32 → Int64 → Int32 → Iv → Jv → Int32 × Iv × Jv) (hKf0 : ∀ (a365 : Int32) (a366 : Int64) (a367 : Int32) (a368 : Iv) (a369 : Jv), KI2 I0 a368 → KJ2 J0 a369 → Qb3 I0 J0 (Kf0 a365 a366 a367 a368 a369)) : ∀ (fu : Nat) (x1 : Int32) (x2 : Int64) (x3 : Int32) (I4 : Iv) (J5 : Jv), KI2 I0 I4 → KJ2 J0 J5 → Qb3 I0 J0 (fl_X4_bestThawing_9_0 set n b cur Kf0 fu x1 x2 x3 I4 J5) := by
  intro fu
  induction fu with
  | zero =>
    intro x1 x2 x3 I4 J5 hI4 hJ5
    rw [fl_X4_bestThawing_9_0.eq_1]
    exact ⟨hI4, hJ5⟩
  | succ kf0 ih =>
    intro x1 x2 x3 I4 J5 hI4 hJ5
    rw [fl_X4_bestThawing_9_0.eq_2]
    exact (q2_ite (hKf0 x1 x2 x3 I4 J5 hI4 hJ5) (q2_b3 (fr2_fn_X1_usedThawing set n x3 cur I4 hI4 J5 hJ5) (fun r13 I8 J9 h370 h371 => (q2_lt (fun v16 => (q2_jn (P := fun (j : Int32 → Int32 × Iv × Jv) => ∀ (a372 : Int32), Qb3 I0 J0 (j a372)) (fun w17 => (q2_lt (fun v18 => (q2_jn (P := Qb3 I0 J0) (ih x3 v18 (x3 + (1 : Int32)) I8 J9 h370 h371) (fun j82_2 j373 => (q2_ite j373 (q2_ite (ih x1 x2 (x3 + (1 : Int32)) I8 J9 h370 h371) j373))))))) (fun j46_1 j374 => (q2_ite (j374 ((0 : Int32))) (j374 (((n - (1 : Int32)) / x3)))))))))))
theorem fr2_fn_X4_bestThawing {I0 : Iv} {J0 : Jv} (set : Int32) (n : Int32) (b : Int32) (cur : Int32) (I : Iv) (hI : KI2 I0 I) (J : Jv) (hJ : KJ2 J0 J) : Qb3 I0 J0 (fn_X4_bestThawing set n b cur I J) := by
  unfold fn_X4_bestThawing
  exact (fr2_fl_X4_bestThawing_9_0 set n b cur (fun (x1 : Int32) (x2 : Int64) (x3 : Int32) (I4 : Iv) (J5 : Jv) => (x1, I4, J5)) (fun x1 x2 x3 I4 J5 h375 h376 => ⟨h375, h376⟩) (mU n ((0 : Int32)) + 1) (0 : Int32) (0 : Int64) (0 : Int32) I J hI hJ)
theorem fr2_fn_X8_boxBulb {I0 : Iv} {J0 : Jv} (I : Iv) (hI : KI2 I0 I) (J : Jv) (hJ : KJ2 J0 J) : Qb3 I0 J0 (fn_X8_boxBulb I J) := by
  unfold fn_X8_boxBulb
  exact ⟨hI, hJ⟩
theorem fr2_fn_X8_isCheapHour {I0 : Iv} {J0 : Jv} (h : Int32) (I : Iv) (hI : KI2 I0 I) (J : Jv) (hJ : KJ2 J0 J) : Qb3 I0 J0 (fn_X8_isCheapHour h I J) := by
  unfold fn_X8_isCheapHour
  exact (q2_ite ⟨hI, hJ⟩ (q2_ite ⟨hI, hJ⟩ (q2_ite ⟨hI, hJ⟩ ⟨hI, hJ⟩)))
theorem fr2_fn_X8_takeIfMore {I0 : Iv} {J0 : Jv} (choice : Int32) (much : Int32) (I : Iv) (hI : KI2 I0 I) (J : Jv) (hJ : KJ2 J0 J) : Qb2 I0 J0 (fn_X8_takeIfMore choice much I J) := by
  unfold fn_X8_takeIfMore
  exact (q2_ite ⟨hI, hJ⟩ (q2_ltI (k2_wI rfl hI) (fun I1 h377 => (q2_ltI (k2_wI rfl h377) (fun I3 h378 => ⟨h378, hJ⟩)))))
theorem fr2_fl_X8_layByRow_6_0 {I0 : Iv} {J0 : Jv} (J : Jv) (q : Nat) (Kf0 : Int32 → Int32 → Iv → Iv × Jv) (hJ : KJ2 J0 J) (hq : ∀ k, S2 q k = false) (hKf0 : ∀ (a379 : Int32) (a380 : Int32) (a381 : Iv), KI2 I0 a381 → Qb2 I0 J0 (Kf0 a379 a380 a381)) : ∀ (fu : Nat) (x1 : Int32) (x2 : Int32) (I3 : Iv), KI2 I0 I3 → Qb2 I0 J0 (fl_X8_layByRow_6_0 J q Kf0 fu x1 x2 I3) := by
  intro fu
  induction fu with
  | zero =>
    intro x1 x2 I3 hI3
    rw [fl_X8_layByRow_6_0.eq_1]
    exact ⟨hI3, hJ⟩
  | succ kf0 ih =>
    intro x1 x2 I3 hI3
    rw [fl_X8_layByRow_6_0.eq_2]
    exact (q2_ite (hKf0 x1 x2 I3 hI3) (q2_ite (ih x1 (x2 + (-1 : Int32)) I3 hI3) (q2_ite (ih x1 (x2 + (-1 : Int32)) I3 hI3) (q2_ltI (k2_wI (hq _) hI3) (fun I6 h382 => (q2_lt (fun v8 => (ih v8 (x2 + (-1 : Int32)) I6 h382))))))))
theorem fr2_fn_X8_layByRow {I0 : Iv} {J0 : Jv} (q : Nat) (hq : ∀ k, S2 q k = false) (rw_ : Int32) (I : Iv) (hI : KI2 I0 I) (J : Jv) (hJ : KJ2 J0 J) : Qb2 I0 J0 (fn_X8_layByRow q rw_ I J) := by
  unfold fn_X8_layByRow
  exact (fr2_fl_X8_layByRow_6_0 J q (fun (x1 : Int32) (x2 : Int32) (I3 : Iv) => (I3, J)) hJ hq (fun x1 x2 I3 h383 => ⟨h383, hJ⟩) (mD ((7 : Int32)) + 1) rw_ (7 : Int32) I hI)
theorem fr2_fn_X8_shelfInBestRow {I0 : Iv} {J0 : Jv} (f : Int32) (I : Iv) (hI : KI2 I0 I) (J : Jv) (hJ : KJ2 J0 J) : Qb3 I0 J0 (fn_X8_shelfInBestRow f I J) := by
  unfold fn_X8_shelfInBestRow
  exact (q2_b2 (fr2_fn_X8_layByRow 77 (fun _ => rfl) (I 67 7) I hI J hJ) (fun I1 J2 h384 h385 => (q2_ite ⟨h384, h385⟩ (q2_ite ⟨h384, h385⟩ ⟨h384, h385⟩))))
theorem fr2_fl_X8_withinOnSecondDay_19_0 {I0 : Iv} {J0 : Jv} (bulb : Int32) (Kf0 : Int32 → Int32 → Iv → Jv → Int32 × Iv × Jv) (hKf0 : ∀ (a386 : Int32) (a387 : Int32) (a388 : Iv) (a389 : Jv), KI2 I0 a388 → KJ2 J0 a389 → Qb3 I0 J0 (Kf0 a386 a387 a388 a389)) : ∀ (fu : Nat) (x8 : Int32) (x9 : Int32) (I10 : Iv) (J11 : Jv), KI2 I0 I10 → KJ2 J0 J11 → Qb3 I0 J0 (fl_X8_withinOnSecondDay_19_0 bulb Kf0 fu x8 x9 I10 J11) := by
  intro fu
  induction fu with
  | zero =>
    intro x8 x9 I10 J11 hI10 hJ11
    rw [fl_X8_withinOnSecondDay_19_0.eq_1]
    exact ⟨hI10, hJ11⟩
  | succ kf0 ih =>
    intro x8 x9 I10 J11 hI10 hJ11
    rw [fl_X8_withinOnSecondDay_19_0.eq_2]
    exact (q2_ite (hKf0 x8 x9 I10 J11 hI10 hJ11) (q2_b2 (fr2_fn_X7_passByDay 68 stB_68 (1 : Int32) bulb I10 hI10 J11 hJ11) (fun I14 J15 h390 h391 => (q2_b3 (fr2_fn_X6_foodsWithin 68 I14 h390 J15 h391) (fun r26 _ _ h392 h393 => (q2_lt (fun v28 => (ih v28 (x9 + (1 : Int32)) I14 J15 h390 h391))))))))
theorem fr2_fn_X8_withinOnSecondDay {I0 : Iv} {J0 : Jv} (bulb : Int32) (I : Iv) (hI : KI2 I0 I) (J : Jv) (hJ : KJ2 J0 J) : Qb3 I0 J0 (fn_X8_withinOnSecondDay bulb I J) := by
  unfold fn_X8_withinOnSecondDay
  exact (q2_b2 (fr2_fn_X7_passByDay 68 stB_68 (288 : Int32) bulb I hI J hJ) (fun I1 J2 h394 h395 => (fr2_fl_X8_withinOnSecondDay_19_0 bulb (fun (x8 : Int32) (x9 : Int32) (I10 : Iv) (J11 : Jv) => (x8, I10, J11)) (fun x8 x9 I10 J11 h396 h397 => ⟨h396, h397⟩) (mU (288 : Int32) ((0 : Int32)) + 1) (0 : Int32) (0 : Int32) I1 J2 h394 h395)))
theorem fr2_fl_X8_findBestRow_45_2 {I0 : Iv} {J0 : Jv} (r6 : Int32) (x8 : Int32) (Kf2 : Int32 → Iv → Jv → Iv × Jv) (hKf2 : ∀ (a398 : Int32) (a399 : Iv) (a400 : Jv), KI2 I0 a399 → KJ2 J0 a400 → Qb2 I0 J0 (Kf2 a398 a399 a400)) : ∀ (fu : Nat) (x15 : Int32) (I16 : Iv) (J17 : Jv), KI2 I0 I16 → KJ2 J0 J17 → Qb2 I0 J0 (fl_X8_findBestRow_45_2 r6 x8 Kf2 fu x15 I16 J17) := by
  intro fu
  induction fu with
  | zero =>
    intro x15 I16 J17 hI16 hJ17
    rw [fl_X8_findBestRow_45_2.eq_1]
    exact ⟨hI16, hJ17⟩
  | succ kf2 ih =>
    intro x15 I16 J17 hI16 hJ17
    rw [fl_X8_findBestRow_45_2.eq_2]
    exact (q2_ite (hKf2 x15 I16 J17 hI16 hJ17) (q2_ite (hKf2 x15 I16 J17 hI16 hJ17) (q2_b2 (fr2_fn_X6_copyFrom 68 stB_68 16 I16 hI16 J17 hJ17) (fun I20 J21 h401 h402 => (q2_b2 (fr2_fn_X8_layByRow 72 (fun _ => rfl) x15 I20 h401 J21 h402) (fun I27 J28 h403 h404 => (q2_b3 (fr2_fn_X8_boxBulb I27 h403 J28 h404) (fun r39 _ _ h405 h406 => (q2_b3 (fr2_fn_X8_withinOnSecondDay r39 I27 h403 J28 h404) (fun r46 I41 J42 h407 h408 => (q2_b2 (fr2_fn_X8_takeIfMore x15 r46 I41 h407 J42 h408) (fun I49 J50 h409 h410 => (ih (x15 + (1 : Int32)) I49 J50 h409 h410)))))))))))))
theorem fr2_fl_X8_findBestRow_12_0 {I0 : Iv} {J0 : Jv} (I : Iv) (J : Jv) (r6 : Int32) (Kf0 : Int32 → Int32 → Iv × Jv) (hI : KI2 I0 I) (hJ : KJ2 J0 J) (hKf0 : ∀ (a411 : Int32) (a412 : Int32), Qb2 I0 J0 (Kf0 a411 a412)) : ∀ (fu : Nat) (x8 : Int32) (x9 : Int32), Qb2 I0 J0 (fl_X8_findBestRow_12_0 I J r6 Kf0 fu x8 x9) := by
  intro fu
  induction fu with
  | zero =>
    intro x8 x9
    rw [fl_X8_findBestRow_12_0.eq_1]
    exact ⟨hI, hJ⟩
  | succ kf0 ih =>
    intro x8 x9
    rw [fl_X8_findBestRow_12_0.eq_2]
    exact (q2_jn (P := Qb2 I0 J0) (hKf0 x8 x9) (fun j33_1 j413 => (q2_ite j413 (q2_ite j413 (q2_lt (fun v56 => (ih v56 (x9 + (1 : Int32)))))))))
theorem fr2_fn_X8_findBestRow {I0 : Iv} {J0 : Jv} (I : Iv) (hI : KI2 I0 I) (J : Jv) (hJ : KJ2 J0 J) : Qb2 I0 J0 (fn_X8_findBestRow I J) := by
  unfold fn_X8_findBestRow
  exact (q2_b3 (fr2_fn_X6_foodsThere 16 I hI J hJ) (fun r6 _ _ h414 h415 => (fr2_fl_X8_findBestRow_12_0 I J r6 (fun (x8 : Int32) (x9 : Int32) => l_t (wI I 67 7 (0 : Int32)) (fun (I11 : Iv) => l_t (wI I11 67 8 (-1 : Int32)) (fun (I13 : Iv) => fl_X8_findBestRow_45_2 r6 x8 (fun (x15 : Int32) (I16 : Iv) (J17 : Jv) => (I16, J17)) (mU x8 ((0 : Int32)) + 1) (0 : Int32) I13 J))) hI hJ (fun x8 x9 => (q2_ltI (k2_wI rfl hI) (fun I11 h416 => (q2_ltI (k2_wI rfl h416) (fun I13 h417 => (fr2_fl_X8_findBestRow_45_2 r6 x8 (fun (x15 : Int32) (I16 : Iv) (J17 : Jv) => (I16, J17)) (fun x15 I16 J17 h418 h419 => ⟨h418, h419⟩) (mU x8 ((0 : Int32)) + 1) (0 : Int32) I13 J h417 hJ)))))) (mU r6 ((0 : Int32)) + 1) (1 : Int32) (0 : Int32))))
theorem fr2_fl_X8_findBestBulb_12_0 {I0 : Iv} {J0 : Jv} (Kf0 : Int32 → Iv → Jv → Iv × Jv) (hKf0 : ∀ (a420 : Int32) (a421 : Iv) (a422 : Jv), KI2 I0 a421 → KJ2 J0 a422 → Qb2 I0 J0 (Kf0 a420 a421 a422)) : ∀ (fu : Nat) (x5 : Int32) (I6 : Iv) (J7 : Jv), KI2 I0 I6 → KJ2 J0 J7 → Qb2 I0 J0 (fl_X8_findBestBulb_12_0 Kf0 fu x5 I6 J7) := by
  intro fu
  induction fu with
  | zero =>
    intro x5 I6 J7 hI6 hJ7
    rw [fl_X8_findBestBulb_12_0.eq_1]
    exact ⟨hI6, hJ7⟩
  | succ kf0 ih =>
    intro x5 I6 J7 hI6 hJ7
    rw [fl_X8_findBestBulb_12_0.eq_2]
    exact (q2_ite (hKf0 x5 I6 J7 hI6 hJ7) (q2_b2 (fr2_fn_X6_copyFrom 68 stB_68 16 I6 hI6 J7 hJ7) (fun I10 J11 h423 h424 => (q2_b3 (fr2_fn_X8_withinOnSecondDay x5 I10 h423 J11 h424) (fun r22 I17 J18 h425 h426 => (q2_b2 (fr2_fn_X8_takeIfMore x5 r22 I17 h425 J18 h426) (fun I25 J26 h427 h428 => (ih (x5 + (1 : Int32)) I25 J26 h427 h428))))))))
theorem fr2_fn_X8_findBestBulb {I0 : Iv} {J0 : Jv} (I : Iv) (hI : KI2 I0 I) (J : Jv) (hJ : KJ2 J0 J) : Qb2 I0 J0 (fn_X8_findBestBulb I J) := by
  unfold fn_X8_findBestBulb
  exact (q2_ltI (k2_wI rfl hI) (fun I1 h429 => (q2_ltI (k2_wI rfl h429) (fun I3 h430 => (fr2_fl_X8_findBestBulb_12_0 (fun (x5 : Int32) (I6 : Iv) (J7 : Jv) => (I6, J7)) (fun x5 I6 J7 h431 h432 => ⟨h431, h432⟩) (mU (3 : Int32) ((0 : Int32)) + 1) (0 : Int32) I3 J h430 hJ)))))
theorem fr2_fl_X8_ticksWithoutCurrent_21_0 {I0 : Iv} {J0 : Jv} (f : Int32) (Kf0 : Int32 → Iv → Jv → Int32 × Iv × Jv) (hKf0 : ∀ (a433 : Int32) (a434 : Iv) (a435 : Jv), KI2 I0 a434 → KJ2 J0 a435 → Qb3 I0 J0 (Kf0 a433 a434 a435)) : ∀ (fu : Nat) (x10 : Int32) (I11 : Iv) (J12 : Jv), KI2 I0 I11 → KJ2 J0 J12 → Qb3 I0 J0 (fl_X8_ticksWithoutCurrent_21_0 f Kf0 fu x10 I11 J12) := by
  intro fu
  induction fu with
  | zero =>
    intro x10 I11 J12 hI11 hJ12
    rw [fl_X8_ticksWithoutCurrent_21_0.eq_1]
    exact ⟨hI11, hJ12⟩
  | succ kf0 ih =>
    intro x10 I11 J12 hI11 hJ12
    rw [fl_X8_ticksWithoutCurrent_21_0.eq_2]
    exact (q2_ite (hKf0 x10 I11 J12 hI11 hJ12) (q2_b3 (fr2_fn_X8_boxBulb I11 hI11 J12 hJ12) (fun r20 _ _ h436 h437 => (q2_b2 (fr2_fn_X7_passByDay 68 stB_68 (1 : Int32) r20 I11 hI11 J12 hJ12) (fun I22 J23 h438 h439 => (q2_b3 (fr2_fn_X6_isWithin 68 f I22 h438 J23 h439) (fun r34 _ _ h440 h441 => (q2_ite ⟨h438, h439⟩ (ih (x10 + (1 : Int32)) I22 J23 h438 h439)))))))))
theorem fr2_fn_X8_ticksWithoutCurrent {I0 : Iv} {J0 : Jv} (f : Int32) (I : Iv) (hI : KI2 I0 I) (J : Jv) (hJ : KJ2 J0 J) : Qb3 I0 J0 (fn_X8_ticksWithoutCurrent f I J) := by
  unfold fn_X8_ticksWithoutCurrent
  exact (q2_b2 (fr2_fn_X6_copyFrom 68 stB_68 16 I hI J hJ) (fun I1 J2 h442 h443 => (q2_ltI (k2_wI rfl h442) (fun I8 h444 => (fr2_fl_X8_ticksWithoutCurrent_21_0 f (fun (x10 : Int32) (I11 : Iv) (J12 : Jv) => ((-1 : Int32), I11, J12)) (fun x10 I11 J12 h445 h446 => ⟨h445, h446⟩) (mUe (864 : Int32) ((0 : Int32)) + 1) (0 : Int32) I8 J2 h444 h443)))))
theorem fr2_fl_X8_paidStoring_26_0 {I0 : Iv} {J0 : Jv} (n : Int32) (d : Int32) (price : Int32) (r6 : Int32) (Kf0 : Int64 → Int32 → Iv → Jv → Int32 × Iv × Jv) (hKf0 : ∀ (a447 : Int64) (a448 : Int32) (a449 : Iv) (a450 : Jv), KI2 I0 a449 → KJ2 J0 a450 → Qb3 I0 J0 (Kf0 a447 a448 a449 a450)) : ∀ (fu : Nat) (x15 : Int64) (x16 : Int32) (I17 : Iv) (J18 : Jv), KI2 I0 I17 → KJ2 J0 J18 → Qb3 I0 J0 (fl_X8_paidStoring_26_0 n d price r6 Kf0 fu x15 x16 I17 J18) := by
  intro fu
  induction fu with
  | zero =>
    intro x15 x16 I17 J18 hI17 hJ18
    rw [fl_X8_paidStoring_26_0.eq_1]
    exact ⟨hI17, hJ18⟩
  | succ kf0 ih =>
    intro x15 x16 I17 J18 hI17 hJ18
    rw [fl_X8_paidStoring_26_0.eq_2]
    exact (q2_ite (hKf0 x15 x16 I17 J18 hI17 hJ18) (q2_b3 (fr2_fn_X6_tickOfDay 68 I17 hI17 J18 hJ18) (fun r26 _ _ h451 h452 => (q2_b3 (fr2_fn_X8_isCheapHour (r26 / (12 : Int32)) I17 hI17 J18 hJ18) (fun r33 _ _ h453 h454 => (q2_lt (fun v35 => (q2_b3 (fr2_fn_X3_isOpenIn r26 I17 hI17 J18 hJ18) (fun r41 _ _ h455 h456 => (q2_b3 (fr2_fn_X8_boxBulb I17 hI17 J18 hJ18) (fun r48 _ _ h457 h458 => (q2_jn (P := fun (j : Int32 → Int32 × Iv × Jv) => ∀ (a459 : Int32), Qb3 I0 J0 (j a459)) (fun w50 => (q2_b2 (fr2_fn_X7_pass 68 stB_68 r41 r48 w50 I17 hI17 J18 hJ18) (fun I51 J52 h460 h461 => (q2_b3 (fr2_fn_X6_foodsWithin 68 I51 h460 J52 h461) (fun r63 _ _ h462 h463 => (q2_ite (q2_jn (P := fun (j : Int32 → Int32 × Iv × Jv) => ∀ (a464 : Int32), Qb3 I0 J0 (j a464)) (fun w65 => (q2_lt (fun v66 => (ih v66 (x16 + (1 : Int32)) I51 J52 h460 h461)))) (fun j146_2 j465 => (q2_ite (j465 price) (j465 ((I51 67 6)))))) ⟨h460, h461⟩)))))) (fun j101_1 j466 => (q2_ite (j466 ((0 : Int32))) (j466 d)))))))))))))))
theorem fr2_fn_X8_paidStoring {I0 : Iv} {J0 : Jv} (n : Int32) (d : Int32) (price : Int32) (I : Iv) (hI : KI2 I0 I) (J : Jv) (hJ : KJ2 J0 J) : Qb3 I0 J0 (fn_X8_paidStoring n d price I J) := by
  unfold fn_X8_paidStoring
  exact (q2_b3 (fr2_fn_X6_foodsThere 16 I hI J hJ) (fun r6 _ _ h467 h468 => (q2_b2 (fr2_fn_X6_copyFrom 68 stB_68 16 I hI J hJ) (fun I8 J9 h469 h470 => (fr2_fl_X8_paidStoring_26_0 n d price r6 (fun (x15 : Int64) (x16 : Int32) (I17 : Iv) (J18 : Jv) => ((Int64.toInt32 (x15 / (1000 : Int64))), I17, J18)) (fun x15 x16 I17 J18 h471 h472 => ⟨h471, h472⟩) (mU (n * (288 : Int32)) ((0 : Int32)) + 1) (0 : Int64) (0 : Int32) I8 J9 h469 h470)))))
theorem fr2_fl_X8_findBestStore_12_0 {I0 : Iv} {J0 : Jv} (n : Int32) (price : Int32) (Kf0 : Int32 → Iv → Jv → Iv × Jv) (hKf0 : ∀ (a473 : Int32) (a474 : Iv) (a475 : Jv), KI2 I0 a474 → KJ2 J0 a475 → Qb2 I0 J0 (Kf0 a473 a474 a475)) : ∀ (fu : Nat) (x5 : Int32) (I6 : Iv) (J7 : Jv), KI2 I0 I6 → KJ2 J0 J7 → Qb2 I0 J0 (fl_X8_findBestStore_12_0 n price Kf0 fu x5 I6 J7) := by
  intro fu
  induction fu with
  | zero =>
    intro x5 I6 J7 hI6 hJ7
    rw [fl_X8_findBestStore_12_0.eq_1]
    exact ⟨hI6, hJ7⟩
  | succ kf0 ih =>
    intro x5 I6 J7 hI6 hJ7
    rw [fl_X8_findBestStore_12_0.eq_2]
    exact (q2_ite (hKf0 x5 I6 J7 hI6 hJ7) (q2_b3 (fr2_fn_X8_paidStoring n x5 price I6 hI6 J7 hJ7) (fun r14 I9 J10 h476 h477 => (q2_ite (ih (x5 + (5 : Int32)) I9 J10 h476 h477) (q2_jn (P := Qb2 I0 J0) (q2_ltI (k2_wI rfl h476) (fun I17 h479 => (q2_ltI (k2_wI rfl h479) (fun I19 h480 => (ih (x5 + (5 : Int32)) I19 J10 h480 h477))))) (fun j50_1 j478 => (q2_ite j478 (q2_ite (ih (x5 + (5 : Int32)) I9 J10 h476 h477) j478))))))))
theorem fr2_fn_X8_findBestStore {I0 : Iv} {J0 : Jv} (n : Int32) (price : Int32) (I : Iv) (hI : KI2 I0 I) (J : Jv) (hJ : KJ2 J0 J) : Qb2 I0 J0 (fn_X8_findBestStore n price I J) := by
  unfold fn_X8_findBestStore
  exact (q2_ltI (k2_wI rfl hI) (fun I1 h481 => (q2_ltI (k2_wI rfl h481) (fun I3 h482 => (fr2_fl_X8_findBestStore_12_0 n price (fun (x5 : Int32) (I6 : Iv) (J7 : Jv) => (I6, J7)) (fun x5 I6 J7 h483 h484 => ⟨h483, h484⟩) (mUe 40 ((0 : Int32)) + 1) (0 : Int32) I3 J h482 hJ)))))
theorem fr2_fn_X5_isFigure {I0 : Iv} {J0 : Jv} (x : Int32) (I : Iv) (hI : KI2 I0 I) (J : Jv) (hJ : KJ2 J0 J) : Qb3 I0 J0 (fn_X5_isFigure x I J) := by
  unfold fn_X5_isFigure
  exact (q2_ite ⟨hI, hJ⟩ (q2_ite ⟨hI, hJ⟩ ⟨hI, hJ⟩))
theorem fr2_fn_X5_isLetter {I0 : Iv} {J0 : Jv} (x : Int32) (I : Iv) (hI : KI2 I0 I) (J : Jv) (hJ : KJ2 J0 J) : Qb3 I0 J0 (fn_X5_isLetter x I J) := by
  unfold fn_X5_isLetter
  exact (q2_ite ⟨hI, hJ⟩ (q2_ite ⟨hI, hJ⟩ ⟨hI, hJ⟩))
theorem fr2_fn_X5_faultAt {I0 : Iv} {J0 : Jv} (number : Int32) (where_ : Int32) (I : Iv) (hI : KI2 I0 I) (J : Jv) (hJ : KJ2 J0 J) : Qb2 I0 J0 (fn_X5_faultAt number where_ I J) := by
  unfold fn_X5_faultAt
  exact (q2_ltI (k2_wI rfl hI) (fun I1 h485 => (q2_ltI (k2_wI rfl h485) (fun I3 h486 => ⟨h486, hJ⟩))))
theorem fr2_fl_X5_skipBlanks_0_0 {I0 : Iv} {J0 : Jv} (J : Jv) (Kf0 : Iv → Iv × Jv) (hJ : KJ2 J0 J) (hKf0 : ∀ (a487 : Iv), KI2 I0 a487 → Qb2 I0 J0 (Kf0 a487)) : ∀ (fu : Nat) (I1 : Iv), KI2 I0 I1 → Qb2 I0 J0 (fl_X5_skipBlanks_0_0 J Kf0 fu I1) := by
  intro fu
  induction fu with
  | zero =>
    intro I1 hI1
    rw [fl_X5_skipBlanks_0_0.eq_1]
    exact ⟨hI1, hJ⟩
  | succ kf0 ih =>
    intro I1 hI1
    rw [fl_X5_skipBlanks_0_0.eq_2]
    exact (q2_ite (hKf0 I1 hI1) (q2_ite (q2_ltI (k2_wI rfl hI1) (fun I3 h488 => (ih I3 h488))) (hKf0 I1 hI1)))
theorem fr2_fn_X5_skipBlanks {I0 : Iv} {J0 : Jv} (I : Iv) (hI : KI2 I0 I) (J : Jv) (hJ : KJ2 J0 J) : Qb2 I0 J0 (fn_X5_skipBlanks I J) := by
  unfold fn_X5_skipBlanks
  exact (fr2_fl_X5_skipBlanks_0_0 J (fun (I1 : Iv) => (I1, J)) hJ (fun I1 h489 => ⟨h489, hJ⟩) (mU (I 1 1) (I 1 2) + 1) I hI)
theorem fr2_fl_X5_readWord_0_0 {I0 : Iv} {J0 : Jv} (J : Jv) (Kf0 : Iv → Iv × Jv) (hJ : KJ2 J0 J) (hKf0 : ∀ (a490 : Iv), KI2 I0 a490 → Qb2 I0 J0 (Kf0 a490)) : ∀ (fu : Nat) (I1 : Iv), KI2 I0 I1 → Qb2 I0 J0 (fl_X5_readWord_0_0 J Kf0 fu I1) := by
  intro fu
  induction fu with
  | zero =>
    intro I1 hI1
    rw [fl_X5_readWord_0_0.eq_1]
    exact ⟨hI1, hJ⟩
  | succ kf0 ih =>
    intro I1 hI1
    rw [fl_X5_readWord_0_0.eq_2]
    exact (q2_ite (hKf0 I1 hI1) (q2_b3 (fr2_fn_X5_isLetter (I1 2 ((I1 1 2)).toNatClampNeg) I1 hI1 J hJ) (fun r8 _ _ h491 h492 => (q2_ite (hKf0 I1 hI1) (q2_ltI (k2_wI rfl hI1) (fun I10 h493 => (ih I10 h493)))))))
theorem fr2_fn_X5_readWord {I0 : Iv} {J0 : Jv} (I : Iv) (hI : KI2 I0 I) (J : Jv) (hJ : KJ2 J0 J) : Qb2 I0 J0 (fn_X5_readWord I J) := by
  unfold fn_X5_readWord
  exact (fr2_fl_X5_readWord_0_0 J (fun (I1 : Iv) => (I1, J)) hJ (fun I1 h494 => ⟨h494, hJ⟩) (mU (I 1 1) (I 1 2) + 1) I hI)
theorem fr2_fn_X5_begin {I0 : Iv} {J0 : Jv} (I : Iv) (hI : KI2 I0 I) (J : Jv) (hJ : KJ2 J0 J) : Qb2 I0 J0 (fn_X5_begin I J) := by
  unfold fn_X5_begin
  exact (q2_ltI (k2_wI rfl hI) (fun I1 h495 => (q2_ltI (k2_wI rfl h495) (fun I3 h496 => (q2_ltI (k2_wI rfl h496) (fun I5 h497 => (q2_ltI (k2_wI rfl h497) (fun I7 h498 => (q2_b2 (fr2_fn_X5_skipBlanks I7 h498 J hJ) (fun I9 J10 h499 h500 => ⟨h499, h500⟩))))))))))
theorem fr2_fn_X5_wordOf {I0 : Iv} {J0 : Jv} (x : Int32) (I : Iv) (hI : KI2 I0 I) (J : Jv) (hJ : KJ2 J0 J) : Qb3 I0 J0 (fn_X5_wordOf x I J) := by
  unfold fn_X5_wordOf
  exact (q2_ite ⟨hI, hJ⟩ (q2_lt (fun sw0 => (q2_ite ⟨hI, hJ⟩ (q2_ite ⟨hI, hJ⟩ (q2_ite ⟨hI, hJ⟩ (q2_ite ⟨hI, hJ⟩ (q2_ite ⟨hI, hJ⟩ (q2_ite ⟨hI, hJ⟩ (q2_ite ⟨hI, hJ⟩ (q2_ite ⟨hI, hJ⟩ (q2_ite ⟨hI, hJ⟩ (q2_ite ⟨hI, hJ⟩ (q2_ite ⟨hI, hJ⟩ (q2_ite ⟨hI, hJ⟩ ⟨hI, hJ⟩)))))))))))))))
theorem fr2_fl_X5_isWord_17_0 {I0 : Iv} {J0 : Jv} (I : Iv) (J : Jv) (first : Int32) (j : Nat) (Kf0 : Int32 → Int32 × Iv × Jv) (hI : KI2 I0 I) (hJ : KJ2 J0 J) (hKf0 : ∀ (a501 : Int32), Qb3 I0 J0 (Kf0 a501)) : ∀ (fu : Nat) (x8 : Int32), Qb3 I0 J0 (fl_X5_isWord_17_0 I J first j Kf0 fu x8) := by
  intro fu
  induction fu with
  | zero =>
    intro x8
    rw [fl_X5_isWord_17_0.eq_1]
    exact ⟨hI, hJ⟩
  | succ kf0 ih =>
    intro x8
    rw [fl_X5_isWord_17_0.eq_2]
    exact (q2_lt (fun r15 => (q2_ite (hKf0 x8) (q2_lt (fun r22 => (q2_ite (ih (x8 + (1 : Int32))) ⟨hI, hJ⟩))))))
theorem fr2_fn_X5_isWord {I0 : Iv} {J0 : Jv} (j : Nat) (first : Int32) (I : Iv) (hI : KI2 I0 I) (J : Jv) (hJ : KJ2 J0 J) : Qb3 I0 J0 (fn_X5_isWord j first I J) := by
  unfold fn_X5_isWord
  exact (q2_lt (fun r6 => (q2_ite (fr2_fl_X5_isWord_17_0 I J first j (fun (x8 : Int32) => ((1 : Int32), I, J)) hI hJ (fun x8 => ⟨hI, hJ⟩) (mU (Int32.ofNat (sB j).length) ((0 : Int32)) + 1) (0 : Int32)) ⟨hI, hJ⟩)))
theorem fr2_fl_X5_clauseFrom_2_0 {I0 : Iv} {J0 : Jv} (I : Iv) (J : Jv) (first : Int32) (Kf0 : Int32 → Int32 × Iv × Jv) (hI : KI2 I0 I) (hJ : KJ2 J0 J) (hKf0 : ∀ (a502 : Int32), Qb3 I0 J0 (Kf0 a502)) : ∀ (fu : Nat) (x1 : Int32), Qb3 I0 J0 (fl_X5_clauseFrom_2_0 I J first Kf0 fu x1) := by
  intro fu
  induction fu with
  | zero =>
    intro x1
    rw [fl_X5_clauseFrom_2_0.eq_1]
    exact ⟨hI, hJ⟩
  | succ kf0 ih =>
    intro x1
    rw [fl_X5_clauseFrom_2_0.eq_2]
    exact (q2_ite (hKf0 x1) (q2_b3 (fr2_fn_X5_wordOf x1 I hI J hJ) (fun r8 _ _ h503 h504 => (q2_lt (fun j => (q2_b3 (fr2_fn_X5_isWord j first I hI J hJ) (fun r15 _ _ h505 h506 => (q2_ite (ih (x1 + (1 : Int32))) ⟨hI, hJ⟩))))))))
theorem fr2_fn_X5_clauseFrom {I0 : Iv} {J0 : Jv} (first : Int32) (I : Iv) (hI : KI2 I0 I) (J : Jv) (hJ : KJ2 J0 J) : Qb3 I0 J0 (fn_X5_clauseFrom first I J) := by
  unfold fn_X5_clauseFrom
  exact (fr2_fl_X5_clauseFrom_2_0 I J first (fun (x1 : Int32) => ((-1 : Int32), I, J)) hI hJ (fun x1 => ⟨hI, hJ⟩) (mU (13 : Int32) ((0 : Int32)) + 1) (0 : Int32))
theorem fr2_fl_X5_readNumber_21_0 {I0 : Iv} {J0 : Jv} (J2 : Jv) (v8 : Int32) (Kf0 : Int32 → Iv → Int32 × Iv × Jv) (hJ2 : KJ2 J0 J2) (hKf0 : ∀ (a507 : Int32) (a508 : Iv), KI2 I0 a508 → Qb3 I0 J0 (Kf0 a507 a508)) : ∀ (fu : Nat) (x9 : Int32) (I10 : Iv), KI2 I0 I10 → Qb3 I0 J0 (fl_X5_readNumber_21_0 J2 v8 Kf0 fu x9 I10) := by
  intro fu
  induction fu with
  | zero =>
    intro x9 I10 hI10
    rw [fl_X5_readNumber_21_0.eq_1]
    exact ⟨hI10, hJ2⟩
  | succ kf0 ih =>
    intro x9 I10 hI10
    rw [fl_X5_readNumber_21_0.eq_2]
    exact (q2_jn (P := Qb3 I0 J0) (hKf0 x9 I10 hI10) (fun j90_1 j509 => (q2_ite j509 (q2_b3 (fr2_fn_X5_isFigure (I10 2 ((I10 1 2)).toNatClampNeg) I10 hI10 J2 hJ2) (fun r31 _ _ h510 h511 => (q2_ite j509 (q2_jn (P := fun (j : Int32 → Int32 × Iv × Jv) => ∀ (a512 : Int32), Qb3 I0 J0 (j a512)) (fun y33 => (q2_ltI (k2_wI rfl hI10) (fun I34 h513 => (ih y33 I34 h513)))) (fun j77_3 j514 => (q2_ite (j514 x9) (q2_lt (fun v36 => (j514 v36))))))))))))
theorem fr2_fn_X5_readNumber {I0 : Iv} {J0 : Jv} (least : Int32) (most : Int32) (I : Iv) (hI : KI2 I0 I) (J : Jv) (hJ : KJ2 J0 J) : Qb3 I0 J0 (fn_X5_readNumber least most I J) := by
  unfold fn_X5_readNumber
  exact (q2_ite (q2_b2 (fr2_fn_X5_skipBlanks I hI J hJ) (fun I1 J2 h515 h516 => (q2_lt (fun v8 => (fr2_fl_X5_readNumber_21_0 J2 v8 (fun (x9 : Int32) (I10 : Iv) => if (I10 1 2) = v8 then b_n2 (fn_X5_faultAt (1 : Int32) v8 I10 J2) (fun (I19 : Iv) (J20 : Jv) => (x9, I19, J20)) else j_n (b_n2 (fn_X5_faultAt (2 : Int32) v8 I10 J2) (fun (I12 : Iv) (J13 : Jv) => (x9, I12, J13))) (fun (j129_2 : Int32 × Iv × Jv) => if (3 : Int32) < ((I10 1 2) - v8) then j129_2 else if x9 < least then j129_2 else if x9 ≤ most then (x9, I10, J2) else j129_2)) h516 (fun x9 I10 h517 => (q2_ite (q2_b2 (fr2_fn_X5_faultAt (1 : Int32) v8 I10 h517 J2 h516) (fun I19 J20 h518 h519 => ⟨h518, h519⟩)) (q2_jn (P := Qb3 I0 J0) (q2_b2 (fr2_fn_X5_faultAt (2 : Int32) v8 I10 h517 J2 h516) (fun I12 J13 h521 h522 => ⟨h521, h522⟩)) (fun j129_2 j520 => (q2_ite j520 (q2_ite j520 (q2_ite ⟨h517, h516⟩ j520))))))) (mU (I1 1 1) (I1 1 2) + 1) (0 : Int32) I1 h515))))) ⟨hI, hJ⟩)
theorem fr2_fn_X5_readClauseEnd {I0 : Iv} {J0 : Jv} (I : Iv) (hI : KI2 I0 I) (J : Jv) (hJ : KJ2 J0 J) : Qb2 I0 J0 (fn_X5_readClauseEnd I J) := by
  unfold fn_X5_readClauseEnd
  exact (q2_ite (q2_b2 (fr2_fn_X5_skipBlanks I hI J hJ) (fun I1 J2 h523 h524 => (q2_jn (P := Qb2 I0 J0) (q2_b2 (fr2_fn_X5_faultAt (1 : Int32) (I1 1 2) I1 h523 J2 h524) (fun I8 J9 h526 h527 => ⟨h526, h527⟩)) (fun j60_0 j525 => (q2_ite j525 (q2_ite (q2_ltI (k2_wI rfl h523) (fun I15 h528 => (q2_ltI (k2_wI rfl h528) (fun I17 h529 => ⟨h529, h524⟩)))) j525)))))) ⟨hI, hJ⟩)
theorem fr2_fn_X5_readClauseNumbers {I0 : Iv} {J0 : Jv} (clause : Int32) (I : Iv) (hI : KI2 I0 I) (J : Jv) (hJ : KJ2 J0 J) : Qb2 I0 J0 (fn_X5_readClauseNumbers clause I J) := by
  unfold fn_X5_readClauseNumbers
  exact (q2_lt (fun t1 => (q2_lt (fun t2 => (q2_b3 (fr2_fn_X5_readNumber t1 t2 I hI J hJ) (fun r8 I3 J4 h530 h531 => (q2_ltI (k2_wI rfl h530) (fun I11 h532 => (q2_ite (q2_lt (fun t13 => (q2_b3 (fr2_fn_X5_readNumber ((I11 4 12) + (1 : Int32)) t13 I11 h532 J4 h531) (fun r19 I14 J15 h533 h534 => (q2_ltI (k2_wI rfl h533) (fun I22 h535 => (q2_lt (fun t24 => (q2_lt (fun t25 => (q2_b3 (fr2_fn_X5_readNumber t24 t25 I22 h535 J15 h534) (fun r31 I26 J27 h536 h537 => (q2_ltI (k2_wI rfl h536) (fun I34 h538 => ⟨h538, h537⟩)))))))))))))) ⟨h532, h531⟩)))))))))
theorem fr2_fn_X5_readClause {I0 : Iv} {J0 : Jv} (I : Iv) (hI : KI2 I0 I) (J : Jv) (hJ : KJ2 J0 J) : Qb2 I0 J0 (fn_X5_readClause I J) := by
  unfold fn_X5_readClause
  exact (q2_lt (fun v1 => (q2_b2 (fr2_fn_X5_readWord I hI J hJ) (fun I2 J3 h539 h540 => (q2_b3 (fr2_fn_X5_clauseFrom v1 I2 h539 J3 h540) (fun r14 _ _ h541 h542 => (q2_jn (P := Qb2 I0 J0) (q2_b2 (fr2_fn_X5_faultAt (1 : Int32) v1 I2 h539 J3 h540) (fun I16 J17 h544 h545 => ⟨h544, h545⟩)) (fun j25_0 j543 => (q2_ite j543 (q2_ite (q2_ite (q2_ltI (k2_wI rfl h539) (fun I23 h546 => (q2_b2 (fr2_fn_X5_readClauseNumbers r14 I23 h546 J3 h540) (fun I25 J26 h547 h548 => (q2_b2 (fr2_fn_X5_readClauseEnd I25 h547 J26 h548) (fun I32 J33 h549 h550 => ⟨h549, h550⟩)))))) (q2_b2 (fr2_fn_X5_faultAt (3 : Int32) v1 I2 h539 J3 h540) (fun I39 J40 h551 h552 => ⟨h551, h552⟩))) j543))))))))))
theorem fr2_fn_X5_readOpening {I0 : Iv} {J0 : Jv} (I : Iv) (hI : KI2 I0 I) (J : Jv) (hJ : KJ2 J0 J) : Qb2 I0 J0 (fn_X5_readOpening I J) := by
  unfold fn_X5_readOpening
  exact (q2_lt (fun v1 => (q2_b2 (fr2_fn_X5_readWord I hI J hJ) (fun I2 J3 h553 h554 => (q2_b3 (fr2_fn_X5_isWord 13 v1 I2 h553 J3 h554) (fun r14 _ _ h555 h556 => (q2_ite (q2_b2 (fr2_fn_X5_faultAt (1 : Int32) v1 I2 h553 J3 h554) (fun I52 J53 h557 h558 => ⟨h557, h558⟩)) (q2_ite (q2_lt (fun v16 => (q2_jn (P := fun (j : Int32 → Iv × Jv) => ∀ (a559 : Int32), Qb2 I0 J0 (j a559)) (fun w17 => (q2_b3 (fr2_fn_X5_readNumber w17 (287 : Int32) I2 h553 J3 h554) (fun r23 I18 J19 h560 h561 => (q2_ltI (k2_wI rfl h560) (fun I26 h562 => (q2_b3 (fr2_fn_X5_readNumber (1 : Int32) (20 : Int32) I26 h562 J19 h561) (fun r33 I28 J29 h563 h564 => (q2_ltI (k2_wI rfl h563) (fun I36 h565 => (q2_b2 (fr2_fn_X5_readClauseEnd I36 h565 J29 h564) (fun I38 J39 h566 h567 => ⟨h566, h567⟩))))))))))) (fun j69_0 j568 => (q2_ite (j568 ((0 : Int32))) (j568 (((I2 5 ((v16 - (1 : Int32))).toNatClampNeg) + (1 : Int32))))))))) (q2_b2 (fr2_fn_X5_faultAt (3 : Int32) v1 I2 h553 J3 h554) (fun I45 J46 h569 h570 => ⟨h569, h570⟩))))))))))
theorem fr2_fl_X5_readBox_41_1 {I0 : Iv} {J0 : Jv} (Kf1 : Int32 → Iv → Jv → Iv × Jv) (hKf1 : ∀ (a571 : Int32) (a572 : Iv) (a573 : Jv), KI2 I0 a572 → KJ2 J0 a573 → Qb2 I0 J0 (Kf1 a571 a572 a573)) : ∀ (fu : Nat) (x14 : Int32) (I15 : Iv) (J16 : Jv), KI2 I0 I15 → KJ2 J0 J16 → Qb2 I0 J0 (fl_X5_readBox_41_1 Kf1 fu x14 I15 J16) := by
  intro fu
  induction fu with
  | zero =>
    intro x14 I15 J16 hI15 hJ16
    rw [fl_X5_readBox_41_1.eq_1]
    exact ⟨hI15, hJ16⟩
  | succ kf1 ih =>
    intro x14 I15 J16 hI15 hJ16
    rw [fl_X5_readBox_41_1.eq_2]
    exact (q2_jn (P := Qb2 I0 J0) (hKf1 x14 I15 J16 hI15 hJ16) (fun j80_2 j574 => (q2_ite j574 (q2_ite (q2_ite j574 (q2_b2 (fr2_fn_X5_readClause I15 hI15 J16 hJ16) (fun I26 J27 h575 h576 => (q2_b2 (fr2_fn_X5_skipBlanks I26 h575 J27 h576) (fun I33 J34 h577 h578 => (ih (x14 + (1 : Int32)) I33 J34 h577 h578)))))) j574))))
theorem fr2_fl_X5_readBox_6_0 {I0 : Iv} {J0 : Jv} (J2 : Jv) (Kf0 : Int32 → Iv → Iv × Jv) (hJ2 : KJ2 J0 J2) (hKf0 : ∀ (a579 : Int32) (a580 : Iv), KI2 I0 a580 → Qb2 I0 J0 (Kf0 a579 a580)) : ∀ (fu : Nat) (x8 : Int32) (I9 : Iv), KI2 I0 I9 → Qb2 I0 J0 (fl_X5_readBox_6_0 J2 Kf0 fu x8 I9) := by
  intro fu
  induction fu with
  | zero =>
    intro x8 I9 hI9
    rw [fl_X5_readBox_6_0.eq_1]
    exact ⟨hI9, hJ2⟩
  | succ kf0 ih =>
    intro x8 I9 hI9
    rw [fl_X5_readBox_6_0.eq_2]
    exact (q2_ite (hKf0 x8 I9 hI9) (q2_ltI (k2_wI rfl hI9) (fun I40 h581 => (ih (x8 + (1 : Int32)) I40 h581))))
theorem fr2_fn_X5_readBox {I0 : Iv} {J0 : Jv} (I : Iv) (hI : KI2 I0 I) (J : Jv) (hJ : KJ2 J0 J) : Qb2 I0 J0 (fn_X5_readBox I J) := by
  unfold fn_X5_readBox
  exact (q2_b2 (fr2_fn_X5_begin I hI J hJ) (fun I1 J2 h582 h583 => (fr2_fl_X5_readBox_6_0 J2 (fun (x8 : Int32) (I9 : Iv) => l_t (cI I9 4 15 (fun i => (((stI.getD 0 default).2).getD i 0))) (fun (I12 : Iv) => fl_X5_readBox_41_1  (fun (x14 : Int32) (I15 : Iv) (J16 : Jv) => if (I15 1 3) = 0 then if (I15 4 7) < (I15 4 6) then (I15, J16) else b_n2 (fn_X5_faultAt (4 : Int32) (I15 1 1) I15 J16) (fun (I19 : Iv) (J20 : Jv) => (I19, J20)) else (I15, J16)) (mUe (300 : Int32) ((0 : Int32)) + 1) (0 : Int32) I12 J2)) h583 (fun x8 I9 h584 => (q2_ltI (k2_cI (fun _ => rfl) h584) (fun I12 h585 => (fr2_fl_X5_readBox_41_1 (fun (x14 : Int32) (I15 : Iv) (J16 : Jv) => if (I15 1 3) = 0 then if (I15 4 7) < (I15 4 6) then (I15, J16) else b_n2 (fn_X5_faultAt (4 : Int32) (I15 1 1) I15 J16) (fun (I19 : Iv) (J20 : Jv) => (I19, J20)) else (I15, J16)) (fun x14 I15 J16 h586 h587 => (q2_ite (q2_ite ⟨h586, h587⟩ (q2_b2 (fr2_fn_X5_faultAt (4 : Int32) (I15 1 1) I15 h586 J16 h587) (fun I19 J20 h588 h589 => ⟨h588, h589⟩))) ⟨h586, h587⟩)) (mUe (300 : Int32) ((0 : Int32)) + 1) (0 : Int32) I12 J2 h585 h583)))) (mU (13 : Int32) ((0 : Int32)) + 1) (0 : Int32) I1 h582)))
theorem fr2_fl_X5_readDay_6_0 {I0 : Iv} {J0 : Jv} (Kf0 : Int32 → Iv → Jv → Iv × Jv) (hKf0 : ∀ (a590 : Int32) (a591 : Iv) (a592 : Jv), KI2 I0 a591 → KJ2 J0 a592 → Qb2 I0 J0 (Kf0 a590 a591 a592)) : ∀ (fu : Nat) (x8 : Int32) (I9 : Iv) (J10 : Jv), KI2 I0 I9 → KJ2 J0 J10 → Qb2 I0 J0 (fl_X5_readDay_6_0 Kf0 fu x8 I9 J10) := by
  intro fu
  induction fu with
  | zero =>
    intro x8 I9 J10 hI9 hJ10
    rw [fl_X5_readDay_6_0.eq_1]
    exact ⟨hI9, hJ10⟩
  | succ kf0 ih =>
    intro x8 I9 J10 hI9 hJ10
    rw [fl_X5_readDay_6_0.eq_2]
    exact (q2_ite (hKf0 x8 I9 J10 hI9 hJ10) (q2_ite (q2_ite (hKf0 x8 I9 J10 hI9 hJ10) (q2_b2 (fr2_fn_X5_readOpening I9 hI9 J10 hJ10) (fun I13 J14 h593 h594 => (q2_b2 (fr2_fn_X5_skipBlanks I13 h593 J14 h594) (fun I20 J21 h595 h596 => (ih (x8 + (1 : Int32)) I20 J21 h595 h596)))))) (hKf0 x8 I9 J10 hI9 hJ10)))
theorem fr2_fn_X5_readDay {I0 : Iv} {J0 : Jv} (I : Iv) (hI : KI2 I0 I) (J : Jv) (hJ : KJ2 J0 J) : Qb2 I0 J0 (fn_X5_readDay I J) := by
  unfold fn_X5_readDay
  exact (q2_b2 (fr2_fn_X5_begin I hI J hJ) (fun I1 J2 h597 h598 => (fr2_fl_X5_readDay_6_0 (fun (x8 : Int32) (I9 : Iv) (J10 : Jv) => (I9, J10)) (fun x8 I9 J10 h599 h600 => ⟨h599, h600⟩) (mUe (300 : Int32) ((0 : Int32)) + 1) (0 : Int32) I1 J2 h597 h598)))
theorem fr2_fl_X5_append_19_0 {I0 : Iv} {J0 : Jv} (J : Jv) (bytes : Int64) (Kf0 : Int32 → Iv → Int32 × Iv × Jv) (hJ : KJ2 J0 J) (hKf0 : ∀ (a601 : Int32) (a602 : Iv), KI2 I0 a602 → Qb3 I0 J0 (Kf0 a601 a602)) : ∀ (fu : Nat) (x2 : Int32) (I3 : Iv), KI2 I0 I3 → Qb3 I0 J0 (fl_X5_append_19_0 J bytes Kf0 fu x2 I3) := by
  intro fu
  induction fu with
  | zero =>
    intro x2 I3 hI3
    rw [fl_X5_append_19_0.eq_1]
    exact ⟨hI3, hJ⟩
  | succ kf0 ih =>
    intro x2 I3 hI3
    rw [fl_X5_append_19_0.eq_2]
    exact (q2_ite (hKf0 x2 I3 hI3) (q2_ite (ih (x2 + (-1 : Int32)) I3 hI3) (q2_ltI (k2_wI rfl hI3) (fun I6 h603 => (q2_ltI (k2_wI rfl h603) (fun I8 h604 => (ih (x2 + (-1 : Int32)) I8 h604)))))))
theorem fr2_fn_X5_append {I0 : Iv} {J0 : Jv} (n : Int32) (bytes : Int64) (I : Iv) (hI : KI2 I0 I) (J : Jv) (hJ : KJ2 J0 J) : Qb3 I0 J0 (fn_X5_append n bytes I J) := by
  unfold fn_X5_append
  exact (q2_ite (q2_lt (fun v1 => (fr2_fl_X5_append_19_0 J bytes (fun (x2 : Int32) (I3 : Iv) => ((1 : Int32), I3, J)) hJ (fun x2 I3 h605 => ⟨h605, hJ⟩) (mD v1 + 1) v1 I hI))) ⟨hI, hJ⟩)
theorem fr2_fn_X9_feed {I0 : Iv} {J0 : Jv} (n : Int32) (bytes : Int64) (I : Iv) (hI : KI2 I0 I) (J : Jv) (hJ : KJ2 J0 J) : Qb3 I0 J0 (fn_X9_feed n bytes I J) := by
  unfold fn_X9_feed
  exact (q2_ite ⟨hI, hJ⟩ (q2_ite (q2_b3 (fr2_fn_X5_append n bytes I hI J hJ) (fun r6 I1 J2 h606 h607 => (q2_ite ⟨h606, h607⟩ ⟨h606, h607⟩))) ⟨hI, hJ⟩))
theorem fr2_fn_X9_fault {I0 : Iv} {J0 : Jv} (I : Iv) (hI : KI2 I0 I) (J : Jv) (hJ : KJ2 J0 J) : Qb3 I0 J0 (fn_X9_fault I J) := by
  unfold fn_X9_fault
  exact ⟨hI, hJ⟩
theorem fr2_fn_X9_told {I0 : Iv} {J0 : Jv} (what : Int32) (I : Iv) (hI : KI2 I0 I) (J : Jv) (hJ : KJ2 J0 J) : Qb3 I0 J0 (fn_X9_told what I J) := by
  unfold fn_X9_told
  exact (q2_ite ⟨hI, hJ⟩ (q2_ite ⟨hI, hJ⟩ ⟨hI, hJ⟩))
theorem fr2_fn_X9_opening {I0 : Iv} {J0 : Jv} (i : Int32) (what : Int32) (I : Iv) (hI : KI2 I0 I) (J : Jv) (hJ : KJ2 J0 J) : Qb3 I0 J0 (fn_X9_opening i what I J) := by
  unfold fn_X9_opening
  exact (q2_ite ⟨hI, hJ⟩ (q2_ite (q2_ite ⟨hI, hJ⟩ (q2_ite ⟨hI, hJ⟩ (q2_ite (q2_ite ⟨hI, hJ⟩ ⟨hI, hJ⟩) ⟨hI, hJ⟩))) ⟨hI, hJ⟩))
theorem fr2_fn_X9_sign {I0 : Iv} {J0 : Jv} (set : Int32) (n : Int32) (what : Int32) (I : Iv) (hI : KI2 I0 I) (J : Jv) (hJ : KJ2 J0 J) : Qb3 I0 J0 (fn_X9_sign set n what I J) := by
  unfold fn_X9_sign
  exact (q2_b3 (fr2_fn_X9_isSet set I hI J hJ) (fun r6 _ _ h608 h609 => (q2_ite ⟨hI, hJ⟩ (q2_b3 (fr2_fn_X9_isSign what I hI J hJ) (fun r13 _ _ h610 h611 => (q2_ite ⟨hI, hJ⟩ (q2_b3 (fr2_fn_X9_areSignDays n I hI J hJ) (fun r20 _ _ h612 h613 => (q2_ite ⟨hI, hJ⟩ (q2_b2 (fr2_fn_X1_learn set n I hI J hJ) (fun I22 J23 h614 h615 => (q2_b3 (fr2_fn_X1_signOf set n what I22 h614 J23 h615) (fun r34 _ _ h616 h617 => ⟨h614, h615⟩)))))))))))))
theorem fr2_fn_X9_seen {I0 : Iv} {J0 : Jv} (what : Int32) (v_ : Int32) (e : Int32) (I : Iv) (hI : KI2 I0 I) (J : Jv) (hJ : KJ2 J0 J) : Qb3 I0 J0 (fn_X9_seen what v_ e I J) := by
  unfold fn_X9_seen
  exact (q2_b3 (fr2_fn_X9_isSign what I hI J hJ) (fun r6 _ _ h618 h619 => (q2_ite ⟨hI, hJ⟩ (q2_ite ⟨hI, hJ⟩ (q2_ite ⟨hI, hJ⟩ (q2_ite ⟨hI, hJ⟩ (q2_ite (q2_ltI (k2_wI rfl hI) (fun I8 h620 => (q2_ltI (k2_wI rfl h620) (fun I10 h621 => (q2_ltI (k2_wI rfl h621) (fun I12 h622 => (q2_b3 (fr2_fn_X2_howManySeen I12 h622 J hJ) (fun r19 _ _ h623 h624 => ⟨h622, hJ⟩)))))))) ⟨hI, hJ⟩)))))))
theorem fr2_fn_X9_prior {I0 : Iv} {J0 : Jv} (k : Int32) (p : Int32) (I : Iv) (hI : KI2 I0 I) (J : Jv) (hJ : KJ2 J0 J) : Qb3 I0 J0 (fn_X9_prior k p I J) := by
  unfold fn_X9_prior
  exact (q2_b3 (fr2_fn_X9_isTrouble k I hI J hJ) (fun r6 _ _ h625 h626 => (q2_ite ⟨hI, hJ⟩ (q2_ite ⟨hI, hJ⟩ (q2_ite (q2_lt (fun v8 => (q2_ltI (k2_wI rfl hI) (fun I9 h627 => ⟨h627, hJ⟩)))) ⟨hI, hJ⟩)))))
theorem fr2_fn_X9_bother {I0 : Iv} {J0 : Jv} (what : Int32) (b : Int32) (I : Iv) (hI : KI2 I0 I) (J : Jv) (hJ : KJ2 J0 J) : Qb3 I0 J0 (fn_X9_bother what b I J) := by
  unfold fn_X9_bother
  exact (q2_b3 (fr2_fn_X9_isSign what I hI J hJ) (fun r6 _ _ h628 h629 => (q2_ite ⟨hI, hJ⟩ (q2_ite ⟨hI, hJ⟩ (q2_ite (q2_lt (fun v8 => (q2_ltI (k2_wI rfl hI) (fun I9 h630 => ⟨h630, hJ⟩)))) ⟨hI, hJ⟩)))))
theorem fr2_fn_X9_mending {I0 : Iv} {J0 : Jv} (k : Int32) (c : Int32) (I : Iv) (hI : KI2 I0 I) (J : Jv) (hJ : KJ2 J0 J) : Qb3 I0 J0 (fn_X9_mending k c I J) := by
  unfold fn_X9_mending
  exact (q2_b3 (fr2_fn_X9_isTrouble k I hI J hJ) (fun r6 _ _ h631 h632 => (q2_ite ⟨hI, hJ⟩ (q2_ite ⟨hI, hJ⟩ (q2_ite (q2_lt (fun v8 => (q2_ltI (k2_wI rfl hI) (fun I9 h633 => ⟨h633, hJ⟩)))) ⟨hI, hJ⟩)))))
theorem fr2_fn_X9_price {I0 : Iv} {J0 : Jv} (x : Int32) (I : Iv) (hI : KI2 I0 I) (J : Jv) (hJ : KJ2 J0 J) : Qb3 I0 J0 (fn_X9_price x I J) := by
  unfold fn_X9_price
  exact (q2_b3 (fr2_fn_X9_isPrice x I hI J hJ) (fun r6 _ _ h634 h635 => (q2_ite ⟨hI, hJ⟩ (q2_lt (fun v8 => (q2_ltI (k2_wI rfl hI) (fun I9 h636 => ⟨h636, hJ⟩)))))))
theorem fr2_fn_X9_odds {I0 : Iv} {J0 : Jv} (set : Int32) (n : Int32) (I : Iv) (hI : KI2 I0 I) (J : Jv) (hJ : KJ2 J0 J) : Qb3 I0 J0 (fn_X9_odds set n I J) := by
  unfold fn_X9_odds
  exact (q2_b3 (fr2_fn_X9_isSet set I hI J hJ) (fun r6 _ _ h637 h638 => (q2_ite ⟨hI, hJ⟩ (q2_b3 (fr2_fn_J6_bitCount_0f7a4 set I hI J hJ) (fun r13 _ _ h639 h640 => (q2_ite (q2_b3 (fr2_fn_X9_areSignDays n I hI J hJ) (fun r20 _ _ h641 h642 => (q2_ite ⟨hI, hJ⟩ (q2_b2 (fr2_fn_X1_learnCouldBe n I hI J hJ) (fun I22 J23 h643 h644 => (q2_b3 (fr2_fn_X2_oddsOf set n I22 h643 J23 h644) (fun r34 I29 J30 h645 h646 => ⟨h645, h646⟩))))))) ⟨hI, hJ⟩))))))
theorem fr2_fn_X9_each {I0 : Iv} {J0 : Jv} (k : Int32) (n : Int32) (I : Iv) (hI : KI2 I0 I) (J : Jv) (hJ : KJ2 J0 J) : Qb3 I0 J0 (fn_X9_each k n I J) := by
  unfold fn_X9_each
  exact (q2_b3 (fr2_fn_X9_isTrouble k I hI J hJ) (fun r6 _ _ h647 h648 => (q2_ite ⟨hI, hJ⟩ (q2_b3 (fr2_fn_X9_areSignDays n I hI J hJ) (fun r13 _ _ h649 h650 => (q2_ite ⟨hI, hJ⟩ (q2_b2 (fr2_fn_X1_learnCouldBe n I hI J hJ) (fun I15 J16 h651 h652 => (q2_b3 (fr2_fn_X2_oddsWith k n I15 h651 J16 h652) (fun r27 I22 J23 h653 h654 => ⟨h653, h654⟩))))))))))
theorem fr2_fn_X9_tells {I0 : Iv} {J0 : Jv} (what : Int32) (n : Int32) (I : Iv) (hI : KI2 I0 I) (J : Jv) (hJ : KJ2 J0 J) : Qb3 I0 J0 (fn_X9_tells what n I J) := by
  unfold fn_X9_tells
  exact (q2_b3 (fr2_fn_X9_isSign what I hI J hJ) (fun r6 _ _ h655 h656 => (q2_ite ⟨hI, hJ⟩ (q2_b3 (fr2_fn_X9_areSignDays n I hI J hJ) (fun r13 _ _ h657 h658 => (q2_ite ⟨hI, hJ⟩ (q2_b2 (fr2_fn_X1_learnCouldBe n I hI J hJ) (fun I15 J16 h659 h660 => (q2_b3 (fr2_fn_X2_howMuchTells what n I15 h659 J16 h660) (fun r27 I22 J23 h661 h662 => ⟨h661, h662⟩))))))))))
theorem fr2_fn_X9_next {I0 : Iv} {J0 : Jv} (n : Int32) (I : Iv) (hI : KI2 I0 I) (J : Jv) (hJ : KJ2 J0 J) : Qb3 I0 J0 (fn_X9_next n I J) := by
  unfold fn_X9_next
  exact (q2_b3 (fr2_fn_X9_areSignDays n I hI J hJ) (fun r6 _ _ h663 h664 => (q2_ite ⟨hI, hJ⟩ (q2_b2 (fr2_fn_X1_learnCouldBe n I hI J hJ) (fun I8 J9 h665 h666 => (q2_b3 (fr2_fn_X2_nextSign n I8 h665 J9 h666) (fun r20 I15 J16 h667 h668 => ⟨h667, h668⟩)))))))
theorem fr2_fn_X9_makes {I0 : Iv} {J0 : Jv} (set : Int32) (what : Int32) (I : Iv) (hI : KI2 I0 I) (J : Jv) (hJ : KJ2 J0 J) : Qb3 I0 J0 (fn_X9_makes set what I J) := by
  unfold fn_X9_makes
  exact (q2_b3 (fr2_fn_X9_isSet set I hI J hJ) (fun r6 _ _ h669 h670 => (q2_ite ⟨hI, hJ⟩ (q2_ite ⟨hI, hJ⟩ (q2_ite (q2_jn (P := fun (j : Int32 → Int32 × Iv × Jv) => ∀ (a671 : Int32), Qb3 I0 J0 (j a671)) (fun w8 => (q2_b3 (fr2_fn_X1_firstDay set w8 (I 16 12) I hI J hJ) (fun r14 I9 J10 h672 h673 => ⟨h672, h673⟩))) (fun j36_0 j674 => (q2_ite (j674 ((1 : Int32))) (j674 ((0 : Int32)))))) ⟨hI, hJ⟩)))))
theorem fr2_fn_X9_year {I0 : Iv} {J0 : Jv} (set : Int32) (I : Iv) (hI : KI2 I0 I) (J : Jv) (hJ : KJ2 J0 J) : Qb3 I0 J0 (fn_X9_year set I J) := by
  unfold fn_X9_year
  exact (q2_b3 (fr2_fn_X9_isSet set I hI J hJ) (fun r6 _ _ h675 h676 => (q2_ite ⟨hI, hJ⟩ (q2_b2 (fr2_fn_X1_learn set (2 : Int32) I hI J hJ) (fun I8 J9 h677 h678 => (q2_b3 (fr2_fn_X4_yearOf set (I8 16 12) I8 h677 J9 h678) (fun r20 _ _ h679 h680 => ⟨h677, h678⟩)))))))
theorem fr2_fn_X9_saves {I0 : Iv} {J0 : Jv} (set : Int32) (part : Int32) (I : Iv) (hI : KI2 I0 I) (J : Jv) (hJ : KJ2 J0 J) : Qb3 I0 J0 (fn_X9_saves set part I J) := by
  unfold fn_X9_saves
  exact (q2_b3 (fr2_fn_X9_isSet set I hI J hJ) (fun r6 _ _ h681 h682 => (q2_ite ⟨hI, hJ⟩ (q2_b3 (fr2_fn_X9_isSet part I hI J hJ) (fun r13 _ _ h683 h684 => (q2_ite ⟨hI, hJ⟩ (q2_b3 (fr2_fn_X9_isPart part set I hI J hJ) (fun r20 _ _ h685 h686 => (q2_ite ⟨hI, hJ⟩ (q2_b2 (fr2_fn_X1_learn set (2 : Int32) I hI J hJ) (fun I22 J23 h687 h688 => (q2_b2 (fr2_fn_X1_learn (set &&& (part ^^^ (-1 : Int32))) (2 : Int32) I22 h687 J23 h688) (fun I29 J30 h689 h690 => (q2_b3 (fr2_fn_X4_saved set part (I29 16 12) I29 h689 J30 h690) (fun r41 _ _ h691 h692 => ⟨h689, h690⟩)))))))))))))))
theorem fr2_fn_X9_best {I0 : Iv} {J0 : Jv} (set : Int32) (c : Int32) (what : Int32) (I : Iv) (hI : KI2 I0 I) (J : Jv) (hJ : KJ2 J0 J) : Qb3 I0 J0 (fn_X9_best set c what I J) := by
  unfold fn_X9_best
  exact (q2_b3 (fr2_fn_X9_isSet set I hI J hJ) (fun r6 _ _ h693 h694 => (q2_ite ⟨hI, hJ⟩ (q2_ite ⟨hI, hJ⟩ (q2_ite ⟨hI, hJ⟩ (q2_ite ⟨hI, hJ⟩ (q2_ite (q2_b2 (fr2_fn_X1_learnParts set (2 : Int32) I hI J hJ) (fun I8 J9 h695 h696 => (q2_b3 (fr2_fn_X4_bestPart set c (I8 16 12) I8 h695 J9 h696) (fun r20 _ _ h697 h698 => (q2_ite ⟨h695, h696⟩ (q2_ite (q2_b3 (fr2_fn_X4_saved set r20 (I8 16 12) I8 h695 J9 h696) (fun r27 _ _ h699 h700 => ⟨h695, h696⟩)) (q2_b3 (fr2_fn_X4_costOf r20 I8 h695 J9 h696) (fun r34 _ _ h701 h702 => ⟨h695, h696⟩)))))))) ⟨hI, hJ⟩)))))))
theorem fr2_fn_X9_pays {I0 : Iv} {J0 : Jv} (set : Int32) (c : Int32) (u : Int32) (I : Iv) (hI : KI2 I0 I) (J : Jv) (hJ : KJ2 J0 J) : Qb3 I0 J0 (fn_X9_pays set c u I J) := by
  unfold fn_X9_pays
  exact (q2_b3 (fr2_fn_X9_isSet set I hI J hJ) (fun r6 _ _ h703 h704 => (q2_ite ⟨hI, hJ⟩ (q2_ite ⟨hI, hJ⟩ (q2_ite ⟨hI, hJ⟩ (q2_ite ⟨hI, hJ⟩ (q2_ite (q2_b2 (fr2_fn_X1_learn set (2 : Int32) I hI J hJ) (fun I8 J9 h705 h706 => (q2_b3 (fr2_fn_X4_yearsToPay set c u (I8 16 12) I8 h705 J9 h706) (fun r20 _ _ h707 h708 => ⟨h705, h706⟩)))) ⟨hI, hJ⟩)))))))
theorem fr2_fn_X9_ice {I0 : Iv} {J0 : Jv} (set : Int32) (n : Int32) (b : Int32) (I : Iv) (hI : KI2 I0 I) (J : Jv) (hJ : KJ2 J0 J) : Qb3 I0 J0 (fn_X9_ice set n b I J) := by
  unfold fn_X9_ice
  exact (q2_b3 (fr2_fn_X9_isSet set I hI J hJ) (fun r6 _ _ h709 h710 => (q2_ite ⟨hI, hJ⟩ (q2_ite ⟨hI, hJ⟩ (q2_ite ⟨hI, hJ⟩ (q2_ite ⟨hI, hJ⟩ (q2_ite (q2_b3 (fr2_fn_X4_bestThawing set n b (I 16 12) I hI J hJ) (fun r13 I8 J9 h711 h712 => ⟨h711, h712⟩)) ⟨hI, hJ⟩)))))))
theorem fr2_fn_X9_lying {I0 : Iv} {J0 : Jv} (f : Int32) (I : Iv) (hI : KI2 I0 I) (J : Jv) (hJ : KJ2 J0 J) : Qb3 I0 J0 (fn_X9_lying f I J) := by
  unfold fn_X9_lying
  exact (q2_jn (P := Qb3 I0 J0) (q2_b3 (fr2_fn_X6_foodsThere 16 I hI J hJ) (fun r6 _ _ h714 h715 => (q2_ite (q2_b2 (fr2_fn_X8_findBestRow I hI J hJ) (fun I8 J9 h716 h717 => (q2_ite ⟨h716, h717⟩ (q2_b3 (fr2_fn_X8_shelfInBestRow f I8 h716 J9 h717) (fun r20 I15 J16 h718 h719 => ⟨h718, h719⟩))))) ⟨hI, hJ⟩))) (fun j19_0 j713 => (q2_ite j713 (q2_b3 (fr2_fn_X6_hasFood 16 f I hI J hJ) (fun r28 _ _ h720 h721 => (q2_ite ⟨hI, hJ⟩ j713))))))
theorem fr2_fn_X9_bulb {I0 : Iv} {J0 : Jv} (what : Int32) (I : Iv) (hI : KI2 I0 I) (J : Jv) (hJ : KJ2 J0 J) : Qb3 I0 J0 (fn_X9_bulb what I J) := by
  unfold fn_X9_bulb
  exact (q2_ite ⟨hI, hJ⟩ (q2_ite (q2_b2 (fr2_fn_X8_findBestBulb I hI J hJ) (fun I1 J2 h722 h723 => (q2_ite ⟨h722, h723⟩ ⟨h722, h723⟩))) ⟨hI, hJ⟩))
theorem fr2_fn_X9_without {I0 : Iv} {J0 : Jv} (f : Int32) (I : Iv) (hI : KI2 I0 I) (J : Jv) (hJ : KJ2 J0 J) : Qb3 I0 J0 (fn_X9_without f I J) := by
  unfold fn_X9_without
  exact (q2_b3 (fr2_fn_X6_hasFood 16 f I hI J hJ) (fun r6 _ _ h724 h725 => (q2_ite ⟨hI, hJ⟩ (q2_b3 (fr2_fn_X8_ticksWithoutCurrent f I hI J hJ) (fun r13 I8 J9 h726 h727 => ⟨h726, h727⟩)))))
theorem fr2_fn_X9_cheap {I0 : Iv} {J0 : Jv} (a : Int32) (b : Int32) (v_ : Int32) (I : Iv) (hI : KI2 I0 I) (J : Jv) (hJ : KJ2 J0 J) : Qb3 I0 J0 (fn_X9_cheap a b v_ I J) := by
  unfold fn_X9_cheap
  exact (q2_b3 (fr2_fn_X9_isPrice v_ I hI J hJ) (fun r6 _ _ h728 h729 => (q2_ite ⟨hI, hJ⟩ (q2_jn (P := Qb3 I0 J0) (q2_ltI (k2_wI rfl hI) (fun I8 h731 => (q2_jn (P := fun (j : Int32 → Int32 × Iv × Jv) => ∀ (a732 : Int32), Qb3 I0 J0 (j a732)) (fun w10 => (q2_ltI (k2_wI rfl h731) (fun I11 h733 => (q2_ltI (k2_wI rfl h733) (fun I13 h734 => ⟨h734, hJ⟩))))) (fun j55_1 j735 => (q2_ite (j735 ((-1 : Int32))) (j735 b)))))) (fun j33_0 j730 => (q2_ite j730 (q2_ite ⟨hI, hJ⟩ (q2_ite ⟨hI, hJ⟩ (q2_ite j730 ⟨hI, hJ⟩)))))))))
theorem fr2_fn_X9_store {I0 : Iv} {J0 : Jv} (n : Int32) (what : Int32) (I : Iv) (hI : KI2 I0 I) (J : Jv) (hJ : KJ2 J0 J) : Qb3 I0 J0 (fn_X9_store n what I J) := by
  unfold fn_X9_store
  exact (q2_ite ⟨hI, hJ⟩ (q2_ite ⟨hI, hJ⟩ (q2_ite ⟨hI, hJ⟩ (q2_ite (q2_b2 (fr2_fn_X8_findBestStore n (I 65 2) I hI J hJ) (fun I1 J2 h736 h737 => (q2_ite ⟨h736, h737⟩ ⟨h736, h737⟩))) ⟨hI, hJ⟩))))
theorem fr2_fn_X10_in {I0 : Iv} {J0 : Jv} (x : Int64) (low : Int64) (high : Int64) (I : Iv) (hI : KI2 I0 I) (J : Jv) (hJ : KJ2 J0 J) : Qb3 I0 J0 (fn_X10_in x low high I J) := by
  unfold fn_X10_in
  exact (q2_ite ⟨hI, hJ⟩ (q2_ite ⟨hI, hJ⟩ ⟨hI, hJ⟩))
theorem fr2_fn_X10_one {I0 : Iv} {J0 : Jv} (x : Int32) (I : Iv) (hI : KI2 I0 I) (J : Jv) (hJ : KJ2 J0 J) : Qb3 I0 J0 (fn_X10_one x I J) := by
  unfold fn_X10_one
  exact (q2_ite ⟨hI, hJ⟩ ⟨hI, hJ⟩)
theorem fr2_fn_X10_has {I0 : Iv} {J0 : Jv} (set : Int64) (k : Int32) (I : Iv) (hI : KI2 I0 I) (J : Jv) (hJ : KJ2 J0 J) : Qb3 I0 J0 (fn_X10_has set k I J) := by
  unfold fn_X10_has
  exact (q2_ite ⟨hI, hJ⟩ ⟨hI, hJ⟩)
theorem fr2_fl_X10_ones_4_0 {I0 : Iv} {J0 : Jv} (I : Iv) (J : Jv) (set : Int32) (Kf0 : Int32 → Int32 → Int32 × Iv × Jv) (hI : KI2 I0 I) (hJ : KJ2 J0 J) (hKf0 : ∀ (a738 : Int32) (a739 : Int32), Qb3 I0 J0 (Kf0 a738 a739)) : ∀ (fu : Nat) (x1 : Int32) (x2 : Int32), Qb3 I0 J0 (fl_X10_ones_4_0 I J set Kf0 fu x1 x2) := by
  intro fu
  induction fu with
  | zero =>
    intro x1 x2
    rw [fl_X10_ones_4_0.eq_1]
    exact ⟨hI, hJ⟩
  | succ kf0 ih =>
    intro x1 x2
    rw [fl_X10_ones_4_0.eq_2]
    exact (q2_ite (hKf0 x1 x2) (q2_lt (fun v4 => (ih v4 (x2 + (1 : Int32))))))
theorem fr2_fn_X10_ones {I0 : Iv} {J0 : Jv} (set : Int32) (I : Iv) (hI : KI2 I0 I) (J : Jv) (hJ : KJ2 J0 J) : Qb3 I0 J0 (fn_X10_ones set I J) := by
  unfold fn_X10_ones
  exact (fr2_fl_X10_ones_4_0 I J set (fun (x1 : Int32) (x2 : Int32) => (x1, I, J)) hI hJ (fun x1 x2 => ⟨hI, hJ⟩) (mU (16 : Int32) ((0 : Int32)) + 1) (0 : Int32) (0 : Int32))
theorem fr2_fn_X10_couldBe {I0 : Iv} {J0 : Jv} (set : Int32) (I : Iv) (hI : KI2 I0 I) (J : Jv) (hJ : KJ2 J0 J) : Qb3 I0 J0 (fn_X10_couldBe set I J) := by
  unfold fn_X10_couldBe
  exact (q2_b3 (fr2_fn_X10_ones set I hI J hJ) (fun r6 _ _ h740 h741 => (q2_ite ⟨hI, hJ⟩ ⟨hI, hJ⟩)))
theorem fr2_fn_X10_isSet {I0 : Iv} {J0 : Jv} (x : Int32) (I : Iv) (hI : KI2 I0 I) (J : Jv) (hJ : KJ2 J0 J) : Qb3 I0 J0 (fn_X10_isSet x I J) := by
  unfold fn_X10_isSet
  exact (q2_b3 (fr2_fn_X10_in (Int32.toInt64 x) (0 : Int64) (127 : Int64) I hI J hJ) (fun r6 _ _ h742 h743 => ⟨hI, hJ⟩))
theorem fr2_fn_X10_isTrouble {I0 : Iv} {J0 : Jv} (x : Int32) (I : Iv) (hI : KI2 I0 I) (J : Jv) (hJ : KJ2 J0 J) : Qb3 I0 J0 (fn_X10_isTrouble x I J) := by
  unfold fn_X10_isTrouble
  exact (q2_b3 (fr2_fn_X10_in (Int32.toInt64 x) (0 : Int64) (6 : Int64) I hI J hJ) (fun r6 _ _ h744 h745 => ⟨hI, hJ⟩))
theorem fr2_fn_X10_isSign {I0 : Iv} {J0 : Jv} (x : Int32) (I : Iv) (hI : KI2 I0 I) (J : Jv) (hJ : KJ2 J0 J) : Qb3 I0 J0 (fn_X10_isSign x I J) := by
  unfold fn_X10_isSign
  exact (q2_b3 (fr2_fn_X10_in (Int32.toInt64 x) (0 : Int64) (6 : Int64) I hI J hJ) (fun r6 _ _ h746 h747 => ⟨hI, hJ⟩))
theorem fr2_fn_X10_areDays {I0 : Iv} {J0 : Jv} (x : Int32) (I : Iv) (hI : KI2 I0 I) (J : Jv) (hJ : KJ2 J0 J) : Qb3 I0 J0 (fn_X10_areDays x I J) := by
  unfold fn_X10_areDays
  exact (q2_b3 (fr2_fn_X10_in (Int32.toInt64 x) (1 : Int64) (6 : Int64) I hI J hJ) (fun r6 _ _ h748 h749 => ⟨hI, hJ⟩))
theorem fr2_fn_X10_isHour {I0 : Iv} {J0 : Jv} (tick : Int64) (from_ : Int32) (till : Int32) (I : Iv) (hI : KI2 I0 I) (J : Jv) (hJ : KJ2 J0 J) : Qb3 I0 J0 (fn_X10_isHour tick from_ till I J) := by
  unfold fn_X10_isHour
  exact (q2_lt (fun v1 => (q2_ite ⟨hI, hJ⟩ (q2_ite ⟨hI, hJ⟩ (q2_ite ⟨hI, hJ⟩ ⟨hI, hJ⟩)))))
theorem fr2_fl_X10_isOpen_12_0 {I0 : Iv} {J0 : Jv} (I : Iv) (J : Jv) (v1 : Int64) (Kf0 : Int32 → Int32 → Int32 × Iv × Jv) (hI : KI2 I0 I) (hJ : KJ2 J0 J) (hKf0 : ∀ (a750 : Int32) (a751 : Int32), Qb3 I0 J0 (Kf0 a750 a751)) : ∀ (fu : Nat) (x2 : Int32) (x3 : Int32), Qb3 I0 J0 (fl_X10_isOpen_12_0 I J v1 Kf0 fu x2 x3) := by
  intro fu
  induction fu with
  | zero =>
    intro x2 x3
    rw [fl_X10_isOpen_12_0.eq_1]
    exact ⟨hI, hJ⟩
  | succ kf0 ih =>
    intro x2 x3
    rw [fl_X10_isOpen_12_0.eq_2]
    exact (q2_ite (hKf0 x2 x3) (q2_ite (q2_b3 (fr2_fn_X10_in v1 (Int32.toInt64 (I 83 x3.toNatClampNeg)) (Int32.toInt64 (((I 83 x3.toNatClampNeg) + (I 84 x3.toNatClampNeg)) - (1 : Int32))) I hI J hJ) (fun r10 _ _ h752 h753 => (q2_ite (ih (0 : Int32) (x3 + (1 : Int32))) (ih (1 : Int32) (x3 + (1 : Int32)))))) (ih (1 : Int32) (x3 + (1 : Int32)))))
theorem fr2_fn_X10_isOpen {I0 : Iv} {J0 : Jv} (tick : Int64) (I : Iv) (hI : KI2 I0 I) (J : Jv) (hJ : KJ2 J0 J) : Qb3 I0 J0 (fn_X10_isOpen tick I J) := by
  unfold fn_X10_isOpen
  exact (q2_lt (fun v1 => (fr2_fl_X10_isOpen_12_0 I J v1 (fun (x2 : Int32) (x3 : Int32) => (x2, I, J)) hI hJ (fun x2 x3 => ⟨hI, hJ⟩) (mU (I 78 5) ((0 : Int32)) + 1) (0 : Int32) (0 : Int32))))
theorem fr2_fn_X10_capOf {I0 : Iv} {J0 : Jv} (x : Int32) (cell : Int32) (I : Iv) (hI : KI2 I0 I) (J : Jv) (hJ : KJ2 J0 J) : Qb3 I0 J0 (fn_X10_capOf x cell I J) := by
  unfold fn_X10_capOf
  exact (q2_ite (q2_ite ⟨hI, hJ⟩ ⟨hI, hJ⟩) ⟨hI, hJ⟩)
theorem fr2_fn_X10_warm {I0 : Iv} {J0 : Jv} (x : Int32) (cell : Int32) (I : Iv) (hI : KI2 I0 I) (J : Jv) (hJ : KJ2 J0 J) : Qb3 I0 J0 (fn_X10_warm x cell I J) := by
  unfold fn_X10_warm
  exact (q2_b3 (fr2_fn_X10_capOf x cell I hI J hJ) (fun r6 _ _ h754 h755 => ⟨hI, hJ⟩))
theorem fr2_fn_X10_isWithin {I0 : Iv} {J0 : Jv} (x : Int32) (f : Int32) (I : Iv) (hI : KI2 I0 I) (J : Jv) (hJ : KJ2 J0 J) : Qb3 I0 J0 (fn_X10_isWithin x f I J) := by
  unfold fn_X10_isWithin
  exact (q2_b3 (fr2_fn_X10_warm x ((4 : Int32) + f) I hI J hJ) (fun r6 _ _ h756 h757 => (q2_b3 (fr2_fn_X10_in r6 (J 79 (((x + (36 : Int32)) + f)).toNatClampNeg) (J 79 (((x + (44 : Int32)) + f)).toNatClampNeg) I hI J hJ) (fun r13 _ _ h758 h759 => ⟨hI, hJ⟩))))
theorem fr2_fn_X10_isFood {I0 : Iv} {J0 : Jv} (f : Int32) (I : Iv) (hI : KI2 I0 I) (J : Jv) (hJ : KJ2 J0 J) : Qb3 I0 J0 (fn_X10_isFood f I J) := by
  unfold fn_X10_isFood
  exact (q2_b3 (fr2_fn_X10_in (Int32.toInt64 f) (0 : Int64) (7 : Int64) I hI J hJ) (fun r6 _ _ h760 h761 => (q2_ite ⟨hI, hJ⟩ (q2_ite ⟨hI, hJ⟩ ⟨hI, hJ⟩))))
theorem fr2_fl_X10_seens_4_0 {I0 : Iv} {J0 : Jv} (I : Iv) (J : Jv) (Kf0 : Int32 → Int32 → Int32 × Iv × Jv) (hI : KI2 I0 I) (hJ : KJ2 J0 J) (hKf0 : ∀ (a762 : Int32) (a763 : Int32), Qb3 I0 J0 (Kf0 a762 a763)) : ∀ (fu : Nat) (x1 : Int32) (x2 : Int32), Qb3 I0 J0 (fl_X10_seens_4_0 I J Kf0 fu x1 x2) := by
  intro fu
  induction fu with
  | zero =>
    intro x1 x2
    rw [fl_X10_seens_4_0.eq_1]
    exact ⟨hI, hJ⟩
  | succ kf0 ih =>
    intro x1 x2
    rw [fl_X10_seens_4_0.eq_2]
    exact (q2_ite (hKf0 x1 x2) (q2_b3 (fr2_fn_X10_one (I 91 x2.toNatClampNeg) I hI J hJ) (fun r9 _ _ h764 h765 => (q2_lt (fun v11 => (ih v11 (x2 + (1 : Int32))))))))
theorem fr2_fn_X10_seens {I0 : Iv} {J0 : Jv} (I : Iv) (hI : KI2 I0 I) (J : Jv) (hJ : KJ2 J0 J) : Qb3 I0 J0 (fn_X10_seens I J) := by
  unfold fn_X10_seens
  exact (fr2_fl_X10_seens_4_0 I J (fun (x1 : Int32) (x2 : Int32) => (x1, I, J)) hI hJ (fun x1 x2 => ⟨hI, hJ⟩) (mU (7 : Int32) ((0 : Int32)) + 1) (0 : Int32) (0 : Int32))
theorem fr2_fl_X10_foods_4_0 {I0 : Iv} {J0 : Jv} (I : Iv) (J : Jv) (Kf0 : Int32 → Int32 → Int32 × Iv × Jv) (hI : KI2 I0 I) (hJ : KJ2 J0 J) (hKf0 : ∀ (a766 : Int32) (a767 : Int32), Qb3 I0 J0 (Kf0 a766 a767)) : ∀ (fu : Nat) (x1 : Int32) (x2 : Int32), Qb3 I0 J0 (fl_X10_foods_4_0 I J Kf0 fu x1 x2) := by
  intro fu
  induction fu with
  | zero =>
    intro x1 x2
    rw [fl_X10_foods_4_0.eq_1]
    exact ⟨hI, hJ⟩
  | succ kf0 ih =>
    intro x1 x2
    rw [fl_X10_foods_4_0.eq_2]
    exact (q2_ite (hKf0 x1 x2) (q2_lt (fun v4 => (ih v4 (x2 + (1 : Int32))))))
theorem fr2_fn_X10_foods {I0 : Iv} {J0 : Jv} (I : Iv) (hI : KI2 I0 I) (J : Jv) (hJ : KJ2 J0 J) : Qb3 I0 J0 (fn_X10_foods I J) := by
  unfold fn_X10_foods
  exact (fr2_fl_X10_foods_4_0 I J (fun (x1 : Int32) (x2 : Int32) => (x1, I, J)) hI hJ (fun x1 x2 => ⟨hI, hJ⟩) (mU (8 : Int32) ((0 : Int32)) + 1) (0 : Int32) (0 : Int32))
theorem fr2_fn_X10_moves {I0 : Iv} {J0 : Jv} (x : Int32) (room : Int64) (I : Iv) (hI : KI2 I0 I) (J : Jv) (hJ : KJ2 J0 J) : Qb3 I0 J0 (fn_X10_moves x room I J) := by
  unfold fn_X10_moves
  exact (q2_lt (fun v1 => (q2_b3 (fr2_fn_X10_has (J 79 (x.toNatClampNeg + 52)) (2 : Int32) I hI J hJ) (fun r7 _ _ h768 h769 => (q2_jn (P := fun (j : Int64 → Int64 × Iv × Jv) => ∀ (a770 : Int64), Qb3 I0 J0 (j a770)) (fun w9 => (q2_lt (fun v10 => (q2_b3 (fr2_fn_X10_has (J 79 (x.toNatClampNeg + 52)) (3 : Int32) I hI J hJ) (fun r16 _ _ h771 h772 => (q2_jn (P := fun (j : Int64 → Int64 × Iv × Jv) => ∀ (a773 : Int64), Qb3 I0 J0 (j a773)) (fun w18 => (q2_lt (fun v19 => (q2_b3 (fr2_fn_X10_warm x (3 : Int32) I hI J hJ) (fun r25 _ _ h774 h775 => (q2_lt (fun v27 => (q2_ite ⟨hI, hJ⟩ ⟨hI, hJ⟩)))))))) (fun j76_1 j776 => (q2_ite (j776 ((0 : Int64))) (j776 (((v10 * (45 : Int64)) / (100 : Int64)))))))))))) (fun j41_0 j777 => (q2_ite (j777 ((0 : Int64))) (j777 (((v1 * (50 : Int64)) / (100 : Int64)))))))))))
theorem fr2_fn_X10_wet {I0 : Iv} {J0 : Jv} (x : Int32) (hx : x.toNatClampNeg = 80) (came : Int64) (I : Iv) (hI : KI2 I0 I) (J : Jv) (hJ : KJ2 J0 J) : Qb2 I0 J0 (fn_X10_wet x came I J) := by
  unfold fn_X10_wet
  exact (q2_ltJ (k2_wJ (t2_x hx (by decide)) hJ) (fun J1 h778 => (q2_b3 (fr2_fn_X10_warm x (3 : Int32) I hI J1 h778) (fun r8 _ _ h779 h780 => (q2_ite (q2_ltJ (k2_wJ (t2_x hx (by decide)) h778) (fun J10 h781 => (q2_lt (fun v12 => (q2_jn (P := fun (j : Int64 → Iv × Jv) => ∀ (a782 : Int64), Qb2 I0 J0 (j a782)) (fun w13 => (q2_ltJ (k2_wJ (t2_x hx (by decide)) h781) (fun J14 h783 => (q2_ltJ (k2_wJ (t2_x hx (by decide)) h783) (fun J16 h784 => ⟨hI, h784⟩))))) (fun j145_0 j785 => (q2_ite (j785 v12) (j785 ((J10 79 (x.toNatClampNeg + 53))))))))))) (q2_lt (fun v18 => (q2_jn (P := fun (j : Int64 → Iv × Jv) => ∀ (a786 : Int64), Qb2 I0 J0 (j a786)) (fun w19 => (q2_ltJ (k2_wJ (t2_x hx (by decide)) h778) (fun J20 h787 => (q2_ltJ (k2_wJ (t2_x hx (by decide)) h787) (fun J22 h788 => ⟨hI, h788⟩))))) (fun j60_1 j789 => (q2_ite (j789 ((0 : Int64))) (j789 ((v18 - (9999 : Int64))))))))))))))
theorem fr2_fn_X10_readBulb {I0 : Iv} {J0 : Jv} (x : Int32) (hx : x.toNatClampNeg = 80) (shelf : Int32) (less : Int32) (I : Iv) (hI : KI2 I0 I) (J : Jv) (hJ : KJ2 J0 J) : Qb2 I0 J0 (fn_X10_readBulb x shelf less I J) := by
  unfold fn_X10_readBulb
  exact (q2_b3 (fr2_fn_X10_warm x shelf I hI J hJ) (fun r6 _ _ h790 h791 => (q2_lt (fun v8 => (q2_jn (P := fun (j : Int64 → Iv × Jv) => ∀ (a792 : Int64), Qb2 I0 J0 (j a792)) (fun w9 => (q2_ltJ (k2_wJ (t2_x hx (by decide)) hJ) (fun J10 h793 => (q2_jn (P := fun (j : Int32 → Iv × Jv) => ∀ (a794 : Int32), Qb2 I0 J0 (j a794)) (fun w12 => (q2_jn (P := fun (j : Int32 → Iv × Jv) => ∀ (a795 : Int32), Qb2 I0 J0 (j a795)) (fun w13 => (q2_jn (P := fun (j : Int32 → Iv × Jv) => ∀ (a796 : Int32), Qb2 I0 J0 (j a796)) (fun w14 => (q2_jn (P := fun (j : Int32 → Iv × Jv) => ∀ (a797 : Int32), Qb2 I0 J0 (j a797)) (fun w15 => (q2_jn (P := fun (j : Int32 → Iv × Jv) => ∀ (a798 : Int32), Qb2 I0 J0 (j a798)) (fun w16 => (q2_b3 (fr2_fn_X10_one w16 I hI J10 h793) (fun r22 _ _ h799 h800 => (q2_ltJ (k2_wJ (t2_x hx (by decide)) h793) (fun J24 h801 => (q2_jn (P := fun (j : Int32 → Iv × Jv) => ∀ (a802 : Int32), Qb2 I0 J0 (j a802)) (fun w26 => (q2_b3 (fr2_fn_X10_one w26 I hI J24 h801) (fun r32 _ _ h803 h804 => (q2_ltJ (k2_wJ (t2_x hx (by decide)) h801) (fun J34 h805 => (q2_b3 (fr2_fn_X10_one w16 I hI J34 h805) (fun r41 _ _ h806 h807 => (q2_ltJ (k2_wJ (t2_x hx (by decide)) h805) (fun J43 h808 => ⟨hI, h808⟩))))))))) (fun j247_6 j809 => (q2_jn (P := Qb2 I0 J0) (j809 ((0 : Int32))) (fun j246_7 j810 => (q2_ite j810 (q2_ite (j809 ((1 : Int32))) j810))))))))))) (fun j205_5 j811 => (q2_jn (P := Qb2 I0 J0) (j811 ((1 : Int32))) (fun j200_8 j812 => (q2_ite (q2_jn (P := Qb2 I0 J0) (j811 ((0 : Int32))) (fun j204_9 j813 => (q2_ite (q2_ite j813 j812) j813))) j812)))))) (fun j183_4 j814 => (q2_jn (P := Qb2 I0 J0) (j814 ((1 : Int32))) (fun j178_10 j815 => (q2_ite j815 (q2_ite (j814 ((0 : Int32))) j815))))))) (fun j151_3 j816 => (q2_jn (P := Qb2 I0 J0) (j816 ((0 : Int32))) (fun j150_11 j817 => (q2_ite j817 (q2_b3 (fr2_fn_X10_has (J10 79 (x.toNatClampNeg + 52)) (4 : Int32) I hI J10 h793) (fun r50 _ _ h818 h819 => (q2_jn (P := Qb2 I0 J0) (j816 ((1 : Int32))) (fun j146_12 j820 => (q2_ite (q2_ite j817 j820) j820))))))))))) (fun j103_2 j821 => (q2_ite (j821 ((1 : Int32))) (j821 ((0 : Int32))))))) (fun j82_1 j822 => (q2_ite (j822 ((1 : Int32))) (j822 ((0 : Int32))))))))) (fun j50_0 j823 => (q2_ite (j823 ((v8 + ((r6 - v8) / (8 : Int64))))) (j823 r6))))))))
theorem fr2_fl_X10_findFlows_225_3 {I0 : Iv} {J0 : Jv} (I : Iv) (x : Int32) (Kf3 : Int32 → Jv → Iv × Jv) (hI : KI2 I0 I) (hKf3 : ∀ (a824 : Int32) (a825 : Jv), KJ2 J0 a825 → Qb2 I0 J0 (Kf3 a824 a825)) : ∀ (fu : Nat) (x32 : Int32) (J33 : Jv), KJ2 J0 J33 → Qb2 I0 J0 (fl_X10_findFlows_225_3 I x Kf3 fu x32 J33) := by
  intro fu
  induction fu with
  | zero =>
    intro x32 J33 hJ33
    rw [fl_X10_findFlows_225_3.eq_1]
    exact ⟨hI, hJ33⟩
  | succ kf3 ih =>
    intro x32 J33 hJ33
    rw [fl_X10_findFlows_225_3.eq_2]
    exact (q2_ite (hKf3 x32 J33 hJ33) (q2_ite (q2_lt (fun v36 => (q2_b3 (fr2_fn_X10_warm x v36 I hI J33 hJ33) (fun r42 _ _ h826 h827 => (q2_b3 (fr2_fn_X10_warm x ((4 : Int32) + x32) I hI J33 hJ33) (fun r49 _ _ h828 h829 => (q2_lt (fun v51 => (q2_ltJ (k2_wJ rfl hJ33) (fun J52 h830 => (q2_ltJ (k2_wJ rfl h830) (fun J54 h831 => (ih (x32 + (1 : Int32)) J54 h831))))))))))))) (ih (x32 + (1 : Int32)) J33 hJ33)))
theorem fr2_fl_X10_findFlows_86_2 {I0 : Iv} {J0 : Jv} (I : Iv) (x : Int32) (Kf2 : Int32 → Jv → Iv × Jv) (hI : KI2 I0 I) (hKf2 : ∀ (a832 : Int32) (a833 : Jv), KJ2 J0 a833 → Qb2 I0 J0 (Kf2 a832 a833)) : ∀ (fu : Nat) (x9 : Int32) (J10 : Jv), KJ2 J0 J10 → Qb2 I0 J0 (fl_X10_findFlows_86_2 I x Kf2 fu x9 J10) := by
  intro fu
  induction fu with
  | zero =>
    intro x9 J10 hJ10
    rw [fl_X10_findFlows_86_2.eq_1]
    exact ⟨hI, hJ10⟩
  | succ kf2 ih =>
    intro x9 J10 hJ10
    rw [fl_X10_findFlows_86_2.eq_2]
    exact (q2_ite (hKf2 x9 J10 hJ10) (q2_b3 (fr2_fn_X10_warm x x9 I hI J10 hJ10) (fun r61 _ _ h834 h835 => (q2_b3 (fr2_fn_X10_warm x (x9 + (1 : Int32)) I hI J10 hJ10) (fun r68 _ _ h836 h837 => (q2_lt (fun v70 => (q2_ltJ (k2_wJ rfl hJ10) (fun J71 h838 => (q2_ltJ (k2_wJ rfl h838) (fun J73 h839 => (ih (x9 + (1 : Int32)) J73 h839))))))))))))
theorem fr2_fl_X10_findFlows_27_1 {I0 : Iv} {J0 : Jv} (I : Iv) (x : Int32) (room : Int64) (gap : Int64) (Kf1 : Int32 → Jv → Iv × Jv) (hI : KI2 I0 I) (hx : x.toNatClampNeg = 80) (hKf1 : ∀ (a840 : Int32) (a841 : Jv), KJ2 J0 a841 → Qb2 I0 J0 (Kf1 a840 a841)) : ∀ (fu : Nat) (x5 : Int32) (J6 : Jv), KJ2 J0 J6 → Qb2 I0 J0 (fl_X10_findFlows_27_1 I x room gap Kf1 fu x5 J6) := by
  intro fu
  induction fu with
  | zero =>
    intro x5 J6 hJ6
    rw [fl_X10_findFlows_27_1.eq_1]
    exact ⟨hI, hJ6⟩
  | succ kf1 ih =>
    intro x5 J6 hJ6
    rw [fl_X10_findFlows_27_1.eq_2]
    exact (q2_ite (hKf1 x5 J6 hJ6) (q2_b3 (fr2_fn_X10_warm x x5 I hI J6 hJ6) (fun r80 _ _ h842 h843 => (q2_lt (fun v82 => (q2_ltJ (k2_wJ rfl hJ6) (fun J83 h844 => (q2_ltJ (k2_wJ (t2_x hx (by decide)) h844) (fun J85 h845 => (ih (x5 + (1 : Int32)) J85 h845))))))))))
theorem fr2_fl_X10_findFlows_3_0 {I0 : Iv} {J0 : Jv} (I : Iv) (Kf0 : Int32 → Jv → Iv × Jv) (hI : KI2 I0 I) (hKf0 : ∀ (a846 : Int32) (a847 : Jv), KJ2 J0 a847 → Qb2 I0 J0 (Kf0 a846 a847)) : ∀ (fu : Nat) (x1 : Int32) (J2 : Jv), KJ2 J0 J2 → Qb2 I0 J0 (fl_X10_findFlows_3_0 I Kf0 fu x1 J2) := by
  intro fu
  induction fu with
  | zero =>
    intro x1 J2 hJ2
    rw [fl_X10_findFlows_3_0.eq_1]
    exact ⟨hI, hJ2⟩
  | succ kf0 ih =>
    intro x1 J2 hJ2
    rw [fl_X10_findFlows_3_0.eq_2]
    exact (q2_ite (hKf0 x1 J2 hJ2) (q2_ltJ (k2_wJ rfl hJ2) (fun J87 h848 => (ih (x1 + (1 : Int32)) J87 h848))))
theorem fr2_fn_X10_findFlows {I0 : Iv} {J0 : Jv} (x : Int32) (hx : x.toNatClampNeg = 80) (room : Int64) (gap : Int64) (I : Iv) (hI : KI2 I0 I) (J : Jv) (hJ : KJ2 J0 J) : Qb2 I0 J0 (fn_X10_findFlows x room gap I J) := by
  unfold fn_X10_findFlows
  exact (fr2_fl_X10_findFlows_3_0 I (fun (x1 : Int32) (J2 : Jv) => fl_X10_findFlows_27_1 I x room gap (fun (x5 : Int32) (J6 : Jv) => fl_X10_findFlows_86_2 I x (fun (x9 : Int32) (J10 : Jv) => b_n3 (fn_X10_warm x (0 : Int32) I J10) (fun (r18 : Int64) (_ : Iv) (_ : Jv) => b_n3 (fn_X10_warm x (3 : Int32) I J10) (fun (r25 : Int64) (_ : Iv) (_ : Jv) => l_t ((((((Int32.toInt64 (I 81 4)) * (r18 - r25)) / (100 : Int64)) * (1000 : Int64)) / ((1000 : Int64) + (J10 79 (x.toNatClampNeg + 53))))) (fun (v27 : Int64) => l_t (wJ J10 88 0 ((J10 88 0) - v27)) (fun (J28 : Jv) => l_t (wJ J28 88 3 ((J28 88 3) + v27)) (fun (J30 : Jv) => fl_X10_findFlows_225_3 I x (fun (x32 : Int32) (J33 : Jv) => (I, J33)) (mU (8 : Int32) ((0 : Int32)) + 1) (0 : Int32) J30)))))) (mU (2 : Int32) ((0 : Int32)) + 1) (0 : Int32) J6) (mU (3 : Int32) ((0 : Int32)) + 1) (0 : Int32) J2) hI (fun x1 J2 h849 => (fr2_fl_X10_findFlows_27_1 I x room gap (fun (x5 : Int32) (J6 : Jv) => fl_X10_findFlows_86_2 I x (fun (x9 : Int32) (J10 : Jv) => b_n3 (fn_X10_warm x (0 : Int32) I J10) (fun (r18 : Int64) (_ : Iv) (_ : Jv) => b_n3 (fn_X10_warm x (3 : Int32) I J10) (fun (r25 : Int64) (_ : Iv) (_ : Jv) => l_t ((((((Int32.toInt64 (I 81 4)) * (r18 - r25)) / (100 : Int64)) * (1000 : Int64)) / ((1000 : Int64) + (J10 79 (x.toNatClampNeg + 53))))) (fun (v27 : Int64) => l_t (wJ J10 88 0 ((J10 88 0) - v27)) (fun (J28 : Jv) => l_t (wJ J28 88 3 ((J28 88 3) + v27)) (fun (J30 : Jv) => fl_X10_findFlows_225_3 I x (fun (x32 : Int32) (J33 : Jv) => (I, J33)) (mU (8 : Int32) ((0 : Int32)) + 1) (0 : Int32) J30)))))) (mU (2 : Int32) ((0 : Int32)) + 1) (0 : Int32) J6) hI hx (fun x5 J6 h850 => (fr2_fl_X10_findFlows_86_2 I x (fun (x9 : Int32) (J10 : Jv) => b_n3 (fn_X10_warm x (0 : Int32) I J10) (fun (r18 : Int64) (_ : Iv) (_ : Jv) => b_n3 (fn_X10_warm x (3 : Int32) I J10) (fun (r25 : Int64) (_ : Iv) (_ : Jv) => l_t ((((((Int32.toInt64 (I 81 4)) * (r18 - r25)) / (100 : Int64)) * (1000 : Int64)) / ((1000 : Int64) + (J10 79 (x.toNatClampNeg + 53))))) (fun (v27 : Int64) => l_t (wJ J10 88 0 ((J10 88 0) - v27)) (fun (J28 : Jv) => l_t (wJ J28 88 3 ((J28 88 3) + v27)) (fun (J30 : Jv) => fl_X10_findFlows_225_3 I x (fun (x32 : Int32) (J33 : Jv) => (I, J33)) (mU (8 : Int32) ((0 : Int32)) + 1) (0 : Int32) J30)))))) hI (fun x9 J10 h851 => (q2_b3 (fr2_fn_X10_warm x (0 : Int32) I hI J10 h851) (fun r18 _ _ h852 h853 => (q2_b3 (fr2_fn_X10_warm x (3 : Int32) I hI J10 h851) (fun r25 _ _ h854 h855 => (q2_lt (fun v27 => (q2_ltJ (k2_wJ rfl h851) (fun J28 h856 => (q2_ltJ (k2_wJ rfl h856) (fun J30 h857 => (fr2_fl_X10_findFlows_225_3 I x (fun (x32 : Int32) (J33 : Jv) => (I, J33)) hI (fun x32 J33 h858 => ⟨hI, h858⟩) (mU (8 : Int32) ((0 : Int32)) + 1) (0 : Int32) J30 h857)))))))))))) (mU (2 : Int32) ((0 : Int32)) + 1) (0 : Int32) J6 h850)) (mU (3 : Int32) ((0 : Int32)) + 1) (0 : Int32) J2 h849)) (mU (12 : Int32) ((0 : Int32)) + 1) (0 : Int32) J hJ)
theorem fr2_fl_X10_tick_230_6 {I0 : Iv} {J0 : Jv} (I : Iv) (x : Int32) (Kf6 : Int32 → Jv → Iv × Jv) (hI : KI2 I0 I) (hx : x.toNatClampNeg = 80) (hKf6 : ∀ (a859 : Int32) (a860 : Jv), KJ2 J0 a860 → Qb2 I0 J0 (Kf6 a859 a860)) : ∀ (fu : Nat) (x45 : Int32) (J46 : Jv), KJ2 J0 J46 → Qb2 I0 J0 (fl_X10_tick_230_6 I x Kf6 fu x45 J46) := by
  intro fu
  induction fu with
  | zero =>
    intro x45 J46 hJ46
    rw [fl_X10_tick_230_6.eq_1]
    exact ⟨hI, hJ46⟩
  | succ kf6 ih =>
    intro x45 J46 hJ46
    rw [fl_X10_tick_230_6.eq_2]
    exact (q2_iteh (fun g861 => (hKf6 x45 J46 hJ46)) (fun g862 => (q2_ltJ (k2_wJ (t2_x hx (gd_12 g862)) hJ46) (fun J74 h863 => (ih (x45 + (1 : Int32)) J74 h863)))))
theorem fr2_fn_X10_tick {I0 : Iv} {J0 : Jv} (x : Int32) (hx : x.toNatClampNeg = 80) (open_ : Int32) (shelf : Int32) (less : Int32) (I : Iv) (hI : KI2 I0 I) (J : Jv) (hJ : KJ2 J0 J) : Qb2 I0 J0 (fn_X10_tick x open_ shelf less I J) := by
  unfold fn_X10_tick
  exact (q2_lt (fun v1 => (q2_lt (fun v2 => (q2_b3 (fr2_fn_X10_isHour v2 (I 81 12) (I 81 13) I hI J hJ) (fun r8 _ _ h864 h865 => (q2_jn (P := fun (j : Int64 → Iv × Jv) => ∀ (a866 : Int64), Qb2 I0 J0 (j a866)) (fun w10 => (q2_b3 (fr2_fn_X10_has v1 (6 : Int32) I hI J hJ) (fun r16 _ _ h867 h868 => (q2_jn (P := fun (j : Int64 → Iv × Jv) => ∀ (a869 : Int64), Qb2 I0 J0 (j a869)) (fun w18 => (q2_lt (fun v19 => (q2_jn (P := fun (j : Int32 → Iv × Jv) => ∀ (a870 : Int32), Qb2 I0 J0 (j a870)) (fun w20 => (q2_b2 (fr2_fn_X10_readBulb x hx shelf less I hI J hJ) (fun _ J21 h871 h872 => (q2_b3 (fr2_fn_X10_has v1 (0 : Int32) I hI J21 h872) (fun r33 _ _ h873 h874 => (q2_jn (P := fun (j : Int64 → Iv × Jv) => ∀ (a875 : Int64), Qb2 I0 J0 (j a875)) (fun w35 => (q2_jn (P := fun (j : Int64 → Iv × Jv) => ∀ (a876 : Int64), Qb2 I0 J0 (j a876)) (fun w36 => (q2_b2 (fr2_fn_X10_findFlows x hx v19 (((Int32.toInt64 (I 81 1)) + w35) + w36) I hI J21 h872) (fun _ J37 h877 h878 => (q2_jn (P := fun (j : Int64 → Iv × Jv) => ∀ (a879 : Int64), Qb2 I0 J0 (j a879)) (fun w44 => (fr2_fl_X10_tick_230_6 I x (fun (x45 : Int32) (J46 : Jv) => j_n (fun (J49 : Jv) => l_t (wJ J49 79 (x.toNatClampNeg + 3) ((J49 79 (x.toNatClampNeg + 3)) - w44)) (fun (J51 : Jv) => l_t (wJ J51 79 (x.toNatClampNeg + 58) ((J51 79 (x.toNatClampNeg + 58)) + w44)) (fun (J53 : Jv) => j_n (fun (w55 : Int64) => l_t (wJ J53 79 (x.toNatClampNeg + 63) ((J53 79 (x.toNatClampNeg + 63)) + w55)) (fun (J56 : Jv) => j_n (fun (w58 : Int64) => b_n2 (fn_X10_wet x (w35 + w58) I J56) (fun (_ : Iv) (J59 : Jv) => l_t (wJ J59 79 (x.toNatClampNeg + 54) ((J59 79 (x.toNatClampNeg + 54)) + (1 : Int64))) (fun (J66 : Jv) => (I, J66)))) (fun (j412_9 : Int64 → Iv × Jv) => if open_ = 0 then j412_9 ((0 : Int64)) else j412_9 ((20 : Int64))))) (fun (j395_8 : Int64 → Iv × Jv) => if (J53 79 (x.toNatClampNeg + 66)) = (1 : Int64) then j395_8 ((Int32.toInt64 (I 81 9))) else j395_8 ((0 : Int64)))))) (fun (j332_7 : Jv → Iv × Jv) => if w20 = 0 then j332_7 J46 else l_t (wJ J46 79 (x.toNatClampNeg) ((J46 79 x.toNatClampNeg) + ((5 : Int64) * (Int32.toInt64 (I 81 10))))) (fun (J68 : Jv) => l_t (wJ J68 79 (x.toNatClampNeg + 57) ((J68 79 (x.toNatClampNeg + 57)) + ((5 : Int64) * (Int32.toInt64 (I 81 10))))) (fun (J70 : Jv) => l_t (wJ J70 79 (x.toNatClampNeg + 63) ((J70 79 (x.toNatClampNeg + 63)) + (Int32.toInt64 (I 81 10)))) (fun (J72 : Jv) => j332_7 J72))))) hI hx (fun x45 J46 h880 => (q2_jn (P := fun (j : Jv → Iv × Jv) => ∀ (a881 : Jv), KJ2 J0 a881 → Qb2 I0 J0 (j a881)) (fun J49 h882 => (q2_ltJ (k2_wJ (t2_x hx (by decide)) h882) (fun J51 h883 => (q2_ltJ (k2_wJ (t2_x hx (by decide)) h883) (fun J53 h884 => (q2_jn (P := fun (j : Int64 → Iv × Jv) => ∀ (a885 : Int64), Qb2 I0 J0 (j a885)) (fun w55 => (q2_ltJ (k2_wJ (t2_x hx (by decide)) h884) (fun J56 h886 => (q2_jn (P := fun (j : Int64 → Iv × Jv) => ∀ (a887 : Int64), Qb2 I0 J0 (j a887)) (fun w58 => (q2_b2 (fr2_fn_X10_wet x hx (w35 + w58) I hI J56 h886) (fun _ J59 h888 h889 => (q2_ltJ (k2_wJ (t2_x hx (by decide)) h889) (fun J66 h890 => ⟨hI, h890⟩))))) (fun j412_9 j891 => (q2_ite (j891 ((0 : Int64))) (j891 ((20 : Int64))))))))) (fun j395_8 j892 => (q2_ite (j892 ((Int32.toInt64 (I 81 9)))) (j892 ((0 : Int64))))))))))) (fun j332_7 j893 => (q2_ite (j893 J46 h880) (q2_ltJ (k2_wJ (t2_0 hx) h880) (fun J68 h894 => (q2_ltJ (k2_wJ (t2_x hx (by decide)) h894) (fun J70 h895 => (q2_ltJ (k2_wJ (t2_x hx (by decide)) h895) (fun J72 h896 => (j893 J72 h896))))))))))) (mU (12 : Int32) ((0 : Int32)) + 1) (0 : Int32) J37 h878)) (fun j225_5 j897 => (q2_ite (q2_b3 (fr2_fn_X10_moves x v19 I hI J37 h878) (fun r81 _ _ h898 h899 => (j897 r81))) (j897 ((0 : Int64))))))))) (fun j196_4 j900 => (q2_ite (j900 ((0 : Int64))) (j900 ((60 : Int64))))))) (fun j169_3 j901 => (q2_ite (j901 ((Int32.toInt64 (I 81 2)))) (j901 ((((4 : Int64) * (Int32.toInt64 (I 81 2))) + (12 : Int64)))))))))))) (fun j125_2 j902 => (q2_jn (P := Qb2 I0 J0) (j902 ((0 : Int32))) (fun j124_10 j903 => (q2_jn (P := Qb2 I0 J0) (q2_ite (j902 ((1 : Int32))) j903) (fun j106_11 j904 => (q2_ite (q2_b3 (fr2_fn_X10_has v1 (5 : Int32) I hI J hJ) (fun r88 _ _ h905 h906 => (q2_ite j903 j904))) j904)))))))))) (fun j90_1 j907 => (q2_ite (j907 ((0 : Int64))) (j907 ((800 : Int64))))))))) (fun j72_0 j908 => (q2_ite (j908 ((0 : Int64))) (j908 (((10 : Int64) * (Int32.toInt64 (I 81 14))))))))))))))
theorem fr2_fl_X10_go_2_0 {I0 : Iv} {J0 : Jv} (I : Iv) (x : Int32) (n : Int32) (Kf0 : Int32 → Jv → Iv × Jv) (hI : KI2 I0 I) (hx : x.toNatClampNeg = 80) (hKf0 : ∀ (a909 : Int32) (a910 : Jv), KJ2 J0 a910 → Qb2 I0 J0 (Kf0 a909 a910)) : ∀ (fu : Nat) (x1 : Int32) (J2 : Jv), KJ2 J0 J2 → Qb2 I0 J0 (fl_X10_go_2_0 I x n Kf0 fu x1 J2) := by
  intro fu
  induction fu with
  | zero =>
    intro x1 J2 hJ2
    rw [fl_X10_go_2_0.eq_1]
    exact ⟨hI, hJ2⟩
  | succ kf0 ih =>
    intro x1 J2 hJ2
    rw [fl_X10_go_2_0.eq_2]
    exact (q2_ite (hKf0 x1 J2 hJ2) (q2_b3 (fr2_fn_X10_isOpen (J2 79 (x.toNatClampNeg + 54)) I hI J2 hJ2) (fun r10 _ _ h911 h912 => (q2_b2 (fr2_fn_X10_tick x hx r10 (I 81 8) (0 : Int32) I hI J2 hJ2) (fun _ J12 h913 h914 => (ih (x1 + (1 : Int32)) J12 h914))))))
theorem fr2_fn_X10_go {I0 : Iv} {J0 : Jv} (x : Int32) (hx : x.toNatClampNeg = 80) (n : Int32) (I : Iv) (hI : KI2 I0 I) (J : Jv) (hJ : KJ2 J0 J) : Qb2 I0 J0 (fn_X10_go x n I J) := by
  unfold fn_X10_go
  exact (fr2_fl_X10_go_2_0 I x n (fun (x1 : Int32) (J2 : Jv) => (I, J2)) hI hx (fun x1 J2 h915 => ⟨hI, h915⟩) (mU n ((0 : Int32)) + 1) (0 : Int32) J hJ)
theorem fr2_fl_X10_freshen_93_1 {I0 : Iv} {J0 : Jv} (I : Iv) (x : Int32) (Kf1 : Int32 → Jv → Iv × Jv) (hI : KI2 I0 I) (hx : x.toNatClampNeg = 80) (hKf1 : ∀ (a916 : Int32) (a917 : Jv), KJ2 J0 a917 → Qb2 I0 J0 (Kf1 a916 a917)) : ∀ (fu : Nat) (x14 : Int32) (J15 : Jv), KJ2 J0 J15 → Qb2 I0 J0 (fl_X10_freshen_93_1 I x Kf1 fu x14 J15) := by
  intro fu
  induction fu with
  | zero =>
    intro x14 J15 hJ15
    rw [fl_X10_freshen_93_1.eq_1]
    exact ⟨hI, hJ15⟩
  | succ kf1 ih =>
    intro x14 J15 hJ15
    rw [fl_X10_freshen_93_1.eq_2]
    exact (q2_iteh (fun g918 => (hKf1 x14 J15 hJ15)) (fun g919 => (q2_ltJ (k2_wJ (t2_x hx (gd_3 g919)) hJ15) (fun J32 h920 => (ih (x14 + (1 : Int32)) J32 h920)))))
theorem fr2_fl_X10_freshen_35_0 {I0 : Iv} {J0 : Jv} (I : Iv) (x : Int32) (Kf0 : Int32 → Jv → Iv × Jv) (hI : KI2 I0 I) (hx : x.toNatClampNeg = 80) (hKf0 : ∀ (a921 : Int32) (a922 : Jv), KJ2 J0 a922 → Qb2 I0 J0 (Kf0 a921 a922)) : ∀ (fu : Nat) (x4 : Int32) (J5 : Jv), KJ2 J0 J5 → Qb2 I0 J0 (fl_X10_freshen_35_0 I x Kf0 fu x4 J5) := by
  intro fu
  induction fu with
  | zero =>
    intro x4 J5 hJ5
    rw [fl_X10_freshen_35_0.eq_1]
    exact ⟨hI, hJ5⟩
  | succ kf0 ih =>
    intro x4 J5 hJ5
    rw [fl_X10_freshen_35_0.eq_2]
    exact (q2_iteh (fun g923 => (hKf0 x4 J5 hJ5)) (fun g924 => (q2_ltJ (k2_wJ (t2_x hx (gd_80 g924)) hJ5) (fun J34 h925 => (ih (x4 + (1 : Int32)) J34 h925)))))
theorem fr2_fn_X10_freshen {I0 : Iv} {J0 : Jv} (x : Int32) (hx : x.toNatClampNeg = 80) (I : Iv) (hI : KI2 I0 I) (J : Jv) (hJ : KJ2 J0 J) : Qb2 I0 J0 (fn_X10_freshen x I J) := by
  unfold fn_X10_freshen
  exact (q2_lt (fun v1 => (q2_lt (fun v2 => (q2_lt (fun v3 => (fr2_fl_X10_freshen_35_0 I x (fun (x4 : Int32) (J5 : Jv) => l_t (wJ J5 79 (x.toNatClampNeg + 52) v1) (fun (J8 : Jv) => l_t (wJ J8 79 (x.toNatClampNeg + 69) v2) (fun (J10 : Jv) => l_t (wJ J10 79 (x.toNatClampNeg + 70) v3) (fun (J12 : Jv) => fl_X10_freshen_93_1 I x (fun (x14 : Int32) (J15 : Jv) => l_t (wJ J15 79 (x.toNatClampNeg + 3) (-40000 : Int64)) (fun (J18 : Jv) => b_n3 (fn_X10_has v1 (1 : Int32) I J18) (fun (r25 : Int32) (_ : Iv) (_ : Jv) => j_n (fun (w27 : Int64) => l_t (wJ J18 79 (x.toNatClampNeg + 53) w27) (fun (J28 : Jv) => l_t (wJ J28 79 (x.toNatClampNeg + 67) (500 : Int64)) (fun (J30 : Jv) => (I, J30)))) (fun (j151_2 : Int64 → Iv × Jv) => if r25 = 0 then j151_2 ((0 : Int64)) else j151_2 ((600 : Int64)))))) (mU (3 : Int32) ((0 : Int32)) + 1) (0 : Int32) J12)))) hI hx (fun x4 J5 h926 => (q2_ltJ (k2_wJ (t2_x hx (by decide)) h926) (fun J8 h927 => (q2_ltJ (k2_wJ (t2_x hx (by decide)) h927) (fun J10 h928 => (q2_ltJ (k2_wJ (t2_x hx (by decide)) h928) (fun J12 h929 => (fr2_fl_X10_freshen_93_1 I x (fun (x14 : Int32) (J15 : Jv) => l_t (wJ J15 79 (x.toNatClampNeg + 3) (-40000 : Int64)) (fun (J18 : Jv) => b_n3 (fn_X10_has v1 (1 : Int32) I J18) (fun (r25 : Int32) (_ : Iv) (_ : Jv) => j_n (fun (w27 : Int64) => l_t (wJ J18 79 (x.toNatClampNeg + 53) w27) (fun (J28 : Jv) => l_t (wJ J28 79 (x.toNatClampNeg + 67) (500 : Int64)) (fun (J30 : Jv) => (I, J30)))) (fun (j151_2 : Int64 → Iv × Jv) => if r25 = 0 then j151_2 ((0 : Int64)) else j151_2 ((600 : Int64)))))) hI hx (fun x14 J15 h930 => (q2_ltJ (k2_wJ (t2_x hx (by decide)) h930) (fun J18 h931 => (q2_b3 (fr2_fn_X10_has v1 (1 : Int32) I hI J18 h931) (fun r25 _ _ h932 h933 => (q2_jn (P := fun (j : Int64 → Iv × Jv) => ∀ (a934 : Int64), Qb2 I0 J0 (j a934)) (fun w27 => (q2_ltJ (k2_wJ (t2_x hx (by decide)) h931) (fun J28 h935 => (q2_ltJ (k2_wJ (t2_x hx (by decide)) h935) (fun J30 h936 => ⟨hI, h936⟩))))) (fun j151_2 j937 => (q2_ite (j937 ((0 : Int64))) (j937 ((600 : Int64))))))))))) (mU (3 : Int32) ((0 : Int32)) + 1) (0 : Int32) J12 h929)))))))) (mU (80 : Int32) ((0 : Int32)) + 1) (0 : Int32) J hJ)))))))
theorem fr2_fl_X10_copy_2_0 {I0 : Iv} {J0 : Jv} (I : Iv) (x : Int32) (y : Int32) (Kf0 : Int32 → Jv → Iv × Jv) (hI : KI2 I0 I) (hy : y.toNatClampNeg = 80) (hKf0 : ∀ (a938 : Int32) (a939 : Jv), KJ2 J0 a939 → Qb2 I0 J0 (Kf0 a938 a939)) : ∀ (fu : Nat) (x1 : Int32) (J2 : Jv), KJ2 J0 J2 → Qb2 I0 J0 (fl_X10_copy_2_0 I x y Kf0 fu x1 J2) := by
  intro fu
  induction fu with
  | zero =>
    intro x1 J2 hJ2
    rw [fl_X10_copy_2_0.eq_1]
    exact ⟨hI, hJ2⟩
  | succ kf0 ih =>
    intro x1 J2 hJ2
    rw [fl_X10_copy_2_0.eq_2]
    exact (q2_iteh (fun g940 => (hKf0 x1 J2 hJ2)) (fun g941 => (q2_ltJ (k2_wJ (t2_x hy (gd_80 g941)) hJ2) (fun J5 h942 => (ih (x1 + (1 : Int32)) J5 h942)))))
theorem fr2_fn_X10_copy {I0 : Iv} {J0 : Jv} (x : Int32) (y : Int32) (hy : y.toNatClampNeg = 80) (I : Iv) (hI : KI2 I0 I) (J : Jv) (hJ : KJ2 J0 J) : Qb2 I0 J0 (fn_X10_copy x y I J) := by
  unfold fn_X10_copy
  exact (fr2_fl_X10_copy_2_0 I x y (fun (x1 : Int32) (J2 : Jv) => (I, J2)) hI hy (fun x1 J2 h943 => ⟨hI, h943⟩) (mU (80 : Int32) ((0 : Int32)) + 1) (0 : Int32) J hJ)
theorem fr2_fn_X10_tryFresh {I0 : Iv} {J0 : Jv} (set : Int32) (I : Iv) (hI : KI2 I0 I) (J : Jv) (hJ : KJ2 J0 J) : Qb2 I0 J0 (fn_X10_tryFresh set I J) := by
  unfold fn_X10_tryFresh
  exact (q2_ltJ (k2_wJ rfl hJ) (fun J1 h944 => (q2_ltJ (k2_wJ rfl h944) (fun J3 h945 => (q2_b2 (fr2_fn_X10_freshen (80 : Int32) rfl I hI J3 h945) (fun _ J5 h946 h947 => ⟨hI, h947⟩))))))
theorem fr2_fl_X10_melt_36_0 {I0 : Iv} {J0 : Jv} (I : Iv) (x : Int32) (Kf0 : Int32 → Jv → Int32 × Iv × Jv) (hI : KI2 I0 I) (hx : x.toNatClampNeg = 80) (hKf0 : ∀ (a948 : Int32) (a949 : Jv), KJ2 J0 a949 → Qb3 I0 J0 (Kf0 a948 a949)) : ∀ (fu : Nat) (x6 : Int32) (J7 : Jv), KJ2 J0 J7 → Qb3 I0 J0 (fl_X10_melt_36_0 I x Kf0 fu x6 J7) := by
  intro fu
  induction fu with
  | zero =>
    intro x6 J7 hJ7
    rw [fl_X10_melt_36_0.eq_1]
    exact ⟨hI, hJ7⟩
  | succ kf0 ih =>
    intro x6 J7 hJ7
    rw [fl_X10_melt_36_0.eq_2]
    exact (q2_iteh (fun g950 => (hKf0 x6 J7 hJ7)) (fun g951 => (q2_b3 (fr2_fn_X10_capOf x x6 I hI J7 hJ7) (fun r15 _ _ h952 h953 => (q2_lt (fun v17 => (q2_b3 (fr2_fn_X10_warm x x6 I hI J7 hJ7) (fun r23 _ _ h954 h955 => (q2_iteh (fun g956 => (ih (x6 + (1 : Int32)) J7 hJ7)) (fun g957 => (q2_ltJ (k2_wJ (t2_x hx (by decide)) hJ7) (fun J25 h958 => (q2_ltJ (k2_wJ (t2_x hx (gd_4 g951)) h958) (fun J27 h959 => (ih (x6 + (1 : Int32)) J27 h959)))))))))))))))
theorem fr2_fn_X10_melt {I0 : Iv} {J0 : Jv} (x : Int32) (hx : x.toNatClampNeg = 80) (I : Iv) (hI : KI2 I0 I) (J : Jv) (hJ : KJ2 J0 J) : Qb3 I0 J0 (fn_X10_melt x I J) := by
  unfold fn_X10_melt
  exact (q2_lt (fun v1 => (q2_ltJ (k2_wJ (t2_x hx (by decide)) hJ) (fun J2 h960 => (q2_ltJ (k2_wJ (t2_x hx (by decide)) h960) (fun J4 h961 => (fr2_fl_X10_melt_36_0 I x (fun (x6 : Int32) (J7 : Jv) => ((Int64.toInt32 v1), I, J7)) hI hx (fun x6 J7 h962 => ⟨hI, h962⟩) (mU (4 : Int32) ((0 : Int32)) + 1) (0 : Int32) J4 h961)))))))
theorem fr2_fn_X10_fault {I0 : Iv} {J0 : Jv} (I : Iv) (hI : KI2 I0 I) (J : Jv) (hJ : KJ2 J0 J) : Qb3 I0 J0 (fn_X10_fault I J) := by
  unfold fn_X10_fault
  exact ⟨hI, hJ⟩
theorem fr2_fn_X10_opening {I0 : Iv} {J0 : Jv} (i : Int32) (what : Int32) (I : Iv) (hI : KI2 I0 I) (J : Jv) (hJ : KJ2 J0 J) : Qb3 I0 J0 (fn_X10_opening i what I J) := by
  unfold fn_X10_opening
  exact (q2_b3 (fr2_fn_X10_in (Int32.toInt64 what) (0 : Int64) (1 : Int64) I hI J hJ) (fun r6 _ _ h963 h964 => (q2_ite ⟨hI, hJ⟩ (q2_b3 (fr2_fn_X10_in (Int32.toInt64 i) (0 : Int64) (Int32.toInt64 ((I 78 5) - (1 : Int32))) I hI J hJ) (fun r13 _ _ h965 h966 => (q2_ite ⟨hI, hJ⟩ (q2_ite ⟨hI, hJ⟩ ⟨hI, hJ⟩)))))))
theorem fr2_fn_X10_told {I0 : Iv} {J0 : Jv} (what : Int32) (I : Iv) (J : Jv) (hb : Qb2 I0 J0 (fn_X10_begin I J)) : Qb3 I0 J0 (fn_X10_told what I J) := by
  unfold fn_X10_told
  exact (q2_b2 hb (fun I1 J2 h967 h968 => (q2_b3 (fr2_fn_X10_in (Int32.toInt64 what) (0 : Int64) (14 : Int64) I1 h967 J2 h968) (fun r13 _ _ h969 h970 => (q2_ite ⟨h967, h968⟩ ⟨h967, h968⟩)))))
theorem fr2_fn_X10_signOf {I0 : Iv} {J0 : Jv} (what : Int32) (I : Iv) (hI : KI2 I0 I) (J : Jv) (hJ : KJ2 J0 J) : Qb3 I0 J0 (fn_X10_signOf what I J) := by
  unfold fn_X10_signOf
  exact (q2_jn (P := Qb3 I0 J0) (q2_b3 (fr2_fn_X10_warm (80 : Int32) (what - (2 : Int32)) I hI J hJ) (fun r6 _ _ h972 h973 => ⟨hI, hJ⟩)) (fun j32_0 j971 => (q2_ite (q2_ite ⟨hI, hJ⟩ (q2_ite ⟨hI, hJ⟩ ⟨hI, hJ⟩)) (q2_lt (fun sw1 => (q2_ite j971 (q2_ite j971 (q2_ite j971 (q2_ite ⟨hI, hJ⟩ ⟨hI, hJ⟩)))))))))
theorem fr2_fl_X10_findSigns_51_0 {I0 : Iv} {J0 : Jv} (r20 : Int32) (r27 : Int32) (r34 : Int32) (J36 : Jv) (Kf0 : Int32 → Iv → Iv × Jv) (hJ36 : KJ2 J0 J36) (hKf0 : ∀ (a974 : Int32) (a975 : Iv), KI2 I0 a975 → Qb2 I0 J0 (Kf0 a974 a975)) : ∀ (fu : Nat) (x43 : Int32) (I44 : Iv), KI2 I0 I44 → Qb2 I0 J0 (fl_X10_findSigns_51_0 r20 r27 r34 J36 Kf0 fu x43 I44) := by
  intro fu
  induction fu with
  | zero =>
    intro x43 I44 hI44
    rw [fl_X10_findSigns_51_0.eq_1]
    exact ⟨hI44, hJ36⟩
  | succ kf0 ih =>
    intro x43 I44 hI44
    rw [fl_X10_findSigns_51_0.eq_2]
    exact (q2_ite (hKf0 x43 I44 hI44) (q2_b3 (fr2_fn_X10_signOf x43 I44 hI44 J36 hJ36) (fun r52 _ _ h976 h977 => (q2_ite (q2_ltI (k2_wI rfl hI44) (fun I60 h978 => (ih (x43 + (1 : Int32)) I60 h978))) (q2_ite (q2_ltI (k2_wI rfl hI44) (fun I58 h979 => (ih (x43 + (1 : Int32)) I58 h979))) (q2_ite (q2_ltI (k2_wI rfl hI44) (fun I56 h980 => (ih (x43 + (1 : Int32)) I56 h980))) (q2_ltI (k2_wI rfl hI44) (fun I54 h981 => (ih (x43 + (1 : Int32)) I54 h981)))))))))
theorem fr2_fn_X10_findSigns {I0 : Iv} {J0 : Jv} (set : Int32) (n : Int32) (I : Iv) (hI : KI2 I0 I) (J : Jv) (hJ : KJ2 J0 J) : Qb2 I0 J0 (fn_X10_findSigns set n I J) := by
  unfold fn_X10_findSigns
  exact (q2_b2 (fr2_fn_X10_tryFresh set I hI J hJ) (fun _ J1 h982 h983 => (q2_b2 (fr2_fn_X10_go (80 : Int32) rfl ((288 : Int32) * (n - (1 : Int32))) I hI J1 h983) (fun _ J8 h984 h985 => (q2_b3 (fr2_fn_X10_signOf (0 : Int32) I hI J8 h985) (fun r20 _ _ h986 h987 => (q2_b3 (fr2_fn_X10_signOf (1 : Int32) I hI J8 h985) (fun r27 _ _ h988 h989 => (q2_b3 (fr2_fn_X10_signOf (6 : Int32) I hI J8 h985) (fun r34 _ _ h990 h991 => (q2_b2 (fr2_fn_X10_go (80 : Int32) rfl (288 : Int32) I hI J8 h985) (fun _ J36 h992 h993 => (fr2_fl_X10_findSigns_51_0 r20 r27 r34 J36 (fun (x43 : Int32) (I44 : Iv) => (I44, J36)) h993 (fun x43 I44 h994 => ⟨h994, h993⟩) (mU (7 : Int32) ((0 : Int32)) + 1) (0 : Int32) I hI)))))))))))))
theorem fr2_fn_X10_sign {I0 : Iv} {J0 : Jv} (set : Int32) (n : Int32) (what : Int32) (I : Iv) (J : Jv) (hb : Qb2 I0 J0 (fn_X10_begin I J)) : Qb3 I0 J0 (fn_X10_sign set n what I J) := by
  unfold fn_X10_sign
  exact (q2_b2 hb (fun I1 J2 h995 h996 => (q2_b3 (fr2_fn_X10_isSet set I1 h995 J2 h996) (fun r13 _ _ h997 h998 => (q2_ite ⟨h995, h996⟩ (q2_b3 (fr2_fn_X10_isSign what I1 h995 J2 h996) (fun r20 _ _ h999 h1000 => (q2_ite ⟨h995, h996⟩ (q2_b3 (fr2_fn_X10_areDays n I1 h995 J2 h996) (fun r27 _ _ h1001 h1002 => (q2_ite ⟨h995, h996⟩ (q2_b2 (fr2_fn_X10_findSigns set n I1 h995 J2 h996) (fun I29 J30 h1003 h1004 => ⟨h1003, h1004⟩)))))))))))))
theorem fr2_fn_X10_seen {I0 : Iv} {J0 : Jv} (what : Int32) (v_ : Int32) (e : Int32) (I : Iv) (hI : KI2 I0 I) (J : Jv) (hJ : KJ2 J0 J) : Qb3 I0 J0 (fn_X10_seen what v_ e I J) := by
  unfold fn_X10_seen
  exact (q2_b3 (fr2_fn_X10_isSign what I hI J hJ) (fun r6 _ _ h1005 h1006 => (q2_ite ⟨hI, hJ⟩ (q2_b3 (fr2_fn_X10_in (Int32.toInt64 v_) (-99999 : Int64) (99999 : Int64) I hI J hJ) (fun r13 _ _ h1007 h1008 => (q2_ite ⟨hI, hJ⟩ (q2_b3 (fr2_fn_X10_in (Int32.toInt64 e) (1 : Int64) (999 : Int64) I hI J hJ) (fun r20 _ _ h1009 h1010 => (q2_ite ⟨hI, hJ⟩ (q2_ltI (k2_wI rfl hI) (fun I22 h1011 => (q2_ltI (k2_wI rfl h1011) (fun I23 h1012 => (q2_ltI (k2_wI rfl h1012) (fun I24 h1013 => (q2_b3 (fr2_fn_X10_seens I24 h1013 J hJ) (fun r31 _ _ h1014 h1015 => ⟨h1013, hJ⟩)))))))))))))))))
theorem fr2_fl_X10_forget_7_0 {I0 : Iv} {J0 : Jv} (J : Jv) (Kf0 : Int32 → Iv → Int32 × Iv × Jv) (hJ : KJ2 J0 J) (hKf0 : ∀ (a1016 : Int32) (a1017 : Iv), KI2 I0 a1017 → Qb3 I0 J0 (Kf0 a1016 a1017)) : ∀ (fu : Nat) (x8 : Int32) (I9 : Iv), KI2 I0 I9 → Qb3 I0 J0 (fl_X10_forget_7_0 J Kf0 fu x8 I9) := by
  intro fu
  induction fu with
  | zero =>
    intro x8 I9 hI9
    rw [fl_X10_forget_7_0.eq_1]
    exact ⟨hI9, hJ⟩
  | succ kf0 ih =>
    intro x8 I9 hI9
    rw [fl_X10_forget_7_0.eq_2]
    exact (q2_ite (hKf0 x8 I9 hI9) (q2_ltI (k2_wI rfl hI9) (fun I12 h1018 => (ih (x8 + (1 : Int32)) I12 h1018))))
theorem fr2_fn_X10_forget {I0 : Iv} {J0 : Jv} (I : Iv) (hI : KI2 I0 I) (J : Jv) (hJ : KJ2 J0 J) : Qb3 I0 J0 (fn_X10_forget I J) := by
  unfold fn_X10_forget
  exact (q2_b3 (fr2_fn_X10_seens I hI J hJ) (fun r6 _ _ h1019 h1020 => (fr2_fl_X10_forget_7_0 J (fun (x8 : Int32) (I9 : Iv) => (r6, I9, J)) hJ (fun x8 I9 h1021 => ⟨h1021, hJ⟩) (mU (7 : Int32) ((0 : Int32)) + 1) (0 : Int32) I hI)))
theorem fr2_fn_X10_prior {I0 : Iv} {J0 : Jv} (k : Int32) (p : Int32) (I : Iv) (J : Jv) (hb : Qb2 I0 J0 (fn_X10_begin I J)) : Qb3 I0 J0 (fn_X10_prior k p I J) := by
  unfold fn_X10_prior
  exact (q2_b2 hb (fun I1 J2 h1022 h1023 => (q2_b3 (fr2_fn_X10_isTrouble k I1 h1022 J2 h1023) (fun r13 _ _ h1024 h1025 => (q2_ite ⟨h1022, h1023⟩ (q2_b3 (fr2_fn_X10_in (Int32.toInt64 p) (0 : Int64) (1000 : Int64) I1 h1022 J2 h1023) (fun r20 _ _ h1026 h1027 => (q2_ite ⟨h1022, h1023⟩ (q2_lt (fun v22 => (q2_ltI (k2_wI rfl h1022) (fun I23 h1028 => ⟨h1028, h1023⟩))))))))))))
theorem fr2_fn_X10_bother {I0 : Iv} {J0 : Jv} (what : Int32) (b : Int32) (I : Iv) (hI : KI2 I0 I) (J : Jv) (hJ : KJ2 J0 J) : Qb3 I0 J0 (fn_X10_bother what b I J) := by
  unfold fn_X10_bother
  exact (q2_b3 (fr2_fn_X10_isSign what I hI J hJ) (fun r6 _ _ h1029 h1030 => (q2_ite ⟨hI, hJ⟩ (q2_b3 (fr2_fn_X10_in (Int32.toInt64 b) (0 : Int64) (999 : Int64) I hI J hJ) (fun r13 _ _ h1031 h1032 => (q2_ite ⟨hI, hJ⟩ (q2_lt (fun v15 => (q2_ltI (k2_wI rfl hI) (fun I16 h1033 => ⟨h1033, hJ⟩))))))))))
theorem fr2_fl_X10_weightOf_127_3 {I0 : Iv} {J0 : Jv} (I : Iv) (J : Jv) (v9 : Int32) (Kf3 : Int64 → Int32 → Int64 × Iv × Jv) (hI : KI2 I0 I) (hJ : KJ2 J0 J) (hKf3 : ∀ (a1034 : Int64) (a1035 : Int32), Qb3 I0 J0 (Kf3 a1034 a1035)) : ∀ (fu : Nat) (x10 : Int64) (x11 : Int32), Qb3 I0 J0 (fl_X10_weightOf_127_3 I J v9 Kf3 fu x10 x11) := by
  intro fu
  induction fu with
  | zero =>
    intro x10 x11
    rw [fl_X10_weightOf_127_3.eq_1]
    exact ⟨hI, hJ⟩
  | succ kf3 ih =>
    intro x10 x11
    rw [fl_X10_weightOf_127_3.eq_2]
    exact (q2_ite (hKf3 x10 x11) (q2_ite (hKf3 x10 x11) (q2_lt (fun v13 => (ih v13 (x11 + (1 : Int32)))))))
theorem fr2_fl_X10_weightOf_62_1 {I0 : Iv} {J0 : Jv} (I : Iv) (J : Jv) (set : Int32) (Kf1 : Int64 → Int32 → Int64 × Iv × Jv) (hI : KI2 I0 I) (hJ : KJ2 J0 J) (hKf1 : ∀ (a1036 : Int64) (a1037 : Int32), Qb3 I0 J0 (Kf1 a1036 a1037)) : ∀ (fu : Nat) (x4 : Int64) (x5 : Int32), Qb3 I0 J0 (fl_X10_weightOf_62_1 I J set Kf1 fu x4 x5) := by
  intro fu
  induction fu with
  | zero =>
    intro x4 x5
    rw [fl_X10_weightOf_62_1.eq_1]
    exact ⟨hI, hJ⟩
  | succ kf1 ih =>
    intro x4 x5
    rw [fl_X10_weightOf_62_1.eq_2]
    exact (q2_ite (hKf1 x4 x5) (q2_ite (ih x4 (x5 + (1 : Int32))) (q2_lt (fun v7 => (q2_jn (P := fun (j : Int32 → Int64 × Iv × Jv) => ∀ (a1038 : Int32), Qb3 I0 J0 (j a1038)) (fun w8 => (q2_lt (fun v9 => (fr2_fl_X10_weightOf_127_3 I J v9 (fun (x10 : Int64) (x11 : Int32) => fl_X10_weightOf_62_1 I J set Kf1 kf1 x10 (x5 + (1 : Int32))) hI hJ (fun x10 x11 => (ih x10 (x5 + (1 : Int32)))) (mU v9 ((0 : Int32)) + 1) x4 (0 : Int32))))) (fun j114_2 j1039 => (q2_ite (j1039 v7) (j1039 ((-v7))))))))))
theorem fr2_fl_X10_weightOf_7_0 {I0 : Iv} {J0 : Jv} (I : Iv) (J : Jv) (set : Int32) (Kf0 : Int64 → Int32 → Int64 × Iv × Jv) (hI : KI2 I0 I) (hJ : KJ2 J0 J) (hKf0 : ∀ (a1040 : Int64) (a1041 : Int32), Qb3 I0 J0 (Kf0 a1040 a1041)) : ∀ (fu : Nat) (x1 : Int64) (x2 : Int32), Qb3 I0 J0 (fl_X10_weightOf_7_0 I J set Kf0 fu x1 x2) := by
  intro fu
  induction fu with
  | zero =>
    intro x1 x2
    rw [fl_X10_weightOf_7_0.eq_1]
    exact ⟨hI, hJ⟩
  | succ kf0 ih =>
    intro x1 x2
    rw [fl_X10_weightOf_7_0.eq_2]
    exact (q2_ite (hKf0 x1 x2) (q2_b3 (fr2_fn_X10_has (Int32.toInt64 set) x2 I hI J hJ) (fun r19 _ _ h1042 h1043 => (q2_jn (P := fun (j : Int32 → Int64 × Iv × Jv) => ∀ (a1044 : Int32), Qb3 I0 J0 (j a1044)) (fun w21 => (q2_lt (fun v22 => (ih v22 (x2 + (1 : Int32)))))) (fun j46_4 j1045 => (q2_ite (j1045 (((1000 : Int32) - (I 94 x2.toNatClampNeg)))) (j1045 ((I 94 x2.toNatClampNeg)))))))))
theorem fr2_fn_X10_weightOf {I0 : Iv} {J0 : Jv} (set : Int32) (I : Iv) (hI : KI2 I0 I) (J : Jv) (hJ : KJ2 J0 J) : Qb3 I0 J0 (fn_X10_weightOf set I J) := by
  unfold fn_X10_weightOf
  exact (fr2_fl_X10_weightOf_7_0 I J set (fun (x1 : Int64) (x2 : Int32) => fl_X10_weightOf_62_1 I J set (fun (x4 : Int64) (x5 : Int32) => (x4, I, J)) (mU (7 : Int32) ((0 : Int32)) + 1) x1 (0 : Int32)) hI hJ (fun x1 x2 => (fr2_fl_X10_weightOf_62_1 I J set (fun (x4 : Int64) (x5 : Int32) => (x4, I, J)) hI hJ (fun x4 x5 => ⟨hI, hJ⟩) (mU (7 : Int32) ((0 : Int32)) + 1) x1 (0 : Int32))) (mU (7 : Int32) ((0 : Int32)) + 1) (1000000 : Int64) (0 : Int32))
theorem fr2_fl_X10_weigh_36_1 {I0 : Iv} {J0 : Jv} (x3 : Int32) (J18 : Jv) (Kf1 : Int32 → Iv → Iv × Jv) (hJ18 : KJ2 J0 J18) (hKf1 : ∀ (a1046 : Int32) (a1047 : Iv), KI2 I0 a1047 → Qb2 I0 J0 (Kf1 a1046 a1047)) : ∀ (fu : Nat) (x24 : Int32) (I25 : Iv), KI2 I0 I25 → Qb2 I0 J0 (fl_X10_weigh_36_1 x3 J18 Kf1 fu x24 I25) := by
  intro fu
  induction fu with
  | zero =>
    intro x24 I25 hI25
    rw [fl_X10_weigh_36_1.eq_1]
    exact ⟨hI25, hJ18⟩
  | succ kf1 ih =>
    intro x24 I25 hI25
    rw [fl_X10_weigh_36_1.eq_2]
    exact (q2_ite (hKf1 x24 I25 hI25) (q2_ltI (k2_wI rfl hI25) (fun I39 h1048 => (ih (x24 + (1 : Int32)) I39 h1048))))
theorem fr2_fl_X10_weigh_7_0 {I0 : Iv} {J0 : Jv} (n : Int32) (Kf0 : Int32 → Iv → Jv → Iv × Jv) (hKf0 : ∀ (a1049 : Int32) (a1050 : Iv) (a1051 : Jv), KI2 I0 a1050 → KJ2 J0 a1051 → Qb2 I0 J0 (Kf0 a1049 a1050 a1051)) : ∀ (fu : Nat) (x3 : Int32) (I4 : Iv) (J5 : Jv), KI2 I0 I4 → KJ2 J0 J5 → Qb2 I0 J0 (fl_X10_weigh_7_0 n Kf0 fu x3 I4 J5) := by
  intro fu
  induction fu with
  | zero =>
    intro x3 I4 J5 hI4 hJ5
    rw [fl_X10_weigh_7_0.eq_1]
    exact ⟨hI4, hJ5⟩
  | succ kf0 ih =>
    intro x3 I4 J5 hI4 hJ5
    rw [fl_X10_weigh_7_0.eq_2]
    exact (q2_ite (hKf0 x3 I4 J5 hI4 hJ5) (q2_ltJ (k2_wJ rfl hJ5) (fun J8 h1052 => (q2_b3 (fr2_fn_X10_couldBe x3 I4 hI4 J8 h1052) (fun r15 _ _ h1053 h1054 => (q2_ite (ih (x3 + (1 : Int32)) I4 J8 hI4 h1052) (q2_b2 (fr2_fn_X10_findSigns x3 n I4 hI4 J8 h1052) (fun I17 J18 h1055 h1056 => (fr2_fl_X10_weigh_36_1 x3 J18 (fun (x24 : Int32) (I25 : Iv) => b_n3 (fn_X10_weightOf x3 I25 J18) (fun (r33 : Int64) (_ : Iv) (_ : Jv) => l_t (wJ J18 96 (x3.toNatClampNeg) r33) (fun (J35 : Jv) => l_t (wJ J35 78 28 ((J35 78 28) + (J35 96 x3.toNatClampNeg))) (fun (J37 : Jv) => fl_X10_weigh_7_0 n Kf0 kf0 (x3 + (1 : Int32)) I25 J37)))) h1056 (fun x24 I25 h1057 => (q2_b3 (fr2_fn_X10_weightOf x3 I25 h1057 J18 h1056) (fun r33 _ _ h1058 h1059 => (q2_ltJ (k2_wJ rfl h1056) (fun J35 h1060 => (q2_ltJ (k2_wJ rfl h1060) (fun J37 h1061 => (ih (x3 + (1 : Int32)) I25 J37 h1057 h1061)))))))) (mU (7 : Int32) ((0 : Int32)) + 1) (0 : Int32) I17 h1055)))))))))
theorem fr2_fn_X10_weigh {I0 : Iv} {J0 : Jv} (n : Int32) (I : Iv) (hI : KI2 I0 I) (J : Jv) (hJ : KJ2 J0 J) : Qb2 I0 J0 (fn_X10_weigh n I J) := by
  unfold fn_X10_weigh
  exact (q2_ltJ (k2_wJ rfl hJ) (fun J1 h1062 => (fr2_fl_X10_weigh_7_0 n (fun (x3 : Int32) (I4 : Iv) (J5 : Jv) => (I4, J5)) (fun x3 I4 J5 h1063 h1064 => ⟨h1063, h1064⟩) (mU (128 : Int32) ((0 : Int32)) + 1) (0 : Int32) I J1 hI h1062)))
theorem fr2_fn_X10_oddsOf {I0 : Iv} {J0 : Jv} (set : Int32) (I : Iv) (hI : KI2 I0 I) (J : Jv) (hJ : KJ2 J0 J) : Qb3 I0 J0 (fn_X10_oddsOf set I J) := by
  unfold fn_X10_oddsOf
  exact (q2_ite ⟨hI, hJ⟩ ⟨hI, hJ⟩)
theorem fr2_fl_X10_tellsOf_59_2 {I0 : Iv} {J0 : Jv} (I : Iv) (J : Jv) (what : Int32) (w1 : Int32) (x3 : Int32) (Kf2 : Int64 → Int32 → Int32 × Iv × Jv) (hI : KI2 I0 I) (hJ : KJ2 J0 J) (hKf2 : ∀ (a1065 : Int64) (a1066 : Int32), Qb3 I0 J0 (Kf2 a1065 a1066)) : ∀ (fu : Nat) (x12 : Int64) (x13 : Int32), Qb3 I0 J0 (fl_X10_tellsOf_59_2 I J what w1 x3 Kf2 fu x12 x13) := by
  intro fu
  induction fu with
  | zero =>
    intro x12 x13
    rw [fl_X10_tellsOf_59_2.eq_1]
    exact ⟨hI, hJ⟩
  | succ kf2 ih =>
    intro x12 x13
    rw [fl_X10_tellsOf_59_2.eq_2]
    exact (q2_ite (hKf2 x12 x13) (q2_b3 (fr2_fn_X10_couldBe x13 I hI J hJ) (fun r21 _ _ h1067 h1068 => (q2_ite (ih x12 (x13 + (1 : Int32))) (q2_ite (q2_lt (fun v23 => (ih v23 (x13 + (1 : Int32))))) (ih x12 (x13 + (1 : Int32))))))))
theorem fr2_fl_X10_tellsOf_37_1 {I0 : Iv} {J0 : Jv} (I : Iv) (J : Jv) (what : Int32) (w1 : Int32) (Kf1 : Int64 → Int32 → Int32 × Iv × Jv) (hI : KI2 I0 I) (hJ : KJ2 J0 J) (hKf1 : ∀ (a1069 : Int64) (a1070 : Int32), Qb3 I0 J0 (Kf1 a1069 a1070)) : ∀ (fu : Nat) (x2 : Int64) (x3 : Int32), Qb3 I0 J0 (fl_X10_tellsOf_37_1 I J what w1 Kf1 fu x2 x3) := by
  intro fu
  induction fu with
  | zero =>
    intro x2 x3
    rw [fl_X10_tellsOf_37_1.eq_1]
    exact ⟨hI, hJ⟩
  | succ kf1 ih =>
    intro x2 x3
    rw [fl_X10_tellsOf_37_1.eq_2]
    exact (q2_ite (hKf1 x2 x3) (q2_b3 (fr2_fn_X10_couldBe x3 I hI J hJ) (fun r10 _ _ h1071 h1072 => (q2_ite (ih x2 (x3 + (1 : Int32))) (fr2_fl_X10_tellsOf_59_2 I J what w1 x3 (fun (x12 : Int64) (x13 : Int32) => l_t ((x2 + ((J 96 x3.toNatClampNeg) * x12))) (fun (v15 : Int64) => fl_X10_tellsOf_37_1 I J what w1 Kf1 kf1 v15 (x3 + (1 : Int32)))) hI hJ (fun x12 x13 => (q2_lt (fun v15 => (ih v15 (x3 + (1 : Int32)))))) (mU (128 : Int32) ((0 : Int32)) + 1) (0 : Int64) (0 : Int32))))))
theorem fr2_fn_X10_tellsOf {I0 : Iv} {J0 : Jv} (what : Int32) (I : Iv) (hI : KI2 I0 I) (J : Jv) (hJ : KJ2 J0 J) : Qb3 I0 J0 (fn_X10_tellsOf what I J) := by
  unfold fn_X10_tellsOf
  exact (q2_ite ⟨hI, hJ⟩ (q2_jn (P := fun (j : Int32 → Int32 × Iv × Jv) => ∀ (a1073 : Int32), Qb3 I0 J0 (j a1073)) (fun w1 => (fr2_fl_X10_tellsOf_37_1 I J what w1 (fun (x2 : Int64) (x3 : Int32) => ((Int64.toInt32 ((1000 : Int64) - (((1000 : Int64) * x2) / ((J 78 28) * (J 78 28))))), I, J)) hI hJ (fun x2 x3 => ⟨hI, hJ⟩) (mU (128 : Int32) ((0 : Int32)) + 1) (0 : Int64) (0 : Int32))) (fun j31_0 j1074 => (q2_ite (j1074 ((50 : Int32))) (j1074 ((I 93 what.toNatClampNeg)))))))
theorem fr2_fn_X10_odds {I0 : Iv} {J0 : Jv} (set : Int32) (n : Int32) (I : Iv) (J : Jv) (hb : Qb2 I0 J0 (fn_X10_begin I J)) : Qb3 I0 J0 (fn_X10_odds set n I J) := by
  unfold fn_X10_odds
  exact (q2_b2 hb (fun I1 J2 h1075 h1076 => (q2_b3 (fr2_fn_X10_isSet set I1 h1075 J2 h1076) (fun r13 _ _ h1077 h1078 => (q2_ite ⟨h1075, h1076⟩ (q2_b3 (fr2_fn_X10_couldBe set I1 h1075 J2 h1076) (fun r20 _ _ h1079 h1080 => (q2_ite ⟨h1075, h1076⟩ (q2_b3 (fr2_fn_X10_areDays n I1 h1075 J2 h1076) (fun r27 _ _ h1081 h1082 => (q2_ite ⟨h1075, h1076⟩ (q2_b2 (fr2_fn_X10_weigh n I1 h1075 J2 h1076) (fun I29 J30 h1083 h1084 => (q2_b3 (fr2_fn_X10_oddsOf set I29 h1083 J30 h1084) (fun r41 _ _ h1085 h1086 => ⟨h1083, h1084⟩)))))))))))))))
theorem fr2_fl_X10_each_35_0 {I0 : Iv} {J0 : Jv} (k : Int32) (I22 : Iv) (J23 : Jv) (Kf0 : Int32 → Int32 → Int32 × Iv × Jv) (hI22 : KI2 I0 I22) (hJ23 : KJ2 J0 J23) (hKf0 : ∀ (a1087 : Int32) (a1088 : Int32), Qb3 I0 J0 (Kf0 a1087 a1088)) : ∀ (fu : Nat) (x29 : Int32) (x30 : Int32), Qb3 I0 J0 (fl_X10_each_35_0 k I22 J23 Kf0 fu x29 x30) := by
  intro fu
  induction fu with
  | zero =>
    intro x29 x30
    rw [fl_X10_each_35_0.eq_1]
    exact ⟨hI22, hJ23⟩
  | succ kf0 ih =>
    intro x29 x30
    rw [fl_X10_each_35_0.eq_2]
    exact (q2_ite (hKf0 x29 x30) (q2_b3 (fr2_fn_X10_couldBe x30 I22 hI22 J23 hJ23) (fun r37 _ _ h1089 h1090 => (q2_ite (q2_lt (fun v39 => (ih v39 (x30 + (1 : Int32))))) (q2_b3 (fr2_fn_X10_has (Int32.toInt64 x30) k I22 hI22 J23 hJ23) (fun r45 _ _ h1091 h1092 => (q2_ite (q2_lt (fun v47 => (ih v47 (x30 + (1 : Int32))))) (q2_b3 (fr2_fn_X10_oddsOf x30 I22 hI22 J23 hJ23) (fun r53 _ _ h1093 h1094 => (q2_lt (fun v55 => (ih v55 (x30 + (1 : Int32))))))))))))))
theorem fr2_fn_X10_each {I0 : Iv} {J0 : Jv} (k : Int32) (n : Int32) (I : Iv) (J : Jv) (hb : Qb2 I0 J0 (fn_X10_begin I J)) : Qb3 I0 J0 (fn_X10_each k n I J) := by
  unfold fn_X10_each
  exact (q2_b2 hb (fun I1 J2 h1095 h1096 => (q2_b3 (fr2_fn_X10_isTrouble k I1 h1095 J2 h1096) (fun r13 _ _ h1097 h1098 => (q2_ite ⟨h1095, h1096⟩ (q2_b3 (fr2_fn_X10_areDays n I1 h1095 J2 h1096) (fun r20 _ _ h1099 h1100 => (q2_ite ⟨h1095, h1096⟩ (q2_b2 (fr2_fn_X10_weigh n I1 h1095 J2 h1096) (fun I22 J23 h1101 h1102 => (fr2_fl_X10_each_35_0 k I22 J23 (fun (x29 : Int32) (x30 : Int32) => (x29, I22, J23)) h1101 h1102 (fun x29 x30 => ⟨h1101, h1102⟩) (mU (128 : Int32) ((0 : Int32)) + 1) (0 : Int32) (0 : Int32))))))))))))
theorem fr2_fn_X10_tells {I0 : Iv} {J0 : Jv} (what : Int32) (n : Int32) (I : Iv) (J : Jv) (hb : Qb2 I0 J0 (fn_X10_begin I J)) : Qb3 I0 J0 (fn_X10_tells what n I J) := by
  unfold fn_X10_tells
  exact (q2_b2 hb (fun I1 J2 h1103 h1104 => (q2_b3 (fr2_fn_X10_isSign what I1 h1103 J2 h1104) (fun r13 _ _ h1105 h1106 => (q2_ite ⟨h1103, h1104⟩ (q2_b3 (fr2_fn_X10_areDays n I1 h1103 J2 h1104) (fun r20 _ _ h1107 h1108 => (q2_ite ⟨h1103, h1104⟩ (q2_b2 (fr2_fn_X10_weigh n I1 h1103 J2 h1104) (fun I22 J23 h1109 h1110 => (q2_b3 (fr2_fn_X10_tellsOf what I22 h1109 J23 h1110) (fun r34 _ _ h1111 h1112 => ⟨h1109, h1110⟩))))))))))))
theorem fr2_fl_X10_next_26_0 {I0 : Iv} {J0 : Jv} (I15 : Iv) (J16 : Jv) (Kf0 : Int32 → Int32 → Int32 → Int32 × Iv × Jv) (hI15 : KI2 I0 I15) (hJ16 : KJ2 J0 J16) (hKf0 : ∀ (a1113 : Int32) (a1114 : Int32) (a1115 : Int32), Qb3 I0 J0 (Kf0 a1113 a1114 a1115)) : ∀ (fu : Nat) (x22 : Int32) (x23 : Int32) (x24 : Int32), Qb3 I0 J0 (fl_X10_next_26_0 I15 J16 Kf0 fu x22 x23 x24) := by
  intro fu
  induction fu with
  | zero =>
    intro x22 x23 x24
    rw [fl_X10_next_26_0.eq_1]
    exact ⟨hI15, hJ16⟩
  | succ kf0 ih =>
    intro x22 x23 x24
    rw [fl_X10_next_26_0.eq_2]
    exact (q2_ite (hKf0 x22 x23 x24) (q2_jn (P := fun (j : Int32 → Int32 × Iv × Jv) => ∀ (a1116 : Int32), Qb3 I0 J0 (j a1116)) (fun w26 => (q2_ite (q2_jn (P := Qb3 I0 J0) (ih x24 w26 (x24 + (1 : Int32))) (fun j83_2 j1117 => (q2_ite j1117 (q2_ite (ih x22 x23 (x24 + (1 : Int32))) j1117)))) (ih x22 x23 (x24 + (1 : Int32))))) (fun j61_1 j1118 => (q2_ite (q2_b3 (fr2_fn_X10_tellsOf x24 I15 hI15 J16 hJ16) (fun r32 _ _ h1119 h1120 => (j1118 ((r32 - (I15 95 x24.toNatClampNeg)))))) (j1118 ((0 : Int32)))))))
theorem fr2_fn_X10_next {I0 : Iv} {J0 : Jv} (n : Int32) (I : Iv) (J : Jv) (hb : Qb2 I0 J0 (fn_X10_begin I J)) : Qb3 I0 J0 (fn_X10_next n I J) := by
  unfold fn_X10_next
  exact (q2_b2 hb (fun I1 J2 h1121 h1122 => (q2_b3 (fr2_fn_X10_areDays n I1 h1121 J2 h1122) (fun r13 _ _ h1123 h1124 => (q2_ite ⟨h1121, h1122⟩ (q2_b2 (fr2_fn_X10_weigh n I1 h1121 J2 h1122) (fun I15 J16 h1125 h1126 => (fr2_fl_X10_next_26_0 I15 J16 (fun (x22 : Int32) (x23 : Int32) (x24 : Int32) => (x22, I15, J16)) h1125 h1126 (fun x22 x23 x24 => ⟨h1125, h1126⟩) (mU (7 : Int32) ((0 : Int32)) + 1) (-1 : Int32) (0 : Int32) (0 : Int32)))))))))
theorem fr2_fl_X10_makes_35_0 {I0 : Iv} {J0 : Jv} (what : Int32) (I1 : Iv) (Kf0 : Int32 → Jv → Int32 × Iv × Jv) (hI1 : KI2 I0 I1) (hKf0 : ∀ (a1127 : Int32) (a1128 : Jv), KJ2 J0 a1128 → Qb3 I0 J0 (Kf0 a1127 a1128)) : ∀ (fu : Nat) (x29 : Int32) (J30 : Jv), KJ2 J0 J30 → Qb3 I0 J0 (fl_X10_makes_35_0 what I1 Kf0 fu x29 J30) := by
  intro fu
  induction fu with
  | zero =>
    intro x29 J30 hJ30
    rw [fl_X10_makes_35_0.eq_1]
    exact ⟨hI1, hJ30⟩
  | succ kf0 ih =>
    intro x29 J30 hJ30
    rw [fl_X10_makes_35_0.eq_2]
    exact (q2_ite (hKf0 x29 J30 hJ30) (q2_lt (fun v33 => (q2_b2 (fr2_fn_X10_go (80 : Int32) rfl (288 : Int32) I1 hI1 J30 hJ30) (fun _ J34 h1129 h1130 => (q2_ite (q2_ite (ih (x29 + (1 : Int32)) J34 h1130) ⟨hI1, h1130⟩) (q2_ite ⟨hI1, h1130⟩ (ih (x29 + (1 : Int32)) J34 h1130))))))))
theorem fr2_fn_X10_makes {I0 : Iv} {J0 : Jv} (set : Int32) (what : Int32) (I : Iv) (J : Jv) (hb : Qb2 I0 J0 (fn_X10_begin I J)) : Qb3 I0 J0 (fn_X10_makes set what I J) := by
  unfold fn_X10_makes
  exact (q2_b2 hb (fun I1 J2 h1131 h1132 => (q2_b3 (fr2_fn_X10_isSet set I1 h1131 J2 h1132) (fun r13 _ _ h1133 h1134 => (q2_ite ⟨h1131, h1132⟩ (q2_b3 (fr2_fn_X10_in (Int32.toInt64 what) (0 : Int64) (1 : Int64) I1 h1131 J2 h1132) (fun r20 _ _ h1135 h1136 => (q2_ite ⟨h1131, h1132⟩ (q2_b2 (fr2_fn_X10_tryFresh set I1 h1131 J2 h1132) (fun _ J22 h1137 h1138 => (fr2_fl_X10_makes_35_0 what I1 (fun (x29 : Int32) (J30 : Jv) => ((-1 : Int32), I1, J30)) h1131 (fun x29 J30 h1139 => ⟨h1131, h1139⟩) (mUe (30 : Int32) ((1 : Int32)) + 1) (1 : Int32) J22 h1138)))))))))))
theorem fr2_fn_X10_mending {I0 : Iv} {J0 : Jv} (k : Int32) (c : Int32) (I : Iv) (J : Jv) (hb : Qb2 I0 J0 (fn_X10_begin I J)) : Qb3 I0 J0 (fn_X10_mending k c I J) := by
  unfold fn_X10_mending
  exact (q2_b2 hb (fun I1 J2 h1140 h1141 => (q2_b3 (fr2_fn_X10_isTrouble k I1 h1140 J2 h1141) (fun r13 _ _ h1142 h1143 => (q2_ite ⟨h1140, h1141⟩ (q2_b3 (fr2_fn_X10_in (Int32.toInt64 c) (0 : Int64) (999 : Int64) I1 h1140 J2 h1141) (fun r20 _ _ h1144 h1145 => (q2_ite ⟨h1140, h1141⟩ (q2_lt (fun v22 => (q2_ltI (k2_wI rfl h1140) (fun I23 h1146 => ⟨h1146, h1141⟩))))))))))))
theorem fr2_fn_X10_price {I0 : Iv} {J0 : Jv} (x : Int32) (I : Iv) (J : Jv) (hb : Qb2 I0 J0 (fn_X10_begin I J)) : Qb3 I0 J0 (fn_X10_price x I J) := by
  unfold fn_X10_price
  exact (q2_b2 hb (fun I1 J2 h1147 h1148 => (q2_b3 (fr2_fn_X10_in (Int32.toInt64 x) (0 : Int64) (999 : Int64) I1 h1147 J2 h1148) (fun r13 _ _ h1149 h1150 => (q2_ite ⟨h1147, h1148⟩ (q2_lt (fun v15 => (q2_ltI (k2_wI rfl h1147) (fun I16 h1151 => ⟨h1151, h1148⟩)))))))))
theorem fr2_fn_X10_yearOf {I0 : Iv} {J0 : Jv} (set : Int32) (I : Iv) (hI : KI2 I0 I) (J : Jv) (hJ : KJ2 J0 J) : Qb3 I0 J0 (fn_X10_yearOf set I J) := by
  unfold fn_X10_yearOf
  exact (q2_b2 (fr2_fn_X10_findSigns set (2 : Int32) I hI J hJ) (fun I1 J2 h1152 h1153 => ⟨h1152, h1153⟩))
theorem fr2_fn_X10_year {I0 : Iv} {J0 : Jv} (set : Int32) (I : Iv) (J : Jv) (hb : Qb2 I0 J0 (fn_X10_begin I J)) : Qb3 I0 J0 (fn_X10_year set I J) := by
  unfold fn_X10_year
  exact (q2_b2 hb (fun I1 J2 h1154 h1155 => (q2_b3 (fr2_fn_X10_isSet set I1 h1154 J2 h1155) (fun r13 _ _ h1156 h1157 => (q2_ite ⟨h1154, h1155⟩ (q2_b3 (fr2_fn_X10_yearOf set I1 h1154 J2 h1155) (fun r20 I15 J16 h1158 h1159 => ⟨h1158, h1159⟩)))))))
theorem fr2_fn_X10_saves {I0 : Iv} {J0 : Jv} (set : Int32) (part : Int32) (I : Iv) (J : Jv) (hb : Qb2 I0 J0 (fn_X10_begin I J)) : Qb3 I0 J0 (fn_X10_saves set part I J) := by
  unfold fn_X10_saves
  exact (q2_b2 hb (fun I1 J2 h1160 h1161 => (q2_b3 (fr2_fn_X10_isSet set I1 h1160 J2 h1161) (fun r13 _ _ h1162 h1163 => (q2_ite ⟨h1160, h1161⟩ (q2_b3 (fr2_fn_X10_isSet part I1 h1160 J2 h1161) (fun r20 _ _ h1164 h1165 => (q2_ite ⟨h1160, h1161⟩ (q2_ite (q2_b3 (fr2_fn_X10_yearOf set I1 h1160 J2 h1161) (fun r27 I22 J23 h1166 h1167 => (q2_b3 (fr2_fn_X10_yearOf (set &&& (part ^^^ (-1 : Int32))) I22 h1166 J23 h1167) (fun r35 I30 J31 h1168 h1169 => ⟨h1168, h1169⟩)))) ⟨h1160, h1161⟩)))))))))
theorem fr2_fl_X10_best_75_1 {I0 : Iv} {J0 : Jv} (x40 : Int32) (I41 : Iv) (J42 : Jv) (Kf1 : Int32 → Int32 → Int32 × Iv × Jv) (hI41 : KI2 I0 I41) (hJ42 : KJ2 J0 J42) (hKf1 : ∀ (a1170 : Int32) (a1171 : Int32), Qb3 I0 J0 (Kf1 a1170 a1171)) : ∀ (fu : Nat) (x45 : Int32) (x46 : Int32), Qb3 I0 J0 (fl_X10_best_75_1 x40 I41 J42 Kf1 fu x45 x46) := by
  intro fu
  induction fu with
  | zero =>
    intro x45 x46
    rw [fl_X10_best_75_1.eq_1]
    exact ⟨hI41, hJ42⟩
  | succ kf1 ih =>
    intro x45 x46
    rw [fl_X10_best_75_1.eq_2]
    exact (q2_ite (hKf1 x45 x46) (q2_b3 (fr2_fn_X10_has (Int32.toInt64 x40) x46 I41 hI41 J42 hJ42) (fun r62 _ _ h1172 h1173 => (q2_ite (q2_lt (fun v64 => (ih v64 (x46 + (1 : Int32))))) (q2_lt (fun v65 => (ih v65 (x46 + (1 : Int32)))))))))
theorem fr2_fl_X10_best_61_0 {I0 : Iv} {J0 : Jv} (set : Int32) (c : Int32) (r34 : Int32) (Kf0 : Int32 → Int32 → Int32 → Int32 → Iv → Jv → Int32 × Iv × Jv) (hKf0 : ∀ (a1174 : Int32) (a1175 : Int32) (a1176 : Int32) (a1177 : Int32) (a1178 : Iv) (a1179 : Jv), KI2 I0 a1178 → KJ2 J0 a1179 → Qb3 I0 J0 (Kf0 a1174 a1175 a1176 a1177 a1178 a1179)) : ∀ (fu : Nat) (x37 : Int32) (x38 : Int32) (x39 : Int32) (x40 : Int32) (I41 : Iv) (J42 : Jv), KI2 I0 I41 → KJ2 J0 J42 → Qb3 I0 J0 (fl_X10_best_61_0 set c r34 Kf0 fu x37 x38 x39 x40 I41 J42) := by
  intro fu
  induction fu with
  | zero =>
    intro x37 x38 x39 x40 I41 J42 hI41 hJ42
    rw [fl_X10_best_61_0.eq_1]
    exact ⟨hI41, hJ42⟩
  | succ kf0 ih =>
    intro x37 x38 x39 x40 I41 J42 hI41 hJ42
    rw [fl_X10_best_61_0.eq_2]
    exact (q2_ite (hKf0 x37 x38 x39 x40 I41 J42 hI41 hJ42) (fr2_fl_X10_best_75_1 x40 I41 J42 (fun (x45 : Int32) (x46 : Int32) => if (x40 &&& (set ^^^ (-1 : Int32))) = 0 then if c < x45 then fl_X10_best_61_0 set c r34 Kf0 kf0 x37 x38 x39 (x40 + (1 : Int32)) I41 J42 else b_n3 (fn_X10_yearOf (set &&& (x40 ^^^ (-1 : Int32))) I41 J42) (fun (r53 : Int32) (I48 : Iv) (J49 : Jv) => l_t ((r34 - r53)) (fun (v56 : Int32) => j_n (fl_X10_best_61_0 set c r34 Kf0 kf0 x40 v56 x45 (x40 + (1 : Int32)) I48 J49) (fun (j166_2 : Int32 × Iv × Jv) => if x38 < v56 then j166_2 else if v56 = x38 then if x39 ≤ x45 then fl_X10_best_61_0 set c r34 Kf0 kf0 x37 x38 x39 (x40 + (1 : Int32)) I48 J49 else j166_2 else fl_X10_best_61_0 set c r34 Kf0 kf0 x37 x38 x39 (x40 + (1 : Int32)) I48 J49))) else fl_X10_best_61_0 set c r34 Kf0 kf0 x37 x38 x39 (x40 + (1 : Int32)) I41 J42) hI41 hJ42 (fun x45 x46 => (q2_ite (q2_ite (ih x37 x38 x39 (x40 + (1 : Int32)) I41 J42 hI41 hJ42) (q2_b3 (fr2_fn_X10_yearOf (set &&& (x40 ^^^ (-1 : Int32))) I41 hI41 J42 hJ42) (fun r53 I48 J49 h1180 h1181 => (q2_lt (fun v56 => (q2_jn (P := Qb3 I0 J0) (ih x40 v56 x45 (x40 + (1 : Int32)) I48 J49 h1180 h1181) (fun j166_2 j1182 => (q2_ite j1182 (q2_ite (q2_ite (ih x37 x38 x39 (x40 + (1 : Int32)) I48 J49 h1180 h1181) j1182) (ih x37 x38 x39 (x40 + (1 : Int32)) I48 J49 h1180 h1181)))))))))) (ih x37 x38 x39 (x40 + (1 : Int32)) I41 J42 hI41 hJ42))) (mU (7 : Int32) ((0 : Int32)) + 1) (0 : Int32) (0 : Int32)))
theorem fr2_fn_X10_best {I0 : Iv} {J0 : Jv} (set : Int32) (c : Int32) (what : Int32) (I : Iv) (J : Jv) (hb : Qb2 I0 J0 (fn_X10_begin I J)) : Qb3 I0 J0 (fn_X10_best set c what I J) := by
  unfold fn_X10_best
  exact (q2_b2 hb (fun I1 J2 h1183 h1184 => (q2_b3 (fr2_fn_X10_isSet set I1 h1183 J2 h1184) (fun r13 _ _ h1185 h1186 => (q2_ite ⟨h1183, h1184⟩ (q2_b3 (fr2_fn_X10_in (Int32.toInt64 c) (0 : Int64) (9999 : Int64) I1 h1183 J2 h1184) (fun r20 _ _ h1187 h1188 => (q2_ite ⟨h1183, h1184⟩ (q2_b3 (fr2_fn_X10_in (Int32.toInt64 what) (0 : Int64) (2 : Int64) I1 h1183 J2 h1184) (fun r27 _ _ h1189 h1190 => (q2_ite ⟨h1183, h1184⟩ (q2_b3 (fr2_fn_X10_yearOf set I1 h1183 J2 h1184) (fun r34 I29 J30 h1191 h1192 => (fr2_fl_X10_best_61_0 set c r34 (fun (x37 : Int32) (x38 : Int32) (x39 : Int32) (x40 : Int32) (I41 : Iv) (J42 : Jv) => if what = 0 then (x37, I41, J42) else if what = (1 : Int32) then (x38, I41, J42) else (x39, I41, J42)) (fun x37 x38 x39 x40 I41 J42 h1193 h1194 => (q2_ite ⟨h1193, h1194⟩ (q2_ite ⟨h1193, h1194⟩ ⟨h1193, h1194⟩))) (mU (128 : Int32) ((1 : Int32)) + 1) (0 : Int32) (0 : Int32) (0 : Int32) (1 : Int32) I29 J30 h1191 h1192))))))))))))))
theorem fr2_fl_X10_pays_70_0 {I0 : Iv} {J0 : Jv} (c : Int32) (I29 : Iv) (J30 : Jv) (v37 : Int64) (Kf0 : Int32 → Int32 × Iv × Jv) (hI29 : KI2 I0 I29) (hJ30 : KJ2 J0 J30) (hKf0 : ∀ (a1195 : Int32), Qb3 I0 J0 (Kf0 a1195)) : ∀ (fu : Nat) (x38 : Int32), Qb3 I0 J0 (fl_X10_pays_70_0 c I29 J30 v37 Kf0 fu x38) := by
  intro fu
  induction fu with
  | zero =>
    intro x38
    rw [fl_X10_pays_70_0.eq_1]
    exact ⟨hI29, hJ30⟩
  | succ kf0 ih =>
    intro x38
    rw [fl_X10_pays_70_0.eq_2]
    exact (q2_ite (hKf0 x38) (q2_ite (ih (x38 + (1 : Int32))) ⟨hI29, hJ30⟩))
theorem fr2_fn_X10_pays {I0 : Iv} {J0 : Jv} (set : Int32) (c : Int32) (u : Int32) (I : Iv) (J : Jv) (hb : Qb2 I0 J0 (fn_X10_begin I J)) : Qb3 I0 J0 (fn_X10_pays set c u I J) := by
  unfold fn_X10_pays
  exact (q2_b2 hb (fun I1 J2 h1196 h1197 => (q2_b3 (fr2_fn_X10_isSet set I1 h1196 J2 h1197) (fun r13 _ _ h1198 h1199 => (q2_ite ⟨h1196, h1197⟩ (q2_b3 (fr2_fn_X10_in (Int32.toInt64 c) (0 : Int64) (99999 : Int64) I1 h1196 J2 h1197) (fun r20 _ _ h1200 h1201 => (q2_ite ⟨h1196, h1197⟩ (q2_b3 (fr2_fn_X10_in (Int32.toInt64 u) (0 : Int64) (9999 : Int64) I1 h1196 J2 h1197) (fun r27 _ _ h1202 h1203 => (q2_ite ⟨h1196, h1197⟩ (q2_b3 (fr2_fn_X10_yearOf set I1 h1196 J2 h1197) (fun r34 I29 J30 h1204 h1205 => (q2_lt (fun v37 => (fr2_fl_X10_pays_70_0 c I29 J30 v37 (fun (x38 : Int32) => ((-1 : Int32), I29, J30)) h1204 h1205 (fun x38 => ⟨h1204, h1205⟩) (mUe (30 : Int32) ((1 : Int32)) + 1) (1 : Int32)))))))))))))))))
theorem fr2_fl_X10_iceOf_11_0 {I0 : Iv} {J0 : Jv} (I : Iv) (n : Int32) (p : Int32) (Kf0 : Int32 → Int32 → Jv → Int64 × Iv × Jv) (hI : KI2 I0 I) (hKf0 : ∀ (a1206 : Int32) (a1207 : Int32) (a1208 : Jv), KJ2 J0 a1208 → Qb3 I0 J0 (Kf0 a1206 a1207 a1208)) : ∀ (fu : Nat) (x8 : Int32) (x9 : Int32) (J10 : Jv), KJ2 J0 J10 → Qb3 I0 J0 (fl_X10_iceOf_11_0 I n p Kf0 fu x8 x9 J10) := by
  intro fu
  induction fu with
  | zero =>
    intro x8 x9 J10 hJ10
    rw [fl_X10_iceOf_11_0.eq_1]
    exact ⟨hI, hJ10⟩
  | succ kf0 ih =>
    intro x8 x9 J10 hJ10
    rw [fl_X10_iceOf_11_0.eq_2]
    exact (q2_ite (hKf0 x8 x9 J10 hJ10) (q2_jn (P := fun (j : Int32 → Jv → Int64 × Iv × Jv) => ∀ (a1209 : Int32) (a1210 : Jv), KJ2 J0 a1210 → Qb3 I0 J0 (j a1209 a1210)) (fun y13 J14 h1211 => (q2_b2 (fr2_fn_X10_go (80 : Int32) rfl (288 : Int32) I hI J14 h1211) (fun _ J16 h1212 h1213 => (ih y13 (x9 + (1 : Int32)) J16 h1213)))) (fun j46_1 j1214 => (q2_ite (j1214 x8 J10 hJ10) (q2_ite (j1214 x8 J10 hJ10) (q2_ite (q2_b3 (fr2_fn_X10_melt (80 : Int32) rfl I hI J10 hJ10) (fun r28 _ J23 h1215 h1216 => (j1214 ((x8 + (1 : Int32))) J23 h1216))) (j1214 x8 J10 hJ10)))))))
theorem fr2_fn_X10_iceOf {I0 : Iv} {J0 : Jv} (set : Int32) (n : Int32) (b : Int32) (p : Int32) (I : Iv) (hI : KI2 I0 I) (J : Jv) (hJ : KJ2 J0 J) : Qb3 I0 J0 (fn_X10_iceOf set n b p I J) := by
  unfold fn_X10_iceOf
  exact (q2_b2 (fr2_fn_X10_tryFresh set I hI J hJ) (fun _ J1 h1217 h1218 => (fr2_fl_X10_iceOf_11_0 I n p (fun (x8 : Int32) (x9 : Int32) (J10 : Jv) => (((((J10 79 143) * (Int32.toInt64 (I 78 30))) / (1000 : Int64)) + ((Int32.toInt64 b) * (Int32.toInt64 x8))), I, J10)) hI (fun x8 x9 J10 h1219 => ⟨hI, h1219⟩) (mU n ((0 : Int32)) + 1) (0 : Int32) (0 : Int32) J1 h1218)))
theorem fr2_fl_X10_ice_58_0 {I0 : Iv} {J0 : Jv} (set : Int32) (n : Int32) (b : Int32) (Kf0 : Int32 → Int64 → Int32 → Iv → Jv → Int32 × Iv × Jv) (hKf0 : ∀ (a1220 : Int32) (a1221 : Int64) (a1222 : Int32) (a1223 : Iv) (a1224 : Jv), KI2 I0 a1223 → KJ2 J0 a1224 → Qb3 I0 J0 (Kf0 a1220 a1221 a1222 a1223 a1224)) : ∀ (fu : Nat) (x37 : Int32) (x38 : Int64) (x39 : Int32) (I40 : Iv) (J41 : Jv), KI2 I0 I40 → KJ2 J0 J41 → Qb3 I0 J0 (fl_X10_ice_58_0 set n b Kf0 fu x37 x38 x39 I40 J41) := by
  intro fu
  induction fu with
  | zero =>
    intro x37 x38 x39 I40 J41 hI40 hJ41
    rw [fl_X10_ice_58_0.eq_1]
    exact ⟨hI40, hJ41⟩
  | succ kf0 ih =>
    intro x37 x38 x39 I40 J41 hI40 hJ41
    rw [fl_X10_ice_58_0.eq_2]
    exact (q2_ite (hKf0 x37 x38 x39 I40 J41 hI40 hJ41) (q2_b3 (fr2_fn_X10_iceOf set n b x39 I40 hI40 J41 hJ41) (fun r49 I44 J45 h1225 h1226 => (q2_jn (P := fun (j : Int32 → Int32 × Iv × Jv) => ∀ (a1227 : Int32), Qb3 I0 J0 (j a1227)) (fun w52 => (q2_ite (ih w52 x38 (x39 + (1 : Int32)) I44 J45 h1225 h1226) (ih w52 r49 (x39 + (1 : Int32)) I44 J45 h1225 h1226))) (fun j91_1 j1228 => (q2_ite (j1228 x37) (j1228 x39)))))))
theorem fr2_fn_X10_ice {I0 : Iv} {J0 : Jv} (set : Int32) (n : Int32) (b : Int32) (I : Iv) (J : Jv) (hb : Qb2 I0 J0 (fn_X10_begin I J)) : Qb3 I0 J0 (fn_X10_ice set n b I J) := by
  unfold fn_X10_ice
  exact (q2_b2 hb (fun I1 J2 h1229 h1230 => (q2_b3 (fr2_fn_X10_isSet set I1 h1229 J2 h1230) (fun r13 _ _ h1231 h1232 => (q2_ite ⟨h1229, h1230⟩ (q2_b3 (fr2_fn_X10_in (Int32.toInt64 n) (1 : Int64) (20 : Int64) I1 h1229 J2 h1230) (fun r20 _ _ h1233 h1234 => (q2_ite ⟨h1229, h1230⟩ (q2_b3 (fr2_fn_X10_in (Int32.toInt64 b) (0 : Int64) (999 : Int64) I1 h1229 J2 h1230) (fun r27 _ _ h1235 h1236 => (q2_ite ⟨h1229, h1230⟩ (q2_b3 (fr2_fn_X10_iceOf set n b (0 : Int32) I1 h1229 J2 h1230) (fun r34 I29 J30 h1237 h1238 => (fr2_fl_X10_ice_58_0 set n b (fun (x37 : Int32) (x38 : Int64) (x39 : Int32) (I40 : Iv) (J41 : Jv) => (x37, I40, J41)) (fun x37 x38 x39 I40 J41 h1239 h1240 => ⟨h1239, h1240⟩) (mUe (20 : Int32) ((1 : Int32)) + 1) (0 : Int32) r34 (1 : Int32) I29 J30 h1237 h1238))))))))))))))
theorem fr2_fl_X10_within_34_1 {I0 : Iv} {J0 : Jv} (I : Iv) (x2 : Int32) (J13 : Jv) (Kf1 : Int32 → Int32 → Int32 × Iv × Jv) (hI : KI2 I0 I) (hJ13 : KJ2 J0 J13) (hKf1 : ∀ (a1241 : Int32) (a1242 : Int32), Qb3 I0 J0 (Kf1 a1241 a1242)) : ∀ (fu : Nat) (x20 : Int32) (x21 : Int32), Qb3 I0 J0 (fl_X10_within_34_1 I x2 J13 Kf1 fu x20 x21) := by
  intro fu
  induction fu with
  | zero =>
    intro x20 x21
    rw [fl_X10_within_34_1.eq_1]
    exact ⟨hI, hJ13⟩
  | succ kf1 ih =>
    intro x20 x21
    rw [fl_X10_within_34_1.eq_2]
    exact (q2_ite (hKf1 x20 x21) (q2_ite (hKf1 x20 x21) (q2_jn (P := fun (j : Int32 → Int32 × Iv × Jv) => ∀ (a1243 : Int32), Qb3 I0 J0 (j a1243)) (fun w23 => (q2_b3 (fr2_fn_X10_one w23 I hI J13 hJ13) (fun r29 _ _ h1244 h1245 => (q2_lt (fun v31 => (ih v31 (x21 + (1 : Int32)))))))) (fun j80_2 j1246 => (q2_jn (P := Qb3 I0 J0) (j1246 ((0 : Int32))) (fun j79_3 j1247 => (q2_ite (q2_b3 (fr2_fn_X10_isWithin (80 : Int32) x21 I hI J13 hJ13) (fun r37 _ _ h1248 h1249 => (q2_ite j1247 (j1246 ((1 : Int32)))))) j1247)))))))
theorem fr2_fl_X10_within_4_0 {I0 : Iv} {J0 : Jv} (I : Iv) (shelf : Int32) (Kf0 : Int32 → Int32 → Jv → Int32 × Iv × Jv) (hI : KI2 I0 I) (hKf0 : ∀ (a1250 : Int32) (a1251 : Int32) (a1252 : Jv), KJ2 J0 a1252 → Qb3 I0 J0 (Kf0 a1250 a1251 a1252)) : ∀ (fu : Nat) (x1 : Int32) (x2 : Int32) (J3 : Jv), KJ2 J0 J3 → Qb3 I0 J0 (fl_X10_within_4_0 I shelf Kf0 fu x1 x2 J3) := by
  intro fu
  induction fu with
  | zero =>
    intro x1 x2 J3 hJ3
    rw [fl_X10_within_4_0.eq_1]
    exact ⟨hI, hJ3⟩
  | succ kf0 ih =>
    intro x1 x2 J3 hJ3
    rw [fl_X10_within_4_0.eq_2]
    exact (q2_ite (hKf0 x1 x2 J3 hJ3) (q2_b3 (fr2_fn_X10_isOpen (J3 79 134) I hI J3 hJ3) (fun r11 _ _ h1253 h1254 => (q2_b2 (fr2_fn_X10_tick (80 : Int32) rfl r11 shelf (0 : Int32) I hI J3 hJ3) (fun _ J13 h1255 h1256 => (fr2_fl_X10_within_34_1 I x2 J13 (fun (x20 : Int32) (x21 : Int32) => fl_X10_within_4_0 I shelf Kf0 kf0 x20 (x2 + (1 : Int32)) J13) hI h1256 (fun x20 x21 => (ih x20 (x2 + (1 : Int32)) J13 h1256)) (mU (8 : Int32) ((0 : Int32)) + 1) x1 (0 : Int32)))))))
theorem fr2_fn_X10_within {I0 : Iv} {J0 : Jv} (shelf : Int32) (I : Iv) (hI : KI2 I0 I) (J : Jv) (hJ : KJ2 J0 J) : Qb3 I0 J0 (fn_X10_within shelf I J) := by
  unfold fn_X10_within
  exact (fr2_fl_X10_within_4_0 I shelf (fun (x1 : Int32) (x2 : Int32) (J3 : Jv) => (x1, I, J3)) hI (fun x1 x2 J3 h1257 => ⟨hI, h1257⟩) (mU (576 : Int32) ((0 : Int32)) + 1) (0 : Int32) (0 : Int32) J hJ)
theorem fr2_fl_X10_powerOf3_4_0 {I0 : Iv} {J0 : Jv} (I : Iv) (J : Jv) (n : Int32) (Kf0 : Int32 → Int32 → Int32 × Iv × Jv) (hI : KI2 I0 I) (hJ : KJ2 J0 J) (hKf0 : ∀ (a1258 : Int32) (a1259 : Int32), Qb3 I0 J0 (Kf0 a1258 a1259)) : ∀ (fu : Nat) (x1 : Int32) (x2 : Int32), Qb3 I0 J0 (fl_X10_powerOf3_4_0 I J n Kf0 fu x1 x2) := by
  intro fu
  induction fu with
  | zero =>
    intro x1 x2
    rw [fl_X10_powerOf3_4_0.eq_1]
    exact ⟨hI, hJ⟩
  | succ kf0 ih =>
    intro x1 x2
    rw [fl_X10_powerOf3_4_0.eq_2]
    exact (q2_ite (hKf0 x1 x2) (q2_lt (fun v4 => (ih v4 (x2 + (1 : Int32))))))
theorem fr2_fn_X10_powerOf3 {I0 : Iv} {J0 : Jv} (n : Int32) (I : Iv) (hI : KI2 I0 I) (J : Jv) (hJ : KJ2 J0 J) : Qb3 I0 J0 (fn_X10_powerOf3 n I J) := by
  unfold fn_X10_powerOf3
  exact (fr2_fl_X10_powerOf3_4_0 I J n (fun (x1 : Int32) (x2 : Int32) => (x1, I, J)) hI hJ (fun x1 x2 => ⟨hI, hJ⟩) (mU n ((0 : Int32)) + 1) (1 : Int32) (0 : Int32))
theorem fr2_fn_X10_rowAt {I0 : Iv} {J0 : Jv} (row : Int32) (many : Int32) (i : Int32) (I : Iv) (hI : KI2 I0 I) (J : Jv) (hJ : KJ2 J0 J) : Qb3 I0 J0 (fn_X10_rowAt row many i I J) := by
  unfold fn_X10_rowAt
  exact (q2_b3 (fr2_fn_X10_powerOf3 ((many - (1 : Int32)) - i) I hI J hJ) (fun r6 _ _ h1260 h1261 => ⟨hI, hJ⟩))
theorem fr2_fl_X10_placeOf_4_0 {I0 : Iv} {J0 : Jv} (I : Iv) (J : Jv) (f : Int32) (Kf0 : Int32 → Int32 → Int32 × Iv × Jv) (hI : KI2 I0 I) (hJ : KJ2 J0 J) (hKf0 : ∀ (a1262 : Int32) (a1263 : Int32), Qb3 I0 J0 (Kf0 a1262 a1263)) : ∀ (fu : Nat) (x1 : Int32) (x2 : Int32), Qb3 I0 J0 (fl_X10_placeOf_4_0 I J f Kf0 fu x1 x2) := by
  intro fu
  induction fu with
  | zero =>
    intro x1 x2
    rw [fl_X10_placeOf_4_0.eq_1]
    exact ⟨hI, hJ⟩
  | succ kf0 ih =>
    intro x1 x2
    rw [fl_X10_placeOf_4_0.eq_2]
    exact (q2_ite (hKf0 x1 x2) (q2_lt (fun v4 => (ih v4 (x2 + (1 : Int32))))))
theorem fr2_fn_X10_placeOf {I0 : Iv} {J0 : Jv} (f : Int32) (I : Iv) (hI : KI2 I0 I) (J : Jv) (hJ : KJ2 J0 J) : Qb3 I0 J0 (fn_X10_placeOf f I J) := by
  unfold fn_X10_placeOf
  exact (fr2_fl_X10_placeOf_4_0 I J f (fun (x1 : Int32) (x2 : Int32) => (x1, I, J)) hI hJ (fun x1 x2 => ⟨hI, hJ⟩) (mU f ((0 : Int32)) + 1) (0 : Int32) (0 : Int32))
theorem fr2_fl_X10_lying_63_2 {I0 : Iv} {J0 : Jv} (r13 : Int32) (x17 : Int32) (I18 : Iv) (Kf2 : Int32 → Jv → Int32 × Iv × Jv) (hI18 : KI2 I0 I18) (hKf2 : ∀ (a1264 : Int32) (a1265 : Jv), KJ2 J0 a1265 → Qb3 I0 J0 (Kf2 a1264 a1265)) : ∀ (fu : Nat) (x49 : Int32) (J50 : Jv), KJ2 J0 J50 → Qb3 I0 J0 (fl_X10_lying_63_2 r13 x17 I18 Kf2 fu x49 J50) := by
  intro fu
  induction fu with
  | zero =>
    intro x49 J50 hJ50
    rw [fl_X10_lying_63_2.eq_1]
    exact ⟨hI18, hJ50⟩
  | succ kf2 ih =>
    intro x49 J50 hJ50
    rw [fl_X10_lying_63_2.eq_2]
    exact (q2_iteh (fun g1266 => (hKf2 x49 J50 hJ50)) (fun g1267 => (q2_iteh (fun g1268 => (q2_b3 (fr2_fn_X10_placeOf x49 I18 hI18 J50 hJ50) (fun r67 _ _ h1270 h1271 => (q2_b3 (fr2_fn_X10_rowAt x17 r13 r67 I18 hI18 J50 hJ50) (fun r74 _ _ h1272 h1273 => (q2_ltJ (k2_wJ (t2_p (by decide) (by decide) (gd_8 g1267)) hJ50) (fun J76 h1274 => (ih (x49 + (1 : Int32)) J76 h1274)))))))) (fun g1269 => (ih (x49 + (1 : Int32)) J50 hJ50)))))
theorem fr2_fl_X10_lying_44_1 {I0 : Iv} {J0 : Jv} (r13 : Int32) (Kf1 : Int32 → Int32 → Int32 → Iv → Jv → Int32 × Iv × Jv) (hKf1 : ∀ (a1275 : Int32) (a1276 : Int32) (a1277 : Int32) (a1278 : Iv) (a1279 : Jv), KI2 I0 a1278 → KJ2 J0 a1279 → Qb3 I0 J0 (Kf1 a1275 a1276 a1277 a1278 a1279)) : ∀ (fu : Nat) (x15 : Int32) (x16 : Int32) (x17 : Int32) (I18 : Iv) (J19 : Jv), KI2 I0 I18 → KJ2 J0 J19 → Qb3 I0 J0 (fl_X10_lying_44_1 r13 Kf1 fu x15 x16 x17 I18 J19) := by
  intro fu
  induction fu with
  | zero =>
    intro x15 x16 x17 I18 J19 hI18 hJ19
    rw [fl_X10_lying_44_1.eq_1]
    exact ⟨hI18, hJ19⟩
  | succ kf1 ih =>
    intro x15 x16 x17 I18 J19 hI18 hJ19
    rw [fl_X10_lying_44_1.eq_2]
    exact (q2_b3 (fr2_fn_X10_powerOf3 r13 I18 hI18 J19 hJ19) (fun r26 _ _ h1280 h1281 => (q2_ite (hKf1 x15 x16 x17 I18 J19 hI18 hJ19) (q2_b2 (fr2_fn_X10_copy (0 : Int32) (80 : Int32) rfl I18 hI18 J19 hJ19) (fun _ J42 h1282 h1283 => (fr2_fl_X10_lying_63_2 r13 x17 I18 (fun (x49 : Int32) (J50 : Jv) => b_n3 (fn_X10_within (I18 81 8) I18 J50) (fun (r58 : Int32) (I53 : Iv) (J54 : Jv) => j_n (fun (w61 : Int32) => if r58 ≤ x16 then fl_X10_lying_44_1 r13 Kf1 kf1 w61 x16 (x17 + (1 : Int32)) I53 J54 else fl_X10_lying_44_1 r13 Kf1 kf1 w61 r58 (x17 + (1 : Int32)) I53 J54) (fun (j140_3 : Int32 → Int32 × Iv × Jv) => if r58 ≤ x16 then j140_3 x15 else j140_3 x17))) hI18 (fun x49 J50 h1284 => (q2_b3 (fr2_fn_X10_within (I18 81 8) I18 hI18 J50 h1284) (fun r58 I53 J54 h1285 h1286 => (q2_jn (P := fun (j : Int32 → Int32 × Iv × Jv) => ∀ (a1287 : Int32), Qb3 I0 J0 (j a1287)) (fun w61 => (q2_ite (ih w61 x16 (x17 + (1 : Int32)) I53 J54 h1285 h1286) (ih w61 r58 (x17 + (1 : Int32)) I53 J54 h1285 h1286))) (fun j140_3 j1288 => (q2_ite (j1288 x15) (j1288 x17))))))) (mU (8 : Int32) ((0 : Int32)) + 1) (0 : Int32) J42 h1283))))))
theorem fr2_fn_X10_lying {I0 : Iv} {J0 : Jv} (f : Int32) (I : Iv) (J : Jv) (hb : Qb2 I0 J0 (fn_X10_begin I J)) : Qb3 I0 J0 (fn_X10_lying f I J) := by
  unfold fn_X10_lying
  exact (q2_b2 hb (fun I1 J2 h1289 h1290 => (q2_jn (P := Qb3 I0 J0) (q2_b3 (fr2_fn_X10_foods I1 h1289 J2 h1290) (fun r13 _ _ h1292 h1293 => (q2_ite (fr2_fl_X10_lying_44_1 r13 (fun (x15 : Int32) (x16 : Int32) (x17 : Int32) (I18 : Iv) (J19 : Jv) => if f = (-1 : Int32) then (x16, I18, J19) else b_n3 (fn_X10_placeOf f I18 J19) (fun (r33 : Int32) (_ : Iv) (_ : Jv) => b_n3 (fn_X10_rowAt x15 r13 r33 I18 J19) (fun (r40 : Int32) (_ : Iv) (_ : Jv) => (r40, I18, J19)))) (fun x15 x16 x17 I18 J19 h1294 h1295 => (q2_ite ⟨h1294, h1295⟩ (q2_b3 (fr2_fn_X10_placeOf f I18 h1294 J19 h1295) (fun r33 _ _ h1296 h1297 => (q2_b3 (fr2_fn_X10_rowAt x15 r13 r33 I18 h1294 J19 h1295) (fun r40 _ _ h1298 h1299 => ⟨h1294, h1295⟩)))))) (mU 6561 ((0 : Int32)) + 1) (-1 : Int32) (-1 : Int32) (0 : Int32) I1 J2 h1289 h1290) ⟨h1289, h1290⟩))) (fun j21_0 j1291 => (q2_ite j1291 (q2_b3 (fr2_fn_X10_isFood f I1 h1289 J2 h1290) (fun r83 _ _ h1300 h1301 => (q2_ite ⟨h1289, h1290⟩ j1291))))))))
theorem fr2_fl_X10_bulb_24_0 {I0 : Iv} {J0 : Jv} (Kf0 : Int32 → Int32 → Int32 → Iv → Jv → Int32 × Iv × Jv) (hKf0 : ∀ (a1302 : Int32) (a1303 : Int32) (a1304 : Int32) (a1305 : Iv) (a1306 : Jv), KI2 I0 a1305 → KJ2 J0 a1306 → Qb3 I0 J0 (Kf0 a1302 a1303 a1304 a1305 a1306)) : ∀ (fu : Nat) (x15 : Int32) (x16 : Int32) (x17 : Int32) (I18 : Iv) (J19 : Jv), KI2 I0 I18 → KJ2 J0 J19 → Qb3 I0 J0 (fl_X10_bulb_24_0 Kf0 fu x15 x16 x17 I18 J19) := by
  intro fu
  induction fu with
  | zero =>
    intro x15 x16 x17 I18 J19 hI18 hJ19
    rw [fl_X10_bulb_24_0.eq_1]
    exact ⟨hI18, hJ19⟩
  | succ kf0 ih =>
    intro x15 x16 x17 I18 J19 hI18 hJ19
    rw [fl_X10_bulb_24_0.eq_2]
    exact (q2_ite (hKf0 x15 x16 x17 I18 J19 hI18 hJ19) (q2_b2 (fr2_fn_X10_copy (0 : Int32) (80 : Int32) rfl I18 hI18 J19 hJ19) (fun _ J22 h1307 h1308 => (q2_b3 (fr2_fn_X10_within x17 I18 hI18 J22 h1308) (fun r34 I29 J30 h1309 h1310 => (q2_jn (P := fun (j : Int32 → Int32 × Iv × Jv) => ∀ (a1311 : Int32), Qb3 I0 J0 (j a1311)) (fun w37 => (q2_ite (ih w37 x16 (x17 + (1 : Int32)) I29 J30 h1309 h1310) (ih w37 r34 (x17 + (1 : Int32)) I29 J30 h1309 h1310))) (fun j57_1 j1312 => (q2_ite (j1312 x15) (j1312 x17)))))))))
theorem fr2_fn_X10_bulb {I0 : Iv} {J0 : Jv} (what : Int32) (I : Iv) (J : Jv) (hb : Qb2 I0 J0 (fn_X10_begin I J)) : Qb3 I0 J0 (fn_X10_bulb what I J) := by
  unfold fn_X10_bulb
  exact (q2_b2 hb (fun I1 J2 h1313 h1314 => (q2_b3 (fr2_fn_X10_in (Int32.toInt64 what) (0 : Int64) (1 : Int64) I1 h1313 J2 h1314) (fun r13 _ _ h1315 h1316 => (q2_ite ⟨h1313, h1314⟩ (fr2_fl_X10_bulb_24_0 (fun (x15 : Int32) (x16 : Int32) (x17 : Int32) (I18 : Iv) (J19 : Jv) => if what = 0 then (x15, I18, J19) else (x16, I18, J19)) (fun x15 x16 x17 I18 J19 h1317 h1318 => (q2_ite ⟨h1317, h1318⟩ ⟨h1317, h1318⟩)) (mU (3 : Int32) ((0 : Int32)) + 1) (-1 : Int32) (-1 : Int32) (0 : Int32) I1 J2 h1313 h1314))))))
theorem fr2_fl_X10_without_34_0 {I0 : Iv} {J0 : Jv} (f : Int32) (I1 : Iv) (Kf0 : Int32 → Jv → Int32 × Iv × Jv) (hI1 : KI2 I0 I1) (hKf0 : ∀ (a1319 : Int32) (a1320 : Jv), KJ2 J0 a1320 → Qb3 I0 J0 (Kf0 a1319 a1320)) : ∀ (fu : Nat) (x24 : Int32) (J25 : Jv), KJ2 J0 J25 → Qb3 I0 J0 (fl_X10_without_34_0 f I1 Kf0 fu x24 J25) := by
  intro fu
  induction fu with
  | zero =>
    intro x24 J25 hJ25
    rw [fl_X10_without_34_0.eq_1]
    exact ⟨hI1, hJ25⟩
  | succ kf0 ih =>
    intro x24 J25 hJ25
    rw [fl_X10_without_34_0.eq_2]
    exact (q2_ite (hKf0 x24 J25 hJ25) (q2_b2 (fr2_fn_X10_go (80 : Int32) rfl (1 : Int32) I1 hI1 J25 hJ25) (fun _ J28 h1321 h1322 => (q2_b3 (fr2_fn_X10_isWithin (80 : Int32) f I1 hI1 J28 h1322) (fun r40 _ _ h1323 h1324 => (q2_ite ⟨hI1, h1322⟩ (ih (x24 + (1 : Int32)) J28 h1322)))))))
theorem fr2_fn_X10_without {I0 : Iv} {J0 : Jv} (f : Int32) (I : Iv) (J : Jv) (hb : Qb2 I0 J0 (fn_X10_begin I J)) : Qb3 I0 J0 (fn_X10_without f I J) := by
  unfold fn_X10_without
  exact (q2_b2 hb (fun I1 J2 h1325 h1326 => (q2_b3 (fr2_fn_X10_isFood f I1 h1325 J2 h1326) (fun r13 _ _ h1327 h1328 => (q2_ite ⟨h1325, h1326⟩ (q2_b2 (fr2_fn_X10_copy (0 : Int32) (80 : Int32) rfl I1 h1325 J2 h1326) (fun _ J15 h1329 h1330 => (q2_ltJ (k2_wJ rfl h1330) (fun J22 h1331 => (fr2_fl_X10_without_34_0 f I1 (fun (x24 : Int32) (J25 : Jv) => ((-1 : Int32), I1, J25)) h1325 (fun x24 J25 h1332 => ⟨h1325, h1332⟩) (mUe (864 : Int32) ((0 : Int32)) + 1) (0 : Int32) J22 h1331))))))))))
theorem fr2_fn_X10_cheap {I0 : Iv} {J0 : Jv} (a : Int32) (b : Int32) (v_ : Int32) (I : Iv) (J : Jv) (hb : Qb2 I0 J0 (fn_X10_begin I J)) : Qb3 I0 J0 (fn_X10_cheap a b v_ I J) := by
  unfold fn_X10_cheap
  exact (q2_b2 hb (fun I1 J2 h1333 h1334 => (q2_jn (P := Qb3 I0 J0) (q2_ltI (k2_wI rfl h1333) (fun I8 h1336 => (q2_ltI (k2_wI rfl h1336) (fun I10 h1337 => (q2_ltI (k2_wI rfl h1337) (fun I12 h1338 => ⟨h1338, h1334⟩)))))) (fun j51_0 j1335 => (q2_ite j1335 (q2_b3 (fr2_fn_X10_in (Int32.toInt64 a) (0 : Int64) (24 : Int64) I1 h1333 J2 h1334) (fun r19 _ _ h1339 h1340 => (q2_ite ⟨h1333, h1334⟩ (q2_b3 (fr2_fn_X10_in (Int32.toInt64 b) (Int32.toInt64 (a + (1 : Int32))) (24 : Int64) I1 h1333 J2 h1334) (fun r26 _ _ h1341 h1342 => (q2_ite ⟨h1333, h1334⟩ (q2_b3 (fr2_fn_X10_in (Int32.toInt64 v_) (0 : Int64) (999 : Int64) I1 h1333 J2 h1334) (fun r33 _ _ h1343 h1344 => (q2_ite ⟨h1333, h1334⟩ j1335))))))))))))))
theorem fr2_fl_X10_paid_117_3 {I0 : Iv} {J0 : Jv} (I : Iv) (J30 : Jv) (Kf3 : Int32 → Int64 × Iv × Jv) (hI : KI2 I0 I) (hJ30 : KJ2 J0 J30) (hKf3 : ∀ (a1345 : Int32), Qb3 I0 J0 (Kf3 a1345)) : ∀ (fu : Nat) (x39 : Int32), Qb3 I0 J0 (fl_X10_paid_117_3 I J30 Kf3 fu x39) := by
  intro fu
  induction fu with
  | zero =>
    intro x39
    rw [fl_X10_paid_117_3.eq_1]
    exact ⟨hI, hJ30⟩
  | succ kf3 ih =>
    intro x39
    rw [fl_X10_paid_117_3.eq_2]
    exact (q2_ite (hKf3 x39) (q2_ite (q2_b3 (fr2_fn_X10_isWithin (80 : Int32) x39 I hI J30 hJ30) (fun r46 _ _ h1346 h1347 => (q2_ite ⟨hI, hJ30⟩ (ih (x39 + (1 : Int32)))))) (ih (x39 + (1 : Int32)))))
theorem fr2_fl_X10_paid_12_0 {I0 : Iv} {J0 : Jv} (I : Iv) (ticks : Int32) (d : Int32) (Kf0 : Int64 → Int32 → Jv → Int64 × Iv × Jv) (hI : KI2 I0 I) (hKf0 : ∀ (a1348 : Int64) (a1349 : Int32) (a1350 : Jv), KJ2 J0 a1350 → Qb3 I0 J0 (Kf0 a1348 a1349 a1350)) : ∀ (fu : Nat) (x8 : Int64) (x9 : Int32) (J10 : Jv), KJ2 J0 J10 → Qb3 I0 J0 (fl_X10_paid_12_0 I ticks d Kf0 fu x8 x9 J10) := by
  intro fu
  induction fu with
  | zero =>
    intro x8 x9 J10 hJ10
    rw [fl_X10_paid_12_0.eq_1]
    exact ⟨hI, hJ10⟩
  | succ kf0 ih =>
    intro x8 x9 J10 hJ10
    rw [fl_X10_paid_12_0.eq_2]
    exact (q2_ite (hKf0 x8 x9 J10 hJ10) (q2_lt (fun v13 => (q2_b3 (fr2_fn_X10_isHour v13 (I 78 31) (I 78 32) I hI J10 hJ10) (fun r19 _ _ h1351 h1352 => (q2_lt (fun v21 => (q2_b3 (fr2_fn_X10_isOpen v13 I hI J10 hJ10) (fun r27 _ _ h1353 h1354 => (q2_jn (P := fun (j : Int32 → Int64 × Iv × Jv) => ∀ (a1355 : Int32), Qb3 I0 J0 (j a1355)) (fun w29 => (q2_b2 (fr2_fn_X10_tick (80 : Int32) rfl r27 (I 81 8) w29 I hI J10 hJ10) (fun _ J30 h1356 h1357 => (q2_jn (P := fun (j : Int32 → Int64 × Iv × Jv) => ∀ (a1358 : Int32), Qb3 I0 J0 (j a1358)) (fun w37 => (q2_lt (fun v38 => (fr2_fl_X10_paid_117_3 I J30 (fun (x39 : Int32) => fl_X10_paid_12_0 I ticks d Kf0 kf0 v38 (x9 + (1 : Int32)) J30) hI h1357 (fun x39 => (ih v38 (x9 + (1 : Int32)) J30 h1357)) (mU (8 : Int32) ((0 : Int32)) + 1) (0 : Int32))))) (fun j110_2 j1359 => (q2_ite (j1359 ((I 78 30))) (j1359 ((I 78 33))))))))) (fun j79_1 j1360 => (q2_ite (j1360 ((0 : Int32))) (j1360 d)))))))))))))
theorem fr2_fn_X10_paid {I0 : Iv} {J0 : Jv} (ticks : Int32) (d : Int32) (I : Iv) (hI : KI2 I0 I) (J : Jv) (hJ : KJ2 J0 J) : Qb3 I0 J0 (fn_X10_paid ticks d I J) := by
  unfold fn_X10_paid
  exact (q2_b2 (fr2_fn_X10_copy (0 : Int32) (80 : Int32) rfl I hI J hJ) (fun _ J1 h1361 h1362 => (fr2_fl_X10_paid_12_0 I ticks d (fun (x8 : Int64) (x9 : Int32) (J10 : Jv) => ((x8 / (1000 : Int64)), I, J10)) hI (fun x8 x9 J10 h1363 => ⟨hI, h1363⟩) (mU ticks ((0 : Int32)) + 1) (0 : Int64) (0 : Int32) J1 h1362)))
theorem fr2_fl_X10_store_34_0 {I0 : Iv} {J0 : Jv} (n : Int32) (Kf0 : Int32 → Int64 → Int32 → Iv → Jv → Int32 × Iv × Jv) (hKf0 : ∀ (a1364 : Int32) (a1365 : Int64) (a1366 : Int32) (a1367 : Iv) (a1368 : Jv), KI2 I0 a1367 → KJ2 J0 a1368 → Qb3 I0 J0 (Kf0 a1364 a1365 a1366 a1367 a1368)) : ∀ (fu : Nat) (x22 : Int32) (x23 : Int64) (x24 : Int32) (I25 : Iv) (J26 : Jv), KI2 I0 I25 → KJ2 J0 J26 → Qb3 I0 J0 (fl_X10_store_34_0 n Kf0 fu x22 x23 x24 I25 J26) := by
  intro fu
  induction fu with
  | zero =>
    intro x22 x23 x24 I25 J26 hI25 hJ26
    rw [fl_X10_store_34_0.eq_1]
    exact ⟨hI25, hJ26⟩
  | succ kf0 ih =>
    intro x22 x23 x24 I25 J26 hI25 hJ26
    rw [fl_X10_store_34_0.eq_2]
    exact (q2_ite (hKf0 x22 x23 x24 I25 J26 hI25 hJ26) (q2_b3 (fr2_fn_X10_paid ((288 : Int32) * n) x24 I25 hI25 J26 hJ26) (fun r33 I28 J29 h1369 h1370 => (q2_ite (ih x22 x23 (x24 + (5 : Int32)) I28 J29 h1369 h1370) (q2_jn (P := Qb3 I0 J0) (ih x24 r33 (x24 + (5 : Int32)) I28 J29 h1369 h1370) (fun j73_1 j1371 => (q2_ite j1371 (q2_ite (ih x22 x23 (x24 + (5 : Int32)) I28 J29 h1369 h1370) j1371))))))))
theorem fr2_fn_X10_store {I0 : Iv} {J0 : Jv} (n : Int32) (what : Int32) (I : Iv) (J : Jv) (hb : Qb2 I0 J0 (fn_X10_begin I J)) : Qb3 I0 J0 (fn_X10_store n what I J) := by
  unfold fn_X10_store
  exact (q2_b2 hb (fun I1 J2 h1372 h1373 => (q2_b3 (fr2_fn_X10_areDays n I1 h1372 J2 h1373) (fun r13 _ _ h1374 h1375 => (q2_ite ⟨h1372, h1373⟩ (q2_b3 (fr2_fn_X10_in (Int32.toInt64 what) (0 : Int64) (1 : Int64) I1 h1372 J2 h1373) (fun r20 _ _ h1376 h1377 => (q2_ite ⟨h1372, h1373⟩ (fr2_fl_X10_store_34_0 n (fun (x22 : Int32) (x23 : Int64) (x24 : Int32) (I25 : Iv) (J26 : Jv) => if what = 0 then (x22, I25, J26) else ((Int64.toInt32 x23), I25, J26)) (fun x22 x23 x24 I25 J26 h1378 h1379 => (q2_ite ⟨h1378, h1379⟩ ⟨h1378, h1379⟩)) (mUe 40 ((0 : Int32)) + 1) (-1 : Int32) (-1 : Int64) (0 : Int32) I1 J2 h1372 h1373)))))))))
theorem fr2_fl_X10_feed_35_0 {I0 : Iv} {J0 : Jv} (J : Jv) (bytes : Int64) (Kf0 : Int32 → Iv → Int32 × Iv × Jv) (hJ : KJ2 J0 J) (hKf0 : ∀ (a1380 : Int32) (a1381 : Iv), KI2 I0 a1381 → Qb3 I0 J0 (Kf0 a1380 a1381)) : ∀ (fu : Nat) (x9 : Int32) (I10 : Iv), KI2 I0 I10 → Qb3 I0 J0 (fl_X10_feed_35_0 J bytes Kf0 fu x9 I10) := by
  intro fu
  induction fu with
  | zero =>
    intro x9 I10 hI10
    rw [fl_X10_feed_35_0.eq_1]
    exact ⟨hI10, hJ⟩
  | succ kf0 ih =>
    intro x9 I10 hI10
    rw [fl_X10_feed_35_0.eq_2]
    exact (q2_ite (hKf0 x9 I10 hI10) (q2_ltI (k2_wI rfl hI10) (fun I13 h1382 => (q2_ltI (k2_wI rfl h1382) (fun I15 h1383 => (ih (x9 + (-1 : Int32)) I15 h1383))))))
theorem fr2_fn_X10_feed {I0 : Iv} {J0 : Jv} (n : Int32) (bytes : Int64) (I : Iv) (hI : KI2 I0 I) (J : Jv) (hJ : KJ2 J0 J) : Qb3 I0 J0 (fn_X10_feed n bytes I J) := by
  unfold fn_X10_feed
  exact (q2_b3 (fr2_fn_X10_in (Int32.toInt64 n) (1 : Int64) (8 : Int64) I hI J hJ) (fun r6 _ _ h1384 h1385 => (q2_ite ⟨hI, hJ⟩ (q2_ite (q2_lt (fun v8 => (fr2_fl_X10_feed_35_0 J bytes (fun (x9 : Int32) (I10 : Iv) => ((I10 78 11), I10, J)) hJ (fun x9 I10 h1386 => ⟨h1386, hJ⟩) (mD v8 + 1) v8 I hI))) ⟨hI, hJ⟩))))
theorem fr2_fl_X9_forget_10_0 {I0 : Iv} {J0 : Jv} (J : Jv) (Kf0 : Int32 → Iv → Int32 × Iv × Jv) (hJ : KJ2 J0 J) (hKf0 : ∀ (a1387 : Int32) (a1388 : Iv), KI2 I0 a1388 → Qb3 I0 J0 (Kf0 a1387 a1388)) : ∀ (fu : Nat) (x8 : Int32) (I9 : Iv), KI2 I0 I9 → Qb3 I0 J0 (fl_X9_forget_10_0 J Kf0 fu x8 I9) := by
  intro fu
  induction fu with
  | zero =>
    intro x8 I9 hI9
    rw [fl_X9_forget_10_0.eq_1]
    exact ⟨hI9, hJ⟩
  | succ kf0 ih =>
    intro x8 I9 hI9
    rw [fl_X9_forget_10_0.eq_2]
    exact (q2_ite (hKf0 x8 I9 hI9) (q2_ltI (k2_wI rfl hI9) (fun I12 h1389 => (ih (x8 + (1 : Int32)) I12 h1389))))
theorem fr2_fn_X9_forget {I0 : Iv} {J0 : Jv} (I : Iv) (hI : KI2 I0 I) (J : Jv) (hJ : KJ2 J0 J) : Qb3 I0 J0 (fn_X9_forget I J) := by
  unfold fn_X9_forget
  exact (q2_b3 (fr2_fn_X2_howManySeen I hI J hJ) (fun r6 _ _ h1390 h1391 => (fr2_fl_X9_forget_10_0 J (fun (x8 : Int32) (I9 : Iv) => (r6, I9, J)) hJ (fun x8 I9 h1392 => ⟨h1392, hJ⟩) (mU (7 : Int32) ((0 : Int32)) + 1) (0 : Int32) I hI)))
