/-! ===== what stays: the class, the guess ===== -/
def S5 (b k : Nat) : Bool := Nat.blt b 78 || b == 91 || b == 92 || b == 93 || b == 94 || b == 95 || (b == 78 && k == 2)
def KI5 (I0 I : Iv) : Prop := ∀ b k, S5 b k = true → I b k = I0 b k
theorem kI5_rfl {I : Iv} : KI5 I I := fun _ _ _ => rfl
theorem KI5.row {I0 I : Iv} (h : KI5 I0 I) (b : Nat) (hb : ∀ k, S5 b k = true) : I b = I0 b := by funext k; exact h b k (hb k)
def Qe3 {α : Type} (I0 : Iv) (x : α × Iv × Jv) : Prop := KI5 I0 x.2.1
def Qe2 (I0 : Iv) (x : Iv × Jv) : Prop := KI5 I0 x.1
theorem kI5_w {I0 I : Iv} {a k : Nat} {v : Int32} (h : S5 a k = false) (q : KI5 I0 I) : KI5 I0 (wI I a k v) := by
  intro b j hb
  rw [wI_ne (by
    by_cases e : b = a
    · by_cases e2 : j = k
      · rw [e, e2, h] at hb; exact absurd hb (by decide)
      · exact Or.inr e2
    · exact Or.inl e)]
  exact q b j hb
theorem kI5_c {I0 I : Iv} {a n : Nat} {f : Nat → Int32} (h : ∀ k, S5 a k = false) (q : KI5 I0 I) : KI5 I0 (cI I a n f) := by
  intro b j hb
  rw [cI_row (by rintro rfl; rw [h j] at hb; exact absurd hb (by decide))]
  exact q b j hb
theorem q5x_ite {c : Prop} [Decidable c] {α : Type} {Q : α → Prop} {a b : α} (h1 : Q a) (h2 : Q b) : Q (if c then a else b) := by
  by_cases q : c
  · rw [if_pos q]; exact h1
  · rw [if_neg q]; exact h2
theorem q5x_ltI {α : Type} {Q : α → Prop} {I0 x : Iv} {k : Iv → α} (hx : KI5 I0 x) (hk : ∀ I, KI5 I0 I → Q (k I)) : Q (l_t x k) := hk x hx
theorem q5x_lt {α β : Type} {Q : α → Prop} {x : β} {k : β → α} (hk : ∀ y, Q (k y)) : Q (l_t x k) := hk x
theorem q5x_b3 {α β : Type} {Q : β → Prop} {I0 : Iv} {x : α × Iv × Jv} {k : α → Iv → Jv → β} (hx : Qe3 I0 x) (hk : ∀ r I J, KI5 I0 I → Q (k r I J)) : Q (b_n3 x k) := hk _ _ _ hx
theorem q5x_b2 {β : Type} {Q : β → Prop} {I0 : Iv} {x : Iv × Jv} {k : Iv → Jv → β} (hx : Qe2 I0 x) (hk : ∀ I J, KI5 I0 I → Q (k I J)) : Q (b_n2 x k) := hk _ _ hx
theorem q5x_jn {α β : Type} {Q : β → Prop} {P : α → Prop} {x : α} {k : α → β} (hx : P x) (hk : ∀ j, P j → Q (k j)) : Q (j_n x k) := hk x hx


theorem fr5_fn_X10_in {I0 : Iv} (x : Int64) (low : Int64) (high : Int64) (I : Iv) (hI : KI5 I0 I) (J : Jv) : Qe3 I0 (fn_X10_in x low high I J) := by
  unfold fn_X10_in
  exact (q5x_ite hI (q5x_ite hI hI))
theorem fr5_fn_X10_one {I0 : Iv} (x : Int32) (I : Iv) (hI : KI5 I0 I) (J : Jv) : Qe3 I0 (fn_X10_one x I J) := by
  unfold fn_X10_one
  exact (q5x_ite hI hI)
theorem fr5_fn_X10_has {I0 : Iv} (set : Int64) (k : Int32) (I : Iv) (hI : KI5 I0 I) (J : Jv) : Qe3 I0 (fn_X10_has set k I J) := by
  unfold fn_X10_has
  exact (q5x_ite hI hI)
theorem fr5_fl_X10_ones_4_0 {I0 : Iv} (I : Iv) (J : Jv) (set : Int32) (Kf0 : Int32 → Int32 → Int32 × Iv × Jv) (hI : KI5 I0 I) (hKf0 : ∀ (a1 : Int32) (a2 : Int32), Qe3 I0 (Kf0 a1 a2)) : ∀ (fu : Nat) (x1 : Int32) (x2 : Int32), Qe3 I0 (fl_X10_ones_4_0 I J set Kf0 fu x1 x2) := by
  intro fu
  induction fu with
  | zero =>
    intro x1 x2
    rw [fl_X10_ones_4_0.eq_1]
    exact hI
  | succ kf0 ih =>
    intro x1 x2
    rw [fl_X10_ones_4_0.eq_2]
    exact (q5x_ite (hKf0 x1 x2) (q5x_lt (fun v4 => (ih v4 (x2 + (1 : Int32))))))
theorem fr5_fn_X10_ones {I0 : Iv} (set : Int32) (I : Iv) (hI : KI5 I0 I) (J : Jv) : Qe3 I0 (fn_X10_ones set I J) := by
  unfold fn_X10_ones
  exact (fr5_fl_X10_ones_4_0 I J set (fun (x1 : Int32) (x2 : Int32) => (x1, I, J)) hI (fun x1 x2 => hI) (mU (16 : Int32) ((0 : Int32)) + 1) (0 : Int32) (0 : Int32))
theorem fr5_fn_X10_couldBe {I0 : Iv} (set : Int32) (I : Iv) (hI : KI5 I0 I) (J : Jv) : Qe3 I0 (fn_X10_couldBe set I J) := by
  unfold fn_X10_couldBe
  exact (q5x_b3 (fr5_fn_X10_ones set I hI J) (fun r6 _ _ h3 => (q5x_ite hI hI)))
theorem fr5_fn_X10_untold {I0 : Iv} (x : Int32) (I : Iv) (hI : KI5 I0 I) (J : Jv) : Qe3 I0 (fn_X10_untold x I J) := by
  unfold fn_X10_untold
  exact (q5x_ite hI (q5x_lt (fun sw0 => (q5x_ite hI (q5x_ite hI (q5x_ite hI (q5x_ite hI (q5x_ite hI (q5x_ite hI (q5x_ite hI (q5x_ite hI (q5x_ite hI (q5x_ite hI (q5x_ite hI (q5x_ite hI (q5x_ite hI (q5x_ite hI (q5x_ite hI hI))))))))))))))))))
theorem fr5_fn_X10_leastOf {I0 : Iv} (x : Int32) (I : Iv) (hI : KI5 I0 I) (J : Jv) : Qe3 I0 (fn_X10_leastOf x I J) := by
  unfold fn_X10_leastOf
  exact (q5x_ite hI (q5x_ite hI (q5x_ite hI hI)))
theorem fr5_fn_X10_mostOf {I0 : Iv} (x : Int32) (I : Iv) (hI : KI5 I0 I) (J : Jv) : Qe3 I0 (fn_X10_mostOf x I J) := by
  unfold fn_X10_mostOf
  exact (q5x_ite hI (q5x_ite hI (q5x_ite hI (q5x_ite hI (q5x_ite hI hI)))))
theorem fr5_fn_X10_isSet {I0 : Iv} (x : Int32) (I : Iv) (hI : KI5 I0 I) (J : Jv) : Qe3 I0 (fn_X10_isSet x I J) := by
  unfold fn_X10_isSet
  exact (q5x_b3 (fr5_fn_X10_in (Int32.toInt64 x) (0 : Int64) (127 : Int64) I hI J) (fun r6 _ _ h4 => hI))
theorem fr5_fn_X10_isTrouble {I0 : Iv} (x : Int32) (I : Iv) (hI : KI5 I0 I) (J : Jv) : Qe3 I0 (fn_X10_isTrouble x I J) := by
  unfold fn_X10_isTrouble
  exact (q5x_b3 (fr5_fn_X10_in (Int32.toInt64 x) (0 : Int64) (6 : Int64) I hI J) (fun r6 _ _ h5 => hI))
theorem fr5_fn_X10_isSign {I0 : Iv} (x : Int32) (I : Iv) (hI : KI5 I0 I) (J : Jv) : Qe3 I0 (fn_X10_isSign x I J) := by
  unfold fn_X10_isSign
  exact (q5x_b3 (fr5_fn_X10_in (Int32.toInt64 x) (0 : Int64) (6 : Int64) I hI J) (fun r6 _ _ h6 => hI))
theorem fr5_fn_X10_isShelf {I0 : Iv} (x : Int32) (I : Iv) (hI : KI5 I0 I) (J : Jv) : Qe3 I0 (fn_X10_isShelf x I J) := by
  unfold fn_X10_isShelf
  exact (q5x_b3 (fr5_fn_X10_in (Int32.toInt64 x) (0 : Int64) (2 : Int64) I hI J) (fun r6 _ _ h7 => hI))
theorem fr5_fn_X10_isDegree {I0 : Iv} (x : Int32) (I : Iv) (hI : KI5 I0 I) (J : Jv) : Qe3 I0 (fn_X10_isDegree x I J) := by
  unfold fn_X10_isDegree
  exact (q5x_b3 (fr5_fn_X10_in (Int32.toInt64 x) (-3000 : Int64) (9000 : Int64) I hI J) (fun r6 _ _ h8 => hI))
theorem fr5_fn_X10_areDays {I0 : Iv} (x : Int32) (I : Iv) (hI : KI5 I0 I) (J : Jv) : Qe3 I0 (fn_X10_areDays x I J) := by
  unfold fn_X10_areDays
  exact (q5x_b3 (fr5_fn_X10_in (Int32.toInt64 x) (1 : Int64) (6 : Int64) I hI J) (fun r6 _ _ h9 => hI))
theorem fr5_fn_X10_isHour {I0 : Iv} (tick : Int64) (from_ : Int32) (till : Int32) (I : Iv) (hI : KI5 I0 I) (J : Jv) : Qe3 I0 (fn_X10_isHour tick from_ till I J) := by
  unfold fn_X10_isHour
  exact (q5x_lt (fun v1 => (q5x_ite hI (q5x_ite hI (q5x_ite hI hI)))))
theorem fr5_fl_X10_isOpen_12_0 {I0 : Iv} (I : Iv) (J : Jv) (v1 : Int64) (Kf0 : Int32 → Int32 → Int32 × Iv × Jv) (hI : KI5 I0 I) (hKf0 : ∀ (a10 : Int32) (a11 : Int32), Qe3 I0 (Kf0 a10 a11)) : ∀ (fu : Nat) (x2 : Int32) (x3 : Int32), Qe3 I0 (fl_X10_isOpen_12_0 I J v1 Kf0 fu x2 x3) := by
  intro fu
  induction fu with
  | zero =>
    intro x2 x3
    rw [fl_X10_isOpen_12_0.eq_1]
    exact hI
  | succ kf0 ih =>
    intro x2 x3
    rw [fl_X10_isOpen_12_0.eq_2]
    exact (q5x_ite (hKf0 x2 x3) (q5x_ite (q5x_b3 (fr5_fn_X10_in v1 (Int32.toInt64 (I 83 x3.toNatClampNeg)) (Int32.toInt64 (((I 83 x3.toNatClampNeg) + (I 84 x3.toNatClampNeg)) - (1 : Int32))) I hI J) (fun r10 _ _ h12 => (q5x_ite (ih (0 : Int32) (x3 + (1 : Int32))) (ih (1 : Int32) (x3 + (1 : Int32)))))) (ih (1 : Int32) (x3 + (1 : Int32)))))
theorem fr5_fn_X10_isOpen {I0 : Iv} (tick : Int64) (I : Iv) (hI : KI5 I0 I) (J : Jv) : Qe3 I0 (fn_X10_isOpen tick I J) := by
  unfold fn_X10_isOpen
  exact (q5x_lt (fun v1 => (fr5_fl_X10_isOpen_12_0 I J v1 (fun (x2 : Int32) (x3 : Int32) => (x2, I, J)) hI (fun x2 x3 => hI) (mU (I 78 5) ((0 : Int32)) + 1) (0 : Int32) (0 : Int32))))
theorem fr5_fn_X10_capOf {I0 : Iv} (x : Int32) (cell : Int32) (I : Iv) (hI : KI5 I0 I) (J : Jv) : Qe3 I0 (fn_X10_capOf x cell I J) := by
  unfold fn_X10_capOf
  exact (q5x_ite (q5x_ite hI hI) hI)
theorem fr5_fn_X10_warm {I0 : Iv} (x : Int32) (cell : Int32) (I : Iv) (hI : KI5 I0 I) (J : Jv) : Qe3 I0 (fn_X10_warm x cell I J) := by
  unfold fn_X10_warm
  exact (q5x_b3 (fr5_fn_X10_capOf x cell I hI J) (fun r6 _ _ h13 => hI))
theorem fr5_fn_X10_isWithin {I0 : Iv} (x : Int32) (f : Int32) (I : Iv) (hI : KI5 I0 I) (J : Jv) : Qe3 I0 (fn_X10_isWithin x f I J) := by
  unfold fn_X10_isWithin
  exact (q5x_b3 (fr5_fn_X10_warm x ((4 : Int32) + f) I hI J) (fun r6 _ _ h14 => (q5x_b3 (fr5_fn_X10_in r6 (J 79 (((x + (36 : Int32)) + f)).toNatClampNeg) (J 79 (((x + (44 : Int32)) + f)).toNatClampNeg) I hI J) (fun r13 _ _ h15 => hI))))
theorem fr5_fn_X10_isFood {I0 : Iv} (f : Int32) (I : Iv) (hI : KI5 I0 I) (J : Jv) : Qe3 I0 (fn_X10_isFood f I J) := by
  unfold fn_X10_isFood
  exact (q5x_b3 (fr5_fn_X10_in (Int32.toInt64 f) (0 : Int64) (7 : Int64) I hI J) (fun r6 _ _ h16 => (q5x_ite hI (q5x_ite hI hI))))
theorem fr5_fl_X10_seens_4_0 {I0 : Iv} (I : Iv) (J : Jv) (Kf0 : Int32 → Int32 → Int32 × Iv × Jv) (hI : KI5 I0 I) (hKf0 : ∀ (a17 : Int32) (a18 : Int32), Qe3 I0 (Kf0 a17 a18)) : ∀ (fu : Nat) (x1 : Int32) (x2 : Int32), Qe3 I0 (fl_X10_seens_4_0 I J Kf0 fu x1 x2) := by
  intro fu
  induction fu with
  | zero =>
    intro x1 x2
    rw [fl_X10_seens_4_0.eq_1]
    exact hI
  | succ kf0 ih =>
    intro x1 x2
    rw [fl_X10_seens_4_0.eq_2]
    exact (q5x_ite (hKf0 x1 x2) (q5x_b3 (fr5_fn_X10_one (I 91 x2.toNatClampNeg) I hI J) (fun r9 _ _ h19 => (q5x_lt (fun v11 => (ih v11 (x2 + (1 : Int32))))))))
theorem fr5_fn_X10_seens {I0 : Iv} (I : Iv) (hI : KI5 I0 I) (J : Jv) : Qe3 I0 (fn_X10_seens I J) := by
  unfold fn_X10_seens
  exact (fr5_fl_X10_seens_4_0 I J (fun (x1 : Int32) (x2 : Int32) => (x1, I, J)) hI (fun x1 x2 => hI) (mU (7 : Int32) ((0 : Int32)) + 1) (0 : Int32) (0 : Int32))
theorem fr5_fl_X10_foods_4_0 {I0 : Iv} (I : Iv) (J : Jv) (Kf0 : Int32 → Int32 → Int32 × Iv × Jv) (hI : KI5 I0 I) (hKf0 : ∀ (a20 : Int32) (a21 : Int32), Qe3 I0 (Kf0 a20 a21)) : ∀ (fu : Nat) (x1 : Int32) (x2 : Int32), Qe3 I0 (fl_X10_foods_4_0 I J Kf0 fu x1 x2) := by
  intro fu
  induction fu with
  | zero =>
    intro x1 x2
    rw [fl_X10_foods_4_0.eq_1]
    exact hI
  | succ kf0 ih =>
    intro x1 x2
    rw [fl_X10_foods_4_0.eq_2]
    exact (q5x_ite (hKf0 x1 x2) (q5x_lt (fun v4 => (ih v4 (x2 + (1 : Int32))))))
theorem fr5_fn_X10_foods {I0 : Iv} (I : Iv) (hI : KI5 I0 I) (J : Jv) : Qe3 I0 (fn_X10_foods I J) := by
  unfold fn_X10_foods
  exact (fr5_fl_X10_foods_4_0 I J (fun (x1 : Int32) (x2 : Int32) => (x1, I, J)) hI (fun x1 x2 => hI) (mU (8 : Int32) ((0 : Int32)) + 1) (0 : Int32) (0 : Int32))
theorem fr5_fn_X10_moves {I0 : Iv} (x : Int32) (room : Int64) (I : Iv) (hI : KI5 I0 I) (J : Jv) : Qe3 I0 (fn_X10_moves x room I J) := by
  unfold fn_X10_moves
  exact (q5x_lt (fun v1 => (q5x_b3 (fr5_fn_X10_has (J 79 (x.toNatClampNeg + 52)) (2 : Int32) I hI J) (fun r7 _ _ h22 => (q5x_jn (P := fun (j : Int64 → Int64 × Iv × Jv) => ∀ (a23 : Int64), Qe3 I0 (j a23)) (fun w9 => (q5x_lt (fun v10 => (q5x_b3 (fr5_fn_X10_has (J 79 (x.toNatClampNeg + 52)) (3 : Int32) I hI J) (fun r16 _ _ h24 => (q5x_jn (P := fun (j : Int64 → Int64 × Iv × Jv) => ∀ (a25 : Int64), Qe3 I0 (j a25)) (fun w18 => (q5x_lt (fun v19 => (q5x_b3 (fr5_fn_X10_warm x (3 : Int32) I hI J) (fun r25 _ _ h26 => (q5x_lt (fun v27 => (q5x_ite hI hI)))))))) (fun j76_1 j27 => (q5x_ite (j27 ((0 : Int64))) (j27 (((v10 * (45 : Int64)) / (100 : Int64)))))))))))) (fun j41_0 j28 => (q5x_ite (j28 ((0 : Int64))) (j28 (((v1 * (50 : Int64)) / (100 : Int64)))))))))))
theorem fr5_fn_X10_wet {I0 : Iv} (x : Int32) (came : Int64) (I : Iv) (hI : KI5 I0 I) (J : Jv) : Qe2 I0 (fn_X10_wet x came I J) := by
  unfold fn_X10_wet
  exact (q5x_lt (fun J1 => (q5x_b3 (fr5_fn_X10_warm x (3 : Int32) I hI J1) (fun r8 _ _ h29 => (q5x_ite (q5x_lt (fun J10 => (q5x_lt (fun v12 => (q5x_jn (P := fun (j : Int64 → Iv × Jv) => ∀ (a30 : Int64), Qe2 I0 (j a30)) (fun w13 => (q5x_lt (fun J14 => (q5x_lt (fun J16 => hI))))) (fun j145_0 j31 => (q5x_ite (j31 v12) (j31 ((J10 79 (x.toNatClampNeg + 53))))))))))) (q5x_lt (fun v18 => (q5x_jn (P := fun (j : Int64 → Iv × Jv) => ∀ (a32 : Int64), Qe2 I0 (j a32)) (fun w19 => (q5x_lt (fun J20 => (q5x_lt (fun J22 => hI))))) (fun j60_1 j33 => (q5x_ite (j33 ((0 : Int64))) (j33 ((v18 - (9999 : Int64))))))))))))))
theorem fr5_fn_X10_readBulb {I0 : Iv} (x : Int32) (shelf : Int32) (less : Int32) (I : Iv) (hI : KI5 I0 I) (J : Jv) : Qe2 I0 (fn_X10_readBulb x shelf less I J) := by
  unfold fn_X10_readBulb
  exact (q5x_b3 (fr5_fn_X10_warm x shelf I hI J) (fun r6 _ _ h34 => (q5x_lt (fun v8 => (q5x_jn (P := fun (j : Int64 → Iv × Jv) => ∀ (a35 : Int64), Qe2 I0 (j a35)) (fun w9 => (q5x_lt (fun J10 => (q5x_jn (P := fun (j : Int32 → Iv × Jv) => ∀ (a36 : Int32), Qe2 I0 (j a36)) (fun w12 => (q5x_jn (P := fun (j : Int32 → Iv × Jv) => ∀ (a37 : Int32), Qe2 I0 (j a37)) (fun w13 => (q5x_jn (P := fun (j : Int32 → Iv × Jv) => ∀ (a38 : Int32), Qe2 I0 (j a38)) (fun w14 => (q5x_jn (P := fun (j : Int32 → Iv × Jv) => ∀ (a39 : Int32), Qe2 I0 (j a39)) (fun w15 => (q5x_jn (P := fun (j : Int32 → Iv × Jv) => ∀ (a40 : Int32), Qe2 I0 (j a40)) (fun w16 => (q5x_b3 (fr5_fn_X10_one w16 I hI J10) (fun r22 _ _ h41 => (q5x_lt (fun J24 => (q5x_jn (P := fun (j : Int32 → Iv × Jv) => ∀ (a42 : Int32), Qe2 I0 (j a42)) (fun w26 => (q5x_b3 (fr5_fn_X10_one w26 I hI J24) (fun r32 _ _ h43 => (q5x_lt (fun J34 => (q5x_b3 (fr5_fn_X10_one w16 I hI J34) (fun r41 _ _ h44 => (q5x_lt (fun J43 => hI))))))))) (fun j247_6 j45 => (q5x_jn (P := Qe2 I0) (j45 ((0 : Int32))) (fun j246_7 j46 => (q5x_ite j46 (q5x_ite (j45 ((1 : Int32))) j46))))))))))) (fun j205_5 j47 => (q5x_jn (P := Qe2 I0) (j47 ((1 : Int32))) (fun j200_8 j48 => (q5x_ite (q5x_jn (P := Qe2 I0) (j47 ((0 : Int32))) (fun j204_9 j49 => (q5x_ite (q5x_ite j49 j48) j49))) j48)))))) (fun j183_4 j50 => (q5x_jn (P := Qe2 I0) (j50 ((1 : Int32))) (fun j178_10 j51 => (q5x_ite j51 (q5x_ite (j50 ((0 : Int32))) j51))))))) (fun j151_3 j52 => (q5x_jn (P := Qe2 I0) (j52 ((0 : Int32))) (fun j150_11 j53 => (q5x_ite j53 (q5x_b3 (fr5_fn_X10_has (J10 79 (x.toNatClampNeg + 52)) (4 : Int32) I hI J10) (fun r50 _ _ h54 => (q5x_jn (P := Qe2 I0) (j52 ((1 : Int32))) (fun j146_12 j55 => (q5x_ite (q5x_ite j53 j55) j55))))))))))) (fun j103_2 j56 => (q5x_ite (j56 ((1 : Int32))) (j56 ((0 : Int32))))))) (fun j82_1 j57 => (q5x_ite (j57 ((1 : Int32))) (j57 ((0 : Int32))))))))) (fun j50_0 j58 => (q5x_ite (j58 ((v8 + ((r6 - v8) / (8 : Int64))))) (j58 r6))))))))
theorem fr5_fl_X10_findFlows_225_3 {I0 : Iv} (I : Iv) (x : Int32) (Kf3 : Int32 → Jv → Iv × Jv) (hI : KI5 I0 I) (hKf3 : ∀ (a59 : Int32) (a60 : Jv), Qe2 I0 (Kf3 a59 a60)) : ∀ (fu : Nat) (x32 : Int32) (J33 : Jv), Qe2 I0 (fl_X10_findFlows_225_3 I x Kf3 fu x32 J33) := by
  intro fu
  induction fu with
  | zero =>
    intro x32 J33
    rw [fl_X10_findFlows_225_3.eq_1]
    exact hI
  | succ kf3 ih =>
    intro x32 J33
    rw [fl_X10_findFlows_225_3.eq_2]
    exact (q5x_ite (hKf3 x32 J33) (q5x_ite (q5x_lt (fun v36 => (q5x_b3 (fr5_fn_X10_warm x v36 I hI J33) (fun r42 _ _ h61 => (q5x_b3 (fr5_fn_X10_warm x ((4 : Int32) + x32) I hI J33) (fun r49 _ _ h62 => (q5x_lt (fun v51 => (q5x_lt (fun J52 => (q5x_lt (fun J54 => (ih (x32 + (1 : Int32)) J54))))))))))))) (ih (x32 + (1 : Int32)) J33)))
theorem fr5_fl_X10_findFlows_86_2 {I0 : Iv} (I : Iv) (x : Int32) (Kf2 : Int32 → Jv → Iv × Jv) (hI : KI5 I0 I) (hKf2 : ∀ (a63 : Int32) (a64 : Jv), Qe2 I0 (Kf2 a63 a64)) : ∀ (fu : Nat) (x9 : Int32) (J10 : Jv), Qe2 I0 (fl_X10_findFlows_86_2 I x Kf2 fu x9 J10) := by
  intro fu
  induction fu with
  | zero =>
    intro x9 J10
    rw [fl_X10_findFlows_86_2.eq_1]
    exact hI
  | succ kf2 ih =>
    intro x9 J10
    rw [fl_X10_findFlows_86_2.eq_2]
    exact (q5x_ite (hKf2 x9 J10) (q5x_b3 (fr5_fn_X10_warm x x9 I hI J10) (fun r61 _ _ h65 => (q5x_b3 (fr5_fn_X10_warm x (x9 + (1 : Int32)) I hI J10) (fun r68 _ _ h66 => (q5x_lt (fun v70 => (q5x_lt (fun J71 => (q5x_lt (fun J73 => (ih (x9 + (1 : Int32)) J73))))))))))))
theorem fr5_fl_X10_findFlows_27_1 {I0 : Iv} (I : Iv) (x : Int32) (room : Int64) (gap : Int64) (Kf1 : Int32 → Jv → Iv × Jv) (hI : KI5 I0 I) (hKf1 : ∀ (a67 : Int32) (a68 : Jv), Qe2 I0 (Kf1 a67 a68)) : ∀ (fu : Nat) (x5 : Int32) (J6 : Jv), Qe2 I0 (fl_X10_findFlows_27_1 I x room gap Kf1 fu x5 J6) := by
  intro fu
  induction fu with
  | zero =>
    intro x5 J6
    rw [fl_X10_findFlows_27_1.eq_1]
    exact hI
  | succ kf1 ih =>
    intro x5 J6
    rw [fl_X10_findFlows_27_1.eq_2]
    exact (q5x_ite (hKf1 x5 J6) (q5x_b3 (fr5_fn_X10_warm x x5 I hI J6) (fun r80 _ _ h69 => (q5x_lt (fun v82 => (q5x_lt (fun J83 => (q5x_lt (fun J85 => (ih (x5 + (1 : Int32)) J85))))))))))
theorem fr5_fl_X10_findFlows_3_0 {I0 : Iv} (I : Iv) (Kf0 : Int32 → Jv → Iv × Jv) (hI : KI5 I0 I) (hKf0 : ∀ (a70 : Int32) (a71 : Jv), Qe2 I0 (Kf0 a70 a71)) : ∀ (fu : Nat) (x1 : Int32) (J2 : Jv), Qe2 I0 (fl_X10_findFlows_3_0 I Kf0 fu x1 J2) := by
  intro fu
  induction fu with
  | zero =>
    intro x1 J2
    rw [fl_X10_findFlows_3_0.eq_1]
    exact hI
  | succ kf0 ih =>
    intro x1 J2
    rw [fl_X10_findFlows_3_0.eq_2]
    exact (q5x_ite (hKf0 x1 J2) (q5x_lt (fun J87 => (ih (x1 + (1 : Int32)) J87))))
theorem fr5_fn_X10_findFlows {I0 : Iv} (x : Int32) (room : Int64) (gap : Int64) (I : Iv) (hI : KI5 I0 I) (J : Jv) : Qe2 I0 (fn_X10_findFlows x room gap I J) := by
  unfold fn_X10_findFlows
  exact (fr5_fl_X10_findFlows_3_0 I (fun (x1 : Int32) (J2 : Jv) => fl_X10_findFlows_27_1 I x room gap (fun (x5 : Int32) (J6 : Jv) => fl_X10_findFlows_86_2 I x (fun (x9 : Int32) (J10 : Jv) => b_n3 (fn_X10_warm x (0 : Int32) I J10) (fun (r18 : Int64) (_ : Iv) (_ : Jv) => b_n3 (fn_X10_warm x (3 : Int32) I J10) (fun (r25 : Int64) (_ : Iv) (_ : Jv) => l_t ((((((Int32.toInt64 (I 81 4)) * (r18 - r25)) / (100 : Int64)) * (1000 : Int64)) / ((1000 : Int64) + (J10 79 (x.toNatClampNeg + 53))))) (fun (v27 : Int64) => l_t (wJ J10 88 0 ((J10 88 0) - v27)) (fun (J28 : Jv) => l_t (wJ J28 88 3 ((J28 88 3) + v27)) (fun (J30 : Jv) => fl_X10_findFlows_225_3 I x (fun (x32 : Int32) (J33 : Jv) => (I, J33)) (mU (8 : Int32) ((0 : Int32)) + 1) (0 : Int32) J30)))))) (mU (2 : Int32) ((0 : Int32)) + 1) (0 : Int32) J6) (mU (3 : Int32) ((0 : Int32)) + 1) (0 : Int32) J2) hI (fun x1 J2 => (fr5_fl_X10_findFlows_27_1 I x room gap (fun (x5 : Int32) (J6 : Jv) => fl_X10_findFlows_86_2 I x (fun (x9 : Int32) (J10 : Jv) => b_n3 (fn_X10_warm x (0 : Int32) I J10) (fun (r18 : Int64) (_ : Iv) (_ : Jv) => b_n3 (fn_X10_warm x (3 : Int32) I J10) (fun (r25 : Int64) (_ : Iv) (_ : Jv) => l_t ((((((Int32.toInt64 (I 81 4)) * (r18 - r25)) / (100 : Int64)) * (1000 : Int64)) / ((1000 : Int64) + (J10 79 (x.toNatClampNeg + 53))))) (fun (v27 : Int64) => l_t (wJ J10 88 0 ((J10 88 0) - v27)) (fun (J28 : Jv) => l_t (wJ J28 88 3 ((J28 88 3) + v27)) (fun (J30 : Jv) => fl_X10_findFlows_225_3 I x (fun (x32 : Int32) (J33 : Jv) => (I, J33)) (mU (8 : Int32) ((0 : Int32)) + 1) (0 : Int32) J30)))))) (mU (2 : Int32) ((0 : Int32)) + 1) (0 : Int32) J6) hI (fun x5 J6 => (fr5_fl_X10_findFlows_86_2 I x (fun (x9 : Int32) (J10 : Jv) => b_n3 (fn_X10_warm x (0 : Int32) I J10) (fun (r18 : Int64) (_ : Iv) (_ : Jv) => b_n3 (fn_X10_warm x (3 : Int32) I J10) (fun (r25 : Int64) (_ : Iv) (_ : Jv) => l_t ((((((Int32.toInt64 (I 81 4)) * (r18 - r25)) / (100 : Int64)) * (1000 : Int64)) / ((1000 : Int64) + (J10 79 (x.toNatClampNeg + 53))))) (fun (v27 : Int64) => l_t (wJ J10 88 0 ((J10 88 0) - v27)) (fun (J28 : Jv) => l_t (wJ J28 88 3 ((J28 88 3) + v27)) (fun (J30 : Jv) => fl_X10_findFlows_225_3 I x (fun (x32 : Int32) (J33 : Jv) => (I, J33)) (mU (8 : Int32) ((0 : Int32)) + 1) (0 : Int32) J30)))))) hI (fun x9 J10 => (q5x_b3 (fr5_fn_X10_warm x (0 : Int32) I hI J10) (fun r18 _ _ h72 => (q5x_b3 (fr5_fn_X10_warm x (3 : Int32) I hI J10) (fun r25 _ _ h73 => (q5x_lt (fun v27 => (q5x_lt (fun J28 => (q5x_lt (fun J30 => (fr5_fl_X10_findFlows_225_3 I x (fun (x32 : Int32) (J33 : Jv) => (I, J33)) hI (fun x32 J33 => hI) (mU (8 : Int32) ((0 : Int32)) + 1) (0 : Int32) J30)))))))))))) (mU (2 : Int32) ((0 : Int32)) + 1) (0 : Int32) J6)) (mU (3 : Int32) ((0 : Int32)) + 1) (0 : Int32) J2)) (mU (12 : Int32) ((0 : Int32)) + 1) (0 : Int32) J)
theorem fr5_fl_X10_tick_230_6 {I0 : Iv} (I : Iv) (x : Int32) (Kf6 : Int32 → Jv → Iv × Jv) (hI : KI5 I0 I) (hKf6 : ∀ (a74 : Int32) (a75 : Jv), Qe2 I0 (Kf6 a74 a75)) : ∀ (fu : Nat) (x45 : Int32) (J46 : Jv), Qe2 I0 (fl_X10_tick_230_6 I x Kf6 fu x45 J46) := by
  intro fu
  induction fu with
  | zero =>
    intro x45 J46
    rw [fl_X10_tick_230_6.eq_1]
    exact hI
  | succ kf6 ih =>
    intro x45 J46
    rw [fl_X10_tick_230_6.eq_2]
    exact (q5x_ite (hKf6 x45 J46) (q5x_lt (fun J74 => (ih (x45 + (1 : Int32)) J74))))
theorem fr5_fn_X10_tick {I0 : Iv} (x : Int32) (open_ : Int32) (shelf : Int32) (less : Int32) (I : Iv) (hI : KI5 I0 I) (J : Jv) : Qe2 I0 (fn_X10_tick x open_ shelf less I J) := by
  unfold fn_X10_tick
  exact (q5x_lt (fun v1 => (q5x_lt (fun v2 => (q5x_b3 (fr5_fn_X10_isHour v2 (I 81 12) (I 81 13) I hI J) (fun r8 _ _ h76 => (q5x_jn (P := fun (j : Int64 → Iv × Jv) => ∀ (a77 : Int64), Qe2 I0 (j a77)) (fun w10 => (q5x_b3 (fr5_fn_X10_has v1 (6 : Int32) I hI J) (fun r16 _ _ h78 => (q5x_jn (P := fun (j : Int64 → Iv × Jv) => ∀ (a79 : Int64), Qe2 I0 (j a79)) (fun w18 => (q5x_lt (fun v19 => (q5x_jn (P := fun (j : Int32 → Iv × Jv) => ∀ (a80 : Int32), Qe2 I0 (j a80)) (fun w20 => (q5x_b2 (fr5_fn_X10_readBulb x shelf less I hI J) (fun _ J21 h81 => (q5x_b3 (fr5_fn_X10_has v1 (0 : Int32) I hI J21) (fun r33 _ _ h82 => (q5x_jn (P := fun (j : Int64 → Iv × Jv) => ∀ (a83 : Int64), Qe2 I0 (j a83)) (fun w35 => (q5x_jn (P := fun (j : Int64 → Iv × Jv) => ∀ (a84 : Int64), Qe2 I0 (j a84)) (fun w36 => (q5x_b2 (fr5_fn_X10_findFlows x v19 (((Int32.toInt64 (I 81 1)) + w35) + w36) I hI J21) (fun _ J37 h85 => (q5x_jn (P := fun (j : Int64 → Iv × Jv) => ∀ (a86 : Int64), Qe2 I0 (j a86)) (fun w44 => (fr5_fl_X10_tick_230_6 I x (fun (x45 : Int32) (J46 : Jv) => j_n (fun (J49 : Jv) => l_t (wJ J49 79 (x.toNatClampNeg + 3) ((J49 79 (x.toNatClampNeg + 3)) - w44)) (fun (J51 : Jv) => l_t (wJ J51 79 (x.toNatClampNeg + 58) ((J51 79 (x.toNatClampNeg + 58)) + w44)) (fun (J53 : Jv) => j_n (fun (w55 : Int64) => l_t (wJ J53 79 (x.toNatClampNeg + 63) ((J53 79 (x.toNatClampNeg + 63)) + w55)) (fun (J56 : Jv) => j_n (fun (w58 : Int64) => b_n2 (fn_X10_wet x (w35 + w58) I J56) (fun (_ : Iv) (J59 : Jv) => l_t (wJ J59 79 (x.toNatClampNeg + 54) ((J59 79 (x.toNatClampNeg + 54)) + (1 : Int64))) (fun (J66 : Jv) => (I, J66)))) (fun (j412_9 : Int64 → Iv × Jv) => if open_ = 0 then j412_9 ((0 : Int64)) else j412_9 ((20 : Int64))))) (fun (j395_8 : Int64 → Iv × Jv) => if (J53 79 (x.toNatClampNeg + 66)) = (1 : Int64) then j395_8 ((Int32.toInt64 (I 81 9))) else j395_8 ((0 : Int64)))))) (fun (j332_7 : Jv → Iv × Jv) => if w20 = 0 then j332_7 J46 else l_t (wJ J46 79 (x.toNatClampNeg) ((J46 79 x.toNatClampNeg) + ((5 : Int64) * (Int32.toInt64 (I 81 10))))) (fun (J68 : Jv) => l_t (wJ J68 79 (x.toNatClampNeg + 57) ((J68 79 (x.toNatClampNeg + 57)) + ((5 : Int64) * (Int32.toInt64 (I 81 10))))) (fun (J70 : Jv) => l_t (wJ J70 79 (x.toNatClampNeg + 63) ((J70 79 (x.toNatClampNeg + 63)) + (Int32.toInt64 (I 81 10)))) (fun (J72 : Jv) => j332_7 J72))))) hI (fun x45 J46 => (q5x_jn (P := fun (j : Jv → Iv × Jv) => ∀ (a87 : Jv), Qe2 I0 (j a87)) (fun J49 => (q5x_lt (fun J51 => (q5x_lt (fun J53 => (q5x_jn (P := fun (j : Int64 → Iv × Jv) => ∀ (a88 : Int64), Qe2 I0 (j a88)) (fun w55 => (q5x_lt (fun J56 => (q5x_jn (P := fun (j : Int64 → Iv × Jv) => ∀ (a89 : Int64), Qe2 I0 (j a89)) (fun w58 => (q5x_b2 (fr5_fn_X10_wet x (w35 + w58) I hI J56) (fun _ J59 h90 => (q5x_lt (fun J66 => hI))))) (fun j412_9 j91 => (q5x_ite (j91 ((0 : Int64))) (j91 ((20 : Int64))))))))) (fun j395_8 j92 => (q5x_ite (j92 ((Int32.toInt64 (I 81 9)))) (j92 ((0 : Int64))))))))))) (fun j332_7 j93 => (q5x_ite (j93 J46) (q5x_lt (fun J68 => (q5x_lt (fun J70 => (q5x_lt (fun J72 => (j93 J72))))))))))) (mU (12 : Int32) ((0 : Int32)) + 1) (0 : Int32) J37)) (fun j225_5 j94 => (q5x_ite (q5x_b3 (fr5_fn_X10_moves x v19 I hI J37) (fun r81 _ _ h95 => (j94 r81))) (j94 ((0 : Int64))))))))) (fun j196_4 j96 => (q5x_ite (j96 ((0 : Int64))) (j96 ((60 : Int64))))))) (fun j169_3 j97 => (q5x_ite (j97 ((Int32.toInt64 (I 81 2)))) (j97 ((((4 : Int64) * (Int32.toInt64 (I 81 2))) + (12 : Int64)))))))))))) (fun j125_2 j98 => (q5x_jn (P := Qe2 I0) (j98 ((0 : Int32))) (fun j124_10 j99 => (q5x_jn (P := Qe2 I0) (q5x_ite (j98 ((1 : Int32))) j99) (fun j106_11 j100 => (q5x_ite (q5x_b3 (fr5_fn_X10_has v1 (5 : Int32) I hI J) (fun r88 _ _ h101 => (q5x_ite j99 j100))) j100)))))))))) (fun j90_1 j102 => (q5x_ite (j102 ((0 : Int64))) (j102 ((800 : Int64))))))))) (fun j72_0 j103 => (q5x_ite (j103 ((0 : Int64))) (j103 (((10 : Int64) * (Int32.toInt64 (I 81 14))))))))))))))
theorem fr5_fl_X10_go_2_0 {I0 : Iv} (I : Iv) (x : Int32) (n : Int32) (Kf0 : Int32 → Jv → Iv × Jv) (hI : KI5 I0 I) (hKf0 : ∀ (a104 : Int32) (a105 : Jv), Qe2 I0 (Kf0 a104 a105)) : ∀ (fu : Nat) (x1 : Int32) (J2 : Jv), Qe2 I0 (fl_X10_go_2_0 I x n Kf0 fu x1 J2) := by
  intro fu
  induction fu with
  | zero =>
    intro x1 J2
    rw [fl_X10_go_2_0.eq_1]
    exact hI
  | succ kf0 ih =>
    intro x1 J2
    rw [fl_X10_go_2_0.eq_2]
    exact (q5x_ite (hKf0 x1 J2) (q5x_b3 (fr5_fn_X10_isOpen (J2 79 (x.toNatClampNeg + 54)) I hI J2) (fun r10 _ _ h106 => (q5x_b2 (fr5_fn_X10_tick x r10 (I 81 8) (0 : Int32) I hI J2) (fun _ J12 h107 => (ih (x1 + (1 : Int32)) J12))))))
theorem fr5_fn_X10_go {I0 : Iv} (x : Int32) (n : Int32) (I : Iv) (hI : KI5 I0 I) (J : Jv) : Qe2 I0 (fn_X10_go x n I J) := by
  unfold fn_X10_go
  exact (fr5_fl_X10_go_2_0 I x n (fun (x1 : Int32) (J2 : Jv) => (I, J2)) hI (fun x1 J2 => hI) (mU n ((0 : Int32)) + 1) (0 : Int32) J)
theorem fr5_fl_X10_here_0_0 {I0 : Iv} (J : Jv) (Kf0 : Iv → Int32 × Iv × Jv) (hKf0 : ∀ (a108 : Iv), KI5 I0 a108 → Qe3 I0 (Kf0 a108)) : ∀ (fu : Nat) (I1 : Iv), KI5 I0 I1 → Qe3 I0 (fl_X10_here_0_0 J Kf0 fu I1) := by
  intro fu
  induction fu with
  | zero =>
    intro I1 hI1
    rw [fl_X10_here_0_0.eq_1]
    exact hI1
  | succ kf0 ih =>
    intro I1 hI1
    rw [fl_X10_here_0_0.eq_2]
    exact (q5x_jn (P := Qe3 I0) (hKf0 I1 hI1) (fun j38_1 j109 => (q5x_ite j109 (q5x_ite (q5x_ltI (kI5_w rfl hI1) (fun I3 h110 => (ih I3 h110))) j109))))
theorem fr5_fn_X10_here {I0 : Iv} (I : Iv) (hI : KI5 I0 I) (J : Jv) : Qe3 I0 (fn_X10_here I J) := by
  unfold fn_X10_here
  exact (fr5_fl_X10_here_0_0 J (fun (I1 : Iv) => if (I1 78 11) ≤ (I1 78 12) then ((-1 : Int32), I1, J) else ((I1 87 ((I1 78 12)).toNatClampNeg), I1, J)) (fun I1 h111 => (q5x_ite h111 h111)) (mU (I 78 11) (I 78 12) + 1) I hI)
theorem fr5_fn_X10_want {I0 : Iv} (good : Int32) (number : Int32) (where_ : Int32) (I : Iv) (hI : KI5 I0 I) (J : Jv) : Qe3 I0 (fn_X10_want good number where_ I J) := by
  unfold fn_X10_want
  exact (q5x_jn (P := fun (j : Iv → Int32 × Iv × Jv) => ∀ (a112 : Iv), KI5 I0 a112 → Qe3 I0 (j a112)) (fun I1 h113 => (q5x_ite h113 h113)) (fun j21_0 j114 => (q5x_ite (q5x_ite (q5x_ltI (kI5_w rfl hI) (fun I3 h115 => (q5x_ltI (kI5_w rfl h115) (fun I5 h116 => (j114 I5 h116))))) (j114 I hI)) (j114 I hI))))
theorem fr5_fl_X10_takeWord_13_0 {I0 : Iv} (J : Jv) (Kf0 : Iv → Iv × Jv) (hKf0 : ∀ (a117 : Iv), KI5 I0 a117 → Qe2 I0 (Kf0 a117)) : ∀ (fu : Nat) (I11 : Iv), KI5 I0 I11 → Qe2 I0 (fl_X10_takeWord_13_0 J Kf0 fu I11) := by
  intro fu
  induction fu with
  | zero =>
    intro I11 hI11
    rw [fl_X10_takeWord_13_0.eq_1]
    exact hI11
  | succ kf0 ih =>
    intro I11 hI11
    rw [fl_X10_takeWord_13_0.eq_2]
    exact (q5x_jn (P := Qe2 I0) (hKf0 I11 hI11) (fun j59_1 j118 => (q5x_ite j118 (q5x_b3 (fr5_fn_X10_in (Int32.toInt64 (I11 87 ((I11 78 12)).toNatClampNeg)) (97 : Int64) (122 : Int64) I11 hI11 J) (fun r20 _ _ h119 => (q5x_ite j118 (q5x_ltI (kI5_w rfl hI11) (fun I22 h120 => (ih I22 h120)))))))))
theorem fr5_fn_X10_takeWord {I0 : Iv} (I : Iv) (hI : KI5 I0 I) (J : Jv) : Qe2 I0 (fn_X10_takeWord I J) := by
  unfold fn_X10_takeWord
  exact (q5x_b3 (fr5_fn_X10_here I hI J) (fun r6 I1 _ h121 => (q5x_ltI (kI5_w rfl h121) (fun I9 h122 => (fr5_fl_X10_takeWord_13_0 J (fun (I11 : Iv) => l_t (wI I11 78 14 ((I11 78 12) - (I11 78 13))) (fun (I13 : Iv) => (I13, J))) (fun I11 h123 => (q5x_ltI (kI5_w rfl h123) (fun I13 h124 => h124))) (mU (I9 78 11) (I9 78 12) + 1) I9 h122)))))
theorem fr5_fl_X10_isWord_18_1 {I0 : Iv} (I : Iv) (J : Jv) (n : Int32) (a : Int32) (b : Int32) (c : Int32) (d : Int32) (e : Int32) (Kf1 : Int32 → Int32 → Int32 × Iv × Jv) (hI : KI5 I0 I) (hKf1 : ∀ (a125 : Int32) (a126 : Int32), Qe3 I0 (Kf1 a125 a126)) : ∀ (fu : Nat) (x2 : Int32) (x3 : Int32), Qe3 I0 (fl_X10_isWord_18_1 I J n a b c d e Kf1 fu x2 x3) := by
  intro fu
  induction fu with
  | zero =>
    intro x2 x3
    rw [fl_X10_isWord_18_1.eq_1]
    exact hI
  | succ kf1 ih =>
    intro x2 x3
    rw [fl_X10_isWord_18_1.eq_2]
    exact (q5x_ite (hKf1 x2 x3) (q5x_ite (hKf1 x2 x3) (q5x_jn (P := fun (j : Int32 → Int32 × Iv × Jv) => ∀ (a127 : Int32), Qe3 I0 (j a127)) (fun w5 => (q5x_ite (ih (1 : Int32) (x3 + (1 : Int32))) (ih (0 : Int32) (x3 + (1 : Int32))))) (fun j84_2 j128 => (q5x_ite (j128 a) (q5x_ite (j128 b) (q5x_ite (j128 c) (q5x_ite (j128 d) (j128 e)))))))))
theorem fr5_fn_X10_isWord {I0 : Iv} (n : Int32) (a : Int32) (b : Int32) (c : Int32) (d : Int32) (e : Int32) (I : Iv) (hI : KI5 I0 I) (J : Jv) : Qe3 I0 (fn_X10_isWord n a b c d e I J) := by
  unfold fn_X10_isWord
  exact (q5x_jn (P := fun (j : Int32 → Int32 × Iv × Jv) => ∀ (a129 : Int32), Qe3 I0 (j a129)) (fun w1 => (fr5_fl_X10_isWord_18_1 I J n a b c d e (fun (x2 : Int32) (x3 : Int32) => (x2, I, J)) hI (fun x2 x3 => hI) (mU n ((0 : Int32)) + 1) w1 (0 : Int32))) (fun j13_0 j130 => (q5x_ite (j130 ((1 : Int32))) (j130 ((0 : Int32))))))
theorem fr5_fn_X10_kindHere {I0 : Iv} (I : Iv) (hI : KI5 I0 I) (J : Jv) : Qe3 I0 (fn_X10_kindHere I J) := by
  unfold fn_X10_kindHere
  exact (q5x_ite (q5x_ite (q5x_b3 (fr5_fn_X10_isWord (5 : Int32) (112 : Int32) (111 : Int32) (119 : Int32) (101 : Int32) (114 : Int32) I hI J) (fun r55 _ _ h131 => (q5x_ite (q5x_b3 (fr5_fn_X10_isWord (5 : Int32) (115 : Int32) (116 : Int32) (111 : Int32) (118 : Int32) (101 : Int32) I hI J) (fun r62 _ _ h132 => (q5x_ite hI hI))) hI))) (q5x_b3 (fr5_fn_X10_isWord (4 : Int32) (119 : Int32) (97 : Int32) (108 : Int32) (108 : Int32) (0 : Int32) I hI J) (fun r6 _ _ h133 => (q5x_ite (q5x_b3 (fr5_fn_X10_isWord (4 : Int32) (115 : Int32) (101 : Int32) (97 : Int32) (108 : Int32) (0 : Int32) I hI J) (fun r13 _ _ h134 => (q5x_ite (q5x_b3 (fr5_fn_X10_isWord (4 : Int32) (99 : Int32) (111 : Int32) (108 : Int32) (100 : Int32) (0 : Int32) I hI J) (fun r20 _ _ h135 => (q5x_ite (q5x_b3 (fr5_fn_X10_isWord (4 : Int32) (102 : Int32) (111 : Int32) (111 : Int32) (100 : Int32) (0 : Int32) I hI J) (fun r27 _ _ h136 => (q5x_ite (q5x_b3 (fr5_fn_X10_isWord (4 : Int32) (98 : Int32) (117 : Int32) (108 : Int32) (98 : Int32) (0 : Int32) I hI J) (fun r34 _ _ h137 => (q5x_ite (q5x_b3 (fr5_fn_X10_isWord (4 : Int32) (108 : Int32) (97 : Int32) (109 : Int32) (112 : Int32) (0 : Int32) I hI J) (fun r41 _ _ h138 => (q5x_ite (q5x_b3 (fr5_fn_X10_isWord (4 : Int32) (114 : Int32) (111 : Int32) (111 : Int32) (109 : Int32) (0 : Int32) I hI J) (fun r48 _ _ h139 => (q5x_ite hI hI))) hI))) hI))) hI))) hI))) hI))) hI)))) (q5x_b3 (fr5_fn_X10_isWord (3 : Int32) (109 : Int32) (105 : Int32) (120 : Int32) (0 : Int32) (0 : Int32) I hI J) (fun r69 _ _ h140 => (q5x_ite (q5x_b3 (fr5_fn_X10_isWord (2 : Int32) (111 : Int32) (110 : Int32) (0 : Int32) (0 : Int32) (0 : Int32) I hI J) (fun r76 _ _ h141 => (q5x_ite (q5x_b3 (fr5_fn_X10_isWord (3 : Int32) (111 : Int32) (102 : Int32) (102 : Int32) (0 : Int32) (0 : Int32) I hI J) (fun r83 _ _ h142 => (q5x_ite (q5x_b3 (fr5_fn_X10_isWord (3 : Int32) (117 : Int32) (115 : Int32) (101 : Int32) (0 : Int32) (0 : Int32) I hI J) (fun r90 _ _ h143 => (q5x_ite hI hI))) hI))) hI))) hI))))
theorem fr5_fl_X10_takeNumber_41_0 {I0 : Iv} (J : Jv) (Kf0 : Int32 → Iv → Int32 × Iv × Jv) (hKf0 : ∀ (a144 : Int32) (a145 : Iv), KI5 I0 a145 → Qe3 I0 (Kf0 a144 a145)) : ∀ (fu : Nat) (x26 : Int32) (I27 : Iv), KI5 I0 I27 → Qe3 I0 (fl_X10_takeNumber_41_0 J Kf0 fu x26 I27) := by
  intro fu
  induction fu with
  | zero =>
    intro x26 I27 hI27
    rw [fl_X10_takeNumber_41_0.eq_1]
    exact hI27
  | succ kf0 ih =>
    intro x26 I27 hI27
    rw [fl_X10_takeNumber_41_0.eq_2]
    exact (q5x_jn (P := Qe3 I0) (hKf0 x26 I27 hI27) (fun j119_1 j146 => (q5x_ite j146 (q5x_b3 (fr5_fn_X10_in (Int32.toInt64 (I27 87 ((I27 78 12)).toNatClampNeg)) (48 : Int64) (57 : Int64) I27 hI27 J) (fun r50 _ _ h147 => (q5x_ite j146 (q5x_jn (P := fun (j : Int32 → Int32 × Iv × Jv) => ∀ (a148 : Int32), Qe3 I0 (j a148)) (fun w52 => (q5x_ltI (kI5_w rfl hI27) (fun I53 h149 => (ih w52 I53 h149)))) (fun j104_4 j150 => (q5x_ite (j150 (((((10 : Int32) * x26) + (I27 87 ((I27 78 12)).toNatClampNeg)) - (48 : Int32)))) (j150 x26))))))))))
theorem fr5_fn_X10_takeNumber {I0 : Iv} (low : Int32) (high : Int32) (I : Iv) (hI : KI5 I0 I) (J : Jv) : Qe3 I0 (fn_X10_takeNumber low high I J) := by
  unfold fn_X10_takeNumber
  exact (q5x_b3 (fr5_fn_X10_here I hI J) (fun r6 I1 _ h151 => (q5x_ltI (kI5_w rfl h151) (fun I9 h152 => (q5x_b3 (fr5_fn_X10_in (Int32.toInt64 r6) (48 : Int64) (57 : Int64) I9 h152 J) (fun r16 _ _ h153 => (q5x_b3 (fr5_fn_X10_want r16 (1 : Int32) (I9 78 12) I9 h152 J) (fun r23 I18 _ h154 => (q5x_ite h154 (fr5_fl_X10_takeNumber_41_0 J (fun (x26 : Int32) (I27 : Iv) => j_n (fun (w29 : Int32) => b_n3 (fn_X10_want w29 (2 : Int32) (I27 78 13) I27 J) (fun (r35 : Int32) (I30 : Iv) (_ : Jv) => (x26, I30, J))) (fun (j151_2 : Int32 → Int32 × Iv × Jv) => j_n (j151_2 ((0 : Int32))) (fun (j150_3 : Int32 × Iv × Jv) => if (4 : Int32) ≤ ((I27 78 12) - (I27 78 13)) then j150_3 else b_n3 (fn_X10_in (Int32.toInt64 x26) (Int32.toInt64 low) (Int32.toInt64 high) I27 J) (fun (r43 : Int32) (_ : Iv) (_ : Jv) => if r43 = 0 then j150_3 else j151_2 ((1 : Int32)))))) (fun x26 I27 h155 => (q5x_jn (P := fun (j : Int32 → Int32 × Iv × Jv) => ∀ (a156 : Int32), Qe3 I0 (j a156)) (fun w29 => (q5x_b3 (fr5_fn_X10_want w29 (2 : Int32) (I27 78 13) I27 h155 J) (fun r35 I30 _ h157 => h157))) (fun j151_2 j158 => (q5x_jn (P := Qe3 I0) (j158 ((0 : Int32))) (fun j150_3 j159 => (q5x_ite j159 (q5x_b3 (fr5_fn_X10_in (Int32.toInt64 x26) (Int32.toInt64 low) (Int32.toInt64 high) I27 h155 J) (fun r43 _ _ h160 => (q5x_ite j159 (j158 ((1 : Int32)))))))))))) (mU (I18 78 11) (I18 78 12) + 1) (0 : Int32) I18 h154))))))))))
theorem fr5_fn_X10_takeEnd {I0 : Iv} (I : Iv) (hI : KI5 I0 I) (J : Jv) : Qe2 I0 (fn_X10_takeEnd I J) := by
  unfold fn_X10_takeEnd
  exact (q5x_ite (q5x_b3 (fr5_fn_X10_here I hI J) (fun r6 I1 _ h161 => (q5x_jn (P := fun (j : Int32 → Iv × Jv) => ∀ (a162 : Int32), Qe2 I0 (j a162)) (fun w9 => (q5x_b3 (fr5_fn_X10_want w9 (1 : Int32) (I1 78 12) I1 h161 J) (fun r15 I10 _ h163 => (q5x_ite h163 (q5x_ltI (kI5_w rfl h163) (fun I18 h164 => h164)))))) (fun j22_0 j165 => (q5x_ite (j165 ((1 : Int32))) (j165 ((0 : Int32)))))))) hI)
theorem fr5_fn_X10_takeClause {I0 : Iv} (I : Iv) (hI : KI5 I0 I) (J : Jv) : Qe2 I0 (fn_X10_takeClause I J) := by
  unfold fn_X10_takeClause
  exact (q5x_b2 (fr5_fn_X10_takeWord I hI J) (fun I1 _ h166 => (q5x_b3 (fr5_fn_X10_kindHere I1 h166 J) (fun r13 _ _ h167 => (q5x_jn (P := fun (j : Int32 → Iv × Jv) => ∀ (a168 : Int32), Qe2 I0 (j a168)) (fun w15 => (q5x_b3 (fr5_fn_X10_want w15 (1 : Int32) (I1 78 13) I1 h166 J) (fun r21 I16 _ h169 => (q5x_ite h169 (q5x_b3 (fr5_fn_X10_has (Int32.toInt64 (I16 78 17)) r13 I16 h169 J) (fun r29 _ _ h170 => (q5x_jn (P := fun (j : Int32 → Iv × Jv) => ∀ (a171 : Int32), Qe2 I0 (j a171)) (fun w31 => (q5x_b3 (fr5_fn_X10_want w31 (3 : Int32) (I16 78 13) I16 h169 J) (fun r37 I32 _ h172 => (q5x_ite h172 (q5x_ltI (kI5_w rfl h172) (fun I40 h173 => (q5x_jn (P := fun (j : Iv → Iv × Jv) => ∀ (a174 : Iv), KI5 I0 a174 → Qe2 I0 (j a174)) (fun I42 h175 => (q5x_b2 (fr5_fn_X10_takeEnd I42 h175 J) (fun I44 _ h176 => h176))) (fun j171_2 j177 => (q5x_ite (q5x_b3 (fr5_fn_X10_takeNumber (0 : Int32) (24 : Int32) I40 h173 J) (fun r80 I75 _ h178 => (q5x_ltI (kI5_w rfl h178) (fun I83 h179 => (q5x_jn (P := fun (j : Int32 → Iv → Iv × Jv) => ∀ (a180 : Int32) (a181 : Iv), KI5 I0 a181 → Qe2 I0 (j a180 a181)) (fun w85 I86 h182 => (q5x_ltI (kI5_w rfl h182) (fun I88 h183 => (q5x_jn (P := fun (j : Int32 → Iv → Iv × Jv) => ∀ (a184 : Int32) (a185 : Iv), KI5 I0 a185 → Qe2 I0 (j a184 a185)) (fun w90 I91 h186 => (q5x_ltI (kI5_w rfl h186) (fun I93 h187 => (j177 I93 h187)))) (fun j149_4 j188 => (q5x_ite (q5x_b3 (fr5_fn_X10_takeNumber (0 : Int32) (200 : Int32) I88 h183 J) (fun r100 I95 _ h189 => (j188 r100 I95 h189))) (j188 ((0 : Int32)) I88 h183))))))) (fun j123_3 j190 => (q5x_ite (q5x_b3 (fr5_fn_X10_takeNumber ((I83 82 12) + (1 : Int32)) (24 : Int32) I83 h179 J) (fun r108 I103 _ h191 => (j190 r108 I103 h191))) (j190 ((0 : Int32)) I83 h179)))))))) (q5x_b3 (fr5_fn_X10_leastOf r13 I40 h173 J) (fun r56 _ _ h192 => (q5x_b3 (fr5_fn_X10_mostOf r13 I40 h173 J) (fun r63 _ _ h193 => (q5x_b3 (fr5_fn_X10_takeNumber r56 r63 I40 h173 J) (fun r70 I65 _ h194 => (q5x_ltI (kI5_w rfl h194) (fun I73 h195 => (j177 I73 h195)))))))))))))))))) (fun j48_1 j196 => (q5x_ite (j196 ((1 : Int32))) (j196 ((0 : Int32)))))))))))) (fun j19_0 j197 => (q5x_ite (j197 ((0 : Int32))) (j197 ((1 : Int32))))))))))
theorem fr5_fn_X10_beginReading {I0 : Iv} (I : Iv) (hI : KI5 I0 I) (J : Jv) : Qe2 I0 (fn_X10_beginReading I J) := by
  unfold fn_X10_beginReading
  exact (q5x_ltI (kI5_w rfl hI) (fun I1 h198 => (q5x_ltI (kI5_w rfl h198) (fun I3 h199 => (q5x_ltI (kI5_w rfl h199) (fun I5 h200 => h200))))))
theorem fr5_fl_X10_freshen_93_1 {I0 : Iv} (I : Iv) (x : Int32) (Kf1 : Int32 → Jv → Iv × Jv) (hI : KI5 I0 I) (hKf1 : ∀ (a201 : Int32) (a202 : Jv), Qe2 I0 (Kf1 a201 a202)) : ∀ (fu : Nat) (x14 : Int32) (J15 : Jv), Qe2 I0 (fl_X10_freshen_93_1 I x Kf1 fu x14 J15) := by
  intro fu
  induction fu with
  | zero =>
    intro x14 J15
    rw [fl_X10_freshen_93_1.eq_1]
    exact hI
  | succ kf1 ih =>
    intro x14 J15
    rw [fl_X10_freshen_93_1.eq_2]
    exact (q5x_ite (hKf1 x14 J15) (q5x_lt (fun J32 => (ih (x14 + (1 : Int32)) J32))))
theorem fr5_fl_X10_freshen_35_0 {I0 : Iv} (I : Iv) (x : Int32) (Kf0 : Int32 → Jv → Iv × Jv) (hI : KI5 I0 I) (hKf0 : ∀ (a203 : Int32) (a204 : Jv), Qe2 I0 (Kf0 a203 a204)) : ∀ (fu : Nat) (x4 : Int32) (J5 : Jv), Qe2 I0 (fl_X10_freshen_35_0 I x Kf0 fu x4 J5) := by
  intro fu
  induction fu with
  | zero =>
    intro x4 J5
    rw [fl_X10_freshen_35_0.eq_1]
    exact hI
  | succ kf0 ih =>
    intro x4 J5
    rw [fl_X10_freshen_35_0.eq_2]
    exact (q5x_ite (hKf0 x4 J5) (q5x_lt (fun J34 => (ih (x4 + (1 : Int32)) J34))))
theorem fr5_fn_X10_freshen {I0 : Iv} (x : Int32) (I : Iv) (hI : KI5 I0 I) (J : Jv) : Qe2 I0 (fn_X10_freshen x I J) := by
  unfold fn_X10_freshen
  exact (q5x_lt (fun v1 => (q5x_lt (fun v2 => (q5x_lt (fun v3 => (fr5_fl_X10_freshen_35_0 I x (fun (x4 : Int32) (J5 : Jv) => l_t (wJ J5 79 (x.toNatClampNeg + 52) v1) (fun (J8 : Jv) => l_t (wJ J8 79 (x.toNatClampNeg + 69) v2) (fun (J10 : Jv) => l_t (wJ J10 79 (x.toNatClampNeg + 70) v3) (fun (J12 : Jv) => fl_X10_freshen_93_1 I x (fun (x14 : Int32) (J15 : Jv) => l_t (wJ J15 79 (x.toNatClampNeg + 3) (-40000 : Int64)) (fun (J18 : Jv) => b_n3 (fn_X10_has v1 (1 : Int32) I J18) (fun (r25 : Int32) (_ : Iv) (_ : Jv) => j_n (fun (w27 : Int64) => l_t (wJ J18 79 (x.toNatClampNeg + 53) w27) (fun (J28 : Jv) => l_t (wJ J28 79 (x.toNatClampNeg + 67) (500 : Int64)) (fun (J30 : Jv) => (I, J30)))) (fun (j151_2 : Int64 → Iv × Jv) => if r25 = 0 then j151_2 ((0 : Int64)) else j151_2 ((600 : Int64)))))) (mU (3 : Int32) ((0 : Int32)) + 1) (0 : Int32) J12)))) hI (fun x4 J5 => (q5x_lt (fun J8 => (q5x_lt (fun J10 => (q5x_lt (fun J12 => (fr5_fl_X10_freshen_93_1 I x (fun (x14 : Int32) (J15 : Jv) => l_t (wJ J15 79 (x.toNatClampNeg + 3) (-40000 : Int64)) (fun (J18 : Jv) => b_n3 (fn_X10_has v1 (1 : Int32) I J18) (fun (r25 : Int32) (_ : Iv) (_ : Jv) => j_n (fun (w27 : Int64) => l_t (wJ J18 79 (x.toNatClampNeg + 53) w27) (fun (J28 : Jv) => l_t (wJ J28 79 (x.toNatClampNeg + 67) (500 : Int64)) (fun (J30 : Jv) => (I, J30)))) (fun (j151_2 : Int64 → Iv × Jv) => if r25 = 0 then j151_2 ((0 : Int64)) else j151_2 ((600 : Int64)))))) hI (fun x14 J15 => (q5x_lt (fun J18 => (q5x_b3 (fr5_fn_X10_has v1 (1 : Int32) I hI J18) (fun r25 _ _ h205 => (q5x_jn (P := fun (j : Int64 → Iv × Jv) => ∀ (a206 : Int64), Qe2 I0 (j a206)) (fun w27 => (q5x_lt (fun J28 => (q5x_lt (fun J30 => hI))))) (fun j151_2 j207 => (q5x_ite (j207 ((0 : Int64))) (j207 ((600 : Int64))))))))))) (mU (3 : Int32) ((0 : Int32)) + 1) (0 : Int32) J12)))))))) (mU (80 : Int32) ((0 : Int32)) + 1) (0 : Int32) J)))))))
theorem fr5_fl_X10_copy_2_0 {I0 : Iv} (I : Iv) (x : Int32) (y : Int32) (Kf0 : Int32 → Jv → Iv × Jv) (hI : KI5 I0 I) (hKf0 : ∀ (a208 : Int32) (a209 : Jv), Qe2 I0 (Kf0 a208 a209)) : ∀ (fu : Nat) (x1 : Int32) (J2 : Jv), Qe2 I0 (fl_X10_copy_2_0 I x y Kf0 fu x1 J2) := by
  intro fu
  induction fu with
  | zero =>
    intro x1 J2
    rw [fl_X10_copy_2_0.eq_1]
    exact hI
  | succ kf0 ih =>
    intro x1 J2
    rw [fl_X10_copy_2_0.eq_2]
    exact (q5x_ite (hKf0 x1 J2) (q5x_lt (fun J5 => (ih (x1 + (1 : Int32)) J5))))
theorem fr5_fn_X10_copy {I0 : Iv} (x : Int32) (y : Int32) (I : Iv) (hI : KI5 I0 I) (J : Jv) : Qe2 I0 (fn_X10_copy x y I J) := by
  unfold fn_X10_copy
  exact (fr5_fl_X10_copy_2_0 I x y (fun (x1 : Int32) (J2 : Jv) => (I, J2)) hI (fun x1 J2 => hI) (mU (80 : Int32) ((0 : Int32)) + 1) (0 : Int32) J)
theorem fr5_fn_X10_tryFresh {I0 : Iv} (set : Int32) (I : Iv) (hI : KI5 I0 I) (J : Jv) : Qe2 I0 (fn_X10_tryFresh set I J) := by
  unfold fn_X10_tryFresh
  exact (q5x_lt (fun J1 => (q5x_lt (fun J3 => (q5x_b2 (fr5_fn_X10_freshen (80 : Int32) I hI J3) (fun _ J5 h210 => hI))))))
theorem fr5_fl_X10_begin_14_0 {I0 : Iv} (J : Jv) (Kf0 : Int32 → Iv → Iv × Jv) (hKf0 : ∀ (a211 : Int32) (a212 : Iv), KI5 I0 a212 → Qe2 I0 (Kf0 a211 a212)) : ∀ (fu : Nat) (x3 : Int32) (I4 : Iv), KI5 I0 I4 → Qe2 I0 (fl_X10_begin_14_0 J Kf0 fu x3 I4) := by
  intro fu
  induction fu with
  | zero =>
    intro x3 I4 hI4
    rw [fl_X10_begin_14_0.eq_1]
    exact hI4
  | succ kf0 ih =>
    intro x3 I4 hI4
    rw [fl_X10_begin_14_0.eq_2]
    exact (q5x_ite (hKf0 x3 I4 hI4) (q5x_b3 (fr5_fn_X10_untold x3 I4 hI4 J) (fun r33 _ _ h213 => (q5x_ltI (kI5_w rfl hI4) (fun I35 h214 => (ih (x3 + (1 : Int32)) I35 h214))))))
theorem fr5_fl_X10_melt_36_0 {I0 : Iv} (I : Iv) (x : Int32) (Kf0 : Int32 → Jv → Int32 × Iv × Jv) (hI : KI5 I0 I) (hKf0 : ∀ (a215 : Int32) (a216 : Jv), Qe3 I0 (Kf0 a215 a216)) : ∀ (fu : Nat) (x6 : Int32) (J7 : Jv), Qe3 I0 (fl_X10_melt_36_0 I x Kf0 fu x6 J7) := by
  intro fu
  induction fu with
  | zero =>
    intro x6 J7
    rw [fl_X10_melt_36_0.eq_1]
    exact hI
  | succ kf0 ih =>
    intro x6 J7
    rw [fl_X10_melt_36_0.eq_2]
    exact (q5x_ite (hKf0 x6 J7) (q5x_b3 (fr5_fn_X10_capOf x x6 I hI J7) (fun r15 _ _ h217 => (q5x_lt (fun v17 => (q5x_b3 (fr5_fn_X10_warm x x6 I hI J7) (fun r23 _ _ h218 => (q5x_ite (ih (x6 + (1 : Int32)) J7) (q5x_lt (fun J25 => (q5x_lt (fun J27 => (ih (x6 + (1 : Int32)) J27)))))))))))))
theorem fr5_fn_X10_melt {I0 : Iv} (x : Int32) (I : Iv) (hI : KI5 I0 I) (J : Jv) : Qe3 I0 (fn_X10_melt x I J) := by
  unfold fn_X10_melt
  exact (q5x_lt (fun v1 => (q5x_lt (fun J2 => (q5x_lt (fun J4 => (fr5_fl_X10_melt_36_0 I x (fun (x6 : Int32) (J7 : Jv) => ((Int64.toInt32 v1), I, J7)) hI (fun x6 J7 => hI) (mU (4 : Int32) ((0 : Int32)) + 1) (0 : Int32) J4)))))))
theorem fr5_fn_X10_fault {I0 : Iv} (I : Iv) (hI : KI5 I0 I) (J : Jv) : Qe3 I0 (fn_X10_fault I J) := by
  unfold fn_X10_fault
  exact hI
theorem fr5_fn_X10_opening {I0 : Iv} (i : Int32) (what : Int32) (I : Iv) (hI : KI5 I0 I) (J : Jv) : Qe3 I0 (fn_X10_opening i what I J) := by
  unfold fn_X10_opening
  exact (q5x_b3 (fr5_fn_X10_in (Int32.toInt64 what) (0 : Int64) (1 : Int64) I hI J) (fun r6 _ _ h219 => (q5x_ite hI (q5x_b3 (fr5_fn_X10_in (Int32.toInt64 i) (0 : Int64) (Int32.toInt64 ((I 78 5) - (1 : Int32))) I hI J) (fun r13 _ _ h220 => (q5x_ite hI (q5x_ite hI hI)))))))
theorem fr5_fn_X10_told {I0 : Iv} (what : Int32) (I : Iv) (J : Jv) (hb : KI5 I0 (fn_X10_begin I J).1) : Qe3 I0 (fn_X10_told what I J) := by
  unfold fn_X10_told
  exact (q5x_b2 hb (fun I1 J2 h221 => (q5x_b3 (fr5_fn_X10_in (Int32.toInt64 what) (0 : Int64) (14 : Int64) I1 h221 J2) (fun r13 _ _ h222 => (q5x_ite h221 h221)))))
theorem fr5_fn_X10_trouble {I0 : Iv} (set : Int32) (I : Iv) (J : Jv) (hb : KI5 I0 (fn_X10_begin I J).1) : Qe3 I0 (fn_X10_trouble set I J) := by
  unfold fn_X10_trouble
  exact (q5x_b2 hb (fun I1 J2 h223 => (q5x_b3 (fr5_fn_X10_isSet set I1 h223 J2) (fun r13 _ _ h224 => (q5x_ite h223 (q5x_lt (fun v15 => (q5x_lt (fun J16 => (q5x_b3 (fr5_fn_X10_has (Int32.toInt64 set) (1 : Int32) I1 h223 J16) (fun r23 _ _ h225 => (q5x_ite h223 (q5x_b3 (fr5_fn_X10_has (Int32.toInt64 v15) (1 : Int32) I1 h223 J16) (fun r30 _ _ h226 => (q5x_ite (q5x_ite h223 (q5x_lt (fun J32 => h223))) h223)))))))))))))))
theorem fr5_fn_X10_fresh {I0 : Iv} (I : Iv) (J : Jv) (hb : KI5 I0 (fn_X10_begin I J).1) : Qe3 I0 (fn_X10_fresh I J) := by
  unfold fn_X10_fresh
  exact (q5x_b2 hb (fun I1 J2 h227 => (q5x_lt (fun v8 => (q5x_b2 (fr5_fn_X10_freshen (0 : Int32) I1 h227 J2) (fun _ J9 h228 => h227))))))
theorem fr5_fn_X10_current {I0 : Iv} (on : Int32) (I : Iv) (J : Jv) (hb : KI5 I0 (fn_X10_begin I J).1) : Qe3 I0 (fn_X10_current on I J) := by
  unfold fn_X10_current
  exact (q5x_b2 hb (fun I1 J2 h229 => (q5x_lt (fun v8 => (q5x_b3 (fr5_fn_X10_one on I1 h229 J2) (fun r14 _ _ h230 => (q5x_lt (fun J16 => h229))))))))
theorem fr5_fn_X10_cover {I0 : Iv} (on : Int32) (I : Iv) (J : Jv) (hb : KI5 I0 (fn_X10_begin I J).1) : Qe3 I0 (fn_X10_cover on I J) := by
  unfold fn_X10_cover
  exact (q5x_b2 hb (fun I1 J2 h231 => (q5x_lt (fun v8 => (q5x_b3 (fr5_fn_X10_one on I1 h231 J2) (fun r14 _ _ h232 => (q5x_lt (fun J16 => h231))))))))
theorem fr5_fl_X10_put_63_0 {I0 : Iv} (I1 : Iv) (J2 : Jv) (Kf0 : Int32 → Int32 × Iv × Jv) (hI1 : KI5 I0 I1) (hKf0 : ∀ (a233 : Int32), Qe3 I0 (Kf0 a233)) : ∀ (fu : Nat) (x43 : Int32), Qe3 I0 (fl_X10_put_63_0 I1 J2 Kf0 fu x43) := by
  intro fu
  induction fu with
  | zero =>
    intro x43
    rw [fl_X10_put_63_0.eq_1]
    exact hI1
  | succ kf0 ih =>
    intro x43
    rw [fl_X10_put_63_0.eq_2]
    exact (q5x_jn (P := Qe3 I0) (hKf0 x43) (fun j91_1 j234 => (q5x_ite j234 (q5x_ite (ih (x43 + (1 : Int32))) j234))))
theorem fr5_fn_X10_put {I0 : Iv} (s : Int32) (v_ : Int32) (c : Int32) (low : Int32) (high : Int32) (I : Iv) (J : Jv) (hb : KI5 I0 (fn_X10_begin I J).1) : Qe3 I0 (fn_X10_put s v_ c low high I J) := by
  unfold fn_X10_put
  exact (q5x_b2 hb (fun I1 J2 h235 => (q5x_b3 (fr5_fn_X10_isShelf s I1 h235 J2) (fun r13 _ _ h236 => (q5x_ite h235 (q5x_b3 (fr5_fn_X10_isDegree v_ I1 h235 J2) (fun r20 _ _ h237 => (q5x_ite h235 (q5x_b3 (fr5_fn_X10_in (Int32.toInt64 c) (1 : Int64) (200 : Int64) I1 h235 J2) (fun r27 _ _ h238 => (q5x_ite h235 (q5x_b3 (fr5_fn_X10_isDegree low I1 h235 J2) (fun r34 _ _ h239 => (q5x_ite h235 (q5x_b3 (fr5_fn_X10_isDegree high I1 h235 J2) (fun r41 _ _ h240 => (q5x_ite h235 (q5x_ite (fr5_fl_X10_put_63_0 I1 J2 (fun (x43 : Int32) => if x43 = (8 : Int32) then ((-1000000004 : Int32), I1, J2) else l_t (wJ J2 79 (12 + x43.toNatClampNeg) (1 : Int64)) (fun (J45 : Jv) => l_t (wJ J45 79 (4 + x43.toNatClampNeg) ((Int32.toInt64 v_) * (Int32.toInt64 c))) (fun (J46 : Jv) => l_t (wJ J46 79 (20 + x43.toNatClampNeg) (Int32.toInt64 s)) (fun (J47 : Jv) => l_t (wJ J47 79 (28 + x43.toNatClampNeg) (Int32.toInt64 c)) (fun (J48 : Jv) => l_t (wJ J48 79 (36 + x43.toNatClampNeg) (Int32.toInt64 low)) (fun (J50 : Jv) => l_t (wJ J50 79 (44 + x43.toNatClampNeg) (Int32.toInt64 high)) (fun (J52 : Jv) => l_t (wJ J52 79 56 ((J52 79 56) + ((Int32.toInt64 v_) * (Int32.toInt64 c)))) (fun (J54 : Jv) => (x43, I1, J54))))))))) h235 (fun x43 => (q5x_ite h235 (q5x_lt (fun J45 => (q5x_lt (fun J46 => (q5x_lt (fun J47 => (q5x_lt (fun J48 => (q5x_lt (fun J50 => (q5x_lt (fun J52 => (q5x_lt (fun J54 => h235)))))))))))))))) (mU (8 : Int32) ((0 : Int32)) + 1) (0 : Int32)) h235))))))))))))))))))
theorem fr5_fn_X10_take {I0 : Iv} (f : Int32) (I : Iv) (J : Jv) (hb : KI5 I0 (fn_X10_begin I J).1) : Qe3 I0 (fn_X10_take f I J) := by
  unfold fn_X10_take
  exact (q5x_b2 hb (fun I1 J2 h241 => (q5x_b3 (fr5_fn_X10_isFood f I1 h241 J2) (fun r13 _ _ h242 => (q5x_ite h241 (q5x_b3 (fr5_fn_X10_warm (0 : Int32) ((4 : Int32) + f) I1 h241 J2) (fun r20 _ _ h243 => (q5x_lt (fun v22 => (q5x_lt (fun J23 => (q5x_lt (fun J25 => (q5x_lt (fun J27 => h241)))))))))))))))
theorem fr5_fn_X10_lay {I0 : Iv} (f : Int32) (s : Int32) (I : Iv) (J : Jv) (hb : KI5 I0 (fn_X10_begin I J).1) : Qe3 I0 (fn_X10_lay f s I J) := by
  unfold fn_X10_lay
  exact (q5x_b2 hb (fun I1 J2 h244 => (q5x_b3 (fr5_fn_X10_isFood f I1 h244 J2) (fun r13 _ _ h245 => (q5x_ite h244 (q5x_b3 (fr5_fn_X10_isShelf s I1 h244 J2) (fun r20 _ _ h246 => (q5x_ite h244 (q5x_lt (fun v22 => (q5x_lt (fun J23 => h244))))))))))))
theorem fr5_fn_X10_food {I0 : Iv} (f : Int32) (what : Int32) (I : Iv) (J : Jv) (hb : KI5 I0 (fn_X10_begin I J).1) : Qe3 I0 (fn_X10_food f what I J) := by
  unfold fn_X10_food
  exact (q5x_b2 hb (fun I1 J2 h247 => (q5x_b3 (fr5_fn_X10_isFood f I1 h247 J2) (fun r13 _ _ h248 => (q5x_ite h247 (q5x_ite h247 (q5x_lt (fun sw0 => (q5x_ite h247 (q5x_ite (q5x_b3 (fr5_fn_X10_warm (0 : Int32) ((4 : Int32) + f) I1 h247 J2) (fun r20 _ _ h249 => h247)) (q5x_ite h247 (q5x_ite h247 (q5x_ite h247 (q5x_ite (q5x_b3 (fr5_fn_X10_isWithin (0 : Int32) f I1 h247 J2) (fun r27 _ _ h250 => (q5x_b3 (fr5_fn_X10_one r27 I1 h247 J2) (fun r34 _ _ h251 => h247)))) h247))))))))))))))
theorem fr5_fn_X10_run {I0 : Iv} (n : Int32) (I : Iv) (J : Jv) (hb : KI5 I0 (fn_X10_begin I J).1) : Qe3 I0 (fn_X10_run n I J) := by
  unfold fn_X10_run
  exact (q5x_b2 hb (fun I1 J2 h252 => (q5x_b3 (fr5_fn_X10_in (Int32.toInt64 n) (1 : Int64) (2880 : Int64) I1 h252 J2) (fun r13 _ _ h253 => (q5x_ite h252 (q5x_lt (fun v15 => (q5x_b2 (fr5_fn_X10_go (0 : Int32) n I1 h252 J2) (fun _ J16 h254 => h252)))))))))
theorem fr5_fn_X10_draw {I0 : Iv} (n : Int32) (I : Iv) (hI : KI5 I0 I) (J : Jv) : Qe3 I0 (fn_X10_draw n I J) := by
  unfold fn_X10_draw
  exact (q5x_lt (fun J1 => hI))
theorem fr5_fl_X10_drawDay_24_1 {I0 : Iv} (m : Int32) (Kf1 : Int32 → Iv → Jv → Iv × Jv) (hKf1 : ∀ (a255 : Int32) (a256 : Iv) (a257 : Jv), KI5 I0 a256 → Qe2 I0 (Kf1 a255 a256 a257)) : ∀ (fu : Nat) (x5 : Int32) (I6 : Iv) (J7 : Jv), KI5 I0 I6 → Qe2 I0 (fl_X10_drawDay_24_1 m Kf1 fu x5 I6 J7) := by
  intro fu
  induction fu with
  | zero =>
    intro x5 I6 J7 hI6
    rw [fl_X10_drawDay_24_1.eq_1]
    exact hI6
  | succ kf1 ih =>
    intro x5 I6 J7 hI6
    rw [fl_X10_drawDay_24_1.eq_2]
    exact (q5x_ite (hKf1 x5 I6 J7 hI6) (q5x_b3 (fr5_fn_X10_draw (288 : Int32) I6 hI6 J7) (fun r15 _ J10 h258 => (q5x_ltI (kI5_w rfl hI6) (fun I18 h259 => (ih (x5 + (1 : Int32)) I18 J10 h259))))))
theorem fr5_fl_X10_drawDay_2_0 {I0 : Iv} (J : Jv) (Kf0 : Int32 → Iv → Iv × Jv) (hKf0 : ∀ (a260 : Int32) (a261 : Iv), KI5 I0 a261 → Qe2 I0 (Kf0 a260 a261)) : ∀ (fu : Nat) (x1 : Int32) (I2 : Iv), KI5 I0 I2 → Qe2 I0 (fl_X10_drawDay_2_0 J Kf0 fu x1 I2) := by
  intro fu
  induction fu with
  | zero =>
    intro x1 I2 hI2
    rw [fl_X10_drawDay_2_0.eq_1]
    exact hI2
  | succ kf0 ih =>
    intro x1 I2 hI2
    rw [fl_X10_drawDay_2_0.eq_2]
    exact (q5x_ite (hKf0 x1 I2 hI2) (q5x_ltI (kI5_w rfl hI2) (fun I20 h262 => (ih (x1 + (1 : Int32)) I20 h262))))
theorem fr5_fn_X10_drawDay {I0 : Iv} (m : Int32) (I : Iv) (hI : KI5 I0 I) (J : Jv) : Qe2 I0 (fn_X10_drawDay m I J) := by
  unfold fn_X10_drawDay
  exact (fr5_fl_X10_drawDay_2_0 J (fun (x1 : Int32) (I2 : Iv) => fl_X10_drawDay_24_1 m (fun (x5 : Int32) (I6 : Iv) (J7 : Jv) => (I6, J7)) (mU m ((0 : Int32)) + 1) (0 : Int32) I2 J) (fun x1 I2 h263 => (fr5_fl_X10_drawDay_24_1 m (fun (x5 : Int32) (I6 : Iv) (J7 : Jv) => (I6, J7)) (fun x5 I6 J7 h264 => h264) (mU m ((0 : Int32)) + 1) (0 : Int32) I2 J h263)) (mU (288 : Int32) ((0 : Int32)) + 1) (0 : Int32) I hI)
theorem fr5_fl_X10_drawn_42_0 {I0 : Iv} (n : Int32) (m : Int32) (Kf0 : Int32 → Iv → Jv → Int32 × Iv × Jv) (hKf0 : ∀ (a265 : Int32) (a266 : Iv) (a267 : Jv), KI5 I0 a266 → Qe3 I0 (Kf0 a265 a266 a267)) : ∀ (fu : Nat) (x23 : Int32) (I24 : Iv) (J25 : Jv), KI5 I0 I24 → Qe3 I0 (fl_X10_drawn_42_0 n m Kf0 fu x23 I24 J25) := by
  intro fu
  induction fu with
  | zero =>
    intro x23 I24 J25 hI24
    rw [fl_X10_drawn_42_0.eq_1]
    exact hI24
  | succ kf0 ih =>
    intro x23 I24 J25 hI24
    rw [fl_X10_drawn_42_0.eq_2]
    exact (q5x_ite (hKf0 x23 I24 J25 hI24) (q5x_lt (fun v28 => (q5x_jn (P := fun (j : Iv → Jv → Int32 × Iv × Jv) => ∀ (a268 : Iv) (a269 : Jv), KI5 I0 a268 → Qe3 I0 (j a268 a269)) (fun I29 J30 h270 => (q5x_b2 (fr5_fn_X10_tick (0 : Int32) (I29 89 v28.toNatClampNeg) (I29 81 8) (0 : Int32) I29 h270 J30) (fun _ J32 h271 => (ih (x23 + (1 : Int32)) I29 J32 h270)))) (fun j81_1 j272 => (q5x_jn (P := Qe3 I0) (q5x_b2 (fr5_fn_X10_drawDay m I24 hI24 J25) (fun I39 J40 h274 => (j272 I39 J40 h274))) (fun j76_2 j273 => (q5x_ite j273 (q5x_ite j273 (j272 I24 J25 hI24))))))))))
theorem fr5_fn_X10_drawn {I0 : Iv} (n : Int32) (m : Int32) (I : Iv) (J : Jv) (hb : KI5 I0 (fn_X10_begin I J).1) : Qe3 I0 (fn_X10_drawn n m I J) := by
  unfold fn_X10_drawn
  exact (q5x_b2 hb (fun I1 J2 h275 => (q5x_b3 (fr5_fn_X10_in (Int32.toInt64 n) (1 : Int64) (10 : Int64) I1 h275 J2) (fun r13 _ _ h276 => (q5x_ite h275 (q5x_b3 (fr5_fn_X10_in (Int32.toInt64 m) (0 : Int64) (20 : Int64) I1 h275 J2) (fun r20 _ _ h277 => (q5x_ite h275 (q5x_lt (fun v22 => (fr5_fl_X10_drawn_42_0 n m (fun (x23 : Int32) (I24 : Iv) (J25 : Jv) => ((Int64.toInt32 ((J25 79 63) - v22)), I24, J25)) (fun x23 I24 J25 h278 => h278) (mU ((288 : Int32) * n) ((0 : Int32)) + 1) (0 : Int32) I1 J2 h275)))))))))))
theorem fr5_fn_X10_warmth {I0 : Iv} (s : Int32) (I : Iv) (J : Jv) (hb : KI5 I0 (fn_X10_begin I J).1) : Qe3 I0 (fn_X10_warmth s I J) := by
  unfold fn_X10_warmth
  exact (q5x_b2 hb (fun I1 J2 h279 => (q5x_b3 (fr5_fn_X10_in (Int32.toInt64 s) (0 : Int64) (3 : Int64) I1 h279 J2) (fun r13 _ _ h280 => (q5x_ite h279 (q5x_b3 (fr5_fn_X10_warm (0 : Int32) s I1 h279 J2) (fun r20 _ _ h281 => h279)))))))
theorem fr5_fl_X10_heat_41_0 {I0 : Iv} (I1 : Iv) (J2 : Jv) (Kf0 : Int64 → Int32 → Int64 × Iv × Jv) (hI1 : KI5 I0 I1) (hKf0 : ∀ (a282 : Int64) (a283 : Int32), Qe3 I0 (Kf0 a282 a283)) : ∀ (fu : Nat) (x15 : Int64) (x16 : Int32), Qe3 I0 (fl_X10_heat_41_0 I1 J2 Kf0 fu x15 x16) := by
  intro fu
  induction fu with
  | zero =>
    intro x15 x16
    rw [fl_X10_heat_41_0.eq_1]
    exact hI1
  | succ kf0 ih =>
    intro x15 x16
    rw [fl_X10_heat_41_0.eq_2]
    exact (q5x_ite (hKf0 x15 x16) (q5x_lt (fun v18 => (ih v18 (x16 + (1 : Int32))))))
theorem fr5_fn_X10_heat {I0 : Iv} (what : Int32) (I : Iv) (J : Jv) (hb : KI5 I0 (fn_X10_begin I J).1) : Qe3 I0 (fn_X10_heat what I J) := by
  unfold fn_X10_heat
  exact (q5x_b2 hb (fun I1 J2 h284 => (q5x_b3 (fr5_fn_X10_in (Int32.toInt64 what) (0 : Int64) (5 : Int64) I1 h284 J2) (fun r13 _ _ h285 => (q5x_ite h284 (q5x_ite (fr5_fl_X10_heat_41_0 I1 J2 (fun (x15 : Int64) (x16 : Int32) => (x15, I1, J2)) h284 (fun x15 x16 => h284) (mU (12 : Int32) ((0 : Int32)) + 1) (0 : Int64) (0 : Int32)) h284))))))
theorem fr5_fn_X10_count {I0 : Iv} (what : Int32) (I : Iv) (J : Jv) (hb : KI5 I0 (fn_X10_begin I J).1) : Qe3 I0 (fn_X10_count what I J) := by
  unfold fn_X10_count
  exact (q5x_b2 hb (fun I1 J2 h286 => (q5x_ite h286 (q5x_lt (fun sw0 => (q5x_ite h286 (q5x_ite h286 (q5x_ite h286 (q5x_ite h286 (q5x_ite h286 (q5x_ite h286 (q5x_ite h286 (q5x_ite h286 (q5x_ite h286 (q5x_ite h286 (q5x_ite (q5x_b3 (fr5_fn_X10_foods I1 h286 J2) (fun r13 _ _ h287 => h286)) (q5x_ite h286 h286)))))))))))))))))
theorem fr5_fn_X10_thaw {I0 : Iv} (I : Iv) (J : Jv) (hb : KI5 I0 (fn_X10_begin I J).1) : Qe3 I0 (fn_X10_thaw I J) := by
  unfold fn_X10_thaw
  exact (q5x_b2 hb (fun I1 J2 h288 => (q5x_b3 (fr5_fn_X10_melt (0 : Int32) I1 h288 J2) (fun r13 _ J8 h289 => h288))))
theorem fr5_fn_X10_signOf {I0 : Iv} (what : Int32) (I : Iv) (hI : KI5 I0 I) (J : Jv) : Qe3 I0 (fn_X10_signOf what I J) := by
  unfold fn_X10_signOf
  exact (q5x_jn (P := Qe3 I0) (q5x_b3 (fr5_fn_X10_warm (80 : Int32) (what - (2 : Int32)) I hI J) (fun r6 _ _ h291 => hI)) (fun j32_0 j290 => (q5x_ite (q5x_ite hI (q5x_ite hI hI)) (q5x_lt (fun sw1 => (q5x_ite j290 (q5x_ite j290 (q5x_ite j290 (q5x_ite hI hI)))))))))
theorem fr5_fl_X10_findSigns_51_0 {I0 : Iv} (r20 : Int32) (r27 : Int32) (r34 : Int32) (J36 : Jv) (Kf0 : Int32 → Iv → Iv × Jv) (hKf0 : ∀ (a292 : Int32) (a293 : Iv), KI5 I0 a293 → Qe2 I0 (Kf0 a292 a293)) : ∀ (fu : Nat) (x43 : Int32) (I44 : Iv), KI5 I0 I44 → Qe2 I0 (fl_X10_findSigns_51_0 r20 r27 r34 J36 Kf0 fu x43 I44) := by
  intro fu
  induction fu with
  | zero =>
    intro x43 I44 hI44
    rw [fl_X10_findSigns_51_0.eq_1]
    exact hI44
  | succ kf0 ih =>
    intro x43 I44 hI44
    rw [fl_X10_findSigns_51_0.eq_2]
    exact (q5x_ite (hKf0 x43 I44 hI44) (q5x_b3 (fr5_fn_X10_signOf x43 I44 hI44 J36) (fun r52 _ _ h294 => (q5x_ite (q5x_ltI (kI5_w rfl hI44) (fun I60 h295 => (ih (x43 + (1 : Int32)) I60 h295))) (q5x_ite (q5x_ltI (kI5_w rfl hI44) (fun I58 h296 => (ih (x43 + (1 : Int32)) I58 h296))) (q5x_ite (q5x_ltI (kI5_w rfl hI44) (fun I56 h297 => (ih (x43 + (1 : Int32)) I56 h297))) (q5x_ltI (kI5_w rfl hI44) (fun I54 h298 => (ih (x43 + (1 : Int32)) I54 h298)))))))))
theorem fr5_fn_X10_findSigns {I0 : Iv} (set : Int32) (n : Int32) (I : Iv) (hI : KI5 I0 I) (J : Jv) : Qe2 I0 (fn_X10_findSigns set n I J) := by
  unfold fn_X10_findSigns
  exact (q5x_b2 (fr5_fn_X10_tryFresh set I hI J) (fun _ J1 h299 => (q5x_b2 (fr5_fn_X10_go (80 : Int32) ((288 : Int32) * (n - (1 : Int32))) I hI J1) (fun _ J8 h300 => (q5x_b3 (fr5_fn_X10_signOf (0 : Int32) I hI J8) (fun r20 _ _ h301 => (q5x_b3 (fr5_fn_X10_signOf (1 : Int32) I hI J8) (fun r27 _ _ h302 => (q5x_b3 (fr5_fn_X10_signOf (6 : Int32) I hI J8) (fun r34 _ _ h303 => (q5x_b2 (fr5_fn_X10_go (80 : Int32) (288 : Int32) I hI J8) (fun _ J36 h304 => (fr5_fl_X10_findSigns_51_0 r20 r27 r34 J36 (fun (x43 : Int32) (I44 : Iv) => (I44, J36)) (fun x43 I44 h305 => h305) (mU (7 : Int32) ((0 : Int32)) + 1) (0 : Int32) I hI)))))))))))))
theorem fr5_fn_X10_sign {I0 : Iv} (set : Int32) (n : Int32) (what : Int32) (I : Iv) (J : Jv) (hb : KI5 I0 (fn_X10_begin I J).1) : Qe3 I0 (fn_X10_sign set n what I J) := by
  unfold fn_X10_sign
  exact (q5x_b2 hb (fun I1 J2 h306 => (q5x_b3 (fr5_fn_X10_isSet set I1 h306 J2) (fun r13 _ _ h307 => (q5x_ite h306 (q5x_b3 (fr5_fn_X10_isSign what I1 h306 J2) (fun r20 _ _ h308 => (q5x_ite h306 (q5x_b3 (fr5_fn_X10_areDays n I1 h306 J2) (fun r27 _ _ h309 => (q5x_ite h306 (q5x_b2 (fr5_fn_X10_findSigns set n I1 h306 J2) (fun I29 J30 h310 => h310)))))))))))))
theorem fr5_fl_X10_weightOf_127_3 {I0 : Iv} (I : Iv) (J : Jv) (v9 : Int32) (Kf3 : Int64 → Int32 → Int64 × Iv × Jv) (hI : KI5 I0 I) (hKf3 : ∀ (a311 : Int64) (a312 : Int32), Qe3 I0 (Kf3 a311 a312)) : ∀ (fu : Nat) (x10 : Int64) (x11 : Int32), Qe3 I0 (fl_X10_weightOf_127_3 I J v9 Kf3 fu x10 x11) := by
  intro fu
  induction fu with
  | zero =>
    intro x10 x11
    rw [fl_X10_weightOf_127_3.eq_1]
    exact hI
  | succ kf3 ih =>
    intro x10 x11
    rw [fl_X10_weightOf_127_3.eq_2]
    exact (q5x_ite (hKf3 x10 x11) (q5x_ite (hKf3 x10 x11) (q5x_lt (fun v13 => (ih v13 (x11 + (1 : Int32)))))))
theorem fr5_fl_X10_weightOf_62_1 {I0 : Iv} (I : Iv) (J : Jv) (set : Int32) (Kf1 : Int64 → Int32 → Int64 × Iv × Jv) (hI : KI5 I0 I) (hKf1 : ∀ (a313 : Int64) (a314 : Int32), Qe3 I0 (Kf1 a313 a314)) : ∀ (fu : Nat) (x4 : Int64) (x5 : Int32), Qe3 I0 (fl_X10_weightOf_62_1 I J set Kf1 fu x4 x5) := by
  intro fu
  induction fu with
  | zero =>
    intro x4 x5
    rw [fl_X10_weightOf_62_1.eq_1]
    exact hI
  | succ kf1 ih =>
    intro x4 x5
    rw [fl_X10_weightOf_62_1.eq_2]
    exact (q5x_ite (hKf1 x4 x5) (q5x_ite (ih x4 (x5 + (1 : Int32))) (q5x_lt (fun v7 => (q5x_jn (P := fun (j : Int32 → Int64 × Iv × Jv) => ∀ (a315 : Int32), Qe3 I0 (j a315)) (fun w8 => (q5x_lt (fun v9 => (fr5_fl_X10_weightOf_127_3 I J v9 (fun (x10 : Int64) (x11 : Int32) => fl_X10_weightOf_62_1 I J set Kf1 kf1 x10 (x5 + (1 : Int32))) hI (fun x10 x11 => (ih x10 (x5 + (1 : Int32)))) (mU v9 ((0 : Int32)) + 1) x4 (0 : Int32))))) (fun j114_2 j316 => (q5x_ite (j316 v7) (j316 ((-v7))))))))))
theorem fr5_fl_X10_weightOf_7_0 {I0 : Iv} (I : Iv) (J : Jv) (set : Int32) (Kf0 : Int64 → Int32 → Int64 × Iv × Jv) (hI : KI5 I0 I) (hKf0 : ∀ (a317 : Int64) (a318 : Int32), Qe3 I0 (Kf0 a317 a318)) : ∀ (fu : Nat) (x1 : Int64) (x2 : Int32), Qe3 I0 (fl_X10_weightOf_7_0 I J set Kf0 fu x1 x2) := by
  intro fu
  induction fu with
  | zero =>
    intro x1 x2
    rw [fl_X10_weightOf_7_0.eq_1]
    exact hI
  | succ kf0 ih =>
    intro x1 x2
    rw [fl_X10_weightOf_7_0.eq_2]
    exact (q5x_ite (hKf0 x1 x2) (q5x_b3 (fr5_fn_X10_has (Int32.toInt64 set) x2 I hI J) (fun r19 _ _ h319 => (q5x_jn (P := fun (j : Int32 → Int64 × Iv × Jv) => ∀ (a320 : Int32), Qe3 I0 (j a320)) (fun w21 => (q5x_lt (fun v22 => (ih v22 (x2 + (1 : Int32)))))) (fun j46_4 j321 => (q5x_ite (j321 (((1000 : Int32) - (I 94 x2.toNatClampNeg)))) (j321 ((I 94 x2.toNatClampNeg)))))))))
theorem fr5_fn_X10_weightOf {I0 : Iv} (set : Int32) (I : Iv) (hI : KI5 I0 I) (J : Jv) : Qe3 I0 (fn_X10_weightOf set I J) := by
  unfold fn_X10_weightOf
  exact (fr5_fl_X10_weightOf_7_0 I J set (fun (x1 : Int64) (x2 : Int32) => fl_X10_weightOf_62_1 I J set (fun (x4 : Int64) (x5 : Int32) => (x4, I, J)) (mU (7 : Int32) ((0 : Int32)) + 1) x1 (0 : Int32)) hI (fun x1 x2 => (fr5_fl_X10_weightOf_62_1 I J set (fun (x4 : Int64) (x5 : Int32) => (x4, I, J)) hI (fun x4 x5 => hI) (mU (7 : Int32) ((0 : Int32)) + 1) x1 (0 : Int32))) (mU (7 : Int32) ((0 : Int32)) + 1) (1000000 : Int64) (0 : Int32))
theorem fr5_fl_X10_weigh_36_1 {I0 : Iv} (x3 : Int32) (J18 : Jv) (Kf1 : Int32 → Iv → Iv × Jv) (hKf1 : ∀ (a322 : Int32) (a323 : Iv), KI5 I0 a323 → Qe2 I0 (Kf1 a322 a323)) : ∀ (fu : Nat) (x24 : Int32) (I25 : Iv), KI5 I0 I25 → Qe2 I0 (fl_X10_weigh_36_1 x3 J18 Kf1 fu x24 I25) := by
  intro fu
  induction fu with
  | zero =>
    intro x24 I25 hI25
    rw [fl_X10_weigh_36_1.eq_1]
    exact hI25
  | succ kf1 ih =>
    intro x24 I25 hI25
    rw [fl_X10_weigh_36_1.eq_2]
    exact (q5x_ite (hKf1 x24 I25 hI25) (q5x_ltI (kI5_w rfl hI25) (fun I39 h324 => (ih (x24 + (1 : Int32)) I39 h324))))
theorem fr5_fl_X10_weigh_7_0 {I0 : Iv} (n : Int32) (Kf0 : Int32 → Iv → Jv → Iv × Jv) (hKf0 : ∀ (a325 : Int32) (a326 : Iv) (a327 : Jv), KI5 I0 a326 → Qe2 I0 (Kf0 a325 a326 a327)) : ∀ (fu : Nat) (x3 : Int32) (I4 : Iv) (J5 : Jv), KI5 I0 I4 → Qe2 I0 (fl_X10_weigh_7_0 n Kf0 fu x3 I4 J5) := by
  intro fu
  induction fu with
  | zero =>
    intro x3 I4 J5 hI4
    rw [fl_X10_weigh_7_0.eq_1]
    exact hI4
  | succ kf0 ih =>
    intro x3 I4 J5 hI4
    rw [fl_X10_weigh_7_0.eq_2]
    exact (q5x_ite (hKf0 x3 I4 J5 hI4) (q5x_lt (fun J8 => (q5x_b3 (fr5_fn_X10_couldBe x3 I4 hI4 J8) (fun r15 _ _ h328 => (q5x_ite (ih (x3 + (1 : Int32)) I4 J8 hI4) (q5x_b2 (fr5_fn_X10_findSigns x3 n I4 hI4 J8) (fun I17 J18 h329 => (fr5_fl_X10_weigh_36_1 x3 J18 (fun (x24 : Int32) (I25 : Iv) => b_n3 (fn_X10_weightOf x3 I25 J18) (fun (r33 : Int64) (_ : Iv) (_ : Jv) => l_t (wJ J18 96 (x3.toNatClampNeg) r33) (fun (J35 : Jv) => l_t (wJ J35 78 28 ((J35 78 28) + (J35 96 x3.toNatClampNeg))) (fun (J37 : Jv) => fl_X10_weigh_7_0 n Kf0 kf0 (x3 + (1 : Int32)) I25 J37)))) (fun x24 I25 h330 => (q5x_b3 (fr5_fn_X10_weightOf x3 I25 h330 J18) (fun r33 _ _ h331 => (q5x_lt (fun J35 => (q5x_lt (fun J37 => (ih (x3 + (1 : Int32)) I25 J37 h330)))))))) (mU (7 : Int32) ((0 : Int32)) + 1) (0 : Int32) I17 h329)))))))))
theorem fr5_fn_X10_weigh {I0 : Iv} (n : Int32) (I : Iv) (hI : KI5 I0 I) (J : Jv) : Qe2 I0 (fn_X10_weigh n I J) := by
  unfold fn_X10_weigh
  exact (q5x_lt (fun J1 => (fr5_fl_X10_weigh_7_0 n (fun (x3 : Int32) (I4 : Iv) (J5 : Jv) => (I4, J5)) (fun x3 I4 J5 h332 => h332) (mU (128 : Int32) ((0 : Int32)) + 1) (0 : Int32) I J1 hI)))
theorem fr5_fn_X10_oddsOf {I0 : Iv} (set : Int32) (I : Iv) (hI : KI5 I0 I) (J : Jv) : Qe3 I0 (fn_X10_oddsOf set I J) := by
  unfold fn_X10_oddsOf
  exact (q5x_ite hI hI)
theorem fr5_fl_X10_tellsOf_59_2 {I0 : Iv} (I : Iv) (J : Jv) (what : Int32) (w1 : Int32) (x3 : Int32) (Kf2 : Int64 → Int32 → Int32 × Iv × Jv) (hI : KI5 I0 I) (hKf2 : ∀ (a333 : Int64) (a334 : Int32), Qe3 I0 (Kf2 a333 a334)) : ∀ (fu : Nat) (x12 : Int64) (x13 : Int32), Qe3 I0 (fl_X10_tellsOf_59_2 I J what w1 x3 Kf2 fu x12 x13) := by
  intro fu
  induction fu with
  | zero =>
    intro x12 x13
    rw [fl_X10_tellsOf_59_2.eq_1]
    exact hI
  | succ kf2 ih =>
    intro x12 x13
    rw [fl_X10_tellsOf_59_2.eq_2]
    exact (q5x_ite (hKf2 x12 x13) (q5x_b3 (fr5_fn_X10_couldBe x13 I hI J) (fun r21 _ _ h335 => (q5x_ite (ih x12 (x13 + (1 : Int32))) (q5x_ite (q5x_lt (fun v23 => (ih v23 (x13 + (1 : Int32))))) (ih x12 (x13 + (1 : Int32))))))))
theorem fr5_fl_X10_tellsOf_37_1 {I0 : Iv} (I : Iv) (J : Jv) (what : Int32) (w1 : Int32) (Kf1 : Int64 → Int32 → Int32 × Iv × Jv) (hI : KI5 I0 I) (hKf1 : ∀ (a336 : Int64) (a337 : Int32), Qe3 I0 (Kf1 a336 a337)) : ∀ (fu : Nat) (x2 : Int64) (x3 : Int32), Qe3 I0 (fl_X10_tellsOf_37_1 I J what w1 Kf1 fu x2 x3) := by
  intro fu
  induction fu with
  | zero =>
    intro x2 x3
    rw [fl_X10_tellsOf_37_1.eq_1]
    exact hI
  | succ kf1 ih =>
    intro x2 x3
    rw [fl_X10_tellsOf_37_1.eq_2]
    exact (q5x_ite (hKf1 x2 x3) (q5x_b3 (fr5_fn_X10_couldBe x3 I hI J) (fun r10 _ _ h338 => (q5x_ite (ih x2 (x3 + (1 : Int32))) (fr5_fl_X10_tellsOf_59_2 I J what w1 x3 (fun (x12 : Int64) (x13 : Int32) => l_t ((x2 + ((J 96 x3.toNatClampNeg) * x12))) (fun (v15 : Int64) => fl_X10_tellsOf_37_1 I J what w1 Kf1 kf1 v15 (x3 + (1 : Int32)))) hI (fun x12 x13 => (q5x_lt (fun v15 => (ih v15 (x3 + (1 : Int32)))))) (mU (128 : Int32) ((0 : Int32)) + 1) (0 : Int64) (0 : Int32))))))
theorem fr5_fn_X10_tellsOf {I0 : Iv} (what : Int32) (I : Iv) (hI : KI5 I0 I) (J : Jv) : Qe3 I0 (fn_X10_tellsOf what I J) := by
  unfold fn_X10_tellsOf
  exact (q5x_ite hI (q5x_jn (P := fun (j : Int32 → Int32 × Iv × Jv) => ∀ (a339 : Int32), Qe3 I0 (j a339)) (fun w1 => (fr5_fl_X10_tellsOf_37_1 I J what w1 (fun (x2 : Int64) (x3 : Int32) => ((Int64.toInt32 ((1000 : Int64) - (((1000 : Int64) * x2) / ((J 78 28) * (J 78 28))))), I, J)) hI (fun x2 x3 => hI) (mU (128 : Int32) ((0 : Int32)) + 1) (0 : Int64) (0 : Int32))) (fun j31_0 j340 => (q5x_ite (j340 ((50 : Int32))) (j340 ((I 93 what.toNatClampNeg)))))))
theorem fr5_fn_X10_odds {I0 : Iv} (set : Int32) (n : Int32) (I : Iv) (J : Jv) (hb : KI5 I0 (fn_X10_begin I J).1) : Qe3 I0 (fn_X10_odds set n I J) := by
  unfold fn_X10_odds
  exact (q5x_b2 hb (fun I1 J2 h341 => (q5x_b3 (fr5_fn_X10_isSet set I1 h341 J2) (fun r13 _ _ h342 => (q5x_ite h341 (q5x_b3 (fr5_fn_X10_couldBe set I1 h341 J2) (fun r20 _ _ h343 => (q5x_ite h341 (q5x_b3 (fr5_fn_X10_areDays n I1 h341 J2) (fun r27 _ _ h344 => (q5x_ite h341 (q5x_b2 (fr5_fn_X10_weigh n I1 h341 J2) (fun I29 J30 h345 => (q5x_b3 (fr5_fn_X10_oddsOf set I29 h345 J30) (fun r41 _ _ h346 => h345)))))))))))))))
theorem fr5_fl_X10_each_35_0 {I0 : Iv} (k : Int32) (I22 : Iv) (J23 : Jv) (Kf0 : Int32 → Int32 → Int32 × Iv × Jv) (hI22 : KI5 I0 I22) (hKf0 : ∀ (a347 : Int32) (a348 : Int32), Qe3 I0 (Kf0 a347 a348)) : ∀ (fu : Nat) (x29 : Int32) (x30 : Int32), Qe3 I0 (fl_X10_each_35_0 k I22 J23 Kf0 fu x29 x30) := by
  intro fu
  induction fu with
  | zero =>
    intro x29 x30
    rw [fl_X10_each_35_0.eq_1]
    exact hI22
  | succ kf0 ih =>
    intro x29 x30
    rw [fl_X10_each_35_0.eq_2]
    exact (q5x_ite (hKf0 x29 x30) (q5x_b3 (fr5_fn_X10_couldBe x30 I22 hI22 J23) (fun r37 _ _ h349 => (q5x_ite (q5x_lt (fun v39 => (ih v39 (x30 + (1 : Int32))))) (q5x_b3 (fr5_fn_X10_has (Int32.toInt64 x30) k I22 hI22 J23) (fun r45 _ _ h350 => (q5x_ite (q5x_lt (fun v47 => (ih v47 (x30 + (1 : Int32))))) (q5x_b3 (fr5_fn_X10_oddsOf x30 I22 hI22 J23) (fun r53 _ _ h351 => (q5x_lt (fun v55 => (ih v55 (x30 + (1 : Int32))))))))))))))
theorem fr5_fn_X10_each {I0 : Iv} (k : Int32) (n : Int32) (I : Iv) (J : Jv) (hb : KI5 I0 (fn_X10_begin I J).1) : Qe3 I0 (fn_X10_each k n I J) := by
  unfold fn_X10_each
  exact (q5x_b2 hb (fun I1 J2 h352 => (q5x_b3 (fr5_fn_X10_isTrouble k I1 h352 J2) (fun r13 _ _ h353 => (q5x_ite h352 (q5x_b3 (fr5_fn_X10_areDays n I1 h352 J2) (fun r20 _ _ h354 => (q5x_ite h352 (q5x_b2 (fr5_fn_X10_weigh n I1 h352 J2) (fun I22 J23 h355 => (fr5_fl_X10_each_35_0 k I22 J23 (fun (x29 : Int32) (x30 : Int32) => (x29, I22, J23)) h355 (fun x29 x30 => h355) (mU (128 : Int32) ((0 : Int32)) + 1) (0 : Int32) (0 : Int32))))))))))))
theorem fr5_fn_X10_tells {I0 : Iv} (what : Int32) (n : Int32) (I : Iv) (J : Jv) (hb : KI5 I0 (fn_X10_begin I J).1) : Qe3 I0 (fn_X10_tells what n I J) := by
  unfold fn_X10_tells
  exact (q5x_b2 hb (fun I1 J2 h356 => (q5x_b3 (fr5_fn_X10_isSign what I1 h356 J2) (fun r13 _ _ h357 => (q5x_ite h356 (q5x_b3 (fr5_fn_X10_areDays n I1 h356 J2) (fun r20 _ _ h358 => (q5x_ite h356 (q5x_b2 (fr5_fn_X10_weigh n I1 h356 J2) (fun I22 J23 h359 => (q5x_b3 (fr5_fn_X10_tellsOf what I22 h359 J23) (fun r34 _ _ h360 => h359))))))))))))
theorem fr5_fl_X10_next_26_0 {I0 : Iv} (I15 : Iv) (J16 : Jv) (Kf0 : Int32 → Int32 → Int32 → Int32 × Iv × Jv) (hI15 : KI5 I0 I15) (hKf0 : ∀ (a361 : Int32) (a362 : Int32) (a363 : Int32), Qe3 I0 (Kf0 a361 a362 a363)) : ∀ (fu : Nat) (x22 : Int32) (x23 : Int32) (x24 : Int32), Qe3 I0 (fl_X10_next_26_0 I15 J16 Kf0 fu x22 x23 x24) := by
  intro fu
  induction fu with
  | zero =>
    intro x22 x23 x24
    rw [fl_X10_next_26_0.eq_1]
    exact hI15
  | succ kf0 ih =>
    intro x22 x23 x24
    rw [fl_X10_next_26_0.eq_2]
    exact (q5x_ite (hKf0 x22 x23 x24) (q5x_jn (P := fun (j : Int32 → Int32 × Iv × Jv) => ∀ (a364 : Int32), Qe3 I0 (j a364)) (fun w26 => (q5x_ite (q5x_jn (P := Qe3 I0) (ih x24 w26 (x24 + (1 : Int32))) (fun j83_2 j365 => (q5x_ite j365 (q5x_ite (ih x22 x23 (x24 + (1 : Int32))) j365)))) (ih x22 x23 (x24 + (1 : Int32))))) (fun j61_1 j366 => (q5x_ite (q5x_b3 (fr5_fn_X10_tellsOf x24 I15 hI15 J16) (fun r32 _ _ h367 => (j366 ((r32 - (I15 95 x24.toNatClampNeg)))))) (j366 ((0 : Int32)))))))
theorem fr5_fn_X10_next {I0 : Iv} (n : Int32) (I : Iv) (J : Jv) (hb : KI5 I0 (fn_X10_begin I J).1) : Qe3 I0 (fn_X10_next n I J) := by
  unfold fn_X10_next
  exact (q5x_b2 hb (fun I1 J2 h368 => (q5x_b3 (fr5_fn_X10_areDays n I1 h368 J2) (fun r13 _ _ h369 => (q5x_ite h368 (q5x_b2 (fr5_fn_X10_weigh n I1 h368 J2) (fun I15 J16 h370 => (fr5_fl_X10_next_26_0 I15 J16 (fun (x22 : Int32) (x23 : Int32) (x24 : Int32) => (x22, I15, J16)) h370 (fun x22 x23 x24 => h370) (mU (7 : Int32) ((0 : Int32)) + 1) (-1 : Int32) (0 : Int32) (0 : Int32)))))))))
theorem fr5_fl_X10_makes_35_0 {I0 : Iv} (what : Int32) (I1 : Iv) (Kf0 : Int32 → Jv → Int32 × Iv × Jv) (hI1 : KI5 I0 I1) (hKf0 : ∀ (a371 : Int32) (a372 : Jv), Qe3 I0 (Kf0 a371 a372)) : ∀ (fu : Nat) (x29 : Int32) (J30 : Jv), Qe3 I0 (fl_X10_makes_35_0 what I1 Kf0 fu x29 J30) := by
  intro fu
  induction fu with
  | zero =>
    intro x29 J30
    rw [fl_X10_makes_35_0.eq_1]
    exact hI1
  | succ kf0 ih =>
    intro x29 J30
    rw [fl_X10_makes_35_0.eq_2]
    exact (q5x_ite (hKf0 x29 J30) (q5x_lt (fun v33 => (q5x_b2 (fr5_fn_X10_go (80 : Int32) (288 : Int32) I1 hI1 J30) (fun _ J34 h373 => (q5x_ite (q5x_ite (ih (x29 + (1 : Int32)) J34) hI1) (q5x_ite hI1 (ih (x29 + (1 : Int32)) J34))))))))
theorem fr5_fn_X10_makes {I0 : Iv} (set : Int32) (what : Int32) (I : Iv) (J : Jv) (hb : KI5 I0 (fn_X10_begin I J).1) : Qe3 I0 (fn_X10_makes set what I J) := by
  unfold fn_X10_makes
  exact (q5x_b2 hb (fun I1 J2 h374 => (q5x_b3 (fr5_fn_X10_isSet set I1 h374 J2) (fun r13 _ _ h375 => (q5x_ite h374 (q5x_b3 (fr5_fn_X10_in (Int32.toInt64 what) (0 : Int64) (1 : Int64) I1 h374 J2) (fun r20 _ _ h376 => (q5x_ite h374 (q5x_b2 (fr5_fn_X10_tryFresh set I1 h374 J2) (fun _ J22 h377 => (fr5_fl_X10_makes_35_0 what I1 (fun (x29 : Int32) (J30 : Jv) => ((-1 : Int32), I1, J30)) h374 (fun x29 J30 => h374) (mUe (30 : Int32) ((1 : Int32)) + 1) (1 : Int32) J22)))))))))))
theorem fr5_fn_X10_mending {I0 : Iv} (k : Int32) (c : Int32) (I : Iv) (J : Jv) (hb : KI5 I0 (fn_X10_begin I J).1) : Qe3 I0 (fn_X10_mending k c I J) := by
  unfold fn_X10_mending
  exact (q5x_b2 hb (fun I1 J2 h378 => (q5x_b3 (fr5_fn_X10_isTrouble k I1 h378 J2) (fun r13 _ _ h379 => (q5x_ite h378 (q5x_b3 (fr5_fn_X10_in (Int32.toInt64 c) (0 : Int64) (999 : Int64) I1 h378 J2) (fun r20 _ _ h380 => (q5x_ite h378 (q5x_lt (fun v22 => (q5x_ltI (kI5_w rfl h378) (fun I23 h381 => h381))))))))))))
theorem fr5_fn_X10_price {I0 : Iv} (x : Int32) (I : Iv) (J : Jv) (hb : KI5 I0 (fn_X10_begin I J).1) : Qe3 I0 (fn_X10_price x I J) := by
  unfold fn_X10_price
  exact (q5x_b2 hb (fun I1 J2 h382 => (q5x_b3 (fr5_fn_X10_in (Int32.toInt64 x) (0 : Int64) (999 : Int64) I1 h382 J2) (fun r13 _ _ h383 => (q5x_ite h382 (q5x_lt (fun v15 => (q5x_ltI (kI5_w rfl h382) (fun I16 h384 => h384)))))))))
theorem fr5_fn_X10_yearOf {I0 : Iv} (set : Int32) (I : Iv) (hI : KI5 I0 I) (J : Jv) : Qe3 I0 (fn_X10_yearOf set I J) := by
  unfold fn_X10_yearOf
  exact (q5x_b2 (fr5_fn_X10_findSigns set (2 : Int32) I hI J) (fun I1 J2 h385 => h385))
theorem fr5_fn_X10_year {I0 : Iv} (set : Int32) (I : Iv) (J : Jv) (hb : KI5 I0 (fn_X10_begin I J).1) : Qe3 I0 (fn_X10_year set I J) := by
  unfold fn_X10_year
  exact (q5x_b2 hb (fun I1 J2 h386 => (q5x_b3 (fr5_fn_X10_isSet set I1 h386 J2) (fun r13 _ _ h387 => (q5x_ite h386 (q5x_b3 (fr5_fn_X10_yearOf set I1 h386 J2) (fun r20 I15 J16 h388 => h388)))))))
theorem fr5_fn_X10_saves {I0 : Iv} (set : Int32) (part : Int32) (I : Iv) (J : Jv) (hb : KI5 I0 (fn_X10_begin I J).1) : Qe3 I0 (fn_X10_saves set part I J) := by
  unfold fn_X10_saves
  exact (q5x_b2 hb (fun I1 J2 h389 => (q5x_b3 (fr5_fn_X10_isSet set I1 h389 J2) (fun r13 _ _ h390 => (q5x_ite h389 (q5x_b3 (fr5_fn_X10_isSet part I1 h389 J2) (fun r20 _ _ h391 => (q5x_ite h389 (q5x_ite (q5x_b3 (fr5_fn_X10_yearOf set I1 h389 J2) (fun r27 I22 J23 h392 => (q5x_b3 (fr5_fn_X10_yearOf (set &&& (part ^^^ (-1 : Int32))) I22 h392 J23) (fun r35 I30 J31 h393 => h393)))) h389)))))))))
theorem fr5_fl_X10_best_75_1 {I0 : Iv} (x40 : Int32) (I41 : Iv) (J42 : Jv) (Kf1 : Int32 → Int32 → Int32 × Iv × Jv) (hI41 : KI5 I0 I41) (hKf1 : ∀ (a394 : Int32) (a395 : Int32), Qe3 I0 (Kf1 a394 a395)) : ∀ (fu : Nat) (x45 : Int32) (x46 : Int32), Qe3 I0 (fl_X10_best_75_1 x40 I41 J42 Kf1 fu x45 x46) := by
  intro fu
  induction fu with
  | zero =>
    intro x45 x46
    rw [fl_X10_best_75_1.eq_1]
    exact hI41
  | succ kf1 ih =>
    intro x45 x46
    rw [fl_X10_best_75_1.eq_2]
    exact (q5x_ite (hKf1 x45 x46) (q5x_b3 (fr5_fn_X10_has (Int32.toInt64 x40) x46 I41 hI41 J42) (fun r62 _ _ h396 => (q5x_ite (q5x_lt (fun v64 => (ih v64 (x46 + (1 : Int32))))) (q5x_lt (fun v65 => (ih v65 (x46 + (1 : Int32)))))))))
theorem fr5_fl_X10_best_61_0 {I0 : Iv} (set : Int32) (c : Int32) (r34 : Int32) (Kf0 : Int32 → Int32 → Int32 → Int32 → Iv → Jv → Int32 × Iv × Jv) (hKf0 : ∀ (a397 : Int32) (a398 : Int32) (a399 : Int32) (a400 : Int32) (a401 : Iv) (a402 : Jv), KI5 I0 a401 → Qe3 I0 (Kf0 a397 a398 a399 a400 a401 a402)) : ∀ (fu : Nat) (x37 : Int32) (x38 : Int32) (x39 : Int32) (x40 : Int32) (I41 : Iv) (J42 : Jv), KI5 I0 I41 → Qe3 I0 (fl_X10_best_61_0 set c r34 Kf0 fu x37 x38 x39 x40 I41 J42) := by
  intro fu
  induction fu with
  | zero =>
    intro x37 x38 x39 x40 I41 J42 hI41
    rw [fl_X10_best_61_0.eq_1]
    exact hI41
  | succ kf0 ih =>
    intro x37 x38 x39 x40 I41 J42 hI41
    rw [fl_X10_best_61_0.eq_2]
    exact (q5x_ite (hKf0 x37 x38 x39 x40 I41 J42 hI41) (fr5_fl_X10_best_75_1 x40 I41 J42 (fun (x45 : Int32) (x46 : Int32) => if (x40 &&& (set ^^^ (-1 : Int32))) = 0 then if c < x45 then fl_X10_best_61_0 set c r34 Kf0 kf0 x37 x38 x39 (x40 + (1 : Int32)) I41 J42 else b_n3 (fn_X10_yearOf (set &&& (x40 ^^^ (-1 : Int32))) I41 J42) (fun (r53 : Int32) (I48 : Iv) (J49 : Jv) => l_t ((r34 - r53)) (fun (v56 : Int32) => j_n (fl_X10_best_61_0 set c r34 Kf0 kf0 x40 v56 x45 (x40 + (1 : Int32)) I48 J49) (fun (j166_2 : Int32 × Iv × Jv) => if x38 < v56 then j166_2 else if v56 = x38 then if x39 ≤ x45 then fl_X10_best_61_0 set c r34 Kf0 kf0 x37 x38 x39 (x40 + (1 : Int32)) I48 J49 else j166_2 else fl_X10_best_61_0 set c r34 Kf0 kf0 x37 x38 x39 (x40 + (1 : Int32)) I48 J49))) else fl_X10_best_61_0 set c r34 Kf0 kf0 x37 x38 x39 (x40 + (1 : Int32)) I41 J42) hI41 (fun x45 x46 => (q5x_ite (q5x_ite (ih x37 x38 x39 (x40 + (1 : Int32)) I41 J42 hI41) (q5x_b3 (fr5_fn_X10_yearOf (set &&& (x40 ^^^ (-1 : Int32))) I41 hI41 J42) (fun r53 I48 J49 h403 => (q5x_lt (fun v56 => (q5x_jn (P := Qe3 I0) (ih x40 v56 x45 (x40 + (1 : Int32)) I48 J49 h403) (fun j166_2 j404 => (q5x_ite j404 (q5x_ite (q5x_ite (ih x37 x38 x39 (x40 + (1 : Int32)) I48 J49 h403) j404) (ih x37 x38 x39 (x40 + (1 : Int32)) I48 J49 h403)))))))))) (ih x37 x38 x39 (x40 + (1 : Int32)) I41 J42 hI41))) (mU (7 : Int32) ((0 : Int32)) + 1) (0 : Int32) (0 : Int32)))
theorem fr5_fn_X10_best {I0 : Iv} (set : Int32) (c : Int32) (what : Int32) (I : Iv) (J : Jv) (hb : KI5 I0 (fn_X10_begin I J).1) : Qe3 I0 (fn_X10_best set c what I J) := by
  unfold fn_X10_best
  exact (q5x_b2 hb (fun I1 J2 h405 => (q5x_b3 (fr5_fn_X10_isSet set I1 h405 J2) (fun r13 _ _ h406 => (q5x_ite h405 (q5x_b3 (fr5_fn_X10_in (Int32.toInt64 c) (0 : Int64) (9999 : Int64) I1 h405 J2) (fun r20 _ _ h407 => (q5x_ite h405 (q5x_b3 (fr5_fn_X10_in (Int32.toInt64 what) (0 : Int64) (2 : Int64) I1 h405 J2) (fun r27 _ _ h408 => (q5x_ite h405 (q5x_b3 (fr5_fn_X10_yearOf set I1 h405 J2) (fun r34 I29 J30 h409 => (fr5_fl_X10_best_61_0 set c r34 (fun (x37 : Int32) (x38 : Int32) (x39 : Int32) (x40 : Int32) (I41 : Iv) (J42 : Jv) => if what = 0 then (x37, I41, J42) else if what = (1 : Int32) then (x38, I41, J42) else (x39, I41, J42)) (fun x37 x38 x39 x40 I41 J42 h410 => (q5x_ite h410 (q5x_ite h410 h410))) (mU (128 : Int32) ((1 : Int32)) + 1) (0 : Int32) (0 : Int32) (0 : Int32) (1 : Int32) I29 J30 h409))))))))))))))
theorem fr5_fl_X10_pays_70_0 {I0 : Iv} (c : Int32) (I29 : Iv) (J30 : Jv) (v37 : Int64) (Kf0 : Int32 → Int32 × Iv × Jv) (hI29 : KI5 I0 I29) (hKf0 : ∀ (a411 : Int32), Qe3 I0 (Kf0 a411)) : ∀ (fu : Nat) (x38 : Int32), Qe3 I0 (fl_X10_pays_70_0 c I29 J30 v37 Kf0 fu x38) := by
  intro fu
  induction fu with
  | zero =>
    intro x38
    rw [fl_X10_pays_70_0.eq_1]
    exact hI29
  | succ kf0 ih =>
    intro x38
    rw [fl_X10_pays_70_0.eq_2]
    exact (q5x_ite (hKf0 x38) (q5x_ite (ih (x38 + (1 : Int32))) hI29))
theorem fr5_fn_X10_pays {I0 : Iv} (set : Int32) (c : Int32) (u : Int32) (I : Iv) (J : Jv) (hb : KI5 I0 (fn_X10_begin I J).1) : Qe3 I0 (fn_X10_pays set c u I J) := by
  unfold fn_X10_pays
  exact (q5x_b2 hb (fun I1 J2 h412 => (q5x_b3 (fr5_fn_X10_isSet set I1 h412 J2) (fun r13 _ _ h413 => (q5x_ite h412 (q5x_b3 (fr5_fn_X10_in (Int32.toInt64 c) (0 : Int64) (99999 : Int64) I1 h412 J2) (fun r20 _ _ h414 => (q5x_ite h412 (q5x_b3 (fr5_fn_X10_in (Int32.toInt64 u) (0 : Int64) (9999 : Int64) I1 h412 J2) (fun r27 _ _ h415 => (q5x_ite h412 (q5x_b3 (fr5_fn_X10_yearOf set I1 h412 J2) (fun r34 I29 J30 h416 => (q5x_lt (fun v37 => (fr5_fl_X10_pays_70_0 c I29 J30 v37 (fun (x38 : Int32) => ((-1 : Int32), I29, J30)) h416 (fun x38 => h416) (mUe (30 : Int32) ((1 : Int32)) + 1) (1 : Int32)))))))))))))))))
theorem fr5_fl_X10_iceOf_11_0 {I0 : Iv} (I : Iv) (n : Int32) (p : Int32) (Kf0 : Int32 → Int32 → Jv → Int64 × Iv × Jv) (hI : KI5 I0 I) (hKf0 : ∀ (a417 : Int32) (a418 : Int32) (a419 : Jv), Qe3 I0 (Kf0 a417 a418 a419)) : ∀ (fu : Nat) (x8 : Int32) (x9 : Int32) (J10 : Jv), Qe3 I0 (fl_X10_iceOf_11_0 I n p Kf0 fu x8 x9 J10) := by
  intro fu
  induction fu with
  | zero =>
    intro x8 x9 J10
    rw [fl_X10_iceOf_11_0.eq_1]
    exact hI
  | succ kf0 ih =>
    intro x8 x9 J10
    rw [fl_X10_iceOf_11_0.eq_2]
    exact (q5x_ite (hKf0 x8 x9 J10) (q5x_jn (P := fun (j : Int32 → Jv → Int64 × Iv × Jv) => ∀ (a420 : Int32) (a421 : Jv), Qe3 I0 (j a420 a421)) (fun y13 J14 => (q5x_b2 (fr5_fn_X10_go (80 : Int32) (288 : Int32) I hI J14) (fun _ J16 h422 => (ih y13 (x9 + (1 : Int32)) J16)))) (fun j46_1 j423 => (q5x_ite (j423 x8 J10) (q5x_ite (j423 x8 J10) (q5x_ite (q5x_b3 (fr5_fn_X10_melt (80 : Int32) I hI J10) (fun r28 _ J23 h424 => (j423 ((x8 + (1 : Int32))) J23))) (j423 x8 J10)))))))
theorem fr5_fn_X10_iceOf {I0 : Iv} (set : Int32) (n : Int32) (b : Int32) (p : Int32) (I : Iv) (hI : KI5 I0 I) (J : Jv) : Qe3 I0 (fn_X10_iceOf set n b p I J) := by
  unfold fn_X10_iceOf
  exact (q5x_b2 (fr5_fn_X10_tryFresh set I hI J) (fun _ J1 h425 => (fr5_fl_X10_iceOf_11_0 I n p (fun (x8 : Int32) (x9 : Int32) (J10 : Jv) => (((((J10 79 143) * (Int32.toInt64 (I 78 30))) / (1000 : Int64)) + ((Int32.toInt64 b) * (Int32.toInt64 x8))), I, J10)) hI (fun x8 x9 J10 => hI) (mU n ((0 : Int32)) + 1) (0 : Int32) (0 : Int32) J1)))
theorem fr5_fl_X10_ice_58_0 {I0 : Iv} (set : Int32) (n : Int32) (b : Int32) (Kf0 : Int32 → Int64 → Int32 → Iv → Jv → Int32 × Iv × Jv) (hKf0 : ∀ (a426 : Int32) (a427 : Int64) (a428 : Int32) (a429 : Iv) (a430 : Jv), KI5 I0 a429 → Qe3 I0 (Kf0 a426 a427 a428 a429 a430)) : ∀ (fu : Nat) (x37 : Int32) (x38 : Int64) (x39 : Int32) (I40 : Iv) (J41 : Jv), KI5 I0 I40 → Qe3 I0 (fl_X10_ice_58_0 set n b Kf0 fu x37 x38 x39 I40 J41) := by
  intro fu
  induction fu with
  | zero =>
    intro x37 x38 x39 I40 J41 hI40
    rw [fl_X10_ice_58_0.eq_1]
    exact hI40
  | succ kf0 ih =>
    intro x37 x38 x39 I40 J41 hI40
    rw [fl_X10_ice_58_0.eq_2]
    exact (q5x_ite (hKf0 x37 x38 x39 I40 J41 hI40) (q5x_b3 (fr5_fn_X10_iceOf set n b x39 I40 hI40 J41) (fun r49 I44 J45 h431 => (q5x_jn (P := fun (j : Int32 → Int32 × Iv × Jv) => ∀ (a432 : Int32), Qe3 I0 (j a432)) (fun w52 => (q5x_ite (ih w52 x38 (x39 + (1 : Int32)) I44 J45 h431) (ih w52 r49 (x39 + (1 : Int32)) I44 J45 h431))) (fun j91_1 j433 => (q5x_ite (j433 x37) (j433 x39)))))))
theorem fr5_fn_X10_ice {I0 : Iv} (set : Int32) (n : Int32) (b : Int32) (I : Iv) (J : Jv) (hb : KI5 I0 (fn_X10_begin I J).1) : Qe3 I0 (fn_X10_ice set n b I J) := by
  unfold fn_X10_ice
  exact (q5x_b2 hb (fun I1 J2 h434 => (q5x_b3 (fr5_fn_X10_isSet set I1 h434 J2) (fun r13 _ _ h435 => (q5x_ite h434 (q5x_b3 (fr5_fn_X10_in (Int32.toInt64 n) (1 : Int64) (20 : Int64) I1 h434 J2) (fun r20 _ _ h436 => (q5x_ite h434 (q5x_b3 (fr5_fn_X10_in (Int32.toInt64 b) (0 : Int64) (999 : Int64) I1 h434 J2) (fun r27 _ _ h437 => (q5x_ite h434 (q5x_b3 (fr5_fn_X10_iceOf set n b (0 : Int32) I1 h434 J2) (fun r34 I29 J30 h438 => (fr5_fl_X10_ice_58_0 set n b (fun (x37 : Int32) (x38 : Int64) (x39 : Int32) (I40 : Iv) (J41 : Jv) => (x37, I40, J41)) (fun x37 x38 x39 I40 J41 h439 => h439) (mUe (20 : Int32) ((1 : Int32)) + 1) (0 : Int32) r34 (1 : Int32) I29 J30 h438))))))))))))))
theorem fr5_fl_X10_within_34_1 {I0 : Iv} (I : Iv) (x2 : Int32) (J13 : Jv) (Kf1 : Int32 → Int32 → Int32 × Iv × Jv) (hI : KI5 I0 I) (hKf1 : ∀ (a440 : Int32) (a441 : Int32), Qe3 I0 (Kf1 a440 a441)) : ∀ (fu : Nat) (x20 : Int32) (x21 : Int32), Qe3 I0 (fl_X10_within_34_1 I x2 J13 Kf1 fu x20 x21) := by
  intro fu
  induction fu with
  | zero =>
    intro x20 x21
    rw [fl_X10_within_34_1.eq_1]
    exact hI
  | succ kf1 ih =>
    intro x20 x21
    rw [fl_X10_within_34_1.eq_2]
    exact (q5x_ite (hKf1 x20 x21) (q5x_ite (hKf1 x20 x21) (q5x_jn (P := fun (j : Int32 → Int32 × Iv × Jv) => ∀ (a442 : Int32), Qe3 I0 (j a442)) (fun w23 => (q5x_b3 (fr5_fn_X10_one w23 I hI J13) (fun r29 _ _ h443 => (q5x_lt (fun v31 => (ih v31 (x21 + (1 : Int32)))))))) (fun j80_2 j444 => (q5x_jn (P := Qe3 I0) (j444 ((0 : Int32))) (fun j79_3 j445 => (q5x_ite (q5x_b3 (fr5_fn_X10_isWithin (80 : Int32) x21 I hI J13) (fun r37 _ _ h446 => (q5x_ite j445 (j444 ((1 : Int32)))))) j445)))))))
theorem fr5_fl_X10_within_4_0 {I0 : Iv} (I : Iv) (shelf : Int32) (Kf0 : Int32 → Int32 → Jv → Int32 × Iv × Jv) (hI : KI5 I0 I) (hKf0 : ∀ (a447 : Int32) (a448 : Int32) (a449 : Jv), Qe3 I0 (Kf0 a447 a448 a449)) : ∀ (fu : Nat) (x1 : Int32) (x2 : Int32) (J3 : Jv), Qe3 I0 (fl_X10_within_4_0 I shelf Kf0 fu x1 x2 J3) := by
  intro fu
  induction fu with
  | zero =>
    intro x1 x2 J3
    rw [fl_X10_within_4_0.eq_1]
    exact hI
  | succ kf0 ih =>
    intro x1 x2 J3
    rw [fl_X10_within_4_0.eq_2]
    exact (q5x_ite (hKf0 x1 x2 J3) (q5x_b3 (fr5_fn_X10_isOpen (J3 79 134) I hI J3) (fun r11 _ _ h450 => (q5x_b2 (fr5_fn_X10_tick (80 : Int32) r11 shelf (0 : Int32) I hI J3) (fun _ J13 h451 => (fr5_fl_X10_within_34_1 I x2 J13 (fun (x20 : Int32) (x21 : Int32) => fl_X10_within_4_0 I shelf Kf0 kf0 x20 (x2 + (1 : Int32)) J13) hI (fun x20 x21 => (ih x20 (x2 + (1 : Int32)) J13)) (mU (8 : Int32) ((0 : Int32)) + 1) x1 (0 : Int32)))))))
theorem fr5_fn_X10_within {I0 : Iv} (shelf : Int32) (I : Iv) (hI : KI5 I0 I) (J : Jv) : Qe3 I0 (fn_X10_within shelf I J) := by
  unfold fn_X10_within
  exact (fr5_fl_X10_within_4_0 I shelf (fun (x1 : Int32) (x2 : Int32) (J3 : Jv) => (x1, I, J3)) hI (fun x1 x2 J3 => hI) (mU (576 : Int32) ((0 : Int32)) + 1) (0 : Int32) (0 : Int32) J)
theorem fr5_fl_X10_powerOf3_4_0 {I0 : Iv} (I : Iv) (J : Jv) (n : Int32) (Kf0 : Int32 → Int32 → Int32 × Iv × Jv) (hI : KI5 I0 I) (hKf0 : ∀ (a452 : Int32) (a453 : Int32), Qe3 I0 (Kf0 a452 a453)) : ∀ (fu : Nat) (x1 : Int32) (x2 : Int32), Qe3 I0 (fl_X10_powerOf3_4_0 I J n Kf0 fu x1 x2) := by
  intro fu
  induction fu with
  | zero =>
    intro x1 x2
    rw [fl_X10_powerOf3_4_0.eq_1]
    exact hI
  | succ kf0 ih =>
    intro x1 x2
    rw [fl_X10_powerOf3_4_0.eq_2]
    exact (q5x_ite (hKf0 x1 x2) (q5x_lt (fun v4 => (ih v4 (x2 + (1 : Int32))))))
theorem fr5_fn_X10_powerOf3 {I0 : Iv} (n : Int32) (I : Iv) (hI : KI5 I0 I) (J : Jv) : Qe3 I0 (fn_X10_powerOf3 n I J) := by
  unfold fn_X10_powerOf3
  exact (fr5_fl_X10_powerOf3_4_0 I J n (fun (x1 : Int32) (x2 : Int32) => (x1, I, J)) hI (fun x1 x2 => hI) (mU n ((0 : Int32)) + 1) (1 : Int32) (0 : Int32))
theorem fr5_fn_X10_rowAt {I0 : Iv} (row : Int32) (many : Int32) (i : Int32) (I : Iv) (hI : KI5 I0 I) (J : Jv) : Qe3 I0 (fn_X10_rowAt row many i I J) := by
  unfold fn_X10_rowAt
  exact (q5x_b3 (fr5_fn_X10_powerOf3 ((many - (1 : Int32)) - i) I hI J) (fun r6 _ _ h454 => hI))
theorem fr5_fl_X10_placeOf_4_0 {I0 : Iv} (I : Iv) (J : Jv) (f : Int32) (Kf0 : Int32 → Int32 → Int32 × Iv × Jv) (hI : KI5 I0 I) (hKf0 : ∀ (a455 : Int32) (a456 : Int32), Qe3 I0 (Kf0 a455 a456)) : ∀ (fu : Nat) (x1 : Int32) (x2 : Int32), Qe3 I0 (fl_X10_placeOf_4_0 I J f Kf0 fu x1 x2) := by
  intro fu
  induction fu with
  | zero =>
    intro x1 x2
    rw [fl_X10_placeOf_4_0.eq_1]
    exact hI
  | succ kf0 ih =>
    intro x1 x2
    rw [fl_X10_placeOf_4_0.eq_2]
    exact (q5x_ite (hKf0 x1 x2) (q5x_lt (fun v4 => (ih v4 (x2 + (1 : Int32))))))
theorem fr5_fn_X10_placeOf {I0 : Iv} (f : Int32) (I : Iv) (hI : KI5 I0 I) (J : Jv) : Qe3 I0 (fn_X10_placeOf f I J) := by
  unfold fn_X10_placeOf
  exact (fr5_fl_X10_placeOf_4_0 I J f (fun (x1 : Int32) (x2 : Int32) => (x1, I, J)) hI (fun x1 x2 => hI) (mU f ((0 : Int32)) + 1) (0 : Int32) (0 : Int32))
theorem fr5_fl_X10_lying_63_2 {I0 : Iv} (r13 : Int32) (x17 : Int32) (I18 : Iv) (Kf2 : Int32 → Jv → Int32 × Iv × Jv) (hI18 : KI5 I0 I18) (hKf2 : ∀ (a457 : Int32) (a458 : Jv), Qe3 I0 (Kf2 a457 a458)) : ∀ (fu : Nat) (x49 : Int32) (J50 : Jv), Qe3 I0 (fl_X10_lying_63_2 r13 x17 I18 Kf2 fu x49 J50) := by
  intro fu
  induction fu with
  | zero =>
    intro x49 J50
    rw [fl_X10_lying_63_2.eq_1]
    exact hI18
  | succ kf2 ih =>
    intro x49 J50
    rw [fl_X10_lying_63_2.eq_2]
    exact (q5x_ite (hKf2 x49 J50) (q5x_ite (q5x_b3 (fr5_fn_X10_placeOf x49 I18 hI18 J50) (fun r67 _ _ h459 => (q5x_b3 (fr5_fn_X10_rowAt x17 r13 r67 I18 hI18 J50) (fun r74 _ _ h460 => (q5x_lt (fun J76 => (ih (x49 + (1 : Int32)) J76))))))) (ih (x49 + (1 : Int32)) J50)))
theorem fr5_fl_X10_lying_44_1 {I0 : Iv} (r13 : Int32) (Kf1 : Int32 → Int32 → Int32 → Iv → Jv → Int32 × Iv × Jv) (hKf1 : ∀ (a461 : Int32) (a462 : Int32) (a463 : Int32) (a464 : Iv) (a465 : Jv), KI5 I0 a464 → Qe3 I0 (Kf1 a461 a462 a463 a464 a465)) : ∀ (fu : Nat) (x15 : Int32) (x16 : Int32) (x17 : Int32) (I18 : Iv) (J19 : Jv), KI5 I0 I18 → Qe3 I0 (fl_X10_lying_44_1 r13 Kf1 fu x15 x16 x17 I18 J19) := by
  intro fu
  induction fu with
  | zero =>
    intro x15 x16 x17 I18 J19 hI18
    rw [fl_X10_lying_44_1.eq_1]
    exact hI18
  | succ kf1 ih =>
    intro x15 x16 x17 I18 J19 hI18
    rw [fl_X10_lying_44_1.eq_2]
    exact (q5x_b3 (fr5_fn_X10_powerOf3 r13 I18 hI18 J19) (fun r26 _ _ h466 => (q5x_ite (hKf1 x15 x16 x17 I18 J19 hI18) (q5x_b2 (fr5_fn_X10_copy (0 : Int32) (80 : Int32) I18 hI18 J19) (fun _ J42 h467 => (fr5_fl_X10_lying_63_2 r13 x17 I18 (fun (x49 : Int32) (J50 : Jv) => b_n3 (fn_X10_within (I18 81 8) I18 J50) (fun (r58 : Int32) (I53 : Iv) (J54 : Jv) => j_n (fun (w61 : Int32) => if r58 ≤ x16 then fl_X10_lying_44_1 r13 Kf1 kf1 w61 x16 (x17 + (1 : Int32)) I53 J54 else fl_X10_lying_44_1 r13 Kf1 kf1 w61 r58 (x17 + (1 : Int32)) I53 J54) (fun (j140_3 : Int32 → Int32 × Iv × Jv) => if r58 ≤ x16 then j140_3 x15 else j140_3 x17))) hI18 (fun x49 J50 => (q5x_b3 (fr5_fn_X10_within (I18 81 8) I18 hI18 J50) (fun r58 I53 J54 h468 => (q5x_jn (P := fun (j : Int32 → Int32 × Iv × Jv) => ∀ (a469 : Int32), Qe3 I0 (j a469)) (fun w61 => (q5x_ite (ih w61 x16 (x17 + (1 : Int32)) I53 J54 h468) (ih w61 r58 (x17 + (1 : Int32)) I53 J54 h468))) (fun j140_3 j470 => (q5x_ite (j470 x15) (j470 x17))))))) (mU (8 : Int32) ((0 : Int32)) + 1) (0 : Int32) J42))))))
theorem fr5_fn_X10_lying {I0 : Iv} (f : Int32) (I : Iv) (J : Jv) (hb : KI5 I0 (fn_X10_begin I J).1) : Qe3 I0 (fn_X10_lying f I J) := by
  unfold fn_X10_lying
  exact (q5x_b2 hb (fun I1 J2 h471 => (q5x_jn (P := Qe3 I0) (q5x_b3 (fr5_fn_X10_foods I1 h471 J2) (fun r13 _ _ h473 => (q5x_ite (fr5_fl_X10_lying_44_1 r13 (fun (x15 : Int32) (x16 : Int32) (x17 : Int32) (I18 : Iv) (J19 : Jv) => if f = (-1 : Int32) then (x16, I18, J19) else b_n3 (fn_X10_placeOf f I18 J19) (fun (r33 : Int32) (_ : Iv) (_ : Jv) => b_n3 (fn_X10_rowAt x15 r13 r33 I18 J19) (fun (r40 : Int32) (_ : Iv) (_ : Jv) => (r40, I18, J19)))) (fun x15 x16 x17 I18 J19 h474 => (q5x_ite h474 (q5x_b3 (fr5_fn_X10_placeOf f I18 h474 J19) (fun r33 _ _ h475 => (q5x_b3 (fr5_fn_X10_rowAt x15 r13 r33 I18 h474 J19) (fun r40 _ _ h476 => h474)))))) (mU 6561 ((0 : Int32)) + 1) (-1 : Int32) (-1 : Int32) (0 : Int32) I1 J2 h471) h471))) (fun j21_0 j472 => (q5x_ite j472 (q5x_b3 (fr5_fn_X10_isFood f I1 h471 J2) (fun r83 _ _ h477 => (q5x_ite h471 j472))))))))
theorem fr5_fl_X10_bulb_24_0 {I0 : Iv} (Kf0 : Int32 → Int32 → Int32 → Iv → Jv → Int32 × Iv × Jv) (hKf0 : ∀ (a478 : Int32) (a479 : Int32) (a480 : Int32) (a481 : Iv) (a482 : Jv), KI5 I0 a481 → Qe3 I0 (Kf0 a478 a479 a480 a481 a482)) : ∀ (fu : Nat) (x15 : Int32) (x16 : Int32) (x17 : Int32) (I18 : Iv) (J19 : Jv), KI5 I0 I18 → Qe3 I0 (fl_X10_bulb_24_0 Kf0 fu x15 x16 x17 I18 J19) := by
  intro fu
  induction fu with
  | zero =>
    intro x15 x16 x17 I18 J19 hI18
    rw [fl_X10_bulb_24_0.eq_1]
    exact hI18
  | succ kf0 ih =>
    intro x15 x16 x17 I18 J19 hI18
    rw [fl_X10_bulb_24_0.eq_2]
    exact (q5x_ite (hKf0 x15 x16 x17 I18 J19 hI18) (q5x_b2 (fr5_fn_X10_copy (0 : Int32) (80 : Int32) I18 hI18 J19) (fun _ J22 h483 => (q5x_b3 (fr5_fn_X10_within x17 I18 hI18 J22) (fun r34 I29 J30 h484 => (q5x_jn (P := fun (j : Int32 → Int32 × Iv × Jv) => ∀ (a485 : Int32), Qe3 I0 (j a485)) (fun w37 => (q5x_ite (ih w37 x16 (x17 + (1 : Int32)) I29 J30 h484) (ih w37 r34 (x17 + (1 : Int32)) I29 J30 h484))) (fun j57_1 j486 => (q5x_ite (j486 x15) (j486 x17)))))))))
theorem fr5_fn_X10_bulb {I0 : Iv} (what : Int32) (I : Iv) (J : Jv) (hb : KI5 I0 (fn_X10_begin I J).1) : Qe3 I0 (fn_X10_bulb what I J) := by
  unfold fn_X10_bulb
  exact (q5x_b2 hb (fun I1 J2 h487 => (q5x_b3 (fr5_fn_X10_in (Int32.toInt64 what) (0 : Int64) (1 : Int64) I1 h487 J2) (fun r13 _ _ h488 => (q5x_ite h487 (fr5_fl_X10_bulb_24_0 (fun (x15 : Int32) (x16 : Int32) (x17 : Int32) (I18 : Iv) (J19 : Jv) => if what = 0 then (x15, I18, J19) else (x16, I18, J19)) (fun x15 x16 x17 I18 J19 h489 => (q5x_ite h489 h489)) (mU (3 : Int32) ((0 : Int32)) + 1) (-1 : Int32) (-1 : Int32) (0 : Int32) I1 J2 h487))))))
theorem fr5_fl_X10_without_34_0 {I0 : Iv} (f : Int32) (I1 : Iv) (Kf0 : Int32 → Jv → Int32 × Iv × Jv) (hI1 : KI5 I0 I1) (hKf0 : ∀ (a490 : Int32) (a491 : Jv), Qe3 I0 (Kf0 a490 a491)) : ∀ (fu : Nat) (x24 : Int32) (J25 : Jv), Qe3 I0 (fl_X10_without_34_0 f I1 Kf0 fu x24 J25) := by
  intro fu
  induction fu with
  | zero =>
    intro x24 J25
    rw [fl_X10_without_34_0.eq_1]
    exact hI1
  | succ kf0 ih =>
    intro x24 J25
    rw [fl_X10_without_34_0.eq_2]
    exact (q5x_ite (hKf0 x24 J25) (q5x_b2 (fr5_fn_X10_go (80 : Int32) (1 : Int32) I1 hI1 J25) (fun _ J28 h492 => (q5x_b3 (fr5_fn_X10_isWithin (80 : Int32) f I1 hI1 J28) (fun r40 _ _ h493 => (q5x_ite hI1 (ih (x24 + (1 : Int32)) J28)))))))
theorem fr5_fn_X10_without {I0 : Iv} (f : Int32) (I : Iv) (J : Jv) (hb : KI5 I0 (fn_X10_begin I J).1) : Qe3 I0 (fn_X10_without f I J) := by
  unfold fn_X10_without
  exact (q5x_b2 hb (fun I1 J2 h494 => (q5x_b3 (fr5_fn_X10_isFood f I1 h494 J2) (fun r13 _ _ h495 => (q5x_ite h494 (q5x_b2 (fr5_fn_X10_copy (0 : Int32) (80 : Int32) I1 h494 J2) (fun _ J15 h496 => (q5x_lt (fun J22 => (fr5_fl_X10_without_34_0 f I1 (fun (x24 : Int32) (J25 : Jv) => ((-1 : Int32), I1, J25)) h494 (fun x24 J25 => h494) (mUe (864 : Int32) ((0 : Int32)) + 1) (0 : Int32) J22))))))))))
theorem fr5_fn_X10_cheap {I0 : Iv} (a : Int32) (b : Int32) (v_ : Int32) (I : Iv) (J : Jv) (hb : KI5 I0 (fn_X10_begin I J).1) : Qe3 I0 (fn_X10_cheap a b v_ I J) := by
  unfold fn_X10_cheap
  exact (q5x_b2 hb (fun I1 J2 h497 => (q5x_jn (P := Qe3 I0) (q5x_ltI (kI5_w rfl h497) (fun I8 h499 => (q5x_ltI (kI5_w rfl h499) (fun I10 h500 => (q5x_ltI (kI5_w rfl h500) (fun I12 h501 => h501)))))) (fun j51_0 j498 => (q5x_ite j498 (q5x_b3 (fr5_fn_X10_in (Int32.toInt64 a) (0 : Int64) (24 : Int64) I1 h497 J2) (fun r19 _ _ h502 => (q5x_ite h497 (q5x_b3 (fr5_fn_X10_in (Int32.toInt64 b) (Int32.toInt64 (a + (1 : Int32))) (24 : Int64) I1 h497 J2) (fun r26 _ _ h503 => (q5x_ite h497 (q5x_b3 (fr5_fn_X10_in (Int32.toInt64 v_) (0 : Int64) (999 : Int64) I1 h497 J2) (fun r33 _ _ h504 => (q5x_ite h497 j498))))))))))))))
theorem fr5_fl_X10_paid_117_3 {I0 : Iv} (I : Iv) (J30 : Jv) (Kf3 : Int32 → Int64 × Iv × Jv) (hI : KI5 I0 I) (hKf3 : ∀ (a505 : Int32), Qe3 I0 (Kf3 a505)) : ∀ (fu : Nat) (x39 : Int32), Qe3 I0 (fl_X10_paid_117_3 I J30 Kf3 fu x39) := by
  intro fu
  induction fu with
  | zero =>
    intro x39
    rw [fl_X10_paid_117_3.eq_1]
    exact hI
  | succ kf3 ih =>
    intro x39
    rw [fl_X10_paid_117_3.eq_2]
    exact (q5x_ite (hKf3 x39) (q5x_ite (q5x_b3 (fr5_fn_X10_isWithin (80 : Int32) x39 I hI J30) (fun r46 _ _ h506 => (q5x_ite hI (ih (x39 + (1 : Int32)))))) (ih (x39 + (1 : Int32)))))
theorem fr5_fl_X10_paid_12_0 {I0 : Iv} (I : Iv) (ticks : Int32) (d : Int32) (Kf0 : Int64 → Int32 → Jv → Int64 × Iv × Jv) (hI : KI5 I0 I) (hKf0 : ∀ (a507 : Int64) (a508 : Int32) (a509 : Jv), Qe3 I0 (Kf0 a507 a508 a509)) : ∀ (fu : Nat) (x8 : Int64) (x9 : Int32) (J10 : Jv), Qe3 I0 (fl_X10_paid_12_0 I ticks d Kf0 fu x8 x9 J10) := by
  intro fu
  induction fu with
  | zero =>
    intro x8 x9 J10
    rw [fl_X10_paid_12_0.eq_1]
    exact hI
  | succ kf0 ih =>
    intro x8 x9 J10
    rw [fl_X10_paid_12_0.eq_2]
    exact (q5x_ite (hKf0 x8 x9 J10) (q5x_lt (fun v13 => (q5x_b3 (fr5_fn_X10_isHour v13 (I 78 31) (I 78 32) I hI J10) (fun r19 _ _ h510 => (q5x_lt (fun v21 => (q5x_b3 (fr5_fn_X10_isOpen v13 I hI J10) (fun r27 _ _ h511 => (q5x_jn (P := fun (j : Int32 → Int64 × Iv × Jv) => ∀ (a512 : Int32), Qe3 I0 (j a512)) (fun w29 => (q5x_b2 (fr5_fn_X10_tick (80 : Int32) r27 (I 81 8) w29 I hI J10) (fun _ J30 h513 => (q5x_jn (P := fun (j : Int32 → Int64 × Iv × Jv) => ∀ (a514 : Int32), Qe3 I0 (j a514)) (fun w37 => (q5x_lt (fun v38 => (fr5_fl_X10_paid_117_3 I J30 (fun (x39 : Int32) => fl_X10_paid_12_0 I ticks d Kf0 kf0 v38 (x9 + (1 : Int32)) J30) hI (fun x39 => (ih v38 (x9 + (1 : Int32)) J30)) (mU (8 : Int32) ((0 : Int32)) + 1) (0 : Int32))))) (fun j110_2 j515 => (q5x_ite (j515 ((I 78 30))) (j515 ((I 78 33))))))))) (fun j79_1 j516 => (q5x_ite (j516 ((0 : Int32))) (j516 d)))))))))))))
theorem fr5_fn_X10_paid {I0 : Iv} (ticks : Int32) (d : Int32) (I : Iv) (hI : KI5 I0 I) (J : Jv) : Qe3 I0 (fn_X10_paid ticks d I J) := by
  unfold fn_X10_paid
  exact (q5x_b2 (fr5_fn_X10_copy (0 : Int32) (80 : Int32) I hI J) (fun _ J1 h517 => (fr5_fl_X10_paid_12_0 I ticks d (fun (x8 : Int64) (x9 : Int32) (J10 : Jv) => ((x8 / (1000 : Int64)), I, J10)) hI (fun x8 x9 J10 => hI) (mU ticks ((0 : Int32)) + 1) (0 : Int64) (0 : Int32) J1)))
theorem fr5_fl_X10_store_34_0 {I0 : Iv} (n : Int32) (Kf0 : Int32 → Int64 → Int32 → Iv → Jv → Int32 × Iv × Jv) (hKf0 : ∀ (a518 : Int32) (a519 : Int64) (a520 : Int32) (a521 : Iv) (a522 : Jv), KI5 I0 a521 → Qe3 I0 (Kf0 a518 a519 a520 a521 a522)) : ∀ (fu : Nat) (x22 : Int32) (x23 : Int64) (x24 : Int32) (I25 : Iv) (J26 : Jv), KI5 I0 I25 → Qe3 I0 (fl_X10_store_34_0 n Kf0 fu x22 x23 x24 I25 J26) := by
  intro fu
  induction fu with
  | zero =>
    intro x22 x23 x24 I25 J26 hI25
    rw [fl_X10_store_34_0.eq_1]
    exact hI25
  | succ kf0 ih =>
    intro x22 x23 x24 I25 J26 hI25
    rw [fl_X10_store_34_0.eq_2]
    exact (q5x_ite (hKf0 x22 x23 x24 I25 J26 hI25) (q5x_b3 (fr5_fn_X10_paid ((288 : Int32) * n) x24 I25 hI25 J26) (fun r33 I28 J29 h523 => (q5x_ite (ih x22 x23 (x24 + (5 : Int32)) I28 J29 h523) (q5x_jn (P := Qe3 I0) (ih x24 r33 (x24 + (5 : Int32)) I28 J29 h523) (fun j73_1 j524 => (q5x_ite j524 (q5x_ite (ih x22 x23 (x24 + (5 : Int32)) I28 J29 h523) j524))))))))
theorem fr5_fn_X10_store {I0 : Iv} (n : Int32) (what : Int32) (I : Iv) (J : Jv) (hb : KI5 I0 (fn_X10_begin I J).1) : Qe3 I0 (fn_X10_store n what I J) := by
  unfold fn_X10_store
  exact (q5x_b2 hb (fun I1 J2 h525 => (q5x_b3 (fr5_fn_X10_areDays n I1 h525 J2) (fun r13 _ _ h526 => (q5x_ite h525 (q5x_b3 (fr5_fn_X10_in (Int32.toInt64 what) (0 : Int64) (1 : Int64) I1 h525 J2) (fun r20 _ _ h527 => (q5x_ite h525 (fr5_fl_X10_store_34_0 n (fun (x22 : Int32) (x23 : Int64) (x24 : Int32) (I25 : Iv) (J26 : Jv) => if what = 0 then (x22, I25, J26) else ((Int64.toInt32 x23), I25, J26)) (fun x22 x23 x24 I25 J26 h528 => (q5x_ite h528 h528)) (mUe 40 ((0 : Int32)) + 1) (-1 : Int32) (-1 : Int64) (0 : Int32) I1 J2 h525)))))))))
theorem fr5_fn_X10_seed {I0 : Iv} (v_ : Int32) (I : Iv) (J : Jv) (hb : KI5 I0 (fn_X10_begin I J).1) : Qe3 I0 (fn_X10_seed v_ I J) := by
  unfold fn_X10_seed
  exact (q5x_b2 hb (fun I1 J2 h529 => (q5x_ite (q5x_lt (fun v8 => (q5x_lt (fun J9 => h529)))) h529)))
theorem fr5_fn_X10_keep {I0 : Iv} (i : Int32) (I : Iv) (J : Jv) (hb : KI5 I0 (fn_X10_begin I J).1) : Qe3 I0 (fn_X10_keep i I J) := by
  unfold fn_X10_keep
  exact (q5x_b2 hb (fun I1 J2 h530 => (q5x_b3 (fr5_fn_X10_in (Int32.toInt64 i) (0 : Int64) (1 : Int64) I1 h530 J2) (fun r13 _ _ h531 => (q5x_ite h530 (q5x_b2 (fr5_fn_X10_copy (0 : Int32) ((160 : Int32) + ((80 : Int32) * i)) I1 h530 J2) (fun _ J15 h532 => (q5x_ltI (kI5_w rfl h530) (fun I22 h533 => h533)))))))))
theorem fr5_fn_X10_goBack {I0 : Iv} (i : Int32) (I : Iv) (J : Jv) (hb : KI5 I0 (fn_X10_begin I J).1) : Qe3 I0 (fn_X10_goBack i I J) := by
  unfold fn_X10_goBack
  exact (q5x_b2 hb (fun I1 J2 h534 => (q5x_b3 (fr5_fn_X10_in (Int32.toInt64 i) (0 : Int64) (1 : Int64) I1 h534 J2) (fun r13 _ _ h535 => (q5x_ite h534 (q5x_ite h534 (q5x_b2 (fr5_fn_X10_copy ((160 : Int32) + ((80 : Int32) * i)) (0 : Int32) I1 h534 J2) (fun _ J15 h536 => h534))))))))
theorem fr5_fl_X10_feed_35_0 {I0 : Iv} (J : Jv) (bytes : Int64) (Kf0 : Int32 → Iv → Int32 × Iv × Jv) (hKf0 : ∀ (a537 : Int32) (a538 : Iv), KI5 I0 a538 → Qe3 I0 (Kf0 a537 a538)) : ∀ (fu : Nat) (x9 : Int32) (I10 : Iv), KI5 I0 I10 → Qe3 I0 (fl_X10_feed_35_0 J bytes Kf0 fu x9 I10) := by
  intro fu
  induction fu with
  | zero =>
    intro x9 I10 hI10
    rw [fl_X10_feed_35_0.eq_1]
    exact hI10
  | succ kf0 ih =>
    intro x9 I10 hI10
    rw [fl_X10_feed_35_0.eq_2]
    exact (q5x_ite (hKf0 x9 I10 hI10) (q5x_ltI (kI5_w rfl hI10) (fun I13 h539 => (q5x_ltI (kI5_w rfl h539) (fun I15 h540 => (ih (x9 + (-1 : Int32)) I15 h540))))))
theorem fr5_fn_X10_feed {I0 : Iv} (n : Int32) (bytes : Int64) (I : Iv) (hI : KI5 I0 I) (J : Jv) : Qe3 I0 (fn_X10_feed n bytes I J) := by
  unfold fn_X10_feed
  exact (q5x_b3 (fr5_fn_X10_in (Int32.toInt64 n) (1 : Int64) (8 : Int64) I hI J) (fun r6 _ _ h541 => (q5x_ite hI (q5x_ite (q5x_lt (fun v8 => (fr5_fl_X10_feed_35_0 J bytes (fun (x9 : Int32) (I10 : Iv) => ((I10 78 11), I10, J)) (fun x9 I10 h542 => h542) (mD v8 + 1) v8 I hI))) hI))))
theorem fr5_fl_X10_box_117_4 {I0 : Iv} (J2 : Jv) (Kf4 : Int32 → Iv → Int32 × Iv × Jv) (hKf4 : ∀ (a543 : Int32) (a544 : Iv), KI5 I0 a544 → Qe3 I0 (Kf4 a543 a544)) : ∀ (fu : Nat) (x37 : Int32) (I38 : Iv), KI5 I0 I38 → Qe3 I0 (fl_X10_box_117_4 J2 Kf4 fu x37 I38) := by
  intro fu
  induction fu with
  | zero =>
    intro x37 I38 hI38
    rw [fl_X10_box_117_4.eq_1]
    exact hI38
  | succ kf4 ih =>
    intro x37 I38 hI38
    rw [fl_X10_box_117_4.eq_2]
    exact (q5x_ite (hKf4 x37 I38 hI38) (q5x_ltI (kI5_w rfl hI38) (fun I48 h545 => (ih (x37 + (1 : Int32)) I48 h545))))
theorem fr5_fl_X10_box_39_1 {I0 : Iv} (J2 : Jv) (Kf1 : Int32 → Iv → Int32 × Iv × Jv) (hKf1 : ∀ (a546 : Int32) (a547 : Iv), KI5 I0 a547 → Qe3 I0 (Kf1 a546 a547)) : ∀ (fu : Nat) (x21 : Int32) (I22 : Iv), KI5 I0 I22 → Qe3 I0 (fl_X10_box_39_1 J2 Kf1 fu x21 I22) := by
  intro fu
  induction fu with
  | zero =>
    intro x21 I22 hI22
    rw [fl_X10_box_39_1.eq_1]
    exact hI22
  | succ kf1 ih =>
    intro x21 I22 hI22
    rw [fl_X10_box_39_1.eq_2]
    exact (q5x_jn (P := fun (j : Iv → Int32 × Iv × Jv) => ∀ (a548 : Iv), KI5 I0 a548 → Qe3 I0 (j a548)) (fun I24 h549 => (hKf1 x21 I24 h549)) (fun j63_2 j550 => (q5x_ite (q5x_b3 (fr5_fn_X10_here I22 hI22 J2) (fun r55 I50 _ h551 => (q5x_ite (j550 I50 h551) (q5x_b2 (fr5_fn_X10_takeClause I50 h551 J2) (fun I58 _ h552 => (ih (x21 + (1 : Int32)) I58 h552)))))) (j550 I22 hI22))))
theorem fr5_fl_X10_box_15_0 {I0 : Iv} (J2 : Jv) (Kf0 : Int32 → Iv → Int32 × Iv × Jv) (hKf0 : ∀ (a553 : Int32) (a554 : Iv), KI5 I0 a554 → Qe3 I0 (Kf0 a553 a554)) : ∀ (fu : Nat) (x17 : Int32) (I18 : Iv), KI5 I0 I18 → Qe3 I0 (fl_X10_box_15_0 J2 Kf0 fu x17 I18) := by
  intro fu
  induction fu with
  | zero =>
    intro x17 I18 hI18
    rw [fl_X10_box_15_0.eq_1]
    exact hI18
  | succ kf0 ih =>
    intro x17 I18 hI18
    rw [fl_X10_box_15_0.eq_2]
    exact (q5x_ite (hKf0 x17 I18 hI18) (q5x_b3 (fr5_fn_X10_untold x17 I18 hI18 J2) (fun r70 _ _ h555 => (q5x_ltI (kI5_w rfl hI18) (fun I72 h556 => (ih (x17 + (1 : Int32)) I72 h556))))))
theorem fr5_fn_X10_box {I0 : Iv} (I : Iv) (J : Jv) (hb : KI5 I0 (fn_X10_begin I J).1) : Qe3 I0 (fn_X10_box I J) := by
  unfold fn_X10_box
  exact (q5x_b2 hb (fun I1 J2 h557 => (q5x_b2 (fr5_fn_X10_beginReading I1 h557 J2) (fun I8 _ h558 => (q5x_ltI (kI5_w rfl h558) (fun I15 h559 => (fr5_fl_X10_box_15_0 J2 (fun (x17 : Int32) (I18 : Iv) => fl_X10_box_39_1 J2 (fun (x21 : Int32) (I24 : Iv) => j_n (fun (w26 : Int32) => b_n3 (fn_X10_want w26 (4 : Int32) (I24 78 11) I24 J2) (fun (r32 : Int32) (I27 : Iv) (_ : Jv) => l_t (wI I27 78 11 (0 : Int32)) (fun (I35 : Iv) => if (I35 78 15) ≤ 0 then fl_X10_box_117_4 J2 (fun (x37 : Int32) (I38 : Iv) => b_n2 (fn_X10_freshen (0 : Int32) I38 J2) (fun (_ : Iv) (J41 : Jv) => (x21, I38, J41))) (mU (15 : Int32) ((0 : Int32)) + 1) (0 : Int32) I35 else (((-10 : Int32) - (I35 78 15)), I35, J2)))) (fun (j86_3 : Int32 → Int32 × Iv × Jv) => if (I24 82 6) ≤ (I24 82 7) then j86_3 ((0 : Int32)) else j86_3 ((1 : Int32)))) (MR I18 + 1) (0 : Int32) I18) (fun x17 I18 h560 => (fr5_fl_X10_box_39_1 J2 (fun (x21 : Int32) (I24 : Iv) => j_n (fun (w26 : Int32) => b_n3 (fn_X10_want w26 (4 : Int32) (I24 78 11) I24 J2) (fun (r32 : Int32) (I27 : Iv) (_ : Jv) => l_t (wI I27 78 11 (0 : Int32)) (fun (I35 : Iv) => if (I35 78 15) ≤ 0 then fl_X10_box_117_4 J2 (fun (x37 : Int32) (I38 : Iv) => b_n2 (fn_X10_freshen (0 : Int32) I38 J2) (fun (_ : Iv) (J41 : Jv) => (x21, I38, J41))) (mU (15 : Int32) ((0 : Int32)) + 1) (0 : Int32) I35 else (((-10 : Int32) - (I35 78 15)), I35, J2)))) (fun (j86_3 : Int32 → Int32 × Iv × Jv) => if (I24 82 6) ≤ (I24 82 7) then j86_3 ((0 : Int32)) else j86_3 ((1 : Int32)))) (fun x21 I24 h561 => (q5x_jn (P := fun (j : Int32 → Int32 × Iv × Jv) => ∀ (a562 : Int32), Qe3 I0 (j a562)) (fun w26 => (q5x_b3 (fr5_fn_X10_want w26 (4 : Int32) (I24 78 11) I24 h561 J2) (fun r32 I27 _ h563 => (q5x_ltI (kI5_w rfl h563) (fun I35 h564 => (q5x_ite (fr5_fl_X10_box_117_4 J2 (fun (x37 : Int32) (I38 : Iv) => b_n2 (fn_X10_freshen (0 : Int32) I38 J2) (fun (_ : Iv) (J41 : Jv) => (x21, I38, J41))) (fun x37 I38 h565 => (q5x_b2 (fr5_fn_X10_freshen (0 : Int32) I38 h565 J2) (fun _ J41 h566 => h565))) (mU (15 : Int32) ((0 : Int32)) + 1) (0 : Int32) I35 h564) h564)))))) (fun j86_3 j567 => (q5x_ite (j567 ((0 : Int32))) (j567 ((1 : Int32))))))) (MR I18 + 1) (0 : Int32) I18 h560)) (mU (15 : Int32) ((0 : Int32)) + 1) (0 : Int32) I15 h559)))))))
theorem fr5_fl_X10_day_169_2 {I0 : Iv} (J2 : Jv) (x15 : Int32) (Kf2 : Int32 → Iv → Int32 × Iv × Jv) (hKf2 : ∀ (a568 : Int32) (a569 : Iv), KI5 I0 a569 → Qe3 I0 (Kf2 a568 a569)) : ∀ (fu : Nat) (x24 : Int32) (I25 : Iv), KI5 I0 I25 → Qe3 I0 (fl_X10_day_169_2 J2 x15 Kf2 fu x24 I25) := by
  intro fu
  induction fu with
  | zero =>
    intro x24 I25 hI25
    rw [fl_X10_day_169_2.eq_1]
    exact hI25
  | succ kf2 ih =>
    intro x24 I25 hI25
    rw [fl_X10_day_169_2.eq_2]
    exact (q5x_ite (hKf2 x24 I25 hI25) (q5x_ltI (kI5_w rfl hI25) (fun I28 h570 => (q5x_ltI (kI5_w rfl h570) (fun I30 h571 => (ih (x24 + (1 : Int32)) I30 h571))))))
theorem fr5_fl_X10_day_10_0 {I0 : Iv} (J2 : Jv) (Kf0 : Int32 → Iv → Int32 × Iv × Jv) (hKf0 : ∀ (a572 : Int32) (a573 : Iv), KI5 I0 a573 → Qe3 I0 (Kf0 a572 a573)) : ∀ (fu : Nat) (x15 : Int32) (I16 : Iv), KI5 I0 I16 → Qe3 I0 (fl_X10_day_10_0 J2 Kf0 fu x15 I16) := by
  intro fu
  induction fu with
  | zero =>
    intro x15 I16 hI16
    rw [fl_X10_day_10_0.eq_1]
    exact hI16
  | succ kf0 ih =>
    intro x15 I16 hI16
    rw [fl_X10_day_10_0.eq_2]
    exact (q5x_jn (P := fun (j : Iv → Int32 × Iv × Jv) => ∀ (a574 : Iv), KI5 I0 a574 → Qe3 I0 (j a574)) (fun I18 h575 => (hKf0 x15 I18 h575)) (fun j142_1 j576 => (q5x_ite (q5x_b3 (fr5_fn_X10_here I16 hI16 J2) (fun r37 I32 _ h577 => (q5x_ite (j576 I32 h577) (q5x_b2 (fr5_fn_X10_takeWord I32 h577 J2) (fun I40 _ h578 => (q5x_b3 (fr5_fn_X10_isWord (4 : Int32) (111 : Int32) (112 : Int32) (101 : Int32) (110 : Int32) (0 : Int32) I40 h578 J2) (fun r52 _ _ h579 => (q5x_b3 (fr5_fn_X10_want r52 (1 : Int32) (I40 78 13) I40 h578 J2) (fun r59 I54 _ h580 => (q5x_ite (ih x15 I54 h580) (q5x_jn (P := fun (j : Int32 → Int32 × Iv × Jv) => ∀ (a581 : Int32), Qe3 I0 (j a581)) (fun w62 => (q5x_b3 (fr5_fn_X10_want w62 (3 : Int32) (I54 78 13) I54 h580 J2) (fun r68 I63 _ h582 => (q5x_ite (ih x15 I63 h582) (q5x_jn (P := fun (j : Int32 → Int32 × Iv × Jv) => ∀ (a583 : Int32), Qe3 I0 (j a583)) (fun w71 => (q5x_b3 (fr5_fn_X10_takeNumber w71 (287 : Int32) I63 h582 J2) (fun r77 I72 _ h584 => (q5x_ltI (kI5_w rfl h584) (fun I80 h585 => (q5x_jn (P := fun (j : Int32 → Iv → Int32 × Iv × Jv) => ∀ (a586 : Int32) (a587 : Iv), KI5 I0 a587 → Qe3 I0 (j a586 a587)) (fun w82 I83 h588 => (q5x_ltI (kI5_w rfl h588) (fun I85 h589 => (q5x_b2 (fr5_fn_X10_takeEnd I85 h589 J2) (fun I87 _ h590 => (ih (x15 + (1 : Int32)) I87 h590)))))) (fun j131_5 j591 => (q5x_ite (q5x_b3 (fr5_fn_X10_takeNumber (1 : Int32) (20 : Int32) I80 h585 J2) (fun r99 I94 _ h592 => (j591 r99 I94 h592))) (j591 ((0 : Int32)) I80 h585))))))))) (fun j101_4 j593 => (q5x_ite (j593 ((0 : Int32))) (j593 (((I63 85 ((x15 - (1 : Int32))).toNatClampNeg) + (1 : Int32))))))))))) (fun j66_3 j594 => (q5x_ite (j594 ((0 : Int32))) (j594 ((1 : Int32)))))))))))))))) (j576 I16 hI16))))
theorem fr5_fn_X10_day {I0 : Iv} (I : Iv) (J : Jv) (hb : KI5 I0 (fn_X10_begin I J).1) : Qe3 I0 (fn_X10_day I J) := by
  unfold fn_X10_day
  exact (q5x_b2 hb (fun I1 J2 h595 => (q5x_b2 (fr5_fn_X10_beginReading I1 h595 J2) (fun I8 _ h596 => (fr5_fl_X10_day_10_0 J2 (fun (x15 : Int32) (I18 : Iv) => l_t (wI I18 78 11 (0 : Int32)) (fun (I20 : Iv) => if (I20 78 15) ≤ 0 then l_t (wI I20 78 5 x15) (fun (I22 : Iv) => fl_X10_day_169_2 J2 x15 (fun (x24 : Int32) (I25 : Iv) => (x15, I25, J2)) (mU x15 ((0 : Int32)) + 1) (0 : Int32) I22) else (((-10 : Int32) - (I20 78 15)), I20, J2))) (fun x15 I18 h597 => (q5x_ltI (kI5_w rfl h597) (fun I20 h598 => (q5x_ite (q5x_ltI (kI5_w rfl h598) (fun I22 h599 => (fr5_fl_X10_day_169_2 J2 x15 (fun (x24 : Int32) (I25 : Iv) => (x15, I25, J2)) (fun x24 I25 h600 => h600) (mU x15 ((0 : Int32)) + 1) (0 : Int32) I22 h599))) h598)))) (MR I8 + 1) (0 : Int32) I8 h596)))))
