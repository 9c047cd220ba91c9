/-! ===== what stays: the SIGNS that are known ===== -/
def S3 (b _k : Nat) : Bool := b == 8 || b == 10 || b == 11 || b == 12 || b == 55 || b == 56
def E4 (b : Nat) : Prop := b = 8 ∨ b = 10 ∨ b = 11 ∨ b = 12
theorem sg_row {I I' : Iv} (h : SG I) (e : ∀ b, E4 b ∨ b = 55 ∨ b = 56 → I' b = I b) : SG I' := by
  intro s k hs h1 h6 hk
  rw [e 55 (Or.inr (Or.inl rfl))] at hk
  exact sgv_row (h s k hs h1 h6 hk) (fun b hb => e b (Or.inl hb)) (fun j _ => by rw [e 56 (Or.inr (Or.inr rfl))])
/-- the box and THE DAY stay; if there is a reference's side, the SIGNS that are known stay right -/
def KI3 (I0 I : Iv) : Prop := (∀ b, E4 b → I b = I0 b) ∧ ((∃ A, ENv I0 A) → SG I0 → SG I)
theorem ki3_rfl {I : Iv} : KI3 I I := ⟨fun _ _ => rfl, fun _ h => h⟩
theorem s3_of {a k b : Nat} (h : S3 a k = false) (hb : E4 b ∨ b = 55 ∨ b = 56) : b ≠ a := by
  rintro rfl
  rcases hb with (rfl | rfl | rfl | rfl) | rfl | rfl <;> exact absurd h (fun z => Bool.noConfusion z)
theorem ki3_st {I0 I I' : Iv} (q : KI3 I0 I) (e : ∀ b, E4 b ∨ b = 55 ∨ b = 56 → I' b = I b) : KI3 I0 I' :=
  ⟨fun b hb => (e b (Or.inl hb)).trans (q.1 b hb), fun hA hs => sg_row (q.2 hA hs) e⟩
def Qc3 {α : Type} (I0 : Iv) (x : α × Iv × Jv) : Prop := KI3 I0 x.2.1
def Qc2 (I0 : Iv) (x : Iv × Jv) : Prop := KI3 I0 x.1
theorem kI3_w {I0 I : Iv} {a k : Nat} {v : Int32} (h : S3 a k = false) (q : KI3 I0 I) : KI3 I0 (wI I a k v) := ki3_st q (fun _ hb => wI_row (s3_of h hb))
theorem kI3_c {I0 I : Iv} {a n : Nat} {f : Nat → Int32} (h : ∀ k, S3 a k = false) (q : KI3 I0 I) : KI3 I0 (cI I a n f) := ki3_st q (fun _ hb => cI_row (s3_of (h 0) hb))
theorem set_n {s : Int32} (h : 0 ≤ s ∧ s ≤ 127) : ∃ k, k < 128 ∧ s = n3 k := by
  have b := Int32.le_iff_toInt_le.mp h.2
  have a := Int32.le_iff_toInt_le.mp h.1
  rw [show (127 : Int32).toInt = 127 by decide] at b
  rw [show (0 : Int32).toInt = 0 by decide] at a
  exact ⟨s.toNatClampNeg, by show s.toInt.toNat < 128; omega, n3_of h.1⟩
theorem days_n {n : Int32} (h : 1 ≤ n ∧ n ≤ 6) : ∃ k, (1 ≤ k ∧ k ≤ 6) ∧ n = n3 k := by
  have b := Int32.le_iff_toInt_le.mp h.2
  have a := Int32.le_iff_toInt_le.mp h.1
  rw [show (6 : Int32).toInt = 6 by decide] at b
  rw [show (1 : Int32).toInt = 1 by decide] at a
  refine ⟨n.toNatClampNeg, ?_, n3_of (Int32.le_iff_toInt_le.mpr (by rw [show (0 : Int32).toInt = 0 by decide]; omega))⟩
  show 1 ≤ n.toInt.toNat ∧ n.toInt.toNat ≤ 6
  omega
theorem fr3_fn_X1_learn {I0 : Iv} (set : Int32) (n : Int32) (I : Iv) (hI : KI3 I0 I) (J : Jv) : Qc2 I0 (fn_X1_learn set n I J) := by
  have k := fr_fn_X1_learn set n I ki_rfl J
  refine ⟨fun b hb => ?_, fun hA hs => ?_⟩
  · have e : (fn_X1_learn set n I J).1 b = I b := by
      rcases hb with rfl | rfl | rfl | rfl
      · exact KI.row k 8 (fun _ => rfl)
      · exact KI.row k 10 (fun _ => rfl)
      · exact KI.row k 11 (fun _ => rfl)
      · exact KI.row k 12 (fun _ => rfl)
    exact e.trans (hI.1 b hb)
  · have sI := hI.2 hA hs
    obtain ⟨A0, hE⟩ := hA
    have hE2 : ENv I A0 := env_row hE hI.1 rfl (fun _ _ => rfl) rfl rfl
    by_cases h1 : 0 ≤ set ∧ set ≤ 127
    · by_cases h2 : 1 ≤ n ∧ n ≤ 6
      · obtain ⟨s, hs1, rfl⟩ := set_n h1
        obtain ⟨m, hm, rfl⟩ := days_n h2
        obtain ⟨I', J', e, g, -⟩ := learnC I J hs1 hm hE2 sI
        rw [e]; exact g
      · have e : fn_X1_learn set n I J = (I, J) := by
          unfold fn_X1_learn
          rw [isSet9, b_n3_mk, decide_eq_true h1, if_neg (show ¬ b3 true = 0 by decide), days9, b_n3_mk, decide_eq_false h2, if_pos (show b3 false = 0 from rfl)]
        rw [e]; exact sI
    · have e : fn_X1_learn set n I J = (I, J) := by
        unfold fn_X1_learn
        rw [isSet9, b_n3_mk, decide_eq_false h1, if_pos (show b3 false = 0 from rfl)]
      rw [e]; exact sI
theorem sg_none {I : Iv} (h : ∀ s, s < 128 → I 55 s = 0) : SG I := by
  intro s e hs h1 h6 hk
  rw [h s hs, show (0 : Int32) = n3 0 from rfl, n3_le (by omega) (by omega)] at hk
  omega
theorem fr3_fn_X1_forgetSigns {I0 : Iv} (I : Iv) (hI : KI3 I0 I) (J : Jv) : Qc2 I0 (fn_X1_forgetSigns I J) := by
  refine ⟨fun b hb => ?_, fun _ _ => sg_none (fun s hs => ?_)⟩
  · have e : cI I 55 128 (fun _ => (0 : Int32)) b = I b := cI_row (by rcases hb with rfl | rfl | rfl | rfl <;> decide)
    exact e.trans (hI.1 b hb)
  · show cI I 55 128 (fun _ => (0 : Int32)) 55 s = 0
    simp only [cI, hs, and_self, if_true]
theorem q3x_ite {c : Prop} [Decidable c] {α : Type} {Q : α → Prop} {a b : α} (h1 : Q a) (h2 : Q b) : Q (if c then a else b) := by
  by_cases q : c
  · rw [if_pos q]; exact h1
  · rw [if_neg q]; exact h2
theorem q3x_ltI {α : Type} {Q : α → Prop} {I0 x : Iv} {k : Iv → α} (hx : KI3 I0 x) (hk : ∀ I, KI3 I0 I → Q (k I)) : Q (l_t x k) := hk x hx
theorem q3x_lt {α β : Type} {Q : α → Prop} {x : β} {k : β → α} (hk : ∀ y, Q (k y)) : Q (l_t x k) := hk x
theorem q3x_b3 {α β : Type} {Q : β → Prop} {I0 : Iv} {x : α × Iv × Jv} {k : α → Iv → Jv → β} (hx : Qc3 I0 x) (hk : ∀ r I J, KI3 I0 I → Q (k r I J)) : Q (b_n3 x k) := hk _ _ _ hx
theorem q3x_b2 {β : Type} {Q : β → Prop} {I0 : Iv} {x : Iv × Jv} {k : Iv → Jv → β} (hx : Qc2 I0 x) (hk : ∀ I J, KI3 I0 I → Q (k I J)) : Q (b_n2 x k) := hk _ _ hx
theorem q3x_jn {α β : Type} {Q : β → Prop} {P : α → Prop} {x : α} {k : α → β} (hx : P x) (hk : ∀ j, P j → Q (k j)) : Q (j_n x k) := hk x hx
theorem s3t0 {o k : Nat} (h : StA o) : S3 (o) k = false := by
  rcases h with rfl | rfl | rfl | rfl | rfl <;> rfl
theorem s3t1 {o k : Nat} (h : StA o) : S3 (o + 1) k = false := by
  rcases h with rfl | rfl | rfl | rfl | rfl <;> rfl
theorem s3t2 {o k : Nat} (h : StA o) : S3 (o + 2) k = false := by
  rcases h with rfl | rfl | rfl | rfl | rfl <;> rfl
theorem s3t3 {o k : Nat} (h : StA o) : S3 (o + 3) k = false := by
  rcases h with rfl | rfl | rfl | rfl | rfl <;> rfl
theorem s3t4 {o k : Nat} (h : StA o) : S3 (o + 4) k = false := by
  rcases h with rfl | rfl | rfl | rfl | rfl <;> rfl
theorem s3t5 {o k : Nat} (h : StA o) : S3 (o + 5) k = false := by
  rcases h with rfl | rfl | rfl | rfl | rfl <;> rfl
theorem s3t6 {o k : Nat} (h : StA o) : S3 (o + 6) k = false := by
  rcases h with rfl | rfl | rfl | rfl | rfl <;> rfl
theorem s3t7 {o k : Nat} (h : StA o) : S3 (o + 7) k = false := by
  rcases h with rfl | rfl | rfl | rfl | rfl <;> rfl
theorem s3t8 {o k : Nat} (h : StA o) : S3 (o + 8) k = false := by
  rcases h with rfl | rfl | rfl | rfl | rfl <;> rfl

theorem fr3_fn_X6_has {I0 : Iv} (o : Nat) (ho : StA o) (t : Int32) (I : Iv) (hI : KI3 I0 I) (J : Jv) : Qc3 I0 (fn_X6_has o t I J) := by
  unfold fn_X6_has
  exact (q3x_ite hI hI)
theorem fr3_fn_X6_warmthOf {I0 : Iv} (o : Nat) (ho : StA o) (cell : Int32) (I : Iv) (hI : KI3 I0 I) (J : Jv) : Qc3 I0 (fn_X6_warmthOf o cell I J) := by
  unfold fn_X6_warmthOf
  exact (q3x_ite hI (q3x_ite hI (q3x_ite hI hI)))
theorem fr3_fn_X6_tickOfDay {I0 : Iv} (o : Nat) (ho : StA o) (I : Iv) (hI : KI3 I0 I) (J : Jv) : Qc3 I0 (fn_X6_tickOfDay o I J) := by
  unfold fn_X6_tickOfDay
  exact hI
theorem fr3_fl_X6_allHeat_26_1 {I0 : Iv} (I : Iv) (J : Jv) (o : Nat) (Kf1 : Int64 → Int32 → Int64 × Iv × Jv) (hI : KI3 I0 I) (hKf1 : ∀ (a1 : Int64) (a2 : Int32), Qc3 I0 (Kf1 a1 a2)) (ho : StA o) : ∀ (fu : Nat) (x4 : Int64) (x5 : Int32), Qc3 I0 (fl_X6_allHeat_26_1 I J o Kf1 fu x4 x5) := by
  intro fu
  induction fu with
  | zero =>
    intro x4 x5
    rw [fl_X6_allHeat_26_1.eq_1]
    exact hI
  | succ kf1 ih =>
    intro x4 x5
    rw [fl_X6_allHeat_26_1.eq_2]
    exact (q3x_ite (hKf1 x4 x5) (q3x_ite (ih x4 (x5 + (1 : Int32))) (q3x_lt (fun v7 => (ih v7 (x5 + (1 : Int32)))))))
theorem fr3_fl_X6_allHeat_4_0 {I0 : Iv} (I : Iv) (J : Jv) (o : Nat) (Kf0 : Int64 → Int32 → Int64 × Iv × Jv) (hI : KI3 I0 I) (hKf0 : ∀ (a3 : Int64) (a4 : Int32), Qc3 I0 (Kf0 a3 a4)) (ho : StA o) : ∀ (fu : Nat) (x1 : Int64) (x2 : Int32), Qc3 I0 (fl_X6_allHeat_4_0 I J o Kf0 fu x1 x2) := by
  intro fu
  induction fu with
  | zero =>
    intro x1 x2
    rw [fl_X6_allHeat_4_0.eq_1]
    exact hI
  | succ kf0 ih =>
    intro x1 x2
    rw [fl_X6_allHeat_4_0.eq_2]
    exact (q3x_ite (hKf0 x1 x2) (q3x_lt (fun v8 => (ih v8 (x2 + (1 : Int32))))))
theorem fr3_fn_X6_allHeat {I0 : Iv} (o : Nat) (ho : StA o) (I : Iv) (hI : KI3 I0 I) (J : Jv) : Qc3 I0 (fn_X6_allHeat o I J) := by
  unfold fn_X6_allHeat
  exact (fr3_fl_X6_allHeat_4_0 I J o (fun (x1 : Int64) (x2 : Int32) => fl_X6_allHeat_26_1 I J o (fun (x4 : Int64) (x5 : Int32) => (x4, I, J)) (mU (8 : Int32) ((0 : Int32)) + 1) x1 (0 : Int32)) hI (fun x1 x2 => (fr3_fl_X6_allHeat_26_1 I J o (fun (x4 : Int64) (x5 : Int32) => (x4, I, J)) hI (fun x4 x5 => hI) ho (mU (8 : Int32) ((0 : Int32)) + 1) x1 (0 : Int32))) ho (mU (4 : Int32) ((0 : Int32)) + 1) (0 : Int64) (0 : Int32))
theorem fr3_fn_X6_hasFood {I0 : Iv} (o : Nat) (ho : StA o) (f : Int32) (I : Iv) (hI : KI3 I0 I) (J : Jv) : Qc3 I0 (fn_X6_hasFood o f I J) := by
  unfold fn_X6_hasFood
  exact (q3x_ite hI (q3x_ite hI (q3x_ite hI hI)))
theorem fr3_fl_X6_firstNotThere_2_0 {I0 : Iv} (I : Iv) (J : Jv) (o : Nat) (Kf0 : Int32 → Int32 × Iv × Jv) (hI : KI3 I0 I) (hKf0 : ∀ (a5 : Int32), Qc3 I0 (Kf0 a5)) (ho : StA o) : ∀ (fu : Nat) (x1 : Int32), Qc3 I0 (fl_X6_firstNotThere_2_0 I J o Kf0 fu x1) := by
  intro fu
  induction fu with
  | zero =>
    intro x1
    rw [fl_X6_firstNotThere_2_0.eq_1]
    exact hI
  | succ kf0 ih =>
    intro x1
    rw [fl_X6_firstNotThere_2_0.eq_2]
    exact (q3x_ite (hKf0 x1) (q3x_ite hI (ih (x1 + (1 : Int32)))))
theorem fr3_fn_X6_firstNotThere {I0 : Iv} (o : Nat) (ho : StA o) (I : Iv) (hI : KI3 I0 I) (J : Jv) : Qc3 I0 (fn_X6_firstNotThere o I J) := by
  unfold fn_X6_firstNotThere
  exact (fr3_fl_X6_firstNotThere_2_0 I J o (fun (x1 : Int32) => ((-1 : Int32), I, J)) hI (fun x1 => hI) ho (mU (8 : Int32) ((0 : Int32)) + 1) (0 : Int32))
theorem fr3_fl_X6_foodsThere_4_0 {I0 : Iv} (I : Iv) (J : Jv) (o : Nat) (Kf0 : Int32 → Int32 → Int32 × Iv × Jv) (hI : KI3 I0 I) (hKf0 : ∀ (a6 : Int32) (a7 : Int32), Qc3 I0 (Kf0 a6 a7)) (ho : StA o) : ∀ (fu : Nat) (x1 : Int32) (x2 : Int32), Qc3 I0 (fl_X6_foodsThere_4_0 I J o Kf0 fu x1 x2) := by
  intro fu
  induction fu with
  | zero =>
    intro x1 x2
    rw [fl_X6_foodsThere_4_0.eq_1]
    exact hI
  | succ kf0 ih =>
    intro x1 x2
    rw [fl_X6_foodsThere_4_0.eq_2]
    exact (q3x_ite (hKf0 x1 x2) (q3x_ite (ih x1 (x2 + (1 : Int32))) (ih (x1 + (1 : Int32)) (x2 + (1 : Int32)))))
theorem fr3_fn_X6_foodsThere {I0 : Iv} (o : Nat) (ho : StA o) (I : Iv) (hI : KI3 I0 I) (J : Jv) : Qc3 I0 (fn_X6_foodsThere o I J) := by
  unfold fn_X6_foodsThere
  exact (fr3_fl_X6_foodsThere_4_0 I J o (fun (x1 : Int32) (x2 : Int32) => (x1, I, J)) hI (fun x1 x2 => hI) ho (mU (8 : Int32) ((0 : Int32)) + 1) (0 : Int32) (0 : Int32))
theorem fr3_fn_X6_addFood {I0 : Iv} (o : Nat) (ho : StA o) (f : Int32) (shelf : Int32) (warm : Int32) (cap : Int32) (I : Iv) (hI : KI3 I0 I) (J : Jv) : Qc2 I0 (fn_X6_addFood o f shelf warm cap I J) := by
  unfold fn_X6_addFood
  exact (q3x_ite hI (q3x_ite (q3x_ltI (kI3_w (s3t3 ho) hI) (fun I1 h8 => (q3x_ltI (kI3_w (s3t4 ho) h8) (fun I3 h9 => (q3x_ltI (kI3_w (s3t2 ho) h9) (fun I5 h10 => (q3x_lt (fun J7 => (q3x_lt (fun J9 => h10)))))))))) hI))
theorem fr3_fn_X6_removeFood {I0 : Iv} (o : Nat) (ho : StA o) (f : Int32) (I : Iv) (hI : KI3 I0 I) (J : Jv) : Qc2 I0 (fn_X6_removeFood o f I J) := by
  unfold fn_X6_removeFood
  exact (q3x_ite hI (q3x_ite (q3x_ltI (kI3_w (s3t3 ho) hI) (fun I1 h11 => (q3x_lt (fun J3 => (q3x_lt (fun J5 => h11)))))) hI))
theorem fr3_fn_X6_isWithin {I0 : Iv} (o : Nat) (ho : StA o) (f : Int32) (I : Iv) (hI : KI3 I0 I) (J : Jv) : Qc3 I0 (fn_X6_isWithin o f I J) := by
  unfold fn_X6_isWithin
  exact (q3x_b3 (fr3_fn_X6_warmthOf o ho ((4 : Int32) + f) I hI J) (fun r6 _ _ h12 => (q3x_ite hI (q3x_ite hI (q3x_ite hI (q3x_ite hI hI))))))
theorem fr3_fl_X6_foodsWithin_4_0 {I0 : Iv} (I : Iv) (J : Jv) (o : Nat) (Kf0 : Int32 → Int32 → Int32 × Iv × Jv) (hI : KI3 I0 I) (hKf0 : ∀ (a13 : Int32) (a14 : Int32), Qc3 I0 (Kf0 a13 a14)) (ho : StA o) : ∀ (fu : Nat) (x1 : Int32) (x2 : Int32), Qc3 I0 (fl_X6_foodsWithin_4_0 I J o Kf0 fu x1 x2) := by
  intro fu
  induction fu with
  | zero =>
    intro x1 x2
    rw [fl_X6_foodsWithin_4_0.eq_1]
    exact hI
  | succ kf0 ih =>
    intro x1 x2
    rw [fl_X6_foodsWithin_4_0.eq_2]
    exact (q3x_ite (hKf0 x1 x2) (q3x_ite (ih x1 (x2 + (1 : Int32))) (q3x_b3 (fr3_fn_X6_isWithin o ho x2 I hI J) (fun r9 _ _ h15 => (q3x_ite (ih x1 (x2 + (1 : Int32))) (ih (x1 + (1 : Int32)) (x2 + (1 : Int32))))))))
theorem fr3_fn_X6_foodsWithin {I0 : Iv} (o : Nat) (ho : StA o) (I : Iv) (hI : KI3 I0 I) (J : Jv) : Qc3 I0 (fn_X6_foodsWithin o I J) := by
  unfold fn_X6_foodsWithin
  exact (fr3_fl_X6_foodsWithin_4_0 I J o (fun (x1 : Int32) (x2 : Int32) => (x1, I, J)) hI (fun x1 x2 => hI) ho (mU (8 : Int32) ((0 : Int32)) + 1) (0 : Int32) (0 : Int32))
theorem fr3_fl_X6_letOffIce_27_0 {I0 : Iv} (o : Nat) (I4 : Iv) (Kf0 : Int32 → Jv → Int32 × Iv × Jv) (hI4 : KI3 I0 I4) (hKf0 : ∀ (a16 : Int32) (a17 : Jv), Qc3 I0 (Kf0 a16 a17)) (ho : StA o) : ∀ (fu : Nat) (x6 : Int32) (J7 : Jv), Qc3 I0 (fl_X6_letOffIce_27_0 o I4 Kf0 fu x6 J7) := by
  intro fu
  induction fu with
  | zero =>
    intro x6 J7
    rw [fl_X6_letOffIce_27_0.eq_1]
    exact hI4
  | succ kf0 ih =>
    intro x6 J7
    rw [fl_X6_letOffIce_27_0.eq_2]
    exact (q3x_ite (hKf0 x6 J7) (q3x_lt (fun v10 => (q3x_b3 (fr3_fn_X6_warmthOf o ho x6 I4 hI4 J7) (fun r16 _ _ h18 => (q3x_ite (ih (x6 + (1 : Int32)) J7) (q3x_lt (fun J18 => (q3x_lt (fun J20 => (ih (x6 + (1 : Int32)) J20)))))))))))
theorem fr3_fn_X6_letOffIce {I0 : Iv} (o : Nat) (ho : StA o) (I : Iv) (hI : KI3 I0 I) (J : Jv) : Qc3 I0 (fn_X6_letOffIce o I J) := by
  unfold fn_X6_letOffIce
  exact (q3x_lt (fun v1 => (q3x_ltI (kI3_w (s3t8 ho) hI) (fun I2 h19 => (q3x_ltI (kI3_w (s3t8 ho) h19) (fun I4 h20 => (fr3_fl_X6_letOffIce_27_0 o I4 (fun (x6 : Int32) (J7 : Jv) => (v1, I4, J7)) h20 (fun x6 J7 => h20) ho (mUe (3 : Int32) ((0 : Int32)) + 1) (0 : Int32) J)))))))
theorem fr3_fn_X6_draw {I0 : Iv} (o : Nat) (ho : StA o) (n : Int32) (I : Iv) (hI : KI3 I0 I) (J : Jv) : Qc3 I0 (fn_X6_draw o n I J) := by
  unfold fn_X6_draw
  exact (q3x_ltI (kI3_w (s3t0 ho) hI) (fun I1 h21 => (q3x_ite h21 h21)))
theorem fr3_fl_X6_becomeFresh_49_1 {I0 : Iv} (o : Nat) (Kf1 : Int32 → Iv → Jv → Iv × Jv) (hKf1 : ∀ (a22 : Int32) (a23 : Iv) (a24 : Jv), KI3 I0 a23 → Qc2 I0 (Kf1 a22 a23 a24)) (ho : StA o) : ∀ (fu : Nat) (x10 : Int32) (I11 : Iv) (J12 : Jv), KI3 I0 I11 → Qc2 I0 (fl_X6_becomeFresh_49_1 o Kf1 fu x10 I11 J12) := by
  intro fu
  induction fu with
  | zero =>
    intro x10 I11 J12 hI11
    rw [fl_X6_becomeFresh_49_1.eq_1]
    exact hI11
  | succ kf1 ih =>
    intro x10 I11 J12 hI11
    rw [fl_X6_becomeFresh_49_1.eq_2]
    exact (q3x_ite (hKf1 x10 I11 J12 hI11) (q3x_ltI (kI3_w (s3t3 ho) hI11) (fun I46 h25 => (q3x_lt (fun J48 => (ih (x10 + (1 : Int32)) I46 J48 h25))))))
theorem fr3_fl_X6_becomeFresh_2_0 {I0 : Iv} (o : Nat) (Kf0 : Int32 → Iv → Jv → Iv × Jv) (hKf0 : ∀ (a26 : Int32) (a27 : Iv) (a28 : Jv), KI3 I0 a27 → Qc2 I0 (Kf0 a26 a27 a28)) (ho : StA o) : ∀ (fu : Nat) (x1 : Int32) (I2 : Iv) (J3 : Jv), KI3 I0 I2 → Qc2 I0 (fl_X6_becomeFresh_2_0 o Kf0 fu x1 I2 J3) := by
  intro fu
  induction fu with
  | zero =>
    intro x1 I2 J3 hI2
    rw [fl_X6_becomeFresh_2_0.eq_1]
    exact hI2
  | succ kf0 ih =>
    intro x1 I2 J3 hI2
    rw [fl_X6_becomeFresh_2_0.eq_2]
    exact (q3x_ite (hKf0 x1 I2 J3 hI2) (q3x_ltI (kI3_w (s3t2 ho) hI2) (fun I50 h29 => (q3x_lt (fun J52 => (ih (x1 + (1 : Int32)) I50 J52 h29))))))
theorem fr3_fn_X6_becomeFresh {I0 : Iv} (o : Nat) (ho : StA o) (I : Iv) (hI : KI3 I0 I) (J : Jv) : Qc2 I0 (fn_X6_becomeFresh o I J) := by
  unfold fn_X6_becomeFresh
  exact (fr3_fl_X6_becomeFresh_2_0 o (fun (x1 : Int32) (I2 : Iv) (J3 : Jv) => l_t (wI I2 (o + 2) 3 (40 : Int32)) (fun (I6 : Iv) => l_t (wJ J3 (o + 1) 3 (-40000 : Int64)) (fun (J8 : Jv) => fl_X6_becomeFresh_49_1 o (fun (x10 : Int32) (I11 : Iv) (J12 : Jv) => l_t (cJ J12 (o + 7) 6 (fun _ => (0 : Int64))) (fun (J16 : Jv) => l_t I11 (fun (I15 : Iv) => l_t (cI I15 (o + 8) 8 (fun _ => (0 : Int32))) (fun (I22 : Iv) => l_t J16 (fun (J23 : Jv) => b_n3 (fn_X6_has o (2 : Int32) I22 J23) (fun (r34 : Int32) (_ : Iv) (_ : Jv) => j_n (fun (I36 : Iv) => l_t (wI I36 o 9 (500 : Int32)) (fun (I38 : Iv) => l_t (wI I38 o 10 (0 : Int32)) (fun (I40 : Iv) => l_t (wI I40 o 11 (0 : Int32)) (fun (I42 : Iv) => (I42, J23))))) (fun (j110_2 : Iv → Iv × Jv) => if r34 = 0 then j110_2 I22 else l_t (wI I22 (o + 8) 5 (600 : Int32)) (fun (I44 : Iv) => j110_2 I44)))))))) (mU (8 : Int32) ((0 : Int32)) + 1) (0 : Int32) I6 J8))) (fun x1 I2 J3 h30 => (q3x_ltI (kI3_w (s3t2 ho) h30) (fun I6 h31 => (q3x_lt (fun J8 => (fr3_fl_X6_becomeFresh_49_1 o (fun (x10 : Int32) (I11 : Iv) (J12 : Jv) => l_t (cJ J12 (o + 7) 6 (fun _ => (0 : Int64))) (fun (J16 : Jv) => l_t I11 (fun (I15 : Iv) => l_t (cI I15 (o + 8) 8 (fun _ => (0 : Int32))) (fun (I22 : Iv) => l_t J16 (fun (J23 : Jv) => b_n3 (fn_X6_has o (2 : Int32) I22 J23) (fun (r34 : Int32) (_ : Iv) (_ : Jv) => j_n (fun (I36 : Iv) => l_t (wI I36 o 9 (500 : Int32)) (fun (I38 : Iv) => l_t (wI I38 o 10 (0 : Int32)) (fun (I40 : Iv) => l_t (wI I40 o 11 (0 : Int32)) (fun (I42 : Iv) => (I42, J23))))) (fun (j110_2 : Iv → Iv × Jv) => if r34 = 0 then j110_2 I22 else l_t (wI I22 (o + 8) 5 (600 : Int32)) (fun (I44 : Iv) => j110_2 I44)))))))) (fun x10 I11 J12 h32 => (q3x_lt (fun J16 => (q3x_ltI h32 (fun I15 h33 => (q3x_ltI (kI3_c (fun _ => (s3t8 ho)) h33) (fun I22 h34 => (q3x_lt (fun J23 => (q3x_b3 (fr3_fn_X6_has o ho (2 : Int32) I22 h34 J23) (fun r34 _ _ h35 => (q3x_jn (P := fun (j : Iv → Iv × Jv) => ∀ (a36 : Iv), KI3 I0 a36 → Qc2 I0 (j a36)) (fun I36 h37 => (q3x_ltI (kI3_w (s3t0 ho) h37) (fun I38 h38 => (q3x_ltI (kI3_w (s3t0 ho) h38) (fun I40 h39 => (q3x_ltI (kI3_w (s3t0 ho) h39) (fun I42 h40 => h40))))))) (fun j110_2 j41 => (q3x_ite (j41 I22 h34) (q3x_ltI (kI3_w (s3t8 ho) h34) (fun I44 h42 => (j41 I44 h42))))))))))))))))) ho (mU (8 : Int32) ((0 : Int32)) + 1) (0 : Int32) I6 J8 h31)))))) ho (mU (3 : Int32) ((0 : Int32)) + 1) (0 : Int32) I J hI)
theorem fr3_fn_X6_copyFrom {I0 : Iv} (o : Nat) (ho : StA o) (p : Nat) (I : Iv) (hI : KI3 I0 I) (J : Jv) : Qc2 I0 (fn_X6_copyFrom o p I J) := by
  unfold fn_X6_copyFrom
  exact (q3x_lt (fun J1 => (q3x_ltI (kI3_c (fun _ => (s3t2 ho)) hI) (fun I3 h43 => (q3x_ltI (kI3_c (fun _ => (s3t3 ho)) h43) (fun I5 h44 => (q3x_ltI (kI3_c (fun _ => (s3t4 ho)) h44) (fun I7 h45 => (q3x_ltI (kI3_c (fun _ => (s3t5 ho)) h45) (fun I9 h46 => (q3x_ltI (kI3_c (fun _ => (s3t6 ho)) h46) (fun I11 h47 => (q3x_lt (fun J13 => (q3x_ltI (kI3_c (fun _ => (s3t8 ho)) h47) (fun I15 h48 => (q3x_ltI (kI3_w (s3t0 ho) h48) (fun I17 h49 => (q3x_ltI (kI3_w (s3t0 ho) h49) (fun I19 h50 => (q3x_ltI (kI3_w (s3t0 ho) h50) (fun I21 h51 => (q3x_ltI (kI3_w (s3t0 ho) h51) (fun I23 h52 => (q3x_ltI (kI3_w (s3t0 ho) h52) (fun I25 h53 => (q3x_ltI (kI3_w (s3t0 ho) h53) (fun I27 h54 => h54))))))))))))))))))))))))))))
theorem fr3_fn_X3_isOpenIn {I0 : Iv} (t : Int32) (I : Iv) (hI : KI3 I0 I) (J : Jv) : Qc3 I0 (fn_X3_isOpenIn t I J) := by
  unfold fn_X3_isOpenIn
  exact (q3x_ite hI (q3x_ite hI (q3x_ite hI hI)))
theorem fr3_fn_X0_sealOf {I0 : Iv} (o : Nat) (ho : StA o) (I : Iv) (hI : KI3 I0 I) (J : Jv) : Qc3 I0 (fn_X0_sealOf o I J) := by
  unfold fn_X0_sealOf
  exact (q3x_b3 (fr3_fn_X6_has o ho (1 : Int32) I hI J) (fun r6 _ _ h55 => (q3x_ite hI hI)))
theorem fr3_fn_X0_powerOf {I0 : Iv} (o : Nat) (ho : StA o) (I : Iv) (hI : KI3 I0 I) (J : Jv) : Qc3 I0 (fn_X0_powerOf o I J) := by
  unfold fn_X0_powerOf
  exact (q3x_lt (fun v1 => (q3x_b3 (fr3_fn_X6_has o ho (4 : Int32) I hI J) (fun r7 _ _ h56 => (q3x_jn (P := fun (j : Int32 → Int32 × Iv × Jv) => ∀ (a57 : Int32), Qc3 I0 (j a57)) (fun y9 => (q3x_b3 (fr3_fn_X6_has o ho (8 : Int32) I hI J) (fun r15 _ _ h58 => (q3x_ite hI (q3x_lt (fun v17 => hI)))))) (fun j25_0 j59 => (q3x_ite (j59 v1) (q3x_lt (fun v18 => (j59 v18))))))))))
theorem fr3_fn_X0_roomOf {I0 : Iv} (o : Nat) (ho : StA o) (I : Iv) (hI : KI3 I0 I) (J : Jv) : Qc3 I0 (fn_X0_roomOf o I J) := by
  unfold fn_X0_roomOf
  exact (q3x_lt (fun v1 => (q3x_b3 (fr3_fn_X6_tickOfDay o ho I hI J) (fun r7 _ _ h60 => (q3x_lt (fun v9 => (q3x_jn (P := fun (j : Int32 → Int32 × Iv × Jv) => ∀ (a61 : Int32), Qc3 I0 (j a61)) (fun w10 => (q3x_jn (P := fun (j : Int32 → Int32 × Iv × Jv) => ∀ (a62 : Int32), Qc3 I0 (j a62)) (fun y11 => (q3x_b3 (fr3_fn_X6_has o ho (64 : Int32) I hI J) (fun r17 _ _ h63 => (q3x_ite hI hI)))) (fun j77_1 j64 => (q3x_ite (j64 v1) (q3x_lt (fun v19 => (j64 v19))))))) (fun j57_0 j65 => (q3x_jn (P := Qc3 I0) (j65 ((0 : Int32))) (fun j56_2 j66 => (q3x_ite j66 (q3x_ite j66 (q3x_ite j66 (j65 ((1 : Int32))))))))))))))))
theorem fr3_fl_X7_lookAtWarmths_2_0 {I0 : Iv} (J : Jv) (o : Nat) (Kf0 : Int32 → Iv → Iv × Jv) (hKf0 : ∀ (a67 : Int32) (a68 : Iv), KI3 I0 a68 → Qc2 I0 (Kf0 a67 a68)) (ho : StA o) : ∀ (fu : Nat) (x1 : Int32) (I2 : Iv), KI3 I0 I2 → Qc2 I0 (fl_X7_lookAtWarmths_2_0 J o Kf0 fu x1 I2) := by
  intro fu
  induction fu with
  | zero =>
    intro x1 I2 hI2
    rw [fl_X7_lookAtWarmths_2_0.eq_1]
    exact hI2
  | succ kf0 ih =>
    intro x1 I2 hI2
    rw [fl_X7_lookAtWarmths_2_0.eq_2]
    exact (q3x_ite (hKf0 x1 I2 hI2) (q3x_b3 (fr3_fn_X6_warmthOf o ho x1 I2 hI2 J) (fun r10 _ _ h69 => (q3x_ltI (kI3_w rfl hI2) (fun I12 h70 => (ih (x1 + (1 : Int32)) I12 h70))))))
theorem fr3_fn_X7_lookAtWarmths {I0 : Iv} (o : Nat) (ho : StA o) (I : Iv) (hI : KI3 I0 I) (J : Jv) : Qc2 I0 (fn_X7_lookAtWarmths o I J) := by
  unfold fn_X7_lookAtWarmths
  exact (fr3_fl_X7_lookAtWarmths_2_0 J o (fun (x1 : Int32) (I2 : Iv) => (I2, J)) (fun x1 I2 h71 => h71) ho (mU (12 : Int32) ((0 : Int32)) + 1) (0 : Int32) I hI)
theorem fr3_fn_X7_switchMachine {I0 : Iv} (o : Nat) (ho : StA o) (bulb : Int32) (less : Int32) (I : Iv) (hI : KI3 I0 I) (J : Jv) : Qc2 I0 (fn_X7_switchMachine o bulb less I J) := by
  unfold fn_X7_switchMachine
  exact (q3x_jn (P := fun (j : Int32 → Iv × Jv) => ∀ (a72 : Int32), Qc2 I0 (j a72)) (fun w1 => (q3x_jn (P := fun (j : Int32 → Iv × Jv) => ∀ (a73 : Int32), Qc2 I0 (j a73)) (fun w2 => (q3x_ltI (kI3_w (s3t0 ho) hI) (fun I3 h74 => (q3x_lt (fun v5 => (q3x_jn (P := fun (j : Iv → Iv × Jv) => ∀ (a75 : Iv), KI3 I0 a75 → Qc2 I0 (j a75)) (fun I6 h76 => (q3x_ite h76 (q3x_ite (q3x_ltI (kI3_w (s3t8 ho) h76) (fun I8 h77 => h77)) h76))) (fun j139_2 j78 => (q3x_ite (q3x_ltI (kI3_w (s3t0 ho) h74) (fun I21 h79 => (j78 I21 h79))) (q3x_b3 (fr3_fn_X6_has o ho (16 : Int32) I3 h74 J) (fun r15 _ _ h80 => (q3x_jn (P := Qc2 I0) (q3x_ltI (kI3_w (s3t0 ho) h74) (fun I17 h82 => (j78 I17 h82))) (fun j104_3 j81 => (q3x_ite (q3x_ite (q3x_ite (j78 I3 h74) (q3x_ltI (kI3_w (s3t0 ho) h74) (fun I19 h83 => (j78 I19 h83)))) j81) j81))))))))))))) (fun j49_1 j84 => (q3x_ite (j84 w1) (j84 (((I o 9) + ((w1 - (I o 9)) / (8 : Int32))))))))) (fun j19_0 j85 => (q3x_jn (P := Qc2 I0) (j85 ((0 : Int32))) (fun j18_4 j86 => (q3x_ite j86 (q3x_ite j86 (j85 ((I 14 bulb.toNatClampNeg)))))))))
theorem fr3_fn_X7_flow {I0 : Iv} (ease : Int32) (from_ : Int32) (to_ : Int32) (fur : Int32) (I : Iv) (hI : KI3 I0 I) (J : Jv) : Qc2 I0 (fn_X7_flow ease from_ to_ fur I J) := by
  unfold fn_X7_flow
  exact (q3x_ite hI (q3x_ite hI (q3x_ite hI (q3x_ite hI (q3x_ite (q3x_lt (fun v1 => (q3x_lt (fun v2 => (q3x_lt (fun J3 => (q3x_lt (fun J5 => hI)))))))) hI)))))
theorem fr3_fl_X7_exchange_175_3 {I0 : Iv} (o : Nat) (I25 : Iv) (Kf3 : Int32 → Jv → Iv × Jv) (hI25 : KI3 I0 I25) (hKf3 : ∀ (a87 : Int32) (a88 : Jv), Qc2 I0 (Kf3 a87 a88)) (ho : StA o) : ∀ (fu : Nat) (x29 : Int32) (J30 : Jv), Qc2 I0 (fl_X7_exchange_175_3 o I25 Kf3 fu x29 J30) := by
  intro fu
  induction fu with
  | zero =>
    intro x29 J30
    rw [fl_X7_exchange_175_3.eq_1]
    exact hI25
  | succ kf3 ih =>
    intro x29 J30
    rw [fl_X7_exchange_175_3.eq_2]
    exact (q3x_ite (hKf3 x29 J30) (q3x_lt (fun J33 => (ih (x29 + (1 : Int32)) J33))))
theorem fr3_fl_X7_exchange_124_2 {I0 : Iv} (o : Nat) (Kf2 : Int32 → Iv → Jv → Iv × Jv) (hKf2 : ∀ (a89 : Int32) (a90 : Iv) (a91 : Jv), KI3 I0 a90 → Qc2 I0 (Kf2 a89 a90 a91)) (ho : StA o) : ∀ (fu : Nat) (x24 : Int32) (I25 : Iv) (J26 : Jv), KI3 I0 I25 → Qc2 I0 (fl_X7_exchange_124_2 o Kf2 fu x24 I25 J26) := by
  intro fu
  induction fu with
  | zero =>
    intro x24 I25 J26 hI25
    rw [fl_X7_exchange_124_2.eq_1]
    exact hI25
  | succ kf2 ih =>
    intro x24 I25 J26 hI25
    rw [fl_X7_exchange_124_2.eq_2]
    exact (q3x_ite (hKf2 x24 I25 J26 hI25) (q3x_ite (ih (x24 + (1 : Int32)) I25 J26 hI25) (q3x_b2 (fr3_fn_X7_flow (I25 8 5) (I25 (o + 4) x24.toNatClampNeg) ((4 : Int32) + x24) (0 : Int32) I25 hI25 J26) (fun I35 J36 h92 => (ih (x24 + (1 : Int32)) I35 J36 h92)))))
theorem fr3_fl_X7_exchange_68_1 {I0 : Iv} (Kf1 : Int32 → Iv → Jv → Iv × Jv) (hKf1 : ∀ (a93 : Int32) (a94 : Iv) (a95 : Jv), KI3 I0 a94 → Qc2 I0 (Kf1 a93 a94 a95)) : ∀ (fu : Nat) (x12 : Int32) (I13 : Iv) (J14 : Jv), KI3 I0 I13 → Qc2 I0 (fl_X7_exchange_68_1 Kf1 fu x12 I13 J14) := by
  intro fu
  induction fu with
  | zero =>
    intro x12 I13 J14 hI13
    rw [fl_X7_exchange_68_1.eq_1]
    exact hI13
  | succ kf1 ih =>
    intro x12 I13 J14 hI13
    rw [fl_X7_exchange_68_1.eq_2]
    exact (q3x_ite (hKf1 x12 I13 J14 hI13) (q3x_b2 (fr3_fn_X7_flow (I13 8 3) x12 (x12 + (1 : Int32)) (0 : Int32) I13 hI13 J14) (fun I42 J43 h96 => (ih (x12 + (1 : Int32)) I42 J43 h96))))
theorem fr3_fl_X7_exchange_11_0 {I0 : Iv} (room : Int32) (leak : Int32) (o : Nat) (I1 : Iv) (Kf0 : Int32 → Jv → Iv × Jv) (hI1 : KI3 I0 I1) (hKf0 : ∀ (a97 : Int32) (a98 : Jv), Qc2 I0 (Kf0 a97 a98)) (ho : StA o) : ∀ (fu : Nat) (x8 : Int32) (J9 : Jv), Qc2 I0 (fl_X7_exchange_11_0 room leak o I1 Kf0 fu x8 J9) := by
  intro fu
  induction fu with
  | zero =>
    intro x8 J9
    rw [fl_X7_exchange_11_0.eq_1]
    exact hI1
  | succ kf0 ih =>
    intro x8 J9
    rw [fl_X7_exchange_11_0.eq_2]
    exact (q3x_ite (hKf0 x8 J9) (q3x_lt (fun v49 => (q3x_lt (fun J50 => (q3x_lt (fun J52 => (ih (x8 + (1 : Int32)) J52))))))))
theorem fr3_fn_X7_exchange {I0 : Iv} (o : Nat) (ho : StA o) (room : Int32) (leak : Int32) (I : Iv) (hI : KI3 I0 I) (J : Jv) : Qc2 I0 (fn_X7_exchange o room leak I J) := by
  unfold fn_X7_exchange
  exact (q3x_lt (fun J2 => (q3x_ltI hI (fun I1 h99 => (fr3_fl_X7_exchange_11_0 room leak o I1 (fun (x8 : Int32) (J9 : Jv) => fl_X7_exchange_68_1  (fun (x12 : Int32) (I13 : Iv) (J14 : Jv) => b_n2 (fn_X7_flow (I13 8 4) (0 : Int32) (3 : Int32) (I13 (o + 8) 5) I13 J14) (fun (I17 : Iv) (J18 : Jv) => fl_X7_exchange_124_2 o (fun (x24 : Int32) (I25 : Iv) (J26 : Jv) => fl_X7_exchange_175_3 o I25 (fun (x29 : Int32) (J30 : Jv) => (I25, J30)) (mU (12 : Int32) ((0 : Int32)) + 1) (0 : Int32) J26) (mU (8 : Int32) ((0 : Int32)) + 1) (0 : Int32) I17 J18)) (mU (2 : Int32) ((0 : Int32)) + 1) (0 : Int32) I1 J9) h99 (fun x8 J9 => (fr3_fl_X7_exchange_68_1 (fun (x12 : Int32) (I13 : Iv) (J14 : Jv) => b_n2 (fn_X7_flow (I13 8 4) (0 : Int32) (3 : Int32) (I13 (o + 8) 5) I13 J14) (fun (I17 : Iv) (J18 : Jv) => fl_X7_exchange_124_2 o (fun (x24 : Int32) (I25 : Iv) (J26 : Jv) => fl_X7_exchange_175_3 o I25 (fun (x29 : Int32) (J30 : Jv) => (I25, J30)) (mU (12 : Int32) ((0 : Int32)) + 1) (0 : Int32) J26) (mU (8 : Int32) ((0 : Int32)) + 1) (0 : Int32) I17 J18)) (fun x12 I13 J14 h100 => (q3x_b2 (fr3_fn_X7_flow (I13 8 4) (0 : Int32) (3 : Int32) (I13 (o + 8) 5) I13 h100 J14) (fun I17 J18 h101 => (fr3_fl_X7_exchange_124_2 o (fun (x24 : Int32) (I25 : Iv) (J26 : Jv) => fl_X7_exchange_175_3 o I25 (fun (x29 : Int32) (J30 : Jv) => (I25, J30)) (mU (12 : Int32) ((0 : Int32)) + 1) (0 : Int32) J26) (fun x24 I25 J26 h102 => (fr3_fl_X7_exchange_175_3 o I25 (fun (x29 : Int32) (J30 : Jv) => (I25, J30)) h102 (fun x29 J30 => h102) ho (mU (12 : Int32) ((0 : Int32)) + 1) (0 : Int32) J26)) ho (mU (8 : Int32) ((0 : Int32)) + 1) (0 : Int32) I17 J18 h101)))) (mU (2 : Int32) ((0 : Int32)) + 1) (0 : Int32) I1 J9 h99)) ho (mU (3 : Int32) ((0 : Int32)) + 1) (0 : Int32) J2)))))
theorem fr3_fn_X7_giveLight {I0 : Iv} (o : Nat) (ho : StA o) (I : Iv) (hI : KI3 I0 I) (J : Jv) : Qc2 I0 (fn_X7_giveLight o I J) := by
  unfold fn_X7_giveLight
  exact (q3x_lt (fun v1 => (q3x_lt (fun J2 => (q3x_lt (fun J4 => (q3x_ltI (kI3_w (s3t8 ho) hI) (fun I6 h103 => h103))))))))
theorem fr3_fn_X7_moveOut {I0 : Iv} (o : Nat) (ho : StA o) (power : Int32) (I : Iv) (hI : KI3 I0 I) (J : Jv) : Qc2 I0 (fn_X7_moveOut o power I J) := by
  unfold fn_X7_moveOut
  exact (q3x_lt (fun v1 => (q3x_lt (fun J2 => (q3x_lt (fun J4 => (q3x_ltI (kI3_w (s3t8 ho) hI) (fun I6 h104 => (q3x_ltI (kI3_w (s3t8 ho) h104) (fun I8 h105 => h105))))))))))
theorem fr3_fn_X7_takeWet {I0 : Iv} (o : Nat) (ho : StA o) (wet : Int32) (I : Iv) (hI : KI3 I0 I) (J : Jv) : Qc2 I0 (fn_X7_takeWet o wet I J) := by
  unfold fn_X7_takeWet
  exact (q3x_ltI (kI3_w (s3t8 ho) hI) (fun I1 h106 => (q3x_b3 (fr3_fn_X6_warmthOf o ho (3 : Int32) I1 h106 J) (fun r8 _ _ h107 => (q3x_ite (q3x_lt (fun v10 => (q3x_ltI (kI3_w (s3t8 ho) h106) (fun I11 h108 => (q3x_ltI (kI3_w (s3t8 ho) h108) (fun I13 h109 => (q3x_ltI (kI3_w (s3t8 ho) h109) (fun I15 h110 => h110)))))))) (q3x_lt (fun v17 => (q3x_ltI (kI3_w (s3t8 ho) h106) (fun I18 h111 => (q3x_ltI (kI3_w (s3t8 ho) h111) (fun I20 h112 => h112)))))))))))
theorem fr3_fn_X7_pass {I0 : Iv} (o : Nat) (ho : StA o) (open_ : Int32) (bulb : Int32) (less : Int32) (I : Iv) (hI : KI3 I0 I) (J : Jv) : Qc2 I0 (fn_X7_pass o open_ bulb less I J) := by
  unfold fn_X7_pass
  exact (q3x_b2 (fr3_fn_X7_lookAtWarmths o ho I hI J) (fun I1 J2 h113 => (q3x_b3 (fr3_fn_X0_roomOf o ho I1 h113 J2) (fun r13 _ _ h114 => (q3x_b3 (fr3_fn_X0_sealOf o ho I1 h113 J2) (fun r20 _ _ h115 => (q3x_b2 (fr3_fn_X7_switchMachine o ho bulb less I1 h113 J2) (fun I22 J23 h116 => (q3x_jn (P := fun (j : Int32 → Iv × Jv) => ∀ (a117 : Int32), Qc2 I0 (j a117)) (fun w29 => (q3x_b2 (fr3_fn_X7_exchange o ho r13 (((I22 8 1) + r20) + w29) I22 h116 J23) (fun I30 J31 h118 => (q3x_jn (P := fun (j : Iv → Jv → Iv × Jv) => ∀ (a119 : Iv) (a120 : Jv), KI3 I0 a119 → Qc2 I0 (j a119 a120)) (fun I37 J38 h121 => (q3x_jn (P := fun (j : Iv → Jv → Iv × Jv) => ∀ (a122 : Iv) (a123 : Jv), KI3 I0 a122 → Qc2 I0 (j a122 a123)) (fun I40 J41 h124 => (q3x_jn (P := fun (j : Int32 → Iv × Jv) => ∀ (a125 : Int32), Qc2 I0 (j a125)) (fun w43 => (q3x_b2 (fr3_fn_X7_takeWet o ho (r20 + w43) I40 h124 J41) (fun I44 J45 h126 => (q3x_ltI (kI3_w (s3t8 ho) h126) (fun I51 h127 => h127))))) (fun j135_3 j128 => (q3x_ite (j128 ((0 : Int32))) (j128 ((20 : Int32))))))) (fun j121_2 j129 => (q3x_ite (j129 I37 J38 h121) (q3x_b3 (fr3_fn_X0_powerOf o ho I37 h121 J38) (fun r58 _ _ h130 => (q3x_b2 (fr3_fn_X7_moveOut o ho (r58 - ((r13 - (I37 14 3)) / (8 : Int32))) I37 h121 J38) (fun I60 J61 h131 => (j129 I60 J61 h131))))))))) (fun j88_1 j132 => (q3x_ite (j132 I30 J31 h118) (q3x_jn (P := Qc2 I0) (q3x_b2 (fr3_fn_X7_giveLight o ho I30 h118 J31) (fun I67 J68 h134 => (j132 I67 J68 h134))) (fun j83_4 j133 => (q3x_ite (q3x_b3 (fr3_fn_X6_has o ho (32 : Int32) I30 h118 J31) (fun r79 _ _ h135 => (q3x_ite (j132 I30 J31 h118) j133))) j133))))))))) (fun j59_0 j136 => (q3x_ite (j136 ((0 : Int32))) (j136 ((60 : Int32))))))))))))))
theorem fr3_fl_X7_passByDay_3_0 {I0 : Iv} (n : Int32) (bulb : Int32) (o : Nat) (Kf0 : Int32 → Iv → Jv → Iv × Jv) (hKf0 : ∀ (a137 : Int32) (a138 : Iv) (a139 : Jv), KI3 I0 a138 → Qc2 I0 (Kf0 a137 a138 a139)) (ho : StA o) : ∀ (fu : Nat) (x1 : Int32) (I2 : Iv) (J3 : Jv), KI3 I0 I2 → Qc2 I0 (fl_X7_passByDay_3_0 n bulb o Kf0 fu x1 I2 J3) := by
  intro fu
  induction fu with
  | zero =>
    intro x1 I2 J3 hI2
    rw [fl_X7_passByDay_3_0.eq_1]
    exact hI2
  | succ kf0 ih =>
    intro x1 I2 J3 hI2
    rw [fl_X7_passByDay_3_0.eq_2]
    exact (q3x_ite (hKf0 x1 I2 J3 hI2) (q3x_b3 (fr3_fn_X6_tickOfDay o ho I2 hI2 J3) (fun r11 _ _ h140 => (q3x_b3 (fr3_fn_X3_isOpenIn r11 I2 hI2 J3) (fun r18 _ _ h141 => (q3x_b2 (fr3_fn_X7_pass o ho r18 bulb (0 : Int32) I2 hI2 J3) (fun I20 J21 h142 => (ih (x1 + (1 : Int32)) I20 J21 h142))))))))
theorem fr3_fn_X7_passByDay {I0 : Iv} (o : Nat) (ho : StA o) (n : Int32) (bulb : Int32) (I : Iv) (hI : KI3 I0 I) (J : Jv) : Qc2 I0 (fn_X7_passByDay o n bulb I J) := by
  unfold fn_X7_passByDay
  exact (fr3_fl_X7_passByDay_3_0 n bulb o (fun (x1 : Int32) (I2 : Iv) (J3 : Jv) => (I2, J3)) (fun x1 I2 J3 h143 => h143) ho (mU n ((0 : Int32)) + 1) (0 : Int32) I J hI)
theorem fr3_fn_X9_isSet {I0 : Iv} (x : Int32) (I : Iv) (hI : KI3 I0 I) (J : Jv) : Qc3 I0 (fn_X9_isSet x I J) := by
  unfold fn_X9_isSet
  exact (q3x_ite hI (q3x_ite hI hI))
theorem fr3_fn_X9_isTrouble {I0 : Iv} (x : Int32) (I : Iv) (hI : KI3 I0 I) (J : Jv) : Qc3 I0 (fn_X9_isTrouble x I J) := by
  unfold fn_X9_isTrouble
  exact (q3x_ite hI (q3x_ite hI hI))
theorem fr3_fn_X9_isSign {I0 : Iv} (x : Int32) (I : Iv) (hI : KI3 I0 I) (J : Jv) : Qc3 I0 (fn_X9_isSign x I J) := by
  unfold fn_X9_isSign
  exact (q3x_ite hI (q3x_ite hI hI))
theorem fr3_fn_X9_isShelf {I0 : Iv} (x : Int32) (I : Iv) (hI : KI3 I0 I) (J : Jv) : Qc3 I0 (fn_X9_isShelf x I J) := by
  unfold fn_X9_isShelf
  exact (q3x_ite hI (q3x_ite hI hI))
theorem fr3_fn_X9_isPrice {I0 : Iv} (x : Int32) (I : Iv) (hI : KI3 I0 I) (J : Jv) : Qc3 I0 (fn_X9_isPrice x I J) := by
  unfold fn_X9_isPrice
  exact (q3x_ite hI (q3x_ite hI hI))
theorem fr3_fn_X9_canBeWarmth {I0 : Iv} (x : Int32) (I : Iv) (hI : KI3 I0 I) (J : Jv) : Qc3 I0 (fn_X9_canBeWarmth x I J) := by
  unfold fn_X9_canBeWarmth
  exact (q3x_ite hI (q3x_ite hI hI))
theorem fr3_fn_X9_areSignDays {I0 : Iv} (x : Int32) (I : Iv) (hI : KI3 I0 I) (J : Jv) : Qc3 I0 (fn_X9_areSignDays x I J) := by
  unfold fn_X9_areSignDays
  exact (q3x_ite hI (q3x_ite hI hI))
theorem fr3_fn_X9_isPart {I0 : Iv} (part : Int32) (set : Int32) (I : Iv) (hI : KI3 I0 I) (J : Jv) : Qc3 I0 (fn_X9_isPart part set I J) := by
  unfold fn_X9_isPart
  exact (q3x_ite hI hI)
theorem fr3_fn_J6_bitCount_0f7a4 {I0 : Iv} (x : Int32) (I : Iv) (hI : KI3 I0 I) (J : Jv) : Qc3 I0 (fn_J6_bitCount_0f7a4 x I J) := by
  unfold fn_J6_bitCount_0f7a4
  exact (q3x_lt (fun v1 => (q3x_lt (fun v2 => (q3x_lt (fun v3 => (q3x_lt (fun v4 => (q3x_lt (fun v5 => hI))))))))))
theorem fr3_fn_X1_placeOf {I0 : Iv} (set : Int32) (n : Int32) (I : Iv) (hI : KI3 I0 I) (J : Jv) : Qc3 I0 (fn_X1_placeOf set n I J) := by
  unfold fn_X1_placeOf
  exact hI
theorem fr3_fn_X1_signOf {I0 : Iv} (set : Int32) (n : Int32) (what : Int32) (I : Iv) (hI : KI3 I0 I) (J : Jv) : Qc3 I0 (fn_X1_signOf set n what I J) := by
  unfold fn_X1_signOf
  exact (q3x_b3 (fr3_fn_X9_isSet set I hI J) (fun r6 _ _ h144 => (q3x_ite hI (q3x_b3 (fr3_fn_X9_areSignDays n I hI J) (fun r13 _ _ h145 => (q3x_ite hI (q3x_b3 (fr3_fn_X9_isSign what I hI J) (fun r20 _ _ h146 => (q3x_ite hI (q3x_b3 (fr3_fn_X1_placeOf set n I hI J) (fun r27 _ _ h147 => hI)))))))))))
theorem fr3_fn_X1_begin {I0 : Iv} (set : Int32) (cur : Int32) (I : Iv) (hI : KI3 I0 I) (J : Jv) : Qc2 I0 (fn_X1_begin set cur I J) := by
  unfold fn_X1_begin
  exact (q3x_ltI (kI3_w rfl hI) (fun I1 h148 => (q3x_ltI (kI3_w rfl h148) (fun I3 h149 => (q3x_b2 (fr3_fn_X6_becomeFresh 46 stA_46 I3 h149 J) (fun I5 J6 h150 => h150))))))
theorem fr3_fl_X1_learnCouldBe_2_0 {I0 : Iv} (n : Int32) (Kf0 : Int32 → Iv → Jv → Iv × Jv) (hKf0 : ∀ (a151 : Int32) (a152 : Iv) (a153 : Jv), KI3 I0 a152 → Qc2 I0 (Kf0 a151 a152 a153)) : ∀ (fu : Nat) (x1 : Int32) (I2 : Iv) (J3 : Jv), KI3 I0 I2 → Qc2 I0 (fl_X1_learnCouldBe_2_0 n Kf0 fu x1 I2 J3) := by
  intro fu
  induction fu with
  | zero =>
    intro x1 I2 J3 hI2
    rw [fl_X1_learnCouldBe_2_0.eq_1]
    exact hI2
  | succ kf0 ih =>
    intro x1 I2 J3 hI2
    rw [fl_X1_learnCouldBe_2_0.eq_2]
    exact (q3x_ite (hKf0 x1 I2 J3 hI2) (q3x_lt (fun t6 => (q3x_b2 (fr3_fn_X1_learn t6 n I2 hI2 J3) (fun I7 J8 h154 => (ih (x1 + (1 : Int32)) I7 J8 h154))))))
theorem fr3_fn_X1_learnCouldBe {I0 : Iv} (n : Int32) (I : Iv) (hI : KI3 I0 I) (J : Jv) : Qc2 I0 (fn_X1_learnCouldBe n I J) := by
  unfold fn_X1_learnCouldBe
  exact (fr3_fl_X1_learnCouldBe_2_0 n (fun (x1 : Int32) (I2 : Iv) (J3 : Jv) => (I2, J3)) (fun x1 I2 J3 h155 => h155) (mU (29 : Int32) ((0 : Int32)) + 1) (0 : Int32) I J hI)
theorem fr3_fl_X1_learnParts_2_0 {I0 : Iv} (set : Int32) (n : Int32) (Kf0 : Int32 → Iv → Jv → Iv × Jv) (hKf0 : ∀ (a156 : Int32) (a157 : Iv) (a158 : Jv), KI3 I0 a157 → Qc2 I0 (Kf0 a156 a157 a158)) : ∀ (fu : Nat) (x1 : Int32) (I2 : Iv) (J3 : Jv), KI3 I0 I2 → Qc2 I0 (fl_X1_learnParts_2_0 set n Kf0 fu x1 I2 J3) := by
  intro fu
  induction fu with
  | zero =>
    intro x1 I2 J3 hI2
    rw [fl_X1_learnParts_2_0.eq_1]
    exact hI2
  | succ kf0 ih =>
    intro x1 I2 J3 hI2
    rw [fl_X1_learnParts_2_0.eq_2]
    exact (q3x_ite (hKf0 x1 I2 J3 hI2) (q3x_b3 (fr3_fn_X9_isPart x1 set I2 hI2 J3) (fun r11 _ _ h159 => (q3x_ite (ih (x1 + (1 : Int32)) I2 J3 hI2) (q3x_b2 (fr3_fn_X1_learn x1 n I2 hI2 J3) (fun I13 J14 h160 => (ih (x1 + (1 : Int32)) I13 J14 h160)))))))
theorem fr3_fn_X1_learnParts {I0 : Iv} (set : Int32) (n : Int32) (I : Iv) (hI : KI3 I0 I) (J : Jv) : Qc2 I0 (fn_X1_learnParts set n I J) := by
  unfold fn_X1_learnParts
  exact (fr3_fl_X1_learnParts_2_0 set n (fun (x1 : Int32) (I2 : Iv) (J3 : Jv) => (I2, J3)) (fun x1 I2 J3 h161 => h161) (mUe set ((0 : Int32)) + 1) (0 : Int32) I J hI)
theorem fr3_fl_X1_firstDay_9_0 {I0 : Iv} (fur : Int32) (Kf0 : Int32 → Iv → Jv → Int32 × Iv × Jv) (hKf0 : ∀ (a162 : Int32) (a163 : Iv) (a164 : Jv), KI3 I0 a163 → Qc3 I0 (Kf0 a162 a163 a164)) : ∀ (fu : Nat) (x8 : Int32) (I9 : Iv) (J10 : Jv), KI3 I0 I9 → Qc3 I0 (fl_X1_firstDay_9_0 fur Kf0 fu x8 I9 J10) := by
  intro fu
  induction fu with
  | zero =>
    intro x8 I9 J10 hI9
    rw [fl_X1_firstDay_9_0.eq_1]
    exact hI9
  | succ kf0 ih =>
    intro x8 I9 J10 hI9
    rw [fl_X1_firstDay_9_0.eq_2]
    exact (q3x_ite (hKf0 x8 I9 J10 hI9) (q3x_lt (fun v13 => (q3x_b2 (fr3_fn_X7_passByDay 46 stA_46 (288 : Int32) (I9 8 8) I9 hI9 J10) (fun I14 J15 h165 => (q3x_jn (P := fun (j : Int32 → Int32 × Iv × Jv) => ∀ (a166 : Int32), Qc3 I0 (j a166)) (fun w21 => (q3x_ite (ih (x8 + (1 : Int32)) I14 J15 h165) h165)) (fun j104_1 j167 => (q3x_ite (q3x_ite (j167 ((1 : Int32))) (j167 ((0 : Int32)))) (q3x_ite (j167 ((0 : Int32))) (j167 ((1 : Int32))))))))))))
theorem fr3_fn_X1_firstDay {I0 : Iv} (set : Int32) (fur : Int32) (cur : Int32) (I : Iv) (hI : KI3 I0 I) (J : Jv) : Qc3 I0 (fn_X1_firstDay set fur cur I J) := by
  unfold fn_X1_firstDay
  exact (q3x_b2 (fr3_fn_X1_begin set cur I hI J) (fun I1 J2 h168 => (fr3_fl_X1_firstDay_9_0 fur (fun (x8 : Int32) (I9 : Iv) (J10 : Jv) => ((-1 : Int32), I9, J10)) (fun x8 I9 J10 h169 => h169) (mUe (30 : Int32) ((1 : Int32)) + 1) (1 : Int32) I1 J2 h168)))
theorem fr3_fl_X1_usedThawing_10_0 {I0 : Iv} (n : Int32) (p : Int32) (Kf0 : Int32 → Iv → Jv → Int32 × Iv × Jv) (hKf0 : ∀ (a170 : Int32) (a171 : Iv) (a172 : Jv), KI3 I0 a171 → Qc3 I0 (Kf0 a170 a171 a172)) : ∀ (fu : Nat) (x8 : Int32) (I9 : Iv) (J10 : Jv), KI3 I0 I9 → Qc3 I0 (fl_X1_usedThawing_10_0 n p Kf0 fu x8 I9 J10) := by
  intro fu
  induction fu with
  | zero =>
    intro x8 I9 J10 hI9
    rw [fl_X1_usedThawing_10_0.eq_1]
    exact hI9
  | succ kf0 ih =>
    intro x8 I9 J10 hI9
    rw [fl_X1_usedThawing_10_0.eq_2]
    exact (q3x_ite (hKf0 x8 I9 J10 hI9) (q3x_jn (P := fun (j : Iv → Jv → Int32 × Iv × Jv) => ∀ (a173 : Iv) (a174 : Jv), KI3 I0 a173 → Qc3 I0 (j a173 a174)) (fun I13 J14 h175 => (q3x_b2 (fr3_fn_X7_passByDay 46 stA_46 (288 : Int32) (I13 8 8) I13 h175 J14) (fun I16 J17 h176 => (ih (x8 + (1 : Int32)) I16 J17 h176)))) (fun j40_1 j177 => (q3x_ite (j177 I9 J10 hI9) (q3x_ite (j177 I9 J10 hI9) (q3x_ite (q3x_b3 (fr3_fn_X6_letOffIce 46 stA_46 I9 hI9 J10) (fun r28 I23 J24 h178 => (j177 I23 J24 h178))) (j177 I9 J10 hI9)))))))
theorem fr3_fn_X1_usedThawing {I0 : Iv} (set : Int32) (n : Int32) (p : Int32) (cur : Int32) (I : Iv) (hI : KI3 I0 I) (J : Jv) : Qc3 I0 (fn_X1_usedThawing set n p cur I J) := by
  unfold fn_X1_usedThawing
  exact (q3x_b2 (fr3_fn_X1_begin set cur I hI J) (fun I1 J2 h179 => (fr3_fl_X1_usedThawing_10_0 n p (fun (x8 : Int32) (I9 : Iv) (J10 : Jv) => ((I9 54 1), I9, J10)) (fun x8 I9 J10 h180 => h180) (mU n ((0 : Int32)) + 1) (0 : Int32) I1 J2 h179)))
theorem fr3_fl_X2_howManySeen_4_0 {I0 : Iv} (I : Iv) (J : Jv) (Kf0 : Int32 → Int32 → Int32 × Iv × Jv) (hI : KI3 I0 I) (hKf0 : ∀ (a181 : Int32) (a182 : Int32), Qc3 I0 (Kf0 a181 a182)) : ∀ (fu : Nat) (x1 : Int32) (x2 : Int32), Qc3 I0 (fl_X2_howManySeen_4_0 I J Kf0 fu x1 x2) := by
  intro fu
  induction fu with
  | zero =>
    intro x1 x2
    rw [fl_X2_howManySeen_4_0.eq_1]
    exact hI
  | succ kf0 ih =>
    intro x1 x2
    rw [fl_X2_howManySeen_4_0.eq_2]
    exact (q3x_ite (hKf0 x1 x2) (q3x_ite (ih x1 (x2 + (1 : Int32))) (ih (x1 + (1 : Int32)) (x2 + (1 : Int32)))))
theorem fr3_fn_X2_howManySeen {I0 : Iv} (I : Iv) (hI : KI3 I0 I) (J : Jv) : Qc3 I0 (fn_X2_howManySeen I J) := by
  unfold fn_X2_howManySeen
  exact (fr3_fl_X2_howManySeen_4_0 I J (fun (x1 : Int32) (x2 : Int32) => (x1, I, J)) hI (fun x1 x2 => hI) (mU (7 : Int32) ((0 : Int32)) + 1) (0 : Int32) (0 : Int32))
theorem fr3_fn_X2_exactOf {I0 : Iv} (what : Int32) (I : Iv) (hI : KI3 I0 I) (J : Jv) : Qc3 I0 (fn_X2_exactOf what I J) := by
  unfold fn_X2_exactOf
  exact (q3x_ite hI (q3x_ite hI hI))
theorem fr3_fn_X2_halvings {I0 : Iv} (set : Int32) (n : Int32) (what : Int32) (I : Iv) (hI : KI3 I0 I) (J : Jv) : Qc3 I0 (fn_X2_halvings set n what I J) := by
  unfold fn_X2_halvings
  exact (q3x_b3 (fr3_fn_X1_signOf set n what I hI J) (fun r6 _ _ h183 => (q3x_lt (fun v8 => (q3x_b3 (fr3_fn_X2_exactOf what I hI J) (fun r14 _ _ h184 => hI))))))
theorem fr3_fl_X2_weightOf_61_1 {I0 : Iv} (I : Iv) (J : Jv) (set : Int32) (n : Int32) (Kf1 : Int64 → Int32 → Int64 × Iv × Jv) (hI : KI3 I0 I) (hKf1 : ∀ (a185 : Int64) (a186 : Int32), Qc3 I0 (Kf1 a185 a186)) : ∀ (fu : Nat) (x4 : Int64) (x5 : Int32), Qc3 I0 (fl_X2_weightOf_61_1 I J set n Kf1 fu x4 x5) := by
  intro fu
  induction fu with
  | zero =>
    intro x4 x5
    rw [fl_X2_weightOf_61_1.eq_1]
    exact hI
  | succ kf1 ih =>
    intro x4 x5
    rw [fl_X2_weightOf_61_1.eq_2]
    exact (q3x_ite (hKf1 x4 x5) (q3x_ite (ih x4 (x5 + (1 : Int32))) (q3x_b3 (fr3_fn_X2_halvings set n x5 I hI J) (fun r12 _ _ h187 => (q3x_lt (fun v14 => (ih v14 (x5 + (1 : Int32)))))))))
theorem fr3_fl_X2_weightOf_7_0 {I0 : Iv} (I : Iv) (J : Jv) (set : Int32) (Kf0 : Int64 → Int32 → Int64 × Iv × Jv) (hI : KI3 I0 I) (hKf0 : ∀ (a188 : Int64) (a189 : Int32), Qc3 I0 (Kf0 a188 a189)) : ∀ (fu : Nat) (x1 : Int64) (x2 : Int32), Qc3 I0 (fl_X2_weightOf_7_0 I J set Kf0 fu x1 x2) := by
  intro fu
  induction fu with
  | zero =>
    intro x1 x2
    rw [fl_X2_weightOf_7_0.eq_1]
    exact hI
  | succ kf0 ih =>
    intro x1 x2
    rw [fl_X2_weightOf_7_0.eq_2]
    exact (q3x_ite (hKf0 x1 x2) (q3x_jn (P := fun (j : Int32 → Int64 × Iv × Jv) => ∀ (a190 : Int32), Qc3 I0 (j a190)) (fun w15 => (q3x_lt (fun v16 => (ih v16 (x2 + (1 : Int32)))))) (fun j45_2 j191 => (q3x_ite (j191 (((1000 : Int32) - (I 61 x2.toNatClampNeg)))) (j191 ((I 61 x2.toNatClampNeg)))))))
theorem fr3_fn_X2_weightOf {I0 : Iv} (set : Int32) (n : Int32) (I : Iv) (hI : KI3 I0 I) (J : Jv) : Qc3 I0 (fn_X2_weightOf set n I J) := by
  unfold fn_X2_weightOf
  exact (fr3_fl_X2_weightOf_7_0 I J set (fun (x1 : Int64) (x2 : Int32) => fl_X2_weightOf_61_1 I J set n (fun (x4 : Int64) (x5 : Int32) => (x4, I, J)) (mU (7 : Int32) ((0 : Int32)) + 1) x1 (0 : Int32)) hI (fun x1 x2 => (fr3_fl_X2_weightOf_61_1 I J set n (fun (x4 : Int64) (x5 : Int32) => (x4, I, J)) hI (fun x4 x5 => hI) (mU (7 : Int32) ((0 : Int32)) + 1) x1 (0 : Int32))) (mU (7 : Int32) ((0 : Int32)) + 1) (1000000 : Int64) (0 : Int32))
theorem fr3_fl_X2_weighAll_5_0 {I0 : Iv} (I : Iv) (n : Int32) (Kf0 : Int64 → Int32 → Jv → Int64 × Iv × Jv) (hI : KI3 I0 I) (hKf0 : ∀ (a192 : Int64) (a193 : Int32) (a194 : Jv), Qc3 I0 (Kf0 a192 a193 a194)) : ∀ (fu : Nat) (x1 : Int64) (x2 : Int32) (J3 : Jv), Qc3 I0 (fl_X2_weighAll_5_0 I n Kf0 fu x1 x2 J3) := by
  intro fu
  induction fu with
  | zero =>
    intro x1 x2 J3
    rw [fl_X2_weighAll_5_0.eq_1]
    exact hI
  | succ kf0 ih =>
    intro x1 x2 J3
    rw [fl_X2_weighAll_5_0.eq_2]
    exact (q3x_ite (hKf0 x1 x2 J3) (q3x_lt (fun t6 => (q3x_b3 (fr3_fn_X2_weightOf t6 n I hI J3) (fun r12 _ _ h195 => (q3x_lt (fun J14 => (q3x_lt (fun v16 => (ih v16 (x2 + (1 : Int32)) J14))))))))))
theorem fr3_fn_X2_weighAll {I0 : Iv} (n : Int32) (I : Iv) (hI : KI3 I0 I) (J : Jv) : Qc3 I0 (fn_X2_weighAll n I J) := by
  unfold fn_X2_weighAll
  exact (fr3_fl_X2_weighAll_5_0 I n (fun (x1 : Int64) (x2 : Int32) (J3 : Jv) => (x1, I, J3)) hI (fun x1 x2 J3 => hI) (mU (29 : Int32) ((0 : Int32)) + 1) (0 : Int64) (0 : Int32) J)
theorem fr3_fn_X2_share {I0 : Iv} (i : Int32) (all : Int64) (I : Iv) (hI : KI3 I0 I) (J : Jv) : Qc3 I0 (fn_X2_share i all I J) := by
  unfold fn_X2_share
  exact (q3x_ite hI (q3x_ite hI (q3x_ite hI hI)))
theorem fr3_fl_X2_isFirstOfClass_2_0 {I0 : Iv} (I : Iv) (J : Jv) (i : Int32) (Kf0 : Int32 → Int32 × Iv × Jv) (hI : KI3 I0 I) (hKf0 : ∀ (a196 : Int32), Qc3 I0 (Kf0 a196)) : ∀ (fu : Nat) (x1 : Int32), Qc3 I0 (fl_X2_isFirstOfClass_2_0 I J i Kf0 fu x1) := by
  intro fu
  induction fu with
  | zero =>
    intro x1
    rw [fl_X2_isFirstOfClass_2_0.eq_1]
    exact hI
  | succ kf0 ih =>
    intro x1
    rw [fl_X2_isFirstOfClass_2_0.eq_2]
    exact (q3x_ite (hKf0 x1) (q3x_ite hI (ih (x1 + (1 : Int32)))))
theorem fr3_fn_X2_isFirstOfClass {I0 : Iv} (i : Int32) (I : Iv) (hI : KI3 I0 I) (J : Jv) : Qc3 I0 (fn_X2_isFirstOfClass i I J) := by
  unfold fn_X2_isFirstOfClass
  exact (fr3_fl_X2_isFirstOfClass_2_0 I J i (fun (x1 : Int32) => ((1 : Int32), I, J)) hI (fun x1 => hI) (mU i ((0 : Int32)) + 1) (0 : Int32))
theorem fr3_fl_X2_weightOfClass_5_0 {I0 : Iv} (I : Iv) (J : Jv) (i : Int32) (Kf0 : Int64 → Int32 → Int64 × Iv × Jv) (hI : KI3 I0 I) (hKf0 : ∀ (a197 : Int64) (a198 : Int32), Qc3 I0 (Kf0 a197 a198)) : ∀ (fu : Nat) (x1 : Int64) (x2 : Int32), Qc3 I0 (fl_X2_weightOfClass_5_0 I J i Kf0 fu x1 x2) := by
  intro fu
  induction fu with
  | zero =>
    intro x1 x2
    rw [fl_X2_weightOfClass_5_0.eq_1]
    exact hI
  | succ kf0 ih =>
    intro x1 x2
    rw [fl_X2_weightOfClass_5_0.eq_2]
    exact (q3x_ite (hKf0 x1 x2) (q3x_ite (q3x_lt (fun v3 => (ih v3 (x2 + (1 : Int32))))) (ih x1 (x2 + (1 : Int32)))))
theorem fr3_fn_X2_weightOfClass {I0 : Iv} (i : Int32) (I : Iv) (hI : KI3 I0 I) (J : Jv) : Qc3 I0 (fn_X2_weightOfClass i I J) := by
  unfold fn_X2_weightOfClass
  exact (fr3_fl_X2_weightOfClass_5_0 I J i (fun (x1 : Int64) (x2 : Int32) => (x1, I, J)) hI (fun x1 x2 => hI) (mU (29 : Int32) i + 1) (0 : Int64) i)
theorem fr3_fl_X2_tellingBy_61_1 {I0 : Iv} (J : Jv) (I2 : Iv) (Kf1 : Int64 → Int32 → Int32 × Iv × Jv) (hI2 : KI3 I0 I2) (hKf1 : ∀ (a199 : Int64) (a200 : Int32), Qc3 I0 (Kf1 a199 a200)) : ∀ (fu : Nat) (x5 : Int64) (x6 : Int32), Qc3 I0 (fl_X2_tellingBy_61_1 J I2 Kf1 fu x5 x6) := by
  intro fu
  induction fu with
  | zero =>
    intro x5 x6
    rw [fl_X2_tellingBy_61_1.eq_1]
    exact hI2
  | succ kf1 ih =>
    intro x5 x6
    rw [fl_X2_tellingBy_61_1.eq_2]
    exact (q3x_ite (hKf1 x5 x6) (q3x_b3 (fr3_fn_X2_isFirstOfClass x6 I2 hI2 J) (fun r13 _ _ h201 => (q3x_ite (ih x5 (x6 + (1 : Int32))) (q3x_b3 (fr3_fn_X2_weightOfClass x6 I2 hI2 J) (fun r20 _ _ h202 => (q3x_lt (fun v22 => (ih v22 (x6 + (1 : Int32)))))))))))
theorem fr3_fl_X2_tellingBy_11_0 {I0 : Iv} (J : Jv) (what : Int32) (n : Int32) (Kf0 : Int32 → Iv → Int32 × Iv × Jv) (hKf0 : ∀ (a203 : Int32) (a204 : Iv), KI3 I0 a204 → Qc3 I0 (Kf0 a203 a204)) : ∀ (fu : Nat) (x1 : Int32) (I2 : Iv), KI3 I0 I2 → Qc3 I0 (fl_X2_tellingBy_11_0 J what n Kf0 fu x1 I2) := by
  intro fu
  induction fu with
  | zero =>
    intro x1 I2 hI2
    rw [fl_X2_tellingBy_11_0.eq_1]
    exact hI2
  | succ kf0 ih =>
    intro x1 I2 hI2
    rw [fl_X2_tellingBy_11_0.eq_2]
    exact (q3x_ite (hKf0 x1 I2 hI2) (q3x_lt (fun t23 => (q3x_b3 (fr3_fn_X1_signOf t23 n what I2 hI2 J) (fun r29 _ _ h205 => (q3x_b3 (fr3_fn_X2_exactOf what I2 hI2 J) (fun r36 _ _ h206 => (q3x_ltI (kI3_w rfl hI2) (fun I38 h207 => (ih (x1 + (1 : Int32)) I38 h207))))))))))
theorem fr3_fn_X2_tellingBy {I0 : Iv} (what : Int32) (n : Int32) (all : Int64) (I : Iv) (hI : KI3 I0 I) (J : Jv) : Qc3 I0 (fn_X2_tellingBy what n all I J) := by
  unfold fn_X2_tellingBy
  exact (q3x_ite (fr3_fl_X2_tellingBy_11_0 J what n (fun (x1 : Int32) (I2 : Iv) => fl_X2_tellingBy_61_1 J I2 (fun (x5 : Int64) (x6 : Int32) => ((Int64.toInt32 ((1000 : Int64) - (((1000 : Int64) * x5) / (all * all)))), I2, J)) (mU (29 : Int32) ((0 : Int32)) + 1) (0 : Int64) (0 : Int32)) (fun x1 I2 h208 => (fr3_fl_X2_tellingBy_61_1 J I2 (fun (x5 : Int64) (x6 : Int32) => ((Int64.toInt32 ((1000 : Int64) - (((1000 : Int64) * x5) / (all * all)))), I2, J)) h208 (fun x5 x6 => h208) (mU (29 : Int32) ((0 : Int32)) + 1) (0 : Int64) (0 : Int32))) (mU (29 : Int32) ((0 : Int32)) + 1) (0 : Int32) I hI) hI)
theorem fr3_fl_X2_oddsOf_9_0 {I0 : Iv} (set : Int32) (I1 : Iv) (J2 : Jv) (r6 : Int64) (Kf0 : Int32 → Int32 × Iv × Jv) (hI1 : KI3 I0 I1) (hKf0 : ∀ (a209 : Int32), Qc3 I0 (Kf0 a209)) : ∀ (fu : Nat) (x9 : Int32), Qc3 I0 (fl_X2_oddsOf_9_0 set I1 J2 r6 Kf0 fu x9) := by
  intro fu
  induction fu with
  | zero =>
    intro x9
    rw [fl_X2_oddsOf_9_0.eq_1]
    exact hI1
  | succ kf0 ih =>
    intro x9
    rw [fl_X2_oddsOf_9_0.eq_2]
    exact (q3x_ite (hKf0 x9) (q3x_lt (fun t11 => (q3x_ite (q3x_b3 (fr3_fn_X2_share x9 r6 I1 hI1 J2) (fun r17 _ _ h210 => hI1)) (ih (x9 + (1 : Int32)))))))
theorem fr3_fn_X2_oddsOf {I0 : Iv} (set : Int32) (n : Int32) (I : Iv) (hI : KI3 I0 I) (J : Jv) : Qc3 I0 (fn_X2_oddsOf set n I J) := by
  unfold fn_X2_oddsOf
  exact (q3x_b3 (fr3_fn_X2_weighAll n I hI J) (fun r6 I1 J2 h211 => (fr3_fl_X2_oddsOf_9_0 set I1 J2 r6 (fun (x9 : Int32) => ((0 : Int32), I1, J2)) h211 (fun x9 => h211) (mU (29 : Int32) ((0 : Int32)) + 1) (0 : Int32))))
theorem fr3_fl_X2_oddsWith_12_0 {I0 : Iv} (k : Int32) (I1 : Iv) (J2 : Jv) (r6 : Int64) (Kf0 : Int32 → Int32 → Int32 × Iv × Jv) (hI1 : KI3 I0 I1) (hKf0 : ∀ (a212 : Int32) (a213 : Int32), Qc3 I0 (Kf0 a212 a213)) : ∀ (fu : Nat) (x9 : Int32) (x10 : Int32), Qc3 I0 (fl_X2_oddsWith_12_0 k I1 J2 r6 Kf0 fu x9 x10) := by
  intro fu
  induction fu with
  | zero =>
    intro x9 x10
    rw [fl_X2_oddsWith_12_0.eq_1]
    exact hI1
  | succ kf0 ih =>
    intro x9 x10
    rw [fl_X2_oddsWith_12_0.eq_2]
    exact (q3x_ite (hKf0 x9 x10) (q3x_lt (fun t12 => (q3x_ite (ih x9 (x10 + (1 : Int32))) (q3x_b3 (fr3_fn_X2_share x10 r6 I1 hI1 J2) (fun r18 _ _ h214 => (q3x_lt (fun v20 => (ih v20 (x10 + (1 : Int32)))))))))))
theorem fr3_fn_X2_oddsWith {I0 : Iv} (k : Int32) (n : Int32) (I : Iv) (hI : KI3 I0 I) (J : Jv) : Qc3 I0 (fn_X2_oddsWith k n I J) := by
  unfold fn_X2_oddsWith
  exact (q3x_b3 (fr3_fn_X2_weighAll n I hI J) (fun r6 I1 J2 h215 => (fr3_fl_X2_oddsWith_12_0 k I1 J2 r6 (fun (x9 : Int32) (x10 : Int32) => (x9, I1, J2)) h215 (fun x9 x10 => h215) (mU (29 : Int32) ((0 : Int32)) + 1) (0 : Int32) (0 : Int32))))
theorem fr3_fn_X2_howMuchTells {I0 : Iv} (what : Int32) (n : Int32) (I : Iv) (hI : KI3 I0 I) (J : Jv) : Qc3 I0 (fn_X2_howMuchTells what n I J) := by
  unfold fn_X2_howMuchTells
  exact (q3x_b3 (fr3_fn_X2_weighAll n I hI J) (fun r6 I1 J2 h216 => (q3x_b3 (fr3_fn_X2_tellingBy what n r6 I1 h216 J2) (fun r14 I9 J10 h217 => h217))))
theorem fr3_fl_X2_nextSign_15_0 {I0 : Iv} (n : Int32) (r6 : Int64) (Kf0 : Int32 → Int32 → Int32 → Iv → Jv → Int32 × Iv × Jv) (hKf0 : ∀ (a218 : Int32) (a219 : Int32) (a220 : Int32) (a221 : Iv) (a222 : Jv), KI3 I0 a221 → Qc3 I0 (Kf0 a218 a219 a220 a221 a222)) : ∀ (fu : Nat) (x9 : Int32) (x10 : Int32) (x11 : Int32) (I12 : Iv) (J13 : Jv), KI3 I0 I12 → Qc3 I0 (fl_X2_nextSign_15_0 n r6 Kf0 fu x9 x10 x11 I12 J13) := by
  intro fu
  induction fu with
  | zero =>
    intro x9 x10 x11 I12 J13 hI12
    rw [fl_X2_nextSign_15_0.eq_1]
    exact hI12
  | succ kf0 ih =>
    intro x9 x10 x11 I12 J13 hI12
    rw [fl_X2_nextSign_15_0.eq_2]
    exact (q3x_ite (hKf0 x9 x10 x11 I12 J13 hI12) (q3x_ite (q3x_b3 (fr3_fn_X2_tellingBy x11 n r6 I12 hI12 J13) (fun r21 I16 J17 h223 => (q3x_lt (fun v24 => (q3x_jn (P := Qc3 I0) (ih x11 v24 (x11 + (1 : Int32)) I16 J17 h223) (fun j66_1 j224 => (q3x_ite j224 (q3x_ite (ih x9 x10 (x11 + (1 : Int32)) I16 J17 h223) j224)))))))) (ih x9 x10 (x11 + (1 : Int32)) I12 J13 hI12)))
theorem fr3_fn_X2_nextSign {I0 : Iv} (n : Int32) (I : Iv) (hI : KI3 I0 I) (J : Jv) : Qc3 I0 (fn_X2_nextSign n I J) := by
  unfold fn_X2_nextSign
  exact (q3x_b3 (fr3_fn_X2_weighAll n I hI J) (fun r6 I1 J2 h225 => (fr3_fl_X2_nextSign_15_0 n r6 (fun (x9 : Int32) (x10 : Int32) (x11 : Int32) (I12 : Iv) (J13 : Jv) => (x9, I12, J13)) (fun x9 x10 x11 I12 J13 h226 => h226) (mU (7 : Int32) ((0 : Int32)) + 1) (-1 : Int32) (0 : Int32) (0 : Int32) I1 J2 h225)))
theorem fr3_fn_X4_yearByUse {I0 : Iv} (used : Int32) (I : Iv) (hI : KI3 I0 I) (J : Jv) : Qc3 I0 (fn_X4_yearByUse used I J) := by
  unfold fn_X4_yearByUse
  exact hI
theorem fr3_fn_X4_yearOf {I0 : Iv} (set : Int32) (cur : Int32) (I : Iv) (hI : KI3 I0 I) (J : Jv) : Qc3 I0 (fn_X4_yearOf set cur I J) := by
  unfold fn_X4_yearOf
  exact (q3x_ite hI (q3x_b3 (fr3_fn_X1_signOf set (2 : Int32) (6 : Int32) I hI J) (fun r6 _ _ h227 => (q3x_b3 (fr3_fn_X4_yearByUse r6 I hI J) (fun r13 _ _ h228 => hI)))))
theorem fr3_fn_X4_saved {I0 : Iv} (set : Int32) (part : Int32) (cur : Int32) (I : Iv) (hI : KI3 I0 I) (J : Jv) : Qc3 I0 (fn_X4_saved set part cur I J) := by
  unfold fn_X4_saved
  exact (q3x_b3 (fr3_fn_X4_yearOf set cur I hI J) (fun r6 _ _ h229 => (q3x_b3 (fr3_fn_X4_yearOf (set &&& (part ^^^ (-1 : Int32))) cur I hI J) (fun r13 _ _ h230 => hI))))
theorem fr3_fl_X4_costOf_4_0 {I0 : Iv} (I : Iv) (J : Jv) (part : Int32) (Kf0 : Int32 → Int32 → Int32 × Iv × Jv) (hI : KI3 I0 I) (hKf0 : ∀ (a231 : Int32) (a232 : Int32), Qc3 I0 (Kf0 a231 a232)) : ∀ (fu : Nat) (x1 : Int32) (x2 : Int32), Qc3 I0 (fl_X4_costOf_4_0 I J part Kf0 fu x1 x2) := by
  intro fu
  induction fu with
  | zero =>
    intro x1 x2
    rw [fl_X4_costOf_4_0.eq_1]
    exact hI
  | succ kf0 ih =>
    intro x1 x2
    rw [fl_X4_costOf_4_0.eq_2]
    exact (q3x_ite (hKf0 x1 x2) (q3x_ite (ih x1 (x2 + (1 : Int32))) (q3x_lt (fun v4 => (ih v4 (x2 + (1 : Int32)))))))
theorem fr3_fn_X4_costOf {I0 : Iv} (part : Int32) (I : Iv) (hI : KI3 I0 I) (J : Jv) : Qc3 I0 (fn_X4_costOf part I J) := by
  unfold fn_X4_costOf
  exact (fr3_fl_X4_costOf_4_0 I J part (fun (x1 : Int32) (x2 : Int32) => (x1, I, J)) hI (fun x1 x2 => hI) (mU (7 : Int32) ((0 : Int32)) + 1) (0 : Int32) (0 : Int32))
theorem fr3_fl_X4_bestPart_12_0 {I0 : Iv} (I : Iv) (J : Jv) (set : Int32) (c : Int32) (cur : Int32) (Kf0 : Int32 → Int32 → Int32 → Int32 → Int32 × Iv × Jv) (hI : KI3 I0 I) (hKf0 : ∀ (a233 : Int32) (a234 : Int32) (a235 : Int32) (a236 : Int32), Qc3 I0 (Kf0 a233 a234 a235 a236)) : ∀ (fu : Nat) (x1 : Int32) (x2 : Int32) (x3 : Int32) (x4 : Int32), Qc3 I0 (fl_X4_bestPart_12_0 I J set c cur Kf0 fu x1 x2 x3 x4) := by
  intro fu
  induction fu with
  | zero =>
    intro x1 x2 x3 x4
    rw [fl_X4_bestPart_12_0.eq_1]
    exact hI
  | succ kf0 ih =>
    intro x1 x2 x3 x4
    rw [fl_X4_bestPart_12_0.eq_2]
    exact (q3x_ite (hKf0 x1 x2 x3 x4) (q3x_b3 (fr3_fn_X4_costOf x4 I hI J) (fun r11 _ _ h237 => (q3x_b3 (fr3_fn_X9_isPart x4 set I hI J) (fun r18 _ _ h238 => (q3x_ite (ih x1 x2 x3 (x4 + (1 : Int32))) (q3x_ite (q3x_b3 (fr3_fn_X4_saved set x4 cur I hI J) (fun r25 _ _ h239 => (q3x_jn (P := Qc3 I0) (ih x4 r25 r11 (x4 + (1 : Int32))) (fun j75_1 j240 => (q3x_ite j240 (q3x_ite (q3x_ite (ih x1 x2 x3 (x4 + (1 : Int32))) j240) (ih x1 x2 x3 (x4 + (1 : Int32))))))))) (ih x1 x2 x3 (x4 + (1 : Int32))))))))))
theorem fr3_fn_X4_bestPart {I0 : Iv} (set : Int32) (c : Int32) (cur : Int32) (I : Iv) (hI : KI3 I0 I) (J : Jv) : Qc3 I0 (fn_X4_bestPart set c cur I J) := by
  unfold fn_X4_bestPart
  exact (fr3_fl_X4_bestPart_12_0 I J set c cur (fun (x1 : Int32) (x2 : Int32) (x3 : Int32) (x4 : Int32) => (x1, I, J)) hI (fun x1 x2 x3 x4 => hI) (mUe set ((1 : Int32)) + 1) (0 : Int32) (0 : Int32) (0 : Int32) (1 : Int32))
theorem fr3_fl_X4_yearsToPay_19_0 {I0 : Iv} (I : Iv) (J : Jv) (c : Int32) (v15 : Int64) (Kf0 : Int32 → Int32 × Iv × Jv) (hI : KI3 I0 I) (hKf0 : ∀ (a241 : Int32), Qc3 I0 (Kf0 a241)) : ∀ (fu : Nat) (x16 : Int32), Qc3 I0 (fl_X4_yearsToPay_19_0 I J c v15 Kf0 fu x16) := by
  intro fu
  induction fu with
  | zero =>
    intro x16
    rw [fl_X4_yearsToPay_19_0.eq_1]
    exact hI
  | succ kf0 ih =>
    intro x16
    rw [fl_X4_yearsToPay_19_0.eq_2]
    exact (q3x_ite (hKf0 x16) (q3x_ite (ih (x16 + (1 : Int32))) hI))
theorem fr3_fn_X4_yearsToPay {I0 : Iv} (set : Int32) (c : Int32) (u : Int32) (cur : Int32) (I : Iv) (hI : KI3 I0 I) (J : Jv) : Qc3 I0 (fn_X4_yearsToPay set c u cur I J) := by
  unfold fn_X4_yearsToPay
  exact (q3x_b3 (fr3_fn_X4_yearOf set cur I hI J) (fun r6 _ _ h242 => (q3x_b3 (fr3_fn_X4_yearByUse u I hI J) (fun r13 _ _ h243 => (q3x_lt (fun v15 => (fr3_fl_X4_yearsToPay_19_0 I J c v15 (fun (x16 : Int32) => ((-1 : Int32), I, J)) hI (fun x16 => hI) (mUe (30 : Int32) ((1 : Int32)) + 1) (1 : Int32))))))))
theorem fr3_fl_X4_bestThawing_9_0 {I0 : Iv} (set : Int32) (n : Int32) (b : Int32) (cur : Int32) (Kf0 : Int32 → Int64 → Int32 → Iv → Jv → Int32 × Iv × Jv) (hKf0 : ∀ (a244 : Int32) (a245 : Int64) (a246 : Int32) (a247 : Iv) (a248 : Jv), KI3 I0 a247 → Qc3 I0 (Kf0 a244 a245 a246 a247 a248)) : ∀ (fu : Nat) (x1 : Int32) (x2 : Int64) (x3 : Int32) (I4 : Iv) (J5 : Jv), KI3 I0 I4 → Qc3 I0 (fl_X4_bestThawing_9_0 set n b cur Kf0 fu x1 x2 x3 I4 J5) := by
  intro fu
  induction fu with
  | zero =>
    intro x1 x2 x3 I4 J5 hI4
    rw [fl_X4_bestThawing_9_0.eq_1]
    exact hI4
  | succ kf0 ih =>
    intro x1 x2 x3 I4 J5 hI4
    rw [fl_X4_bestThawing_9_0.eq_2]
    exact (q3x_ite (hKf0 x1 x2 x3 I4 J5 hI4) (q3x_b3 (fr3_fn_X1_usedThawing set n x3 cur I4 hI4 J5) (fun r13 I8 J9 h249 => (q3x_lt (fun v16 => (q3x_jn (P := fun (j : Int32 → Int32 × Iv × Jv) => ∀ (a250 : Int32), Qc3 I0 (j a250)) (fun w17 => (q3x_lt (fun v18 => (q3x_jn (P := Qc3 I0) (ih x3 v18 (x3 + (1 : Int32)) I8 J9 h249) (fun j82_2 j251 => (q3x_ite j251 (q3x_ite (ih x1 x2 (x3 + (1 : Int32)) I8 J9 h249) j251))))))) (fun j46_1 j252 => (q3x_ite (j252 ((0 : Int32))) (j252 (((n - (1 : Int32)) / x3)))))))))))
theorem fr3_fn_X4_bestThawing {I0 : Iv} (set : Int32) (n : Int32) (b : Int32) (cur : Int32) (I : Iv) (hI : KI3 I0 I) (J : Jv) : Qc3 I0 (fn_X4_bestThawing set n b cur I J) := by
  unfold fn_X4_bestThawing
  exact (fr3_fl_X4_bestThawing_9_0 set n b cur (fun (x1 : Int32) (x2 : Int64) (x3 : Int32) (I4 : Iv) (J5 : Jv) => (x1, I4, J5)) (fun x1 x2 x3 I4 J5 h253 => h253) (mU n ((0 : Int32)) + 1) (0 : Int32) (0 : Int64) (0 : Int32) I J hI)
theorem fr3_fn_X8_boxBulb {I0 : Iv} (I : Iv) (hI : KI3 I0 I) (J : Jv) : Qc3 I0 (fn_X8_boxBulb I J) := by
  unfold fn_X8_boxBulb
  exact hI
theorem fr3_fn_X8_isCheapHour {I0 : Iv} (h : Int32) (I : Iv) (hI : KI3 I0 I) (J : Jv) : Qc3 I0 (fn_X8_isCheapHour h I J) := by
  unfold fn_X8_isCheapHour
  exact (q3x_ite hI (q3x_ite hI (q3x_ite hI hI)))
theorem fr3_fn_X8_takeIfMore {I0 : Iv} (choice : Int32) (much : Int32) (I : Iv) (hI : KI3 I0 I) (J : Jv) : Qc2 I0 (fn_X8_takeIfMore choice much I J) := by
  unfold fn_X8_takeIfMore
  exact (q3x_ite hI (q3x_ltI (kI3_w rfl hI) (fun I1 h254 => (q3x_ltI (kI3_w rfl h254) (fun I3 h255 => h255)))))
theorem fr3_fl_X8_layByRow_6_0 {I0 : Iv} (J : Jv) (q : Nat) (Kf0 : Int32 → Int32 → Iv → Iv × Jv) (hKf0 : ∀ (a256 : Int32) (a257 : Int32) (a258 : Iv), KI3 I0 a258 → Qc2 I0 (Kf0 a256 a257 a258)) (hq : ∀ k, S3 q k = false) : ∀ (fu : Nat) (x1 : Int32) (x2 : Int32) (I3 : Iv), KI3 I0 I3 → Qc2 I0 (fl_X8_layByRow_6_0 J q Kf0 fu x1 x2 I3) := by
  intro fu
  induction fu with
  | zero =>
    intro x1 x2 I3 hI3
    rw [fl_X8_layByRow_6_0.eq_1]
    exact hI3
  | succ kf0 ih =>
    intro x1 x2 I3 hI3
    rw [fl_X8_layByRow_6_0.eq_2]
    exact (q3x_ite (hKf0 x1 x2 I3 hI3) (q3x_ite (ih x1 (x2 + (-1 : Int32)) I3 hI3) (q3x_ite (ih x1 (x2 + (-1 : Int32)) I3 hI3) (q3x_ltI (kI3_w (hq _) hI3) (fun I6 h259 => (q3x_lt (fun v8 => (ih v8 (x2 + (-1 : Int32)) I6 h259))))))))
theorem fr3_fn_X8_layByRow {I0 : Iv} (q : Nat) (hq : ∀ k, S3 q k = false) (rw_ : Int32) (I : Iv) (hI : KI3 I0 I) (J : Jv) : Qc2 I0 (fn_X8_layByRow q rw_ I J) := by
  unfold fn_X8_layByRow
  exact (fr3_fl_X8_layByRow_6_0 J q (fun (x1 : Int32) (x2 : Int32) (I3 : Iv) => (I3, J)) (fun x1 x2 I3 h260 => h260) hq (mD ((7 : Int32)) + 1) rw_ (7 : Int32) I hI)
theorem fr3_fn_X8_shelfInBestRow {I0 : Iv} (f : Int32) (I : Iv) (hI : KI3 I0 I) (J : Jv) : Qc3 I0 (fn_X8_shelfInBestRow f I J) := by
  unfold fn_X8_shelfInBestRow
  exact (q3x_b2 (fr3_fn_X8_layByRow 77 (fun _ => rfl) (I 67 7) I hI J) (fun I1 J2 h261 => (q3x_ite h261 (q3x_ite h261 h261))))
theorem fr3_fl_X8_withinOnSecondDay_19_0 {I0 : Iv} (bulb : Int32) (Kf0 : Int32 → Int32 → Iv → Jv → Int32 × Iv × Jv) (hKf0 : ∀ (a262 : Int32) (a263 : Int32) (a264 : Iv) (a265 : Jv), KI3 I0 a264 → Qc3 I0 (Kf0 a262 a263 a264 a265)) : ∀ (fu : Nat) (x8 : Int32) (x9 : Int32) (I10 : Iv) (J11 : Jv), KI3 I0 I10 → Qc3 I0 (fl_X8_withinOnSecondDay_19_0 bulb Kf0 fu x8 x9 I10 J11) := by
  intro fu
  induction fu with
  | zero =>
    intro x8 x9 I10 J11 hI10
    rw [fl_X8_withinOnSecondDay_19_0.eq_1]
    exact hI10
  | succ kf0 ih =>
    intro x8 x9 I10 J11 hI10
    rw [fl_X8_withinOnSecondDay_19_0.eq_2]
    exact (q3x_ite (hKf0 x8 x9 I10 J11 hI10) (q3x_b2 (fr3_fn_X7_passByDay 68 stA_68 (1 : Int32) bulb I10 hI10 J11) (fun I14 J15 h266 => (q3x_b3 (fr3_fn_X6_foodsWithin 68 stA_68 I14 h266 J15) (fun r26 _ _ h267 => (q3x_lt (fun v28 => (ih v28 (x9 + (1 : Int32)) I14 J15 h266))))))))
theorem fr3_fn_X8_withinOnSecondDay {I0 : Iv} (bulb : Int32) (I : Iv) (hI : KI3 I0 I) (J : Jv) : Qc3 I0 (fn_X8_withinOnSecondDay bulb I J) := by
  unfold fn_X8_withinOnSecondDay
  exact (q3x_b2 (fr3_fn_X7_passByDay 68 stA_68 (288 : Int32) bulb I hI J) (fun I1 J2 h268 => (fr3_fl_X8_withinOnSecondDay_19_0 bulb (fun (x8 : Int32) (x9 : Int32) (I10 : Iv) (J11 : Jv) => (x8, I10, J11)) (fun x8 x9 I10 J11 h269 => h269) (mU (288 : Int32) ((0 : Int32)) + 1) (0 : Int32) (0 : Int32) I1 J2 h268)))
theorem fr3_fl_X8_findBestRow_45_2 {I0 : Iv} (r6 : Int32) (x8 : Int32) (Kf2 : Int32 → Iv → Jv → Iv × Jv) (hKf2 : ∀ (a270 : Int32) (a271 : Iv) (a272 : Jv), KI3 I0 a271 → Qc2 I0 (Kf2 a270 a271 a272)) : ∀ (fu : Nat) (x15 : Int32) (I16 : Iv) (J17 : Jv), KI3 I0 I16 → Qc2 I0 (fl_X8_findBestRow_45_2 r6 x8 Kf2 fu x15 I16 J17) := by
  intro fu
  induction fu with
  | zero =>
    intro x15 I16 J17 hI16
    rw [fl_X8_findBestRow_45_2.eq_1]
    exact hI16
  | succ kf2 ih =>
    intro x15 I16 J17 hI16
    rw [fl_X8_findBestRow_45_2.eq_2]
    exact (q3x_ite (hKf2 x15 I16 J17 hI16) (q3x_ite (hKf2 x15 I16 J17 hI16) (q3x_b2 (fr3_fn_X6_copyFrom 68 stA_68 16 I16 hI16 J17) (fun I20 J21 h273 => (q3x_b2 (fr3_fn_X8_layByRow 72 (fun _ => rfl) x15 I20 h273 J21) (fun I27 J28 h274 => (q3x_b3 (fr3_fn_X8_boxBulb I27 h274 J28) (fun r39 _ _ h275 => (q3x_b3 (fr3_fn_X8_withinOnSecondDay r39 I27 h274 J28) (fun r46 I41 J42 h276 => (q3x_b2 (fr3_fn_X8_takeIfMore x15 r46 I41 h276 J42) (fun I49 J50 h277 => (ih (x15 + (1 : Int32)) I49 J50 h277)))))))))))))
theorem fr3_fl_X8_findBestRow_12_0 {I0 : Iv} (I : Iv) (J : Jv) (r6 : Int32) (Kf0 : Int32 → Int32 → Iv × Jv) (hI : KI3 I0 I) (hKf0 : ∀ (a278 : Int32) (a279 : Int32), Qc2 I0 (Kf0 a278 a279)) : ∀ (fu : Nat) (x8 : Int32) (x9 : Int32), Qc2 I0 (fl_X8_findBestRow_12_0 I J r6 Kf0 fu x8 x9) := by
  intro fu
  induction fu with
  | zero =>
    intro x8 x9
    rw [fl_X8_findBestRow_12_0.eq_1]
    exact hI
  | succ kf0 ih =>
    intro x8 x9
    rw [fl_X8_findBestRow_12_0.eq_2]
    exact (q3x_jn (P := Qc2 I0) (hKf0 x8 x9) (fun j33_1 j280 => (q3x_ite j280 (q3x_ite j280 (q3x_lt (fun v56 => (ih v56 (x9 + (1 : Int32)))))))))
theorem fr3_fn_X8_findBestRow {I0 : Iv} (I : Iv) (hI : KI3 I0 I) (J : Jv) : Qc2 I0 (fn_X8_findBestRow I J) := by
  unfold fn_X8_findBestRow
  exact (q3x_b3 (fr3_fn_X6_foodsThere 16 stA_16 I hI J) (fun r6 _ _ h281 => (fr3_fl_X8_findBestRow_12_0 I J r6 (fun (x8 : Int32) (x9 : Int32) => l_t (wI I 67 7 (0 : Int32)) (fun (I11 : Iv) => l_t (wI I11 67 8 (-1 : Int32)) (fun (I13 : Iv) => fl_X8_findBestRow_45_2 r6 x8 (fun (x15 : Int32) (I16 : Iv) (J17 : Jv) => (I16, J17)) (mU x8 ((0 : Int32)) + 1) (0 : Int32) I13 J))) hI (fun x8 x9 => (q3x_ltI (kI3_w rfl hI) (fun I11 h282 => (q3x_ltI (kI3_w rfl h282) (fun I13 h283 => (fr3_fl_X8_findBestRow_45_2 r6 x8 (fun (x15 : Int32) (I16 : Iv) (J17 : Jv) => (I16, J17)) (fun x15 I16 J17 h284 => h284) (mU x8 ((0 : Int32)) + 1) (0 : Int32) I13 J h283)))))) (mU r6 ((0 : Int32)) + 1) (1 : Int32) (0 : Int32))))
theorem fr3_fl_X8_findBestBulb_12_0 {I0 : Iv} (Kf0 : Int32 → Iv → Jv → Iv × Jv) (hKf0 : ∀ (a285 : Int32) (a286 : Iv) (a287 : Jv), KI3 I0 a286 → Qc2 I0 (Kf0 a285 a286 a287)) : ∀ (fu : Nat) (x5 : Int32) (I6 : Iv) (J7 : Jv), KI3 I0 I6 → Qc2 I0 (fl_X8_findBestBulb_12_0 Kf0 fu x5 I6 J7) := by
  intro fu
  induction fu with
  | zero =>
    intro x5 I6 J7 hI6
    rw [fl_X8_findBestBulb_12_0.eq_1]
    exact hI6
  | succ kf0 ih =>
    intro x5 I6 J7 hI6
    rw [fl_X8_findBestBulb_12_0.eq_2]
    exact (q3x_ite (hKf0 x5 I6 J7 hI6) (q3x_b2 (fr3_fn_X6_copyFrom 68 stA_68 16 I6 hI6 J7) (fun I10 J11 h288 => (q3x_b3 (fr3_fn_X8_withinOnSecondDay x5 I10 h288 J11) (fun r22 I17 J18 h289 => (q3x_b2 (fr3_fn_X8_takeIfMore x5 r22 I17 h289 J18) (fun I25 J26 h290 => (ih (x5 + (1 : Int32)) I25 J26 h290))))))))
theorem fr3_fn_X8_findBestBulb {I0 : Iv} (I : Iv) (hI : KI3 I0 I) (J : Jv) : Qc2 I0 (fn_X8_findBestBulb I J) := by
  unfold fn_X8_findBestBulb
  exact (q3x_ltI (kI3_w rfl hI) (fun I1 h291 => (q3x_ltI (kI3_w rfl h291) (fun I3 h292 => (fr3_fl_X8_findBestBulb_12_0 (fun (x5 : Int32) (I6 : Iv) (J7 : Jv) => (I6, J7)) (fun x5 I6 J7 h293 => h293) (mU (3 : Int32) ((0 : Int32)) + 1) (0 : Int32) I3 J h292)))))
theorem fr3_fl_X8_ticksWithoutCurrent_21_0 {I0 : Iv} (f : Int32) (Kf0 : Int32 → Iv → Jv → Int32 × Iv × Jv) (hKf0 : ∀ (a294 : Int32) (a295 : Iv) (a296 : Jv), KI3 I0 a295 → Qc3 I0 (Kf0 a294 a295 a296)) : ∀ (fu : Nat) (x10 : Int32) (I11 : Iv) (J12 : Jv), KI3 I0 I11 → Qc3 I0 (fl_X8_ticksWithoutCurrent_21_0 f Kf0 fu x10 I11 J12) := by
  intro fu
  induction fu with
  | zero =>
    intro x10 I11 J12 hI11
    rw [fl_X8_ticksWithoutCurrent_21_0.eq_1]
    exact hI11
  | succ kf0 ih =>
    intro x10 I11 J12 hI11
    rw [fl_X8_ticksWithoutCurrent_21_0.eq_2]
    exact (q3x_ite (hKf0 x10 I11 J12 hI11) (q3x_b3 (fr3_fn_X8_boxBulb I11 hI11 J12) (fun r20 _ _ h297 => (q3x_b2 (fr3_fn_X7_passByDay 68 stA_68 (1 : Int32) r20 I11 hI11 J12) (fun I22 J23 h298 => (q3x_b3 (fr3_fn_X6_isWithin 68 stA_68 f I22 h298 J23) (fun r34 _ _ h299 => (q3x_ite h298 (ih (x10 + (1 : Int32)) I22 J23 h298)))))))))
theorem fr3_fn_X8_ticksWithoutCurrent {I0 : Iv} (f : Int32) (I : Iv) (hI : KI3 I0 I) (J : Jv) : Qc3 I0 (fn_X8_ticksWithoutCurrent f I J) := by
  unfold fn_X8_ticksWithoutCurrent
  exact (q3x_b2 (fr3_fn_X6_copyFrom 68 stA_68 16 I hI J) (fun I1 J2 h300 => (q3x_ltI (kI3_w rfl h300) (fun I8 h301 => (fr3_fl_X8_ticksWithoutCurrent_21_0 f (fun (x10 : Int32) (I11 : Iv) (J12 : Jv) => ((-1 : Int32), I11, J12)) (fun x10 I11 J12 h302 => h302) (mUe (864 : Int32) ((0 : Int32)) + 1) (0 : Int32) I8 J2 h301)))))
theorem fr3_fl_X8_paidStoring_26_0 {I0 : Iv} (n : Int32) (d : Int32) (price : Int32) (r6 : Int32) (Kf0 : Int64 → Int32 → Iv → Jv → Int32 × Iv × Jv) (hKf0 : ∀ (a303 : Int64) (a304 : Int32) (a305 : Iv) (a306 : Jv), KI3 I0 a305 → Qc3 I0 (Kf0 a303 a304 a305 a306)) : ∀ (fu : Nat) (x15 : Int64) (x16 : Int32) (I17 : Iv) (J18 : Jv), KI3 I0 I17 → Qc3 I0 (fl_X8_paidStoring_26_0 n d price r6 Kf0 fu x15 x16 I17 J18) := by
  intro fu
  induction fu with
  | zero =>
    intro x15 x16 I17 J18 hI17
    rw [fl_X8_paidStoring_26_0.eq_1]
    exact hI17
  | succ kf0 ih =>
    intro x15 x16 I17 J18 hI17
    rw [fl_X8_paidStoring_26_0.eq_2]
    exact (q3x_ite (hKf0 x15 x16 I17 J18 hI17) (q3x_b3 (fr3_fn_X6_tickOfDay 68 stA_68 I17 hI17 J18) (fun r26 _ _ h307 => (q3x_b3 (fr3_fn_X8_isCheapHour (r26 / (12 : Int32)) I17 hI17 J18) (fun r33 _ _ h308 => (q3x_lt (fun v35 => (q3x_b3 (fr3_fn_X3_isOpenIn r26 I17 hI17 J18) (fun r41 _ _ h309 => (q3x_b3 (fr3_fn_X8_boxBulb I17 hI17 J18) (fun r48 _ _ h310 => (q3x_jn (P := fun (j : Int32 → Int32 × Iv × Jv) => ∀ (a311 : Int32), Qc3 I0 (j a311)) (fun w50 => (q3x_b2 (fr3_fn_X7_pass 68 stA_68 r41 r48 w50 I17 hI17 J18) (fun I51 J52 h312 => (q3x_b3 (fr3_fn_X6_foodsWithin 68 stA_68 I51 h312 J52) (fun r63 _ _ h313 => (q3x_ite (q3x_jn (P := fun (j : Int32 → Int32 × Iv × Jv) => ∀ (a314 : Int32), Qc3 I0 (j a314)) (fun w65 => (q3x_lt (fun v66 => (ih v66 (x16 + (1 : Int32)) I51 J52 h312)))) (fun j146_2 j315 => (q3x_ite (j315 price) (j315 ((I51 67 6)))))) h312)))))) (fun j101_1 j316 => (q3x_ite (j316 ((0 : Int32))) (j316 d)))))))))))))))
theorem fr3_fn_X8_paidStoring {I0 : Iv} (n : Int32) (d : Int32) (price : Int32) (I : Iv) (hI : KI3 I0 I) (J : Jv) : Qc3 I0 (fn_X8_paidStoring n d price I J) := by
  unfold fn_X8_paidStoring
  exact (q3x_b3 (fr3_fn_X6_foodsThere 16 stA_16 I hI J) (fun r6 _ _ h317 => (q3x_b2 (fr3_fn_X6_copyFrom 68 stA_68 16 I hI J) (fun I8 J9 h318 => (fr3_fl_X8_paidStoring_26_0 n d price r6 (fun (x15 : Int64) (x16 : Int32) (I17 : Iv) (J18 : Jv) => ((Int64.toInt32 (x15 / (1000 : Int64))), I17, J18)) (fun x15 x16 I17 J18 h319 => h319) (mU (n * (288 : Int32)) ((0 : Int32)) + 1) (0 : Int64) (0 : Int32) I8 J9 h318)))))
theorem fr3_fl_X8_findBestStore_12_0 {I0 : Iv} (n : Int32) (price : Int32) (Kf0 : Int32 → Iv → Jv → Iv × Jv) (hKf0 : ∀ (a320 : Int32) (a321 : Iv) (a322 : Jv), KI3 I0 a321 → Qc2 I0 (Kf0 a320 a321 a322)) : ∀ (fu : Nat) (x5 : Int32) (I6 : Iv) (J7 : Jv), KI3 I0 I6 → Qc2 I0 (fl_X8_findBestStore_12_0 n price Kf0 fu x5 I6 J7) := by
  intro fu
  induction fu with
  | zero =>
    intro x5 I6 J7 hI6
    rw [fl_X8_findBestStore_12_0.eq_1]
    exact hI6
  | succ kf0 ih =>
    intro x5 I6 J7 hI6
    rw [fl_X8_findBestStore_12_0.eq_2]
    exact (q3x_ite (hKf0 x5 I6 J7 hI6) (q3x_b3 (fr3_fn_X8_paidStoring n x5 price I6 hI6 J7) (fun r14 I9 J10 h323 => (q3x_ite (ih (x5 + (5 : Int32)) I9 J10 h323) (q3x_jn (P := Qc2 I0) (q3x_ltI (kI3_w rfl h323) (fun I17 h325 => (q3x_ltI (kI3_w rfl h325) (fun I19 h326 => (ih (x5 + (5 : Int32)) I19 J10 h326))))) (fun j50_1 j324 => (q3x_ite j324 (q3x_ite (ih (x5 + (5 : Int32)) I9 J10 h323) j324))))))))
theorem fr3_fn_X8_findBestStore {I0 : Iv} (n : Int32) (price : Int32) (I : Iv) (hI : KI3 I0 I) (J : Jv) : Qc2 I0 (fn_X8_findBestStore n price I J) := by
  unfold fn_X8_findBestStore
  exact (q3x_ltI (kI3_w rfl hI) (fun I1 h327 => (q3x_ltI (kI3_w rfl h327) (fun I3 h328 => (fr3_fl_X8_findBestStore_12_0 n price (fun (x5 : Int32) (I6 : Iv) (J7 : Jv) => (I6, J7)) (fun x5 I6 J7 h329 => h329) (mUe 40 ((0 : Int32)) + 1) (0 : Int32) I3 J h328)))))
theorem fr3_fl_X5_append_19_0 {I0 : Iv} (J : Jv) (bytes : Int64) (Kf0 : Int32 → Iv → Int32 × Iv × Jv) (hKf0 : ∀ (a330 : Int32) (a331 : Iv), KI3 I0 a331 → Qc3 I0 (Kf0 a330 a331)) : ∀ (fu : Nat) (x2 : Int32) (I3 : Iv), KI3 I0 I3 → Qc3 I0 (fl_X5_append_19_0 J bytes Kf0 fu x2 I3) := by
  intro fu
  induction fu with
  | zero =>
    intro x2 I3 hI3
    rw [fl_X5_append_19_0.eq_1]
    exact hI3
  | succ kf0 ih =>
    intro x2 I3 hI3
    rw [fl_X5_append_19_0.eq_2]
    exact (q3x_ite (hKf0 x2 I3 hI3) (q3x_ite (ih (x2 + (-1 : Int32)) I3 hI3) (q3x_ltI (kI3_w rfl hI3) (fun I6 h332 => (q3x_ltI (kI3_w rfl h332) (fun I8 h333 => (ih (x2 + (-1 : Int32)) I8 h333)))))))
theorem fr3_fn_X5_append {I0 : Iv} (n : Int32) (bytes : Int64) (I : Iv) (hI : KI3 I0 I) (J : Jv) : Qc3 I0 (fn_X5_append n bytes I J) := by
  unfold fn_X5_append
  exact (q3x_ite (q3x_lt (fun v1 => (fr3_fl_X5_append_19_0 J bytes (fun (x2 : Int32) (I3 : Iv) => ((1 : Int32), I3, J)) (fun x2 I3 h334 => h334) (mD v1 + 1) v1 I hI))) hI)
theorem fr3_fn_X9_feed {I0 : Iv} (n : Int32) (bytes : Int64) (I : Iv) (hI : KI3 I0 I) (J : Jv) : Qc3 I0 (fn_X9_feed n bytes I J) := by
  unfold fn_X9_feed
  exact (q3x_ite hI (q3x_ite (q3x_b3 (fr3_fn_X5_append n bytes I hI J) (fun r6 I1 J2 h335 => (q3x_ite h335 h335))) hI))
theorem fr3_fn_X9_fault {I0 : Iv} (I : Iv) (hI : KI3 I0 I) (J : Jv) : Qc3 I0 (fn_X9_fault I J) := by
  unfold fn_X9_fault
  exact hI
theorem fr3_fn_X9_told {I0 : Iv} (what : Int32) (I : Iv) (hI : KI3 I0 I) (J : Jv) : Qc3 I0 (fn_X9_told what I J) := by
  unfold fn_X9_told
  exact (q3x_ite hI (q3x_ite hI hI))
theorem fr3_fn_X9_opening {I0 : Iv} (i : Int32) (what : Int32) (I : Iv) (hI : KI3 I0 I) (J : Jv) : Qc3 I0 (fn_X9_opening i what I J) := by
  unfold fn_X9_opening
  exact (q3x_ite hI (q3x_ite (q3x_ite hI (q3x_ite hI (q3x_ite (q3x_ite hI hI) hI))) hI))
theorem fr3_fn_X9_trouble {I0 : Iv} (set : Int32) (I : Iv) (hI : KI3 I0 I) (J : Jv) : Qc3 I0 (fn_X9_trouble set I J) := by
  unfold fn_X9_trouble
  exact (q3x_b3 (fr3_fn_X9_isSet set I hI J) (fun r6 _ _ h336 => (q3x_ite hI (q3x_lt (fun v8 => (q3x_ltI (kI3_w rfl hI) (fun I9 h337 => (q3x_ite h337 (q3x_ite (q3x_ltI (kI3_w rfl h337) (fun I11 h338 => h338)) h337)))))))))
theorem fr3_fn_X9_fresh {I0 : Iv} (I : Iv) (hI : KI3 I0 I) (J : Jv) : Qc3 I0 (fn_X9_fresh I J) := by
  unfold fn_X9_fresh
  exact (q3x_lt (fun v1 => (q3x_b2 (fr3_fn_X6_becomeFresh 16 stA_16 I hI J) (fun I2 J3 h339 => h339))))
theorem fr3_fn_X9_current {I0 : Iv} (on : Int32) (I : Iv) (hI : KI3 I0 I) (J : Jv) : Qc3 I0 (fn_X9_current on I J) := by
  unfold fn_X9_current
  exact (q3x_jn (P := fun (j : Int32 → Int32 × Iv × Jv) => ∀ (a340 : Int32), Qc3 I0 (j a340)) (fun w1 => (q3x_ltI (kI3_w rfl hI) (fun I2 h341 => h341))) (fun j15_0 j342 => (q3x_ite (j342 ((0 : Int32))) (j342 ((1 : Int32))))))
theorem fr3_fn_X9_cover {I0 : Iv} (on : Int32) (I : Iv) (hI : KI3 I0 I) (J : Jv) : Qc3 I0 (fn_X9_cover on I J) := by
  unfold fn_X9_cover
  exact (q3x_jn (P := fun (j : Int32 → Int32 × Iv × Jv) => ∀ (a343 : Int32), Qc3 I0 (j a343)) (fun w1 => (q3x_ltI (kI3_w rfl hI) (fun I2 h344 => h344))) (fun j15_0 j345 => (q3x_ite (j345 ((0 : Int32))) (j345 ((1 : Int32))))))
theorem fr3_fn_X9_put {I0 : Iv} (s : Int32) (w : Int32) (c : Int32) (low : Int32) (high : Int32) (I : Iv) (hI : KI3 I0 I) (J : Jv) : Qc3 I0 (fn_X9_put s w c low high I J) := by
  unfold fn_X9_put
  exact (q3x_b3 (fr3_fn_X9_isShelf s I hI J) (fun r6 _ _ h346 => (q3x_ite hI (q3x_b3 (fr3_fn_X9_canBeWarmth w I hI J) (fun r13 _ _ h347 => (q3x_ite hI (q3x_ite hI (q3x_ite (q3x_b3 (fr3_fn_X9_canBeWarmth low I hI J) (fun r20 _ _ h348 => (q3x_ite hI (q3x_b3 (fr3_fn_X9_canBeWarmth high I hI J) (fun r27 _ _ h349 => (q3x_ite hI (q3x_ite (q3x_b3 (fr3_fn_X6_firstNotThere 16 stA_16 I hI J) (fun r34 _ _ h350 => (q3x_ite (q3x_ltI (kI3_w rfl hI) (fun I36 h351 => (q3x_ltI (kI3_w rfl h351) (fun I38 h352 => (q3x_b2 (fr3_fn_X6_addFood 16 stA_16 r34 s w c I38 h352 J) (fun I40 J41 h353 => h353)))))) hI))) hI))))))) hI))))))))
theorem fr3_fn_X9_take {I0 : Iv} (f : Int32) (I : Iv) (hI : KI3 I0 I) (J : Jv) : Qc3 I0 (fn_X9_take f I J) := by
  unfold fn_X9_take
  exact (q3x_b3 (fr3_fn_X6_hasFood 16 stA_16 f I hI J) (fun r6 _ _ h354 => (q3x_ite hI (q3x_b3 (fr3_fn_X6_warmthOf 16 stA_16 ((4 : Int32) + f) I hI J) (fun r13 _ _ h355 => (q3x_b2 (fr3_fn_X6_removeFood 16 stA_16 f I hI J) (fun I15 J16 h356 => h356)))))))
theorem fr3_fn_X9_lay {I0 : Iv} (f : Int32) (s : Int32) (I : Iv) (hI : KI3 I0 I) (J : Jv) : Qc3 I0 (fn_X9_lay f s I J) := by
  unfold fn_X9_lay
  exact (q3x_b3 (fr3_fn_X6_hasFood 16 stA_16 f I hI J) (fun r6 _ _ h357 => (q3x_ite hI (q3x_b3 (fr3_fn_X9_isShelf s I hI J) (fun r13 _ _ h358 => (q3x_ite hI (q3x_lt (fun v15 => (q3x_ltI (kI3_w rfl hI) (fun I16 h359 => h359))))))))))
theorem fr3_fn_X9_food {I0 : Iv} (f : Int32) (what : Int32) (I : Iv) (hI : KI3 I0 I) (J : Jv) : Qc3 I0 (fn_X9_food f what I J) := by
  unfold fn_X9_food
  exact (q3x_b3 (fr3_fn_X6_hasFood 16 stA_16 f I hI J) (fun r6 _ _ h360 => (q3x_ite hI (q3x_ite hI (q3x_lt (fun sw0 => (q3x_ite hI (q3x_ite (q3x_b3 (fr3_fn_X6_warmthOf 16 stA_16 ((4 : Int32) + f) I hI J) (fun r13 _ _ h361 => hI)) (q3x_ite hI (q3x_ite hI (q3x_ite hI (q3x_ite (q3x_b3 (fr3_fn_X6_isWithin 16 stA_16 f I hI J) (fun r20 _ _ h362 => (q3x_ite hI hI))) hI))))))))))))
theorem fr3_fn_X9_run {I0 : Iv} (n : Int32) (I : Iv) (hI : KI3 I0 I) (J : Jv) : Qc3 I0 (fn_X9_run n I J) := by
  unfold fn_X9_run
  exact (q3x_ite hI (q3x_ite (q3x_lt (fun v1 => (q3x_b2 (fr3_fn_X7_passByDay 16 stA_16 n (I 8 8) I hI J) (fun I2 J3 h363 => h363)))) hI))
theorem fr3_fl_X9_drawDoor_24_1 {I0 : Iv} (m : Int32) (Kf1 : Int32 → Iv → Jv → Iv × Jv) (hKf1 : ∀ (a364 : Int32) (a365 : Iv) (a366 : Jv), KI3 I0 a365 → Qc2 I0 (Kf1 a364 a365 a366)) : ∀ (fu : Nat) (x5 : Int32) (I6 : Iv) (J7 : Jv), KI3 I0 I6 → Qc2 I0 (fl_X9_drawDoor_24_1 m Kf1 fu x5 I6 J7) := by
  intro fu
  induction fu with
  | zero =>
    intro x5 I6 J7 hI6
    rw [fl_X9_drawDoor_24_1.eq_1]
    exact hI6
  | succ kf1 ih =>
    intro x5 I6 J7 hI6
    rw [fl_X9_drawDoor_24_1.eq_2]
    exact (q3x_ite (hKf1 x5 I6 J7 hI6) (q3x_b3 (fr3_fn_X6_draw 16 stA_16 (288 : Int32) I6 hI6 J7) (fun r15 I10 J11 h367 => (q3x_ite (ih (x5 + (1 : Int32)) I10 J11 h367) (q3x_ite (ih (x5 + (1 : Int32)) I10 J11 h367) (q3x_ltI (kI3_w rfl h367) (fun I18 h368 => (ih (x5 + (1 : Int32)) I18 J11 h368))))))))
theorem fr3_fl_X9_drawDoor_2_0 {I0 : Iv} (J : Jv) (Kf0 : Int32 → Iv → Iv × Jv) (hKf0 : ∀ (a369 : Int32) (a370 : Iv), KI3 I0 a370 → Qc2 I0 (Kf0 a369 a370)) : ∀ (fu : Nat) (x1 : Int32) (I2 : Iv), KI3 I0 I2 → Qc2 I0 (fl_X9_drawDoor_2_0 J Kf0 fu x1 I2) := by
  intro fu
  induction fu with
  | zero =>
    intro x1 I2 hI2
    rw [fl_X9_drawDoor_2_0.eq_1]
    exact hI2
  | succ kf0 ih =>
    intro x1 I2 hI2
    rw [fl_X9_drawDoor_2_0.eq_2]
    exact (q3x_ite (hKf0 x1 I2 hI2) (q3x_ltI (kI3_w rfl hI2) (fun I20 h371 => (ih (x1 + (1 : Int32)) I20 h371))))
theorem fr3_fn_X9_drawDoor {I0 : Iv} (m : Int32) (I : Iv) (hI : KI3 I0 I) (J : Jv) : Qc2 I0 (fn_X9_drawDoor m I J) := by
  unfold fn_X9_drawDoor
  exact (fr3_fl_X9_drawDoor_2_0 J (fun (x1 : Int32) (I2 : Iv) => fl_X9_drawDoor_24_1 m (fun (x5 : Int32) (I6 : Iv) (J7 : Jv) => (I6, J7)) (mU m ((0 : Int32)) + 1) (0 : Int32) I2 J) (fun x1 I2 h372 => (fr3_fl_X9_drawDoor_24_1 m (fun (x5 : Int32) (I6 : Iv) (J7 : Jv) => (I6, J7)) (fun x5 I6 J7 h373 => h373) (mU m ((0 : Int32)) + 1) (0 : Int32) I2 J h372)) (mU (288 : Int32) ((0 : Int32)) + 1) (0 : Int32) I hI)
theorem fr3_fl_X9_drawn_37_0 {I0 : Iv} (n : Int32) (m : Int32) (Kf0 : Int32 → Iv → Jv → Int32 × Iv × Jv) (hKf0 : ∀ (a374 : Int32) (a375 : Iv) (a376 : Jv), KI3 I0 a375 → Qc3 I0 (Kf0 a374 a375 a376)) : ∀ (fu : Nat) (x2 : Int32) (I3 : Iv) (J4 : Jv), KI3 I0 I3 → Qc3 I0 (fl_X9_drawn_37_0 n m Kf0 fu x2 I3 J4) := by
  intro fu
  induction fu with
  | zero =>
    intro x2 I3 J4 hI3
    rw [fl_X9_drawn_37_0.eq_1]
    exact hI3
  | succ kf0 ih =>
    intro x2 I3 J4 hI3
    rw [fl_X9_drawn_37_0.eq_2]
    exact (q3x_ite (hKf0 x2 I3 J4 hI3) (q3x_b3 (fr3_fn_X6_tickOfDay 16 stA_16 I3 hI3 J4) (fun r12 _ _ h377 => (q3x_jn (P := fun (j : Iv → Jv → Int32 × Iv × Jv) => ∀ (a378 : Iv) (a379 : Jv), KI3 I0 a378 → Qc3 I0 (j a378 a379)) (fun I14 J15 h380 => (q3x_b2 (fr3_fn_X7_pass 16 stA_16 (I14 44 r12.toNatClampNeg) (I14 8 8) (0 : Int32) I14 h380 J15) (fun I17 J18 h381 => (ih (x2 + (1 : Int32)) I17 J18 h381)))) (fun j71_1 j382 => (q3x_jn (P := Qc3 I0) (q3x_b2 (fr3_fn_X9_drawDoor m I3 hI3 J4) (fun I24 J25 h384 => (j382 I24 J25 h384))) (fun j66_2 j383 => (q3x_ite j383 (q3x_ite j383 (j382 I3 J4 hI3))))))))))
theorem fr3_fn_X9_drawn {I0 : Iv} (n : Int32) (m : Int32) (I : Iv) (hI : KI3 I0 I) (J : Jv) : Qc3 I0 (fn_X9_drawn n m I J) := by
  unfold fn_X9_drawn
  exact (q3x_ite hI (q3x_ite hI (q3x_ite hI (q3x_ite (q3x_lt (fun v1 => (fr3_fl_X9_drawn_37_0 n m (fun (x2 : Int32) (I3 : Iv) (J4 : Jv) => (((I3 24 1) - v1), I3, J4)) (fun x2 I3 J4 h385 => h385) (mU (n * (288 : Int32)) ((0 : Int32)) + 1) (0 : Int32) I J hI))) hI))))
theorem fr3_fn_X9_warmth {I0 : Iv} (s : Int32) (I : Iv) (hI : KI3 I0 I) (J : Jv) : Qc3 I0 (fn_X9_warmth s I J) := by
  unfold fn_X9_warmth
  exact (q3x_ite hI (q3x_ite (q3x_b3 (fr3_fn_X6_warmthOf 16 stA_16 s I hI J) (fun r6 _ _ h386 => hI)) hI))
theorem fr3_fn_X9_heat {I0 : Iv} (what : Int32) (I : Iv) (hI : KI3 I0 I) (J : Jv) : Qc3 I0 (fn_X9_heat what I J) := by
  unfold fn_X9_heat
  exact (q3x_ite hI (q3x_ite (q3x_ite (q3x_b3 (fr3_fn_X6_allHeat 16 stA_16 I hI J) (fun r6 _ _ h387 => hI)) hI) hI))
theorem fr3_fn_X9_count {I0 : Iv} (what : Int32) (I : Iv) (hI : KI3 I0 I) (J : Jv) : Qc3 I0 (fn_X9_count what I J) := by
  unfold fn_X9_count
  exact (q3x_ite hI (q3x_ite (q3x_ite (q3x_ite hI (q3x_lt (fun sw0 => (q3x_ite hI (q3x_ite (q3x_ite hI hI) (q3x_ite (q3x_b3 (fr3_fn_X6_foodsThere 16 stA_16 I hI J) (fun r6 _ _ h388 => hI)) hI)))))) hI) hI))
theorem fr3_fn_X9_thaw {I0 : Iv} (I : Iv) (hI : KI3 I0 I) (J : Jv) : Qc3 I0 (fn_X9_thaw I J) := by
  unfold fn_X9_thaw
  exact (q3x_b3 (fr3_fn_X6_letOffIce 16 stA_16 I hI J) (fun r6 I1 J2 h389 => h389))
theorem fr3_fn_X9_sign {I0 : Iv} (set : Int32) (n : Int32) (what : Int32) (I : Iv) (hI : KI3 I0 I) (J : Jv) : Qc3 I0 (fn_X9_sign set n what I J) := by
  unfold fn_X9_sign
  exact (q3x_b3 (fr3_fn_X9_isSet set I hI J) (fun r6 _ _ h390 => (q3x_ite hI (q3x_b3 (fr3_fn_X9_isSign what I hI J) (fun r13 _ _ h391 => (q3x_ite hI (q3x_b3 (fr3_fn_X9_areSignDays n I hI J) (fun r20 _ _ h392 => (q3x_ite hI (q3x_b2 (fr3_fn_X1_learn set n I hI J) (fun I22 J23 h393 => (q3x_b3 (fr3_fn_X1_signOf set n what I22 h393 J23) (fun r34 _ _ h394 => h393)))))))))))))
theorem fr3_fn_X9_seen {I0 : Iv} (what : Int32) (v_ : Int32) (e : Int32) (I : Iv) (hI : KI3 I0 I) (J : Jv) : Qc3 I0 (fn_X9_seen what v_ e I J) := by
  unfold fn_X9_seen
  exact (q3x_b3 (fr3_fn_X9_isSign what I hI J) (fun r6 _ _ h395 => (q3x_ite hI (q3x_ite hI (q3x_ite hI (q3x_ite hI (q3x_ite (q3x_ltI (kI3_w rfl hI) (fun I8 h396 => (q3x_ltI (kI3_w rfl h396) (fun I10 h397 => (q3x_ltI (kI3_w rfl h397) (fun I12 h398 => (q3x_b3 (fr3_fn_X2_howManySeen I12 h398 J) (fun r19 _ _ h399 => h398)))))))) hI)))))))
theorem fr3_fn_X9_prior {I0 : Iv} (k : Int32) (p : Int32) (I : Iv) (hI : KI3 I0 I) (J : Jv) : Qc3 I0 (fn_X9_prior k p I J) := by
  unfold fn_X9_prior
  exact (q3x_b3 (fr3_fn_X9_isTrouble k I hI J) (fun r6 _ _ h400 => (q3x_ite hI (q3x_ite hI (q3x_ite (q3x_lt (fun v8 => (q3x_ltI (kI3_w rfl hI) (fun I9 h401 => h401)))) hI)))))
theorem fr3_fn_X9_bother {I0 : Iv} (what : Int32) (b : Int32) (I : Iv) (hI : KI3 I0 I) (J : Jv) : Qc3 I0 (fn_X9_bother what b I J) := by
  unfold fn_X9_bother
  exact (q3x_b3 (fr3_fn_X9_isSign what I hI J) (fun r6 _ _ h402 => (q3x_ite hI (q3x_ite hI (q3x_ite (q3x_lt (fun v8 => (q3x_ltI (kI3_w rfl hI) (fun I9 h403 => h403)))) hI)))))
theorem fr3_fn_X9_mending {I0 : Iv} (k : Int32) (c : Int32) (I : Iv) (hI : KI3 I0 I) (J : Jv) : Qc3 I0 (fn_X9_mending k c I J) := by
  unfold fn_X9_mending
  exact (q3x_b3 (fr3_fn_X9_isTrouble k I hI J) (fun r6 _ _ h404 => (q3x_ite hI (q3x_ite hI (q3x_ite (q3x_lt (fun v8 => (q3x_ltI (kI3_w rfl hI) (fun I9 h405 => h405)))) hI)))))
theorem fr3_fn_X9_price {I0 : Iv} (x : Int32) (I : Iv) (hI : KI3 I0 I) (J : Jv) : Qc3 I0 (fn_X9_price x I J) := by
  unfold fn_X9_price
  exact (q3x_b3 (fr3_fn_X9_isPrice x I hI J) (fun r6 _ _ h406 => (q3x_ite hI (q3x_lt (fun v8 => (q3x_ltI (kI3_w rfl hI) (fun I9 h407 => h407)))))))
theorem fr3_fn_X9_odds {I0 : Iv} (set : Int32) (n : Int32) (I : Iv) (hI : KI3 I0 I) (J : Jv) : Qc3 I0 (fn_X9_odds set n I J) := by
  unfold fn_X9_odds
  exact (q3x_b3 (fr3_fn_X9_isSet set I hI J) (fun r6 _ _ h408 => (q3x_ite hI (q3x_b3 (fr3_fn_J6_bitCount_0f7a4 set I hI J) (fun r13 _ _ h409 => (q3x_ite (q3x_b3 (fr3_fn_X9_areSignDays n I hI J) (fun r20 _ _ h410 => (q3x_ite hI (q3x_b2 (fr3_fn_X1_learnCouldBe n I hI J) (fun I22 J23 h411 => (q3x_b3 (fr3_fn_X2_oddsOf set n I22 h411 J23) (fun r34 I29 J30 h412 => h412))))))) hI))))))
theorem fr3_fn_X9_each {I0 : Iv} (k : Int32) (n : Int32) (I : Iv) (hI : KI3 I0 I) (J : Jv) : Qc3 I0 (fn_X9_each k n I J) := by
  unfold fn_X9_each
  exact (q3x_b3 (fr3_fn_X9_isTrouble k I hI J) (fun r6 _ _ h413 => (q3x_ite hI (q3x_b3 (fr3_fn_X9_areSignDays n I hI J) (fun r13 _ _ h414 => (q3x_ite hI (q3x_b2 (fr3_fn_X1_learnCouldBe n I hI J) (fun I15 J16 h415 => (q3x_b3 (fr3_fn_X2_oddsWith k n I15 h415 J16) (fun r27 I22 J23 h416 => h416))))))))))
theorem fr3_fn_X9_tells {I0 : Iv} (what : Int32) (n : Int32) (I : Iv) (hI : KI3 I0 I) (J : Jv) : Qc3 I0 (fn_X9_tells what n I J) := by
  unfold fn_X9_tells
  exact (q3x_b3 (fr3_fn_X9_isSign what I hI J) (fun r6 _ _ h417 => (q3x_ite hI (q3x_b3 (fr3_fn_X9_areSignDays n I hI J) (fun r13 _ _ h418 => (q3x_ite hI (q3x_b2 (fr3_fn_X1_learnCouldBe n I hI J) (fun I15 J16 h419 => (q3x_b3 (fr3_fn_X2_howMuchTells what n I15 h419 J16) (fun r27 I22 J23 h420 => h420))))))))))
theorem fr3_fn_X9_next {I0 : Iv} (n : Int32) (I : Iv) (hI : KI3 I0 I) (J : Jv) : Qc3 I0 (fn_X9_next n I J) := by
  unfold fn_X9_next
  exact (q3x_b3 (fr3_fn_X9_areSignDays n I hI J) (fun r6 _ _ h421 => (q3x_ite hI (q3x_b2 (fr3_fn_X1_learnCouldBe n I hI J) (fun I8 J9 h422 => (q3x_b3 (fr3_fn_X2_nextSign n I8 h422 J9) (fun r20 I15 J16 h423 => h423)))))))
theorem fr3_fn_X9_makes {I0 : Iv} (set : Int32) (what : Int32) (I : Iv) (hI : KI3 I0 I) (J : Jv) : Qc3 I0 (fn_X9_makes set what I J) := by
  unfold fn_X9_makes
  exact (q3x_b3 (fr3_fn_X9_isSet set I hI J) (fun r6 _ _ h424 => (q3x_ite hI (q3x_ite hI (q3x_ite (q3x_jn (P := fun (j : Int32 → Int32 × Iv × Jv) => ∀ (a425 : Int32), Qc3 I0 (j a425)) (fun w8 => (q3x_b3 (fr3_fn_X1_firstDay set w8 (I 16 12) I hI J) (fun r14 I9 J10 h426 => h426))) (fun j36_0 j427 => (q3x_ite (j427 ((1 : Int32))) (j427 ((0 : Int32)))))) hI)))))
theorem fr3_fn_X9_year {I0 : Iv} (set : Int32) (I : Iv) (hI : KI3 I0 I) (J : Jv) : Qc3 I0 (fn_X9_year set I J) := by
  unfold fn_X9_year
  exact (q3x_b3 (fr3_fn_X9_isSet set I hI J) (fun r6 _ _ h428 => (q3x_ite hI (q3x_b2 (fr3_fn_X1_learn set (2 : Int32) I hI J) (fun I8 J9 h429 => (q3x_b3 (fr3_fn_X4_yearOf set (I8 16 12) I8 h429 J9) (fun r20 _ _ h430 => h429)))))))
theorem fr3_fn_X9_saves {I0 : Iv} (set : Int32) (part : Int32) (I : Iv) (hI : KI3 I0 I) (J : Jv) : Qc3 I0 (fn_X9_saves set part I J) := by
  unfold fn_X9_saves
  exact (q3x_b3 (fr3_fn_X9_isSet set I hI J) (fun r6 _ _ h431 => (q3x_ite hI (q3x_b3 (fr3_fn_X9_isSet part I hI J) (fun r13 _ _ h432 => (q3x_ite hI (q3x_b3 (fr3_fn_X9_isPart part set I hI J) (fun r20 _ _ h433 => (q3x_ite hI (q3x_b2 (fr3_fn_X1_learn set (2 : Int32) I hI J) (fun I22 J23 h434 => (q3x_b2 (fr3_fn_X1_learn (set &&& (part ^^^ (-1 : Int32))) (2 : Int32) I22 h434 J23) (fun I29 J30 h435 => (q3x_b3 (fr3_fn_X4_saved set part (I29 16 12) I29 h435 J30) (fun r41 _ _ h436 => h435)))))))))))))))
theorem fr3_fn_X9_best {I0 : Iv} (set : Int32) (c : Int32) (what : Int32) (I : Iv) (hI : KI3 I0 I) (J : Jv) : Qc3 I0 (fn_X9_best set c what I J) := by
  unfold fn_X9_best
  exact (q3x_b3 (fr3_fn_X9_isSet set I hI J) (fun r6 _ _ h437 => (q3x_ite hI (q3x_ite hI (q3x_ite hI (q3x_ite hI (q3x_ite (q3x_b2 (fr3_fn_X1_learnParts set (2 : Int32) I hI J) (fun I8 J9 h438 => (q3x_b3 (fr3_fn_X4_bestPart set c (I8 16 12) I8 h438 J9) (fun r20 _ _ h439 => (q3x_ite h438 (q3x_ite (q3x_b3 (fr3_fn_X4_saved set r20 (I8 16 12) I8 h438 J9) (fun r27 _ _ h440 => h438)) (q3x_b3 (fr3_fn_X4_costOf r20 I8 h438 J9) (fun r34 _ _ h441 => h438)))))))) hI)))))))
theorem fr3_fn_X9_pays {I0 : Iv} (set : Int32) (c : Int32) (u : Int32) (I : Iv) (hI : KI3 I0 I) (J : Jv) : Qc3 I0 (fn_X9_pays set c u I J) := by
  unfold fn_X9_pays
  exact (q3x_b3 (fr3_fn_X9_isSet set I hI J) (fun r6 _ _ h442 => (q3x_ite hI (q3x_ite hI (q3x_ite hI (q3x_ite hI (q3x_ite (q3x_b2 (fr3_fn_X1_learn set (2 : Int32) I hI J) (fun I8 J9 h443 => (q3x_b3 (fr3_fn_X4_yearsToPay set c u (I8 16 12) I8 h443 J9) (fun r20 _ _ h444 => h443)))) hI)))))))
theorem fr3_fn_X9_ice {I0 : Iv} (set : Int32) (n : Int32) (b : Int32) (I : Iv) (hI : KI3 I0 I) (J : Jv) : Qc3 I0 (fn_X9_ice set n b I J) := by
  unfold fn_X9_ice
  exact (q3x_b3 (fr3_fn_X9_isSet set I hI J) (fun r6 _ _ h445 => (q3x_ite hI (q3x_ite hI (q3x_ite hI (q3x_ite hI (q3x_ite (q3x_b3 (fr3_fn_X4_bestThawing set n b (I 16 12) I hI J) (fun r13 I8 J9 h446 => h446)) hI)))))))
theorem fr3_fn_X9_lying {I0 : Iv} (f : Int32) (I : Iv) (hI : KI3 I0 I) (J : Jv) : Qc3 I0 (fn_X9_lying f I J) := by
  unfold fn_X9_lying
  exact (q3x_jn (P := Qc3 I0) (q3x_b3 (fr3_fn_X6_foodsThere 16 stA_16 I hI J) (fun r6 _ _ h448 => (q3x_ite (q3x_b2 (fr3_fn_X8_findBestRow I hI J) (fun I8 J9 h449 => (q3x_ite h449 (q3x_b3 (fr3_fn_X8_shelfInBestRow f I8 h449 J9) (fun r20 I15 J16 h450 => h450))))) hI))) (fun j19_0 j447 => (q3x_ite j447 (q3x_b3 (fr3_fn_X6_hasFood 16 stA_16 f I hI J) (fun r28 _ _ h451 => (q3x_ite hI j447))))))
theorem fr3_fn_X9_bulb {I0 : Iv} (what : Int32) (I : Iv) (hI : KI3 I0 I) (J : Jv) : Qc3 I0 (fn_X9_bulb what I J) := by
  unfold fn_X9_bulb
  exact (q3x_ite hI (q3x_ite (q3x_b2 (fr3_fn_X8_findBestBulb I hI J) (fun I1 J2 h452 => (q3x_ite h452 h452))) hI))
theorem fr3_fn_X9_without {I0 : Iv} (f : Int32) (I : Iv) (hI : KI3 I0 I) (J : Jv) : Qc3 I0 (fn_X9_without f I J) := by
  unfold fn_X9_without
  exact (q3x_b3 (fr3_fn_X6_hasFood 16 stA_16 f I hI J) (fun r6 _ _ h453 => (q3x_ite hI (q3x_b3 (fr3_fn_X8_ticksWithoutCurrent f I hI J) (fun r13 I8 J9 h454 => h454)))))
theorem fr3_fn_X9_cheap {I0 : Iv} (a : Int32) (b : Int32) (v_ : Int32) (I : Iv) (hI : KI3 I0 I) (J : Jv) : Qc3 I0 (fn_X9_cheap a b v_ I J) := by
  unfold fn_X9_cheap
  exact (q3x_b3 (fr3_fn_X9_isPrice v_ I hI J) (fun r6 _ _ h455 => (q3x_ite hI (q3x_jn (P := Qc3 I0) (q3x_ltI (kI3_w rfl hI) (fun I8 h457 => (q3x_jn (P := fun (j : Int32 → Int32 × Iv × Jv) => ∀ (a458 : Int32), Qc3 I0 (j a458)) (fun w10 => (q3x_ltI (kI3_w rfl h457) (fun I11 h459 => (q3x_ltI (kI3_w rfl h459) (fun I13 h460 => h460))))) (fun j55_1 j461 => (q3x_ite (j461 ((-1 : Int32))) (j461 b)))))) (fun j33_0 j456 => (q3x_ite j456 (q3x_ite hI (q3x_ite hI (q3x_ite j456 hI)))))))))
theorem fr3_fn_X9_store {I0 : Iv} (n : Int32) (what : Int32) (I : Iv) (hI : KI3 I0 I) (J : Jv) : Qc3 I0 (fn_X9_store n what I J) := by
  unfold fn_X9_store
  exact (q3x_ite hI (q3x_ite hI (q3x_ite hI (q3x_ite (q3x_b2 (fr3_fn_X8_findBestStore n (I 65 2) I hI J) (fun I1 J2 h462 => (q3x_ite h462 h462))) hI))))
theorem fr3_fn_X9_seed {I0 : Iv} (v_ : Int32) (I : Iv) (hI : KI3 I0 I) (J : Jv) : Qc3 I0 (fn_X9_seed v_ I J) := by
  unfold fn_X9_seed
  exact (q3x_ite (q3x_lt (fun v1 => (q3x_ltI (kI3_w rfl hI) (fun I2 h463 => h463)))) hI)
theorem fr3_fn_X9_imageOf {I0 : Iv} (i : Int32) (I : Iv) (hI : KI3 I0 I) (J : Jv) : Qc3 I0 (fn_X9_imageOf i I J) := by
  unfold fn_X9_imageOf
  exact (q3x_ite hI hI)
theorem fr3_fn_X9_keep {I0 : Iv} (i : Int32) (I : Iv) (hI : KI3 I0 I) (J : Jv) : Qc3 I0 (fn_X9_keep i I J) := by
  unfold fn_X9_keep
  exact (q3x_ite hI (q3x_ite (q3x_b3 (fr3_fn_X9_imageOf i I hI J) (fun r6 _ _ h464 => (q3x_b2 (fr3_fn_X6_copyFrom (iA i) (stA_iA _) 16 I hI J) (fun I8 J9 h465 => (q3x_ltI (kI3_w rfl h465) (fun I15 h466 => h466)))))) hI))
theorem fr3_fn_X9_goBack {I0 : Iv} (i : Int32) (I : Iv) (hI : KI3 I0 I) (J : Jv) : Qc3 I0 (fn_X9_goBack i I J) := by
  unfold fn_X9_goBack
  exact (q3x_ite hI (q3x_ite (q3x_ite hI (q3x_b3 (fr3_fn_X9_imageOf i I hI J) (fun r6 _ _ h467 => (q3x_b2 (fr3_fn_X6_copyFrom 16 stA_16 (iA i) I hI J) (fun I8 J9 h468 => h468))))) hI))
theorem fr3_fl_X9_forget_10_0 {I0 : Iv} (J : Jv) (Kf0 : Int32 → Iv → Int32 × Iv × Jv) (hKf0 : ∀ (a469 : Int32) (a470 : Iv), KI3 I0 a470 → Qc3 I0 (Kf0 a469 a470)) : ∀ (fu : Nat) (x8 : Int32) (I9 : Iv), KI3 I0 I9 → Qc3 I0 (fl_X9_forget_10_0 J Kf0 fu x8 I9) := by
  intro fu
  induction fu with
  | zero =>
    intro x8 I9 hI9
    rw [fl_X9_forget_10_0.eq_1]
    exact hI9
  | succ kf0 ih =>
    intro x8 I9 hI9
    rw [fl_X9_forget_10_0.eq_2]
    exact (q3x_ite (hKf0 x8 I9 hI9) (q3x_ltI (kI3_w rfl hI9) (fun I12 h471 => (ih (x8 + (1 : Int32)) I12 h471))))
theorem fr3_fn_X9_forget {I0 : Iv} (I : Iv) (hI : KI3 I0 I) (J : Jv) : Qc3 I0 (fn_X9_forget I J) := by
  unfold fn_X9_forget
  exact (q3x_b3 (fr3_fn_X2_howManySeen I hI J) (fun r6 _ _ h472 => (fr3_fl_X9_forget_10_0 J (fun (x8 : Int32) (I9 : Iv) => (r6, I9, J)) (fun x8 I9 h473 => h473) (mU (7 : Int32) ((0 : Int32)) + 1) (0 : Int32) I hI)))
