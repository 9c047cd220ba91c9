/-! ===== what finding SIGNS leaves ===== -/
def S7 (b _k : Nat) : Bool := !(b == 90)
def T7 (r _k : Nat) : Bool := !(r == 79 || r == 88)
def KI7 (I0 I : Iv) : Prop := ∀ b k, S7 b k = true → I b k = I0 b k
def KJ7 (J0 J : Jv) : Prop := ∀ b k, T7 b k = true → J b k = J0 b k
def Qf3 {α : Type} (I0 : Iv) (J0 : Jv) (x : α × Iv × Jv) : Prop := KI7 I0 x.2.1 ∧ KJ7 J0 x.2.2
def Qf2 (I0 : Iv) (J0 : Jv) (x : Iv × Jv) : Prop := KI7 I0 x.1 ∧ KJ7 J0 x.2
theorem ki7_rfl {I : Iv} : KI7 I I := fun _ _ _ => rfl
theorem kj7_rfl {J : Jv} : KJ7 J J := fun _ _ _ => rfl
theorem k7_wI {I0 I : Iv} {a k : Nat} {v : Int32} (h : S7 a k = false) (q : KI7 I0 I) : KI7 I0 (wI I a k v) := by
  intro b j hb
  rw [wI_ne (by
    by_cases e : b = a
    · by_cases e2 : j = k
      · rw [e, e2, h] at hb; exact absurd hb (by decide)
      · exact Or.inr e2
    · exact Or.inl e)]
  exact q b j hb
theorem k7_cI {I0 I : Iv} {a n : Nat} {f : Nat → Int32} (h : ∀ k, S7 a k = false) (q : KI7 I0 I) : KI7 I0 (cI I a n f) := by
  intro b j hb
  rw [cI_row (by rintro rfl; rw [h j] at hb; exact absurd hb (by decide))]
  exact q b j hb
theorem k7_wJ {J0 J : Jv} {a k : Nat} {v : Int64} (h : T7 a k = false) (q : KJ7 J0 J) : KJ7 J0 (wJ J a k v) := by
  intro b j hb
  rw [wJ_ne (by
    by_cases e : b = a
    · by_cases e2 : j = k
      · rw [e, e2, h] at hb; exact absurd hb (by decide)
      · exact Or.inr e2
    · exact Or.inl e)]
  exact q b j hb
theorem k7_cJ {J0 J : Jv} {a n : Nat} {f : Nat → Int64} (h : ∀ k, T7 a k = false) (q : KJ7 J0 J) : KJ7 J0 (cJ J a n f) := by
  intro b j hb
  rw [cJ_row (by rintro rfl; rw [h j] at hb; exact absurd hb (by decide))]
  exact q b j hb
theorem q7_ite {c : Prop} [Decidable c] {α : Type} {Q : α → Prop} {a b : α} (h1 : Q a) (h2 : Q b) : Q (if c then a else b) := by
  by_cases q : c
  · rw [if_pos q]; exact h1
  · rw [if_neg q]; exact h2
theorem q7_iteh {c : Prop} [Decidable c] {α : Type} {Q : α → Prop} {a b : α} (h1 : c → Q a) (h2 : ¬ c → Q b) : Q (if c then a else b) := by
  by_cases q : c
  · rw [if_pos q]; exact h1 q
  · rw [if_neg q]; exact h2 q
theorem q7_ltI {α : Type} {Q : α → Prop} {I0 x : Iv} {k : Iv → α} (hx : KI7 I0 x) (hk : ∀ I, KI7 I0 I → Q (k I)) : Q (l_t x k) := hk x hx
theorem q7_ltJ {α : Type} {Q : α → Prop} {J0 x : Jv} {k : Jv → α} (hx : KJ7 J0 x) (hk : ∀ J, KJ7 J0 J → Q (k J)) : Q (l_t x k) := hk x hx
theorem q7_lt {α β : Type} {Q : α → Prop} {x : β} {k : β → α} (hk : ∀ y, Q (k y)) : Q (l_t x k) := hk x
theorem q7_b3 {α β : Type} {Q : β → Prop} {I0 : Iv} {J0 : Jv} {x : α × Iv × Jv} {k : α → Iv → Jv → β} (hx : Qf3 I0 J0 x) (hk : ∀ r I J, KI7 I0 I → KJ7 J0 J → Q (k r I J)) : Q (b_n3 x k) := hk _ _ _ hx.1 hx.2
theorem q7_b2 {β : Type} {Q : β → Prop} {I0 : Iv} {J0 : Jv} {x : Iv × Jv} {k : Iv → Jv → β} (hx : Qf2 I0 J0 x) (hk : ∀ I J, KI7 I0 I → KJ7 J0 J → Q (k I J)) : Q (b_n2 x k) := hk _ _ hx.1 hx.2
theorem q7_jn {α β : Type} {Q : β → Prop} {P : α → Prop} {x : α} {k : α → β} (hx : P x) (hk : ∀ j, P j → Q (k j)) : Q (j_n x k) := hk x hx

theorem fr7_fn_X10_in {I0 : Iv} {J0 : Jv} (x : Int64) (low : Int64) (high : Int64) (I : Iv) (hI : KI7 I0 I) (J : Jv) (hJ : KJ7 J0 J) : Qf3 I0 J0 (fn_X10_in x low high I J) := by
  unfold fn_X10_in
  exact (q7_ite ⟨hI, hJ⟩ (q7_ite ⟨hI, hJ⟩ ⟨hI, hJ⟩))
theorem fr7_fn_X10_one {I0 : Iv} {J0 : Jv} (x : Int32) (I : Iv) (hI : KI7 I0 I) (J : Jv) (hJ : KJ7 J0 J) : Qf3 I0 J0 (fn_X10_one x I J) := by
  unfold fn_X10_one
  exact (q7_ite ⟨hI, hJ⟩ ⟨hI, hJ⟩)
theorem fr7_fn_X10_has {I0 : Iv} {J0 : Jv} (set : Int64) (k : Int32) (I : Iv) (hI : KI7 I0 I) (J : Jv) (hJ : KJ7 J0 J) : Qf3 I0 J0 (fn_X10_has set k I J) := by
  unfold fn_X10_has
  exact (q7_ite ⟨hI, hJ⟩ ⟨hI, hJ⟩)
theorem fr7_fn_X10_isHour {I0 : Iv} {J0 : Jv} (tick : Int64) (from_ : Int32) (till : Int32) (I : Iv) (hI : KI7 I0 I) (J : Jv) (hJ : KJ7 J0 J) : Qf3 I0 J0 (fn_X10_isHour tick from_ till I J) := by
  unfold fn_X10_isHour
  exact (q7_lt (fun v1 => (q7_ite ⟨hI, hJ⟩ (q7_ite ⟨hI, hJ⟩ (q7_ite ⟨hI, hJ⟩ ⟨hI, hJ⟩)))))
theorem fr7_fl_X10_isOpen_12_0 {I0 : Iv} {J0 : Jv} (I : Iv) (J : Jv) (v1 : Int64) (Kf0 : Int32 → Int32 → Int32 × Iv × Jv) (hI : KI7 I0 I) (hJ : KJ7 J0 J) (hKf0 : ∀ (a1 : Int32) (a2 : Int32), Qf3 I0 J0 (Kf0 a1 a2)) : ∀ (fu : Nat) (x2 : Int32) (x3 : Int32), Qf3 I0 J0 (fl_X10_isOpen_12_0 I J v1 Kf0 fu x2 x3) := by
  intro fu
  induction fu with
  | zero =>
    intro x2 x3
    rw [fl_X10_isOpen_12_0.eq_1]
    exact ⟨hI, hJ⟩
  | succ kf0 ih =>
    intro x2 x3
    rw [fl_X10_isOpen_12_0.eq_2]
    exact (q7_ite (hKf0 x2 x3) (q7_ite (q7_b3 (fr7_fn_X10_in v1 (Int32.toInt64 (I 83 x3.toNatClampNeg)) (Int32.toInt64 (((I 83 x3.toNatClampNeg) + (I 84 x3.toNatClampNeg)) - (1 : Int32))) I hI J hJ) (fun r10 _ _ h3 h4 => (q7_ite (ih (0 : Int32) (x3 + (1 : Int32))) (ih (1 : Int32) (x3 + (1 : Int32)))))) (ih (1 : Int32) (x3 + (1 : Int32)))))
theorem fr7_fn_X10_isOpen {I0 : Iv} {J0 : Jv} (tick : Int64) (I : Iv) (hI : KI7 I0 I) (J : Jv) (hJ : KJ7 J0 J) : Qf3 I0 J0 (fn_X10_isOpen tick I J) := by
  unfold fn_X10_isOpen
  exact (q7_lt (fun v1 => (fr7_fl_X10_isOpen_12_0 I J v1 (fun (x2 : Int32) (x3 : Int32) => (x2, I, J)) hI hJ (fun x2 x3 => ⟨hI, hJ⟩) (mU (I 78 5) ((0 : Int32)) + 1) (0 : Int32) (0 : Int32))))
theorem fr7_fn_X10_capOf {I0 : Iv} {J0 : Jv} (x : Int32) (cell : Int32) (I : Iv) (hI : KI7 I0 I) (J : Jv) (hJ : KJ7 J0 J) : Qf3 I0 J0 (fn_X10_capOf x cell I J) := by
  unfold fn_X10_capOf
  exact (q7_ite (q7_ite ⟨hI, hJ⟩ ⟨hI, hJ⟩) ⟨hI, hJ⟩)
theorem fr7_fn_X10_warm {I0 : Iv} {J0 : Jv} (x : Int32) (cell : Int32) (I : Iv) (hI : KI7 I0 I) (J : Jv) (hJ : KJ7 J0 J) : Qf3 I0 J0 (fn_X10_warm x cell I J) := by
  unfold fn_X10_warm
  exact (q7_b3 (fr7_fn_X10_capOf x cell I hI J hJ) (fun r6 _ _ h5 h6 => ⟨hI, hJ⟩))
theorem fr7_fn_X10_moves {I0 : Iv} {J0 : Jv} (x : Int32) (room : Int64) (I : Iv) (hI : KI7 I0 I) (J : Jv) (hJ : KJ7 J0 J) : Qf3 I0 J0 (fn_X10_moves x room I J) := by
  unfold fn_X10_moves
  exact (q7_lt (fun v1 => (q7_b3 (fr7_fn_X10_has (J 79 (x.toNatClampNeg + 52)) (2 : Int32) I hI J hJ) (fun r7 _ _ h7 h8 => (q7_jn (P := fun (j : Int64 → Int64 × Iv × Jv) => ∀ (a9 : Int64), Qf3 I0 J0 (j a9)) (fun w9 => (q7_lt (fun v10 => (q7_b3 (fr7_fn_X10_has (J 79 (x.toNatClampNeg + 52)) (3 : Int32) I hI J hJ) (fun r16 _ _ h10 h11 => (q7_jn (P := fun (j : Int64 → Int64 × Iv × Jv) => ∀ (a12 : Int64), Qf3 I0 J0 (j a12)) (fun w18 => (q7_lt (fun v19 => (q7_b3 (fr7_fn_X10_warm x (3 : Int32) I hI J hJ) (fun r25 _ _ h13 h14 => (q7_lt (fun v27 => (q7_ite ⟨hI, hJ⟩ ⟨hI, hJ⟩)))))))) (fun j76_1 j15 => (q7_ite (j15 ((0 : Int64))) (j15 (((v10 * (45 : Int64)) / (100 : Int64)))))))))))) (fun j41_0 j16 => (q7_ite (j16 ((0 : Int64))) (j16 (((v1 * (50 : Int64)) / (100 : Int64)))))))))))
theorem fr7_fn_X10_wet {I0 : Iv} {J0 : Jv} (x : Int32) (came : Int64) (I : Iv) (hI : KI7 I0 I) (J : Jv) (hJ : KJ7 J0 J) : Qf2 I0 J0 (fn_X10_wet x came I J) := by
  unfold fn_X10_wet
  exact (q7_ltJ (k7_wJ rfl hJ) (fun J1 h17 => (q7_b3 (fr7_fn_X10_warm x (3 : Int32) I hI J1 h17) (fun r8 _ _ h18 h19 => (q7_ite (q7_ltJ (k7_wJ rfl h17) (fun J10 h20 => (q7_lt (fun v12 => (q7_jn (P := fun (j : Int64 → Iv × Jv) => ∀ (a21 : Int64), Qf2 I0 J0 (j a21)) (fun w13 => (q7_ltJ (k7_wJ rfl h20) (fun J14 h22 => (q7_ltJ (k7_wJ rfl h22) (fun J16 h23 => ⟨hI, h23⟩))))) (fun j145_0 j24 => (q7_ite (j24 v12) (j24 ((J10 79 (x.toNatClampNeg + 53))))))))))) (q7_lt (fun v18 => (q7_jn (P := fun (j : Int64 → Iv × Jv) => ∀ (a25 : Int64), Qf2 I0 J0 (j a25)) (fun w19 => (q7_ltJ (k7_wJ rfl h17) (fun J20 h26 => (q7_ltJ (k7_wJ rfl h26) (fun J22 h27 => ⟨hI, h27⟩))))) (fun j60_1 j28 => (q7_ite (j28 ((0 : Int64))) (j28 ((v18 - (9999 : Int64))))))))))))))
theorem fr7_fn_X10_readBulb {I0 : Iv} {J0 : Jv} (x : Int32) (shelf : Int32) (less : Int32) (I : Iv) (hI : KI7 I0 I) (J : Jv) (hJ : KJ7 J0 J) : Qf2 I0 J0 (fn_X10_readBulb x shelf less I J) := by
  unfold fn_X10_readBulb
  exact (q7_b3 (fr7_fn_X10_warm x shelf I hI J hJ) (fun r6 _ _ h29 h30 => (q7_lt (fun v8 => (q7_jn (P := fun (j : Int64 → Iv × Jv) => ∀ (a31 : Int64), Qf2 I0 J0 (j a31)) (fun w9 => (q7_ltJ (k7_wJ rfl hJ) (fun J10 h32 => (q7_jn (P := fun (j : Int32 → Iv × Jv) => ∀ (a33 : Int32), Qf2 I0 J0 (j a33)) (fun w12 => (q7_jn (P := fun (j : Int32 → Iv × Jv) => ∀ (a34 : Int32), Qf2 I0 J0 (j a34)) (fun w13 => (q7_jn (P := fun (j : Int32 → Iv × Jv) => ∀ (a35 : Int32), Qf2 I0 J0 (j a35)) (fun w14 => (q7_jn (P := fun (j : Int32 → Iv × Jv) => ∀ (a36 : Int32), Qf2 I0 J0 (j a36)) (fun w15 => (q7_jn (P := fun (j : Int32 → Iv × Jv) => ∀ (a37 : Int32), Qf2 I0 J0 (j a37)) (fun w16 => (q7_b3 (fr7_fn_X10_one w16 I hI J10 h32) (fun r22 _ _ h38 h39 => (q7_ltJ (k7_wJ rfl h32) (fun J24 h40 => (q7_jn (P := fun (j : Int32 → Iv × Jv) => ∀ (a41 : Int32), Qf2 I0 J0 (j a41)) (fun w26 => (q7_b3 (fr7_fn_X10_one w26 I hI J24 h40) (fun r32 _ _ h42 h43 => (q7_ltJ (k7_wJ rfl h40) (fun J34 h44 => (q7_b3 (fr7_fn_X10_one w16 I hI J34 h44) (fun r41 _ _ h45 h46 => (q7_ltJ (k7_wJ rfl h44) (fun J43 h47 => ⟨hI, h47⟩))))))))) (fun j247_6 j48 => (q7_jn (P := Qf2 I0 J0) (j48 ((0 : Int32))) (fun j246_7 j49 => (q7_ite j49 (q7_ite (j48 ((1 : Int32))) j49))))))))))) (fun j205_5 j50 => (q7_jn (P := Qf2 I0 J0) (j50 ((1 : Int32))) (fun j200_8 j51 => (q7_ite (q7_jn (P := Qf2 I0 J0) (j50 ((0 : Int32))) (fun j204_9 j52 => (q7_ite (q7_ite j52 j51) j52))) j51)))))) (fun j183_4 j53 => (q7_jn (P := Qf2 I0 J0) (j53 ((1 : Int32))) (fun j178_10 j54 => (q7_ite j54 (q7_ite (j53 ((0 : Int32))) j54))))))) (fun j151_3 j55 => (q7_jn (P := Qf2 I0 J0) (j55 ((0 : Int32))) (fun j150_11 j56 => (q7_ite j56 (q7_b3 (fr7_fn_X10_has (J10 79 (x.toNatClampNeg + 52)) (4 : Int32) I hI J10 h32) (fun r50 _ _ h57 h58 => (q7_jn (P := Qf2 I0 J0) (j55 ((1 : Int32))) (fun j146_12 j59 => (q7_ite (q7_ite j56 j59) j59))))))))))) (fun j103_2 j60 => (q7_ite (j60 ((1 : Int32))) (j60 ((0 : Int32))))))) (fun j82_1 j61 => (q7_ite (j61 ((1 : Int32))) (j61 ((0 : Int32))))))))) (fun j50_0 j62 => (q7_ite (j62 ((v8 + ((r6 - v8) / (8 : Int64))))) (j62 r6))))))))
theorem fr7_fl_X10_findFlows_225_3 {I0 : Iv} {J0 : Jv} (I : Iv) (x : Int32) (Kf3 : Int32 → Jv → Iv × Jv) (hI : KI7 I0 I) (hKf3 : ∀ (a63 : Int32) (a64 : Jv), KJ7 J0 a64 → Qf2 I0 J0 (Kf3 a63 a64)) : ∀ (fu : Nat) (x32 : Int32) (J33 : Jv), KJ7 J0 J33 → Qf2 I0 J0 (fl_X10_findFlows_225_3 I x Kf3 fu x32 J33) := by
  intro fu
  induction fu with
  | zero =>
    intro x32 J33 hJ33
    rw [fl_X10_findFlows_225_3.eq_1]
    exact ⟨hI, hJ33⟩
  | succ kf3 ih =>
    intro x32 J33 hJ33
    rw [fl_X10_findFlows_225_3.eq_2]
    exact (q7_ite (hKf3 x32 J33 hJ33) (q7_ite (q7_lt (fun v36 => (q7_b3 (fr7_fn_X10_warm x v36 I hI J33 hJ33) (fun r42 _ _ h65 h66 => (q7_b3 (fr7_fn_X10_warm x ((4 : Int32) + x32) I hI J33 hJ33) (fun r49 _ _ h67 h68 => (q7_lt (fun v51 => (q7_ltJ (k7_wJ rfl hJ33) (fun J52 h69 => (q7_ltJ (k7_wJ rfl h69) (fun J54 h70 => (ih (x32 + (1 : Int32)) J54 h70))))))))))))) (ih (x32 + (1 : Int32)) J33 hJ33)))
theorem fr7_fl_X10_findFlows_86_2 {I0 : Iv} {J0 : Jv} (I : Iv) (x : Int32) (Kf2 : Int32 → Jv → Iv × Jv) (hI : KI7 I0 I) (hKf2 : ∀ (a71 : Int32) (a72 : Jv), KJ7 J0 a72 → Qf2 I0 J0 (Kf2 a71 a72)) : ∀ (fu : Nat) (x9 : Int32) (J10 : Jv), KJ7 J0 J10 → Qf2 I0 J0 (fl_X10_findFlows_86_2 I x Kf2 fu x9 J10) := by
  intro fu
  induction fu with
  | zero =>
    intro x9 J10 hJ10
    rw [fl_X10_findFlows_86_2.eq_1]
    exact ⟨hI, hJ10⟩
  | succ kf2 ih =>
    intro x9 J10 hJ10
    rw [fl_X10_findFlows_86_2.eq_2]
    exact (q7_ite (hKf2 x9 J10 hJ10) (q7_b3 (fr7_fn_X10_warm x x9 I hI J10 hJ10) (fun r61 _ _ h73 h74 => (q7_b3 (fr7_fn_X10_warm x (x9 + (1 : Int32)) I hI J10 hJ10) (fun r68 _ _ h75 h76 => (q7_lt (fun v70 => (q7_ltJ (k7_wJ rfl hJ10) (fun J71 h77 => (q7_ltJ (k7_wJ rfl h77) (fun J73 h78 => (ih (x9 + (1 : Int32)) J73 h78))))))))))))
theorem fr7_fl_X10_findFlows_27_1 {I0 : Iv} {J0 : Jv} (I : Iv) (x : Int32) (room : Int64) (gap : Int64) (Kf1 : Int32 → Jv → Iv × Jv) (hI : KI7 I0 I) (hKf1 : ∀ (a79 : Int32) (a80 : Jv), KJ7 J0 a80 → Qf2 I0 J0 (Kf1 a79 a80)) : ∀ (fu : Nat) (x5 : Int32) (J6 : Jv), KJ7 J0 J6 → Qf2 I0 J0 (fl_X10_findFlows_27_1 I x room gap Kf1 fu x5 J6) := by
  intro fu
  induction fu with
  | zero =>
    intro x5 J6 hJ6
    rw [fl_X10_findFlows_27_1.eq_1]
    exact ⟨hI, hJ6⟩
  | succ kf1 ih =>
    intro x5 J6 hJ6
    rw [fl_X10_findFlows_27_1.eq_2]
    exact (q7_ite (hKf1 x5 J6 hJ6) (q7_b3 (fr7_fn_X10_warm x x5 I hI J6 hJ6) (fun r80 _ _ h81 h82 => (q7_lt (fun v82 => (q7_ltJ (k7_wJ rfl hJ6) (fun J83 h83 => (q7_ltJ (k7_wJ rfl h83) (fun J85 h84 => (ih (x5 + (1 : Int32)) J85 h84))))))))))
theorem fr7_fl_X10_findFlows_3_0 {I0 : Iv} {J0 : Jv} (I : Iv) (Kf0 : Int32 → Jv → Iv × Jv) (hI : KI7 I0 I) (hKf0 : ∀ (a85 : Int32) (a86 : Jv), KJ7 J0 a86 → Qf2 I0 J0 (Kf0 a85 a86)) : ∀ (fu : Nat) (x1 : Int32) (J2 : Jv), KJ7 J0 J2 → Qf2 I0 J0 (fl_X10_findFlows_3_0 I Kf0 fu x1 J2) := by
  intro fu
  induction fu with
  | zero =>
    intro x1 J2 hJ2
    rw [fl_X10_findFlows_3_0.eq_1]
    exact ⟨hI, hJ2⟩
  | succ kf0 ih =>
    intro x1 J2 hJ2
    rw [fl_X10_findFlows_3_0.eq_2]
    exact (q7_ite (hKf0 x1 J2 hJ2) (q7_ltJ (k7_wJ rfl hJ2) (fun J87 h87 => (ih (x1 + (1 : Int32)) J87 h87))))
theorem fr7_fn_X10_findFlows {I0 : Iv} {J0 : Jv} (x : Int32) (room : Int64) (gap : Int64) (I : Iv) (hI : KI7 I0 I) (J : Jv) (hJ : KJ7 J0 J) : Qf2 I0 J0 (fn_X10_findFlows x room gap I J) := by
  unfold fn_X10_findFlows
  exact (fr7_fl_X10_findFlows_3_0 I (fun (x1 : Int32) (J2 : Jv) => fl_X10_findFlows_27_1 I x room gap (fun (x5 : Int32) (J6 : Jv) => fl_X10_findFlows_86_2 I x (fun (x9 : Int32) (J10 : Jv) => b_n3 (fn_X10_warm x (0 : Int32) I J10) (fun (r18 : Int64) (_ : Iv) (_ : Jv) => b_n3 (fn_X10_warm x (3 : Int32) I J10) (fun (r25 : Int64) (_ : Iv) (_ : Jv) => l_t ((((((Int32.toInt64 (I 81 4)) * (r18 - r25)) / (100 : Int64)) * (1000 : Int64)) / ((1000 : Int64) + (J10 79 (x.toNatClampNeg + 53))))) (fun (v27 : Int64) => l_t (wJ J10 88 0 ((J10 88 0) - v27)) (fun (J28 : Jv) => l_t (wJ J28 88 3 ((J28 88 3) + v27)) (fun (J30 : Jv) => fl_X10_findFlows_225_3 I x (fun (x32 : Int32) (J33 : Jv) => (I, J33)) (mU (8 : Int32) ((0 : Int32)) + 1) (0 : Int32) J30)))))) (mU (2 : Int32) ((0 : Int32)) + 1) (0 : Int32) J6) (mU (3 : Int32) ((0 : Int32)) + 1) (0 : Int32) J2) hI (fun x1 J2 h88 => (fr7_fl_X10_findFlows_27_1 I x room gap (fun (x5 : Int32) (J6 : Jv) => fl_X10_findFlows_86_2 I x (fun (x9 : Int32) (J10 : Jv) => b_n3 (fn_X10_warm x (0 : Int32) I J10) (fun (r18 : Int64) (_ : Iv) (_ : Jv) => b_n3 (fn_X10_warm x (3 : Int32) I J10) (fun (r25 : Int64) (_ : Iv) (_ : Jv) => l_t ((((((Int32.toInt64 (I 81 4)) * (r18 - r25)) / (100 : Int64)) * (1000 : Int64)) / ((1000 : Int64) + (J10 79 (x.toNatClampNeg + 53))))) (fun (v27 : Int64) => l_t (wJ J10 88 0 ((J10 88 0) - v27)) (fun (J28 : Jv) => l_t (wJ J28 88 3 ((J28 88 3) + v27)) (fun (J30 : Jv) => fl_X10_findFlows_225_3 I x (fun (x32 : Int32) (J33 : Jv) => (I, J33)) (mU (8 : Int32) ((0 : Int32)) + 1) (0 : Int32) J30)))))) (mU (2 : Int32) ((0 : Int32)) + 1) (0 : Int32) J6) hI (fun x5 J6 h89 => (fr7_fl_X10_findFlows_86_2 I x (fun (x9 : Int32) (J10 : Jv) => b_n3 (fn_X10_warm x (0 : Int32) I J10) (fun (r18 : Int64) (_ : Iv) (_ : Jv) => b_n3 (fn_X10_warm x (3 : Int32) I J10) (fun (r25 : Int64) (_ : Iv) (_ : Jv) => l_t ((((((Int32.toInt64 (I 81 4)) * (r18 - r25)) / (100 : Int64)) * (1000 : Int64)) / ((1000 : Int64) + (J10 79 (x.toNatClampNeg + 53))))) (fun (v27 : Int64) => l_t (wJ J10 88 0 ((J10 88 0) - v27)) (fun (J28 : Jv) => l_t (wJ J28 88 3 ((J28 88 3) + v27)) (fun (J30 : Jv) => fl_X10_findFlows_225_3 I x (fun (x32 : Int32) (J33 : Jv) => (I, J33)) (mU (8 : Int32) ((0 : Int32)) + 1) (0 : Int32) J30)))))) hI (fun x9 J10 h90 => (q7_b3 (fr7_fn_X10_warm x (0 : Int32) I hI J10 h90) (fun r18 _ _ h91 h92 => (q7_b3 (fr7_fn_X10_warm x (3 : Int32) I hI J10 h90) (fun r25 _ _ h93 h94 => (q7_lt (fun v27 => (q7_ltJ (k7_wJ rfl h90) (fun J28 h95 => (q7_ltJ (k7_wJ rfl h95) (fun J30 h96 => (fr7_fl_X10_findFlows_225_3 I x (fun (x32 : Int32) (J33 : Jv) => (I, J33)) hI (fun x32 J33 h97 => ⟨hI, h97⟩) (mU (8 : Int32) ((0 : Int32)) + 1) (0 : Int32) J30 h96)))))))))))) (mU (2 : Int32) ((0 : Int32)) + 1) (0 : Int32) J6 h89)) (mU (3 : Int32) ((0 : Int32)) + 1) (0 : Int32) J2 h88)) (mU (12 : Int32) ((0 : Int32)) + 1) (0 : Int32) J hJ)
theorem fr7_fl_X10_tick_230_6 {I0 : Iv} {J0 : Jv} (I : Iv) (x : Int32) (Kf6 : Int32 → Jv → Iv × Jv) (hI : KI7 I0 I) (hKf6 : ∀ (a98 : Int32) (a99 : Jv), KJ7 J0 a99 → Qf2 I0 J0 (Kf6 a98 a99)) : ∀ (fu : Nat) (x45 : Int32) (J46 : Jv), KJ7 J0 J46 → Qf2 I0 J0 (fl_X10_tick_230_6 I x Kf6 fu x45 J46) := by
  intro fu
  induction fu with
  | zero =>
    intro x45 J46 hJ46
    rw [fl_X10_tick_230_6.eq_1]
    exact ⟨hI, hJ46⟩
  | succ kf6 ih =>
    intro x45 J46 hJ46
    rw [fl_X10_tick_230_6.eq_2]
    exact (q7_ite (hKf6 x45 J46 hJ46) (q7_ltJ (k7_wJ rfl hJ46) (fun J74 h100 => (ih (x45 + (1 : Int32)) J74 h100))))
theorem fr7_fn_X10_tick {I0 : Iv} {J0 : Jv} (x : Int32) (open_ : Int32) (shelf : Int32) (less : Int32) (I : Iv) (hI : KI7 I0 I) (J : Jv) (hJ : KJ7 J0 J) : Qf2 I0 J0 (fn_X10_tick x open_ shelf less I J) := by
  unfold fn_X10_tick
  exact (q7_lt (fun v1 => (q7_lt (fun v2 => (q7_b3 (fr7_fn_X10_isHour v2 (I 81 12) (I 81 13) I hI J hJ) (fun r8 _ _ h101 h102 => (q7_jn (P := fun (j : Int64 → Iv × Jv) => ∀ (a103 : Int64), Qf2 I0 J0 (j a103)) (fun w10 => (q7_b3 (fr7_fn_X10_has v1 (6 : Int32) I hI J hJ) (fun r16 _ _ h104 h105 => (q7_jn (P := fun (j : Int64 → Iv × Jv) => ∀ (a106 : Int64), Qf2 I0 J0 (j a106)) (fun w18 => (q7_lt (fun v19 => (q7_jn (P := fun (j : Int32 → Iv × Jv) => ∀ (a107 : Int32), Qf2 I0 J0 (j a107)) (fun w20 => (q7_b2 (fr7_fn_X10_readBulb x shelf less I hI J hJ) (fun _ J21 h108 h109 => (q7_b3 (fr7_fn_X10_has v1 (0 : Int32) I hI J21 h109) (fun r33 _ _ h110 h111 => (q7_jn (P := fun (j : Int64 → Iv × Jv) => ∀ (a112 : Int64), Qf2 I0 J0 (j a112)) (fun w35 => (q7_jn (P := fun (j : Int64 → Iv × Jv) => ∀ (a113 : Int64), Qf2 I0 J0 (j a113)) (fun w36 => (q7_b2 (fr7_fn_X10_findFlows x v19 (((Int32.toInt64 (I 81 1)) + w35) + w36) I hI J21 h109) (fun _ J37 h114 h115 => (q7_jn (P := fun (j : Int64 → Iv × Jv) => ∀ (a116 : Int64), Qf2 I0 J0 (j a116)) (fun w44 => (fr7_fl_X10_tick_230_6 I x (fun (x45 : Int32) (J46 : Jv) => j_n (fun (J49 : Jv) => l_t (wJ J49 79 (x.toNatClampNeg + 3) ((J49 79 (x.toNatClampNeg + 3)) - w44)) (fun (J51 : Jv) => l_t (wJ J51 79 (x.toNatClampNeg + 58) ((J51 79 (x.toNatClampNeg + 58)) + w44)) (fun (J53 : Jv) => j_n (fun (w55 : Int64) => l_t (wJ J53 79 (x.toNatClampNeg + 63) ((J53 79 (x.toNatClampNeg + 63)) + w55)) (fun (J56 : Jv) => j_n (fun (w58 : Int64) => b_n2 (fn_X10_wet x (w35 + w58) I J56) (fun (_ : Iv) (J59 : Jv) => l_t (wJ J59 79 (x.toNatClampNeg + 54) ((J59 79 (x.toNatClampNeg + 54)) + (1 : Int64))) (fun (J66 : Jv) => (I, J66)))) (fun (j412_9 : Int64 → Iv × Jv) => if open_ = 0 then j412_9 ((0 : Int64)) else j412_9 ((20 : Int64))))) (fun (j395_8 : Int64 → Iv × Jv) => if (J53 79 (x.toNatClampNeg + 66)) = (1 : Int64) then j395_8 ((Int32.toInt64 (I 81 9))) else j395_8 ((0 : Int64)))))) (fun (j332_7 : Jv → Iv × Jv) => if w20 = 0 then j332_7 J46 else l_t (wJ J46 79 (x.toNatClampNeg) ((J46 79 x.toNatClampNeg) + ((5 : Int64) * (Int32.toInt64 (I 81 10))))) (fun (J68 : Jv) => l_t (wJ J68 79 (x.toNatClampNeg + 57) ((J68 79 (x.toNatClampNeg + 57)) + ((5 : Int64) * (Int32.toInt64 (I 81 10))))) (fun (J70 : Jv) => l_t (wJ J70 79 (x.toNatClampNeg + 63) ((J70 79 (x.toNatClampNeg + 63)) + (Int32.toInt64 (I 81 10)))) (fun (J72 : Jv) => j332_7 J72))))) hI (fun x45 J46 h117 => (q7_jn (P := fun (j : Jv → Iv × Jv) => ∀ (a118 : Jv), KJ7 J0 a118 → Qf2 I0 J0 (j a118)) (fun J49 h119 => (q7_ltJ (k7_wJ rfl h119) (fun J51 h120 => (q7_ltJ (k7_wJ rfl h120) (fun J53 h121 => (q7_jn (P := fun (j : Int64 → Iv × Jv) => ∀ (a122 : Int64), Qf2 I0 J0 (j a122)) (fun w55 => (q7_ltJ (k7_wJ rfl h121) (fun J56 h123 => (q7_jn (P := fun (j : Int64 → Iv × Jv) => ∀ (a124 : Int64), Qf2 I0 J0 (j a124)) (fun w58 => (q7_b2 (fr7_fn_X10_wet x (w35 + w58) I hI J56 h123) (fun _ J59 h125 h126 => (q7_ltJ (k7_wJ rfl h126) (fun J66 h127 => ⟨hI, h127⟩))))) (fun j412_9 j128 => (q7_ite (j128 ((0 : Int64))) (j128 ((20 : Int64))))))))) (fun j395_8 j129 => (q7_ite (j129 ((Int32.toInt64 (I 81 9)))) (j129 ((0 : Int64))))))))))) (fun j332_7 j130 => (q7_ite (j130 J46 h117) (q7_ltJ (k7_wJ rfl h117) (fun J68 h131 => (q7_ltJ (k7_wJ rfl h131) (fun J70 h132 => (q7_ltJ (k7_wJ rfl h132) (fun J72 h133 => (j130 J72 h133))))))))))) (mU (12 : Int32) ((0 : Int32)) + 1) (0 : Int32) J37 h115)) (fun j225_5 j134 => (q7_ite (q7_b3 (fr7_fn_X10_moves x v19 I hI J37 h115) (fun r81 _ _ h135 h136 => (j134 r81))) (j134 ((0 : Int64))))))))) (fun j196_4 j137 => (q7_ite (j137 ((0 : Int64))) (j137 ((60 : Int64))))))) (fun j169_3 j138 => (q7_ite (j138 ((Int32.toInt64 (I 81 2)))) (j138 ((((4 : Int64) * (Int32.toInt64 (I 81 2))) + (12 : Int64)))))))))))) (fun j125_2 j139 => (q7_jn (P := Qf2 I0 J0) (j139 ((0 : Int32))) (fun j124_10 j140 => (q7_jn (P := Qf2 I0 J0) (q7_ite (j139 ((1 : Int32))) j140) (fun j106_11 j141 => (q7_ite (q7_b3 (fr7_fn_X10_has v1 (5 : Int32) I hI J hJ) (fun r88 _ _ h142 h143 => (q7_ite j140 j141))) j141)))))))))) (fun j90_1 j144 => (q7_ite (j144 ((0 : Int64))) (j144 ((800 : Int64))))))))) (fun j72_0 j145 => (q7_ite (j145 ((0 : Int64))) (j145 (((10 : Int64) * (Int32.toInt64 (I 81 14))))))))))))))
theorem fr7_fl_X10_go_2_0 {I0 : Iv} {J0 : Jv} (I : Iv) (x : Int32) (n : Int32) (Kf0 : Int32 → Jv → Iv × Jv) (hI : KI7 I0 I) (hKf0 : ∀ (a146 : Int32) (a147 : Jv), KJ7 J0 a147 → Qf2 I0 J0 (Kf0 a146 a147)) : ∀ (fu : Nat) (x1 : Int32) (J2 : Jv), KJ7 J0 J2 → Qf2 I0 J0 (fl_X10_go_2_0 I x n Kf0 fu x1 J2) := by
  intro fu
  induction fu with
  | zero =>
    intro x1 J2 hJ2
    rw [fl_X10_go_2_0.eq_1]
    exact ⟨hI, hJ2⟩
  | succ kf0 ih =>
    intro x1 J2 hJ2
    rw [fl_X10_go_2_0.eq_2]
    exact (q7_ite (hKf0 x1 J2 hJ2) (q7_b3 (fr7_fn_X10_isOpen (J2 79 (x.toNatClampNeg + 54)) I hI J2 hJ2) (fun r10 _ _ h148 h149 => (q7_b2 (fr7_fn_X10_tick x r10 (I 81 8) (0 : Int32) I hI J2 hJ2) (fun _ J12 h150 h151 => (ih (x1 + (1 : Int32)) J12 h151))))))
theorem fr7_fn_X10_go {I0 : Iv} {J0 : Jv} (x : Int32) (n : Int32) (I : Iv) (hI : KI7 I0 I) (J : Jv) (hJ : KJ7 J0 J) : Qf2 I0 J0 (fn_X10_go x n I J) := by
  unfold fn_X10_go
  exact (fr7_fl_X10_go_2_0 I x n (fun (x1 : Int32) (J2 : Jv) => (I, J2)) hI (fun x1 J2 h152 => ⟨hI, h152⟩) (mU n ((0 : Int32)) + 1) (0 : Int32) J hJ)
theorem fr7_fl_X10_freshen_93_1 {I0 : Iv} {J0 : Jv} (I : Iv) (x : Int32) (Kf1 : Int32 → Jv → Iv × Jv) (hI : KI7 I0 I) (hKf1 : ∀ (a153 : Int32) (a154 : Jv), KJ7 J0 a154 → Qf2 I0 J0 (Kf1 a153 a154)) : ∀ (fu : Nat) (x14 : Int32) (J15 : Jv), KJ7 J0 J15 → Qf2 I0 J0 (fl_X10_freshen_93_1 I x Kf1 fu x14 J15) := by
  intro fu
  induction fu with
  | zero =>
    intro x14 J15 hJ15
    rw [fl_X10_freshen_93_1.eq_1]
    exact ⟨hI, hJ15⟩
  | succ kf1 ih =>
    intro x14 J15 hJ15
    rw [fl_X10_freshen_93_1.eq_2]
    exact (q7_ite (hKf1 x14 J15 hJ15) (q7_ltJ (k7_wJ rfl hJ15) (fun J32 h155 => (ih (x14 + (1 : Int32)) J32 h155))))
theorem fr7_fl_X10_freshen_35_0 {I0 : Iv} {J0 : Jv} (I : Iv) (x : Int32) (Kf0 : Int32 → Jv → Iv × Jv) (hI : KI7 I0 I) (hKf0 : ∀ (a156 : Int32) (a157 : Jv), KJ7 J0 a157 → Qf2 I0 J0 (Kf0 a156 a157)) : ∀ (fu : Nat) (x4 : Int32) (J5 : Jv), KJ7 J0 J5 → Qf2 I0 J0 (fl_X10_freshen_35_0 I x Kf0 fu x4 J5) := by
  intro fu
  induction fu with
  | zero =>
    intro x4 J5 hJ5
    rw [fl_X10_freshen_35_0.eq_1]
    exact ⟨hI, hJ5⟩
  | succ kf0 ih =>
    intro x4 J5 hJ5
    rw [fl_X10_freshen_35_0.eq_2]
    exact (q7_ite (hKf0 x4 J5 hJ5) (q7_ltJ (k7_wJ rfl hJ5) (fun J34 h158 => (ih (x4 + (1 : Int32)) J34 h158))))
theorem fr7_fn_X10_freshen {I0 : Iv} {J0 : Jv} (x : Int32) (I : Iv) (hI : KI7 I0 I) (J : Jv) (hJ : KJ7 J0 J) : Qf2 I0 J0 (fn_X10_freshen x I J) := by
  unfold fn_X10_freshen
  exact (q7_lt (fun v1 => (q7_lt (fun v2 => (q7_lt (fun v3 => (fr7_fl_X10_freshen_35_0 I x (fun (x4 : Int32) (J5 : Jv) => l_t (wJ J5 79 (x.toNatClampNeg + 52) v1) (fun (J8 : Jv) => l_t (wJ J8 79 (x.toNatClampNeg + 69) v2) (fun (J10 : Jv) => l_t (wJ J10 79 (x.toNatClampNeg + 70) v3) (fun (J12 : Jv) => fl_X10_freshen_93_1 I x (fun (x14 : Int32) (J15 : Jv) => l_t (wJ J15 79 (x.toNatClampNeg + 3) (-40000 : Int64)) (fun (J18 : Jv) => b_n3 (fn_X10_has v1 (1 : Int32) I J18) (fun (r25 : Int32) (_ : Iv) (_ : Jv) => j_n (fun (w27 : Int64) => l_t (wJ J18 79 (x.toNatClampNeg + 53) w27) (fun (J28 : Jv) => l_t (wJ J28 79 (x.toNatClampNeg + 67) (500 : Int64)) (fun (J30 : Jv) => (I, J30)))) (fun (j151_2 : Int64 → Iv × Jv) => if r25 = 0 then j151_2 ((0 : Int64)) else j151_2 ((600 : Int64)))))) (mU (3 : Int32) ((0 : Int32)) + 1) (0 : Int32) J12)))) hI (fun x4 J5 h159 => (q7_ltJ (k7_wJ rfl h159) (fun J8 h160 => (q7_ltJ (k7_wJ rfl h160) (fun J10 h161 => (q7_ltJ (k7_wJ rfl h161) (fun J12 h162 => (fr7_fl_X10_freshen_93_1 I x (fun (x14 : Int32) (J15 : Jv) => l_t (wJ J15 79 (x.toNatClampNeg + 3) (-40000 : Int64)) (fun (J18 : Jv) => b_n3 (fn_X10_has v1 (1 : Int32) I J18) (fun (r25 : Int32) (_ : Iv) (_ : Jv) => j_n (fun (w27 : Int64) => l_t (wJ J18 79 (x.toNatClampNeg + 53) w27) (fun (J28 : Jv) => l_t (wJ J28 79 (x.toNatClampNeg + 67) (500 : Int64)) (fun (J30 : Jv) => (I, J30)))) (fun (j151_2 : Int64 → Iv × Jv) => if r25 = 0 then j151_2 ((0 : Int64)) else j151_2 ((600 : Int64)))))) hI (fun x14 J15 h163 => (q7_ltJ (k7_wJ rfl h163) (fun J18 h164 => (q7_b3 (fr7_fn_X10_has v1 (1 : Int32) I hI J18 h164) (fun r25 _ _ h165 h166 => (q7_jn (P := fun (j : Int64 → Iv × Jv) => ∀ (a167 : Int64), Qf2 I0 J0 (j a167)) (fun w27 => (q7_ltJ (k7_wJ rfl h164) (fun J28 h168 => (q7_ltJ (k7_wJ rfl h168) (fun J30 h169 => ⟨hI, h169⟩))))) (fun j151_2 j170 => (q7_ite (j170 ((0 : Int64))) (j170 ((600 : Int64))))))))))) (mU (3 : Int32) ((0 : Int32)) + 1) (0 : Int32) J12 h162)))))))) (mU (80 : Int32) ((0 : Int32)) + 1) (0 : Int32) J hJ)))))))
theorem fr7_fn_X10_tryFresh {I0 : Iv} {J0 : Jv} (set : Int32) (I : Iv) (hI : KI7 I0 I) (J : Jv) (hJ : KJ7 J0 J) : Qf2 I0 J0 (fn_X10_tryFresh set I J) := by
  unfold fn_X10_tryFresh
  exact (q7_ltJ (k7_wJ rfl hJ) (fun J1 h171 => (q7_ltJ (k7_wJ rfl h171) (fun J3 h172 => (q7_b2 (fr7_fn_X10_freshen (80 : Int32) I hI J3 h172) (fun _ J5 h173 h174 => ⟨hI, h174⟩))))))
theorem fr7_fn_X10_signOf {I0 : Iv} {J0 : Jv} (what : Int32) (I : Iv) (hI : KI7 I0 I) (J : Jv) (hJ : KJ7 J0 J) : Qf3 I0 J0 (fn_X10_signOf what I J) := by
  unfold fn_X10_signOf
  exact (q7_jn (P := Qf3 I0 J0) (q7_b3 (fr7_fn_X10_warm (80 : Int32) (what - (2 : Int32)) I hI J hJ) (fun r6 _ _ h176 h177 => ⟨hI, hJ⟩)) (fun j32_0 j175 => (q7_ite (q7_ite ⟨hI, hJ⟩ (q7_ite ⟨hI, hJ⟩ ⟨hI, hJ⟩)) (q7_lt (fun sw1 => (q7_ite j175 (q7_ite j175 (q7_ite j175 (q7_ite ⟨hI, hJ⟩ ⟨hI, hJ⟩)))))))))
theorem fr7_fl_X10_findSigns_51_0 {I0 : Iv} {J0 : Jv} (r20 : Int32) (r27 : Int32) (r34 : Int32) (J36 : Jv) (Kf0 : Int32 → Iv → Iv × Jv) (hJ36 : KJ7 J0 J36) (hKf0 : ∀ (a178 : Int32) (a179 : Iv), KI7 I0 a179 → Qf2 I0 J0 (Kf0 a178 a179)) : ∀ (fu : Nat) (x43 : Int32) (I44 : Iv), KI7 I0 I44 → Qf2 I0 J0 (fl_X10_findSigns_51_0 r20 r27 r34 J36 Kf0 fu x43 I44) := by
  intro fu
  induction fu with
  | zero =>
    intro x43 I44 hI44
    rw [fl_X10_findSigns_51_0.eq_1]
    exact ⟨hI44, hJ36⟩
  | succ kf0 ih =>
    intro x43 I44 hI44
    rw [fl_X10_findSigns_51_0.eq_2]
    exact (q7_ite (hKf0 x43 I44 hI44) (q7_b3 (fr7_fn_X10_signOf x43 I44 hI44 J36 hJ36) (fun r52 _ _ h180 h181 => (q7_ite (q7_ltI (k7_wI rfl hI44) (fun I60 h182 => (ih (x43 + (1 : Int32)) I60 h182))) (q7_ite (q7_ltI (k7_wI rfl hI44) (fun I58 h183 => (ih (x43 + (1 : Int32)) I58 h183))) (q7_ite (q7_ltI (k7_wI rfl hI44) (fun I56 h184 => (ih (x43 + (1 : Int32)) I56 h184))) (q7_ltI (k7_wI rfl hI44) (fun I54 h185 => (ih (x43 + (1 : Int32)) I54 h185)))))))))
theorem fr7_fn_X10_findSigns {I0 : Iv} {J0 : Jv} (set : Int32) (n : Int32) (I : Iv) (hI : KI7 I0 I) (J : Jv) (hJ : KJ7 J0 J) : Qf2 I0 J0 (fn_X10_findSigns set n I J) := by
  unfold fn_X10_findSigns
  exact (q7_b2 (fr7_fn_X10_tryFresh set I hI J hJ) (fun _ J1 h186 h187 => (q7_b2 (fr7_fn_X10_go (80 : Int32) ((288 : Int32) * (n - (1 : Int32))) I hI J1 h187) (fun _ J8 h188 h189 => (q7_b3 (fr7_fn_X10_signOf (0 : Int32) I hI J8 h189) (fun r20 _ _ h190 h191 => (q7_b3 (fr7_fn_X10_signOf (1 : Int32) I hI J8 h189) (fun r27 _ _ h192 h193 => (q7_b3 (fr7_fn_X10_signOf (6 : Int32) I hI J8 h189) (fun r34 _ _ h194 h195 => (q7_b2 (fr7_fn_X10_go (80 : Int32) (288 : Int32) I hI J8 h189) (fun _ J36 h196 h197 => (fr7_fl_X10_findSigns_51_0 r20 r27 r34 J36 (fun (x43 : Int32) (I44 : Iv) => (I44, J36)) h197 (fun x43 I44 h198 => ⟨h198, h197⟩) (mU (7 : Int32) ((0 : Int32)) + 1) (0 : Int32) I hI)))))))))))))
