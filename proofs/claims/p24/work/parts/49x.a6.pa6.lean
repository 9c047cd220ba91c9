/-! ===== the guess: what both hold alike; SIGNS that are known over all calls ===== -/
theorem le67 {x : Int32} : x ≤ 6 ↔ ¬ 7 ≤ x := by
  rw [Int32.le_iff_toInt_le, Int32.le_iff_toInt_le, show (6 : Int32).toInt = 6 by decide, show (7 : Int32).toInt = 7 by decide]; omega
theorem in7 {x : Int32} {I : Iv} {J : Jv} : (if x < 0 then (((0 : Int32), I, J) : Int32 × Iv × Jv) else if (7 : Int32) ≤ x then ((0 : Int32), I, J) else ((1 : Int32), I, J)) = (b3 (decide (0 ≤ x ∧ x ≤ 6)), I, J) := by
  by_cases h1 : x < 0
  · rw [if_pos h1, decide_eq_false (fun z => absurd z.1 (Int32.not_le.mpr h1))]; rfl
  · rw [if_neg h1]
    by_cases h2 : 7 ≤ x
    · rw [if_pos h2, decide_eq_false (fun z => le67.mp z.2 h2)]; rfl
    · rw [if_neg h2, decide_eq_true ⟨Int32.not_lt.mp h1, le67.mpr h2⟩]; rfl
theorem isSign9 (x : Int32) (I : Iv) (J : Jv) : fn_X9_isSign x I J = (b3 (decide (0 ≤ x ∧ x ≤ 6)), I, J) := in7
theorem isTr9 (x : Int32) (I : Iv) (J : Jv) : fn_X9_isTrouble x I J = (b3 (decide (0 ≤ x ∧ x ≤ 6)), I, J) := in7
theorem isSign10 (x : Int32) (I : Iv) (J : Jv) : fn_X10_isSign x I J = (b3 (decide (0 ≤ x ∧ x ≤ 6)), I, J) := by
  unfold fn_X10_isSign; rw [fX10_in3 x 0 6 0 6 (by decide) (by decide), b_n3_mk]
theorem isTr10 (x : Int32) (I : Iv) (J : Jv) : fn_X10_isTrouble x I J = (b3 (decide (0 ≤ x ∧ x ≤ 6)), I, J) := by
  unfold fn_X10_isTrouble; rw [fX10_in3 x 0 6 0 6 (by decide) (by decide), b_n3_mk]
theorem days10 (x : Int32) (I : Iv) (J : Jv) : fn_X10_areDays x I J = (b3 (decide (1 ≤ x ∧ x ≤ 6)), I, J) := by
  unfold fn_X10_areDays; rw [fX10_in3 x 1 6 1 6 (by decide) (by decide), b_n3_mk]
theorem sgn_n {s : Int32} (h : 0 ≤ s ∧ s ≤ 6) : ∃ k, k < 7 ∧ s = n3 k := by
  have b := Int32.le_iff_toInt_le.mp h.2
  have a := Int32.le_iff_toInt_le.mp h.1
  rw [show (6 : Int32).toInt = 6 by decide] at b
  rw [show (0 : Int32).toInt = 0 by decide] at a
  exact ⟨s.toNatClampNeg, by show s.toInt.toNat < 7; omega, n3_of h.1⟩
/-- the reference's priors, as they are behind its late beginning -/
def PV (I : Iv) (k : Nat) : Int32 := if I 78 2 = 0 then 100 else I 94 k
def GQk (I : Iv) (k : Nat) : Prop := I 58 k = I 91 k ∧ (¬ I 58 k = 0 → I 59 k = I 92 k ∧ I 60 k = I 93 k ∧ (-99999 ≤ (I 59 k).toInt ∧ (I 59 k).toInt ≤ 99999) ∧ (1 ≤ (I 60 k).toInt ∧ (I 60 k).toInt ≤ 999)) ∧ I 61 k = PV I k ∧ (0 ≤ (I 61 k).toInt ∧ (I 61 k).toInt ≤ 1000) ∧ I 62 k = I 95 k
def GQ (I : Iv) : Prop := ∀ k, k < 7 → GQk I k
theorem gq_row {I I' : Iv} (h : GQ I) (e : ∀ b, b = 58 ∨ b = 59 ∨ b = 60 ∨ b = 61 ∨ b = 62 ∨ b = 91 ∨ b = 92 ∨ b = 93 ∨ b = 94 ∨ b = 95 → I' b = I b) (e2 : I' 78 2 = I 78 2) : GQ I' := by
  intro k hk
  have := h k hk
  unfold GQk PV at this ⊢
  rw [e 58 (by omega), e 59 (by omega), e 60 (by omega), e 61 (by omega), e 62 (by omega), e 91 (by omega), e 92 (by omega), e 93 (by omega), e 94 (by omega), e 95 (by omega), e2]
  exact this
theorem gq_c {I I1 : Iv} (h : GQ I) (k : KI4 I I1) : GQ I1 :=
  gq_row h (fun b hb => by rcases hb with rfl | rfl | rfl | rfl | rfl | rfl | rfl | rfl | rfl | rfl <;> exact k.row _ (fun _ => rfl)) (k 78 2 rfl)
theorem s5_lo {b : Nat} (h : b < 78) (k : Nat) : S5 b k = true := by
  have : Nat.blt b 78 = true := by
    show Nat.ble (b + 1) 78 = true
    exact Nat.ble_eq_true_of_le h
  unfold S5; rw [this]; simp
theorem KI5.lo {I I1 : Iv} (k : KI5 I I1) {b : Nat} (h : b < 78) : I1 b = I b := k.row b (s5_lo h)
theorem gq_r {I I1 : Iv} (h : GQ I) (k : KI5 I I1) : GQ I1 :=
  gq_row h (fun b hb => by
    rcases hb with rfl | rfl | rfl | rfl | rfl | rfl | rfl | rfl | rfl | rfl
    · exact k.lo (by omega)
    · exact k.lo (by omega)
    · exact k.lo (by omega)
    · exact k.lo (by omega)
    · exact k.lo (by omega)
    · exact k.row _ (fun _ => rfl)
    · exact k.row _ (fun _ => rfl)
    · exact k.row _ (fun _ => rfl)
    · exact k.row _ (fun _ => rfl)
    · exact k.row _ (fun _ => rfl)) (k 78 2 rfl)
theorem z51v {J : Jv} : ∀ (f k fu : Nat) (I : Iv), k + f = 7 → f < fu → ∃ I' : Iv, (∀ K : Int32 → Iv → Iv × Jv, fl_X10_begin_51_1 J K fu (n3 k) I = K 7 I') ∧ ∀ j, I' 94 j = (if k ≤ j ∧ j < 7 then 100 else I 94 j)
  | f, k, 0, _, _, h => absurd h (Nat.not_lt_zero _)
  | 0, k, fu + 1, I, hk, _ => ⟨I, fun K => by
      rw [fl_X10_begin_51_1.eq_2, if_pos (by rw [show (7 : Int32) = n3 7 from rfl, n3_le (by omega) (by omega)]; omega), show k = 7 by omega]; rfl, fun j => by rw [if_neg (by omega)]⟩
  | f + 1, k, fu + 1, I, hk, hf => by
    obtain ⟨I', e, r1⟩ := z51v (J := J) f (k + 1) fu (wI (wI I 94 k 100) 98 k 50) (by omega) (by omega)
    refine ⟨I', fun K => ?_, fun j => ?_⟩
    · rw [fl_X10_begin_51_1.eq_2, if_neg (by rw [show (7 : Int32) = n3 7 from rfl, n3_le (by omega) (by omega)]; omega), n3_tn (by omega), l_t, l_t, n3_up]
      exact e K
    · rw [r1 j, wI_row (show (94 : Nat) ≠ 98 by decide)]
      by_cases q : j = k
      · rw [q, if_neg (by omega), if_pos (by omega), wI_self]
      · rw [wI_ne (Or.inr q)]
        by_cases q2 : k + 1 ≤ j ∧ j < 7
        · rw [if_pos q2, if_pos (by omega)]
        · rw [if_neg q2, if_neg (by omega)]
theorem beg94 (I : Iv) (J : Jv) {k : Nat} (hk : k < 7) : (fn_X10_begin I J).1 94 k = PV I k := by
  unfold fn_X10_begin PV
  by_cases h : I 78 2 = 0
  · obtain ⟨I1, e1, -, -⟩ := z14R (J := J) 15 0 (mU (15 : Int32) ((0 : Int32)) + 1) (wI I 78 2 1) rfl (by decide)
    have e1' : ∀ K : Int32 → Iv → Iv × Jv, fl_X10_begin_14_0 J K (mU (15 : Int32) ((0 : Int32)) + 1) 0 (wI I 78 2 1) = K 15 I1 := e1
    obtain ⟨I2, e2, r2⟩ := z51v (J := (fn_X10_freshen 0 I1 (wJ J 79 69 1)).2) 7 0 (mU (7 : Int32) ((0 : Int32)) + 1) I1 rfl (by decide)
    have e2' : ∀ K : Int32 → Iv → Iv × Jv, fl_X10_begin_51_1 (fn_X10_freshen 0 I1 (wJ J 79 69 1)).2 K (mU (7 : Int32) ((0 : Int32)) + 1) 0 I1 = K 7 I2 := e2
    rw [if_pos h, l_t, e1', l_t, b_n2, e2', l_t, l_t, if_pos h]
    show wI (wI I2 78 30 30) 78 31 (-1) 94 k = 100
    rw [wI_row (by decide), wI_row (by decide), r2 k, if_pos ⟨Nat.zero_le _, hk⟩]
  · rw [if_neg h, if_neg h]
theorem gq_beg {I : Iv} (J : Jv) (h : GQ I) : GQ (fn_X10_begin I J).1 := by
  obtain ⟨C, D, e, n2, q, qk, q81⟩ := begR I J
  intro k hk
  have b := beg94 I J hk
  have g := h k hk
  rw [e] at b ⊢
  have b' : C 94 k = PV I k := b
  show GQk C k
  unfold GQk at g ⊢
  rw [q 58 (by decide) (by decide) (by decide) (by decide), q 59 (by decide) (by decide) (by decide) (by decide), q 60 (by decide) (by decide) (by decide) (by decide), q 61 (by decide) (by decide) (by decide) (by decide), q 62 (by decide) (by decide) (by decide) (by decide), q 91 (by decide) (by decide) (by decide) (by decide), q 92 (by decide) (by decide) (by decide) (by decide), q 93 (by decide) (by decide) (by decide) (by decide), q 95 (by decide) (by decide) (by decide) (by decide)]
  have p : PV C k = PV I k := by
    show (if C 78 2 = 0 then 100 else C 94 k) = PV I k
    rw [if_neg n2, b']
  rw [p]; exact g
theorem beg_lo (I : Iv) (J : Jv) {b : Nat} (h : b < 78) : (fn_X10_begin I J).1 b = I b := by
  obtain ⟨C, D, e, -, q, -, -⟩ := begR I J
  rw [e]; exact q b (by omega) (by omega) (by omega) (by omega)
theorem sg_lo {I I' : Iv} (h : SG I) (e : ∀ b, b < 78 → I' b = I b) : SG I' := sg_row h (fun b hb => e b (by unfold E4 at hb; omega))
/-- what is kept of SIGNS and the guess -/
def CS (I : Iv) : Prop := SG I ∧ GQ I
theorem cs_cls {α : Type} {c : Nat} {v : α} {I I1 : Iv} {J J1 : Jv} (hq : CQx c I J) (h : CS I) (q : Qc3 I (v, I1, J1)) (q4 : Qd3 I (v, I1, J1)) : CS I1 := ⟨q.2 ⟨_, hq.2.1⟩ h.1, gq_c h.2 q4⟩
theorem cs_rb {α : Type} {v : α} {I1 I2 : Iv} {J1 J2 : Jv} (h : CS I1) (q : Qe3 (fn_X10_begin I1 J1).1 (v, I2, J2)) : CS I2 := by
  have q' : KI5 (fn_X10_begin I1 J1).1 I2 := q
  exact ⟨sg_lo h.1 (fun b hb => (q'.lo hb).trans (beg_lo I1 J1 hb)), gq_r (gq_beg J1 h.2) q'⟩
theorem cs_rn {α : Type} {v : α} {I1 I2 : Iv} {J2 : Jv} (h : CS I1) (q : Qe3 I1 (v, I2, J2)) : CS I2 := by
  have q' : KI5 I1 I2 := q
  exact ⟨sg_lo h.1 (fun b hb => q'.lo hb), gq_r h.2 q'⟩
/-! the calls that write there -/
theorem sg_box {v1 : Int32} {I I1 : Iv} {J J1 : Jv} (hp : CP I) (h : SG I) (e1 : fn_X9_box I J = (v1, I1, J1)) : SG I1 := by
  obtain ⟨-, -, -, -, n, n1, n2⟩ := hp
  obtain ⟨A, e3, s1, f1⟩ := readBoxC J n1 n2
  unfold fn_X9_box at e1
  rw [e3, b_n2_mk, l_t] at e1
  by_cases h0 : wI A 1 1 0 1 3 = 0
  · rw [if_pos h0] at e1
    generalize fn_X0_copyFrom (wI A 1 1 0) J = q1 at e1
    obtain ⟨K, L⟩ := q1
    rw [b_n2_mk] at e1
    generalize fn_X6_becomeFresh 16 K L = q2 at e1
    obtain ⟨F, G⟩ := q2
    rw [b_n2_mk, show fn_X1_forgetSigns F G = (cI F 55 128 (fun _ => (0 : Int32)), G) from rfl, b_n2_mk] at e1
    have x1 : cI F 55 128 (fun _ => (0 : Int32)) = I1 := congrArg (fun (y : Int32 × Iv × Jv) => y.2.1) e1
    rw [← x1]
    exact sg_none (fun s hs => by simp only [cI, hs, and_self, if_true])
  · rw [if_neg h0] at e1
    have x1 : wI A 1 1 0 = I1 := congrArg (fun (y : Int32 × Iv × Jv) => y.2.1) e1
    rw [← x1]
    refine sg_row h (fun b hb => ?_)
    unfold E4 at hb
    rw [wI_row (by omega), f1.1 b (by omega) (by omega) (by omega)]
theorem sg_day {v1 : Int32} {I I1 : Iv} {J J1 : Jv} (hp : CP I) (h : SG I) (e1 : fn_X9_day I J = (v1, I1, J1)) : SG I1 := by
  obtain ⟨-, -, -, -, n, n1, n2⟩ := hp
  obtain ⟨A, e3, s1, f1⟩ := readDayC J n1 n2
  unfold fn_X9_day at e1
  rw [e3, b_n2_mk, l_t] at e1
  by_cases h0 : wI A 1 1 0 1 3 = 0
  · rw [if_pos h0] at e1
    generalize fn_X3_copyFrom (wI A 1 1 0 1 5) (wI A 1 1 0) J = q1 at e1
    obtain ⟨F, G⟩ := q1
    rw [b_n2_mk, show fn_X1_forgetSigns F G = (cI F 55 128 (fun _ => (0 : Int32)), G) from rfl, b_n2_mk] at e1
    have x1 : cI F 55 128 (fun _ => (0 : Int32)) = I1 := congrArg (fun (y : Int32 × Iv × Jv) => y.2.1) e1
    rw [← x1]
    exact sg_none (fun s hs => by simp only [cI, hs, and_self, if_true])
  · rw [if_neg h0] at e1
    have x1 : wI A 1 1 0 = I1 := congrArg (fun (y : Int32 × Iv × Jv) => y.2.1) e1
    rw [← x1]
    refine sg_row h (fun b hb => ?_)
    unfold E4 at hb
    rw [wI_row (by omega), f1.1 b (by omega) (by omega) (by omega)]
theorem cs_box {v1 v2 : Int32} {I I1 I2 : Iv} {J J1 J2 : Jv} (hp : CP I) (h : CS I) (e1 : fn_X9_box I J = (v1, I1, J1)) (e2 : fn_X10_box I1 J1 = (v2, I2, J2)) : CS I2 := by
  have a := fr4_fn_X9_box I kI4_rfl J
  rw [e1] at a
  have d := fr5_fn_X10_box I1 J1 kI5_rfl
  rw [e2] at d
  exact cs_rb ⟨sg_box hp h.1 e1, gq_c h.2 a⟩ d
theorem cs_day {v1 v2 : Int32} {I I1 I2 : Iv} {J J1 J2 : Jv} (hp : CP I) (h : CS I) (e1 : fn_X9_day I J = (v1, I1, J1)) (e2 : fn_X10_day I1 J1 = (v2, I2, J2)) : CS I2 := by
  have a := fr4_fn_X9_day I kI4_rfl J
  rw [e1] at a
  have d := fr5_fn_X10_day I1 J1 kI5_rfl
  rw [e2] at d
  exact cs_rb ⟨sg_day hp h.1 e1, gq_c h.2 a⟩ d
theorem cs_seen {w v e v1 v2 : Int32} {I I1 I2 : Iv} {J J1 J2 : Jv} (h : CS I) (e1 : fn_X9_seen w v e I J = (v1, I1, J1)) (e2 : fn_X10_seen w v e I1 J1 = (v2, I2, J2)) : CS I2 := by
  unfold fn_X9_seen at e1
  unfold fn_X10_seen at e2
  rw [isSign9, b_n3_mk] at e1
  rw [isSign10, b_n3_mk] at e2
  by_cases hw : 0 ≤ w ∧ w ≤ 6
  rotate_left
  · rw [decide_eq_false hw, if_pos (show b3 false = 0 from rfl)] at e1 e2
    cases e1; cases e2; exact h
  rw [decide_eq_true hw, if_neg (show ¬ b3 true = 0 by decide)] at e1 e2
  rw [fX10_in3 v (-99999) 99999 (-99999) 99999 (by decide) (by decide), b_n3_mk] at e2
  by_cases hv : -99999 ≤ v ∧ v ≤ 99999
  rotate_left
  · have e1' : ((-1000000002, I, J) : Int32 × Iv × Jv) = (v1, I1, J1) := by
      by_cases q1 : v < -99999
      · rw [if_pos q1] at e1; exact e1
      · rw [if_neg q1, if_pos (Int32.not_le.mp (fun z => hv ⟨Int32.not_lt.mp q1, z⟩))] at e1; exact e1
    rw [decide_eq_false hv, if_pos (show b3 false = 0 from rfl)] at e2
    cases e1'; cases e2; exact h
  rw [if_neg (Int32.not_lt.mpr hv.1), if_neg (Int32.not_lt.mpr hv.2)] at e1
  rw [decide_eq_true hv, if_neg (show ¬ b3 true = 0 by decide), fX10_in3 e 1 999 1 999 (by decide) (by decide), b_n3_mk] at e2
  by_cases he : 1 ≤ e ∧ e ≤ 999
  rotate_left
  · have e1' : ((-1000000002, I, J) : Int32 × Iv × Jv) = (v1, I1, J1) := by
      by_cases q1 : e < 1
      · rw [if_pos q1] at e1; exact e1
      · rw [if_neg q1, if_neg (fun z => he ⟨Int32.not_lt.mp q1, z⟩)] at e1; exact e1
    rw [decide_eq_false he, if_pos (show b3 false = 0 from rfl)] at e2
    cases e1'; cases e2; exact h
  rw [if_neg (Int32.not_lt.mpr he.1), if_pos he.2, l_t, l_t, l_t] at e1
  rw [decide_eq_true he, if_neg (show ¬ b3 true = 0 by decide), l_t, l_t, l_t] at e2
  obtain ⟨k, hk, rfl⟩ := sgn_n hw
  rw [n3_tn (by omega)] at e1 e2
  generalize fn_X2_howManySeen _ _ = q1 at e1
  obtain ⟨r1, i1, j1⟩ := q1
  rw [b_n3_mk] at e1
  generalize fn_X10_seens _ _ = q2 at e2
  obtain ⟨r2, i2, j2⟩ := q2
  rw [b_n3_mk] at e2
  have x1 : wI (wI (wI I 58 k 1) 59 k v) 60 k e = I1 := congrArg (fun (y : Int32 × Iv × Jv) => y.2.1) e1
  have x2 : wI (wI (wI I1 91 k 1) 92 k v) 93 k e = I2 := congrArg (fun (y : Int32 × Iv × Jv) => y.2.1) e2
  have r : ∀ b, b ≠ 58 → b ≠ 59 → b ≠ 60 → b ≠ 91 → b ≠ 92 → b ≠ 93 → I2 b = I b := fun b h1 h2 h3 h4 h5 h6 => by
    rw [← x2, ← x1, wI_row h6, wI_row h5, wI_row h4, wI_row h3, wI_row h2, wI_row h1]
  have q : ∀ j, j ≠ k → (∀ b, I2 b j = I b j) := fun j hj b => by
    rw [← x2, ← x1, wI_ne (Or.inr hj), wI_ne (Or.inr hj), wI_ne (Or.inr hj), wI_ne (Or.inr hj), wI_ne (Or.inr hj), wI_ne (Or.inr hj)]
  refine ⟨sg_row h.1 (fun b hb => ?_), fun j hj => ?_⟩
  · unfold E4 at hb
    exact r b (by omega) (by omega) (by omega) (by omega) (by omega) (by omega)
  · have g := h.2 j hj
    unfold GQk PV at g ⊢
    rw [r 61 (by decide) (by decide) (by decide) (by decide) (by decide) (by decide), r 62 (by decide) (by decide) (by decide) (by decide) (by decide) (by decide), r 95 (by decide) (by decide) (by decide) (by decide) (by decide) (by decide), r 94 (by decide) (by decide) (by decide) (by decide) (by decide) (by decide), r 78 (by decide) (by decide) (by decide) (by decide) (by decide) (by decide)]
    by_cases z : j = k
    · subst z
      have c58 : I2 58 j = 1 := by rw [← x2, ← x1, wI_row (by decide), wI_row (by decide), wI_row (by decide), wI_row (by decide), wI_row (by decide), wI_self]
      have c59 : I2 59 j = v := by rw [← x2, ← x1, wI_row (by decide), wI_row (by decide), wI_row (by decide), wI_row (by decide), wI_self]
      have c60 : I2 60 j = e := by rw [← x2, ← x1, wI_row (by decide), wI_row (by decide), wI_row (by decide), wI_self]
      have c91 : I2 91 j = 1 := by rw [← x2, wI_row (by decide), wI_row (by decide), wI_self]
      have c92 : I2 92 j = v := by rw [← x2, wI_row (by decide), wI_self]
      have c93 : I2 93 j = e := by rw [← x2, wI_self]
      rw [c58, c59, c60, c91, c92, c93]
      have v1 := Int32.le_iff_toInt_le.mp hv.1
      have v2 := Int32.le_iff_toInt_le.mp hv.2
      have w1 := Int32.le_iff_toInt_le.mp he.1
      have w2 := Int32.le_iff_toInt_le.mp he.2
      rw [show (-99999 : Int32).toInt = -99999 by decide] at v1
      rw [show (99999 : Int32).toInt = 99999 by decide] at v2
      rw [show (1 : Int32).toInt = 1 by decide] at w1
      rw [show (999 : Int32).toInt = 999 by decide] at w2
      exact ⟨rfl, fun _ => ⟨rfl, rfl, ⟨v1, v2⟩, w1, w2⟩, g.2.2⟩
    · rw [q j z 58, q j z 59, q j z 60, q j z 91, q j z 92, q j z 93]
      exact g
theorem zf9 {J : Jv} : ∀ (f k fu : Nat) (I : Iv), k + f = 7 → f < fu → ∃ I' : Iv, (∀ K : Int32 → Iv → Int32 × Iv × Jv, fl_X9_forget_10_0 J K fu (n3 k) I = K 7 I') ∧ (∀ b, b ≠ 58 → I' b = I b) ∧ ∀ t, I' 58 t = (if k ≤ t ∧ t < 7 then 0 else I 58 t)
  | f, k, 0, _, _, h => absurd h (Nat.not_lt_zero _)
  | 0, k, fu + 1, I, hk, _ => ⟨I, fun K => by
      rw [fl_X9_forget_10_0.eq_2, if_pos (by rw [show (7 : Int32) = n3 7 from rfl, n3_le (by omega) (by omega)]; omega), show k = 7 by omega]; rfl, fun _ _ => rfl, fun t => by rw [if_neg (by omega)]⟩
  | f + 1, k, fu + 1, I, hk, hf => by
    obtain ⟨I', e, r1, r2⟩ := zf9 (J := J) f (k + 1) fu (wI I 58 k 0) (by omega) (by omega)
    refine ⟨I', fun K => ?_, fun b h => by rw [r1 b h, wI_row h], fun t => ?_⟩
    · rw [fl_X9_forget_10_0.eq_2, if_neg (by rw [show (7 : Int32) = n3 7 from rfl, n3_le (by omega) (by omega)]; omega), n3_tn (by omega), l_t, n3_up]
      exact e K
    · rw [r2 t]
      by_cases q : t = k
      · rw [q, if_neg (by omega), if_pos (by omega), wI_self]
      · rw [wI_ne (Or.inr q)]
        by_cases q2 : k + 1 ≤ t ∧ t < 7
        · rw [if_pos q2, if_pos (by omega)]
        · rw [if_neg q2, if_neg (by omega)]
theorem zf10 {J : Jv} : ∀ (f k fu : Nat) (I : Iv), k + f = 7 → f < fu → ∃ I' : Iv, (∀ K : Int32 → Iv → Int32 × Iv × Jv, fl_X10_forget_7_0 J K fu (n3 k) I = K 7 I') ∧ (∀ b, b ≠ 91 → I' b = I b) ∧ ∀ t, I' 91 t = (if k ≤ t ∧ t < 7 then 0 else I 91 t)
  | f, k, 0, _, _, h => absurd h (Nat.not_lt_zero _)
  | 0, k, fu + 1, I, hk, _ => ⟨I, fun K => by
      rw [fl_X10_forget_7_0.eq_2, if_pos (by rw [show (7 : Int32) = n3 7 from rfl, n3_le (by omega) (by omega)]; omega), show k = 7 by omega]; rfl, fun _ _ => rfl, fun t => by rw [if_neg (by omega)]⟩
  | f + 1, k, fu + 1, I, hk, hf => by
    obtain ⟨I', e, r1, r2⟩ := zf10 (J := J) f (k + 1) fu (wI I 91 k 0) (by omega) (by omega)
    refine ⟨I', fun K => ?_, fun b h => by rw [r1 b h, wI_row h], fun t => ?_⟩
    · rw [fl_X10_forget_7_0.eq_2, if_neg (by rw [show (7 : Int32) = n3 7 from rfl, n3_le (by omega) (by omega)]; omega), n3_tn (by omega), l_t, n3_up]
      exact e K
    · rw [r2 t]
      by_cases q : t = k
      · rw [q, if_neg (by omega), if_pos (by omega), wI_self]
      · rw [wI_ne (Or.inr q)]
        by_cases q2 : k + 1 ≤ t ∧ t < 7
        · rw [if_pos q2, if_pos (by omega)]
        · rw [if_neg q2, if_neg (by omega)]
theorem cs_forget {v1 v2 : Int32} {I I1 I2 : Iv} {J J1 J2 : Jv} (h : CS I) (e1 : fn_X9_forget I J = (v1, I1, J1)) (e2 : fn_X10_forget I1 J1 = (v2, I2, J2)) : CS I2 := by
  unfold fn_X9_forget at e1
  unfold fn_X10_forget at e2
  generalize fn_X2_howManySeen I J = q1 at e1
  obtain ⟨r1, i1, j1⟩ := q1
  rw [b_n3_mk] at e1
  generalize fn_X10_seens I1 J1 = q2 at e2
  obtain ⟨r2, i2, j2⟩ := q2
  rw [b_n3_mk] at e2
  obtain ⟨K, f1, f2, f3⟩ := zf9 (J := J) 7 0 (mU (7 : Int32) ((0 : Int32)) + 1) I rfl (by decide)
  have f1' : ∀ K2 : Int32 → Iv → Int32 × Iv × Jv, fl_X9_forget_10_0 J K2 (mU (7 : Int32) ((0 : Int32)) + 1) 0 I = K2 7 K := f1
  rw [f1'] at e1
  have x1 : K = I1 := congrArg (fun (y : Int32 × Iv × Jv) => y.2.1) e1
  rw [x1] at f2 f3
  obtain ⟨L, g1, g2, g3⟩ := zf10 (J := J1) 7 0 (mU (7 : Int32) ((0 : Int32)) + 1) I1 rfl (by decide)
  have g1' : ∀ K2 : Int32 → Iv → Int32 × Iv × Jv, fl_X10_forget_7_0 J1 K2 (mU (7 : Int32) ((0 : Int32)) + 1) 0 I1 = K2 7 L := g1
  rw [g1'] at e2
  have x2 : L = I2 := congrArg (fun (y : Int32 × Iv × Jv) => y.2.1) e2
  rw [x2] at g2 g3
  have r : ∀ b, b ≠ 58 → b ≠ 91 → I2 b = I b := fun b h1 h2 => by rw [g2 b h2, f2 b h1]
  refine ⟨sg_row h.1 (fun b hb => ?_), fun j hj => ?_⟩
  · unfold E4 at hb
    exact r b (by omega) (by omega)
  · have g := h.2 j hj
    have c58 : I2 58 j = 0 := by rw [g2 58 (by decide), f3 j, if_pos ⟨Nat.zero_le _, hj⟩]
    have c91 : I2 91 j = 0 := by rw [g3 j, if_pos ⟨Nat.zero_le _, hj⟩]
    unfold GQk PV at g ⊢
    rw [c58, c91, r 61 (by decide) (by decide), r 62 (by decide) (by decide), r 95 (by decide) (by decide), r 94 (by decide) (by decide), r 78 (by decide) (by decide)]
    exact ⟨rfl, fun z => absurd rfl z, g.2.2⟩
theorem cs_prior {w p v1 v2 : Int32} {I I1 I2 : Iv} {J J1 J2 : Jv} (h : CS I) (e1 : fn_X9_prior w p I J = (v1, I1, J1)) (e2 : fn_X10_prior w p I1 J1 = (v2, I2, J2)) : CS I2 := by
  unfold fn_X9_prior at e1
  unfold fn_X10_prior at e2
  rw [isTr9, b_n3_mk] at e1
  obtain ⟨C, D, eb, n2, q, qk, q81⟩ := begR I1 J1
  have g94 : ∀ k, k < 7 → C 94 k = PV I1 k := fun k hk => by have := beg94 I1 J1 hk; rw [eb] at this; exact this
  have gb : ∀ h1 : GQ I1, GQ C := fun h1 => by have := gq_beg J1 h1; rw [eb] at this; exact this
  have lo : ∀ b, b < 78 → C b = I1 b := fun b hb => q b (by omega) (by omega) (by omega) (by omega)
  rw [eb, b_n2_mk, isTr10, b_n3_mk] at e2
  have stay : (I1 = I) → C = I2 → CS I2 := fun a b => by
    rw [a] at lo gb
    rw [← b]
    exact ⟨sg_lo h.1 lo, gb h.2⟩
  by_cases hw : 0 ≤ w ∧ w ≤ 6
  rotate_left
  · rw [decide_eq_false hw, if_pos (show b3 false = 0 from rfl)] at e1 e2
    exact stay (congrArg (fun (y : Int32 × Iv × Jv) => y.2.1) e1).symm (congrArg (fun (y : Int32 × Iv × Jv) => y.2.1) e2)
  rw [decide_eq_true hw, if_neg (show ¬ b3 true = 0 by decide)] at e1 e2
  rw [fX10_in3 p 0 1000 0 1000 (by decide) (by decide), b_n3_mk] at e2
  by_cases hv : 0 ≤ p ∧ p ≤ 1000
  rotate_left
  · have e1' : ((-1000000002, I, J) : Int32 × Iv × Jv) = (v1, I1, J1) := by
      by_cases q1 : p < 0
      · rw [if_pos q1] at e1; exact e1
      · rw [if_neg q1, if_neg (fun z => hv ⟨Int32.not_lt.mp q1, z⟩)] at e1; exact e1
    rw [decide_eq_false hv, if_pos (show b3 false = 0 from rfl)] at e2
    exact stay (congrArg (fun (y : Int32 × Iv × Jv) => y.2.1) e1').symm (congrArg (fun (y : Int32 × Iv × Jv) => y.2.1) e2)
  rw [if_neg (Int32.not_lt.mpr hv.1), if_pos hv.2, l_t, l_t] at e1
  rw [decide_eq_true hv, if_neg (show ¬ b3 true = 0 by decide), l_t, l_t] at e2
  obtain ⟨k, hk, rfl⟩ := sgn_n hw
  rw [n3_tn (by omega)] at e1 e2
  have x1 : wI I 61 k p = I1 := congrArg (fun (y : Int32 × Iv × Jv) => y.2.1) e1
  have x2 : wI C 94 k p = I2 := congrArg (fun (y : Int32 × Iv × Jv) => y.2.1) e2
  have r : ∀ b, b < 78 → b ≠ 61 → I2 b = I b := fun b h1 h2 => by rw [← x2, wI_row (by omega), lo b h1, ← x1, wI_row h2]
  have r9 : ∀ b, b = 91 ∨ b = 92 ∨ b = 93 ∨ b = 95 → I2 b = I b := fun b hb => by
    rw [← x2, wI_row (by omega), q b (by omega) (by omega) (by omega) (by omega), ← x1, wI_row (by omega)]
  refine ⟨sg_row h.1 (fun b hb => ?_), fun j hj => ?_⟩
  · unfold E4 at hb
    exact r b (by omega) (by omega)
  · have g := h.2 j hj
    have n2' : ¬ I2 78 2 = 0 := by rw [← x2, wI_row (by decide)]; exact n2
    have p2 : PV I2 j = I2 94 j := by unfold PV; rw [if_neg n2']
    unfold GQk at g ⊢
    rw [p2, r 58 (by decide) (by decide), r 59 (by decide) (by decide), r 60 (by decide) (by decide), r 62 (by decide) (by decide), r9 91 (by omega), r9 92 (by omega), r9 93 (by omega), r9 95 (by omega)]
    refine ⟨g.1, g.2.1, ?_, ?_, g.2.2.2.2⟩
    · by_cases z : j = k
      · subst z
        rw [← x2, wI_self, wI_row (by decide), lo 61 (by decide), ← x1, wI_self]
      · rw [← x2, wI_ne (Or.inr z), wI_ne (Or.inr z), lo 61 (by decide), g94 j hj, ← x1, wI_ne (Or.inr z)]
        have e78 : (wI I 61 k p) 78 = I 78 := wI_row (by decide)
        have e94 : (wI I 61 k p) 94 = I 94 := wI_row (by decide)
        show I 61 j = (if (wI I 61 k p) 78 2 = 0 then 100 else (wI I 61 k p) 94 j)
        rw [e78, e94]; exact g.2.2.1
    · by_cases z : j = k
      · subst z
        have a1 := Int32.le_iff_toInt_le.mp hv.1
        have a2 := Int32.le_iff_toInt_le.mp hv.2
        rw [show (0 : Int32).toInt = 0 by decide] at a1
        rw [show (1000 : Int32).toInt = 1000 by decide] at a2
        rw [← x2, wI_row (by decide), lo 61 (by decide), ← x1, wI_self]
        exact ⟨a1, a2⟩
      · rw [← x2, wI_row (by decide), lo 61 (by decide), ← x1, wI_ne (Or.inr z)]
        exact g.2.2.2.1
theorem cs_bother {w p v1 v2 : Int32} {I I1 I2 : Iv} {J J1 J2 : Jv} (h : CS I) (e1 : fn_X9_bother w p I J = (v1, I1, J1)) (e2 : fn_X10_bother w p I1 J1 = (v2, I2, J2)) : CS I2 := by
  unfold fn_X9_bother at e1
  unfold fn_X10_bother at e2
  rw [isSign9, b_n3_mk] at e1
  rw [isSign10, b_n3_mk] at e2
  by_cases hw : 0 ≤ w ∧ w ≤ 6
  rotate_left
  · rw [decide_eq_false hw, if_pos (show b3 false = 0 from rfl)] at e1 e2
    cases e1; cases e2; exact h
  rw [decide_eq_true hw, if_neg (show ¬ b3 true = 0 by decide)] at e1 e2
  rw [fX10_in3 p 0 999 0 999 (by decide) (by decide), b_n3_mk] at e2
  by_cases hv : 0 ≤ p ∧ p ≤ 999
  rotate_left
  · have e1' : ((-1000000002, I, J) : Int32 × Iv × Jv) = (v1, I1, J1) := by
      by_cases q1 : p < 0
      · rw [if_pos q1] at e1; exact e1
      · rw [if_neg q1, if_neg (fun z => hv ⟨Int32.not_lt.mp q1, z⟩)] at e1; exact e1
    rw [decide_eq_false hv, if_pos (show b3 false = 0 from rfl)] at e2
    cases e1'; cases e2; exact h
  rw [if_neg (Int32.not_lt.mpr hv.1), if_pos hv.2, l_t, l_t] at e1
  rw [decide_eq_true hv, if_neg (show ¬ b3 true = 0 by decide), l_t, l_t] at e2
  obtain ⟨k, hk, rfl⟩ := sgn_n hw
  rw [n3_tn (by omega)] at e1 e2
  have x1 : wI I 62 k p = I1 := congrArg (fun (y : Int32 × Iv × Jv) => y.2.1) e1
  have x2 : wI I1 95 k p = I2 := congrArg (fun (y : Int32 × Iv × Jv) => y.2.1) e2
  have r : ∀ b, b ≠ 62 → b ≠ 95 → I2 b = I b := fun b h1 h2 => by rw [← x2, ← x1, wI_row h2, wI_row h1]
  refine ⟨sg_row h.1 (fun b hb => ?_), fun j hj => ?_⟩
  · unfold E4 at hb
    exact r b (by omega) (by omega)
  · have g := h.2 j hj
    unfold GQk PV at g ⊢
    rw [r 58 (by decide) (by decide), r 59 (by decide) (by decide), r 60 (by decide) (by decide), r 61 (by decide) (by decide), r 91 (by decide) (by decide), r 92 (by decide) (by decide), r 93 (by decide) (by decide), r 94 (by decide) (by decide), r 78 (by decide) (by decide)]
    refine ⟨g.1, g.2.1, g.2.2.1, g.2.2.2.1, ?_⟩
    by_cases z : j = k
    · subst z
      rw [← x2, wI_self, wI_row (by decide), ← x1, wI_self]
    · rw [← x2, wI_ne (Or.inr z), wI_ne (Or.inr z), ← x1, wI_ne (Or.inr z), wI_ne (Or.inr z)]
      exact g.2.2.2.2
/-! ===== sign ===== -/
theorem signIs {s m k : Nat} (hs : s < 128) (hm : 1 ≤ m ∧ m ≤ 6) (hk : k < 7) (I : Iv) (J : Jv) : fn_X1_signOf (n3 s) (n3 m) (n3 k) I J = (I 56 ((s * 6 + (m - 1)) * 7 + k), I, J) := by
  have hk' : 0 ≤ n3 k ∧ n3 k ≤ 6 := ⟨by rw [show (0 : Int32) = n3 0 from rfl, n3_le (by omega) (by omega)]; omega, by rw [show (6 : Int32) = n3 6 from rfl, n3_le (by omega) (by omega)]; omega⟩
  unfold fn_X1_signOf
  rw [setIs s hs, b_n3_mk, if_neg (by decide), daysIs m hm, b_n3_mk, if_neg (by decide), isSign9, b_n3_mk, decide_eq_true hk', if_neg (by decide), plc hm.1, b_n3_mk, n3_add, nb_tn (by omega)]
theorem cs_sign {c : Nat} {s n w v1 v2 : Int32} {I I1 I2 : Iv} {J J1 J2 : Jv} (h : CQx c I J) (hs : CS I) (e1 : fn_X9_sign s n w I J = (v1, I1, J1)) (e2 : fn_X10_sign s n w I1 J1 = (v2, I2, J2)) : v1 = v2 := by
  unfold fn_X9_sign at e1
  unfold fn_X10_sign at e2
  rw [isSet9, b_n3_mk] at e1
  by_cases h1 : 0 ≤ s ∧ s ≤ 127
  rotate_left
  · rw [decide_eq_false h1, if_pos (show b3 false = 0 from rfl)] at e1
    exact (cq_ref h e1 (fun C D eb => by rw [eb, b_n2_mk, isSet10, b_n3_mk, decide_eq_false h1, if_pos (show b3 false = 0 from rfl)] at e2; exact e2)).1
  rw [decide_eq_true h1, if_neg (show ¬ b3 true = 0 by decide), isSign9, b_n3_mk] at e1
  by_cases h2 : 0 ≤ w ∧ w ≤ 6
  rotate_left
  · rw [decide_eq_false h2, if_pos (show b3 false = 0 from rfl)] at e1
    exact (cq_ref h e1 (fun C D eb => by rw [eb, b_n2_mk, isSet10, b_n3_mk, decide_eq_true h1, if_neg (show ¬ b3 true = 0 by decide), isSign10, b_n3_mk, decide_eq_false h2, if_pos (show b3 false = 0 from rfl)] at e2; exact e2)).1
  rw [decide_eq_true h2, if_neg (show ¬ b3 true = 0 by decide), days9, b_n3_mk] at e1
  by_cases h3 : 1 ≤ n ∧ n ≤ 6
  rotate_left
  · rw [decide_eq_false h3, if_pos (show b3 false = 0 from rfl)] at e1
    exact (cq_ref h e1 (fun C D eb => by rw [eb, b_n2_mk, isSet10, b_n3_mk, decide_eq_true h1, if_neg (show ¬ b3 true = 0 by decide), isSign10, b_n3_mk, decide_eq_true h2, if_neg (show ¬ b3 true = 0 by decide), days10, b_n3_mk, decide_eq_false h3, if_pos (show b3 false = 0 from rfl)] at e2; exact e2)).1
  obtain ⟨a, ha, rfl⟩ := set_n h1
  obtain ⟨k, hk, rfl⟩ := sgn_n h2
  obtain ⟨m, hm, rfl⟩ := days_n h3
  obtain ⟨I', J', l1, l2, l3, l4, l5, -⟩ := learnC I J ha hm h.2.1 hs.1
  rw [decide_eq_true h3, if_neg (show ¬ b3 true = 0 by decide), l1, b_n2_mk, signIs ha hm hk, b_n3_mk] at e1
  cases e1
  obtain ⟨C, D, eb, n2, lo, lj, q⟩ := cq_open (I1 := I1) (J1 := J1) h (fun b hb => l4 b (by omega) (by omega)) (l5 79 (by omega) (by omega) (by omega))
  have hE : ENv I1 C := env_row q.2.1 (fun b hb => l4 b (by omega) (by omega)) rfl (fun _ _ => rfl) rfl rfl
  obtain ⟨A', f1, f2, f3⟩ := findR (s := a) C D hm
  rw [eb, b_n2_mk, isSet10, b_n3_mk, decide_eq_true h1, if_neg (show ¬ b3 true = 0 by decide), isSign10, b_n3_mk, decide_eq_true h2, if_neg (show ¬ b3 true = 0 by decide), days10, b_n3_mk, decide_eq_true h3, if_neg (show ¬ b3 true = 0 by decide), f1, b_n2_mk, n3_tn (by omega), f3 k hk] at e2
  cases e2
  exact (l2 a m ha hm.1 hm.2 l3 k hk).1 C D hE
theorem cs_0 {I : Iv} {J : Jv} (r55 : ∀ k, 0 ≤ k → I 55 k = 0) (r58 : ∀ k, k < 7 → I 58 k = 0) (r61 : ∀ k, k < 7 → I 61 k = 100) (r62 : ∀ k, k < 7 → I 62 k = 0) (m1 : ∀ b, 78 < b → b < 99 → ∀ k, I b k = 0 ∧ J b k = 0) (m2 : ∀ k, k ≠ 16 → I 78 k = 0) : CS I := by
  refine ⟨sg_none (fun s _ => r55 s (Nat.zero_le _)), fun k hk => ?_⟩
  unfold GQk PV
  rw [r58 k hk, r61 k hk, r62 k hk, (m1 91 (by omega) (by omega) k).1, (m1 95 (by omega) (by omega) k).1, m2 2 (by decide), if_pos rfl]
  exact ⟨rfl, fun z => absurd rfl z, rfl, ⟨by decide, by decide⟩, rfl⟩
