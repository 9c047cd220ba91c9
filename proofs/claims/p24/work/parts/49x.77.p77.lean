/-! ===== the class's box and day ===== -/
def boxW (T : Nat → Int32) (n : Nat) : Int32 := if (boxP T n).c.1 = 0 then -1 else n3 (boxP T n).c.2
def dayW (T : Nat → Int32) (n : Nat) : Int32 := if (dayP T n).c.1 = 0 then -1 else n3 (dayP T n).c.2
theorem boxCall {n : Nat} {I : Iv} (J : Jv) (hn : n ≤ 300) (h1 : I 1 1 = n3 n) :
    ∃ (I' : Iv) (J' : Jv), fn_X9_box I J = (boxA (I 2) n, I', J') ∧ I' 1 1 = 0 ∧ I' 1 4 = boxW (I 2) n ∧ ((boxP (I 2) n).c.1 = 0 → ∀ j, j < 15 → I' 8 j = (boxP (I 2) n).nu j) ∧ (¬ (boxP (I 2) n).c.1 = 0 → I' 8 = I 8) ∧
      ∀ b k, S1 b k = true → b ≠ 8 → b ≠ 1 → I' b k = I b k := by
  obtain ⟨I1, e1, s1, f1⟩ := readBoxC J hn h1
  unfold fn_X9_box boxA boxW
  rw [e1, b_n2_mk, l_t]
  generalize boxP (I 2) n = y at *
  obtain ⟨t1, u1, d1, v1⟩ := s1
  have h13 : wI I1 1 1 0 1 3 = y.c.1 := by rw [wI_ne (by omega)]; exact u1.2.1
  have h14 : wI I1 1 1 0 1 4 = (if y.c.1 = 0 then -1 else n3 y.c.2) := by rw [wI_ne (by omega)]; exact u1.2.2.2
  have hS : ∀ b k, S1 b k = true → b ≠ 8 → b ≠ 1 → wI I1 1 1 0 b k = I b k := by
    intro b k hb b8 b1
    rw [wI_row b1, f1.1 b b1 (by rintro rfl; exact absurd (show false = true from hb) (by decide)) (by rintro rfl; exact absurd (show false = true from hb) (by decide))]
  by_cases h0 : y.c.1 = 0
  · obtain ⟨v4, v5⟩ := v1 h0
    rw [if_pos (by rw [h13]; exact h0), if_pos h0, if_pos h0]
    have ec : fn_X0_copyFrom (wI I1 1 1 0) J = (cI (wI I1 1 1 0) 8 15 ((wI I1 1 1 0) 4), J) := by
      unfold fn_X0_copyFrom; rw [if_pos rfl]; rfl
    rw [ec, b_n2_mk]
    have k0 : KI (cI (wI I1 1 1 0) 8 15 ((wI I1 1 1 0) 4)) (cI (wI I1 1 1 0) 8 15 ((wI I1 1 1 0) 4)) := fun _ _ _ => rfl
    have k1 := fr_fn_X6_becomeFresh 16 stA_16 _ k0 J
    generalize fn_X6_becomeFresh 16 (cI (wI I1 1 1 0) 8 15 ((wI I1 1 1 0) 4)) J = q1 at *
    obtain ⟨I2, J2⟩ := q1
    rw [b_n2_mk]
    have k2 := fr_fn_X1_forgetSigns I2 k1 J2
    generalize fn_X1_forgetSigns I2 J2 = q2 at *
    obtain ⟨I3, J3⟩ := q2
    rw [b_n2_mk]
    have k3 : KI (cI (wI I1 1 1 0) 8 15 ((wI I1 1 1 0) 4)) I3 := k2
    have r1 : ∀ k, S1 1 k = true → I3 1 k = wI I1 1 1 0 1 k := fun k hk => by rw [k3 1 k hk, cI_row (by decide)]
    refine ⟨I3, J3, ?_, ?_, ?_, fun _ j hj => ?_, fun z => absurd h0 z, fun b k hb b8 b1 => ?_⟩
    · rw [r1 5 rfl, wI_ne (by omega), v5]
    · rw [r1 1 rfl, wI_self]
    · rw [r1 4 rfl, h14, if_pos h0]
    · rw [k3 8 j rfl]
      simp only [cI, hj, and_self, if_true]
      rw [wI_row (by decide)]; exact v4 j hj
    · rw [k3 b k hb, cI_row b8]; exact hS b k hb b8 b1
  · rw [if_neg (by rw [h13]; exact h0), if_neg h0, if_neg h0, h13]
    refine ⟨wI I1 1 1 0, J, rfl, wI_self, by rw [h14, if_neg h0], fun z => absurd z h0, fun _ => ?_, hS⟩
    rw [wI_row (by decide), f1.1 8 (by decide) (by decide) (by decide)]
theorem z288 {J : Jv} : ∀ (f k fu : Nat) (I : Iv), k + f = 288 → f < fu → ∃ I' : Iv, (∀ K : Int32 → Iv → Iv × Jv, fl_X3_copyFrom_3_0 J K fu (n3 k) I = K 288 I') ∧ ∀ b, b ≠ 12 → I' b = I b
  | f, k, 0, _, _, h => absurd h (Nat.not_lt_zero _)
  | 0, k, fu + 1, I, hk, _ => ⟨I, fun K => by
      rw [fl_X3_copyFrom_3_0.eq_2, if_pos (by rw [show (288 : Int32) = n3 288 from rfl, n3_le (by omega) (by omega)]; omega), show k = 288 by omega]; rfl, fun _ _ => rfl⟩
  | f + 1, k, fu + 1, I, hk, hf => by
    obtain ⟨I', e, r1⟩ := z288 (J := J) f (k + 1) fu (wI I 12 k 0) (by omega) (by omega)
    refine ⟨I', fun K => ?_, fun b h => by rw [r1 b h, wI_row h]⟩
    rw [fl_X3_copyFrom_3_0.eq_2, if_neg (by rw [show (288 : Int32) = n3 288 from rfl, n3_le (by omega) (by omega)]; omega), n3_tn (by omega), l_t, n3_up]
    exact e K
theorem m103 {J : Jv} {x7 : Int32} : ∀ (fu : Nat) (x : Int32) (I : Iv), mU 288 x < fu → ∃ (c : Int32) (I' : Iv), (∀ K : Int32 → Iv → Iv × Jv, fl_X3_copyFrom_103_2 J x7 K fu x I = K c I') ∧ ∀ b, b ≠ 12 → I' b = I b
  | 0, _, _, h => absurd h (Nat.not_lt_zero _)
  | fu + 1, x, I, h => by
    by_cases q1 : I 10 x7.toNatClampNeg + I 11 x7.toNatClampNeg ≤ x
    · exact ⟨x, I, fun K => by rw [fl_X3_copyFrom_103_2.eq_2, if_pos q1], fun _ _ => rfl⟩
    · by_cases q2 : (288 : Int32) ≤ x
      · exact ⟨x, I, fun K => by rw [fl_X3_copyFrom_103_2.eq_2, if_neg q1, if_pos q2], fun _ _ => rfl⟩
      · have q3 : x < 288 := Int32.not_le.mp q2
        have q4 := Int32.lt_iff_toInt_lt.mp q3
        have e288 : (288 : Int32).toInt = 288 := by decide
        have up := i32_up q3
        obtain ⟨c, I', e, r⟩ := m103 (J := J) (x7 := x7) fu (x + 1) (wI I 12 x.toNatClampNeg 1) (by unfold mU at h ⊢; rw [e288] at h q4 ⊢; rw [up]; omega)
        refine ⟨c, I', fun K => ?_, fun b hb => by rw [r b hb, wI_row hb]⟩
        rw [fl_X3_copyFrom_103_2.eq_2, if_neg q1, if_neg q2, l_t, e]
theorem c33 {J : Jv} {m : Nat} (hm : m ≤ 12) : ∀ (f k fu : Nat) (I : Iv), k + f = m → f < fu → I 9 0 = n3 k → ∃ I' : Iv, (∀ K : Int32 → Iv → Iv × Jv, fl_X3_copyFrom_33_1 J (n3 m) K fu (n3 k) I = K (n3 m) I') ∧ (∀ b, b ≠ 9 → b ≠ 10 → b ≠ 11 → b ≠ 12 → I' b = I b) ∧ I' 9 0 = n3 m ∧
      (∀ j, I' 10 j = (if k ≤ j ∧ j < m then I 5 j else I 10 j)) ∧ ∀ j, I' 11 j = (if k ≤ j ∧ j < m then I 6 j else I 11 j)
  | f, k, 0, _, _, h, _ => absurd h (Nat.not_lt_zero _)
  | 0, k, fu + 1, I, hk, _, h9 => ⟨I, fun K => by
      rw [fl_X3_copyFrom_33_1.eq_2, if_pos (by rw [n3_le (by omega) (by omega)]; omega), show k = m by omega], fun _ _ _ _ _ => rfl, by rw [h9, show k = m by omega], fun j => by rw [if_neg (by omega)], fun j => by rw [if_neg (by omega)]⟩
  | f + 1, k, fu + 1, I, hk, hf, h9 => by
    have w : ∀ v : Int32, ∃ (c : Int32) (I' : Iv), (∀ K : Int32 → Iv → Iv × Jv, fl_X3_copyFrom_103_2 J (n3 k) K (mU 288 v + 1) v (wI (wI (wI I 10 k (I 5 k)) 11 k (I 6 k)) 9 0 (n3 (k + 1))) = K c I') ∧ ∀ b, b ≠ 12 → I' b = (wI (wI (wI I 10 k (I 5 k)) 11 k (I 6 k)) 9 0 (n3 (k + 1))) b := fun v => m103 _ v _ (Nat.lt_succ_self _)
    obtain ⟨c, I1, e1, r1⟩ := w (if (wI (wI (wI I 10 k (I 5 k)) 11 k (I 6 k)) 9 0 (n3 (k + 1))) 10 k < (0 : Int32) then (0 : Int32) else (wI (wI (wI I 10 k (I 5 k)) 11 k (I 6 k)) 9 0 (n3 (k + 1))) 10 k)
    obtain ⟨I', e, r2, q9, q10, q11⟩ := c33 (J := J) hm f (k + 1) fu I1 (by omega) (by omega) (by rw [r1 9 (by decide), wI_self])
    have n12 : ¬ (12 : Int32) ≤ n3 k := by rw [show (12 : Int32) = n3 12 from rfl, n3_le (by omega) (by omega)]; omega
    refine ⟨I', fun K => ?_, fun b b1 b2 b3 b4 => ?_, q9, fun j => ?_, fun j => ?_⟩
    · rw [fl_X3_copyFrom_33_1.eq_2, if_neg (by rw [n3_le (by omega) (by omega)]; omega), if_neg n12, if_neg n12, if_neg n12, n3_tn (by omega), l_t, l_t, l_t, l_t, wI_row (show (6 : Nat) ≠ 10 by decide), n3_up, e1, e]
    · rw [r2 b b1 b2 b3 b4, r1 b b4, wI_row b1, wI_row b3, wI_row b2]
    · rw [q10 j, r1 5 (by decide), r1 10 (by decide), wI_row (show (5 : Nat) ≠ 9 by decide), wI_row (show (5 : Nat) ≠ 11 by decide), wI_row (show (5 : Nat) ≠ 10 by decide), wI_row (show (10 : Nat) ≠ 9 by decide), wI_row (show (10 : Nat) ≠ 11 by decide)]
      by_cases q : j = k
      · rw [q, if_neg (by omega), if_pos (by omega), wI_self]
      · rw [wI_ne (Or.inr q)]
        by_cases q2 : k + 1 ≤ j ∧ j < m
        · rw [if_pos q2, if_pos (by omega)]
        · rw [if_neg q2, if_neg (by omega)]
    · rw [q11 j, r1 6 (by decide), r1 11 (by decide), wI_row (show (6 : Nat) ≠ 9 by decide), wI_row (show (6 : Nat) ≠ 11 by decide), wI_row (show (6 : Nat) ≠ 10 by decide), wI_row (show (11 : Nat) ≠ 9 by decide)]
      by_cases q : j = k
      · rw [q, if_neg (by omega), if_pos (by omega), wI_self]
      · rw [wI_ne (Or.inr q), wI_row (show (11 : Nat) ≠ 10 by decide)]
        by_cases q2 : k + 1 ≤ j ∧ j < m
        · rw [if_pos q2, if_pos (by omega)]
        · rw [if_neg q2, if_neg (by omega)]
theorem copyD {m : Nat} {I : Iv} (J : Jv) (hm : m ≤ 12) : ∃ I' : Iv, fn_X3_copyFrom (n3 m) I J = (I', J) ∧ (∀ b, b ≠ 9 → b ≠ 10 → b ≠ 11 → b ≠ 12 → I' b = I b) ∧ I' 9 0 = n3 m ∧ ∀ j, j < m → I' 10 j = I 5 j ∧ I' 11 j = I 6 j := by
  obtain ⟨I1, e1, r1⟩ := z288 (J := J) 288 0 (mU (288 : Int32) ((0 : Int32)) + 1) I rfl (by decide)
  have e1' : ∀ K : Int32 → Iv → Iv × Jv, fl_X3_copyFrom_3_0 J K (mU (288 : Int32) ((0 : Int32)) + 1) 0 I = K 288 I1 := e1
  obtain ⟨I2, e2, r2, q9, q10, q11⟩ := c33 (J := J) hm m 0 (mU (n3 m) 0 + 1) (wI I1 9 0 0) (by omega) (by
    unfold mU; rw [Int32.toInt_ofNat_of_lt (by omega), show (0 : Int32).toInt = 0 by decide]; omega) wI_self
  have e2' : ∀ K : Int32 → Iv → Iv × Jv, fl_X3_copyFrom_33_1 J (n3 m) K (mU (n3 m) 0 + 1) 0 (wI I1 9 0 0) = K (n3 m) I2 := e2
  unfold fn_X3_copyFrom
  rw [e1', l_t, e2']
  refine ⟨I2, rfl, fun b b1 b2 b3 b4 => by rw [r2 b b1 b2 b3 b4, wI_row b1, r1 b b4], q9, fun j hj => ⟨?_, ?_⟩⟩
  · rw [q10 j, if_pos ⟨Nat.zero_le _, hj⟩, wI_row (by decide), r1 5 (by decide)]
  · rw [q11 j, if_pos ⟨Nat.zero_le _, hj⟩, wI_row (by decide), r1 6 (by decide)]
theorem dayCall {n : Nat} {I : Iv} (J : Jv) (hn : n ≤ 300) (h1 : I 1 1 = n3 n) :
    ∃ (I' : Iv) (J' : Jv), fn_X9_day I J = (dayA (I 2) n, I', J') ∧ I' 1 1 = 0 ∧ I' 1 4 = dayW (I 2) n ∧
      ((dayP (I 2) n).c.1 = 0 → (dayP (I 2) n).ct ≤ 12 ∧ I' 9 0 = n3 (dayP (I 2) n).ct ∧ ∀ j, j < (dayP (I 2) n).ct → I' 10 j = (dayP (I 2) n).nu j ∧ I' 11 j = (dayP (I 2) n).nu (20 + j)) ∧
      (¬ (dayP (I 2) n).c.1 = 0 → I' 9 = I 9 ∧ I' 10 = I 10 ∧ I' 11 = I 11) ∧
      ∀ b k, S1 b k = true → b ≠ 1 → b ≠ 9 → b ≠ 10 → b ≠ 11 → b ≠ 12 → I' b k = I b k := by
  obtain ⟨I1, e1, s1, f1⟩ := readDayC J hn h1
  unfold fn_X9_day dayA dayW
  rw [e1, b_n2_mk, l_t]
  generalize dayP (I 2) n = y at *
  obtain ⟨t1, u1, v1⟩ := s1
  have h13 : wI I1 1 1 0 1 3 = y.c.1 := by rw [wI_ne (by omega)]; exact u1.2.1
  have h14 : wI I1 1 1 0 1 4 = (if y.c.1 = 0 then -1 else n3 y.c.2) := by rw [wI_ne (by omega)]; exact u1.2.2.2
  have hS : ∀ b k, S1 b k = true → b ≠ 1 → wI I1 1 1 0 b k = I b k := by
    intro b k hb b1
    rw [wI_row b1, f1.1 b b1 (by rintro rfl; exact absurd (show false = true from hb) (by decide)) (by rintro rfl; exact absurd (show false = true from hb) (by decide))]
  by_cases h0 : y.c.1 = 0
  · obtain ⟨v4, v5, v6⟩ := v1 h0
    rw [if_pos (by rw [h13]; exact h0), if_pos h0, if_pos h0, show wI I1 1 1 0 1 5 = n3 y.ct by rw [wI_ne (by omega)]; exact v5]
    obtain ⟨I2, e2, r2, q9, q10⟩ := copyD (I := wI I1 1 1 0) J v6
    rw [e2, b_n2_mk]
    have k2 := fr_fn_X1_forgetSigns (I0 := I2) I2 (fun _ _ _ => rfl) J
    generalize fn_X1_forgetSigns I2 J = q2 at *
    obtain ⟨I3, J3⟩ := q2
    rw [b_n2_mk]
    have k3 : KI I2 I3 := k2
    have r1 : ∀ k, S1 1 k = true → I3 1 k = wI I1 1 1 0 1 k := fun k hk => by rw [k3 1 k hk, r2 1 (by decide) (by decide) (by decide) (by decide)]
    refine ⟨I3, J3, ?_, ?_, ?_, fun _ => ⟨v6, ?_, fun j hj => ⟨?_, ?_⟩⟩, fun z => absurd h0 z, fun b k hb b1 b9 b10 b11 b12 => ?_⟩
    · rw [r1 5 rfl, wI_ne (by omega), v5]
    · rw [r1 1 rfl, wI_self]
    · rw [r1 4 rfl, h14, if_pos h0]
    · rw [k3 9 0 rfl, q9]
    · rw [k3 10 j rfl, (q10 j hj).1, wI_row (by decide)]; exact (v4 j hj).1
    · rw [k3 11 j rfl, (q10 j hj).2, wI_row (by decide)]; exact (v4 j hj).2
    · rw [k3 b k hb, r2 b b9 b10 b11 b12]; exact hS b k hb b1
  · rw [if_neg (by rw [h13]; exact h0), if_neg h0, if_neg h0, h13]
    refine ⟨wI I1 1 1 0, J, rfl, wI_self, by rw [h14, if_neg h0], fun z => absurd z h0, fun _ => ⟨?_, ?_, ?_⟩, fun b k hb b1 _ _ _ _ => hS b k hb b1⟩
    · rw [wI_row (by decide), f1.1 9 (by decide) (by decide) (by decide)]
    · rw [wI_row (by decide), f1.1 10 (by decide) (by decide) (by decide)]
    · rw [wI_row (by decide), f1.1 11 (by decide) (by decide) (by decide)]
