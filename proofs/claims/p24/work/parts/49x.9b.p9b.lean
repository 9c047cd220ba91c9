/-! ===== IMAGES ===== -/
theorem st_copy {N : Int} {o p X Y : Nat} {I I' : Iv} {J J' B B' : Jv} (h : STm N p X I J B) (hX : X ≠ 80) (h1 : ∀ k, k < 12 → J' (o + 1) k = J (p + 1) k) (h2 : ∀ k, k < 12 → I' (o + 2) k = I (p + 2) k) (h3 : ∀ k, k < 8 → I' (o + 3) k = I (p + 3) k) (h4 : ∀ k, k < 8 → I' (o + 4) k = I (p + 4) k) (h5 : ∀ k, k < 8 → I' (o + 5) k = I (p + 5) k) (h6 : ∀ k, k < 8 → I' (o + 6) k = I (p + 6) k)
    (h7 : ∀ k, k < 6 → J' (o + 7) k = J (p + 7) k) (h8 : ∀ k, k < 8 → I' (o + 8) k = I (p + 8) k) (h0 : ∀ k, 8 ≤ k → k ≤ 13 → I' o k = I p k) (hB : ∀ k, k < 71 → B' 79 (Y + k) = B 79 (X + k)) : STm N o Y I' J' B' := by
  obtain ⟨q1, q2, q3, q4, q5⟩ := h
  refine ⟨fun k hk => by rw [hB k (by omega), h1 k hk]; exact q1 k hk, fun k hk => by rw [h2 k (by omega), h8 0 (by omega), h1 k (by omega)]; exact q2 k hk, fun f hf => ?_, fun j j1 j6 => by rw [show Y + 54 + j = Y + (54 + j) by omega, hB _ (by omega), h7 j j6, show X + (54 + j) = X + 54 + j by omega]; exact q4 j j1 j6, ?_⟩
  · have := q3 f hf
    unfold STf at this ⊢
    rw [show X + 12 + f = X + (12 + f) by omega, show X + 20 + f = X + (20 + f) by omega, show X + 28 + f = X + (28 + f) by omega, show X + 36 + f = X + (36 + f) by omega, show X + 44 + f = X + (44 + f) by omega] at this
    rw [show Y + 12 + f = Y + (12 + f) by omega, show Y + 20 + f = Y + (20 + f) by omega, show Y + 28 + f = Y + (28 + f) by omega, show Y + 36 + f = Y + (36 + f) by omega, show Y + 44 + f = Y + (44 + f) by omega]
    rw [hB _ (by omega), hB _ (by omega), hB _ (by omega), hB _ (by omega), hB _ (by omega), h3 f hf, h4 f hf, h5 f hf, h6 f hf, h2 _ (by omega), h1 _ (by omega), h8 0 (by omega)]; exact this
  · unfold STn SDm at q5 ⊢
    rw [hB 52 (by omega), hB 53 (by omega), hB 54 (by omega), hB 60 (by omega), hB 61 (by omega), hB 62 (by omega), hB 63 (by omega), hB 64 (by omega), hB 65 (by omega), hB 66 (by omega), hB 67 (by omega), hB 68 (by omega), hB 69 (by omega), hB 70 (by omega), h8 0 (by omega), h8 1 (by omega), h8 2 (by omega), h8 3 (by omega), h8 4 (by omega), h8 5 (by omega), h8 6 (by omega), h8 7 (by omega), h0 8 (by omega) (by omega), h0 9 (by omega) (by omega), h0 10 (by omega) (by omega), h0 11 (by omega) (by omega), h0 12 (by omega) (by omega), h0 13 (by omega) (by omega)]
    exact ⟨q5.1, q5.2.1, q5.2.2.1, q5.2.2.2.1, q5.2.2.2.2.1, q5.2.2.2.2.2.1, q5.2.2.2.2.2.2.1, q5.2.2.2.2.2.2.2.1, Or.inr (Or.resolve_left q5.2.2.2.2.2.2.2.2 hX)⟩
theorem cpyR {X Y : Nat} {I : Iv} (hX : X ≤ 240) (hY : Y ≤ 240) (hd : X + 80 ≤ Y ∨ Y + 80 ≤ X) : ∀ (f k fu : Nat) (J : Jv), k + f = 80 → f < fu → ∃ J' : Jv, (∀ K : Int32 → Jv → Iv × Jv, fl_X10_copy_2_0 I (n3 X) (n3 Y) K fu (n3 k) J = K 80 J') ∧ (∀ r, r ≠ 79 → J' r = J r) ∧ (∀ j, j < Y ∨ Y + 80 ≤ j → J' 79 j = J 79 j) ∧ ∀ j, j < 80 → J' 79 (Y + j) = (if k ≤ j then J 79 (X + j) else J 79 (Y + j))
  | f, k, 0, _, _, h => absurd h (Nat.not_lt_zero _)
  | 0, k, fu + 1, J, hk, _ => ⟨J, fun K => by
      rw [fl_X10_copy_2_0.eq_2, if_pos (by rw [show (80 : Int32) = n3 80 from rfl, n3_le (by omega) (by omega)]; omega), show k = 80 by omega]; rfl, fun _ _ => rfl, fun _ _ => rfl, fun j hj => by rw [if_neg (by omega)]⟩
  | f + 1, k, fu + 1, J, hk, hf => by
    obtain ⟨J', e, r1, r2, r3⟩ := cpyR (I := I) hX hY hd f (k + 1) fu (wJ J 79 (Y + k) (J 79 (X + k))) (by omega) (by omega)
    refine ⟨J', fun K => ?_, fun r h => by rw [r1 r h, wJ_row h], fun j hj => by rw [r2 j hj, wJ_ne (by omega)], fun j hj => ?_⟩
    · rw [fl_X10_copy_2_0.eq_2, if_neg (by rw [show (80 : Int32) = n3 80 from rfl, n3_le (by omega) (by omega)]; omega), n3_tn (by omega), n3_tn (by omega), n3_tn (by omega), l_t, n3_up]
      exact e K
    · rw [r3 j hj]
      by_cases q : j = k
      · rw [q, if_neg (by omega), if_pos (by omega), wJ_self]
      · by_cases q2 : k + 1 ≤ j
        · rw [if_pos q2, if_pos (by omega), wJ_ne (by omega)]
        · rw [if_neg q2, if_neg (by omega), wJ_ne (by omega)]
theorem copyR {X Y : Nat} (I : Iv) (J : Jv) (hX : X ≤ 240) (hY : Y ≤ 240) (hd : X + 80 ≤ Y ∨ Y + 80 ≤ X) : ∃ J' : Jv, fn_X10_copy (n3 X) (n3 Y) I J = (I, J') ∧ (∀ r, r ≠ 79 → J' r = J r) ∧ (∀ j, j < Y ∨ Y + 80 ≤ j → J' 79 j = J 79 j) ∧ ∀ j, j < 80 → J' 79 (Y + j) = J 79 (X + j) := by
  obtain ⟨J', e, r1, r2, r3⟩ := cpyR (I := I) hX hY hd 80 0 (mU (80 : Int32) ((0 : Int32)) + 1) J rfl (by decide)
  have e' : ∀ K : Int32 → Jv → Iv × Jv, fl_X10_copy_2_0 I (n3 X) (n3 Y) K (mU (80 : Int32) ((0 : Int32)) + 1) 0 J = K 80 J' := e
  refine ⟨J', ?_, r1, r2, fun j hj => by rw [r3 j hj, if_pos (Nat.zero_le _)]⟩
  unfold fn_X10_copy
  rw [e']
theorem copyC {o p : Nat} (I : Iv) (J : Jv) (ho : o + 9 ≤ p ∨ p + 9 ≤ o) : ∃ (I' : Iv) (J' : Jv), fn_X6_copyFrom o p I J = (I', J') ∧ (∀ b, b < o ∨ o + 8 < b → I' b = I b) ∧ (∀ r, r < o ∨ o + 8 < r → J' r = J r) ∧ (∀ k, k < 12 → J' (o + 1) k = J (p + 1) k) ∧ (∀ k, k < 12 → I' (o + 2) k = I (p + 2) k) ∧ (∀ k, k < 8 → I' (o + 3) k = I (p + 3) k) ∧ (∀ k, k < 8 → I' (o + 4) k = I (p + 4) k) ∧ (∀ k, k < 8 → I' (o + 5) k = I (p + 5) k) ∧ (∀ k, k < 8 → I' (o + 6) k = I (p + 6) k) ∧ (∀ k, k < 6 → J' (o + 7) k = J (p + 7) k) ∧ (∀ k, k < 8 → I' (o + 8) k = I (p + 8) k) ∧ ∀ k, 8 ≤ k → k ≤ 13 → I' o k = I p k := by
  have cs : ∀ (I : Iv) (a n : Nat) (f : Nat → Int32) (k : Nat), k < n → cI I a n f a k = f k := fun I a n f k h => by simp only [cI, h, and_self, if_true]
  have js : ∀ (J : Jv) (a n : Nat) (f : Nat → Int64) (k : Nat), k < n → cJ J a n f a k = f k := fun J a n f k h => by simp only [cJ, h, and_self, if_true]
  unfold fn_X6_copyFrom
  simp only [l_t]
  refine ⟨_, _, rfl, fun b hb => ?_, fun r hr => ?_, fun k hk => ?_, fun k hk => ?_, fun k hk => ?_, fun k hk => ?_, fun k hk => ?_, fun k hk => ?_, fun k hk => ?_, fun k hk => ?_, fun k h8 h13 => ?_⟩
  · rw [wI_row (by omega), wI_row (by omega), wI_row (by omega), wI_row (by omega), wI_row (by omega), wI_row (by omega), cI_row (by omega), cI_row (by omega), cI_row (by omega), cI_row (by omega), cI_row (by omega), cI_row (by omega)]
  · rw [cJ_row (by omega), cJ_row (by omega)]
  · rw [cJ_row (by omega), js _ _ _ _ _ hk]
  · rw [wI_row (by omega), wI_row (by omega), wI_row (by omega), wI_row (by omega), wI_row (by omega), wI_row (by omega), cI_row (by omega), cI_row (by omega), cI_row (by omega), cI_row (by omega), cI_row (by omega), cs _ _ _ _ _ hk]
  · rw [wI_row (by omega), wI_row (by omega), wI_row (by omega), wI_row (by omega), wI_row (by omega), wI_row (by omega), cI_row (by omega), cI_row (by omega), cI_row (by omega), cI_row (by omega), cs _ _ _ _ _ hk, cI_row (by omega)]
  · rw [wI_row (by omega), wI_row (by omega), wI_row (by omega), wI_row (by omega), wI_row (by omega), wI_row (by omega), cI_row (by omega), cI_row (by omega), cI_row (by omega), cs _ _ _ _ _ hk, cI_row (by omega), cI_row (by omega)]
  · rw [wI_row (by omega), wI_row (by omega), wI_row (by omega), wI_row (by omega), wI_row (by omega), wI_row (by omega), cI_row (by omega), cI_row (by omega), cs _ _ _ _ _ hk, cI_row (by omega), cI_row (by omega), cI_row (by omega)]
  · rw [wI_row (by omega), wI_row (by omega), wI_row (by omega), wI_row (by omega), wI_row (by omega), wI_row (by omega), cI_row (by omega), cs _ _ _ _ _ hk, cI_row (by omega), cI_row (by omega), cI_row (by omega), cI_row (by omega)]
  · rw [js _ _ _ _ _ hk, cJ_row (by omega)]
  · rw [wI_row (by omega), wI_row (by omega), wI_row (by omega), wI_row (by omega), wI_row (by omega), wI_row (by omega), cs _ _ _ _ _ hk, cI_row (by omega), cI_row (by omega), cI_row (by omega), cI_row (by omega), cI_row (by omega)]
  · have pr : ∀ (I : Iv) (a n : Nat) (f : Nat → Int32), p ≠ a → cI I a n f p = I p := fun I a n f h => cI_row h
    rcases (show k = 8 ∨ k = 9 ∨ k = 10 ∨ k = 11 ∨ k = 12 ∨ k = 13 by omega) with rfl | rfl | rfl | rfl | rfl | rfl
    · rw [wI_ne (by omega), wI_ne (by omega), wI_ne (by omega), wI_ne (by omega), wI_ne (by omega), wI_self]
      rw [cI_row (by omega), cI_row (by omega), cI_row (by omega), cI_row (by omega), cI_row (by omega), cI_row (by omega)]
    · rw [wI_ne (by omega), wI_ne (by omega), wI_ne (by omega), wI_ne (by omega), wI_self, wI_row (by omega)]
      rw [cI_row (by omega), cI_row (by omega), cI_row (by omega), cI_row (by omega), cI_row (by omega), cI_row (by omega)]
    · rw [wI_ne (by omega), wI_ne (by omega), wI_ne (by omega), wI_self, wI_row (by omega), wI_row (by omega)]
      rw [cI_row (by omega), cI_row (by omega), cI_row (by omega), cI_row (by omega), cI_row (by omega), cI_row (by omega)]
    · rw [wI_ne (by omega), wI_ne (by omega), wI_self, wI_row (by omega), wI_row (by omega), wI_row (by omega)]
      rw [cI_row (by omega), cI_row (by omega), cI_row (by omega), cI_row (by omega), cI_row (by omega), cI_row (by omega)]
    · rw [wI_ne (by omega), wI_self, wI_row (by omega), wI_row (by omega), wI_row (by omega), wI_row (by omega)]
      rw [cI_row (by omega), cI_row (by omega), cI_row (by omega), cI_row (by omega), cI_row (by omega), cI_row (by omega)]
    · rw [wI_self, wI_row (by omega), wI_row (by omega), wI_row (by omega), wI_row (by omega), wI_row (by omega)]
      rw [cI_row (by omega), cI_row (by omega), cI_row (by omega), cI_row (by omega), cI_row (by omega), cI_row (by omega)]
theorem im_01 {i : Int32} (h0 : ¬ i < 0) (h1 : i ≤ 1) : ∃ j : Nat, j < 2 ∧ i = n3 j ∧ iA i = 25 + 9 * j ∧ (160 + 80 * i) = n3 (160 + 80 * j) := by
  have a := Int32.le_iff_toInt_le.mp (Int32.not_lt.mp h0)
  have b := Int32.le_iff_toInt_le.mp h1
  rw [show (0 : Int32).toInt = 0 by decide] at a
  rw [show (1 : Int32).toInt = 1 by decide] at b
  have e := n3_of (Int32.not_lt.mp h0)
  have hj : i.toNatClampNeg < 2 := by show i.toInt.toNat < 2; omega
  generalize i.toNatClampNeg = j at *
  subst e
  refine ⟨j, hj, rfl, ?_, ?_⟩
  · rcases (show j = 0 ∨ j = 1 by omega) with rfl | rfl <;> decide
  · rcases (show j = 0 ∨ j = 1 by omega) with rfl | rfl <;> decide
theorem im_C {i : Int32} (I : Iv) (J : Jv) : ∃ r : Nat, fn_X9_imageOf i I J = (r, I, J) := by
  unfold fn_X9_imageOf
  by_cases q : i = 0
  · rw [if_pos q]; exact ⟨25, rfl⟩
  · rw [if_neg q]; exact ⟨34, rfl⟩
theorem cq_keep {c : Nat} {i v1 v2 : Int32} {I I1 I2 : Iv} {J J1 J2 : Jv} (h : CQx c I J) (e1 : fn_X9_keep i I J = (v1, I1, J1)) (e2 : fn_X10_keep i I1 J1 = (v2, I2, J2)) : v1 = v2 ∧ CQx (c + 1) I2 J2 := by
  unfold fn_X9_keep at e1
  unfold fn_X10_keep at e2
  by_cases h0 : i < 0
  · rw [if_pos h0] at e1
    exact cq_ref h e1 (fun C D eb => by rw [eb, b_n2_mk, fX10_in3 i 0 1 0 1 (by decide) (by decide), b_n3_mk, decide_eq_false (fun z => absurd z.1 (Int32.not_le.mpr h0)), if_pos (show b3 false = 0 from rfl)] at e2; exact e2)
  rw [if_neg h0] at e1
  by_cases h1 : i ≤ 1
  rotate_left
  · rw [if_neg h1] at e1
    exact cq_ref h e1 (fun C D eb => by rw [eb, b_n2_mk, fX10_in3 i 0 1 0 1 (by decide) (by decide), b_n3_mk, decide_eq_false (fun z => h1 z.2), if_pos (show b3 false = 0 from rfl)] at e2; exact e2)
  obtain ⟨j, hj, rfl, ia, ib⟩ := im_01 h0 h1
  obtain ⟨r, er⟩ := im_C (i := n3 j) I J
  obtain ⟨K, L, c1, c2, c3, c4, c5, c6, c7, c8, c9, c10, c11, c12⟩ := copyC (o := 25 + 9 * j) (p := 16) I J (by omega)
  rw [if_pos h1, er, b_n3_mk, ia, c1, b_n2_mk, n3_tn (by omega), l_t] at e1
  cases e1
  obtain ⟨C, D, eb, n2, lo, lj, q⟩ := cq_open (I1 := wI K 43 j 1) (J1 := J1) h (fun b hb => by rw [wI_row (by omega), c2 b (by omega)]) (c3 79 (by omega))
  obtain ⟨D2, g1, g2, g3, g4⟩ := copyR (X := 0) (Y := 160 + 80 * j) C D (by omega) (by omega) (by omega)
  have g1' : fn_X10_copy 0 (n3 (160 + 80 * j)) C D = (C, D2) := g1
  rw [eb, b_n2_mk, fX10_in3 (n3 j) 0 1 0 1 (by decide) (by decide), b_n3_mk, decide_eq_true ⟨Int32.not_lt.mp h0, h1⟩, if_neg (show ¬ b3 true = 0 by decide), ib, g1', b_n2_mk, n3_tn (by omega), l_t] at e2
  cases e2
  refine ⟨rfl, cqx_fin eb (fun b hb => wI_row (by omega)) (fun r hr => g2 r (by omega)) (wI_ne (by omega)) ?_⟩
  obtain ⟨q1, q2, q3⟩ := q.mono
  refine ⟨st_row q1 (fun b h1 h2 => by rw [wI_row (by omega), c2 b (by omega)]) ⟨c3 _ (by omega), c3 _ (by omega)⟩ (fun k hk => g3 _ (by omega)), env_row q2 (fun b hb => by rw [wI_row (by omega), c2 b (by omega)]) (wI_ne (by omega)) (fun k _ => by rw [wI_row (by decide)]) (wI_row (by decide)) (wI_row (by decide)), fun i2 hi2 => ?_⟩
  · by_cases z : i2 = j
    · subst z
      refine ⟨by rw [wI_self, wI_self], fun _ => ?_⟩
      refine st_copy (p := 16) (X := 0) q1 (by decide) c4 (fun k hk => by rw [wI_row (by omega)]; exact c5 k hk) (fun k hk => by rw [wI_row (by omega)]; exact c6 k hk) (fun k hk => by rw [wI_row (by omega)]; exact c7 k hk) (fun k hk => by rw [wI_row (by omega)]; exact c8 k hk) (fun k hk => by rw [wI_row (by omega)]; exact c9 k hk) c10 (fun k hk => by rw [wI_row (by omega)]; exact c11 k hk) (fun k a b => by rw [wI_row (by omega)]; exact c12 k a b) (fun k hk => g4 k (by omega))
    · refine ⟨by rw [wI_ne (Or.inr z), wI_ne (Or.inr z), c2 43 (by omega)]; exact (q3 i2 hi2).1, fun y => ?_⟩
      rw [wI_ne (Or.inr z), c2 43 (by omega)] at y
      exact st_row ((q3 i2 hi2).2 y) (fun b h1 h2 => by rw [wI_row (by omega), c2 b (by omega)]) ⟨c3 _ (by omega), c3 _ (by omega)⟩ (fun k hk => g3 _ (by omega))
theorem cq_goBack {c : Nat} {i v1 v2 : Int32} {I I1 I2 : Iv} {J J1 J2 : Jv} (h : CQx c I J) (e1 : fn_X9_goBack i I J = (v1, I1, J1)) (e2 : fn_X10_goBack i I1 J1 = (v2, I2, J2)) : v1 = v2 ∧ CQx (c + 1) I2 J2 := by
  unfold fn_X9_goBack at e1
  unfold fn_X10_goBack at e2
  by_cases h0 : i < 0
  · rw [if_pos h0] at e1
    exact cq_ref h e1 (fun C D eb => by rw [eb, b_n2_mk, fX10_in3 i 0 1 0 1 (by decide) (by decide), b_n3_mk, decide_eq_false (fun z => absurd z.1 (Int32.not_le.mpr h0)), if_pos (show b3 false = 0 from rfl)] at e2; exact e2)
  rw [if_neg h0] at e1
  by_cases h1 : i ≤ 1
  rotate_left
  · rw [if_neg h1] at e1
    exact cq_ref h e1 (fun C D eb => by rw [eb, b_n2_mk, fX10_in3 i 0 1 0 1 (by decide) (by decide), b_n3_mk, decide_eq_false (fun z => h1 z.2), if_pos (show b3 false = 0 from rfl)] at e2; exact e2)
  obtain ⟨j, hj, rfl, ia, ib⟩ := im_01 h0 h1
  rw [if_pos h1, n3_tn (by omega)] at e1
  by_cases hk : I 43 j = 0
  · rw [if_pos hk] at e1
    cases e1
    obtain ⟨C, D, eb, n2, lo, lj, q⟩ := cq_open (I1 := I) (J1 := J) h (fun _ _ => rfl) rfl
    rw [eb, b_n2_mk, fX10_in3 (n3 j) 0 1 0 1 (by decide) (by decide), b_n3_mk, decide_eq_true ⟨Int32.not_lt.mp h0, h1⟩, if_neg (show ¬ b3 true = 0 by decide), n3_tn (by omega), if_pos (by rw [← (q.2.2 j hj).1]; exact hk)] at e2
    cases e2
    exact ⟨rfl, cq_same eb q⟩
  · obtain ⟨r, er⟩ := im_C (i := n3 j) I J
    obtain ⟨K, L, c1, c2, c3, c4, c5, c6, c7, c8, c9, c10, c11, c12⟩ := copyC (o := 16) (p := 25 + 9 * j) I J (by omega)
    rw [if_neg hk, er, b_n3_mk, ia, c1, b_n2_mk] at e1
    cases e1
    obtain ⟨C, D, eb, n2, lo, lj, q⟩ := cq_open (I1 := I1) (J1 := J1) h (fun b hb => c2 b (by omega)) (c3 79 (by omega))
    obtain ⟨D2, g1, g2, g3, g4⟩ := copyR (X := 160 + 80 * j) (Y := 0) C D (by omega) (by omega) (by omega)
    have g1' : fn_X10_copy (n3 (160 + 80 * j)) 0 C D = (C, D2) := g1
    rw [eb, b_n2_mk, fX10_in3 (n3 j) 0 1 0 1 (by decide) (by decide), b_n3_mk, decide_eq_true ⟨Int32.not_lt.mp h0, h1⟩, if_neg (show ¬ b3 true = 0 by decide), n3_tn (by omega), if_neg (by rw [← (q.2.2 j hj).1]; exact hk), ib, g1', b_n2_mk] at e2
    cases e2
    refine ⟨rfl, cqx_fin eb (fun _ _ => rfl) (fun r hr => g2 r (by omega)) rfl ?_⟩
    refine cq_now q (STm.mono ?_ (up1 c)) (fun b hb => c2 b (by omega)) (fun r h1 h2 => c3 r (by omega)) (fun k hk => g3 k (by omega)) rfl
    exact st_copy (p := 25 + 9 * j) (X := 160 + 80 * j) ((q.2.2 j hj).2 hk) (by omega) c4 c5 c6 c7 c8 c9 c10 c11 c12 (fun k hk => g4 k (by omega))
