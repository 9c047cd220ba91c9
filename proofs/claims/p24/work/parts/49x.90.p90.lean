/-! ===== FRESH, both ===== -/
/-- the row of a block made FRESH -/
def freshR (X : Nat) (g : Nat → Int64) (k : Nat) : Int64 :=
  if X ≤ k ∧ k < X + 80 then (if k = X + 52 ∨ k = X + 69 ∨ k = X + 70 then g k else if k < X + 3 then 10000 else if k = X + 3 then -40000 else if k = X + 53 then (if (g (X + 52)).toBitVec.getLsbD 1 = true then 600 else 0) else if k = X + 67 then 500 else 0) else g k
theorem frR0 {X : Nat} {I : Iv} (hX : X ≤ 240) : ∀ (f k fu : Nat) (J : Jv), k + f = 80 → f < fu → ∃ J' : Jv, (∀ K : Int32 → Jv → Iv × Jv, fl_X10_freshen_35_0 I (n3 X) K fu (n3 k) J = K 80 J') ∧ (∀ r, r ≠ 79 → J' r = J r) ∧ ∀ j, J' 79 j = (if X + k ≤ j ∧ j < X + 80 then 0 else J 79 j)
  | f, k, 0, _, _, h => absurd h (Nat.not_lt_zero _)
  | 0, k, fu + 1, J, hk, _ => ⟨J, fun K => by
      rw [fl_X10_freshen_35_0.eq_2, if_pos (by rw [show (80 : Int32) = n3 80 from rfl, n3_le (by omega) (by omega)]; omega), show k = 80 by omega]; rfl, fun _ _ => rfl, fun j => by rw [if_neg (by omega)]⟩
  | f + 1, k, fu + 1, J, hk, hf => by
    obtain ⟨J', e, r1, r2⟩ := frR0 (I := I) hX f (k + 1) fu (wJ J 79 (X + k) 0) (by omega) (by omega)
    refine ⟨J', fun K => ?_, fun r h => by rw [r1 r h, wJ_row h], fun j => ?_⟩
    · rw [fl_X10_freshen_35_0.eq_2, if_neg (by rw [show (80 : Int32) = n3 80 from rfl, n3_le (by omega) (by omega)]; omega), n3_tn (by omega), n3_tn (by omega), l_t, n3_up]
      exact e K
    · rw [r2 j]
      by_cases q : j = X + k
      · rw [q, if_neg (by omega), if_pos (by omega), wJ_self]
      · rw [wJ_ne (Or.inr q)]
        by_cases q2 : X + (k + 1) ≤ j ∧ j < X + 80
        · rw [if_pos q2, if_pos (by omega)]
        · rw [if_neg q2, if_neg (by omega)]
theorem frR1 {X : Nat} {I : Iv} (hX : X ≤ 240) : ∀ (f k fu : Nat) (J : Jv), k + f = 3 → f < fu → ∃ J' : Jv, (∀ K : Int32 → Jv → Iv × Jv, fl_X10_freshen_93_1 I (n3 X) K fu (n3 k) J = K 3 J') ∧ (∀ r, r ≠ 79 → J' r = J r) ∧ ∀ j, J' 79 j = (if X + k ≤ j ∧ j < X + 3 then 10000 else J 79 j)
  | f, k, 0, _, _, h => absurd h (Nat.not_lt_zero _)
  | 0, k, fu + 1, J, hk, _ => ⟨J, fun K => by
      rw [fl_X10_freshen_93_1.eq_2, if_pos (by rw [show (3 : Int32) = n3 3 from rfl, n3_le (by omega) (by omega)]; omega), show k = 3 by omega]; rfl, fun _ _ => rfl, fun j => by rw [if_neg (by omega)]⟩
  | f + 1, k, fu + 1, J, hk, hf => by
    obtain ⟨J', e, r1, r2⟩ := frR1 (I := I) hX f (k + 1) fu (wJ J 79 (X + k) 10000) (by omega) (by omega)
    refine ⟨J', fun K => ?_, fun r h => by rw [r1 r h, wJ_row h], fun j => ?_⟩
    · rw [fl_X10_freshen_93_1.eq_2, if_neg (by rw [show (3 : Int32) = n3 3 from rfl, n3_le (by omega) (by omega)]; omega), n3_tn (by omega), n3_tn (by omega), l_t, n3_up]
      exact e K
    · rw [r2 j]
      by_cases q : j = X + k
      · rw [q, if_neg (by omega), if_pos (by omega), wJ_self]
      · rw [wJ_ne (Or.inr q)]
        by_cases q2 : X + (k + 1) ≤ j ∧ j < X + 3
        · rw [if_pos q2, if_pos (by omega)]
        · rw [if_neg q2, if_neg (by omega)]
theorem freshenR {X : Nat} (I : Iv) (J : Jv) (hX : X ≤ 240) : ∃ J' : Jv, fn_X10_freshen (n3 X) I J = (I, J') ∧ (∀ r, r ≠ 79 → J' r = J r) ∧ J' 79 = freshR X (J 79) := by
  obtain ⟨J1, e1, a1, a2⟩ := frR0 (I := I) hX 80 0 (mU (80 : Int32) ((0 : Int32)) + 1) J rfl (by decide)
  have e1' : ∀ K : Int32 → Jv → Iv × Jv, fl_X10_freshen_35_0 I (n3 X) K (mU (80 : Int32) ((0 : Int32)) + 1) 0 J = K 80 J1 := e1
  obtain ⟨J2, e2, b1, b2⟩ := frR1 (I := I) hX 3 0 (mU (3 : Int32) ((0 : Int32)) + 1) (wJ (wJ (wJ J1 79 (X + 52) (J 79 (X + 52))) 79 (X + 69) (J 79 (X + 69))) 79 (X + 70) (J 79 (X + 70))) rfl (by decide)
  have e2' : ∀ K : Int32 → Jv → Iv × Jv, fl_X10_freshen_93_1 I (n3 X) K (mU (3 : Int32) ((0 : Int32)) + 1) 0 (wJ (wJ (wJ J1 79 (X + 52) (J 79 (X + 52))) 79 (X + 69) (J 79 (X + 69))) 79 (X + 70) (J 79 (X + 70))) = K 3 J2 := e2
  unfold fn_X10_freshen
  rw [n3_tn (show X ≤ 1000 by omega), l_t, l_t, l_t, e1', l_t, l_t, l_t, e2', l_t, show (1 : Int32) = n3 1 from rfl, fX10_has _ (by omega), b_n3_mk, j_ite6, ite_b06, l_t, l_t]
  refine ⟨_, rfl, fun r h => by rw [wJ_row h, wJ_row h, wJ_row h, b1 r h, wJ_row h, wJ_row h, wJ_row h, a1 r h], ?_⟩
  funext k
  unfold freshR
  by_cases k67 : k = X + 67
  · subst k67
    rw [wJ_self, if_pos (by omega), if_neg (by omega), if_neg (by omega), if_neg (by omega), if_neg (by omega), if_pos rfl]
  · rw [wJ_ne (Or.inr k67)]
    by_cases k53 : k = X + 53
    · subst k53
      rw [wJ_self, if_pos (show X ≤ X + 53 ∧ X + 53 < X + 80 by omega), if_neg (show ¬ (X + 53 = X + 52 ∨ X + 53 = X + 69 ∨ X + 53 = X + 70) by omega), if_neg (show ¬ X + 53 < X + 3 by omega), if_neg (show ¬ X + 53 = X + 3 by omega), if_pos (show X + 53 = X + 53 from rfl)]
    · rw [wJ_ne (Or.inr k53)]
      by_cases k3 : k = X + 3
      · subst k3
        rw [wJ_self, if_pos (by omega), if_neg (by omega), if_neg (by omega), if_pos rfl]
      · rw [wJ_ne (Or.inr k3), b2 k]
        by_cases kl : X + 0 ≤ k ∧ k < X + 3
        · rw [if_pos kl, if_pos (by omega), if_neg (by omega), if_pos (by omega)]
        · rw [if_neg kl]
          by_cases k70 : k = X + 70
          · subst k70
            rw [wJ_self, if_pos (by omega), if_pos (by omega)]
          · rw [wJ_ne (Or.inr k70)]
            by_cases k69 : k = X + 69
            · subst k69
              rw [wJ_self, if_pos (by omega), if_pos (by omega)]
            · rw [wJ_ne (Or.inr k69)]
              by_cases k52 : k = X + 52
              · subst k52
                rw [wJ_self, if_pos (by omega), if_pos (by omega)]
              · rw [wJ_ne (Or.inr k52), a2 k]
                by_cases ki : X ≤ k ∧ k < X + 80
                · rw [if_pos (by omega), if_pos ki, if_neg (by omega), if_neg (by omega), if_neg k3, if_neg k53, if_neg k67]
                · rw [if_neg (by omega), if_neg ki]
/-- the class's -/
theorem frC0 {o : Nat} (ho : 15 < o) : ∀ (f k fu : Nat) (I : Iv) (J : Jv), k + f = 3 → f < fu → ∃ (I' : Iv) (J' : Jv), (∀ K : Int32 → Iv → Jv → Iv × Jv, fl_X6_becomeFresh_2_0 o K fu (n3 k) I J = K 3 I' J') ∧ (∀ b, b ≠ o + 2 → I' b = I b) ∧ (∀ r, r ≠ o + 1 → J' r = J r) ∧ (∀ j, I' (o + 2) j = (if k ≤ j ∧ j < 3 then 20 else I (o + 2) j)) ∧ ∀ j, J' (o + 1) j = (if k ≤ j ∧ j < 3 then 10000 else J (o + 1) j)
  | f, k, 0, _, _, _, h => absurd h (Nat.not_lt_zero _)
  | 0, k, fu + 1, I, J, hk, _ => ⟨I, J, fun K => by
      rw [fl_X6_becomeFresh_2_0.eq_2, if_pos (by rw [show (3 : Int32) = n3 3 from rfl, n3_le (by omega) (by omega)]; omega), show k = 3 by omega]; rfl, fun _ _ => rfl, fun _ _ => rfl, fun j => by rw [if_neg (by omega)], fun j => by rw [if_neg (by omega)]⟩
  | f + 1, k, fu + 1, I, J, hk, hf => by
    obtain ⟨I', J', e, r1, r2, r3, r4⟩ := frC0 ho f (k + 1) fu (wI I (o + 2) k 20) (wJ J (o + 1) k 10000) (by omega) (by omega)
    refine ⟨I', J', fun K => ?_, fun b h => by rw [r1 b h, wI_row h], fun r h => by rw [r2 r h, wJ_row h], fun j => ?_, fun j => ?_⟩
    · rw [fl_X6_becomeFresh_2_0.eq_2, if_neg (by rw [show (3 : Int32) = n3 3 from rfl, n3_le (by omega) (by omega)]; omega), n3_tn (by omega), l_t, l_t, n3_up]
      exact e K
    · rw [r3 j]
      by_cases q : j = k
      · rw [q, if_neg (by omega), if_pos (by omega), wI_self]
      · rw [wI_ne (Or.inr q)]
        by_cases q2 : k + 1 ≤ j ∧ j < 3
        · rw [if_pos q2, if_pos (by omega)]
        · rw [if_neg q2, if_neg (by omega)]
    · rw [r4 j]
      by_cases q : j = k
      · rw [q, if_neg (by omega), if_pos (by omega), wJ_self]
      · rw [wJ_ne (Or.inr q)]
        by_cases q2 : k + 1 ≤ j ∧ j < 3
        · rw [if_pos q2, if_pos (by omega)]
        · rw [if_neg q2, if_neg (by omega)]
theorem frC1 {o : Nat} (ho : 15 < o) : ∀ (f k fu : Nat) (I : Iv) (J : Jv), k + f = 8 → f < fu → ∃ (I' : Iv) (J' : Jv), (∀ K : Int32 → Iv → Jv → Iv × Jv, fl_X6_becomeFresh_49_1 o K fu (n3 k) I J = K 8 I' J') ∧ (∀ b, b ≠ o + 3 → I' b = I b) ∧ (∀ r, r ≠ o + 1 → J' r = J r) ∧ (∀ j, I' (o + 3) j = (if k ≤ j ∧ j < 8 then 0 else I (o + 3) j)) ∧ ∀ j, J' (o + 1) j = (if 4 + k ≤ j ∧ j < 12 then 0 else J (o + 1) j)
  | f, k, 0, _, _, _, h => absurd h (Nat.not_lt_zero _)
  | 0, k, fu + 1, I, J, hk, _ => ⟨I, J, fun K => by
      rw [fl_X6_becomeFresh_49_1.eq_2, if_pos (by rw [show (8 : Int32) = n3 8 from rfl, n3_le (by omega) (by omega)]; omega), show k = 8 by omega]; rfl, fun _ _ => rfl, fun _ _ => rfl, fun j => by rw [if_neg (by omega)], fun j => by rw [if_neg (by omega)]⟩
  | f + 1, k, fu + 1, I, J, hk, hf => by
    obtain ⟨I', J', e, r1, r2, r3, r4⟩ := frC1 ho f (k + 1) fu (wI I (o + 3) k 0) (wJ J (o + 1) (4 + k) 0) (by omega) (by omega)
    refine ⟨I', J', fun K => ?_, fun b h => by rw [r1 b h, wI_row h], fun r h => by rw [r2 r h, wJ_row h], fun j => ?_, fun j => ?_⟩
    · rw [fl_X6_becomeFresh_49_1.eq_2, if_neg (by rw [show (8 : Int32) = n3 8 from rfl, n3_le (by omega) (by omega)]; omega), n3_tn (by omega), l_t, show (4 : Int32) = n3 4 from rfl, n3_add, n3_tn (by omega), l_t, n3_up]
      exact e K
    · rw [r3 j]
      by_cases q : j = k
      · rw [q, if_neg (by omega), if_pos (by omega), wI_self]
      · rw [wI_ne (Or.inr q)]
        by_cases q2 : k + 1 ≤ j ∧ j < 8
        · rw [if_pos q2, if_pos (by omega)]
        · rw [if_neg q2, if_neg (by omega)]
    · rw [r4 j]
      by_cases q : j = 4 + k
      · rw [q, if_neg (by omega), if_pos (by omega), wJ_self]
      · rw [wJ_ne (Or.inr q)]
        by_cases q2 : 4 + (k + 1) ≤ j ∧ j < 12
        · rw [if_pos q2, if_pos (by omega)]
        · rw [if_neg q2, if_neg (by omega)]
theorem j_iteI {β : Type} {c : Prop} [Decidable c] {a b : Iv} (Kf : Iv → β) : j_n Kf (fun (j : Iv → β) => if c then j a else l_t b (fun (x : Iv) => j x)) = Kf (if c then a else b) := by
  simp only [j_n, l_t]
  by_cases q : c
  · rw [if_pos q, if_pos q]
  · rw [if_neg q, if_neg q]
theorem frshC {o : Nat} (I : Iv) (J : Jv) (ho : 15 < o) (hs : SB (I o 8)) : ∃ (I' : Iv) (J' : Jv), fn_X6_becomeFresh o I J = (I', J') ∧ (∀ b, b ≠ o → b ≠ o + 2 → b ≠ o + 3 → b ≠ o + 8 → I' b = I b) ∧ (∀ r, r ≠ o + 1 → r ≠ o + 7 → J' r = J r) ∧
    (∀ k, k ≠ 9 → k ≠ 10 → k ≠ 11 → I' o k = I o k) ∧ I' o 9 = 500 ∧ I' o 10 = 0 ∧ I' o 11 = 0 ∧ (∀ k, k < 4 → (I' (o + 2) k).toInt = cpC k) ∧ (∀ f, f < 8 → I' (o + 3) f = 0) ∧ (∀ k, k < 8 → I' (o + 8) k = (if k = 5 ∧ bitI (I o 8) 1 = true then 600 else 0)) ∧
    (∀ k, k < 12 → J' (o + 1) k = (if k < 3 then 10000 else if k = 3 then -40000 else 0)) ∧ ∀ j, j < 6 → J' (o + 7) j = 0 := by
  obtain ⟨I1, J1, e1, a1, a2, a3, a4⟩ := frC0 ho 3 0 (mU (3 : Int32) ((0 : Int32)) + 1) I J rfl (by decide)
  have e1' : ∀ K : Int32 → Iv → Jv → Iv × Jv, fl_X6_becomeFresh_2_0 o K (mU (3 : Int32) ((0 : Int32)) + 1) 0 I J = K 3 I1 J1 := e1
  obtain ⟨I2, J2, e2, b1, b2, b4, b5⟩ := frC1 ho 8 0 (mU (8 : Int32) ((0 : Int32)) + 1) (wI I1 (o + 2) 3 40) (wJ J1 (o + 1) 3 (-40000)) rfl (by decide)
  have e2' : ∀ K : Int32 → Iv → Jv → Iv × Jv, fl_X6_becomeFresh_49_1 o K (mU (8 : Int32) ((0 : Int32)) + 1) 0 (wI I1 (o + 2) 3 40) (wJ J1 (o + 1) 3 (-40000)) = K 8 I2 J2 := e2
  have ro : I2 o = I o := by rw [b1 o (by omega), wI_row (by omega), a1 o (by omega)]
  have rc : (cI I2 (o + 8) 8 (fun _ => (0 : Int32))) o = I o := by rw [cI_row (by omega), ro]
  have eh := fX6_has (o := o) (I := cI I2 (o + 8) 8 (fun _ => (0 : Int32))) 2 (bitI (I o 8) 1) (by rw [rc]; exact (sb_bits hs).2.1) (cJ J2 (o + 7) 6 (fun _ => (0 : Int64)))
  unfold fn_X6_becomeFresh
  rw [e1', l_t, l_t, e2', l_t, l_t, l_t, l_t, eh, b_n3_mk, j_iteI, l_t, l_t, l_t]
  have g : ∀ b, b ≠ o + 8 → (if b3 (bitI (I o 8) 1) = 0 then cI I2 (o + 8) 8 (fun _ => (0 : Int32)) else wI (cI I2 (o + 8) 8 (fun _ => (0 : Int32))) (o + 8) 5 600) b = I2 b := by
    intro b hb
    by_cases q : b3 (bitI (I o 8) 1) = 0
    · rw [if_pos q, cI_row hb]
    · rw [if_neg q, wI_row hb, cI_row hb]
  have g8 : ∀ k, k < 8 → (if b3 (bitI (I o 8) 1) = 0 then cI I2 (o + 8) 8 (fun _ => (0 : Int32)) else wI (cI I2 (o + 8) 8 (fun _ => (0 : Int32))) (o + 8) 5 600) (o + 8) k = (if k = 5 ∧ bitI (I o 8) 1 = true then 600 else 0) := by
    intro k hk
    have z : cI I2 (o + 8) 8 (fun _ => (0 : Int32)) (o + 8) k = 0 := by simp only [cI, hk, and_self, if_true]
    by_cases q : bitI (I o 8) 1 = true
    · rw [if_neg (b3_ne.mpr q)]
      by_cases k5 : k = 5
      · subst k5; rw [wI_self, if_pos ⟨rfl, q⟩]
      · rw [wI_ne (Or.inr k5), z, if_neg (fun y => k5 y.1)]
    · rw [if_pos (b3_0.mpr (by simpa using q)), z, if_neg (fun y => q y.2)]
  generalize (if b3 (bitI (I o 8) 1) = 0 then cI I2 (o + 8) 8 (fun _ => (0 : Int32)) else wI (cI I2 (o + 8) 8 (fun _ => (0 : Int32))) (o + 8) 5 600) = I3 at *
  refine ⟨_, _, rfl, fun b h0 h2 h3 h8 => ?_, fun r h1 h7 => ?_, fun k h9 h10 h11 => ?_, ?_, ?_, ?_, fun k hk => ?_, fun f hf => ?_, fun k hk => ?_, fun k hk => ?_, fun j hj => ?_⟩
  · rw [wI_row h0, wI_row h0, wI_row h0, g b h8, b1 b h3, wI_row h2, a1 b h2]
  · rw [cJ_row h7, b2 r h1, wJ_row h1, a2 r h1]
  · rw [wI_ne (Or.inr h11), wI_ne (Or.inr h10), wI_ne (Or.inr h9), g o (by omega), ro]
  · rw [wI_ne (by omega), wI_ne (by omega), wI_self]
  · rw [wI_ne (by omega), wI_self]
  · rw [wI_self]
  · rw [wI_row (by omega), wI_row (by omega), wI_row (by omega), g _ (by omega), b1 _ (by omega)]
    unfold cpC
    by_cases q : k = 3
    · subst q; rw [wI_self, if_pos rfl]; decide
    · rw [wI_ne (Or.inr q), a3 k, if_pos (by omega), if_neg q]; decide
  · rw [wI_row (by omega), wI_row (by omega), wI_row (by omega), g _ (by omega), b4 f, if_pos ⟨Nat.zero_le _, hf⟩]
  · rw [wI_row (by omega), wI_row (by omega), wI_row (by omega), g8 k hk]
  · rw [cJ_row (by omega), b5 k]
    by_cases q : 4 ≤ k
    · rw [if_pos ⟨by omega, hk⟩, if_neg (by omega), if_neg (by omega)]
    · rw [if_neg (by omega)]
      by_cases q3 : k = 3
      · subst q3; rw [wJ_self, if_neg (by decide), if_pos rfl]
      · rw [wJ_ne (Or.inr q3), a4 k, if_pos (by omega), if_pos (by omega)]
  · simp only [cJ, hj, and_self, if_true]
/-- FRESH keeps what both hold -/
theorem st_fresh {N : Int} {o X : Nat} {I I' : Iv} {J' B B' : Jv} (hN : 0 ≤ N) (hs : SB (I o 8)) (h52 : B 79 (X + 52) = (I o 8).toInt64) (hcur : ∃ cur : Bool, I o 12 = b3 cur ∧ B 79 (X + 69) = (b3 cur).toInt64) (h70 : SDm o X I B)
    (c3 : ∀ k, k ≠ 9 → k ≠ 10 → k ≠ 11 → I' o k = I o k) (c4 : I' o 9 = 500) (c5 : I' o 10 = 0) (c6 : I' o 11 = 0) (c7 : ∀ k, k < 4 → (I' (o + 2) k).toInt = cpC k) (c8 : ∀ f, f < 8 → I' (o + 3) f = 0) (c9 : ∀ k, k < 8 → I' (o + 8) k = (if k = 5 ∧ bitI (I o 8) 1 = true then 600 else 0))
    (c10 : ∀ k, k < 12 → J' (o + 1) k = (if k < 3 then 10000 else if k = 3 then -40000 else 0)) (c11 : ∀ j, j < 6 → J' (o + 7) j = 0) (hB : B' 79 = freshR X (B 79)) : STm N o X I' J' B' := by
  have fz : ∀ k, 4 ≤ k → k < 80 → k ≠ 52 → k ≠ 69 → k ≠ 70 → k ≠ 53 → k ≠ 67 → B' 79 (X + k) = 0 := by
    intro k h4 h8 h52' h69 h70' h53 h67
    rw [hB]; unfold freshR
    rw [if_pos (by omega), if_neg (by omega), if_neg (by omega), if_neg (by omega), if_neg (by omega), if_neg (by omega)]
  have t0 : I' (o + 8) 0 = 0 := by rw [c9 0 (by omega), if_neg (fun z => absurd z.1 (by decide))]
  have w0 : wmT (I' (o + 8) 0) = 10000 := by rw [t0]; decide
  have z6 : (0 : Int64).toInt32 = 0 := by decide
  have z3 : (0 : Int32).toInt64 = 0 := by decide
  have e69 : B' 79 (X + 69) = B 79 (X + 69) := by rw [hB]; unfold freshR; rw [if_pos (by omega), if_pos (by omega)]
  have e70 : B' 79 (X + 70) = B 79 (X + 70) := by rw [hB]; unfold freshR; rw [if_pos (by omega), if_pos (by omega)]
  have e52 : B' 79 (X + 52) = B 79 (X + 52) := by rw [hB]; unfold freshR; rw [if_pos (by omega), if_pos (by omega)]
  have e67 : B' 79 (X + 67) = 500 := by rw [hB]; unfold freshR; rw [if_pos (by omega), if_neg (by omega), if_neg (by omega), if_neg (by omega), if_neg (by omega), if_pos rfl]
  have e53 : B' 79 (X + 53) = (if bitI (I o 8) 1 = true then 600 else 0) := by
    rw [hB]; unfold freshR
    rw [if_pos (by omega), if_neg (by omega), if_neg (by omega), if_neg (by omega), if_pos rfl, h52, wide_bit _ (by omega)]
  have c9' : ∀ k, k < 8 → k ≠ 5 → I' (o + 8) k = 0 := fun k h1 h2 => by rw [c9 k h1, if_neg (fun y => h2 y.1)]
  have c95 : I' (o + 8) 5 = (if bitI (I o 8) 1 = true then 600 else 0) := by
    rw [c9 5 (by omega)]
    by_cases q : bitI (I o 8) 1 = true
    · rw [if_pos ⟨rfl, q⟩, if_pos q]
    · rw [if_neg (fun y => q y.2), if_neg q]
  refine ⟨fun k hk => ?_, fun k hk => ?_, fun f hf => Or.inl ⟨c8 f hf, ?_, ?_⟩, fun j h1 h6 => ?_, ⟨?_, ?_⟩, ⟨?_, ?_⟩, ⟨?_, ?_⟩, ⟨?_, ?_, ?_, ?_, ?_, ?_⟩, ⟨false, c5, ?_⟩, ⟨?_, ?_⟩, ⟨false, c6, ?_⟩, ?_, ?_⟩
  · rw [c10 k hk, hB]; unfold freshR
    rw [if_pos (by omega), if_neg (by omega)]
    by_cases q : k < 3
    · rw [if_pos (by omega), if_pos q]
    · rw [if_neg (by omega), if_neg q]
      by_cases q3 : k = 3
      · rw [if_pos (by omega), if_pos q3]
      · rw [if_neg (by omega), if_neg q3, if_neg (by omega), if_neg (by omega)]
  · rw [w0, c10 k (by omega)]
    refine ⟨c7 k hk, ?_⟩
    unfold cpC
    rcases (show k = 0 ∨ k = 1 ∨ k = 2 ∨ k = 3 by omega) with rfl | rfl | rfl | rfl <;> decide
  · rw [show X + 12 + f = X + (12 + f) by omega]
    exact fz _ (by omega) (by omega) (by omega) (by omega) (by omega) (by omega) (by omega)
  · rw [c10 _ (by omega), if_neg (by omega), if_neg (by omega)]
  · rw [c11 j (by omega), show X + 54 + j = X + (54 + j) by omega]
    exact fz _ (by omega) (by omega) (by omega) (by omega) (by omega) (by omega) (by omega)
  · rw [c3 8 (by decide) (by decide) (by decide)]; exact hs
  · rw [c3 8 (by decide) (by decide) (by decide), e52]; exact h52
  · rw [c95]; cases bitI (I o 8) 1 <;> decide
  · rw [e53, c95]; cases bitI (I o 8) 1 <;> decide
  · rw [t0]; exact ⟨by decide, hN⟩
  · rw [t0, fz 54 (by omega) (by omega) (by omega) (by omega) (by omega) (by omega) (by omega), z3]
  · rw [fz 60 (by omega) (by omega) (by omega) (by omega) (by omega) (by omega) (by omega), c9' 4 (by omega) (by omega), z6]
  · rw [fz 61 (by omega) (by omega) (by omega) (by omega) (by omega) (by omega) (by omega), c9' 6 (by omega) (by omega), z6]
  · rw [fz 62 (by omega) (by omega) (by omega) (by omega) (by omega) (by omega) (by omega), c9' 7 (by omega) (by omega), z6]
  · rw [fz 63 (by omega) (by omega) (by omega) (by omega) (by omega) (by omega) (by omega), c9' 1 (by omega) (by omega), z6]
  · rw [fz 64 (by omega) (by omega) (by omega) (by omega) (by omega) (by omega) (by omega), c9' 2 (by omega) (by omega), z6]
  · rw [fz 65 (by omega) (by omega) (by omega) (by omega) (by omega) (by omega) (by omega), c9' 3 (by omega) (by omega), z6]
  · rw [fz 66 (by omega) (by omega) (by omega) (by omega) (by omega) (by omega) (by omega)]; decide
  · rw [e67, c4]; decide
  · rw [c4, w0]; decide
  · rw [fz 68 (by omega) (by omega) (by omega) (by omega) (by omega) (by omega) (by omega)]; decide
  · obtain ⟨cur, h1, h2⟩ := hcur
    exact ⟨cur, by rw [c3 12 (by decide) (by decide) (by decide)]; exact h1, by rw [e69]; exact h2⟩
  · unfold SDm at h70 ⊢
    rw [e70, c3 13 (by decide) (by decide) (by decide)]; exact h70
