/-! ===== the reference's late beginning ===== -/
def nu0 (j : Nat) : Int32 := ((stI.getD 0 default).2).getD j 0
theorem z14R {J : Jv} : ∀ (f k fu : Nat) (I : Iv), k + f = 15 → f < fu → ∃ I' : Iv, (∀ K : Int32 → Iv → Iv × Jv, fl_X10_begin_14_0 J K fu (n3 k) I = K 15 I') ∧ (∀ b, b ≠ 81 → I' b = I b) ∧ ∀ j, I' 81 j = (if k ≤ j ∧ j < 15 then nu0 j else I 81 j)
  | f, k, 0, _, _, h => absurd h (Nat.not_lt_zero _)
  | 0, k, fu + 1, I, hk, _ => ⟨I, fun K => by
      rw [fl_X10_begin_14_0.eq_2, if_pos (by rw [show (15 : Int32) = n3 15 from rfl, n3_le (by omega) (by omega)]; omega), show k = 15 by omega]; rfl, fun _ _ => rfl, fun j => by rw [if_neg (by omega)]⟩
  | f + 1, k, fu + 1, I, hk, hf => by
    obtain ⟨I', e, r1, r2⟩ := z14R (J := J) f (k + 1) fu (wI I 81 k (nu0 k)) (by omega) (by omega)
    refine ⟨I', fun K => ?_, fun b hb => by rw [r1 b hb, wI_row hb], fun j => ?_⟩
    · rw [fl_X10_begin_14_0.eq_2, if_neg (by rw [show (15 : Int32) = n3 15 from rfl, n3_le (by omega) (by omega)]; omega), untold_eq (by omega), b_n3_mk, n3_tn (by omega), l_t, n3_up]
      exact e K
    · rw [r2 j]
      by_cases q : j = k
      · rw [q, if_neg (by omega), if_pos (by omega), wI_self]
      · rw [wI_ne (Or.inr q)]
        by_cases q2 : k + 1 ≤ j ∧ j < 15
        · rw [if_pos q2, if_pos (by omega)]
        · rw [if_neg q2, if_neg (by omega)]
theorem z51R {J : Jv} : ∀ (f k fu : Nat) (I : Iv), k + f = 7 → f < fu → ∃ I' : Iv, (∀ K : Int32 → Iv → Iv × Jv, fl_X10_begin_51_1 J K fu (n3 k) I = K 7 I') ∧ ∀ b, b ≠ 94 → b ≠ 98 → I' b = I b
  | f, k, 0, _, _, h => absurd h (Nat.not_lt_zero _)
  | 0, k, fu + 1, I, hk, _ => ⟨I, fun K => by
      rw [fl_X10_begin_51_1.eq_2, if_pos (by rw [show (7 : Int32) = n3 7 from rfl, n3_le (by omega) (by omega)]; omega), show k = 7 by omega]; rfl, fun _ _ _ => rfl⟩
  | f + 1, k, fu + 1, I, hk, hf => by
    obtain ⟨I', e, r1⟩ := z51R (J := J) f (k + 1) fu (wI (wI I 94 k 100) 98 k 50) (by omega) (by omega)
    refine ⟨I', fun K => ?_, fun b h4 h8 => by rw [r1 b h4 h8, wI_row h8, wI_row h4]⟩
    rw [fl_X10_begin_51_1.eq_2, if_neg (by rw [show (7 : Int32) = n3 7 from rfl, n3_le (by omega) (by omega)]; omega), n3_tn (by omega), l_t, l_t, n3_up]
    exact e K
theorem begR (I : Iv) (J : Jv) : ∃ (I' : Iv) (J' : Jv), fn_X10_begin I J = (I', J') ∧ ¬ I' 78 2 = 0 ∧ (∀ b, b ≠ 78 → b ≠ 81 → b ≠ 94 → b ≠ 98 → I' b = I b) ∧ (∀ k, k ≠ 2 → k ≠ 30 → k ≠ 31 → I' 78 k = I 78 k) ∧ ∀ j, j < 15 → I' 81 j = (if I 78 2 = 0 then nu0 j else I 81 j) := by
  unfold fn_X10_begin
  by_cases h : I 78 2 = 0
  · obtain ⟨I1, e1, r1, z1⟩ := z14R (J := J) 15 0 (mU (15 : Int32) ((0 : Int32)) + 1) (wI I 78 2 1) rfl (by decide)
    have e1' : ∀ K : Int32 → Iv → Iv × Jv, fl_X10_begin_14_0 J K (mU (15 : Int32) ((0 : Int32)) + 1) 0 (wI I 78 2 1) = K 15 I1 := e1
    obtain ⟨I2, e2, r2⟩ := z51R (J := (fn_X10_freshen 0 I1 (wJ J 79 69 1)).2) 7 0 (mU (7 : Int32) ((0 : Int32)) + 1) I1 rfl (by decide)
    have e2' : ∀ K : Int32 → Iv → Iv × Jv, fl_X10_begin_51_1 (fn_X10_freshen 0 I1 (wJ J 79 69 1)).2 K (mU (7 : Int32) ((0 : Int32)) + 1) 0 I1 = K 7 I2 := e2
    rw [if_pos h, l_t, e1', l_t, b_n2, e2', l_t, l_t]
    refine ⟨_, _, rfl, ?_, fun b b1 b2 b3 b4 => ?_, fun k k2 k3 k4 => ?_, fun j hj => ?_⟩
    · rw [wI_ne (by omega), wI_ne (by omega), r2 78 (by decide) (by decide), r1 78 (by decide), wI_self]; decide
    · rw [wI_row b1, wI_row b1, r2 b b3 b4, r1 b b2, wI_row b1]
    · rw [wI_ne (Or.inr k4), wI_ne (Or.inr k3), r2 78 (by decide) (by decide), r1 78 (by decide), wI_ne (Or.inr k2)]
    · rw [wI_row (by decide), wI_row (by decide), r2 81 (by decide) (by decide), z1 j, if_pos ⟨Nat.zero_le _, hj⟩, if_pos h]
  · rw [if_neg h]
    exact ⟨I, J, rfl, h, fun _ _ _ _ _ => rfl, fun _ _ _ _ => rfl, fun j _ => by rw [if_neg h]⟩
/-! ===== what the parser's side of both holds alike ===== -/
def B81 (I : Iv) (j : Nat) : Int32 := if I 78 2 = 0 then nu0 j else I 81 j
def CP (I : Iv) : Prop := (I 2 = I 87 ∧ I 1 1 = I 78 11 ∧ I 1 4 = I 78 16) ∧ (∀ j, j < 15 → I 8 j = B81 I j) ∧ (∃ m, m ≤ 12 ∧ I 9 0 = n3 m ∧ I 78 5 = n3 m ∧ ∀ j, j < m → I 10 j = I 83 j ∧ I 11 j = I 84 j) ∧ (∀ k, 0 ≤ I 2 k) ∧ ∃ n, n ≤ 300 ∧ I 1 1 = n3 n
theorem KI.row {I0 I : Iv} (h : KI I0 I) (b : Nat) (hb : ∀ k, S1 b k = true) : I b = I0 b := by funext k; exact h b k (hb k)
theorem cp_ki {I I' : Iv} (h : CP I) (k : KI I I') : CP I' := by
  obtain ⟨⟨h1, h2, h3⟩, h4, ⟨m, m1, m2, m3, m4⟩, h5, h6⟩ := h
  have r2 := k.row 2 (fun _ => rfl)
  have r8 := k.row 8 (fun _ => rfl)
  have r9 := k.row 9 (fun _ => rfl)
  have r10 := k.row 10 (fun _ => rfl)
  have r11 := k.row 11 (fun _ => rfl)
  have r81 := k.row 81 (fun _ => rfl)
  have r83 := k.row 83 (fun _ => rfl)
  have r84 := k.row 84 (fun _ => rfl)
  have r87 := k.row 87 (fun _ => rfl)
  have c11 := k 1 1 rfl
  have c14 := k 1 4 rfl
  have d2 := k 78 2 rfl
  have d5 := k 78 5 rfl
  have d11 := k 78 11 rfl
  have d16 := k 78 16 rfl
  unfold CP B81
  rw [r2, r8, r9, r10, r11, r81, r83, r84, r87, c11, c14, d2, d5, d11, d16]
  exact ⟨⟨h1, h2, h3⟩, h4, ⟨m, m1, m2, m3, m4⟩, h5, h6⟩
theorem cp_beg {I : Iv} (J : Jv) (h : CP I) : CP (fn_X10_begin I J).1 := by
  obtain ⟨⟨h1, h2, h3⟩, h4, ⟨m, m1, m2, m3, m4⟩, h5, h6⟩ := h
  obtain ⟨I1, J1, e, n2, r, rk, r81⟩ := begR I J
  rw [e]
  show CP I1
  unfold CP B81
  rw [r 2 (by decide) (by decide) (by decide) (by decide), r 8 (by decide) (by decide) (by decide) (by decide), r 9 (by decide) (by decide) (by decide) (by decide), r 10 (by decide) (by decide) (by decide) (by decide), r 11 (by decide) (by decide) (by decide) (by decide), r 83 (by decide) (by decide) (by decide) (by decide), r 84 (by decide) (by decide) (by decide) (by decide), r 87 (by decide) (by decide) (by decide) (by decide), r 1 (by decide) (by decide) (by decide) (by decide),
    rk 5 (by decide) (by decide) (by decide), rk 11 (by decide) (by decide) (by decide), rk 16 (by decide) (by decide) (by decide)]
  refine ⟨⟨h1, h2, h3⟩, fun j hj => ?_, ⟨m, m1, m2, m3, m4⟩, h5, h6⟩
  rw [if_neg n2, r81 j hj]
  exact h4 j hj
