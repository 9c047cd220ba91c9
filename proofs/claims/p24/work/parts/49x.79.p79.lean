/-! ===== fault, told, opening ===== -/
theorem cp_q3 {α : Type} {I : Iv} {x : α × Iv × Jv} (h : CP I) (k : Q3 I x) : CP x.2.1 := cp_ki h k
theorem cp_q2 {I : Iv} {x : Iv × Jv} (h : CP I) (k : Q2 I x) : CP x.1 := cp_ki h k
theorem ki_rfl {I : Iv} : KI I I := fun _ _ _ => rfl
theorem cp_fault {v1 v2 : Int32} {I I1 I2 : Iv} {J J1 J2 : Jv} (h : CP I) (e1 : fn_X9_fault I J = (v1, I1, J1)) (e2 : fn_X10_fault I1 J1 = (v2, I2, J2)) : v1 = v2 ∧ CP I2 := by
  unfold fn_X9_fault at e1
  cases e1
  unfold fn_X10_fault at e2
  cases e2
  exact ⟨h.1.2.2, h⟩
theorem b3_c {c : Prop} [Decidable c] : (b3 (decide c) = 0) ↔ ¬ c := by rw [b3_0]; simp
theorem nat15 {x : Int32} (h0 : ¬ x < 0) (h1 : x < 15) : x.toNatClampNeg < 15 := by
  have a := Int32.le_iff_toInt_le.mp (Int32.not_lt.mp h0)
  have b := Int32.lt_iff_toInt_lt.mp h1
  rw [show (0 : Int32).toInt = 0 by decide] at a
  rw [show (15 : Int32).toInt = 15 by decide] at b
  unfold Int32.toNatClampNeg; omega
theorem cp_told {w v1 v2 : Int32} {I I1 I2 : Iv} {J J1 J2 : Jv} (h : CP I) (e1 : fn_X9_told w I J = (v1, I1, J1)) (e2 : fn_X10_told w I1 J1 = (v2, I2, J2)) : v1 = v2 ∧ CP I2 := by
  have hS : I1 = I ∧ J1 = J ∧ v1 = (if w < 0 then -1000000002 else if w < 15 then I 8 w.toNatClampNeg else -1000000002) := by
    unfold fn_X9_told at e1
    by_cases q1 : w < 0
    · rw [if_pos q1] at e1 ⊢; cases e1; exact ⟨rfl, rfl, rfl⟩
    · rw [if_neg q1] at e1 ⊢
      by_cases q2 : w < 15
      · rw [if_pos q2] at e1 ⊢; cases e1; exact ⟨rfl, rfl, rfl⟩
      · rw [if_neg q2] at e1 ⊢; cases e1; exact ⟨rfl, rfl, rfl⟩
  obtain ⟨rfl, rfl, rfl⟩ := hS
  have hb := cp_beg J1 h
  obtain ⟨B, JB, eb, b0, br, bk, b81⟩ := begR I1 J1
  unfold fn_X10_told at e2
  rw [eb, b_n2_mk, fX10_in3 _ _ _ 0 14 (by decide) (by decide), b_n3_mk] at e2
  rw [eb] at hb
  by_cases q1 : w < 0
  · rw [if_pos (b3_c.mpr (fun z => absurd z.1 (Int32.not_le.mpr q1)))] at e2
    cases e2
    rw [if_pos q1]; exact ⟨rfl, hb⟩
  · rw [if_neg q1]
    by_cases q2 : w < 15
    · have q3 : w ≤ 14 := by
        have b := Int32.lt_iff_toInt_lt.mp q2
        rw [show (15 : Int32).toInt = 15 by decide] at b
        rw [Int32.le_iff_toInt_le, show (14 : Int32).toInt = 14 by decide]; omega
      rw [if_neg (fun z => b3_c.mp z ⟨Int32.not_lt.mp q1, q3⟩)] at e2
      cases e2
      rw [if_pos q2]
      refine ⟨?_, hb⟩
      rw [h.2.1 _ (nat15 q1 q2), b81 _ (nat15 q1 q2)]; rfl
    · have q3 : ¬ w ≤ 14 := by
        intro z
        apply q2
        have b := Int32.le_iff_toInt_le.mp z
        rw [show (14 : Int32).toInt = 14 by decide] at b
        rw [Int32.lt_iff_toInt_lt, show (15 : Int32).toInt = 15 by decide]; omega
      rw [if_pos (b3_c.mpr (fun z => q3 z.2))] at e2
      cases e2
      rw [if_neg q2]; exact ⟨rfl, hb⟩
theorem cp_opening {i w v1 v2 : Int32} {I I1 I2 : Iv} {J J1 J2 : Jv} (h : CP I) (e1 : fn_X9_opening i w I J = (v1, I1, J1)) (e2 : fn_X10_opening i w I1 J1 = (v2, I2, J2)) : v1 = v2 ∧ CP I2 := by
  have hh := h
  obtain ⟨-, -, ⟨m, m1, m2, m3, m4⟩, -⟩ := hh
  have s1 : I1 = I ∧ J1 = J := by
    unfold fn_X9_opening at e1
    by_cases q1 : w < 0
    · rw [if_pos q1] at e1; cases e1; exact ⟨rfl, rfl⟩
    · rw [if_neg q1] at e1
      by_cases q2 : w ≤ 1
      · rw [if_pos q2] at e1
        by_cases q3 : i < 0
        · rw [if_pos q3] at e1; cases e1; exact ⟨rfl, rfl⟩
        · rw [if_neg q3] at e1
          by_cases q4 : I 9 0 ≤ i
          · rw [if_pos q4] at e1; cases e1; exact ⟨rfl, rfl⟩
          · rw [if_neg q4] at e1
            by_cases q5 : i < 12
            · rw [if_pos q5] at e1
              by_cases q6 : w = 0
              · rw [if_pos q6] at e1; cases e1; exact ⟨rfl, rfl⟩
              · rw [if_neg q6] at e1; cases e1; exact ⟨rfl, rfl⟩
            · rw [if_neg q5] at e1; cases e1; exact ⟨rfl, rfl⟩
      · rw [if_neg q2] at e1; cases e1; exact ⟨rfl, rfl⟩
  obtain ⟨rfl, rfl⟩ := s1
  unfold fn_X9_opening at e1
  unfold fn_X10_opening at e2
  rw [fX10_in3 _ _ _ 0 1 (by decide) (by decide), b_n3_mk] at e2
  by_cases q1 : w < 0
  · rw [if_pos (b3_c.mpr (fun z => absurd z.1 (Int32.not_le.mpr q1)))] at e2
    rw [if_pos q1] at e1
    cases e1; cases e2; exact ⟨rfl, h⟩
  · rw [if_neg q1] at e1
    by_cases q2 : w ≤ 1
    · rw [if_pos q2] at e1
      rw [if_neg (fun z => b3_c.mp z ⟨Int32.not_lt.mp q1, q2⟩), fX10_in3 _ _ _ 0 (I1 78 5 - 1) (by decide) rfl, b_n3_mk] at e2
      by_cases q3 : 0 ≤ i ∧ i ≤ I1 78 5 - 1
      · rw [if_neg (fun z => b3_c.mp z q3)] at e2
        have mp : 1 ≤ m := by
          rcases Nat.eq_zero_or_pos m with z | z
          · exfalso
            have y := q3.2
            rw [m3, z] at y
            have x1 : n3 0 - 1 = (-1 : Int32) := by decide
            rw [x1] at y
            have a := Int32.le_iff_toInt_le.mp q3.1
            have b := Int32.le_iff_toInt_le.mp y
            rw [show (0 : Int32).toInt = 0 by decide] at a
            rw [show (-1 : Int32).toInt = -1 by decide] at b
            omega
          · exact z
        have hi := n3_of q3.1
        have hm : i.toNatClampNeg < m := by
          have y := q3.2
          rw [m3, show (1 : Int32) = n3 1 from rfl, n3_sub mp, Int32.le_iff_toInt_le, Int32.toInt_ofNat_of_lt (by omega)] at y
          unfold Int32.toNatClampNeg; omega
        generalize i.toNatClampNeg = t at *
        subst hi
        rw [if_neg (by rw [show (0 : Int32) = n3 0 from rfl, n3_lt (by omega) (by omega)]; omega), m2, if_neg (by rw [n3_le (by omega) (by omega)]; omega), if_pos (by rw [show (12 : Int32) = n3 12 from rfl, n3_lt (by omega) (by omega)]; omega)] at e1
        obtain ⟨p1, p2⟩ := m4 t hm
        by_cases q6 : w = 0
        · rw [if_pos q6] at e1 e2
          cases e1; cases e2; exact ⟨p1, h⟩
        · rw [if_neg q6] at e1 e2
          cases e1; cases e2; exact ⟨p2, h⟩
      · rw [if_pos (b3_c.mpr q3)] at e2
        cases e2
        refine ⟨?_, h⟩
        by_cases q4 : i < 0
        · rw [if_pos q4] at e1; cases e1; rfl
        · rw [if_neg q4] at e1
          have q5 : I1 9 0 ≤ i := by
            have y : ¬ i ≤ I1 78 5 - 1 := fun z => q3 ⟨Int32.not_lt.mp q4, z⟩
            rw [m3] at y
            rw [m2]
            have a := Int32.le_iff_toInt_le.mp (Int32.not_lt.mp q4)
            rw [show (0 : Int32).toInt = 0 by decide] at a
            have e9 : (n3 m - 1).toInt = (m : Int) - 1 := by
              rw [Int32.toInt_sub, Int32.toInt_ofNat_of_lt (by omega), show (1 : Int32).toInt = 1 by decide]
              apply Int.bmod_eq_of_le <;> omega
            have b : ¬ i.toInt ≤ (m : Int) - 1 := fun z => y (Int32.le_iff_toInt_le.mpr (by rw [e9]; exact z))
            rw [Int32.le_iff_toInt_le, Int32.toInt_ofNat_of_lt (by omega)]; omega
          rw [if_pos q5] at e1; cases e1; rfl
    · rw [if_neg q2] at e1
      rw [if_pos (b3_c.mpr (fun z => q2 z.2))] at e2
      cases e1; cases e2; exact ⟨rfl, h⟩
theorem cp_0 {I : Iv} {J : Jv} (h1 : I 1 1 = 0) (h4 : I 1 4 = -1) (h2 : ∀ k, 0 ≤ k → I 2 k = 0) (h8 : ∀ k, k < 15 → I 8 k = nu0 k) (h9 : I 9 0 = 0) (m1 : ∀ b, 78 < b → b < 99 → ∀ k, I b k = 0 ∧ J b k = 0) (m2 : ∀ k, k ≠ 16 → I 78 k = 0) (m16 : I 78 16 = -1) : CP I := by
  refine ⟨⟨?_, ?_, ?_⟩, fun j hj => ?_, ⟨0, Nat.zero_le _, h9, m2 5 (by decide), fun j hj => absurd hj (Nat.not_lt_zero _)⟩, fun k => ?_, 0, by omega, h1⟩
  · funext k; rw [h2 k (Nat.zero_le _), (m1 87 (by decide) (by decide) k).1]
  · rw [h1, m2 11 (by decide)]
  · rw [h4, m16]
  · unfold B81; rw [if_pos (m2 2 (by decide))]; exact h8 j hj
  · rw [h2 k (Nat.zero_le _)]; decide
