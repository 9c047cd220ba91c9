/-! ===== looking: food, warmth, heat, count ===== -/
theorem within_f {N : Int} {k : Nat} {I C : Iv} {J D : Jv} (h : STm N 16 0 I J D) (hN : N ≤ 2000000) (hk : k < 8) (t : I 19 k = 1) : ∃ b : Bool, fn_X6_isWithin 16 (n3 k) I J = (b3 b, I, J) ∧ fn_X10_isWithin 0 (n3 k) C D = (b3 b, C, D) := by
  obtain ⟨t1, t2, t3, t4, t5, t6, t7, t8⟩ := f_there h hk t
  obtain ⟨w1, w2⟩ := warm_f (C := C) h hk t
  have hT := tn_of h
  have wb : wmT (I 24 0) ≤ 100000000 := by unfold wmT; have h2 : (I 24 0).toInt ≤ N := hT.2; omega
  have ws := wS_t (o := 16) (k := 4 + k) (I := I) (J := J) t5.1
  have ws' : (wS 16 I J (4 + k)).toInt = (J 17 (4 + k)).toInt.tdiv (I 18 (4 + k)).toInt := ws
  have wl : (wC 16 I J (4 + k)).toInt64 = wS 16 I J (4 + k) := by rw [w2]; exact sd6w (by omega) (by omega)
  refine ⟨decide (I 21 k ≤ wC 16 I J (4 + k) ∧ wC 16 I J (4 + k) ≤ I 22 k), ?_, ?_⟩
  · unfold fn_X6_isWithin
    rw [show (4 : Int32) = n3 4 from rfl, n3_add, fX6_warmthOf (by omega), b_n3_mk, if_neg (n3_no0 (by omega)), if_neg (by rw [show (8 : Int32) = n3 8 from rfl, n3_le (by omega) (by omega)]; omega), n3_tn (by omega)]
    exact in2
  · unfold fn_X10_isWithin
    rw [show (4 : Int32) = n3 4 from rfl, n3_add, w1, b_n3_mk, show ((0 : Int32) + 36) = n3 36 from rfl, n3_add, n3_tn (by omega), show ((0 : Int32) + 44) = n3 44 from rfl, n3_add, n3_tn (by omega), t6, t7, ← wl, fX10_in3 _ _ _ (I 21 k) (I 22 k) rfl rfl, b_n3_mk]
theorem cq_food {c : Nat} {f w v1 v2 : Int32} {I I1 I2 : Iv} {J J1 J2 : Jv} (hc : c ≤ 600) (h : CQx c I J) (e1 : fn_X9_food f w I J = (v1, I1, J1)) (e2 : fn_X10_food f w I1 J1 = (v2, I2, J2)) : v1 = v2 ∧ CQx (c + 1) I2 J2 := by
  unfold fn_X9_food at e1
  unfold fn_X10_food at e2
  rcases food_is (f := f) (C := I) h.1 with ⟨k, hk, rfl, t, hf, -⟩ | ⟨hf, -⟩
  · rw [hf, b_n3_mk, if_neg (by decide), show (4 : Int32) = n3 4 from rfl, n3_add, fX6_warmthOf (by omega), b_n3_mk, n3_tn (by omega), n3_tn (by omega)] at e1
    have hI : I1 = I ∧ J1 = J := by
      obtain ⟨b, hb, -⟩ := within_f (C := I) h.1 (by omega) hk t
      rw [hb, b_n3_mk] at e1
      by_cases q : w.toInt < 0 ∨ 5 < w.toInt
      · rw [if_pos q] at e1; cases e1; exact ⟨rfl, rfl⟩
      · rw [if_neg q, l_t] at e1
        split at e1
        · cases e1; exact ⟨rfl, rfl⟩
        · split at e1
          · cases e1; exact ⟨rfl, rfl⟩
          · split at e1
            · cases e1; exact ⟨rfl, rfl⟩
            · split at e1
              · cases e1; exact ⟨rfl, rfl⟩
              · split at e1
                · cases e1; exact ⟨rfl, rfl⟩
                · split at e1
                  · split at e1
                    · cases e1; exact ⟨rfl, rfl⟩
                    · cases e1; exact ⟨rfl, rfl⟩
                  · cases e1; exact ⟨rfl, rfl⟩
    obtain ⟨rfl, rfl⟩ := hI
    obtain ⟨C, D, eb, n2, lo, lj, q⟩ := cq_open (I1 := I1) (J1 := J1) h (fun _ _ => rfl) rfl
    obtain ⟨t1, t2, t3, t4, t5, t6, t7, t8⟩ := f_there q.1 hk t
    obtain ⟨w1, w2⟩ := warm_f (C := C) q.1 hk t
    obtain ⟨b, hb1, hb2⟩ := within_f (C := C) q.1 (by omega) hk t
    rw [hb1, b_n3_mk] at e1
    rcases food_is (f := n3 k) (C := C) q.1 with ⟨k', hk', ek, t', -, hf2⟩ | ⟨hf1, -⟩
    rotate_left
    · rw [hf] at hf1; exact absurd (congrArg (fun (y : Int32 × Iv × Jv) => y.1) hf1) (show ¬ (1 : Int32) = 0 by decide)
    rw [eb, b_n2_mk, hf2, b_n3_mk, if_neg (by decide), show (4 : Int32) = n3 4 from rfl, n3_add, w1, b_n3_mk, n3_tn (by omega), t2, t4, t6, t7, wsd6, wsd6, wsd6, wsd6, ← w2, hb2, b_n3_mk, fX10_one, b_n3_mk] at e2
    have fin : v1 = v2 ∧ I2 = C ∧ J2 = D := by
      by_cases z : w.toInt < 0 ∨ 5 < w.toInt
      · rw [if_pos z] at e1 e2; cases e1; cases e2; exact ⟨rfl, rfl, rfl⟩
      · rw [if_neg z, l_t] at e1 e2
        by_cases z0 : (w.toInt - 0).toNat = 0
        · rw [if_pos z0] at e1 e2; cases e1; cases e2; exact ⟨rfl, rfl, rfl⟩
        · rw [if_neg z0] at e1 e2
          by_cases z1 : (w.toInt - 0).toNat = 1
          · rw [if_pos z1] at e1 e2; cases e1; cases e2; exact ⟨rfl, rfl, rfl⟩
          · rw [if_neg z1] at e1 e2
            by_cases z2 : (w.toInt - 0).toNat = 2
            · rw [if_pos z2] at e1 e2; cases e1; cases e2; exact ⟨rfl, rfl, rfl⟩
            · rw [if_neg z2] at e1 e2
              by_cases z3 : (w.toInt - 0).toNat = 3
              · rw [if_pos z3] at e1 e2; cases e1; cases e2; exact ⟨rfl, rfl, rfl⟩
              · rw [if_neg z3] at e1 e2
                by_cases z4 : (w.toInt - 0).toNat = 4
                · rw [if_pos z4] at e1 e2; cases e1; cases e2; exact ⟨rfl, rfl, rfl⟩
                · rw [if_neg z4] at e1 e2
                  by_cases z5 : (w.toInt - 0).toNat = 5
                  · rw [if_pos z5] at e1 e2
                    cases b with
                    | false => rw [if_pos (show b3 false = 0 from rfl)] at e1; cases e1; cases e2; exact ⟨rfl, rfl, rfl⟩
                    | true => rw [if_neg (show ¬ b3 true = 0 by decide)] at e1; cases e1; cases e2; exact ⟨rfl, rfl, rfl⟩
                  · exact absurd z5 (by omega)
    obtain ⟨r1, rfl, rfl⟩ := fin
    exact ⟨r1, cq_same eb q⟩
  · rw [hf, b_n3_mk, if_pos rfl] at e1
    cases e1
    obtain ⟨C, D, eb, n2, lo, lj, q⟩ := cq_open (I1 := I) (J1 := J) h (fun _ _ => rfl) rfl
    rcases food_is (f := f) (C := C) q.1 with ⟨k', hk', ek, t', hf1, -⟩ | ⟨-, hf2⟩
    · rw [hf] at hf1; exact absurd (congrArg (fun (y : Int32 × Iv × Jv) => y.1) hf1) (show ¬ (0 : Int32) = 1 by decide)
    rw [eb, b_n2_mk, hf2, b_n3_mk, if_pos rfl] at e2
    cases e2
    exact ⟨rfl, cq_same eb q⟩
theorem warm_a {N : Int} {k : Nat} {I C : Iv} {J D : Jv} (h : STm N 16 0 I J D) (hk : k < 4) : fn_X10_warm 0 (n3 k) C D = (wS 16 I J k, C, D) ∧ wC 16 I J k = (wS 16 I J k).toInt32 := by
  have c1 := (h.2.1 k hk).1
  have c1' : (I 18 k).toInt = cpC k := c1
  have pos : 1 ≤ (I 18 k).toInt := by
    rw [c1']; unfold cpC
    by_cases q : k = 3
    · rw [if_pos q]; omega
    · rw [if_neg q]; omega
  constructor
  · have := fX10_warm (X := 0) (c := k) (by omega) (by omega) C D
    rw [show (n3 0 : Int32) = 0 from rfl] at this
    rw [this, h.1 k (by omega)]
    have ec : cpR 0 D k = (I 18 k).toInt64 := by
      unfold cpR
      unfold cpC at c1'
      by_cases q : k = 3
      · rw [if_neg (by omega), if_pos q]
        rw [if_pos q] at c1'
        exact (wd6_eq (by rw [c1']; decide)).symm
      · rw [if_pos (by omega)]
        rw [if_neg q] at c1'
        exact (wd6_eq (by rw [c1']; decide)).symm
    rw [ec]; rfl
  · unfold wC wS
    rw [if_pos (Int32.le_iff_toInt_le.mpr (by rw [show (1 : Int32).toInt = 1 by decide]; exact pos))]
theorem cq_warmth {c : Nat} {s v1 v2 : Int32} {I I1 I2 : Iv} {J J1 J2 : Jv} (h : CQx c I J) (e1 : fn_X9_warmth s I J = (v1, I1, J1)) (e2 : fn_X10_warmth s I1 J1 = (v2, I2, J2)) : v1 = v2 ∧ CQx (c + 1) I2 J2 := by
  unfold fn_X9_warmth at e1
  unfold fn_X10_warmth at e2
  by_cases h0 : s < 0
  · rw [if_pos h0] at e1
    cases e1
    obtain ⟨C, D, eb, n2, lo, lj, q⟩ := cq_open (I1 := I) (J1 := J) h (fun _ _ => rfl) rfl
    rw [eb, b_n2_mk, fX10_in3 s 0 3 0 3 (by decide) (by decide), b_n3_mk, if_pos (by rw [decide_eq_false (fun z => absurd z.1 (Int32.not_le.mpr h0))]; rfl)] at e2
    cases e2
    exact ⟨rfl, cq_same eb q⟩
  · rw [if_neg h0] at e1
    by_cases h3 : s ≤ 3
    · rw [if_pos h3] at e1
      obtain ⟨k, hk, rfl⟩ : ∃ k, k < 4 ∧ s = n3 k := by
        have a := Int32.le_iff_toInt_le.mp (Int32.not_lt.mp h0)
        have b := Int32.le_iff_toInt_le.mp h3
        rw [show (0 : Int32).toInt = 0 by decide] at a
        rw [show (3 : Int32).toInt = 3 by decide] at b
        exact ⟨s.toNatClampNeg, by show s.toInt.toNat < 4; omega, n3_of (Int32.not_lt.mp h0)⟩
      rw [fX6_warmthOf (by omega), b_n3_mk] at e1
      cases e1
      obtain ⟨C, D, eb, n2, lo, lj, q⟩ := cq_open (I1 := I) (J1 := J) h (fun _ _ => rfl) rfl
      obtain ⟨w1, w2⟩ := warm_a (C := C) q.1 hk
      rw [eb, b_n2_mk, fX10_in3 (n3 k) 0 3 0 3 (by decide) (by decide), b_n3_mk, if_neg (by rw [decide_eq_true ⟨Int32.not_lt.mp h0, h3⟩]; decide), w1, b_n3_mk] at e2
      cases e2
      exact ⟨w2, cq_same eb q⟩
    · rw [if_neg h3] at e1
      cases e1
      obtain ⟨C, D, eb, n2, lo, lj, q⟩ := cq_open (I1 := I) (J1 := J) h (fun _ _ => rfl) rfl
      rw [eb, b_n2_mk, fX10_in3 s 0 3 0 3 (by decide) (by decide), b_n3_mk, if_pos (by rw [decide_eq_false (fun z => h3 z.2)]; rfl)] at e2
      cases e2
      exact ⟨rfl, cq_same eb q⟩
