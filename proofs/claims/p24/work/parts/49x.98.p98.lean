/-! ===== count, thaw ===== -/
theorem cq_count {c : Nat} {w v1 v2 : Int32} {I I1 I2 : Iv} {J J1 J2 : Jv} (hp : CP I) (h : CQx c I J) (e1 : fn_X9_count w I J = (v1, I1, J1)) (e2 : fn_X10_count w I1 J1 = (v2, I2, J2)) : v1 = v2 ∧ CQx (c + 1) I2 J2 := by
  unfold fn_X9_count at e1
  unfold fn_X10_count at e2
  have z0 : (0 : Int32).toInt = 0 := by decide
  have z8 : (8 : Int32).toInt = 8 := by decide
  have z11 : (11 : Int32).toInt = 11 := by decide
  by_cases h0 : w < 0
  · rw [if_pos h0] at e1
    have a := Int32.lt_iff_toInt_lt.mp h0
    rw [z0] at a
    exact cq_ref h e1 (fun C D eb => by rw [eb, b_n2_mk, if_pos (Or.inl a)] at e2; exact e2)
  rw [if_neg h0] at e1
  have a0 := Int32.le_iff_toInt_le.mp (Int32.not_lt.mp h0)
  rw [z0] at a0
  by_cases h11 : w ≤ 11
  rotate_left
  · rw [if_neg h11] at e1
    have a := Int32.lt_iff_toInt_lt.mp (Int32.not_le.mp h11)
    rw [z11] at a
    exact cq_ref h e1 (fun C D eb => by rw [eb, b_n2_mk, if_pos (Or.inr a)] at e2; exact e2)
  rw [if_pos h11] at e1
  have a11 := Int32.le_iff_toInt_le.mp h11
  rw [z11] at a11
  have nw : ¬ (w.toInt < 0 ∨ 11 < w.toInt) := by omega
  -- the number, as one
  have key : ∃ v : Int32, ((v, I, J) : Int32 × Iv × Jv) = (v1, I1, J1) ∧ ∀ (C : Iv) (D : Jv), CQ c I J C D → I 1 1 = C 78 11 → (if w.toInt < 0 ∨ 11 < w.toInt then (((-1000000002 : Int32), C, D) : Int32 × Iv × Jv) else l_t (w.toInt - (0)).toNat (fun (sw0 : Nat) => if sw0 = 0 then ((Int64.toInt32 (D 79 54)), C, D) else if sw0 = 1 then ((Int64.toInt32 (D 79 63)), C, D) else if sw0 = 2 then ((Int64.toInt32 (D 79 64)), C, D) else if sw0 = 3 then ((Int64.toInt32 (D 79 65)), C, D) else if sw0 = 4 then ((Int64.toInt32 (D 79 60)), C, D) else if sw0 = 5 then ((Int64.toInt32 (D 79 53)), C, D) else if sw0 = 6 then ((Int64.toInt32 (D 79 61)), C, D) else if sw0 = 7 then ((Int64.toInt32 (D 79 62)), C, D) else if sw0 = 8 then ((Int64.toInt32 (D 79 67)), C, D) else if sw0 = 9 then ((Int64.toInt32 (D 79 66)), C, D) else if sw0 = 10 then b_n3 (fn_X10_foods C D) (fun (r13 : Int32) (_ : Iv) (_ : Jv) => (r13, C, D)) else if sw0 = 11 then ((C 78 11), C, D) else (0, C, D))) = (v, C, D) := by
    by_cases h8 : 8 ≤ w
    · rw [if_pos h8] at e1
      have a8 := Int32.le_iff_toInt_le.mp h8
      rw [z8] at a8
      by_cases q : w.toInt < 8 ∨ 10 < w.toInt
      · rw [if_pos q] at e1
        refine ⟨_, e1, fun C D s s4 => ?_⟩
        have e : (w.toInt - 0).toNat = 11 := by omega
        rw [if_neg nw, l_t, e]
        show (C 78 11, C, D) = _
        rw [s4]
      · rw [if_neg q, l_t] at e1
        rcases (show w.toInt = 8 ∨ w.toInt = 9 ∨ w.toInt = 10 by omega) with y | y | y
        · rw [y] at e1
          refine ⟨_, e1, fun C D s s4 => ?_⟩
          rw [if_neg nw, l_t, y]
          obtain ⟨-, -, -, -, -, -, -, -, -, n67, -⟩ := s.1
          have n67' : D 79 67 = (I 16 9).toInt64 := n67.1
          show ((D 79 67).toInt32, C, D) = (I 16 9, C, D)
          rw [n67', wsd6]
        · rw [y] at e1
          have e1' : (if I 16 10 = 0 then (((0 : Int32), I, J) : Int32 × Iv × Jv) else ((1 : Int32), I, J)) = (v1, I1, J1) := e1
          obtain ⟨was, w1, w2⟩ := h.1.2.2.2.2.2.2.2.2.1
          have e1'' : ((b3 was, I, J) : Int32 × Iv × Jv) = (v1, I1, J1) := by
            rw [w1] at e1'
            cases was <;> exact e1'
          refine ⟨_, e1'', fun C D s s4 => ?_⟩
          rw [if_neg nw, l_t, y]
          obtain ⟨-, -, -, -, -, -, -, -, ⟨was', n10, n66⟩, -⟩ := s.1
          have n66' : D 79 66 = (b3 was').toInt64 := n66
          show ((D 79 66).toInt32, C, D) = (b3 was, C, D)
          rw [n66', wsd6, ← n10, w1]
        · rw [y] at e1
          have e1' : b_n3 (fn_X6_foodsThere 16 I J) (fun (r6 : Int32) (_ : Iv) (_ : Jv) => ((r6, I, J) : Int32 × Iv × Jv)) = (v1, I1, J1) := e1
          obtain ⟨r, r1, -⟩ := foods_both (C := I) h.1
          rw [r1, b_n3_mk] at e1'
          refine ⟨_, e1', fun C D s s4 => ?_⟩
          rw [if_neg nw, l_t, y]
          obtain ⟨r', r1', r2'⟩ := foods_both (C := C) s.1
          have er : r' = r := by rw [r1] at r1'; exact (congrArg Prod.fst r1').symm
          show b_n3 (fn_X10_foods C D) (fun (r13 : Int32) (_ : Iv) (_ : Jv) => ((r13, C, D) : Int32 × Iv × Jv)) = (r, C, D)
          rw [r2', b_n3_mk, er]
    · rw [if_neg h8] at e1
      have a8 := Int32.lt_iff_toInt_lt.mp (Int32.not_le.mp h8)
      rw [z8] at a8
      refine ⟨_, e1, fun C D s s4 => ?_⟩
      obtain ⟨-, -, -, -, -, ⟨-, n53⟩, ⟨-, n54⟩, ⟨n60, n61, n62, n63, n64, n65⟩, -⟩ := s.1
      have n53' : D 79 53 = (I 24 5).toInt64 := n53
      have n54' : D 79 54 = (I 24 0).toInt64 := n54
      have n60' : (D 79 60).toInt32 = I 24 4 := n60
      have n61' : (D 79 61).toInt32 = I 24 6 := n61
      have n62' : (D 79 62).toInt32 = I 24 7 := n62
      have n63' : (D 79 63).toInt32 = I 24 1 := n63
      have n64' : (D 79 64).toInt32 = I 24 2 := n64
      have n65' : (D 79 65).toInt32 = I 24 3 := n65
      have en : w.toNatClampNeg = w.toInt.toNat := rfl
      rw [if_neg nw, l_t, en]
      rcases (show w.toInt = 0 ∨ w.toInt = 1 ∨ w.toInt = 2 ∨ w.toInt = 3 ∨ w.toInt = 4 ∨ w.toInt = 5 ∨ w.toInt = 6 ∨ w.toInt = 7 by omega) with y | y | y | y | y | y | y | y <;> rw [y]
      · show ((D 79 54).toInt32, C, D) = (I 24 0, C, D)
        rw [n54', wsd6]
      · show ((D 79 63).toInt32, C, D) = (I 24 1, C, D)
        rw [n63']
      · show ((D 79 64).toInt32, C, D) = (I 24 2, C, D)
        rw [n64']
      · show ((D 79 65).toInt32, C, D) = (I 24 3, C, D)
        rw [n65']
      · show ((D 79 60).toInt32, C, D) = (I 24 4, C, D)
        rw [n60']
      · show ((D 79 53).toInt32, C, D) = (I 24 5, C, D)
        rw [n53', wsd6]
      · show ((D 79 61).toInt32, C, D) = (I 24 6, C, D)
        rw [n61']
      · show ((D 79 62).toInt32, C, D) = (I 24 7, C, D)
        rw [n62']
  obtain ⟨v, k1, k2⟩ := key
  cases k1
  obtain ⟨C, D, eb, n2, lo, lj, q⟩ := cq_open (I1 := I) (J1 := J) h (fun _ _ => rfl) rfl
  have s4 : I 1 1 = C 78 11 := by
    obtain ⟨C', D', e', n', r', rk', -⟩ := begR I J
    have ec : C' = C := congrArg Prod.fst (e'.symm.trans eb)
    rw [← ec, rk' 11 (by decide) (by decide) (by decide)]; exact hp.1.2.1
  rw [eb, b_n2_mk, k2 C D q s4] at e2
  cases e2
  exact ⟨rfl, cq_same eb q⟩
/-- THAWED: a cell after the other, both -/
theorem melt_b {o X : Nat} {I4 C : Iv} {M : Int} (hM : 10000 ≤ M ∧ M ≤ 100000000) (ho : 15 < o) (hX : X ≤ 240) (hc : ∀ k, k < 4 → (I4 (o + 2) k).toInt = cpC k) : ∀ (f k fc fr : Nat) (J B : Jv), k + f = 4 → f < fc → f < fr → (∀ j, j < 12 → B 79 (X + j) = J (o + 1) j) → B 79 (X + 55) = J (o + 7) 1 → (∀ j, j < 4 → -M ≤ (J (o + 1) j).toInt.tdiv (cpC j) ∧ (J (o + 1) j).toInt.tdiv (cpC j) ≤ M) →
    ∃ J' B' : Jv, (∀ K : Int32 → Jv → Int32 × Iv × Jv, fl_X6_letOffIce_27_0 o I4 K fc (n3 k) J = K 4 J') ∧ (∀ K : Int32 → Jv → Int32 × Iv × Jv, fl_X10_melt_36_0 C (n3 X) K fr (n3 k) B = K 4 B') ∧ (∀ j, j < 12 → B' 79 (X + j) = J' (o + 1) j) ∧ B' 79 (X + 55) = J' (o + 7) 1 ∧ (∀ j, j < 4 → -M ≤ (J' (o + 1) j).toInt.tdiv (cpC j) ∧ (J' (o + 1) j).toInt.tdiv (cpC j) ≤ M) ∧
      (∀ r, r ≠ o + 1 → r ≠ o + 7 → J' r = J r) ∧ (∀ j, 4 ≤ j → J' (o + 1) j = J (o + 1) j) ∧ (∀ j, j ≠ 1 → J' (o + 7) j = J (o + 7) j) ∧ (∀ r, r ≠ 79 → B' r = B r) ∧ ∀ j, j < X ∨ (X + 4 ≤ j ∧ j ≠ X + 55) → B' 79 j = B 79 j
  | f, k, 0, _, _, _, _, h, _, _, _, _ => absurd h (Nat.not_lt_zero _)
  | f, k, _ + 1, 0, _, _, _, _, h, _, _, _ => absurd h (Nat.not_lt_zero _)
  | 0, k, fc + 1, fr + 1, J, B, hk, _, _, h1, h2, h3 => by
    have : k = 4 := by omega
    subst this
    refine ⟨J, B, fun K => ?_, fun K => ?_, h1, h2, h3, fun _ _ _ => rfl, fun _ _ => rfl, fun _ _ => rfl, fun _ _ => rfl, fun _ _ => rfl⟩
    · rw [fl_X6_letOffIce_27_0.eq_2, if_pos (by decide)]; rfl
    · rw [fl_X10_melt_36_0.eq_2, if_pos (by decide)]; rfl
  | f + 1, k, fc + 1, fr + 1, J, B, hk, hfc, hfr, h1, h2, h3 => by
    have hk4 : k < 4 := by omega
    have c1 := hc k hk4
    have c2 : cpC k = 20 ∨ cpC k = 40 := by
      unfold cpC
      by_cases q : k = 3
      · rw [if_pos q]; exact Or.inr rfl
      · rw [if_neg q]; exact Or.inl rfl
    obtain ⟨q1, q2, q3, q4⟩ := wC_S (o := o) (k := k) (I := I4) (J := J) hM.2 (by omega) (by rw [c1]; exact (h3 k hk4).1) (by rw [c1]; exact (h3 k hk4).2)
    have cr : cpR X B k = (I4 (o + 2) k).toInt64 := by
      unfold cpR
      unfold cpC at c1
      by_cases q : k = 3
      · rw [if_neg (by omega), if_pos q]
        rw [if_pos q] at c1
        exact (wd6_eq (by rw [c1]; decide)).symm
      · rw [if_pos (by omega)]
        rw [if_neg q] at c1
        exact (wd6_eq (by rw [c1]; decide)).symm
    have k6 : (1000 : Int32).toInt64 = 1000 := by decide
    have wr : B 79 (X + k) / cpR X B k = wS o I4 J k := by rw [h1 k (by omega), cr]; rfl
    have n3k : ¬ (3 : Int32) < n3 k := by rw [show (3 : Int32) = n3 3 from rfl, n3_lt (by omega) (by omega)]; omega
    have n4k : ¬ (4 : Int32) ≤ n3 k := by rw [show (4 : Int32) = n3 4 from rfl, n3_le (by omega) (by omega)]; omega
    by_cases q : (1000 : Int32) ≤ wC o I4 J k
    · obtain ⟨J', B', e1, e2, r⟩ := melt_b (C := C) hM ho hX hc f (k + 1) fc fr J B (by omega) (by omega) (by omega) h1 h2 h3
      refine ⟨J', B', fun K => ?_, fun K => ?_, r⟩
      · rw [fl_X6_letOffIce_27_0.eq_2, if_neg n3k, l_t, fX6_warmthOf (by omega), b_n3_mk, if_pos q, n3_up]; exact e1 K
      · rw [fl_X10_melt_36_0.eq_2, if_neg n4k, fX10_cap hX (by omega), b_n3_mk, l_t, fX10_warm hX (by omega), b_n3_mk, wr, if_pos (by rw [← q1, ← k6, wd6_le]; exact q), n3_up]; exact e2 K
    · have hv : ((1000 : Int64) * (I4 (o + 2) k).toInt64).toInt = 1000 * cpC k := by
        rw [i6_mul (by rw [wd6, c1, show (1000 : Int64).toInt = 1000 by decide]; omega) (by rw [wd6, c1, show (1000 : Int64).toInt = 1000 by decide]; omega), wd6, c1]; rfl
      have nk : ∀ j, j ≠ k → wJ (wJ J (o + 7) 1 (J (o + 7) 1 + (1000 * (I4 (o + 2) k).toInt64 - J (o + 1) k))) (o + 1) k (1000 * (I4 (o + 2) k).toInt64) (o + 1) j = J (o + 1) j := fun j hj => by rw [wJ_ne (Or.inr hj), wJ_row (by omega)]
      obtain ⟨J', B', e1, e2, r1, r2, r3, r4, r5, r6, r7, r8⟩ := melt_b (C := C) hM ho hX hc f (k + 1) fc fr (wJ (wJ J (o + 7) 1 (J (o + 7) 1 + (1000 * (I4 (o + 2) k).toInt64 - J (o + 1) k))) (o + 1) k (1000 * (I4 (o + 2) k).toInt64)) (wJ (wJ B 79 (X + 55) (B 79 (X + 55) + (1000 * (I4 (o + 2) k).toInt64 - B 79 (X + k)))) 79 (X + k) (1000 * (I4 (o + 2) k).toInt64)) (by omega) (by omega) (by omega)
        (fun j hj => by
          by_cases z : j = k
          · subst z; rw [wJ_self, wJ_self]
          · rw [nk j z, wJ_ne (by omega), wJ_ne (by omega)]; exact h1 j hj)
        (by rw [wJ_ne (by omega), wJ_self, wJ_row (by omega), wJ_self, h2, h1 k (by omega)])
        (fun j hj => by
          by_cases z : j = k
          · subst z
            rw [wJ_self, hv, Int.mul_tdiv_cancel _ (show cpC j ≠ 0 by omega)]; omega
          · rw [nk j z]; exact h3 j hj)
      refine ⟨J', B', fun K => ?_, fun K => ?_, r1, r2, r3, fun r a b => by rw [r4 r a b, wJ_row a, wJ_row b], fun j hj => by rw [r5 j hj]; exact nk j (by omega), fun j hj => by rw [r6 j hj, wJ_row (by omega), wJ_ne (Or.inr hj)], fun r hr => by rw [r7 r hr, wJ_row hr, wJ_row hr], fun j hj => by rw [r8 j hj, wJ_ne (by omega), wJ_ne (by omega)]⟩
      · rw [fl_X6_letOffIce_27_0.eq_2, if_neg n3k, l_t, fX6_warmthOf (by omega), b_n3_mk, if_neg q, n3_tn (by omega), l_t, l_t, n3_up]; exact e1 K
      · rw [fl_X10_melt_36_0.eq_2, if_neg n4k, fX10_cap hX (by omega), b_n3_mk, cr, l_t, fX10_warm hX (by omega), b_n3_mk, wr, if_neg (by rw [← q1, ← k6, wd6_le]; exact q), n3_tn (by omega), n3_tn (by omega), l_t, l_t, n3_up]; exact e2 K
theorem cq_thaw {c : Nat} {v1 v2 : Int32} {I I1 I2 : Iv} {J J1 J2 : Jv} (hc : c ≤ 600) (h : CQx c I J) (e1 : fn_X9_thaw I J = (v1, I1, J1)) (e2 : fn_X10_thaw I1 J1 = (v2, I2, J2)) : v1 = v2 ∧ CQx (c + 1) I2 J2 := by
  -- what both do, on any memory of the reference that holds alike
  have key : ∀ (C : Iv) (D : Jv), CQ c I J C D → ∃ (K : Iv) (L D2 : Jv), fn_X6_letOffIce 16 I J = (I 24 5, K, L) ∧ fn_X10_melt 0 C D = (I 24 5, C, D2) ∧ STm (2880 * (c : Int)) 16 0 K L D2 ∧ (∀ b, b ≠ 24 → K b = I b) ∧ (∀ r, r ≠ 17 → r ≠ 23 → L r = J r) ∧ (∀ r, r ≠ 79 → D2 r = D r) ∧ ∀ k, 80 ≤ k → D2 79 k = D 79 k := by
    intro C D q
    obtain ⟨s1, s2, s3, s4, ⟨n1, n52⟩, ⟨nf, n53⟩, ⟨nt, n54⟩, ⟨n60, n61, n62, n63, n64, n65⟩, n66, n67, n68, n69, n70⟩ := q.1
    have hT : 0 ≤ (I 24 0).toInt ∧ (I 24 0).toInt ≤ 2880 * (c : Int) := nt
    have hM : 10000 ≤ wmT (I 24 0) ∧ wmT (I 24 0) ≤ 100000000 := by unfold wmT; omega
    have n53' : D 79 53 = (I 24 5).toInt64 := n53
    have i2 : (wI (wI I 24 5 0) 24 6 (wI I 24 5 0 24 6 + I 24 5)) (16 + 2) = I 18 := by rw [wI_row (by decide), wI_row (by decide)]
    obtain ⟨L, D2, g1, g2, g3, g4, g5, g6, g7, g8, g9, g10⟩ := melt_b (o := 16) (X := 0) (I4 := wI (wI I 24 5 0) 24 6 (wI I 24 5 0 24 6 + I 24 5)) (C := C) hM (by omega) (by omega) (fun k hk => by rw [i2]; exact (s2 k hk).1) 4 0 (mUe (3 : Int32) ((0 : Int32)) + 1) (mU (4 : Int32) ((0 : Int32)) + 1) J (wJ (wJ D 79 61 (D 79 61 + (I 24 5).toInt64)) 79 53 0) rfl (by decide) (by decide) (fun j hj => by rw [wJ_ne (by omega), wJ_ne (by omega)]; exact s1 j hj) (by
        rw [wJ_ne (by omega), wJ_ne (by omega)]; exact s4 1 (by omega) (by omega)) (fun j hj => (s2 j hj).2)
    have g1' : ∀ K : Int32 → Jv → Int32 × Iv × Jv, fl_X6_letOffIce_27_0 16 (wI (wI I 24 5 0) 24 6 (wI I 24 5 0 24 6 + I 24 5)) K (mUe (3 : Int32) ((0 : Int32)) + 1) 0 J = K 4 L := g1
    have g2' : ∀ K : Int32 → Jv → Int32 × Iv × Jv, fl_X10_melt_36_0 C 0 K (mU (4 : Int32) ((0 : Int32)) + 1) 0 (wJ (wJ D 79 61 (D 79 61 + (I 24 5).toInt64)) 79 53 0) = K 4 D2 := g2
    refine ⟨wI (wI I 24 5 0) 24 6 (wI I 24 5 0 24 6 + I 24 5), L, D2, ?_, ?_, ?_, fun b hb => by rw [wI_row hb, wI_row hb], fun r h1 h2 => g6 r h1 h2, fun r hr => by rw [g9 r hr, wJ_row hr, wJ_row hr], fun k hk => by rw [g10 k (by omega), wJ_ne (by omega), wJ_ne (by omega)]⟩
    · unfold fn_X6_letOffIce
      rw [l_t, l_t, l_t, g1']
    · unfold fn_X10_melt
      rw [show (0 : Int32).toNatClampNeg = 0 by decide]
      simp only [Nat.zero_add]
      rw [n53', l_t, l_t, l_t, g2', wsd6]
    · have t24 : ∀ k, k ≠ 5 → k ≠ 6 → wI (wI I 24 5 0) 24 6 (wI I 24 5 0 24 6 + I 24 5) (16 + 8) k = I (16 + 8) k := fun k a b => by rw [wI_ne (Or.inr b), wI_ne (Or.inr a)]
      have ir : ∀ b, b ≠ 24 → (wI (wI I 24 5 0) 24 6 (wI I 24 5 0 24 6 + I 24 5)) b = I b := fun b hb => by rw [wI_row hb, wI_row hb]
      have dk : ∀ k, 4 ≤ k → k ≠ 55 → k ≠ 61 → k ≠ 53 → D2 79 (0 + k) = D 79 (0 + k) := fun k a b d e => by rw [g10 _ (by omega), wJ_ne (by omega), wJ_ne (by omega)]
      refine ⟨g3, fun k hk => ⟨by rw [i2]; exact (s2 k hk).1, ?_⟩, fun f hf => ?_, fun j h1 h6 => ?_, ?_⟩
      · rw [t24 0 (by omega) (by omega)]; exact g5 k hk
      · have := s3 f hf
        unfold STf at this ⊢
        rw [ir _ (by decide), ir _ (by decide), ir _ (by decide), ir _ (by decide), ir _ (by decide), t24 0 (by omega) (by omega), g7 _ (by omega)]
        rw [show 0 + 12 + f = 0 + (12 + f) by omega, show 0 + 20 + f = 0 + (20 + f) by omega, show 0 + 28 + f = 0 + (28 + f) by omega, show 0 + 36 + f = 0 + (36 + f) by omega, show 0 + 44 + f = 0 + (44 + f) by omega] at this ⊢
        rw [dk _ (by omega) (by omega) (by omega) (by omega), dk _ (by omega) (by omega) (by omega) (by omega), dk _ (by omega) (by omega) (by omega) (by omega), dk _ (by omega) (by omega) (by omega) (by omega), dk _ (by omega) (by omega) (by omega) (by omega)]
        exact this
      · by_cases z : j = 1
        · subst z; exact g4
        · rw [show 0 + 54 + j = 0 + (54 + j) by omega, dk _ (by omega) (by omega) (by omega) (by omega), g8 j z, show 0 + (54 + j) = 0 + 54 + j by omega]
          exact s4 j h1 h6
      · unfold STn SDm
        rw [ir 16 (by decide), t24 0 (by omega) (by omega), t24 1 (by omega) (by omega), t24 2 (by omega) (by omega), t24 3 (by omega) (by omega), t24 4 (by omega) (by omega), t24 7 (by omega) (by omega), dk 52 (by omega) (by omega) (by omega) (by omega), dk 54 (by omega) (by omega) (by omega) (by omega), dk 60 (by omega) (by omega) (by omega) (by omega), dk 62 (by omega) (by omega) (by omega) (by omega), dk 63 (by omega) (by omega) (by omega) (by omega), dk 64 (by omega) (by omega) (by omega) (by omega), dk 65 (by omega) (by omega) (by omega) (by omega), dk 66 (by omega) (by omega) (by omega) (by omega), dk 67 (by omega) (by omega) (by omega) (by omega), dk 68 (by omega) (by omega) (by omega) (by omega), dk 69 (by omega) (by omega) (by omega) (by omega), dk 70 (by omega) (by omega) (by omega) (by omega)]
        have d53 : D2 79 (0 + 53) = 0 := by rw [g10 _ (by omega)]; show wJ _ 79 53 0 79 53 = 0; rw [wJ_self]
        have d61 : D2 79 (0 + 61) = D 79 61 + (I 24 5).toInt64 := by rw [g10 _ (by omega)]; show wJ _ 79 53 0 79 61 = _; rw [wJ_ne (by omega), wJ_self]
        have c5 : wI (wI I 24 5 0) 24 6 (wI I 24 5 0 24 6 + I 24 5) (16 + 8) 5 = 0 := by rw [wI_ne (by omega), wI_self]
        have c6 : wI (wI I 24 5 0) 24 6 (wI I 24 5 0 24 6 + I 24 5) (16 + 8) 6 = I 24 6 + I 24 5 := by rw [wI_self, wI_ne (by omega)]
        rw [d53, d61, c5, c6]
        exact ⟨⟨n1, n52⟩, ⟨by decide, by decide⟩, ⟨nt, n54⟩, ⟨n60, to32_add n61 rfl, n62, n63, n64, n65⟩, n66, n67, n68, n69, n70⟩
  unfold fn_X9_thaw at e1
  unfold fn_X10_thaw at e2
  obtain ⟨K, L, Dx, k1, -, -, k4, k5, -⟩ := key _ _ h
  rw [k1, b_n3_mk] at e1
  cases e1
  obtain ⟨C, D, eb, n2, lo, lj, q⟩ := cq_open (I1 := I1) (J1 := J1) h (fun b hb => k4 b (by omega)) (k5 79 (by omega) (by omega))
  obtain ⟨K', L', D2, m1, m2, m3, m4, m5, m6, m7⟩ := key C D q
  rw [k1] at m1
  cases m1
  rw [eb, b_n2_mk, m2, b_n3_mk] at e2
  cases e2
  refine ⟨rfl, cqx_fin eb (fun _ _ => rfl) (fun r hr => m6 r (by omega)) rfl ?_⟩
  exact cq_now q (m3.mono (up1 c)) (fun b hb => k4 b (by omega)) (fun r h1 h2 => k5 r (by omega) (by omega)) (fun k hk => m7 k (by omega)) rfl
