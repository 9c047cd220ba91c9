/-! ===== LYING ===== -/
theorem ly_step {T : Nat → Bool} {u R fr : Nat} {C : Iv} {D D1 D2 D3 : Jv} {b m v : Int32} (hm : cN T 8 0 ≤ 6) (hR : R < 3 ^ cN T 8 0) (hC8 : C 81 8 = n3 u) (e2 : fn_X10_copy 0 80 C D = (C, D1)) (m1 : ∀ K : Int32 → Jv → Int32 × Iv × Jv, fl_X10_lying_63_2 (n3 (cN T 8 0)) (n3 R) C K (mU (8 : Int32) ((0 : Int32)) + 1) 0 D1 = K 8 D2) (w2 : fn_X10_within (n3 u) C D2 = (v, C, D3)) (K : Int32 → Int32 → Int32 → Iv → Jv → Int32 × Iv × Jv) :
    fl_X10_lying_44_1 (n3 (cN T 8 0)) K (fr + 1) b m (n3 R) C D = (if v ≤ m then fl_X10_lying_44_1 (n3 (cN T 8 0)) K fr b m (n3 (R + 1)) C D3 else fl_X10_lying_44_1 (n3 (cN T 8 0)) K fr (n3 R) v (n3 (R + 1)) C D3) := by
  have p := pw3_le hm
  rw [fl_X10_lying_44_1.eq_2, pw3 hm, b_n3_mk, if_neg (by rw [n3_le (by omega) (by omega)]; omega), e2, b_n2_mk, m1, hC8, w2, b_n3_mk, n3_up]
  dsimp only [j_n]
  by_cases z : v ≤ m
  · rw [if_pos z, if_pos z, if_pos z]
  · rw [if_neg z, if_neg z, if_neg z]
theorem ly_end {T : Nat → Bool} {R fr : Nat} {C : Iv} {D : Jv} {b m : Int32} (hm : cN T 8 0 ≤ 6) (hR : R = 3 ^ cN T 8 0) (K : Int32 → Int32 → Int32 → Iv → Jv → Int32 × Iv × Jv) : fl_X10_lying_44_1 (n3 (cN T 8 0)) K (fr + 1) b m (n3 R) C D = K b m (n3 (3 ^ cN T 8 0)) C D := by
  have p := pw3_le hm
  rw [fl_X10_lying_44_1.eq_2, pw3 hm, b_n3_mk, if_pos (by rw [n3_le (by omega) (by omega)]; omega), hR]
/-- where the class has the most there can be, the reference finds no more -/
theorem ly_rest {T : Nat → Bool} {u : Nat} {N : Int} {I C : Iv} {J : Jv} {b m : Int32} (hu : u < 3) (hm : cN T 8 0 ≤ 6) (hN : N + 576 ≤ 2000000) (hE : ENv I C) (hC8 : C 81 8 = n3 u) (hmost : ((288 * cN T 8 0 : Nat) : Int) ≤ m.toInt) : ∀ (f R fr : Nat) (D : Jv), R + f = 3 ^ cN T 8 0 → f < fr → STm N 16 0 I J D → hTd T I D → ∃ D' : Jv, (∀ K : Int32 → Int32 → Int32 → Iv → Jv → Int32 × Iv × Jv, fl_X10_lying_44_1 (n3 (cN T 8 0)) K fr b m (n3 R) C D = K b m (n3 (3 ^ cN T 8 0)) C D') ∧ TrX D D'
  | f, R, 0, _, _, h, _, _ => absurd h (Nat.not_lt_zero _)
  | 0, R, fr + 1, D, hR, _, _, _ => ⟨D, fun K => ly_end hm (by omega) K, ⟨fun _ _ _ => rfl, fun _ _ => rfl⟩⟩
  | f + 1, R, fr + 1, D, hR, hf, h, hT => by
    have p := pw3_le hm
    obtain ⟨d, I1, I2, I3, J1, J3, D1, D2, D3, -, -, -, -, e2, m1, w2, d4, -, -, r3⟩ := try_r (u := u) (R := R) hu (by omega) hm hN hE h hT
    have z : n3 d ≤ m := Int32.le_iff_toInt_le.mpr (by rw [nb_t (by omega)]; omega)
    have tI : TrI I I := fun _ _ _ _ => rfl
    have tJ : TrJ J J := fun _ _ _ => rfl
    obtain ⟨D', x1, x2⟩ := ly_rest (I := I) (J := J) (b := b) hu hm hN hE hC8 hmost f (R + 1) fr D3 (by omega) (by omega) (st_tr h tI tJ r3) (hT_tr hT rfl r3)
    exact ⟨D', fun K => by rw [ly_step hm (by omega) hC8 e2 m1 w2 K, if_pos z]; exact x1 K, r3.tr x2⟩
theorem ly_loop {T : Nat → Bool} {u : Nat} {N : Int} {C : Iv} (hu : u < 3) (hm : cN T 8 0 ≤ 6) (hN : N + 576 ≤ 2000000) (hC8 : C 81 8 = n3 u) : ∀ (f R fc fr : Nat) (I : Iv) (J D : Jv) (b m : Int32), R + f = 3 ^ cN T 8 0 → f < fc → f < fr → ENv I C → I 8 8 = n3 u → STm N 16 0 I J D → hTd T I D → I 67 8 = m → (R = 0 → m = -1) → (¬ R = 0 → I 67 7 = b ∧ 0 ≤ m.toInt ∧ ∃ r, r < 3 ^ cN T 8 0 ∧ b = n3 r) →
    ∃ (b' m' : Int32) (I' : Iv) (J' D' : Jv), fl_X8_findBestRow_45_2 (n3 (cN T 8 0)) (n3 (3 ^ cN T 8 0)) (fun (_ : Int32) (I16 : Iv) (J17 : Jv) => (I16, J17)) fc (n3 R) I J = (I', J') ∧ (∀ K : Int32 → Int32 → Int32 → Iv → Jv → Int32 × Iv × Jv, fl_X10_lying_44_1 (n3 (cN T 8 0)) K fr b m (n3 R) C D = K b' m' (n3 (3 ^ cN T 8 0)) C D') ∧ I' 67 8 = m' ∧ I' 67 7 = b' ∧ (∃ r, r < 3 ^ cN T 8 0 ∧ b' = n3 r) ∧ TrI I I' ∧ TrJ J J' ∧ TrX D D'
  | f, R, 0, _, _, _, _, _, _, _, h, _, _, _, _, _, _, _, _ => absurd h (Nat.not_lt_zero _)
  | f, R, _ + 1, 0, _, _, _, _, _, _, _, h, _, _, _, _, _, _, _ => absurd h (Nat.not_lt_zero _)
  | 0, R, fc + 1, fr + 1, I, J, D, b, m, hR, _, _, hE, h8, h, hT, hm8, h0, h7 => by
    have p := pw3_le hm
    obtain ⟨a1, a2, a3⟩ := h7 (by omega)
    refine ⟨b, m, I, J, D, ?_, fun K => ly_end hm (by omega) K, hm8, a1, a3, fun _ _ _ _ => rfl, fun _ _ _ => rfl, ⟨fun _ _ _ => rfl, fun _ _ => rfl⟩⟩
    rw [fl_X8_findBestRow_45_2.eq_2, if_pos (by rw [n3_le (by omega) (by omega)]; omega)]
  | f + 1, R, fc + 1, fr + 1, I, J, D, b, m, hR, hfc, hfr, hE, h8, h, hT, hm8, h0, h7 => by
    have p := pw3_le hm
    have nx : ¬ n3 (3 ^ cN T 8 0) ≤ n3 R := by rw [n3_le (by omega) (by omega)]; omega
    have e288 : n3 (cN T 8 0) * 288 = n3 (288 * cN T 8 0) := by
      rw [show (288 : Int32) = n3 288 from rfl, n3_mul, Nat.mul_comm]
    have t288 : (n3 (288 * cN T 8 0)).toInt = ((288 * cN T 8 0 : Nat) : Int) := nb_t (by omega)
    by_cases y : n3 (288 * cN T 8 0) ≤ m
    · -- no more can be found
      have hmost : ((288 * cN T 8 0 : Nat) : Int) ≤ m.toInt := by
        have := Int32.le_iff_toInt_le.mp y
        rw [t288] at this; exact this
      have R0 : ¬ R = 0 := fun z => by
        rw [h0 z, show (-1 : Int32).toInt = -1 by decide] at hmost
        omega
      obtain ⟨a1, a2, a3⟩ := h7 R0
      obtain ⟨D', x1, x2⟩ := ly_rest (I := I) (J := J) (b := b) (m := m) hu hm hN hE hC8 hmost (f + 1) R (fr + 1) D hR hfr h hT
      refine ⟨b, m, I, J, D', ?_, x1, hm8, a1, a3, fun _ _ _ _ => rfl, fun _ _ _ => rfl, x2⟩
      rw [fl_X8_findBestRow_45_2.eq_2, if_neg nx, e288, hm8, if_pos y]
    · obtain ⟨d, I1, I2, I3, J1, J3, D1, D2, D3, e1, l1, l8, w1, e2, m1, w2, d4, r1, r2, r3⟩ := try_r (u := u) (R := R) hu (by omega) hm hN hE h hT
      have td : (n3 d).toInt = (d : Int) := nb_t (by omega)
      have q8 : I3 67 8 = m := by rw [r1 67 (by decide) (by decide)]; exact hm8
      have cst : fl_X8_findBestRow_45_2 (n3 (cN T 8 0)) (n3 (3 ^ cN T 8 0)) (fun (_ : Int32) (I16 : Iv) (J17 : Jv) => (I16, J17)) (fc + 1) (n3 R) I J = (if n3 d ≤ m then fl_X8_findBestRow_45_2 (n3 (cN T 8 0)) (n3 (3 ^ cN T 8 0)) (fun (_ : Int32) (I16 : Iv) (J17 : Jv) => (I16, J17)) fc (n3 (R + 1)) I3 J3 else fl_X8_findBestRow_45_2 (n3 (cN T 8 0)) (n3 (3 ^ cN T 8 0)) (fun (_ : Int32) (I16 : Iv) (J17 : Jv) => (I16, J17)) fc (n3 (R + 1)) (wI (wI I3 67 7 (n3 R)) 67 8 (n3 d)) J3) := by
        rw [fl_X8_findBestRow_45_2.eq_2, if_neg nx, e288, hm8, if_neg y, e1, b_n2_mk, l1, b_n2_mk, show fn_X8_boxBulb I2 J1 = (I2 8 8, I2, J1) from rfl, b_n3_mk, l8, h8, w1, b_n3_mk]
        unfold fn_X8_takeIfMore
        rw [q8, n3_up]
        by_cases z : n3 d ≤ m
        · rw [if_pos z, if_pos z, b_n2_mk]
        · rw [if_neg z, if_neg z, l_t, l_t, b_n2_mk]
      by_cases z : n3 d ≤ m
      · have R0 : ¬ R = 0 := fun w => by
          have := Int32.le_iff_toInt_le.mp z
          rw [td, h0 w, show (-1 : Int32).toInt = -1 by decide] at this
          omega
        obtain ⟨a1, a2, a3⟩ := h7 R0
        have tI : TrI I I3 := fun b b1 _ b3 => r1 b b1 b3
        have q7 : I3 67 7 = b := by rw [r1 67 (by decide) (by decide)]; exact a1
        obtain ⟨b', m', I', J', D', x1, x2, x3, x4, x5, x6, x7, x8⟩ := ly_loop hu hm hN hC8 f (R + 1) fc fr I3 J3 D3 b m (by omega) (by omega) (by omega) (env_tr hE tI) (by rw [r1 8 (by decide) (by decide)]; exact h8) (st_tr h tI r2 r3) (hT_tr hT (r1 19 (by decide) (by decide)) r3) q8 (fun w => absurd w (Nat.succ_ne_zero R)) (fun _ => ⟨q7, a2, a3⟩)
        exact ⟨b', m', I', J', D', by rw [cst, if_pos z]; exact x1, fun K => by rw [ly_step hm (by omega) hC8 e2 m1 w2 K, if_pos z]; exact x2 K, x3, x4, x5, tI.tr x6, r2.tr x7, r3.tr x8⟩
      · have tI : TrI I (wI (wI I3 67 7 (n3 R)) 67 8 (n3 d)) := fun b b1 b2 b3 => by rw [wI_row b2, wI_row b2]; exact r1 b b1 b3
        have r19 : (wI (wI I3 67 7 (n3 R)) 67 8 (n3 d)) 19 = I 19 := by rw [wI_row (by decide), wI_row (by decide)]; exact r1 19 (by decide) (by decide)
        have r8 : (wI (wI I3 67 7 (n3 R)) 67 8 (n3 d)) 8 = I 8 := by rw [wI_row (by decide), wI_row (by decide)]; exact r1 8 (by decide) (by decide)
        obtain ⟨b', m', I', J', D', x1, x2, x3, x4, x5, x6, x7, x8⟩ := ly_loop hu hm hN hC8 f (R + 1) fc fr (wI (wI I3 67 7 (n3 R)) 67 8 (n3 d)) J3 D3 (n3 R) (n3 d) (by omega) (by omega) (by omega) (env_tr hE tI) (by rw [r8]; exact h8) (st_tr h tI r2 r3) (hT_tr hT r19 r3) wI_self (fun w => absurd w (Nat.succ_ne_zero R)) (fun _ => ⟨by rw [wI_ne (by omega), wI_self], by rw [td]; omega, R, by omega, rfl⟩)
        exact ⟨b', m', I', J', D', by rw [cst, if_neg z]; exact x1, fun K => by rw [ly_step hm (by omega) hC8 e2 m1 w2 K, if_neg z]; exact x2 K, x3, x4, x5, tI.tr x6, r2.tr x7, r3.tr x8⟩
theorem pwC {I : Iv} {J : Jv} {m : Nat} (hm : m ≤ 6) {K : Int32 → Int32 → Iv × Jv} : ∀ (f k fu x : Nat), k + f = m → f < fu → fl_X8_findBestRow_12_0 I J (n3 m) K fu (n3 x) (n3 k) = K (n3 (x * 3 ^ f)) (n3 m)
  | f, k, 0, _, _, h => absurd h (Nat.not_lt_zero _)
  | 0, k, fu + 1, x, hk, _ => by
    rw [fl_X8_findBestRow_12_0.eq_2, j_n, if_pos (by rw [n3_le (by omega) (by omega)]; omega), show k = m by omega, Nat.pow_zero, Nat.mul_one]
  | f + 1, k, fu + 1, x, hk, hf => by
    rw [fl_X8_findBestRow_12_0.eq_2, j_n, if_neg (by rw [n3_le (by omega) (by omega)]; omega), if_neg (by rw [show (6 : Int32) = n3 6 from rfl, n3_le (by omega) (by omega)]; omega), l_t, show (3 : Int32) = n3 3 from rfl, n3_mul, n3_up, pwC hm f (k + 1) fu (x * 3) (by omega) (by omega), Nat.pow_succ, Nat.mul_assoc, Nat.mul_comm 3 (3 ^ f)]
theorem ly_both {c : Nat} {T : Nat → Bool} {I C : Iv} {J D : Jv} (hc : c ≤ 600) (q : CQ c I J C D) (hm : cN T 8 0 ≤ 6) (hT : hTd T I D) : ∃ (r : Nat) (m : Int32) (I' : Iv) (J' D' : Jv), r < 3 ^ cN T 8 0 ∧ fn_X8_findBestRow I J = (I', J') ∧ (∀ K : Int32 → Int32 → Int32 → Iv → Jv → Int32 × Iv × Jv, fl_X10_lying_44_1 (n3 (cN T 8 0)) K (mU 6561 ((0 : Int32)) + 1) (-1) (-1) 0 C D = K (n3 r) m (n3 (3 ^ cN T 8 0)) C D') ∧ I' 67 7 = n3 r ∧ I' 67 8 = m ∧ TrI I I' ∧ TrJ J J' ∧ TrX D D' := by
  have p := pw3_le hm
  obtain ⟨u, hu, u1, u2⟩ := bulb_u q.2.1
  have tI : TrI I (wI (wI I 67 7 0) 67 8 (-1)) := fun b _ b2 _ => by rw [wI_row b2, wI_row b2]
  have tJ : TrJ J J := fun _ _ _ => rfl
  have tX : TrX D D := ⟨fun _ _ _ => rfl, fun _ _ => rfl⟩
  have r8 : (wI (wI I 67 7 0) 67 8 (-1)) 8 = I 8 := by rw [wI_row (by decide), wI_row (by decide)]
  have r19 : (wI (wI I 67 7 0) 67 8 (-1)) 19 = I 19 := by rw [wI_row (by decide), wI_row (by decide)]
  obtain ⟨b', m', I', J', D', x1, x2, x3, x4, ⟨r, x5, x5'⟩, x6, x7, x8⟩ := ly_loop (N := 2880 * (c : Int)) hu hm (by omega) u2 (3 ^ cN T 8 0) 0 (3 ^ cN T 8 0 + 1) 6562 (wI (wI I 67 7 0) 67 8 (-1)) J D (-1) (-1) (by omega) (by omega) (by omega) (env_tr q.2.1 tI) (by rw [r8]; exact u1) (st_tr q.1 tI tJ tX) (hT_tr hT r19 tX) wI_self (fun _ => rfl) (fun y => absurd rfl y)
  rw [x5'] at x2 x4
  refine ⟨r, m', I', J', D', x5, ?_, fun K => ?_, x4, x3, tI.tr x6, x7, x8⟩
  · unfold fn_X8_findBestRow
    rw [(ft_both (C := C) hT).1, b_n3_mk, mU_n (by omega)]
    have z := pwC (I := I) (J := J) hm (K := fun (x8 : Int32) (_ : Int32) => l_t (wI I 67 7 (0 : Int32)) (fun (I11 : Iv) => l_t (wI I11 67 8 (-1 : Int32)) (fun (I13 : Iv) => fl_X8_findBestRow_45_2 (n3 (cN T 8 0)) x8 (fun (x15 : Int32) (I16 : Iv) (J17 : Jv) => (I16, J17)) (mU x8 ((0 : Int32)) + 1) (0 : Int32) I13 J))) (cN T 8 0) 0 (cN T 8 0 + 1) 1 (by omega) (by omega)
    refine Eq.trans z ?_
    rw [Nat.one_mul, l_t, l_t, mU_n (by omega)]
    exact x1
  · rw [show mU (6561 : Int32) ((0 : Int32)) + 1 = 6562 by decide]
    exact x2 K
theorem cs_lying {c : Nat} {f v1 v2 : Int32} {I I1 I2 : Iv} {J J1 J2 : Jv} (hc : c ≤ 600) (h : CQx c I J) (e1 : fn_X9_lying f I J = (v1, I1, J1)) (e2 : fn_X10_lying f I1 J1 = (v2, I2, J2)) : v1 = v2 := by
  unfold fn_X9_lying at e1
  unfold fn_X10_lying at e2
  dsimp only [j_n] at e1 e2
  have hT := hT_of h.1
  obtain ⟨T, eT⟩ : ∃ T, T = thS 16 I := ⟨_, rfl⟩
  rw [← eT] at hT
  have f1 := (ft_both (J := J) (C := I) hT).1
  have t8 := cN_top (p := T) 8 0
  -- both are there, or f is NONE; or UNKNOWN
  have key : ∀ (w : Int32) (I3 : Iv) (J3 : Jv), (b_n3 (fn_X6_foodsThere 16 I J) (fun (r6 : Int32) (_ : Iv) (_ : Jv) => if r6 ≤ (6 : Int32) then b_n2 (fn_X8_findBestRow I J) (fun (I8 : Iv) (J9 : Jv) => if f = (-1 : Int32) then ((I8 67 8), I8, J9) else b_n3 (fn_X8_shelfInBestRow f I8 J9) (fun (r20 : Int32) (I15 : Iv) (J16 : Jv) => (r20, I15, J16))) else ((-1000000003 : Int32), I, J))) = (w, I3, J3) → (f = -1 ∨ ∃ g, g < 8 ∧ f = n3 g ∧ T g = true) →
      (∀ b, 78 ≤ b → I3 b = I b) ∧ J3 79 = J 79 ∧ ∀ (C : Iv) (D : Jv), CQ c I J C D → ∃ (C' : Iv) (D' : Jv), (b_n3 (fn_X10_foods C D) (fun (r13 : Int32) (_ : Iv) (_ : Jv) => if r13 ≤ (6 : Int32) then fl_X10_lying_44_1 r13 (fun (x15 : Int32) (x16 : Int32) (x17 : Int32) (I18 : Iv) (J19 : Jv) => if f = (-1 : Int32) then (x16, I18, J19) else b_n3 (fn_X10_placeOf f I18 J19) (fun (r33 : Int32) (_ : Iv) (_ : Jv) => b_n3 (fn_X10_rowAt x15 r13 r33 I18 J19) (fun (r40 : Int32) (_ : Iv) (_ : Jv) => (r40, I18, J19)))) (mU 6561 ((0 : Int32)) + 1) (-1 : Int32) (-1 : Int32) (0 : Int32) C D else ((-1000000003 : Int32), C, D))) = (w, C', D') := by
    intro w I3 J3 e hf
    rw [f1, b_n3_mk] at e
    by_cases h6 : cN T 8 0 ≤ 6
    · have h6' : n3 (cN T 8 0) ≤ 6 := by rw [show (6 : Int32) = n3 6 from rfl, n3_le (by omega) (by omega)]; exact h6
      obtain ⟨r, m, I4, J4, D4, y0, y1, -, y7, y8, z1, z2, -⟩ := ly_both hc h h6 hT
      rw [if_pos h6', y1, b_n2_mk] at e
      -- the class's end
      have ce : (∀ b, 78 ≤ b → I3 b = I b) ∧ J3 79 = J 79 ∧ w = (if f = -1 then m else n3 (shN T r f.toNatClampNeg)) := by
        rcases hf with hf | ⟨g, g8, hf, tg⟩
        · rw [if_pos hf] at e
          have a1 : I4 = I3 := congrArg (fun (y : Int32 × Iv × Jv) => y.2.1) e
          have a2 : J4 = J3 := congrArg (fun (y : Int32 × Iv × Jv) => y.2.2) e
          have a0 : I4 67 8 = w := congrArg (fun (y : Int32 × Iv × Jv) => y.1) e
          rw [← a1, ← a2, ← a0, if_pos hf]
          exact ⟨fun b hb => z1 b (by omega) (by omega) (by omega), z2 79 (by omega) (by omega), y8⟩
        · have nf : ¬ f = -1 := fun z => by
            have := congrArg Int32.toInt z
            rw [hf, nb_t (by omega), show (-1 : Int32).toInt = -1 by decide] at this
            omega
          have p := pw3_le h6
          have hT4 : hTd T I4 (fn_X10_begin I J).2 := fun k hk => by
            rw [z1 19 (by decide) (by decide) (by decide)]; exact hT k hk
          obtain ⟨I5, l1, l2, l3⟩ := layIs (J := J4) (q := 77) (R := r) I4 (by decide) (by omega) hT4
          have l1' : fn_X8_layByRow 77 (I4 67 7) I4 J4 = (I5, J4) := by rw [y7]; exact l1
          rw [if_neg nf] at e
          unfold fn_X8_shelfInBestRow at e
          rw [l1', b_n2_mk, hf, if_neg (n3_no0 (by omega)), if_neg (by rw [show (8 : Int32) = n3 8 from rfl, n3_le (by omega) (by omega)]; omega), n3_tn (by omega), b_n3_mk] at e
          have a1 : I5 = I3 := congrArg (fun (y : Int32 × Iv × Jv) => y.2.1) e
          have a2 : J4 = J3 := congrArg (fun (y : Int32 × Iv × Jv) => y.2.2) e
          have a0 : I5 77 g = w := congrArg (fun (y : Int32 × Iv × Jv) => y.1) e
          rw [← a1, ← a2, ← a0, if_neg nf, hf, n3_tn (by omega)]
          exact ⟨fun b hb => by rw [l2 b (by omega)]; exact z1 b (by omega) (by omega) (by omega), z2 79 (by omega) (by omega), l3 g g8 tg⟩
      obtain ⟨c1, c2, c3⟩ := ce
      refine ⟨c1, c2, fun C D q => ?_⟩
      have hTC : hTd T I D := by rw [eT]; exact hT_of q.1
      obtain ⟨r', m', I6, J6, D6, w0, w1, w2, w7, w8, -, -, wX⟩ := ly_both hc q h6 hTC
      rw [y1] at w1
      have b1 : I4 = I6 := congrArg (fun (y : Iv × Jv) => y.1) w1
      rw [← b1] at w7 w8
      have er : n3 r' = n3 r := w7.symm.trans y7
      have em : m' = m := w8.symm.trans y8
      refine ⟨C, D6, ?_⟩
      rw [(ft_both (J := J) (C := C) hTC).2, b_n3_mk, if_pos h6', w2, er, em, c3]
      rcases hf with hf | ⟨g, g8, hf, tg⟩
      · rw [if_pos hf, if_pos hf]
      · have nf : ¬ f = -1 := fun z => by
          have := congrArg Int32.toInt z
          rw [hf, nb_t (by omega), show (-1 : Int32).toInt = -1 by decide] at this
          omega
        have p := pw3_le h6
        have hT6 : hTd T I D6 := hT_tr hTC rfl wX
        rw [if_neg nf, if_neg nf, hf, placeIs (by omega) hT6, b_n3_mk, rowIs (by omega) h6 g8 tg, b_n3_mk, n3_tn (by omega)]
    · have h6' : ¬ n3 (cN T 8 0) ≤ 6 := by rw [show (6 : Int32) = n3 6 from rfl, n3_le (by omega) (by omega)]; exact h6
      rw [if_neg h6'] at e
      have a1 : I = I3 := congrArg (fun (y : Int32 × Iv × Jv) => y.2.1) e
      have a2 : J = J3 := congrArg (fun (y : Int32 × Iv × Jv) => y.2.2) e
      have a0 : (-1000000003 : Int32) = w := congrArg (fun (y : Int32 × Iv × Jv) => y.1) e
      rw [← a1, ← a2, ← a0]
      refine ⟨fun _ _ => rfl, rfl, fun C D q => ⟨C, D, ?_⟩⟩
      have hTC : hTd T I D := by rw [eT]; exact hT_of q.1
      rw [(ft_both (J := J) (C := C) hTC).2, b_n3_mk, if_neg h6']
  by_cases hf : f = -1
  · rw [if_pos hf] at e1
    obtain ⟨k1, k2, k3⟩ := key v1 I1 J1 e1 (Or.inl hf)
    obtain ⟨C, D, eb, n2, lo, lj, q⟩ := cq_open (I1 := I1) (J1 := J1) h k1 k2
    obtain ⟨C', D', k4⟩ := k3 C D q
    rw [eb, b_n2_mk, if_pos hf, k4] at e2
    exact congrArg (fun (y : Int32 × Iv × Jv) => y.1) e2
  · rw [if_neg hf] at e1
    rcases food_is (f := f) (C := I) h.1 with ⟨g, hg, ef, t, hh, -⟩ | ⟨hh, -⟩
    · rw [hh, b_n3_mk, if_neg (by decide)] at e1
      have tg : T g = true := by rw [eT]; unfold thS; show decide (I 19 g = 1) = true; rw [t]; rfl
      obtain ⟨k1, k2, k3⟩ := key v1 I1 J1 e1 (Or.inr ⟨g, hg, ef, tg⟩)
      obtain ⟨C, D, eb, n2, lo, lj, q⟩ := cq_open (I1 := I1) (J1 := J1) h k1 k2
      obtain ⟨C', D', k4⟩ := k3 C D q
      rcases food_is (f := f) (C := C) q.1 with ⟨g', hg', ef', t', -, hh2⟩ | ⟨hh1, -⟩
      rotate_left
      · rw [hh] at hh1; exact absurd (congrArg (fun (y : Int32 × Iv × Jv) => y.1) hh1) (show ¬ (1 : Int32) = 0 by decide)
      rw [eb, b_n2_mk, if_neg hf, hh2, b_n3_mk, if_neg (by decide), k4] at e2
      exact congrArg (fun (y : Int32 × Iv × Jv) => y.1) e2
    · rw [hh, b_n3_mk, if_pos rfl] at e1
      refine (cq_ref (v2 := v2) (I2 := I2) (J2 := J2) h e1 (fun C D eb => ?_)).1
      obtain ⟨C', D', eb', n2, lo, lj, q⟩ := cq_open (I1 := I) (J1 := J) h (fun _ _ => rfl) rfl
      cases e1
      rw [eb] at eb'
      cases eb'
      rcases food_is (f := f) (C := C) q.1 with ⟨g', hg', ef, t', hh1, -⟩ | ⟨-, hh2⟩
      · rw [hh] at hh1; exact absurd (congrArg (fun (y : Int32 × Iv × Jv) => y.1) hh1) (show ¬ (0 : Int32) = 1 by decide)
      rw [eb, b_n2_mk, if_neg hf, hh2, b_n3_mk, if_pos rfl] at e2
      exact e2
