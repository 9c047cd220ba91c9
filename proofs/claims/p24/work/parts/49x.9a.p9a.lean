/-! ===== drawn ===== -/
theorem st_sd {N : Int} {I I' : Iv} {J B B' : Jv} (h : STm N 16 0 I J B) (hI : ∀ b, b ≠ 44 → b ≠ 16 → I' b = I b) (hk : ∀ k, k ≠ 13 → I' 16 k = I 16 k) (h0 : 0 ≤ (I' 16 13).toInt) (h70 : B' 79 70 = (I' 16 13).toInt64) (hB : ∀ j, j ≠ 70 → B' 79 j = B 79 j) : STm N 16 0 I' J B' := by
  refine st_sc (X := 0) h (fun b h1 h2 => hI b (by omega) (by omega)) (by rw [hI _ (by decide) (by decide)]) (fun k hk => hB _ (by omega)) ?_
  obtain ⟨-, -, -, -, ⟨n1, n52⟩, n53, n54, n60, n66, n67, n68, n69, n70⟩ := h
  have dk : ∀ k, k ≠ 70 → B' 79 (0 + k) = B 79 (0 + k) := fun k hk => hB _ (by omega)
  unfold STn SDm
  rw [hI (16 + 8) (by decide) (by decide), hk 8 (by omega), hk 9 (by omega), hk 10 (by omega), hk 11 (by omega), hk 12 (by omega), dk 52 (by omega), dk 53 (by omega), dk 54 (by omega), dk 60 (by omega), dk 61 (by omega), dk 62 (by omega), dk 63 (by omega), dk 64 (by omega), dk 65 (by omega), dk 66 (by omega), dk 67 (by omega), dk 68 (by omega), dk 69 (by omega)]
  exact ⟨⟨n1, n52⟩, n53, n54, n60, n66, n67, n68, n69, Or.inr ⟨h70, h0⟩⟩
theorem st_dr {n m u : Nat} (hn : n ≤ 10) (hm : m ≤ 20) (hu : u < 3) : ∀ (f k fc fr : Nat) (N : Int) (I A : Iv) (J B : Jv), k + f = 288 * n → f < fc → f < fr → N + (f : Int) ≤ 2000000 → (k = 0 ∨ DRw I A) → I 8 8 = n3 u → ENv I A → STm N 16 0 I J B →
    ∃ (I' A' : Iv) (J' B' : Jv), (∀ K : Int32 → Iv → Jv → Int32 × Iv × Jv, fl_X9_drawn_37_0 (n3 n) (n3 m) K fc (n3 k) I J = K (n3 (288 * n)) I' J') ∧ (∀ K : Int32 → Iv → Jv → Int32 × Iv × Jv, fl_X10_drawn_42_0 (n3 n) (n3 m) K fr (n3 k) A B = K (n3 (288 * n)) A' B') ∧ STm (N + (f : Int)) 16 0 I' J' B' ∧ (∀ b, b ≠ 14 → b ≠ 16 → b ≠ 24 → b ≠ 44 → I' b = I b) ∧ FrJ 16 J J' ∧ (∀ b, b ≠ 89 → A' b = A b) ∧ (∀ r, r ≠ 79 → r ≠ 88 → B' r = B r) ∧ ∀ j, 80 ≤ j → B' 79 j = B 79 j
  | f, k, 0, _, _, _, _, _, _, _, h, _, _, _, _, _, _ => absurd h (Nat.not_lt_zero _)
  | f, k, _ + 1, 0, _, _, _, _, _, _, _, h, _, _, _, _, _ => absurd h (Nat.not_lt_zero _)
  | 0, k, fc + 1, fr + 1, N, I, A, J, B, hk, _, _, hN, _, _, hE, h => by
    have ek : k = 288 * n := by omega
    refine ⟨I, A, J, B, fun K => ?_, fun K => ?_, by rw [show N + ((0 : Nat) : Int) = N by omega]; exact h, fun _ _ _ _ _ => rfl, frJ_rfl, fun _ _ => rfl, fun _ _ _ => rfl, fun _ _ => rfl⟩
    · rw [fl_X9_drawn_37_0.eq_2, show (288 : Int32) = n3 288 from rfl, ← Int32.ofNat_mul, if_pos (by rw [nb_le (by omega) (by omega)]; omega), ek]
    · rw [fl_X10_drawn_42_0.eq_2, show (288 : Int32) = n3 288 from rfl, ← Int32.ofNat_mul, if_pos (by rw [nb_le (by omega) (by omega)]; omega), ek]
  | f + 1, k, fc + 1, fr + 1, N, I, A, J, B, hk, hfc, hfr, hN, hd, h8, hE, h => by
    have hT : TkB (I 24 0) := by
      have t0 : 0 ≤ (I 24 0).toInt ∧ (I 24 0).toInt ≤ N := tn_of h
      exact ⟨t0.1, by omega⟩
    have t54 : B 79 54 = (I 24 0).toInt64 := t54_of h
    have sd := Or.resolve_left h.2.2.2.2.2.2.2.2.2.2.2.2 (by decide)
    have s70 : B 79 70 = (I 16 13).toInt64 := sd.1
    have hl := dT_lt (I 24 0)
    -- the doors
    obtain ⟨I1, A1, B1, g1, g2, g3, g4, g5, g6, g7, g8⟩ : ∃ (I1 A1 : Iv) (B1 : Jv), (if n3 k = 0 ∨ n3 (dT (I 24 0)) = 0 then fn_X9_drawDoor (n3 m) I J else (I, J)) = (I1, J) ∧ (if n3 k = 0 ∨ n3 (dT (I 24 0)) = 0 then fn_X10_drawDay (n3 m) A B else (A, B)) = (A1, B1) ∧ DRw I1 A1 ∧ STm N 16 0 I1 J B1 ∧ (∀ b, b ≠ 44 → b ≠ 16 → I1 b = I b) ∧ (∀ b, b ≠ 89 → A1 b = A b) ∧ (∀ r, r ≠ 79 → B1 r = B r) ∧ ∀ j, j ≠ 70 → B1 79 j = B 79 j := by
      by_cases q : n3 k = 0 ∨ n3 (dT (I 24 0)) = 0
      · obtain ⟨I1, A1, B1, x1, x2, x3, x4, x5, x6, x7, x8, x9, x10⟩ := door_b (m := m) (I := I) (A := A) (J := J) (B := B) hm sd.2 s70
        exact ⟨I1, A1, B1, by rw [if_pos q]; exact x1, by rw [if_pos q]; exact x2, x3, st_sd h x4 x5 x6 x7 x10, x4, x8, x9, x10⟩
      · have k0 : ¬ k = 0 := fun z => q (Or.inl (by rw [z]; rfl))
        refine ⟨I, A, B, if_neg q, if_neg q, ?_, h, fun _ _ _ => rfl, fun _ _ => rfl, fun _ _ => rfl, fun _ _ => rfl⟩
        rcases hd with z | z
        · exact absurd z k0
        · exact z
    obtain ⟨op, o1, o2⟩ := g3 (dT (I 24 0)) hl
    have e8 : I1 8 = I 8 := g5 8 (by decide) (by decide)
    have hE1 : ENv I1 A1 := env_row hE (fun b hb => g5 b (by omega) (by omega)) (by rw [g6 78 (by decide)]) (fun j _ => by rw [g6 81 (by decide)]) (g6 83 (by decide)) (g6 84 (by decide))
    obtain ⟨I2, J2, B2, e1, e2, s2, p1, p2, p3, p4, p5, p6⟩ := st_tick (u := u) (less := 0) (op := op) (A := A1) (o := 16) (X := 0) (by omega) (by omega) hu (by omega) hE1.1 hE1.2.1 (by decide) g4
    have fI : FrI 16 I1 I2 := ⟨p1, p2⟩
    have hE2 : ENv I2 A1 := env_fr (by omega) hE1 fI
    obtain ⟨I3, A3, J3, B3, e3, e4, s3, q1, q2, q3, q4, q5⟩ := st_dr (n := n) (m := m) (u := u) hn hm hu f (k + 1) fc fr (N + 1) I2 A1 J2 B2 (by omega) (by omega) (by omega) (by omega) (Or.inr (fun t ht => by
      obtain ⟨b, b1, b2⟩ := g3 t ht
      exact ⟨b, by rw [p1 44 (by decide) (by decide) (by decide)]; exact b1, b2⟩)) (by rw [p1 8 (by decide) (by decide) (by decide), e8]; exact h8) hE2 s2
    have a8 : A1 81 8 = n3 u := by rw [hE1.2.1 8 (by omega), e8]; exact h8
    refine ⟨I3, A3, J3, B3, fun K => ?_, fun K => ?_, by rw [show N + ((f + 1 : Nat) : Int) = N + 1 + (f : Int) by omega]; exact s3, fun b b1 b2 b3' b4 => by rw [q1 b b1 b2 b3' b4, p1 b b1 b2 b3', g5 b b4 b2], FrJ.tr p4 q2, fun b hb => by rw [q3 b hb, g6 b hb], fun r r1 r2 => by rw [q4 r r1 r2, p5 r r1 r2, g7 r r1], fun j hj => by rw [q5 j hj, p6 j (by omega), g8 j (by omega)]⟩
    · rw [fl_X9_drawn_37_0.eq_2, show (288 : Int32) = n3 288 from rfl, ← Int32.ofNat_mul, if_neg (by rw [nb_le (by omega) (by omega)]; omega), fX6_day hT, b_n3_mk]
      rcases hx : fn_X9_drawDoor (n3 m) I J with ⟨Ix, Jx⟩
      rw [hx] at g1
      have jj := j_dr (c1 := n3 k = 0) (c2 := n3 (dT (I 24 0)) = 0) (I := I) (I' := Ix) (J := J) (J' := Jx) (fun (I14 : Iv) (J15 : Jv) => b_n2 (fn_X7_pass 16 (I14 44 (n3 (dT (I 24 0))).toNatClampNeg) (I14 8 8) (0 : Int32) I14 J15) (fun (I17 : Iv) (J18 : Jv) => fl_X9_drawn_37_0 (n3 n) (n3 m) K fc (n3 k + 1) I17 J18))
      rw [g1] at jj
      rw [jj]
      dsimp only
      rw [n3_tn (by omega), o1, e8, h8, e1, b_n2_mk, n3_up]
      exact e3 K
    · rw [fl_X10_drawn_42_0.eq_2, show (288 : Int32) = n3 288 from rfl, ← Int32.ofNat_mul, if_neg (by rw [nb_le (by omega) (by omega)]; omega), t54, day6 hT, wsd6, l_t]
      rcases hx : fn_X10_drawDay (n3 m) A B with ⟨Ax, Bx⟩
      rw [hx] at g2
      have jj := j_dr (c1 := n3 k = 0) (c2 := n3 (dT (I 24 0)) = 0) (I := A) (I' := Ax) (J := B) (J' := Bx) (fun (I29 : Iv) (J30 : Jv) => b_n2 (fn_X10_tick (0 : Int32) (I29 89 (n3 (dT (I 24 0))).toNatClampNeg) (I29 81 8) (0 : Int32) I29 J30) (fun (_ : Iv) (J32 : Jv) => fl_X10_drawn_42_0 (n3 n) (n3 m) K fr (n3 k + 1) I29 J32))
      rw [g2] at jj
      rw [jj]
      dsimp only
      have e2' : fn_X10_tick 0 (b3 op) (n3 u) 0 A1 B1 = (A1, B2) := e2
      rw [n3_tn (by omega), o2, a8, e2', b_n2_mk, n3_up]
      exact e4 K
theorem cq_drawn {c : Nat} {n m v1 v2 : Int32} {I I1 I2 : Iv} {J J1 J2 : Jv} (hc : c ≤ 600) (h : CQx c I J) (e1 : fn_X9_drawn n m I J = (v1, I1, J1)) (e2 : fn_X10_drawn n m I1 J1 = (v2, I2, J2)) : v1 = v2 ∧ CQx (c + 1) I2 J2 := by
  unfold fn_X9_drawn at e1
  unfold fn_X10_drawn at e2
  by_cases hn : 1 ≤ n ∧ n ≤ 10
  rotate_left
  · have e1' : ((-1000000002, I, J) : Int32 × Iv × Jv) = (v1, I1, J1) := by
      by_cases h1 : n < 1
      · rw [if_pos h1] at e1; exact e1
      · rw [if_neg h1, if_pos (Int32.not_le.mp (fun z => hn ⟨Int32.not_lt.mp h1, z⟩))] at e1; exact e1
    exact cq_ref h e1' (fun C D eb => by rw [eb, b_n2_mk, fX10_in3 n 1 10 1 10 (by decide) (by decide), b_n3_mk, decide_eq_false hn, if_pos (show b3 false = 0 from rfl)] at e2; exact e2)
  rw [if_neg (Int32.not_lt.mpr hn.1), if_neg (Int32.not_lt.mpr hn.2)] at e1
  by_cases hm : 0 ≤ m ∧ m ≤ 20
  rotate_left
  · have e1' : ((-1000000002, I, J) : Int32 × Iv × Jv) = (v1, I1, J1) := by
      by_cases h1 : m < 0
      · rw [if_pos h1] at e1; exact e1
      · rw [if_neg h1, if_neg (fun z => hm ⟨Int32.not_lt.mp h1, z⟩)] at e1; exact e1
    exact cq_ref h e1' (fun C D eb => by rw [eb, b_n2_mk, fX10_in3 n 1 10 1 10 (by decide) (by decide), b_n3_mk, decide_eq_true hn, if_neg (show ¬ b3 true = 0 by decide), fX10_in3 m 0 20 0 20 (by decide) (by decide), b_n3_mk, decide_eq_false hm, if_pos (show b3 false = 0 from rfl)] at e2; exact e2)
  rw [if_neg (Int32.not_lt.mpr hm.1), if_pos hm.2, l_t] at e1
  obtain ⟨n', rfl, n1, n2⟩ : ∃ k : Nat, n = n3 k ∧ 1 ≤ k ∧ k ≤ 10 := by
    have a := Int32.le_iff_toInt_le.mp hn.1
    have b := Int32.le_iff_toInt_le.mp hn.2
    rw [show (1 : Int32).toInt = 1 by decide] at a
    rw [show (10 : Int32).toInt = 10 by decide] at b
    have p0 : (0 : Int32) ≤ n := by rw [Int32.le_iff_toInt_le, show (0 : Int32).toInt = 0 by decide]; omega
    refine ⟨n.toNatClampNeg, n3_of p0, ?_, ?_⟩ <;> (unfold Int32.toNatClampNeg; omega)
  obtain ⟨m', rfl, m2⟩ : ∃ k : Nat, m = n3 k ∧ k ≤ 20 := by
    have a := Int32.le_iff_toInt_le.mp hm.1
    have b := Int32.le_iff_toInt_le.mp hm.2
    rw [show (0 : Int32).toInt = 0 by decide] at a
    rw [show (20 : Int32).toInt = 20 by decide] at b
    refine ⟨m.toNatClampNeg, n3_of hm.1, ?_⟩; unfold Int32.toNatClampNeg; omega
  obtain ⟨u, hu, e8⟩ : ∃ u : Nat, u < 3 ∧ I 8 8 = n3 u := by
    have b8 := h.2.1.1.2.2.2.2.2.2.2.2.1
    exact ⟨(I 8 8).toNatClampNeg, (sh_of b8).2, (sh_of b8).1⟩
  have f1 : mU (n3 n' * 288) 0 + 1 = 288 * n' + 1 := by
    rw [show (288 : Int32) = n3 288 from rfl, ← Int32.ofNat_mul, mU_n (by omega), Nat.mul_comm]
  have f2 : mU (288 * n3 n') 0 + 1 = 288 * n' + 1 := by
    rw [show (288 : Int32) = n3 288 from rfl, ← Int32.ofNat_mul, mU_n (by omega)]
  rw [f1] at e1
  obtain ⟨K, A', L, B', g1, g2, g3, g4, g5, g6, g7, g8⟩ := st_dr (n := n') (m := m') (u := u) n2 m2 hu (288 * n') 0 (288 * n' + 1) (288 * n' + 1) (2880 * (c : Int)) I _ J _ (by omega) (by omega) (by omega) (by omega) (Or.inl rfl) e8 h.2.1 h.1
  have g1' : ∀ K2 : Int32 → Iv → Jv → Int32 × Iv × Jv, fl_X9_drawn_37_0 (n3 n') (n3 m') K2 (288 * n' + 1) 0 I J = K2 (n3 (288 * n')) K L := g1
  rw [g1'] at e1
  cases e1
  obtain ⟨C, D, eb, n2', lo, lj, q⟩ := cq_open (I1 := I1) (J1 := J1) h (fun b hb => g4 b (by omega) (by omega) (by omega) (by omega)) (g5 79 (by omega) (by omega) (by omega))
  obtain ⟨K2, A2, L2, B2, k1, k2, k3, k4, k5, k6, k7, k8⟩ := st_dr (n := n') (m := m') (u := u) n2 m2 hu (288 * n') 0 (288 * n' + 1) (288 * n' + 1) (2880 * (c : Int)) I C J D (by omega) (by omega) (by omega) (by omega) (Or.inl rfl) e8 q.2.1 q.1
  have same : K2 = I1 ∧ L2 = J1 := by
    have a := k1 (fun x i j => (x, i, j))
    have b := g1 (fun x i j => (x, i, j))
    rw [a] at b
    exact ⟨congrArg (fun z => z.2.1) b, congrArg (fun z => z.2.2) b⟩
  obtain ⟨rfl, rfl⟩ := same
  have k2' : ∀ K2 : Int32 → Iv → Jv → Int32 × Iv × Jv, fl_X10_drawn_42_0 (n3 n') (n3 m') K2 (288 * n' + 1) 0 C D = K2 (n3 (288 * n')) A2 B2 := k2
  rw [eb, b_n2_mk, fX10_in3 (n3 n') 1 10 1 10 (by decide) (by decide), b_n3_mk, decide_eq_true hn, if_neg (show ¬ b3 true = 0 by decide), fX10_in3 (n3 m') 0 20 0 20 (by decide) (by decide), b_n3_mk, decide_eq_true hm, if_neg (show ¬ b3 true = 0 by decide), l_t, f2, k2'] at e2
  cases e2
  have a1 := q.1.2.2.2.2.2.2.2.1.2.2.2.1
  have a2 := k3.2.2.2.2.2.2.2.1.2.2.2.1
  have a1' : (D 79 63).toInt32 = I 24 1 := a1
  have a2' : (J2 79 63).toInt32 = K2 24 1 := a2
  refine ⟨by rw [Int64.toInt32_sub, a1', a2'], cqx_fin eb (fun b hb => k6 b (by omega)) (fun r hr => k7 r (by omega) (by omega)) (by rw [k6 78 (by decide)]) ?_⟩
  have w : CQ (c + 1) K2 L2 C J2 := cq_now q (k3.mono (by omega)) (fun b hb => k4 b (by omega) (by omega) (by omega) (by omega)) (fun r h1 h2 => k5 r (by omega) (by omega) (by omega)) (fun k hk => k8 k (by omega)) rfl
  exact cq_row w (fun _ _ => rfl) (fun _ _ _ => rfl) (fun _ _ => rfl) (fun j _ => by rw [k6 81 (by decide)]) (k6 83 (by decide)) (k6 84 (by decide)) (k6 80 (by decide)) (by rw [k6 78 (by decide)])
