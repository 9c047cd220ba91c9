/-! ===== the class learns SIGNS ===== -/
theorem begC {s : Nat} (I : Iv) (J : Jv) (hs : s < 128) : ∃ (I' : Iv) (J' : Jv), fn_X1_begin (n3 s) 1 I J = (I', J') ∧ (∀ b, b ≠ 46 → b ≠ 48 → b ≠ 49 → b ≠ 54 → I' b = I b) ∧ (∀ r, r ≠ 47 → r ≠ 53 → J' r = J r) ∧ (∀ (A : Iv) (B : Jv), STm 0 46 80 I' J' (tfR s A B)) ∧ CNx 46 0 I' := by
  have hsb : SB (n3 s) := ⟨by rw [nb_t (by omega)]; omega, by rw [nb_t (by omega)]; omega⟩
  have e8 : (wI (wI I 46 8 (n3 s)) 46 12 1) 46 8 = n3 s := by rw [wI_ne (by omega), wI_self]
  have e12 : (wI (wI I 46 8 (n3 s)) 46 12 1) 46 12 = 1 := wI_self
  have er : ∀ b, b ≠ 46 → (wI (wI I 46 8 (n3 s)) 46 12 1) b = I b := fun b hb => by rw [wI_row hb, wI_row hb]
  obtain ⟨I0, hI0⟩ : ∃ I0, I0 = wI (wI I 46 8 (n3 s)) 46 12 1 := ⟨_, rfl⟩
  rw [← hI0] at e8 e12 er
  obtain ⟨I', J', e, f2, f3, c3, c4, c5, c6, c7, c8, c9, c10, c11⟩ := frshC (o := 46) I0 J (by omega) (by rw [e8]; exact hsb)
  refine ⟨I', J', ?_, fun b h1 h2 h3 h4 => by rw [f2 b h1 h2 h3 h4, er b h1], f3, fun A B => ?_, fun j h1 h3 => ?_⟩
  · unfold fn_X1_begin
    rw [l_t, l_t, ← hI0, e, b_n2_mk]
  · obtain ⟨-, -, tt⟩ := tryR s A B
    refine st_fresh (I := I0) (B := wJ (wJ B 79 132 (n3 s).toInt64) 79 149 1) (by omega) (by rw [e8]; exact hsb) ?_ ⟨true, e12, ?_⟩ (Or.inl rfl) c3 c4 c5 c6 c7 c8 c9 c10 c11 tt
    · show wJ (wJ B 79 132 (n3 s).toInt64) 79 149 1 79 132 = _
      rw [wJ_ne (by omega), wJ_self, e8]
    · show wJ (wJ B 79 132 (n3 s).toInt64) 79 149 1 79 149 = _
      rw [wJ_self]; rfl
  · have z := c9 j (by omega)
    rw [if_neg (fun y => by have := y.1; omega)] at z
    rw [z, show (0 : Int32).toInt = 0 by decide]; omega
theorem lnW {J : Jv} {p : Nat} (hp : p ≤ 6000) : ∀ (f k fu : Nat) (I : Iv), k + f = 3 → f < fu → ∃ I' : Iv, (∀ K : Int32 → Iv → Iv × Jv, fl_X1_learn_148_1 J (n3 p) K fu (n3 k) I = K 3 I') ∧ (∀ b, b ≠ 56 → I' b = I b) ∧ ∀ j, I' 56 j = (if p + 2 + k ≤ j ∧ j < p + 5 then wC 46 I J (j - (p + 2)) else I 56 j)
  | f, k, 0, _, _, h => absurd h (Nat.not_lt_zero _)
  | 0, k, fu + 1, I, hk, _ => ⟨I, fun K => by
      rw [fl_X1_learn_148_1.eq_2, if_pos (by rw [show (3 : Int32) = n3 3 from rfl, n3_le (by omega) (by omega)]; omega), show k = 3 by omega]; rfl, fun _ _ => rfl, fun j => by rw [if_neg (by omega)]⟩
  | f + 1, k, fu + 1, I, hk, hf => by
    obtain ⟨I', e, r1, r2⟩ := lnW (J := J) hp f (k + 1) fu (wI I 56 (p + 2 + k) (wC 46 I J k)) (by omega) (by omega)
    refine ⟨I', fun K => ?_, fun b h => by rw [r1 b h, wI_row h], fun j => ?_⟩
    · rw [fl_X1_learn_148_1.eq_2, if_neg (by rw [show (3 : Int32) = n3 3 from rfl, n3_le (by omega) (by omega)]; omega), fX6_warmthOf (by omega), b_n3_mk, show (2 : Int32) = n3 2 from rfl, n3_add, n3_add, nb_tn (by omega), l_t, n3_up]
      exact e K
    · have ew : ∀ i, wC 46 (wI I 56 (p + 2 + k) (wC 46 I J k)) J i = wC 46 I J i := fun i => by
        unfold wC; rw [wI_row (show (46 + 2 : Nat) ≠ 56 by decide)]
      rw [r2 j]
      by_cases q : j = p + 2 + k
      · rw [q, if_neg (by omega), if_pos (by omega), wI_self, show p + 2 + k - (p + 2) = k by omega]
      · rw [wI_ne (Or.inr q), ew]
        by_cases q2 : p + 2 + (k + 1) ≤ j ∧ j < p + 5
        · rw [if_pos q2, if_pos (by omega)]
        · rw [if_neg q2, if_neg (by omega)]
theorem plc {s d : Nat} (hd : 1 ≤ d) (I : Iv) (J : Jv) : fn_X1_placeOf (n3 s) (n3 d) I J = (n3 ((s * 6 + (d - 1)) * 7), I, J) := by
  have e : (((n3 s * 6) + n3 d) - 1) * 7 = n3 ((s * 6 + (d - 1)) * 7) := by
    rw [show (6 : Int32) = n3 6 from rfl, ← Int32.ofNat_mul, n3_add, show (1 : Int32) = n3 1 from rfl, n3_sub (by omega), show (7 : Int32) = n3 7 from rfl, ← Int32.ofNat_mul, show s * 6 + d - 1 = s * 6 + (d - 1) by omega]
  unfold fn_X1_placeOf
  rw [e]
/-- one DAY of the loop -/
theorem lnDay {s d m : Nat} {I I1 : Iv} {J J1 : Jv} (hs : s < 128) (hd : 1 ≤ d) (hdm : d ≤ m) (hm : m ≤ 6) (e1 : fn_X7_passByDay 46 288 (I 8 8) I J = (I1, J1)) : ∃ I2 : Iv, (∀ (K : Int32 → Iv → Jv → Iv × Jv) (fu : Nat), fl_X1_learn_33_0 (n3 s) (n3 m) K (fu + 1) (n3 d) I J = fl_X1_learn_33_0 (n3 s) (n3 m) K fu (n3 (d + 1)) I2 J1) ∧ (∀ b, b ≠ 56 → I2 b = I1 b) ∧
    (∀ j, j < (s * 6 + (d - 1)) * 7 ∨ (s * 6 + (d - 1)) * 7 + 7 ≤ j → I2 56 j = I1 56 j) ∧ I2 56 ((s * 6 + (d - 1)) * 7 + 0) = I1 54 3 - I 54 3 ∧ I2 56 ((s * 6 + (d - 1)) * 7 + 1) = I1 54 2 - I 54 2 ∧ (∀ k, k < 3 → I2 56 ((s * 6 + (d - 1)) * 7 + (2 + k)) = wC 46 I1 J1 k) ∧ I2 56 ((s * 6 + (d - 1)) * 7 + 5) = I1 54 5 ∧ I2 56 ((s * 6 + (d - 1)) * 7 + 6) = I1 54 1 - I 54 1 := by
  have hp : (s * 6 + (d - 1)) * 7 ≤ 6000 := by omega
  have ep := plc (s := s) (d := d) hd I1 J1
  generalize (s * 6 + (d - 1)) * 7 = p at *
  obtain ⟨I5, e5, r1, r2⟩ := lnW (J := J1) hp 3 0 (mU (3 : Int32) ((0 : Int32)) + 1) (wI (wI I1 56 p (I1 54 3 - I 54 3)) 56 (p + 1) (I1 54 2 - I 54 2)) rfl (by decide)
  have e5' : ∀ K : Int32 → Iv → Iv × Jv, fl_X1_learn_148_1 J1 (n3 p) K (mU (3 : Int32) ((0 : Int32)) + 1) 0 (wI (wI I1 56 p (I1 54 3 - I 54 3)) 56 (p + 1) (I1 54 2 - I 54 2)) = K 3 I5 := e5
  have r54 : ∀ k, I5 54 k = I1 54 k := fun k => by rw [r1 54 (by decide), wI_row (by decide), wI_row (by decide)]
  have ew : ∀ i, wC 46 (wI (wI I1 56 p (I1 54 3 - I 54 3)) 56 (p + 1) (I1 54 2 - I 54 2)) J1 i = wC 46 I1 J1 i := fun i => by
    unfold wC; rw [wI_row (show (46 + 2 : Nat) ≠ 56 by decide), wI_row (show (46 + 2 : Nat) ≠ 56 by decide)]
  refine ⟨wI (wI I5 56 (p + 5) (I5 54 5)) 56 (p + 6) (I5 54 1 - I 54 1), fun K fu => ?_, fun b hb => ?_, fun j hj => ?_, ?_, ?_, fun k hk => ?_, ?_, ?_⟩
  · have t0 : (n3 p).toNatClampNeg = p := nb_tn (by omega)
    have t1 : (n3 p + 1).toNatClampNeg = p + 1 := by rw [n3_up]; exact nb_tn (by omega)
    have t5 : (n3 p + 5).toNatClampNeg = p + 5 := by rw [show (5 : Int32) = n3 5 from rfl, n3_add]; exact nb_tn (by omega)
    have t6 : (n3 p + 6).toNatClampNeg = p + 6 := by rw [show (6 : Int32) = n3 6 from rfl, n3_add]; exact nb_tn (by omega)
    rw [fl_X1_learn_33_0.eq_2, if_neg (by rw [n3_lt (by omega) (by omega)]; omega), l_t, l_t, l_t, e1, b_n2_mk, ep, b_n3_mk, t0, t1, l_t, l_t]
    rw [wI_row (show (54 : Nat) ≠ 56 by decide), e5', t5, t6, l_t, l_t, wI_row (show (54 : Nat) ≠ 56 by decide), n3_up]
  · rw [wI_row hb, wI_row hb, r1 b hb, wI_row hb, wI_row hb]
  · rw [wI_ne (by omega), wI_ne (by omega), r2 j, if_neg (by omega), wI_ne (by omega), wI_ne (by omega)]
  · rw [wI_ne (by omega), wI_ne (by omega), r2 _, if_neg (by omega), wI_ne (by omega), Nat.add_zero, wI_self]
  · rw [wI_ne (by omega), wI_ne (by omega), r2 _, if_neg (by omega), wI_self]
  · rw [wI_ne (by omega), wI_ne (by omega), r2 _, if_pos (by omega), ew, show p + (2 + k) - (p + 2) = k by omega]
  · rw [wI_ne (by omega), wI_self, r54]
  · rw [wI_self, r54]
/-- a DAY's SIGNS are the reference's -/
theorem sg_val {N0 N : Int} {I I1 : Iv} {J J1 B1 B2 : Jv} (h0 : STm N0 46 80 I J B1) (h1 : STm N 46 80 I1 J1 B2) (hN : N ≤ 2000000) :
    I1 54 3 - I 54 3 = sgD B1 B2 0 ∧ I1 54 2 - I 54 2 = sgD B1 B2 1 ∧ (∀ k, k < 3 → wC 46 I1 J1 k = sgD B1 B2 (2 + k)) ∧ I1 54 5 = sgD B1 B2 5 ∧ I1 54 1 - I 54 1 = sgD B1 B2 6 := by
  obtain ⟨-, -, -, -, -, -, -, ⟨-, -, -, a63, a64, a65⟩, -⟩ := h0
  obtain ⟨-, -, -, -, -, ⟨-, c53⟩, c54, ⟨-, -, -, c63, c64, c65⟩, -⟩ := id h1
  have a63' : (B1 79 143).toInt32 = I 54 1 := a63
  have a64' : (B1 79 144).toInt32 = I 54 2 := a64
  have a65' : (B1 79 145).toInt32 = I 54 3 := a65
  have c63' : (B2 79 143).toInt32 = I1 54 1 := c63
  have c64' : (B2 79 144).toInt32 = I1 54 2 := c64
  have c65' : (B2 79 145).toInt32 = I1 54 3 := c65
  have c53' : B2 79 133 = (I1 54 5).toInt64 := c53
  have t54 := c54.1
  have hM : wmT (I1 (46 + 8) 0) ≤ 100000000 := by unfold wmT; omega
  obtain ⟨hW, hR⟩ := st_W rfl hM h1
  have key : ∀ k, k < 4 → wC 46 I1 J1 k = (B2 79 (80 + k) / cpR 80 B2 k).toInt32 := fun k hk => by
    rw [hR.1 k hk, ← (hW.1 k hk).1, wsd6]
  refine ⟨?_, ?_, fun k hk => ?_, ?_, ?_⟩
  · show _ = (B2 79 145).toInt32 - (B1 79 145).toInt32
    rw [a65', c65']
  · show _ = (B2 79 144).toInt32 - (B1 79 144).toInt32
    rw [a64', c64']
  · rw [key k (by omega)]
    rcases (show k = 0 ∨ k = 1 ∨ k = 2 by omega) with rfl | rfl | rfl
    · exact (Int32.sub_zero _).symm
    · exact (Int32.sub_zero _).symm
    · exact (Int32.sub_zero _).symm
  · show _ = (B2 79 133).toInt32 - 0
    rw [c53', wsd6]; exact (Int32.sub_zero _).symm
  · show _ = (B2 79 143).toInt32 - (B1 79 143).toInt32
    rw [a63', c63']
theorem sg_bd {N t0 t1 : Int} {I I1 : Iv} {J1 B2 : Jv} (h1 : STm N 46 80 I1 J1 B2) (hN : N ≤ 2000) (c0 : CNx 46 t0 I) (c1 : CNx 46 t1 I1) (ht0 : t0 ≤ 2000) (ht1 : t1 ≤ 2000) :
    (∀ j, 1 ≤ j → j ≤ 3 → -1000000 ≤ (I1 54 j - I 54 j).toInt ∧ (I1 54 j - I 54 j).toInt ≤ 1000000) ∧ (∀ k, k < 3 → -1000000 ≤ (wC 46 I1 J1 k).toInt ∧ (wC 46 I1 J1 k).toInt ≤ 1000000) ∧ -1000000 ≤ (I1 54 5).toInt ∧ (I1 54 5).toInt ≤ 1000000 := by
  obtain ⟨-, -, -, -, -, ⟨f53, -⟩, c54, -⟩ := id h1
  have f53' : 0 ≤ (I1 54 5).toInt ∧ (I1 54 5).toInt ≤ 9999 := f53
  have t54 : (I1 54 0).toInt ≤ N := c54.1.2
  have hM2 : wmT (I1 (46 + 8) 0) ≤ 100000 := by
    show 10000 + 30 * (I1 54 0).toInt ≤ 100000
    omega
  obtain ⟨hW, -⟩ := st_W rfl (show wmT (I1 (46 + 8) 0) ≤ 100000000 by omega) h1
  refine ⟨fun j h1 h3 => ?_, fun k hk => ?_, by omega⟩
  · have a : 0 ≤ (I 54 j).toInt ∧ (I 54 j).toInt ≤ 200 * t0 := c0 j h1 h3
    have b : 0 ≤ (I1 54 j).toInt ∧ (I1 54 j).toInt ≤ 200 * t1 := c1 j h1 h3
    rw [i3_sub (by omega) (by omega)]; omega
  · have w := hW.1 k (by omega)
    have w2 := w.2
    rw [← w.1] at w2
    unfold WB at w2
    rw [wd6] at w2
    omega
/-- the class's row of SIGNS, of a SET s over e DAYS, is what the reference finds -/
def SGv (s e : Nat) (I : Iv) : Prop := ∀ k, k < 7 → (∀ (A : Iv) (B : Jv), ENv I A → I 56 ((s * 6 + (e - 1)) * 7 + k) = sgD (itR A 80 (288 * (e - 1)) (tfR s A B)) (itR A 80 (288 * e) (tfR s A B)) k) ∧ -1000000 ≤ (I 56 ((s * 6 + (e - 1)) * 7 + k)).toInt ∧ (I 56 ((s * 6 + (e - 1)) * 7 + k)).toInt ≤ 1000000
def SG (I : Iv) : Prop := ∀ s e : Nat, s < 128 → 1 ≤ e → e ≤ 6 → n3 e ≤ I 55 s → SGv s e I
theorem env_b {I I' A : Iv} (h : ENv I' A) (e : ∀ b, b = 8 ∨ b = 10 ∨ b = 11 ∨ b = 12 → I' b = I b) : ENv I A := env_row h (fun b hb => (e b hb).symm) rfl (fun _ _ => rfl) rfl rfl
theorem sgv_row {s e : Nat} {I I' : Iv} (h : SGv s e I) (e0 : ∀ b, b = 8 ∨ b = 10 ∨ b = 11 ∨ b = 12 → I' b = I b) (e56 : ∀ k, k < 7 → I' 56 ((s * 6 + (e - 1)) * 7 + k) = I 56 ((s * 6 + (e - 1)) * 7 + k)) : SGv s e I' := by
  intro k hk
  rw [e56 k hk]
  exact ⟨fun A B hA => (h k hk).1 A B (env_b hA e0), (h k hk).2⟩
theorem lnL {s m : Nat} (hs : s < 128) (hm : m ≤ 6) {A0 : Iv} {B0 : Jv} : ∀ (f d fu : Nat) (I : Iv) (J : Jv), d + f = m + 1 → 1 ≤ d → f < fu → ENv I A0 → (∀ (A : Iv) (B : Jv), ENv I A → STm ((288 * (d - 1) : Nat) : Int) 46 80 I J (itR A 80 (288 * (d - 1)) (tfR s A B))) → CNx 46 ((288 * (d - 1) : Nat) : Int) I →
    ∃ (I' : Iv) (J' : Jv), (∀ K : Int32 → Iv → Jv → Iv × Jv, fl_X1_learn_33_0 (n3 s) (n3 m) K fu (n3 d) I J = K (n3 (m + 1)) I' J') ∧ (∀ b, b ≠ 14 → b ≠ 46 → b ≠ 54 → b ≠ 56 → I' b = I b) ∧ (∀ r, r ≠ 15 → r ≠ 47 → r ≠ 53 → J' r = J r) ∧ (∀ j, j < (s * 6 + (d - 1)) * 7 ∨ (s * 6 + m) * 7 ≤ j → I' 56 j = I 56 j) ∧ ∀ e, d ≤ e → e ≤ m → SGv s e I'
  | f, d, 0, _, _, _, _, h, _, _, _ => absurd h (Nat.not_lt_zero _)
  | 0, d, fu + 1, I, J, hd, h1, _, hE, hS, hC => by
    refine ⟨I, J, fun K => ?_, fun _ _ _ _ _ => rfl, fun _ _ _ _ => rfl, fun _ _ => rfl, fun e h2 h3 => by omega⟩
    rw [fl_X1_learn_33_0.eq_2, if_pos (by rw [n3_lt (by omega) (by omega)]; omega), show d = m + 1 by omega]
  | f + 1, d, fu + 1, I, J, hd, h1, hf, hE, hS, hC => by
    obtain ⟨u, hu, e8⟩ : ∃ u : Nat, u < 3 ∧ I 8 8 = n3 u := by
      have b8 := hE.1.2.2.2.2.2.2.2.2.1
      exact ⟨(I 8 8).toNatClampNeg, (sh_of b8).2, (sh_of b8).1⟩
    have A8 : ∀ A : Iv, ENv I A → A 81 8 = n3 u := fun A hA => by rw [hA.2.1 8 (by omega)]; exact e8
    obtain ⟨I1, J1, B', e1, -, -, fI, fJ, -, -⟩ := go_both (o := 46) (X := 80) (u := u) (n := 288) (by omega) (by omega) hu (by omega) (A8 _ hE) (by omega) hE (hS A0 B0 hE)
    have e1' : fn_X7_passByDay 46 288 (I 8 8) I J = (I1, J1) := by rw [e8]; exact e1
    have c1 := cn_run (X := 80) (by omega) (by omega) hu (by omega) (by omega) ⟨by omega, by omega⟩ hE (hS A0 B0 hE) hC e1
    have r1 : ∀ b, b ≠ 14 → b ≠ 46 → b ≠ 54 → I1 b = I b := fI.1
    -- for each of the reference's
    have all : ∀ (A : Iv) (B : Jv), ENv I A → STm ((288 * d : Nat) : Int) 46 80 I1 J1 (itR A 80 (288 * d) (tfR s A B)) := by
      intro A B hA
      obtain ⟨I3, J3, B3, x1, x2, x3, -, -, -, -⟩ := go_both (o := 46) (X := 80) (u := u) (n := 288) (by omega) (by omega) hu (by omega) (A8 _ hA) (by omega) hA (hS A B hA)
      rw [e1] at x1
      have y1 : I1 = I3 := congrArg (fun (y : Iv × Jv) => y.1) x1
      have y2 : J1 = J3 := congrArg (fun (y : Iv × Jv) => y.2) x1
      rw [goR_it A _ (by omega) (by omega), ← itR_add, show 288 * (d - 1) + 288 = 288 * d by omega] at x2
      have y3 : itR A 80 (288 * d) (tfR s A B) = B3 := congrArg (fun (y : Iv × Jv) => y.2) x2
      rw [y1, y2, y3]
      exact x3.mono (by omega)
    obtain ⟨I2, l1, l2, l3, l4, l5, l6, l7, l8⟩ := lnDay (s := s) (d := d) (m := m) hs h1 (by omega) hm e1'
    have r2 : ∀ b, b ≠ 14 → b ≠ 46 → b ≠ 54 → b ≠ 56 → I2 b = I b := fun b h14 h46 h54 h56 => by rw [l2 b h56, r1 b h14 h46 h54]
    have env : ∀ b, b = 8 ∨ b = 10 ∨ b = 11 ∨ b = 12 → I2 b = I b := fun b hb => r2 b (by omega) (by omega) (by omega) (by omega)
    have hE2 : ENv I2 A0 := env_row hE env rfl (fun _ _ => rfl) rfl rfl
    obtain ⟨I', J', q1, q2, q3, q4, q5⟩ := lnL hs hm (A0 := A0) (B0 := B0) f (d + 1) fu I2 J1 (by omega) (by omega) (by omega) hE2 (fun A B hA => by
      have := all A B (env_b hA env)
      rw [show d + 1 - 1 = d by omega]
      exact st_row this (fun b b1 b2 => l2 b (by omega)) ⟨rfl, rfl⟩ (fun _ _ => rfl)) (by
      rw [show d + 1 - 1 = d by omega]
      intro j j1 j3
      rw [l2 (46 + 8) (by decide)]
      have := c1 j j1 j3
      omega)
    have envI : ∀ b, b = 8 ∨ b = 10 ∨ b = 11 ∨ b = 12 → I' b = I b := fun b hb => by
      rw [q2 b (by omega) (by omega) (by omega) (by omega)]; exact env b hb
    refine ⟨I', J', fun K => ?_, fun b h14 h46 h54 h56 => by rw [q2 b h14 h46 h54 h56, r2 b h14 h46 h54 h56], fun r h15 h47 h53 => by rw [q3 r h15 h47 h53]; exact fJ r h15 h47 h53, fun j hj => ?_, fun e h2 h3 => ?_⟩
    · rw [l1]; exact q1 K
    · rw [q4 j (by omega), l3 j (by omega), r1 56 (by decide) (by decide) (by decide)]
    · by_cases y : e = d
      · subst y
        have t : ∀ k, k < 7 → I' 56 ((s * 6 + (e - 1)) * 7 + k) = I2 56 ((s * 6 + (e - 1)) * 7 + k) := fun k hk => q4 _ (by omega)
        have val : ∀ (A : Iv) (B : Jv), ENv I' A → _ := fun A B hA => sg_val (hS A B (env_b hA envI)) (all A B (env_b hA envI)) (by omega)
        have bd := sg_bd (all A0 B0 hE) (by omega) hC c1 (by omega) (by omega)
        intro k hk
        rw [t k hk]
        rcases (show k = 0 ∨ k = 1 ∨ k = 2 ∨ k = 3 ∨ k = 4 ∨ k = 5 ∨ k = 6 by omega) with rfl | rfl | rfl | rfl | rfl | rfl | rfl
        · rw [l4]; exact ⟨fun A B hA => (val A B hA).1, bd.1 3 (by omega) (by omega)⟩
        · rw [l5]; exact ⟨fun A B hA => (val A B hA).2.1, bd.1 2 (by omega) (by omega)⟩
        · have z := l6 0 (by omega)
          rw [show (2 + 0 : Nat) = 2 from rfl] at z
          rw [z]; exact ⟨fun A B hA => (val A B hA).2.2.1 0 (by omega), bd.2.1 0 (by omega)⟩
        · have z := l6 1 (by omega)
          rw [show (2 + 1 : Nat) = 3 from rfl] at z
          rw [z]; exact ⟨fun A B hA => (val A B hA).2.2.1 1 (by omega), bd.2.1 1 (by omega)⟩
        · have z := l6 2 (by omega)
          rw [show (2 + 2 : Nat) = 4 from rfl] at z
          rw [z]; exact ⟨fun A B hA => (val A B hA).2.2.1 2 (by omega), bd.2.1 2 (by omega)⟩
        · rw [l7]; exact ⟨fun A B hA => (val A B hA).2.2.2.1, bd.2.2⟩
        · rw [l8]; exact ⟨fun A B hA => (val A B hA).2.2.2.2, bd.1 1 (by omega) (by omega)⟩
      · exact q5 e (by omega) h3
theorem setIs (s : Nat) (hs : s < 128) (I : Iv) (J : Jv) : fn_X9_isSet (n3 s) I J = (1, I, J) := by
  rw [isSet9, decide_eq_true ⟨by rw [show (0 : Int32) = n3 0 from rfl, n3_le (by omega) (by omega)]; omega, by rw [show (127 : Int32) = n3 127 from rfl, n3_le (by omega) (by omega)]; omega⟩]; rfl
theorem days9 (x : Int32) (I : Iv) (J : Jv) : fn_X9_areSignDays x I J = (b3 (decide (1 ≤ x ∧ x ≤ 6)), I, J) := in2
theorem daysIs (m : Nat) (hm : 1 ≤ m ∧ m ≤ 6) (I : Iv) (J : Jv) : fn_X9_areSignDays (n3 m) I J = (1, I, J) := by
  rw [days9, decide_eq_true ⟨by rw [show (1 : Int32) = n3 1 from rfl, n3_le (by omega) (by omega)]; omega, by rw [show (6 : Int32) = n3 6 from rfl, n3_le (by omega) (by omega)]; omega⟩]; rfl
theorem learnC {s m : Nat} {A0 : Iv} (I : Iv) (J : Jv) (hs : s < 128) (hm : 1 ≤ m ∧ m ≤ 6) (hE : ENv I A0) (h : SG I) : ∃ (I' : Iv) (J' : Jv), fn_X1_learn (n3 s) (n3 m) I J = (I', J') ∧ SG I' ∧ n3 m ≤ I' 55 s ∧ (∀ b, b ≠ 14 → (b < 46 ∨ 56 < b) → I' b = I b) ∧ (∀ r, r ≠ 15 → r ≠ 47 → r ≠ 53 → J' r = J r) ∧ ∀ s' x, x ≤ I 55 s' → x ≤ I' 55 s' := by
  unfold fn_X1_learn
  rw [setIs s hs, b_n3_mk, if_neg (by decide), daysIs m hm, b_n3_mk, if_neg (by decide), n3_tn (by omega)]
  by_cases q : I 55 s < n3 m
  · rw [if_pos q]
    obtain ⟨I1, J1, e1, r1, r2, r3, r4⟩ := begC (s := s) I J hs
    have env1 : ∀ b, b = 8 ∨ b = 10 ∨ b = 11 ∨ b = 12 → I1 b = I b := fun b hb => r1 b (by omega) (by omega) (by omega) (by omega)
    have hE1 : ENv I1 A0 := env_row hE env1 rfl (fun _ _ => rfl) rfl rfl
    obtain ⟨I2, J2, q1, q2, q3, q4, q5⟩ := lnL hs hm.2 (A0 := A0) (B0 := J) m 1 (m + 1) I1 J1 (by omega) (by omega) (by omega) hE1 (fun A B _ => r3 A B) r4
    have fu : mUe (n3 m) 1 + 1 = m + 1 := by
      unfold mUe; rw [nb_t (by omega), show (1 : Int32).toInt = 1 by decide]; omega
    have q1' : ∀ K : Int32 → Iv → Jv → Iv × Jv, fl_X1_learn_33_0 (n3 s) (n3 m) K (m + 1) 1 I1 J1 = K (n3 (m + 1)) I2 J2 := q1
    rw [e1, b_n2_mk, fu, q1', l_t]
    have e55 : ∀ s', s' ≠ s → wI I2 55 s (n3 m) 55 s' = I 55 s' := fun s' hs' => by
      rw [wI_ne (Or.inr hs'), q2 55 (by decide) (by decide) (by decide) (by decide), r1 55 (by decide) (by decide) (by decide) (by decide)]
    have env2 : ∀ b, b = 8 ∨ b = 10 ∨ b = 11 ∨ b = 12 → wI I2 55 s (n3 m) b = I b := fun b hb => by
      rw [wI_row (by omega), q2 b (by omega) (by omega) (by omega) (by omega)]; exact env1 b hb
    refine ⟨_, _, rfl, fun s' e hs' h1 h6 hk => ?_, by rw [wI_self]; exact Int32.le_refl _, fun b h14 hb => ?_, fun r h15 h47 h53 => by rw [q3 r h15 h47 h53, r2 r h47 h53], fun s' x hx => ?_⟩
    · by_cases y : s' = s
      · subst y
        rw [wI_self, n3_le (by omega) (by omega)] at hk
        exact sgv_row (q5 e h1 hk) (fun b hb => wI_row (by omega)) (fun k _ => by rw [wI_row (by decide)])
      · rw [e55 s' y] at hk
        refine sgv_row (h s' e hs' h1 h6 hk) env2 (fun k k7 => ?_)
        rw [wI_row (by decide), q4 _ (by omega), r1 56 (by decide) (by decide) (by decide) (by decide)]
    · rw [wI_row (by omega), q2 b h14 (by omega) (by omega) (by omega), r1 b (by omega) (by omega) (by omega) (by omega)]
    · by_cases y : s' = s
      · subst y
        rw [wI_self]; exact Int32.le_trans hx (Int32.le_of_lt q)
      · rw [e55 s' y]; exact hx
  · rw [if_neg q]
    exact ⟨I, J, rfl, h, Int32.not_lt.mp q, fun _ _ _ => rfl, fun _ _ _ _ => rfl, fun _ _ hx => hx⟩
