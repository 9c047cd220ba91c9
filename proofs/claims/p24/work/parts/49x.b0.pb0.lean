/-! ===== trials from what is so: WITHOUT CURRENT ===== -/
def wnB (o : Nat) (I : Iv) (J : Jv) (k : Nat) : Bool := decide (I (o + 5) k ≤ wC o I J (4 + k) ∧ wC o I J (4 + k) ≤ I (o + 6) k)
theorem within_g {N : Int} {o X k : Nat} {I : Iv} {J D : Jv} (C : Iv) (hX : X ≤ 240) (h : STm N o X I J D) (hN : N ≤ 2000000) (hk : k < 8) (t : I (o + 3) k = 1) : fn_X6_isWithin o (n3 k) I J = (b3 (wnB o I J k), I, J) ∧ fn_X10_isWithin (n3 X) (n3 k) C D = (b3 (wnB o I J k), C, D) := by
  have tn := tn_of h
  have hM : wmT (I (o + 8) 0) ≤ 100000000 := by unfold wmT; omega
  have f := h.2.2.1 k hk
  unfold STf at f
  rcases f with ⟨a1, -⟩ | ⟨a1, a2, a3, a4, a5, a6, a7, a8, a9, a10⟩
  · rw [t] at a1; exact absurd a1 (by decide)
  have wc := wC_S (o := o) (k := 4 + k) (I := I) (J := J) hM a6.1 a9 a10
  have ec : cpR X D (4 + k) = (I (o + 2) (4 + k)).toInt64 := by
    unfold cpR
    rw [if_neg (by omega), if_neg (by omega), show X + 28 + (4 + k - 4) = X + 28 + k by omega]; exact a5
  have er : D 79 (X + (4 + k)) / cpR X D (4 + k) = (wC o I J (4 + k)).toInt64 := by
    rw [h.1 (4 + k) (by omega), ec, wc.1]; rfl
  constructor
  · unfold fn_X6_isWithin
    rw [show (4 : Int32) = n3 4 from rfl, n3_add, fX6_warmthOf (by omega), b_n3_mk, if_neg (n3_no0 (by omega)), if_neg (by rw [show (8 : Int32) = n3 8 from rfl, n3_le (by omega) (by omega)]; omega), n3_tn (by omega)]
    exact in2
  · unfold fn_X10_isWithin
    rw [show (4 : Int32) = n3 4 from rfl, n3_add, fX10_warm hX (by omega), b_n3_mk, er, show (36 : Int32) = n3 36 from rfl, show (44 : Int32) = n3 44 from rfl, n3_add, n3_add, n3_add, n3_add, n3_tn (by omega), n3_tn (by omega), a7, a8, fX10_in3 _ _ _ (I (o + 5) k) (I (o + 6) k) rfl rfl, b_n3_mk]
    rfl
/-- the trial begins as what is so -/
theorem trial {N : Int} {I : Iv} {J D : Jv} (C : Iv) (h : STm N 16 0 I J D) : ∃ (I' : Iv) (J' D' : Jv), fn_X6_copyFrom 68 16 I J = (I', J') ∧ fn_X10_copy 0 80 C D = (C, D') ∧ STm N 68 80 I' J' D' ∧ (∀ b, b < 68 ∨ 76 < b → I' b = I b) ∧ (∀ r, r < 68 ∨ 76 < r → J' r = J r) ∧ (∀ r, r ≠ 79 → D' r = D r) ∧ (∀ j, j < 80 ∨ 160 ≤ j → D' 79 j = D 79 j) ∧ ∀ k, k < 8 → I' 71 k = I 19 k := by
  obtain ⟨I', J', e1, c2, c3, c4, c5, c6, c7, c8, c9, c10, c11, c12⟩ := copyC (o := 68) (p := 16) I J (by omega)
  obtain ⟨D', g1, g2, g3, g4⟩ := copyR (X := 0) (Y := 80) C D (by omega) (by omega) (by omega)
  refine ⟨I', J', D', e1, g1, ?_, c2, c3, g2, g3, c6⟩
  refine st_copy (p := 16) (X := 0) h (by decide) c4 c5 c6 c7 c8 c9 c10 c11 c12 (fun k hk => ?_)
  exact g4 k (by omega)
/-- current off -/
theorem st_off {N : Int} {I : Iv} {J B : Jv} (h : STm N 68 80 I J B) : STm N 68 80 (wI I 68 12 0) J (wJ B 79 149 0) := by
  refine st_sc h (fun b h1 h2 => wI_row (by omega)) (by rw [wI_row (by omega)]) (fun k hk => wJ_ne (by omega)) ?_
  obtain ⟨-, -, -, -, ⟨n1, n52⟩, n53, n54, n60, n66, n67, n68, -, -⟩ := h
  have r8 : (wI I 68 12 0) (68 + 8) = I (68 + 8) := wI_row (by omega)
  have rk : ∀ k, k ≠ 12 → wI I 68 12 0 68 k = I 68 k := fun k hk => wI_ne (Or.inr hk)
  have dk : ∀ k, k ≠ 69 → wJ B 79 149 0 79 (80 + k) = B 79 (80 + k) := fun k hk => wJ_ne (by omega)
  unfold STn SDm
  rw [r8, rk 8 (by omega), rk 9 (by omega), rk 10 (by omega), rk 11 (by omega), dk 52 (by omega), dk 53 (by omega), dk 54 (by omega), dk 60 (by omega), dk 61 (by omega), dk 62 (by omega), dk 63 (by omega), dk 64 (by omega), dk 65 (by omega), dk 66 (by omega), dk 67 (by omega), dk 68 (by omega)]
  exact ⟨⟨n1, n52⟩, n53, n54, n60, n66, n67, n68, ⟨false, wI_self, wJ_self⟩, Or.inl rfl⟩
/-- one TICK by THE DAY, the bulb anywhere -/
theorem tick1 {o X u : Nat} {N : Int} {I A : Iv} {J B : Jv} (ho : 15 < o) (hX : X ≤ 240) (hu : u < 3) (hN : N + 1 ≤ 2000000) (hE : ENv I A) (h : STm N o X I J B) :
    ∃ (op : Bool) (I' : Iv) (J' B' : Jv), fn_X7_passByDay o 1 (n3 u) I J = (I', J') ∧ fn_X10_isOpen (B 79 (X + 54)) A B = (b3 op, A, B) ∧ fn_X10_tick (n3 X) (b3 op) (n3 u) 0 A B = (A, B') ∧ STm (N + 1) o X I' J' B' ∧ FrI o I I' ∧ FrJ o J J' ∧ FrX X B B' ∧ (∀ (n : Int32) (fc : Nat) (k : Int32), ¬ n ≤ k → ∀ K : Int32 → Iv → Jv → Iv × Jv, fl_X7_passByDay_3_0 n (n3 u) o K (fc + 1) k I J = fl_X7_passByDay_3_0 n (n3 u) o K fc (k + 1) I' J') := by
  obtain ⟨hb, hA, m, m1, m2, m3, m4⟩ := id hE
  have hT : TkB (I (o + 8) 0) := by have := tn_of h; exact ⟨this.1, by omega⟩
  obtain ⟨I1, J1, B1, e1, e2, s1, p1, p2, p3, p4, p5, p6⟩ := st_tick (u := u) (less := 0) (op := opB (I 10) (I 11) m (dT (I (o + 8) 0))) (A := A) ho hX hu (by omega) hb hA (by decide) h
  have step : ∀ (n : Int32) (fc : Nat) (k : Int32), ¬ n ≤ k → ∀ K : Int32 → Iv → Jv → Iv × Jv, fl_X7_passByDay_3_0 n (n3 u) o K (fc + 1) k I J = fl_X7_passByDay_3_0 n (n3 u) o K fc (k + 1) I1 J1 := by
    intro n fc k hk K
    rw [fl_X7_passByDay_3_0.eq_2, if_neg hk, fX6_day hT, b_n3_mk, fX3_open J (dT_lt _) (m4 _ (dT_lt _)), b_n3_mk, e1, b_n2_mk]
  refine ⟨opB (I 10) (I 11) m (dT (I (o + 8) 0)), I1, J1, B1, ?_, ?_, e2, s1, ⟨p1, p2⟩, p4, ⟨p5, p6⟩, step⟩
  · unfold fn_X7_passByDay
    rw [show mU (1 : Int32) ((0 : Int32)) + 1 = 1 + 1 by decide, step 1 1 0 (by decide), fl_X7_passByDay_3_0.eq_2, if_pos (by decide)]
  · rw [t54_of h]; exact fX10_open B hT m1 m2 m3
theorem bulb_u {I A : Iv} (h : ENv I A) : ∃ u : Nat, u < 3 ∧ I 8 8 = n3 u ∧ A 81 8 = n3 u := by
  have b8 := h.1.2.2.2.2.2.2.2.2.1
  refine ⟨(I 8 8).toNatClampNeg, (sh_of b8).2, (sh_of b8).1, ?_⟩
  rw [h.2.1 8 (by omega)]; exact (sh_of b8).1
theorem wo_loop {k u : Nat} {A : Iv} (hk : k < 8) (hu : u < 3) (hA8 : A 81 8 = n3 u) : ∀ (f t fc fr : Nat) (N : Int) (I : Iv) (J B : Jv), t + f = 865 → f < fc → f < fr → N + (f : Int) ≤ 2000000 → I 8 8 = n3 u → I 71 k = 1 → ENv I A → STm N 68 80 I J B →
    ∃ (v : Int32) (I' : Iv) (J' B' : Jv), fl_X8_ticksWithoutCurrent_21_0 (n3 k) (fun (x10 : Int32) (I11 : Iv) (J12 : Jv) => ((-1 : Int32), I11, J12)) fc (n3 t) I J = (v, I', J') ∧ fl_X10_without_34_0 (n3 k) A (fun (x24 : Int32) (J25 : Jv) => ((-1 : Int32), A, J25)) fr (n3 t) B = (v, A, B') ∧ FrI 68 I I' ∧ FrJ 68 J J'
  | f, t, 0, _, _, _, _, _, _, h, _, _, _, _, _, _ => absurd h (Nat.not_lt_zero _)
  | f, t, _ + 1, 0, _, _, _, _, _, _, h, _, _, _, _, _ => absurd h (Nat.not_lt_zero _)
  | 0, t, fc + 1, fr + 1, N, I, J, B, ht, _, _, hN, h8, h3, hE, h => by
    refine ⟨-1, I, J, B, ?_, ?_, frI_rfl, frJ_rfl⟩
    · rw [fl_X8_ticksWithoutCurrent_21_0.eq_2, if_pos (by rw [show (864 : Int32) = n3 864 from rfl, n3_lt (by omega) (by omega)]; omega)]
    · rw [fl_X10_without_34_0.eq_2, if_pos (by rw [show (864 : Int32) = n3 864 from rfl, n3_lt (by omega) (by omega)]; omega)]
  | f + 1, t, fc + 1, fr + 1, N, I, J, B, ht, hfc, hfr, hN, h8, h3, hE, h => by
    obtain ⟨op, I1, J1, B1, e1, eo, et, s1, f1, f2, f3, -⟩ := tick1 (o := 68) (X := 80) (u := u) (N := N) (A := A) (by omega) (by omega) hu (by omega) hE h
    have r71 : I1 (68 + 3) k = 1 := by rw [f1.1 71 (by decide) (by decide) (by decide)]; exact h3
    obtain ⟨w1, w2⟩ := within_g A (by omega) s1 (by omega) hk r71
    have e2' : fn_X10_go 80 1 A B = (A, B1) := by
      have eo' : fn_X10_isOpen (B 79 (80 + 54)) A B = (b3 op, A, B) := eo
      have et' : fn_X10_tick 80 (b3 op) (n3 u) 0 A B = (A, B1) := et
      unfold fn_X10_go
      rw [show mU (1 : Int32) ((0 : Int32)) + 1 = 1 + 1 by decide, fl_X10_go_2_0.eq_2, if_neg (by decide), show (80 : Int32).toNatClampNeg = 80 by decide, eo', b_n3_mk, hA8, et', b_n2_mk, fl_X10_go_2_0.eq_2, if_pos (by decide)]
    have w2' : fn_X10_isWithin 80 (n3 k) A B1 = (b3 (wnB 68 I1 J1 k), A, B1) := w2
    have nlt : ¬ (864 : Int32) < n3 t := by rw [show (864 : Int32) = n3 864 from rfl, n3_lt (by omega) (by omega)]; omega
    rw [fl_X8_ticksWithoutCurrent_21_0.eq_2, if_neg nlt, show fn_X8_boxBulb I J = (I 8 8, I, J) from rfl, b_n3_mk, h8, e1, b_n2_mk, w1, b_n3_mk]
    rw [fl_X10_without_34_0.eq_2, if_neg nlt, e2', b_n2_mk, w2', b_n3_mk]
    cases wnB 68 I1 J1 k with
    | false =>
      rw [if_pos (show b3 false = 0 from rfl), if_pos (show b3 false = 0 from rfl)]
      exact ⟨_, _, _, _, rfl, rfl, f1, f2⟩
    | true =>
      rw [if_neg (show ¬ b3 true = 0 by decide), if_neg (show ¬ b3 true = 0 by decide), n3_up]
      obtain ⟨v, I2, J2, B2, x1, x2, x3, x4⟩ := wo_loop hk hu hA8 f (t + 1) fc fr (N + 1) I1 J1 B1 (by omega) (by omega) (by omega) (by omega) (by rw [f1.1 8 (by decide) (by decide) (by decide)]; exact h8) r71 (env_fr (by omega) hE f1) s1
      exact ⟨v, I2, J2, B2, x1, x2, f1.tr x3, FrJ.tr f2 x4⟩
theorem wo_both {c k : Nat} {I C : Iv} {J D : Jv} (hc : c ≤ 600) (hk : k < 8) (q : CQ c I J C D) (t : I 19 k = 1) : ∃ (v : Int32) (I' : Iv) (J' D' : Jv), fn_X8_ticksWithoutCurrent (n3 k) I J = (v, I', J') ∧ (b_n2 (fn_X10_copy (0 : Int32) (80 : Int32) C D) (fun (_ : Iv) (J15 : Jv) => l_t (wJ J15 79 149 (0 : Int64)) (fun (J22 : Jv) => fl_X10_without_34_0 (n3 k) C (fun (x24 : Int32) (J25 : Jv) => ((-1 : Int32), C, J25)) (mUe (864 : Int32) ((0 : Int32)) + 1) (0 : Int32) J22))) = (v, C, D') ∧ (∀ b, 78 ≤ b → I' b = I b) ∧ J' 79 = J 79 := by
  obtain ⟨u, hu, u1, u2⟩ := bulb_u q.2.1
  obtain ⟨I1, J1, D1, e1, e2, s1, c2, c3, g2, g3, c6⟩ := trial C q.1
  have hE1 : ENv (wI I1 68 12 0) C := env_row q.2.1 (fun b hb => by rw [wI_row (by omega), c2 b (by omega)]) rfl (fun _ _ => rfl) rfl rfl
  obtain ⟨v, I2, J2, D2, x1, x2, x3, x4⟩ := wo_loop hk hu u2 865 0 866 866 (2880 * (c : Int)) (wI I1 68 12 0) J1 (wJ D1 79 149 0) (by omega) (by omega) (by omega) (by omega) (by rw [wI_row (by decide), c2 8 (by omega)]; exact u1) (by rw [wI_row (by decide), c6 k hk]; exact t) hE1 (st_off s1)
  refine ⟨v, I2, J2, D2, ?_, ?_, fun b hb => ?_, ?_⟩
  · unfold fn_X8_ticksWithoutCurrent
    rw [e1, b_n2_mk, l_t, show mUe (864 : Int32) ((0 : Int32)) + 1 = 866 by decide]
    exact x1
  · rw [e2, b_n2_mk, l_t, show mUe (864 : Int32) ((0 : Int32)) + 1 = 866 by decide]
    exact x2
  · rw [x3.1 b (by omega) (by omega) (by omega), wI_row (by omega), c2 b (by omega)]
  · rw [x4 79 (by omega) (by omega) (by omega), c3 79 (by omega)]
theorem cs_without {c : Nat} {f v1 v2 : Int32} {I I1 I2 : Iv} {J J1 J2 : Jv} (hc : c ≤ 600) (h : CQx c I J) (e1 : fn_X9_without f I J = (v1, I1, J1)) (e2 : fn_X10_without f I1 J1 = (v2, I2, J2)) : v1 = v2 := by
  unfold fn_X9_without at e1
  unfold fn_X10_without at e2
  rcases food_is (f := f) (C := I) h.1 with ⟨k, hk, rfl, t, hf, -⟩ | ⟨hf, -⟩
  · obtain ⟨v, I3, J3, D3, x1, -, x3, x4⟩ := wo_both hc hk h t
    rw [hf, b_n3_mk, if_neg (by decide), x1, b_n3_mk] at e1
    cases e1
    obtain ⟨C, D, eb, n2, lo, lj, q⟩ := cq_open (I1 := I1) (J1 := J1) h x3 x4
    obtain ⟨v', I4, J4, D4, y1, y2, -, -⟩ := wo_both hc hk q t
    rw [x1] at y1
    have ev : v1 = v' := congrArg (fun (y : Int32 × Iv × Jv) => y.1) y1
    rw [eb, b_n2_mk] at e2
    rcases food_is (f := n3 k) (C := C) q.1 with ⟨k', hk', ek, t', -, hf2⟩ | ⟨hf1, -⟩
    rotate_left
    · rw [hf] at hf1; exact absurd (congrArg (fun (y : Int32 × Iv × Jv) => y.1) hf1) (show ¬ (1 : Int32) = 0 by decide)
    rw [hf2, b_n3_mk, if_neg (by decide), y2] at e2
    exact ev.trans (congrArg (fun (y : Int32 × Iv × Jv) => y.1) e2)
  · rw [hf, b_n3_mk, if_pos rfl] at e1
    refine (cq_ref (v2 := v2) (I2 := I2) (J2 := J2) h e1 (fun C D eb => ?_)).1
    obtain ⟨C', D', eb', n2, lo, lj, q⟩ := cq_open (I1 := I) (J1 := J) h (fun _ _ => rfl) rfl
    cases e1
    rw [eb] at eb'
    cases eb'
    rcases food_is (f := f) (C := C) q.1 with ⟨k', hk', ek, t', hf1, -⟩ | ⟨-, hf2⟩
    · rw [hf] at hf1; exact absurd (congrArg (fun (y : Int32 × Iv × Jv) => y.1) hf1) (show ¬ (0 : Int32) = 1 by decide)
    rw [eb, b_n2_mk, hf2, b_n3_mk, if_pos rfl] at e2
    exact e2
