/-! ===== the reference's box ===== -/
theorem untold_eq {k : Nat} (hk : k < 15) (I : Iv) (J : Jv) : fn_X10_untold (n3 k) I J = (((stI.getD 0 default).2).getD k 0, I, J) := by
  rcases (show k = 0 ∨ k = 1 ∨ k = 2 ∨ k = 3 ∨ k = 4 ∨ k = 5 ∨ k = 6 ∨ k = 7 ∨ k = 8 ∨ k = 9 ∨ k = 10 ∨ k = 11 ∨ k = 12 ∨ k = 13 ∨ k = 14 by omega) with rfl | rfl | rfl | rfl | rfl | rfl | rfl | rfl | rfl | rfl | rfl | rfl | rfl | rfl | rfl <;> rfl
theorem z15R {J : Jv} : ∀ (f k fu : Nat) (I : Iv), k + f = 15 → f < fu → ∃ I' : Iv, (∀ K : Int32 → Iv → Int32 × Iv × Jv, fl_X10_box_15_0 J K fu (n3 k) I = K 15 I') ∧ (∀ b, b ≠ 82 → I' b = I b) ∧ ∀ j, I' 82 j = (if k ≤ j ∧ j < 15 then ((stI.getD 0 default).2).getD j 0 else I 82 j)
  | f, k, 0, _, _, h => absurd h (Nat.not_lt_zero _)
  | 0, k, fu + 1, I, hk, _ => ⟨I, fun K => by
      rw [fl_X10_box_15_0.eq_2, if_pos (by rw [show (15 : Int32) = n3 15 from rfl, n3_le (by omega) (by omega)]; omega), show k = 15 by omega]; rfl, fun _ _ => rfl, fun j => by rw [if_neg (by omega)]⟩
  | f + 1, k, fu + 1, I, hk, hf => by
    obtain ⟨I', e, r1, r2⟩ := z15R (J := J) f (k + 1) fu (wI I 82 k (((stI.getD 0 default).2).getD k 0)) (by omega) (by omega)
    refine ⟨I', fun K => ?_, fun b hb => by rw [r1 b hb, wI_row hb], fun j => ?_⟩
    · rw [fl_X10_box_15_0.eq_2, if_neg (by rw [show (15 : Int32) = n3 15 from rfl, n3_le (by omega) (by omega)]; omega), untold_eq (by omega), b_n3_mk, n3_tn (by omega), l_t, n3_up, e]
    · rw [r2 j]
      by_cases q : j = k
      · rw [q, if_neg (by omega), if_pos (by omega), wI_self]
      · rw [wI_ne (Or.inr q)]
        by_cases q2 : k + 1 ≤ j ∧ j < 15
        · rw [if_pos q2, if_pos (by omega)]
        · rw [if_neg q2, if_neg (by omega)]
theorem c15R {J : Jv} : ∀ (f k fu : Nat) (I : Iv), k + f = 15 → f < fu → ∃ I' : Iv, (∀ K : Int32 → Iv → Int32 × Iv × Jv, fl_X10_box_117_4 J K fu (n3 k) I = K 15 I') ∧ (∀ b, b ≠ 81 → I' b = I b) ∧ ∀ j, I' 81 j = (if k ≤ j ∧ j < 15 then I 82 j else I 81 j)
  | f, k, 0, _, _, h => absurd h (Nat.not_lt_zero _)
  | 0, k, fu + 1, I, hk, _ => ⟨I, fun K => by
      rw [fl_X10_box_117_4.eq_2, if_pos (by rw [show (15 : Int32) = n3 15 from rfl, n3_le (by omega) (by omega)]; omega), show k = 15 by omega]; rfl, fun _ _ => rfl, fun j => by rw [if_neg (by omega)]⟩
  | f + 1, k, fu + 1, I, hk, hf => by
    obtain ⟨I', e, r1, r2⟩ := c15R (J := J) f (k + 1) fu (wI I 81 k (I 82 k)) (by omega) (by omega)
    refine ⟨I', fun K => ?_, fun b hb => by rw [r1 b hb, wI_row hb], fun j => ?_⟩
    · rw [fl_X10_box_117_4.eq_2, if_neg (by rw [show (15 : Int32) = n3 15 from rfl, n3_le (by omega) (by omega)]; omega), n3_tn (by omega), l_t, n3_up, e]
    · rw [r2 j, wI_row (show (82 : Nat) ≠ 81 by decide)]
      by_cases q : j = k
      · rw [q, if_neg (by omega), if_pos (by omega), wI_self]
      · rw [wI_ne (Or.inr q)]
        by_cases q2 : k + 1 ≤ j ∧ j < 15
        · rw [if_pos q2, if_pos (by omega)]
        · rw [if_neg q2, if_neg (by omega)]
/-- a fault's number is 0 or above -/
def fOk (c : Cu) : Prop := c.1 = 0 ∨ ¬ c.1 ≤ 0
theorem fOk_nu {T : Nat → Int32} {n : Nat} {c : Cu} {lo hi : Int32} (h : fOk c) : fOk (nuB T n c lo hi) := by
  unfold nuB
  by_cases q : c.1 = 0
  · rw [if_pos q]
    by_cases q2 : nuF T n c.2 lo hi = 0
    · rw [if_pos q2]; exact Or.inl rfl
    · rw [if_neg q2]
      refine Or.inr ?_
      show ¬ nuF T n c.2 lo hi ≤ 0
      unfold nuF at q2 ⊢
      by_cases q3 : nuE T n c.2 = nuS T n c.2
      · rw [if_pos q3]; decide
      · rw [if_neg q3] at q2 ⊢
        by_cases q4 : 3 < nuE T n c.2 - nuS T n c.2 ∨ nuV T n c.2 < lo ∨ hi < nuV T n c.2
        · rw [if_pos q4]; decide
        · rw [if_neg q4] at q2; exact absurd rfl q2
  · rw [if_neg q]; exact h
theorem fOk_en {T : Nat → Int32} {n : Nat} {c : Cu} (h : fOk c) : fOk (enB T n c) := by
  unfold enB
  by_cases q : c.1 = 0
  · rw [if_pos q]
    by_cases q2 : nuS T n c.2 < n ∧ T (nuS T n c.2) = 59
    · rw [if_pos q2]; exact Or.inl rfl
    · rw [if_neg q2]; exact Or.inr (show ¬ (1 : Int32) ≤ 0 by decide)
  · rw [if_neg q]; exact h
theorem fOk_cl {T : Nat → Int32} {n : Nat} {x : PB} : fOk (clStep T n x).c := by
  unfold clStep
  generalize ske isL T (n - x.c.2) x.c.2 = e
  generalize kdF T x.c.2 (e - x.c.2) 13 0 = k
  by_cases q1 : k < 0
  · rw [if_pos q1]; exact Or.inr (show ¬ (1 : Int32) ≤ 0 by decide)
  · rw [if_neg q1]
    by_cases q2 : x.td k.toNatClampNeg = true
    · rw [if_pos q2]; exact Or.inr (show ¬ (3 : Int32) ≤ 0 by decide)
    · rw [if_neg q2]
      show fOk (enB T n (clN T n k.toNatClampNeg (0, e) x.nu).1)
      refine fOk_en ?_
      have h0 : fOk ((0, e) : Cu) := Or.inl rfl
      unfold clN
      by_cases q3 : k.toNatClampNeg = 12
      · rw [if_pos q3]; exact fOk_nu (fOk_nu (fOk_nu h0))
      · rw [if_neg q3]; exact fOk_nu h0
theorem fOk_lp {T : Nat → Int32} {n : Nat} {st : PB → PB} (hst : ∀ x, fOk (st x).c) : ∀ (F : Nat) (x : PB), fOk x.c → fOk (lp T n st F x).c
  | 0, x, h => by
    simp only [lp]
    by_cases q : x.c.1 = 0
    · rw [skp_0 q]; exact Or.inl rfl
    · rw [skp_f q]; exact h
  | F + 1, x, h => by
    simp only [lp]
    by_cases q : (skp T n x).c.1 = 0 ∧ (skp T n x).c.2 < n
    · rw [if_pos q]; exact fOk_lp hst F _ (hst _)
    · rw [if_neg q]
      by_cases q : x.c.1 = 0
      · rw [skp_0 q]; exact Or.inl rfl
      · rw [skp_f q]; exact h
theorem fOk_box {T : Nat → Int32} {n : Nat} : fOk (boxP T n).c := by
  unfold boxP fin4
  have := fOk_lp (T := T) (n := n) (st := clStep T n) (fun x => fOk_cl) (n + 2) x0B (Or.inl rfl)
  generalize lp T n (clStep T n) (n + 2) x0B = x at *
  by_cases q : x.c.1 = 0 ∧ ¬ x.nu 7 < x.nu 6
  · rw [if_pos q]; exact Or.inr (show ¬ (4 : Int32) ≤ 0 by decide)
  · rw [if_neg q]; exact this
theorem j_if {β : Type} {c : Prop} [Decidable c] (Kf : Int32 → β) : j_n Kf (fun (j : Int32 → β) => if c then j 0 else j 1) = Kf (if c then 0 else 1) := by
  dsimp only [j_n]
  by_cases q : c
  · rw [if_pos q, if_pos q]
  · rw [if_neg q, if_neg q]
def boxA (T : Nat → Int32) (n : Nat) : Int32 := if (boxP T n).c.1 = 0 then n3 (boxP T n).ct else -10 - (boxP T n).c.1
theorem readR {n : Nat} {I : Iv} (J : Jv) (h11 : I 78 11 = n3 n) : ∃ I' : Iv, fn_X10_beginReading I J = (I', J) ∧ CuR n I' (0, 0) ∧ SmR I I' := by
  unfold fn_X10_beginReading
  dsimp only [l_t]
  refine ⟨_, rfl, cuR_mk0 ?_ ?_ (Nat.zero_le _) ?_ wI_self, smR_w (smR_w (smR_w smR_rfl (by omega)) (by omega)) (by omega)⟩
  · rw [wI_ne (by omega), wI_ne (by omega), wI_ne (by omega)]; exact h11
  · rw [wI_ne (by omega), wI_self]
  · rw [wI_ne (by omega), wI_ne (by omega), wI_self]; rfl
theorem wantR {n : Nat} {T : Nat → Int32} {I : Iv} {x : PB} {J : Jv} {w : Int32} (h : StR n T I x) (hw : x.c.1 = 0 → (w = 0 ↔ ¬ x.nu 7 < x.nu 6)) :
    ∃ (v : Int32) (I' : Iv), fn_X10_want w 4 (I 78 11) I J = (v, I', J) ∧ StR n T I' (fin4 n x) ∧ FrR I I' := by
  unfold fin4
  by_cases h0 : x.c.1 = 0
  · have h15 : I 78 15 = 0 := h.2.1.2.1.trans h0
    by_cases q : x.nu 7 < x.nu 6
    · rw [if_neg (fun z => z.2 q), fX10_want_1 h15 (fun z => (hw h0).mp z q)]
      exact ⟨1, I, rfl, h, frR_rfl⟩
    · rw [if_pos ⟨h0, q⟩, (hw h0).mpr q, fX10_want_0 h15 (by decide), h.2.1.1]
      refine ⟨0, _, rfl, ⟨?_, cuR_mkf ?_ (by decide) ?_ wI_self, fun j hj => ?_, fun z => absurd (show (4 : Int32) = 0 from z) (by decide)⟩, (smR_w (smR_w smR_rfl (by omega)) (by omega)).f⟩
      · rw [wI_row (by decide), wI_row (by decide)]; exact h.1
      · rw [wI_ne (by omega), wI_ne (by omega)]; exact h.2.1.1
      · rw [wI_ne (by omega), wI_self]
      · rw [wI_ne (by omega), wI_ne (by omega)]; exact h.2.2.1 j hj
  · rw [if_neg (fun z => h0 z.1), fX10_want_f (by rw [h.2.1.2.1]; exact h0)]
    exact ⟨0, I, rfl, h, frR_rfl⟩
theorem boxR {n : Nat} {I I1 : Iv} {J J2 : Jv} (hn : n ≤ 300) (hT : ∀ k, 0 ≤ I1 87 k) (hb : fn_X10_begin I J = (I1, J2)) (h11 : I1 78 11 = n3 n) :
    ∃ I' : Iv, fn_X10_box I J = (boxA (I1 87) n, I', if (boxP (I1 87) n).c.1 = 0 then (fn_X10_freshen 0 I' J2).2 else J2) ∧ I' 78 11 = 0 ∧ I' 78 15 = (boxP (I1 87) n).c.1 ∧
      I' 78 16 = (if (boxP (I1 87) n).c.1 = 0 then -1 else n3 (boxP (I1 87) n).c.2) ∧ ((boxP (I1 87) n).c.1 = 0 → ∀ j, j < 15 → I' 81 j = (boxP (I1 87) n).nu j) ∧ (¬ (boxP (I1 87) n).c.1 = 0 → I' 81 = I1 81) ∧
      (∀ j, 15 ≤ j → I' 81 j = I1 81 j) ∧ (∀ b, b ≠ 78 → b ≠ 81 → b ≠ 82 → I' b = I1 b) ∧ ∀ k, k < 11 ∨ 17 < k → I' 78 k = I1 78 k := by
  obtain ⟨I2, e2, u2, s2⟩ := readR J2 h11
  obtain ⟨I3, e3, r3, z3⟩ := z15R (J := J2) 15 0 (mU (15 : Int32) ((0 : Int32)) + 1) (wI I2 78 17 0) rfl (by decide)
  have hS : StR n (I1 87) I3 x0B := by
    refine ⟨?_, ?_, fun j hj => ?_, fun _ j hj => ?_⟩
    · rw [r3 87 (by decide), wI_row (by decide), s2.1 87 (by decide)]
    · refine cuR_of (fun k _ _ k3 => ?_) u2
      rw [r3 78 (by decide), wI_ne (Or.inr k3)]
    · rw [r3 78 (by decide), wI_self]
      show (0#32).getLsbD j = false
      simp
    · rw [z3 j, if_pos ⟨Nat.zero_le _, hj⟩]; rfl
  have hM : n + 2 ≤ MR I3 + 1 := by
    have u3 := hS.2.1
    unfold MR mU
    rw [u3.1, (u3.2.2.1 rfl).2, u3.2.1]
    rw [Int32.toInt_ofNat_of_lt (by omega), show x0B.c.2 = 0 from rfl, show (n3 0).toInt = 0 by decide, if_pos (show x0B.c.1 = 0 from rfl)]
    omega
  obtain ⟨i', I4, e4, s4, f4, c4⟩ := loopR J2 hn hT (n + 2) x0B 0 (MR I3 + 1) I3 hS hM (fun _ => ⟨rfl, Nat.zero_le _, by show n + 2 ≤ n + 2 + 0; omega⟩) (by omega)
  have fA : (∀ b, b ≠ 78 → b ≠ 82 → I4 b = I1 b) ∧ ∀ k, k < 11 ∨ 17 < k → I4 78 k = I1 78 k := by
    refine ⟨fun b b1 b2 => ?_, fun k hk => ?_⟩
    · rw [f4.1 b b1 b2, r3 b b2, wI_row b1, s2.1 b b1]
    · rw [f4.2 k (by omega) (by omega) (by omega) (by omega) (by omega) (by omega), r3 78 (by decide), wI_ne (by omega), s2.2 k (by omega) (by omega) (by omega) (by omega) (by omega)]
  have e3' : ∀ K : Int32 → Iv → Int32 × Iv × Jv, fl_X10_box_15_0 J2 K (mU (15 : Int32) ((0 : Int32)) + 1) 0 (wI I2 78 17 0) = K 15 I3 := e3
  obtain ⟨v5, I5, e5, s5, f5⟩ := wantR (J := J2) (w := if I4 82 6 ≤ I4 82 7 then 0 else 1) s4 (fun z => by
    have v4 := s4.2.2.2 z
    rw [v4 6 (by decide), v4 7 (by decide)]
    by_cases q : (lp (I1 87) n (clStep (I1 87) n) (n + 2) x0B).nu 6 ≤ (lp (I1 87) n (clStep (I1 87) n) (n + 2) x0B).nu 7
    · rw [if_pos q]; exact ⟨fun _ => Int32.not_lt.mpr q, fun _ => rfl⟩
    · rw [if_neg q]; exact ⟨fun y => absurd y (by decide), fun y => absurd (Int32.not_lt.mp y) q⟩)
  have hy : (boxP (I1 87) n).c.1 = 0 → i' = n3 (boxP (I1 87) n).ct := by
    unfold boxP fin4
    generalize lp (I1 87) n (clStep (I1 87) n) (n + 2) x0B = x at *
    intro z
    by_cases q : x.c.1 = 0 ∧ ¬ x.nu 7 < x.nu 6
    · rw [if_pos q] at z; exact absurd (show (4 : Int32) = 0 from z) (by decide)
    · rw [if_neg q] at z ⊢; exact c4 z
  have s5' : StR n (I1 87) I5 (boxP (I1 87) n) := s5
  have ok := fOk_box (T := I1 87) (n := n)
  unfold fn_X10_box
  rw [hb, b_n2_mk, e2, b_n2_mk, l_t, e3', e4, j_if, e5, b_n3_mk, l_t]
  unfold boxA
  generalize boxP (I1 87) n = y at *
  have h15 : wI I5 78 11 0 78 15 = y.c.1 := by rw [wI_ne (by omega)]; exact s5'.2.1.2.1
  have h16 : wI I5 78 11 0 78 16 = (if y.c.1 = 0 then -1 else n3 y.c.2) := by rw [wI_ne (by omega)]; exact s5'.2.1.2.2.2
  have fB : ∀ b, b ≠ 78 → b ≠ 82 → (wI I5 78 11 0) b = I1 b := fun b b1 b2 => by rw [wI_row b1, f5.1 b b1 b2, fA.1 b b1 b2]
  have fK : ∀ k, k < 11 ∨ 17 < k → wI I5 78 11 0 78 k = I1 78 k := fun k hk => by
    rw [wI_ne (by omega), f5.2 k (by omega) (by omega) (by omega) (by omega) (by omega) (by omega), fA.2 k hk]
  by_cases h0 : y.c.1 = 0
  · rw [if_pos (by rw [h15, h0]; decide)]
    obtain ⟨I6, e6, r6, z6⟩ := c15R (J := J2) 15 0 (mU (15 : Int32) ((0 : Int32)) + 1) (wI I5 78 11 0) rfl (by decide)
    have e6' : ∀ K : Int32 → Iv → Int32 × Iv × Jv, fl_X10_box_117_4 J2 K (mU (15 : Int32) ((0 : Int32)) + 1) 0 (wI I5 78 11 0) = K 15 I6 := e6
    rw [e6', if_pos h0, if_pos h0, hy h0]
    refine ⟨I6, by rw [if_pos h0]; rfl, ?_, ?_, ?_, fun _ j hj => ?_, fun z => absurd h0 z, fun j hj => ?_, fun b b1 b2 b3 => ?_, fun k hk => ?_⟩
    · rw [r6 78 (by decide), wI_self]
    · rw [r6 78 (by decide), h15]
    · rw [r6 78 (by decide), h16, if_pos h0]
    · rw [z6 j, if_pos ⟨Nat.zero_le _, hj⟩, wI_row (by decide)]; exact s5'.2.2.2 h0 j hj
    · rw [z6 j, if_neg (by omega), fB 81 (by decide) (by decide)]
    · rw [r6 b b2, fB b b1 b3]
    · rw [r6 78 (by decide), fK k hk]
  · have hp : ¬ y.c.1 ≤ 0 := by
      rcases ok with z | z
      · exact absurd z h0
      · exact z
    rw [if_neg (by rw [h15]; exact hp), if_neg h0, if_neg h0, h15]
    refine ⟨wI I5 78 11 0, by rw [if_neg h0], wI_self, h15, h16.trans (if_neg h0), fun z => absurd z h0, fun _ => fB 81 (by decide) (by decide), fun j _ => by rw [fB 81 (by decide) (by decide)], fun b b1 b2 b3 => fB b b1 b3, fK⟩
