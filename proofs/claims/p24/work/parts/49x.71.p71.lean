/-! ===== the reference's day ===== -/
theorem loopE {n : Nat} {T : Nat → Int32} (J : Jv) (hn : n ≤ 300) (hT : ∀ k, 0 ≤ T k) : ∀ (F : Nat) (x : PB) (i : Int32) (fu : Nat) (I : Iv), DyR n T I x → F ≤ fu → (x.c.1 = 0 → i = n3 x.ct ∧ x.c.2 ≤ n ∧ n + 2 ≤ F + x.c.2) → 1 ≤ F →
    ∃ (i' : Int32) (I' : Iv), (∀ K : Int32 → Iv → Int32 × Iv × Jv, fl_X10_day_10_0 J K fu i I = K i' I') ∧ DyR n T I' (lp T n (dyStep T n) F x) ∧ FdR I I' ∧ ((lp T n (dyStep T n) F x).c.1 = 0 → i' = n3 (lp T n (dyStep T n) F x).ct) := by
  intro F
  induction F with
  | zero => intro x i fu I _ _ _ h; omega
  | succ F ih =>
    intro x i fu I hS hf hx _
    cases fu with
    | zero => omega
    | succ fu =>
      simp only [lp]
      by_cases h0 : x.c.1 = 0
      · obtain ⟨xi, x2, x3⟩ := hx h0
        subst xi
        have hb := nu_bd T x2
        have h15 : I 78 15 = 0 := hS.2.1.2.1.trans h0
        have e2 : (skp T n x).c.2 = nuS T n x.c.2 := by rw [skp_0 h0]; rfl
        by_cases q : (skp T n x).c.2 < n
        · rw [if_pos ⟨skp_c.mpr h0, q⟩]
          rw [e2] at q
          obtain ⟨i1, I2, e3, s3, f3, c3⟩ := openR (J := J) hn hT hS h0 q fu
          have hp : (dyStep T n (skp T n x)).c.1 = 0 → nuS T n x.c.2 < (dyStep T n (skp T n x)).c.2 ∧ (dyStep T n (skp T n x)).c.2 ≤ n := by
            intro z
            have := dyStep_up (x := skp T n x) (by rw [e2]; omega) z
            rw [e2] at this; exact ⟨this.1, this.2.1⟩
          obtain ⟨i', I3, e4, s4, f4, c4⟩ := ih (dyStep T n (skp T n x)) i1 fu I2 s3 (by omega) (fun z => ⟨c3 z, (hp z).2, by have := hp z; omega⟩) (by omega)
          exact ⟨i', I3, fun K => by rw [e3, e4], s4, f3.tr f4, c4⟩
        · rw [if_neg (fun z => q z.2)]
          rw [e2] at q
          obtain ⟨ha, h2⟩ := hS.2.1.2.2.1 h0
          have e1 : fn_X10_here I J = (hrV T n (nuS T n x.c.2), wI I 78 12 (n3 (nuS T n x.c.2)), J) := by rw [fX10_here J hn ha hS.2.1.1 h2, hS.1]; rfl
          refine ⟨n3 x.ct, wI I 78 12 (n3 (nuS T n x.c.2)), fun K => ?_, ⟨(wI_row (by decide)).trans hS.1, ?_, fun z => ?_⟩, (smR_w smR_rfl (by omega)).fd, fun _ => ?_⟩
          · rw [fl_X10_day_10_0.eq_2, j_n, if_pos h15, e1, b_n3_mk, if_pos ((hrV_neg hT).mpr q)]
          · rw [skp_0 h0]
            refine cuR_mk0 ?_ ?_ (by omega) wI_self ?_
            · rw [wI_ne (by omega)]; exact hS.2.1.1
            · rw [wI_ne (by omega)]; exact h15
            · rw [wI_ne (by omega), hS.2.1.2.2.2, if_pos h0]
          · rw [skp_0 h0, wI_row (by decide), wI_row (by decide)]; exact hS.2.2 h0
          · rw [skp_0 h0]; rfl
      · rw [if_neg (fun z => h0 (skp_c.mp z.1)), skp_f h0]
        refine ⟨i, I, fun K => ?_, hS, fdR_rfl, fun z => absurd z h0⟩
        rw [fl_X10_day_10_0.eq_2, j_n, if_neg (by rw [hS.2.1.2.1]; exact h0)]
theorem fOk_day {T : Nat → Int32} {n : Nat} : fOk (dayP T n).c := fOk_lp (fun _ => fOk_dy) (n + 2) x0D (Or.inl rfl)
def dayA (T : Nat → Int32) (n : Nat) : Int32 := if (dayP T n).c.1 = 0 then n3 (dayP T n).ct else -10 - (dayP T n).c.1
theorem cDR {J : Jv} {m : Nat} (hm : m ≤ 12) : ∀ (f k fu : Nat) (I : Iv), k + f = m → f < fu → ∃ I' : Iv, (∀ K : Int32 → Iv → Int32 × Iv × Jv, fl_X10_day_169_2 J (n3 m) K fu (n3 k) I = K (n3 m) I') ∧ (∀ b, b ≠ 83 → b ≠ 84 → I' b = I b) ∧ (∀ j, I' 83 j = (if k ≤ j ∧ j < m then I 85 j else I 83 j)) ∧ ∀ j, I' 84 j = (if k ≤ j ∧ j < m then I 86 j else I 84 j)
  | f, k, 0, _, _, h => absurd h (Nat.not_lt_zero _)
  | 0, k, fu + 1, I, hk, _ => ⟨I, fun K => by
      rw [fl_X10_day_169_2.eq_2, if_pos (by rw [n3_le (by omega) (by omega)]; omega), show k = m by omega], fun _ _ _ => rfl, fun j => by rw [if_neg (by omega)], fun j => by rw [if_neg (by omega)]⟩
  | f + 1, k, fu + 1, I, hk, hf => by
    obtain ⟨I', e, r1, r2, r3⟩ := cDR (J := J) hm f (k + 1) fu (wI (wI I 83 k (I 85 k)) 84 k (I 86 k)) (by omega) (by omega)
    refine ⟨I', fun K => ?_, fun b b3 b4 => by rw [r1 b b3 b4, wI_row b4, wI_row b3], fun j => ?_, fun j => ?_⟩
    · rw [fl_X10_day_169_2.eq_2, if_neg (by rw [n3_le (by omega) (by omega)]; omega), n3_tn (by omega), l_t, l_t, wI_row (show (86 : Nat) ≠ 83 by decide), n3_up, e]
    · rw [r2 j, wI_row (show (85 : Nat) ≠ 84 by decide), wI_row (show (85 : Nat) ≠ 83 by decide), wI_row (show (83 : Nat) ≠ 84 by decide)]
      by_cases q : j = k
      · rw [q, if_neg (by omega), if_pos (by omega), wI_self]
      · rw [wI_ne (Or.inr q)]
        by_cases q2 : k + 1 ≤ j ∧ j < m
        · rw [if_pos q2, if_pos (by omega)]
        · rw [if_neg q2, if_neg (by omega)]
    · rw [r3 j, wI_row (show (86 : Nat) ≠ 84 by decide), wI_row (show (86 : Nat) ≠ 83 by decide)]
      by_cases q : j = k
      · rw [q, if_neg (by omega), if_pos (by omega), wI_self]
      · rw [wI_ne (Or.inr q), wI_row (show (84 : Nat) ≠ 83 by decide)]
        by_cases q2 : k + 1 ≤ j ∧ j < m
        · rw [if_pos q2, if_pos (by omega)]
        · rw [if_neg q2, if_neg (by omega)]
theorem dayR {n : Nat} {I I1 : Iv} {J J2 : Jv} (hn : n ≤ 300) (hT : ∀ k, 0 ≤ I1 87 k) (hb : fn_X10_begin I J = (I1, J2)) (h11 : I1 78 11 = n3 n) :
    ∃ I' : Iv, fn_X10_day I J = (dayA (I1 87) n, I', J2) ∧ I' 78 11 = 0 ∧ I' 78 15 = (dayP (I1 87) n).c.1 ∧
      I' 78 16 = (if (dayP (I1 87) n).c.1 = 0 then -1 else n3 (dayP (I1 87) n).c.2) ∧
      ((dayP (I1 87) n).c.1 = 0 → I' 78 5 = n3 (dayP (I1 87) n).ct ∧ (dayP (I1 87) n).ct ≤ 12 ∧ ∀ j, j < (dayP (I1 87) n).ct → I' 83 j = (dayP (I1 87) n).nu j ∧ I' 84 j = (dayP (I1 87) n).nu (20 + j)) ∧
      (¬ (dayP (I1 87) n).c.1 = 0 → I' 83 = I1 83 ∧ I' 84 = I1 84 ∧ I' 78 5 = I1 78 5) ∧
      (∀ b, b ≠ 78 → b ≠ 83 → b ≠ 84 → b ≠ 85 → b ≠ 86 → I' b = I1 b) ∧ ∀ k, k ≠ 5 → k < 11 ∨ 16 < k → I' 78 k = I1 78 k := by
  obtain ⟨I2, e2, u2, s2⟩ := readR J2 h11
  have hS : DyR n (I1 87) I2 x0D := ⟨s2.1 87 (by decide), u2, fun _ => ⟨fun j hj => absurd hj (Nat.not_lt_zero _), Nat.zero_le _⟩⟩
  have hM : n + 2 ≤ MR I2 + 1 := by
    unfold MR mU
    rw [u2.1, (u2.2.2.1 rfl).2, u2.2.1]
    rw [Int32.toInt_ofNat_of_lt (by omega), show (n3 0).toInt = 0 by decide, if_pos rfl]
    omega
  obtain ⟨i', I4, e4, s4, f4, c4⟩ := loopE J2 hn hT (n + 2) x0D 0 (MR I2 + 1) I2 hS hM (fun _ => ⟨rfl, Nat.zero_le _, by show n + 2 ≤ n + 2 + 0; omega⟩) (by omega)
  have ok := fOk_day (T := I1 87) (n := n)
  have s4' : DyR n (I1 87) I4 (dayP (I1 87) n) := s4
  have c4' : (dayP (I1 87) n).c.1 = 0 → i' = n3 (dayP (I1 87) n).ct := c4
  unfold fn_X10_day
  rw [hb, b_n2_mk, e2, b_n2_mk, e4, l_t]
  unfold dayA
  generalize dayP (I1 87) n = y at *
  have h15 : wI I4 78 11 0 78 15 = y.c.1 := by rw [wI_ne (by omega)]; exact s4'.2.1.2.1
  have h16 : wI I4 78 11 0 78 16 = (if y.c.1 = 0 then -1 else n3 y.c.2) := by rw [wI_ne (by omega)]; exact s4'.2.1.2.2.2
  have fB : ∀ b, b ≠ 78 → b ≠ 85 → b ≠ 86 → (wI I4 78 11 0) b = I1 b := fun b b1 b2 b3 => by rw [wI_row b1, f4.1 b b1 b2 b3, s2.1 b b1]
  have fK : ∀ k, k < 11 ∨ 16 < k → wI I4 78 11 0 78 k = I1 78 k := fun k hk => by
    rw [wI_ne (by omega), f4.2 k (by omega) (by omega) (by omega) (by omega) (by omega), s2.2 k (by omega) (by omega) (by omega) (by omega) (by omega)]
  by_cases h0 : y.c.1 = 0
  · obtain ⟨v1, v2⟩ := s4'.2.2 h0
    rw [if_pos (by rw [h15, h0]; decide), if_pos h0, c4' h0, l_t]
    obtain ⟨I6, e6, r6, z6, z7⟩ := cDR (J := J2) v2 y.ct 0 (mU (n3 y.ct) 0 + 1) (wI (wI I4 78 11 0) 78 5 (n3 y.ct)) (by omega) (by
      unfold mU; rw [Int32.toInt_ofNat_of_lt (by omega), show (0 : Int32).toInt = 0 by decide]; omega)
    have e6' : ∀ K : Int32 → Iv → Int32 × Iv × Jv, fl_X10_day_169_2 J2 (n3 y.ct) K (mU (n3 y.ct) 0 + 1) 0 (wI (wI I4 78 11 0) 78 5 (n3 y.ct)) = K (n3 y.ct) I6 := e6
    rw [e6']
    refine ⟨I6, rfl, ?_, ?_, ?_, fun _ => ⟨?_, v2, fun j hj => ⟨?_, ?_⟩⟩, fun z => absurd h0 z, fun b b1 b2 b3 b4 b5 => ?_, fun k k5 hk => ?_⟩
    · rw [r6 78 (by decide) (by decide), wI_ne (by omega), wI_self]
    · rw [r6 78 (by decide) (by decide), wI_ne (by omega), h15]
    · rw [r6 78 (by decide) (by decide), wI_ne (by omega), h16]
    · rw [r6 78 (by decide) (by decide), wI_self]
    · rw [z6 j, if_pos ⟨Nat.zero_le _, hj⟩, wI_row (by decide), wI_row (by decide)]; exact (v1 j hj).1
    · rw [z7 j, if_pos ⟨Nat.zero_le _, hj⟩, wI_row (by decide), wI_row (by decide)]; exact (v1 j hj).2
    · rw [r6 b b2 b3, wI_row b1, fB b b1 b4 b5]
    · rw [r6 78 (by decide) (by decide), wI_ne (Or.inr k5), fK k hk]
  · have hp : ¬ y.c.1 ≤ 0 := by
      rcases ok with z | z
      · exact absurd z h0
      · exact z
    rw [if_neg (by rw [h15]; exact hp), if_neg h0, h15]
    refine ⟨wI I4 78 11 0, rfl, wI_self, h15, h16, fun z => absurd z h0, fun _ => ⟨fB 83 (by decide) (by decide) (by decide), fB 84 (by decide) (by decide) (by decide), fK 5 (by omega)⟩, fun b b1 b2 b3 b4 b5 => fB b b1 b4 b5, fun k _ hk => fK k hk⟩
