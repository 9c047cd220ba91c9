/-! ===== the box, read by both ===== -/
def skp (T : Nat → Int32) (n : Nat) (x : PB) : PB := if x.c.1 = 0 then (x.pu (0, nuS T n x.c.2)) else x
def lp (T : Nat → Int32) (n : Nat) (st : PB → PB) : Nat → PB → PB
  | 0, x => skp T n x
  | f + 1, x => if (skp T n x).c.1 = 0 ∧ (skp T n x).c.2 < n then lp T n st f (st (skp T n x)) else skp T n x
theorem skp_0 {T : Nat → Int32} {n : Nat} {x : PB} (h : x.c.1 = 0) : skp T n x = (x.pu (0, nuS T n x.c.2)) := if_pos h
theorem skp_f {T : Nat → Int32} {n : Nat} {x : PB} (h : ¬ x.c.1 = 0) : skp T n x = x := if_neg h
theorem skp_c {T : Nat → Int32} {n : Nat} {x : PB} : (skp T n x).c.1 = 0 ↔ x.c.1 = 0 := by
  by_cases h : x.c.1 = 0
  · rw [skp_0 h]; exact ⟨fun _ => h, fun _ => rfl⟩
  · rw [skp_f h]
theorem nuS_two {T : Nat → Int32} {n a : Nat} (h : a ≤ n) : nuS T n (nuS T n a) = nuS T n a := by
  have hb := ske_bd isB T (n - a) a
  have he := ske_end (p := isB) (T := T) (n - a) a
  unfold nuS
  generalize ske isB T (n - a) a = s at *
  by_cases q : s < n
  · rw [show n - s = (n - s - 1) + 1 by omega]
    simp only [ske, he (by omega)]
    rfl
  · rw [show n - s = 0 by omega]; rfl
theorem frC_rfl {I : Iv} : FrC I I := ⟨fun _ _ _ _ => rfl, fun _ _ _ _ _ => rfl⟩
theorem frR_rfl {I : Iv} : FrR I I := ⟨fun _ _ _ => rfl, fun _ _ _ _ _ _ _ => rfl⟩
theorem skipC {n : Nat} {T : Nat → Int32} {I : Iv} {x : PB} (J : Jv) (hn : n ≤ 300) (h : StC n T I x) :
    ∃ I' : Iv, fn_X5_skipBlanks I J = (I', J) ∧ StC n T I' (skp T n x) ∧ FrC I I' := by
  obtain ⟨hT, hC, hd, hv⟩ := h
  obtain ⟨q, q1, q2, q3⟩ := hC.2.2.1
  rw [fX5_skip J hn q1 hC.1 q2, hT]
  have hb := ske_bd isB T (n - q) q
  refine ⟨_, rfl, ⟨(wI_row (by decide)).trans hT, ?_, ?_, ?_⟩, (smC_w smC_rfl (by omega)).d.f⟩
  · by_cases h0 : x.c.1 = 0
    · rw [skp_0 h0, ← q3 h0]
      refine cuC_mk0 ?_ ?_ ?_ wI_self ?_
      · rw [wI_ne (by omega)]; exact hC.1
      · rw [wI_ne (by omega)]; exact hC.2.1.trans h0
      · show ske isB T (n - q) q ≤ n; omega
      · rw [wI_ne (by omega), hC.2.2.2, if_pos h0]
    · rw [skp_f h0]
      refine ⟨?_, ?_, ⟨_, ?_, wI_self, fun z => absurd z h0⟩, ?_⟩
      · rw [wI_ne (by omega)]; exact hC.1
      · rw [wI_ne (by omega)]; exact hC.2.1
      · omega
      · rw [wI_ne (by omega)]; exact hC.2.2.2
  · intro j hj
    rw [wI_row (by decide), hd j hj]
    by_cases h0 : x.c.1 = 0
    · rw [skp_0 h0]; rfl
    · rw [skp_f h0]
  · intro z
    have h0 := skp_c.mp z
    rw [skp_0 h0, wI_row (by decide), wI_ne (by omega)]
    exact hv h0
theorem loopC {n : Nat} {T : Nat → Int32} (J : Jv) (hn : n ≤ 300) : ∀ (F : Nat) (x : PB) (cnt fu : Nat) (I : Iv), StC n T I (skp T n x) → fu + cnt = 302 → cnt ≤ 301 → (x.c.1 = 0 → cnt ≤ x.c.2 ∧ x.c.2 ≤ n ∧ n + 2 ≤ F + x.c.2) → 1 ≤ F →
    ∃ (c' : Int32) (I' : Iv), (∀ K : Int32 → Iv → Jv → Iv × Jv, fl_X5_readBox_41_1 K fu (n3 cnt) I J = K c' I' J) ∧ StC n T I' (lp T n (clStep T n) F x) ∧ FrC I I' := by
  intro F
  induction F with
  | zero => intro x cnt fu I _ _ _ _ h; omega
  | succ F ih =>
    intro x cnt fu I hS hf hc hx _
    cases fu with
    | zero => omega
    | succ fu =>
      simp only [lp]
      have h13 : I 1 3 = (skp T n x).c.1 := hS.2.1.2.1
      by_cases q : (skp T n x).c.1 = 0 ∧ (skp T n x).c.2 < n
      · rw [if_pos q]
        have h0 := skp_c.mp q.1
        obtain ⟨x1, x2, x3⟩ := hx h0
        have hb := nu_bd T x2
        have q2 : nuS T n x.c.2 < n := by have := q.2; rw [skp_0 h0] at this; exact this
        obtain ⟨I1, e1, s1, f1⟩ := clauseC J hn hS q.1
        obtain ⟨I2, e2, s2, f2⟩ := skipC J hn s1
        have hp : (clStep T n (skp T n x)).c.1 = 0 → nuS T n x.c.2 < (clStep T n (skp T n x)).c.2 ∧ (clStep T n (skp T n x)).c.2 ≤ n := by
          intro z
          have := clStep_up (x := skp T n x) (Nat.le_of_lt q.2) z
          rw [skp_0 h0] at this ⊢; exact this
        obtain ⟨c', I3, e3, s3, f3⟩ := ih (clStep T n (skp T n x)) (cnt + 1) fu I2 s2 (by omega) (by omega) (fun z => by have := hp z; omega) (by omega)
        refine ⟨c', I3, fun K => ?_, s3, f1.tr (f2.tr f3)⟩
        obtain ⟨p1, p2⟩ := cuC_q hS.2.1 q.1
        rw [fl_X5_readBox_41_1.eq_2, j_n, if_neg (by rw [show (300 : Int32) = n3 300 from rfl, n3_lt (by omega) (by omega)]; omega), if_pos (h13.trans q.1), if_neg (by rw [hS.2.1.1, p2, n3_le (by omega) (by omega)]; omega), e1, b_n2_mk, e2, b_n2_mk, n3_up, e3]
      · rw [if_neg q]
        refine ⟨n3 cnt, I, fun K => ?_, hS, frC_rfl⟩
        rw [fl_X5_readBox_41_1.eq_2, j_n]
        by_cases c3 : (300 : Int32) < n3 cnt
        · rw [if_pos c3]
        · rw [if_neg c3]
          by_cases f0 : I 1 3 = 0
          · have q1 : (skp T n x).c.1 = 0 := h13.symm.trans f0
            obtain ⟨p1, p2⟩ := cuC_q hS.2.1 q1
            rw [if_pos f0, if_pos (by rw [hS.2.1.1, p2, n3_le (by omega) (by omega)]; exact Nat.le_of_not_lt (fun z => q ⟨q1, z⟩))]
          · rw [if_neg f0]
theorem clStep_ct {T : Nat → Int32} {n : Nat} {x : PB} (h : (clStep T n x).c.1 = 0) : (clStep T n x).ct = x.ct + 1 := by
  unfold clStep at h ⊢
  generalize ske isL T (n - x.c.2) x.c.2 = e at *
  generalize kdF T x.c.2 (e - x.c.2) 13 0 = k at *
  by_cases q1 : k < 0
  · rw [if_pos q1] at h; exact absurd (show (1 : Int32) = 0 from h) (by decide)
  · rw [if_neg q1] at h ⊢
    by_cases q2 : x.td k.toNatClampNeg = true
    · rw [if_pos q2] at h; exact absurd (show (3 : Int32) = 0 from h) (by decide)
    · rw [if_neg q2]; rfl
theorem hereR {n : Nat} {T : Nat → Int32} {I : Iv} {x : PB} (J : Jv) (hn : n ≤ 300) (h : StR n T I x) (h0 : x.c.1 = 0) :
    ∃ I' : Iv, fn_X10_here I J = (hrV T n (nuS T n x.c.2), I', J) ∧ StR n T I' (skp T n x) ∧ FrR I I' := by
  obtain ⟨hT, hC, hd, hv⟩ := h
  obtain ⟨ha, h2⟩ := hC.2.2.1 h0
  have hb := nu_bd T ha
  refine ⟨wI I 78 12 (n3 (nuS T n x.c.2)), by rw [fX10_here J hn ha hC.1 h2, hT]; rfl, ⟨(wI_row (by decide)).trans hT, ?_, fun j hj => ?_, fun z j hj => ?_⟩, (smR_w smR_rfl (by omega)).f⟩
  · rw [skp_0 h0]
    refine cuR_mk0 ?_ ?_ (by omega) wI_self ?_
    · rw [wI_ne (by omega)]; exact hC.1
    · rw [wI_ne (by omega)]; exact hC.2.1.trans h0
    · rw [wI_ne (by omega), hC.2.2.2, if_pos h0]
  · rw [wI_ne (by omega), skp_0 h0]; exact hd j hj
  · rw [wI_row (by decide), skp_0 h0]; exact hv h0 j hj
theorem hrV_neg {T : Nat → Int32} {n s : Nat} (hT : ∀ k, 0 ≤ T k) : hrV T n s < 0 ↔ ¬ s < n := by
  unfold hrV
  by_cases q : s < n
  · rw [if_pos q]; exact ⟨fun z => absurd (hT s) (Int32.not_le.mpr z), fun z => absurd q z⟩
  · rw [if_neg q]; exact ⟨fun _ => q, fun _ => by decide⟩
theorem loopR {n : Nat} {T : Nat → Int32} (J : Jv) (hn : n ≤ 300) (hT : ∀ k, 0 ≤ T k) : ∀ (F : Nat) (x : PB) (i : Int32) (fu : Nat) (I : Iv), StR n T I x → F ≤ fu → (x.c.1 = 0 → i = n3 x.ct ∧ x.c.2 ≤ n ∧ n + 2 ≤ F + x.c.2) → 1 ≤ F →
    ∃ (i' : Int32) (I' : Iv), (∀ K : Int32 → Iv → Int32 × Iv × Jv, fl_X10_box_39_1 J K fu i I = K i' I') ∧ StR n T I' (lp T n (clStep T n) F x) ∧ FrR I I' ∧ ((lp T n (clStep T n) F x).c.1 = 0 → i' = n3 (lp T n (clStep T n) F x).ct) := by
  intro F
  induction F with
  | zero => intro x i fu I _ _ _ h; omega
  | succ F ih =>
    intro x i fu I hS hf hx _
    cases fu with
    | zero => omega
    | succ fu =>
      simp only [lp]
      by_cases h0 : x.c.1 = 0
      · obtain ⟨xi, x2, x3⟩ := hx h0
        have hb := nu_bd T x2
        obtain ⟨I1, e1, s1, f1⟩ := hereR J hn hS h0
        have h15 : I 78 15 = 0 := hS.2.1.2.1.trans h0
        have e2 : (skp T n x).c.2 = nuS T n x.c.2 := by rw [skp_0 h0]; rfl
        by_cases q : (skp T n x).c.2 < n
        · rw [if_pos ⟨skp_c.mpr h0, q⟩]
          rw [e2] at q
          obtain ⟨I2, e3, s3, f3⟩ := clauseR J hn s1 (skp_c.mpr h0) (by rw [e2]; exact nuS_two x2)
          have hp : (clStep T n (skp T n x)).c.1 = 0 → nuS T n x.c.2 < (clStep T n (skp T n x)).c.2 ∧ (clStep T n (skp T n x)).c.2 ≤ n := by
            intro z
            have := clStep_up (x := skp T n x) (by rw [e2]; omega) z
            rw [e2] at this; exact this
          obtain ⟨i', I3, e4, s4, f4, c4⟩ := ih (clStep T n (skp T n x)) (i + 1) fu I2 s3 (by omega) (fun z => ⟨by rw [clStep_ct z, xi, n3_up, skp_0 h0]; rfl, (hp z).2, by have := hp z; omega⟩) (by omega)
          refine ⟨i', I3, fun K => ?_, s4, f1.tr (f3.tr f4), c4⟩
          rw [fl_X10_box_39_1.eq_2, j_n, if_pos h15, e1, b_n3_mk, if_neg (fun z => (hrV_neg hT).mp z q), e3, b_n2_mk, e4]
        · rw [if_neg (fun z => q z.2)]
          rw [e2] at q
          refine ⟨i, I1, fun K => ?_, s1, f1, fun _ => ?_⟩
          · rw [fl_X10_box_39_1.eq_2, j_n, if_pos h15, e1, b_n3_mk, if_pos ((hrV_neg hT).mpr q)]
          · rw [skp_0 h0]; exact xi
      · rw [if_neg (fun z => h0 (skp_c.mp z.1)), skp_f h0]
        refine ⟨i, I, fun K => ?_, hS, frR_rfl, fun z => absurd z h0⟩
        rw [fl_X10_box_39_1.eq_2, j_n, if_neg (by rw [hS.2.1.2.1]; exact h0)]
/-- the end of the box -/
def fin4 (n : Nat) (x : PB) : PB := if x.c.1 = 0 ∧ ¬ x.nu 7 < x.nu 6 then (x.pu (4, n)) else x
def x0B : PB := (mkP ((0, 0)) (fun _ => false) (fun j => ((stI.getD 0 default).2).getD j 0) (0))
def boxP (T : Nat → Int32) (n : Nat) : PB := fin4 n (lp T n (clStep T n) (n + 2) x0B)
theorem beginC {n : Nat} {I : Iv} (J : Jv) (hn : n ≤ 300) (h1 : I 1 1 = n3 n) :
    ∃ I' : Iv, fn_X5_begin I J = (I', J) ∧ CuC n I' (0, nuS (I 2) n 0) ∧ I' 1 5 = 0 ∧ SmD I I' := by
  unfold fn_X5_begin
  dsimp only [l_t]
  have g1 : wI (wI (wI (wI I 1 2 0) 1 3 0) 1 4 (-1)) 1 5 0 1 1 = n3 n := by rw [wI_ne (by omega), wI_ne (by omega), wI_ne (by omega), wI_ne (by omega)]; exact h1
  have g2 : wI (wI (wI (wI I 1 2 0) 1 3 0) 1 4 (-1)) 1 5 0 1 2 = n3 0 := by rw [wI_ne (by omega), wI_ne (by omega), wI_ne (by omega), wI_self]; rfl
  have g3 : wI (wI (wI (wI I 1 2 0) 1 3 0) 1 4 (-1)) 1 5 0 1 3 = 0 := by rw [wI_ne (by omega), wI_ne (by omega), wI_self]
  have g4 : wI (wI (wI (wI I 1 2 0) 1 3 0) 1 4 (-1)) 1 5 0 1 4 = -1 := by rw [wI_ne (by omega), wI_self]
  have g5 : wI (wI (wI (wI I 1 2 0) 1 3 0) 1 4 (-1)) 1 5 0 1 5 = 0 := wI_self
  have gr : ∀ b, b ≠ 1 → (wI (wI (wI (wI I 1 2 0) 1 3 0) 1 4 (-1)) 1 5 0) b = I b := fun b hb => by rw [wI_row hb, wI_row hb, wI_row hb, wI_row hb]
  have gk : ∀ k, k ≠ 2 → k ≠ 3 → k ≠ 4 → k ≠ 5 → wI (wI (wI (wI I 1 2 0) 1 3 0) 1 4 (-1)) 1 5 0 1 k = I 1 k := fun k a b c d => by rw [wI_ne (Or.inr d), wI_ne (Or.inr c), wI_ne (Or.inr b), wI_ne (Or.inr a)]
  generalize wI (wI (wI (wI I 1 2 0) 1 3 0) 1 4 (-1)) 1 5 0 = I1 at *
  have hb := nu_bd (I 2) (Nat.zero_le n)
  rw [fX5_skip J hn (Nat.zero_le n) g1 g2, gr 2 (by decide)]
  refine ⟨wI I1 1 2 (n3 (nuS (I 2) n 0)), rfl, cuC_mk0 ?_ ?_ (by omega) wI_self ?_, ?_, fun b hb => ?_, fun k a b c d => ?_⟩
  · rw [wI_ne (by omega)]; exact g1
  · rw [wI_ne (by omega)]; exact g3
  · rw [wI_ne (by omega)]; exact g4
  · rw [wI_ne (by omega)]; exact g5
  · rw [wI_row hb, gr b hb]
  · rw [wI_ne (Or.inr a), gk k a b c d]
theorem z3C {J : Jv} : ∀ (f k fu : Nat) (I : Iv), k + f = 13 → f < fu → ∃ I' : Iv, (∀ K : Int32 → Iv → Iv × Jv, fl_X5_readBox_6_0 J K fu (n3 k) I = K 13 I') ∧ (∀ b, b ≠ 3 → I' b = I b) ∧ ∀ j, I' 3 j = (if k ≤ j ∧ j < 13 then 0 else I 3 j)
  | f, k, 0, _, _, h => absurd h (Nat.not_lt_zero _)
  | 0, k, fu + 1, I, hk, _ => ⟨I, fun K => by
      rw [fl_X5_readBox_6_0.eq_2, if_pos (by rw [show (13 : Int32) = n3 13 from rfl, n3_le (by omega) (by omega)]; omega), show k = 13 by omega]; rfl, fun _ _ => rfl, fun j => by rw [if_neg (by omega)]⟩
  | f + 1, k, fu + 1, I, hk, hf => by
    obtain ⟨I', e, r1, r2⟩ := z3C (J := J) f (k + 1) fu (wI I 3 k 0) (by omega) (by omega)
    refine ⟨I', fun K => ?_, fun b hb => by rw [r1 b hb, wI_row hb], fun j => ?_⟩
    · rw [fl_X5_readBox_6_0.eq_2, if_neg (by rw [show (13 : Int32) = n3 13 from rfl, n3_le (by omega) (by omega)]; omega), n3_tn (by omega), l_t, n3_up, e]
    · rw [r2 j]
      by_cases q : j = k
      · rw [q, if_neg (by omega), if_pos (by omega), wI_self]
      · rw [wI_ne (Or.inr q)]
        by_cases q2 : k + 1 ≤ j ∧ j < 13
        · rw [if_pos q2, if_pos (by omega)]
        · rw [if_neg q2, if_neg (by omega)]
theorem readBoxC {n : Nat} {I : Iv} (J : Jv) (hn : n ≤ 300) (h1 : I 1 1 = n3 n) :
    ∃ I' : Iv, fn_X5_readBox I J = (I', J) ∧ StC n (I 2) I' (boxP (I 2) n) ∧ FrC I I' := by
  obtain ⟨I1, e1, u1, c1, f1⟩ := beginC J hn h1
  obtain ⟨I2, e2, r2, z2⟩ := z3C (J := J) 13 0 (mU (13 : Int32) ((0 : Int32)) + 1) I1 rfl (by decide)
  have hS : StC n (I 2) (cI I2 4 15 (fun i => (((stI.getD 0 default).2).getD i 0))) (skp (I 2) n x0B) := by
    rw [skp_0 (show x0B.c.1 = 0 from rfl)]
    refine ⟨?_, ?_, fun j hj => ?_, fun _ => ⟨fun j hj => ?_, ?_⟩⟩
    · rw [cI_row (by decide), r2 2 (by decide), f1.1 2 (by decide)]
    · exact cuC_of ((cI_row (by decide)).trans (r2 1 (by decide))) u1
    · rw [cI_row (by decide), z2 j, if_pos ⟨Nat.zero_le _, hj⟩]; rfl
    · simp only [cI, hj, and_self, if_true]; rfl
    · rw [cI_row (by decide), r2 1 (by decide), c1]; rfl
  obtain ⟨c', I3, e3, s3, f3⟩ := loopC J hn (n + 2) x0B 0 302 _ hS rfl (by omega) (fun _ => ⟨Nat.zero_le _, Nat.zero_le _, by show n + 2 ≤ n + 2 + 0; omega⟩) (by omega)
  have ff : FrC I I3 := by
    refine ⟨fun b a1 a3 a4 => ?_, fun k a b c d => ?_⟩
    · rw [f3.1 b a1 a3 a4, cI_row a4, r2 b a3, f1.1 b a1]
    · rw [f3.2 k a b c d, cI_row (by decide), r2 1 (by decide), f1.2 k a b c d]
  have e2' : ∀ K : Int32 → Iv → Iv × Jv, fl_X5_readBox_6_0 J K (mU (13 : Int32) ((0 : Int32)) + 1) 0 I1 = K 13 I2 := e2
  have e3' : ∀ K : Int32 → Iv → Jv → Iv × Jv, fl_X5_readBox_41_1 K 302 0 (cI I2 4 15 (fun i => (((stI.getD 0 default).2).getD i 0))) J = K c' I3 J := e3
  unfold fn_X5_readBox
  rw [e1, b_n2_mk, e2', l_t, show mUe (300 : Int32) (0 : Int32) + 1 = 302 by decide, e3']
  unfold boxP fin4
  generalize lp (I 2) n (clStep (I 2) n) (n + 2) x0B = x at *
  have h13 : I3 1 3 = x.c.1 := s3.2.1.2.1
  by_cases h0 : x.c.1 = 0
  · obtain ⟨v4, v5⟩ := s3.2.2.2 h0
    rw [if_pos (by rw [h13]; exact h0), v4 7 (by decide), v4 6 (by decide)]
    by_cases q : x.nu 7 < x.nu 6
    · rw [if_pos q, if_neg (fun z => z.2 q)]
      exact ⟨I3, rfl, s3, ff⟩
    · rw [if_neg q, if_pos ⟨h0, q⟩]
      unfold fn_X5_faultAt
      dsimp only [l_t]
      obtain ⟨q9, p1, p2, -⟩ := s3.2.1.2.2.1
      rw [s3.2.1.1]
      refine ⟨wI (wI I3 1 3 4) 1 4 (n3 n), rfl, ⟨?_, cuC_mkf (q := q9) ?_ (by decide) ?_ p1 ?_ wI_self, fun j hj => ?_, fun z => absurd (show (4 : Int32) = 0 from z) (by decide)⟩, ff.tr (smC_w (smC_w smC_rfl (by omega)) (by omega)).d.f⟩
      · rw [wI_row (by decide), wI_row (by decide)]; exact s3.1
      · rw [wI_ne (by omega), wI_ne (by omega)]; exact s3.2.1.1
      · rw [wI_ne (by omega), wI_self]
      · rw [wI_ne (by omega), wI_ne (by omega)]; exact p2
      · rw [wI_row (by decide), wI_row (by decide)]; exact s3.2.2.1 j hj
  · rw [if_neg (by rw [h13]; exact h0), if_neg (fun z => h0 z.1)]
    exact ⟨I3, rfl, s3, ff⟩
