/-! ===== the loops of the day ===== -/
theorem skipD {n : Nat} {T : Nat → Int32} {I : Iv} {x : PB} (J : Jv) (hn : n ≤ 300) (h : DyC n T I x) :
    ∃ I' : Iv, fn_X5_skipBlanks I J = (I', J) ∧ DyC n T I' (skp T n x) ∧ FdC I I' := by
  obtain ⟨hT, hC, hv⟩ := h
  obtain ⟨q, q1, q2, q3⟩ := hC.2.2.1
  rw [fX5_skip J hn q1 hC.1 q2, hT]
  have hb := ske_bd isB T (n - q) q
  refine ⟨_, rfl, ⟨(wI_row (by decide)).trans hT, ?_, ?_⟩, (smC_w smC_rfl (by omega)).d.fd⟩
  · by_cases h0 : x.c.1 = 0
    · rw [skp_0 h0, ← q3 h0]
      refine cuC_mk0 ?_ ?_ ?_ wI_self ?_
      · rw [wI_ne (by omega)]; exact hC.1
      · rw [wI_ne (by omega)]; exact hC.2.1.trans h0
      · show ske isB T (n - q) q ≤ n; omega
      · rw [wI_ne (by omega), hC.2.2.2, if_pos h0]
    · rw [skp_f h0]
      refine ⟨?_, ?_, ⟨_, ?_, wI_self, fun z => absurd z h0⟩, ?_⟩
      · rw [wI_ne (by omega)]; exact hC.1
      · rw [wI_ne (by omega)]; exact hC.2.1
      · omega
      · rw [wI_ne (by omega)]; exact hC.2.2.2
  · intro z
    have h0 := skp_c.mp z
    rw [skp_0 h0, wI_row (by decide), wI_row (by decide), wI_ne (by omega)]
    exact hv h0
theorem loopD {n : Nat} {T : Nat → Int32} (J : Jv) (hn : n ≤ 300) : ∀ (F : Nat) (x : PB) (cnt fu : Nat) (I : Iv), DyC n T I (skp T n x) → fu + cnt = 302 → cnt ≤ 301 → (x.c.1 = 0 → cnt ≤ x.c.2 ∧ x.c.2 ≤ n ∧ n + 2 ≤ F + x.c.2) → 1 ≤ F →
    ∃ (c' : Int32) (I' : Iv), (∀ K : Int32 → Iv → Jv → Iv × Jv, fl_X5_readDay_6_0 K fu (n3 cnt) I J = K c' I' J) ∧ DyC n T I' (lp T n (dyStep T n) F x) ∧ FdC I I' := by
  intro F
  induction F with
  | zero => intro x cnt fu I _ _ _ _ h; omega
  | succ F ih =>
    intro x cnt fu I hS hf hc hx _
    cases fu with
    | zero => omega
    | succ fu =>
      simp only [lp]
      have h13 : I 1 3 = (skp T n x).c.1 := hS.2.1.2.1
      by_cases q : (skp T n x).c.1 = 0 ∧ (skp T n x).c.2 < n
      · rw [if_pos q]
        have h0 := skp_c.mp q.1
        obtain ⟨x1, x2, x3⟩ := hx h0
        have hb := nu_bd T x2
        have q2 : nuS T n x.c.2 < n := by have := q.2; rw [skp_0 h0] at this; exact this
        obtain ⟨I1, e1, s1, f1⟩ := openC J hn hS q.1
        obtain ⟨I2, e2, s2, f2⟩ := skipD J hn s1
        have hp : (dyStep T n (skp T n x)).c.1 = 0 → nuS T n x.c.2 < (dyStep T n (skp T n x)).c.2 ∧ (dyStep T n (skp T n x)).c.2 ≤ n := by
          intro z
          have := dyStep_up (x := skp T n x) (Nat.le_of_lt q.2) z
          rw [skp_0 h0] at this ⊢; exact ⟨this.1, this.2.1⟩
        obtain ⟨c', I3, e3, s3, f3⟩ := ih (dyStep T n (skp T n x)) (cnt + 1) fu I2 s2 (by omega) (by omega) (fun z => by have := hp z; omega) (by omega)
        refine ⟨c', I3, fun K => ?_, s3, f1.tr (f2.tr f3)⟩
        obtain ⟨p1, p2⟩ := cuC_q hS.2.1 q.1
        rw [fl_X5_readDay_6_0.eq_2, if_neg (by rw [show (300 : Int32) = n3 300 from rfl, n3_lt (by omega) (by omega)]; omega), if_pos (h13.trans q.1), if_neg (by rw [hS.2.1.1, p2, n3_le (by omega) (by omega)]; omega), e1, b_n2_mk, e2, b_n2_mk, n3_up, e3]
      · rw [if_neg q]
        refine ⟨n3 cnt, I, fun K => ?_, hS, ⟨fun _ _ _ _ => rfl, fun _ _ _ _ _ => rfl⟩⟩
        rw [fl_X5_readDay_6_0.eq_2]
        by_cases c3 : (300 : Int32) < n3 cnt
        · rw [if_pos c3]
        · rw [if_neg c3]
          by_cases f0 : I 1 3 = 0
          · have q1 : (skp T n x).c.1 = 0 := h13.symm.trans f0
            obtain ⟨p1, p2⟩ := cuC_q hS.2.1 q1
            rw [if_pos f0, if_pos (by rw [hS.2.1.1, p2, n3_le (by omega) (by omega)]; exact Nat.le_of_not_lt (fun z => q ⟨q1, z⟩))]
          · rw [if_neg f0]
def x0D : PB := (mkP ((0, 0)) (fun _ => false) (fun _ => 0) (0))
def dayP (T : Nat → Int32) (n : Nat) : PB := lp T n (dyStep T n) (n + 2) x0D
theorem readDayC {n : Nat} {I : Iv} (J : Jv) (hn : n ≤ 300) (h1 : I 1 1 = n3 n) :
    ∃ I' : Iv, fn_X5_readDay I J = (I', J) ∧ DyC n (I 2) I' (dayP (I 2) n) ∧ FdC I I' := by
  obtain ⟨I1, e1, u1, c1, f1⟩ := beginC J hn h1
  have hS : DyC n (I 2) I1 (skp (I 2) n x0D) := by
    rw [skp_0 (show x0D.c.1 = 0 from rfl)]
    exact ⟨f1.1 2 (by decide), u1, fun _ => ⟨fun j hj => absurd hj (Nat.not_lt_zero _), c1, Nat.zero_le _⟩⟩
  obtain ⟨c', I3, e3, s3, f3⟩ := loopD J hn (n + 2) x0D 0 302 I1 hS rfl (by omega) (fun _ => ⟨Nat.zero_le _, Nat.zero_le _, by show n + 2 ≤ n + 2 + 0; omega⟩) (by omega)
  have e3' : ∀ K : Int32 → Iv → Jv → Iv × Jv, fl_X5_readDay_6_0 K 302 0 I1 J = K c' I3 J := e3
  unfold fn_X5_readDay
  rw [e1, b_n2_mk, show mUe (300 : Int32) (0 : Int32) + 1 = 302 by decide, e3']
  exact ⟨I3, rfl, s3, f1.fd.tr f3⟩
def DyR (n : Nat) (T : Nat → Int32) (I : Iv) (x : PB) : Prop := I 87 = T ∧ CuR n I x.c ∧ (x.c.1 = 0 → (∀ j, j < x.ct → I 85 j = x.nu j ∧ I 86 j = x.nu (20 + j)) ∧ x.ct ≤ 12)
def FdR (I I' : Iv) : Prop := (∀ b, b ≠ 78 → b ≠ 85 → b ≠ 86 → I' b = I b) ∧ ∀ k, k ≠ 12 → k ≠ 13 → k ≠ 14 → k ≠ 15 → k ≠ 16 → I' 78 k = I 78 k
theorem FdR.tr {I I1 I2 : Iv} (h : FdR I I1) (k : FdR I1 I2) : FdR I I2 := ⟨fun b x y z => (k.1 b x y z).trans (h.1 b x y z), fun j a b c d e => (k.2 j a b c d e).trans (h.2 j a b c d e)⟩
theorem SmR.fd {I I' : Iv} (h : SmR I I') : FdR I I' := ⟨fun b x _ _ => h.1 b x, h.2⟩
theorem fdR_rfl {I : Iv} : FdR I I := smR_rfl.fd
theorem fdR_w {I I1 : Iv} {a k : Nat} {v : Int32} (h : FdR I I1) (ha : a = 85 ∨ a = 86) : FdR I (wI I1 a k v) := ⟨fun b x y z => by rw [wI_row (by omega)]; exact h.1 b x y z, fun j a b c d e => by rw [wI_row (by omega)]; exact h.2 j a b c d e⟩
theorem dyStep_pu (T : Nat → Int32) (n : Nat) (x : PB) (s : Nat) : dyStep T n (x.pu (0, s)) = (if isW T s (ske isL T (n - s) s - s) (sB 13) = false then (x.pu (1, s)) else if 12 ≤ x.ct then (x.pu (3, s)) else (mkP (enB T n (nuB T n (nuB T n (0, ske isL T (n - s) s) (loD x) 287) 1 20)) (x.td) (up (up x.nu x.ct (nuV T n (ske isL T (n - s) s))) (20 + x.ct) (nuV T n (nuB T n (0, ske isL T (n - s) s) (loD x) 287).2)) (x.ct + 1))) := rfl
theorem openR {n : Nat} {T : Nat → Int32} {J : Jv} {I : Iv} {x : PB} (hn : n ≤ 300) (hT : ∀ k, 0 ≤ T k) (h : DyR n T I x) (h0 : x.c.1 = 0) (hs : nuS T n x.c.2 < n) (fu : Nat) :
    ∃ (i' : Int32) (I' : Iv), (∀ K : Int32 → Iv → Int32 × Iv × Jv, fl_X10_day_10_0 J K (fu + 1) (n3 x.ct) I = fl_X10_day_10_0 J K fu i' I') ∧ DyR n T I' (dyStep T n (skp T n x)) ∧ FdR I I' ∧ ((dyStep T n (skp T n x)).c.1 = 0 → i' = n3 (dyStep T n (skp T n x)).ct) := by
  obtain ⟨hR, hC, hv⟩ := h
  obtain ⟨ha, h2⟩ := hC.2.2.1 h0
  obtain ⟨v4, v6⟩ := hv h0
  have h15 : I 78 15 = 0 := hC.2.1.trans h0
  have h16 : I 78 16 = -1 := by rw [hC.2.2.2, if_pos h0]
  have e1 : fn_X10_here I J = (hrV T n (nuS T n x.c.2), wI I 78 12 (n3 (nuS T n x.c.2)), J) := by rw [fX10_here J hn ha hC.1 h2, hR]; rfl
  have hb := ske_bd isL T (n - nuS T n x.c.2) (nuS T n x.c.2)
  have tw := nuS_two (T := T) ha
  rw [skp_0 h0, dyStep_pu]
  have neg : ¬ hrV T n (nuS T n x.c.2) < 0 := fun z => (hrV_neg hT).mp z hs
  generalize nuS T n x.c.2 = s at *
  have sm1 : SmR I (wI I 78 12 (n3 s)) := smR_w smR_rfl (by omega)
  have a11 : wI I 78 12 (n3 s) 78 11 = n3 n := by rw [wI_ne (by omega)]; exact hC.1
  have a12 : wI I 78 12 (n3 s) 78 12 = n3 s := wI_self
  have a15 : wI I 78 12 (n3 s) 78 15 = 0 := by rw [wI_ne (by omega)]; exact h15
  have a16 : wI I 78 12 (n3 s) 78 16 = -1 := by rw [wI_ne (by omega)]; exact h16
  generalize wI I 78 12 (n3 s) = I1 at *
  have e2 := fX10_takeWord J hn (Nat.le_of_lt hs) a11 a12
  have r87' : I1 87 = T := (sm1.1 87 (by decide)).trans hR
  have tw' : ske isB T (n - s) s = s := tw
  rw [r87', tw'] at e2
  generalize ske isL T (n - s) s = e at *
  skip
  have sm : SmR I (wI (wI (wI I1 78 13 (n3 s)) 78 12 (n3 e)) 78 14 (n3 (e - s))) := smR_w (smR_w (smR_w sm1 (by omega)) (by omega)) (by omega)
  have g11 : wI (wI (wI I1 78 13 (n3 s)) 78 12 (n3 e)) 78 14 (n3 (e - s)) 78 11 = n3 n := by rw [wI_ne (by omega), wI_ne (by omega), wI_ne (by omega)]; exact a11
  have g12 : wI (wI (wI I1 78 13 (n3 s)) 78 12 (n3 e)) 78 14 (n3 (e - s)) 78 12 = n3 e := by rw [wI_ne (by omega), wI_self]
  have g13 : wI (wI (wI I1 78 13 (n3 s)) 78 12 (n3 e)) 78 14 (n3 (e - s)) 78 13 = n3 s := by rw [wI_ne (by omega), wI_ne (by omega), wI_self]
  have g14 : wI (wI (wI I1 78 13 (n3 s)) 78 12 (n3 e)) 78 14 (n3 (e - s)) 78 14 = n3 (e - s) := wI_self
  have g15 : wI (wI (wI I1 78 13 (n3 s)) 78 12 (n3 e)) 78 14 (n3 (e - s)) 78 15 = 0 := by rw [wI_ne (by omega), wI_ne (by omega), wI_ne (by omega)]; exact a15
  have g16 : wI (wI (wI I1 78 13 (n3 s)) 78 12 (n3 e)) 78 14 (n3 (e - s)) 78 16 = -1 := by rw [wI_ne (by omega), wI_ne (by omega), wI_ne (by omega)]; exact a16
  generalize wI (wI (wI I1 78 13 (n3 s)) 78 12 (n3 e)) 78 14 (n3 (e - s)) = I2 at *
  have r87 : I2 87 = T := (sm.1 87 (by decide)).trans hR
  have e3 := fX10_isWord (a := 111) (b := 112) (c := 101) (d := 110) (e := 0) (w := sB 13) (m := 4) J (show s ≤ 300 by omega) (show e - s ≤ 300 by omega) (by decide) (by decide) g13 g14 (by decide)
  rw [r87] at e3
  have e3' : fn_X10_isWord 4 111 112 101 110 0 I2 J = (b3 (isW T s (e - s) (sB 13)), I2, J) := e3
  have bad : ∀ f : Int32, ¬ f = 0 → DyR n T (wI (wI I2 78 15 f) 78 16 (n3 s)) (x.pu (f, s)) ∧ FdR I (wI (wI I2 78 15 f) 78 16 (n3 s)) := fun f hf =>
    ⟨⟨by rw [wI_row (by decide), wI_row (by decide)]; exact r87, cuR_mkf (by rw [wI_ne (by omega), wI_ne (by omega)]; exact g11) hf (by rw [wI_ne (by omega), wI_self]) wI_self, fun z => absurd z hf⟩,
     (smR_w (smR_w sm (by omega)) (by omega)).fd⟩
  by_cases q : isW T s (e - s) (sB 13) = false
  · rw [if_pos q]
    obtain ⟨b1, b2⟩ := bad 1 (by decide)
    refine ⟨n3 x.ct, _, fun K => ?_, b1, b2, fun z => absurd (show (1 : Int32) = 0 from z) (by decide)⟩
    rw [fl_X10_day_10_0.eq_2, j_n, if_pos h15, e1, b_n3_mk, if_neg neg, e2, b_n2_mk, e3', b_n3_mk, q, g13, show b3 false = 0 from rfl, fX10_want_0 g15 (by decide), b_n3_mk, if_pos rfl]
  · rw [if_neg q]
    have q' : ¬ b3 (isW T s (e - s) (sB 13)) = 0 := by rw [b3_0]; exact q
    by_cases q2 : 12 ≤ x.ct
    · rw [if_pos q2]
      obtain ⟨b1, b2⟩ := bad 3 (by decide)
      refine ⟨n3 x.ct, _, fun K => ?_, b1, b2, fun z => absurd z (show ¬ (3 : Int32) = 0 by decide)⟩
      rw [fl_X10_day_10_0.eq_2, j_n, if_pos h15, e1, b_n3_mk, if_neg neg, e2, b_n2_mk, e3', b_n3_mk, g13, fX10_want_1 g15 q', b_n3_mk, if_neg (by decide), j_ite,
        if_pos (by rw [show (12 : Int32) = n3 12 from rfl, n3_le (by omega) (by omega)]; exact q2), g13, fX10_want_0 g15 (by decide), b_n3_mk, if_pos rfl]
    · rw [if_neg q2]
      have c0 : CuR n I2 (0, e) := cuR_mk0 g11 g15 (by omega) g12 g16
      have r85 : I2 85 = I 85 := sm.1 85 (by decide)
      have r86 : I2 86 = I 86 := sm.1 86 (by decide)
      have lo : (if n3 x.ct = 0 then 0 else I2 85 (n3 x.ct - 1).toNatClampNeg + 1) = loD x := by
        rw [← loD_eq (x := x) (R := I 85) v6 (fun j hj => (v4 j hj).1), r85]
        by_cases q3 : x.ct = 0
        · rw [q3]; rfl
        · rw [if_neg (by rw [show (0 : Int32) = n3 0 from rfl, n3_inj (by omega) (by omega)]; exact q3), if_neg (by rw [show (0 : Int32) = n3 0 from rfl, n3_le (by omega) (by omega)]; omega)]
      obtain ⟨w1, I3, e4, s4, u4, k4⟩ := numR J (loD x) 287 hn c0 rfl
      rw [r87] at u4 k4
      have u4' : CuR n (wI I3 85 x.ct w1) (nuB T n (0, e) (loD x) 287) := cuR_of (fun _ _ _ _ => by rw [wI_row (by decide)]) u4
      have y4 : (wI I3 85 x.ct w1) 87 = T := (wI_row (by decide)).trans ((s4.1 87 (by decide)).trans r87)
      obtain ⟨w2, I4, e5, s5, u5, k5⟩ := numRj (I := wI I3 85 x.ct w1) J 1 20 hn u4'
      rw [y4] at u5 k5
      have u5' : CuR n (wI I4 86 x.ct w2) (nuB T n (nuB T n (0, e) (loD x) 287) 1 20) := cuR_of (fun _ _ _ _ => by rw [wI_row (by decide)]) u5
      have y5 : (wI I4 86 x.ct w2) 87 = T := (wI_row (by decide)).trans ((s5.1 87 (by decide)).trans y4)
      obtain ⟨I5, e6, s6, u6⟩ := endR J hn u5'
      rw [y5] at u6
      refine ⟨n3 (x.ct + 1), I5, fun K => ?_, ⟨(s6.1 87 (by decide)).trans y5, u6, fun z => ⟨fun j hj => ?_, ?_⟩⟩, ?_, fun _ => rfl⟩
      · rw [fl_X10_day_10_0.eq_2, j_n, if_pos h15, e1, b_n3_mk, if_neg neg, e2, b_n2_mk, e3', b_n3_mk, g13, fX10_want_1 g15 q', b_n3_mk, if_neg (by decide), j_ite,
          if_neg (by rw [show (12 : Int32) = n3 12 from rfl, n3_le (by omega) (by omega)]; exact q2), g13, fX10_want_1 g15 (by decide), b_n3_mk, if_neg (by decide), j_ite, lo, e4, b_n3_mk, l_t, n3_tn (by omega), e5, l_t, e6, b_n2_mk, n3_up]
      · have z1 := enB_0 z
        have hj' : j < x.ct + 1 := hj
        have uu := up_nu (f := x.nu) (v1 := nuV T n e) (v2 := nuV T n (nuB T n (0, e) (loD x) 287).2) (show x.ct < 12 by omega) hj'
        show I5 85 j = up (up x.nu x.ct _) (20 + x.ct) _ j ∧ I5 86 j = up (up x.nu x.ct _) (20 + x.ct) _ (20 + j)
        rw [uu.1, uu.2, s6.1 85 (by decide), s6.1 86 (by decide), wI_row (show (85 : Nat) ≠ 86 by decide), s5.1 85 (by decide), k4 (nuB_0 z1), k5 z1]
        by_cases qj : j = x.ct
        · rw [if_pos qj, if_pos qj, qj, wI_self, wI_self]; exact ⟨rfl, rfl⟩
        · rw [if_neg qj, if_neg qj, wI_ne (Or.inr qj), wI_ne (Or.inr qj), s4.1 85 (by decide), s5.1 86 (by decide), wI_row (show (86 : Nat) ≠ 85 by decide), s4.1 86 (by decide), r85, r86]
          exact v4 j (by omega)
      · show x.ct + 1 ≤ 12; omega
      · exact sm.fd.tr ((fdR_w ((fdR_w s4.fd (Or.inl rfl)).tr s5.fd) (Or.inr rfl)).tr s6.fd)
