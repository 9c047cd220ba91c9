/-! ===== more calls: scalars, shelves ===== -/
theorem in2 {lo hi x : Int32} {I : Iv} {J : Jv} : (if x < lo then (((0 : Int32), I, J) : Int32 × Iv × Jv) else if hi < x then ((0 : Int32), I, J) else ((1 : Int32), I, J)) = (b3 (decide (lo ≤ x ∧ x ≤ hi)), I, J) := by
  by_cases h1 : x < lo
  · rw [if_pos h1, decide_eq_false (fun z => absurd z.1 (Int32.not_le.mpr h1))]; rfl
  · rw [if_neg h1]
    by_cases h2 : hi < x
    · rw [if_pos h2, decide_eq_false (fun z => absurd z.2 (Int32.not_le.mpr h2))]; rfl
    · rw [if_neg h2, decide_eq_true ⟨Int32.not_lt.mp h1, Int32.not_lt.mp h2⟩]; rfl
theorem isSet9 (x : Int32) (I : Iv) (J : Jv) : fn_X9_isSet x I J = (b3 (decide (0 ≤ x ∧ x ≤ 127)), I, J) := in2
theorem isDeg9 (x : Int32) (I : Iv) (J : Jv) : fn_X9_canBeWarmth x I J = (b3 (decide (-3000 ≤ x ∧ x ≤ 9000)), I, J) := in2
theorem le23 {x : Int32} : x ≤ 2 ↔ ¬ 3 ≤ x := by
  rw [Int32.le_iff_toInt_le, Int32.le_iff_toInt_le, show (2 : Int32).toInt = 2 by decide, show (3 : Int32).toInt = 3 by decide]; omega
theorem isSh9 (x : Int32) (I : Iv) (J : Jv) : fn_X9_isShelf x I J = (b3 (decide (0 ≤ x ∧ x ≤ 2)), I, J) := by
  unfold fn_X9_isShelf
  by_cases h1 : x < 0
  · rw [if_pos h1, decide_eq_false (fun z => absurd z.1 (Int32.not_le.mpr h1))]; rfl
  · rw [if_neg h1]
    by_cases h2 : 3 ≤ x
    · rw [if_pos h2, decide_eq_false (fun z => le23.mp z.2 h2)]; rfl
    · rw [if_neg h2, decide_eq_true ⟨Int32.not_lt.mp h1, le23.mpr h2⟩]; rfl
theorem isSet10 (x : Int32) (I : Iv) (J : Jv) : fn_X10_isSet x I J = (b3 (decide (0 ≤ x ∧ x ≤ 127)), I, J) := by
  unfold fn_X10_isSet; rw [fX10_in3 x 0 127 0 127 (by decide) (by decide), b_n3_mk]
theorem isSh10 (x : Int32) (I : Iv) (J : Jv) : fn_X10_isShelf x I J = (b3 (decide (0 ≤ x ∧ x ≤ 2)), I, J) := by
  unfold fn_X10_isShelf; rw [fX10_in3 x 0 2 0 2 (by decide) (by decide), b_n3_mk]
theorem isDeg10 (x : Int32) (I : Iv) (J : Jv) : fn_X10_isDegree x I J = (b3 (decide (-3000 ≤ x ∧ x ≤ 9000)), I, J) := by
  unfold fn_X10_isDegree; rw [fX10_in3 x (-3000) 9000 (-3000) 9000 (by decide) (by decide), b_n3_mk]
theorem cq_current {c : Nat} {on v1 v2 : Int32} {I I1 I2 : Iv} {J J1 J2 : Jv} (hon : on = 0 ∨ on = 1) (h : CQx c I J) (e1 : fn_X9_current on I J = (v1, I1, J1)) (e2 : fn_X10_current on I1 J1 = (v2, I2, J2)) : v1 = v2 ∧ CQx (c + 1) I2 J2 := by
  obtain ⟨b, hb⟩ : ∃ b : Bool, on = b3 b := by
    rcases hon with z | z
    · exact ⟨false, z⟩
    · exact ⟨true, z⟩
  subst hb
  unfold fn_X9_current at e1
  rw [j_ite, l_t] at e1
  cases e1
  obtain ⟨C, D, eb, n2, lo, lj, q⟩ := cq_open (I1 := wI I 16 12 (b3 b)) (J1 := J) h (fun b hb => wI_row (by omega)) rfl
  unfold fn_X10_current at e2
  rw [eb, b_n2_mk, l_t, fX10_one, b_n3_mk, l_t] at e2
  cases e2
  obtain ⟨s1, s2, s3, s4, ⟨n1, n52⟩, n53, n54, n60, n66, n67, n68, ⟨cur, n12, n69⟩, n70⟩ := q.1
  have n69' : D 79 69 = (b3 cur).toInt64 := n69
  refine ⟨?_, cqx_fin eb (fun _ _ => rfl) (fun r hr => wJ_row (by omega)) rfl ?_⟩
  · rw [n69', wsd6, n12]; cases cur <;> rfl
  refine cq_now q ?_ (fun b hb => wI_row (by omega)) (fun r h1 h2 => rfl) (fun k hk => wJ_ne (by omega)) rfl
  refine STm.mono (st_sc (X := 0) q.1 (fun b h1 h2 => wI_row (by omega)) (by rw [wI_row (by omega)]) (fun k hk => wJ_ne (by omega)) ?_) (up1 c)
  have r8 : (wI I 16 12 (b3 b)) (16 + 8) = I (16 + 8) := wI_row (by omega)
  have rk : ∀ k, k ≠ 12 → wI I 16 12 (b3 b) 16 k = I 16 k := fun k hk => wI_ne (Or.inr hk)
  have dk : ∀ k, k ≠ 69 → wJ D 79 69 (b3 b).toInt64 79 (0 + k) = D 79 (0 + k) := fun k hk => wJ_ne (by omega)
  unfold STn SDm
  rw [r8, rk 8 (by omega), rk 9 (by omega), rk 10 (by omega), rk 11 (by omega), rk 13 (by omega), dk 52 (by omega), dk 53 (by omega), dk 54 (by omega), dk 60 (by omega), dk 61 (by omega), dk 62 (by omega), dk 63 (by omega), dk 64 (by omega), dk 65 (by omega), dk 66 (by omega), dk 67 (by omega), dk 68 (by omega), dk 70 (by omega)]
  exact ⟨⟨n1, n52⟩, n53, n54, n60, n66, n67, n68, ⟨b, wI_self, wJ_self⟩, n70⟩
/-- a call that changes nothing of these -/
theorem cq_same {c : Nat} {I C : Iv} {J D : Jv} (eb : fn_X10_begin I J = (C, D)) (q : CQ c I J C D) : CQx (c + 1) C D := cqx_fin eb (fun _ _ => rfl) (fun _ _ => rfl) rfl q.mono
theorem cq_seed {c : Nat} {v v1 v2 : Int32} {I I1 I2 : Iv} {J J1 J2 : Jv} (h : CQx c I J) (e1 : fn_X9_seed v I J = (v1, I1, J1)) (e2 : fn_X10_seed v I1 J1 = (v2, I2, J2)) : v1 = v2 ∧ CQx (c + 1) I2 J2 := by
  unfold fn_X9_seed at e1
  by_cases hv : 0 ≤ v
  · rw [if_pos hv, l_t, l_t] at e1
    cases e1
    obtain ⟨C, D, eb, n2, lo, lj, q⟩ := cq_open (I1 := wI I 16 13 v) (J1 := J) h (fun b hb => wI_row (by omega)) rfl
    unfold fn_X10_seed at e2
    rw [eb, b_n2_mk, if_pos hv, l_t, l_t] at e2
    cases e2
    obtain ⟨s1, s2, s3, s4, ⟨n1, n52⟩, n53, n54, n60, n66, n67, n68, n69, n70⟩ := q.1
    obtain ⟨n70, n13⟩ := Or.resolve_left n70 (by decide)
    have n70' : D 79 70 = (I 16 13).toInt64 := n70
    refine ⟨by rw [n70', wsd6], cqx_fin eb (fun _ _ => rfl) (fun r hr => wJ_row (by omega)) rfl ?_⟩
    refine cq_now q ?_ (fun b hb => wI_row (by omega)) (fun r h1 h2 => rfl) (fun k hk => wJ_ne (by omega)) rfl
    refine STm.mono (st_sc (X := 0) q.1 (fun b h1 h2 => wI_row (by omega)) (by rw [wI_row (by omega)]) (fun k hk => wJ_ne (by omega)) ?_) (up1 c)
    have r8 : (wI I 16 13 v) (16 + 8) = I (16 + 8) := wI_row (by omega)
    have rk : ∀ k, k ≠ 13 → wI I 16 13 v 16 k = I 16 k := fun k hk => wI_ne (Or.inr hk)
    have dk : ∀ k, k ≠ 70 → wJ D 79 70 v.toInt64 79 (0 + k) = D 79 (0 + k) := fun k hk => wJ_ne (by omega)
    unfold STn SDm
    rw [r8, rk 8 (by omega), rk 9 (by omega), rk 10 (by omega), rk 11 (by omega), rk 12 (by omega), dk 52 (by omega), dk 53 (by omega), dk 54 (by omega), dk 60 (by omega), dk 61 (by omega), dk 62 (by omega), dk 63 (by omega), dk 64 (by omega), dk 65 (by omega), dk 66 (by omega), dk 67 (by omega), dk 68 (by omega), dk 69 (by omega)]
    refine ⟨⟨n1, n52⟩, n53, n54, n60, n66, n67, n68, n69, Or.inr ⟨?_, ?_⟩⟩
    · show wJ D 79 70 v.toInt64 79 70 = _
      rw [wJ_self, wI_self]
    · rw [wI_self]
      have := Int32.le_iff_toInt_le.mp hv
      rw [show (0 : Int32).toInt = 0 by decide] at this; exact this
  · rw [if_neg hv] at e1
    cases e1
    obtain ⟨C, D, eb, n2, lo, lj, q⟩ := cq_open (I1 := I) (J1 := J) h (fun _ _ => rfl) rfl
    unfold fn_X10_seed at e2
    rw [eb, b_n2_mk, if_neg hv] at e2
    cases e2
    exact ⟨rfl, cq_same eb q⟩
theorem cq_trouble {c : Nat} {s v1 v2 : Int32} {I I1 I2 : Iv} {J J1 J2 : Jv} (h : CQx c I J) (e1 : fn_X9_trouble s I J = (v1, I1, J1)) (e2 : fn_X10_trouble s I1 J1 = (v2, I2, J2)) : v1 = v2 ∧ CQx (c + 1) I2 J2 := by
  unfold fn_X9_trouble at e1
  unfold fn_X10_trouble at e2
  rw [isSet9, b_n3_mk] at e1
  by_cases hv : 0 ≤ s ∧ s ≤ 127
  · have hsb : SB s := by
      have h1 := Int32.le_iff_toInt_le.mp hv.1
      have h2 := Int32.le_iff_toInt_le.mp hv.2
      rw [show (0 : Int32).toInt = 0 by decide] at h1
      rw [show (127 : Int32).toInt = 127 by decide] at h2
      exact ⟨h1, h2⟩
    have hs0 : SB (I 16 8) := h.1.2.2.2.2.1.1
    rw [decide_eq_true hv, if_neg (by decide), l_t, l_t] at e1
    -- both, by whether FUR is raised
    have hC : ∃ fu : Int32, (v1 = I 16 8 ∧ I1 = wI (wI I 16 8 s) 24 5 fu ∧ J1 = J) ∧ fu = (if bitI s 1 = true ∧ bitI (I 16 8) 1 = false then (if I 24 5 < 600 then 600 else I 24 5) else I 24 5) := by
      have k1 := (sb_bits hsb).2.1
      have k2 := (sb_bits hs0).2.1
      have e5 : wI I 16 8 s 24 5 = I 24 5 := wI_ne (by omega)
      have own : wI (wI I 16 8 s) 24 5 (I 24 5) = wI I 16 8 s := by rw [← e5, wI_own]
      by_cases q1 : (s &&& 2) = 0
      · rw [if_pos q1] at e1
        cases e1
        exact ⟨I 24 5, ⟨rfl, own.symm, rfl⟩, by rw [if_neg (fun z => by rw [k1.mp q1] at z; exact absurd z.1 (by decide))]⟩
      · rw [if_neg q1] at e1
        have q1' : bitI s 1 = true := by
          cases hb : bitI s 1 with
          | true => rfl
          | false => exact absurd (k1.mpr hb) q1
        by_cases q2 : (I 16 8 &&& 2) = 0
        · rw [if_pos q2, l_t, e5] at e1
          cases e1
          refine ⟨if I 24 5 < 600 then 600 else I 24 5, ⟨rfl, rfl, rfl⟩, ?_⟩
          rw [if_pos (show bitI s 1 = true ∧ bitI (I 16 8) 1 = false from ⟨q1', k2.mp q2⟩)]
        · rw [if_neg q2] at e1
          cases e1
          refine ⟨I 24 5, ⟨rfl, own.symm, rfl⟩, by rw [if_neg (fun z => q2 (k2.mpr z.2))]⟩
    obtain ⟨fu, ⟨r1, r2, r3⟩, hfu⟩ := hC
    subst r1 r2 r3
    obtain ⟨C, D, eb, n2, lo, lj, q⟩ := cq_open (I1 := wI (wI I 16 8 s) 24 5 fu) (J1 := J1) h (fun b hb => by rw [wI_row (by omega), wI_row (by omega)]) rfl
    obtain ⟨s1, s2, s3, s4, ⟨n1, n52⟩, ⟨nf, n53⟩, n54, n60, n66, n67, n68, n69, n70⟩ := q.1
    have n52' : D 79 52 = (I 16 8).toInt64 := n52
    have n53' : D 79 53 = (I 24 5).toInt64 := n53
    rw [eb, b_n2_mk, isSet10, b_n3_mk, decide_eq_true hv, if_neg (by decide), l_t, l_t, show (1 : Int32) = n3 1 from rfl, has_w (by omega), b_n3_mk, n52', wsd6, has_w (by omega)] at e2
    have hD : ∃ fr : Int64, (v2 = I 16 8 ∧ I2 = C ∧ J2 = wJ (wJ D 79 52 s.toInt64) 79 53 fr) ∧ fr = fu.toInt64 := by
      have e5 : wJ D 79 52 s.toInt64 79 53 = (I 24 5).toInt64 := by rw [wJ_ne (by omega)]; exact n53'
      have own : wJ (wJ D 79 52 s.toInt64) 79 53 (I 24 5).toInt64 = wJ D 79 52 s.toInt64 := by
        rw [← e5]; funext a j; simp only [wJ]; split
        · next z => rw [z.1, z.2]; rfl
        · rfl
      rw [hfu]
      cases q1 : bitI s 1 with
      | false =>
        rw [q1, if_pos (show b3 false = 0 from rfl)] at e2
        cases e2
        exact ⟨_, ⟨rfl, rfl, own.symm⟩, by rw [if_neg (fun z => absurd z.1 (by decide))]⟩
      | true =>
        rw [q1, if_neg (show ¬ b3 true = 0 by decide), b_n3_mk] at e2
        cases q2 : bitI (I 16 8) 1 with
        | true =>
          rw [q2, if_neg (show ¬ b3 true = 0 by decide)] at e2
          cases e2
          exact ⟨_, ⟨rfl, rfl, own.symm⟩, by rw [if_neg (fun z => absurd z.2 (by decide))]⟩
        | false =>
          rw [q2, if_pos (show b3 false = 0 from rfl), e5] at e2
          rw [if_pos ⟨rfl, rfl⟩]
          have k6 : (600 : Int32).toInt64 = 600 := by decide
          by_cases q3 : I 24 5 < 600
          · rw [if_pos q3]
            rw [if_neg (by rw [← k6, wd6_le]; exact Int32.not_le.mpr q3), l_t] at e2
            cases e2
            exact ⟨_, ⟨rfl, rfl, rfl⟩, k6.symm⟩
          · rw [if_neg q3]
            rw [if_pos (by rw [← k6, wd6_le]; exact Int32.not_lt.mp q3)] at e2
            cases e2
            exact ⟨_, ⟨rfl, rfl, own.symm⟩, rfl⟩
    obtain ⟨fr, ⟨p1, p2, p3⟩, hfr⟩ := hD
    subst p1 p2 p3 hfr
    have fub : 0 ≤ fu.toInt ∧ fu.toInt ≤ 9999 := by
      have c6 : (600 : Int32).toInt = 600 := by decide
      have nf' : 0 ≤ (I 24 5).toInt ∧ (I 24 5).toInt ≤ 9999 := nf
      rw [hfu]
      split
      · split
        · rw [c6]; omega
        · exact nf'
      · exact nf'
    refine ⟨rfl, cqx_fin eb (fun _ _ => rfl) (fun r hr => by rw [wJ_row (by omega), wJ_row (by omega)]) rfl ?_⟩
    refine cq_now q ?_ (fun b hb => by rw [wI_row (by omega), wI_row (by omega)]) (fun r h1 h2 => rfl) (fun k hk => by rw [wJ_ne (by omega), wJ_ne (by omega)]) rfl
    refine STm.mono (st_sc (X := 0) q.1 (fun b h1 h2 => by rw [wI_row (by omega), wI_row (by omega)]) (by rw [wI_ne (by omega), wI_ne (by omega)]) (fun k hk => by rw [wJ_ne (by omega), wJ_ne (by omega)]) ?_) (up1 c)
    have r8 : ∀ k, k ≠ 5 → wI (wI I 16 8 s) 24 5 fu (16 + 8) k = I (16 + 8) k := fun k hk => by rw [wI_ne (Or.inr hk), wI_row (by omega)]
    have rk : ∀ k, k ≠ 8 → wI (wI I 16 8 s) 24 5 fu 16 k = I 16 k := fun k hk => by rw [wI_row (by omega), wI_ne (Or.inr hk)]
    have dk : ∀ k, k ≠ 52 → k ≠ 53 → wJ (wJ D 79 52 s.toInt64) 79 53 fu.toInt64 79 (0 + k) = D 79 (0 + k) := fun k h1 h2 => by rw [wJ_ne (by omega), wJ_ne (by omega)]
    unfold STn SDm
    rw [r8 0 (by omega), r8 1 (by omega), r8 2 (by omega), r8 3 (by omega), r8 4 (by omega), r8 6 (by omega), r8 7 (by omega), rk 9 (by omega), rk 10 (by omega), rk 11 (by omega), rk 12 (by omega), rk 13 (by omega), dk 54 (by omega) (by omega), dk 60 (by omega) (by omega), dk 61 (by omega) (by omega), dk 62 (by omega) (by omega), dk 63 (by omega) (by omega), dk 64 (by omega) (by omega), dk 65 (by omega) (by omega), dk 66 (by omega) (by omega), dk 67 (by omega) (by omega), dk 68 (by omega) (by omega), dk 69 (by omega) (by omega), dk 70 (by omega) (by omega)]
    refine ⟨⟨?_, ?_⟩, ⟨?_, ?_⟩, n54, n60, n66, n67, n68, n69, n70⟩
    · rw [wI_row (by omega), wI_self]; exact hsb
    · rw [wI_row (by omega), wI_self]
      show wJ (wJ D 79 52 s.toInt64) 79 53 fu.toInt64 79 52 = _
      rw [wJ_ne (by omega), wJ_self]
    · show 0 ≤ (wI (wI I 16 8 s) 24 5 fu 24 5).toInt ∧ (wI (wI I 16 8 s) 24 5 fu 24 5).toInt ≤ 9999
      rw [wI_self]; exact fub
    · show wJ (wJ D 79 52 s.toInt64) 79 53 fu.toInt64 79 53 = (wI (wI I 16 8 s) 24 5 fu 24 5).toInt64
      rw [wJ_self, wI_self]
  · rw [decide_eq_false hv, if_pos (show b3 false = 0 from rfl)] at e1
    cases e1
    obtain ⟨C, D, eb, n2, lo, lj, q⟩ := cq_open (I1 := I) (J1 := J) h (fun _ _ => rfl) rfl
    rw [eb, b_n2_mk, isSet10, b_n3_mk, decide_eq_false hv, if_pos (show b3 false = 0 from rfl)] at e2
    cases e2
    exact ⟨rfl, cq_same eb q⟩
