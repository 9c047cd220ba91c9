/-! ===== foods ===== -/
theorem st_ff {N : Int} {o X f0 : Nat} {I I' : Iv} {J J' B B' : Jv} (h : STm N o X I J B) (hJ : ∀ k, k ≠ 4 + f0 → J' (o + 1) k = J (o + 1) k) (hB0 : B' 79 (X + (4 + f0)) = J' (o + 1) (4 + f0)) (hB : ∀ k, k < 12 → k ≠ 4 + f0 → B' 79 (X + k) = B 79 (X + k)) (hc : ∀ k, k ≠ 4 + f0 → I' (o + 2) k = I (o + 2) k)
    (hi : ∀ f, f ≠ f0 → I' (o + 3) f = I (o + 3) f ∧ I' (o + 4) f = I (o + 4) f ∧ I' (o + 5) f = I (o + 5) f ∧ I' (o + 6) f = I (o + 6) f) (hb : ∀ f, f < 8 → f ≠ f0 → B' 79 (X + 12 + f) = B 79 (X + 12 + f) ∧ B' 79 (X + 20 + f) = B 79 (X + 20 + f) ∧ B' 79 (X + 28 + f) = B 79 (X + 28 + f) ∧ B' 79 (X + 36 + f) = B 79 (X + 36 + f) ∧ B' 79 (X + 44 + f) = B 79 (X + 44 + f))
    (hn : f0 < 8 → STf o X I' J' B' f0) (hl : ∀ j, 1 ≤ j → j < 6 → B' 79 (X + 54 + j) = J' (o + 7) j) (h0 : I' o = I o) (h8 : I' (o + 8) = I (o + 8)) (hs : ∀ k, (52 ≤ k ∧ k ≤ 54) ∨ (60 ≤ k ∧ k ≤ 70) → B' 79 (X + k) = B 79 (X + k)) : STm N o X I' J' B' := by
  obtain ⟨q1, q2, q3, q4, q5⟩ := h
  refine ⟨fun k hk => ?_, fun k hk => ?_, fun f hf => ?_, hl, ?_⟩
  · by_cases z : k = 4 + f0
    · rw [z]; exact hB0
    · rw [hB k hk z, hJ k z]; exact q1 k hk
  · rw [hc k (by omega), h8, hJ k (by omega)]; exact q2 k hk
  · by_cases z : f = f0
    · subst z; exact hn hf
    · obtain ⟨i3, i4, i5, i6⟩ := hi f z
      obtain ⟨b1, b2, b3', b4, b5⟩ := hb f hf z
      have := q3 f hf
      unfold STf at this ⊢
      rw [i3, i4, i5, i6, b1, b2, b3', b4, b5, hc _ (by omega), hJ _ (by omega), h8]; exact this
  · unfold STn SDm at q5 ⊢
    rw [h0, h8, hs 52 (by omega), hs 53 (by omega), hs 54 (by omega), hs 60 (by omega), hs 61 (by omega), hs 62 (by omega), hs 63 (by omega), hs 64 (by omega), hs 65 (by omega), hs 66 (by omega), hs 67 (by omega), hs 68 (by omega), hs 69 (by omega), hs 70 (by omega)]; exact q5
theorem n3_8 {f : Int32} (h0 : ¬ f < 0) (h1 : ¬ 8 ≤ f) : ∃ k, k < 8 ∧ f = n3 k := by
  have a := Int32.le_iff_toInt_le.mp (Int32.not_lt.mp h0)
  have b := Int32.lt_iff_toInt_lt.mp (Int32.not_le.mp h1)
  rw [show (0 : Int32).toInt = 0 by decide] at a
  rw [show (8 : Int32).toInt = 8 by decide] at b
  exact ⟨f.toNatClampNeg, by show f.toInt.toNat < 8; omega, n3_of (Int32.not_lt.mp h0)⟩
theorem food_is {N : Int} {f : Int32} {I C : Iv} {J D : Jv} (h : STm N 16 0 I J D) : (∃ k, k < 8 ∧ f = n3 k ∧ I 19 k = 1 ∧ fn_X6_hasFood 16 f I J = (1, I, J) ∧ fn_X10_isFood f C D = (1, C, D)) ∨ (fn_X6_hasFood 16 f I J = (0, I, J) ∧ fn_X10_isFood f C D = (0, C, D)) := by
  unfold fn_X6_hasFood fn_X10_isFood
  rw [fX10_in3 f 0 7 0 7 (by decide) (by decide), b_n3_mk]
  by_cases h0 : f < 0
  · refine Or.inr ⟨if_pos h0, if_pos ?_⟩
    rw [decide_eq_false (fun z => absurd z.1 (Int32.not_le.mpr h0))]; rfl
  · by_cases h1 : 8 ≤ f
    · refine Or.inr ⟨by rw [if_neg h0, if_pos h1], if_pos ?_⟩
      rw [decide_eq_false (fun z => ?_)]
      · rfl
      · have a := Int32.le_iff_toInt_le.mp z.2
        have b := Int32.le_iff_toInt_le.mp h1
        rw [show (7 : Int32).toInt = 7 by decide] at a
        rw [show (8 : Int32).toInt = 8 by decide] at b
        omega
    · obtain ⟨k, hk, rfl⟩ := n3_8 h0 h1
      have in7 : decide (0 ≤ n3 k ∧ n3 k ≤ 7) = true := by
        refine decide_eq_true ⟨Int32.not_lt.mp h0, ?_⟩
        rw [show (7 : Int32) = n3 7 from rfl, n3_le (by omega) (by omega)]; omega
      rw [if_neg h0, if_neg h1, in7, if_neg (show ¬ b3 true = 0 by decide), n3_tn (by omega), show (12 : Int32) = n3 12 from rfl, n3_add, n3_tn (by omega)]
      rcases h.2.2.1 k hk with ⟨a1, a2, a3⟩ | ⟨a1, a2, a3, a4, a5, a6, a7, a8, a9, a10⟩
      · have a1' : I 19 k = 0 := a1
        have a2' : D 79 (12 + k) = 0 := by have := a2; rwa [show 0 + 12 + k = 12 + k by omega] at this
        rw [a1', a2']
        exact Or.inr ⟨rfl, rfl⟩
      · have a1' : I 19 k = 1 := a1
        have a2' : D 79 (12 + k) = 1 := by have := a2; rwa [show 0 + 12 + k = 12 + k by omega] at this
        rw [a1', a2']
        exact Or.inl ⟨k, hk, rfl, a1', rfl, rfl⟩
theorem f_there {N : Int} {k : Nat} {I : Iv} {J D : Jv} (h : STm N 16 0 I J D) (hk : k < 8) (t : I 19 k = 1) : D 79 (12 + k) = 1 ∧ D 79 (20 + k) = (I 20 k).toInt64 ∧ (0 ≤ (I 20 k).toInt ∧ (I 20 k).toInt ≤ 2) ∧ D 79 (28 + k) = (I 18 (4 + k)).toInt64 ∧ (1 ≤ (I 18 (4 + k)).toInt ∧ (I 18 (4 + k)).toInt ≤ 200) ∧ D 79 (36 + k) = (I 21 k).toInt64 ∧ D 79 (44 + k) = (I 22 k).toInt64 ∧ -(wmT (I 24 0)) ≤ (J 17 (4 + k)).toInt.tdiv (I 18 (4 + k)).toInt ∧ (J 17 (4 + k)).toInt.tdiv (I 18 (4 + k)).toInt ≤ wmT (I 24 0) := by
  rcases h.2.2.1 k hk with ⟨a1, a2, a3⟩ | ⟨a1, a2, a3, a4, a5, a6, a7, a8, a9, a10⟩
  · have a1' : I 19 k = 0 := a1
    rw [t] at a1'; exact absurd a1' (by decide)
  · rw [show 0 + 12 + k = 12 + k by omega] at a2
    rw [show 0 + 20 + k = 20 + k by omega] at a3
    rw [show 0 + 28 + k = 28 + k by omega] at a5
    rw [show 0 + 36 + k = 36 + k by omega] at a7
    rw [show 0 + 44 + k = 44 + k by omega] at a8
    exact ⟨a2, a3, a4, a5, a6, a7, a8, a9, a10⟩
theorem warm_f {N : Int} {k : Nat} {I C : Iv} {J D : Jv} (h : STm N 16 0 I J D) (hk : k < 8) (t : I 19 k = 1) : fn_X10_warm 0 (n3 (4 + k)) C D = (wS 16 I J (4 + k), C, D) ∧ wC 16 I J (4 + k) = (wS 16 I J (4 + k)).toInt32 := by
  obtain ⟨t1, t2, t3, t4, t5, -⟩ := f_there h hk t
  constructor
  · have := fX10_warm (X := 0) (c := 4 + k) (by omega) (by omega) C D
    rw [show (n3 0 : Int32) = 0 from rfl] at this
    rw [this, h.1 (4 + k) (by omega)]
    unfold cpR
    rw [if_neg (by omega), if_neg (by omega), show 0 + 28 + (4 + k - 4) = 28 + k by omega, t4]
    rfl
  · unfold wC wS
    rw [if_pos (Int32.le_iff_toInt_le.mpr (by rw [show (1 : Int32).toInt = 1 by decide]; exact t5.1))]
theorem cq_take {c : Nat} {f v1 v2 : Int32} {I I1 I2 : Iv} {J J1 J2 : Jv} (h : CQx c I J) (e1 : fn_X9_take f I J = (v1, I1, J1)) (e2 : fn_X10_take f I1 J1 = (v2, I2, J2)) : v1 = v2 ∧ CQx (c + 1) I2 J2 := by
  unfold fn_X9_take at e1
  unfold fn_X10_take at e2
  rcases food_is (f := f) (C := I) h.1 with ⟨k, hk, rfl, t, hf, -⟩ | ⟨hf, -⟩
  · rw [hf, b_n3_mk, if_neg (by decide), show (4 : Int32) = n3 4 from rfl, n3_add, fX6_warmthOf (by omega), b_n3_mk] at e1
    unfold fn_X6_removeFood at e1
    rw [if_neg (n3_no0 (by omega)), if_pos (by rw [show (8 : Int32) = n3 8 from rfl, n3_lt (by omega) (by omega)]; exact hk), n3_tn (by omega), show (4 : Int32) = n3 4 from rfl, n3_add, n3_tn (by omega)] at e1
    simp only [l_t, b_n2_mk] at e1
    cases e1
    obtain ⟨C, D, eb, n2, lo, lj, q⟩ := cq_open (I1 := wI I 19 k 0) (J1 := wJ (wJ J 23 5 (J 23 5 + J 17 (4 + k))) 17 (4 + k) 0) h (fun b hb => wI_row (by omega)) (by rw [wJ_row (by decide), wJ_row (by decide)])
    obtain ⟨w1, w2⟩ := warm_f (C := C) q.1 hk t
    rw [eb, b_n2_mk] at e2
    rcases food_is (f := n3 k) (C := C) q.1 with ⟨k', hk', ek, t', -, hf2⟩ | ⟨hf1, -⟩
    rotate_left
    · rw [hf] at hf1; exact absurd (congrArg (fun (y : Int32 × Iv × Jv) => y.1) hf1) (show ¬ (1 : Int32) = 0 by decide)
    rw [hf2, b_n3_mk, if_neg (by decide), show (4 : Int32) = n3 4 from rfl, n3_add, w1, b_n3_mk, n3_tn (by omega)] at e2
    simp only [l_t] at e2
    cases e2
    have h4 := q.1.1 (4 + k) (by omega)
    rw [Nat.zero_add] at h4
    have h5 := q.1.2.2.2.1 5 (by omega) (by omega)
    refine ⟨w2, cqx_fin eb (fun _ _ => rfl) (fun r hr => by rw [wJ_row (by omega), wJ_row (by omega), wJ_row (by omega)]) rfl ?_⟩
    refine cq_now q (STm.mono ?_ (up1 c)) (fun b hb => wI_row (by omega)) (fun r h1 h2 => by rw [wJ_row (by omega), wJ_row (by omega)]) (fun j hj => by rw [wJ_ne (by omega), wJ_ne (by omega), wJ_ne (by omega)]) rfl
    refine st_ff (f0 := k) q.1 (fun j hj => ?_) ?_ (fun j h1 h2 => ?_) (fun j hj => ?_) (fun f' hf' => ⟨?_, ?_, ?_, ?_⟩) (fun f' h1 h2 => ⟨?_, ?_, ?_, ?_, ?_⟩) (fun _ => Or.inl ⟨?_, ?_, ?_⟩) (fun j h1 h2 => ?_) ?_ ?_ (fun j hj => ?_)
    · rw [wJ_ne (Or.inr hj), wJ_row (by decide)]
    · rw [Nat.zero_add, wJ_ne (by omega), wJ_self, wJ_self]
    · rw [Nat.zero_add, wJ_ne (by omega), wJ_ne (by omega), wJ_ne (by omega)]
    · rw [wI_row (by decide)]
    · rw [wI_ne (Or.inr hf')]
    · rw [wI_row (by decide)]
    · rw [wI_row (by decide)]
    · rw [wI_row (by decide)]
    · rw [wJ_ne (by omega), wJ_ne (by omega), wJ_ne (by omega)]
    · rw [wJ_ne (by omega), wJ_ne (by omega), wJ_ne (by omega)]
    · rw [wJ_ne (by omega), wJ_ne (by omega), wJ_ne (by omega)]
    · rw [wJ_ne (by omega), wJ_ne (by omega), wJ_ne (by omega)]
    · rw [wJ_ne (by omega), wJ_ne (by omega), wJ_ne (by omega)]
    · rw [wI_self]
    · rw [show 0 + 12 + k = 12 + k by omega, wJ_self]
    · rw [wJ_self]
    · by_cases z : j = 5
      · subst z
        show wJ (wJ (wJ D 79 59 (D 79 59 + D 79 (4 + k))) 79 (4 + k) 0) 79 (12 + k) 0 79 59 = wJ (wJ J 23 5 (J 23 5 + J 17 (4 + k))) 17 (4 + k) 0 23 5
        have h5' : D 79 59 = J 23 5 := h5
        have h4' : D 79 (4 + k) = J 17 (4 + k) := h4
        rw [wJ_ne (by omega), wJ_ne (by omega), wJ_self, wJ_ne (by omega), wJ_self, h5', h4']
      · rw [wJ_ne (by omega), wJ_ne (by omega), wJ_ne (by omega), wJ_ne (by omega), wJ_ne (by omega)]
        exact q.1.2.2.2.1 j h1 h2
    · exact wI_row (by decide)
    · exact wI_row (by decide)
    · rw [wJ_ne (by omega), wJ_ne (by omega), wJ_ne (by omega)]
  · rw [hf, b_n3_mk, if_pos rfl] at e1
    cases e1
    obtain ⟨C, D, eb, n2, lo, lj, q⟩ := cq_open (I1 := I) (J1 := J) h (fun _ _ => rfl) rfl
    rcases food_is (f := f) (C := C) q.1 with ⟨k', hk', ek, t', hf1, -⟩ | ⟨-, hf2⟩
    · rw [hf] at hf1; exact absurd (congrArg (fun (y : Int32 × Iv × Jv) => y.1) hf1) (show ¬ (0 : Int32) = 1 by decide)
    rw [eb, b_n2_mk, hf2, b_n3_mk, if_pos rfl] at e2
    cases e2
    exact ⟨rfl, cq_same eb q⟩
theorem cq_lay {c : Nat} {f s v1 v2 : Int32} {I I1 I2 : Iv} {J J1 J2 : Jv} (h : CQx c I J) (e1 : fn_X9_lay f s I J = (v1, I1, J1)) (e2 : fn_X10_lay f s I1 J1 = (v2, I2, J2)) : v1 = v2 ∧ CQx (c + 1) I2 J2 := by
  unfold fn_X9_lay at e1
  unfold fn_X10_lay at e2
  rcases food_is (f := f) (C := I) h.1 with ⟨k, hk, rfl, t, hf, -⟩ | ⟨hf, -⟩
  · rw [hf, b_n3_mk, if_neg (by decide), isSh9, b_n3_mk] at e1
    by_cases hs : 0 ≤ s ∧ s ≤ 2
    · rw [decide_eq_true hs, if_neg (by decide), n3_tn (by omega), l_t, l_t] at e1
      cases e1
      obtain ⟨C, D, eb, n2, lo, lj, q⟩ := cq_open (I1 := wI I 20 k s) (J1 := J) h (fun b hb => wI_row (by omega)) rfl
      rw [eb, b_n2_mk] at e2
      rcases food_is (f := n3 k) (C := C) q.1 with ⟨k', hk', ek, t', -, hf2⟩ | ⟨hf1, -⟩
      rotate_left
      · rw [hf] at hf1; exact absurd (congrArg (fun (y : Int32 × Iv × Jv) => y.1) hf1) (show ¬ (1 : Int32) = 0 by decide)
      rw [hf2, b_n3_mk, if_neg (by decide), isSh10, b_n3_mk, decide_eq_true hs, if_neg (by decide), n3_tn (by omega), l_t, l_t] at e2
      cases e2
      obtain ⟨t1, t2, t3, t4, t5, t6, t7, t8⟩ := f_there q.1 hk t
      have hsb : 0 ≤ s.toInt ∧ s.toInt ≤ 2 := by
        have h1 := Int32.le_iff_toInt_le.mp hs.1
        have h2 := Int32.le_iff_toInt_le.mp hs.2
        rw [show (0 : Int32).toInt = 0 by decide] at h1
        rw [show (2 : Int32).toInt = 2 by decide] at h2
        exact ⟨h1, h2⟩
      refine ⟨by rw [t2, wsd6], cqx_fin eb (fun _ _ => rfl) (fun r hr => wJ_row (by omega)) rfl ?_⟩
      refine cq_now q (STm.mono ?_ (up1 c)) (fun b hb => wI_row (by omega)) (fun r h1 h2 => rfl) (fun j hj => wJ_ne (by omega)) rfl
      refine st_ff (f0 := k) q.1 (fun j hj => rfl) ?_ (fun j h1 h2 => ?_) (fun j hj => ?_) (fun f' hf' => ⟨?_, ?_, ?_, ?_⟩) (fun f' h1 h2 => ⟨?_, ?_, ?_, ?_, ?_⟩) (fun _ => Or.inr ⟨?_, ?_, ?_, ?_, ?_, ?_, ?_, ?_, ?_⟩) (fun j h1 h2 => ?_) ?_ ?_ (fun j hj => ?_)
      · rw [wJ_ne (by omega)]; exact q.1.1 _ (by omega)
      · rw [wJ_ne (by omega)]
      · rw [wI_row (by decide)]
      · rw [wI_row (by decide)]
      · rw [wI_ne (Or.inr hf')]
      · rw [wI_row (by decide)]
      · rw [wI_row (by decide)]
      · rw [wJ_ne (by omega)]
      · rw [wJ_ne (by omega)]
      · rw [wJ_ne (by omega)]
      · rw [wJ_ne (by omega)]
      · rw [wJ_ne (by omega)]
      · rw [wI_row (by decide)]; exact t
      · rw [show 0 + 12 + k = 12 + k by omega, wJ_ne (by omega)]; exact t1
      · rw [show 0 + 20 + k = 20 + k by omega, wJ_self, wI_self]
      · rw [wI_self]; exact hsb
      · rw [show 0 + 28 + k = 28 + k by omega, wJ_ne (by omega), wI_row (by decide)]; exact t4
      · rw [wI_row (by decide)]; exact t5
      · rw [show 0 + 36 + k = 36 + k by omega, wJ_ne (by omega), wI_row (by decide)]; exact t6
      · rw [show 0 + 44 + k = 44 + k by omega, wJ_ne (by omega), wI_row (by decide)]; exact t7
      · rw [wI_row (by decide), wI_row (by decide)]; exact t8
      · rw [wJ_ne (by omega)]; exact q.1.2.2.2.1 j h1 h2
      · exact wI_row (by decide)
      · exact wI_row (by decide)
      · rw [wJ_ne (by omega)]
    · rw [decide_eq_false hs, if_pos (show b3 false = 0 from rfl)] at e1
      cases e1
      obtain ⟨C, D, eb, n2, lo, lj, q⟩ := cq_open (I1 := I) (J1 := J) h (fun _ _ => rfl) rfl
      rcases food_is (f := n3 k) (C := C) q.1 with ⟨k', hk', ek, t', -, hf2⟩ | ⟨hf1, -⟩
      rotate_left
      · rw [hf] at hf1; exact absurd (congrArg (fun (y : Int32 × Iv × Jv) => y.1) hf1) (show ¬ (1 : Int32) = 0 by decide)
      rw [eb, b_n2_mk, hf2, b_n3_mk, if_neg (by decide), isSh10, b_n3_mk, decide_eq_false hs, if_pos (show b3 false = 0 from rfl)] at e2
      cases e2
      exact ⟨rfl, cq_same eb q⟩
  · rw [hf, b_n3_mk, if_pos rfl] at e1
    cases e1
    obtain ⟨C, D, eb, n2, lo, lj, q⟩ := cq_open (I1 := I) (J1 := J) h (fun _ _ => rfl) rfl
    rcases food_is (f := f) (C := C) q.1 with ⟨k', hk', ek, t', hf1, -⟩ | ⟨-, hf2⟩
    · rw [hf] at hf1; exact absurd (congrArg (fun (y : Int32 × Iv × Jv) => y.1) hf1) (show ¬ (0 : Int32) = 1 by decide)
    rw [eb, b_n2_mk, hf2, b_n3_mk, if_pos rfl] at e2
    cases e2
    exact ⟨rfl, cq_same eb q⟩
