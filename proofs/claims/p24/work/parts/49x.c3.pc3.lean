/-! ===== all WEIGHTS, both ===== -/
theorem lcL {m : Nat} {A0 : Iv} (hm : 1 ≤ m ∧ m ≤ 6) : ∀ (f i fu : Nat) (I : Iv) (J : Jv), i + f = 29 → f < fu → ENv I A0 → SG I → ∃ (I' : Iv) (J' : Jv), (∀ K : Int32 → Iv → Jv → Iv × Jv, fl_X1_learnCouldBe_2_0 (n3 m) K fu (n3 i) I J = K 29 I' J') ∧ SG I' ∧ (∀ b, b ≠ 14 → (b < 46 ∨ 56 < b) → I' b = I b) ∧ (∀ r, r ≠ 15 → r ≠ 47 → r ≠ 53 → J' r = J r) ∧ (∀ s x, x ≤ I 55 s → x ≤ I' 55 s) ∧ ∀ j, i ≤ j → j < 29 → n3 m ≤ I' 55 (cbN j)
  | f, i, 0, _, _, _, h, _, _ => absurd h (Nat.not_lt_zero _)
  | 0, i, fu + 1, I, J, hi, _, _, hs => ⟨I, J, fun K => by
      rw [fl_X1_learnCouldBe_2_0.eq_2, if_pos (by rw [show (29 : Int32) = n3 29 from rfl, n3_le (by omega) (by omega)]; omega), show i = 29 by omega]; rfl, hs, fun _ _ _ => rfl, fun _ _ _ _ => rfl, fun _ _ h => h, fun j h1 h2 => by omega⟩
  | f + 1, i, fu + 1, I, J, hi, hf, hE, hs => by
    obtain ⟨c1, c2, c3⟩ := cb_t (show i < 29 by omega)
    obtain ⟨I1, J1, l1, l2, l3, l4, l5, l6⟩ := learnC I J c2 hm hE hs
    have hE1 : ENv I1 A0 := env_row hE (fun b hb => l4 b (by omega) (by omega)) rfl (fun _ _ => rfl) rfl rfl
    obtain ⟨I2, J2, q1, q2, q3, q4, q5, q6⟩ := lcL hm f (i + 1) fu I1 J1 (by omega) (by omega) hE1 l2
    refine ⟨I2, J2, fun K => ?_, q2, fun b h1 h2 => by rw [q3 b h1 h2, l4 b h1 h2], fun r h1 h2 h3 => by rw [q4 r h1 h2 h3, l5 r h1 h2 h3], fun s x hx => q5 s x (l6 s x hx), fun j h1 h2 => ?_⟩
    · rw [fl_X1_learnCouldBe_2_0.eq_2, if_neg (by rw [show (29 : Int32) = n3 29 from rfl, n3_le (by omega) (by omega)]; omega), n3_tn (by omega), c1, l_t, l1, b_n2_mk, n3_up]
      exact q1 K
    · by_cases z : j = i
      · rw [z]; exact q5 _ _ l3
      · exact q6 j (by omega) h2
theorem learnAll {m : Nat} {A0 : Iv} (I : Iv) (J : Jv) (hm : 1 ≤ m ∧ m ≤ 6) (hE : ENv I A0) (hs : SG I) : ∃ (I' : Iv) (J' : Jv), fn_X1_learnCouldBe (n3 m) I J = (I', J') ∧ SG I' ∧ (∀ b, b ≠ 14 → (b < 46 ∨ 56 < b) → I' b = I b) ∧ (∀ r, r ≠ 15 → r ≠ 47 → r ≠ 53 → J' r = J r) ∧ ∀ s, s < 128 → cb s = true → n3 m ≤ I' 55 s := by
  obtain ⟨I', J', q1, q2, q3, q4, q5, q6⟩ := lcL hm 29 0 30 I J (by omega) (by omega) hE hs
  have q1' : ∀ K : Int32 → Iv → Jv → Iv × Jv, fl_X1_learnCouldBe_2_0 (n3 m) K 30 0 I J = K 29 I' J' := q1
  refine ⟨I', J', ?_, q2, q3, q4, fun s _ hc => ?_⟩
  · unfold fn_X1_learnCouldBe
    rw [show mU (29 : Int32) ((0 : Int32)) + 1 = 30 by decide, q1']
  · have mem : s ∈ cbL := by
      have : cbL.contains s = true := hc
      simpa using this
    rw [← cb_map, List.mem_map] at mem
    obtain ⟨j, hj, e⟩ := mem
    rw [List.mem_range'_1] at hj
    rw [← e]
    exact q6 j (Nat.zero_le _) (by omega)
/-- signs in bounds, for sets that could be -/
theorem sgI_b {I : Iv} {m s : Nat} (hm : 1 ≤ m ∧ m ≤ 6) (hs : SG I) (hk : ∀ s, s < 128 → cb s = true → n3 m ≤ I 55 s) (h : s < 128) (hc : cb s = true) (k : Nat) (k7 : k < 7) : -1000000 ≤ (sgI I m s k).toInt ∧ (sgI I m s k).toInt ≤ 1000000 := (hs s m h hm.1 hm.2 (hk s h hc) k k7).2
/-- the class's row of WEIGHTS and their sum -/
theorem waL {I A : Iv} {m : Nat} (hm : 1 ≤ m ∧ m ≤ 6) (g : GR I A) (hs : SG I) (hk : ∀ s, s < 128 → cb s = true → n3 m ≤ I 55 s) : ∀ (f i fu : Nat) (x : Int64) (J : Jv), i + f = 29 → f < fu → ∃ J' : Jv, (∀ K : Int64 → Int32 → Jv → Int64 × Iv × Jv, fl_X2_weighAll_5_0 I (n3 m) K fu x (n3 i) J = K (sm6 (fun j => wtI I m (cbN j)) (List.range' i f) x) 29 J') ∧ (∀ r, r ≠ 63 → J' r = J r) ∧ ∀ j, J' 63 j = (if i ≤ j ∧ j < 29 then wtI I m (cbN j) else J 63 j)
  | f, i, 0, _, _, _, h => absurd h (Nat.not_lt_zero _)
  | 0, i, fu + 1, x, J, hi, _ => ⟨J, fun K => by
      rw [fl_X2_weighAll_5_0.eq_2, if_pos (by rw [show (29 : Int32) = n3 29 from rfl, n3_le (by omega) (by omega)]; omega), show i = 29 by omega]; rfl, fun _ _ => rfl, fun j => by rw [if_neg (by omega)]⟩
  | f + 1, i, fu + 1, x, J, hi, hf => by
    obtain ⟨c1, c2, c3⟩ := cb_t (show i < 29 by omega)
    have w := wtC (s := cbN i) J c2 hm g (fun k k7 => sgI_b hm hs hk c2 c3 k k7)
    obtain ⟨J', q1, q2, q3⟩ := waL hm g hs hk f (i + 1) fu (x + wtI I m (cbN i)) (wJ J 63 i (wtI I m (cbN i))) (by omega) (by omega)
    refine ⟨J', fun K => ?_, fun r hr => by rw [q2 r hr, wJ_row hr], fun j => ?_⟩
    · rw [fl_X2_weighAll_5_0.eq_2, if_neg (by rw [show (29 : Int32) = n3 29 from rfl, n3_le (by omega) (by omega)]; omega), n3_tn (by omega), c1, l_t, w, b_n3_mk, l_t, wJ_self, l_t, n3_up, q1 K, List.range'_succ]
      rfl
    · rw [q3 j]
      by_cases z : j = i
      · rw [z, if_neg (by omega), if_pos (by omega), wJ_self]
      · rw [wJ_ne (Or.inr z)]
        by_cases y : i + 1 ≤ j ∧ j < 29
        · rw [if_pos y, if_pos (by omega)]
        · rw [if_neg y, if_neg (by omega)]
def allI (I : Iv) (m : Nat) : Int64 := sm6 (fun j => wtI I m (cbN j)) (List.range' 0 29) 0
theorem weighC {I A : Iv} {m : Nat} (J : Jv) (hm : 1 ≤ m ∧ m ≤ 6) (g : GR I A) (hs : SG I) (hk : ∀ s, s < 128 → cb s = true → n3 m ≤ I 55 s) : ∃ J' : Jv, fn_X2_weighAll (n3 m) I J = (allI I m, I, J') ∧ (∀ r, r ≠ 63 → J' r = J r) ∧ ∀ j, j < 29 → J' 63 j = wtI I m (cbN j) := by
  obtain ⟨J', q1, q2, q3⟩ := waL hm g hs hk 29 0 30 0 J (by omega) (by omega)
  have q1' : ∀ K : Int64 → Int32 → Jv → Int64 × Iv × Jv, fl_X2_weighAll_5_0 I (n3 m) K 30 0 0 J = K (allI I m) 29 J' := q1
  refine ⟨J', ?_, q2, fun j hj => by rw [q3 j, if_pos ⟨Nat.zero_le _, hj⟩]⟩
  unfold fn_X2_weighAll
  rw [show mU (29 : Int32) ((0 : Int32)) + 1 = 30 by decide, q1']
theorem all_b {I A : Iv} (m : Nat) (g : GR I A) : 0 ≤ (allI I m).toInt ∧ (allI I m).toInt ≤ 29000000 := by
  have := sm6_b (v := fun j => wtI I m (cbN j)) 29 0 0 (by omega) (fun j _ _ => wt_b m (cbN j) g) (by decide) (by decide)
  have z : (0 : Int64).toInt = 0 := by decide
  rw [z] at this
  unfold allI
  omega
/-! the reference's -/
theorem cp7 {B : Jv} {s : Nat} (hs : s < 128) : ∀ (f k fu : Nat) (A : Iv), k + f = 7 → f < fu → ∃ A' : Iv, (∀ K : Int32 → Iv → Iv × Jv, fl_X10_weigh_36_1 (n3 s) B K fu (n3 k) A = K 7 A') ∧ (∀ b, b ≠ 97 → A' b = A b) ∧ ∀ j, A' 97 j = (if 7 * s + k ≤ j ∧ j < 7 * s + 7 then A 90 (j - 7 * s) else A 97 j)
  | f, k, 0, _, _, h => absurd h (Nat.not_lt_zero _)
  | 0, k, fu + 1, A, hk, _ => ⟨A, fun K => by
      rw [fl_X10_weigh_36_1.eq_2, if_pos (by rw [show (7 : Int32) = n3 7 from rfl, n3_le (by omega) (by omega)]; omega), show k = 7 by omega]; rfl, fun _ _ => rfl, fun j => by rw [if_neg (by omega)]⟩
  | f + 1, k, fu + 1, A, hk, hf => by
    have ei : ((7 * n3 s) + n3 k).toNatClampNeg = 7 * s + k := by
      rw [show (7 : Int32) = n3 7 from rfl, n3_mul, n3_add, nb_tn (by omega)]
    obtain ⟨A', q1, q2, q3⟩ := cp7 (B := B) hs f (k + 1) fu (wI A 97 (7 * s + k) (A 90 k)) (by omega) (by omega)
    refine ⟨A', fun K => ?_, fun b hb => by rw [q2 b hb, wI_row hb], fun j => ?_⟩
    · rw [fl_X10_weigh_36_1.eq_2, if_neg (by rw [show (7 : Int32) = n3 7 from rfl, n3_le (by omega) (by omega)]; omega), ei, n3_tn (by omega), l_t, n3_up]
      exact q1 K
    · rw [q3 j, wI_row (show (90 : Nat) ≠ 97 by decide)]
      by_cases z : j = 7 * s + k
      · rw [z, if_neg (by omega), if_pos (by omega), wI_self, show 7 * s + k - 7 * s = k by omega]
      · rw [wI_ne (Or.inr z)]
        by_cases y : 7 * s + (k + 1) ≤ j ∧ j < 7 * s + 7
        · rw [if_pos y, if_pos (by omega)]
        · rw [if_neg y, if_neg (by omega)]
theorem gr_row {I A A' : Iv} (g : GR I A) (e : ∀ b, b ≠ 90 → b ≠ 97 → A' b = A b) : GR I A' := by
  intro k hk
  rw [e 91 (by decide) (by decide), e 92 (by decide) (by decide), e 93 (by decide) (by decide), e 94 (by decide) (by decide), e 95 (by decide) (by decide)]
  exact g k hk
def wcb (I : Iv) (m s : Nat) : Int64 := if cb s = true then wtI I m s else 0
theorem wgL {I C : Iv} {m : Nat} (hm : 1 ≤ m ∧ m ≤ 6) (g : GR I C) (hE : ENv I C) (hs : SG I) (hk : ∀ s, s < 128 → cb s = true → n3 m ≤ I 55 s) : ∀ (f s fu : Nat) (A : Iv) (B : Jv), s + f = 128 → f < fu → (∀ b, b ≠ 90 → b ≠ 97 → A b = C b) → ∃ (A' : Iv) (B' : Jv), (∀ K : Int32 → Iv → Jv → Iv × Jv, fl_X10_weigh_7_0 (n3 m) K fu (n3 s) A B = K 128 A' B') ∧ (∀ b, b ≠ 90 → b ≠ 97 → A' b = C b) ∧ (∀ j, j < 7 * s → A' 97 j = A 97 j) ∧ (∀ j k, s ≤ j → j < 128 → cb j = true → k < 7 → A' 97 (7 * j + k) = sgI I m j k) ∧ (∀ j, j < s → B' 96 j = B 96 j) ∧ (∀ j, s ≤ j → j < 128 → B' 96 j = wcb I m j) ∧ B' 78 28 = sm6 (wcb I m) (List.range' s f) (B 78 28)
  | f, s, 0, _, _, _, h, _ => absurd h (Nat.not_lt_zero _)
  | 0, s, fu + 1, A, B, hf, _, hA => ⟨A, B, fun K => by
      rw [fl_X10_weigh_7_0.eq_2, if_pos (by rw [show (128 : Int32) = n3 128 from rfl, n3_le (by omega) (by omega)]; omega), show s = 128 by omega]; rfl, hA, fun _ _ => rfl, fun j k h1 h2 => by omega, fun _ _ => rfl, fun j h1 h2 => by omega, rfl⟩
  | f + 1, s, fu + 1, A, B, hf, hfu, hA => by
    have hs8 : s < 128 := by omega
    have nx : ¬ (128 : Int32) ≤ n3 s := by rw [show (128 : Int32) = n3 128 from rfl, n3_le (by omega) (by omega)]; omega
    by_cases hc : cb s = true
    · -- it could be
      have hEA : ENv I A := env_row hE (fun _ _ => rfl) (by rw [hA 78 (by decide) (by decide)]) (fun _ _ => by rw [hA 81 (by decide) (by decide)]) (hA 83 (by decide) (by decide)) (hA 84 (by decide) (by decide))
      obtain ⟨A1, f1, f2, f3⟩ := findR (s := s) (n := m) A (wJ B 96 s 0) hm
      have fr := (fr7_fn_X10_findSigns (n3 s) (n3 m) A ki7_rfl (wJ B 96 s 0) kj7_rfl).2
      rw [f1] at fr
      obtain ⟨B1, eB1⟩ : ∃ B1, B1 = itR A 80 (288 * m) (tfR s A (wJ B 96 s 0)) := ⟨_, rfl⟩
      rw [← eB1] at f1 fr
      have b96 : B1 96 = (wJ B 96 s 0) 96 := funext (fun k => fr 96 k rfl)
      have b78 : B1 78 = (wJ B 96 s 0) 78 := funext (fun k => fr 78 k rfl)
      obtain ⟨A2, p1, p2, p3⟩ := cp7 (B := B1) hs8 7 0 (mU (7 : Int32) ((0 : Int32)) + 1) A1 rfl (by decide)
      have p1' : ∀ K : Int32 → Iv → Iv × Jv, fl_X10_weigh_36_1 (n3 s) B1 K (mU (7 : Int32) ((0 : Int32)) + 1) 0 A1 = K 7 A2 := p1
      have hA2 : ∀ b, b ≠ 90 → b ≠ 97 → A2 b = C b := fun b h1 h2 => by rw [p2 b h2, f2 b h1, hA b h1 h2]
      have sgv := hs s m hs8 hm.1 hm.2 (hk s hs8 hc)
      have h97 : ∀ k, k < 7 → A2 97 (7 * s + k) = sgI I m s k := fun k k7 => by
        rw [p3 _, if_pos (by omega), show 7 * s + k - 7 * s = k by omega, f3 k k7]
        exact ((sgv k k7).1 A (wJ B 96 s 0) hEA).symm
      have w := wtR (s := s) (m := m) B1 hs8 (gr_row g hA2) (fun k k7 => (sgv k k7).2) h97
      obtain ⟨A', B', q1, q2, q3, q4, q5, q6, q7⟩ := wgL hm g hE hs hk f (s + 1) fu A2 (wJ (wJ B1 96 s (wtI I m s)) 78 28 ((wJ B1 96 s (wtI I m s)) 78 28 + (wJ B1 96 s (wtI I m s)) 96 s)) (by omega) (by omega) hA2
      have wc : wcb I m s = wtI I m s := if_pos hc
      refine ⟨A', B', fun K => ?_, q2, fun j hj => ?_, fun j k h1 h2 h3 h4 => ?_, fun j hj => ?_, fun j h1 h2 => ?_, ?_⟩
      · rw [fl_X10_weigh_7_0.eq_2, if_neg nx, n3_tn (by omega), l_t, fX10_cb hs8, b_n3_mk, hc, if_neg (show ¬ b3 true = 0 by decide), f1, b_n2_mk, p1', w, b_n3_mk, l_t, l_t, n3_up]
        exact q1 K
      · rw [q3 j (by omega), p3 j, if_neg (by omega), f2 97 (by decide)]
      · by_cases z : j = s
        · rw [z, q3 _ (by omega)]; exact h97 k h4
        · exact q4 j k (by omega) h2 h3 h4
      · rw [q5 j (by omega), wJ_row (by decide), wJ_ne (Or.inr (by omega)), b96, wJ_ne (Or.inr (by omega))]
      · by_cases z : j = s
        · rw [z, q5 s (by omega), wJ_row (by decide), wJ_self, wc]
        · exact q6 j (by omega) h2
      · rw [q7, List.range'_succ, wJ_self, wJ_self, wJ_row (show (78 : Nat) ≠ 96 by decide), b78, wJ_row (show (78 : Nat) ≠ 96 by decide), ← wc]
        rfl
    · have hc' : cb s = false := by simpa using hc
      obtain ⟨A', B', q1, q2, q3, q4, q5, q6, q7⟩ := wgL hm g hE hs hk f (s + 1) fu A (wJ B 96 s 0) (by omega) (by omega) hA
      have wc : wcb I m s = 0 := if_neg hc
      refine ⟨A', B', fun K => ?_, q2, fun j hj => q3 j (by omega), fun j k h1 h2 h3 h4 => ?_, fun j hj => ?_, fun j h1 h2 => ?_, ?_⟩
      · rw [fl_X10_weigh_7_0.eq_2, if_neg nx, n3_tn (by omega), l_t, fX10_cb hs8, b_n3_mk, hc', if_pos (show b3 false = 0 from rfl), n3_up]
        exact q1 K
      · by_cases z : j = s
        · rw [z] at h3; exact absurd h3 hc
        · exact q4 j k (by omega) h2 h3 h4
      · rw [q5 j (by omega), wJ_ne (Or.inr (by omega))]
      · by_cases z : j = s
        · rw [z, q5 s (by omega), wJ_self, wc]
        · exact q6 j (by omega) h2
      · rw [q7, List.range'_succ, wJ_row (by decide)]
        show _ = sm6 (wcb I m) (List.range' (s + 1) f) (B 78 28 + wcb I m s)
        rw [wc, Int64.add_zero]
theorem weighR {I C : Iv} {m : Nat} (D : Jv) (hm : 1 ≤ m ∧ m ≤ 6) (g : GR I C) (hE : ENv I C) (hs : SG I) (hk : ∀ s, s < 128 → cb s = true → n3 m ≤ I 55 s) : ∃ (A' : Iv) (B' : Jv), fn_X10_weigh (n3 m) C D = (A', B') ∧ (∀ b, b ≠ 90 → b ≠ 97 → A' b = C b) ∧ (∀ j k, j < 128 → cb j = true → k < 7 → A' 97 (7 * j + k) = sgI I m j k) ∧ (∀ j, j < 128 → B' 96 j = wcb I m j) ∧ B' 78 28 = allI I m := by
  obtain ⟨A', B', q1, q2, q3, q4, q5, q6, q7⟩ := wgL hm g hE hs hk 128 0 129 C (wJ D 78 28 0) (by omega) (by omega) (fun _ _ _ => rfl)
  have q1' : ∀ K : Int32 → Iv → Jv → Iv × Jv, fl_X10_weigh_7_0 (n3 m) K 129 0 C (wJ D 78 28 0) = K 128 A' B' := q1
  refine ⟨A', B', ?_, q2, fun j k h1 h2 h3 => q4 j k (Nat.zero_le _) h1 h2 h3, fun j hj => q6 j (Nat.zero_le _) hj, ?_⟩
  · unfold fn_X10_weigh
    rw [l_t, show mU (128 : Int32) ((0 : Int32)) + 1 = 129 by decide, q1']
  · rw [q7, wJ_self]
    exact (sm6_cb (wtI I m) 0).symm
