/-! ===== ODDS ===== -/
def shV (w all : Int64) : Int32 := if all ≤ 0 then 0 else ((1000000 * w) / all).toInt32
theorem z0t6 : (0 : Int64).toInt = 0 := by decide
theorem le0_6 {x : Int64} (h : 0 ≤ x.toInt) : x ≤ 0 ↔ x = 0 := by
  constructor
  · intro z
    have := Int64.le_iff_toInt_le.mp z
    rw [z0t6] at this
    exact Int64.toInt_inj.mp (by rw [z0t6]; omega)
  · rintro rfl; exact Int64.le_refl _
theorem shareIs {i : Nat} (hi : i < 29) (all : Int64) (I : Iv) (J : Jv) : fn_X2_share (n3 i) all I J = (shV (J 63 i) all, I, J) := by
  unfold fn_X2_share shV
  by_cases z : all ≤ 0
  · rw [if_pos z, if_pos z]
  · rw [if_neg z, if_neg z, if_neg (n3_no0 (by omega)), if_neg (by rw [show (29 : Int32) = n3 29 from rfl, n3_le (by omega) (by omega)]; omega), n3_tn (by omega)]
theorem oddsR {s : Nat} (hs : s < 128) (A : Iv) (B : Jv) (h : 0 ≤ (B 78 28).toInt) : fn_X10_oddsOf (n3 s) A B = (shV (B 96 s) (B 78 28), A, B) := by
  unfold fn_X10_oddsOf shV
  by_cases z : B 78 28 = 0
  · rw [if_pos z, if_pos ((le0_6 h).mpr z)]
  · rw [if_neg z, if_neg (fun y => z ((le0_6 h).mp y)), n3_tn (by omega)]
theorem odL {I : Iv} {J : Jv} {all : Int64} {W : Nat → Int64} {s : Nat} (hs : s < 128) (hJ : ∀ j, j < 29 → J 63 j = W (cbN j)) {K : Int32 → Int32 × Iv × Jv} : ∀ (f i fu : Nat), i + f = 29 → f < fu → (∃ j, i ≤ j ∧ j < 29 ∧ cbN j = s) → fl_X2_oddsOf_9_0 (n3 s) I J all K fu (n3 i) = (shV (W s) all, I, J)
  | f, i, 0, _, h, _ => absurd h (Nat.not_lt_zero _)
  | 0, i, fu + 1, hi, _, h => by obtain ⟨j, h1, h2, -⟩ := h; omega
  | f + 1, i, fu + 1, hi, hf, h => by
    obtain ⟨c1, c2, c3⟩ := cb_t (show i < 29 by omega)
    rw [fl_X2_oddsOf_9_0.eq_2, if_neg (by rw [show (29 : Int32) = n3 29 from rfl, n3_le (by omega) (by omega)]; omega), n3_tn (by omega), c1, l_t]
    by_cases z : cbN i = s
    · rw [if_pos (by rw [z]), shareIs (by omega), b_n3_mk, hJ i (by omega), z]
    · rw [if_neg (fun y => z ((n3_inj (by omega) (by omega)).mp y)), n3_up]
      refine odL hs hJ f (i + 1) fu (by omega) (by omega) ?_
      obtain ⟨j, h1, h2, h3⟩ := h
      refine ⟨j, ?_, h2, h3⟩
      by_cases y : j = i
      · rw [y] at h3; exact absurd h3 z
      · omega
theorem cb_ex {s : Nat} (hc : cb s = true) : ∃ j, 0 ≤ j ∧ j < 29 ∧ cbN j = s := by
  have mem : s ∈ cbL := by
    have : cbL.contains s = true := hc
    simpa using this
  rw [← cb_map, List.mem_map] at mem
  obtain ⟨j, hj, e⟩ := mem
  rw [List.mem_range'_1] at hj
  exact ⟨j, Nat.zero_le _, by omega, e⟩
/-- what the class's guess and the reference's stand on -/
theorem guess {c m : Nat} {I : Iv} {J : Jv} (hm : 1 ≤ m ∧ m ≤ 6) (h : CQx c I J) (hs : CS I) : ∃ (I1 : Iv) (J1 : Jv), fn_X1_learnCouldBe (n3 m) I J = (I1, J1) ∧ SG I1 ∧ (∀ b, 78 ≤ b → I1 b = I b) ∧ J1 79 = J 79 ∧ (∀ s, s < 128 → cb s = true → n3 m ≤ I1 55 s) ∧ GQ I1 ∧ GR I1 (fn_X10_begin I J).1 := by
  obtain ⟨I1, J1, l1, l2, l3, l4, l5⟩ := learnAll (m := m) I J hm h.2.1 hs.1
  have q1 : GQ I1 := gq_row hs.2 (fun b hb => l3 b (by omega) (by omega)) (by rw [l3 78 (by omega) (by omega)])
  have q0 := gq_beg J hs.2
  obtain ⟨C, D, e, n2, q, qk, q81⟩ := begR I J
  refine ⟨I1, J1, l1, l2, fun b hb => l3 b (by omega) (by omega), l4 79 (by omega) (by omega) (by omega), l5, q1, ?_⟩
  rw [e] at q0 ⊢
  have q0' : GQ C := q0
  show GR I1 C
  intro k hk
  have g := q0' k hk
  unfold GQk PV at g
  rw [if_neg n2] at g
  have r : ∀ b, b = 58 ∨ b = 59 ∨ b = 60 ∨ b = 61 ∨ b = 62 → I1 b = C b := fun b hb => by
    rw [l3 b (by omega) (by omega), q b (by omega) (by omega) (by omega) (by omega)]
  rw [r 58 (by omega), r 59 (by omega), r 60 (by omega), r 61 (by omega), r 62 (by omega)]
  exact g
theorem gr_open {I I1 C : Iv} {J1 D : Jv} (h1 : ∀ b, 78 ≤ b → I1 b = I b) (hq : GQ I1) (eb : fn_X10_begin I1 J1 = (C, D)) : GR I1 C := by
  obtain ⟨C', D', e, n2, q, qk, q81⟩ := begR I1 J1
  have q0 := gq_beg J1 hq
  rw [eb] at e q0
  have ec : C = C' := congrArg (fun (y : Iv × Jv) => y.1) e
  rw [← ec] at n2 q
  have q0' : GQ C := q0
  intro k hk
  have g := q0' k hk
  unfold GQk PV at g
  rw [if_neg n2] at g
  have r : ∀ b, b = 58 ∨ b = 59 ∨ b = 60 ∨ b = 61 ∨ b = 62 → C b = I1 b := fun b hb => q b (by omega) (by omega) (by omega) (by omega)
  rw [r 58 (by omega), r 59 (by omega), r 60 (by omega), r 61 (by omega), r 62 (by omega)] at g
  exact g
theorem cs_odds {c : Nat} {s n v1 v2 : Int32} {I I1 I2 : Iv} {J J1 J2 : Jv} (h : CQx c I J) (hs : CS I) (e1 : fn_X9_odds s n I J = (v1, I1, J1)) (e2 : fn_X10_odds s n I1 J1 = (v2, I2, J2)) : v1 = v2 := by
  unfold fn_X9_odds at e1
  unfold fn_X10_odds at e2
  rw [isSet9, b_n3_mk] at e1
  by_cases h1 : 0 ≤ s ∧ s ≤ 127
  rotate_left
  · rw [decide_eq_false h1, if_pos (show b3 false = 0 from rfl)] at e1
    exact (cq_ref h e1 (fun C D eb => by rw [eb, b_n2_mk, isSet10, b_n3_mk, decide_eq_false h1, if_pos (show b3 false = 0 from rfl)] at e2; exact e2)).1
  obtain ⟨a, ha, rfl⟩ := set_n h1
  have bc := bc_cb ⟨a, ha⟩
  rw [decide_eq_true h1, if_neg (show ¬ b3 true = 0 by decide), bcIs, b_n3_mk] at e1
  by_cases h2 : cb a = true
  rotate_left
  · have h2' : cb a = false := by simpa using h2
    rw [if_neg (fun z => h2 (bc.mp z))] at e1
    exact (cq_ref h e1 (fun C D eb => by rw [eb, b_n2_mk, isSet10, b_n3_mk, decide_eq_true h1, if_neg (show ¬ b3 true = 0 by decide), fX10_cb ha, b_n3_mk, h2', if_pos (show b3 false = 0 from rfl)] at e2; exact e2)).1
  rw [if_pos (bc.mpr h2), days9, b_n3_mk] at e1
  by_cases h3 : 1 ≤ n ∧ n ≤ 6
  rotate_left
  · rw [decide_eq_false h3, if_pos (show b3 false = 0 from rfl)] at e1
    exact (cq_ref h e1 (fun C D eb => by rw [eb, b_n2_mk, isSet10, b_n3_mk, decide_eq_true h1, if_neg (show ¬ b3 true = 0 by decide), fX10_cb ha, b_n3_mk, h2, if_neg (show ¬ b3 true = 0 by decide), days10, b_n3_mk, decide_eq_false h3, if_pos (show b3 false = 0 from rfl)] at e2; exact e2)).1
  obtain ⟨m, hm, rfl⟩ := days_n h3
  obtain ⟨I3, J3, l1, l2, l3, l4, l5, l6, l7⟩ := guess hm h hs
  obtain ⟨J4, w1, w2, w3⟩ := weighC J3 hm l7 l2 l5
  rw [decide_eq_true h3, if_neg (show ¬ b3 true = 0 by decide), l1, b_n2_mk] at e1
  have z := odL (I := I3) (J := J4) (all := allI I3 m) (W := wtI I3 m) (K := fun (_ : Int32) => ((0 : Int32), I3, J4)) ha w3 29 0 (mU (29 : Int32) ((0 : Int32)) + 1) rfl (by decide) (cb_ex h2)
  have z' : fl_X2_oddsOf_9_0 (n3 a) I3 J4 (allI I3 m) (fun (_ : Int32) => ((0 : Int32), I3, J4)) (mU (29 : Int32) ((0 : Int32)) + 1) 0 = (shV (wtI I3 m a) (allI I3 m), I3, J4) := z
  have eo : fn_X2_oddsOf (n3 a) (n3 m) I3 J3 = (shV (wtI I3 m a) (allI I3 m), I3, J4) := by
    unfold fn_X2_oddsOf
    rw [w1, b_n3_mk]
    exact z'
  rw [eo, b_n3_mk] at e1
  have y0 : shV (wtI I3 m a) (allI I3 m) = v1 := congrArg (fun (y : Int32 × Iv × Jv) => y.1) e1
  have y1 : I3 = I1 := congrArg (fun (y : Int32 × Iv × Jv) => y.2.1) e1
  have y2 : J4 = J1 := congrArg (fun (y : Int32 × Iv × Jv) => y.2.2) e1
  rw [← y1, ← y2] at e2
  obtain ⟨C, D, eb, n2, lo, lj, q⟩ := cq_open (I1 := I3) (J1 := J4) h l3 (by rw [w2 79 (by decide)]; exact l4)
  have gC := gr_open (I := I) l3 l6 eb
  have hE : ENv I3 C := by
    obtain ⟨I5, J5, x1, x2, x3, -, -⟩ := learnAll (m := m) I J hm h.2.1 hs.1
    rw [l1] at x1
    have x5 : I3 = I5 := congrArg (fun (y : Iv × Jv) => y.1) x1
    rw [x5]
    exact env_row q.2.1 (fun b hb => x3 b (by omega) (by omega)) rfl (fun _ _ => rfl) rfl rfl
  obtain ⟨A', B', r1, r2, r3, r4, r5⟩ := weighR (m := m) D hm gC hE l2 l5
  rw [eb, b_n2_mk, isSet10, b_n3_mk, decide_eq_true h1, if_neg (show ¬ b3 true = 0 by decide), fX10_cb ha, b_n3_mk, h2, if_neg (show ¬ b3 true = 0 by decide), days10, b_n3_mk, decide_eq_true h3, if_neg (show ¬ b3 true = 0 by decide), r1, b_n2_mk, oddsR ha A' B' (by rw [r5]; exact (all_b m l7).1), b_n3_mk, r4 a ha, r5] at e2
  have y3 : shV (wcb I3 m a) (allI I3 m) = v2 := congrArg (fun (y : Int32 × Iv × Jv) => y.1) e2
  rw [← y0, ← y3]
  unfold wcb
  rw [if_pos h2]
/-! EACH -/
theorem ewC {I : Iv} {J : Jv} {all : Int64} {W : Nat → Int64} {k : Nat} (hk : k < 7) (hJ : ∀ j, j < 29 → J 63 j = W (cbN j)) {K : Int32 → Int32 → Int32 × Iv × Jv} : ∀ (f i fu : Nat) (x : Int32), i + f = 29 → f < fu → fl_X2_oddsWith_12_0 (n3 k) I J all K fu x (n3 i) = K (sm3 (fun j => if bitI (n3 (cbN j)) k = true then shV (W (cbN j)) all else 0) (List.range' i f) x) 29
  | f, i, 0, _, _, h => absurd h (Nat.not_lt_zero _)
  | 0, i, fu + 1, x, hi, _ => by
    rw [fl_X2_oddsWith_12_0.eq_2, if_pos (by rw [show (29 : Int32) = n3 29 from rfl, n3_le (by omega) (by omega)]; omega), show i = 29 by omega]; rfl
  | f + 1, i, fu + 1, x, hi, hf => by
    obtain ⟨c1, c2, c3⟩ := cb_t (show i < 29 by omega)
    have b := bit_s c2 hk
    rw [fl_X2_oddsWith_12_0.eq_2, if_neg (by rw [show (29 : Int32) = n3 29 from rfl, n3_le (by omega) (by omega)]; omega), n3_tn (by omega), c1, l_t, List.range'_succ]
    show _ = K (sm3 _ (List.range' (i + 1) f) (x + (if bitI (n3 (cbN i)) k = true then shV (W (cbN i)) all else 0))) 29
    by_cases z : ((n3 (cbN i) >>> (n3 k &&& 31)) &&& 1) = 0
    · rw [if_pos z, n3_up, ewC hk hJ f (i + 1) fu x (by omega) (by omega), b.mp z, if_neg (by decide), Int32.add_zero]
    · have zb : bitI (n3 (cbN i)) k = true := by
        cases h : bitI (n3 (cbN i)) k with
        | true => rfl
        | false => exact absurd (b.mpr h) z
      rw [if_neg z, shareIs (by omega), b_n3_mk, l_t, n3_up, ewC hk hJ f (i + 1) fu _ (by omega) (by omega), hJ i (by omega), zb, if_pos rfl]
theorem ewR {A : Iv} {B : Jv} {W : Nat → Int64} {k : Nat} (hk : k < 7) (h0 : 0 ≤ (B 78 28).toInt) (hB : ∀ j, j < 128 → cb j = true → B 96 j = W j) {K : Int32 → Int32 → Int32 × Iv × Jv} : ∀ (f s fu : Nat) (x : Int32), s + f = 128 → f < fu → fl_X10_each_35_0 (n3 k) A B K fu x (n3 s) = K (sm3 (fun j => if cb j = true then (if bitI (n3 j) k = true then shV (W j) (B 78 28) else 0) else 0) (List.range' s f) x) 128
  | f, s, 0, _, _, h => absurd h (Nat.not_lt_zero _)
  | 0, s, fu + 1, x, hs, _ => by
    rw [fl_X10_each_35_0.eq_2, if_pos (by rw [show (128 : Int32) = n3 128 from rfl, n3_le (by omega) (by omega)]; omega), show s = 128 by omega]; rfl
  | f + 1, s, fu + 1, x, hs, hf => by
    rw [fl_X10_each_35_0.eq_2, if_neg (by rw [show (128 : Int32) = n3 128 from rfl, n3_le (by omega) (by omega)]; omega), fX10_cb (by omega), b_n3_mk, List.range'_succ]
    show _ = K (sm3 _ (List.range' (s + 1) f) (x + (if cb s = true then (if bitI (n3 s) k = true then shV (W s) (B 78 28) else 0) else 0))) 128
    by_cases hc : cb s = true
    · rw [hc, if_neg (show ¬ b3 true = 0 by decide), has_w (by omega), b_n3_mk, if_pos (show true = true from rfl)]
      cases z : bitI (n3 s) k with
      | false =>
        rw [if_pos (show b3 false = 0 from rfl), l_t, n3_up, ewR hk h0 hB f (s + 1) fu _ (by omega) (by omega), if_neg (by decide)]
      | true =>
        rw [if_neg (show ¬ b3 true = 0 by decide), oddsR (by omega) A B h0, b_n3_mk, l_t, n3_up, ewR hk h0 hB f (s + 1) fu _ (by omega) (by omega), hB s (by omega) hc, if_pos rfl]
    · have hc' : cb s = false := by simpa using hc
      rw [hc', if_pos (show b3 false = 0 from rfl), l_t, n3_up, ewR hk h0 hB f (s + 1) fu _ (by omega) (by omega), if_neg (by decide)]
theorem cs_each {c : Nat} {k n v1 v2 : Int32} {I I1 I2 : Iv} {J J1 J2 : Jv} (h : CQx c I J) (hs : CS I) (e1 : fn_X9_each k n I J = (v1, I1, J1)) (e2 : fn_X10_each k n I1 J1 = (v2, I2, J2)) : v1 = v2 := by
  unfold fn_X9_each at e1
  unfold fn_X10_each at e2
  rw [isTr9, b_n3_mk] at e1
  by_cases h1 : 0 ≤ k ∧ k ≤ 6
  rotate_left
  · rw [decide_eq_false h1, if_pos (show b3 false = 0 from rfl)] at e1
    exact (cq_ref h e1 (fun C D eb => by rw [eb, b_n2_mk, isTr10, b_n3_mk, decide_eq_false h1, if_pos (show b3 false = 0 from rfl)] at e2; exact e2)).1
  obtain ⟨a, ha, rfl⟩ := sgn_n h1
  rw [decide_eq_true h1, if_neg (show ¬ b3 true = 0 by decide), days9, b_n3_mk] at e1
  by_cases h3 : 1 ≤ n ∧ n ≤ 6
  rotate_left
  · rw [decide_eq_false h3, if_pos (show b3 false = 0 from rfl)] at e1
    exact (cq_ref h e1 (fun C D eb => by rw [eb, b_n2_mk, isTr10, b_n3_mk, decide_eq_true h1, if_neg (show ¬ b3 true = 0 by decide), days10, b_n3_mk, decide_eq_false h3, if_pos (show b3 false = 0 from rfl)] at e2; exact e2)).1
  obtain ⟨m, hm, rfl⟩ := days_n h3
  obtain ⟨I3, J3, l1, l2, l3, l4, l5, l6, l7⟩ := guess hm h hs
  obtain ⟨J4, w1, w2, w3⟩ := weighC J3 hm l7 l2 l5
  rw [decide_eq_true h3, if_neg (show ¬ b3 true = 0 by decide), l1, b_n2_mk] at e1
  have z := ewC (I := I3) (J := J4) (all := allI I3 m) (W := wtI I3 m) (K := fun (x9 : Int32) (_ : Int32) => (x9, I3, J4)) ha w3 29 0 (mU (29 : Int32) ((0 : Int32)) + 1) 0 rfl (by decide)
  have z' : fl_X2_oddsWith_12_0 (n3 a) I3 J4 (allI I3 m) (fun (x9 : Int32) (_ : Int32) => (x9, I3, J4)) (mU (29 : Int32) ((0 : Int32)) + 1) 0 0 = (sm3 (fun j => if bitI (n3 (cbN j)) a = true then shV (wtI I3 m (cbN j)) (allI I3 m) else 0) (List.range' 0 29) 0, I3, J4) := z
  have eo : fn_X2_oddsWith (n3 a) (n3 m) I3 J3 = (sm3 (fun j => if bitI (n3 (cbN j)) a = true then shV (wtI I3 m (cbN j)) (allI I3 m) else 0) (List.range' 0 29) 0, I3, J4) := by
    unfold fn_X2_oddsWith
    rw [w1, b_n3_mk]
    exact z'
  rw [eo, b_n3_mk] at e1
  have y0 : sm3 (fun j => if bitI (n3 (cbN j)) a = true then shV (wtI I3 m (cbN j)) (allI I3 m) else 0) (List.range' 0 29) 0 = v1 := congrArg (fun (y : Int32 × Iv × Jv) => y.1) e1
  have y1 : I3 = I1 := congrArg (fun (y : Int32 × Iv × Jv) => y.2.1) e1
  have y2 : J4 = J1 := congrArg (fun (y : Int32 × Iv × Jv) => y.2.2) e1
  rw [← y1, ← y2] at e2
  obtain ⟨C, D, eb, n2, lo, lj, q⟩ := cq_open (I1 := I3) (J1 := J4) h l3 (by rw [w2 79 (by decide)]; exact l4)
  have gC := gr_open (I := I) l3 l6 eb
  have hE : ENv I3 C := by
    obtain ⟨I5, J5, x1, x2, x3, -, -⟩ := learnAll (m := m) I J hm h.2.1 hs.1
    rw [l1] at x1
    have x5 : I3 = I5 := congrArg (fun (y : Iv × Jv) => y.1) x1
    rw [x5]
    exact env_row q.2.1 (fun b hb => x3 b (by omega) (by omega)) rfl (fun _ _ => rfl) rfl rfl
  obtain ⟨A', B', r1, r2, r3, r4, r5⟩ := weighR (m := m) D hm gC hE l2 l5
  have t := ewR (A := A') (B := B') (W := wtI I3 m) (K := fun (x29 : Int32) (_ : Int32) => (x29, A', B')) ha (by rw [r5]; exact (all_b m l7).1) (fun j hj hc => by rw [r4 j hj]; exact if_pos hc) 128 0 (mU (128 : Int32) ((0 : Int32)) + 1) 0 rfl (by decide)
  have t' : fl_X10_each_35_0 (n3 a) A' B' (fun (x29 : Int32) (_ : Int32) => (x29, A', B')) (mU (128 : Int32) ((0 : Int32)) + 1) 0 0 = (sm3 (fun j => if cb j = true then (if bitI (n3 j) a = true then shV (wtI I3 m j) (B' 78 28) else 0) else 0) (List.range' 0 128) 0, A', B') := t
  rw [eb, b_n2_mk, isTr10, b_n3_mk, decide_eq_true h1, if_neg (show ¬ b3 true = 0 by decide), days10, b_n3_mk, decide_eq_true h3, if_neg (show ¬ b3 true = 0 by decide), r1, b_n2_mk, t', r5] at e2
  have y3 := (Prod.mk.inj e2).1
  rw [← y0, ← y3]
  exact sm3_cb (fun j => if bitI (n3 j) a = true then shV (wtI I3 m j) (allI I3 m) else 0) 0
