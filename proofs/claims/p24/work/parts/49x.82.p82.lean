/-! ===== the class's tick: warmths, flows ===== -/
def wC (o : Nat) (I : Iv) (J : Jv) (j : Nat) : Int32 := if 1 ≤ I (o + 2) j then (J (o + 1) j / (I (o + 2) j).toInt64).toInt32 else 0
theorem n3_no0 {k : Nat} (h : k ≤ 1000) : ¬ n3 k < 0 := by rw [show (0 : Int32) = n3 0 from rfl, n3_lt h (by omega)]; omega
theorem fX6_warmthOf {o j : Nat} (hj : j < 12) (I : Iv) (J : Jv) : fn_X6_warmthOf o (n3 j) I J = (wC o I J j, I, J) := by
  unfold fn_X6_warmthOf wC
  rw [if_neg (n3_no0 (by omega)), if_neg (by rw [show (12 : Int32) = n3 12 from rfl, n3_le (by omega) (by omega)]; omega), n3_tn (by omega)]
  by_cases q : (1 : Int32) ≤ I (o + 2) j
  · rw [if_pos q, if_pos q]
  · rw [if_neg q, if_neg q]
theorem lookC {J : Jv} {o : Nat} (ho : 15 < o) : ∀ (f k fu : Nat) (I : Iv), k + f = 12 → f < fu → ∃ I' : Iv, (∀ K : Int32 → Iv → Iv × Jv, fl_X7_lookAtWarmths_2_0 J o K fu (n3 k) I = K 12 I') ∧ (∀ b, b ≠ 14 → I' b = I b) ∧ ∀ j, I' 14 j = (if k ≤ j ∧ j < 12 then wC o I J j else I 14 j)
  | f, k, 0, _, _, h => absurd h (Nat.not_lt_zero _)
  | 0, k, fu + 1, I, hk, _ => ⟨I, fun K => by
      rw [fl_X7_lookAtWarmths_2_0.eq_2, if_pos (by rw [show (12 : Int32) = n3 12 from rfl, n3_le (by omega) (by omega)]; omega), show k = 12 by omega]; rfl, fun _ _ => rfl, fun j => by rw [if_neg (by omega)]⟩
  | f + 1, k, fu + 1, I, hk, hf => by
    obtain ⟨I', e, r1, r2⟩ := lookC (J := J) ho f (k + 1) fu (wI I 14 k (wC o I J k)) (by omega) (by omega)
    refine ⟨I', fun K => ?_, fun b hb => by rw [r1 b hb, wI_row hb], fun j => ?_⟩
    · rw [fl_X7_lookAtWarmths_2_0.eq_2, if_neg (by rw [show (12 : Int32) = n3 12 from rfl, n3_le (by omega) (by omega)]; omega), fX6_warmthOf (by omega), b_n3_mk, n3_tn (by omega), l_t, n3_up]
      exact e K
    · rw [r2 j]
      have ew : wC o (wI I 14 k (wC o I J k)) J j = wC o I J j := by
        unfold wC; rw [wI_row (show o + 2 ≠ 14 by omega)]
      rw [ew]
      by_cases q : j = k
      · rw [q, if_neg (by omega), if_pos (by omega), wI_self]
      · rw [wI_ne (Or.inr q)]
        by_cases q2 : k + 1 ≤ j ∧ j < 12
        · rw [if_pos q2, if_pos (by omega)]
        · rw [if_neg q2, if_neg (by omega)]
theorem fX7_look {o : Nat} (ho : 15 < o) (I : Iv) (J : Jv) : ∃ I' : Iv, fn_X7_lookAtWarmths o I J = (I', J) ∧ (∀ b, b ≠ 14 → I' b = I b) ∧ ∀ j, j < 12 → I' 14 j = wC o I J j := by
  obtain ⟨I', e, r1, r2⟩ := lookC (J := J) ho 12 0 (mU (12 : Int32) ((0 : Int32)) + 1) I rfl (by decide)
  have e' : ∀ K : Int32 → Iv → Iv × Jv, fl_X7_lookAtWarmths_2_0 J o K (mU (12 : Int32) ((0 : Int32)) + 1) 0 I = K 12 I' := e
  refine ⟨I', ?_, r1, fun j hj => by rw [r2 j, if_pos ⟨Nat.zero_le _, hj⟩]⟩
  unfold fn_X7_lookAtWarmths
  rw [e']
/-- one flow of the class -/
theorem flowC {ease fur : Int32} {a b : Nat} {I : Iv} {J : Jv} {M : Int} (ha : a < 12) (hb : b < 12) (he : 0 ≤ ease.toInt ∧ ease.toInt ≤ 99) (hf : 0 ≤ fur.toInt ∧ fur.toInt ≤ 9999) (hM : M ≤ 100000000) (wa : WB M (I 14 a).toInt64) (wb : WB M (I 14 b).toInt64) (hne : a ≠ b) :
    ∃ J' : Jv, fn_X7_flow ease (n3 a) (n3 b) fur I J = (I, J') ∧ (∀ r, r ≠ 15 → J' r = J r) ∧ J' 15 = gM (J 15) a b (fu6 (fl6 ease.toInt64 (I 14 a).toInt64 (I 14 b).toInt64) fur.toInt64) := by
  unfold fn_X7_flow
  have h0 : (0 : Int32) ≤ fur := by rw [Int32.le_iff_toInt_le, show (0 : Int32).toInt = 0 by decide]; exact hf.1
  rw [if_neg (n3_no0 (by omega)), if_neg (by rw [show (12 : Int32) = n3 12 from rfl, n3_le (by omega) (by omega)]; omega), if_neg (n3_no0 (by omega)), if_neg (by rw [show (12 : Int32) = n3 12 from rfl, n3_le (by omega) (by omega)]; omega), if_pos h0, n3_tn (by omega), n3_tn (by omega)]
  simp only [l_t]
  unfold WB at wa wb
  rw [wd6] at wa wb
  have e1 : (I 14 a - I 14 b).toInt64 = (I 14 a).toInt64 - (I 14 b).toInt64 := wd6_sub (by omega) (by omega)
  have e2 : ((1000 : Int32) + fur).toInt64 = 1000 + fur.toInt64 := by
    rw [wd6_add (by rw [show (1000 : Int32).toInt = 1000 by decide]; omega) (by rw [show (1000 : Int32).toInt = 1000 by decide]; omega)]
    rfl
  rw [e1, e2]
  refine ⟨_, rfl, fun r hr => by rw [wJ_row hr, wJ_row hr], ?_⟩
  funext k
  unfold gM fu6 fl6
  by_cases q1 : k = b
  · subst q1
    rw [wJ_self, wJ_ne (Or.inr (Ne.symm hne)), if_pos rfl]
  · rw [wJ_ne (Or.inr q1), if_neg q1]
    by_cases q2 : k = a
    · subst q2; rw [wJ_self, if_pos rfl]
    · rw [wJ_ne (Or.inr q2), if_neg q2]
/-- sums of a row's members -/
def cA (v : Nat → Int64) : Nat → Nat → Int64 → Int64
  | 0, _, c => c
  | f + 1, k, c => cA v f (k + 1) (c + v k)
theorem exAa {room leak : Int32} {o : Nat} {I : Iv} (ho : 15 < o) : ∀ (f k fu : Nat) (J : Jv), k + f = 3 → f < fu → ∃ J' : Jv, (∀ K : Int32 → Jv → Iv × Jv, fl_X7_exchange_11_0 room leak o I K fu (n3 k) J = K 3 J') ∧ (∀ r, r ≠ 15 → r ≠ o + 7 → J' r = J r) ∧
      (∀ j, J' 15 j = (if k ≤ j ∧ j < 3 then J 15 j + leak.toInt64 * (room - I 14 j).toInt64 / 100 else J 15 j)) ∧ (∀ j, j ≠ 1 → J' (o + 7) j = J (o + 7) j) ∧ J' (o + 7) 1 = cA (fun j => leak.toInt64 * (room - I 14 j).toInt64 / 100) f k (J (o + 7) 1)
  | f, k, 0, _, _, h => absurd h (Nat.not_lt_zero _)
  | 0, k, fu + 1, J, hk, _ => ⟨J, fun K => by
      rw [fl_X7_exchange_11_0.eq_2, if_pos (by rw [show (3 : Int32) = n3 3 from rfl, n3_le (by omega) (by omega)]; omega), show k = 3 by omega]; rfl, fun _ _ _ => rfl, fun j => by rw [if_neg (by omega)], fun _ _ => rfl, rfl⟩
  | f + 1, k, fu + 1, J, hk, hf => by
    obtain ⟨J', e, r1, r2, r3, r4⟩ := exAa (room := room) (leak := leak) (I := I) ho f (k + 1) fu (wJ (wJ J 15 k (J 15 k + leak.toInt64 * (room - I 14 k).toInt64 / 100)) (o + 7) 1 (J (o + 7) 1 + leak.toInt64 * (room - I 14 k).toInt64 / 100)) (by omega) (by omega)
    refine ⟨J', fun K => ?_, fun r h1 h2 => by rw [r1 r h1 h2, wJ_row h2, wJ_row h1], fun j => ?_, fun j hj => ?_, ?_⟩
    · rw [fl_X7_exchange_11_0.eq_2, if_neg (by rw [show (3 : Int32) = n3 3 from rfl, n3_le (by omega) (by omega)]; omega), n3_tn (by omega), l_t, l_t, l_t, n3_up, wJ_row (show o + 7 ≠ 15 by omega)]
      exact e K
    · rw [r2 j, wJ_row (show 15 ≠ o + 7 by omega)]
      by_cases q : j = k
      · rw [q, if_neg (by omega), if_pos (by omega), wJ_self]
      · rw [wJ_ne (Or.inr q)]
        by_cases q2 : k + 1 ≤ j ∧ j < 3
        · rw [if_pos q2, if_pos (by omega)]
        · rw [if_neg q2, if_neg (by omega)]
    · rw [r3 j hj, wJ_ne (Or.inr hj), wJ_row (by omega)]
    · rw [r4, wJ_self]; rfl
/-- what the flows read: the class's warmths as they are told by w, th, sh -/
def WIc (o : Nat) (I : Iv) (M : Int) (w : Nat → Int64) (th : Nat → Bool) (sh : Nat → Nat) : Prop :=
  (∀ k, k < 4 → (I 14 k).toInt64 = w k ∧ WB M (w k)) ∧ ∀ f, f < 8 → (th f = false ∧ I (o + 3) f = 0) ∨ (th f = true ∧ ¬ I (o + 3) f = 0 ∧ (I 14 (4 + f)).toInt64 = w (4 + f) ∧ WB M (w (4 + f)) ∧ I (o + 4) f = n3 (sh f) ∧ sh f < 3)
theorem exF {o : Nat} {I : Iv} {M : Int} {w : Nat → Int64} {th : Nat → Bool} {sh : Nat → Nat} (hM : M ≤ 100000000) (hW : WIc o I M w th sh) (he : 0 ≤ (I 8 5).toInt ∧ (I 8 5).toInt ≤ 99) : ∀ (n f fu : Nat) (J : Jv), n + f = 8 → n < fu → ∃ J' : Jv, (∀ K : Int32 → Iv → Jv → Iv × Jv, fl_X7_exchange_124_2 o K fu (n3 f) I J = K 8 I J') ∧ (∀ r, r ≠ 15 → J' r = J r) ∧ J' 15 = gF (I 8 5).toInt64 w th sh n f (J 15)
  | n, f, 0, _, _, h => absurd h (Nat.not_lt_zero _)
  | 0, f, fu + 1, J, hk, _ => ⟨J, fun K => by
      rw [fl_X7_exchange_124_2.eq_2, if_pos (by rw [show (8 : Int32) = n3 8 from rfl, n3_le (by omega) (by omega)]; omega), show f = 8 by omega]; rfl, fun _ _ => rfl, rfl⟩
  | n + 1, f, fu + 1, J, hk, hf => by
    have n8 : ¬ (8 : Int32) ≤ n3 f := by rw [show (8 : Int32) = n3 8 from rfl, n3_le (by omega) (by omega)]; omega
    rcases hW.2 f (by omega) with ⟨t0, z0⟩ | ⟨t1, z1, w1, b1, s1, s3⟩
    · obtain ⟨J', e, r1, r2⟩ := exF hM hW he n (f + 1) fu J (by omega) (by omega)
      refine ⟨J', fun K => ?_, r1, ?_⟩
      · rw [fl_X7_exchange_124_2.eq_2, if_neg n8, n3_tn (by omega), if_pos z0, n3_up]; exact e K
      · simp only [gF]; rw [if_neg (by rw [t0]; decide)]; exact r2
    · obtain ⟨ws, bs⟩ := hW.1 (sh f) (by omega)
      obtain ⟨J1, e1, q1, q2⟩ := flowC (ease := I 8 5) (fur := 0) (a := sh f) (b := 4 + f) (I := I) (J := J) (M := M) (by omega) (by omega) he (by decide) hM (by rw [ws]; exact bs) (by rw [w1]; exact b1) (by omega)
      obtain ⟨J', e, r1, r2⟩ := exF hM hW he n (f + 1) fu J1 (by omega) (by omega)
      refine ⟨J', fun K => ?_, fun r hr => by rw [r1 r hr, q1 r hr], ?_⟩
      · rw [fl_X7_exchange_124_2.eq_2, if_neg n8, n3_tn (by omega), if_neg z1, s1, show (4 : Int32) = n3 4 from rfl, n3_add, e1, b_n2_mk, n3_up]; exact e K
      · simp only [gF]
        rw [if_pos t1, r2, q2, ws, w1]
        have z : fu6 (fl6 (I 8 5).toInt64 (w (sh f)) (w (4 + f))) (0 : Int32).toInt64 = fl6 (I 8 5).toInt64 (w (sh f)) (w (4 + f)) := fu6_0 (fl6_r (by rw [wd6]; omega) hM bs b1)
        rw [z]
theorem exH {o : Nat} {I : Iv} (ho : 15 < o) : ∀ (f k fu : Nat) (J : Jv), k + f = 12 → f < fu → ∃ J' : Jv, (∀ K : Int32 → Jv → Iv × Jv, fl_X7_exchange_175_3 o I K fu (n3 k) J = K 12 J') ∧ (∀ r, r ≠ o + 1 → J' r = J r) ∧ ∀ j, J' (o + 1) j = (if k ≤ j ∧ j < 12 then J (o + 1) j + J 15 j else J (o + 1) j)
  | f, k, 0, _, _, h => absurd h (Nat.not_lt_zero _)
  | 0, k, fu + 1, J, hk, _ => ⟨J, fun K => by
      rw [fl_X7_exchange_175_3.eq_2, if_pos (by rw [show (12 : Int32) = n3 12 from rfl, n3_le (by omega) (by omega)]; omega), show k = 12 by omega]; rfl, fun _ _ => rfl, fun j => by rw [if_neg (by omega)]⟩
  | f + 1, k, fu + 1, J, hk, hf => by
    obtain ⟨J', e, r1, r2⟩ := exH (I := I) ho f (k + 1) fu (wJ J (o + 1) k (J (o + 1) k + J 15 k)) (by omega) (by omega)
    refine ⟨J', fun K => ?_, fun r h1 => by rw [r1 r h1, wJ_row h1], fun j => ?_⟩
    · rw [fl_X7_exchange_175_3.eq_2, if_neg (by rw [show (12 : Int32) = n3 12 from rfl, n3_le (by omega) (by omega)]; omega), n3_tn (by omega), l_t, n3_up]
      exact e K
    · rw [r2 j, wJ_row (show 15 ≠ o + 1 by omega)]
      by_cases q : j = k
      · rw [q, if_neg (by omega), if_pos (by omega), wJ_self]
      · rw [wJ_ne (Or.inr q)]
        by_cases q2 : k + 1 ≤ j ∧ j < 12
        · rw [if_pos q2, if_pos (by omega)]
        · rw [if_neg q2, if_neg (by omega)]
theorem cA_c {v v' : Nat → Int64} : ∀ (f k : Nat) (c : Int64), (∀ j, k ≤ j → j < k + f → v j = v' j) → cA v f k c = cA v' f k c
  | 0, _, _, _ => rfl
  | f + 1, k, c, h => by
    simp only [cA]
    rw [h k (Nat.le_refl _) (by omega)]
    exact cA_c f (k + 1) _ (fun j h1 h2 => h j (by omega) (by omega))
theorem gM_c {g g' : Nat → Int64} {a b : Nat} {v : Int64} (ha : a < 12) (hb : b < 12) (h : ∀ k, k < 12 → g k = g' k) : ∀ k, k < 12 → gM g a b v k = gM g' a b v k := by
  intro k hk
  unfold gM
  rw [h a ha, h b hb, h k hk]
theorem gF_c {fd : Int64} {w : Nat → Int64} {th : Nat → Bool} {sh : Nat → Nat} (hs : ∀ f, f < 8 → th f = true → sh f < 3) : ∀ (n f : Nat) (g g' : Nat → Int64), n + f = 8 → (∀ k, k < 12 → g k = g' k) → ∀ k, k < 12 → gF fd w th sh n f g k = gF fd w th sh n f g' k
  | 0, _, _, _, _, h => h
  | n + 1, f, g, g', hn, h => by
    simp only [gF]
    by_cases q : th f = true
    · rw [if_pos q, if_pos q]
      have := hs f (by omega) q
      exact gF_c hs n (f + 1) _ _ (by omega) (gM_c (by omega) (by omega) h)
    · rw [if_neg q, if_neg q]
      exact gF_c hs n (f + 1) _ _ (by omega) h
theorem gT_c {room gap mx cd fd fur : Int64} {w : Nat → Int64} {th : Nat → Bool} {sh : Nat → Nat} {g : Nat → Int64} (hs : ∀ f, f < 8 → th f = true → sh f < 3) (h : ∀ k, k < 12 → g k = gS room gap w k) : ∀ k, k < 12 → gF fd w th sh 8 0 (gC cd fur w (gX mx w g)) k = gT room gap mx cd fd fur w th sh k := by
  unfold gT gC gX
  exact gF_c hs 8 0 _ _ rfl (gM_c (by omega) (by omega) (gM_c (by omega) (by omega) (gM_c (by omega) (by omega) h)))
theorem exchangeC {o : Nat} {room leak : Int32} {I : Iv} {M : Int} {w : Nat → Int64} {th : Nat → Bool} {sh : Nat → Nat} (J : Jv) (ho : 15 < o) (hM : M ≤ 100000000) (hW : WIc o I M w th sh) (hr : -10000 ≤ room.toInt ∧ room.toInt ≤ 10000)
    (h3 : 0 ≤ (I 8 3).toInt ∧ (I 8 3).toInt ≤ 99) (h4 : 0 ≤ (I 8 4).toInt ∧ (I 8 4).toInt ≤ 99) (h5 : 0 ≤ (I 8 5).toInt ∧ (I 8 5).toInt ≤ 99) (hf : 0 ≤ (I (o + 8) 5).toInt ∧ (I (o + 8) 5).toInt ≤ 9999) :
    ∃ J' : Jv, fn_X7_exchange o room leak I J = (I, J') ∧ (∀ r, r ≠ 15 → r ≠ o + 1 → r ≠ o + 7 → J' r = J r) ∧ (∀ k, k < 12 → J' (o + 1) k = J (o + 1) k + gT room.toInt64 leak.toInt64 (I 8 3).toInt64 (I 8 4).toInt64 (I 8 5).toInt64 (I (o + 8) 5).toInt64 w th sh k) ∧
      (∀ j, j ≠ 1 → J' (o + 7) j = J (o + 7) j) ∧ J' (o + 7) 1 = cA (gS room.toInt64 leak.toInt64 w) 3 0 (J (o + 7) 1) := by
  obtain ⟨J1, e1, a1, a2, a3, a4⟩ := exAa (room := room) (leak := leak) (I := I) ho 3 0 (mU (3 : Int32) ((0 : Int32)) + 1) (cJ J 15 12 (fun _ => (0 : Int64))) rfl (by decide)
  have e1' : ∀ K : Int32 → Jv → Iv × Jv, fl_X7_exchange_11_0 room leak o I K (mU (3 : Int32) ((0 : Int32)) + 1) 0 (cJ J 15 12 (fun _ => (0 : Int64))) = K 3 J1 := e1
  obtain ⟨w0, b0⟩ := hW.1 0 (by omega)
  obtain ⟨w1, b1⟩ := hW.1 1 (by omega)
  obtain ⟨w2, b2⟩ := hW.1 2 (by omega)
  obtain ⟨w3, b3⟩ := hW.1 3 (by omega)
  obtain ⟨J2, e2, p1, p2⟩ := flowC (ease := I 8 3) (fur := 0) (a := 0) (b := 1) (I := I) (J := J1) (M := M) (by omega) (by omega) h3 (by decide) hM (by rw [w0]; exact b0) (by rw [w1]; exact b1) (by omega)
  obtain ⟨J3, e3, p3, p4⟩ := flowC (ease := I 8 3) (fur := 0) (a := 1) (b := 2) (I := I) (J := J2) (M := M) (by omega) (by omega) h3 (by decide) hM (by rw [w1]; exact b1) (by rw [w2]; exact b2) (by omega)
  obtain ⟨J4, e4, p5, p6⟩ := flowC (ease := I 8 4) (fur := I (o + 8) 5) (a := 0) (b := 3) (I := I) (J := J3) (M := M) (by omega) (by omega) h4 hf hM (by rw [w0]; exact b0) (by rw [w3]; exact b3) (by omega)
  obtain ⟨J5, e5, p7, p8⟩ := exF hM hW h5 8 0 (mU (8 : Int32) ((0 : Int32)) + 1) J4 rfl (by decide)
  have e5' : ∀ K : Int32 → Iv → Jv → Iv × Jv, fl_X7_exchange_124_2 o K (mU (8 : Int32) ((0 : Int32)) + 1) 0 I J4 = K 8 I J5 := e5
  obtain ⟨J6, e6, p9, p10⟩ := exH (I := I) ho 12 0 (mU (12 : Int32) ((0 : Int32)) + 1) J5 rfl (by decide)
  have e6' : ∀ K : Int32 → Jv → Iv × Jv, fl_X7_exchange_175_3 o I K (mU (12 : Int32) ((0 : Int32)) + 1) 0 J5 = K 12 J6 := e6
  have e2' : fn_X7_flow (I 8 3) 0 (0 + 1) 0 I J1 = (I, J2) := e2
  have e3' : fn_X7_flow (I 8 3) (0 + 1) (0 + 1 + 1) 0 I J2 = (I, J3) := e3
  have e4' : fn_X7_flow (I 8 4) 0 3 (I (o + 8) 5) I J3 = (I, J4) := e4
  have loop : ∀ K : Int32 → Iv → Jv → Iv × Jv, fl_X7_exchange_68_1 K (mU (2 : Int32) ((0 : Int32)) + 1) 0 I J1 = K (0 + 1 + 1) I J3 := by
    intro K
    rw [show mU (2 : Int32) ((0 : Int32)) + 1 = 3 by decide, fl_X7_exchange_68_1.eq_2, if_neg (by decide), e2', b_n2_mk, fl_X7_exchange_68_1.eq_2, if_neg (by decide), e3', b_n2_mk, fl_X7_exchange_68_1.eq_2, if_pos (by decide)]
  refine ⟨J6, ?_, fun r r1 r2 r3 => ?_, fun k hk => ?_, fun j hj => ?_, ?_⟩
  · unfold fn_X7_exchange
    rw [l_t, l_t, e1', loop, e4', b_n2_mk, e5', e6']
  · rw [p9 r r2, p7 r r1, p5 r r1, p3 r r1, p1 r r1, a1 r r1 r3, cJ_row r1]
  · have hin : ∀ j, j < 3 → leak.toInt64 * (room - I 14 j).toInt64 / 100 = fl6 leak.toInt64 room.toInt64 (w j) := by
      intro j hj
      obtain ⟨wj, bj⟩ := hW.1 j (by omega)
      unfold WB at bj
      rw [← wj, wd6] at bj
      unfold fl6
      rw [wd6_sub (by omega) (by omega), wj]
    have g0 : ∀ j, j < 12 → J1 15 j = gS room.toInt64 leak.toInt64 w j := by
      intro j hj
      rw [a2 j]
      by_cases q : j < 3
      · rw [if_pos ⟨Nat.zero_le _, q⟩, hin j q]
        unfold gS; rw [if_pos q]
        simp only [cJ, hj, and_self, if_true]
        exact Int64.zero_add _
      · rw [if_neg (fun z => q z.2)]
        unfold gS; rw [if_neg q]
        simp only [cJ, hj, and_self, if_true]
    have z01 : fu6 (fl6 (I 8 3).toInt64 (w 0) (w 1)) (0 : Int32).toInt64 = fl6 (I 8 3).toInt64 (w 0) (w 1) := fu6_0 (fl6_r (by rw [wd6]; omega) hM b0 b1)
    have z12 : fu6 (fl6 (I 8 3).toInt64 (w 1) (w 2)) (0 : Int32).toInt64 = fl6 (I 8 3).toInt64 (w 1) (w 2) := fu6_0 (fl6_r (by rw [wd6]; omega) hM b1 b2)
    rw [w0, w1, z01] at p2
    rw [w1, w2, z12] at p4
    rw [w0, w3] at p6
    have hs : ∀ f, f < 8 → th f = true → sh f < 3 := by
      intro f hf8 q
      rcases hW.2 f hf8 with ⟨t0, -⟩ | ⟨-, -, -, -, -, s3⟩
      · rw [t0] at q; exact absurd q (by decide)
      · exact s3
    have e15 : J5 15 = gF (I 8 5).toInt64 w th sh 8 0 (gC (I 8 4).toInt64 (I (o + 8) 5).toInt64 w (gX (I 8 3).toInt64 w (J1 15))) := by
      rw [p8, p6, p4, p2]; rfl
    rw [p10 k, if_pos ⟨Nat.zero_le _, hk⟩, e15, gT_c hs g0 k hk, p7 _ (by omega), p5 _ (by omega), p3 _ (by omega), p1 _ (by omega), a1 _ (by omega) (by omega), cJ_row (by omega)]
  · rw [p9 _ (by omega), p7 _ (by omega), p5 _ (by omega), p3 _ (by omega), p1 _ (by omega), a3 j hj, cJ_row (by omega)]
  · rw [p9 _ (by omega), p7 _ (by omega), p5 _ (by omega), p3 _ (by omega), p1 _ (by omega), a4, cJ_row (by omega)]
    refine cA_c 3 0 _ (fun j _ hj => ?_)
    obtain ⟨wj, bj⟩ := hW.1 j (by omega)
    unfold WB at bj
    rw [← wj, wd6] at bj
    unfold gS fl6
    rw [if_pos (show j < 3 by omega), wd6_sub (by omega) (by omega), wj]
