/-! ===== the reference's tick: warmths, flows ===== -/
def cpR (X : Nat) (B : Jv) (c : Nat) : Int64 := if c < 3 then 20 else if c = 3 then 40 else B 79 (X + 28 + (c - 4))
theorem fX10_cap {X c : Nat} (hX : X ≤ 240) (hc : c < 12) (I : Iv) (B : Jv) : fn_X10_capOf (n3 X) (n3 c) I B = (cpR X B c, I, B) := by
  unfold fn_X10_capOf cpR
  by_cases q : 3 ≤ c
  · rw [if_pos (show (3 : Int32) ≤ n3 c by rw [show (3 : Int32) = n3 3 from rfl, n3_le (by omega) (by omega)]; exact q), if_neg (show ¬ c < 3 by omega)]
    by_cases q2 : c = 3
    · rw [if_pos (show n3 c = 3 by rw [q2]; rfl), if_pos q2]
    · rw [if_neg (show ¬ n3 c = 3 from fun z => q2 ((n3_inj (b := 3) (by omega) (by omega)).mp z)), if_neg q2, show (28 : Int32) = n3 28 from rfl, n3_add, n3_add, show (4 : Int32) = n3 4 from rfl, n3_sub (by omega), n3_tn (by omega), show X + 28 + c - 4 = X + 28 + (c - 4) by omega]
  · rw [if_neg (show ¬ (3 : Int32) ≤ n3 c by rw [show (3 : Int32) = n3 3 from rfl, n3_le (by omega) (by omega)]; exact q), if_pos (by omega)]
theorem fX10_warm {X c : Nat} (hX : X ≤ 240) (hc : c < 12) (I : Iv) (B : Jv) : fn_X10_warm (n3 X) (n3 c) I B = (B 79 (X + c) / cpR X B c, I, B) := by
  unfold fn_X10_warm
  rw [fX10_cap hX hc, b_n3_mk, n3_add, n3_tn (by omega)]
/-- what the reference's flows read -/
def WIr (X : Nat) (B : Jv) (w : Nat → Int64) (th : Nat → Bool) (sh : Nat → Nat) : Prop :=
  (∀ k, k < 4 → B 79 (X + k) / cpR X B k = w k) ∧ ∀ f, f < 8 → (th f = false ∧ B 79 (X + 12 + f) = 0) ∨ (th f = true ∧ B 79 (X + 12 + f) = 1 ∧ B 79 (X + (4 + f)) / cpR X B (4 + f) = w (4 + f) ∧ B 79 (X + 20 + f) = (n3 (sh f)).toInt64 ∧ sh f < 3)
theorem wir_of {X : Nat} {B B' : Jv} {w : Nat → Int64} {th : Nat → Bool} {sh : Nat → Nat} (h : WIr X B w th sh) (e : ∀ k, k < 52 → B' 79 (X + k) = B 79 (X + k)) : WIr X B' w th sh := by
  have ec : ∀ c, c < 12 → cpR X B' c = cpR X B c := by
    intro c hc; unfold cpR
    rw [show X + 28 + (c - 4) = X + (28 + (c - 4)) by omega, e _ (by omega)]
  refine ⟨fun k hk => by rw [e k (by omega), ec k (by omega)]; exact h.1 k hk, fun f hf => ?_⟩
  rw [show X + 12 + f = X + (12 + f) by omega, show X + 20 + f = X + (20 + f) by omega, e _ (by omega), e _ (by omega), e _ (by omega), ec _ (by omega)]
  have := h.2 f hf
  rw [show X + 12 + f = X + (12 + f) by omega, show X + 20 + f = X + (20 + f) by omega] at this
  exact this
theorem ffZ {I : Iv} : ∀ (f k fu : Nat) (J : Jv), k + f = 12 → f < fu → ∃ J' : Jv, (∀ K : Int32 → Jv → Iv × Jv, fl_X10_findFlows_3_0 I K fu (n3 k) J = K 12 J') ∧ (∀ r, r ≠ 88 → J' r = J r) ∧ ∀ j, J' 88 j = (if k ≤ j ∧ j < 12 then 0 else J 88 j)
  | f, k, 0, _, _, h => absurd h (Nat.not_lt_zero _)
  | 0, k, fu + 1, J, hk, _ => ⟨J, fun K => by
      rw [fl_X10_findFlows_3_0.eq_2, if_pos (by rw [show (12 : Int32) = n3 12 from rfl, n3_le (by omega) (by omega)]; omega), show k = 12 by omega]; rfl, fun _ _ => rfl, fun j => by rw [if_neg (by omega)]⟩
  | f + 1, k, fu + 1, J, hk, hf => by
    obtain ⟨J', e, r1, r2⟩ := ffZ (I := I) f (k + 1) fu (wJ J 88 k 0) (by omega) (by omega)
    refine ⟨J', fun K => ?_, fun r h => by rw [r1 r h, wJ_row h], fun j => ?_⟩
    · rw [fl_X10_findFlows_3_0.eq_2, if_neg (by rw [show (12 : Int32) = n3 12 from rfl, n3_le (by omega) (by omega)]; omega), n3_tn (by omega), l_t, n3_up]
      exact e K
    · rw [r2 j]
      by_cases q : j = k
      · rw [q, if_neg (by omega), if_pos (by omega), wJ_self]
      · rw [wJ_ne (Or.inr q)]
        by_cases q2 : k + 1 ≤ j ∧ j < 12
        · rw [if_pos q2, if_pos (by omega)]
        · rw [if_neg q2, if_neg (by omega)]
theorem ffA {X : Nat} {I : Iv} {room gap : Int64} {w : Nat → Int64} {th : Nat → Bool} {sh : Nat → Nat} (hX : X ≤ 240) : ∀ (f k fu : Nat) (J : Jv), k + f = 3 → f < fu → WIr X J w th sh → ∃ J' : Jv, (∀ K : Int32 → Jv → Iv × Jv, fl_X10_findFlows_27_1 I (n3 X) room gap K fu (n3 k) J = K 3 J') ∧ (∀ r, r ≠ 88 → r ≠ 79 → J' r = J r) ∧ (∀ j, j ≠ X + 55 → J' 79 j = J 79 j) ∧
      J' 79 (X + 55) = cA (fun j => fl6 gap room (w j)) f k (J 79 (X + 55)) ∧ ∀ j, J' 88 j = (if k ≤ j ∧ j < 3 then J 88 j + fl6 gap room (w j) else J 88 j)
  | f, k, 0, _, _, h, _ => absurd h (Nat.not_lt_zero _)
  | 0, k, fu + 1, J, hk, _, _ => ⟨J, fun K => by
      rw [fl_X10_findFlows_27_1.eq_2, if_pos (by rw [show (3 : Int32) = n3 3 from rfl, n3_le (by omega) (by omega)]; omega), show k = 3 by omega]; rfl, fun _ _ _ => rfl, fun _ _ => rfl, rfl, fun j => by rw [if_neg (by omega)]⟩
  | f + 1, k, fu + 1, J, hk, hf, hW => by
    have hW' : WIr X (wJ (wJ J 88 k (J 88 k + fl6 gap room (w k))) 79 (X + 55) (J 79 (X + 55) + fl6 gap room (w k))) w th sh := wir_of hW (fun j hj => by rw [wJ_ne (by omega), wJ_row (by decide)])
    obtain ⟨J', e, r1, r2, r3, r4⟩ := ffA (I := I) (room := room) (gap := gap) hX f (k + 1) fu _ (by omega) (by omega) hW'
    refine ⟨J', fun K => ?_, fun r h1 h2 => by rw [r1 r h1 h2, wJ_row h2, wJ_row h1], fun j hj => by rw [r2 j hj, wJ_ne (Or.inr hj), wJ_row (by decide)], ?_, fun j => ?_⟩
    · rw [fl_X10_findFlows_27_1.eq_2, if_neg (by rw [show (3 : Int32) = n3 3 from rfl, n3_le (by omega) (by omega)]; omega), fX10_warm hX (by omega), b_n3_mk, hW.1 k (by omega), n3_tn (by omega), n3_tn (by omega), n3_up, l_t, l_t, l_t, wJ_row (show (79 : Nat) ≠ 88 by decide)]
      exact e K
    · rw [r3, wJ_self]; rfl
    · rw [r4 j, wJ_row (show (88 : Nat) ≠ 79 by decide)]
      by_cases q : j = k
      · rw [q, if_neg (by omega), if_pos (by omega), wJ_self]
      · rw [wJ_ne (Or.inr q)]
        by_cases q2 : k + 1 ≤ j ∧ j < 3
        · rw [if_pos q2, if_pos (by omega)]
        · rw [if_neg q2, if_neg (by omega)]
/-- two members of a row, moved -/
theorem gM_w {J : Jv} {r a b : Nat} {v : Int64} (h : a ≠ b) : (wJ (wJ J r a (J r a - v)) r b ((wJ J r a (J r a - v)) r b + v)) r = gM (J r) a b v := by
  funext k
  unfold gM
  by_cases q1 : k = b
  · subst q1
    rw [wJ_self, wJ_ne (Or.inr (Ne.symm h)), if_pos rfl]
  · rw [wJ_ne (Or.inr q1), if_neg q1]
    by_cases q2 : k = a
    · subst q2; rw [wJ_self, if_pos rfl]
    · rw [wJ_ne (Or.inr q2), if_neg q2]
theorem ffF {X : Nat} {I : Iv} {w : Nat → Int64} {th : Nat → Bool} {sh : Nat → Nat} (hX : X ≤ 240) : ∀ (n f fu : Nat) (J : Jv), n + f = 8 → n < fu → WIr X J w th sh → ∃ J' : Jv, (∀ K : Int32 → Jv → Iv × Jv, fl_X10_findFlows_225_3 I (n3 X) K fu (n3 f) J = K 8 J') ∧ (∀ r, r ≠ 88 → J' r = J r) ∧ J' 88 = gF (I 81 5).toInt64 w th sh n f (J 88)
  | n, f, 0, _, _, h, _ => absurd h (Nat.not_lt_zero _)
  | 0, f, fu + 1, J, hk, _, _ => ⟨J, fun K => by
      rw [fl_X10_findFlows_225_3.eq_2, if_pos (by rw [show (8 : Int32) = n3 8 from rfl, n3_le (by omega) (by omega)]; omega), show f = 8 by omega]; rfl, fun _ _ => rfl, rfl⟩
  | n + 1, f, fu + 1, J, hk, hf, hW => by
    have n8 : ¬ (8 : Int32) ≤ n3 f := by rw [show (8 : Int32) = n3 8 from rfl, n3_le (by omega) (by omega)]; omega
    rcases hW.2 f (by omega) with ⟨t0, z0⟩ | ⟨t1, z1, w1, s1, s3⟩
    · obtain ⟨J', e, r1, r2⟩ := ffF (I := I) hX n (f + 1) fu J (by omega) (by omega) hW
      refine ⟨J', fun K => ?_, r1, ?_⟩
      · rw [fl_X10_findFlows_225_3.eq_2, if_neg n8, n3_tn (by omega), n3_tn (by omega), z0, if_neg (by decide), n3_up]; exact e K
      · simp only [gF]; rw [if_neg (by rw [t0]; decide)]; exact r2
    · have ws := hW.1 (sh f) (by omega)
      have hW' : WIr X (wJ (wJ J 88 (sh f) (J 88 (sh f) - fl6 (I 81 5).toInt64 (w (sh f)) (w (4 + f)))) 88 (4 + f) ((wJ J 88 (sh f) (J 88 (sh f) - fl6 (I 81 5).toInt64 (w (sh f)) (w (4 + f)))) 88 (4 + f) + fl6 (I 81 5).toInt64 (w (sh f)) (w (4 + f)))) w th sh := wir_of hW (fun j hj => by rw [wJ_row (by decide), wJ_row (by decide)])
      obtain ⟨J', e, r1, r2⟩ := ffF (I := I) hX n (f + 1) fu _ (by omega) (by omega) hW'
      refine ⟨J', fun K => ?_, fun r h => by rw [r1 r h, wJ_row h, wJ_row h], ?_⟩
      · rw [fl_X10_findFlows_225_3.eq_2, if_neg n8, n3_tn (by omega), n3_tn (by omega), if_pos z1, l_t, s1, wsd6, fX10_warm hX (by omega), b_n3_mk, ws, show (4 : Int32) = n3 4 from rfl, n3_add, fX10_warm hX (by omega), b_n3_mk, w1, l_t, n3_tn (by omega), l_t, n3_tn (by omega), l_t, n3_up]
        exact e K
      · simp only [gF]
        rw [if_pos t1, r2, gM_w (by omega)]
theorem flowsR {X : Nat} {I : Iv} {room gap : Int64} {w : Nat → Int64} {th : Nat → Bool} {sh : Nat → Nat} (J : Jv) (hX : X ≤ 240) (hW : WIr X J w th sh) :
    ∃ J' : Jv, fn_X10_findFlows (n3 X) room gap I J = (I, J') ∧ (∀ r, r ≠ 88 → r ≠ 79 → J' r = J r) ∧ (∀ j, j ≠ X + 55 → J' 79 j = J 79 j) ∧ J' 79 (X + 55) = cA (gS room gap w) 3 0 (J 79 (X + 55)) ∧
      ∀ k, k < 12 → J' 88 k = gT room gap (I 81 3).toInt64 (I 81 4).toInt64 (I 81 5).toInt64 (J 79 (X + 53)) w th sh k := by
  obtain ⟨J1, e1, a1, a2⟩ := ffZ (I := I) 12 0 (mU (12 : Int32) ((0 : Int32)) + 1) J rfl (by decide)
  have e1' : ∀ K : Int32 → Jv → Iv × Jv, fl_X10_findFlows_3_0 I K (mU (12 : Int32) ((0 : Int32)) + 1) 0 J = K 12 J1 := e1
  have hW1 : WIr X J1 w th sh := wir_of hW (fun j _ => by rw [a1 79 (by decide)])
  obtain ⟨J2, e2, b1, b2, b4, b5⟩ := ffA (I := I) (room := room) (gap := gap) hX 3 0 (mU (3 : Int32) ((0 : Int32)) + 1) J1 rfl (by decide) hW1
  have e2' : ∀ K : Int32 → Jv → Iv × Jv, fl_X10_findFlows_27_1 I (n3 X) room gap K (mU (3 : Int32) ((0 : Int32)) + 1) 0 J1 = K 3 J2 := e2
  have hW2 : WIr X J2 w th sh := wir_of hW1 (fun j hj => b2 _ (by omega))
  -- between shelves
  have st : ∀ (J : Jv) (a b : Nat) (v : Int64), WIr X J w th sh → WIr X (wJ (wJ J 88 a (J 88 a - v)) 88 b ((wJ J 88 a (J 88 a - v)) 88 b + v)) w th sh := fun J a b v h => wir_of h (fun j _ => by rw [wJ_row (by decide), wJ_row (by decide)])
  have one : ∀ (J : Jv) (a fu : Nat) (K : Int32 → Jv → Iv × Jv), a < 2 → WIr X J w th sh → fl_X10_findFlows_86_2 I (n3 X) K (fu + 1) (n3 a) J = fl_X10_findFlows_86_2 I (n3 X) K fu (n3 (a + 1)) (wJ (wJ J 88 a (J 88 a - fl6 (I 81 3).toInt64 (w a) (w (a + 1)))) 88 (a + 1) ((wJ J 88 a (J 88 a - fl6 (I 81 3).toInt64 (w a) (w (a + 1)))) 88 (a + 1) + fl6 (I 81 3).toInt64 (w a) (w (a + 1)))) := by
    intro J a fu K ha h
    rw [fl_X10_findFlows_86_2.eq_2, if_neg (by rw [show (2 : Int32) = n3 2 from rfl, n3_le (by omega) (by omega)]; omega), fX10_warm hX (by omega), b_n3_mk, h.1 a (by omega), n3_up, fX10_warm hX (by omega), b_n3_mk, h.1 (a + 1) (by omega), l_t, n3_tn (by omega), l_t, n3_tn (by omega), l_t]
    rfl
  obtain ⟨J3, d1, d2, d3, d4⟩ : ∃ J3 : Jv, (∀ K : Int32 → Jv → Iv × Jv, fl_X10_findFlows_86_2 I (n3 X) K (mU (2 : Int32) ((0 : Int32)) + 1) 0 J2 = K 2 J3) ∧ (∀ r, r ≠ 88 → J3 r = J2 r) ∧ J3 88 = gX (I 81 3).toInt64 w (J2 88) ∧ WIr X J3 w th sh := by
    obtain ⟨Ja, ha⟩ : ∃ Ja, Ja = wJ (wJ J2 88 0 (J2 88 0 - fl6 (I 81 3).toInt64 (w 0) (w (0 + 1)))) 88 (0 + 1) ((wJ J2 88 0 (J2 88 0 - fl6 (I 81 3).toInt64 (w 0) (w (0 + 1)))) 88 (0 + 1) + fl6 (I 81 3).toInt64 (w 0) (w (0 + 1))) := ⟨_, rfl⟩
    have hWa : WIr X Ja w th sh := by rw [ha]; exact st _ _ _ _ hW2
    refine ⟨wJ (wJ Ja 88 1 (Ja 88 1 - fl6 (I 81 3).toInt64 (w 1) (w (1 + 1)))) 88 (1 + 1) ((wJ Ja 88 1 (Ja 88 1 - fl6 (I 81 3).toInt64 (w 1) (w (1 + 1)))) 88 (1 + 1) + fl6 (I 81 3).toInt64 (w 1) (w (1 + 1))), fun K => ?_, ?_, ?_, ?_⟩
    · rw [show mU (2 : Int32) ((0 : Int32)) + 1 = 2 + 1 by decide]
      have o1 := one J2 0 2 K (by omega) hW2
      rw [← ha] at o1
      have o2 := one Ja 1 1 K (by omega) hWa
      refine o1.trans (o2.trans ?_)
      rw [fl_X10_findFlows_86_2.eq_2, if_pos (by decide)]
      rfl
    · intro r h; rw [wJ_row h, wJ_row h, ha, wJ_row h, wJ_row h]
    · rw [gM_w (by omega), ha, gM_w (by omega)]; rfl
    · exact st _ _ _ _ hWa
  -- the coil
  have hW4 := st J3 0 3 (fu6 (fl6 (I 81 4).toInt64 (w 0) (w 3)) (J3 79 (X + 53))) d4
  obtain ⟨J5, e5, c1, c2⟩ := ffF (I := I) hX 8 0 (mU (8 : Int32) ((0 : Int32)) + 1) _ rfl (by decide) hW4
  rw [gM_w (by omega)] at c2
  have e5' : ∀ K : Int32 → Jv → Iv × Jv, fl_X10_findFlows_225_3 I (n3 X) K (mU (8 : Int32) ((0 : Int32)) + 1) 0 (wJ (wJ J3 88 0 (J3 88 0 - fu6 (fl6 (I 81 4).toInt64 (w 0) (w 3)) (J3 79 (X + 53)))) 88 3 ((wJ J3 88 0 (J3 88 0 - fu6 (fl6 (I 81 4).toInt64 (w 0) (w 3)) (J3 79 (X + 53)))) 88 3 + fu6 (fl6 (I 81 4).toInt64 (w 0) (w 3)) (J3 79 (X + 53)))) = K 8 J5 := e5
  have f53 : J3 79 (X + 53) = J 79 (X + 53) := by rw [d2 79 (by decide), b2 _ (by omega), a1 79 (by decide)]
  refine ⟨J5, ?_, fun r h1 h2 => ?_, fun j hj => ?_, ?_, fun k hk => ?_⟩
  · unfold fn_X10_findFlows
    rw [e1', e2', d1, show (0 : Int32) = n3 0 from rfl, fX10_warm hX (by omega), b_n3_mk, d4.1 0 (by omega), show (3 : Int32) = n3 3 from rfl, fX10_warm hX (by omega), b_n3_mk, d4.1 3 (by omega), n3_tn (by omega), l_t, l_t, l_t]
    exact e5' _
  · rw [c1 r h1, wJ_row h1, wJ_row h1, d2 r h1, b1 r h1 h2, a1 r h1]
  · rw [c1 79 (by decide), wJ_row (by decide), wJ_row (by decide), d2 79 (by decide), b2 j hj, a1 79 (by decide)]
  · rw [c1 79 (by decide), wJ_row (by decide), wJ_row (by decide), d2 79 (by decide), b4, a1 79 (by decide)]
    refine cA_c 3 0 _ (fun j _ hj => ?_)
    unfold gS; rw [if_pos (show j < 3 by omega)]
  · have hs : ∀ f, f < 8 → th f = true → sh f < 3 := by
      intro f hf8 q
      rcases hW.2 f hf8 with ⟨t0, -⟩ | ⟨-, -, -, -, s3⟩
      · rw [t0] at q; exact absurd q (by decide)
      · exact s3
    have g0 : ∀ j, j < 12 → J2 88 j = gS room gap w j := by
      intro j hj
      rw [b5 j]
      unfold gS
      by_cases q : j < 3
      · rw [if_pos ⟨Nat.zero_le _, q⟩, if_pos q, a2 j, if_pos ⟨Nat.zero_le _, hj⟩]; exact Int64.zero_add _
      · rw [if_neg (fun z => q z.2), if_neg q, a2 j, if_pos ⟨Nat.zero_le _, hj⟩]
    rw [c2, f53, d3]
    exact gT_c hs g0 k hk
