/-! ===== the reference's tick, whole ===== -/
theorem b3_1 {b : Bool} : (b3 b).toInt64 = 1 ↔ b = true := by cases b <;> decide
theorem ite_b1 {b : Bool} {α : Type} {x y : α} : (if (b3 b).toInt64 = 1 then x else y) = (if b = true then x else y) := by
  cases b with
  | false => rfl
  | true => rfl
theorem ite_bb {b : Bool} : (if b = true then (1 : Int32) else 0) = b3 b := by cases b <;> rfl
theorem fX10_one (b : Bool) (I : Iv) (J : Jv) : fn_X10_one (b3 b) I J = (b3 b, I, J) := by
  unfold fn_X10_one
  cases b with
  | false => rfl
  | true => rfl
def rdR (cov : Bool) (rd w : Int64) : Int64 := if cov = true then rd + (w - rd) / 8 else w
def onR (cur stuck was : Bool) (rd von voff : Int64) : Bool := cur && (stuck || decide (von ≤ rd) || (!decide (rd ≤ voff) && was))
theorem j_ite6 {β : Type} {c : Prop} [Decidable c] {a b : Int64} (Kf : Int64 → β) : j_n Kf (fun (j : Int64 → β) => if c then j a else j b) = Kf (if c then a else b) := by
  dsimp only [j_n]
  by_cases q : c
  · rw [if_pos q, if_pos q]
  · rw [if_neg q, if_neg q]
/-- 'on', 'off', whether it runs, whether it starts: the joins' shapes -/
theorem j_on {β : Type} {c : Prop} [Decidable c] {w13 : Int32} {b : Bool} {Ih : Iv} {Jh : Jv} (Kf : Int32 → β) : j_n Kf (fun (j : Int32 → β) => j_n (j 0) (fun (j2 : β) => if w13 = 0 then j2 else b_n3 (b3 b, Ih, Jh) (fun (r50 : Int32) (_ : Iv) (_ : Jv) => j_n (j 1) (fun (j3 : β) => if r50 = 0 then if c then j2 else j3 else j3)))) = Kf (b3 (!decide (w13 = 0) && (b || !decide c))) := by
  simp only [j_n, b_n3]
  by_cases q1 : w13 = 0
  · rw [if_pos q1, decide_eq_true q1]; rfl
  · rw [if_neg q1, decide_eq_false q1]
    cases b with
    | true => rw [if_neg (by decide)]; rfl
    | false =>
      rw [if_pos (show b3 false = 0 from rfl)]
      by_cases q : c
      · rw [if_pos q, decide_eq_true q]; rfl
      · rw [if_neg q, decide_eq_false q]; rfl
theorem j_off {β : Type} {c : Prop} [Decidable c] {w13 : Int32} (Kf : Int32 → β) : j_n Kf (fun (j : Int32 → β) => j_n (j 1) (fun (j2 : β) => if w13 = 0 then j2 else if c then j 0 else j2)) = Kf (b3 (decide (w13 = 0) || !decide c)) := by
  simp only [j_n]
  by_cases q1 : w13 = 0
  · rw [if_pos q1, decide_eq_true q1]; rfl
  · rw [if_neg q1, decide_eq_false q1]
    by_cases q : c
    · rw [if_pos q, decide_eq_true q]; rfl
    · rw [if_neg q, decide_eq_false q]; rfl
theorem j_run {β : Type} {on off was : Bool} (Kf : Int32 → β) : j_n Kf (fun (j : Int32 → β) => j_n (j 1) (fun (j2 : β) => if b3 on = 0 then j_n (j 0) (fun (j3 : β) => if b3 off = 0 then if b3 was = 0 then j3 else j2 else j3) else j2)) = Kf (b3 (on || (!off && was))) := by
  simp only [j_n]
  cases on <;> cases off <;> cases was <;> rfl
theorem j_st {β : Type} {run was : Bool} (Kf : Int32 → β) : j_n Kf (fun (j : Int32 → β) => j_n (j 0) (fun (j2 : β) => if b3 run = 0 then j2 else if b3 was = 0 then j 1 else j2)) = Kf (b3 (run && !was)) := by
  simp only [j_n]
  cases run <;> cases was <;> rfl
theorem has_w {s : Int32} {j : Nat} (hj : j < 32) (I : Iv) (J : Jv) : fn_X10_has s.toInt64 (n3 j) I J = (b3 (bitI s j), I, J) := by rw [fX10_has _ (by omega), wide_bit _ hj]
theorem bulbR {X u : Nat} {less s : Int32} {cov was cur : Bool} {I : Iv} (J : Jv) (hX : X ≤ 240) (hu : u < 3) (hs : J 79 (X + 52) = s.toInt64) (hcov : J 79 (X + 68) = (b3 cov).toInt64) (hwas : J 79 (X + 66) = (b3 was).toInt64) (hcur : J 79 (X + 69) = (b3 cur).toInt64) :
    ∃ J' : Jv, fn_X10_readBulb (n3 X) (n3 u) less I J = (I, J') ∧ (∀ r, r ≠ 79 → J' r = J r) ∧ (∀ k, k ≠ X + 64 → k ≠ X + 65 → k ≠ X + 66 → k ≠ X + 67 → J' 79 k = J 79 k) ∧ J' 79 (X + 67) = rdR cov (J 79 (X + 67)) (J 79 (X + u) / cpR X J u) ∧
      J' 79 (X + 66) = (b3 (onR cur (bitI s 4) was (rdR cov (J 79 (X + 67)) (J 79 (X + u) / cpR X J u)) (10 * (I 81 6 - less).toInt64) (10 * (I 81 7 - less).toInt64))).toInt64 ∧
      J' 79 (X + 64) = J 79 (X + 64) + (b3 (onR cur (bitI s 4) was (rdR cov (J 79 (X + 67)) (J 79 (X + u) / cpR X J u)) (10 * (I 81 6 - less).toInt64) (10 * (I 81 7 - less).toInt64) && !was)).toInt64 ∧
      J' 79 (X + 65) = J 79 (X + 65) + (b3 (onR cur (bitI s 4) was (rdR cov (J 79 (X + 67)) (J 79 (X + u) / cpR X J u)) (10 * (I 81 6 - less).toInt64) (10 * (I 81 7 - less).toInt64))).toInt64 := by
  unfold fn_X10_readBulb
  rw [fX10_warm hX (by omega), b_n3_mk]
  generalize J 79 (X + u) / cpR X J u = wu
  rw [n3_tn (show X ≤ 1000 by omega), l_t, j_ite6, hcov, ite_b1]
  rw [show (if cov = true then J 79 (X + 67) + (wu - J 79 (X + 67)) / 8 else wu) = rdR cov (J 79 (X + 67)) wu from rfl]
  generalize rdR cov (J 79 (X + 67)) wu = rd
  rw [l_t]
  have a66 : wJ J 79 (X + 67) rd 79 (X + 66) = (b3 was).toInt64 := by rw [wJ_ne (by omega)]; exact hwas
  have a69 : wJ J 79 (X + 67) rd 79 (X + 69) = (b3 cur).toInt64 := by rw [wJ_ne (by omega)]; exact hcur
  have a52 : wJ J 79 (X + 67) rd 79 (X + 52) = s.toInt64 := by rw [wJ_ne (by omega)]; exact hs
  have a67 : wJ J 79 (X + 67) rd 79 (X + 67) = rd := wJ_self
  have ak : ∀ k, k ≠ X + 67 → wJ J 79 (X + 67) rd 79 k = J 79 k := fun k h => wJ_ne (Or.inr h)
  have ar : ∀ r, r ≠ 79 → wJ J 79 (X + 67) rd r = J r := fun r h => wJ_row h
  generalize wJ J 79 (X + 67) rd = J1 at *
  rw [j_ite, a66, ite_b1, ite_bb, j_ite, a69, ite_b1, ite_bb, a52, show (4 : Int32) = n3 4 from rfl, has_w (by omega), j_on, j_off]
  have e0 : decide (b3 cur = 0) = !cur := by cases cur <;> rfl
  rw [e0, Bool.not_not]
  have eo : (!decide (rd < 10 * (I 81 6 - less).toInt64)) = decide (10 * (I 81 6 - less).toInt64 ≤ rd) := by
    by_cases q : rd < 10 * (I 81 6 - less).toInt64
    · rw [decide_eq_true q, decide_eq_false (Int64.not_le.mpr q)]; rfl
    · rw [decide_eq_false q, decide_eq_true (Int64.not_lt.mp q)]; rfl
  have ef : (!decide (10 * (I 81 7 - less).toInt64 < rd)) = decide (rd ≤ 10 * (I 81 7 - less).toInt64) := by
    by_cases q : 10 * (I 81 7 - less).toInt64 < rd
    · rw [decide_eq_true q, decide_eq_false (Int64.not_le.mpr q)]; rfl
    · rw [decide_eq_false q, decide_eq_true (Int64.not_lt.mp q)]; rfl
  rw [eo, ef, j_run]
  have er : (cur && (bitI s 4 || decide (10 * (I 81 6 - less).toInt64 ≤ rd)) || !(!cur || decide (rd ≤ 10 * (I 81 7 - less).toInt64)) && was) = onR cur (bitI s 4) was rd (10 * (I 81 6 - less).toInt64) (10 * (I 81 7 - less).toInt64) := by
    unfold onR
    cases cur <;> cases bitI s 4 <;> cases decide (10 * (I 81 6 - less).toInt64 ≤ rd) <;> cases decide (rd ≤ 10 * (I 81 7 - less).toInt64) <;> cases was <;> rfl
  rw [er]
  generalize onR cur (bitI s 4) was rd (10 * (I 81 6 - less).toInt64) (10 * (I 81 7 - less).toInt64) = run
  rw [fX10_one, b_n3_mk, l_t, j_st, fX10_one, b_n3_mk, l_t, fX10_one, b_n3_mk, l_t]
  refine ⟨_, rfl, fun r h => by rw [wJ_row h, wJ_row h, wJ_row h]; exact ar r h, fun k h4 h5 h6 h7 => by rw [wJ_ne (Or.inr h5), wJ_ne (Or.inr h4), wJ_ne (Or.inr h6)]; exact ak k h7, ?_, ?_, ?_, ?_⟩
  · rw [wJ_ne (by omega), wJ_ne (by omega), wJ_ne (by omega)]; exact a67
  · rw [wJ_ne (by omega), wJ_ne (by omega), wJ_self]
  · rw [wJ_ne (by omega), wJ_self, wJ_ne (by omega), ak _ (by omega)]
  · rw [wJ_self, wJ_ne (by omega), wJ_ne (by omega), ak _ (by omega)]
def pwR (p : Int64) (b : Bool) (n : Int64) : Int64 := p - (if b = true then p * n / 100 else 0)
theorem movesR {X : Nat} {s : Int32} {room : Int64} {I : Iv} (J : Jv) (hX : X ≤ 240) (hs : J 79 (X + 52) = s.toInt64) : fn_X10_moves (n3 X) room I J = (if 0 ≤ pwR (pwR (I 81 0).toInt64 (bitI s 2) 50) (bitI s 3) 45 - (room - J 79 (X + 3) / cpR X J 3) / 8 then pwR (pwR (I 81 0).toInt64 (bitI s 2) 50) (bitI s 3) 45 - (room - J 79 (X + 3) / cpR X J 3) / 8 else 0, I, J) := by
  unfold fn_X10_moves
  rw [l_t, n3_tn (show X ≤ 1000 by omega), hs, show (2 : Int32) = n3 2 from rfl, has_w (by omega), b_n3_mk, j_ite6]
  have e : ∀ (b : Bool) (x : Int64), (if b3 b = 0 then (0 : Int64) else x) = (if b = true then x else 0) := by
    intro b x; cases b <;> rfl
  rw [e, l_t, show (I 81 0).toInt64 - (if bitI s 2 = true then (I 81 0).toInt64 * 50 / 100 else 0) = pwR (I 81 0).toInt64 (bitI s 2) 50 from rfl]
  generalize pwR (I 81 0).toInt64 (bitI s 2) 50 = p
  rw [show (3 : Int32) = n3 3 from rfl, has_w (by omega), b_n3_mk, j_ite6, e, l_t, show p - (if bitI s 3 = true then p * 45 / 100 else 0) = pwR p (bitI s 3) 45 from rfl, fX10_warm hX (by omega), b_n3_mk, l_t]
  generalize pwR p (bitI s 3) 45 - (room - J 79 (X + 3) / cpR X J 3) / 8 = y
  by_cases q : 0 ≤ y
  · rw [if_pos q, if_pos q]
  · rw [if_neg q, if_neg q]
def wtFr (c fur came : Int64) : Int64 := if 0 ≤ c then fur - (if c / 20 + 1 ≤ fur then c / 20 + 1 else fur) else fur + came - (if fur + came ≤ 9999 then 0 else fur + came - 9999)
def wtDr (c fur : Int64) : Int64 := if 0 ≤ c then (if c / 20 + 1 ≤ fur then c / 20 + 1 else fur) else 0
def wtPr (c fur came : Int64) : Int64 := if 0 ≤ c then came else (if fur + came ≤ 9999 then 0 else fur + came - 9999)
theorem wetR {X : Nat} {came : Int64} {I : Iv} (J : Jv) (hX : X ≤ 240) : ∃ J' : Jv, fn_X10_wet (n3 X) came I J = (I, J') ∧ (∀ r, r ≠ 79 → J' r = J r) ∧ (∀ k, k ≠ X + 53 → k ≠ X + 60 → k ≠ X + 61 → k ≠ X + 62 → J' 79 k = J 79 k) ∧ J' 79 (X + 60) = J 79 (X + 60) + came ∧ J' 79 (X + 53) = wtFr (J 79 (X + 3) / 40) (J 79 (X + 53)) came ∧ J' 79 (X + 61) = J 79 (X + 61) + wtDr (J 79 (X + 3) / 40) (J 79 (X + 53)) ∧ J' 79 (X + 62) = J 79 (X + 62) + wtPr (J 79 (X + 3) / 40) (J 79 (X + 53)) came := by
  unfold fn_X10_wet
  rw [l_t, n3_tn (show X ≤ 1000 by omega), show (3 : Int32) = n3 3 from rfl, fX10_warm hX (by omega), b_n3_mk, wJ_ne (show (79 : Nat) ≠ 79 ∨ X + 3 ≠ X + 60 by omega)]
  rw [show cpR X (wJ J 79 (X + 60) (J 79 (X + 60) + came)) 3 = 40 from rfl]
  generalize J 79 (X + 3) / 40 = c
  unfold wtFr wtDr wtPr
  by_cases q : 0 ≤ c
  · simp only [if_pos q]
    rw [l_t, l_t, j_ite6, wJ_ne (show (79 : Nat) ≠ 79 ∨ X + 53 ≠ X + 62 by omega), wJ_ne (show (79 : Nat) ≠ 79 ∨ X + 53 ≠ X + 60 by omega), l_t, l_t]
    generalize (if c / 20 + 1 ≤ J 79 (X + 53) then c / 20 + 1 else J 79 (X + 53)) = m
    refine ⟨_, rfl, fun r h => by rw [wJ_row h, wJ_row h, wJ_row h, wJ_row h], fun k h3 h0 h1 h2 => by rw [wJ_ne (Or.inr h1), wJ_ne (Or.inr h3), wJ_ne (Or.inr h2), wJ_ne (Or.inr h0)], ?_, ?_, ?_, ?_⟩
    · rw [wJ_ne (by omega), wJ_ne (by omega), wJ_ne (by omega), wJ_self]
    · rw [wJ_ne (by omega), wJ_self]
    · rw [wJ_self, wJ_ne (by omega), wJ_ne (by omega), wJ_ne (by omega)]
    · rw [wJ_ne (by omega), wJ_ne (by omega), wJ_self, wJ_ne (by omega)]
  · simp only [if_neg q]
    rw [l_t, j_ite6, wJ_ne (show (79 : Nat) ≠ 79 ∨ X + 53 ≠ X + 60 by omega), l_t, l_t]
    generalize (if J 79 (X + 53) + came ≤ 9999 then (0 : Int64) else J 79 (X + 53) + came - 9999) = m
    refine ⟨_, rfl, fun r h => by rw [wJ_row h, wJ_row h, wJ_row h], fun k h3 h0 h1 h2 => by rw [wJ_ne (Or.inr h2), wJ_ne (Or.inr h3), wJ_ne (Or.inr h0)], ?_, ?_, ?_, ?_⟩
    · rw [wJ_ne (by omega), wJ_ne (by omega), wJ_self]
    · rw [wJ_ne (by omega), wJ_self]
    · rw [wJ_ne (by omega), wJ_ne (by omega), wJ_ne (by omega)]; exact (Int64.add_zero _).symm
    · rw [wJ_self, wJ_ne (by omega), wJ_ne (by omega)]
theorem tkHr {X : Nat} {I : Iv} (hX : X ≤ 240) : ∀ (f k fu : Nat) (J : Jv), k + f = 12 → f < fu → ∃ J' : Jv, (∀ K : Int32 → Jv → Iv × Jv, fl_X10_tick_230_6 I (n3 X) K fu (n3 k) J = K 12 J') ∧ (∀ r, r ≠ 79 → J' r = J r) ∧ (∀ j, j < X ∨ X + 12 ≤ j → J' 79 j = J 79 j) ∧ ∀ j, j < 12 → J' 79 (X + j) = (if k ≤ j then J 79 (X + j) + J 88 j else J 79 (X + j))
  | f, k, 0, _, _, h => absurd h (Nat.not_lt_zero _)
  | 0, k, fu + 1, J, hk, _ => ⟨J, fun K => by
      rw [fl_X10_tick_230_6.eq_2, if_pos (by rw [show (12 : Int32) = n3 12 from rfl, n3_le (by omega) (by omega)]; omega), show k = 12 by omega]; rfl, fun _ _ => rfl, fun _ _ => rfl, fun j hj => by rw [if_neg (by omega)]⟩
  | f + 1, k, fu + 1, J, hk, hf => by
    obtain ⟨J', e, r1, r2, r3⟩ := tkHr (I := I) hX f (k + 1) fu (wJ J 79 (X + k) (J 79 (X + k) + J 88 k)) (by omega) (by omega)
    refine ⟨J', fun K => ?_, fun r h => by rw [r1 r h, wJ_row h], fun j hj => by rw [r2 j hj, wJ_ne (by omega)], fun j hj => ?_⟩
    · rw [fl_X10_tick_230_6.eq_2, if_neg (by rw [show (12 : Int32) = n3 12 from rfl, n3_le (by omega) (by omega)]; omega), n3_tn (by omega), n3_tn (by omega), l_t, n3_up]
      exact e K
    · rw [r3 j hj, wJ_row (show (88 : Nat) ≠ 79 by decide)]
      by_cases q : j = k
      · rw [q, if_neg (by omega), if_pos (by omega), wJ_self]
      · rw [wJ_ne (by omega)]
        by_cases q2 : k + 1 ≤ j
        · rw [if_pos q2, if_pos (by omega)]
        · rw [if_neg q2, if_neg (by omega)]
/-- hours, lamp: shapes -/
theorem j_litR {β : Type} {c2 : Prop} [Decidable c2] {op b : Bool} {Ih : Iv} {Jh : Jv} (Kf : Int32 → β) : j_n Kf (fun (j : Int32 → β) => j_n (j 0) (fun (j2 : β) => j_n (if c2 then j 1 else j2) (fun (j3 : β) => if b3 op = 0 then b_n3 (b3 b, Ih, Jh) (fun (r88 : Int32) (_ : Iv) (_ : Jv) => if r88 = 0 then j2 else j3) else j3))) = Kf (b3 ((op || b) && decide c2)) := by
  simp only [j_n, b_n3]
  by_cases q : c2
  · simp only [if_pos q, decide_eq_true q]
    cases op <;> cases b <;> rfl
  · simp only [if_neg q, decide_eq_false q]
    cases op <;> cases b <;> rfl
theorem j_lamp {β : Type} {lit : Bool} {J a : Jv} {f2 f3 : Jv → Jv} (Kf : Jv → β) : j_n Kf (fun (j : Jv → β) => if b3 lit = 0 then j J else l_t a (fun (x : Jv) => l_t (f2 x) (fun (y : Jv) => l_t (f3 y) (fun (z : Jv) => j z)))) = Kf (if lit = true then f3 (f2 a) else J) := by
  simp only [j_n, l_t]
  cases lit <;> rfl
theorem j_mvR {β : Type} {c : Prop} [Decidable c] {v : Int64} {Ih : Iv} {Jh : Jv} (Kf : Int64 → β) : j_n Kf (fun (j : Int64 → β) => if c then b_n3 (v, Ih, Jh) (fun (r : Int64) (_ : Iv) (_ : Jv) => j r) else j 0) = Kf (if c then v else 0) := by
  simp only [j_n, b_n3]
  by_cases q : c
  · rw [if_pos q, if_pos q]
  · rw [if_neg q, if_neg q]
theorem day6 {t : Int32} (h : TkB t) : t.toInt64 - t.toInt64 / 288 * 288 = (n3 (dT t)).toInt64 := by
  have h' := h
  unfold TkB at h
  have q : (t / 288).toInt = t.toInt / 288 := by rw [i3_div (by decide), c288, Int.tdiv_eq_ediv_of_nonneg h.1]
  have m : (t / 288 * 288).toInt = t.toInt / 288 * 288 := by rw [i3_mul (by rw [q, c288]; omega) (by rw [q, c288]; omega), q, c288]
  have e288 : (288 : Int32).toInt64 = 288 := by decide
  rw [← day3 h', wd6_sub (by rw [m]; omega) (by rw [m]; omega), wd6_mul (by rw [q, c288]; omega) (by rw [q, c288]; omega), wd6_div (by decide), e288]
theorem hour6 {d : Nat} (hd : d < 288) : (n3 d).toInt64 / 12 = (n3 (d / 12)).toInt64 := by
  have e12 : (12 : Int32).toInt64 = 12 := by decide
  rw [← hour3 hd, wd6_div (by decide), e12]
theorem fX10_isHour {t a b : Int32} (h : TkB t) (I : Iv) (J : Jv) : fn_X10_isHour t.toInt64 a b I J = (b3 (hrB a b (dT t)), I, J) := by
  unfold fn_X10_isHour
  rw [l_t, day6 h, hour6 (dT_lt t)]
  unfold hrB
  by_cases h1 : a < 0
  · rw [if_pos h1, decide_eq_false (fun z => absurd z.1 (Int32.not_le.mpr h1))]; rfl
  · rw [if_neg h1]
    by_cases h2 : n3 (dT t / 12) < a
    · rw [if_pos (wd6_lt.mpr h2), decide_eq_false (fun z => absurd z.2.1 (Int32.not_le.mpr h2))]; rfl
    · rw [if_neg (fun z => h2 (wd6_lt.mp z))]
      by_cases h3 : b ≤ n3 (dT t / 12)
      · rw [if_pos (wd6_le.mpr h3), decide_eq_false (fun z => absurd z.2.2 (Int32.not_lt.mpr h3))]; rfl
      · rw [if_neg (fun z => h3 (wd6_le.mp z)), decide_eq_true ⟨Int32.not_lt.mp h1, Int32.not_lt.mp h2, Int32.not_le.mp h3⟩]; rfl
def rmR (I : Iv) (s : Int32) (hr : Bool) : Int64 := 10 * (I 81 11).toInt64 + (if hr = true then 10 * (I 81 14).toInt64 else 0) + (if bitI s 6 = true then 800 else 0)
def slR (I : Iv) (s : Int32) : Int64 := if bitI s 0 = true then 4 * (I 81 2).toInt64 + 12 else (I 81 2).toInt64
def opR (b : Bool) (n : Int64) : Int64 := if b = true then n else 0
def mvR (I : Iv) (s : Int32) (rm w3 : Int64) : Int64 := if 0 ≤ pwR (pwR (I 81 0).toInt64 (bitI s 2) 50) (bitI s 3) 45 - (rm - w3) / 8 then pwR (pwR (I 81 0).toInt64 (bitI s 2) 50) (bitI s 3) 45 - (rm - w3) / 8 else 0
theorem ite_b06 {b : Bool} {x y : Int64} : (if b3 b = 0 then x else y) = (if b = true then y else x) := by
  cases b with
  | false => rfl
  | true => rfl
theorem tickR {X u : Nat} {less s t : Int32} {op cov was cur : Bool} {I : Iv} {w : Nat → Int64} {th : Nat → Bool} {sh : Nat → Nat} (J : Jv) (hX : X ≤ 240) (hu : u < 3) (hs : J 79 (X + 52) = s.toInt64) (ht : J 79 (X + 54) = t.toInt64) (hT : TkB t)
    (hcov : J 79 (X + 68) = (b3 cov).toInt64) (hwas : J 79 (X + 66) = (b3 was).toInt64) (hcur : J 79 (X + 69) = (b3 cur).toInt64) (hW : WIr X J w th sh) (rd rm gap out : Int64) (on lit : Bool) (g : Nat → Int64)
    (hrd : rd = rdR cov (J 79 (X + 67)) (w u)) (hon : on = onR cur (bitI s 4) was rd (10 * (I 81 6 - less).toInt64) (10 * (I 81 7 - less).toInt64)) (hrm : rm = rmR I s (hrB (I 81 12) (I 81 13) (dT t))) (hgap : gap = (I 81 1).toInt64 + slR I s + opR op 60)
    (hg : g = gT rm gap (I 81 3).toInt64 (I 81 4).toInt64 (I 81 5).toInt64 (J 79 (X + 53)) w th sh) (hlit : lit = ((op || bitI s 5) && cur)) (hout : out = opR on (mvR I s rm (w 3))) :
    ∃ J' : Jv, fn_X10_tick (n3 X) (b3 op) (n3 u) less I J = (I, J') ∧ (∀ r, r ≠ 79 → r ≠ 88 → J' r = J r) ∧ (∀ k, k < X ∨ X + 70 ≤ k → J' 79 k = J 79 k) ∧ (∀ k, 12 ≤ k → k < 53 → J' 79 (X + k) = J 79 (X + k)) ∧ (J' 79 (X + 56) = J 79 (X + 56) ∧ J' 79 (X + 59) = J 79 (X + 59) ∧ J' 79 (X + 68) = J 79 (X + 68) ∧ J' 79 (X + 69) = J 79 (X + 69)) ∧
      (∀ k, k < 12 → J' 79 (X + k) = (if k = 0 then J 79 (X + 0) + g 0 + opR lit (5 * (I 81 10).toInt64) else if k = 3 then J 79 (X + 3) + g 3 - out else J 79 (X + k) + g k)) ∧
      J' 79 (X + 54) = J 79 (X + 54) + 1 ∧ J' 79 (X + 55) = cA (gS rm gap w) 3 0 (J 79 (X + 55)) ∧ J' 79 (X + 57) = J 79 (X + 57) + opR lit (5 * (I 81 10).toInt64) ∧ J' 79 (X + 58) = J 79 (X + 58) + out ∧
      J' 79 (X + 63) = J 79 (X + 63) + opR lit (I 81 10).toInt64 + opR on (I 81 9).toInt64 ∧ J' 79 (X + 64) = J 79 (X + 64) + (b3 (on && !was)).toInt64 ∧ J' 79 (X + 65) = J 79 (X + 65) + (b3 on).toInt64 ∧ J' 79 (X + 66) = (b3 on).toInt64 ∧ J' 79 (X + 67) = rd ∧
      J' 79 (X + 60) = J 79 (X + 60) + (slR I s + opR op 20) ∧ J' 79 (X + 53) = wtFr (J' 79 (X + 3) / 40) (J 79 (X + 53)) (slR I s + opR op 20) ∧ J' 79 (X + 61) = J 79 (X + 61) + wtDr (J' 79 (X + 3) / 40) (J 79 (X + 53)) ∧ J' 79 (X + 62) = J 79 (X + 62) + wtPr (J' 79 (X + 3) / 40) (J 79 (X + 53)) (slR I s + opR op 20) := by
  obtain ⟨J1, e1, a1, a2, a3, a4, a5, a6⟩ := bulbR (X := X) (u := u) (less := less) (I := I) J hX hu hs hcov hwas hcur
  rw [hW.1 u (by omega), ← hrd] at a3 a4 a5 a6
  rw [← hon] at a4 a5 a6
  have hW1 : WIr X J1 w th sh := wir_of hW (fun k hk => a2 _ (by omega) (by omega) (by omega) (by omega))
  obtain ⟨J2, e2, b1, b2, b4, b5⟩ := flowsR (X := X) (I := I) (room := rm) (gap := gap) J1 hX hW1
  rw [a2 (X + 53) (by omega) (by omega) (by omega) (by omega), ← hg] at b5
  have k1 : ∀ k, k ≠ X + 64 → k ≠ X + 65 → k ≠ X + 66 → k ≠ X + 67 → k ≠ X + 55 → J2 79 k = J 79 k := fun k h1 h2 h3 h4 h5 => by rw [b2 k h5, a2 k h1 h2 h3 h4]
  have hW2 : WIr X J2 w th sh := wir_of hW1 (fun k hk => b2 _ (by omega))
  have r66 : J2 79 (X + 66) = (b3 on).toInt64 := by rw [b2 _ (by omega)]; exact a4
  have s52 : J2 79 (X + 52) = s.toInt64 := by rw [k1 _ (by omega) (by omega) (by omega) (by omega) (by omega)]; exact hs
  have e3 := movesR (X := X) (s := s) (room := rm) (I := I) J2 hX s52
  rw [hW2.1 3 (by omega)] at e3
  have e3' : fn_X10_moves (n3 X) rm I J2 = (mvR I s rm (w 3), I, J2) := e3
  have eo : (if (b3 on).toInt64 = 1 then mvR I s rm (w 3) else 0) = out := by rw [ite_b1, hout]; rfl
  obtain ⟨J3, e4, c1, c2, c3⟩ := tkHr (I := I) hX 12 0 (mU (12 : Int32) ((0 : Int32)) + 1) J2 rfl (by decide)
  have e4' : ∀ K : Int32 → Jv → Iv × Jv, fl_X10_tick_230_6 I (n3 X) K (mU (12 : Int32) ((0 : Int32)) + 1) 0 J2 = K 12 J3 := e4
  -- the lamp
  obtain ⟨J4, d0, d1, d2, d3, d4, d5⟩ : ∃ J4 : Jv, (if lit = true then wJ (wJ (wJ J3 79 X (J3 79 X + 5 * (I 81 10).toInt64)) 79 (X + 57) (wJ J3 79 X (J3 79 X + 5 * (I 81 10).toInt64) 79 (X + 57) + 5 * (I 81 10).toInt64)) 79 (X + 63) (wJ (wJ J3 79 X (J3 79 X + 5 * (I 81 10).toInt64)) 79 (X + 57) (wJ J3 79 X (J3 79 X + 5 * (I 81 10).toInt64) 79 (X + 57) + 5 * (I 81 10).toInt64) 79 (X + 63) + (I 81 10).toInt64) else J3) = J4 ∧ (∀ r, r ≠ 79 → J4 r = J3 r) ∧ (∀ k, k ≠ X → k ≠ X + 57 → k ≠ X + 63 → J4 79 k = J3 79 k) ∧ J4 79 X = J3 79 X + opR lit (5 * (I 81 10).toInt64) ∧ J4 79 (X + 57) = J3 79 (X + 57) + opR lit (5 * (I 81 10).toInt64) ∧ J4 79 (X + 63) = J3 79 (X + 63) + opR lit (I 81 10).toInt64 := by
    refine ⟨_, rfl, ?_⟩
    cases lit with
    | false =>
      rw [if_neg (by decide)]
      exact ⟨fun _ _ => rfl, fun _ _ _ _ => rfl, (Int64.add_zero _).symm, (Int64.add_zero _).symm, (Int64.add_zero _).symm⟩
    | true =>
      rw [if_pos rfl]
      refine ⟨fun r h => by rw [wJ_row h, wJ_row h, wJ_row h], fun k h0 h1 h2 => by rw [wJ_ne (Or.inr h2), wJ_ne (Or.inr h1), wJ_ne (Or.inr h0)], ?_, ?_, ?_⟩
      · rw [wJ_ne (by omega), wJ_ne (by omega), wJ_self]; rfl
      · rw [wJ_ne (by omega), wJ_self, wJ_ne (by omega)]; rfl
      · rw [wJ_self, wJ_ne (by omega), wJ_ne (by omega)]; rfl
  have q66 : ∀ v1 v2 : Int64, wJ (wJ J4 79 (X + 3) v1) 79 (X + 58) v2 79 (X + 66) = (b3 on).toInt64 := fun v1 v2 => by
    rw [wJ_ne (by omega), wJ_ne (by omega), d2 _ (by omega) (by omega) (by omega), c2 _ (by omega), r66]
  obtain ⟨J6, f0, f1, f2, f3, f4⟩ : ∃ J6 : Jv, wJ (wJ (wJ J4 79 (X + 3) (J4 79 (X + 3) - out)) 79 (X + 58) (wJ J4 79 (X + 3) (J4 79 (X + 3) - out) 79 (X + 58) + out)) 79 (X + 63) (wJ (wJ J4 79 (X + 3) (J4 79 (X + 3) - out)) 79 (X + 58) (wJ J4 79 (X + 3) (J4 79 (X + 3) - out) 79 (X + 58) + out) 79 (X + 63) + opR on (I 81 9).toInt64) = J6 ∧ (∀ k, k ≠ X + 3 → k ≠ X + 58 → k ≠ X + 63 → J6 79 k = J4 79 k) ∧ J6 79 (X + 3) = J4 79 (X + 3) - out ∧ J6 79 (X + 58) = J4 79 (X + 58) + out ∧ J6 79 (X + 63) = J4 79 (X + 63) + opR on (I 81 9).toInt64 ∧ ∀ r, r ≠ 79 → J6 r = J4 r := by
    refine ⟨_, rfl, fun k h0 h1 h2 => by rw [wJ_ne (Or.inr h2), wJ_ne (Or.inr h1), wJ_ne (Or.inr h0)], ?_, ?_, ?_, fun r h => by rw [wJ_row h, wJ_row h, wJ_row h]⟩
    · rw [wJ_ne (by omega), wJ_ne (by omega), wJ_self]
    · rw [wJ_ne (by omega), wJ_self, wJ_ne (by omega)]
    · rw [wJ_self, wJ_ne (by omega), wJ_ne (by omega)]
  obtain ⟨f4, f5⟩ := f4
  obtain ⟨J7, e7, g1, g2, g3, g4, g5, g6⟩ := wetR (X := X) (came := slR I s + opR op 20) (I := I) J6 hX
  -- one look back
  have kk : ∀ k, k ≠ 53 → k ≠ 54 → k ≠ 60 → k ≠ 61 → k ≠ 62 → k ≠ 3 → k ≠ 58 → k ≠ 63 → k ≠ 0 → k ≠ 57 → (k < 12 → False) → wJ J7 79 (X + 54) (J7 79 (X + 54) + 1) 79 (X + k) = J2 79 (X + k) := by
    intro k h53 h54 h60 h61 h62 h3 h58 h63 h0 h57 h12
    have : 12 ≤ k := Nat.le_of_not_lt (fun z => h12 z)
    rw [wJ_ne (by omega), g2 _ (by omega) (by omega) (by omega) (by omega), f1 _ (by omega) (by omega) (by omega), d2 _ (by omega) (by omega) (by omega), c2 _ (by omega)]
  have h53 : J6 79 (X + 53) = J 79 (X + 53) := by rw [f1 _ (by omega) (by omega) (by omega), d2 _ (by omega) (by omega) (by omega), c2 _ (by omega), k1 _ (by omega) (by omega) (by omega) (by omega) (by omega)]
  have h03 : wJ J7 79 (X + 54) (J7 79 (X + 54) + 1) 79 (X + 3) = J6 79 (X + 3) := by rw [wJ_ne (by omega), g2 _ (by omega) (by omega) (by omega) (by omega)]
  rw [h53] at g4 g5 g6
  refine ⟨wJ J7 79 (X + 54) (J7 79 (X + 54) + 1), ?_, fun r h1 h2 => ?_, fun k hk => ?_, fun k h1 h2 => ?_, ⟨?_, ?_, ?_, ?_⟩, fun k hk => ?_, ?_, ?_, ?_, ?_, ?_, ?_, ?_, ?_, ?_, ?_, ?_, ?_, ?_⟩
  · unfold fn_X10_tick
    rw [n3_tn (show X ≤ 1000 by omega), hs, l_t, ht, l_t, fX10_isHour hT, b_n3_mk, j_ite6, ite_b06, show (6 : Int32) = n3 6 from rfl, has_w (by omega), b_n3_mk, j_ite6, ite_b06, l_t]
    rw [show 10 * (I 81 11).toInt64 + (if hrB (I 81 12) (I 81 13) (dT t) = true then 10 * (I 81 14).toInt64 else 0) + (if bitI s 6 = true then 800 else 0) = rm from hrm.symm]
    rw [show (5 : Int32) = n3 5 from rfl, has_w (by omega), hcur, j_litR, show decide ((b3 cur).toInt64 = 1) = cur by cases cur <;> rfl, ← hlit, e1, b_n2_mk, show (0 : Int32) = n3 0 from rfl, has_w (by omega), b_n3_mk, show n3 0 = (0 : Int32) from rfl, j_ite6, ite_b06, j_ite6, ite_b06]
    rw [show (if bitI s 0 = true then 4 * (I 81 2).toInt64 + 12 else (I 81 2).toInt64) = slR I s from rfl, show (if op = true then (60 : Int64) else 0) = opR op 60 from rfl, ← hgap, e2, b_n2_mk, e3', j_mvR, r66, eo, e4', j_lamp, d0, l_t, l_t, q66, j_ite6, ite_b1, l_t, j_ite6, ite_b06]
    rw [show (if on = true then (I 81 9).toInt64 else 0) = opR on (I 81 9).toInt64 from rfl, f0, show (if op = true then (20 : Int64) else 0) = opR op 20 from rfl, e7, b_n2_mk, l_t]
  · rw [wJ_row h1, g1 r h1, f5 r h1, d1 r h1, c1 r h1, b1 r h2 h1, a1 r h1]
  · rw [wJ_ne (by omega), g2 _ (by omega) (by omega) (by omega) (by omega), f1 _ (by omega) (by omega) (by omega), d2 _ (by omega) (by omega) (by omega), c2 _ (by omega), k1 _ (by omega) (by omega) (by omega) (by omega) (by omega)]
  · rw [kk k (by omega) (by omega) (by omega) (by omega) (by omega) (by omega) (by omega) (by omega) (by omega) (by omega) (by omega), k1 _ (by omega) (by omega) (by omega) (by omega) (by omega)]
  · rw [kk 56 (by omega) (by omega) (by omega) (by omega) (by omega) (by omega) (by omega) (by omega) (by omega) (by omega) (by omega), k1 _ (by omega) (by omega) (by omega) (by omega) (by omega)]
  · rw [kk 59 (by omega) (by omega) (by omega) (by omega) (by omega) (by omega) (by omega) (by omega) (by omega) (by omega) (by omega), k1 _ (by omega) (by omega) (by omega) (by omega) (by omega)]
  · rw [kk 68 (by omega) (by omega) (by omega) (by omega) (by omega) (by omega) (by omega) (by omega) (by omega) (by omega) (by omega), k1 _ (by omega) (by omega) (by omega) (by omega) (by omega)]
  · rw [kk 69 (by omega) (by omega) (by omega) (by omega) (by omega) (by omega) (by omega) (by omega) (by omega) (by omega) (by omega), k1 _ (by omega) (by omega) (by omega) (by omega) (by omega)]
  · rw [wJ_ne (by omega), g2 _ (by omega) (by omega) (by omega) (by omega)]
    by_cases z3 : k = 3
    · subst z3
      rw [if_neg (by decide), if_pos rfl, f2, d2 _ (by omega) (by omega) (by omega), c3 3 (by omega), if_pos (by omega), b5 3 (by omega), k1 _ (by omega) (by omega) (by omega) (by omega) (by omega)]
    · rw [f1 _ (by omega) (by omega) (by omega)]
      by_cases z0 : k = 0
      · subst z0
        have c30 := c3 0 (by omega)
        rw [if_pos (Nat.le_refl _), b5 0 (by omega), k1 _ (by omega) (by omega) (by omega) (by omega) (by omega)] at c30
        rw [if_pos rfl]
        show J4 79 X = _
        rw [d3]
        show J3 79 (X + 0) + _ = _
        rw [c30]
      · rw [if_neg z0, if_neg z3, d2 _ (by omega) (by omega) (by omega), c3 k hk, if_pos (by omega), b5 k hk, k1 _ (by omega) (by omega) (by omega) (by omega) (by omega)]
  · rw [wJ_self, g2 _ (by omega) (by omega) (by omega) (by omega), f1 _ (by omega) (by omega) (by omega), d2 _ (by omega) (by omega) (by omega), c2 _ (by omega), k1 _ (by omega) (by omega) (by omega) (by omega) (by omega)]
  · rw [kk 55 (by omega) (by omega) (by omega) (by omega) (by omega) (by omega) (by omega) (by omega) (by omega) (by omega) (by omega), b4, a2 _ (by omega) (by omega) (by omega) (by omega)]
  · rw [wJ_ne (by omega), g2 _ (by omega) (by omega) (by omega) (by omega), f1 _ (by omega) (by omega) (by omega), d4, c2 _ (by omega), k1 _ (by omega) (by omega) (by omega) (by omega) (by omega)]
  · rw [wJ_ne (by omega), g2 _ (by omega) (by omega) (by omega) (by omega), f3, d2 _ (by omega) (by omega) (by omega), c2 _ (by omega), k1 _ (by omega) (by omega) (by omega) (by omega) (by omega)]
  · rw [wJ_ne (by omega), g2 _ (by omega) (by omega) (by omega) (by omega), f4, d5, c2 _ (by omega), k1 _ (by omega) (by omega) (by omega) (by omega) (by omega)]
  · rw [kk 64 (by omega) (by omega) (by omega) (by omega) (by omega) (by omega) (by omega) (by omega) (by omega) (by omega) (by omega), b2 _ (by omega), a5]
  · rw [kk 65 (by omega) (by omega) (by omega) (by omega) (by omega) (by omega) (by omega) (by omega) (by omega) (by omega) (by omega), b2 _ (by omega), a6]
  · rw [kk 66 (by omega) (by omega) (by omega) (by omega) (by omega) (by omega) (by omega) (by omega) (by omega) (by omega) (by omega), r66]
  · rw [kk 67 (by omega) (by omega) (by omega) (by omega) (by omega) (by omega) (by omega) (by omega) (by omega) (by omega) (by omega), b2 _ (by omega), a3]
  · rw [wJ_ne (by omega), g3, f1 _ (by omega) (by omega) (by omega), d2 _ (by omega) (by omega) (by omega), c2 _ (by omega), k1 _ (by omega) (by omega) (by omega) (by omega) (by omega)]
  · rw [h03, wJ_ne (by omega), g4]
  · rw [h03, wJ_ne (by omega), g5, f1 _ (by omega) (by omega) (by omega), d2 _ (by omega) (by omega) (by omega), c2 _ (by omega), k1 _ (by omega) (by omega) (by omega) (by omega) (by omega)]
  · rw [h03, wJ_ne (by omega), g6, f1 _ (by omega) (by omega) (by omega), d2 _ (by omega) (by omega) (by omega), c2 _ (by omega), k1 _ (by omega) (by omega) (by omega) (by omega) (by omega)]
