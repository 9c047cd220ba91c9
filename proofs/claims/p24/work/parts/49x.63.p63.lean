theorem sB_le5 {j : Nat} (hj : j < 14) : (sB j).length ≤ 5 := by
  rcases (show j = 0 ∨ j = 1 ∨ j = 2 ∨ j = 3 ∨ j = 4 ∨ j = 5 ∨ j = 6 ∨ j = 7 ∨ j = 8 ∨ j = 9 ∨ j = 10 ∨ j = 11 ∨ j = 12 ∨ j = 13 by omega) with rfl | rfl | rfl | rfl | rfl | rfl | rfl | rfl | rfl | rfl | rfl | rfl | rfl | rfl <;> decide
theorem isW_r {T : Nat → Int32} {s l : Nat} {w : List Int32} : isW T s l w = (decide (l = w.length) && (List.range' 0 w.length).all (fun k => decide (T (s + k) = w.getD k 0))) := by
  unfold isW; rw [List.range_eq_range']
theorem isW_len {T : Nat → Int32} {s l : Nat} {w : List Int32} (h : ¬ l = w.length) : isW T s l w = false := by
  rw [isW_r]; simp [h]
theorem fX5_isWord {j s e : Nat} {I : Iv} (J : Jv) (hj : j < 14) (h1 : I 1 2 = n3 e) (hs : s ≤ e) (he : e ≤ 300) : fn_X5_isWord j (n3 s) I J = (b3 (isW (I 2) s (e - s) (sB j)), I, J) := by
  have hl := sB_le5 hj
  unfold fn_X5_isWord
  dsimp only [l_t]
  rw [h1, n3_sub hs]
  by_cases q : e - s = (sB j).length
  · rw [if_pos (by rw [q])]
    have := iwC (J := J) (I := I) (j := j) (s := s) (K := fun _ => (1, I, J)) hj (by omega) rfl (sB j).length 0 (mU (Int32.ofNat (sB j).length) 0 + 1) (by omega) (by
      unfold mU; rw [Int32.toInt_ofNat_of_lt (by omega), show (0 : Int32).toInt = 0 by decide]; omega)
    exact this.trans (by rw [isW_r, decide_eq_true q, Bool.true_and])
  · rw [if_neg (fun z => q ((n3_inj (by omega) (by omega)).mp z)), isW_len q]; rfl
def sel5 (a b c d e : Int32) (k : Nat) : Int32 := if k = 0 then a else if k = 1 then b else if k = 2 then c else if k = 3 then d else e
theorem iwR {J : Jv} {I : Iv} {a b c d e : Int32} {s m : Nat} {w : List Int32} (hs : s ≤ 300) (hm : w.length = m) (hm5 : m ≤ 5) (h13 : I 78 13 = n3 s) (hw : ∀ k, k < m → w.getD k 0 = sel5 a b c d e k) : ∀ (f k fu : Nat) (t : Bool), k + f = m → f < fu →
    fl_X10_isWord_18_1 I J (n3 m) a b c d e (fun x2 _ => (x2, I, J)) fu (b3 t) (n3 k) = (b3 (t && (List.range' k f).all (fun k => decide (I 87 (s + k) = w.getD k 0))), I, J) := by
  intro f
  induction f with
  | zero =>
    intro k fu t hk hf
    cases fu with
    | zero => omega
    | succ fu =>
      rw [fl_X10_isWord_18_1.eq_2, if_pos (by rw [n3_le (by omega) (by omega)]; omega)]
      simp
  | succ f ih =>
    intro k fu t hk hf
    cases fu with
    | zero => omega
    | succ fu =>
      rw [fl_X10_isWord_18_1.eq_2, if_neg (by rw [n3_le (by omega) (by omega)]; omega)]
      cases t with
      | false => rw [if_pos (show b3 false = 0 from rfl)]; simp
      | true =>
        rw [if_neg (by decide)]
        dsimp only [j_n]
        have e1 : (b3 true : Int32) = 1 := rfl
        have e0 : (b3 false : Int32) = 0 := rfl
        have go : ∀ w5 : Int32, (if I 87 ((I 78 13 + n3 k).toNatClampNeg) = w5 then fl_X10_isWord_18_1 I J (n3 m) a b c d e (fun x2 _ => (x2, I, J)) fu 1 (n3 k + 1) else fl_X10_isWord_18_1 I J (n3 m) a b c d e (fun x2 _ => (x2, I, J)) fu 0 (n3 k + 1)) = (b3 (decide (I 87 (s + k) = w5) && (List.range' (k + 1) f).all (fun k => decide (I 87 (s + k) = w.getD k 0))), I, J) := by
          intro w5
          rw [h13, n3_add, n3_tn (by omega), n3_up]
          by_cases q : I 87 (s + k) = w5
          · rw [if_pos q, decide_eq_true q]; exact ih (k + 1) fu true (by omega) (by omega)
          · rw [if_neg q, decide_eq_false q]; exact ih (k + 1) fu false (by omega) (by omega)
        have n0 : n3 k = 0 ↔ k = 0 := n3_inj (b := 0) (by omega) (by omega)
        have n1 : n3 k = 1 ↔ k = 1 := n3_inj (b := 1) (by omega) (by omega)
        have n2 : n3 k = 2 ↔ k = 2 := n3_inj (b := 2) (by omega) (by omega)
        have n4 : n3 k = 3 ↔ k = 3 := n3_inj (b := 3) (by omega) (by omega)
        rw [List.range'_succ]
        simp only [List.all_cons, Bool.true_and, hw k (by omega), sel5]
        by_cases q0 : k = 0
        · rw [if_pos (n0.mpr q0), if_pos q0]; exact go a
        · rw [if_neg (fun z => q0 (n0.mp z)), if_neg q0]
          by_cases q1 : k = 1
          · rw [if_pos (n1.mpr q1), if_pos q1]; exact go b
          · rw [if_neg (fun z => q1 (n1.mp z)), if_neg q1]
            by_cases q2 : k = 2
            · rw [if_pos (n2.mpr q2), if_pos q2]; exact go c
            · rw [if_neg (fun z => q2 (n2.mp z)), if_neg q2]
              by_cases q3 : k = 3
              · rw [if_pos (n4.mpr q3), if_pos q3]; exact go d
              · rw [if_neg (fun z => q3 (n4.mp z)), if_neg q3]; exact go e
theorem fX10_isWord {a b c d e : Int32} {s l m : Nat} {w : List Int32} {I : Iv} (J : Jv) (hs : s ≤ 300) (hl : l ≤ 300) (hm : w.length = m) (hm5 : m ≤ 5) (h13 : I 78 13 = n3 s) (h14 : I 78 14 = n3 l) (hw : ∀ k, k < m → w.getD k 0 = sel5 a b c d e k) : fn_X10_isWord (n3 m) a b c d e I J = (b3 (isW (I 87) s l w), I, J) := by
  unfold fn_X10_isWord
  dsimp only [j_n]
  have hf : mU (n3 m) 0 + 1 = m + 1 := by
    unfold mU; rw [Int32.toInt_ofNat_of_lt (by omega), show (0 : Int32).toInt = 0 by decide]; omega
  have k0 : (0 : Int32) = n3 0 := rfl
  rw [h14, hf]
  by_cases q : l = m
  · have := iwR (J := J) (I := I) (w := w) (t := true) hs hm hm5 h13 hw m 0 (m + 1) (by omega) (by omega)
    rw [if_pos (by rw [q])]
    rw [isW_r, hm, decide_eq_true q]
    exact this
  · have := iwR (J := J) (I := I) (w := w) (t := false) hs hm hm5 h13 hw m 0 (m + 1) (by omega) (by omega)
    rw [if_neg (fun z => q ((n3_inj (by omega) (by omega)).mp z)), isW_len (by rw [hm]; exact q)]
    rw [Bool.false_and] at this
    exact this
/-- which clause a word is -/
def kdF (T : Nat → Int32) (s l : Nat) : Nat → Nat → Int32
  | 0, _ => -1
  | f + 1, k => if isW T s l (sB k) then n3 k else kdF T s l f (k + 1)
theorem fX5_wordOf {k : Nat} (hk : k < 13) (I : Iv) (J : Jv) : fn_X5_wordOf (n3 k) I J = (2000000 + k, I, J) := by
  rcases (show k = 0 ∨ k = 1 ∨ k = 2 ∨ k = 3 ∨ k = 4 ∨ k = 5 ∨ k = 6 ∨ k = 7 ∨ k = 8 ∨ k = 9 ∨ k = 10 ∨ k = 11 ∨ k = 12 by omega) with rfl | rfl | rfl | rfl | rfl | rfl | rfl | rfl | rfl | rfl | rfl | rfl | rfl <;> rfl
theorem cfC {J : Jv} {I : Iv} {s e : Nat} (h1 : I 1 2 = n3 e) (hs : s ≤ e) (he : e ≤ 300) : ∀ (f k fu : Nat), k + f = 13 → f < fu → fl_X5_clauseFrom_2_0 I J (n3 s) (fun _ => (-1, I, J)) fu (n3 k) = (kdF (I 2) s (e - s) f k, I, J)
  | f, k, 0, _, h => absurd h (Nat.not_lt_zero _)
  | 0, k, fu + 1, hk, _ => by
    rw [fl_X5_clauseFrom_2_0.eq_2, if_pos (by rw [show (13 : Int32) = n3 13 from rfl, n3_le (by omega) (by omega)]; omega)]
    rfl
  | f + 1, k, fu + 1, hk, hf => by
    rw [fl_X5_clauseFrom_2_0.eq_2, if_neg (by rw [show (13 : Int32) = n3 13 from rfl, n3_le (by omega) (by omega)]; omega), fX5_wordOf (by omega)]
    dsimp only [b_n3, l_t]
    rw [Nat.add_sub_cancel_left, fX5_isWord J (by omega) h1 hs he]
    simp only [kdF]
    by_cases q : isW (I 2) s (e - s) (sB k) = true
    · rw [if_neg (by rw [b3_0]; simp [q]), if_pos q]
    · rw [if_pos (by rw [b3_0]; simpa using q), if_neg q, n3_up, cfC h1 hs he f (k + 1) fu (by omega) (by omega)]
theorem fX5_clauseFrom {s e : Nat} {I : Iv} (J : Jv) (h1 : I 1 2 = n3 e) (hs : s ≤ e) (he : e ≤ 300) : fn_X5_clauseFrom (n3 s) I J = (kdF (I 2) s (e - s) 13 0, I, J) := by
  unfold fn_X5_clauseFrom
  exact cfC h1 hs he 13 0 _ (by omega) (by decide)
theorem fX10_kindHere {s l : Nat} {I : Iv} (J : Jv) (hs : s ≤ 300) (hl : l ≤ 300) (h13 : I 78 13 = n3 s) (h14 : I 78 14 = n3 l) : fn_X10_kindHere I J = (kdF (I 87) s l 13 0, I, J) := by
  have W : ∀ (j m : Nat) (a b c d e : Int32), (sB j).length = m → m ≤ 5 → (∀ k, k < m → (sB j).getD k 0 = sel5 a b c d e k) → fn_X10_isWord (n3 m) a b c d e I J = (b3 (isW (I 87) s l (sB j)), I, J) := fun j m a b c d e h1 h2 h3 => fX10_isWord J hs hl h1 h2 h13 h14 h3
  have w0 := W 0 5 112 111 119 101 114 (by decide) (by decide) (by decide)
  have w1 := W 1 4 119 97 108 108 0 (by decide) (by decide) (by decide)
  have w2 := W 2 4 115 101 97 108 0 (by decide) (by decide) (by decide)
  have w3 := W 3 3 109 105 120 0 0 (by decide) (by decide) (by decide)
  have w4 := W 4 4 99 111 108 100 0 (by decide) (by decide) (by decide)
  have w5 := W 5 4 102 111 111 100 0 (by decide) (by decide) (by decide)
  have w6 := W 6 2 111 110 0 0 0 (by decide) (by decide) (by decide)
  have w7 := W 7 3 111 102 102 0 0 (by decide) (by decide) (by decide)
  have w8 := W 8 4 98 117 108 98 0 (by decide) (by decide) (by decide)
  have w9 := W 9 3 117 115 101 0 0 (by decide) (by decide) (by decide)
  have w10 := W 10 4 108 97 109 112 0 (by decide) (by decide) (by decide)
  have w11 := W 11 4 114 111 111 109 0 (by decide) (by decide) (by decide)
  have w12 := W 12 5 115 116 111 118 101 (by decide) (by decide) (by decide)
  have ln : ∀ j, ¬ l = (sB j).length → isW (I 87) s l (sB j) = false := fun j h => isW_len h
  have k4 : (4 : Int32) ≤ n3 l ↔ 4 ≤ l := n3_le (a := 4) (by omega) (by omega)
  have k5 : n3 l = 5 ↔ l = 5 := n3_inj (b := 5) (by omega) (by omega)
  change fn_X10_isWord 5 _ _ _ _ _ I J = _ at w0
  change fn_X10_isWord 4 _ _ _ _ _ I J = _ at w1 w2 w4 w5 w8 w10 w11
  change fn_X10_isWord 3 _ _ _ _ _ I J = _ at w3 w7 w9
  change fn_X10_isWord 2 _ _ _ _ _ I J = _ at w6
  change fn_X10_isWord 5 _ _ _ _ _ I J = _ at w12
  have L : (sB 0).length = 5 ∧ (sB 1).length = 4 ∧ (sB 2).length = 4 ∧ (sB 3).length = 3 ∧ (sB 4).length = 4 ∧ (sB 5).length = 4 ∧ (sB 6).length = 2 ∧ (sB 7).length = 3 ∧ (sB 8).length = 4 ∧ (sB 9).length = 3 ∧ (sB 10).length = 4 ∧ (sB 11).length = 4 ∧ (sB 12).length = 5 := by decide
  obtain ⟨l0, l1, l2, l3, l4, l5, l6, l7, l8, l9, l10, l11, l12⟩ := L
  unfold fn_X10_kindHere
  dsimp only [b_n3]
  rw [h14]
  simp only [w0, w1, w2, w3, w4, w5, w6, w7, w8, w9, w10, w11, w12, kdF, b3_0]
  by_cases q4 : 4 ≤ l
  · rw [if_pos (k4.mpr q4)]
    rw [ln 3 (by omega), ln 6 (by omega), ln 7 (by omega), ln 9 (by omega)]
    by_cases q5 : l = 5
    · rw [if_pos (k5.mpr q5), ln 1 (by omega), ln 2 (by omega), ln 4 (by omega), ln 5 (by omega), ln 8 (by omega), ln 10 (by omega), ln 11 (by omega)]
      cases isW (I 87) s l (sB 0) <;> cases isW (I 87) s l (sB 12) <;> rfl
    · rw [if_neg (fun z => q5 (k5.mp z)), ln 0 (by omega), ln 12 (by omega)]
      cases isW (I 87) s l (sB 1) <;> cases isW (I 87) s l (sB 2) <;> cases isW (I 87) s l (sB 4) <;> cases isW (I 87) s l (sB 5) <;> cases isW (I 87) s l (sB 8) <;> cases isW (I 87) s l (sB 10) <;> cases isW (I 87) s l (sB 11) <;> rfl
  · rw [if_neg (fun z => q4 (k4.mp z)), ln 0 (by omega), ln 1 (by omega), ln 2 (by omega), ln 4 (by omega), ln 5 (by omega), ln 8 (by omega), ln 10 (by omega), ln 11 (by omega), ln 12 (by omega)]
    cases isW (I 87) s l (sB 3) <;> cases isW (I 87) s l (sB 6) <;> cases isW (I 87) s l (sB 7) <;> cases isW (I 87) s l (sB 9) <;> rfl
