/-! ===== numbers of texts ===== -/
theorem b_n3_mk {α β : Type} (a : α) (i : Iv) (j : Jv) (k : α → Iv → Jv → β) : b_n3 (a, i, j) k = k a i j := rfl
theorem b_n2_mk {β : Type} (i : Iv) (j : Jv) (k : Iv → Jv → β) : b_n2 (i, j) k = k i j := rfl
abbrev n3 (n : Nat) : Int32 := Int32.ofNat n
theorem n3_le {a b : Nat} (ha : a ≤ 1000) (hb : b ≤ 1000) : n3 a ≤ n3 b ↔ a ≤ b := Int32.ofNat_le_iff_le (by omega) (by omega)
theorem n3_lt {a b : Nat} (ha : a ≤ 1000) (hb : b ≤ 1000) : n3 a < n3 b ↔ a < b := Int32.ofNat_lt_iff_lt (by omega) (by omega)
theorem n3_tn {a : Nat} (ha : a ≤ 1000) : (n3 a).toNatClampNeg = a := Int32.toNatClampNeg_ofNat_of_lt (by omega)
theorem n3_up (a : Nat) : n3 a + 1 = n3 (a + 1) := (Int32.ofNat_add a 1).symm
theorem n3_add (a b : Nat) : n3 a + n3 b = n3 (a + b) := (Int32.ofNat_add a b).symm
theorem n3_sub {a b : Nat} (h : b ≤ a) : n3 a - n3 b = n3 (a - b) := (Int32.ofNat_sub a b h).symm
theorem n3_inj {a b : Nat} (ha : a ≤ 1000) (hb : b ≤ 1000) : n3 a = n3 b ↔ a = b := by
  constructor
  · intro h
    have := congrArg Int32.toNatClampNeg h
    rwa [n3_tn ha, n3_tn hb] at this
  · intro h; rw [h]
theorem n3_of {x : Int32} (h : 0 ≤ x) : x = n3 x.toNatClampNeg := (Int32.ofNat_toNatClampNeg x h).symm
def b3 (b : Bool) : Int32 := if b then 1 else 0
theorem b3_0 {b : Bool} : b3 b = 0 ↔ b = false := by cases b <;> simp [b3]
def isB (x : Int32) : Bool := decide (x = 32)
def isL (x : Int32) : Bool := decide (97 ≤ x ∧ x ≤ 122)
def isF (x : Int32) : Bool := decide (48 ≤ x ∧ x ≤ 57)
theorem fX5_isLetter (x : Int32) (I : Iv) (J : Jv) : fn_X5_isLetter x I J = (b3 (isL x), I, J) := by
  unfold fn_X5_isLetter b3 isL
  by_cases h1 : x < 97
  · rw [if_pos h1, decide_eq_false (by grind)]; rfl
  · rw [if_neg h1]
    by_cases h2 : 122 < x
    · rw [if_pos h2, decide_eq_false (by grind)]; rfl
    · rw [if_neg h2, decide_eq_true (by grind)]; rfl
theorem fX5_isFigure (x : Int32) (I : Iv) (J : Jv) : fn_X5_isFigure x I J = (b3 (isF x), I, J) := by
  unfold fn_X5_isFigure b3 isF
  by_cases h1 : x < 48
  · rw [if_pos h1, decide_eq_false (by grind)]; rfl
  · rw [if_neg h1]
    by_cases h2 : 57 < x
    · rw [if_pos h2, decide_eq_false (by grind)]; rfl
    · rw [if_neg h2, decide_eq_true (by grind)]; rfl
theorem fX10_in (x lo hi : Int64) (I : Iv) (J : Jv) : fn_X10_in x lo hi I J = (b3 (decide (lo ≤ x ∧ x ≤ hi)), I, J) := by
  unfold fn_X10_in b3
  by_cases h1 : x < lo
  · simp only [j_n, h1, if_true]; rw [decide_eq_false (by grind)]; rfl
  · by_cases h2 : hi < x
    · simp only [j_n, h1, h2, if_true, if_false]; rw [decide_eq_false (by grind)]; rfl
    · simp only [j_n, h1, h2, if_false]; rw [decide_eq_true (by grind)]; rfl
theorem fX10_in3 (x : Int32) (lo hi : Int64) (l h : Int32) (hl : lo = l.toInt64) (hh : hi = h.toInt64) (I : Iv) (J : Jv) : fn_X10_in x.toInt64 lo hi I J = (b3 (decide (l ≤ x ∧ x ≤ h)), I, J) := by
  subst hl hh
  rw [fX10_in]
  simp only [i2l_le]
/-- where a stretch of signs ends -/
def ske (p : Int32 → Bool) (T : Nat → Int32) : Nat → Nat → Nat
  | 0, a => a
  | f + 1, a => if p (T a) then ske p T f (a + 1) else a
theorem ske_bd (p : Int32 → Bool) (T : Nat → Int32) : ∀ (f a : Nat), a ≤ ske p T f a ∧ ske p T f a ≤ a + f
  | 0, a => ⟨Nat.le_refl _, Nat.le_refl _⟩
  | f + 1, a => by
    simp only [ske]
    split
    · have := ske_bd p T f (a + 1); omega
    · omega
theorem ske_congr {p : Int32 → Bool} {T T' : Nat → Int32} : ∀ (f a : Nat), (∀ k, a ≤ k → k < a + f → T k = T' k) → ske p T f a = ske p T' f a
  | 0, a, _ => rfl
  | f + 1, a, h => by
    simp only [ske]
    rw [h a (Nat.le_refl _) (by omega), ske_congr f (a + 1) (fun k h1 h2 => h k (by omega) (by omega))]
theorem ske_end {p : Int32 → Bool} {T : Nat → Int32} : ∀ (f a : Nat), ske p T f a < a + f → p (T (ske p T f a)) = false
  | 0, a, h => by simp [ske] at h
  | f + 1, a, h => by
    simp only [ske] at h ⊢
    split
    · next q => rw [if_pos q] at h; exact ske_end f (a + 1) (by omega)
    · next q => simpa using q
theorem ske_in {p : Int32 → Bool} {T : Nat → Int32} : ∀ (f a k : Nat), a ≤ k → k < ske p T f a → p (T k) = true
  | 0, a, k, h1, h2 => by simp [ske] at h2; omega
  | f + 1, a, k, h1, h2 => by
    simp only [ske] at h2
    by_cases q : p (T a) = true
    · rw [if_pos q] at h2
      by_cases e : k = a
      · rw [e]; exact q
      · exact ske_in f (a + 1) k (by omega) h2
    · rw [if_neg q] at h2; omega
/-- the class's blanks, letters -/
theorem skC {J : Jv} {K : Iv → Iv × Jv} {n : Nat} (hn : n ≤ 300) : ∀ (f a fu : Nat) (I : Iv), a + f = n → f < fu → I 1 1 = n3 n → I 1 2 = n3 a → fl_X5_skipBlanks_0_0 J K fu I = K (wI I 1 2 (n3 (ske isB (I 2) f a)))
  | f, a, 0, I, _, h, _, _ => absurd h (Nat.not_lt_zero _)
  | 0, a, fu + 1, I, ha, _, h1, h2 => by
    rw [fl_X5_skipBlanks_0_0.eq_2, if_pos (by rw [h1, h2, n3_le (by omega) (by omega)]; omega)]
    simp only [ske]; rw [← h2, wI_own]
  | f + 1, a, fu + 1, I, ha, hf, h1, h2 => by
    rw [fl_X5_skipBlanks_0_0.eq_2, if_neg (by rw [h1, h2, n3_le (by omega) (by omega)]; omega), h2, n3_tn (by omega)]
    dsimp only [l_t]
    by_cases hb : I 2 a = 32
    · rw [if_pos hb, n3_up, skC hn f (a + 1) fu _ (by omega) (by omega) (by rw [wI_ne (by omega)]; exact h1) wI_self, wI_two, wI_row (by decide)]
      simp only [ske, isB, hb, decide_true, if_true]
    · rw [if_neg hb]
      have e : ske isB (I 2) (f + 1) a = a := by simp [ske, isB, hb]
      rw [e, ← h2, wI_own]
theorem fX5_skip {n a : Nat} {I : Iv} (J : Jv) (hn : n ≤ 300) (ha : a ≤ n) (h1 : I 1 1 = n3 n) (h2 : I 1 2 = n3 a) : fn_X5_skipBlanks I J = (wI I 1 2 (n3 (ske isB (I 2) (n - a) a)), J) := by
  unfold fn_X5_skipBlanks
  refine skC hn (n - a) a _ I (by omega) ?_ h1 h2
  rw [h1, h2]; unfold mU
  rw [Int32.toInt_ofNat_of_lt (by omega), Int32.toInt_ofNat_of_lt (by omega)]; omega
theorem rwC {J : Jv} {K : Iv → Iv × Jv} {n : Nat} (hn : n ≤ 300) : ∀ (f a fu : Nat) (I : Iv), a + f = n → f < fu → I 1 1 = n3 n → I 1 2 = n3 a → fl_X5_readWord_0_0 J K fu I = K (wI I 1 2 (n3 (ske isL (I 2) f a)))
  | f, a, 0, I, _, h, _, _ => absurd h (Nat.not_lt_zero _)
  | 0, a, fu + 1, I, ha, _, h1, h2 => by
    rw [fl_X5_readWord_0_0.eq_2, if_pos (by rw [h1, h2, n3_le (by omega) (by omega)]; omega)]
    simp only [ske]; rw [← h2, wI_own]
  | f + 1, a, fu + 1, I, ha, hf, h1, h2 => by
    rw [fl_X5_readWord_0_0.eq_2, if_neg (by rw [h1, h2, n3_le (by omega) (by omega)]; omega), h2, n3_tn (by omega), fX5_isLetter]
    dsimp only [l_t, b_n3]
    by_cases hb : isL (I 2 a) = true
    · rw [if_neg (by rw [b3_0]; simp [hb]), n3_up, rwC hn f (a + 1) fu _ (by omega) (by omega) (by rw [wI_ne (by omega)]; exact h1) wI_self, wI_two, wI_row (by decide)]
      simp only [ske, hb, if_true]
    · rw [if_pos (by rw [b3_0]; simpa using hb)]
      have e : ske isL (I 2) (f + 1) a = a := by simp [ske, hb]
      rw [e, ← h2, wI_own]
theorem fX5_word {n a : Nat} {I : Iv} (J : Jv) (hn : n ≤ 300) (ha : a ≤ n) (h1 : I 1 1 = n3 n) (h2 : I 1 2 = n3 a) : fn_X5_readWord I J = (wI I 1 2 (n3 (ske isL (I 2) (n - a) a)), J) := by
  unfold fn_X5_readWord
  refine rwC hn (n - a) a _ I (by omega) ?_ h1 h2
  rw [h1, h2]; unfold mU
  rw [Int32.toInt_ofNat_of_lt (by omega), Int32.toInt_ofNat_of_lt (by omega)]; omega
/-- the reference's -/
theorem skR {J : Jv} {K : Iv → Int32 × Iv × Jv} {n : Nat} (hn : n ≤ 300) : ∀ (f a fu : Nat) (I : Iv), a + f = n → f < fu → I 78 11 = n3 n → I 78 12 = n3 a → fl_X10_here_0_0 J K fu I = K (wI I 78 12 (n3 (ske isB (I 87) f a)))
  | f, a, 0, I, _, h, _, _ => absurd h (Nat.not_lt_zero _)
  | 0, a, fu + 1, I, ha, _, h1, h2 => by
    rw [fl_X10_here_0_0.eq_2]; dsimp only [j_n]
    rw [if_pos (by rw [h1, h2, n3_le (by omega) (by omega)]; omega)]
    simp only [ske]; rw [← h2, wI_own]
  | f + 1, a, fu + 1, I, ha, hf, h1, h2 => by
    rw [fl_X10_here_0_0.eq_2]; dsimp only [j_n, l_t]
    rw [if_neg (by rw [h1, h2, n3_le (by omega) (by omega)]; omega), h2, n3_tn (by omega)]
    by_cases hb : I 87 a = 32
    · rw [if_pos hb, n3_up, skR hn f (a + 1) fu _ (by omega) (by omega) (by rw [wI_ne (by omega)]; exact h1) wI_self, wI_two, wI_row (by decide)]
      simp only [ske, isB, hb, decide_true, if_true]
    · rw [if_neg hb]
      have e : ske isB (I 87) (f + 1) a = a := by simp [ske, isB, hb]
      rw [e, ← h2, wI_own]
def hrV (T : Nat → Int32) (n s : Nat) : Int32 := if s < n then T s else -1
theorem fX10_here {n a : Nat} {I : Iv} (J : Jv) (hn : n ≤ 300) (ha : a ≤ n) (h1 : I 78 11 = n3 n) (h2 : I 78 12 = n3 a) : fn_X10_here I J = (hrV (I 87) n (ske isB (I 87) (n - a) a), wI I 78 12 (n3 (ske isB (I 87) (n - a) a)), J) := by
  unfold fn_X10_here
  have hb := ske_bd isB (I 87) (n - a) a
  rw [skR hn (n - a) a _ I (by omega) (by
    rw [h1, h2]; unfold mU
    rw [Int32.toInt_ofNat_of_lt (by omega), Int32.toInt_ofNat_of_lt (by omega)]; omega) h1 h2]
  rw [wI_self, wI_ne (by omega), h1, n3_tn (by omega), wI_row (by decide)]
  unfold hrV
  by_cases q : ske isB (I 87) (n - a) a < n
  · rw [if_neg (by rw [n3_le (by omega) (by omega)]; omega), if_pos q]
  · rw [if_pos (by rw [n3_le (by omega) (by omega)]; omega), if_neg q]
theorem twR {J : Jv} {K : Iv → Iv × Jv} {n : Nat} (hn : n ≤ 300) : ∀ (f a fu : Nat) (I : Iv), a + f = n → f < fu → I 78 11 = n3 n → I 78 12 = n3 a → fl_X10_takeWord_13_0 J K fu I = K (wI I 78 12 (n3 (ske isL (I 87) f a)))
  | f, a, 0, I, _, h, _, _ => absurd h (Nat.not_lt_zero _)
  | 0, a, fu + 1, I, ha, _, h1, h2 => by
    rw [fl_X10_takeWord_13_0.eq_2]; dsimp only [j_n]
    rw [if_pos (by rw [h1, h2, n3_le (by omega) (by omega)]; omega)]
    simp only [ske]; rw [← h2, wI_own]
  | f + 1, a, fu + 1, I, ha, hf, h1, h2 => by
    rw [fl_X10_takeWord_13_0.eq_2]; dsimp only [j_n, l_t]
    rw [if_neg (by rw [h1, h2, n3_le (by omega) (by omega)]; omega), h2, n3_tn (by omega), fX10_in3 _ _ _ 97 122 (by decide) (by decide)]
    dsimp only [b_n3]
    by_cases hb : isL (I 87 a) = true
    · rw [if_neg (by rw [b3_0]; unfold isL at hb; simp [hb]), n3_up, twR hn f (a + 1) fu _ (by omega) (by omega) (by rw [wI_ne (by omega)]; exact h1) wI_self, wI_two, wI_row (by decide)]
      simp only [ske, hb, if_true]
    · rw [if_pos (by rw [b3_0]; unfold isL at hb; simpa using hb)]
      have e : ske isL (I 87) (f + 1) a = a := by simp [ske, hb]
      rw [e, ← h2, wI_own]
theorem fX10_takeWord {n a : Nat} {I : Iv} (J : Jv) (hn : n ≤ 300) (ha : a ≤ n) (h1 : I 78 11 = n3 n) (h2 : I 78 12 = n3 a) :
    fn_X10_takeWord I J = (wI (wI (wI I 78 13 (n3 (ske isB (I 87) (n - a) a))) 78 12 (n3 (ske isL (I 87) (n - ske isB (I 87) (n - a) a) (ske isB (I 87) (n - a) a)))) 78 14 (n3 (ske isL (I 87) (n - ske isB (I 87) (n - a) a) (ske isB (I 87) (n - a) a) - ske isB (I 87) (n - a) a)), J) := by
  unfold fn_X10_takeWord
  rw [fX10_here J hn ha h1 h2]
  have hb := ske_bd isB (I 87) (n - a) a
  generalize ske isB (I 87) (n - a) a = s at *
  dsimp only [b_n3, l_t]
  have hw := ske_bd isL (I 87) (n - s) s
  have e1 : wI (wI I 78 12 (n3 s)) 78 13 (wI I 78 12 (n3 s) 78 12) = wI (wI I 78 13 (n3 s)) 78 12 (n3 s) := by
    rw [wI_self]; funext b j; simp only [wI]
    by_cases q1 : b = 78 ∧ j = 12 <;> by_cases q2 : b = 78 ∧ j = 13 <;> simp [q1, q2] <;> omega
  simp only [e1]
  rw [twR hn (n - s) s _ _ (by omega) (by
    rw [wI_ne (by omega), wI_ne (by omega), h1, wI_self]; unfold mU
    rw [Int32.toInt_ofNat_of_lt (by omega), Int32.toInt_ofNat_of_lt (by omega)]; omega) (by rw [wI_ne (by omega), wI_ne (by omega)]; exact h1) wI_self]
  rw [wI_two, wI_row (by decide), wI_row (by decide), wI_self, wI_ne (by omega), wI_self, n3_sub hw.1]
