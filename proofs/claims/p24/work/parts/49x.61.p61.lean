/-! ===== numbers, as both read them ===== -/
theorem fX10_want_f {good number where_ : Int32} {I : Iv} {J : Jv} (h : ¬ I 78 15 = 0) : fn_X10_want good number where_ I J = (0, I, J) := by
  unfold fn_X10_want
  dsimp only [j_n, l_t]
  by_cases hg : good = 0
  · rw [if_pos hg, if_neg h, if_neg h]
  · rw [if_neg hg, if_neg h]
theorem fX10_want_1 {good number where_ : Int32} {I : Iv} {J : Jv} (h : I 78 15 = 0) (hg : ¬ good = 0) : fn_X10_want good number where_ I J = (1, I, J) := by
  unfold fn_X10_want
  dsimp only [j_n, l_t]
  rw [if_neg hg, if_pos h]
theorem fX10_want_0 {number where_ : Int32} {I : Iv} {J : Jv} (h : I 78 15 = 0) (hn : ¬ number = 0) : fn_X10_want 0 number where_ I J = (0, wI (wI I 78 15 number) 78 16 where_, J) := by
  unfold fn_X10_want
  dsimp only [j_n, l_t]
  rw [if_pos rfl, if_pos h, if_neg (by rw [wI_ne (by omega), wI_self]; exact hn)]
/-- what stays where a number, a word or an end is read -/
def SmC (I I' : Iv) : Prop := (∀ b, b ≠ 1 → I' b = I b) ∧ ∀ k, k ≠ 2 → k ≠ 3 → k ≠ 4 → I' 1 k = I 1 k
def SmR (I I' : Iv) : Prop := (∀ b, b ≠ 78 → I' b = I b) ∧ ∀ k, k ≠ 12 → k ≠ 13 → k ≠ 14 → k ≠ 15 → k ≠ 16 → I' 78 k = I 78 k
theorem smC_rfl {I : Iv} : SmC I I := ⟨fun _ _ => rfl, fun _ _ _ _ => rfl⟩
theorem smR_rfl {I : Iv} : SmR I I := ⟨fun _ _ => rfl, fun _ _ _ _ _ _ => rfl⟩
theorem SmC.tr {I I1 I2 : Iv} (h : SmC I I1) (k : SmC I1 I2) : SmC I I2 := ⟨fun b hb => (k.1 b hb).trans (h.1 b hb), fun j a b c => (k.2 j a b c).trans (h.2 j a b c)⟩
theorem SmR.tr {I I1 I2 : Iv} (h : SmR I I1) (k : SmR I1 I2) : SmR I I2 := ⟨fun b hb => (k.1 b hb).trans (h.1 b hb), fun j a b c d e => (k.2 j a b c d e).trans (h.2 j a b c d e)⟩
theorem smC_w {I I1 : Iv} {k : Nat} {v : Int32} (h : SmC I I1) (hk : k = 2 ∨ k = 3 ∨ k = 4) : SmC I (wI I1 1 k v) := ⟨fun b hb => by rw [wI_row hb]; exact h.1 b hb, fun j a b c => by rw [wI_ne (by omega)]; exact h.2 j a b c⟩
theorem smR_w {I I1 : Iv} {k : Nat} {v : Int32} (h : SmR I I1) (hk : k = 12 ∨ k = 13 ∨ k = 14 ∨ k = 15 ∨ k = 16) : SmR I (wI I1 78 k v) := ⟨fun b hb => by rw [wI_row hb]; exact h.1 b hb, fun j a b c d e => by rw [wI_ne (by omega)]; exact h.2 j a b c d e⟩
def dvC (T : Nat → Int32) (s : Nat) : Nat → Nat → Int32 → Int32
  | 0, _, x => x
  | f + 1, a, x => if isF (T a) then dvC T s f (a + 1) (if 3 ≤ a - s then x else x * 10 + (T a - 48)) else x
def dvR (T : Nat → Int32) : Nat → Nat → Int32 → Int32
  | 0, _, x => x
  | f + 1, a, x => if isF (T a) then dvR T f (a + 1) (if x ≤ 99999 then 10 * x + T a - 48 else x) else x
theorem dvC_congr {T T' : Nat → Int32} {s : Nat} : ∀ (f a : Nat) (x : Int32), (∀ k, a ≤ k → k < a + f → T k = T' k) → dvC T s f a x = dvC T' s f a x
  | 0, a, x, _ => rfl
  | f + 1, a, x, h => by
    simp only [dvC]
    rw [h a (Nat.le_refl _) (by omega), dvC_congr f (a + 1) _ (fun k h1 h2 => h k (by omega) (by omega))]
theorem digit {x t : Int32} (h0 : 0 ≤ x.toInt) (h1 : x.toInt ≤ 99) (ht : isF t = true) : (x * 10 + (t - 48)).toInt = x.toInt * 10 + (t.toInt - 48) ∧ 48 ≤ t.toInt ∧ t.toInt ≤ 57 := by
  unfold isF at ht
  have ht := of_decide_eq_true ht
  have b0 := Int32.le_iff_toInt_le.mp ht.1
  have b1 := Int32.le_iff_toInt_le.mp ht.2
  have c48 : (48 : Int32).toInt = 48 := by decide
  have c57 : (57 : Int32).toInt = 57 := by decide
  have c10 : (10 : Int32).toInt = 10 := by decide
  rw [c48] at b0; rw [c57] at b1
  have e1 : (x * 10).toInt = x.toInt * 10 := by
    rw [Int32.toInt_mul, c10]; apply Int.bmod_eq_of_le <;> omega
  have e2 : (t - 48).toInt = t.toInt - 48 := by
    rw [Int32.toInt_sub, c48]; apply Int.bmod_eq_of_le <;> omega
  refine ⟨?_, b0, b1⟩
  rw [Int32.toInt_add, e1, e2]; apply Int.bmod_eq_of_le <;> omega
def pw9 : Nat → Int
  | 0 => 0
  | 1 => 9
  | 2 => 99
  | _ => 999
theorem dv_eq {T : Nat → Int32} {s : Nat} : ∀ (f a : Nat) (x : Int32), s ≤ a → ske isF T f a ≤ s + 3 → 0 ≤ x.toInt → x.toInt ≤ pw9 (a - s) → dvC T s f a x = dvR T f a x
  | 0, a, x, _, _, _, _ => rfl
  | f + 1, a, x, hs, he, h0, h1 => by
    simp only [dvC, dvR]
    by_cases q : isF (T a) = true
    · rw [if_pos q, if_pos q]
      simp only [ske, q, if_true] at he
      have hb := ske_bd isF T f (a + 1)
      have hx : x.toInt ≤ 99 := by
        rcases (show a - s = 0 ∨ a - s = 1 ∨ a - s = 2 by omega) with e | e | e <;> rw [e] at h1 <;> simp [pw9] at h1 <;> omega
      obtain ⟨d1, d2, d3⟩ := digit h0 hx q
      have c9 : (99999 : Int32).toInt = 99999 := by decide
      rw [if_neg (by omega), if_pos (by rw [Int32.le_iff_toInt_le, c9]; omega)]
      have e : 10 * x + T a - 48 = x * 10 + (T a - 48) := by grind
      rw [e]
      refine dv_eq f (a + 1) _ (by omega) he (by rw [d1]; omega) ?_
      rw [d1]
      rcases (show a - s = 0 ∨ a - s = 1 ∨ a - s = 2 by omega) with e | e | e <;> rw [e] at h1 <;> rw [show a + 1 - s = (a - s) + 1 by omega, e] <;> simp [pw9] at h1 ⊢ <;> omega
    · rw [if_neg q, if_neg q]
theorem rnC {J : Jv} {K : Int32 → Iv → Int32 × Iv × Jv} {n s : Nat} (hn : n ≤ 300) : ∀ (f a fu : Nat) (x : Int32) (I : Iv), a + f = n → s ≤ a → f < fu → I 1 1 = n3 n → I 1 2 = n3 a → fl_X5_readNumber_21_0 J (n3 s) K fu x I = K (dvC (I 2) s f a x) (wI I 1 2 (n3 (ske isF (I 2) f a)))
  | f, a, 0, x, I, _, _, h, _, _ => absurd h (Nat.not_lt_zero _)
  | 0, a, fu + 1, x, I, ha, _, _, h1, h2 => by
    rw [fl_X5_readNumber_21_0.eq_2]; dsimp only [j_n]
    rw [if_pos (by rw [h1, h2, n3_le (by omega) (by omega)]; omega)]
    simp only [ske, dvC]; rw [← h2, wI_own]
  | f + 1, a, fu + 1, x, I, ha, hs, hf, h1, h2 => by
    rw [fl_X5_readNumber_21_0.eq_2]; dsimp only [j_n, l_t]
    rw [if_neg (by rw [h1, h2, n3_le (by omega) (by omega)]; omega), h2, n3_tn (by omega), fX5_isFigure]
    dsimp only [b_n3]
    by_cases hb : isF (I 2 a) = true
    · rw [if_neg (by rw [b3_0]; simp [hb]), n3_up]
      have k3 : (3 : Int32) ≤ n3 a - n3 s ↔ 3 ≤ a - s := by rw [n3_sub hs]; exact n3_le (a := 3) (by omega) (by omega)
      have r2 : ∀ v, (wI I 1 2 v) 2 = I 2 := fun v => wI_row (by decide)
      by_cases q : 3 ≤ a - s
      · rw [if_pos (k3.mpr q), rnC hn f (a + 1) fu _ _ (by omega) (by omega) (by omega) (by rw [wI_ne (by omega)]; exact h1) wI_self, wI_two, r2]
        simp only [ske, dvC, hb, if_true, if_pos q]
      · rw [if_neg (fun z => q (k3.mp z)), rnC hn f (a + 1) fu _ _ (by omega) (by omega) (by omega) (by rw [wI_ne (by omega)]; exact h1) wI_self, wI_two, r2]
        simp only [ske, dvC, hb, if_true, if_neg q]
    · rw [if_pos (by rw [b3_0]; simpa using hb)]
      have e : ske isF (I 2) (f + 1) a = a := by simp [ske, hb]
      have e2 : dvC (I 2) s (f + 1) a x = x := by simp [dvC, hb]
      rw [e, e2, ← h2, wI_own]
theorem tnR {J : Jv} {K : Int32 → Iv → Int32 × Iv × Jv} {n : Nat} (hn : n ≤ 300) : ∀ (f a fu : Nat) (x : Int32) (I : Iv), a + f = n → f < fu → I 78 11 = n3 n → I 78 12 = n3 a → fl_X10_takeNumber_41_0 J K fu x I = K (dvR (I 87) f a x) (wI I 78 12 (n3 (ske isF (I 87) f a)))
  | f, a, 0, x, I, _, h, _, _ => absurd h (Nat.not_lt_zero _)
  | 0, a, fu + 1, x, I, ha, _, h1, h2 => by
    rw [fl_X10_takeNumber_41_0.eq_2]; dsimp only [j_n]
    rw [if_pos (by rw [h1, h2, n3_le (by omega) (by omega)]; omega)]
    simp only [ske, dvR]; rw [← h2, wI_own]
  | f + 1, a, fu + 1, x, I, ha, hf, h1, h2 => by
    rw [fl_X10_takeNumber_41_0.eq_2]; dsimp only [j_n, l_t]
    rw [if_neg (by rw [h1, h2, n3_le (by omega) (by omega)]; omega), h2, n3_tn (by omega), fX10_in3 _ _ _ 48 57 (by decide) (by decide)]
    dsimp only [b_n3]
    have r2 : ∀ v, (wI I 78 12 v) 87 = I 87 := fun v => wI_row (by decide)
    by_cases hb : isF (I 87 a) = true
    · rw [if_neg (by rw [b3_0]; unfold isF at hb; simp [hb]), n3_up]
      by_cases q : x ≤ 99999
      · rw [if_pos q, tnR hn f (a + 1) fu _ _ (by omega) (by omega) (by rw [wI_ne (by omega)]; exact h1) wI_self, wI_two, r2]
        simp only [ske, dvR, hb, if_true, if_pos q]
      · rw [if_neg q, tnR hn f (a + 1) fu _ _ (by omega) (by omega) (by rw [wI_ne (by omega)]; exact h1) wI_self, wI_two, r2]
        simp only [ske, dvR, hb, if_true, if_neg q]
    · rw [if_pos (by rw [b3_0]; unfold isF at hb; simpa using hb)]
      have e : ske isF (I 87) (f + 1) a = a := by simp [ske, hb]
      have e2 : dvR (I 87) (f + 1) a x = x := by simp [dvR, hb]
      rw [e, e2, ← h2, wI_own]
/-- a number from a on: where it begins, ends, its value, its fault -/
def nuS (T : Nat → Int32) (n a : Nat) : Nat := ske isB T (n - a) a
def nuE (T : Nat → Int32) (n a : Nat) : Nat := ske isF T (n - nuS T n a) (nuS T n a)
def nuV (T : Nat → Int32) (n a : Nat) : Int32 := dvC T (nuS T n a) (n - nuS T n a) (nuS T n a) 0
def nuF (T : Nat → Int32) (n a : Nat) (lo hi : Int32) : Int32 := if nuE T n a = nuS T n a then 1 else if 3 < nuE T n a - nuS T n a ∨ nuV T n a < lo ∨ hi < nuV T n a then 2 else 0
theorem nu_bd (T : Nat → Int32) {n a : Nat} (h : a ≤ n) : a ≤ nuS T n a ∧ nuS T n a ≤ nuE T n a ∧ nuE T n a ≤ n := by
  have h1 := ske_bd isB T (n - a) a
  have h2 := ske_bd isF T (n - nuS T n a) (nuS T n a)
  unfold nuE at *
  unfold nuS at *
  omega
/-- the class reads a number -/
theorem num_C {n a : Nat} {I : Iv} (J : Jv) (lo hi : Int32) (hn : n ≤ 300) (ha : a ≤ n) (h1 : I 1 1 = n3 n) (h2 : I 1 2 = n3 a) (h3 : I 1 3 = 0) :
    ∃ (v : Int32) (I' : Iv), fn_X5_readNumber lo hi I J = (v, I', J) ∧ SmC I I' ∧ ((nuF (I 2) n a lo hi = 0 ∧ v = nuV (I 2) n a ∧ I' 1 3 = 0 ∧ I' 1 2 = n3 (nuE (I 2) n a) ∧ I' 1 4 = I 1 4) ∨ (¬ nuF (I 2) n a lo hi = 0 ∧ I' 1 3 = nuF (I 2) n a lo hi ∧ I' 1 4 = n3 (nuS (I 2) n a) ∧ I' 1 2 = n3 (nuE (I 2) n a))) := by
  have hb := nu_bd (I 2) ha
  unfold fn_X5_readNumber
  rw [if_pos h3, fX5_skip J hn ha h1 h2]
  change ∃ (v : Int32) (I' : Iv), b_n2 (wI I 1 2 (n3 (nuS (I 2) n a)), J) _ = _ ∧ _
  have eE : nuE (I 2) n a = ske isF (I 2) (n - nuS (I 2) n a) (nuS (I 2) n a) := rfl
  have eV : nuV (I 2) n a = dvC (I 2) (nuS (I 2) n a) (n - nuS (I 2) n a) (nuS (I 2) n a) 0 := rfl
  unfold nuF
  generalize nuS (I 2) n a = s at *
  dsimp only [b_n2, l_t]
  have r2 : (wI I 1 2 (n3 s)) 2 = I 2 := wI_row (by decide)
  simp only [wI_self]
  rw [rnC hn (n - s) s _ 0 _ (by omega) (Nat.le_refl _) (by
    rw [wI_ne (by omega), h1]; unfold mU
    rw [Int32.toInt_ofNat_of_lt (by omega), Int32.toInt_ofNat_of_lt (by omega)]; omega) (by rw [wI_ne (by omega)]; exact h1) wI_self, wI_two, r2, ← eE, ← eV]
  generalize nuE (I 2) n a = e at *
  generalize nuV (I 2) n a = v at *
  rw [wI_self]
  unfold fn_X5_faultAt
  dsimp only [l_t, j_n, b_n2]
  by_cases q : e = s
  · rw [if_pos (by rw [q]), if_pos q]
    refine ⟨v, _, rfl, smC_w (smC_w (smC_w smC_rfl (by omega)) (by omega)) (by omega), Or.inr ⟨by decide, ?_, ?_, ?_⟩⟩
    · rw [wI_ne (by omega), wI_self]
    · rw [wI_self]
    · rw [wI_ne (by omega), wI_ne (by omega), wI_self]
  · rw [if_neg (fun z => q ((n3_inj (by omega) (by omega)).mp z)), if_neg q]
    have k3 : (3 : Int32) < n3 e - n3 s ↔ 3 < e - s := by rw [n3_sub hb.2.1]; exact n3_lt (a := 3) (by omega) (by omega)
    by_cases z : 3 < e - s ∨ v < lo ∨ hi < v
    · rw [if_pos z]
      refine ⟨v, wI (wI (wI I 1 2 (n3 e)) 1 3 2) 1 4 (n3 s), ?_, smC_w (smC_w (smC_w smC_rfl (by omega)) (by omega)) (by omega), Or.inr ⟨by decide, ?_, ?_, ?_⟩⟩
      · by_cases z1 : 3 < e - s
        · rw [if_pos (k3.mpr z1)]
        · rw [if_neg (fun y => z1 (k3.mp y))]
          by_cases z2 : v < lo
          · rw [if_pos z2]
          · rw [if_neg z2, if_neg (by
              rcases z with z | z | z
              · exact absurd z z1
              · exact absurd z z2
              · exact Int32.not_le.mpr z)]
      · rw [wI_ne (by omega), wI_self]
      · rw [wI_self]
      · rw [wI_ne (by omega), wI_ne (by omega), wI_self]
    · rw [if_neg z]
      refine ⟨v, wI I 1 2 (n3 e), ?_, smC_w smC_rfl (by omega), Or.inl ⟨rfl, rfl, ?_, wI_self, ?_⟩⟩
      · rw [if_neg (fun y => z (Or.inl (k3.mp y))), if_neg (fun y => z (Or.inr (Or.inl y))), if_pos (Int32.not_lt.mp (fun y => z (Or.inr (Or.inr y))))]
      · rw [wI_ne (by omega)]; exact h3
      · rw [wI_ne (by omega)]
