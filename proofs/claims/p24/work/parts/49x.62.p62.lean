/-- the reference reads a number -/
theorem num_R {n a : Nat} {I : Iv} (J : Jv) (lo hi : Int32) (hn : n ≤ 300) (ha : a ≤ n) (h1 : I 78 11 = n3 n) (h2 : I 78 12 = n3 a) (h3 : I 78 15 = 0) :
    ∃ (v : Int32) (I' : Iv), fn_X10_takeNumber lo hi I J = (v, I', J) ∧ SmR I I' ∧ ((nuF (I 87) n a lo hi = 0 ∧ v = nuV (I 87) n a ∧ I' 78 15 = 0 ∧ I' 78 12 = n3 (nuE (I 87) n a) ∧ I' 78 16 = I 78 16) ∨ (¬ nuF (I 87) n a lo hi = 0 ∧ I' 78 15 = nuF (I 87) n a lo hi ∧ I' 78 16 = n3 (nuS (I 87) n a))) := by
  have hb := nu_bd (I 87) ha
  unfold fn_X10_takeNumber
  rw [fX10_here J hn ha h1 h2]
  change ∃ (v : Int32) (I' : Iv), b_n3 (hrV (I 87) n (nuS (I 87) n a), wI I 78 12 (n3 (nuS (I 87) n a)), J) _ = _ ∧ _
  have eE : nuE (I 87) n a = ske isF (I 87) (n - nuS (I 87) n a) (nuS (I 87) n a) := rfl
  have eV : nuV (I 87) n a = dvC (I 87) (nuS (I 87) n a) (n - nuS (I 87) n a) (nuS (I 87) n a) 0 := rfl
  unfold nuF
  generalize nuS (I 87) n a = s at *
  simp only [b_n3_mk, l_t, wI_self]
  have f15 : wI (wI I 78 12 (n3 s)) 78 13 (n3 s) 78 15 = 0 := by rw [wI_ne (by omega), wI_ne (by omega)]; exact h3
  have f12 : wI (wI I 78 12 (n3 s)) 78 13 (n3 s) 78 12 = n3 s := by rw [wI_ne (by omega), wI_self]
  have f11 : wI (wI I 78 12 (n3 s)) 78 13 (n3 s) 78 11 = n3 n := by rw [wI_ne (by omega), wI_ne (by omega)]; exact h1
  have f13 : wI (wI I 78 12 (n3 s)) 78 13 (n3 s) 78 13 = n3 s := wI_self
  have f16 : wI (wI I 78 12 (n3 s)) 78 13 (n3 s) 78 16 = I 78 16 := by rw [wI_ne (by omega), wI_ne (by omega)]
  have r87 : wI (wI I 78 12 (n3 s)) 78 13 (n3 s) 87 = I 87 := by rw [wI_row (by decide), wI_row (by decide)]
  have sm : SmR I (wI (wI I 78 12 (n3 s)) 78 13 (n3 s)) := smR_w (smR_w smR_rfl (by omega)) (by omega)
  generalize wI (wI I 78 12 (n3 s)) 78 13 (n3 s) = I9 at *
  rw [fX10_in3 _ _ _ 48 57 (by decide) (by decide)]
  simp only [b_n3_mk]
  by_cases hg : s < n ∧ isF (I 87 s) = true
  · have hd : decide (48 ≤ hrV (I 87) n s ∧ hrV (I 87) n s ≤ 57) = true := by
      unfold hrV; rw [if_pos hg.1]; exact hg.2
    have he : s < nuE (I 87) n a := by
      rw [eE, show n - s = (n - s - 1) + 1 by omega]
      simp only [ske, hg.2, if_true]
      have := ske_bd isF (I 87) (n - s - 1) (s + 1); omega
    rw [hd, fX10_want_1 f15 (by decide)]
    simp only [b_n3_mk]
    rw [if_neg (by decide), tnR hn (n - s) s _ 0 _ (by omega) (by
      rw [f11, f12]; unfold mU
      rw [Int32.toInt_ofNat_of_lt (by omega), Int32.toInt_ofNat_of_lt (by omega)]; omega) f11 f12, r87, ← eE]
    have hq : nuE (I 87) n a ≤ s + 3 → nuV (I 87) n a = dvR (I 87) (n - s) s 0 := fun z => by
      rw [eV]; exact dv_eq (n - s) s 0 (Nat.le_refl _) (by rw [← eE]; exact z) (by decide) (by rw [Nat.sub_self]; decide)
    generalize nuE (I 87) n a = e at *
    generalize nuV (I 87) n a = v at *
    generalize dvR (I 87) (n - s) s 0 = vr at *
    have g15 : wI I9 78 12 (n3 e) 78 15 = 0 := by rw [wI_ne (by omega)]; exact f15
    have g13 : wI I9 78 12 (n3 e) 78 13 = n3 s := by rw [wI_ne (by omega)]; exact f13
    have g16 : wI I9 78 12 (n3 e) 78 16 = I 78 16 := by rw [wI_ne (by omega)]; exact f16
    have g12 : wI I9 78 12 (n3 e) 78 12 = n3 e := wI_self
    have sm2 : SmR I (wI I9 78 12 (n3 e)) := smR_w sm (by omega)
    generalize wI I9 78 12 (n3 e) = I27 at *
    dsimp only [j_n]
    rw [g12, g13]
    have k4 : (4 : Int32) ≤ n3 e - n3 s ↔ 4 ≤ e - s := by rw [n3_sub (by omega)]; exact n3_le (a := 4) (by omega) (by omega)
    rw [if_neg (show ¬ e = s by omega)]
    have bad : ∃ (v' : Int32) (I' : Iv), (fn_X10_want 0 2 (n3 s) I27 J).1 = 0 ∧ ((vr, (fn_X10_want 0 2 (n3 s) I27 J).2.1, J) : Int32 × Iv × Jv) = (v', I', J) ∧ SmR I I' ∧ I' 78 15 = 2 ∧ I' 78 16 = n3 s := by
      rw [fX10_want_0 g15 (by decide)]
      exact ⟨vr, wI (wI I27 78 15 2) 78 16 (n3 s), rfl, rfl, smR_w (smR_w sm2 (by omega)) (by omega), by rw [wI_ne (by omega), wI_self], wI_self⟩
    by_cases q4 : 4 ≤ e - s
    · rw [if_pos (k4.mpr q4), if_pos (Or.inl (by omega))]
      obtain ⟨v', I', -, b2, b3, b4, b5⟩ := bad
      exact ⟨v', I', b2, b3, Or.inr ⟨by decide, b4, b5⟩⟩
    · rw [if_neg (fun y => q4 (k4.mp y)), fX10_in3 _ _ _ lo hi rfl rfl]
      simp only [b_n3_mk]
      have hv := hq (by omega)
      subst hv
      by_cases z : lo ≤ v ∧ v ≤ hi
      · rw [decide_eq_true z, if_neg (by decide), fX10_want_1 g15 (by decide), if_neg (by
          rintro (y | y | y)
          · omega
          · exact absurd z.1 (Int32.not_le.mpr y)
          · exact absurd z.2 (Int32.not_le.mpr y))]
        exact ⟨v, I27, rfl, sm2, Or.inl ⟨rfl, rfl, g15, g12, g16⟩⟩
      · rw [decide_eq_false z, if_pos (show b3 false = 0 from rfl), if_pos (by
          by_cases y : lo ≤ v
          · exact Or.inr (Or.inr (Int32.not_le.mp (fun w => z ⟨y, w⟩)))
          · exact Or.inr (Or.inl (Int32.not_le.mp y)))]
        obtain ⟨v', I', -, b2, b3, b4, b5⟩ := bad
        exact ⟨v', I', b2, b3, Or.inr ⟨by decide, b4, b5⟩⟩
  · have hd : decide (48 ≤ hrV (I 87) n s ∧ hrV (I 87) n s ≤ 57) = false := by
      unfold hrV
      by_cases q : s < n
      · rw [if_pos q]
        have : ¬ isF (I 87 s) = true := fun z => hg ⟨q, z⟩
        unfold isF at this; simpa using this
      · rw [if_neg q]; decide
    have he : nuE (I 87) n a = s := by
      rw [eE]
      by_cases q : s < n
      · rw [show n - s = (n - s - 1) + 1 by omega]
        have : ¬ isF (I 87 s) = true := fun z => hg ⟨q, z⟩
        simp only [ske, if_neg this]
      · rw [show n - s = 0 by omega]; rfl
    rw [hd, f12, if_pos he]
    have e0 : b3 false = 0 := rfl
    rw [e0, fX10_want_0 f15 (by decide)]
    simp only [b_n3_mk]
    first | rw [if_pos trivial] | rw [if_pos rfl]
    exact ⟨0, _, rfl, smR_w (smR_w sm (by omega)) (by omega), Or.inr ⟨by decide, by rw [wI_ne (by omega), wI_self], wI_self⟩⟩
/-! ===== words ===== -/
/-- the text from s on is the word w, and no more letters -/
def isW (T : Nat → Int32) (s l : Nat) (w : List Int32) : Bool := decide (l = w.length) && (List.range w.length).all (fun k => decide (T (s + k) = w.getD k 0))
theorem all_step {p : Nat → Bool} {m k : Nat} (h : k < m) : ((List.range' k (m - k)).all p) = (p k && (List.range' (k + 1) (m - (k + 1))).all p) := by
  rw [show m - k = (m - (k + 1)) + 1 by omega, List.range'_succ]; simp
theorem iwC {J : Jv} {I : Iv} {j s : Nat} {K : Int32 → Int32 × Iv × Jv} (hj : j < 14) (hs : s ≤ 300) (hK : K (n3 (sB j).length) = (1, I, J)) : ∀ (f k fu : Nat), k + f = (sB j).length → f < fu →
    fl_X5_isWord_17_0 I J (n3 s) j K fu (n3 k) = (b3 ((List.range' k f).all (fun k => decide (I 2 (s + k) = (sB j).getD k 0))), I, J) := by
  have hl : (sB j).length ≤ 5 := by
    rcases (show j = 0 ∨ j = 1 ∨ j = 2 ∨ j = 3 ∨ j = 4 ∨ j = 5 ∨ j = 6 ∨ j = 7 ∨ j = 8 ∨ j = 9 ∨ j = 10 ∨ j = 11 ∨ j = 12 ∨ j = 13 by omega) with rfl | rfl | rfl | rfl | rfl | rfl | rfl | rfl | rfl | rfl | rfl | rfl | rfl | rfl <;> decide
  intro f
  induction f with
  | zero =>
    intro k fu hk hf
    cases fu with
    | zero => omega
    | succ fu =>
      rw [fl_X5_isWord_17_0.eq_2]; dsimp only [l_t]
      rw [if_pos (by rw [n3_le (by omega) (by omega)]; omega), show k = (sB j).length by omega, hK]
      rfl
  | succ f ih =>
    intro k fu hk hf
    cases fu with
    | zero => omega
    | succ fu =>
      rw [fl_X5_isWord_17_0.eq_2]; dsimp only [l_t]
      rw [if_neg (by rw [n3_le (by omega) (by omega)]; omega), n3_tn (by omega), n3_add, n3_tn (by omega), n3_up, ih (k + 1) fu (by omega) (by omega)]
      rw [List.range'_succ]
      by_cases q : I 2 (s + k) = (sB j).getD k 0
      · rw [if_pos q]; simp only [List.all_cons, q, decide_true, Bool.true_and]
      · rw [if_neg q]; simp only [List.all_cons, q, decide_false, Bool.false_and]; rfl
