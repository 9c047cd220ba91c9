/-! ===== where the reading stands ===== -/
abbrev Cu := Int32 × Nat
def CuC (n : Nat) (I : Iv) (c : Cu) : Prop := I 1 1 = n3 n ∧ I 1 3 = c.1 ∧ (∃ q, q ≤ n ∧ I 1 2 = n3 q ∧ (c.1 = 0 → q = c.2)) ∧ I 1 4 = (if c.1 = 0 then -1 else n3 c.2)
def CuR (n : Nat) (I : Iv) (c : Cu) : Prop := I 78 11 = n3 n ∧ I 78 15 = c.1 ∧ (c.1 = 0 → c.2 ≤ n ∧ I 78 12 = n3 c.2) ∧ I 78 16 = (if c.1 = 0 then -1 else n3 c.2)
def nuB (T : Nat → Int32) (n : Nat) (c : Cu) (lo hi : Int32) : Cu := if c.1 = 0 then (if nuF T n c.2 lo hi = 0 then (0, nuE T n c.2) else (nuF T n c.2 lo hi, nuS T n c.2)) else c
def enB (T : Nat → Int32) (n : Nat) (c : Cu) : Cu := if c.1 = 0 then (if nuS T n c.2 < n ∧ T (nuS T n c.2) = 59 then (0, nuS T n c.2 + 1) else (1, nuS T n c.2)) else c
theorem cuC_of {n : Nat} {I I' : Iv} {c : Cu} (e : I' 1 = I 1) (h : CuC n I c) : CuC n I' c := by unfold CuC; rw [e]; exact h
theorem cuR_of {n : Nat} {I I' : Iv} {c : Cu} (e : ∀ k, k ≠ 13 → k ≠ 14 → k ≠ 17 → I' 78 k = I 78 k) (h : CuR n I c) : CuR n I' c := by
  unfold CuR
  rw [e 11 (by omega) (by omega) (by omega), e 12 (by omega) (by omega) (by omega), e 15 (by omega) (by omega) (by omega), e 16 (by omega) (by omega) (by omega)]; exact h
theorem cuC_q {n : Nat} {I : Iv} {c : Cu} (h : CuC n I c) (h0 : c.1 = 0) : c.2 ≤ n ∧ I 1 2 = n3 c.2 := by
  obtain ⟨-, -, ⟨q, q1, q2, q3⟩, -⟩ := h
  rw [← q3 h0]; exact ⟨q1, q2⟩
theorem cuC_mk0 {n p : Nat} {I : Iv} (h1 : I 1 1 = n3 n) (h3 : I 1 3 = 0) (hp : p ≤ n) (h2 : I 1 2 = n3 p) (h4 : I 1 4 = -1) : CuC n I (0, p) :=
  ⟨h1, h3, ⟨p, hp, h2, fun _ => rfl⟩, by rw [if_pos rfl]; exact h4⟩
theorem cuC_mkf {n p q : Nat} {f : Int32} {I : Iv} (h1 : I 1 1 = n3 n) (hf : ¬ f = 0) (h3 : I 1 3 = f) (hq : q ≤ n) (h2 : I 1 2 = n3 q) (h4 : I 1 4 = n3 p) : CuC n I (f, p) :=
  ⟨h1, h3, ⟨q, hq, h2, fun z => absurd z hf⟩, by rw [if_neg hf]; exact h4⟩
theorem cuR_mk0 {n p : Nat} {I : Iv} (h1 : I 78 11 = n3 n) (h3 : I 78 15 = 0) (hp : p ≤ n) (h2 : I 78 12 = n3 p) (h4 : I 78 16 = -1) : CuR n I (0, p) :=
  ⟨h1, h3, fun _ => ⟨hp, h2⟩, by rw [if_pos rfl]; exact h4⟩
theorem cuR_mkf {n p : Nat} {f : Int32} {I : Iv} (h1 : I 78 11 = n3 n) (hf : ¬ f = 0) (h3 : I 78 15 = f) (h4 : I 78 16 = n3 p) : CuR n I (f, p) :=
  ⟨h1, h3, fun z => absurd z hf, by rw [if_neg hf]; exact h4⟩
theorem nuB_0 {T : Nat → Int32} {n : Nat} {c : Cu} {lo hi : Int32} (h : (nuB T n c lo hi).1 = 0) : c.1 = 0 := by
  unfold nuB at h
  by_cases q : c.1 = 0
  · exact q
  · rw [if_neg q] at h; exact h
theorem enB_0 {T : Nat → Int32} {n : Nat} {c : Cu} (h : (enB T n c).1 = 0) : c.1 = 0 := by
  unfold enB at h
  by_cases q : c.1 = 0
  · exact q
  · rw [if_neg q] at h; exact h
theorem nuB_up {T : Nat → Int32} {n : Nat} {c : Cu} {lo hi : Int32} (hc : c.2 ≤ n) (h : (nuB T n c lo hi).1 = 0) : c.2 ≤ (nuB T n c lo hi).2 ∧ (nuB T n c lo hi).2 ≤ n := by
  have h0 := nuB_0 h
  have hb := nu_bd T hc
  unfold nuB at h ⊢
  rw [if_pos h0] at h ⊢
  by_cases q : nuF T n c.2 lo hi = 0
  · rw [if_pos q]; exact ⟨by omega, hb.2.2⟩
  · rw [if_neg q] at h; exact absurd h q
theorem enB_up {T : Nat → Int32} {n : Nat} {c : Cu} (hc : c.2 ≤ n) (h : (enB T n c).1 = 0) : c.2 < (enB T n c).2 ∧ (enB T n c).2 ≤ n := by
  have h0 := enB_0 h
  have hb := nu_bd T hc
  unfold enB at h ⊢
  rw [if_pos h0] at h ⊢
  by_cases q : nuS T n c.2 < n ∧ T (nuS T n c.2) = 59
  · rw [if_pos q]; exact ⟨by show c.2 < nuS T n c.2 + 1; omega, by show nuS T n c.2 + 1 ≤ n; omega⟩
  · rw [if_neg q] at h; exact absurd h (show ¬ (1 : Int32) = 0 by decide)
theorem nuB_lo {T : Nat → Int32} {n : Nat} {c : Cu} {lo lo' hi : Int32} (h : c.1 = 0 → lo = lo') : nuB T n c lo hi = nuB T n c lo' hi := by
  by_cases q : c.1 = 0
  · rw [h q]
  · unfold nuB; rw [if_neg q, if_neg q]
theorem numC {n : Nat} {c : Cu} {I : Iv} (J : Jv) (lo hi : Int32) (hn : n ≤ 300) (h : CuC n I c) :
    ∃ (v : Int32) (I' : Iv), fn_X5_readNumber lo hi I J = (v, I', J) ∧ SmC I I' ∧ CuC n I' (nuB (I 2) n c lo hi) ∧ ((nuB (I 2) n c lo hi).1 = 0 → v = nuV (I 2) n c.2) := by
  by_cases h0 : c.1 = 0
  · obtain ⟨ha, h2⟩ := cuC_q h h0
    have h3 : I 1 3 = 0 := h.2.1.trans h0
    have h4 : I 1 4 = -1 := by rw [h.2.2.2, if_pos h0]
    obtain ⟨v, I', e, sm, z⟩ := num_C J lo hi hn ha h.1 h2 h3
    have hb := nu_bd (I 2) ha
    have h1' : I' 1 1 = n3 n := (sm.2 1 (by omega) (by omega) (by omega)).trans h.1
    refine ⟨v, I', e, sm, ?_, ?_⟩
    · unfold nuB; rw [if_pos h0]
      rcases z with ⟨z1, z2, z3, z4, z5⟩ | ⟨z1, z2, z3, z4⟩
      · rw [if_pos z1]; exact cuC_mk0 h1' z3 hb.2.2 z4 (z5.trans h4)
      · rw [if_neg z1]; exact cuC_mkf h1' z1 z2 hb.2.2 z4 z3
    · unfold nuB; rw [if_pos h0]
      rcases z with ⟨z1, z2, -⟩ | ⟨z1, -⟩
      · exact fun _ => z2
      · rw [if_neg z1]; exact fun k => absurd k z1
  · refine ⟨0, I, ?_, smC_rfl, ?_, ?_⟩
    · unfold fn_X5_readNumber; rw [if_neg (by rw [h.2.1]; exact h0)]
    · unfold nuB; rw [if_neg h0]; exact h
    · unfold nuB; rw [if_neg h0]; exact fun k => absurd k h0
theorem numR {n : Nat} {c : Cu} {I : Iv} (J : Jv) (lo hi : Int32) (hn : n ≤ 300) (h : CuR n I c) (h0 : c.1 = 0) :
    ∃ (v : Int32) (I' : Iv), fn_X10_takeNumber lo hi I J = (v, I', J) ∧ SmR I I' ∧ CuR n I' (nuB (I 87) n c lo hi) ∧ ((nuB (I 87) n c lo hi).1 = 0 → v = nuV (I 87) n c.2) := by
  obtain ⟨ha, h2⟩ := h.2.2.1 h0
  have h3 : I 78 15 = 0 := h.2.1.trans h0
  have h4 : I 78 16 = -1 := by rw [h.2.2.2, if_pos h0]
  obtain ⟨v, I', e, sm, z⟩ := num_R J lo hi hn ha h.1 h2 h3
  have hb := nu_bd (I 87) ha
  have h1' : I' 78 11 = n3 n := (sm.2 11 (by omega) (by omega) (by omega) (by omega) (by omega)).trans h.1
  refine ⟨v, I', e, sm, ?_, ?_⟩
  · unfold nuB; rw [if_pos h0]
    rcases z with ⟨z1, z2, z3, z4, z5⟩ | ⟨z1, z2, z3⟩
    · rw [if_pos z1]; exact cuR_mk0 h1' z3 hb.2.2 z4 (z5.trans h4)
    · rw [if_neg z1]; exact cuR_mkf h1' z1 z2 z3
  · unfold nuB; rw [if_pos h0]
    rcases z with ⟨z1, z2, -⟩ | ⟨z1, -⟩
    · exact fun _ => z2
    · rw [if_neg z1]; exact fun k => absurd k z1
/-- the ends of clauses -/
def SmD (I I' : Iv) : Prop := (∀ b, b ≠ 1 → I' b = I b) ∧ ∀ k, k ≠ 2 → k ≠ 3 → k ≠ 4 → k ≠ 5 → I' 1 k = I 1 k
theorem SmC.d {I I' : Iv} (h : SmC I I') : SmD I I' := ⟨h.1, fun k a b c _ => h.2 k a b c⟩
theorem SmD.tr {I I1 I2 : Iv} (h : SmD I I1) (k : SmD I1 I2) : SmD I I2 := ⟨fun b hb => (k.1 b hb).trans (h.1 b hb), fun j a b c d => (k.2 j a b c d).trans (h.2 j a b c d)⟩
theorem endC {n : Nat} {c : Cu} {I : Iv} (J : Jv) (hn : n ≤ 300) (h : CuC n I c) :
    ∃ I' : Iv, fn_X5_readClauseEnd I J = (I', J) ∧ SmD I I' ∧ CuC n I' (enB (I 2) n c) ∧ ((enB (I 2) n c).1 = 0 → I' 1 5 = I 1 5 + 1) := by
  unfold fn_X5_readClauseEnd enB
  by_cases h0 : c.1 = 0
  · obtain ⟨ha, h2⟩ := cuC_q h h0
    have h3 : I 1 3 = 0 := h.2.1.trans h0
    have h4 : I 1 4 = -1 := by rw [h.2.2.2, if_pos h0]
    have hb := nu_bd (I 2) ha
    rw [if_pos h3, if_pos h0, fX5_skip J hn ha h.1 h2]
    change ∃ I' : Iv, b_n2 (wI I 1 2 (n3 (nuS (I 2) n c.2)), J) _ = _ ∧ _
    generalize nuS (I 2) n c.2 = s at *
    have sm : SmC I (wI I 1 2 (n3 s)) := smC_w smC_rfl (by omega)
    have g1 : wI I 1 2 (n3 s) 1 1 = n3 n := by rw [wI_ne (by omega)]; exact h.1
    have g2 : wI I 1 2 (n3 s) 1 2 = n3 s := wI_self
    have g3 : wI I 1 2 (n3 s) 1 3 = 0 := by rw [wI_ne (by omega)]; exact h3
    have g4 : wI I 1 2 (n3 s) 1 4 = -1 := by rw [wI_ne (by omega)]; exact h4
    have g5 : wI I 1 2 (n3 s) 1 5 = I 1 5 := wI_ne (by omega)
    have gr : wI I 1 2 (n3 s) 2 = I 2 := wI_row (by decide)
    generalize wI I 1 2 (n3 s) = I1 at *
    unfold fn_X5_faultAt
    dsimp only [b_n2, j_n, l_t]
    have bad : ∃ I' : Iv, (wI (wI I1 1 3 1) 1 4 (I1 1 2), J) = (I', J) ∧ SmD I I' ∧ CuC n I' (1, s) ∧ (((1 : Int32), s).1 = 0 → I' 1 5 = I 1 5 + 1) :=
      ⟨_, rfl, (smC_w (smC_w sm (by omega)) (by omega)).d, cuC_mkf (q := s) (by rw [wI_ne (by omega), wI_ne (by omega)]; exact g1) (by decide) (by rw [wI_ne (by omega), wI_self]) (by omega) (by rw [wI_ne (by omega), wI_ne (by omega)]; exact g2) (by rw [wI_self]; exact g2), fun z => absurd z (show ¬ (1 : Int32) = 0 by decide)⟩
    by_cases q1 : n ≤ s
    · rw [if_pos (by rw [g1, g2, n3_le (by omega) (by omega)]; exact q1), if_neg (by omega)]
      exact bad
    · rw [if_neg (by rw [g1, g2, n3_le (by omega) (by omega)]; exact q1)]
      by_cases q2 : I 2 s = 59
      · rw [if_pos (by rw [g2, n3_tn (by omega), gr]; exact q2), if_pos ⟨by omega, q2⟩, g2, n3_up]
        refine ⟨_, rfl, ?_, cuC_mk0 ?_ ?_ (by omega) ?_ ?_, fun _ => ?_⟩
        · refine ⟨fun b hb => ?_, fun k a1 a2 a3 a4 => ?_⟩
          · rw [wI_row hb, wI_row hb]; exact sm.1 b hb
          · rw [wI_ne (by omega), wI_ne (by omega)]; exact sm.2 k a1 a2 a3
        · rw [wI_ne (by omega), wI_ne (by omega)]; exact g1
        · rw [wI_ne (by omega), wI_ne (by omega)]; exact g3
        · rw [wI_ne (by omega), wI_self]
        · rw [wI_ne (by omega), wI_ne (by omega)]; exact g4
        · rw [wI_self, wI_ne (by omega), g5]
      · rw [if_neg (by rw [g2, n3_tn (by omega), gr]; exact q2), if_neg (fun z => q2 z.2)]
        exact bad
  · rw [if_neg (by rw [h.2.1]; exact h0), if_neg h0]
    exact ⟨I, rfl, smC_rfl.d, h, fun z => absurd z h0⟩
theorem endR {n : Nat} {c : Cu} {I : Iv} (J : Jv) (hn : n ≤ 300) (h : CuR n I c) :
    ∃ I' : Iv, fn_X10_takeEnd I J = (I', J) ∧ SmR I I' ∧ CuR n I' (enB (I 87) n c) := by
  unfold fn_X10_takeEnd enB
  by_cases h0 : c.1 = 0
  · obtain ⟨ha, h2⟩ := h.2.2.1 h0
    have h3 : I 78 15 = 0 := h.2.1.trans h0
    have h4 : I 78 16 = -1 := by rw [h.2.2.2, if_pos h0]
    have hb := nu_bd (I 87) ha
    rw [if_pos h3, if_pos h0, fX10_here J hn ha h.1 h2]
    change ∃ I' : Iv, b_n3 (hrV (I 87) n (nuS (I 87) n c.2), wI I 78 12 (n3 (nuS (I 87) n c.2)), J) _ = _ ∧ _
    generalize nuS (I 87) n c.2 = s at *
    have sm : SmR I (wI I 78 12 (n3 s)) := smR_w smR_rfl (by omega)
    have g1 : wI I 78 12 (n3 s) 78 11 = n3 n := by rw [wI_ne (by omega)]; exact h.1
    have g2 : wI I 78 12 (n3 s) 78 12 = n3 s := wI_self
    have g3 : wI I 78 12 (n3 s) 78 15 = 0 := by rw [wI_ne (by omega)]; exact h3
    have g4 : wI I 78 12 (n3 s) 78 16 = -1 := by rw [wI_ne (by omega)]; exact h4
    generalize wI I 78 12 (n3 s) = I1 at *
    dsimp only [b_n3, j_n, l_t]
    by_cases q : s < n ∧ I 87 s = 59
    · rw [if_pos q, if_pos (show hrV (I 87) n s = 59 by unfold hrV; rw [if_pos q.1]; exact q.2), fX10_want_1 g3 (by decide)]
      simp only
      rw [if_neg (by decide), g2, n3_up]
      exact ⟨_, rfl, smR_w sm (by omega), cuR_mk0 (by rw [wI_ne (by omega)]; exact g1) (by rw [wI_ne (by omega)]; exact g3) (by omega) wI_self (by rw [wI_ne (by omega)]; exact g4)⟩
    · have hr : ¬ hrV (I 87) n s = 59 := by
        unfold hrV
        by_cases q1 : s < n
        · rw [if_pos q1]; exact fun z => q ⟨q1, z⟩
        · rw [if_neg q1]; decide
      rw [if_neg q, if_neg hr, fX10_want_0 g3 (by decide)]
      simp only
      first | rw [if_pos trivial, g2] | rw [if_pos rfl, g2]
      exact ⟨_, rfl, smR_w (smR_w sm (by omega)) (by omega), cuR_mkf (by rw [wI_ne (by omega), wI_ne (by omega)]; exact g1) (by decide) (by rw [wI_ne (by omega), wI_self]) wI_self⟩
  · rw [if_neg (by rw [h.2.1]; exact h0), if_neg h0]
    exact ⟨I, rfl, smR_rfl, h⟩
