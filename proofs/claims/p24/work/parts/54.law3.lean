/-! ===== the law's steps: the class's side, then what the two hold alike ===== -/
theorem lq_w {c : Nat} {I : Iv} {J : Jv} {a k : Nat} {v : Int32} (h : LQ c I J) (ha : a < 78) (hc : LIc c (wI I a k v)) : LQ c (wI I a k v) J := ⟨hc, h.2.1, ma_w h.2.2.1 ha, h.2.2.2⟩
theorem lq_free {c : Nat} {I : Iv} {J : Jv} {a k : Nat} {v : Int32} (h : LQ c I J) (ha : a < 78) (hn : a ≠ 61 ∧ ¬ (a = 1 ∧ k = 1) ∧ ¬ (a = 24 ∧ k = 0) ∧ ¬ (a = 33 ∧ k = 0) ∧ ¬ (a = 42 ∧ k = 0)) : LQ c (wI I a k v) J := lq_w h ha (lic_free h.1 hn)
theorem lq_len {c : Nat} {I : Iv} {J : Jv} {v : Int32} (h : LQ c I J) (hv : 0 ≤ v ∧ v ≤ 300) : LQ c (wI I 1 1 v) J := lq_w h (by omega) (lic_len h.1 hv)
theorem lq_tick {c : Nat} {I : Iv} {J : Jv} {v : Int32} (h : LQ c I J) (hv : tkb c v) : LQ c (wI I 24 0 v) J := lq_w h (by omega) (lic_tick h.1 hv)
theorem lq_pri {c : Nat} {I : Iv} {J : Jv} {k : Nat} {v : Int32} (h : LQ c I J) (hv : 0 ≤ v ∧ v ≤ 1000) : LQ c (wI I 61 k v) J := lq_w h (by omega) (lic_pri h.1 hv)
theorem lq_33 {c : Nat} {I : Iv} {J : Jv} {v : Int32} (h : LQ c I J) (hv : tkb c v) : LQ c (wI I 33 0 v) J := lq_w h (by omega) (lic_33 h.1 hv)
theorem lq_42 {c : Nat} {I : Iv} {J : Jv} {v : Int32} (h : LQ c I J) (hv : tkb c v) : LQ c (wI I 42 0 v) J := lq_w h (by omega) (lic_42 h.1 hv)
theorem lq_kp {c : Nat} {I : Iv} {J : Jv} {i w : Int32} {k : Nat} (h : LQ c I J) : LQ c (wI (kp I i) 43 k w) J := by
  refine lq_free ?_ (by omega) (by omega)
  unfold kp iA; split
  · exact lq_33 (lq_free (lq_free h (by omega) (by omega)) (by omega) (by omega)) h.1.2.2.1
  · exact lq_42 (lq_free (lq_free h (by omega) (by omega)) (by omega) (by omega)) h.1.2.2.1
theorem lq_gb {c : Nat} {I : Iv} {J : Jv} {i : Int32} (h : LQ c I J) : LQ c (gb I i) J := by
  unfold gb iA; split
  · exact lq_tick (lq_free (lq_free h (by omega) (by omega)) (by omega) (by omega)) h.1.2.2.2.1
  · exact lq_tick (lq_free (lq_free h (by omega) (by omega)) (by omega) (by omega)) h.1.2.2.2.2
theorem lq_forg {c : Nat} {I : Iv} {J : Jv} {f : Nat → Int32} (h : LQ c I J) : LQ c (rI I 58 f) J := by
  have e : ∀ b, b ≠ 58 → rI I 58 f b = I b := fun b q => by simp only [rI, if_neg q]
  obtain ⟨h1, h2, h4, h5⟩ := h
  refine ⟨?_, h2, ?_, h5⟩
  · unfold LIc PRI at *
    rw [e 61 (by decide), e 1 (by decide), e 24 (by decide), e 33 (by decide), e 42 (by decide)]; exact h1
  · unfold MA at *
    rw [e 78 (by decide), e 81 (by decide), e 91 (by decide), e 93 (by decide), e 94 (by decide)]; exact h4
theorem up_row {I B : Iv} {a b k n : Nat} {v : Int32} (h : ∀ j, j < n → I a j = B b j) : ∀ j, j < n → wI I a k v a j = wI B b k v b j := by
  intro j hj
  by_cases e : j = k
  · subst e; rw [wI_self, wI_self]
  · rw [wI_ne (Or.inr e), wI_ne (Or.inr e)]; exact h j hj
theorem rl_price {I B : Iv} {C : Jv} {v : Int32} (r : Rto I B C) : Rto (wI I 65 2 v) (wI B 78 30 v) C := by
  obtain ⟨⟨r1, r2⟩, ⟨r3, r4⟩, ⟨r5, r6, r7, r8⟩, r9, r10, r11, r12, r13⟩ := r
  exact ⟨⟨rfl, r2⟩, ⟨r3, r4⟩, ⟨r5, r6, r7, r8⟩, r9, r10, r11, r12, r13⟩
theorem rl_len {I B : Iv} {C : Jv} {v : Int32} (r : Rto I B C) : Rto (wI I 1 1 v) (wI B 78 11 v) C := by
  obtain ⟨⟨r1, r2⟩, ⟨r3, r4⟩, ⟨r5, r6, r7, r8⟩, r9, r10, r11, r12, r13⟩ := r
  exact ⟨⟨r1, rfl⟩, ⟨r3, r4⟩, ⟨r5, r6, r7, r8⟩, r9, r10, r11, r12, r13⟩
theorem rl_mend {I B : Iv} {C : Jv} {k : Nat} {v : Int32} (r : Rto I B C) : Rto (wI I 66 k v) (wI B 98 k v) C := by
  obtain ⟨⟨r1, r2⟩, ⟨r3, r4⟩, ⟨r5, r6, r7, r8⟩, r9, r10, r11, r12, r13⟩ := r
  exact ⟨⟨r1, r2⟩, ⟨r3, r4⟩, ⟨r5, r6, r7, r8⟩, up_row r9, r10, r11, r12, r13⟩
theorem rl_pri {I B : Iv} {C : Jv} {k : Nat} {v : Int32} (r : Rto I B C) : Rto (wI I 61 k v) (wI B 94 k v) C := by
  obtain ⟨⟨r1, r2⟩, ⟨r3, r4⟩, ⟨r5, r6, r7, r8⟩, r9, r10, r11, r12, r13⟩ := r
  exact ⟨⟨r1, r2⟩, ⟨r3, r4⟩, ⟨r5, r6, r7, r8⟩, r9, up_row r10, r11, r12, r13⟩
theorem rl_both {I B : Iv} {C : Jv} {k : Nat} {v : Int32} (r : Rto I B C) : Rto (wI I 62 k v) (wI B 95 k v) C := by
  obtain ⟨⟨r1, r2⟩, ⟨r3, r4⟩, ⟨r5, r6, r7, r8⟩, r9, r10, r11, r12, r13⟩ := r
  exact ⟨⟨r1, r2⟩, ⟨r3, r4⟩, ⟨r5, r6, r7, r8⟩, r9, r10, up_row r11, r12, r13⟩
theorem rl_seen {I B : Iv} {C : Jv} {k : Nat} {v : Int32} (r : Rto I B C) : Rto (wI I 58 k v) (wI B 91 k v) C := by
  obtain ⟨⟨r1, r2⟩, ⟨r3, r4⟩, ⟨r5, r6, r7, r8⟩, r9, r10, r11, r12, r13⟩ := r
  exact ⟨⟨r1, r2⟩, ⟨r3, r4⟩, ⟨r5, r6, r7, r8⟩, r9, r10, r11, up_row r12, r13⟩
theorem rl_forg {I B : Iv} {C : Jv} {f g : Nat → Int32} (hf : ∀ k, k < 7 → f k = 0) (hg : ∀ k, k < 7 → g k = 0) (r : Rto I B C) : Rto (rI I 58 f) (rI2 B 91 g) C := by
  obtain ⟨⟨r1, r2⟩, ⟨r3, r4⟩, ⟨r5, r6, r7, r8⟩, r9, r10, r11, r12, r13⟩ := r
  exact ⟨⟨r1, r2⟩, ⟨r3, r4⟩, ⟨r5, r6, r7, r8⟩, r9, r10, r11, fun k hk => (hf k hk).trans (hg k hk).symm, r13⟩
theorem rl_trou {I B : Iv} {C : Jv} {v : Int32} (r : Rto I B C) : Rto (wI I 16 8 v) B (wJ C 79 52 v.toInt64) := by
  obtain ⟨⟨r1, r2⟩, ⟨r3, r4⟩, ⟨r5, r6, r7, r8⟩, r9, r10, r11, r12, r13⟩ := r
  exact ⟨⟨r1, r2⟩, ⟨rfl, r4⟩, ⟨r5, r6, r7, r8⟩, r9, r10, r11, r12, r13⟩
theorem rl_cur {I B : Iv} {C : Jv} {v : Int32} (r : Rto I B C) : Rto (wI I 16 12 v) B (wJ C 79 69 v.toInt64) := by
  obtain ⟨⟨r1, r2⟩, ⟨r3, r4⟩, ⟨r5, r6, r7, r8⟩, r9, r10, r11, r12, r13⟩ := r
  exact ⟨⟨r1, r2⟩, ⟨r3, rfl⟩, ⟨r5, r6, r7, r8⟩, r9, r10, r11, r12, r13⟩
theorem rl_tick {I B : Iv} {C : Jv} {v : Int32} (r : Rto I B C) : Rto (wI I 24 0 v) B C := by
  obtain ⟨⟨r1, r2⟩, ⟨r3, r4⟩, ⟨r5, r6, r7, r8⟩, r9, r10, r11, r12, r13⟩ := r
  exact ⟨⟨r1, r2⟩, ⟨r3, r4⟩, ⟨r5, r6, r7, r8⟩, r9, r10, r11, r12, r13⟩
theorem rl_t54 {I B : Iv} {C : Jv} {z : Int64} (r : Rto I B C) : Rto I B (wJ C 79 54 z) := by
  obtain ⟨⟨r1, r2⟩, ⟨r3, r4⟩, ⟨r5, r6, r7, r8⟩, r9, r10, r11, r12, r13⟩ := r
  exact ⟨⟨r1, r2⟩, ⟨r3, r4⟩, ⟨r5, r6, r7, r8⟩, r9, r10, r11, r12, r13⟩
theorem rl_kept {I B : Iv} {C : Jv} {k : Nat} {v : Int32} (r : Rto I B C) : Rto (wI I 43 k v) (wI B 80 k v) C := by
  obtain ⟨⟨r1, r2⟩, ⟨r3, r4⟩, ⟨r5, r6, r7, r8⟩, r9, r10, r11, r12, r13⟩ := r
  exact ⟨⟨r1, r2⟩, ⟨r3, r4⟩, ⟨r5, r6, r7, r8⟩, r9, r10, r11, r12, up_row r13⟩
theorem rl_kp {I B : Iv} {C : Jv} {i : Int32} (r : Rto I B C) : Rto (kp I i) B (kpJ C i) := by
  obtain ⟨⟨r1, r2⟩, ⟨r3, r4⟩, ⟨r5, r6, r7, r8⟩, r9, r10, r11, r12, r13⟩ := r
  unfold kp kpJ iA
  by_cases e : i = 0
  · simp only [if_pos e]
    exact ⟨⟨r1, r2⟩, ⟨r3, r4⟩, ⟨r3, r4, r7, r8⟩, r9, r10, r11, r12, r13⟩
  · simp only [if_neg e]
    exact ⟨⟨r1, r2⟩, ⟨r3, r4⟩, ⟨r5, r6, r3, r4⟩, r9, r10, r11, r12, r13⟩
theorem rl_gb {I B : Iv} {C : Jv} {i : Int32} (r : Rto I B C) : Rto (gb I i) B (gbJ C i) := by
  obtain ⟨⟨r1, r2⟩, ⟨r3, r4⟩, ⟨r5, r6, r7, r8⟩, r9, r10, r11, r12, r13⟩ := r
  unfold gb gbJ iA
  by_cases e : i = 0
  · simp only [if_pos e]
    exact ⟨⟨r1, r2⟩, ⟨r5, r6⟩, ⟨r5, r6, r7, r8⟩, r9, r10, r11, r12, r13⟩
  · simp only [if_neg e]
    exact ⟨⟨r1, r2⟩, ⟨r7, r8⟩, ⟨r5, r6, r7, r8⟩, r9, r10, r11, r12, r13⟩
/-- writes of the reference ahead of its lazy begin -/
theorem bgI_w {B : Iv} {a k : Nat} {v : Int32} (ha : a = 91 ∨ a = 95 ∨ (a = 78 ∧ k = 11)) : bgI (wI B a k v) = wI (bgI B) a k v := by
  unfold bgI
  rw [wI_ne (by omega)]
  by_cases h : B 78 2 = 0
  · rw [if_pos h, if_pos h]
    have e94 : wI B a k v 94 = B 94 := wI_row (by omega)
    have e98 : wI B a k v 98 = B 98 := wI_row (by omega)
    rw [e94, e98]
    funext b j
    simp only [wI, rI2]
    by_cases hc : b = a ∧ j = k
    · have q1 : ¬ (b = 78 ∧ j = 30) := by omega
      have q2 : ¬ (b = 78 ∧ j = 2) := by omega
      have q3 : ¬ b = 98 := by omega
      have q4 : ¬ b = 94 := by omega
      simp only [if_pos hc, if_neg q1, if_neg q2, if_neg q3, if_neg q4]
      rw [hc.1, hc.2]; exact wI_self
    · by_cases q3 : b = 98
      · simp only [if_neg hc, if_pos q3]
      · by_cases q4 : b = 94
        · simp only [if_neg hc, if_neg q3, if_pos q4]
        · simp only [if_neg hc, if_neg q3, if_neg q4]
          rw [wI_ne (by omega)]
  · rw [if_neg h, if_neg h]
theorem bgJ_w {B : Iv} {C : Jv} {a k : Nat} {v : Int32} (ha : a = 91 ∨ a = 95 ∨ (a = 78 ∧ k = 11)) : bgJ (wI B a k v) C = bgJ B C := by
  unfold bgJ; rw [wI_ne (by omega)]
theorem bgI_r {B : Iv} {f : Nat → Int32} : bgI (rI2 B 91 f) = rI2 (bgI B) 91 f := by
  have e : ∀ b, b ≠ 91 → rI2 B 91 f b = B b := fun b q => by simp only [rI2, if_neg q]
  unfold bgI
  rw [e 78 (by decide), e 94 (by decide), e 98 (by decide)]
  by_cases h : B 78 2 = 0
  · rw [if_pos h, if_pos h]
    funext b j
    simp only [wI, rI2]
    by_cases h4 : b = 91
    · have q1 : ¬ (b = 78 ∧ j = 30) := by omega
      have q2 : ¬ (b = 78 ∧ j = 2) := by omega
      have q3 : ¬ b = 98 := by omega
      have q4 : ¬ b = 94 := by omega
      simp only [if_pos h4, if_neg q1, if_neg q2, if_neg q3, if_neg q4]
    · simp only [if_neg h4, wI, rI2]
  · rw [if_neg h, if_neg h]
theorem bgJ_r {B : Iv} {C : Jv} {f : Nat → Int32} : bgJ (rI2 B 91 f) C = bgJ B C := by
  have e : rI2 B 91 f 78 = B 78 := by simp only [rI2, if_neg (show ¬ (78 : Nat) = 91 by decide)]
  unfold bgJ; rw [e]
/-- the pair behind a call: as it was begun, and what the reference wrote -/
theorem rl_bg {X B : Iv} {C : Jv} (h : ¬ B 78 2 = 0) (r : Rto X B C) : Rto X (bgI B) (bgJ B C) := by
  rw [bg_id h, bgj_id h]; exact r
theorem bg_nw {I : Iv} {a k : Nat} {v : Int32} (h : ¬ (a = 78 ∧ k = 2)) : ¬ wI (bgI I) a k v 78 2 = 0 := by
  rw [wI_ne (by omega)]; exact bg_ne
theorem lo_bg {I : Iv} : ∀ b, b < 78 → bgI I b = I b := fun b hb => bg_row hb
theorem lo_bw {I : Iv} {a k : Nat} {v : Int32} (h : 77 < a) : ∀ b, b < 78 → wI (bgI I) a k v b = I b := fun b hb => by rw [wI_row (by omega)]; exact bg_row hb
theorem lo_w {I : Iv} {a k : Nat} {v : Int32} (h : 77 < a) : ∀ b, b < 78 → wI I a k v b = I b := fun b hb => wI_row (by omega)
theorem lo_r {I : Iv} {f : Nat → Int32} : ∀ b, b < 78 → rI2 I 91 f b = I b := fun b hb => by simp only [rI2, if_neg (show ¬ b = 91 by omega)]
theorem t32 (x : Int32) : x.toInt64.toInt32 = x := Int32.toInt32_toInt64 x
/-- a pair of calls that tells nothing new -/
theorem li_d {c : Nat} {X I1 I2 : Iv} {J J1 J2 : Jv} (hx : XT I1 J1 = XT X J) (k1 : LQ c I1 J1) (r : Rto X (bgI I1) (bgJ I1 J1)) (k : MI (bgI I1) I2 ∧ MK (bgJ I1 J1) J2) : LI c I2 J2 :=
  li_fin hx k.1 k.2 lo_bg k1.1 (lit_bg k1.2.1) (rl_bg bg_ne r)
/-- the reference's side is still as it was -/
theorem rl_up {X I1 I : Iv} {J1 J : Jv} (hI : ∀ b, 78 ≤ b → I1 b = I b) (hJ : ∀ b, 78 ≤ b → J1 b = J b) (r : Rto X (bgI I) (bgJ I J)) : Rto X (bgI I1) (bgJ I1 J1) := rl_hi (bgI_hi hI) (bgJ_hi hI hJ) r
theorem xt_lo {I I1 X : Iv} {J J1 : Jv} (hx : XT I1 J1 = XT X J) (h : ∀ b, 78 ≤ b → X b = I b) : (∀ b, 78 ≤ b → I1 b = I b) ∧ (∀ b, 78 ≤ b → J1 b = J b) := ⟨fun b hb => ((xt_hi hx).1 b hb).trans (h b hb), (xt_hi hx).2⟩
theorem hi_w {I : Iv} {a k : Nat} {v : Int32} (h : a < 78) : ∀ b, 78 ≤ b → wI I a k v b = I b := fun b hb => wI_row (by omega)
theorem hi_w2 {I : Iv} {a k a2 k2 : Nat} {v v2 : Int32} (h : a < 78 ∧ a2 < 78) : ∀ b, 78 ≤ b → wI (wI I a k v) a2 k2 v2 b = I b := fun b hb => by rw [wI_row (by omega), wI_row (by omega)]
theorem hi_r {I : Iv} {f : Nat → Int32} : ∀ b, 78 ≤ b → rI I 58 f b = I b := fun b hb => by simp only [rI, if_neg (show ¬ b = 58 by omega)]
theorem hi_kp {I : Iv} {i w : Int32} {k : Nat} : ∀ b, 78 ≤ b → wI (kp I i) 43 k w b = I b := by
  intro b hb
  rw [wI_row (by omega)]
  unfold kp iA; split
  · rw [wI_row (by omega), wI_row (by omega), wI_row (by omega)]
  · rw [wI_row (by omega), wI_row (by omega), wI_row (by omega)]
theorem hi_gb {I : Iv} {i : Int32} : ∀ b, 78 ≤ b → gb I i b = I b := by
  intro b hb
  unfold gb; rw [wI_row (by omega), wI_row (by omega), wI_row (by omega)]
/-- what the constructors leave -/
theorem li_0 {I : Iv} {J : Jv} (h1 : I 1 1 = 0) (h2 : I 24 0 = 0) (h3 : I 33 0 = 0) (h4 : I 42 0 = 0) (h5 : ∀ k, k < 7 → I 61 k = 100) (h6 : I 65 2 = 30)
    (h7 : I 16 8 = 0) (h8 : I 16 12 = 1) (h9 : I 25 8 = 0) (h10 : I 25 12 = 0) (h11 : I 34 8 = 0) (h12 : I 34 12 = 0) (h13 : ∀ k, k < 7 → I 66 k = 50) (h14 : ∀ k, k < 7 → I 62 k = 0) (h15 : ∀ k, k < 7 → I 58 k = 0) (h16 : ∀ k, k < 2 → I 43 k = 0)
    (m1 : ∀ b, 78 < b → b < 99 → ∀ k, I b k = 0 ∧ J b k = 0) (m2 : ∀ k, k ≠ 16 → I 78 k = 0) : LI 0 I J := by
  have z2 := m2 2 (by decide)
  refine ⟨⟨⟨fun k hk => by rw [h5 k hk]; decide, by rw [h1]; decide, by rw [h2]; exact tkb_0, by rw [h3]; exact tkb_0, by rw [h4]; exact tkb_0⟩, ⟨?_, ?_, ?_⟩, ?_, ?_⟩, ?_⟩
  · rw [(m1 79 (by decide) (by decide) _).2]; exact tkl_0
  · rw [(m1 79 (by decide) (by decide) _).2]; exact tkl_0
  · rw [(m1 79 (by decide) (by decide) _).2]; exact tkl_0
  · refine ⟨by rw [m2 11 (by decide)]; decide, by rw [m2 5 (by decide)]; decide, by rw [(m1 81 (by decide) (by decide) _).1]; decide, by rw [(m1 81 (by decide) (by decide) _).1]; decide, fun k hk => Or.inl (m1 91 (by decide) (by decide) _).1, fun k hk => by rw [(m1 94 (by decide) (by decide) _).1]; decide⟩
  · intro X hX
    have z : ∀ k, J 79 k = 0 := fun k => (m1 79 (by decide) (by decide) k).2
    refine ⟨fun f hf => ⟨Or.inl (z _), fun q => ?_⟩, by unfold FU; rw [z]; decide, by unfold SD; rw [z]; decide⟩
    rw [z] at q; exact absurd q (by decide)
  · have z : ∀ k, J 79 k = 0 := fun k => (m1 79 (by decide) (by decide) k).2
    unfold bgI bgJ
    rw [if_pos z2, if_pos z2]
    refine ⟨⟨?_, ?_⟩, ⟨?_, ?_⟩, ⟨?_, ?_, ?_, ?_⟩, fun k hk => ?_, fun k hk => ?_, fun k hk => ?_, fun k hk => ?_, fun k hk => ?_⟩
    · rw [h6, wI_self]
    · rw [h1]; exact (m2 11 (by decide)).symm
    · rw [h7]; exact z 52
    · rw [h8]; rfl
    · rw [h9]; exact z 212
    · rw [h10]; exact z 229
    · rw [h11]; exact z 292
    · rw [h12]; exact z 309
    · rw [h13 k hk, wI_row (by decide), wI_row (by decide)]; simp [rI2, hk]
    · rw [h5 k hk, wI_row (by decide), wI_row (by decide)]; simp [rI2, hk]
    · rw [h14 k hk]; exact (m1 95 (by decide) (by decide) k).1.symm
    · rw [h15 k hk]; exact (m1 91 (by decide) (by decide) k).1.symm
    · rw [h16 k hk]; exact (m1 80 (by decide) (by decide) k).1.symm
theorem kpJ_hi {C C' : Jv} {i : Int32} (h : ∀ b, 78 ≤ b → C' b = C b) : ∀ b, 78 ≤ b → kpJ C' i b = kpJ C i b := by
  intro b hb
  unfold kpJ
  rw [h 79 (by omega)]
  split
  · exact wJ_hi (wJ_hi (wJ_hi h)) b hb
  · exact wJ_hi (wJ_hi (wJ_hi h)) b hb
theorem gbJ_hi {C C' : Jv} {i : Int32} (h : ∀ b, 78 ≤ b → C' b = C b) : ∀ b, 78 ≤ b → gbJ C' i b = gbJ C i b := by
  intro b hb
  unfold gbJ
  rw [h 79 (by omega)]
  split
  · exact wJ_hi (wJ_hi (wJ_hi h)) b hb
  · exact wJ_hi (wJ_hi (wJ_hi h)) b hb
theorem rl_cur0 {I B : Iv} {C : Jv} {v w : Int32} (r : Rto I B C) (e : w = v) : Rto (wI I 16 12 v) B (wJ C 79 69 w.toInt64) := by
  subst e; exact rl_cur r
theorem bg_11 {I : Iv} : bgI I 78 11 = I 78 11 := by
  unfold bgI; split
  · rw [wI_ne (by omega), wI_ne (by omega)]; rfl
  · rfl
theorem bg_95 {I : Iv} : bgI I 95 = I 95 := by
  unfold bgI; split
  · rw [wI_row (by omega), wI_row (by omega)]; rfl
  · rfl
theorem bg_91 {I : Iv} : bgI I 91 = I 91 := by
  unfold bgI; split
  · rw [wI_row (by omega), wI_row (by omega)]; rfl
  · rfl
theorem tn_7 {k : Int32} (h0 : 0 ≤ k) (h1 : k ≤ 6) : k.toNatClampNeg < 7 := by
  have a0 := Int32.le_iff_toInt_le.mp h0
  have a1 := Int32.le_iff_toInt_le.mp h1
  have c0 : (0 : Int32).toInt = 0 := by decide
  have c6 : (6 : Int32).toInt = 6 := by decide
  rw [c0] at a0; rw [c6] at a1
  show k.toInt.toNat < 7
  omega
theorem tn_2 {k : Int32} (h0 : 0 ≤ k) (h1 : k ≤ 1) : k.toNatClampNeg < 2 := by
  have a0 := Int32.le_iff_toInt_le.mp h0
  have a1 := Int32.le_iff_toInt_le.mp h1
  have c0 : (0 : Int32).toInt = 0 := by decide
  have c1 : (1 : Int32).toInt = 1 := by decide
  rw [c0] at a0; rw [c1] at a1
  show k.toInt.toNat < 2
  omega
theorem feed_a {a n : Int32} (hb : 0 ≤ a ∧ a ≤ 300) (g1 : 1 ≤ n) (g2 : n ≤ 8) : n ≤ 300 - a ↔ a + n ≤ 300 := by
  have c0 : (0 : Int32).toInt = 0 := by decide
  have c1 : (1 : Int32).toInt = 1 := by decide
  have c8 : (8 : Int32).toInt = 8 := by decide
  have c3 : (300 : Int32).toInt = 300 := by decide
  have a0 := Int32.le_iff_toInt_le.mp hb.1
  have a1 := Int32.le_iff_toInt_le.mp hb.2
  have b0 := Int32.le_iff_toInt_le.mp g1
  have b1 := Int32.le_iff_toInt_le.mp g2
  rw [c0] at a0; rw [c3] at a1; rw [c1] at b0; rw [c8] at b1
  have e1 : (300 - a).toInt = 300 - a.toInt := by
    rw [Int32.toInt_sub, c3]; apply Int.bmod_eq_of_le <;> omega
  have e2 : (a + n).toInt = a.toInt + n.toInt := by
    rw [Int32.toInt_add]; apply Int.bmod_eq_of_le <;> omega
  rw [Int32.le_iff_toInt_le, Int32.le_iff_toInt_le, e1, e2, c3]; omega
