/-! ===== what holds between the law's calls ===== -/
def tkb (c : Nat) (t : Int32) : Prop := 0 ≤ t.toInt ∧ t.toInt ≤ (c : Int) * 2880
def tkl (c : Nat) (t : Int64) : Prop := 0 ≤ t.toInt ∧ t.toInt ≤ (c : Int) * 2880
/-- the class's side -/
def LIc (c : Nat) (I : Iv) : Prop := PRI I ∧ (0 ≤ I 1 1 ∧ I 1 1 ≤ 300) ∧ tkb c (I 24 0) ∧ tkb c (I 33 0) ∧ tkb c (I 42 0)
/-- the reference's ticks -/
def LIt (c : Nat) (J : Jv) : Prop := tkl c (J 79 54) ∧ tkl c (J 79 214) ∧ tkl c (J 79 294)
theorem tkb_mono {c : Nat} {t : Int32} (h : tkb c t) : tkb (c + 1) t := ⟨h.1, by have := h.2; push_cast; omega⟩
theorem tkl_mono {c : Nat} {t : Int64} (h : tkl c t) : tkl (c + 1) t := ⟨h.1, by have := h.2; push_cast; omega⟩
theorem LIc.mono {c : Nat} {I : Iv} (h : LIc c I) : LIc (c + 1) I := ⟨h.1, h.2.1, tkb_mono h.2.2.1, tkb_mono h.2.2.2.1, tkb_mono h.2.2.2.2⟩
theorem LIt.mono {c : Nat} {J : Jv} (h : LIt c J) : LIt (c + 1) J := ⟨tkl_mono h.1, tkl_mono h.2.1, tkl_mono h.2.2⟩
theorem LIc.rows {c : Nat} {I I' : Iv} (h : LIc c I) (e : ∀ b, b < 78 → I' b = I b) : LIc c I' := by
  unfold LIc PRI at *
  rw [e 61 (by omega), e 1 (by omega), e 24 (by omega), e 33 (by omega), e 42 (by omega)]; exact h
/-- all but what the two hold alike -/
def LQ (c : Nat) (I : Iv) (J : Jv) : Prop := LIc c I ∧ LIt c J ∧ MA I ∧ MJ J
theorem LQ.mono {c : Nat} {I : Iv} {J : Jv} (h : LQ c I J) : LQ (c + 1) I J := ⟨h.1.mono, h.2.1.mono, h.2.2⟩
/-- what the class (I) and the reference (B, C: behind its lazy begin) hold alike -/
def Rto (I B : Iv) (C : Jv) : Prop := (I 65 2 = B 78 30 ∧ I 1 1 = B 78 11) ∧ (C 79 52 = (I 16 8).toInt64 ∧ C 79 69 = (I 16 12).toInt64) ∧ (C 79 212 = (I 25 8).toInt64 ∧ C 79 229 = (I 25 12).toInt64 ∧ C 79 292 = (I 34 8).toInt64 ∧ C 79 309 = (I 34 12).toInt64) ∧ (∀ k, k < 7 → I 66 k = B 98 k) ∧ (∀ k, k < 7 → I 61 k = B 94 k) ∧ (∀ k, k < 7 → I 62 k = B 95 k) ∧ (∀ k, k < 7 → I 58 k = B 91 k) ∧ (∀ k, k < 2 → I 43 k = B 80 k)
def LI (c : Nat) (I : Iv) (J : Jv) : Prop := LQ c I J ∧ Rto I (bgI I) (bgJ I J)
theorem LI.mono {c : Nat} {I : Iv} {J : Jv} (h : LI c I J) : LI (c + 1) I J := ⟨h.1.mono, h.2⟩
theorem xt_hi {I I' : Iv} {J J' : Jv} (h : XT I' J' = XT I J) : (∀ b, 78 ≤ b → I' b = I b) ∧ (∀ b, 78 ≤ b → J' b = J b) := by
  constructor
  · intro b hb
    have := congrArg (fun q => q.2.2.2.2.2.2.2.2.2.2.2.2.2.2.2.2.1 (b - 78)) h
    simp only [XT, XN] at this
    rwa [show b - 78 + 78 = b by omega] at this
  · intro b hb
    have := congrArg (fun q => q.2.2.2.2.2.2.2.2.2.2.2.2.2.2.2.2.2 (b - 78)) h
    simp only [XT, XN] at this
    rwa [show b - 78 + 78 = b by omega] at this
theorem lit_x {c : Nat} {I I' : Iv} {J J' : Jv} (h : XT I' J' = XT I J) (t : LIt c J) : LIt c J' := by
  unfold LIt at *; rw [(xt_hi h).2 79 (by omega)]; exact t
theorem bgI_hi {I I' : Iv} (h : ∀ b, 78 ≤ b → I' b = I b) : ∀ b, 78 ≤ b → bgI I' b = bgI I b := by
  intro b hb
  unfold bgI
  rw [h 78 (by omega)]
  split
  · funext j
    simp only [wI, rI2, h 94 (by omega), h 98 (by omega), h b hb]
  · exact h b hb
theorem bgJ_hi {I I' : Iv} {J J' : Jv} (h : ∀ b, 78 ≤ b → I' b = I b) (hj : ∀ b, 78 ≤ b → J' b = J b) : ∀ b, 78 ≤ b → bgJ I' J' b = bgJ I J b := by
  intro b hb
  unfold bgJ
  rw [h 78 (by omega)]
  split
  · funext j
    simp only [wJ, hj b hb]
  · exact hj b hb
/-- the class's side: behind a call that left what XT tells -/
theorem lq_x {c : Nat} {I I' : Iv} {J J' : Jv} (h : XT I' J' = XT I J) (k : LQ c I J) : LQ c I' J' := by
  obtain ⟨⟨k1, k2, k3, k4, k5⟩, t, a, m⟩ := k
  obtain ⟨hI, hJ⟩ := xt_hi h
  have e33 : I' 33 0 = I 33 0 := congrArg (fun q => q.2.2.2.2.2.2.2.2.2.2.2.2.2.2.1) h
  have e42 : I' 42 0 = I 42 0 := congrArg (fun q => q.2.2.2.2.2.2.2.2.2.2.2.2.2.2.2.1) h
  refine ⟨⟨pri_of h k1, by rw [xt_len h]; exact k2, by rw [xt_tk h]; exact k3, by rw [e33]; exact k4, by rw [e42]; exact k5⟩, ?_, ?_, ?_⟩
  · unfold LIt at *; rw [hJ 79 (by omega)]; exact t
  · unfold MA at *; rw [hI 78 (by omega), hI 81 (by omega), hI 91 (by omega), hI 93 (by omega), hI 94 (by omega)]; exact a
  · intro X hX
    have := m X hX
    unfold BI FU SD at *; rw [hJ 79 (by omega)]; exact this
/-- what the two hold alike looks at no more than this -/
theorem rl_c {I I' B : Iv} {C J J' : Jv} (h : XT I' J' = XT I J) (r : Rto I B C) : Rto I' B C := by
  have e65 : I' 65 2 = I 65 2 := congrArg (fun q => q.2.2.2.2.2.2.1) h
  have e168 : I' 16 8 = I 16 8 := congrArg (fun q => q.2.2.2.2.2.2.2.1) h
  have e1612 : I' 16 12 = I 16 12 := congrArg (fun q => q.2.2.2.2.2.2.2.2.1) h
  have e258 : I' 25 8 = I 25 8 := congrArg (fun q => q.2.2.2.2.2.2.2.2.2.1) h
  have e2512 : I' 25 12 = I 25 12 := congrArg (fun q => q.2.2.2.2.2.2.2.2.2.2.1) h
  have e348 : I' 34 8 = I 34 8 := congrArg (fun q => q.2.2.2.2.2.2.2.2.2.2.2.1) h
  have e3412 : I' 34 12 = I 34 12 := congrArg (fun q => q.2.2.2.2.2.2.2.2.2.2.2.2.1) h
  have e66 : I' 66 = I 66 := congrArg (fun q => q.2.1) h
  have e61 : I' 61 = I 61 := congrArg (fun q => q.2.2.1) h
  have e62 : I' 62 = I 62 := congrArg (fun q => q.2.2.2.1) h
  have e58 : I' 58 = I 58 := congrArg (fun q => q.2.2.2.2.1) h
  have e43 : I' 43 = I 43 := congrArg (fun q => q.2.2.2.2.2.1) h
  unfold Rto at *
  rw [e65, e168, e1612, e258, e2512, e348, e3412, e66, e61, e62, e58, e43, xt_len h]; exact r
theorem rl_low {I I' B : Iv} {C : Jv} (h : ∀ b, b < 78 → I' b = I b) (r : Rto I B C) : Rto I' B C := by
  unfold Rto at *
  rw [h 65 (by omega), h 1 (by omega), h 16 (by omega), h 25 (by omega), h 34 (by omega), h 66 (by omega), h 61 (by omega), h 62 (by omega), h 58 (by omega), h 43 (by omega)]; exact r
theorem rl_hi {I B B' : Iv} {C C' : Jv} (hb : ∀ b, 78 ≤ b → B' b = B b) (hc : ∀ b, 78 ≤ b → C' b = C b) (r : Rto I B C) : Rto I B' C' := by
  unfold Rto at *
  rw [hb 78 (by omega), hb 98 (by omega), hb 94 (by omega), hb 95 (by omega), hb 91 (by omega), hb 80 (by omega), hc 79 (by omega)]; exact r
theorem wI_hi {B B' : Iv} {a k : Nat} {v : Int32} (h : ∀ b, 78 ≤ b → B' b = B b) : ∀ b, 78 ≤ b → wI B' a k v b = wI B a k v b := by
  intro b hb; funext j; simp only [wI, h b hb]
theorem wJ_hi {B B' : Jv} {a k : Nat} {v : Int64} (h : ∀ b, 78 ≤ b → B' b = B b) : ∀ b, 78 ≤ b → wJ B' a k v b = wJ B a k v b := by
  intro b hb; funext j; simp only [wJ, h b hb]
theorem rI2_hi {B B' : Iv} {a : Nat} {f : Nat → Int32} (h : ∀ b, 78 ≤ b → B' b = B b) : ∀ b, 78 ≤ b → rI2 B' a f b = rI2 B a f b := by
  intro b hb; simp only [rI2, h b hb]
/-- the reference's side: by what MI and MK tell -/
theorem rl_m {I B I' : Iv} {C J' : Jv} (hi : MTI I' = MTI B) (hj : MTJ J' = MTJ C) (r : Rto I B C) : Rto I I' J' := by
  have e30 : I' 78 30 = B 78 30 := congrArg (fun q => q.2.2.2.2.2.2.2.2) hi
  have e11 : I' 78 11 = B 78 11 := congrArg (fun q => q.2.2.2.2.2.2.2.1) hi
  have e80 : I' 80 = B 80 := congrArg (fun q => q.2.1) hi
  have e91 : I' 91 = B 91 := congrArg (fun q => q.2.2.1) hi
  have e94 : I' 94 = B 94 := congrArg (fun q => q.2.2.2.1) hi
  have e95 : I' 95 = B 95 := congrArg (fun q => q.2.2.2.2.1) hi
  have e98 : I' 98 = B 98 := congrArg (fun q => q.2.2.2.2.2.1) hi
  have t52 : J' 79 52 = C 79 52 := congrArg (fun q => q.2.1) hj
  have t69 : J' 79 69 = C 79 69 := congrArg (fun q => q.2.2.2.1) hj
  have t212 : J' 79 212 = C 79 212 := congrArg (fun q => q.2.2.2.2.1) hj
  have t229 : J' 79 229 = C 79 229 := congrArg (fun q => q.2.2.2.2.2.2.1) hj
  have t292 : J' 79 292 = C 79 292 := congrArg (fun q => q.2.2.2.2.2.2.2.1) hj
  have t309 : J' 79 309 = C 79 309 := congrArg (fun q => q.2.2.2.2.2.2.2.2.2) hj
  unfold Rto at *
  rw [e30, e11, e80, e91, e94, e95, e98, t52, t69, t212, t229, t292, t309]; exact r
theorem mti_rI2 {a : Nat} {f : Nat → Int32} {B I : Iv} (h : MTI I = MTI B) : MTI (rI2 I a f) = MTI (rI2 B a f) := by
  simp only [MTI, Prod.mk.injEq] at h ⊢
  obtain ⟨h0, h1, h2, h3, h4, h5, h6, h7, h8⟩ := h
  have r : ∀ b, I b = B b → rI2 I a f b = rI2 B a f b := by
    intro b e; simp only [rI2, e]
  have c : ∀ b j, I b j = B b j → rI2 I a f b j = rI2 B a f b j := by
    intro b j e; simp only [rI2]; split
    · rfl
    · exact e
  refine ⟨?_, r _ h1, r _ h2, r _ h3, r _ h4, r _ h5, c _ _ h6, c _ _ h7, c _ _ h8⟩
  funext b
  have := congrFun h0 b
  split
  · next q => rw [if_pos q, if_pos q] at this; exact r b this
  · rfl
theorem mti_bg {B I : Iv} (h : MTI I = MTI B) : MTI (bgI I) = MTI (bgI B) := by
  have e2 : I 78 2 = B 78 2 := congrArg (fun q => q.2.2.2.2.2.2.1) h
  have e94 : I 94 = B 94 := congrArg (fun q => q.2.2.2.1) h
  have e98 : I 98 = B 98 := congrArg (fun q => q.2.2.2.2.2.1) h
  unfold bgI
  rw [e2, e94, e98]
  split
  · exact mti_cong (mti_cong (mti_rI2 (mti_rI2 h)))
  · exact h
theorem mtj_bg {B I : Iv} {C J : Jv} (h : MTI I = MTI B) (hj : MTJ J = MTJ C) : MTJ (bgJ I J) = MTJ (bgJ B C) := by
  have e2 : I 78 2 = B 78 2 := congrArg (fun q => q.2.2.2.2.2.2.1) h
  unfold bgJ
  rw [e2]
  split
  · exact mtj_cong (mtj_cong hj)
  · exact hj
theorem bg_row {I : Iv} {b : Nat} (h : b < 78) : bgI I b = I b := by
  unfold bgI; split
  · rw [wI_row (by omega), wI_row (by omega)]; simp only [rI2, if_neg (show ¬ b = 98 by omega), if_neg (show ¬ b = 94 by omega)]
  · rfl
theorem bg_ne {I : Iv} : ¬ bgI I 78 2 = 0 := by
  by_cases hz : I 78 2 = 0
  · have e : bgI I 78 2 = 1 := by unfold bgI; rw [if_pos hz, wI_ne (by omega), wI_self]
    rw [e]; decide
  · have e : bgI I = I := if_neg hz
    rw [e]; exact hz
theorem bg_id {B : Iv} (h : ¬ B 78 2 = 0) : bgI B = B := if_neg h
theorem bgj_id {B : Iv} {C : Jv} (h : ¬ B 78 2 = 0) : bgJ B C = C := if_neg h
theorem lic_bg {c : Nat} {I : Iv} (h : LIc c I) : LIc c (bgI I) := h.rows (fun b hb => bg_row hb)
theorem lit_bg {c : Nat} {I : Iv} {J : Jv} (h : LIt c J) : LIt c (bgJ I J) := by
  unfold bgJ; split
  · unfold LIt at *
    rw [wJ_self, wJ_ne (by omega), wJ_ne (by omega), wJ_ne (by omega), wJ_ne (by omega)]
    exact ⟨⟨by decide, by simp; omega⟩, h.2⟩
  · exact h
/-- behind the two calls: X is what the class's side is by XT, B and C what the reference's is by MI and MK -/
theorem li_fin {c : Nat} {X I1 I2 B : Iv} {J J1 C J2 : Jv} (hx : XT I1 J1 = XT X J) (hi : MI B I2) (hj : MK C J2) (lo : ∀ b, b < 78 → B b = I1 b) (q : LIc c I1) (t : LIt c C) (r : Rto X (bgI B) (bgJ B C)) : LI c I2 J2 := by
  have e : ∀ b, b < 78 → I2 b = I1 b := by
    intro b hb
    have := congrFun (congrArg (fun q => q.1) hi.1) b
    simp only [MTI] at this
    rw [if_pos hb, if_pos hb] at this
    exact this.trans (lo b hb)
  have t54 : J2 79 54 = C 79 54 := congrArg (fun q => q.2.2.1) hj.1
  have t214 : J2 79 214 = C 79 214 := congrArg (fun q => q.2.2.2.2.2.1) hj.1
  have t294 : J2 79 294 = C 79 294 := congrArg (fun q => q.2.2.2.2.2.2.2.2.1) hj.1
  refine ⟨⟨q.rows e, ?_, hi.2, hj.2⟩, rl_m (mti_bg hi.1) (mtj_bg hi.1 hj.1) (rl_low e (rl_c hx r))⟩
  unfold LIt at *; rw [t54, t214, t294]; exact t
