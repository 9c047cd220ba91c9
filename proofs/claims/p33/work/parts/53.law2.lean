theorem LIc.rows {c : Nat} {I I' : Iv} (h : LIc c I) (e : ∀ b, b < 78 → I' b = I b) : LIc c I' := by
  unfold LIc PRI at *
  rw [e 61 (by omega), e 1 (by omega), e 24 (by omega), e 33 (by omega), e 42 (by omega)]; exact h
theorem li_m {c : Nat} {B I' : Iv} {C J' : Jv} (hi : MI B I') (hj : MK C J') (h1 : LIc c B) (h2 : LIt c C) (h3 : LIp B) : LI c I' J' := by
  have e : ∀ b, b < 78 → I' b = B b := by
    intro b hb
    have := congrFun (congrArg (fun q => q.1) hi.1) b
    simp only [MTI] at this
    rwa [if_pos hb, if_pos hb] at this
  have t54 : J' 79 54 = C 79 54 := congrArg (fun q => q.2.2.1) hj.1
  have t214 : J' 79 214 = C 79 214 := congrArg (fun q => q.2.2.2.2.2.1) hj.1
  have t294 : J' 79 294 = C 79 294 := congrArg (fun q => q.2.2.2.2.2.2.2.2.1) hj.1
  refine ⟨h1.rows e, ?_, ?_, hi.2, hj.2⟩
  · unfold LIt at *; rw [t54, t214, t294]; exact h2
  · unfold LIp at *; rw [e 65 (by omega), h3, bgI_30 (mi_2 hi) (mi_30 hi)]
theorem bg_row {I : Iv} {b : Nat} (h : b < 78) : bgI I b = I b := by
  unfold bgI; split
  · rw [wI_row (by omega), wI_row (by omega)]; simp only [rI2, if_neg (show ¬ b = 98 by omega), if_neg (show ¬ b = 94 by omega)]
  · rfl
theorem bg_two {I : Iv} : bgI (bgI I) 78 30 = bgI I 78 30 := by
  by_cases h : I 78 2 = 0
  · have e : bgI I 78 2 = 1 := by unfold bgI; rw [if_pos h, wI_ne (by omega), wI_self]
    have q : bgI (bgI I) = bgI I := if_neg (by rw [e]; decide)
    rw [q]
  · have q : bgI I = I := if_neg h
    rw [q, q]
theorem lic_bg {c : Nat} {I : Iv} (h : LIc c I) : LIc c (bgI I) := h.rows (fun b hb => bg_row hb)
theorem lip_bg {I : Iv} (h : LIp I) : LIp (bgI I) := by unfold LIp at *; rw [bg_row (by omega), bg_two]; exact h
theorem lit_bg {c : Nat} {I : Iv} {J : Jv} (h : LIt c J) : LIt c (bgJ I J) := by
  unfold bgJ; split
  · unfold LIt at *
    rw [wJ_self, wJ_ne (by omega), wJ_ne (by omega), wJ_ne (by omega), wJ_ne (by omega)]
    exact ⟨⟨by decide, by simp; omega⟩, h.2⟩
  · exact h
theorem lip_w {B : Iv} {a k : Nat} {v : Int32} (h : LIp B) (hk : ¬ (a = 65 ∧ k = 2) ∧ ¬ (a = 78 ∧ (k = 2 ∨ k = 30))) : LIp (wI B a k v) := by
  unfold LIp at *
  rw [wI_ne (by omega), h]
  exact (bgI_30 (wI_ne (by omega)) (wI_ne (by omega))).symm
theorem lic_w {c : Nat} {B : Iv} {a k : Nat} {v : Int32} (h : LIc c B) (hk : 77 < a) : LIc c (wI B a k v) := h.rows (fun b hb => wI_row (by omega))
theorem lit_w {c k : Nat} {v : Int64} {C : Jv} (h : LIt c C) (hk : k ≠ 54 ∧ k ≠ 214 ∧ k ≠ 294) : LIt c (wJ C 79 k v) := by
  unfold LIt at *
  rw [wJ_ne (by omega), wJ_ne (by omega), wJ_ne (by omega)]; exact h
theorem lit_t {c : Nat} {v : Int64} {C : Jv} (h : LIt c C) (hv : tkl c v) : LIt c (wJ C 79 54 v) := by
  unfold LIt at *
  rw [wJ_self, wJ_ne (by omega), wJ_ne (by omega)]; exact ⟨hv, h.2⟩
theorem ma_w {I : Iv} {a k : Nat} {v : Int32} (h : MA I) (ha : a < 78) : MA (wI I a k v) := by
  unfold MA at *; rw [wI_row (by omega), wI_row (by omega), wI_row (by omega), wI_row (by omega), wI_row (by omega)]; exact h
theorem li_w {c : Nat} {I : Iv} {J : Jv} {a k : Nat} {v : Int32} (h : LI c I J) (ha : a < 78) (hn : ¬ (a = 65 ∧ k = 2)) (hc : LIc c (wI I a k v)) : LI c (wI I a k v) J :=
  ⟨hc, h.2.1, lip_w h.2.2.1 (by omega), ma_w h.2.2.2.1 ha, h.2.2.2.2⟩
theorem lic_free {c : Nat} {I : Iv} {a k : Nat} {v : Int32} (h : LIc c I) (hn : a ≠ 61 ∧ ¬ (a = 1 ∧ k = 1) ∧ ¬ (a = 24 ∧ k = 0) ∧ ¬ (a = 33 ∧ k = 0) ∧ ¬ (a = 42 ∧ k = 0)) : LIc c (wI I a k v) := by
  unfold LIc PRI at *
  rw [wI_row (Ne.symm hn.1), wI_ne (by omega), wI_ne (by omega), wI_ne (by omega), wI_ne (by omega)]; exact h
theorem lic_len {c : Nat} {I : Iv} {v : Int32} (h : LIc c I) (hv : 0 ≤ v ∧ v ≤ 300) : LIc c (wI I 1 1 v) := by
  unfold LIc PRI at *
  rw [wI_row (by decide), wI_self, wI_ne (by omega), wI_ne (by omega), wI_ne (by omega)]; exact ⟨h.1, hv, h.2.2⟩
theorem lic_tick {c : Nat} {I : Iv} {v : Int32} (h : LIc c I) (hv : tkb c v) : LIc c (wI I 24 0 v) := by
  unfold LIc PRI at *
  rw [wI_row (by decide), wI_ne (by omega), wI_self, wI_ne (by omega), wI_ne (by omega)]; exact ⟨h.1, h.2.1, hv, h.2.2.2⟩
theorem lic_pri {c : Nat} {I : Iv} {k : Nat} {v : Int32} (h : LIc c I) (hv : 0 ≤ v ∧ v ≤ 1000) : LIc c (wI I 61 k v) := by
  unfold LIc at *
  refine ⟨fun j hj => ?_, by rw [wI_row (by decide)]; exact h.2.1, by rw [wI_row (by decide), wI_row (by decide), wI_row (by decide)]; exact h.2.2⟩
  by_cases e : j = k
  · subst e; rw [wI_self]; exact hv
  · rw [wI_ne (Or.inr e)]; exact h.1 j hj
