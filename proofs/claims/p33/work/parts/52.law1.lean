/-! ===== what holds between the law's calls ===== -/
def tkb (c : Nat) (t : Int32) : Prop := 0 ≤ t.toInt ∧ t.toInt ≤ (c : Int) * 2880
def tkl (c : Nat) (t : Int64) : Prop := 0 ≤ t.toInt ∧ t.toInt ≤ (c : Int) * 2880
/-- the class's side -/
def LIc (c : Nat) (I : Iv) : Prop := PRI I ∧ (0 ≤ I 1 1 ∧ I 1 1 ≤ 300) ∧ tkb c (I 24 0) ∧ tkb c (I 33 0) ∧ tkb c (I 42 0)
/-- the reference's ticks -/
def LIt (c : Nat) (J : Jv) : Prop := tkl c (J 79 54) ∧ tkl c (J 79 214) ∧ tkl c (J 79 294)
def LIp (I : Iv) : Prop := I 65 2 = bgI I 78 30
def LI (c : Nat) (I : Iv) (J : Jv) : Prop := LIc c I ∧ LIt c J ∧ LIp I ∧ MA I ∧ MJ J
theorem tkb_mono {c : Nat} {t : Int32} (h : tkb c t) : tkb (c + 1) t := ⟨h.1, by have := h.2; push_cast; omega⟩
theorem tkl_mono {c : Nat} {t : Int64} (h : tkl c t) : tkl (c + 1) t := ⟨h.1, by have := h.2; push_cast; omega⟩
theorem LIc.mono {c : Nat} {I : Iv} (h : LIc c I) : LIc (c + 1) I := ⟨h.1, h.2.1, tkb_mono h.2.2.1, tkb_mono h.2.2.2.1, tkb_mono h.2.2.2.2⟩
theorem LIt.mono {c : Nat} {J : Jv} (h : LIt c J) : LIt (c + 1) J := ⟨tkl_mono h.1, tkl_mono h.2.1, tkl_mono h.2.2⟩
theorem LI.mono {c : Nat} {I : Iv} {J : Jv} (h : LI c I J) : LI (c + 1) I J := ⟨h.1.mono, h.2.1.mono, h.2.2⟩
theorem bgI_30 {I I' : Iv} (h2 : I' 78 2 = I 78 2) (h30 : I' 78 30 = I 78 30) : bgI I' 78 30 = bgI I 78 30 := by
  unfold bgI; rw [h2]; split
  · rfl
  · exact h30
/-- behind a call of the class: all that is tracked is as in (I1, J1), for which it holds -/
theorem li_x {c : Nat} {I I' : Iv} {J J' : Jv} (h : XT I' J' = XT I J) (k : LI c I J) : LI c I' J' := by
  obtain ⟨⟨k1, k2, k3, k4, k5⟩, t, p, a, m⟩ := k
  have hI : ∀ b, 78 ≤ b → I' b = I b := by
    intro b hb
    have := congrArg (fun q => q.2.2.2.2.2.2.2.2.2.2.2.2.2.2.2.2.1 (b - 78)) h
    simp only [XT, XN] at this
    rwa [show b - 78 + 78 = b by omega] at this
  have hJ : ∀ b, 78 ≤ b → J' b = J b := by
    intro b hb
    have := congrArg (fun q => q.2.2.2.2.2.2.2.2.2.2.2.2.2.2.2.2.2 (b - 78)) h
    simp only [XT, XN] at this
    rwa [show b - 78 + 78 = b by omega] at this
  have e33 : I' 33 0 = I 33 0 := congrArg (fun q => q.2.2.2.2.2.2.2.2.2.2.2.2.2.2.1) h
  have e42 : I' 42 0 = I 42 0 := congrArg (fun q => q.2.2.2.2.2.2.2.2.2.2.2.2.2.2.2.1) h
  have e65 : I' 65 2 = I 65 2 := congrArg (fun q => q.2.2.2.2.2.2.1) h
  refine ⟨⟨pri_of h k1, by rw [xt_len h]; exact k2, by rw [xt_tk h]; exact k3, by rw [e33]; exact k4, by rw [e42]; exact k5⟩, ?_, ?_, ?_, ?_⟩
  · unfold LIt at *; rw [hJ 79 (by omega)]; exact t
  · unfold LIp at *; rw [e65, p]; exact (bgI_30 (by rw [hI 78 (by omega)]) (by rw [hI 78 (by omega)])).symm
  · unfold MA at *; rw [hI 78 (by omega), hI 81 (by omega), hI 91 (by omega), hI 93 (by omega), hI 94 (by omega)]; exact a
  · intro X hX
    have := m X hX
    unfold BI FU SD at *; rw [hJ 79 (by omega)]; exact this
