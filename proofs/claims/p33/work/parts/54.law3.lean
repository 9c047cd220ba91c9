/-! ===== the law's steps: what is tracked, call by call ===== -/
theorem tkb_0 {c : Nat} : tkb c 0 := by
  have e : (0 : Int32).toInt = 0 := by decide
  unfold tkb; rw [e]; omega
theorem tkl_0 {c : Nat} : tkl c 0 := by
  have e : (0 : Int64).toInt = 0 := by decide
  unfold tkl; rw [e]; omega
theorem tkb_add {c : Nat} {t n : Int32} (h : tkb c t) (hc : c ≤ 600) (h0 : 0 ≤ n) (h1 : n ≤ 2880) : tkb (c + 1) (t + n) := by
  have a0 := Int32.le_iff_toInt_le.mp h0
  have a1 := Int32.le_iff_toInt_le.mp h1
  have c0 : (0 : Int32).toInt = 0 := by decide
  have c1 : (2880 : Int32).toInt = 2880 := by decide
  rw [c0] at a0
  rw [c1] at a1
  obtain ⟨b0, b1⟩ := h
  have e : (t + n).toInt = t.toInt + n.toInt := by
    rw [Int32.toInt_add]
    apply Int.bmod_eq_of_le <;> omega
  unfold tkb
  rw [e]; omega
theorem tkl_add {c : Nat} {t n : Int64} (h : tkl c t) (hc : c ≤ 600) (h0 : 0 ≤ n) (h1 : n ≤ 2880) : tkl (c + 1) (t + n) := by
  have a0 := Int64.le_iff_toInt_le.mp h0
  have a1 := Int64.le_iff_toInt_le.mp h1
  have c0 : (0 : Int64).toInt = 0 := by decide
  have c1 : (2880 : Int64).toInt = 2880 := by decide
  rw [c0] at a0
  rw [c1] at a1
  obtain ⟨b0, b1⟩ := h
  have e : (t + n).toInt = t.toInt + n.toInt := by
    rw [Int64.toInt_add]
    apply Int.bmod_eq_of_le <;> omega
  unfold tkl
  rw [e]; omega
theorem tkb_lim {c : Nat} {t : Int32} (h : tkb c t) (hc : c ≤ 600) : 0 ≤ t ∧ t ≤ 2000000000 := by
  have c0 : (0 : Int32).toInt = 0 := by decide
  have c1 : (2000000000 : Int32).toInt = 2000000000 := by decide
  unfold tkb at h
  rw [Int32.le_iff_toInt_le, Int32.le_iff_toInt_le, c0, c1]; omega
theorem tkl_lim {c : Nat} {t : Int64} (h : tkl c t) (hc : c ≤ 600) : 0 ≤ t ∧ t ≤ 1000000000000 := by
  have c0 : (0 : Int64).toInt = 0 := by decide
  have c1 : (1000000000000 : Int64).toInt = 1000000000000 := by decide
  unfold tkl at h
  rw [Int64.le_iff_toInt_le, Int64.le_iff_toInt_le, c0, c1]; omega
theorem li_ix {i k : Int32} {L0 : Nat} (h0 : 0 ≤ i) (h1 : i.toInt + 6 ≤ (L0 : Int)) (hL : L0 ≤ 3072) (k0 : 0 ≤ k ∧ k ≤ 5) : 0 ≤ i + k ∧ (i + k).toNatClampNeg < L0 := by
  have a0 := Int32.le_iff_toInt_le.mp h0
  have b0 := Int32.le_iff_toInt_le.mp k0.1
  have b1 := Int32.le_iff_toInt_le.mp k0.2
  have c0 : (0 : Int32).toInt = 0 := by decide
  have c5 : (5 : Int32).toInt = 5 := by decide
  rw [c0] at a0 b0
  rw [c5] at b1
  have e : (i + k).toInt = i.toInt + k.toInt := by
    rw [Int32.toInt_add]
    apply Int.bmod_eq_of_le <;> omega
  refine ⟨?_, ?_⟩
  · rw [Int32.le_iff_toInt_le, c0, e]; omega
  · show (i + k).toInt.toNat < L0
    rw [e]; omega
theorem li_ix0 {i : Int32} {L0 : Nat} (h0 : 0 ≤ i) (h1 : i.toInt + 6 ≤ (L0 : Int)) : 0 ≤ i ∧ i.toNatClampNeg < L0 := by
  refine ⟨h0, ?_⟩
  have a0 := Int32.le_iff_toInt_le.mp h0
  have c0 : (0 : Int32).toInt = 0 := by decide
  rw [c0] at a0
  show i.toInt.toNat < L0
  omega
theorem xt_hi {I I' : Iv} {J J' : Jv} (h : XT I' J' = XT I J) : (∀ b, 78 ≤ b → I' b = I b) ∧ (∀ b, 78 ≤ b → J' b = J b) := by
  constructor
  · intro b hb
    have := congrArg (fun q => q.2.2.2.2.2.2.2.2.2.2.2.2.2.2.2.2.1 (b - 78)) h
    simp only [XT, XN] at this
    rwa [show b - 78 + 78 = b by omega] at this
  · intro b hb
    have := congrArg (fun q => q.2.2.2.2.2.2.2.2.2.2.2.2.2.2.2.2.2 (b - 78)) h
    simp only [XT, XN] at this
    rwa [show b - 78 + 78 = b by omega] at this
theorem lit_x {c : Nat} {I I' : Iv} {J J' : Jv} (h : XT I' J' = XT I J) (t : LIt c J) : LIt c J' := by
  unfold LIt at *; rw [(xt_hi h).2 79 (by omega)]; exact t
/-- all but the price itself -/
def LQ (c : Nat) (I : Iv) (J : Jv) : Prop := LIc c I ∧ LIt c J ∧ MA I ∧ MJ J
theorem LI.lq {c : Nat} {I : Iv} {J : Jv} (h : LI c I J) : LQ c I J := ⟨h.1, h.2.1, h.2.2.2.1, h.2.2.2.2⟩
theorem lq_x {c : Nat} {I I' : Iv} {J J' : Jv} (h : XT I' J' = XT I J) (k : LQ c I J) : LQ c I' J' ∧ I' 65 2 = I 65 2 ∧ bgI I' 78 30 = bgI I 78 30 := by
  obtain ⟨⟨k1, k2, k3, k4, k5⟩, t, a, m⟩ := k
  obtain ⟨hI, hJ⟩ := xt_hi h
  have e33 : I' 33 0 = I 33 0 := congrArg (fun q => q.2.2.2.2.2.2.2.2.2.2.2.2.2.2.1) h
  have e42 : I' 42 0 = I 42 0 := congrArg (fun q => q.2.2.2.2.2.2.2.2.2.2.2.2.2.2.2.1) h
  have e65 : I' 65 2 = I 65 2 := congrArg (fun q => q.2.2.2.2.2.2.1) h
  refine ⟨⟨⟨pri_of h k1, by rw [xt_len h]; exact k2, by rw [xt_tk h]; exact k3, by rw [e33]; exact k4, by rw [e42]; exact k5⟩, ?_, ?_, ?_⟩, e65, ?_⟩
  · unfold LIt at *; rw [hJ 79 (by omega)]; exact t
  · unfold MA at *; rw [hI 78 (by omega), hI 81 (by omega), hI 91 (by omega), hI 93 (by omega), hI 94 (by omega)]; exact a
  · intro X hX
    have := m X hX
    unfold BI FU SD at *; rw [hJ 79 (by omega)]; exact this
  · exact bgI_30 (by rw [hI 78 (by omega)]) (by rw [hI 78 (by omega)])
theorem bg_ne {I : Iv} : ¬ bgI I 78 2 = 0 := by
  by_cases hz : I 78 2 = 0
  · have e : bgI I 78 2 = 1 := by unfold bgI; rw [if_pos hz, wI_ne (by omega), wI_self]
    rw [e]; decide
  · have e : bgI I = I := if_neg hz
    rw [e]; exact hz
theorem lip_price {I : Iv} {x : Int32} (h : I 65 2 = x) : LIp (wI (bgI I) 78 30 x) := by
  unfold LIp
  have q : bgI (wI (bgI I) 78 30 x) = wI (bgI I) 78 30 x := if_neg (by rw [wI_ne (by omega)]; exact bg_ne)
  rw [q, wI_self, wI_row (by omega), bg_row (by omega), h]
theorem lq_price {c : Nat} {I : Iv} {J : Jv} {x : Int32} (h : LI c I J) : LQ c (wI I 65 2 x) J :=
  ⟨lic_free h.1 (by omega), h.2.1, ma_w h.2.2.2.1 (by decide), h.2.2.2.2⟩
theorem li_free {c : Nat} {I : Iv} {J : Jv} {a k : Nat} {v : Int32} (h : LI c I J) (ha : a < 78 ∧ ¬ (a = 65 ∧ k = 2)) (hn : a ≠ 61 ∧ ¬ (a = 1 ∧ k = 1) ∧ ¬ (a = 24 ∧ k = 0) ∧ ¬ (a = 33 ∧ k = 0) ∧ ¬ (a = 42 ∧ k = 0)) : LI c (wI I a k v) J := li_w h ha.1 ha.2 (lic_free h.1 hn)
theorem li_len {c : Nat} {I : Iv} {J : Jv} {v : Int32} (h : LI c I J) (hv : 0 ≤ v ∧ v ≤ 300) : LI c (wI I 1 1 v) J := li_w h (by omega) (by omega) (lic_len h.1 hv)
theorem li_tick {c : Nat} {I : Iv} {J : Jv} {v : Int32} (h : LI c I J) (hv : tkb c v) : LI c (wI I 24 0 v) J := li_w h (by omega) (by omega) (lic_tick h.1 hv)
theorem li_pri {c : Nat} {I : Iv} {J : Jv} {k : Nat} {v : Int32} (h : LI c I J) (hv : 0 ≤ v ∧ v ≤ 1000) : LI c (wI I 61 k v) J := li_w h (by omega) (by omega) (lic_pri h.1 hv)
theorem lic_33 {c : Nat} {I : Iv} {v : Int32} (h : LIc c I) (hv : tkb c v) : LIc c (wI I 33 0 v) := by
  unfold LIc PRI at *
  rw [wI_row (by decide), wI_ne (by omega), wI_ne (by omega), wI_self, wI_ne (by omega)]; exact ⟨h.1, h.2.1, h.2.2.1, hv, h.2.2.2.2⟩
theorem lic_42 {c : Nat} {I : Iv} {v : Int32} (h : LIc c I) (hv : tkb c v) : LIc c (wI I 42 0 v) := by
  unfold LIc PRI at *
  rw [wI_row (by decide), wI_ne (by omega), wI_ne (by omega), wI_ne (by omega), wI_self]; exact ⟨h.1, h.2.1, h.2.2.1, h.2.2.2.1, hv⟩
theorem li_33 {c : Nat} {I : Iv} {J : Jv} {v : Int32} (h : LI c I J) (hv : tkb c v) : LI c (wI I 33 0 v) J := li_w h (by omega) (by omega) (lic_33 h.1 hv)
theorem li_42 {c : Nat} {I : Iv} {J : Jv} {v : Int32} (h : LI c I J) (hv : tkb c v) : LI c (wI I 42 0 v) J := li_w h (by omega) (by omega) (lic_42 h.1 hv)
theorem li_kp {c : Nat} {I : Iv} {J : Jv} {i w : Int32} {k : Nat} (h : LI c I J) : LI c (wI (kp I i) 43 k w) J := by
  refine li_free ?_ (by omega) (by omega)
  unfold kp iA; split
  · exact li_33 (li_free (li_free h (by omega) (by omega)) (by omega) (by omega)) h.1.2.2.1
  · exact li_42 (li_free (li_free h (by omega) (by omega)) (by omega) (by omega)) h.1.2.2.1
theorem li_gb {c : Nat} {I : Iv} {J : Jv} {i : Int32} (h : LI c I J) : LI c (gb I i) J := by
  unfold gb iA; split
  · exact li_tick (li_free (li_free h (by omega) (by omega)) (by omega) (by omega)) h.1.2.2.2.1
  · exact li_tick (li_free (li_free h (by omega) (by omega)) (by omega) (by omega)) h.1.2.2.2.2
theorem li_forg {c : Nat} {I : Iv} {J : Jv} {f : Nat → Int32} (h : LI c I J) : LI c (rI I 58 f) J := by
  have e : ∀ b, b ≠ 58 → rI I 58 f b = I b := fun b q => by simp only [rI, if_neg q]
  obtain ⟨h1, h2, h3, h4, h5⟩ := h
  refine ⟨?_, h2, ?_, ?_, h5⟩
  · unfold LIc PRI at *
    rw [e 61 (by decide), e 1 (by decide), e 24 (by decide), e 33 (by decide), e 42 (by decide)]; exact h1
  · unfold LIp at *
    rw [e 65 (by decide), h3]; exact (bgI_30 (by rw [e 78 (by decide)]) (by rw [e 78 (by decide)])).symm
  · unfold MA at *
    rw [e 78 (by decide), e 81 (by decide), e 91 (by decide), e 93 (by decide), e 94 (by decide)]; exact h4
theorem lic_m91 {c : Nat} {I : Iv} {f : Nat → Int32} (h : LIc c I) : LIc c (rI2 I 91 f) := h.rows (fun b hb => by simp only [rI2, if_neg (show ¬ b = 91 by omega)])
theorem lip_m91 {I : Iv} {f : Nat → Int32} (h : LIp I) : LIp (rI2 I 91 f) := by
  have e : ∀ b, b ≠ 91 → rI2 I 91 f b = I b := fun b q => by simp only [rI2, if_neg q]
  unfold LIp at *
  rw [e 65 (by decide), h]; exact (bgI_30 (by rw [e 78 (by decide)]) (by rw [e 78 (by decide)])).symm
theorem lit_214 {c : Nat} {v : Int64} {C : Jv} (h : LIt c C) (hv : tkl c v) : LIt c (wJ C 79 214 v) := by
  unfold LIt at *
  rw [wJ_ne (by omega), wJ_self, wJ_ne (by omega)]; exact ⟨h.1, hv, h.2.2⟩
theorem lit_294 {c : Nat} {v : Int64} {C : Jv} (h : LIt c C) (hv : tkl c v) : LIt c (wJ C 79 294 v) := by
  unfold LIt at *
  rw [wJ_ne (by omega), wJ_ne (by omega), wJ_self]; exact ⟨h.1, h.2.1, hv⟩
theorem lit_kp {c : Nat} {i : Int32} {C : Jv} (h : LIt c C) : LIt c (kpJ C i) := by
  unfold kpJ; split
  · exact lit_w (lit_214 (lit_w h (by omega)) h.1) (by omega)
  · exact lit_w (lit_294 (lit_w h (by omega)) h.1) (by omega)
theorem lit_gb {c : Nat} {i : Int32} {C : Jv} (h : LIt c C) : LIt c (gbJ C i) := by
  unfold gbJ; split
  · exact lit_w (lit_t (lit_w h (by omega)) h.2.1) (by omega)
  · exact lit_w (lit_t (lit_w h (by omega)) h.2.2) (by omega)
/-- behind a call of the reference that tells nothing new of what is tracked -/
theorem li_d {c : Nat} {I I' : Iv} {J J' : Jv} (h : LI c I J) (k : MI (bgI I) I' ∧ MK (bgJ I J) J') : LI c I' J' := li_m k.1 k.2 (lic_bg h.1) (lit_bg h.2.1) (lip_bg h.2.2.1)
theorem li_end {L0 : Nat} {i : Int32} (hL : L0 ≤ 3072) (h : ¬ Int32.ofNat L0 - 6 < i) : i.toInt + 6 ≤ (L0 : Int) := by
  have a := Int32.le_iff_toInt_le.mp (Int32.not_lt.mp h)
  have c6 : (6 : Int32).toInt = 6 := by decide
  have e0 : (Int32.ofNat L0).toInt = (L0 : Int) := Int32.toInt_ofNat_of_lt (by omega)
  have e : (Int32.ofNat L0 - 6).toInt = (L0 : Int) - 6 := by
    rw [Int32.toInt_sub, e0, c6]
    apply Int.bmod_eq_of_le <;> omega
  rw [e] at a; omega
theorem li_up {i : Int32} {c : Nat} (h : i.toInt = 6 * (c : Int)) (hc : c ≤ 600) : (i + 6).toInt = 6 * ((c + 1 : Nat) : Int) := by
  have c6 : (6 : Int32).toInt = 6 := by decide
  rw [Int32.toInt_add, c6, h]
  have : 6 * (c : Int) + 6 = 6 * ((c + 1 : Nat) : Int) := by omega
  rw [← this]
  apply Int.bmod_eq_of_le <;> omega
theorem li_pos {i : Int32} {c : Nat} (h : i.toInt = 6 * (c : Int)) : 0 ≤ i := by
  have c0 : (0 : Int32).toInt = 0 := by decide
  rw [Int32.le_iff_toInt_le, c0, h]; omega
/-- what the constructors leave -/
theorem li_0 {I : Iv} {J : Jv} (h1 : I 1 1 = 0) (h2 : I 24 0 = 0) (h3 : I 33 0 = 0) (h4 : I 42 0 = 0) (h5 : ∀ k, k < 7 → I 61 k = 100) (h6 : I 65 2 = 30)
    (m1 : ∀ b, 78 < b → b < 99 → ∀ k, I b k = 0 ∧ J b k = 0) (m2 : ∀ k, k ≠ 16 → I 78 k = 0) : LI 0 I J := by
  refine ⟨⟨fun k hk => by rw [h5 k hk]; decide, by rw [h1]; decide, by rw [h2]; exact tkb_0, by rw [h3]; exact tkb_0, by rw [h4]; exact tkb_0⟩, ⟨?_, ?_, ?_⟩, ?_, ?_, ?_⟩
  · rw [(m1 79 (by decide) (by decide) _).2]; exact tkl_0
  · rw [(m1 79 (by decide) (by decide) _).2]; exact tkl_0
  · rw [(m1 79 (by decide) (by decide) _).2]; exact tkl_0
  · unfold LIp bgI; rw [h6, if_pos (m2 2 (by decide)), wI_self]
  · refine ⟨by rw [m2 11 (by decide)]; decide, by rw [m2 5 (by decide)]; decide, by rw [(m1 81 (by decide) (by decide) _).1]; decide, by rw [(m1 81 (by decide) (by decide) _).1]; decide, fun k hk => Or.inl (m1 91 (by decide) (by decide) _).1, fun k hk => by rw [(m1 94 (by decide) (by decide) _).1]; decide⟩
  · intro X hX
    have z : ∀ k, J 79 k = 0 := fun k => (m1 79 (by decide) (by decide) k).2
    refine ⟨fun f hf => ⟨Or.inl (z _), fun q => ?_⟩, by unfold FU; rw [z]; decide, by unfold SD; rw [z]; decide⟩
    rw [z] at q; exact absurd q (by decide)
