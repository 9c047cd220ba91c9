theorem lic_w {c : Nat} {B : Iv} {a k : Nat} {v : Int32} (h : LIc c B) (hk : 77 < a) : LIc c (wI B a k v) := h.rows (fun b hb => wI_row (by omega))
theorem lit_w {c k : Nat} {v : Int64} {C : Jv} (h : LIt c C) (hk : k ≠ 54 ∧ k ≠ 214 ∧ k ≠ 294) : LIt c (wJ C 79 k v) := by
  unfold LIt at *
  rw [wJ_ne (by omega), wJ_ne (by omega), wJ_ne (by omega)]; exact h
theorem lit_t {c : Nat} {v : Int64} {C : Jv} (h : LIt c C) (hv : tkl c v) : LIt c (wJ C 79 54 v) := by
  unfold LIt at *
  rw [wJ_self, wJ_ne (by omega), wJ_ne (by omega)]; exact ⟨hv, h.2⟩
theorem ma_w {I : Iv} {a k : Nat} {v : Int32} (h : MA I) (ha : a < 78) : MA (wI I a k v) := by
  unfold MA at *; rw [wI_row (by omega), wI_row (by omega), wI_row (by omega), wI_row (by omega), wI_row (by omega)]; exact h
theorem lic_free {c : Nat} {I : Iv} {a k : Nat} {v : Int32} (h : LIc c I) (hn : a ≠ 61 ∧ ¬ (a = 1 ∧ k = 1) ∧ ¬ (a = 24 ∧ k = 0) ∧ ¬ (a = 33 ∧ k = 0) ∧ ¬ (a = 42 ∧ k = 0)) : LIc c (wI I a k v) := by
  unfold LIc PRI at *
  rw [wI_row (Ne.symm hn.1), wI_ne (by omega), wI_ne (by omega), wI_ne (by omega), wI_ne (by omega)]; exact h
theorem lic_len {c : Nat} {I : Iv} {v : Int32} (h : LIc c I) (hv : 0 ≤ v ∧ v ≤ 300) : LIc c (wI I 1 1 v) := by
  unfold LIc PRI at *
  rw [wI_row (by decide), wI_self, wI_ne (by omega), wI_ne (by omega), wI_ne (by omega)]; exact ⟨h.1, hv, h.2.2⟩
theorem lic_tick {c : Nat} {I : Iv} {v : Int32} (h : LIc c I) (hv : tkb c v) : LIc c (wI I 24 0 v) := by
  unfold LIc PRI at *
  rw [wI_row (by decide), wI_ne (by omega), wI_self, wI_ne (by omega), wI_ne (by omega)]; exact ⟨h.1, h.2.1, hv, h.2.2.2⟩
theorem lic_pri {c : Nat} {I : Iv} {k : Nat} {v : Int32} (h : LIc c I) (hv : 0 ≤ v ∧ v ≤ 1000) : LIc c (wI I 61 k v) := by
  unfold LIc at *
  refine ⟨fun j hj => ?_, by rw [wI_row (by decide)]; exact h.2.1, by rw [wI_row (by decide), wI_row (by decide), wI_row (by decide)]; exact h.2.2⟩
  by_cases e : j = k
  · subst e; rw [wI_self]; exact hv
  · rw [wI_ne (Or.inr e)]; exact h.1 j hj
theorem tkb_0 {c : Nat} : tkb c 0 := by
  have e : (0 : Int32).toInt = 0 := by decide
  unfold tkb; rw [e]; omega
theorem tkl_0 {c : Nat} : tkl c 0 := by
  have e : (0 : Int64).toInt = 0 := by decide
  unfold tkl; rw [e]; omega
theorem tkb_add {c : Nat} {t n : Int32} (h : tkb c t) (hc : c ≤ 600) (h0 : 0 ≤ n) (h1 : n ≤ 2880) : tkb (c + 1) (t + n) := by
  have a0 := Int32.le_iff_toInt_le.mp h0
  have a1 := Int32.le_iff_toInt_le.mp h1
  have c0 : (0 : Int32).toInt = 0 := by decide
  have c1 : (2880 : Int32).toInt = 2880 := by decide
  rw [c0] at a0
  rw [c1] at a1
  obtain ⟨b0, b1⟩ := h
  have e : (t + n).toInt = t.toInt + n.toInt := by
    rw [Int32.toInt_add]
    apply Int.bmod_eq_of_le <;> omega
  unfold tkb
  rw [e]; omega
theorem tkl_add {c : Nat} {t n : Int64} (h : tkl c t) (hc : c ≤ 600) (h0 : 0 ≤ n) (h1 : n ≤ 2880) : tkl (c + 1) (t + n) := by
  have a0 := Int64.le_iff_toInt_le.mp h0
  have a1 := Int64.le_iff_toInt_le.mp h1
  have c0 : (0 : Int64).toInt = 0 := by decide
  have c1 : (2880 : Int64).toInt = 2880 := by decide
  rw [c0] at a0
  rw [c1] at a1
  obtain ⟨b0, b1⟩ := h
  have e : (t + n).toInt = t.toInt + n.toInt := by
    rw [Int64.toInt_add]
    apply Int.bmod_eq_of_le <;> omega
  unfold tkl
  rw [e]; omega
theorem tkb_lim {c : Nat} {t : Int32} (h : tkb c t) (hc : c ≤ 600) : 0 ≤ t ∧ t ≤ 2000000000 := by
  have c0 : (0 : Int32).toInt = 0 := by decide
  have c1 : (2000000000 : Int32).toInt = 2000000000 := by decide
  unfold tkb at h
  rw [Int32.le_iff_toInt_le, Int32.le_iff_toInt_le, c0, c1]; omega
theorem tkl_lim {c : Nat} {t : Int64} (h : tkl c t) (hc : c ≤ 600) : 0 ≤ t ∧ t ≤ 1000000000000 := by
  have c0 : (0 : Int64).toInt = 0 := by decide
  have c1 : (1000000000000 : Int64).toInt = 1000000000000 := by decide
  unfold tkl at h
  rw [Int64.le_iff_toInt_le, Int64.le_iff_toInt_le, c0, c1]; omega
theorem li_ix {i k : Int32} {L0 : Nat} (h0 : 0 ≤ i) (h1 : i.toInt + 6 ≤ (L0 : Int)) (hL : L0 ≤ 3072) (k0 : 0 ≤ k ∧ k ≤ 5) : 0 ≤ i + k ∧ (i + k).toNatClampNeg < L0 := by
  have a0 := Int32.le_iff_toInt_le.mp h0
  have b0 := Int32.le_iff_toInt_le.mp k0.1
  have b1 := Int32.le_iff_toInt_le.mp k0.2
  have c0 : (0 : Int32).toInt = 0 := by decide
  have c5 : (5 : Int32).toInt = 5 := by decide
  rw [c0] at a0 b0
  rw [c5] at b1
  have e : (i + k).toInt = i.toInt + k.toInt := by
    rw [Int32.toInt_add]
    apply Int.bmod_eq_of_le <;> omega
  refine ⟨?_, ?_⟩
  · rw [Int32.le_iff_toInt_le, c0, e]; omega
  · show (i + k).toInt.toNat < L0
    rw [e]; omega
theorem li_ix0 {i : Int32} {L0 : Nat} (h0 : 0 ≤ i) (h1 : i.toInt + 6 ≤ (L0 : Int)) : 0 ≤ i ∧ i.toNatClampNeg < L0 := by
  refine ⟨h0, ?_⟩
  have a0 := Int32.le_iff_toInt_le.mp h0
  have c0 : (0 : Int32).toInt = 0 := by decide
  rw [c0] at a0
  show i.toInt.toNat < L0
  omega
theorem lic_33 {c : Nat} {I : Iv} {v : Int32} (h : LIc c I) (hv : tkb c v) : LIc c (wI I 33 0 v) := by
  unfold LIc PRI at *
  rw [wI_row (by decide), wI_ne (by omega), wI_ne (by omega), wI_self, wI_ne (by omega)]; exact ⟨h.1, h.2.1, h.2.2.1, hv, h.2.2.2.2⟩
theorem lic_42 {c : Nat} {I : Iv} {v : Int32} (h : LIc c I) (hv : tkb c v) : LIc c (wI I 42 0 v) := by
  unfold LIc PRI at *
  rw [wI_row (by decide), wI_ne (by omega), wI_ne (by omega), wI_ne (by omega), wI_self]; exact ⟨h.1, h.2.1, h.2.2.1, h.2.2.2.1, hv⟩
theorem lic_m91 {c : Nat} {I : Iv} {f : Nat → Int32} (h : LIc c I) : LIc c (rI2 I 91 f) := h.rows (fun b hb => by simp only [rI2, if_neg (show ¬ b = 91 by omega)])
theorem lit_214 {c : Nat} {v : Int64} {C : Jv} (h : LIt c C) (hv : tkl c v) : LIt c (wJ C 79 214 v) := by
  unfold LIt at *
  rw [wJ_ne (by omega), wJ_self, wJ_ne (by omega)]; exact ⟨h.1, hv, h.2.2⟩
theorem lit_294 {c : Nat} {v : Int64} {C : Jv} (h : LIt c C) (hv : tkl c v) : LIt c (wJ C 79 294 v) := by
  unfold LIt at *
  rw [wJ_ne (by omega), wJ_ne (by omega), wJ_self]; exact ⟨h.1, h.2.1, hv⟩
theorem lit_kp {c : Nat} {i : Int32} {C : Jv} (h : LIt c C) : LIt c (kpJ C i) := by
  unfold kpJ; split
  · exact lit_w (lit_214 (lit_w h (by omega)) h.1) (by omega)
  · exact lit_w (lit_294 (lit_w h (by omega)) h.1) (by omega)
theorem lit_gb {c : Nat} {i : Int32} {C : Jv} (h : LIt c C) : LIt c (gbJ C i) := by
  unfold gbJ; split
  · exact lit_w (lit_t (lit_w h (by omega)) h.2.1) (by omega)
  · exact lit_w (lit_t (lit_w h (by omega)) h.2.2) (by omega)
theorem li_end {L0 : Nat} {i : Int32} (hL : L0 ≤ 3072) (h : ¬ Int32.ofNat L0 - 6 < i) : i.toInt + 6 ≤ (L0 : Int) := by
  have a := Int32.le_iff_toInt_le.mp (Int32.not_lt.mp h)
  have c6 : (6 : Int32).toInt = 6 := by decide
  have e0 : (Int32.ofNat L0).toInt = (L0 : Int) := Int32.toInt_ofNat_of_lt (by omega)
  have e : (Int32.ofNat L0 - 6).toInt = (L0 : Int) - 6 := by
    rw [Int32.toInt_sub, e0, c6]
    apply Int.bmod_eq_of_le <;> omega
  rw [e] at a; omega
theorem li_up {i : Int32} {c : Nat} (h : i.toInt = 6 * (c : Int)) (hc : c ≤ 600) : (i + 6).toInt = 6 * ((c + 1 : Nat) : Int) := by
  have c6 : (6 : Int32).toInt = 6 := by decide
  rw [Int32.toInt_add, c6, h]
  have : 6 * (c : Int) + 6 = 6 * ((c + 1 : Nat) : Int) := by omega
  rw [← this]
  apply Int.bmod_eq_of_le <;> omega
theorem li_pos {i : Int32} {c : Nat} (h : i.toInt = 6 * (c : Int)) : 0 ≤ i := by
  have c0 : (0 : Int32).toInt = 0 := by decide
  rw [Int32.le_iff_toInt_le, c0, h]; omega
