/-! ===== the reference: its reading of the text ===== -/
abbrev PA (I : Iv) : Prop := 0 ≤ I 78 12 ∧ I 78 12 ≤ I 78 11 ∧ I 78 11 ≤ 300
/-- what the small steps of a reading keep -/
def PF (I I' : Iv) : Prop := (∀ b, b ≠ 78 → I' b = I b) ∧ (∀ k, (k < 12 ∨ 17 < k) → I' 78 k = I 78 k) ∧ PA I' ∧ I 78 12 ≤ I' 78 12 ∧ (I' 78 15 = 0 → I 78 15 = 0) ∧ (0 ≤ I 78 15 → 0 ≤ I' 78 15)
theorem pf_rfl {I : Iv} (h : PA I) : PF I I := ⟨fun _ _ => rfl, fun _ _ => rfl, h, Int32.le_refl _, fun h => h, fun h => h⟩
theorem PF.tr {I I1 I2 : Iv} (h : PF I I1) (k : PF I1 I2) : PF I I2 :=
  ⟨fun b hb => (k.1 b hb).trans (h.1 b hb), fun i hi => (k.2.1 i hi).trans (h.2.1 i hi), k.2.2.1, Int32.le_trans h.2.2.2.1 k.2.2.2.1, fun q => h.2.2.2.2.1 (k.2.2.2.2.1 q), fun q => k.2.2.2.2.2 (h.2.2.2.2.2 q)⟩
theorem PF.size {I I1 : Iv} (h : PF I I1) : I1 78 11 = I 78 11 := h.2.1 11 (by omega)
theorem pf_at {I I1 : Iv} (h : PF I I1) (g : ¬ I1 78 11 ≤ I1 78 12) : PF I (wI I1 78 12 (I1 78 12 + 1)) := by
  have e1 : wI I1 78 12 (I1 78 12 + 1) 78 11 = I1 78 11 := wI_ne (by omega)
  have e2 : wI I1 78 12 (I1 78 12 + 1) 78 12 = I1 78 12 + 1 := wI_self
  have e5 : wI I1 78 12 (I1 78 12 + 1) 78 15 = I1 78 15 := wI_ne (by omega)
  obtain ⟨h1, h2, h3, h4, h5, h6⟩ := h
  refine ⟨fun b hb => ?_, fun k hk => ?_, ?_, ?_, ?_, ?_⟩
  · rw [wI_row hb]; exact h1 b hb
  · rw [wI_ne (by omega)]; exact h2 k hk
  · unfold PA; rw [e1, e2]; grind
  · rw [e2]; grind
  · rw [e5]; exact h5
  · rw [e5]; exact h6
theorem pf_cell {I I1 : Iv} {k : Nat} {v : Int32} (h : PF I I1) (hk : k = 13 ∨ k = 14 ∨ k = 16 ∨ k = 17) : PF I (wI I1 78 k v) := by
  have e1 : wI I1 78 k v 78 11 = I1 78 11 := wI_ne (by omega)
  have e2 : wI I1 78 k v 78 12 = I1 78 12 := wI_ne (by omega)
  have e5 : wI I1 78 k v 78 15 = I1 78 15 := wI_ne (by omega)
  obtain ⟨h1, h2, h3, h4, h5, h6⟩ := h
  refine ⟨fun b hb => ?_, fun j hj => ?_, ?_, ?_, ?_, ?_⟩
  · rw [wI_row hb]; exact h1 b hb
  · rw [wI_ne (by omega)]; exact h2 j hj
  · unfold PA; rw [e1, e2]; exact h3
  · rw [e2]; exact h4
  · rw [e5]; exact h5
  · rw [e5]; exact h6
theorem pf_15 {I I1 : Iv} {v : Int32} (h : PF I I1) (g : I1 78 15 = 0) (gv : 1 ≤ v) : PF I (wI I1 78 15 v) := by
  have e1 : wI I1 78 15 v 78 11 = I1 78 11 := wI_ne (by omega)
  have e2 : wI I1 78 15 v 78 12 = I1 78 12 := wI_ne (by omega)
  obtain ⟨h1, h2, h3, h4, h5, h6⟩ := h
  refine ⟨fun b hb => ?_, fun j hj => ?_, ?_, ?_, ?_, ?_⟩
  · rw [wI_row hb]; exact h1 b hb
  · rw [wI_ne (by omega)]; exact h2 j hj
  · unfold PA; rw [e1, e2]; exact h3
  · rw [e2]; exact h4
  · intro _; exact h5 g
  · intro _; rw [wI_self]; grind
theorem pstep {I : Iv} (h : ¬ I 78 11 ≤ I 78 12) : mU (wI I 78 12 (I 78 12 + 1) 78 11) (wI I 78 12 (I 78 12 + 1) 78 12) < mU (I 78 11) (I 78 12) := by
  have e1 : wI I 78 12 (I 78 12 + 1) 78 11 = I 78 11 := wI_ne (by omega)
  have e2 : wI I 78 12 (I 78 12 + 1) 78 12 = I 78 12 + 1 := wI_self
  rw [e1, e2]; exact mu_up h
/-- while no FAULT: what was read of the seal and of the bulb keeps its bounds -/
def RK (I : Iv) : Prop := I 78 15 = 0 → (0 ≤ I 82 8 ∧ I 82 8 ≤ 2) ∧ (0 ≤ I 82 2 ∧ I 82 2 ≤ 99)
def PC (I I' : Iv) : Prop := (∀ b, b ≠ 78 → b ≠ 82 → I' b = I b) ∧ (∀ k, (k < 12 ∨ 17 < k) → I' 78 k = I 78 k) ∧ PA I' ∧ I 78 12 ≤ I' 78 12 ∧ (I' 78 15 = 0 → I 78 15 = 0) ∧ RK I' ∧ (0 ≤ I 78 15 → 0 ≤ I' 78 15)
theorem pc_rfl {I : Iv} (h : PA I) (k : RK I) : PC I I := ⟨fun _ _ _ => rfl, fun _ _ => rfl, h, Int32.le_refl _, fun h => h, k, fun h => h⟩
theorem PC.tr {I I1 I2 : Iv} (h : PC I I1) (k : PC I1 I2) : PC I I2 :=
  ⟨fun b hb hc => (k.1 b hb hc).trans (h.1 b hb hc), fun i hi => (k.2.1 i hi).trans (h.2.1 i hi), k.2.2.1, Int32.le_trans h.2.2.2.1 k.2.2.2.1, fun q => h.2.2.2.2.1 (k.2.2.2.2.1 q), k.2.2.2.2.2.1, fun q => k.2.2.2.2.2.2 (h.2.2.2.2.2.2 q)⟩
theorem PC.pf {I I1 I2 : Iv} (h : PC I I1) (k : PF I1 I2) : PC I I2 :=
  ⟨fun b hb hc => (k.1 b hb).trans (h.1 b hb hc), fun i hi => (k.2.1 i hi).trans (h.2.1 i hi), k.2.2.1, Int32.le_trans h.2.2.2.1 k.2.2.2.1, fun q => h.2.2.2.2.1 (k.2.2.2.2.1 q), fun q => by rw [k.1 82 (by decide)]; exact h.2.2.2.2.2.1 (k.2.2.2.2.1 q), fun q => k.2.2.2.2.2 (h.2.2.2.2.2.2 q)⟩
theorem PC.size {I I1 : Iv} (h : PC I I1) : I1 78 11 = I 78 11 := h.2.1 11 (by omega)
theorem pc_read {I I1 : Iv} {k : Nat} {v : Int32} (h : PC I I1) (h8 : k = 8 → I1 78 15 = 0 → 0 ≤ v ∧ v ≤ 2) (h2 : k = 2 → I1 78 15 = 0 → 0 ≤ v ∧ v ≤ 99) : PC I (wI I1 82 k v) := by
  have e : wI I1 82 k v 78 = I1 78 := wI_row (by decide)
  obtain ⟨p1, p2, p3, p4, p5, p6, p7⟩ := h
  refine ⟨fun b hb hc => ?_, ?_, ?_, ?_, ?_, ?_, by rw [e]; exact p7⟩
  · rw [wI_row hc]; exact p1 b hb hc
  · rw [e]; exact p2
  · unfold PA; rw [e]; exact p3
  · rw [e]; exact p4
  · rw [e]; exact p5
  · unfold RK; rw [e]; intro q
    have w := p6 q
    constructor
    · by_cases hk : k = 8
      · subst hk; rw [wI_self]; exact h8 rfl q
      · rw [wI_ne (Or.inr (fun z => hk z.symm))]; exact w.1
    · by_cases hk : k = 2
      · subst hk; rw [wI_self]; exact h2 rfl q
      · rw [wI_ne (Or.inr (fun z => hk z.symm))]; exact w.2
theorem pc_kinds {I I1 : Iv} {v : Int32} (h : PC I I1) : PC I (wI I1 78 17 v) := by
  have e1 : wI I1 78 17 v 78 11 = I1 78 11 := wI_ne (by omega)
  have e2 : wI I1 78 17 v 78 12 = I1 78 12 := wI_ne (by omega)
  have e5 : wI I1 78 17 v 78 15 = I1 78 15 := wI_ne (by omega)
  have e8 : wI I1 78 17 v 82 = I1 82 := wI_row (by decide)
  obtain ⟨p1, p2, p3, p4, p5, p6, p7⟩ := h
  refine ⟨fun b hb hc => ?_, fun j hj => ?_, ?_, ?_, ?_, ?_, by rw [e5]; exact p7⟩
  · rw [wI_row hb]; exact p1 b hb hc
  · rw [wI_ne (by omega)]; exact p2 j hj
  · unfold PA; rw [e1, e2]; exact p3
  · rw [e2]; exact p4
  · rw [e5]; exact p5
  · unfold RK; rw [e5, e8]; exact p6
def MR (I : Iv) : Nat := 2 * mU (I 78 11) (I 78 12) + (if I 78 15 = 0 then 1 else 0)
theorem mr_dec {I I' : Iv} (h0 : I 78 15 = 0) (hs : I' 78 11 = I 78 11) (hp : PA I') (ha : I 78 12 ≤ I' 78 12) (hf : I' 78 15 = 0 → I 78 12 < I' 78 12) : MR I' < MR I := by
  have q0 := Int32.le_iff_toInt_le.mp ha
  have q1 := Int32.le_iff_toInt_le.mp hp.2.1
  rw [hs] at q1
  unfold MR mU
  rw [hs, if_pos h0]
  by_cases z : I' 78 15 = 0
  · have q2 := Int32.lt_iff_toInt_lt.mp (hf z)
    rw [if_pos z]; omega
  · rw [if_neg z]; omega
theorem tn_eq {a c : Int32} (h0 : 0 ≤ a) (hc : 0 ≤ c) (h : a.toNatClampNeg = c.toNatClampNeg) : a = c := by
  have a0 := Int32.le_iff_toInt_le.mp h0
  have c0 := Int32.le_iff_toInt_le.mp hc
  simp at a0 c0
  rw [tn_nat, tn_nat] at h
  exact Int32.toInt_inj.mp (by omega)
