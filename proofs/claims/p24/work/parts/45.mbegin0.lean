def bgI (I : Iv) : Iv := if I 78 2 = 0 then wI (wI (rI2 (rI2 I 94 (fun k => if k < 7 then 100 else I 94 k)) 98 (fun k => if k < 7 then 50 else I 98 k)) 78 2 1) 78 30 30 else I
def bgJ (I : Iv) (J : Jv) : Jv := if I 78 2 = 0 then wJ (wJ J 79 69 1) 79 54 0 else J
def BR (B I I' : Iv) : Prop := (∀ b, b ≠ 78 → b ≠ 81 → b ≠ 94 → b ≠ 98 → I' b = I b) ∧ (∀ k, k ≠ 2 → k ≠ 30 → k ≠ 31 → I' 78 k = I 78 k) ∧ I' 78 2 = B 78 2
theorem br_rfl {I : Iv} : BR I I I := ⟨fun _ _ _ _ _ => rfl, fun _ _ _ _ => rfl, rfl⟩
theorem br_beg {I I1 : Iv} (h : BR I I I1) : BR (wI I 78 2 1) I (wI I1 78 2 1) := by
  refine ⟨fun b h1 h2 h3 h4 => ?_, fun k h1 h2 h3 => ?_, ?_⟩
  · rw [wI_row h1]; exact h.1 b h1 h2 h3 h4
  · rw [wI_ne (Or.inr h1)]; exact h.2.1 k h1 h2 h3
  · rw [wI_self, wI_self]
theorem br_w {B I I1 : Iv} {a k : Nat} {v : Int32} (h : BR B I I1) (ha : a = 81 ∨ a = 94 ∨ a = 98 ∨ (a = 78 ∧ (k = 30 ∨ k = 31))) : BR B I (wI I1 a k v) := by
  refine ⟨fun b h1 h2 h3 h4 => ?_, fun j h1 h2 h3 => ?_, ?_⟩
  · rw [wI_row (by omega)]; exact h.1 b h1 h2 h3 h4
  · rw [wI_ne (by omega)]; exact h.2.1 j h1 h2 h3
  · rw [wI_ne (by omega)]; exact h.2.2
theorem box_step {I : Iv} {x v : Int32} (r : Nat) (hx : 0 ≤ x) (hv : (x = 8 → v = 1) ∧ (x = 2 → v = 3)) (h : (8 < x → I r 8 = 1) ∧ (2 < x → I r 2 = 3)) (hu : ¬ 15 ≤ x) : (8 < x + 1 → wI I r x.toNatClampNeg v r 8 = 1) ∧ (2 < x + 1 → wI I r x.toNatClampNeg v r 2 = 3) := by
  constructor
  · intro q
    by_cases e : x = 8
    · subst e; rw [show (8 : Int32).toNatClampNeg = 8 from rfl, wI_self]; exact hv.1 rfl
    · have z8 : 8 ≠ x.toNatClampNeg := fun z => e (tn_eq (c := 8) hx (by decide) z.symm)
      rw [wI_ne (Or.inr z8)]; exact h.1 (by grind)
  · intro q
    by_cases e : x = 2
    · subst e; rw [show (2 : Int32).toNatClampNeg = 2 from rfl, wI_self]; exact hv.2 rfl
    · have z2 : 2 ≠ x.toNatClampNeg := fun z => e (tn_eq (c := 2) hx (by decide) z.symm)
      rw [wI_ne (Or.inr z2)]; exact h.2 (by grind)
def PM (I I' : Iv) (n : Nat) : Prop := (∀ j, I' 94 j = if j < n then 100 else I 94 j) ∧ (∀ j, I' 98 j = if j < n then 50 else I 98 j)
theorem pm_step {I I1 : Iv} {x : Int32} (h0 : 0 ≤ x) (hu : ¬ 7 ≤ x) (h : PM I I1 x.toNatClampNeg) : PM I (wI (wI I1 94 x.toNatClampNeg 100) 98 x.toNatClampNeg 50) (x + 1).toNatClampNeg := by
  have e : (x + 1).toNatClampNeg = x.toNatClampNeg + 1 := tn_add (by constructor <;> grind) (by decide)
  rw [e]
  constructor
  · intro j
    rw [wI_row (by decide)]
    by_cases q : j = x.toNatClampNeg
    · subst q; rw [wI_self, if_pos (by omega)]
    · rw [wI_ne (Or.inr q), h.1 j]
      by_cases z : j < x.toNatClampNeg
      · rw [if_pos z, if_pos (by omega)]
      · rw [if_neg z, if_neg (by omega)]
  · intro j
    by_cases q : j = x.toNatClampNeg
    · subst q; rw [wI_self, if_pos (by omega)]
    · rw [wI_ne (Or.inr q), wI_row (by decide), h.2 j]
      by_cases z : j < x.toNatClampNeg
      · rw [if_pos z, if_pos (by omega)]
      · rw [if_neg z, if_neg (by omega)]
theorem bg_mi {I I1 : Iv} {v : Int32} (h2 : I 78 2 = 0) (ha : MA I) (h : BR (wI I 78 2 1) I I1) (hb : I1 81 8 = 1 ∧ I1 81 2 = 3) (hp : PM I I1 7) : MI (bgI I) (wI (wI I1 78 30 30) 78 31 v) := by
  obtain ⟨r, c, b2⟩ := h
  rw [wI_self] at b2
  have e : bgI I = wI (wI (rI2 (rI2 I 94 (fun k => if k < 7 then 100 else I 94 k)) 98 (fun k => if k < 7 then 50 else I 98 k)) 78 2 1) 78 30 30 := if_pos h2
  have m : ∀ b, b ≠ 78 → wI (wI I1 78 30 30) 78 31 v b = I1 b := fun b q => by rw [wI_row q, wI_row q]
  have n : ∀ b, b ≠ 78 → bgI I b = rI2 (rI2 I 94 (fun k => if k < 7 then 100 else I 94 k)) 98 (fun k => if k < 7 then 50 else I 98 k) b := fun b q => by rw [e, wI_row q, wI_row q]
  have c2 : wI (wI I1 78 30 30) 78 31 v 78 2 = 1 := by rw [wI_ne (by omega), wI_ne (by omega)]; exact b2
  have c30 : wI (wI I1 78 30 30) 78 31 v 78 30 = 30 := by rw [wI_ne (by omega), wI_self]
  have c11 : wI (wI I1 78 30 30) 78 31 v 78 11 = I 78 11 := by rw [wI_ne (by omega), wI_ne (by omega)]; exact c 11 (by omega) (by omega) (by omega)
  have c5 : wI (wI I1 78 30 30) 78 31 v 78 5 = I 78 5 := by rw [wI_ne (by omega), wI_ne (by omega)]; exact c 5 (by omega) (by omega) (by omega)
  have d2 : bgI I 78 2 = 1 := by rw [e, wI_ne (by omega), wI_self]
  have d30 : bgI I 78 30 = 30 := by rw [e, wI_self]
  have d11 : bgI I 78 11 = I 78 11 := by rw [e, wI_ne (by omega), wI_ne (by omega)]; rfl
  have f94 : I1 94 = fun k => if k < 7 then 100 else I 94 k := funext hp.1
  have f98 : I1 98 = fun k => if k < 7 then 50 else I 98 k := funext hp.2
  have z : (fun b => if b < 78 then wI (wI I1 78 30 30) 78 31 v b else fun _ => 0) = (fun b => if b < 78 then bgI I b else fun _ => 0) := by
    funext b; split
    · next q =>
      rw [m b (by omega), n b (by omega), r b (by omega) (by omega) (by omega) (by omega)]
      simp only [rI2, if_neg (show ¬ b = 98 by omega), if_neg (show ¬ b = 94 by omega)]
    · rfl
  refine ⟨?_, ?_⟩
  · simp only [MTI, z, c2, c30, c11, d2, d30, d11, m 80 (by decide), m 91 (by decide), m 94 (by decide), m 95 (by decide), m 98 (by decide), n 80 (by decide), n 91 (by decide), n 94 (by decide), n 95 (by decide), n 98 (by decide), r 80 (by decide) (by decide) (by decide) (by decide), r 91 (by decide) (by decide) (by decide) (by decide), r 95 (by decide) (by decide) (by decide) (by decide), f94, f98]
    rfl
  · obtain ⟨a1, a2, a3, a4, a5, a6⟩ := ha
    unfold MA
    rw [c11, c5, m 81 (by decide), m 91 (by decide), m 93 (by decide), m 94 (by decide), r 91 (by decide) (by decide) (by decide) (by decide), r 93 (by decide) (by decide) (by decide) (by decide), hb.1, hb.2]
    refine ⟨a1, a2, by decide, by decide, a5, fun k hk => ?_⟩
    rw [hp.1 k, if_pos hk]; decide
theorem fh_mk0 {C J J1 : Jv} (h : MK C J) (f : FH 0 J J1) : MK (wJ C 79 54 0) J1 := by
  refine ⟨?_, fh_mj (by omega) h.2 f⟩
  have e : (fun b => if b < 78 then J1 b else fun _ => 0) = (fun b => if b < 78 then wJ C 79 54 0 b else fun _ => 0) := by
    have := congrArg (fun q => q.1) h.1
    funext b
    have q := congrFun this b
    simp only [MTJ] at q
    split
    · next z => rw [if_pos z, if_pos z] at q; rw [f.1.1 b (by omega), wJ_row (by omega), q]
    · rfl
  have n : ∀ j, 80 ≤ j → J1 79 j = J 79 j := fun j hj => f.1.2 j (by omega)
  have m : ∀ j, j ≠ 54 → wJ C 79 54 0 79 j = C 79 j := fun j hj => wJ_ne (Or.inr hj)
  have s : wJ C 79 54 0 79 54 = 0 := wJ_self
  have f52 : J1 79 52 = J 79 52 := f.2.1
  have f69 : J1 79 69 = J 79 69 := f.2.2.1
  have f54 : J1 79 54 = 0 := f.2.2.2.2.1
  have hh := h.1
  simp only [MTJ, Prod.mk.injEq] at hh
  obtain ⟨-, h1, h2, h3, h4, h5, h6, h7, h8, h9⟩ := hh
  simp only [MTJ, e, f52, f54, f69, s, n 212 (by omega), n 214 (by omega), n 229 (by omega), n 292 (by omega), n 294 (by omega), n 309 (by omega), m 52 (by omega), m 69 (by omega), m 212 (by omega), m 214 (by omega), m 229 (by omega), m 292 (by omega), m 294 (by omega), m 309 (by omega), h1, h3, h4, h5, h6, h7, h8, h9]
theorem fh_mk80 {C J J1 : Jv} (h : MK C J) (f : FH 80 J J1) : MK C J1 := by
  refine ⟨?_, fh_mj (by omega) h.2 f⟩
  have e : (fun b => if b < 78 then J1 b else fun _ => 0) = (fun b => if b < 78 then J b else fun _ => 0) := by
    funext b; split
    · exact f.1.1 b (by omega)
    · rfl
  have n : ∀ j, j < 80 ∨ 160 ≤ j → J1 79 j = J 79 j := fun j hj => f.1.2 j (by omega)
  rw [← h.1]; simp only [MTJ, e, n 52 (by omega), n 54 (by omega), n 69 (by omega), n 212 (by omega), n 214 (by omega), n 229 (by omega), n 292 (by omega), n 294 (by omega), n 309 (by omega)]
theorem cy_mk80 {X : Nat} {C J J1 : Jv} (hX : HN X) (h : MK C J) (f : CY X 80 J J1) : MK C J1 := by
  refine ⟨?_, cy_mj hX (by omega) h.2 f⟩
  have e : (fun b => if b < 78 then J1 b else fun _ => 0) = (fun b => if b < 78 then J b else fun _ => 0) := by
    funext b; split
    · exact f.1.1 b (by omega)
    · rfl
  have n : ∀ j, j < 80 ∨ 160 ≤ j → J1 79 j = J 79 j := fun j hj => f.1.2 j (by omega)
  rw [← h.1]; simp only [MTJ, e, n 52 (by omega), n 54 (by omega), n 69 (by omega), n 212 (by omega), n 214 (by omega), n 229 (by omega), n 292 (by omega), n 294 (by omega), n 309 (by omega)]
theorem mj_69 {v : Int64} {C J : Jv} (h : MK C J) : MK (wJ C 79 69 v) (wJ J 79 69 v) := by
  obtain ⟨b1, b2, b3⟩ := h.2 0 (by omega)
  have n : ∀ j, j ≠ 69 → wJ J 79 69 v 79 j = J 79 j := fun j hj => wJ_ne (Or.inr hj)
  refine mj_blk (X := 0) (by omega) h (by omega) (bi_eq (fun j h1 h2 => n j (by omega)) b1) ?_ ?_
  · unfold FU; rw [n _ (by omega)]; exact b2
  · unfold SD at *; rw [n _ (by omega)]; exact b3
theorem mj_52 {v : Int64} {C J : Jv} (h : MK C J) : MK (wJ C 79 52 v) (wJ J 79 52 v) := by
  obtain ⟨b1, b2, b3⟩ := h.2 0 (by omega)
  have n : ∀ j, j ≠ 52 → wJ J 79 52 v 79 j = J 79 j := fun j hj => wJ_ne (Or.inr hj)
  refine mj_blk (X := 0) (by omega) h (by omega) (bi_eq (fun j h1 h2 => n j (by omega)) b1) ?_ ?_
  · unfold FU; rw [n _ (by omega)]; exact b2
  · unfold SD at *; rw [n _ (by omega)]; exact b3
theorem mi_br {B I I1 : Iv} (h : MI B I) (r : (∀ b, b ≠ 78 → I1 b = I b) ∧ (∀ k, (k < 12 ∨ 17 < k) → I1 78 k = I 78 k)) : MI B I1 := by
  obtain ⟨r, c⟩ := r
  have e : (fun b => if b < 78 then I1 b else fun _ => 0) = (fun b => if b < 78 then I b else fun _ => 0) := by
    funext b; split
    · exact r b (by omega)
    · rfl
  refine ⟨?_, ?_⟩
  · rw [← h.1]; simp only [MTI, e, c 2 (by omega), c 11 (by omega), c 30 (by omega), r 80 (by omega), r 91 (by omega), r 94 (by omega), r 95 (by omega), r 98 (by omega)]
  · have h2 := h.2
    unfold MA at *
    rw [c 11 (by omega), c 5 (by omega), r 81 (by omega), r 91 (by omega), r 93 (by omega), r 94 (by omega)]; exact h2
theorem mi_pc {B I I1 : Iv} (h : MI B I) (r : (∀ b, b ≠ 78 → b ≠ 82 → I1 b = I b) ∧ (∀ k, (k < 12 ∨ 17 < k) → I1 78 k = I 78 k)) : MI B I1 := by
  obtain ⟨r, c⟩ := r
  have e : (fun b => if b < 78 then I1 b else fun _ => 0) = (fun b => if b < 78 then I b else fun _ => 0) := by
    funext b; split
    · exact r b (by omega) (by omega)
    · rfl
  refine ⟨?_, ?_⟩
  · rw [← h.1]; simp only [MTI, e, c 2 (by omega), c 11 (by omega), c 30 (by omega), r 80 (by omega) (by omega), r 91 (by omega) (by omega), r 94 (by omega) (by omega), r 95 (by omega) (by omega), r 98 (by omega) (by omega)]
  · have h2 := h.2
    unfold MA at *
    rw [c 11 (by omega), c 5 (by omega), r 81 (by omega) (by omega), r 91 (by omega) (by omega), r 93 (by omega) (by omega), r 94 (by omega) (by omega)]; exact h2
theorem mi_81 {k : Nat} {v : Int32} {B I : Iv} (h : MI B I) (h8 : k = 8 → 0 ≤ v ∧ v ≤ 2) (h2 : k = 2 → 0 ≤ v ∧ v ≤ 99) : MI B (wI I 81 k v) := by
  have e : (fun b => if b < 78 then wI I 81 k v b else fun _ => 0) = (fun b => if b < 78 then I b else fun _ => 0) := by
    funext b; split
    · exact wI_row (by omega)
    · rfl
  have r : ∀ b, b ≠ 81 → wI I 81 k v b = I b := fun b q => wI_row q
  refine ⟨?_, ?_⟩
  · rw [← h.1]; simp only [MTI, e, r 78 (by omega), r 80 (by omega), r 91 (by omega), r 94 (by omega), r 95 (by omega), r 98 (by omega)]
  · obtain ⟨a1, a2, a3, a4, a5, a6⟩ := h.2
    unfold MA
    rw [r 78 (by omega), r 91 (by omega), r 93 (by omega), r 94 (by omega)]
    refine ⟨a1, a2, ?_, ?_, a5, a6⟩
    · by_cases q : k = 8
      · subst q; rw [wI_self]; exact h8 rfl
      · rw [wI_ne (Or.inr (fun z => q z.symm))]; exact a3
    · by_cases q : k = 2
      · subst q; rw [wI_self]; exact h2 rfl
      · rw [wI_ne (Or.inr (fun z => q z.symm))]; exact a4
theorem mi_5 {v : Int32} {B I : Iv} (h : MI B I) (hv : 0 ≤ v ∧ v ≤ 12) : MI B (wI I 78 5 v) := by
  have e : (fun b => if b < 78 then wI I 78 5 v b else fun _ => 0) = (fun b => if b < 78 then I b else fun _ => 0) := by
    funext b; split
    · exact wI_row (by omega)
    · rfl
  have n : ∀ j, j ≠ 5 → wI I 78 5 v 78 j = I 78 j := fun j hj => wI_ne (Or.inr hj)
  have r : ∀ b, b ≠ 78 → wI I 78 5 v b = I b := fun b q => wI_row q
  refine ⟨?_, ?_⟩
  · rw [← h.1]; simp only [MTI, e, n 2 (by omega), n 11 (by omega), n 30 (by omega), r 80 (by omega), r 91 (by omega), r 94 (by omega), r 95 (by omega), r 98 (by omega)]
  · obtain ⟨a1, a2, a3, a4, a5, a6⟩ := h.2
    unfold MA
    rw [n 11 (by omega), wI_self, r 81 (by omega), r 91 (by omega), r 93 (by omega), r 94 (by omega)]
    exact ⟨a1, hv, a3, a4, a5, a6⟩
theorem blk_far {x y : Int32} (hx : HX x) (hy : HX y) (h : ¬ x = y) : x.toNatClampNeg + 80 ≤ y.toNatClampNeg ∨ y.toNatClampNeg + 80 ≤ x.toNatClampNeg := by
  rcases hx with rfl | rfl | rfl | rfl <;> rcases hy with rfl | rfl | rfl | rfl <;> first | exact absurd rfl h | exact Or.inl (by decide) | exact Or.inr (by decide)
theorem mi_tr {B I I1 : Iv} (h : MI B I) (k : MI I I1) : MI B I1 := ⟨k.1.trans h.1, k.2⟩
theorem mk_tr {C J J1 : Jv} (h : MK C J) (k : MK J J1) : MK C J1 := ⟨k.1.trans h.1, k.2⟩
theorem fh_try {J J1 : Jv} {a b : Int64} (f : FH 80 (wJ (wJ J 79 132 a) 79 149 b) J1) : FB 80 J J1 ∧ J1 79 150 = J 79 150 ∧ BI 80 J1 ∧ FU 80 J1 := by
  obtain ⟨f1, f2, f3, f4, f5, f6, f7⟩ := f
  refine ⟨(fb_w (fb_w fb_rfl (by omega)) (by omega)).tr f1, ?_, f6, f7⟩
  have : J1 79 150 = wJ (wJ J 79 132 a) 79 149 b 79 150 := f4
  rw [this, wJ_ne (by omega), wJ_ne (by omega)]
theorem try_mk {C J J1 : Jv} (h : MK C J) (f : FB 80 J J1 ∧ J1 79 150 = J 79 150 ∧ BI 80 J1 ∧ FU 80 J1) : MK C J1 := by
  obtain ⟨f1, f2, f3, f4⟩ := f
  refine ⟨?_, mj_out (X := 80) (by omega) h.2 f1.2 f3 f4 ?_⟩
  · have e : (fun b => if b < 78 then J1 b else fun _ => 0) = (fun b => if b < 78 then J b else fun _ => 0) := by
      funext b; split
      · exact f1.1 b (by omega)
      · rfl
    have n : ∀ j, j < 80 ∨ 160 ≤ j → J1 79 j = J 79 j := fun j hj => f1.2 j (by omega)
    rw [← h.1]; simp only [MTJ, e, n 52 (by omega), n 54 (by omega), n 69 (by omega), n 212 (by omega), n 214 (by omega), n 229 (by omega), n 292 (by omega), n 294 (by omega), n 309 (by omega)]
  · have := (h.2 80 (by omega)).2.2
    unfold SD at *
    have e : J1 79 (80 + 70) = J 79 (80 + 70) := f2
    rw [e]; exact this
theorem bg_old {I : Iv} {J : Jv} (h : ¬ I 78 2 = 0) (ha : MA I) (hj : MJ J) : MI (bgI I) I ∧ MK (bgJ I J) J := by
  unfold bgI bgJ; rw [if_neg h, if_neg h]; exact ⟨mi_rfl ha, mk_rfl hj⟩
theorem bg_mk {I : Iv} {J J1 : Jv} (h2 : I 78 2 = 0) (hj : MJ J) (f : FH 0 (wJ J 79 69 1) J1) : MK (bgJ I J) J1 := by
  unfold bgJ; rw [if_pos h2]; exact fh_mk0 (mj_69 (mk_rfl hj)) f
