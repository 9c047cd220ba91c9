/-! ===== the reference: what its calls keep ===== -/
abbrev HN (X : Nat) : Prop := X = 0 ∨ X = 80 ∨ X = 160 ∨ X = 240
theorem hx_hn {x : Int32} (h : HX x) : HN x.toNatClampNeg := by
  rcases h with rfl | rfl | rfl | rfl
  · exact Or.inl rfl
  · exact Or.inr (Or.inl rfl)
  · exact Or.inr (Or.inr (Or.inl rfl))
  · exact Or.inr (Or.inr (Or.inr rfl))
def SD (X : Nat) (J : Jv) : Prop := 0 ≤ J 79 (X + 70) ∧ J 79 (X + 70) < 2147483648
def MTI (I : Iv) : (Nat → Nat → Int32) × (Nat → Int32) × (Nat → Int32) × (Nat → Int32) × (Nat → Int32) × (Nat → Int32) × Int32 × Int32 × Int32 := (fun b => if b < 78 then I b else fun _ => 0, I 80, I 91, I 94, I 95, I 98, I 78 2, I 78 11, I 78 30)
def MTJ (J : Jv) : (Nat → Nat → Int64) × Int64 × Int64 × Int64 × Int64 × Int64 × Int64 × Int64 × Int64 × Int64 := (fun b => if b < 78 then J b else fun _ => 0, J 79 52, J 79 54, J 79 69, J 79 212, J 79 214, J 79 229, J 79 292, J 79 294, J 79 309)
def MA (I : Iv) : Prop := (0 ≤ I 78 11 ∧ I 78 11 ≤ 300) ∧ (0 ≤ I 78 5 ∧ I 78 5 ≤ 12) ∧ (0 ≤ I 81 8 ∧ I 81 8 ≤ 2) ∧ (0 ≤ I 81 2 ∧ I 81 2 ≤ 99) ∧ (∀ k, k < 7 → I 91 k = 0 ∨ (1 ≤ I 93 k ∧ I 93 k ≤ 999)) ∧ (∀ k, k < 7 → 0 ≤ I 94 k ∧ I 94 k ≤ 1000)
def MJ (J : Jv) : Prop := ∀ X, HN X → BI X J ∧ FU X J ∧ SD X J
def MI (B I : Iv) : Prop := MTI I = MTI B ∧ MA I
def MK (C J : Jv) : Prop := MTJ J = MTJ C ∧ MJ J
theorem mi_rfl {I : Iv} (h : MA I) : MI I I := ⟨rfl, h⟩
theorem mk_rfl {J : Jv} (h : MJ J) : MK J J := ⟨rfl, h⟩
def ifree (a k : Nat) : Bool := decide (77 < a) && (!(a == 80) && (!(a == 91) && (!(a == 93) && (!(a == 94) && (!(a == 95) && (!(a == 98) && (!(a == 81) && !(a == 78 && (k == 2 || (k == 5 || (k == 11 || k == 30)))))))))))
theorem mi_free {a k : Nat} {v : Int32} {B I : Iv} (h : MI B I) (hf : ifree a k = true) : MI B (wI I a k v) := by
  simp only [ifree, Bool.and_eq_true, Bool.not_eq_true', decide_eq_true_eq, Bool.and_eq_false_iff, Bool.or_eq_false_iff, beq_eq_false_iff_ne, ne_eq] at hf
  have e : (fun b => if b < 78 then wI I a k v b else fun _ => 0) = (fun b => if b < 78 then I b else fun _ => 0) := by
    funext b; split
    · exact wI_row (by omega)
    · rfl
  have c2 : wI I a k v 78 2 = I 78 2 := wI_ne (by omega)
  have c5 : wI I a k v 78 5 = I 78 5 := wI_ne (by omega)
  have c11 : wI I a k v 78 11 = I 78 11 := wI_ne (by omega)
  have c30 : wI I a k v 78 30 = I 78 30 := wI_ne (by omega)
  have r80 : wI I a k v 80 = I 80 := wI_row (by omega)
  have r81 : wI I a k v 81 = I 81 := wI_row (by omega)
  have r91 : wI I a k v 91 = I 91 := wI_row (by omega)
  have r93 : wI I a k v 93 = I 93 := wI_row (by omega)
  have r94 : wI I a k v 94 = I 94 := wI_row (by omega)
  have r95 : wI I a k v 95 = I 95 := wI_row (by omega)
  have r98 : wI I a k v 98 = I 98 := wI_row (by omega)
  obtain ⟨h1, h2⟩ := h
  refine ⟨?_, ?_⟩
  · rw [← h1]; simp only [MTI, e, c2, c11, c30, r80, r91, r94, r95, r98]
  · unfold MA at *; rw [c5, c11, r81, r91, r93, r94]; exact h2
theorem mti_cong {a k : Nat} {v : Int32} {B I : Iv} (h : MTI I = MTI B) : MTI (wI I a k v) = MTI (wI B a k v) := by
  simp only [MTI, Prod.mk.injEq] at h ⊢
  obtain ⟨h0, h1, h2, h3, h4, h5, h6, h7, h8⟩ := h
  have r : ∀ b, I b = B b → wI I a k v b = wI B a k v b := by
    intro b e; funext j; simp only [wI, e]
  have c : ∀ b j, I b j = B b j → wI I a k v b j = wI B a k v b j := by
    intro b j e; simp only [wI, e]
  refine ⟨?_, r _ h1, r _ h2, r _ h3, r _ h4, r _ h5, c _ _ h6, c _ _ h7, c _ _ h8⟩
  funext b
  have := congrFun h0 b
  split
  · next q => rw [if_pos q, if_pos q] at this; exact r b this
  · rfl
def itrk (a k : Nat) : Bool := a == 80 || (a == 95 || (a == 98 || (a == 78 && (k == 2 || k == 30))))
theorem mi_trk {a k : Nat} {v : Int32} {B I : Iv} (h : MI B I) (hf : itrk a k = true) : MI (wI B a k v) (wI I a k v) := by
  simp only [itrk, Bool.or_eq_true, Bool.and_eq_true, beq_iff_eq] at hf
  have c5 : wI I a k v 78 5 = I 78 5 := wI_ne (by omega)
  have c11 : wI I a k v 78 11 = I 78 11 := wI_ne (by omega)
  have r81 : wI I a k v 81 = I 81 := wI_row (by omega)
  have r91 : wI I a k v 91 = I 91 := wI_row (by omega)
  have r93 : wI I a k v 93 = I 93 := wI_row (by omega)
  have r94 : wI I a k v 94 = I 94 := wI_row (by omega)
  refine ⟨mti_cong h.1, ?_⟩
  have h2 := h.2
  unfold MA at *; rw [c5, c11, r81, r91, r93, r94]; exact h2
theorem mi_94 {k : Nat} {v : Int32} {B I : Iv} (h : MI B I) (hv : 0 ≤ v ∧ v ≤ 1000) : MI (wI B 94 k v) (wI I 94 k v) := by
  refine ⟨mti_cong h.1, ?_⟩
  obtain ⟨a1, a2, a3, a4, a5, a6⟩ := h.2
  refine ⟨a1, a2, a3, a4, a5, fun j hj => ?_⟩
  by_cases e : j = k
  · subst e; rw [wI_self]; exact hv
  · rw [wI_ne (Or.inr e)]; exact a6 j hj
theorem mi_11 {v : Int32} {B I : Iv} (h : MI B I) (hv : 0 ≤ v ∧ v ≤ 300) : MI (wI B 78 11 v) (wI I 78 11 v) := by
  refine ⟨mti_cong h.1, ?_⟩
  obtain ⟨a1, a2, a3, a4, a5, a6⟩ := h.2
  exact ⟨hv, a2, a3, a4, a5, a6⟩
theorem mi_91z {k : Nat} {B I : Iv} (h : MI B I) : MI (wI B 91 k 0) (wI I 91 k 0) := by
  refine ⟨mti_cong h.1, ?_⟩
  obtain ⟨a1, a2, a3, a4, a5, a6⟩ := h.2
  refine ⟨a1, a2, a3, a4, fun j hj => ?_, a6⟩
  by_cases e : j = k
  · subst e; rw [wI_self]; exact Or.inl rfl
  · rw [wI_ne (Or.inr e)]; exact a5 j hj
def rI2 (I : Iv) (a : Nat) (f : Nat → Int32) : Iv := fun b => if b = a then f else I b
theorem mj_row {a k : Nat} {v : Int64} {C J : Jv} (h : MK C J) (ha : 78 ≤ a ∧ a ≠ 79) : MK C (wJ J a k v) := by
  have e : (fun b => if b < 78 then wJ J a k v b else fun _ => 0) = (fun b => if b < 78 then J b else fun _ => 0) := by
    funext b; split
    · exact wJ_row (by omega)
    · rfl
  have r : wJ J a k v 79 = J 79 := wJ_row (by omega)
  refine ⟨?_, ?_⟩
  · rw [← h.1]; simp only [MTJ, e, r]
  · intro X hX
    have := h.2 X hX
    unfold BI FU SD at *; rw [r]; exact this
theorem mtj_cong {a k : Nat} {v : Int64} {C J : Jv} (h : MTJ J = MTJ C) : MTJ (wJ J a k v) = MTJ (wJ C a k v) := by
  simp only [MTJ, Prod.mk.injEq] at h ⊢
  obtain ⟨h0, h1, h2, h3, h4, h5, h6, h7, h8, h9⟩ := h
  have c : ∀ b j, J b j = C b j → wJ J a k v b j = wJ C a k v b j := by
    intro b j e; simp only [wJ, e]
  refine ⟨?_, c _ _ h1, c _ _ h2, c _ _ h3, c _ _ h4, c _ _ h5, c _ _ h6, c _ _ h7, c _ _ h8, c _ _ h9⟩
  funext b
  have := congrFun h0 b
  split
  · next q => rw [if_pos q, if_pos q] at this; funext j; simp only [wJ, this]
  · rfl
/-- a cell of w that no tracked number and none of the bounds stands in -/
def jfree (k : Nat) : Prop := (∀ X, (X = 0 ∨ X = 80 ∨ X = 160 ∨ X = 240) → ¬ (X + 12 ≤ k ∧ k < X + 36) ∧ k ≠ X + 53 ∧ k ≠ X + 70) ∧ (∀ X, (X = 0 ∨ X = 160 ∨ X = 240) → k ≠ X + 52 ∧ k ≠ X + 54 ∧ k ≠ X + 69)
theorem mj_free {k : Nat} {v : Int64} {C J : Jv} (h : MK C J) (hk : jfree k) : MK C (wJ J 79 k v) := by
  obtain ⟨k1, k2⟩ := hk
  have e : (fun b => if b < 78 then wJ J 79 k v b else fun _ => 0) = (fun b => if b < 78 then J b else fun _ => 0) := by
    funext b; split
    · exact wJ_row (by omega)
    · rfl
  have q0 := k2 0 (Or.inl rfl)
  have q1 := k2 160 (Or.inr (Or.inl rfl))
  have q2 := k2 240 (Or.inr (Or.inr rfl))
  have n : ∀ j, j ≠ k → wJ J 79 k v 79 j = J 79 j := fun j hj => wJ_ne (Or.inr hj)
  refine ⟨?_, ?_⟩
  · rw [← h.1]; simp only [MTJ, e, n 52 (by omega), n 54 (by omega), n 69 (by omega), n 212 (by omega), n 214 (by omega), n 229 (by omega), n 292 (by omega), n 294 (by omega), n 309 (by omega)]
  · intro X hX
    obtain ⟨b1, b2, b3⟩ := h.2 X hX
    have z := k1 X hX
    refine ⟨bi_eq (fun j h1 h2 => n j (by omega)) b1, ?_, ?_⟩
    · unfold FU; rw [n _ (by omega)]; exact b2
    · unfold SD at *; rw [n _ (by omega)]; exact b3
/-- a cell whose block alone holds it: the bounds of that block given -/
theorem mj_blk {X k : Nat} {v : Int64} {C J : Jv} (hX : HN X) (h : MK C J) (hk : X ≤ k ∧ k < X + 80) (hb : BI X (wJ J 79 k v)) (hf : FU X (wJ J 79 k v)) (hs : SD X (wJ J 79 k v)) : MK (wJ C 79 k v) (wJ J 79 k v) := by
  refine ⟨mtj_cong h.1, fun Y hY => ?_⟩
  by_cases e : Y = X
  · subst e; exact ⟨hb, hf, hs⟩
  · have n : ∀ j, Y ≤ j → j < Y + 80 → wJ J 79 k v 79 j = J 79 j := fun j h1 h2 => wJ_ne (Or.inr (by
      rcases hX with rfl | rfl | rfl | rfl <;> rcases hY with rfl | rfl | rfl | rfl <;> omega))
    obtain ⟨b1, b2, b3⟩ := h.2 Y hY
    refine ⟨bi_eq (fun j h1 h2 => n j (by omega) (by omega)) b1, ?_, ?_⟩
    · unfold FU; rw [n _ (by omega) (by omega)]; exact b2
    · unfold SD at *; rw [n _ (by omega) (by omega)]; exact b3
/-- what goes on in one block: the others stay -/
theorem mj_out {X : Nat} {J J1 : Jv} (hX : HN X) (h : MJ J) (hk : ∀ k, k < X ∨ X + 80 ≤ k → J1 79 k = J 79 k) (hb : BI X J1) (hf : FU X J1) (hs : SD X J1) : MJ J1 := by
  intro Y hY
  by_cases e : Y = X
  · subst e; exact ⟨hb, hf, hs⟩
  · have n : ∀ j, Y ≤ j → j < Y + 80 → J1 79 j = J 79 j := fun j h1 h2 => hk j (by
      rcases hX with rfl | rfl | rfl | rfl <;> rcases hY with rfl | rfl | rfl | rfl <;> omega)
    obtain ⟨b1, b2, b3⟩ := h Y hY
    refine ⟨bi_eq (fun j h1 h2 => n j (by omega) (by omega)) b1, ?_, ?_⟩
    · unfold FU; rw [n _ (by omega) (by omega)]; exact b2
    · unfold SD at *; rw [n _ (by omega) (by omega)]; exact b3
theorem tg_mj {X : Nat} {J J1 : Jv} (hX : HN X) (h : MJ J) (t : TG X J J1) : MJ J1 := by
  refine mj_out hX h (fun k hk => t.2.1 k (by unfold KG; omega)) (t.bi (h X hX).1) t.2.2 ?_
  have := (h X hX).2.2
  unfold SD at *; rw [t.2.1 (X + 70) (by unfold KG; omega)]; exact this
theorem tg_mk80 {C J J1 : Jv} (h : MK C J) (t : TG 80 J J1) : MK C J1 := by
  refine ⟨?_, tg_mj (by omega) h.2 t⟩
  have e : (fun b => if b < 78 then J1 b else fun _ => 0) = (fun b => if b < 78 then J b else fun _ => 0) := by
    funext b; split
    · exact t.1 b (by omega) (by omega)
    · rfl
  have n : ∀ j, j < 80 ∨ 160 ≤ j → J1 79 j = J 79 j := fun j hj => t.2.1 j (by unfold KG; omega)
  rw [← h.1]; simp only [MTJ, e, n 52 (by omega), n 54 (by omega), n 69 (by omega), n 212 (by omega), n 214 (by omega), n 229 (by omega), n 292 (by omega), n 294 (by omega), n 309 (by omega)]
theorem tg_mk0 {C J J1 : Jv} {t0 : Int64} (h : MK C J) (t : TG 0 J J1) (ht : J1 79 (0 + 54) = t0) : MK (wJ C 79 54 t0) J1 := by
  refine ⟨?_, tg_mj (by omega) h.2 t⟩
  have e : (fun b => if b < 78 then J1 b else fun _ => 0) = (fun b => if b < 78 then wJ C 79 54 t0 b else fun _ => 0) := by
    have := congrArg (fun q => q.1) h.1
    funext b
    have q := congrFun this b
    simp only [MTJ] at q
    split
    · next z => rw [if_pos z, if_pos z] at q; rw [t.1 b (by omega) (by omega), wJ_row (by omega), q]
    · rfl
  have n : ∀ j, 80 ≤ j ∨ j = 52 ∨ j = 69 → J1 79 j = J 79 j := fun j hj => t.2.1 j (by unfold KG; omega)
  have m : ∀ j, j ≠ 54 → wJ C 79 54 t0 79 j = C 79 j := fun j hj => wJ_ne (Or.inr hj)
  have s : wJ C 79 54 t0 79 54 = t0 := wJ_self
  have ht : J1 79 54 = t0 := ht
  have hh := h.1
  simp only [MTJ, Prod.mk.injEq] at hh
  obtain ⟨-, h1, h2, h3, h4, h5, h6, h7, h8, h9⟩ := hh
  simp only [MTJ, e, ht, s, n 52 (by omega), n 69 (by omega), n 212 (by omega), n 214 (by omega), n 229 (by omega), n 292 (by omega), n 294 (by omega), n 309 (by omega), m 52 (by omega), m 69 (by omega), m 212 (by omega), m 214 (by omega), m 229 (by omega), m 292 (by omega), m 294 (by omega), m 309 (by omega), h1, h3, h4, h5, h6, h7, h8, h9]
/-- a block made fresh -/
def FB (X : Nat) (J J' : Jv) : Prop := (∀ b, b ≠ 79 → J' b = J b) ∧ (∀ k, k < X ∨ X + 80 ≤ k → J' 79 k = J 79 k)
theorem fb_rfl {X : Nat} {J : Jv} : FB X J J := ⟨fun _ _ => rfl, fun _ _ => rfl⟩
theorem FB.tr {X : Nat} {J J1 J2 : Jv} (h : FB X J J1) (k : FB X J1 J2) : FB X J J2 := ⟨fun b hb => (k.1 b hb).trans (h.1 b hb), fun i hi => (k.2 i hi).trans (h.2 i hi)⟩
theorem fb_w {X k : Nat} {v : Int64} {J J1 : Jv} (h : FB X J J1) (hk : X ≤ k ∧ k < X + 80) : FB X J (wJ J1 79 k v) := by
  refine ⟨fun b hb => ?_, fun i hi => ?_⟩
  · rw [wJ_row hb]; exact h.1 b hb
  · rw [wJ_ne (Or.inr (by omega))]; exact h.2 i hi
def FQ (X : Nat) (a b c : Int64) (J : Jv) : Prop := J 79 (X + 52) = a ∧ J 79 (X + 69) = b ∧ J 79 (X + 70) = c ∧ ∀ j, 12 ≤ j → j < 80 → j ≠ 52 → j ≠ 53 → j ≠ 67 → j ≠ 69 → j ≠ 70 → J 79 (X + j) = 0
theorem fq_make {X : Nat} {a b c : Int64} {J : Jv} (h : ∀ j, j < 80 → J 79 (X + j) = 0) : FQ X a b c (wJ (wJ (wJ J 79 (X + 52) a) 79 (X + 69) b) 79 (X + 70) c) := by
  refine ⟨?_, ?_, ?_, fun j h1 h2 h3 h4 h5 h6 h7 => ?_⟩
  · rw [wJ_ne (by omega), wJ_ne (by omega), wJ_self]
  · rw [wJ_ne (by omega), wJ_self]
  · rw [wJ_self]
  · rw [wJ_ne (by omega), wJ_ne (by omega), wJ_ne (by omega)]; exact h j h2
theorem fq_w {X k : Nat} {a b c v : Int64} {J : Jv} (h : FQ X a b c J) (hk : k < X + 12 ∨ k = X + 53 ∨ k = X + 67) : FQ X a b c (wJ J 79 k v) := by
  obtain ⟨h1, h2, h3, h4⟩ := h
  refine ⟨?_, ?_, ?_, fun j q1 q2 q3 q4 q5 q6 q7 => ?_⟩
  · rw [wJ_ne (by omega)]; exact h1
  · rw [wJ_ne (by omega)]; exact h2
  · rw [wJ_ne (by omega)]; exact h3
  · rw [wJ_ne (by omega)]; exact h4 j q1 q2 q3 q4 q5 q6 q7
/-- the block x after it was made fresh, from J -/
def FH (X : Nat) (J J' : Jv) : Prop := FB X J J' ∧ J' 79 (X + 52) = J 79 (X + 52) ∧ J' 79 (X + 69) = J 79 (X + 69) ∧ J' 79 (X + 70) = J 79 (X + 70) ∧ J' 79 (X + 54) = 0 ∧ BI X J' ∧ FU X J'
theorem fq_bi {X : Nat} {a b c : Int64} {J : Jv} (h : FQ X a b c J) : BI X J := by
  intro f hf
  have z := h.2.2.2 (12 + f) (by omega) (by omega) (by omega) (by omega) (by omega) (by omega) (by omega)
  have z' : J 79 (X + 12 + f) = 0 := by rw [Nat.add_assoc]; exact z
  refine ⟨Or.inl z', fun q => ?_⟩
  rw [z'] at q
  exact absurd q (by decide)
theorem fh_mj {X : Nat} {J J1 : Jv} (hX : HN X) (h : MJ J) (f : FH X J J1) : MJ J1 := by
  refine mj_out hX h f.1.2 f.2.2.2.2.2.1 f.2.2.2.2.2.2 ?_
  have := (h X hX).2.2
  unfold SD at *; rw [f.2.2.2.1]; exact this
/-- one block copied over another -/
def CY (X Y : Nat) (J J' : Jv) : Prop := FB Y J J' ∧ ∀ j, j < 80 → J' 79 (Y + j) = J 79 (X + j)
theorem cy_mj {X Y : Nat} {J J1 : Jv} (hX : HN X) (hY : HN Y) (h : MJ J) (c : CY X Y J J1) : MJ J1 := by
  obtain ⟨b1, b2, b3⟩ := h X hX
  refine mj_out hY h c.1.2 ?_ ?_ ?_
  · intro f hf
    have e1 : J1 79 (Y + 12 + f) = J 79 (X + 12 + f) := by rw [Nat.add_assoc, Nat.add_assoc]; exact c.2 _ (by omega)
    have e2 : J1 79 (Y + 20 + f) = J 79 (X + 20 + f) := by rw [Nat.add_assoc, Nat.add_assoc]; exact c.2 _ (by omega)
    have e3 : J1 79 (Y + 28 + f) = J 79 (X + 28 + f) := by rw [Nat.add_assoc, Nat.add_assoc]; exact c.2 _ (by omega)
    rw [e1, e2, e3]; exact b1 f hf
  · unfold FU; rw [c.2 53 (by omega)]; exact b2
  · unfold SD at *; rw [c.2 70 (by omega)]; exact b3
