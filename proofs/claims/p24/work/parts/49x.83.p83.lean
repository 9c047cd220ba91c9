/-! ===== the class's tick: room, seal, power, machine, wet ===== -/
/-- bounds of THE BOX's numbers -/
def BX (I : Iv) : Prop := (1 ≤ (I 8 0).toInt ∧ (I 8 0).toInt ≤ 999) ∧ (0 ≤ (I 8 1).toInt ∧ (I 8 1).toInt ≤ 99) ∧ (0 ≤ (I 8 2).toInt ∧ (I 8 2).toInt ≤ 99) ∧ (0 ≤ (I 8 3).toInt ∧ (I 8 3).toInt ≤ 99) ∧ (0 ≤ (I 8 4).toInt ∧ (I 8 4).toInt ≤ 99) ∧ (0 ≤ (I 8 5).toInt ∧ (I 8 5).toInt ≤ 99) ∧
  (0 ≤ (I 8 6).toInt ∧ (I 8 6).toInt ≤ 200) ∧ (0 ≤ (I 8 7).toInt ∧ (I 8 7).toInt ≤ 200) ∧ (0 ≤ (I 8 8).toInt ∧ (I 8 8).toInt ≤ 2) ∧ (0 ≤ (I 8 9).toInt ∧ (I 8 9).toInt ≤ 99) ∧ (0 ≤ (I 8 10).toInt ∧ (I 8 10).toInt ≤ 99) ∧ (0 ≤ (I 8 11).toInt ∧ (I 8 11).toInt ≤ 400) ∧
  (-1 ≤ (I 8 12).toInt ∧ (I 8 12).toInt ≤ 24) ∧ (-1 ≤ (I 8 13).toInt ∧ (I 8 13).toInt ≤ 24) ∧ (0 ≤ (I 8 14).toInt ∧ (I 8 14).toInt ≤ 200)
theorem bx_row {I I' : Iv} (h : BX I) (e : I' 8 = I 8) : BX I' := by unfold BX; rw [e]; exact h
/-- a SET's bits, told both ways -/
theorem and_bits : ∀ m : Fin 128, ((n3 m.val &&& 1) = 0 ↔ bitI (n3 m.val) 0 = false) ∧ ((n3 m.val &&& 2) = 0 ↔ bitI (n3 m.val) 1 = false) ∧ ((n3 m.val &&& 4) = 0 ↔ bitI (n3 m.val) 2 = false) ∧ ((n3 m.val &&& 8) = 0 ↔ bitI (n3 m.val) 3 = false) ∧ ((n3 m.val &&& 16) = 0 ↔ bitI (n3 m.val) 4 = false) ∧ ((n3 m.val &&& 32) = 0 ↔ bitI (n3 m.val) 5 = false) ∧ ((n3 m.val &&& 64) = 0 ↔ bitI (n3 m.val) 6 = false) := by decide +kernel
def SB (s : Int32) : Prop := 0 ≤ s.toInt ∧ s.toInt ≤ 127
theorem sb_n {s : Int32} (h : SB s) : ∃ m : Fin 128, s = n3 m.val := by
  unfold SB at h
  refine ⟨⟨s.toInt.toNat, by omega⟩, ?_⟩
  apply Int32.toInt_inj.mp
  rw [Int32.toInt_ofNat_of_lt (by show s.toInt.toNat < 2147483648; omega)]
  show s.toInt = (s.toInt.toNat : Int)
  omega
theorem sb_bits {s : Int32} (h : SB s) : ((s &&& 1) = 0 ↔ bitI s 0 = false) ∧ ((s &&& 2) = 0 ↔ bitI s 1 = false) ∧ ((s &&& 4) = 0 ↔ bitI s 2 = false) ∧ ((s &&& 8) = 0 ↔ bitI s 3 = false) ∧ ((s &&& 16) = 0 ↔ bitI s 4 = false) ∧ ((s &&& 32) = 0 ↔ bitI s 5 = false) ∧ ((s &&& 64) = 0 ↔ bitI s 6 = false) := by
  obtain ⟨m, e⟩ := sb_n h
  rw [e]; exact and_bits m
theorem fX6_has {o : Nat} {I : Iv} (t : Int32) (b : Bool) (h : (I o 8 &&& t) = 0 ↔ b = false) (J : Jv) : fn_X6_has o t I J = (b3 b, I, J) := by
  unfold fn_X6_has
  cases b with
  | false => rw [if_pos (h.mpr rfl)]; rfl
  | true => rw [if_neg (fun z => absurd (h.mp z) (by decide))]; rfl
theorem b3_ne {b : Bool} : ¬ b3 b = 0 ↔ b = true := by cases b <;> simp [b3]
/-- the TICK of the DAY -/
def dT (t : Int32) : Nat := t.toInt.toNat % 288
def TkB (t : Int32) : Prop := 0 ≤ t.toInt ∧ t.toInt ≤ 2000000000
theorem dT_lt (t : Int32) : dT t < 288 := Nat.mod_lt _ (by decide)
theorem c288 : (288 : Int32).toInt = 288 := by decide
theorem day3 {t : Int32} (h : TkB t) : t - t / 288 * 288 = n3 (dT t) := by
  unfold TkB at h
  have hd := dT_lt t
  have q : (t / 288).toInt = t.toInt / 288 := by rw [i3_div (by decide), c288, Int.tdiv_eq_ediv_of_nonneg h.1]
  have m : (t / 288 * 288).toInt = t.toInt / 288 * 288 := by rw [i3_mul (by rw [q, c288]; omega) (by rw [q, c288]; omega), q, c288]
  apply Int32.toInt_inj.mp
  rw [i3_sub (by rw [m]; omega) (by rw [m]; omega), m, Int32.toInt_ofNat_of_lt (by omega)]
  unfold dT; omega
theorem hour3 {d : Nat} (hd : d < 288) : n3 d / 12 = n3 (d / 12) := by
  have c12 : (12 : Int32).toInt = 12 := by decide
  apply Int32.toInt_inj.mp
  rw [i3_div (by decide), Int32.toInt_ofNat_of_lt (by omega), Int32.toInt_ofNat_of_lt (by omega), c12, Int.tdiv_eq_ediv_of_nonneg (by omega)]
  omega
theorem fX6_day {o : Nat} {I : Iv} (h : TkB (I (o + 8) 0)) (J : Jv) : fn_X6_tickOfDay o I J = (n3 (dT (I (o + 8) 0)), I, J) := by
  unfold fn_X6_tickOfDay; rw [day3 h]
/-- hours: from a to b, in TICK d of the DAY -/
def hrB (a b : Int32) (d : Nat) : Bool := decide (0 ≤ a ∧ a ≤ n3 (d / 12) ∧ n3 (d / 12) < b)
theorem ite_b0 {b : Bool} {x y : Int32} : (if b3 b = 0 then x else y) = (if b = true then y else x) := by
  cases b with
  | false => rfl
  | true => rfl
/-- the room's warmth -/
def rmV (I : Iv) (s : Int32) (d : Nat) : Int32 := if bitI s 6 = true then (if hrB (I 8 12) (I 8 13) d = true then I 8 11 * 10 + I 8 14 * 10 else I 8 11 * 10) + 800 else (if hrB (I 8 12) (I 8 13) d = true then I 8 11 * 10 + I 8 14 * 10 else I 8 11 * 10)
theorem j_room {β : Type} {c1 c2 c3 : Prop} [Decidable c1] [Decidable c2] [Decidable c3] (Kf : Int32 → β) : j_n Kf (fun (j : Int32 → β) => j_n (j 0) (fun (j2 : β) => if c1 then j2 else if c2 then j2 else if c3 then j2 else j 1)) = Kf (if c1 ∨ c2 ∨ c3 then 0 else 1) := by
  simp only [j_n]
  by_cases q1 : c1
  · rw [if_pos q1, if_pos (Or.inl q1)]
  · rw [if_neg q1]
    by_cases q2 : c2
    · rw [if_pos q2, if_pos (Or.inr (Or.inl q2))]
    · rw [if_neg q2]
      by_cases q3 : c3
      · rw [if_pos q3, if_pos (Or.inr (Or.inr q3))]
      · rw [if_neg q3, if_neg (by rintro (z | z | z); exact q1 z; exact q2 z; exact q3 z)]
theorem j_iteL {β : Type} {c : Prop} [Decidable c] {a b : Int32} (Kf : Int32 → β) : j_n Kf (fun (j : Int32 → β) => if c then j a else l_t b (fun (v : Int32) => j v)) = Kf (if c then a else b) := by
  simp only [j_n, l_t]
  by_cases q : c
  · rw [if_pos q, if_pos q]
  · rw [if_neg q, if_neg q]
theorem roomC {o : Nat} {I : Iv} (J : Jv) (hb : BX I) (hs : SB (I o 8)) (ht : TkB (I (o + 8) 0)) : fn_X0_roomOf o I J = (rmV I (I o 8) (dT (I (o + 8) 0)), I, J) := by
  unfold fn_X0_roomOf
  rw [l_t, fX6_day ht, b_n3_mk, l_t, hour3 (dT_lt _), j_room, j_iteL, fX6_has 64 (bitI (I o 8) 6) (sb_bits hs).2.2.2.2.2.2, b_n3_mk]
  have r12 := hb.2.2.2.2.2.2.2.2.2.2.2.2.1
  have hh : (if (if I 8 12 = -1 ∨ n3 (dT (I (o + 8) 0) / 12) < I 8 12 ∨ I 8 13 ≤ n3 (dT (I (o + 8) 0) / 12) then (0 : Int32) else 1) = 0 then I 8 11 * 10 else I 8 11 * 10 + I 8 14 * 10) = (if hrB (I 8 12) (I 8 13) (dT (I (o + 8) 0)) = true then I 8 11 * 10 + I 8 14 * 10 else I 8 11 * 10) := by
    by_cases q : I 8 12 = -1 ∨ n3 (dT (I (o + 8) 0) / 12) < I 8 12 ∨ I 8 13 ≤ n3 (dT (I (o + 8) 0) / 12)
    · have e : hrB (I 8 12) (I 8 13) (dT (I (o + 8) 0)) = false := by
        unfold hrB
        refine decide_eq_false (fun z => ?_)
        rcases q with y | y | y
        · rw [y] at z; exact absurd z.1 (by decide)
        · exact absurd z.2.1 (Int32.not_le.mpr y)
        · exact absurd z.2.2 (Int32.not_lt.mpr y)
      rw [if_pos q, if_pos rfl, e, if_neg (by decide)]
    · have h1 : ¬ I 8 12 = -1 := fun z => q (Or.inl z)
      have h0 : (0 : Int32) ≤ I 8 12 := by
        rw [Int32.le_iff_toInt_le, show (0 : Int32).toInt = 0 by decide]
        have : (I 8 12).toInt ≠ -1 := fun z => h1 (Int32.toInt_inj.mp (z.trans (by decide)))
        omega
      have e : hrB (I 8 12) (I 8 13) (dT (I (o + 8) 0)) = true := decide_eq_true ⟨h0, Int32.not_lt.mp (fun z => q (Or.inr (Or.inl z))), Int32.not_le.mp (fun z => q (Or.inr (Or.inr z)))⟩
      rw [if_neg q, if_neg (show ¬ (1 : Int32) = 0 by decide), e, if_pos rfl]
  rw [hh]
  unfold rmV
  by_cases q : bitI (I o 8) 6 = true
  · rw [if_neg (b3_ne.mpr q), if_pos q]
  · rw [if_pos (b3_0.mpr (by simpa using q)), if_neg q]
def seV (I : Iv) (s : Int32) : Int32 := if bitI s 0 = true then 4 * I 8 2 + 12 else I 8 2
theorem sealC {o : Nat} {I : Iv} (J : Jv) (hs : SB (I o 8)) : fn_X0_sealOf o I J = (seV I (I o 8), I, J) := by
  unfold fn_X0_sealOf seV
  rw [fX6_has 1 (bitI (I o 8) 0) (sb_bits hs).1, b_n3_mk]
  by_cases q : bitI (I o 8) 0 = true
  · rw [if_neg (b3_ne.mpr q), if_pos q]
  · rw [if_pos (b3_0.mpr (by simpa using q)), if_neg q]
def pwA (p : Int32) (b : Bool) (n : Int32) : Int32 := if b = true then p - p * n / 100 else p
def pwV (I : Iv) (s : Int32) : Int32 := pwA (pwA (I 8 0) (bitI s 2) 50) (bitI s 3) 45
theorem powerC {o : Nat} {I : Iv} (J : Jv) (hs : SB (I o 8)) : fn_X0_powerOf o I J = (pwV I (I o 8), I, J) := by
  unfold fn_X0_powerOf
  rw [l_t, fX6_has 4 (bitI (I o 8) 2) (sb_bits hs).2.2.1, b_n3_mk, j_iteL, fX6_has 8 (bitI (I o 8) 3) (sb_bits hs).2.2.2.1, b_n3_mk, ite_b0]
  unfold pwV
  rw [show (if bitI (I o 8) 2 = true then I 8 0 - I 8 0 * 50 / 100 else I 8 0) = pwA (I 8 0) (bitI (I o 8) 2) 50 from rfl]
  generalize pwA (I 8 0) (bitI (I o 8) 2) 50 = y
  unfold pwA
  by_cases q : bitI (I o 8) 3 = true
  · rw [if_neg (b3_ne.mpr q), if_pos q, l_t]
  · rw [if_pos (b3_0.mpr (by simpa using q)), if_neg q]
/-! shapes of joins -/
theorem j_blb {β : Type} {c1 c2 : Prop} [Decidable c1] [Decidable c2] {a b : Int32} (Kf : Int32 → β) : j_n Kf (fun (j : Int32 → β) => j_n (j a) (fun (j2 : β) => if c1 then j2 else if c2 then j2 else j b)) = Kf (if c1 then a else if c2 then a else b) := by
  simp only [j_n]
  by_cases q1 : c1
  · rw [if_pos q1, if_pos q1]
  · rw [if_neg q1, if_neg q1]
    by_cases q2 : c2
    · rw [if_pos q2, if_pos q2]
    · rw [if_neg q2, if_neg q2]
theorem j_sw {α β : Type} {c1 c3 c4 : Prop} [Decidable c1] [Decidable c3] [Decidable c4] {r : Int32} {Ih : Iv} {Jh : Jv} {a b d e : α} (Kf : α → β) : j_n Kf (fun (j : α → β) => if c1 then l_t a (fun (x : α) => j x) else b_n3 (r, Ih, Jh) (fun (r15 : Int32) (_ : Iv) (_ : Jv) => j_n (l_t b (fun (x : α) => j x)) (fun (j2 : β) => if r15 = 0 then if c3 then if c4 then j d else l_t e (fun (x : α) => j x) else j2 else j2))) = Kf (if c1 then a else if r = 0 then if c3 then if c4 then d else e else b else b) := by
  simp only [j_n, l_t, b_n3]
  by_cases q1 : c1
  · rw [if_pos q1, if_pos q1]
  · rw [if_neg q1, if_neg q1]
    by_cases q2 : r = 0
    · rw [if_pos q2, if_pos q2]
      by_cases q3 : c3
      · rw [if_pos q3, if_pos q3]
        by_cases q4 : c4
        · rw [if_pos q4, if_pos q4]
        · rw [if_neg q4, if_neg q4]
      · rw [if_neg q3, if_neg q3]
    · rw [if_neg q2, if_neg q2]
theorem j_lit {β : Type} {c1 c2 : Prop} [Decidable c1] [Decidable c2] {r : Int32} {I I' Ih : Iv} {J J' Jh : Jv} (Kf : Iv → Jv → β) (lit : Bool) (h : lit = true ↔ ¬ c1 ∧ (¬ c2 ∨ ¬ r = 0)) :
    j_n Kf (fun (j : Iv → Jv → β) => if c1 then j I J else j_n (b_n2 (I', J') (fun (a : Iv) (b : Jv) => j a b)) (fun (j2 : β) => if c2 then b_n3 (r, Ih, Jh) (fun (r79 : Int32) (_ : Iv) (_ : Jv) => if r79 = 0 then j I J else j2) else j2)) = Kf (if lit = true then (I', J') else (I, J)).1 (if lit = true then (I', J') else (I, J)).2 := by
  simp only [j_n, b_n2, b_n3]
  by_cases q1 : c1
  · rw [if_pos q1, if_neg (fun z => (h.mp z).1 q1)]
  · rw [if_neg q1]
    by_cases q2 : c2
    · rw [if_pos q2]
      by_cases q3 : r = 0
      · rw [if_pos q3, if_neg (fun z => by rcases (h.mp z).2 with y | y; exact y q2; exact y q3)]
      · rw [if_neg q3, if_pos (h.mpr ⟨q1, Or.inr q3⟩)]
    · rw [if_neg q2, if_pos (h.mpr ⟨q1, Or.inl q2⟩)]
theorem j_mv {β : Type} {c : Prop} [Decidable c] {p : Int32} {f : Int32 → Iv × Jv} {I Ih : Iv} {J Jh : Jv} (Kf : Iv → Jv → β) (on : Bool) (h : on = true ↔ ¬ c) :
    j_n Kf (fun (j : Iv → Jv → β) => if c then j I J else b_n3 (p, Ih, Jh) (fun (r : Int32) (_ : Iv) (_ : Jv) => b_n2 (f r) (fun (a : Iv) (b : Jv) => j a b))) = Kf (if on = true then f p else (I, J)).1 (if on = true then f p else (I, J)).2 := by
  simp only [j_n, b_n2, b_n3]
  by_cases q : c
  · rw [if_pos q, if_neg (fun z => h.mp z q)]
  · rw [if_neg q, if_pos (h.mpr q)]
/-- the reading, the machine -/
def rdV (cov : Bool) (rd w : Int32) : Int32 := if cov = true then rd + (w - rd) / 8 else w
def onV (cur stuck was : Bool) (rd : Int32) (von voff : Int32) : Bool := cur && (stuck || decide (von ≤ rd) || (!decide (rd ≤ voff) && was))
theorem switchC {o u : Nat} {less : Int32} {I : Iv} (J : Jv) (cov was cur : Bool) (ho : 15 < o) (hu : u < 3) (hs : SB (I o 8)) (h11 : I o 11 = b3 cov) (h10 : I o 10 = b3 was) (h12 : I o 12 = b3 cur) :
    ∃ I' : Iv, fn_X7_switchMachine o (n3 u) less I J = (I', J) ∧ (∀ b, b ≠ o → b ≠ o + 8 → I' b = I b) ∧ (∀ k, k ≠ 9 → k ≠ 10 → I' o k = I o k) ∧ I' o 9 = rdV cov (I o 9) (I 14 u) ∧
      I' o 10 = b3 (onV cur (bitI (I o 8) 4) was (rdV cov (I o 9) (I 14 u)) ((I 8 6 - less) * 10) ((I 8 7 - less) * 10)) ∧
      (∀ k, k ≠ 2 → I' (o + 8) k = I (o + 8) k) ∧ I' (o + 8) 2 = (if (onV cur (bitI (I o 8) 4) was (rdV cov (I o 9) (I 14 u)) ((I 8 6 - less) * 10) ((I 8 7 - less) * 10) && !was) = true then I (o + 8) 2 + 1 else I (o + 8) 2) := by
  unfold fn_X7_switchMachine
  rw [j_blb, if_neg (n3_no0 (by omega)), if_neg (show ¬ (3 : Int32) ≤ n3 u by rw [show (3 : Int32) = n3 3 from rfl, n3_le (by omega) (by omega)]; omega), n3_tn (by omega), j_ite, h11, ite_b0]
  rw [show (if cov = true then I o 9 + (I 14 u - I o 9) / 8 else I 14 u) = rdV cov (I o 9) (I 14 u) from rfl]
  generalize rdV cov (I o 9) (I 14 u) = rd
  rw [l_t, l_t]
  have g8 : wI I o 9 rd o 8 = I o 8 := wI_ne (by omega)
  have g10 : wI I o 9 rd o 10 = b3 was := by rw [wI_ne (by omega)]; exact h10
  have g12 : wI I o 9 rd o 12 = b3 cur := by rw [wI_ne (by omega)]; exact h12
  have g9 : wI I o 9 rd o 9 = rd := wI_self
  have gb : (wI I o 9 rd) 8 = I 8 := wI_row (by omega)
  have gc : (wI I o 9 rd) (o + 8) = I (o + 8) := wI_row (by omega)
  have gr : ∀ b, b ≠ o → (wI I o 9 rd) b = I b := fun b h => wI_row h
  have gk : ∀ k, k ≠ 9 → wI I o 9 rd o k = I o k := fun k h => wI_ne (Or.inr h)
  generalize wI I o 9 rd = I3 at *
  have hs3 : SB (I3 o 8) := by rw [g8]; exact hs
  rw [fX6_has 16 (bitI (I o 8) 4) (by have := (sb_bits hs3).2.2.2.2.1; rw [g8] at this ⊢; exact this)]
  rw [j_sw, g10, g12, g9, gb]
  -- the end: what stands behind the machine is set
  have fin : ∀ (I6 : Iv) (on : Bool), I6 o 10 = b3 on → (∀ b, b ≠ o → I6 b = I3 b) → (∀ k, k ≠ 10 → I6 o k = I3 o k) → ∃ I' : Iv, (if I6 o 10 = 0 then ((I6, J) : Iv × Jv) else if b3 was = 0 then (wI I6 (o + 8) 2 (I6 (o + 8) 2 + 1), J) else (I6, J)) = (I', J) ∧ (∀ b, b ≠ o → b ≠ o + 8 → I' b = I b) ∧ (∀ k, k ≠ 9 → k ≠ 10 → I' o k = I o k) ∧ I' o 9 = rd ∧ I' o 10 = b3 on ∧ (∀ k, k ≠ 2 → I' (o + 8) k = I (o + 8) k) ∧ I' (o + 8) 2 = (if (on && !was) = true then I (o + 8) 2 + 1 else I (o + 8) 2) := by
    intro I6 on e10 er ek
    have er8 : I6 (o + 8) = I (o + 8) := (er (o + 8) (by omega)).trans gc
    cases on with
    | false =>
      rw [if_pos (by rw [e10]; rfl)]
      exact ⟨I6, rfl, fun b h1 _ => (er b h1).trans (gr b h1), fun k h1 h2 => (ek k h2).trans (gk k h1), (ek 9 (by decide)).trans g9, e10, fun k _ => by rw [er8], by rw [er8]; simp⟩
    | true =>
      rw [if_neg (by rw [e10]; decide)]
      cases was with
      | true =>
        rw [if_neg (by decide)]
        exact ⟨I6, rfl, fun b h1 _ => (er b h1).trans (gr b h1), fun k h1 h2 => (ek k h2).trans (gk k h1), (ek 9 (by decide)).trans g9, e10, fun k _ => by rw [er8], by rw [er8]; simp⟩
      | false =>
        rw [if_pos (show b3 false = 0 from rfl)]
        refine ⟨_, rfl, fun b h1 h2 => by rw [wI_row h2]; exact (er b h1).trans (gr b h1), fun k h1 h2 => by rw [wI_row (by omega)]; exact (ek k h2).trans (gk k h1), by rw [wI_row (by omega)]; exact (ek 9 (by decide)).trans g9, by rw [wI_row (by omega)]; exact e10, fun k h1 => by rw [wI_ne (Or.inr h1), er8], by rw [wI_self, er8]; simp⟩
  unfold onV
  cases cur with
  | false =>
    rw [if_pos (show b3 false = 0 from rfl)]
    exact fin (wI I3 o 10 0) false wI_self (fun b h => wI_row h) (fun k h => wI_ne (Or.inr h))
  | true =>
    rw [if_neg (show ¬ b3 true = 0 by decide)]
    cases hq : bitI (I o 8) 4 with
    | true =>
      rw [if_neg (show ¬ b3 true = 0 by decide)]
      exact fin (wI I3 o 10 1) true wI_self (fun b h => wI_row h) (fun k h => wI_ne (Or.inr h))
    | false =>
      rw [if_pos (show b3 false = 0 from rfl)]
      by_cases h1 : rd < (I 8 6 - less) * 10
      · rw [if_pos h1, decide_eq_false (show ¬ (I 8 6 - less) * 10 ≤ rd from Int32.not_le.mpr h1)]
        by_cases h2 : (I 8 7 - less) * 10 < rd
        · rw [if_pos h2, decide_eq_false (show ¬ rd ≤ (I 8 7 - less) * 10 from Int32.not_le.mpr h2)]
          have := fin I3 was g10 (fun _ _ => rfl) (fun _ _ => rfl)
          cases was <;> exact this
        · rw [if_neg h2, decide_eq_true (show rd ≤ (I 8 7 - less) * 10 from Int32.not_lt.mp h2)]
          exact fin (wI I3 o 10 0) false wI_self (fun b h => wI_row h) (fun k h => wI_ne (Or.inr h))
      · rw [if_neg h1, decide_eq_true (show (I 8 6 - less) * 10 ≤ rd from Int32.not_lt.mp h1)]
        exact fin (wI I3 o 10 1) true wI_self (fun b h => wI_row h) (fun k h => wI_ne (Or.inr h))
