/-! ===== the reference's late beginning, whole ===== -/
/-- the row 79 behind the beginning -/
def begG (z : Int32) (g : Nat → Int64) : Nat → Int64 := if z = 0 then freshR 0 (fun k => if k = 69 then 1 else g k) else g
theorem begJ (I : Iv) (J : Jv) : (∀ r, r ≠ 79 → (fn_X10_begin I J).2 r = J r) ∧ (fn_X10_begin I J).2 79 = begG (I 78 2) (J 79) := by
  unfold fn_X10_begin begG
  by_cases h : I 78 2 = 0
  · obtain ⟨I1, e1, r1, z1⟩ := z14R (J := J) 15 0 (mU (15 : Int32) ((0 : Int32)) + 1) (wI I 78 2 1) rfl (by decide)
    have e1' : ∀ K : Int32 → Iv → Iv × Jv, fl_X10_begin_14_0 J K (mU (15 : Int32) ((0 : Int32)) + 1) 0 (wI I 78 2 1) = K 15 I1 := e1
    obtain ⟨J3, e3, a1, a2⟩ := freshenR (X := 0) I1 (wJ J 79 69 1) (by omega)
    have e3' : fn_X10_freshen 0 I1 (wJ J 79 69 1) = (I1, J3) := e3
    obtain ⟨I2, e2, r2⟩ := z51R (J := J3) 7 0 (mU (7 : Int32) ((0 : Int32)) + 1) I1 rfl (by decide)
    have e2' : ∀ K : Int32 → Iv → Iv × Jv, fl_X10_begin_51_1 J3 K (mU (7 : Int32) ((0 : Int32)) + 1) 0 I1 = K 7 I2 := e2
    rw [if_pos h, l_t, e1', l_t, e3', b_n2_mk, e2', l_t, l_t, if_pos h]
    refine ⟨fun r hr => by show J3 r = J r; rw [a1 r hr, wJ_row hr], ?_⟩
    show J3 79 = _
    rw [a2]
    have : (wJ J 79 69 1) 79 = (fun k => if k = 69 then 1 else J 79 k) := by
      funext k
      by_cases q : k = 69
      · subst q; rw [wJ_self, if_pos rfl]
      · rw [wJ_ne (Or.inr q), if_neg q]
    rw [this]
  · rw [if_neg h, if_neg h]; exact ⟨fun _ _ => rfl, rfl⟩
theorem beg_id {I : Iv} {J : Jv} (h : ¬ I 78 2 = 0) : fn_X10_begin I J = (I, J) := by unfold fn_X10_begin; rw [if_neg h]
/-- what both hold of what is so, of images, of the text's length, of THE BOX, of THE DAY -/
def CQ (c : Nat) (I : Iv) (J : Jv) (A : Iv) (B : Jv) : Prop :=
  STm (2880 * (c : Int)) 16 0 I J B ∧ ENv I A ∧ (∀ i, i < 2 → I 43 i = A 80 i ∧ (¬ I 43 i = 0 → STm (2880 * (c : Int)) (25 + 9 * i) (160 + 80 * i) I J B))
def CQx (c : Nat) (I : Iv) (J : Jv) : Prop := CQ c I J (fn_X10_begin I J).1 (fn_X10_begin I J).2
theorem st_row {N : Int} {o X : Nat} {I I' : Iv} {J J' B B' : Jv} (h : STm N o X I J B) (hI : ∀ b, o ≤ b → b ≤ o + 8 → I' b = I b) (hJ : J' (o + 1) = J (o + 1) ∧ J' (o + 7) = J (o + 7)) (hB : ∀ k, k < 71 → B' 79 (X + k) = B 79 (X + k)) : STm N o X I' J' B' := by
  obtain ⟨h1, h2, h3, h4, h5⟩ := h
  have i0 : I' o = I o := hI o (by omega) (by omega)
  have i2 : I' (o + 2) = I (o + 2) := hI _ (by omega) (by omega)
  have i3 : I' (o + 3) = I (o + 3) := hI _ (by omega) (by omega)
  have i4 : I' (o + 4) = I (o + 4) := hI _ (by omega) (by omega)
  have i5 : I' (o + 5) = I (o + 5) := hI _ (by omega) (by omega)
  have i6 : I' (o + 6) = I (o + 6) := hI _ (by omega) (by omega)
  have i8 : I' (o + 8) = I (o + 8) := hI _ (by omega) (by omega)
  refine ⟨fun k hk => by rw [hB k (by omega), hJ.1]; exact h1 k hk, fun k hk => by rw [i2, i8, hJ.1]; exact h2 k hk, fun f hf => ?_, fun j j1 j6 => by rw [show X + 54 + j = X + (54 + j) by omega, hB _ (by omega), hJ.2, show X + (54 + j) = X + 54 + j by omega]; exact h4 j j1 j6, ?_⟩
  · have := h3 f hf
    unfold STf at this ⊢
    rw [show X + 12 + f = X + (12 + f) by omega, show X + 20 + f = X + (20 + f) by omega, show X + 28 + f = X + (28 + f) by omega, show X + 36 + f = X + (36 + f) by omega, show X + 44 + f = X + (44 + f) by omega] at this ⊢
    rw [hB _ (by omega), hB _ (by omega), hB _ (by omega), hB _ (by omega), hB _ (by omega), i2, i3, i4, i5, i6, i8, hJ.1]; exact this
  · unfold STn SDm at h5 ⊢
    rw [hB _ (by omega), hB _ (by omega), hB _ (by omega), hB _ (by omega), hB _ (by omega), hB _ (by omega), hB _ (by omega), hB _ (by omega), hB _ (by omega), hB _ (by omega), hB _ (by omega), hB _ (by omega), hB _ (by omega), hB _ (by omega), i0, i8]; exact h5
theorem CQ.mono {c : Nat} {I A : Iv} {J B : Jv} (h : CQ c I J A B) : CQ (c + 1) I J A B := by
  obtain ⟨h1, h2, h3⟩ := h
  have e : (2880 * (c : Int)) ≤ 2880 * ((c + 1 : Nat) : Int) := by omega
  exact ⟨h1.mono e, h2, fun i hi => ⟨(h3 i hi).1, fun z => ((h3 i hi).2 z).mono e⟩⟩
/-- what CQ looks at -/
theorem cq_row {c : Nat} {I I' A A' : Iv} {J J' B B' : Jv} (h : CQ c I J A B) (hI : ∀ b, (8 ≤ b ∧ b ≤ 12) ∨ (16 ≤ b ∧ b ≤ 43) → I' b = I b) (hJ : ∀ r, 16 ≤ r → r ≤ 42 → J' r = J r) (hB : ∀ k, k < 80 ∨ 160 ≤ k → B' 79 k = B 79 k)
    (a81 : ∀ j, j < 15 → A' 81 j = A 81 j) (a83 : A' 83 = A 83) (a84 : A' 84 = A 84) (a80 : A' 80 = A 80) (a5 : A' 78 5 = A 78 5) : CQ c I' J' A' B' := by
  obtain ⟨q1, q2, q3⟩ := h
  refine ⟨st_row q1 (fun b h1 h2 => hI b (by omega)) ⟨hJ _ (by omega) (by omega), hJ _ (by omega) (by omega)⟩ (fun k hk => hB _ (by omega)), env_row q2 (fun b hb => hI b (by omega)) a5 a81 a83 a84, fun i hi => ⟨by rw [hI 43 (by omega), a80]; exact (q3 i hi).1, fun z => ?_⟩⟩
  rw [hI 43 (by omega)] at z
  exact st_row ((q3 i hi).2 z) (fun b h1 h2 => hI b (by omega)) ⟨hJ _ (by omega) (by omega), hJ _ (by omega) (by omega)⟩ (fun k hk => hB _ (by omega))
/-- the class's call leaves the reference's rows: the beginning behind it is the beginning ahead of it -/
theorem beg_hi {I I1 : Iv} {J J1 : Jv} (hI : ∀ b, 78 ≤ b → I1 b = I b) (hJ : J1 79 = J 79) : (fn_X10_begin I1 J1).1 80 = (fn_X10_begin I J).1 80 ∧ (fn_X10_begin I1 J1).1 83 = (fn_X10_begin I J).1 83 ∧ (fn_X10_begin I1 J1).1 84 = (fn_X10_begin I J).1 84 ∧ (∀ j, j < 15 → (fn_X10_begin I1 J1).1 81 j = (fn_X10_begin I J).1 81 j) ∧ (fn_X10_begin I1 J1).1 78 5 = (fn_X10_begin I J).1 78 5 ∧ (fn_X10_begin I1 J1).1 78 11 = (fn_X10_begin I J).1 78 11 ∧ (fn_X10_begin I1 J1).2 79 = (fn_X10_begin I J).2 79 := by
  obtain ⟨C, D, e, n2, r, rk, r81⟩ := begR I1 J1
  obtain ⟨C0, D0, e0, n20, r0, rk0, r810⟩ := begR I J
  have g := (begJ I1 J1).2
  have g0 := (begJ I J).2
  rw [g, g0, hI 78 (by omega), hJ]
  rw [e, e0]
  refine ⟨?_, ?_, ?_, fun j hj => ?_, ?_, ?_, rfl⟩
  · show C 80 = C0 80
    rw [r 80 (by omega) (by omega) (by omega) (by omega), r0 80 (by omega) (by omega) (by omega) (by omega), hI 80 (by omega)]
  · show C 83 = C0 83
    rw [r 83 (by omega) (by omega) (by omega) (by omega), r0 83 (by omega) (by omega) (by omega) (by omega), hI 83 (by omega)]
  · show C 84 = C0 84
    rw [r 84 (by omega) (by omega) (by omega) (by omega), r0 84 (by omega) (by omega) (by omega) (by omega), hI 84 (by omega)]
  · show C 81 j = C0 81 j
    rw [r81 j (by omega), r810 j (by omega), hI 78 (by omega), hI 81 (by omega)]
  · show C 78 5 = C0 78 5
    rw [rk 5 (by omega) (by omega) (by omega), rk0 5 (by omega) (by omega) (by omega), hI 78 (by omega)]
  · show C 78 11 = C0 78 11
    rw [rk 11 (by omega) (by omega) (by omega), rk0 11 (by omega) (by omega) (by omega), hI 78 (by omega)]
/-- the reference's side behind a class's call, as CQ wants it: A B is the beginning ahead, C D the one behind -/
theorem cq_beg {c : Nat} {I I1 : Iv} {J J1 : Jv} (hI : ∀ b, 78 ≤ b → I1 b = I b) (hJ : J1 79 = J 79) (h : CQ c I1 J1 (fn_X10_begin I J).1 (fn_X10_begin I J).2) : CQ c I1 J1 (fn_X10_begin I1 J1).1 (fn_X10_begin I1 J1).2 := by
  obtain ⟨e80, e83, e84, e81, e5, e11, e79⟩ := beg_hi hI hJ
  exact cq_row h (fun _ _ => rfl) (fun _ _ _ => rfl) (fun k _ => by rw [e79]) e81 e83 e84 e80 e5
/-- the beginning, begun -/
theorem cqx_id {c : Nat} {I2 : Iv} {J2 : Jv} (hn : ¬ I2 78 2 = 0) (h : CQ c I2 J2 I2 J2) : CQx c I2 J2 := by
  unfold CQx; rw [beg_id hn]; exact h
