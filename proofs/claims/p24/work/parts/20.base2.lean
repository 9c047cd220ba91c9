def SHF : Shp := [.inr (9, [.inl (some 1), .inl (some 7), .inl (some 9), .inl (some 13), .inl (some 16), .inl (some 25), .inl (some 34), .inl (some 43), .inl (some 44), .inl (some 45), .inl (some 57), .inl (some 65), .inl (some 67)]), .inr (5, [.inl (some 2), .inr .int, .inr .int, .inr .int, .inr .int, .inr .int, .inl (some 3), .inl (some 4), .inl (some 5), .inl (some 6)]), .inl (.char, 300), .inl (.boolean, 13), .inl (.int, 15), .inl (.int, 12), .inl (.int, 12), .inr (0, [.inl (some 8)]), .inl (.int, 15), .inr (3, [.inr .int, .inl (some 10), .inl (some 11), .inl (some 12)]), .inl (.int, 12), .inl (.int, 12), .inl (.boolean, 288), .inr (7, [.inl (some 7), .inl (some 9), .inl (some 14), .inl (some 15)]), .inl (.int, 12), .inl (.long, 12), .inr (6, [.inl (some 17), .inl (some 18), .inl (some 19), .inl (some 20), .inl (some 21), .inl (some 22), .inl (some 23), .inl (some 24), .inr .int, .inr .int, .inr .boolean, .inr .boolean, .inr .boolean, .inr .int]), .inl (.long, 12), .inl (.int, 12), .inl (.boolean, 8), .inl (.int, 8), .inl (.int, 8), .inl (.int, 8), .inl (.long, 6), .inl (.int, 8), .inr (6, [.inl (some 26), .inl (some 27), .inl (some 28), .inl (some 29), .inl (some 30), .inl (some 31), .inl (some 32), .inl (some 33), .inr .int, .inr .int, .inr .boolean, .inr .boolean, .inr .boolean, .inr .int]), .inl (.long, 12), .inl (.int, 12), .inl (.boolean, 8), .inl (.int, 8), .inl (.int, 8), .inl (.int, 8), .inl (.long, 6), .inl (.int, 8), .inr (6, [.inl (some 35), .inl (some 36), .inl (some 37), .inl (some 38), .inl (some 39), .inl (some 40), .inl (some 41), .inl (some 42), .inr .int, .inr .int, .inr .boolean, .inr .boolean, .inr .boolean, .inr .int]), .inl (.long, 12), .inl (.int, 12), .inl (.boolean, 8), .inl (.int, 8), .inl (.int, 8), .inl (.int, 8), .inl (.long, 6), .inl (.int, 8), .inl (.boolean, 2), .inl (.boolean, 288), .inr (1, [.inl (some 13), .inl (some 46), .inl (some 55), .inl (some 56)]), .inr (6, [.inl (some 47), .inl (some 48), .inl (some 49), .inl (some 50), .inl (some 51), .inl (some 52), .inl (some 53), .inl (some 54), .inr .int, .inr .int, .inr .boolean, .inr .boolean, .inr .boolean, .inr .int]), .inl (.long, 12), .inl (.int, 12), .inl (.boolean, 8), .inl (.int, 8), .inl (.int, 8), .inl (.int, 8), .inl (.long, 6), .inl (.int, 8), .inl (.int, 128), .inl (.int, 5376), .inr (2, [.inl (some 45), .inl (some 58), .inl (some 59), .inl (some 60), .inl (some 61), .inl (some 62), .inl (some 63), .inl (some 64)]), .inl (.boolean, 7), .inl (.int, 7), .inl (.int, 7), .inl (.int, 7), .inl (.int, 7), .inl (.long, 29), .inl (.int, 29), .inr (4, [.inl (some 45), .inl (some 66), .inr .int]), .inl (.int, 7), .inr (8, [.inl (some 13), .inl (some 16), .inl (some 68), .inl (some 77), .inr .int, .inr .int, .inr .int, .inr .int, .inr .int]), .inr (6, [.inl (some 69), .inl (some 70), .inl (some 71), .inl (some 72), .inl (some 73), .inl (some 74), .inl (some 75), .inl (some 76), .inr .int, .inr .int, .inr .boolean, .inr .boolean, .inr .boolean, .inr .int]), .inl (.long, 12), .inl (.int, 12), .inl (.boolean, 8), .inl (.int, 8), .inl (.int, 8), .inl (.int, 8), .inl (.long, 6), .inl (.int, 8), .inl (.int, 8), .inr (10, [.inl (some 79), .inl (some 80), .inr .boolean, .inl (some 81), .inl (some 82), .inr .int, .inl (some 83), .inl (some 84), .inl (some 85), .inl (some 86), .inl (some 87), .inr .int, .inr .int, .inr .int, .inr .int, .inr .int, .inr .int, .inr .int, .inl (some 88), .inl (some 89), .inl (some 90), .inl (some 91), .inl (some 92), .inl (some 93), .inl (some 94), .inl (some 95), .inl (some 96), .inl (some 97), .inr .long, .inl (some 98), .inr .int, .inr .int, .inr .int, .inr .int]), .inl (.long, 320), .inl (.boolean, 2), .inl (.int, 15), .inl (.int, 15), .inl (.int, 12), .inl (.int, 12), .inl (.int, 12), .inl (.int, 12), .inl (.int, 300), .inl (.long, 12), .inl (.boolean, 288), .inl (.int, 7), .inl (.boolean, 7), .inl (.int, 7), .inl (.int, 7), .inl (.int, 7), .inl (.int, 7), .inl (.long, 128), .inl (.int, 896), .inl (.int, 7)]
theorem g_topI {y : Mr} {RQ : RQt} {nc ns pc : Nat} {L : List (Option Value)} {st : List Value} {S : Shp} {I : Iv} {J : Jv} {x : Int32} (k : ∀ v : Int32, v = x → G y RQ nc ns pc L (.int v :: st) S I J) : G y RQ nc ns pc L (.int x :: st) S I J := k x rfl
theorem g_topJ {y : Mr} {RQ : RQt} {nc ns pc : Nat} {L : List (Option Value)} {st : List Value} {S : Shp} {I : Iv} {J : Jv} {x : Int64} (k : ∀ v : Int64, v = x → G y RQ nc ns pc L (.long v :: st) S I J) : G y RQ nc ns pc L (.long x :: st) S I J := k x rfl
theorem g_nmI {y : Mr} {RQ : RQt} {nc ns pc : Nat} {L : List (Option Value)} {st : List Value} {S : Shp} {I : Iv} {J : Jv} (k : ∀ I' : Iv, I' = I → G y RQ nc ns pc L st S I' J) : G y RQ nc ns pc L st S I J := k I rfl
theorem g_nmJ {y : Mr} {RQ : RQt} {nc ns pc : Nat} {L : List (Option Value)} {st : List Value} {S : Shp} {I : Iv} {J : Jv} (k : ∀ J' : Jv, J' = J → G y RQ nc ns pc L st S I J') : G y RQ nc ns pc L st S I J := k J rfl
theorem g_st {y : Mr} {RQ : RQt} {nc ns pc : Nat} {L : List (Option Value)} {st st' : List Value} {S : Shp} {I : Iv} {J : Jv} (h : st = st') (k : G y RQ nc ns pc L st' S I J) : G y RQ nc ns pc L st S I J := h ▸ k
def subL : List (Option Value) → List (Option Value) → Prop
  | [], _ => True
  | none :: a, _ :: b => subL a b
  | some v :: a, some w :: b => v = w ∧ subL a b
  | _, _ => False
theorem subL_at : ∀ (A B : List (Option Value)), subL A B → ∀ (j : Nat) (v : Value), A[j]? = some (some v) → B[j]? = some (some v)
  | [], _, _, j, v, h => by simp at h
  | none :: a, [], hs, j, v, h => by simp [subL] at hs
  | none :: a, _ :: b, hs, 0, v, h => by simp at h
  | none :: a, _ :: b, hs, j + 1, v, h => by
    simp only [List.getElem?_cons_succ] at h ⊢
    exact subL_at a b hs j v h
  | some x :: a, [], hs, j, v, h => by simp [subL] at hs
  | some x :: a, none :: b, hs, j, v, h => by simp [subL] at hs
  | some x :: a, some y :: b, hs, 0, v, h => by
    simp only [subL] at hs
    simp only [List.getElem?_cons_zero, Option.some.injEq] at h ⊢
    rw [← hs.1, h]
  | some x :: a, some y :: b, hs, j + 1, v, h => by
    simp only [subL] at hs
    simp only [List.getElem?_cons_succ] at h ⊢
    exact subL_at a b hs.2 j v h
theorem g_sb {y : Mr} {RQ : RQt} {nc ns pc : Nat} {L : List (Option Value)} (L' : List (Option Value)) {st : List Value} {S : Shp} {I : Iv} {J : Jv} (hs : subL L' L) (k : G y RQ nc ns pc L' st S I J) : G y RQ nc ns pc L st S I J := g_sub L' (subL_at L' L hs) k
def mU (N c : Int32) : Nat := (N.toInt - c.toInt).toNat
def mUe (N c : Int32) : Nat := (N.toInt + 1 - c.toInt).toNat
def mD (c : Int32) : Nat := (c.toInt + 1).toNat
theorem i32_up {c N : Int32} (h : c < N) : (c + 1).toInt = c.toInt + 1 := by
  have h1 := Int32.lt_iff_toInt_lt.mp h
  have h2 := Int32.toInt_lt N
  have h3 := Int32.le_toInt c
  rw [Int32.toInt_add]
  have : (1 : Int32).toInt = 1 := by decide
  rw [this]
  apply Int.bmod_eq_of_le <;> omega
theorem i32_dn {c : Int32} (h : ¬ c < 0) : (c + -1).toInt = c.toInt - 1 := by
  have h1 := Int32.le_iff_toInt_le.mp (Int32.not_lt.mp h)
  have h2 := Int32.toInt_lt c
  have h3 := Int32.le_toInt c
  simp at h1
  rw [Int32.toInt_add]
  have : (-1 : Int32).toInt = -1 := by decide
  rw [this]
  have : c.toInt + -1 = c.toInt - 1 := by omega
  rw [this]
  apply Int.bmod_eq_of_le <;> omega
theorem mu_up {c N : Int32} (h : ¬ N ≤ c) : mU N (c + 1) < mU N c := by
  have h := Int32.not_le.mp h
  have h1 := Int32.lt_iff_toInt_lt.mp h
  unfold mU; rw [i32_up h]; omega
theorem mu_upe {c N : Int32} (h : ¬ N < c) (hN : N < 2147483647) : mUe N (c + 1) < mUe N c := by
  have h := Int32.not_lt.mp h
  have h1 := Int32.le_iff_toInt_le.mp h
  unfold mUe; rw [i32_up (Int32.lt_of_le_of_lt h hN)]; omega
theorem mu_dn {c : Int32} (h : ¬ c < 0) : mD (c + -1) < mD c := by
  have h1 := Int32.le_iff_toInt_le.mp (Int32.not_lt.mp h)
  simp at h1
  unfold mD; rw [i32_dn h]; omega
theorem lo_up {k c N : Int32} (h1 : k ≤ c) (h2 : ¬ N ≤ c) : k ≤ c + 1 := by
  have h := Int32.not_le.mp h2
  have h1 := Int32.le_iff_toInt_le.mp h1
  rw [Int32.le_iff_toInt_le, i32_up h]; omega
theorem lo_upe {k c N : Int32} (h1 : k ≤ c) (h2 : ¬ N < c) (hN : N < 2147483647) : k ≤ c + 1 := by
  have h := Int32.not_lt.mp h2
  have h1 := Int32.le_iff_toInt_le.mp h1
  rw [Int32.le_iff_toInt_le, i32_up (Int32.lt_of_le_of_lt h hN)]; omega
theorem hi_dn {k c : Int32} (h1 : c ≤ k) (h2 : ¬ c < 0) : c + -1 ≤ k := by
  have h1 := Int32.le_iff_toInt_le.mp h1
  rw [Int32.le_iff_toInt_le, i32_dn h2]; omega
theorem sw_split (x : Int32) (lo hi : Int) : (x.toInt < lo ∨ hi < x.toInt) ∨ (¬ x.toInt < lo ∧ ¬ hi < x.toInt) := by omega
theorem sw_k {x : Int32} {lo hi : Int} (h : ¬ x.toInt < lo ∧ ¬ hi < x.toInt) : ∃ k : Nat, (k : Int) < hi - lo + 1 ∧ x.toInt = lo + (k : Int) := ⟨(x.toInt - lo).toNat, by omega, by omega⟩
theorem nar_z {v : Int32} (h : v = 0 ∨ v = 1) : narrow .boolean (.int v) = .int v := by rcases h with rfl | rfl <;> rfl
def StA (o : Nat) : Prop := o = 16 ∨ o = 25 ∨ o = 34 ∨ o = 46 ∨ o = 68
theorem stA_16 : StA 16 := Or.inl rfl
theorem stA_25 : StA 25 := Or.inr (Or.inl rfl)
theorem stA_34 : StA 34 := Or.inr (Or.inr (Or.inl rfl))
theorem stA_46 : StA 46 := Or.inr (Or.inr (Or.inr (Or.inl rfl)))
theorem stA_68 : StA 68 := Or.inr (Or.inr (Or.inr (Or.inr rfl)))
theorem sa0 {o : Nat} (h : StA o) : SHF[o]? = some (.inr (6, [.inl (some (o + 1)), .inl (some (o + 2)), .inl (some (o + 3)), .inl (some (o + 4)), .inl (some (o + 5)), .inl (some (o + 6)), .inl (some (o + 7)), .inl (some (o + 8)), .inr .int, .inr .int, .inr .boolean, .inr .boolean, .inr .boolean, .inr .int])) := by
  rcases h with rfl | rfl | rfl | rfl | rfl <;> rfl
theorem sa1 {o : Nat} (h : StA o) : SHF[o + 1]? = some (.inl (.long, 12)) := by
  rcases h with rfl | rfl | rfl | rfl | rfl <;> rfl
theorem sa2 {o : Nat} (h : StA o) : SHF[o + 2]? = some (.inl (.int, 12)) := by
  rcases h with rfl | rfl | rfl | rfl | rfl <;> rfl
theorem sa3 {o : Nat} (h : StA o) : SHF[o + 3]? = some (.inl (.boolean, 8)) := by
  rcases h with rfl | rfl | rfl | rfl | rfl <;> rfl
theorem sa4 {o : Nat} (h : StA o) : SHF[o + 4]? = some (.inl (.int, 8)) := by
  rcases h with rfl | rfl | rfl | rfl | rfl <;> rfl
theorem sa5 {o : Nat} (h : StA o) : SHF[o + 5]? = some (.inl (.int, 8)) := by
  rcases h with rfl | rfl | rfl | rfl | rfl <;> rfl
theorem sa6 {o : Nat} (h : StA o) : SHF[o + 6]? = some (.inl (.int, 8)) := by
  rcases h with rfl | rfl | rfl | rfl | rfl <;> rfl
theorem sa7 {o : Nat} (h : StA o) : SHF[o + 7]? = some (.inl (.long, 6)) := by
  rcases h with rfl | rfl | rfl | rfl | rfl <;> rfl
theorem sa8 {o : Nat} (h : StA o) : SHF[o + 8]? = some (.inl (.int, 8)) := by
  rcases h with rfl | rfl | rfl | rfl | rfl <;> rfl
/-- what the class keeps that other calls answer by, and all of the reference's -/
def XN (I : Iv) (J : Jv) : (Nat → Int32) × (Nat → Int32) × (Nat → Int32) × (Nat → Int32) × (Nat → Int32) × Int32 × Int32 × Int32 × Int32 × Int32 × Int32 × Int32 × Int32 × Int32 × Int32 × Iv × Jv :=
  (I 66, I 61, I 62, I 58, I 43, I 65 2, I 16 8, I 16 12, I 25 8, I 25 12, I 34 8, I 34 12, I 1 1, I 33 0, I 42 0, fun a => I (a + 78), fun a => J (a + 78))
def XT (I : Iv) (J : Jv) : Int32 × ((Nat → Int32) × (Nat → Int32) × (Nat → Int32) × (Nat → Int32) × (Nat → Int32) × Int32 × Int32 × Int32 × Int32 × Int32 × Int32 × Int32 × Int32 × Int32 × Int32 × Iv × Jv) := (I 24 0, XN I J)
def xfree (a k : Nat) : Bool := decide (a < 78) && (!(a == 66) && (!(a == 61) && (!(a == 62) && (!(a == 58) && (!(a == 43) && (!(a == 65 && k == 2) && (!(a == 16 && (k == 8 || k == 12)) && (!(a == 25 && (k == 8 || k == 12)) && (!(a == 34 && (k == 8 || k == 12)) && (!(a == 24 && k == 0) && (!(a == 33 && k == 0) && (!(a == 42 && k == 0) && !(a == 1 && k == 1)))))))))))))
theorem xfree_spec {a k : Nat} (h : xfree a k = true) : a < 78 ∧ a ≠ 66 ∧ a ≠ 61 ∧ a ≠ 62 ∧ a ≠ 58 ∧ a ≠ 43 ∧ ¬ (65 = a ∧ 2 = k) ∧ ¬ (16 = a ∧ 8 = k) ∧ ¬ (16 = a ∧ 12 = k) ∧ ¬ (25 = a ∧ 8 = k) ∧ ¬ (25 = a ∧ 12 = k) ∧ ¬ (34 = a ∧ 8 = k) ∧ ¬ (34 = a ∧ 12 = k) ∧ ¬ (1 = a ∧ 1 = k) ∧ ¬ (24 = a ∧ 0 = k) ∧ ¬ (33 = a ∧ 0 = k) ∧ ¬ (42 = a ∧ 0 = k) := by
  simp only [xfree, Bool.and_eq_true, Bool.not_eq_true', decide_eq_true_eq, Bool.and_eq_false_iff, Bool.or_eq_false_iff, beq_eq_false_iff_ne, ne_eq] at h
  omega
theorem xt_wI {a k : Nat} {v : Int32} {I : Iv} {J : Jv} (h : xfree a k = true) : XT (wI I a k v) J = XT I J := by
  obtain ⟨h0, h1, h2, h3, h4, h5, h6, h7, h8, h9, ha, hb, hc, hd, he, hf, hg⟩ := xfree_spec h
  have e : (fun b => wI I a k v (b + 78)) = fun b => I (b + 78) := by funext b; exact wI_row (by omega)
  simp only [XT, XN, e, wI_row (Ne.symm h1), wI_row (Ne.symm h2), wI_row (Ne.symm h3), wI_row (Ne.symm h4), wI_row (Ne.symm h5)]
  simp only [wI, if_neg h6, if_neg h7, if_neg h8, if_neg h9, if_neg ha, if_neg hb, if_neg hc, if_neg hd, if_neg he, if_neg hf, if_neg hg]
theorem xt_wJ {a k : Nat} {v : Int64} {I : Iv} {J : Jv} (h : a < 78) : XT I (wJ J a k v) = XT I J := by
  have e : (fun b => wJ J a k v (b + 78)) = fun b => J (b + 78) := by funext b; exact wJ_row (by omega)
  simp only [XT, XN, e]
def xrow (a : Nat) : Bool := decide (a < 78) && (!(a == 66) && (!(a == 61) && (!(a == 62) && (!(a == 58) && (!(a == 43) && (!(a == 65) && (!(a == 16) && (!(a == 25) && (!(a == 34) && (!(a == 24) && (!(a == 33) && (!(a == 42) && !(a == 1)))))))))))))
theorem xrow_spec {a : Nat} (h : xrow a = true) : a < 78 ∧ a ≠ 66 ∧ a ≠ 61 ∧ a ≠ 62 ∧ a ≠ 58 ∧ a ≠ 43 ∧ a ≠ 65 ∧ a ≠ 16 ∧ a ≠ 25 ∧ a ≠ 34 ∧ a ≠ 1 ∧ a ≠ 24 ∧ a ≠ 33 ∧ a ≠ 42 := by
  simp only [xrow, Bool.and_eq_true, Bool.not_eq_true', decide_eq_true_eq, beq_eq_false_iff_ne, ne_eq] at h
  omega
theorem xt_rowI {a : Nat} {I I' : Iv} {J : Jv} (h : xrow a = true) (hI : ∀ b, b ≠ a → I' b = I b) : XT I' J = XT I J := by
  obtain ⟨h0, h1, h2, h3, h4, h5, h6, h7, h8, h9, ha, hb, hc, hd⟩ := xrow_spec h
  have e : (fun b => I' (b + 78)) = fun b => I (b + 78) := by funext b; exact hI _ (by omega)
  simp only [XT, XN, e, hI 66 (Ne.symm h1), hI 61 (Ne.symm h2), hI 62 (Ne.symm h3), hI 58 (Ne.symm h4), hI 43 (Ne.symm h5), hI 65 (Ne.symm h6), hI 16 (Ne.symm h7), hI 25 (Ne.symm h8), hI 34 (Ne.symm h9), hI 1 (Ne.symm ha), hI 24 (Ne.symm hb), hI 33 (Ne.symm hc), hI 42 (Ne.symm hd)]
theorem xt_rowJ {a : Nat} {I : Iv} {J J' : Jv} (h : a < 78) (hJ : ∀ b, b ≠ a → J' b = J b) : XT I J' = XT I J := by
  have e : (fun b => J' (b + 78)) = fun b => J (b + 78) := by funext b; exact hJ _ (by omega)
  simp only [XT, XN, e]
theorem xt_len {I I' : Iv} {J J' : Jv} (h : XT I' J' = XT I J) : I' 1 1 = I 1 1 := by
  simp only [XT, XN, Prod.mk.injEq] at h
  exact h.2.2.2.2.2.2.2.2.2.2.2.2.2.1
theorem xt_pri {I I' : Iv} {J J' : Jv} (h : XT I' J' = XT I J) : I' 61 = I 61 := by
  simp only [XT, XN, Prod.mk.injEq] at h
  exact h.2.2.1
/-- the frame of what happens to one State: other rows stay, but the ticker's own -/
def FSx (o : Nat) (I : Iv) (J : Jv) (I' : Iv) (J' : Jv) : Prop := (∀ b, (b < o ∨ o + 8 < b) → b ≠ 14 → b ≠ 15 → I' b = I b ∧ J' b = J b) ∧ I' o 8 = I o 8 ∧ I' o 12 = I o 12
def FS (o : Nat) (I : Iv) (J : Jv) (I' : Iv) (J' : Jv) : Prop := FSx o I J I' J' ∧ I' (o + 8) 0 = I (o + 8) 0
theorem fsx_rfl {o : Nat} {I : Iv} {J : Jv} : FSx o I J I J := ⟨fun _ _ _ _ => ⟨rfl, rfl⟩, rfl, rfl⟩
theorem fs_rfl {o : Nat} {I : Iv} {J : Jv} : FS o I J I J := ⟨fsx_rfl, rfl⟩
theorem FSx.tr {o : Nat} {I I1 I2 : Iv} {J J1 J2 : Jv} (h : FSx o I J I1 J1) (k : FSx o I1 J1 I2 J2) : FSx o I J I2 J2 :=
  ⟨fun b h1 h2 h3 => ⟨(k.1 b h1 h2 h3).1.trans (h.1 b h1 h2 h3).1, (k.1 b h1 h2 h3).2.trans (h.1 b h1 h2 h3).2⟩, k.2.1.trans h.2.1, k.2.2.trans h.2.2⟩
theorem FS.tr {o : Nat} {I I1 I2 : Iv} {J J1 J2 : Jv} (h : FS o I J I1 J1) (k : FS o I1 J1 I2 J2) : FS o I J I2 J2 := ⟨h.1.tr k.1, k.2.trans h.2⟩
theorem fsx_wI {o a k : Nat} {v : Int32} {I I1 : Iv} {J J1 : Jv} (ho : StA o) (h : FSx o I J I1 J1) (hz : (o < a ∧ a ≤ o + 8) ∨ (a = o ∧ k ≠ 8 ∧ k ≠ 12) ∨ a = 14 ∨ a = 15) : FSx o I J (wI I1 a k v) J1 := by
  have hoo : o ≠ 14 ∧ o ≠ 15 := by rcases ho with rfl | rfl | rfl | rfl | rfl <;> omega
  refine ⟨fun b h1 h2 h3 => ?_, ?_, ?_⟩
  · rw [wI_row (by omega)]; exact h.1 b h1 h2 h3
  · rw [wI_ne (by omega)]; exact h.2.1
  · rw [wI_ne (by omega)]; exact h.2.2
theorem fs_wI {o a k : Nat} {v : Int32} {I I1 : Iv} {J J1 : Jv} (ho : StA o) (h : FS o I J I1 J1) (hz : (o < a ∧ a ≤ o + 8 ∧ (a ≠ o + 8 ∨ k ≠ 0)) ∨ (a = o ∧ k ≠ 8 ∧ k ≠ 12) ∨ a = 14 ∨ a = 15) : FS o I J (wI I1 a k v) J1 := by
  have hoo : o + 8 ≠ 14 ∧ o + 8 ≠ 15 := by rcases ho with rfl | rfl | rfl | rfl | rfl <;> omega
  refine ⟨fsx_wI ho h.1 (by omega), ?_⟩
  rw [wI_ne (by omega)]; exact h.2
theorem fsx_wJ {o a k : Nat} {v : Int64} {I I1 : Iv} {J J1 : Jv} (h : FSx o I J I1 J1) (hz : (o ≤ a ∧ a ≤ o + 8) ∨ a = 15) : FSx o I J I1 (wJ J1 a k v) := by
  refine ⟨fun b h1 h2 h3 => ?_, h.2⟩
  rw [wJ_row (by omega)]; exact h.1 b h1 h2 h3
theorem fs_wJ {o a k : Nat} {v : Int64} {I I1 : Iv} {J J1 : Jv} (h : FS o I J I1 J1) (hz : (o ≤ a ∧ a ≤ o + 8) ∨ a = 15) : FS o I J I1 (wJ J1 a k v) := ⟨fsx_wJ h.1 hz, h.2⟩
theorem fsx_rowI {o a : Nat} {I I1 I2 : Iv} {J J1 : Jv} (h : FSx o I J I1 J1) (hI : ∀ b, b ≠ a → I2 b = I1 b) (hz : (o < a ∧ a ≤ o + 8)) : FSx o I J I2 J1 := by
  refine ⟨fun b h1 h2 h3 => ?_, ?_, ?_⟩
  · rw [hI b (by omega)]; exact h.1 b h1 h2 h3
  · rw [hI o (by omega)]; exact h.2.1
  · rw [hI o (by omega)]; exact h.2.2
theorem fsx_rowJ {o a : Nat} {I I1 : Iv} {J J1 J2 : Jv} (h : FSx o I J I1 J1) (hJ : ∀ b, b ≠ a → J2 b = J1 b) (hz : (o ≤ a ∧ a ≤ o + 8) ∨ a = 15) : FSx o I J I1 J2 := by
  refine ⟨fun b h1 h2 h3 => ?_, h.2⟩
  rw [hJ b (by omega)]; exact h.1 b h1 h2 h3
theorem fs_rowJ {o a : Nat} {I I1 : Iv} {J J1 J2 : Jv} (h : FS o I J I1 J1) (hJ : ∀ b, b ≠ a → J2 b = J1 b) (hz : (o ≤ a ∧ a ≤ o + 8) ∨ a = 15) : FS o I J I1 J2 := ⟨fsx_rowJ h.1 hJ hz, h.2⟩
theorem xn_fsx {o : Nat} {I I' : Iv} {J J' : Jv} (ho : o = 16 ∨ o = 46 ∨ o = 68) (h : FSx o I J I' J') : XN I' J' = XN I J := by
  have r : ∀ b, (b < o ∨ o + 8 < b) → b ≠ 14 → b ≠ 15 → I' b = I b := fun b h1 h2 h3 => (h.1 b h1 h2 h3).1
  have e1 : (fun b => I' (b + 78)) = fun b => I (b + 78) := by funext b; exact (h.1 _ (by omega) (by omega) (by omega)).1
  have e2 : (fun b => J' (b + 78)) = fun b => J (b + 78) := by funext b; exact (h.1 _ (by omega) (by omega) (by omega)).2
  have q : I' 16 8 = I 16 8 ∧ I' 16 12 = I 16 12 := by
    rcases ho with rfl | rfl | rfl
    · exact h.2
    · rw [r 16 (by omega) (by omega) (by omega)]; exact ⟨rfl, rfl⟩
    · rw [r 16 (by omega) (by omega) (by omega)]; exact ⟨rfl, rfl⟩
  simp only [XN, e1, e2, q.1, q.2, r 66 (by omega) (by omega) (by omega), r 61 (by omega) (by omega) (by omega), r 62 (by omega) (by omega) (by omega), r 58 (by omega) (by omega) (by omega), r 43 (by omega) (by omega) (by omega), r 65 (by omega) (by omega) (by omega), r 25 (by omega) (by omega) (by omega), r 34 (by omega) (by omega) (by omega), r 1 (by omega) (by omega) (by omega), r 33 (by omega) (by omega) (by omega), r 42 (by omega) (by omega) (by omega)]
theorem xt_fsx {o : Nat} {I I' : Iv} {J J' : Jv} (ho : o = 46 ∨ o = 68) (h : FSx o I J I' J') : XT I' J' = XT I J := by
  have e := xn_fsx (Or.inr ho) h
  have r := (h.1 24 (by omega) (by omega) (by omega)).1
  simp only [XT, e, r]
theorem xt_fs16 {I I' : Iv} {J J' : Jv} (h : FS 16 I J I' J') : XT I' J' = XT I J := by
  have e := xn_fsx (Or.inl rfl) h.1
  have r : I' 24 0 = I 24 0 := h.2
  simp only [XT, e, r]
theorem mod288 {x : Int32} (h : 0 ≤ x) : 0 ≤ x - x / 288 * 288 ∧ x - x / 288 * 288 < 288 := by
  have h0 := Int32.le_iff_toInt_le.mp h
  have h2 := Int32.toInt_lt x
  simp at h0
  have e1 : (x / 288).toInt = x.toInt / 288 := by
    rw [Int32.toInt_div]
    have : (288 : Int32).toInt = 288 := by decide
    rw [this, Int.tdiv_eq_ediv_of_nonneg h0]
    apply Int.bmod_eq_of_le <;> omega
  have e2 : (x / 288 * 288).toInt = x.toInt / 288 * 288 := by
    rw [Int32.toInt_mul, e1]
    have : (288 : Int32).toInt = 288 := by decide
    rw [this]
    apply Int.bmod_eq_of_le <;> omega
  have e3 : (x - x / 288 * 288).toInt = x.toInt - x.toInt / 288 * 288 := by
    rw [Int32.toInt_sub, e2]
    apply Int.bmod_eq_of_le <;> omega
  rw [Int32.le_iff_toInt_le, Int32.lt_iff_toInt_lt, e3]
  have : (288 : Int32).toInt = 288 := by decide
  rw [this]
  simp
  omega
theorem ne_i2l0 {x : Int32} (h : ¬ x = 0) : ¬ x.toInt64 = 0 := by
  intro q
  have h1 := congrArg Int64.toInt q
  rw [Int32.toInt_toInt64] at h1
  simp at h1
  exact h (Int32.toInt_inj.mp (by simpa using h1))
theorem sq {q : Nat} (h : q = 72 ∨ q = 77) : SHF[q]? = some (.inl (.int, 8)) := by rcases h with rfl | rfl <;> rfl
theorem sqx {q k : Nat} (h : q = 72 ∨ q = 77) : xfree q k = true := by rcases h with rfl | rfl <;> rfl
theorem mu_up5 {c : Int32} (h : ¬ 40 < c) : mUe 40 (c + 5) < mUe 40 c := by
  have h := Int32.not_lt.mp h
  have h1 := Int32.le_iff_toInt_le.mp h
  have h3 := Int32.le_toInt c
  have : (40 : Int32).toInt = 40 := by decide
  rw [this] at h1
  have e : (c + 5).toInt = c.toInt + 5 := by
    rw [Int32.toInt_add]
    have : (5 : Int32).toInt = 5 := by decide
    rw [this]
    apply Int.bmod_eq_of_le <;> omega
  unfold mUe
  rw [e, this]; omega
theorem ne_i2l {x : Int32} (h : 1 ≤ x) : ¬ x.toInt64 = 0 := by
  intro q
  have h1 := congrArg Int64.toInt q
  have h2 := Int32.le_iff_toInt_le.mp h
  rw [Int32.toInt_toInt64] at h1
  have : (1 : Int32).toInt = 1 := by decide
  simp at h1
  omega
theorem fs_flow {o : Nat} {I I1 I2 : Iv} {J J1 J2 : Jv} (h : FS o I J I1 J1) (k : I1 = I2 ∧ ∀ b, b ≠ 15 → J2 b = J1 b) : FS o I J I2 J2 := by
  obtain ⟨rfl, k⟩ := k
  exact fs_rowJ h k (Or.inr rfl)
theorem fsx_flow {o : Nat} {I I1 I2 : Iv} {J J1 J2 : Jv} (h : FSx o I J I1 J1) (k : I1 = I2 ∧ ∀ b, b ≠ 15 → J2 b = J1 b) : FSx o I J I2 J2 := by
  obtain ⟨rfl, k⟩ := k
  exact fsx_rowJ h k (Or.inr rfl)
theorem sa_far {o p : Nat} (ho : StA o) (hp : StA p) (h : o ≠ p) : p < o ∧ p + 8 < o ∨ o + 8 < p := by
  rcases ho with rfl | rfl | rfl | rfl | rfl <;> rcases hp with rfl | rfl | rfl | rfl | rfl <;> omega
