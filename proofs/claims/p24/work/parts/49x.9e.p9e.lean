/-! ===== THE DAY's openings as the class lays them out ===== -/
theorem z288v {J : Jv} : ∀ (f k fu : Nat) (I : Iv), k + f = 288 → f < fu → ∃ I' : Iv, (∀ K : Int32 → Iv → Iv × Jv, fl_X3_copyFrom_3_0 J K fu (n3 k) I = K 288 I') ∧ (∀ b, b ≠ 12 → I' b = I b) ∧ ∀ t, I' 12 t = (if k ≤ t ∧ t < 288 then 0 else I 12 t)
  | f, k, 0, _, _, h => absurd h (Nat.not_lt_zero _)
  | 0, k, fu + 1, I, hk, _ => ⟨I, fun K => by
      rw [fl_X3_copyFrom_3_0.eq_2, if_pos (by rw [show (288 : Int32) = n3 288 from rfl, n3_le (by omega) (by omega)]; omega), show k = 288 by omega]; rfl, fun _ _ => rfl, fun t => by rw [if_neg (by omega)]⟩
  | f + 1, k, fu + 1, I, hk, hf => by
    obtain ⟨I', e, r1, r2⟩ := z288v (J := J) f (k + 1) fu (wI I 12 k 0) (by omega) (by omega)
    refine ⟨I', fun K => ?_, fun b h => by rw [r1 b h, wI_row h], fun t => ?_⟩
    · rw [fl_X3_copyFrom_3_0.eq_2, if_neg (by rw [show (288 : Int32) = n3 288 from rfl, n3_le (by omega) (by omega)]; omega), n3_tn (by omega), l_t, n3_up]
      exact e K
    · rw [r2 t]
      by_cases q : t = k
      · rw [q, if_neg (by omega), if_pos (by omega), wI_self]
      · rw [wI_ne (Or.inr q)]
        by_cases q2 : k + 1 ≤ t ∧ t < 288
        · rw [if_pos q2, if_pos (by omega)]
        · rw [if_neg q2, if_neg (by omega)]
theorem m103v {J : Jv} {k p q M : Nat} (hk : k < 12) (hp : p ≤ 287) (hq : q ≤ 20) (hM : M ≤ p + q ∧ M ≤ 288 ∧ (M = p + q ∨ M = 288)) : ∀ (f a fu : Nat) (I : Iv), a + f = M → f < fu → I 10 k = n3 p → I 11 k = n3 q → ∃ I' : Iv, (∀ K : Int32 → Iv → Iv × Jv, fl_X3_copyFrom_103_2 J (n3 k) K fu (n3 a) I = K (n3 M) I') ∧ (∀ b, b ≠ 12 → I' b = I b) ∧ ∀ t, t < 288 → I' 12 t = (if a ≤ t ∧ t < p + q then 1 else I 12 t)
  | f, a, 0, _, _, h, _, _ => absurd h (Nat.not_lt_zero _)
  | 0, a, fu + 1, I, ha, _, h10, h11 => by
    refine ⟨I, fun K => ?_, fun _ _ => rfl, fun t ht => by rw [if_neg (by omega)]⟩
    have e : a = M := by omega
    rw [fl_X3_copyFrom_103_2.eq_2, show (n3 k).toNatClampNeg = k from n3_tn (by omega), h10, h11, n3_add, e]
    by_cases z : p + q ≤ M
    · rw [if_pos (by rw [n3_le (by omega) (by omega)]; exact z)]
    · rw [if_neg (by rw [n3_le (by omega) (by omega)]; exact z), if_pos (by rw [show (288 : Int32) = n3 288 from rfl, n3_le (by omega) (by omega)]; omega)]
  | f + 1, a, fu + 1, I, ha, hf, h10, h11 => by
    obtain ⟨I', e, r1, r2⟩ := m103v (J := J) hk hp hq hM f (a + 1) fu (wI I 12 a 1) (by omega) (by omega) (by rw [wI_row (by decide)]; exact h10) (by rw [wI_row (by decide)]; exact h11)
    refine ⟨I', fun K => ?_, fun b hb => by rw [r1 b hb, wI_row hb], fun t ht => ?_⟩
    · rw [fl_X3_copyFrom_103_2.eq_2, show (n3 k).toNatClampNeg = k from n3_tn (by omega), show (n3 a).toNatClampNeg = a from n3_tn (by omega), h10, h11, n3_add, if_neg (by rw [n3_le (by omega) (by omega)]; omega), if_neg (by rw [show (288 : Int32) = n3 288 from rfl, n3_le (by omega) (by omega)]; omega), l_t, n3_up, e]
    · rw [r2 t ht]
      by_cases y : t = a
      · rw [y, if_neg (by omega), if_pos (by omega), wI_self]
      · rw [wI_ne (Or.inr y)]
        by_cases y2 : a + 1 ≤ t ∧ t < p + q
        · rw [if_pos y2, if_pos (by omega)]
        · rw [if_neg y2, if_neg (by omega)]
theorem opP_n {F L : Nat → Int32} {t j p q : Nat} (ht : t < 288) (hp : p ≤ 287) (hq : 1 ≤ q ∧ q ≤ 20) (e1 : F j = n3 p) (e2 : L j = n3 q) : opP F L t j = decide (p ≤ t ∧ t < p + q) := by
  unfold opP
  have a : (n3 p ≤ n3 t) ↔ p ≤ t := n3_le (by omega) (by omega)
  have b : (n3 t ≤ n3 p + n3 q - 1) ↔ t < p + q := by
    rw [n3_add, show (1 : Int32) = n3 1 from rfl, n3_sub (by omega), n3_le (by omega) (by omega)]; omega
  rw [e1, e2]
  exact decide_eq_decide.mpr (and_congr a b)
theorem c33v {J : Jv} {m : Nat} {F L : Nat → Int32} (hm : m ≤ 12) (hF : ∀ j, j < m → (0 ≤ (F j).toInt ∧ (F j).toInt ≤ 287) ∧ (1 ≤ (L j).toInt ∧ (L j).toInt ≤ 20)) : ∀ (f k fu : Nat) (I : Iv), k + f = m → f < fu → I 9 0 = n3 k → I 5 = F → I 6 = L → ∃ I' : Iv, (∀ K : Int32 → Iv → Iv × Jv, fl_X3_copyFrom_33_1 J (n3 m) K fu (n3 k) I = K (n3 m) I') ∧ (∀ b, b ≠ 9 → b ≠ 10 → b ≠ 11 → b ≠ 12 → I' b = I b) ∧ I' 9 0 = n3 m ∧
      (∀ j, I' 10 j = (if k ≤ j ∧ j < m then F j else I 10 j)) ∧ (∀ j, I' 11 j = (if k ≤ j ∧ j < m then L j else I 11 j)) ∧ ∀ t, t < 288 → I' 12 t = (if (List.range' k f).any (opP F L t) = true then 1 else I 12 t)
  | f, k, 0, _, _, h, _, _, _ => absurd h (Nat.not_lt_zero _)
  | 0, k, fu + 1, I, hk, _, h9, _, _ => ⟨I, fun K => by
      rw [fl_X3_copyFrom_33_1.eq_2, if_pos (by rw [n3_le (by omega) (by omega)]; omega), show k = m by omega], fun _ _ _ _ _ => rfl, by rw [h9, show k = m by omega], fun j => by rw [if_neg (by omega)], fun j => by rw [if_neg (by omega)], fun t _ => by rw [show (List.range' k 0).any (opP F L t) = false from rfl, if_neg (by decide)]⟩
  | f + 1, k, fu + 1, I, hk, hf, h9, h5, h6 => by
    obtain ⟨⟨b1, b2⟩, b3', b4⟩ := hF k (by omega)
    have eF : F k = n3 (F k).toInt.toNat := by
      have := n3_of (x := F k) (Int32.le_iff_toInt_le.mpr (by rw [show (0 : Int32).toInt = 0 by decide]; exact b1))
      exact this
    have eL : L k = n3 (L k).toInt.toNat := by
      have := n3_of (x := L k) (Int32.le_iff_toInt_le.mpr (by rw [show (0 : Int32).toInt = 0 by decide]; omega))
      exact this
    have hp : (F k).toInt.toNat ≤ 287 := by omega
    have hq : 1 ≤ (L k).toInt.toNat ∧ (L k).toInt.toNat ≤ 20 := by omega
    generalize (F k).toInt.toNat = p at eF hp
    generalize (L k).toInt.toNat = q at eL hq
    have w10 : (wI (wI (wI I 10 k (F k)) 11 k (L k)) 9 0 (n3 (k + 1))) 10 k = n3 p := by
      rw [wI_row (by decide), wI_row (by decide), wI_self, eF]
    have w11 : (wI (wI (wI I 10 k (F k)) 11 k (L k)) 9 0 (n3 (k + 1))) 11 k = n3 q := by
      rw [wI_row (by decide), wI_self, eL]
    have hv : (if (wI (wI (wI I 10 k (F k)) 11 k (L k)) 9 0 (n3 (k + 1))) 10 k < (0 : Int32) then (0 : Int32) else (wI (wI (wI I 10 k (F k)) 11 k (L k)) 9 0 (n3 (k + 1))) 10 k) = n3 p := by
      rw [w10, if_neg (by rw [show (0 : Int32) = n3 0 from rfl, n3_lt (by omega) (by omega)]; omega)]
    have hMm : ∃ M, M ≤ p + q ∧ M ≤ 288 ∧ (M = p + q ∨ M = 288) ∧ p ≤ M := by
      by_cases z : p + q ≤ 288
      · exact ⟨p + q, by omega, z, Or.inl rfl, by omega⟩
      · exact ⟨288, by omega, by omega, Or.inr rfl, by omega⟩
    obtain ⟨M, M1, M2, M3, M4⟩ := hMm
    obtain ⟨I1, e1, r1, z1⟩ := m103v (J := J) (k := k) (by omega) hp hq.2 ⟨M1, M2, M3⟩ (M - p) p (mU 288 (n3 p) + 1) (wI (wI (wI I 10 k (F k)) 11 k (L k)) 9 0 (n3 (k + 1))) (by omega) (by
      unfold mU; rw [Int32.toInt_ofNat_of_lt (by omega), show (288 : Int32).toInt = 288 by decide]; omega) w10 w11
    have s5 : I1 5 = F := by rw [r1 5 (by decide), wI_row (by decide), wI_row (by decide), wI_row (by decide)]; exact h5
    have s6 : I1 6 = L := by rw [r1 6 (by decide), wI_row (by decide), wI_row (by decide), wI_row (by decide)]; exact h6
    obtain ⟨I', e, r2, q9, q10, q11, q12⟩ := c33v (J := J) hm hF f (k + 1) fu I1 (by omega) (by omega) (by rw [r1 9 (by decide), wI_self]) s5 s6
    have n12 : ¬ (12 : Int32) ≤ n3 k := by rw [show (12 : Int32) = n3 12 from rfl, n3_le (by omega) (by omega)]; omega
    refine ⟨I', fun K => ?_, fun b b1 b2 b3 b4 => ?_, q9, fun j => ?_, fun j => ?_, fun t ht => ?_⟩
    · rw [fl_X3_copyFrom_33_1.eq_2, if_neg (by rw [n3_le (by omega) (by omega)]; omega), if_neg n12, if_neg n12, if_neg n12, n3_tn (by omega), l_t, l_t, l_t, l_t, wI_row (show (6 : Nat) ≠ 10 by decide), n3_up, h5, h6, hv, e1, e]
    · rw [r2 b b1 b2 b3 b4, r1 b b4, wI_row b1, wI_row b3, wI_row b2]
    · rw [q10 j, r1 10 (by decide), wI_row (show (10 : Nat) ≠ 9 by decide), wI_row (show (10 : Nat) ≠ 11 by decide)]
      by_cases y : j = k
      · rw [y, if_neg (by omega), if_pos (by omega), wI_self]
      · rw [wI_ne (Or.inr y)]
        by_cases y2 : k + 1 ≤ j ∧ j < m
        · rw [if_pos y2, if_pos (by omega)]
        · rw [if_neg y2, if_neg (by omega)]
    · rw [q11 j, r1 11 (by decide), wI_row (show (11 : Nat) ≠ 9 by decide)]
      by_cases y : j = k
      · rw [y, if_neg (by omega), if_pos (by omega), wI_self]
      · rw [wI_ne (Or.inr y), wI_row (show (11 : Nat) ≠ 10 by decide)]
        by_cases y2 : k + 1 ≤ j ∧ j < m
        · rw [if_pos y2, if_pos (by omega)]
        · rw [if_neg y2, if_neg (by omega)]
    · rw [q12 t ht, z1 t ht, List.range'_succ, List.any_cons, opP_n ht hp hq eF eL, wI_row (show (12 : Nat) ≠ 9 by decide), wI_row (show (12 : Nat) ≠ 11 by decide), wI_row (show (12 : Nat) ≠ 10 by decide)]
      by_cases y : p ≤ t ∧ t < p + q
      · rw [if_pos y, decide_eq_true y, Bool.true_or, if_pos rfl]
        by_cases y2 : (List.range' (k + 1) f).any (opP F L t) = true
        · rw [if_pos y2]
        · rw [if_neg y2]
      · rw [if_neg y, decide_eq_false y, Bool.false_or]
theorem copyDv {m : Nat} {I : Iv} (J : Jv) (hm : m ≤ 12) (hF : ∀ j, j < m → (0 ≤ (I 5 j).toInt ∧ (I 5 j).toInt ≤ 287) ∧ (1 ≤ (I 6 j).toInt ∧ (I 6 j).toInt ≤ 20)) : ∃ I' : Iv, fn_X3_copyFrom (n3 m) I J = (I', J) ∧ (∀ b, b ≠ 9 → b ≠ 10 → b ≠ 11 → b ≠ 12 → I' b = I b) ∧ I' 9 0 = n3 m ∧ (∀ j, j < m → I' 10 j = I 5 j ∧ I' 11 j = I 6 j) ∧ ∀ t, t < 288 → I' 12 t = b3 (opB (I 5) (I 6) m t) := by
  obtain ⟨I1, e1, r1, z1⟩ := z288v (J := J) 288 0 (mU (288 : Int32) ((0 : Int32)) + 1) I rfl (by decide)
  have e1' : ∀ K : Int32 → Iv → Iv × Jv, fl_X3_copyFrom_3_0 J K (mU (288 : Int32) ((0 : Int32)) + 1) 0 I = K 288 I1 := e1
  obtain ⟨I2, e2, r2, q9, q10, q11, q12⟩ := c33v (J := J) (F := I 5) (L := I 6) hm hF m 0 (mU (n3 m) 0 + 1) (wI I1 9 0 0) (by omega) (by
    unfold mU; rw [Int32.toInt_ofNat_of_lt (by omega), show (0 : Int32).toInt = 0 by decide]; omega) wI_self (by rw [wI_row (by decide), r1 5 (by decide)]) (by rw [wI_row (by decide), r1 6 (by decide)])
  have e2' : ∀ K : Int32 → Iv → Iv × Jv, fl_X3_copyFrom_33_1 J (n3 m) K (mU (n3 m) 0 + 1) 0 (wI I1 9 0 0) = K (n3 m) I2 := e2
  unfold fn_X3_copyFrom
  rw [e1', l_t, e2']
  refine ⟨I2, rfl, fun b b1 b2 b3 b4 => by rw [r2 b b1 b2 b3 b4, wI_row b1, r1 b b4], q9, fun j hj => ⟨?_, ?_⟩, fun t ht => ?_⟩
  · rw [q10 j, if_pos ⟨Nat.zero_le _, hj⟩]
  · rw [q11 j, if_pos ⟨Nat.zero_le _, hj⟩]
  · rw [q12 t ht, wI_row (by decide), z1 t, if_pos (show 0 ≤ t ∧ t < 288 from ⟨Nat.zero_le _, ht⟩)]
    unfold opB
    cases (List.range' 0 m).any (opP (I 5) (I 6) t) <;> rfl
theorem any_rc {p q : Nat → Bool} : ∀ (f k : Nat), (∀ j, k ≤ j → j < k + f → p j = q j) → (List.range' k f).any p = (List.range' k f).any q
  | 0, k, _ => rfl
  | f + 1, k, h => by
    rw [List.range'_succ, List.any_cons, List.any_cons, h k (by omega) (by omega), any_rc f (k + 1) (fun j a b => h j (by omega) (by omega))]
theorem opB_c {F L F' L' : Nat → Int32} {m t : Nat} (h : ∀ j, j < m → F j = F' j ∧ L j = L' j) : opB F L m t = opB F' L' m t := by
  unfold opB
  refine any_rc m 0 (fun j _ hj => ?_)
  have := h j (by omega)
  unfold opP
  rw [this.1, this.2]
