/-! ===== DRAWS ===== -/
theorem and31 (y : Int64) (h : 0 ≤ y.toInt) : (y &&& 2147483647).toInt = y.toInt % 2147483648 := by
  have e : (y &&& 2147483647).toBitVec.toNat = y.toBitVec.toNat % 2147483648 := by
    rw [Int64.toBitVec_and, BitVec.toNat_and, show (Int64.toBitVec 2147483647).toNat = 2 ^ 31 - 1 by decide, Nat.and_two_pow_sub_one_eq_mod]
  have h1 : y.toBitVec.toInt = y.toInt := rfl
  have h2 : (y &&& 2147483647).toBitVec.toInt = (y &&& 2147483647).toInt := rfl
  have h3 := BitVec.toInt_eq_toNat_cond y.toBitVec
  have h4 := BitVec.toInt_eq_toNat_cond (y &&& 2147483647).toBitVec
  rw [h1] at h3
  rw [h2, e] at h4
  have h5 := y.toBitVec.isLt
  rw [h4]
  split at h3
  · rw [if_pos (by omega)]; omega
  · omega
/-- the seed behind a draw, and the draw of 288 -/
def nxS (s : Int32) : Int32 := ((s.toInt64 * 1103515245 + 12345) &&& 2147483647).toInt32
def dwN (s : Int32) : Nat := (nxS s).toInt.toNat / 65536 % 288
theorem md31 {z : Int} (h0 : 0 ≤ z) : 0 ≤ z % 2147483648 ∧ z % 2147483648 ≤ 2147483647 ∧ 0 ≤ z / 2147483648 * 2147483648 ∧ z / 2147483648 * 2147483648 ≤ z ∧ z % 2147483648 = z - z / 2147483648 * 2147483648 := by
  have h1 := Int.emod_nonneg z (show (2147483648 : Int) ≠ 0 by decide)
  have h2 := Int.emod_lt_of_pos z (show (0 : Int) < 2147483648 by decide)
  have h3 := Int.mul_ediv_add_emod z 2147483648
  have h4 : 0 ≤ z / 2147483648 := Int.ediv_nonneg h0 (by decide)
  rw [Int.mul_comm] at h3
  generalize z / 2147483648 = q at *
  generalize z % 2147483648 = r at *
  omega
theorem nx_a (x : Int64) (z : Int) (e : x.toInt = z) (h0 : 0 ≤ z) (h1 : z ≤ 4000000000000000000) : 0 ≤ ((x &&& 2147483647).toInt32).toInt ∧ ((x &&& 2147483647).toInt32).toInt64 = x - x / 2147483648 * 2147483648 := by
  have c3 : (2147483648 : Int64).toInt = 2147483648 := by decide
  have a := and31 x (by rw [e]; exact h0)
  rw [e] at a
  have d : (x / 2147483648).toInt = z / 2147483648 := by rw [i6_div (by decide), e, c3, Int.tdiv_eq_ediv_of_nonneg h0]
  obtain ⟨r1, r2, q1, q2, q3⟩ := md31 h0
  generalize z % 2147483648 = rr at *
  generalize z / 2147483648 = qq at *
  have t : ((x &&& 2147483647).toInt32).toInt = rr := by rw [sd6 (by rw [a]; omega) (by rw [a]; omega), a]
  refine ⟨by rw [t]; exact r1, wd6_eq ?_⟩
  have q : (x / 2147483648 * 2147483648).toInt = qq * 2147483648 := by rw [i6_mul (by rw [d, c3]; omega) (by rw [d, c3]; omega), d, c3]
  rw [t, i6_sub (by rw [e, q]; omega) (by rw [e, q]; omega), e, q]; exact q3
theorem nx_b {s : Int32} (h : 0 ≤ s.toInt) : 0 ≤ (nxS s).toInt ∧ (nxS s).toInt64 = (s.toInt64 * 1103515245 + 12345) - (s.toInt64 * 1103515245 + 12345) / 2147483648 * 2147483648 := by
  have r := i3_rng s
  have c1 : (1103515245 : Int64).toInt = 1103515245 := by decide
  have c2 : (12345 : Int64).toInt = 12345 := by decide
  have m : (s.toInt64 * 1103515245).toInt = s.toInt * 1103515245 := by rw [i6_mul (by rw [wd6, c1]; omega) (by rw [wd6, c1]; omega), wd6, c1]
  have y : (s.toInt64 * 1103515245 + 12345).toInt = s.toInt * 1103515245 + 12345 := by rw [i6_add (by rw [m, c2]; omega) (by rw [m, c2]; omega), m, c2]
  exact nx_a (s.toInt64 * 1103515245 + 12345) _ y (by omega) (by omega)
theorem dw_k {z : Int} (h : 0 ≤ z) : z / 65536 - z / 65536 / 288 * 288 = ((z.toNat / 65536 % 288 : Nat) : Int) := by omega
theorem dw_lt (s : Int32) : dwN s < 288 := Nat.mod_lt _ (by decide)
theorem dw_3 {s : Int32} (h : 0 ≤ s.toInt) : nxS s / 65536 - nxS s / 65536 / 288 * 288 = n3 (dwN s) ∧ ((nxS s).toInt64 / 65536 - (nxS s).toInt64 / 65536 / 288 * 288).toInt32 = n3 (dwN s) := by
  have b := (nx_b h).1
  have r := i3_rng (nxS s)
  have c6 : (65536 : Int32).toInt = 65536 := by decide
  have k6 : (65536 : Int32).toInt64 = 65536 := by decide
  have e288 : (288 : Int32).toInt64 = 288 := by decide
  have d1 : (nxS s / 65536).toInt = (nxS s).toInt / 65536 := by rw [i3_div (by decide), c6, Int.tdiv_eq_ediv_of_nonneg b]
  have d2 : (nxS s / 65536 / 288).toInt = (nxS s).toInt / 65536 / 288 := by rw [i3_div (by decide), d1, c288, Int.tdiv_eq_ediv_of_nonneg (by omega)]
  have d3 : (nxS s / 65536 / 288 * 288).toInt = (nxS s).toInt / 65536 / 288 * 288 := by rw [i3_mul (by rw [d2, c288]; omega) (by rw [d2, c288]; omega), d2, c288]
  have e : nxS s / 65536 - nxS s / 65536 / 288 * 288 = n3 (dwN s) := by
    apply Int32.toInt_inj.mp
    have hl := dw_lt s
    rw [i3_sub (by rw [d1, d3]; omega) (by rw [d1, d3]; omega), d1, d3, Int32.toInt_ofNat_of_lt (by omega)]
    exact dw_k b
  refine ⟨e, ?_⟩
  rw [← e, ← k6, ← e288, ← wd6_div (by decide), ← wd6_div (by decide), ← wd6_mul (by rw [d2, c288]; omega) (by rw [d2, c288]; omega), ← wd6_sub (by rw [d1, d3]; omega) (by rw [d1, d3]; omega), wsd6]
theorem drawC {I : Iv} (J : Jv) (h : 0 ≤ (I 16 13).toInt) : fn_X6_draw 16 288 I J = (n3 (dwN (I 16 13)), wI I 16 13 (nxS (I 16 13)), J) := by
  unfold fn_X6_draw
  rw [l_t, if_neg (show ¬ (288 : Int32) ≤ 0 by decide), wI_self]
  show (nxS (I 16 13) / 65536 - nxS (I 16 13) / 65536 / 288 * 288, wI I 16 13 (nxS (I 16 13)), J) = _
  rw [(dw_3 h).1]
theorem drawR {s : Int32} {A : Iv} (B : Jv) (h : 0 ≤ s.toInt) (e : B 79 70 = s.toInt64) : fn_X10_draw 288 A B = (n3 (dwN s), A, wJ B 79 70 (nxS s).toInt64) := by
  unfold fn_X10_draw
  rw [e, ← (nx_b h).2, l_t, wJ_self, show (288 : Int32).toInt64 = 288 by decide, (dw_3 h).2]
/-- the doors of a DAY by draws: the row of the class, that of the reference -/
def DRw (I A : Iv) : Prop := ∀ t, t < 288 → ∃ b : Bool, I 44 t = b3 b ∧ A 89 t = b3 b
theorem dzC {J : Jv} : ∀ (f k fu : Nat) (I : Iv), k + f = 288 → f < fu → ∃ I' : Iv, (∀ K : Int32 → Iv → Iv × Jv, fl_X9_drawDoor_2_0 J K fu (n3 k) I = K 288 I') ∧ (∀ b, b ≠ 44 → I' b = I b) ∧ ∀ j, j < 288 → I' 44 j = (if k ≤ j then 0 else I 44 j)
  | f, k, 0, _, _, h => absurd h (Nat.not_lt_zero _)
  | 0, k, fu + 1, I, hk, _ => ⟨I, fun K => by
      rw [fl_X9_drawDoor_2_0.eq_2, if_pos (by rw [show (288 : Int32) = n3 288 from rfl, n3_le (by omega) (by omega)]; omega), show k = 288 by omega]; rfl, fun _ _ => rfl, fun j hj => by rw [if_neg (by omega)]⟩
  | f + 1, k, fu + 1, I, hk, hf => by
    obtain ⟨I', e, r1, r2⟩ := dzC (J := J) f (k + 1) fu (wI I 44 k 0) (by omega) (by omega)
    refine ⟨I', fun K => ?_, fun b h => by rw [r1 b h, wI_row h], fun j hj => ?_⟩
    · rw [fl_X9_drawDoor_2_0.eq_2, if_neg (by rw [show (288 : Int32) = n3 288 from rfl, n3_le (by omega) (by omega)]; omega), n3_tn (by omega), l_t, n3_up]
      exact e K
    · rw [r2 j hj]
      by_cases q : j = k
      · rw [q, if_neg (by omega), if_pos (by omega), wI_self]
      · rw [wI_ne (Or.inr q)]
        by_cases q2 : k + 1 ≤ j
        · rw [if_pos q2, if_pos (by omega)]
        · rw [if_neg q2, if_neg (by omega)]
theorem dzR {J : Jv} : ∀ (f k fu : Nat) (I : Iv), k + f = 288 → f < fu → ∃ I' : Iv, (∀ K : Int32 → Iv → Iv × Jv, fl_X10_drawDay_2_0 J K fu (n3 k) I = K 288 I') ∧ (∀ b, b ≠ 89 → I' b = I b) ∧ ∀ j, j < 288 → I' 89 j = (if k ≤ j then 0 else I 89 j)
  | f, k, 0, _, _, h => absurd h (Nat.not_lt_zero _)
  | 0, k, fu + 1, I, hk, _ => ⟨I, fun K => by
      rw [fl_X10_drawDay_2_0.eq_2, if_pos (by rw [show (288 : Int32) = n3 288 from rfl, n3_le (by omega) (by omega)]; omega), show k = 288 by omega]; rfl, fun _ _ => rfl, fun j hj => by rw [if_neg (by omega)]⟩
  | f + 1, k, fu + 1, I, hk, hf => by
    obtain ⟨I', e, r1, r2⟩ := dzR (J := J) f (k + 1) fu (wI I 89 k 0) (by omega) (by omega)
    refine ⟨I', fun K => ?_, fun b h => by rw [r1 b h, wI_row h], fun j hj => ?_⟩
    · rw [fl_X10_drawDay_2_0.eq_2, if_neg (by rw [show (288 : Int32) = n3 288 from rfl, n3_le (by omega) (by omega)]; omega), n3_tn (by omega), l_t, n3_up]
      exact e K
    · rw [r2 j hj]
      by_cases q : j = k
      · rw [q, if_neg (by omega), if_pos (by omega), wI_self]
      · rw [wI_ne (Or.inr q)]
        by_cases q2 : k + 1 ≤ j
        · rw [if_pos q2, if_pos (by omega)]
        · rw [if_neg q2, if_neg (by omega)]
/-- the seeds drawn: what both leave -/
def DFr (I I' : Iv) (s' : Int32) : Prop := (∀ b, b ≠ 44 → b ≠ 16 → I' b = I b) ∧ (∀ k, k ≠ 13 → I' 16 k = I 16 k) ∧ I' 16 13 = s'
theorem dd_b {m : Nat} (hm : m ≤ 20) : ∀ (f k fc fr : Nat) (I A : Iv) (J B : Jv), k + f = m → f < fc → f < fr → 0 ≤ (I 16 13).toInt → B 79 70 = (I 16 13).toInt64 → DRw I A →
    ∃ (I' A' : Iv) (B' : Jv), (∀ K : Int32 → Iv → Jv → Iv × Jv, fl_X9_drawDoor_24_1 (n3 m) K fc (n3 k) I J = K (n3 m) I' J) ∧ (∀ K : Int32 → Iv → Jv → Iv × Jv, fl_X10_drawDay_24_1 (n3 m) K fr (n3 k) A B = K (n3 m) A' B') ∧ DRw I' A' ∧ (∀ b, b ≠ 44 → b ≠ 16 → I' b = I b) ∧ (∀ k, k ≠ 13 → I' 16 k = I 16 k) ∧ 0 ≤ (I' 16 13).toInt ∧ B' 79 70 = (I' 16 13).toInt64 ∧ (∀ b, b ≠ 89 → A' b = A b) ∧ (∀ r, r ≠ 79 → B' r = B r) ∧ ∀ j, j ≠ 70 → B' 79 j = B 79 j
  | f, k, 0, _, _, _, _, _, _, h, _, _, _, _ => absurd h (Nat.not_lt_zero _)
  | f, k, _ + 1, 0, _, _, _, _, _, _, h, _, _, _ => absurd h (Nat.not_lt_zero _)
  | 0, k, fc + 1, fr + 1, I, A, J, B, hk, _, _, h1, h2, h3 => by
    refine ⟨I, A, B, fun K => ?_, fun K => ?_, h3, fun _ _ _ => rfl, fun _ _ => rfl, h1, h2, fun _ _ => rfl, fun _ _ => rfl, fun _ _ => rfl⟩
    · rw [fl_X9_drawDoor_24_1.eq_2, if_pos (by rw [n3_le (by omega) (by omega)]; omega), show k = m by omega]
    · rw [fl_X10_drawDay_24_1.eq_2, if_pos (by rw [n3_le (by omega) (by omega)]; omega), show k = m by omega]
  | f + 1, k, fc + 1, fr + 1, I, A, J, B, hk, hfc, hfr, h1, h2, h3 => by
    have hl := dw_lt (I 16 13)
    have nb := (nx_b h1).1
    have i13 : wI (wI I 16 13 (nxS (I 16 13))) 44 (dwN (I 16 13)) 1 16 13 = nxS (I 16 13) := by rw [wI_row (by decide), wI_self]
    obtain ⟨I', A', B', e1, e2, r1, r2, r3, r4, r5, r6, r7, r8⟩ := dd_b (m := m) hm f (k + 1) fc fr (wI (wI I 16 13 (nxS (I 16 13))) 44 (dwN (I 16 13)) 1) (wI A 89 (dwN (I 16 13)) 1) J (wJ B 79 70 (nxS (I 16 13)).toInt64) (by omega) (by omega) (by omega) (by rw [i13]; exact nb) (by rw [i13, wJ_self]) (fun t ht => by
      by_cases z : t = dwN (I 16 13)
      · rw [z]; exact ⟨true, by rw [wI_self]; rfl, by rw [wI_self]; rfl⟩
      · obtain ⟨b, b1, b2⟩ := h3 t ht
        exact ⟨b, by rw [wI_ne (Or.inr z), wI_row (by decide)]; exact b1, by rw [wI_ne (Or.inr z)]; exact b2⟩)
    refine ⟨I', A', B', fun K => ?_, fun K => ?_, r1, fun b x y => by rw [r2 b x y, wI_row x, wI_row y], fun j hj => by rw [r3 j hj, wI_row (by decide), wI_ne (Or.inr hj)], r4, r5, fun b hb => by rw [r6 b hb, wI_row hb], fun r hr => by rw [r7 r hr, wJ_row hr], fun j hj => by rw [r8 j hj, wJ_ne (Or.inr hj)]⟩
    · rw [fl_X9_drawDoor_24_1.eq_2, if_neg (by rw [n3_le (by omega) (by omega)]; omega), drawC J h1, b_n3_mk, if_neg (n3_no0 (by omega)), if_neg (by rw [show (288 : Int32) = n3 288 from rfl, n3_le (by omega) (by omega)]; omega), n3_tn (by omega), l_t, n3_up]
      exact e1 K
    · rw [fl_X10_drawDay_24_1.eq_2, if_neg (by rw [n3_le (by omega) (by omega)]; omega), drawR B h1 h2, b_n3_mk, n3_tn (by omega), l_t, n3_up]
      exact e2 K
theorem door_b {m : Nat} {I A : Iv} {J B : Jv} (hm : m ≤ 20) (h1 : 0 ≤ (I 16 13).toInt) (h2 : B 79 70 = (I 16 13).toInt64) : ∃ (I' A' : Iv) (B' : Jv), fn_X9_drawDoor (n3 m) I J = (I', J) ∧ fn_X10_drawDay (n3 m) A B = (A', B') ∧ DRw I' A' ∧ (∀ b, b ≠ 44 → b ≠ 16 → I' b = I b) ∧ (∀ k, k ≠ 13 → I' 16 k = I 16 k) ∧ 0 ≤ (I' 16 13).toInt ∧ B' 79 70 = (I' 16 13).toInt64 ∧ (∀ b, b ≠ 89 → A' b = A b) ∧ (∀ r, r ≠ 79 → B' r = B r) ∧ ∀ j, j ≠ 70 → B' 79 j = B 79 j := by
  obtain ⟨I0, c1, c2, c3⟩ := dzC (J := J) 288 0 (mU (288 : Int32) ((0 : Int32)) + 1) I rfl (by decide)
  have c1' : ∀ K : Int32 → Iv → Iv × Jv, fl_X9_drawDoor_2_0 J K (mU (288 : Int32) ((0 : Int32)) + 1) 0 I = K 288 I0 := c1
  obtain ⟨A0, d1, d2, d3⟩ := dzR (J := B) 288 0 (mU (288 : Int32) ((0 : Int32)) + 1) A rfl (by decide)
  have d1' : ∀ K : Int32 → Iv → Iv × Jv, fl_X10_drawDay_2_0 B K (mU (288 : Int32) ((0 : Int32)) + 1) 0 A = K 288 A0 := d1
  have i16 : I0 16 = I 16 := c2 16 (by decide)
  have fm : mU (n3 m) 0 + 1 = m + 1 := mU_n (by omega)
  obtain ⟨I', A', B', e1, e2, r1, r2, r3, r4, r5, r6, r7, r8⟩ := dd_b (m := m) hm m 0 (m + 1) (m + 1) I0 A0 J B (by omega) (by omega) (by omega) (by rw [i16]; exact h1) (by rw [i16]; exact h2) (fun t ht => ⟨false, by rw [c3 t ht, if_pos (Nat.zero_le _)]; rfl, by rw [d3 t ht, if_pos (Nat.zero_le _)]; rfl⟩)
  refine ⟨I', A', B', ?_, ?_, r1, fun b x y => by rw [r2 b x y, c2 b x], fun j hj => by rw [r3 j hj, i16], r4, r5, fun b hb => by rw [r6 b hb, d2 b hb], r7, r8⟩
  · unfold fn_X9_drawDoor
    rw [c1', fm]; exact e1 _
  · unfold fn_X10_drawDay
    rw [d1', fm]; exact e2 _
theorem j_dr {β : Type} {c1 c2 : Prop} [Decidable c1] [Decidable c2] {I I' : Iv} {J J' : Jv} (Kf : Iv → Jv → β) : j_n Kf (fun (j : Iv → Jv → β) => j_n (b_n2 (I', J') (fun (a : Iv) (b : Jv) => j a b)) (fun (j2 : β) => if c1 then j2 else if c2 then j2 else j I J)) = Kf (if c1 ∨ c2 then (I', J') else (I, J)).1 (if c1 ∨ c2 then (I', J') else (I, J)).2 := by
  simp only [j_n, b_n2]
  by_cases q1 : c1
  · rw [if_pos q1, if_pos (Or.inl q1)]
  · rw [if_neg q1]
    by_cases q2 : c2
    · rw [if_pos q2, if_pos (Or.inr q2)]
    · rw [if_neg q2, if_neg (by rintro (z | z); exact q1 z; exact q2 z)]
