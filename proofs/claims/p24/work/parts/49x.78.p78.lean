/-! ===== feed ===== -/
def chC (b : Int64) (x : Int32) : Int32 := ((Int32.toUInt32 (Int64.toInt32 ((b.toUInt64 >>> (((8 : Int32) * x).toInt64.toUInt64 &&& Int64.toUInt64 63)).toInt64 &&& (255 : Int64))) % 65536).toInt32)
def chR (b : Int64) (x : Int32) : Int32 := Int64.toInt32 ((b >>> (((8 : Int32) * x).toInt64 &&& 63)) &&& (255 : Int64))
theorem lsb255 : ∀ i : Fin 64, (255#64).getLsbD i.val = decide (i.val < 8) := by decide +kernel
theorem low8 (w : Int64) : ((Int32.toUInt32 (Int64.toInt32 (w &&& 255)) % 65536).toInt32) = Int64.toInt32 (w &&& 255) ∧ 0 ≤ Int64.toInt32 (w &&& 255) := by
  have hb : (Int64.toInt32 (w &&& 255)).toBitVec.toNat ≤ 255 := by
    rw [Int64.toBitVec_toInt32, BitVec.signExtend_eq_setWidth_of_le _ (by decide), BitVec.toNat_setWidth, Int64.toBitVec_and]
    have : (w.toBitVec &&& (255 : Int64).toBitVec).toNat ≤ 255 := by
      rw [BitVec.toNat_and, show ((255 : Int64).toBitVec).toNat = 255 by decide]; exact Nat.and_le_right
    exact Nat.le_trans (Nat.mod_le _ _) this
  generalize Int64.toInt32 (w &&& 255) = y at *
  refine ⟨?_, ?_⟩
  · have e : y.toUInt32 % 65536 = y.toUInt32 := by
      apply UInt32.toNat_inj.mp
      rw [UInt32.toNat_mod]
      refine Nat.mod_eq_of_lt ?_
      have : y.toUInt32.toNat = y.toBitVec.toNat := rfl
      rw [this, show (65536 : UInt32).toNat = 65536 by decide]; omega
    rw [e]; rfl
  · rw [Int32.le_iff_toInt_le, show (0 : Int32).toInt = 0 by decide]
    show 0 ≤ y.toBitVec.toInt
    rw [BitVec.toInt_eq_toNat_of_lt (by omega)]; omega
theorem sh_u : ∀ i : Fin 8, (((8 : Int32) * n3 i.val).toInt64.toUInt64 &&& Int64.toUInt64 63).toBitVec.toNat % 64 = 8 * i.val := by decide +kernel
theorem sh_s : ∀ i : Fin 8, (((8 : Int32) * n3 i.val).toInt64 &&& 63).toBitVec.smod 64#64 = BitVec.ofNat 64 (8 * i.val) := by decide +kernel
theorem ch_eq (b : Int64) {m : Nat} (hm : m < 8) : chC b (n3 m) = chR b (n3 m) ∧ 0 ≤ chR b (n3 m) := by
  unfold chC chR
  have e : (b.toUInt64 >>> (((8 : Int32) * n3 m).toInt64.toUInt64 &&& Int64.toUInt64 63)).toInt64 &&& (255 : Int64) = (b >>> (((8 : Int32) * n3 m).toInt64 &&& 63)) &&& (255 : Int64) := by
    have hu := sh_u ⟨m, hm⟩
    have hs := sh_s ⟨m, hm⟩
    simp only at hu hs
    apply Int64.toBitVec_inj.mp
    rw [Int64.toBitVec_and, Int64.toBitVec_and, Int64.toBitVec_shiftRight]
    apply BitVec.eq_of_getLsbD_eq
    intro i hi
    rw [BitVec.getLsbD_and, BitVec.getLsbD_and]
    have h255 := lsb255 ⟨i, hi⟩
    simp only at h255
    rw [show (255 : Int64).toBitVec = 255#64 by decide, h255]
    by_cases q : i < 8
    · rw [decide_eq_true q, Bool.and_true, Bool.and_true]
      have l1 : ((b.toUInt64 >>> (((8 : Int32) * n3 m).toInt64.toUInt64 &&& Int64.toUInt64 63)).toInt64).toBitVec = b.toBitVec >>> (8 * m) := by
        show (b.toUInt64 >>> (((8 : Int32) * n3 m).toInt64.toUInt64 &&& Int64.toUInt64 63)).toBitVec = _
        rw [UInt64.toBitVec_shiftRight]
        show b.toBitVec >>> _ = _
        rw [BitVec.ushiftRight_eq', BitVec.toNat_umod, show (64 : BitVec 64).toNat = 64 by decide, hu]
      have e3 : (((8 : Int32) * n3 m).toInt64 &&& 63).toBitVec.smod 64 = BitVec.ofNat 64 (8 * m) := hs
      have e4 : (BitVec.ofNat 64 (8 * m)).toNat = 8 * m := by rw [BitVec.toNat_ofNat]; omega
      rw [l1, e3, BitVec.sshiftRight_eq', e4, BitVec.getLsbD_sshiftRight, BitVec.getLsbD_ushiftRight]
      simp [show ¬ 64 ≤ i by omega, show 8 * m + i < 64 by omega]
    · rw [decide_eq_false q, Bool.and_false, Bool.and_false]
  rw [e]
  exact low8 _
def fdT (b : Int64) : Nat → Nat → (Nat → Int32) → (Nat → Int32)
  | 0, _, T => T
  | m + 1, L, T => fdT b m (L + 1) (up T L (chR b (n3 m)))
theorem fdT_0 (b : Int64) : ∀ (m L : Nat) (T : Nat → Int32), m ≤ 8 → (∀ k, 0 ≤ T k) → ∀ k, 0 ≤ fdT b m L T k
  | 0, _, _, _, h, k => h k
  | m + 1, L, T, hm, h, k => by
    refine fdT_0 b m (L + 1) _ (by omega) (fun j => ?_) k
    unfold up
    by_cases q : j = L
    · rw [if_pos q]; exact (ch_eq b (by omega)).2
    · rw [if_neg q]; exact h j
theorem xm1 {x : Int32} (h : x + 1 = n3 0) : x = -1 := by
  have h1 : x + 1 = 0 := h
  grind
theorem xms {x : Int32} {m : Nat} (h : x + 1 = n3 (m + 1)) : x = n3 m := by
  rw [← n3_up] at h
  grind
theorem xmn {m : Nat} : n3 m + (-1) + 1 = n3 m := by grind
theorem apC {J : Jv} {b : Int64} : ∀ (m L fu : Nat) (x : Int32) (I : Iv), x + 1 = n3 m → m ≤ 8 → L + m ≤ 300 → m < fu → I 1 1 = n3 L →
    ∃ I' : Iv, (∀ K : Int32 → Iv → Int32 × Iv × Jv, fl_X5_append_19_0 J b K fu x I = K (-1) I') ∧ I' 2 = fdT b m L (I 2) ∧ I' 1 1 = n3 (L + m) ∧ (∀ r, r ≠ 1 → r ≠ 2 → I' r = I r) ∧ ∀ k, k ≠ 1 → I' 1 k = I 1 k
  | m, L, 0, _, _, _, _, _, h, _ => absurd h (Nat.not_lt_zero _)
  | 0, L, fu + 1, x, I, hx, _, _, _, h1 => by
    have := xm1 hx
    subst this
    exact ⟨I, fun K => by rw [fl_X5_append_19_0.eq_2, if_pos (by decide)], rfl, h1, fun _ _ _ => rfl, fun _ _ => rfl⟩
  | m + 1, L, fu + 1, x, I, hx, hm, hL, hf, h1 => by
    have := xms hx
    subst this
    have ce := (ch_eq b (m := m) (by omega)).1
    unfold chC at ce
    obtain ⟨I', e, t, l, r, k⟩ := apC (J := J) (b := b) m (L + 1) fu (n3 m + (-1)) (wI (wI I 1 1 (n3 (L + 1))) 2 L (chR b (n3 m))) xmn (by omega) (by omega) (by omega) (by rw [wI_ne (by omega), wI_self])
    refine ⟨I', fun K => ?_, ?_, by rw [l]; congr 1; omega, fun q q1 q2 => by rw [r q q1 q2, wI_row q2, wI_row q1], fun j hj => by rw [k j hj, wI_ne (by omega), wI_ne (Or.inr hj)]⟩
    · rw [fl_X5_append_19_0.eq_2, if_neg (by rw [show (0 : Int32) = n3 0 from rfl, n3_lt (by omega) (by omega)]; omega), if_neg (by rw [h1, show (300 : Int32) = n3 300 from rfl, n3_le (by omega) (by omega)]; omega), l_t, l_t, h1, n3_up, n3_tn (by omega), ce]
      exact e K
    · rw [t, wI_up, wI_row (by decide)]; rfl
theorem apR {J : Jv} {b : Int64} : ∀ (m L fu : Nat) (x : Int32) (I : Iv), x + 1 = n3 m → m ≤ 8 → L + m ≤ 300 → m < fu → I 78 11 = n3 L →
    ∃ I' : Iv, (∀ K : Int32 → Iv → Int32 × Iv × Jv, fl_X10_feed_35_0 J b K fu x I = K (-1) I') ∧ I' 87 = fdT b m L (I 87) ∧ I' 78 11 = n3 (L + m) ∧ (∀ r, r ≠ 78 → r ≠ 87 → I' r = I r) ∧ ∀ k, k ≠ 11 → I' 78 k = I 78 k
  | m, L, 0, _, _, _, _, _, h, _ => absurd h (Nat.not_lt_zero _)
  | 0, L, fu + 1, x, I, hx, _, _, _, h1 => by
    have := xm1 hx
    subst this
    exact ⟨I, fun K => by rw [fl_X10_feed_35_0.eq_2, if_pos (by decide)], rfl, h1, fun _ _ _ => rfl, fun _ _ => rfl⟩
  | m + 1, L, fu + 1, x, I, hx, hm, hL, hf, h1 => by
    have := xms hx
    subst this
    obtain ⟨I', e, t, l, r, k⟩ := apR (J := J) (b := b) m (L + 1) fu (n3 m + (-1)) (wI (wI I 87 L (chR b (n3 m))) 78 11 (n3 (L + 1))) xmn (by omega) (by omega) (by omega) wI_self
    refine ⟨I', fun K => ?_, ?_, by rw [l]; congr 1; omega, fun q q1 q2 => by rw [r q q1 q2, wI_row q1, wI_row q2], fun j hj => by rw [k j hj, wI_ne (Or.inr hj), wI_row (by decide)]⟩
    · rw [fl_X10_feed_35_0.eq_2, if_neg (by rw [show (0 : Int32) = n3 0 from rfl, n3_lt (by omega) (by omega)]; omega), l_t, l_t, wI_row (show (78 : Nat) ≠ 87 by decide), h1, n3_up, n3_tn (by omega)]
      exact e K
    · rw [t, wI_row (by decide), wI_up]; rfl
theorem cp_feed {n v1 v2 : Int32} {b : Int64} {I I1 I2 : Iv} {J J1 J2 : Jv} (h : CP I) (e1 : fn_X9_feed n b I J = (v1, I1, J1)) (e2 : fn_X10_feed n b I1 J1 = (v2, I2, J2)) : v1 = v2 ∧ CP I2 := by
  have hh := h
  obtain ⟨⟨h1, h2, h3⟩, h4, h5, h6, L, L1, L2⟩ := hh
  unfold fn_X9_feed at e1
  unfold fn_X10_feed at e2
  rw [fX10_in3 _ _ _ 1 8 (by decide) (by decide), b_n3_mk] at e2
  by_cases q1 : n < 1
  · rw [if_pos q1] at e1
    rw [if_pos (b3_0.mpr (decide_eq_false (fun z => absurd z.1 (Int32.not_le.mpr q1))))] at e2
    cases e1; cases e2; exact ⟨rfl, h⟩
  · rw [if_neg q1] at e1
    by_cases q2 : n ≤ 8
    · rw [if_pos q2] at e1
      rw [if_neg (show ¬ b3 (decide (1 ≤ n ∧ n ≤ 8)) = 0 by rw [decide_eq_true (show 1 ≤ n ∧ n ≤ 8 from ⟨Int32.not_lt.mp q1, q2⟩)]; decide)] at e2
      obtain ⟨m, rfl, m1, m8⟩ : ∃ m : Nat, n = n3 m ∧ 1 ≤ m ∧ m ≤ 8 := by
        have a := Int32.le_iff_toInt_le.mp (Int32.not_lt.mp q1)
        have c := Int32.le_iff_toInt_le.mp q2
        rw [show (1 : Int32).toInt = 1 by decide] at a
        rw [show (8 : Int32).toInt = 8 by decide] at c
        have p0 : (0 : Int32) ≤ n := by rw [Int32.le_iff_toInt_le, show (0 : Int32).toInt = 0 by decide]; omega
        have e := n3_of p0
        refine ⟨n.toNatClampNeg, e, ?_, ?_⟩ <;> (unfold Int32.toNatClampNeg; omega)
      have fm : mD (n3 m - 1) + 1 = m + 1 := by
        rw [show (1 : Int32) = n3 1 from rfl, n3_sub m1]
        unfold mD; rw [Int32.toInt_ofNat_of_lt (by omega)]; omega
      have hx : n3 m - 1 + 1 = n3 m := by grind
      unfold fn_X5_append at e1
      by_cases q3 : L + m ≤ 300
      · rw [if_pos (by rw [L2, show (300 : Int32) = n3 300 from rfl, n3_sub L1, n3_le (by omega) (by omega)]; omega), l_t, fm] at e1
        obtain ⟨A, ea, ta, la, ra, ka⟩ := apC (J := J) (b := b) m L (m + 1) (n3 m - 1) I hx m8 q3 (by omega) L2
        rw [ea, b_n3_mk, if_neg (by decide)] at e1
        cases e1
        have a11 : I1 78 11 = n3 L := by rw [ra 78 (by decide) (by decide), ← h2, L2]
        rw [if_pos (by rw [a11, n3_add, show (300 : Int32) = n3 300 from rfl, n3_le (by omega) (by omega)]; exact q3), l_t, fm] at e2
        obtain ⟨B, eb, tb, lb, rb, kb⟩ := apR (b := b) m L (m + 1) (n3 m - 1) I1 hx m8 q3 (by omega) a11
        rw [eb] at e2
        cases e2
        refine ⟨by rw [la, lb], ⟨?_, ?_, ?_⟩, fun j hj => ?_, ?_, fun k => ?_, L + m, q3, ?_⟩
        · rw [rb 2 (by decide) (by decide), ta, tb, ra 87 (by decide) (by decide), h1]
        · rw [rb 1 (by decide) (by decide), la, lb]
        · rw [rb 1 (by decide) (by decide), ka 4 (by decide), kb 16 (by decide), ra 78 (by decide) (by decide)]; exact h3
        · unfold B81
          rw [rb 8 (by decide) (by decide), ra 8 (by decide) (by decide), kb 2 (by decide), ra 78 (by decide) (by decide), rb 81 (by decide) (by decide), ra 81 (by decide) (by decide)]; exact h4 j hj
        · rw [rb 9 (by decide) (by decide), ra 9 (by decide) (by decide), kb 5 (by decide), ra 78 (by decide) (by decide), rb 10 (by decide) (by decide), ra 10 (by decide) (by decide), rb 11 (by decide) (by decide), ra 11 (by decide) (by decide), rb 83 (by decide) (by decide), ra 83 (by decide) (by decide), rb 84 (by decide) (by decide), ra 84 (by decide) (by decide)]; exact h5
        · rw [rb 2 (by decide) (by decide), ta]; exact fdT_0 b m L _ m8 h6 k
        · rw [rb 1 (by decide) (by decide), la]
      · rw [if_neg (by rw [L2, show (300 : Int32) = n3 300 from rfl, n3_sub L1, n3_le (by omega) (by omega)]; omega), b_n3_mk, if_pos rfl] at e1
        cases e1
        rw [if_neg (by rw [← h2, L2, n3_add, show (300 : Int32) = n3 300 from rfl, n3_le (by omega) (by omega)]; exact q3)] at e2
        cases e2; exact ⟨rfl, h⟩
    · rw [if_neg q2] at e1
      rw [if_pos (b3_0.mpr (decide_eq_false (fun z => q2 z.2)))] at e2
      cases e1; cases e2; exact ⟨rfl, h⟩
/-! ===== box and day: equal answers ===== -/
theorem cp_box {v1 v2 : Int32} {I I1 I2 : Iv} {J J1 J2 : Jv} (h : CP I) (e1 : fn_X9_box I J = (v1, I1, J1)) (e2 : fn_X10_box I1 J1 = (v2, I2, J2)) : v1 = v2 ∧ CP I2 := by
  obtain ⟨⟨h1, h2, h3⟩, h4, ⟨m, m1, m2, m3, m4⟩, h6, n, n1, n2⟩ := h
  obtain ⟨A, JA, ea, a1, a2, a3, a4, a5⟩ := boxCall J n1 n2
  rw [ea] at e1
  cases e1
  obtain ⟨B, JB, eb, b0, br, bk, b81⟩ := begR I1 J1
  have r87 : B 87 = I 2 := by rw [br 87 (by decide) (by decide) (by decide) (by decide), h1]; funext k; exact a5 87 k rfl (by decide) (by decide)
  have d11 : B 78 11 = n3 n := by rw [bk 11 (by decide) (by decide) (by decide), a5 78 11 rfl (by decide) (by decide), ← h2, n2]
  obtain ⟨C, ec, c11, c15, c16, c81, c81', c81'', cr, ck⟩ := boxR n1 (by rw [r87]; exact h6) eb d11
  rw [ec] at e2
  rw [r87] at e2 c15 c16 c81 c81'
  cases e2
  have R : ∀ b, (∀ k, S1 b k = true) → b ≠ 8 → b ≠ 1 → b ≠ 78 → b ≠ 81 → b ≠ 82 → b ≠ 94 → b ≠ 98 → I2 b = I b := by
    intro b hb p8 p1 p78 p81 p82 p94 p98
    rw [cr b p78 p81 p82, br b p78 p81 p94 p98]; funext k; exact a5 b k (hb k) p8 p1
  have R1 : I2 1 = I1 1 := by rw [cr 1 (by decide) (by decide) (by decide), br 1 (by decide) (by decide) (by decide) (by decide)]
  have R8 : I2 8 = I1 8 := by rw [cr 8 (by decide) (by decide) (by decide), br 8 (by decide) (by decide) (by decide) (by decide)]
  have K5 : I2 78 5 = I 78 5 := by rw [ck 5 (by omega), bk 5 (by decide) (by decide) (by decide), a5 78 5 rfl (by decide) (by decide)]
  have K2 : ¬ I2 78 2 = 0 := by rw [ck 2 (by omega)]; exact b0
  refine ⟨rfl, ⟨?_, ?_, ?_⟩, fun j hj => ?_, ⟨m, m1, ?_, ?_, ?_⟩, ?_, 0, by omega, ?_⟩
  · rw [R 2 (fun _ => rfl) (by decide) (by decide) (by decide) (by decide) (by decide) (by decide) (by decide), R 87 (fun _ => rfl) (by decide) (by decide) (by decide) (by decide) (by decide) (by decide) (by decide)]; exact h1
  · rw [R1, a1, c11]
  · rw [R1, a2, c16]; rfl
  · unfold B81
    rw [R8, if_neg K2]
    by_cases q : (boxP (I 2) n).c.1 = 0
    · rw [a3 q j hj, c81 q j hj]
    · rw [a4 q, c81' q, b81 j hj, h4 j hj]
      unfold B81
      rw [a5 78 2 rfl (by decide) (by decide), a5 81 j rfl (by decide) (by decide)]
  · rw [R 9 (fun _ => rfl) (by decide) (by decide) (by decide) (by decide) (by decide) (by decide) (by decide)]; exact m2
  · rw [K5]; exact m3
  · rw [R 10 (fun _ => rfl) (by decide) (by decide) (by decide) (by decide) (by decide) (by decide) (by decide), R 11 (fun _ => rfl) (by decide) (by decide) (by decide) (by decide) (by decide) (by decide) (by decide), R 83 (fun _ => rfl) (by decide) (by decide) (by decide) (by decide) (by decide) (by decide) (by decide), R 84 (fun _ => rfl) (by decide) (by decide) (by decide) (by decide) (by decide) (by decide) (by decide)]; exact m4
  · rw [R 2 (fun _ => rfl) (by decide) (by decide) (by decide) (by decide) (by decide) (by decide) (by decide)]; exact h6
  · rw [R1, a1]; rfl
theorem cp_day {v1 v2 : Int32} {I I1 I2 : Iv} {J J1 J2 : Jv} (h : CP I) (e1 : fn_X9_day I J = (v1, I1, J1)) (e2 : fn_X10_day I1 J1 = (v2, I2, J2)) : v1 = v2 ∧ CP I2 := by
  obtain ⟨⟨h1, h2, h3⟩, h4, ⟨m, m1, m2, m3, m4⟩, h6, n, n1, n2⟩ := h
  obtain ⟨A, JA, ea, a1, a2, a3, a4, a5⟩ := dayCall J n1 n2
  rw [ea] at e1
  cases e1
  obtain ⟨B, JB, eb, b0, br, bk, b81⟩ := begR I1 J1
  have r87 : B 87 = I 2 := by rw [br 87 (by decide) (by decide) (by decide) (by decide), h1]; funext k; exact a5 87 k rfl (by decide) (by decide) (by decide) (by decide) (by decide)
  have d11 : B 78 11 = n3 n := by rw [bk 11 (by decide) (by decide) (by decide), a5 78 11 rfl (by decide) (by decide) (by decide) (by decide) (by decide), ← h2, n2]
  obtain ⟨C, ec, c11, c15, c16, c5, c5', cr, ck⟩ := dayR n1 (by rw [r87]; exact h6) eb d11
  rw [ec] at e2
  rw [r87] at e2 c15 c16 c5 c5'
  cases e2
  have R : ∀ b, (∀ k, S1 b k = true) → b ≠ 1 → b ≠ 9 → b ≠ 10 → b ≠ 11 → b ≠ 12 → b ≠ 78 → b ≠ 81 → b ≠ 83 → b ≠ 84 → b ≠ 85 → b ≠ 86 → b ≠ 94 → b ≠ 98 → I2 b = I b := by
    intro b hb p1 p9 p10 p11 p12 p78 p81 p83 p84 p85 p86 p94 p98
    rw [cr b p78 p83 p84 p85 p86, br b p78 p81 p94 p98]; funext k; exact a5 b k (hb k) p1 p9 p10 p11 p12
  have RA : ∀ b, b ≠ 78 → b ≠ 81 → b ≠ 83 → b ≠ 84 → b ≠ 85 → b ≠ 86 → b ≠ 94 → b ≠ 98 → I2 b = I1 b := fun b p78 p81 p83 p84 p85 p86 p94 p98 => by rw [cr b p78 p83 p84 p85 p86, br b p78 p81 p94 p98]
  have R1 : I2 1 = I1 1 := RA 1 (by decide) (by decide) (by decide) (by decide) (by decide) (by decide) (by decide) (by decide)
  have R9 : I2 9 = I1 9 := RA 9 (by decide) (by decide) (by decide) (by decide) (by decide) (by decide) (by decide) (by decide)
  have R10 : I2 10 = I1 10 := RA 10 (by decide) (by decide) (by decide) (by decide) (by decide) (by decide) (by decide) (by decide)
  have R11 : I2 11 = I1 11 := RA 11 (by decide) (by decide) (by decide) (by decide) (by decide) (by decide) (by decide) (by decide)
  have R81 : I2 81 = B 81 := cr 81 (by decide) (by decide) (by decide) (by decide) (by decide)
  have K2 : ¬ I2 78 2 = 0 := by rw [ck 2 (by decide) (by omega)]; exact b0
  have B83 : B 83 = I 83 := by rw [br 83 (by decide) (by decide) (by decide) (by decide)]; funext k; exact a5 83 k rfl (by decide) (by decide) (by decide) (by decide) (by decide)
  have B84 : B 84 = I 84 := by rw [br 84 (by decide) (by decide) (by decide) (by decide)]; funext k; exact a5 84 k rfl (by decide) (by decide) (by decide) (by decide) (by decide)
  have B5 : B 78 5 = I 78 5 := by rw [bk 5 (by decide) (by decide) (by decide)]; exact a5 78 5 rfl (by decide) (by decide) (by decide) (by decide) (by decide)
  refine ⟨rfl, ⟨?_, ?_, ?_⟩, fun j hj => ?_, ?_, ?_, 0, by omega, ?_⟩
  · rw [R 2 (fun _ => rfl) (by decide) (by decide) (by decide) (by decide) (by decide) (by decide) (by decide) (by decide) (by decide) (by decide) (by decide) (by decide) (by decide), R 87 (fun _ => rfl) (by decide) (by decide) (by decide) (by decide) (by decide) (by decide) (by decide) (by decide) (by decide) (by decide) (by decide) (by decide) (by decide)]; exact h1
  · rw [R1, a1, c11]
  · rw [R1, a2, c16]; rfl
  · unfold B81
    rw [R 8 (fun _ => rfl) (by decide) (by decide) (by decide) (by decide) (by decide) (by decide) (by decide) (by decide) (by decide) (by decide) (by decide) (by decide) (by decide), if_neg K2, R81, b81 j hj, h4 j hj]
    unfold B81
    rw [a5 78 2 rfl (by decide) (by decide) (by decide) (by decide) (by decide), a5 81 j rfl (by decide) (by decide) (by decide) (by decide) (by decide)]
  · by_cases q : (dayP (I 2) n).c.1 = 0
    · obtain ⟨p1, p2, p3⟩ := a3 q
      obtain ⟨s1, s2, s3⟩ := c5 q
      refine ⟨(dayP (I 2) n).ct, p1, by rw [R9]; exact p2, s1, fun j hj => ?_⟩
      rw [R10, R11, (p3 j hj).1, (p3 j hj).2, (s3 j hj).1, (s3 j hj).2]; exact ⟨rfl, rfl⟩
    · obtain ⟨p1, p2, p3⟩ := a4 q
      obtain ⟨s1, s2, s3⟩ := c5' q
      refine ⟨m, m1, by rw [R9, p1]; exact m2, by rw [s3, B5]; exact m3, fun j hj => ?_⟩
      rw [R10, R11, p2, p3, s1, s2, B83, B84]; exact m4 j hj
  · rw [R 2 (fun _ => rfl) (by decide) (by decide) (by decide) (by decide) (by decide) (by decide) (by decide) (by decide) (by decide) (by decide) (by decide) (by decide) (by decide)]; exact h6
  · rw [R1, a1]; rfl
