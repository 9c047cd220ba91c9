/-! ===== the reference's clause ===== -/
theorem j_ite {β : Type} {c : Prop} [Decidable c] {a b : Int32} (Kf : Int32 → β) : j_n Kf (fun (j : Int32 → β) => if c then j a else j b) = Kf (if c then a else b) := by
  dsimp only [j_n]
  by_cases q : c
  · rw [if_pos q, if_pos q]
  · rw [if_neg q, if_neg q]
theorem numRj {n : Nat} {c : Cu} {I : Iv} (J : Jv) (lo hi : Int32) (hn : n ≤ 300) (h : CuR n I c) :
    ∃ (v : Int32) (I' : Iv), (∀ {β : Type} (Kf : Int32 → Iv → β), j_n Kf (fun (j : Int32 → Iv → β) => if I 78 15 = 0 then b_n3 (fn_X10_takeNumber lo hi I J) (fun (r : Int32) (I5 : Iv) (_ : Jv) => j r I5) else j 0 I) = Kf v I') ∧ SmR I I' ∧ CuR n I' (nuB (I 87) n c lo hi) ∧ ((nuB (I 87) n c lo hi).1 = 0 → v = nuV (I 87) n c.2) := by
  by_cases h0 : c.1 = 0
  · obtain ⟨v, I', e, r⟩ := numR J lo hi hn h h0
    exact ⟨v, I', fun Kf => by rw [j_n, if_pos (h.2.1.trans h0), e]; rfl, r⟩
  · refine ⟨0, I, fun Kf => by rw [j_n, if_neg (by rw [h.2.1]; exact h0)], smR_rfl, ?_, ?_⟩
    · unfold nuB; rw [if_neg h0]; exact h
    · unfold nuB; rw [if_neg h0]; exact fun k => absurd k h0
def bitI (m : Int32) (j : Nat) : Bool := m.toBitVec.getLsbD j
theorem one_bit (x : BitVec 64) : x &&& 1#64 = 1#64 ↔ x.getLsbD 0 = true := by
  rw [BitVec.and_one_eq_setWidth_ofBool_getLsbD]
  cases x.getLsbD 0 <;> decide
theorem has_bit (x : Int64) {j : Nat} (hj : j < 64) : (((x >>> ((n3 j).toInt64 &&& 63)) &&& 1) = 1) ↔ x.toBitVec.getLsbD j = true := by
  have e : ∀ i : Fin 64, ((n3 i.val).toInt64 &&& 63).toBitVec.smod 64#64 = BitVec.ofNat 64 i.val := by decide +kernel
  rw [← Int64.toBitVec_inj, Int64.toBitVec_and, Int64.toBitVec_shiftRight]
  have e1 := e ⟨j, hj⟩
  simp only at e1
  have e2 : (Int64.toBitVec 1) = 1#64 := by decide
  rw [e2, one_bit]
  have e3 : ((n3 j).toInt64 &&& 63).toBitVec.smod 64 = BitVec.ofNat 64 j := e1
  rw [e3, BitVec.sshiftRight_eq', BitVec.getLsbD_sshiftRight]
  have e4 : (BitVec.ofNat 64 j).toNat = j := by rw [BitVec.toNat_ofNat]; omega
  rw [e4]
  simp [hj]
theorem fX10_has (x : Int64) {j : Nat} (hj : j < 64) (I : Iv) (J : Jv) : fn_X10_has x (n3 j) I J = (b3 (x.toBitVec.getLsbD j), I, J) := by
  unfold fn_X10_has
  cases q : x.toBitVec.getLsbD j with
  | true => rw [if_pos ((has_bit x hj).mpr q)]; rfl
  | false => rw [if_neg (fun z => by rw [(has_bit x hj).mp z] at q; exact absurd q (by decide))]; rfl
theorem wide_bit (m : Int32) {j : Nat} (hj : j < 32) : m.toInt64.toBitVec.getLsbD j = bitI m j := by
  rw [Int32.toBitVec_toInt64, BitVec.getLsbD_signExtend]
  unfold bitI
  simp [hj, show j < 64 by omega]
theorem shl_bit : ∀ k : Fin 13, ∀ j : Fin 13, bitI ((1 : Int32) <<< (n3 k.val &&& 31)) j.val = decide (j.val = k.val) := by decide +kernel
theorem or_bit {m : Int32} {k j : Nat} (hk : k < 13) (hj : j < 13) : bitI (m ||| ((1 : Int32) <<< (n3 k &&& 31))) j = (if j = k then true else bitI m j) := by
  have e := shl_bit ⟨k, hk⟩ ⟨j, hj⟩
  simp only at e
  unfold bitI at e ⊢
  rw [Int32.toBitVec_or, BitVec.getLsbD_or, e]
  by_cases q : j = k
  · simp [q]
  · simp [q]
def StR (n : Nat) (T : Nat → Int32) (I : Iv) (x : PB) : Prop := I 87 = T ∧ CuR n I x.c ∧ (∀ j, j < 13 → bitI (I 78 17) j = x.td j) ∧ (x.c.1 = 0 → ∀ j, j < 15 → I 82 j = x.nu j)
def FrR (I I' : Iv) : Prop := (∀ b, b ≠ 78 → b ≠ 82 → I' b = I b) ∧ ∀ k, k ≠ 12 → k ≠ 13 → k ≠ 14 → k ≠ 15 → k ≠ 16 → k ≠ 17 → I' 78 k = I 78 k
theorem FrR.tr {I I1 I2 : Iv} (h : FrR I I1) (k : FrR I1 I2) : FrR I I2 := ⟨fun b x y => (k.1 b x y).trans (h.1 b x y), fun j a b c d e f => (k.2 j a b c d e f).trans (h.2 j a b c d e f)⟩
theorem SmR.f {I I' : Iv} (h : SmR I I') : FrR I I' := ⟨fun b x _ => h.1 b x, fun k a b c d e _ => h.2 k a b c d e⟩
theorem frR_w {I I1 : Iv} {k : Nat} {v : Int32} (h : FrR I I1) : FrR I (wI I1 82 k v) := ⟨fun b x y => by rw [wI_row y]; exact h.1 b x y, fun j a b c d e f => by rw [wI_row (by decide)]; exact h.2 j a b c d e f⟩
theorem leastOf_eq {k : Nat} (hk : k < 12) (I : Iv) (J : Jv) : fn_X10_leastOf (n3 k) I J = (loK k, I, J) := by
  rcases (show k = 0 ∨ k = 1 ∨ k = 2 ∨ k = 3 ∨ k = 4 ∨ k = 5 ∨ k = 6 ∨ k = 7 ∨ k = 8 ∨ k = 9 ∨ k = 10 ∨ k = 11 by omega) with rfl | rfl | rfl | rfl | rfl | rfl | rfl | rfl | rfl | rfl | rfl | rfl <;> rfl
theorem mostOf_eq {k : Nat} (hk : k < 12) (I : Iv) (J : Jv) : fn_X10_mostOf (n3 k) I J = (hiK k, I, J) := by
  rcases (show k = 0 ∨ k = 1 ∨ k = 2 ∨ k = 3 ∨ k = 4 ∨ k = 5 ∨ k = 6 ∨ k = 7 ∨ k = 8 ∨ k = 9 ∨ k = 10 ∨ k = 11 by omega) with rfl | rfl | rfl | rfl | rfl | rfl | rfl | rfl | rfl | rfl | rfl | rfl <;> rfl
set_option maxRecDepth 100000 in
theorem clauseR {n : Nat} {T : Nat → Int32} {I : Iv} {x : PB} (J : Jv) (hn : n ≤ 300) (h : StR n T I x) (h0 : x.c.1 = 0) (hs : nuS T n x.c.2 = x.c.2) :
    ∃ I' : Iv, fn_X10_takeClause I J = (I', J) ∧ StR n T I' (clStep T n x) ∧ FrR I I' := by
  obtain ⟨hT, hC, hd, hv⟩ := h
  obtain ⟨ha, h2⟩ := hC.2.2.1 h0
  have v4 := hv h0
  have h1 := hC.1
  have h3 : I 78 15 = 0 := hC.2.1.trans h0
  have h4 : I 78 16 = -1 := by rw [hC.2.2.2, if_pos h0]
  have hb := ske_bd isL T (n - x.c.2) x.c.2
  unfold fn_X10_takeClause
  rw [fX10_takeWord J hn ha h1 h2, hT]
  have hs' : ske isB T (n - x.c.2) x.c.2 = x.c.2 := hs
  rw [hs']
  unfold clStep
  generalize x.c.2 = s at *
  generalize ske isL T (n - s) s = e at *
  simp only [b_n2_mk, l_t]
  have sm : SmR I (wI (wI (wI I 78 13 (n3 s)) 78 12 (n3 e)) 78 14 (n3 (e - s))) := smR_w (smR_w (smR_w smR_rfl (by omega)) (by omega)) (by omega)
  have g11 : wI (wI (wI I 78 13 (n3 s)) 78 12 (n3 e)) 78 14 (n3 (e - s)) 78 11 = n3 n := by rw [wI_ne (by omega), wI_ne (by omega), wI_ne (by omega)]; exact h1
  have g12 : wI (wI (wI I 78 13 (n3 s)) 78 12 (n3 e)) 78 14 (n3 (e - s)) 78 12 = n3 e := by rw [wI_ne (by omega), wI_self]
  have g13 : wI (wI (wI I 78 13 (n3 s)) 78 12 (n3 e)) 78 14 (n3 (e - s)) 78 13 = n3 s := by rw [wI_ne (by omega), wI_ne (by omega), wI_self]
  have g14 : wI (wI (wI I 78 13 (n3 s)) 78 12 (n3 e)) 78 14 (n3 (e - s)) 78 14 = n3 (e - s) := wI_self
  have g15 : wI (wI (wI I 78 13 (n3 s)) 78 12 (n3 e)) 78 14 (n3 (e - s)) 78 15 = 0 := by rw [wI_ne (by omega), wI_ne (by omega), wI_ne (by omega)]; exact h3
  have g16 : wI (wI (wI I 78 13 (n3 s)) 78 12 (n3 e)) 78 14 (n3 (e - s)) 78 16 = -1 := by rw [wI_ne (by omega), wI_ne (by omega), wI_ne (by omega)]; exact h4
  have g17 : wI (wI (wI I 78 13 (n3 s)) 78 12 (n3 e)) 78 14 (n3 (e - s)) 78 17 = I 78 17 := by rw [wI_ne (by omega), wI_ne (by omega), wI_ne (by omega)]
  have r87 : (wI (wI (wI I 78 13 (n3 s)) 78 12 (n3 e)) 78 14 (n3 (e - s))) 87 = T := (sm.1 87 (by decide)).trans hT
  have r82 : (wI (wI (wI I 78 13 (n3 s)) 78 12 (n3 e)) 78 14 (n3 (e - s))) 82 = I 82 := sm.1 82 (by decide)
  generalize wI (wI (wI I 78 13 (n3 s)) 78 12 (n3 e)) 78 14 (n3 (e - s)) = I1 at *
  rw [fX10_kindHere J (by omega) (by omega) g13 g14, r87]
  rw [b_n3_mk]
  rw [j_ite]
  have bad : ∀ f : Int32, ¬ f = 0 → StR n T (wI (wI I1 78 15 f) 78 16 (n3 s)) (x.pu (f, s)) ∧ FrR I (wI (wI I1 78 15 f) 78 16 (n3 s)) := fun f hf =>
    ⟨⟨by rw [wI_row (by decide), wI_row (by decide)]; exact r87, cuR_mkf (by rw [wI_ne (by omega), wI_ne (by omega)]; exact g11) hf (by rw [wI_ne (by omega), wI_self]) wI_self,
      fun j hj => by rw [wI_ne (by omega), wI_ne (by omega), g17]; exact hd j hj, fun z => absurd z hf⟩,
     (smR_w (smR_w sm (by omega)) (by omega)).f⟩
  rcases kdF_or T s (e - s) 13 0 with hk | ⟨k, hk, -, hk2, -⟩
  · rw [hk, if_pos (by decide), if_pos (by decide), g13, fX10_want_0 g15 (by decide)]
    rw [b_n3_mk]
    first | rw [if_pos trivial] | rw [if_pos rfl]
    exact ⟨_, rfl, bad 1 (by decide)⟩
  · have k13 : k < 13 := by omega
    have hneg : ¬ n3 k < 0 := by rw [show (0 : Int32) = n3 0 from rfl, n3_lt (by omega) (by omega)]; omega
    rw [hk, if_neg hneg, if_neg hneg, g13, fX10_want_1 g15 (by decide)]
    rw [b_n3_mk]
    rw [if_neg (by decide), fX10_has _ (by omega), wide_bit _ (by omega), g17, hd k k13]
    rw [b_n3_mk, n3_tn (show k ≤ 1000 by omega)]
    rw [j_ite]
    by_cases q : x.td k = true
    · rw [if_neg (by rw [b3_0]; simp [q]), if_pos q, g13, fX10_want_0 g15 (by decide)]
      rw [b_n3_mk]
      first | rw [if_pos trivial] | rw [if_pos rfl]
      exact ⟨_, rfl, bad 3 (by decide)⟩
    · rw [if_pos (by rw [b3_0]; simpa using q), if_neg q, fX10_want_1 g15 (by decide)]
      rw [b_n3_mk]
      rw [if_neg (by decide), g17]
      have c0 : CuR n (wI I1 78 17 (I 78 17 ||| ((1 : Int32) <<< (n3 k &&& 31)))) (0, e) := cuR_of (fun j j1 j2 j3 => wI_ne (Or.inr j3)) (cuR_mk0 g11 g15 (by omega) g12 g16)
      have m17 : wI I1 78 17 (I 78 17 ||| ((1 : Int32) <<< (n3 k &&& 31))) 78 17 = I 78 17 ||| ((1 : Int32) <<< (n3 k &&& 31)) := wI_self
      have y87 : (wI I1 78 17 (I 78 17 ||| ((1 : Int32) <<< (n3 k &&& 31)))) 87 = T := (wI_row (by decide)).trans r87
      have y82 : (wI I1 78 17 (I 78 17 ||| ((1 : Int32) <<< (n3 k &&& 31)))) 82 = I 82 := (wI_row (by decide)).trans r82
      have fr : FrR I (wI I1 78 17 (I 78 17 ||| ((1 : Int32) <<< (n3 k &&& 31)))) := ⟨fun b b1 b2 => by rw [wI_row b1]; exact sm.1 b b1, fun j a b c d e f => by rw [wI_ne (Or.inr f)]; exact sm.2 j a b c d e⟩
      generalize wI I1 78 17 (I 78 17 ||| ((1 : Int32) <<< (n3 k &&& 31))) = I2 at *
      have last : ∀ I9 : Iv, FrR I2 I9 → I9 78 17 = I2 78 17 → CuR n I9 (clN T n k (0, e) x.nu).1 → ((clN T n k (0, e) x.nu).1.1 = 0 → ∀ j, j < 15 → I9 82 j = (clN T n k (0, e) x.nu).2 j) →
          ∃ I' : Iv, b_n2 (fn_X10_takeEnd I9 J) (fun (I44 : Iv) (_ : Jv) => (I44, J)) = (I', J) ∧ StR n T I' (mkP (enB T n (clN T n k (0, e) x.nu).1) (fun j => if j = k then true else x.td j) ((clN T n k (0, e) x.nu).2) (x.ct + 1)) ∧ FrR I I' := by
        intro I9 f9 e9 u9 w9
        obtain ⟨I10, e10, s10, u10⟩ := endR J hn u9
        have y9 : I9 87 = T := (f9.1 87 (by decide) (by decide)).trans y87
        rw [y9] at u10
        rw [e10]
        refine ⟨I10, rfl, ⟨(s10.1 87 (by decide)).trans y9, u10, fun j hj => ?_, fun z j hj => ?_⟩, fr.tr (f9.tr s10.f)⟩
        · rw [s10.2 17 (by decide) (by decide) (by decide) (by decide) (by decide), e9, m17, or_bit k13 hj]
          show (if j = k then true else bitI (I 78 17) j) = (if j = k then true else x.td j)
          rw [hd j hj]
        · rw [s10.1 82 (by decide)]; exact w9 (enB_0 z) j hj
      rw [j_n]
      by_cases q12 : k = 12
      · subst q12
        rw [if_pos (show n3 12 = 12 from rfl)]
        obtain ⟨v1, I3, e3, s3, u3, w3⟩ := numR J 0 24 hn c0 rfl
        rw [e3]
        rw [b_n3_mk]
        rw [y87] at u3 w3
        have u3' : CuR n (wI I3 82 12 v1) (nuB T n (0, e) 0 24) := cuR_of (fun _ _ _ _ => by rw [wI_row (by decide)]) u3
        have t3 : (wI I3 82 12 v1) 87 = T := (wI_row (by decide)).trans ((s3.1 87 (by decide)).trans y87)
        obtain ⟨v2, I4, e4, s4, u4, w4⟩ := numRj (I := wI I3 82 12 v1) J (wI I3 82 12 v1 82 12 + 1) 24 hn u3'
        rw [e4]
        rw [t3] at u4 w4
        have k1 : nuB T n (nuB T n (0, e) 0 24) (wI I3 82 12 v1 82 12 + 1) 24 = nuB T n (nuB T n (0, e) 0 24) (nuV T n e + 1) 24 := nuB_lo (fun z => by rw [wI_self, w3 z])
        rw [k1] at u4 w4
        have u4' : CuR n (wI I4 82 13 v2) (nuB T n (nuB T n (0, e) 0 24) (nuV T n e + 1) 24) := cuR_of (fun _ _ _ _ => by rw [wI_row (by decide)]) u4
        have t4 : (wI I4 82 13 v2) 87 = T := (wI_row (by decide)).trans ((s4.1 87 (by decide)).trans t3)
        obtain ⟨v3, I5, e5, s5, u5, w5⟩ := numRj (I := wI I4 82 13 v2) J 0 200 hn u4'
        rw [e5]
        rw [t4] at u5 w5
        have f5 : FrR I2 (wI I5 82 14 v3) := frR_w ((frR_w ((frR_w s3.f).tr s4.f)).tr s5.f)
        refine last (wI I5 82 14 v3) f5 ?_ (cuR_of (fun _ _ _ _ => by rw [wI_row (by decide)]) u5) (fun z j hj => ?_)
        · rw [wI_row (by decide), s5.2 17 (by decide) (by decide) (by decide) (by decide) (by decide), wI_row (by decide), s4.2 17 (by decide) (by decide) (by decide) (by decide) (by decide), wI_row (by decide), s3.2 17 (by decide) (by decide) (by decide) (by decide) (by decide)]
        · have z2 := nuB_0 (T := T) (n := n) (c := nuB T n (nuB T n (0, e) 0 24) (nuV T n e + 1) 24) (lo := 0) (hi := 200) z
          have z1 := nuB_0 z2
          rw [wI_up, s5.1 82 (by decide), wI_up, s4.1 82 (by decide), wI_up, s3.1 82 (by decide), y82, w5 z, w4 z2, w3 z1]
          show up (up (up (I 82) 12 _) 13 _) 14 _ j = up (up (up x.nu 12 _) 13 _) 14 _ j
          simp only [up, v4 j hj]
      · rw [if_neg (show ¬ n3 k = 12 from fun z => q12 ((n3_inj (b := 12) (by omega) (by omega)).mp z)), leastOf_eq (by omega)]
        rw [b_n3_mk, mostOf_eq (by omega), b_n3_mk]
        obtain ⟨v1, I3, e3, s3, u3, w3⟩ := numR J (loK k) (hiK k) hn c0 rfl
        rw [e3]
        rw [b_n3_mk]
        rw [y87] at u3 w3
        have ec : clN T n k (0, e) x.nu = (nuB T n (0, e) (loK k) (hiK k), up x.nu k (nuV T n e)) := if_neg q12
        refine last (wI I3 82 k v1) (frR_w s3.f) ?_ (by rw [ec]; exact cuR_of (fun _ _ _ _ => by rw [wI_row (by decide)]) u3) (fun z j hj => ?_)
        · rw [wI_row (by decide), s3.2 17 (by decide) (by decide) (by decide) (by decide) (by decide)]
        · rw [ec] at z ⊢
          rw [wI_up, s3.1 82 (by decide), y82, w3 z]
          show up (I 82) k _ j = up x.nu k _ j
          simp only [up, v4 j hj]
