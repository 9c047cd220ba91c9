/-! ===== a clause ===== -/
def up (f : Nat → Int32) (k : Nat) (v : Int32) : Nat → Int32 := fun j => if j = k then v else f j
theorem wI_up {I : Iv} {b k : Nat} {v : Int32} : (wI I b k v) b = up (I b) k v := by funext j; simp [wI, up]
def loK (k : Nat) : Int32 := ((stI.getD 1 default).2).getD k 0
def hiK (k : Nat) : Int32 := ((stI.getD 2 default).2).getD k 0
def clN (T : Nat → Int32) (n k : Nat) (c : Cu) (nu : Nat → Int32) : Cu × (Nat → Int32) :=
  if k = 12 then
    (nuB T n (nuB T n (nuB T n c 0 24) (nuV T n c.2 + 1) 24) 0 200,
      up (up (up nu 12 (nuV T n c.2)) 13 (nuV T n (nuB T n c 0 24).2)) 14 (nuV T n (nuB T n (nuB T n c 0 24) (nuV T n c.2 + 1) 24).2))
  else (nuB T n c (loK k) (hiK k), up nu k (nuV T n c.2))
theorem clN_0 {T : Nat → Int32} {n k : Nat} {c : Cu} {nu : Nat → Int32} (h : (clN T n k c nu).1.1 = 0) : c.1 = 0 := by
  unfold clN at h
  by_cases q : k = 12
  · rw [if_pos q] at h; exact nuB_0 (nuB_0 (nuB_0 h))
  · rw [if_neg q] at h; exact nuB_0 h
theorem clN_up {T : Nat → Int32} {n k : Nat} {c : Cu} {nu : Nat → Int32} (hc : c.2 ≤ n) (h : (clN T n k c nu).1.1 = 0) : c.2 ≤ (clN T n k c nu).1.2 ∧ (clN T n k c nu).1.2 ≤ n := by
  unfold clN at h ⊢
  by_cases q : k = 12
  · rw [if_pos q] at h ⊢
    have a1 := nuB_up hc (nuB_0 (nuB_0 h))
    have a2 := nuB_up a1.2 (nuB_0 h)
    have a3 := nuB_up a2.2 h
    exact ⟨by show c.2 ≤ (nuB T n (nuB T n (nuB T n c 0 24) (nuV T n c.2 + 1) 24) 0 200).2; omega, a3.2⟩
  · rw [if_neg q] at h ⊢
    exact nuB_up hc h
theorem clN_c {T : Nat → Int32} {n k : Nat} {c : Cu} (nu nu' : Nat → Int32) : (clN T n k c nu).1 = (clN T n k c nu').1 := by
  unfold clN
  by_cases q : k = 12
  · rw [if_pos q, if_pos q]
  · rw [if_neg q, if_neg q]
theorem clN_n {T : Nat → Int32} {n k j : Nat} {c : Cu} {nu nu' : Nat → Int32} (h : nu j = nu' j) : (clN T n k c nu).2 j = (clN T n k c nu').2 j := by
  unfold clN
  by_cases q : k = 12
  · rw [if_pos q, if_pos q]; simp only [up, h]
  · rw [if_neg q, if_neg q]; simp only [up, h]
theorem clnC {n k : Nat} {c : Cu} {I : Iv} (J : Jv) (hn : n ≤ 300) (hk : k < 13) (h : CuC n I c) :
    ∃ I' : Iv, fn_X5_readClauseNumbers (n3 k) I J = (I', J) ∧ (∀ b, b ≠ 1 → b ≠ 4 → I' b = I b) ∧ (∀ j, j ≠ 2 → j ≠ 3 → j ≠ 4 → I' 1 j = I 1 j) ∧ CuC n I' (clN (I 2) n k c (I 4)).1 ∧ ((clN (I 2) n k c (I 4)).1.1 = 0 → I' 4 = (clN (I 2) n k c (I 4)).2) := by
  unfold fn_X5_readClauseNumbers
  dsimp only [l_t]
  simp only [n3_tn (show k ≤ 1000 by omega)]
  obtain ⟨v1, I1, e1, s1, u1, w1⟩ := numC J (loK k) (hiK k) hn h
  have e1' : fn_X5_readNumber (((stI.getD 1 default).2).getD k 0) (((stI.getD 2 default).2).getD k 0) I J = (v1, I1, J) := e1
  rw [e1']
  unfold clN
  dsimp only [b_n3]
  have r1 : I1 4 = I 4 := s1.1 4 (by decide)
  have t1 : I1 2 = I 2 := s1.1 2 (by decide)
  by_cases q : k = 12
  · subst q
    rw [if_pos rfl, if_pos (show n3 12 = 12 from rfl), wI_self]
    have u1' : CuC n (wI I1 4 12 v1) (nuB (I 2) n c 0 24) := cuC_of (wI_row (by decide)) u1
    obtain ⟨v2, I2, e2, s2, u2, w2⟩ := numC (I := wI I1 4 12 v1) J (v1 + 1) (((stI.getD 2 default).2).getD 13 0) hn u1'
    rw [e2]; simp only
    have t2 : (wI I1 4 12 v1) 2 = I 2 := (wI_row (by decide)).trans t1
    rw [t2] at u2 w2
    have k1 : nuB (I 2) n (nuB (I 2) n c 0 24) (v1 + 1) (((stI.getD 2 default).2).getD 13 0) = nuB (I 2) n (nuB (I 2) n c 0 24) (nuV (I 2) n c.2 + 1) 24 := by
      rw [show ((stI.getD 2 default).2).getD 13 0 = 24 by decide]
      exact nuB_lo (fun z => by rw [w1 z])
    rw [k1] at u2 w2
    have u2' : CuC n (wI I2 4 13 v2) (nuB (I 2) n (nuB (I 2) n c 0 24) (nuV (I 2) n c.2 + 1) 24) := cuC_of (wI_row (by decide)) u2
    obtain ⟨v3, I3, e3, s3, u3, w3⟩ := numC (I := wI I2 4 13 v2) J (((stI.getD 1 default).2).getD 14 0) (((stI.getD 2 default).2).getD 14 0) hn u2'
    rw [e3]; simp only
    have t3 : (wI I2 4 13 v2) 2 = I 2 := (wI_row (by decide)).trans ((s2.1 2 (by decide)).trans t2)
    rw [t3] at u3 w3
    have k2 : ((stI.getD 1 default).2).getD 14 0 = 0 := by decide
    have k3 : ((stI.getD 2 default).2).getD 14 0 = 200 := by decide
    rw [k2, k3] at u3 w3
    refine ⟨_, rfl, fun b b1 b4 => ?_, fun j j2 j3 j4 => ?_, cuC_of (wI_row (by decide)) u3, fun z => ?_⟩
    · rw [wI_row b4, s3.1 b b1, wI_row b4, s2.1 b b1, wI_row b4, s1.1 b b1]
    · rw [wI_row (by decide), s3.2 j j2 j3 j4, wI_row (by decide), s2.2 j j2 j3 j4, wI_row (by decide), s1.2 j j2 j3 j4]
    · rw [wI_up, s3.1 4 (by decide), wI_up, s2.1 4 (by decide), wI_up, r1, w1 (nuB_0 (nuB_0 z)), w2 (nuB_0 z), w3 z]
  · rw [if_neg q, if_neg (show ¬ n3 k = 12 from fun z => q ((n3_inj (b := 12) (by omega) (by omega)).mp z))]
    refine ⟨_, rfl, fun b b1 b4 => ?_, fun j j2 j3 j4 => ?_, cuC_of (wI_row (by decide)) u1, fun z => ?_⟩
    · rw [wI_row b4, s1.1 b b1]
    · rw [wI_row (by decide), s1.2 j j2 j3 j4]
    · rw [wI_up, r1, w1 z]
theorem kdF_or (T : Nat → Int32) (s l : Nat) : ∀ f k, kdF T s l f k = -1 ∨ ∃ j, kdF T s l f k = n3 j ∧ k ≤ j ∧ j < k + f ∧ isW T s l (sB j) = true
  | 0, k => Or.inl rfl
  | f + 1, k => by
    simp only [kdF]
    by_cases q : isW T s l (sB k) = true
    · rw [if_pos q]; exact Or.inr ⟨k, rfl, Nat.le_refl _, by omega, q⟩
    · rw [if_neg q]
      rcases kdF_or T s l f (k + 1) with h | ⟨j, h1, h2, h3, h4⟩
      · exact Or.inl h
      · exact Or.inr ⟨j, h1, by omega, by omega, h4⟩
def PB : Type := Cu × (Nat → Bool) × (Nat → Int32) × Nat
def PB.c (x : PB) : Cu := x.1
def PB.td (x : PB) : Nat → Bool := x.2.1
def PB.nu (x : PB) : Nat → Int32 := x.2.2.1
def PB.ct (x : PB) : Nat := x.2.2.2
def mkP (c : Cu) (td : Nat → Bool) (nu : Nat → Int32) (ct : Nat) : PB := (c, td, nu, ct)
def PB.pu (x : PB) (c : Cu) : PB := (c, x.2)
theorem at_c {x : PB} {c : Cu} : (x.pu c).c = c := rfl
theorem at_td {x : PB} {c : Cu} : (x.pu c).td = x.td := rfl
theorem at_nu {x : PB} {c : Cu} : (x.pu c).nu = x.nu := rfl
theorem at_ct {x : PB} {c : Cu} : (x.pu c).ct = x.ct := rfl
def clStep (T : Nat → Int32) (n : Nat) (x : PB) : PB :=
  if kdF T x.c.2 (ske isL T (n - x.c.2) x.c.2 - x.c.2) 13 0 < 0 then (x.pu (1, x.c.2))
  else if x.td (kdF T x.c.2 (ske isL T (n - x.c.2) x.c.2 - x.c.2) 13 0).toNatClampNeg = true then (x.pu (3, x.c.2))
  else (mkP (enB T n (clN T n (kdF T x.c.2 (ske isL T (n - x.c.2) x.c.2 - x.c.2) 13 0).toNatClampNeg (0, ske isL T (n - x.c.2) x.c.2) x.nu).1) (fun j => if j = (kdF T x.c.2 (ske isL T (n - x.c.2) x.c.2 - x.c.2) 13 0).toNatClampNeg then true else x.td j) ((clN T n (kdF T x.c.2 (ske isL T (n - x.c.2) x.c.2 - x.c.2) 13 0).toNatClampNeg (0, ske isL T (n - x.c.2) x.c.2) x.nu).2) (x.ct + 1))
theorem clStep_up {T : Nat → Int32} {n : Nat} {x : PB} (hc : x.c.2 ≤ n) (h : (clStep T n x).c.1 = 0) : x.c.2 < (clStep T n x).c.2 ∧ (clStep T n x).c.2 ≤ n := by
  have hb := ske_bd isL T (n - x.c.2) x.c.2
  unfold clStep at h ⊢
  generalize ske isL T (n - x.c.2) x.c.2 = e at *
  generalize kdF T x.c.2 (e - x.c.2) 13 0 = k at *
  by_cases q1 : k < 0
  · rw [if_pos q1] at h; exact absurd (show (1 : Int32) = 0 from h) (by decide)
  · rw [if_neg q1] at h ⊢
    by_cases q2 : x.td k.toNatClampNeg = true
    · rw [if_pos q2] at h; exact absurd (show (3 : Int32) = 0 from h) (by decide)
    · rw [if_neg q2] at h ⊢
      have a0 := enB_0 h
      have a1 := clN_up (c := (0, e)) (show e ≤ n by omega) a0
      have a2 := enB_up a1.2 h
      have a3 : e ≤ (clN T n k.toNatClampNeg (0, e) x.nu).1.2 := a1.1
      exact ⟨by show x.c.2 < (enB T n (clN T n k.toNatClampNeg (0, e) x.nu).1).2; omega, a2.2⟩
def StC (n : Nat) (T : Nat → Int32) (I : Iv) (x : PB) : Prop := I 2 = T ∧ CuC n I x.c ∧ (∀ j, j < 13 → I 3 j = b3 (x.td j)) ∧ (x.c.1 = 0 → (∀ j, j < 15 → I 4 j = x.nu j) ∧ I 1 5 = n3 x.ct)
def FrC (I I' : Iv) : Prop := (∀ b, b ≠ 1 → b ≠ 3 → b ≠ 4 → I' b = I b) ∧ ∀ k, k ≠ 2 → k ≠ 3 → k ≠ 4 → k ≠ 5 → I' 1 k = I 1 k
theorem FrC.tr {I I1 I2 : Iv} (h : FrC I I1) (k : FrC I1 I2) : FrC I I2 := ⟨fun b x y z => (k.1 b x y z).trans (h.1 b x y z), fun j a b c d => (k.2 j a b c d).trans (h.2 j a b c d)⟩
theorem SmD.f {I I' : Iv} (h : SmD I I') : FrC I I' := ⟨fun b x _ _ => h.1 b x, h.2⟩
theorem clauseC {n : Nat} {T : Nat → Int32} {I : Iv} {x : PB} (J : Jv) (hn : n ≤ 300) (h : StC n T I x) (h0 : x.c.1 = 0) :
    ∃ I' : Iv, fn_X5_readClause I J = (I', J) ∧ StC n T I' (clStep T n x) ∧ FrC I I' := by
  obtain ⟨hT, hC, hd, hv⟩ := h
  obtain ⟨ha, h2⟩ := cuC_q hC h0
  obtain ⟨v4, v5⟩ := hv h0
  have h1 := hC.1
  have h3 : I 1 3 = 0 := hC.2.1.trans h0
  have h4 : I 1 4 = -1 := by rw [hC.2.2.2, if_pos h0]
  have hb := ske_bd isL (I 2) (n - x.c.2) x.c.2
  unfold fn_X5_readClause
  dsimp only [l_t]
  rw [h2, fX5_word J hn ha h1 h2, hT]
  rw [hT] at hb
  unfold clStep
  generalize hs : x.c.2 = s at *
  generalize ske isL T (n - s) s = e at *
  dsimp only [b_n2, b_n3, j_n]
  have r2 : (wI I 1 2 (n3 e)) 2 = T := (wI_row (by decide)).trans hT
  rw [fX5_clauseFrom J wI_self hb.1 (by omega), r2]
  simp only
  have sm : SmC I (wI I 1 2 (n3 e)) := smC_w smC_rfl (by omega)
  have g1 : wI I 1 2 (n3 e) 1 1 = n3 n := by rw [wI_ne (by omega)]; exact h1
  have g2 : wI I 1 2 (n3 e) 1 2 = n3 e := wI_self
  have g3 : wI I 1 2 (n3 e) 1 3 = 0 := by rw [wI_ne (by omega)]; exact h3
  have g4 : wI I 1 2 (n3 e) 1 4 = -1 := by rw [wI_ne (by omega)]; exact h4
  have g5 : wI I 1 2 (n3 e) 1 5 = n3 x.ct := by rw [wI_ne (by omega)]; exact v5
  have gr4 : (wI I 1 2 (n3 e)) 4 = I 4 := wI_row (by decide)
  have gr3 : (wI I 1 2 (n3 e)) 3 = I 3 := wI_row (by decide)
  generalize wI I 1 2 (n3 e) = I1 at *
  unfold fn_X5_faultAt
  dsimp only [l_t]
  have bad : ∀ f : Int32, ¬ f = 0 → StC n T (wI (wI I1 1 3 f) 1 4 (n3 s)) (x.pu (f, s)) ∧ FrC I (wI (wI I1 1 3 f) 1 4 (n3 s)) := fun f hf =>
    ⟨⟨by rw [wI_row (by decide), wI_row (by decide)]; exact r2, cuC_mkf (q := e) (by rw [wI_ne (by omega), wI_ne (by omega)]; exact g1) hf (by rw [wI_ne (by omega), wI_self]) (by omega) (by rw [wI_ne (by omega), wI_ne (by omega)]; exact g2) wI_self,
      fun j hj => by rw [wI_row (by decide), wI_row (by decide), gr3]; exact hd j hj, fun z => absurd z hf⟩,
     (smC_w (smC_w sm (by omega)) (by omega)).d.f⟩
  rcases kdF_or T s (e - s) 13 0 with hk | ⟨k, hk, -, hk2, -⟩
  · rw [hk, if_pos (by decide), if_pos (by decide)]
    exact ⟨_, rfl, bad 1 (by decide)⟩
  · have k13 : k < 13 := by omega
    have hneg : ¬ n3 k < 0 := by rw [show (0 : Int32) = n3 0 from rfl, n3_lt (by omega) (by omega)]; omega
    rw [hk, if_neg hneg, if_neg hneg, if_pos (by rw [show (13 : Int32) = n3 13 from rfl, n3_lt (by omega) (by omega)]; exact k13), n3_tn (by omega), gr3, hd k k13]
    by_cases q : x.td k = true
    · rw [if_neg (by rw [b3_0]; simp [q]), if_pos q]
      exact ⟨_, rfl, bad 3 (by decide)⟩
    · rw [if_pos (by rw [b3_0]; simpa using q), if_neg q]
      have c0 : CuC n (wI I1 3 k 1) (0, e) := cuC_of (wI_row (by decide)) (cuC_mk0 g1 g3 (by omega) g2 g4)
      obtain ⟨I2, e2, f2, f2', u2, w2⟩ := clnC J hn k13 c0
      have y2 : (wI I1 3 k 1) 2 = T := (wI_row (by decide)).trans r2
      have y4 : (wI I1 3 k 1) 4 = I 4 := (wI_row (by decide)).trans gr4
      rw [y2, y4] at u2 w2
      rw [clN_c (I 4) x.nu] at u2 w2
      rw [e2]; simp only
      obtain ⟨I3, e3, f3, u3, w3⟩ := endC J hn u2
      have y5 : I2 2 = T := (f2 2 (by decide) (by decide)).trans y2
      rw [y5] at u3 w3
      rw [e3]
      refine ⟨I3, rfl, ⟨(f3.1 2 (by decide)).trans y5, u3, fun j hj => ?_, fun z => ⟨?_, ?_⟩⟩, ?_⟩
      · rw [f3.1 3 (by decide), f2 3 (by decide) (by decide)]
        show wI I1 3 k 1 3 j = b3 (if j = k then true else x.td j)
        by_cases qj : j = k
        · rw [qj, wI_self, if_pos rfl]; rfl
        · rw [wI_ne (Or.inr qj), if_neg qj, gr3]; exact hd j hj
      · intro j hj
        rw [f3.1 4 (by decide), w2 (enB_0 z)]
        exact clN_n (v4 j hj)
      · show I3 1 5 = n3 (x.ct + 1)
        rw [w3 z, f2' 5 (by decide) (by decide) (by decide), wI_row (by decide), g5, n3_up]
      · refine ⟨fun b b1 b3 b4 => ?_, fun j j2 j3 j4 j5 => ?_⟩
        · rw [f3.1 b b1, f2 b b1 b4, wI_row b3, sm.1 b b1]
        · rw [f3.2 j j2 j3 j4 j5, f2' j j2 j3 j4, wI_row (by decide), sm.2 j j2 j3 j4]
