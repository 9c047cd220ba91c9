/-! ===== the day's openings ===== -/
def loD (x : PB) : Int32 := if x.ct = 0 then 0 else x.nu (x.ct - 1) + 1
def dyStep (T : Nat → Int32) (n : Nat) (x : PB) : PB :=
  if isW T x.c.2 (ske isL T (n - x.c.2) x.c.2 - x.c.2) (sB 13) = false then (x.pu (1, x.c.2))
  else if 12 ≤ x.ct then (x.pu (3, x.c.2))
  else (mkP (enB T n (nuB T n (nuB T n (0, ske isL T (n - x.c.2) x.c.2) (loD x) 287) 1 20)) (x.td) (up (up x.nu x.ct (nuV T n (ske isL T (n - x.c.2) x.c.2))) (20 + x.ct) (nuV T n (nuB T n (0, ske isL T (n - x.c.2) x.c.2) (loD x) 287).2)) (x.ct + 1))
theorem dyStep_up {T : Nat → Int32} {n : Nat} {x : PB} (hc : x.c.2 ≤ n) (h : (dyStep T n x).c.1 = 0) : x.c.2 < (dyStep T n x).c.2 ∧ (dyStep T n x).c.2 ≤ n ∧ (dyStep T n x).ct = x.ct + 1 ∧ x.ct < 12 := by
  have hb := ske_bd isL T (n - x.c.2) x.c.2
  unfold dyStep at h ⊢
  generalize ske isL T (n - x.c.2) x.c.2 = e at *
  by_cases q1 : isW T x.c.2 (e - x.c.2) (sB 13) = false
  · rw [if_pos q1] at h; exact absurd (show (1 : Int32) = 0 from h) (by decide)
  · rw [if_neg q1] at h ⊢
    by_cases q2 : 12 ≤ x.ct
    · rw [if_pos q2] at h; exact absurd (show (3 : Int32) = 0 from h) (by decide)
    · rw [if_neg q2] at h ⊢
      have a0 := enB_0 h
      have a1 := nuB_up (c := (0, e)) (show e ≤ n by omega) (nuB_0 a0)
      have a2 := nuB_up a1.2 a0
      have a3 := enB_up a2.2 h
      have a4 : e ≤ (nuB T n (0, e) (loD x) 287).2 := a1.1
      exact ⟨by show x.c.2 < (enB T n (nuB T n (nuB T n (0, e) (loD x) 287) 1 20)).2; omega, a3.2, rfl, by omega⟩
theorem fOk_dy {T : Nat → Int32} {n : Nat} {x : PB} : fOk (dyStep T n x).c := by
  unfold dyStep
  generalize ske isL T (n - x.c.2) x.c.2 = e
  by_cases q1 : isW T x.c.2 (e - x.c.2) (sB 13) = false
  · rw [if_pos q1]; exact Or.inr (show ¬ (1 : Int32) ≤ 0 by decide)
  · rw [if_neg q1]
    by_cases q2 : 12 ≤ x.ct
    · rw [if_pos q2]; exact Or.inr (show ¬ (3 : Int32) ≤ 0 by decide)
    · rw [if_neg q2]
      exact fOk_en (fOk_nu (fOk_nu (show fOk ((0, e) : Cu) from Or.inl rfl)))
def DyC (n : Nat) (T : Nat → Int32) (I : Iv) (x : PB) : Prop := I 2 = T ∧ CuC n I x.c ∧ (x.c.1 = 0 → (∀ j, j < x.ct → I 5 j = x.nu j ∧ I 6 j = x.nu (20 + j)) ∧ I 1 5 = n3 x.ct ∧ x.ct ≤ 12)
def FdC (I I' : Iv) : Prop := (∀ b, b ≠ 1 → b ≠ 5 → b ≠ 6 → I' b = I b) ∧ ∀ k, k ≠ 2 → k ≠ 3 → k ≠ 4 → k ≠ 5 → I' 1 k = I 1 k
theorem FdC.tr {I I1 I2 : Iv} (h : FdC I I1) (k : FdC I1 I2) : FdC I I2 := ⟨fun b x y z => (k.1 b x y z).trans (h.1 b x y z), fun j a b c d => (k.2 j a b c d).trans (h.2 j a b c d)⟩
theorem SmD.fd {I I' : Iv} (h : SmD I I') : FdC I I' := ⟨fun b x _ _ => h.1 b x, h.2⟩
theorem up_nu {f : Nat → Int32} {t j : Nat} {v1 v2 : Int32} (ht : t < 12) (hj : j < t + 1) : up (up f t v1) (20 + t) v2 j = (if j = t then v1 else f j) ∧ up (up f t v1) (20 + t) v2 (20 + j) = (if j = t then v2 else f (20 + j)) := by
  unfold up
  constructor
  · rw [if_neg (by omega)]
  · by_cases q : j = t
    · rw [if_pos (by omega), if_pos q]
    · rw [if_neg (by omega), if_neg (by omega), if_neg q]
theorem loD_eq {x : PB} {R : Nat → Int32} (ht : x.ct ≤ 12) (h : ∀ j, j < x.ct → R j = x.nu j) : (if n3 x.ct ≤ 0 then 0 else R (n3 x.ct - 1).toNatClampNeg + 1) = loD x := by
  unfold loD
  by_cases q : x.ct = 0
  · rw [if_pos q, if_pos (by rw [q]; decide)]
  · rw [if_neg q, if_neg (by rw [show (0 : Int32) = n3 0 from rfl, n3_le (by omega) (by omega)]; omega), show (1 : Int32) = n3 1 from rfl, n3_sub (by omega), n3_tn (by omega), h _ (by omega)]
theorem openC {n : Nat} {T : Nat → Int32} {I : Iv} {x : PB} (J : Jv) (hn : n ≤ 300) (h : DyC n T I x) (h0 : x.c.1 = 0) :
    ∃ I' : Iv, fn_X5_readOpening I J = (I', J) ∧ DyC n T I' (dyStep T n x) ∧ FdC I I' := by
  obtain ⟨hT, hC, hv⟩ := h
  obtain ⟨ha, h2⟩ := cuC_q hC h0
  obtain ⟨v4, v5, v6⟩ := hv h0
  have h1 := hC.1
  have h3 : I 1 3 = 0 := hC.2.1.trans h0
  have h4 : I 1 4 = -1 := by rw [hC.2.2.2, if_pos h0]
  have hb := ske_bd isL T (n - x.c.2) x.c.2
  unfold fn_X5_readOpening
  rw [l_t, h2, fX5_word J hn ha h1 h2, hT, b_n2_mk]
  have lo := loD_eq (x := x) (R := I 5) v6 (fun j hj => (v4 j hj).1)
  unfold dyStep
  generalize x.c.2 = s at *
  generalize ske isL T (n - s) s = e at *
  have r2 : (wI I 1 2 (n3 e)) 2 = T := (wI_row (by decide)).trans hT
  rw [fX5_isWord J (by decide) wI_self hb.1 (by omega), r2, b_n3_mk]
  have sm : SmC I (wI I 1 2 (n3 e)) := smC_w smC_rfl (by omega)
  have g1 : wI I 1 2 (n3 e) 1 1 = n3 n := by rw [wI_ne (by omega)]; exact h1
  have g2 : wI I 1 2 (n3 e) 1 2 = n3 e := wI_self
  have g3 : wI I 1 2 (n3 e) 1 3 = 0 := by rw [wI_ne (by omega)]; exact h3
  have g4 : wI I 1 2 (n3 e) 1 4 = -1 := by rw [wI_ne (by omega)]; exact h4
  have g5 : wI I 1 2 (n3 e) 1 5 = n3 x.ct := by rw [wI_ne (by omega)]; exact v5
  have gr5 : (wI I 1 2 (n3 e)) 5 = I 5 := wI_row (by decide)
  have gr6 : (wI I 1 2 (n3 e)) 6 = I 6 := wI_row (by decide)
  generalize wI I 1 2 (n3 e) = I1 at *
  have bad : ∀ f : Int32, ¬ f = 0 → ∃ I' : Iv, b_n2 (fn_X5_faultAt f (n3 s) I1 J) (fun (I52 : Iv) (J53 : Jv) => (I52, J53)) = (I', J) ∧ DyC n T I' (x.pu (f, s)) ∧ FdC I I' := by
    intro f hf
    unfold fn_X5_faultAt
    dsimp only [l_t]
    refine ⟨wI (wI I1 1 3 f) 1 4 (n3 s), rfl, ⟨by rw [wI_row (by decide), wI_row (by decide)]; exact r2, cuC_mkf (q := e) (by rw [wI_ne (by omega), wI_ne (by omega)]; exact g1) hf (by rw [wI_ne (by omega), wI_self]) (by omega) (by rw [wI_ne (by omega), wI_ne (by omega)]; exact g2) wI_self, fun z => absurd z hf⟩, (smC_w (smC_w sm (by omega)) (by omega)).d.fd⟩
  by_cases q : isW T s (e - s) (sB 13) = false
  · rw [if_pos (by rw [b3_0]; exact q), if_pos q]
    exact bad 1 (by decide)
  · rw [if_neg (by rw [b3_0]; exact q), if_neg q, g5]
    by_cases q2 : 12 ≤ x.ct
    · rw [if_neg (by rw [show (12 : Int32) = n3 12 from rfl, n3_lt (by omega) (by omega)]; omega), if_pos q2]
      exact bad 3 (by decide)
    · rw [if_pos (by rw [show (12 : Int32) = n3 12 from rfl, n3_lt (by omega) (by omega)]; omega), if_neg q2, l_t, j_ite, gr5, lo, n3_tn (by omega)]
      obtain ⟨w1, I2, e2, s2, u2, k2⟩ := numC J (loD x) 287 hn (cuC_mk0 g1 g3 (by omega) g2 g4)
      rw [r2] at u2 k2
      have u2' : CuC n (wI I2 5 x.ct w1) (nuB T n (0, e) (loD x) 287) := cuC_of (wI_row (by decide)) u2
      have y2 : (wI I2 5 x.ct w1) 2 = T := (wI_row (by decide)).trans ((s2.1 2 (by decide)).trans r2)
      obtain ⟨w2, I3, e3, s3, u3, k3⟩ := numC J 1 20 hn u2'
      rw [y2] at u3 k3
      have u3' : CuC n (wI I3 6 x.ct w2) (nuB T n (nuB T n (0, e) (loD x) 287) 1 20) := cuC_of (wI_row (by decide)) u3
      have y3 : (wI I3 6 x.ct w2) 2 = T := (wI_row (by decide)).trans ((s3.1 2 (by decide)).trans y2)
      obtain ⟨I4, e4, s4, u4, k4⟩ := endC J hn u3'
      rw [y3] at u4 k4
      rw [e2, b_n3_mk, l_t, e3, b_n3_mk, l_t, e4, b_n2_mk]
      refine ⟨I4, rfl, ⟨(s4.1 2 (by decide)).trans y3, u4, fun z => ⟨fun j hj => ?_, ?_, ?_⟩⟩, ?_⟩
      · have z1 := enB_0 z
        have hj' : j < x.ct + 1 := hj
        have uu := up_nu (f := x.nu) (v1 := nuV T n e) (v2 := nuV T n (nuB T n (0, e) (loD x) 287).2) (show x.ct < 12 by omega) hj'
        show I4 5 j = up (up x.nu x.ct (nuV T n e)) (20 + x.ct) (nuV T n (nuB T n (0, e) (loD x) 287).2) j ∧ I4 6 j = up (up x.nu x.ct (nuV T n e)) (20 + x.ct) (nuV T n (nuB T n (0, e) (loD x) 287).2) (20 + j)
        rw [uu.1, uu.2, s4.1 5 (by decide), s4.1 6 (by decide), wI_row (show (5 : Nat) ≠ 6 by decide), s3.1 5 (by decide), k2 (nuB_0 z1), k3 z1]
        by_cases qj : j = x.ct
        · rw [if_pos qj, if_pos qj, qj, wI_self, wI_self]; exact ⟨rfl, rfl⟩
        · rw [if_neg qj, if_neg qj, wI_ne (Or.inr qj), wI_ne (Or.inr qj), s2.1 5 (by decide), s3.1 6 (by decide), wI_row (show (6 : Nat) ≠ 5 by decide), s2.1 6 (by decide), gr5, gr6]
          exact v4 j (by omega)
      · rw [k4 z, wI_row (by decide), s3.2 5 (by decide) (by decide) (by decide), wI_row (by decide), s2.2 5 (by decide) (by decide) (by decide), g5, n3_up]; rfl
      · show x.ct + 1 ≤ 12; omega
      · refine ⟨fun b b1 b5 b6 => ?_, fun k a b c d => ?_⟩
        · rw [s4.1 b b1, wI_row b6, s3.1 b b1, wI_row b5, s2.1 b b1, sm.1 b b1]
        · rw [s4.2 k a b c d, wI_row (by decide), s3.2 k a b c, wI_row (by decide), s2.2 k a b c, sm.2 k a b c]
