/-! ===== THE BOX's numbers, THE DAY's openings: in bounds as they are read ===== -/
def BN (nu : Nat → Int32) : Prop := BX (fun _ => nu)
theorem nuF_b {T : Nat → Int32} {n a : Nat} {lo hi : Int32} (h : nuF T n a lo hi = 0) : lo ≤ nuV T n a ∧ nuV T n a ≤ hi := by
  unfold nuF at h
  by_cases q : nuE T n a = nuS T n a
  · rw [if_pos q] at h; exact absurd h (by decide)
  · rw [if_neg q] at h
    by_cases z : 3 < nuE T n a - nuS T n a ∨ nuV T n a < lo ∨ hi < nuV T n a
    · rw [if_pos z] at h; exact absurd h (by decide)
    · exact ⟨Int32.not_lt.mp (fun y => z (Or.inr (Or.inl y))), Int32.not_lt.mp (fun y => z (Or.inr (Or.inr y)))⟩
theorem nuB_b {T : Nat → Int32} {n : Nat} {c : Cu} {lo hi : Int32} (h : (nuB T n c lo hi).1 = 0) : lo ≤ nuV T n c.2 ∧ nuV T n c.2 ≤ hi := by
  have h0 := nuB_0 h
  unfold nuB at h
  rw [if_pos h0] at h
  by_cases q : nuF T n c.2 lo hi = 0
  · exact nuF_b q
  · rw [if_neg q] at h; exact absurd h q
theorem bnd3 {x lo hi : Int32} (h : lo ≤ x ∧ x ≤ hi) : lo.toInt ≤ x.toInt ∧ x.toInt ≤ hi.toInt := ⟨Int32.le_iff_toInt_le.mp h.1, Int32.le_iff_toInt_le.mp h.2⟩
theorem lohi : ∀ k : Fin 12, (loK k.val).toInt = (if k.val = 0 ∨ k.val = 5 ∨ k.val = 9 then 1 else 0) ∧ (hiK k.val).toInt = (if k.val = 0 then 999 else if k.val = 6 ∨ k.val = 7 then 200 else if k.val = 8 then 2 else if k.val = 11 then 400 else 99) := by decide +kernel
theorem bn_up {nu : Nat → Int32} {k : Nat} {v : Int32} (hk : k < 12) (h : BN nu) (hv : loK k ≤ v ∧ v ≤ hiK k) : BN (up nu k v) := by
  have b := bnd3 hv
  have l := lohi ⟨k, hk⟩
  simp only at l
  rw [l.1, l.2] at b
  have e : ∀ j, j ≠ k → up nu k v j = nu j := fun j hj => if_neg hj
  have e0 : up nu k v k = v := if_pos rfl
  unfold BN BX at h ⊢
  obtain ⟨h0, h1, h2, h3, h4, h5, h6, h7, h8, h9, h10, h11, h12, h13, h14⟩ := h
  simp only at h0 h1 h2 h3 h4 h5 h6 h7 h8 h9 h10 h11 h12 h13 h14 ⊢
  have one : ∀ (j : Nat) (lo hi : Int), (lo ≤ (nu j).toInt ∧ (nu j).toInt ≤ hi) → (j = k → lo ≤ v.toInt ∧ v.toInt ≤ hi) → lo ≤ (up nu k v j).toInt ∧ (up nu k v j).toInt ≤ hi := by
    intro j lo hi a c
    by_cases q : j = k
    · rw [q, e0]; exact c q
    · rw [e j q]; exact a
  refine ⟨one 0 _ _ h0 (fun q => ?_), one 1 _ _ h1 (fun q => ?_), one 2 _ _ h2 (fun q => ?_), one 3 _ _ h3 (fun q => ?_), one 4 _ _ h4 (fun q => ?_), one 5 _ _ h5 (fun q => ?_), one 6 _ _ h6 (fun q => ?_), one 7 _ _ h7 (fun q => ?_), one 8 _ _ h8 (fun q => ?_), one 9 _ _ h9 (fun q => ?_), one 10 _ _ h10 (fun q => ?_), one 11 _ _ h11 (fun q => ?_), one 12 _ _ h12 (fun q => ?_), one 13 _ _ h13 (fun q => ?_), one 14 _ _ h14 (fun q => ?_)⟩
  all_goals first | omega | (subst q; simp at b; omega)
theorem bn_st {nu : Nat → Int32} {a b c : Int32} (h : BN nu) (ha : 0 ≤ a.toInt ∧ a.toInt ≤ 24) (hb : 0 ≤ b.toInt ∧ b.toInt ≤ 24) (hc : 0 ≤ c.toInt ∧ c.toInt ≤ 200) : BN (up (up (up nu 12 a) 13 b) 14 c) := by
  unfold BN BX at h ⊢
  obtain ⟨h0, h1, h2, h3, h4, h5, h6, h7, h8, h9, h10, h11, h12, h13, h14⟩ := h
  refine ⟨h0, h1, h2, h3, h4, h5, h6, h7, h8, h9, h10, h11, ?_, ?_, ?_⟩
  · show -1 ≤ a.toInt ∧ a.toInt ≤ 24; omega
  · show -1 ≤ b.toInt ∧ b.toInt ≤ 24; omega
  · show 0 ≤ c.toInt ∧ c.toInt ≤ 200; exact hc
theorem clN_b {T : Nat → Int32} {n k : Nat} {c : Cu} {nu : Nat → Int32} (hk : k < 13) (h : BN nu) (z : (clN T n k c nu).1.1 = 0) : BN (clN T n k c nu).2 := by
  unfold clN at z ⊢
  by_cases q : k = 12
  · rw [if_pos q] at z ⊢
    have z1 := nuB_0 z
    have z2 := nuB_0 z1
    have a := bnd3 (nuB_b z2)
    have b := bnd3 (nuB_b z1)
    have d := bnd3 (nuB_b z)
    rw [show (0 : Int32).toInt = 0 by decide, show (24 : Int32).toInt = 24 by decide] at a
    rw [show (24 : Int32).toInt = 24 by decide] at b
    rw [show (0 : Int32).toInt = 0 by decide, show (200 : Int32).toInt = 200 by decide] at d
    have u : (nuV T n c.2 + 1).toInt = (nuV T n c.2).toInt + 1 := by
      rw [i3_add (by rw [show (1 : Int32).toInt = 1 by decide]; omega) (by rw [show (1 : Int32).toInt = 1 by decide]; omega)]; rfl
    rw [u] at b
    exact bn_st h a (by omega) d
  · rw [if_neg q] at z ⊢
    exact bn_up (by omega) h (nuB_b z)
theorem clStep_b {T : Nat → Int32} {n : Nat} {x : PB} (h : BN x.nu) (z : (clStep T n x).c.1 = 0) : BN (clStep T n x).nu := by
  unfold clStep at z ⊢
  generalize ske isL T (n - x.c.2) x.c.2 = e at *
  rcases kdF_or T x.c.2 (e - x.c.2) 13 0 with hk | ⟨k, hk, -, hk2, -⟩
  · rw [hk, if_pos (by decide)] at z
    exact absurd (show (1 : Int32) = 0 from z) (by decide)
  · have hneg : ¬ n3 k < 0 := n3_no0 (by omega)
    rw [hk, if_neg hneg, n3_tn (by omega)] at z ⊢
    by_cases q2 : x.td k = true
    · rw [if_pos q2] at z; exact absurd (show (3 : Int32) = 0 from z) (by decide)
    · rw [if_neg q2] at z ⊢
      exact clN_b (by omega) h (enB_0 z)
theorem lp_0 {T : Nat → Int32} {n : Nat} {st : PB → PB} : ∀ (F : Nat) (x : PB), (lp T n st F x).c.1 = 0 → x.c.1 = 0
  | 0, x, h => by simp only [lp] at h; exact skp_c.mp h
  | F + 1, x, h => by
    by_cases q : x.c.1 = 0
    · exact q
    · simp only [lp] at h
      rw [if_neg (fun z => q (skp_c.mp z.1))] at h
      exact absurd (skp_c.mp h) q
theorem lp_inv {T : Nat → Int32} {n : Nat} {st : PB → PB} {P : PB → Prop} (hs : ∀ x, P x → P (skp T n x)) (ht : ∀ x, P x → x.c.1 = 0 → x.c.2 < n → (st x).c.1 = 0 → P (st x)) : ∀ (F : Nat) (x : PB), P x → (lp T n st F x).c.1 = 0 → P (lp T n st F x)
  | 0, x, h, _ => by simp only [lp]; exact hs x h
  | F + 1, x, h, z => by
    simp only [lp] at z ⊢
    by_cases q : (skp T n x).c.1 = 0 ∧ (skp T n x).c.2 < n
    · rw [if_pos q] at z ⊢
      exact lp_inv hs ht F _ (ht _ (hs x h) q.1 q.2 (lp_0 F _ z)) z
    · rw [if_neg q]; exact hs x h
theorem skp_nu {T : Nat → Int32} {n : Nat} {x : PB} : (skp T n x).nu = x.nu ∧ (skp T n x).ct = x.ct := by
  by_cases h : x.c.1 = 0
  · rw [skp_0 h]; exact ⟨rfl, rfl⟩
  · rw [skp_f h]; exact ⟨rfl, rfl⟩
theorem bn_0 : BN nu0 := by unfold BN BX; decide +kernel
theorem box_bn {T : Nat → Int32} {n : Nat} (z : (boxP T n).c.1 = 0) : BN (boxP T n).nu := by
  have k : (lp T n (clStep T n) (n + 2) x0B).c.1 = 0 → BN (lp T n (clStep T n) (n + 2) x0B).nu := lp_inv (P := fun x => BN x.nu) (fun x h => by rw [skp_nu.1]; exact h) (fun x h _ _ y => clStep_b h y) (n + 2) x0B bn_0
  unfold boxP fin4 at z ⊢
  generalize lp T n (clStep T n) (n + 2) x0B = x at *
  by_cases q : x.c.1 = 0 ∧ ¬ x.nu 7 < x.nu 6
  · rw [if_pos q] at z; exact absurd (show (4 : Int32) = 0 from z) (by decide)
  · rw [if_neg q] at z ⊢; exact k z
/-- the openings in bounds -/
def DN (x : PB) : Prop := ∀ j, j < x.ct → (0 ≤ (x.nu j).toInt ∧ (x.nu j).toInt ≤ 287) ∧ (1 ≤ (x.nu (20 + j)).toInt ∧ (x.nu (20 + j)).toInt ≤ 20)
theorem loD_b {x : PB} (h : DN x) : 0 ≤ (loD x).toInt := by
  unfold loD
  by_cases q : x.ct = 0
  · rw [if_pos q]; decide
  · rw [if_neg q]
    have b := (h (x.ct - 1) (by omega)).1
    rw [i3_add (by rw [show (1 : Int32).toInt = 1 by decide]; omega) (by rw [show (1 : Int32).toInt = 1 by decide]; omega), show (1 : Int32).toInt = 1 by decide]; omega
theorem dyStep_b {T : Nat → Int32} {n : Nat} {x : PB} (h : DN x) (hc : x.c.2 ≤ n) (z : (dyStep T n x).c.1 = 0) : DN (dyStep T n x) := by
  have u := dyStep_up hc z
  have hl := loD_b h
  unfold dyStep at z ⊢
  generalize ske isL T (n - x.c.2) x.c.2 = e at *
  by_cases q1 : isW T x.c.2 (e - x.c.2) (sB 13) = false
  · rw [if_pos q1] at z; exact absurd (show (1 : Int32) = 0 from z) (by decide)
  · rw [if_neg q1] at z ⊢
    by_cases q2 : 12 ≤ x.ct
    · rw [if_pos q2] at z; exact absurd (show (3 : Int32) = 0 from z) (by decide)
    · rw [if_neg q2] at z ⊢
      have z1 := enB_0 z
      have z2 := nuB_0 z1
      have a := bnd3 (nuB_b z2)
      have b := bnd3 (nuB_b z1)
      rw [show (287 : Int32).toInt = 287 by decide] at a
      rw [show (1 : Int32).toInt = 1 by decide, show (20 : Int32).toInt = 20 by decide] at b
      intro j hj
      have hj' : j < x.ct + 1 := hj
      have uu := up_nu (f := x.nu) (v1 := nuV T n e) (v2 := nuV T n (nuB T n (0, e) (loD x) 287).2) (show x.ct < 12 by omega) hj'
      show (0 ≤ (up (up x.nu x.ct (nuV T n e)) (20 + x.ct) (nuV T n (nuB T n (0, e) (loD x) 287).2) j).toInt ∧ (up (up x.nu x.ct (nuV T n e)) (20 + x.ct) (nuV T n (nuB T n (0, e) (loD x) 287).2) j).toInt ≤ 287) ∧ (1 ≤ (up (up x.nu x.ct (nuV T n e)) (20 + x.ct) (nuV T n (nuB T n (0, e) (loD x) 287).2) (20 + j)).toInt ∧ (up (up x.nu x.ct (nuV T n e)) (20 + x.ct) (nuV T n (nuB T n (0, e) (loD x) 287).2) (20 + j)).toInt ≤ 20)
      rw [uu.1, uu.2]
      by_cases y : j = x.ct
      · rw [if_pos y, if_pos y]
        exact ⟨⟨by have := a.1; exact Int.le_trans hl this, a.2⟩, b⟩
      · rw [if_neg y, if_neg y]; exact h j (by omega)
theorem day_dn {T : Nat → Int32} {n : Nat} (z : (dayP T n).c.1 = 0) : DN (dayP T n) := by
  have k := lp_inv (T := T) (n := n) (st := dyStep T n) (P := fun x => DN x) (fun x h => by
    have e := skp_nu (T := T) (n := n) (x := x)
    unfold DN at h ⊢
    rw [e.1, e.2]; exact h) (fun x h _ hc y => dyStep_b h (Nat.le_of_lt hc) y) (n + 2) x0D (fun j hj => absurd hj (Nat.not_lt_zero _))
  exact k z
