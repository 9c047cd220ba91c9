/-! ===== put, thaw ===== -/
def fsN (th : Nat → Bool) : Nat → Nat → Nat
  | 0, k => k
  | f + 1, k => if th k = true then fsN th f (k + 1) else k
theorem fsN_b {th : Nat → Bool} : ∀ (f k : Nat), k ≤ fsN th f k ∧ fsN th f k ≤ k + f ∧ (fsN th f k < k + f → th (fsN th f k) = false)
  | 0, k => ⟨Nat.le_refl _, Nat.le_refl _, fun h => absurd h (Nat.lt_irrefl _)⟩
  | f + 1, k => by
    simp only [fsN]
    by_cases q : th k = true
    · rw [if_pos q]
      have := fsN_b (th := th) f (k + 1)
      exact ⟨by omega, by omega, fun h => this.2.2 (by omega)⟩
    · rw [if_neg q]
      exact ⟨Nat.le_refl _, by omega, fun _ => by simpa using q⟩
theorem fnC {I : Iv} {J : Jv} {o : Nat} {th : Nat → Bool} (ht : ∀ k, k < 8 → (th k = true ∧ ¬ I (o + 3) k = 0) ∨ (th k = false ∧ I (o + 3) k = 0)) : ∀ (f k fu : Nat), k + f = 8 → f < fu → ∀ K : Int32 → Int32 × Iv × Jv, fl_X6_firstNotThere_2_0 I J o K fu (n3 k) = (if fsN th f k = 8 then K 8 else (n3 (fsN th f k), I, J))
  | f, k, 0, _, h => absurd h (Nat.not_lt_zero _)
  | 0, k, fu + 1, hk, _ => fun K => by
    have : k = 8 := by omega
    subst this
    rw [fl_X6_firstNotThere_2_0.eq_2, if_pos (by decide)]
    simp only [fsN]
    rw [if_pos trivial]; rfl
  | f + 1, k, fu + 1, hk, hf => fun K => by
    have s1 : th k = true → fsN th (f + 1) k = fsN th f (k + 1) := fun h => if_pos h
    have s2 : th k = false → fsN th (f + 1) k = k := fun h => if_neg (by rw [h]; decide)
    rw [fl_X6_firstNotThere_2_0.eq_2, if_neg (by rw [show (8 : Int32) = n3 8 from rfl, n3_le (by omega) (by omega)]; omega), n3_tn (by omega)]
    rcases ht k (by omega) with ⟨a, b⟩ | ⟨a, b⟩
    · rw [if_neg b, s1 a, n3_up]
      exact fnC ht f (k + 1) fu (by omega) (by omega) K
    · rw [if_pos b, s2 a, if_neg (by omega)]
theorem fnR {C : Iv} {D : Jv} {th : Nat → Bool} (ht : ∀ k, k < 8 → (th k = true ∧ D 79 (12 + k) = 1) ∨ (th k = false ∧ ¬ D 79 (12 + k) = 1)) : ∀ (f k fu : Nat), k + f = 8 → f < fu → ∀ K : Int32 → Int32 × Iv × Jv, fl_X10_put_63_0 C D K fu (n3 k) = K (n3 (fsN th f k))
  | f, k, 0, _, h => absurd h (Nat.not_lt_zero _)
  | 0, k, fu + 1, hk, _ => fun K => by
    rw [fl_X10_put_63_0.eq_2, j_n, if_pos (by rw [show (8 : Int32) = n3 8 from rfl, n3_le (by omega) (by omega)]; omega)]; rfl
  | f + 1, k, fu + 1, hk, hf => fun K => by
    rw [fl_X10_put_63_0.eq_2, j_n, if_neg (by rw [show (8 : Int32) = n3 8 from rfl, n3_le (by omega) (by omega)]; omega), n3_tn (by omega)]
    simp only [fsN]
    rcases ht k (by omega) with ⟨a, b⟩ | ⟨a, b⟩
    · rw [if_pos b, if_pos a, n3_up]
      exact fnR ht f (k + 1) fu (by omega) (by omega) K
    · rw [if_neg b, if_neg (by rw [a]; decide)]
theorem th_both {N : Int} {I : Iv} {J D : Jv} (h : STm N 16 0 I J D) : (∀ k, k < 8 → (thS 16 I k = true ∧ ¬ I 19 k = 0) ∨ (thS 16 I k = false ∧ I 19 k = 0)) ∧ ∀ k, k < 8 → (thS 16 I k = true ∧ D 79 (12 + k) = 1) ∨ (thS 16 I k = false ∧ ¬ D 79 (12 + k) = 1) := by
  constructor <;> intro k hk <;> rcases h.2.2.1 k hk with ⟨a1, a2, a3⟩ | ⟨a1, a2, a3⟩
  · have a1' : I 19 k = 0 := a1
    exact Or.inr ⟨by unfold thS; rw [a1]; decide, a1'⟩
  · have a1' : I 19 k = 1 := a1
    exact Or.inl ⟨by unfold thS; rw [a1]; decide, by rw [a1']; decide⟩
  · rw [show 0 + 12 + k = 12 + k by omega] at a2
    exact Or.inr ⟨by unfold thS; rw [a1]; decide, by rw [a2]; decide⟩
  · rw [show 0 + 12 + k = 12 + k by omega] at a2
    exact Or.inl ⟨by unfold thS; rw [a1]; decide, a2⟩
theorem deg_b {x : Int32} (h : -3000 ≤ x ∧ x ≤ 9000) : -3000 ≤ x.toInt ∧ x.toInt ≤ 9000 := by
  have h1 := Int32.le_iff_toInt_le.mp h.1
  have h2 := Int32.le_iff_toInt_le.mp h.2
  rw [show (-3000 : Int32).toInt = -3000 by decide] at h1
  rw [show (9000 : Int32).toInt = 9000 by decide] at h2
  exact ⟨h1, h2⟩
/-- both refuse -/
theorem cq_ref {c : Nat} {v : Int32} {v1 v2 : Int32} {I I1 I2 : Iv} {J J1 J2 : Jv} (h : CQx c I J) (e1 : ((v, I, J) : Int32 × Iv × Jv) = (v1, I1, J1)) (e2 : ∀ (C : Iv) (D : Jv), fn_X10_begin I1 J1 = (C, D) → ((v, C, D) : Int32 × Iv × Jv) = (v2, I2, J2)) : v1 = v2 ∧ CQx (c + 1) I2 J2 := by
  cases e1
  obtain ⟨C, D, eb, n2, lo, lj, q⟩ := cq_open (I1 := I) (J1 := J) h (fun _ _ => rfl) rfl
  have e := e2 C D eb
  cases e
  exact ⟨rfl, cq_same eb q⟩
theorem cq_put {c : Nat} {s w cp lw hg v1 v2 : Int32} {I I1 I2 : Iv} {J J1 J2 : Jv} (hc : c ≤ 600) (h : CQx c I J) (e1 : fn_X9_put s w cp lw hg I J = (v1, I1, J1)) (e2 : fn_X10_put s w cp lw hg I1 J1 = (v2, I2, J2)) : v1 = v2 ∧ CQx (c + 1) I2 J2 := by
  unfold fn_X9_put at e1
  unfold fn_X10_put at e2
  rw [isSh9, b_n3_mk] at e1
  by_cases hs : 0 ≤ s ∧ s ≤ 2
  rotate_left
  · rw [decide_eq_false hs, if_pos (show b3 false = 0 from rfl)] at e1
    exact cq_ref h e1 (fun C D eb => by rw [eb, b_n2_mk, isSh10, b_n3_mk, decide_eq_false hs, if_pos (show b3 false = 0 from rfl)] at e2; exact e2)
  rw [decide_eq_true hs, if_neg (show ¬ b3 true = 0 by decide), isDeg9, b_n3_mk] at e1
  by_cases hw : -3000 ≤ w ∧ w ≤ 9000
  rotate_left
  · rw [decide_eq_false hw, if_pos (show b3 false = 0 from rfl)] at e1
    exact cq_ref h e1 (fun C D eb => by rw [eb, b_n2_mk, isSh10, b_n3_mk, decide_eq_true hs, if_neg (show ¬ b3 true = 0 by decide), isDeg10, b_n3_mk, decide_eq_false hw, if_pos (show b3 false = 0 from rfl)] at e2; exact e2)
  rw [decide_eq_true hw, if_neg (show ¬ b3 true = 0 by decide)] at e1
  have pre : ∀ (C : Iv) (D : Jv), fn_X10_begin I1 J1 = (C, D) → fn_X10_put s w cp lw hg I1 J1 = (v2, I2, J2) := fun _ _ _ => by unfold fn_X10_put; exact e2
  by_cases hp : 1 ≤ cp ∧ cp ≤ 200
  rotate_left
  · have e1' : ((-1000000002, I, J) : Int32 × Iv × Jv) = (v1, I1, J1) := by
      by_cases h1 : cp < 1
      · rw [if_pos h1] at e1; exact e1
      · rw [if_neg h1, if_neg (fun z => hp ⟨Int32.not_lt.mp h1, z⟩)] at e1; exact e1
    exact cq_ref h e1' (fun C D eb => by rw [eb, b_n2_mk, isSh10, b_n3_mk, decide_eq_true hs, if_neg (show ¬ b3 true = 0 by decide), isDeg10, b_n3_mk, decide_eq_true hw, if_neg (show ¬ b3 true = 0 by decide), fX10_in3 cp 1 200 1 200 (by decide) (by decide), b_n3_mk, decide_eq_false hp, if_pos (show b3 false = 0 from rfl)] at e2; exact e2)
  rw [if_neg (Int32.not_lt.mpr hp.1), if_pos hp.2, isDeg9, b_n3_mk] at e1
  by_cases hl : -3000 ≤ lw ∧ lw ≤ 9000
  rotate_left
  · rw [decide_eq_false hl, if_pos (show b3 false = 0 from rfl)] at e1
    exact cq_ref h e1 (fun C D eb => by rw [eb, b_n2_mk, isSh10, b_n3_mk, decide_eq_true hs, if_neg (show ¬ b3 true = 0 by decide), isDeg10, b_n3_mk, decide_eq_true hw, if_neg (show ¬ b3 true = 0 by decide), fX10_in3 cp 1 200 1 200 (by decide) (by decide), b_n3_mk, decide_eq_true hp, if_neg (show ¬ b3 true = 0 by decide), isDeg10, b_n3_mk, decide_eq_false hl, if_pos (show b3 false = 0 from rfl)] at e2; exact e2)
  rw [decide_eq_true hl, if_neg (show ¬ b3 true = 0 by decide), isDeg9, b_n3_mk] at e1
  by_cases hh : -3000 ≤ hg ∧ hg ≤ 9000
  rotate_left
  · rw [decide_eq_false hh, if_pos (show b3 false = 0 from rfl)] at e1
    exact cq_ref h e1 (fun C D eb => by rw [eb, b_n2_mk, isSh10, b_n3_mk, decide_eq_true hs, if_neg (show ¬ b3 true = 0 by decide), isDeg10, b_n3_mk, decide_eq_true hw, if_neg (show ¬ b3 true = 0 by decide), fX10_in3 cp 1 200 1 200 (by decide) (by decide), b_n3_mk, decide_eq_true hp, if_neg (show ¬ b3 true = 0 by decide), isDeg10, b_n3_mk, decide_eq_true hl, if_neg (show ¬ b3 true = 0 by decide), isDeg10, b_n3_mk, decide_eq_false hh, if_pos (show b3 false = 0 from rfl)] at e2; exact e2)
  rw [decide_eq_true hh, if_neg (show ¬ b3 true = 0 by decide)] at e1
  -- the reference's way up to here
  have e2' : ∀ (C : Iv) (D : Jv), fn_X10_begin I1 J1 = (C, D) → (if lw ≤ hg then fl_X10_put_63_0 C D (fun (x43 : Int32) => if x43 = (8 : Int32) then ((-1000000004 : Int32), C, D) else l_t (wJ D 79 (12 + x43.toNatClampNeg) (1 : Int64)) (fun (J45 : Jv) => l_t (wJ J45 79 (4 + x43.toNatClampNeg) ((Int32.toInt64 w) * (Int32.toInt64 cp))) (fun (J46 : Jv) => l_t (wJ J46 79 (20 + x43.toNatClampNeg) (Int32.toInt64 s)) (fun (J47 : Jv) => l_t (wJ J47 79 (28 + x43.toNatClampNeg) (Int32.toInt64 cp)) (fun (J48 : Jv) => l_t (wJ J48 79 (36 + x43.toNatClampNeg) (Int32.toInt64 lw)) (fun (J50 : Jv) => l_t (wJ J50 79 (44 + x43.toNatClampNeg) (Int32.toInt64 hg)) (fun (J52 : Jv) => l_t (wJ J52 79 56 ((J52 79 56) + ((Int32.toInt64 w) * (Int32.toInt64 cp)))) (fun (J54 : Jv) => (x43, C, J54))))))))) (mU (8 : Int32) ((0 : Int32)) + 1) (0 : Int32) else ((-1000000002 : Int32), C, D)) = (v2, I2, J2) := by
    intro C D eb
    rw [eb, b_n2_mk, isSh10, b_n3_mk, decide_eq_true hs, if_neg (show ¬ b3 true = 0 by decide), isDeg10, b_n3_mk, decide_eq_true hw, if_neg (show ¬ b3 true = 0 by decide), fX10_in3 cp 1 200 1 200 (by decide) (by decide), b_n3_mk, decide_eq_true hp, if_neg (show ¬ b3 true = 0 by decide), isDeg10, b_n3_mk, decide_eq_true hl, if_neg (show ¬ b3 true = 0 by decide), isDeg10, b_n3_mk, decide_eq_true hh, if_neg (show ¬ b3 true = 0 by decide)] at e2
    exact e2
  by_cases ho : lw ≤ hg
  rotate_left
  · rw [if_neg ho] at e1
    exact cq_ref h e1 (fun C D eb => by have z := e2' C D eb; rw [if_neg ho] at z; exact z)
  rw [if_pos ho] at e1
  have tb := th_both h.1
  have fc := fnC (J := J) (o := 16) tb.1 8 0 (mU (8 : Int32) ((0 : Int32)) + 1) rfl (by decide)
  have fc' : fn_X6_firstNotThere 16 I J = (if fsN (thS 16 I) 8 0 = 8 then ((-1 : Int32), I, J) else (n3 (fsN (thS 16 I) 8 0), I, J)) := fc _
  have fb := fsN_b (th := thS 16 I) 8 0
  generalize hf : fsN (thS 16 I) 8 0 = f0 at *
  rw [fc'] at e1
  by_cases h8 : f0 = 8
  · rw [if_pos h8, b_n3_mk, if_neg (show ¬ (0 : Int32) ≤ -1 by decide)] at e1
    refine cq_ref h e1 (fun C D eb => ?_)
    have z := e2' C D eb
    cases e1
    obtain ⟨C', D', eb', n2, lo, lj, q⟩ := cq_open (I1 := I) (J1 := J) h (fun _ _ => rfl) rfl
    rw [eb] at eb'
    cases eb'
    have tr := th_both q.1
    have fr := fnR (C := C) tr.2 8 0 (mU (8 : Int32) ((0 : Int32)) + 1) rfl (by decide)
    rw [hf, h8] at fr
    rw [if_pos ho] at z
    have fr' := fr (fun (x43 : Int32) => if x43 = (8 : Int32) then ((-1000000004 : Int32), C, D) else l_t (wJ D 79 (12 + x43.toNatClampNeg) (1 : Int64)) (fun (J45 : Jv) => l_t (wJ J45 79 (4 + x43.toNatClampNeg) ((Int32.toInt64 w) * (Int32.toInt64 cp))) (fun (J46 : Jv) => l_t (wJ J46 79 (20 + x43.toNatClampNeg) (Int32.toInt64 s)) (fun (J47 : Jv) => l_t (wJ J47 79 (28 + x43.toNatClampNeg) (Int32.toInt64 cp)) (fun (J48 : Jv) => l_t (wJ J48 79 (36 + x43.toNatClampNeg) (Int32.toInt64 lw)) (fun (J50 : Jv) => l_t (wJ J50 79 (44 + x43.toNatClampNeg) (Int32.toInt64 hg)) (fun (J52 : Jv) => l_t (wJ J52 79 56 ((J52 79 56) + ((Int32.toInt64 w) * (Int32.toInt64 cp)))) (fun (J54 : Jv) => (x43, C, J54)))))))))
    exact (fr'.symm.trans z)
  · have hk : f0 < 8 := by omega
    have nt : thS 16 I f0 = false := fb.2.2 (by omega)
    rw [if_neg h8, b_n3_mk, if_pos (show (0 : Int32) ≤ n3 f0 by rw [show (0 : Int32) = n3 0 from rfl, n3_le (by omega) (by omega)]; omega), n3_tn (by omega), l_t, l_t] at e1
    unfold fn_X6_addFood at e1
    rw [if_neg (n3_no0 (by omega)), if_pos (show n3 f0 < 8 by rw [show (8 : Int32) = n3 8 from rfl, n3_lt (by omega) (by omega)]; exact hk), n3_tn (by omega), show (4 : Int32) = n3 4 from rfl, n3_add, n3_tn (by omega), l_t, l_t, l_t, l_t, l_t, b_n2_mk, wJ_self, wJ_row (show (16 + 7 : Nat) ≠ 16 + 1 by decide)] at e1
    cases e1
    obtain ⟨C, D, eb, n2, lo, lj, q⟩ := cq_open (I1 := wI (wI (wI (wI (wI I 21 f0 lw) 22 f0 hg) 19 f0 1) 20 f0 s) 18 (4 + f0) cp) (J1 := wJ (wJ J 17 (4 + f0) (w.toInt64 * cp.toInt64)) 23 2 (J 23 2 + w.toInt64 * cp.toInt64)) h (fun b hb => by rw [wI_row (by omega), wI_row (by omega), wI_row (by omega), wI_row (by omega), wI_row (by omega)]) (by rw [wJ_row (by decide), wJ_row (by decide)])
    have z := e2' C D eb
    have tr := th_both q.1
    have fr := fnR (C := C) tr.2 8 0 (mU (8 : Int32) ((0 : Int32)) + 1) rfl (by decide)
    rw [hf] at fr
    rw [if_pos ho] at z
    have fr' := fr (fun (x43 : Int32) => if x43 = (8 : Int32) then ((-1000000004 : Int32), C, D) else l_t (wJ D 79 (12 + x43.toNatClampNeg) (1 : Int64)) (fun (J45 : Jv) => l_t (wJ J45 79 (4 + x43.toNatClampNeg) ((Int32.toInt64 w) * (Int32.toInt64 cp))) (fun (J46 : Jv) => l_t (wJ J46 79 (20 + x43.toNatClampNeg) (Int32.toInt64 s)) (fun (J47 : Jv) => l_t (wJ J47 79 (28 + x43.toNatClampNeg) (Int32.toInt64 cp)) (fun (J48 : Jv) => l_t (wJ J48 79 (36 + x43.toNatClampNeg) (Int32.toInt64 lw)) (fun (J50 : Jv) => l_t (wJ J50 79 (44 + x43.toNatClampNeg) (Int32.toInt64 hg)) (fun (J52 : Jv) => l_t (wJ J52 79 56 ((J52 79 56) + ((Int32.toInt64 w) * (Int32.toInt64 cp)))) (fun (J54 : Jv) => (x43, C, J54)))))))))
    have z2 := fr'.symm.trans z
    rw [if_neg (show ¬ n3 f0 = 8 from fun y => h8 ((n3_inj (b := 8) (by omega) (by omega)).mp y)), n3_tn (by omega), l_t, l_t, l_t, l_t, l_t, l_t, l_t] at z2
    have e56 : ∀ (v : Int64) (k : Nat), 12 ≤ k + 12 → ∀ B : Jv, wJ B 79 k v 79 56 = (if k = 56 then v else B 79 56) := by
      intro v k _ B
      by_cases y : k = 56
      · rw [if_pos y, y, wJ_self]
      · rw [if_neg y, wJ_ne (Or.inr (Ne.symm y))]
    cases z2
    have h2 := q.1.2.2.2.1 2 (by omega) (by omega)
    have h2' : D 79 56 = J 23 2 := h2
    have wb := deg_b hw
    have pb : 1 ≤ cp.toInt ∧ cp.toInt ≤ 200 := by
      have a := Int32.le_iff_toInt_le.mp hp.1
      have b := Int32.le_iff_toInt_le.mp hp.2
      rw [show (1 : Int32).toInt = 1 by decide] at a
      rw [show (200 : Int32).toInt = 200 by decide] at b
      exact ⟨a, b⟩
    have sb : 0 ≤ s.toInt ∧ s.toInt ≤ 2 := by
      have a := Int32.le_iff_toInt_le.mp hs.1
      have b := Int32.le_iff_toInt_le.mp hs.2
      rw [show (0 : Int32).toInt = 0 by decide] at a
      rw [show (2 : Int32).toInt = 2 by decide] at b
      exact ⟨a, b⟩
    have m1 : w.toInt * cp.toInt ≤ 9000 * cp.toInt := Int.mul_le_mul_of_nonneg_right wb.2 (by omega)
    have m2 : -3000 * cp.toInt ≤ w.toInt * cp.toInt := Int.mul_le_mul_of_nonneg_right wb.1 (by omega)
    have mt : (w.toInt64 * cp.toInt64).toInt = w.toInt * cp.toInt := by rw [i6_mul (by rw [wd6, wd6]; omega) (by rw [wd6, wd6]; omega), wd6, wd6]
    have T0 := (tn_of q.1).1
    have wm : 10000 ≤ wmT (I 24 0) := by
      have T0' : 0 ≤ (I 24 0).toInt := T0
      unfold wmT; omega
    refine ⟨rfl, cqx_fin eb (fun _ _ => rfl) (fun r hr => by rw [wJ_row (by omega), wJ_row (by omega), wJ_row (by omega), wJ_row (by omega), wJ_row (by omega), wJ_row (by omega), wJ_row (by omega)]) rfl ?_⟩
    refine cq_now q (STm.mono ?_ (up1 c)) (fun b hb => by rw [wI_row (by omega), wI_row (by omega), wI_row (by omega), wI_row (by omega), wI_row (by omega)]) (fun r h1 h2 => by rw [wJ_row (by omega), wJ_row (by omega)]) (fun j hj => by rw [wJ_ne (by omega), wJ_ne (by omega), wJ_ne (by omega), wJ_ne (by omega), wJ_ne (by omega), wJ_ne (by omega), wJ_ne (by omega)]) rfl
    -- the cells of the reference: by index
    have bk : ∀ k, k ≠ 12 + f0 → k ≠ 4 + f0 → k ≠ 20 + f0 → k ≠ 28 + f0 → k ≠ 36 + f0 → k ≠ 44 + f0 → k ≠ 56 → ∀ v56 : Int64, wJ (wJ (wJ (wJ (wJ (wJ (wJ D 79 (12 + f0) 1) 79 (4 + f0) (w.toInt64 * cp.toInt64)) 79 (20 + f0) s.toInt64) 79 (28 + f0) cp.toInt64) 79 (36 + f0) lw.toInt64) 79 (44 + f0) hg.toInt64) 79 56 v56 79 k = D 79 k := by
      intro k a1 a2 a3 a4 a5 a6 a7 v56
      rw [wJ_ne (Or.inr a7), wJ_ne (Or.inr a6), wJ_ne (Or.inr a5), wJ_ne (Or.inr a4), wJ_ne (Or.inr a3), wJ_ne (Or.inr a2), wJ_ne (Or.inr a1)]
    refine st_ff (f0 := f0) q.1 (fun j hj => ?_) ?_ (fun j h1 h2 => ?_) (fun j hj => ?_) (fun f' hf' => ⟨?_, ?_, ?_, ?_⟩) (fun f' h1 h2 => ⟨?_, ?_, ?_, ?_, ?_⟩) (fun _ => Or.inr ⟨?_, ?_, ?_, ?_, ?_, ?_, ?_, ?_, ?_⟩) (fun j h1 h2 => ?_) ?_ ?_ (fun j hj => ?_)
    · rw [wJ_row (by decide), wJ_ne (Or.inr hj)]
    · rw [wJ_ne (by omega), wJ_ne (by omega), wJ_ne (by omega), wJ_ne (by omega), wJ_ne (by omega), Nat.zero_add, wJ_self, wJ_row (by decide), wJ_self]
    · rw [Nat.zero_add]; exact bk _ (by omega) (by omega) (by omega) (by omega) (by omega) (by omega) (by omega) _
    · rw [wI_ne (Or.inr hj), wI_row (by decide), wI_row (by decide), wI_row (by decide), wI_row (by decide)]
    · rw [wI_row (by decide), wI_row (by decide), wI_ne (Or.inr hf'), wI_row (by decide), wI_row (by decide)]
    · rw [wI_row (by decide), wI_ne (Or.inr hf'), wI_row (by decide), wI_row (by decide), wI_row (by decide)]
    · rw [wI_row (by decide), wI_row (by decide), wI_row (by decide), wI_row (by decide), wI_ne (Or.inr hf')]
    · rw [wI_row (by decide), wI_row (by decide), wI_row (by decide), wI_ne (Or.inr hf'), wI_row (by decide)]
    · exact bk _ (by omega) (by omega) (by omega) (by omega) (by omega) (by omega) (by omega) _
    · exact bk _ (by omega) (by omega) (by omega) (by omega) (by omega) (by omega) (by omega) _
    · exact bk _ (by omega) (by omega) (by omega) (by omega) (by omega) (by omega) (by omega) _
    · exact bk _ (by omega) (by omega) (by omega) (by omega) (by omega) (by omega) (by omega) _
    · exact bk _ (by omega) (by omega) (by omega) (by omega) (by omega) (by omega) (by omega) _
    · rw [wI_row (by decide), wI_row (by decide), wI_self]
    · rw [wJ_ne (by omega), wJ_ne (by omega), wJ_ne (by omega), wJ_ne (by omega), wJ_ne (by omega), wJ_ne (by omega), show 0 + 12 + f0 = 12 + f0 by omega, wJ_self]
    · rw [wJ_ne (by omega), wJ_ne (by omega), wJ_ne (by omega), wJ_ne (by omega), show 0 + 20 + f0 = 20 + f0 by omega, wJ_self, wI_row (by decide), wI_self]
    · rw [wI_row (by decide), wI_self]; exact sb
    · rw [wJ_ne (by omega), wJ_ne (by omega), wJ_ne (by omega), show 0 + 28 + f0 = 28 + f0 by omega, wJ_self, wI_self]
    · rw [wI_self]; exact pb
    · rw [wJ_ne (by omega), wJ_ne (by omega), show 0 + 36 + f0 = 36 + f0 by omega, wJ_self, wI_row (by decide), wI_row (by decide), wI_row (by decide), wI_row (by decide), wI_self]
    · rw [wJ_ne (by omega), show 0 + 44 + f0 = 44 + f0 by omega, wJ_self, wI_row (by decide), wI_row (by decide), wI_row (by decide), wI_self]
    · have t24 : (wI (wI (wI (wI (wI I 21 f0 lw) 22 f0 hg) 19 f0 1) 20 f0 s) 18 (4 + f0) cp) (16 + 8) = I 24 := by rw [wI_row (by decide), wI_row (by decide), wI_row (by decide), wI_row (by decide), wI_row (by decide)]
      rw [t24, wJ_row (show (16 + 1 : Nat) ≠ 23 by decide), wJ_self, wI_self, mt, Int.mul_tdiv_cancel _ (show cp.toInt ≠ 0 by omega)]
      omega
    · by_cases y : j = 2
      · subst y
        show wJ _ 79 56 _ 79 56 = wJ _ 23 2 _ 23 2
        rw [wJ_self, wJ_self, wJ_ne (by omega), wJ_ne (by omega), wJ_ne (by omega), wJ_ne (by omega), wJ_ne (by omega), wJ_ne (by omega), h2']
      · rw [bk _ (by omega) (by omega) (by omega) (by omega) (by omega) (by omega) (by omega) _, wJ_ne (Or.inr y), wJ_row (by decide)]
        exact q.1.2.2.2.1 j h1 h2
    · rw [wI_row (by decide), wI_row (by decide), wI_row (by decide), wI_row (by decide), wI_row (by decide)]
    · rw [wI_row (by decide), wI_row (by decide), wI_row (by decide), wI_row (by decide), wI_row (by decide)]
    · exact bk _ (by omega) (by omega) (by omega) (by omega) (by omega) (by omega) (by omega) _
