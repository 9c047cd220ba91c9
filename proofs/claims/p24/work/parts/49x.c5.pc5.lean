/-! ===== how much a SIGN tells ===== -/
/-! squares over classes: one sum over first ones, one over all -/
def sN (v : Nat → Int64) : Nat → Int64
  | 0 => 0
  | n + 1 => sN v n + v n
theorem sN_s (v : Nat → Int64) : ∀ n, sm6 v (List.range' 0 n) 0 = sN v n
  | 0 => rfl
  | n + 1 => by
    have ih := sN_s v n
    unfold sm6 at ih ⊢
    rw [List.range'_1_concat, List.foldl_append, ih, Nat.zero_add]
    rfl
theorem sN_c {v u : Nat → Int64} : ∀ n, (∀ j, j < n → v j = u j) → sN v n = sN u n
  | 0, _ => rfl
  | n + 1, h => by
    show sN v n + v n = sN u n + u n
    rw [sN_c n (fun j hj => h j (by omega)), h n (by omega)]
theorem a4_6 (a b c d : Int64) : a + b + (c + d) = a + c + (b + d) := by
  rw [Int64.add_assoc, ← Int64.add_assoc b c d, Int64.add_comm b c, Int64.add_assoc c b d, ← Int64.add_assoc a c]
theorem sN_a (v u : Nat → Int64) : ∀ n, sN (fun i => v i + u i) n = sN v n + sN u n
  | 0 => (Int64.add_zero 0).symm
  | n + 1 => by
    show sN (fun i => v i + u i) n + (v n + u n) = sN v n + v n + (sN u n + u n)
    rw [sN_a v u n, a4_6]
theorem sN_0 {v : Nat → Int64} : ∀ n, (∀ j, j < n → v j = 0) → sN v n = 0
  | 0, _ => rfl
  | n + 1, h => by
    show sN v n + v n = 0
    rw [sN_0 n (fun j hj => h j (by omega)), h n (by omega), Int64.add_zero]
theorem sm6_0 {v : Nat → Int64} : ∀ (f k : Nat) (c : Int64), (∀ j, k ≤ j → j < k + f → v j = 0) → sm6 v (List.range' k f) c = c
  | 0, _, _, _ => rfl
  | f + 1, k, c, h => by
    rw [List.range'_succ]
    show sm6 v (List.range' (k + 1) f) (c + v k) = c
    rw [h k (Nat.le_refl _) (by omega), Int64.add_zero]
    exact sm6_0 f (k + 1) c (fun j h1 h2 => h j (by omega) (by omega))
/-- none from k on, f of them, is x -/
def nnB (q : Nat → Int32) (x : Int32) : Nat → Nat → Bool
  | 0, _ => true
  | f + 1, k => if q k = x then false else nnB q x f (k + 1)
theorem nn_t {q : Nat → Int32} {x : Int32} : ∀ (f k : Nat), nnB q x f k = true ↔ ∀ j, k ≤ j → j < k + f → ¬ q j = x
  | 0, k => ⟨fun _ j h1 h2 => by omega, fun _ => rfl⟩
  | f + 1, k => by
    have ih := nn_t (q := q) (x := x) f (k + 1)
    simp only [nnB]
    by_cases z : q k = x
    · rw [if_pos z]
      exact ⟨fun y => absurd y (by decide), fun y => absurd z (y k (Nat.le_refl _) (by omega))⟩
    · rw [if_neg z, ih]
      constructor
      · intro h j h1 h2
        by_cases y : j = k
        · rw [y]; exact z
        · exact h j (by omega) (by omega)
      · intro h j h1 h2
        exact h j (by omega) (by omega)
theorem nn_s {q : Nat → Int32} {x : Int32} (n : Nat) : nnB q x (n + 1) 0 = true ↔ nnB q x n 0 = true ∧ ¬ q n = x := by
  rw [nn_t, nn_t]
  constructor
  · intro h
    exact ⟨fun j h1 h2 => h j h1 (by omega), h n (Nat.zero_le _) (by omega)⟩
  · rintro ⟨h, z⟩ j h1 h2
    by_cases y : j = n
    · rw [y]; exact z
    · exact h j h1 (by omega)
theorem occ {q : Nat → Int32} (x : Int32) (c : Int64) : ∀ n, sN (fun i => if nnB q (q i) i 0 = true then (if q i = x then c else 0) else 0) n = if nnB q x n 0 = true then 0 else c
  | 0 => rfl
  | n + 1 => by
    show sN _ n + (if nnB q (q n) n 0 = true then (if q n = x then c else 0) else 0) = _
    rw [occ x c n]
    have s := nn_s (q := q) (x := x) n
    by_cases z : q n = x
    · rw [if_neg (show ¬ nnB q x (n + 1) 0 = true from fun y => (s.mp y).2 z), if_pos z, z]
      by_cases y : nnB q x n 0 = true
      · rw [if_pos y, if_pos y, Int64.zero_add]
      · rw [if_neg y, if_neg y, Int64.add_zero]
    · rw [if_neg z, ite_self, Int64.add_zero]
      by_cases y : nnB q x n 0 = true
      · rw [if_pos y, if_pos (s.mpr ⟨y, z⟩)]
      · rw [if_neg y, if_neg (fun w => y (s.mp w).1)]
def mN (q : Nat → Int32) (w : Nat → Int64) (n : Nat) (x : Int32) : Int64 := sN (fun j => if q j = x then w j else 0) n
theorem mN_s (q : Nat → Int32) (w : Nat → Int64) (n : Nat) (x : Int32) : mN q w (n + 1) x = mN q w n x + (if q n = x then w n else 0) := rfl
theorem mN_0 {q : Nat → Int32} {w : Nat → Int64} {n : Nat} {x : Int32} (h : nnB q x n 0 = true) : mN q w n x = 0 :=
  sN_0 n (fun j hj => if_neg ((nn_t n 0).mp h j (Nat.zero_le _) (by omega)))
theorem telA (q : Nat → Int32) (w : Nat → Int64) (g : Int32 → Int64) : ∀ n, sN (fun i => if nnB q (q i) i 0 = true then mN q w n (q i) * g (q i) else 0) n = sN (fun j => w j * g (q j)) n
  | 0 => rfl
  | n + 1 => by
    have hG : ∀ i, (if nnB q (q i) i 0 = true then mN q w (n + 1) (q i) * g (q i) else 0) = (if nnB q (q i) i 0 = true then mN q w n (q i) * g (q i) else 0) + (if nnB q (q i) i 0 = true then (if q i = q n then w n * g (q n) else 0) else 0) := fun i => by
      by_cases y : nnB q (q i) i 0 = true
      · rw [if_pos y, if_pos y, if_pos y, mN_s]
        by_cases z : q i = q n
        · rw [if_pos z, if_pos z.symm, z, Int64.add_mul]
        · rw [if_neg z, if_neg (fun t => z t.symm), Int64.add_zero, Int64.add_zero]
      · rw [if_neg y, if_neg y, if_neg y, Int64.add_zero]
    have e1 : sN (fun i => if nnB q (q i) i 0 = true then mN q w (n + 1) (q i) * g (q i) else 0) n = sN (fun j => w j * g (q j)) n + (if nnB q (q n) n 0 = true then 0 else w n * g (q n)) := by
      rw [sN_c n (fun j _ => hG j), sN_a (fun i => if nnB q (q i) i 0 = true then mN q w n (q i) * g (q i) else 0) (fun i => if nnB q (q i) i 0 = true then (if q i = q n then w n * g (q n) else 0) else 0), telA q w g n, occ (q n) (w n * g (q n)) n]
    show sN (fun i => if nnB q (q i) i 0 = true then mN q w (n + 1) (q i) * g (q i) else 0) n + (if nnB q (q n) n 0 = true then mN q w (n + 1) (q n) * g (q n) else 0) = sN (fun j => w j * g (q j)) n + w n * g (q n)
    rw [e1, Int64.add_assoc]
    by_cases y : nnB q (q n) n 0 = true
    · rw [if_pos y, if_pos y, mN_s, mN_0 y, if_pos rfl, Int64.zero_add, Int64.zero_add]
    · rw [if_neg y, if_neg y, Int64.add_zero]
/-- the class's weight, from the first one on -/
def clW (q : Nat → Int32) (w : Nat → Int64) (i : Nat) : Int64 := sm6 (fun j => if q j = q i then w j else 0) (List.range' i (29 - i)) 0
theorem clW_m {q : Nat → Int32} {w : Nat → Int64} {i : Nat} (hi : i < 29) (h : nnB q (q i) i 0 = true) : clW q w i = mN q w 29 (q i) := by
  unfold mN
  rw [← sN_s, show (29 : Nat) = i + (29 - i) by omega, ← List.range'_append_1]
  unfold sm6
  rw [List.foldl_append]
  have z := sm6_0 (v := fun j => if q j = q i then w j else 0) i 0 0 (fun j h1 h2 => if_neg ((nn_t i 0).mp h j h1 h2))
  unfold sm6 at z
  rw [z, Nat.zero_add]
  rfl
theorem sqr_m (q : Nat → Int32) (w : Nat → Int64) : sm6 (fun i => if nnB q (q i) i 0 = true then clW q w i * clW q w i else 0) (List.range' 0 29) 0 = sm6 (fun i => w i * mN q w 29 (q i)) (List.range' 0 29) 0 := by
  rw [sN_s, sN_s, ← telA q w (mN q w 29) 29]
  refine sN_c 29 (fun i hi => ?_)
  by_cases y : nnB q (q i) i 0 = true
  · rw [if_pos y, if_pos y, clW_m hi y]
  · rw [if_neg y, if_neg y]
/-! what it tells, by what the class holds -/
def exV (I : Iv) (k : Nat) : Int32 := if I 58 k = 0 then 50 else I 60 k
def kpI (I : Iv) (m k s : Nat) : Int32 := sgI I m s k / exV I k
def sqI (I : Iv) (m k : Nat) : Int64 := sm6 (fun i => wtI I m (cbN i) * mN (fun j => kpI I m k (cbN j)) (fun j => wtI I m (cbN j)) 29 (kpI I m k (cbN i))) (List.range' 0 29) 0
def tlI (I : Iv) (m k : Nat) : Int32 := if allI I m = 0 then 0 else ((1000 : Int64) - (((1000 : Int64) * sqI I m k) / (allI I m * allI I m))).toInt32
theorem exI {I0 A I : Iv} {k : Nat} (hk : k < 7) (g : GR I0 A) (e : ∀ b, b ≠ 64 → I b = I0 b) (J : Jv) : fn_X2_exactOf (n3 k) I J = (exV I0 k, I, J) := by
  unfold fn_X2_exactOf exV
  rw [n3_tn (by omega), e 58 (by decide), e 60 (by decide)]
  by_cases h : I0 58 k = 0
  · rw [if_pos h, if_pos h]
  · have w := ((g k hk).2.1 h).2.2.2
    rw [if_neg h, if_neg h, if_neg (by rw [Int32.le_iff_toInt_le, z0t]; omega)]
theorem tbL {I0 A : Iv} {m k : Nat} (J : Jv) (hm : 1 ≤ m ∧ m ≤ 6) (hk : k < 7) (g : GR I0 A) : ∀ (f i fu : Nat) (I : Iv), i + f = 29 → f < fu → (∀ b, b ≠ 64 → I b = I0 b) → ∃ I' : Iv, (∀ K : Int32 → Iv → Int32 × Iv × Jv, fl_X2_tellingBy_11_0 J (n3 k) (n3 m) K fu (n3 i) I = K 29 I') ∧ (∀ b, b ≠ 64 → I' b = I0 b) ∧ ∀ j, I' 64 j = (if i ≤ j ∧ j < 29 then kpI I0 m k (cbN j) else I 64 j)
  | f, i, 0, _, _, h, _ => absurd h (Nat.not_lt_zero _)
  | 0, i, fu + 1, I, hi, _, e => ⟨I, fun K => by
      rw [fl_X2_tellingBy_11_0.eq_2, if_pos (by rw [show (29 : Int32) = n3 29 from rfl, n3_le (by omega) (by omega)]; omega), show i = 29 by omega]; rfl, e, fun j => by rw [if_neg (by omega)]⟩
  | f + 1, i, fu + 1, I, hi, hf, e => by
    obtain ⟨c1, c2, c3⟩ := cb_t (show i < 29 by omega)
    have es : I 56 ((cbN i * 6 + (m - 1)) * 7 + k) = sgI I0 m (cbN i) k := by rw [e 56 (by decide)]; rfl
    obtain ⟨I', q1, q2, q3⟩ := tbL J hm hk g f (i + 1) fu (wI I 64 i (kpI I0 m k (cbN i))) (by omega) (by omega) (fun b hb => by rw [wI_row hb, e b hb])
    refine ⟨I', fun K => ?_, q2, fun j => ?_⟩
    · rw [fl_X2_tellingBy_11_0.eq_2, if_neg (by rw [show (29 : Int32) = n3 29 from rfl, n3_le (by omega) (by omega)]; omega), n3_tn (by omega), c1, l_t, signIs c2 hm hk, b_n3_mk, es, exI hk g e, b_n3_mk, l_t, n3_up]
      exact q1 K
    · rw [q3 j]
      by_cases z : j = i
      · rw [z, if_neg (by omega), if_pos (by omega), wI_self]
      · rw [wI_ne (Or.inr z)]
        by_cases y : i + 1 ≤ j ∧ j < 29
        · rw [if_pos y, if_pos (by omega)]
        · rw [if_neg y, if_neg (by omega)]
theorem ifL {I : Iv} {J : Jv} {i : Nat} (hi : i < 29) : ∀ (f j fu : Nat), j + f = i → f < fu → fl_X2_isFirstOfClass_2_0 I J (n3 i) (fun (_ : Int32) => ((1 : Int32), I, J)) fu (n3 j) = (b3 (nnB (I 64) (I 64 i) f j), I, J)
  | f, j, 0, _, h => absurd h (Nat.not_lt_zero _)
  | 0, j, fu + 1, hj, _ => by
    rw [fl_X2_isFirstOfClass_2_0.eq_2, if_pos (by rw [n3_le (by omega) (by omega)]; omega)]; rfl
  | f + 1, j, fu + 1, hj, hf => by
    rw [fl_X2_isFirstOfClass_2_0.eq_2, if_neg (by rw [n3_le (by omega) (by omega)]; omega), n3_tn (show j ≤ 1000 by omega), n3_tn (show i ≤ 1000 by omega)]
    simp only [nnB]
    by_cases z : I 64 j = I 64 i
    · rw [if_pos z, if_pos z]; rfl
    · rw [if_neg z, if_neg z, n3_up, ifL hi f (j + 1) fu (by omega) (by omega)]
theorem firstIs {i : Nat} (hi : i < 29) (I : Iv) (J : Jv) : fn_X2_isFirstOfClass (n3 i) I J = (b3 (nnB (I 64) (I 64 i) i 0), I, J) := by
  unfold fn_X2_isFirstOfClass
  exact ifL hi i 0 _ (by omega) (by rw [mU_n (by omega)]; omega)
theorem wcL {I : Iv} {J : Jv} {i : Nat} (hi : i < 29) {K : Int64 → Int32 → Int64 × Iv × Jv} : ∀ (f j fu : Nat) (x : Int64), j + f = 29 → f < fu → fl_X2_weightOfClass_5_0 I J (n3 i) K fu x (n3 j) = K (sm6 (fun j => if I 64 j = I 64 i then J 63 j else 0) (List.range' j f) x) 29
  | f, j, 0, _, _, h => absurd h (Nat.not_lt_zero _)
  | 0, j, fu + 1, x, hj, _ => by
    rw [fl_X2_weightOfClass_5_0.eq_2, if_pos (by rw [show (29 : Int32) = n3 29 from rfl, n3_le (by omega) (by omega)]; omega), show j = 29 by omega]; rfl
  | f + 1, j, fu + 1, x, hj, hf => by
    rw [fl_X2_weightOfClass_5_0.eq_2, if_neg (by rw [show (29 : Int32) = n3 29 from rfl, n3_le (by omega) (by omega)]; omega), n3_tn (show j ≤ 1000 by omega), n3_tn (show i ≤ 1000 by omega), List.range'_succ]
    show _ = K (sm6 _ (List.range' (j + 1) f) (x + (if I 64 j = I 64 i then J 63 j else 0))) 29
    by_cases z : I 64 j = I 64 i
    · rw [if_pos z, if_pos z, l_t, n3_up, wcL hi f (j + 1) fu _ (by omega) (by omega)]
    · rw [if_neg z, if_neg z, n3_up, wcL hi f (j + 1) fu _ (by omega) (by omega), Int64.add_zero]
theorem weightIs {i : Nat} (hi : i < 29) (I : Iv) (J : Jv) : fn_X2_weightOfClass (n3 i) I J = (clW (I 64) (J 63) i, I, J) := by
  unfold fn_X2_weightOfClass
  have fu : mU (29 : Int32) (n3 i) + 1 = 29 - i + 1 := by
    unfold mU; rw [nb_t (by omega), show (29 : Int32).toInt = 29 by decide]; omega
  rw [fu, wcL hi (29 - i) i (29 - i + 1) 0 (by omega) (by omega)]
  rfl
theorem sqL {I : Iv} {J : Jv} {K : Int64 → Int32 → Int32 × Iv × Jv} : ∀ (f i fu : Nat) (x : Int64), i + f = 29 → f < fu → fl_X2_tellingBy_61_1 J I K fu x (n3 i) = K (sm6 (fun i => if nnB (I 64) (I 64 i) i 0 = true then clW (I 64) (J 63) i * clW (I 64) (J 63) i else 0) (List.range' i f) x) 29
  | f, i, 0, _, _, h => absurd h (Nat.not_lt_zero _)
  | 0, i, fu + 1, x, hi, _ => by
    rw [fl_X2_tellingBy_61_1.eq_2, if_pos (by rw [show (29 : Int32) = n3 29 from rfl, n3_le (by omega) (by omega)]; omega), show i = 29 by omega]; rfl
  | f + 1, i, fu + 1, x, hi, hf => by
    rw [fl_X2_tellingBy_61_1.eq_2, if_neg (by rw [show (29 : Int32) = n3 29 from rfl, n3_le (by omega) (by omega)]; omega), firstIs (by omega), b_n3_mk, weightIs (by omega), b_n3_mk, List.range'_succ]
    show _ = K (sm6 _ (List.range' (i + 1) f) (x + (if nnB (I 64) (I 64 i) i 0 = true then clW (I 64) (J 63) i * clW (I 64) (J 63) i else 0))) 29
    by_cases y : nnB (I 64) (I 64 i) i 0 = true
    · rw [if_pos y, y, if_neg (show ¬ b3 true = 0 by decide), l_t, n3_up, sqL f (i + 1) fu _ (by omega) (by omega)]
    · have y' : nnB (I 64) (I 64 i) i 0 = false := by simpa using y
      rw [if_neg y, y', if_pos (show b3 false = 0 from rfl), n3_up, sqL f (i + 1) fu _ (by omega) (by omega), Int64.add_zero]
theorem tellC {I0 A I : Iv} {J : Jv} {m k : Nat} (hm : 1 ≤ m ∧ m ≤ 6) (hk : k < 7) (g : GR I0 A) (e : ∀ b, b ≠ 64 → I b = I0 b) (hJ : ∀ j, j < 29 → J 63 j = wtI I0 m (cbN j)) : ∃ I' : Iv, fn_X2_tellingBy (n3 k) (n3 m) (allI I0 m) I J = (tlI I0 m k, I', J) ∧ ∀ b, b ≠ 64 → I' b = I0 b := by
  have a := (all_b m g).1
  unfold fn_X2_tellingBy tlI
  by_cases z : allI I0 m = 0
  · refine ⟨I, ?_, e⟩
    rw [if_pos z, if_neg (by rw [z]; exact Int64.lt_irrefl)]
  · have p : (0 : Int64) < allI I0 m := Int64.lt_iff_toInt_lt.mpr (by
      have n0 : ¬ (allI I0 m).toInt = 0 := fun y => z (Int64.toInt_inj.mp (by rw [y, z0t6]))
      rw [z0t6]; omega)
    obtain ⟨I', q1, q2, q3⟩ := tbL J hm hk g 29 0 30 I (by omega) (by omega) e
    have q1' : ∀ K : Int32 → Iv → Int32 × Iv × Jv, fl_X2_tellingBy_11_0 J (n3 k) (n3 m) K 30 0 I = K 29 I' := q1
    refine ⟨I', ?_, q2⟩
    have s := sqL (I := I') (J := J) (K := fun (x5 : Int64) (_ : Int32) => ((Int64.toInt32 ((1000 : Int64) - (((1000 : Int64) * x5) / (allI I0 m * allI I0 m)))), I', J)) 29 0 30 0 rfl (by decide)
    have s' : fl_X2_tellingBy_61_1 J I' (fun (x5 : Int64) (_ : Int32) => ((Int64.toInt32 ((1000 : Int64) - (((1000 : Int64) * x5) / (allI I0 m * allI I0 m)))), I', J)) 30 0 0 = _ := s
    rw [if_pos p, if_neg z, show mU (29 : Int32) ((0 : Int32)) + 1 = 30 by decide, q1', s']
    have e1 := sqr_m (I' 64) (J 63)
    have e2 : sm6 (fun i => J 63 i * mN (I' 64) (J 63) 29 (I' 64 i)) (List.range' 0 29) 0 = sqI I0 m k := by
      unfold sqI
      refine sm6_c 29 0 0 (fun i _ hi => ?_)
      have ek : ∀ j, j < 29 → I' 64 j = kpI I0 m k (cbN j) := fun j hj => by rw [q3 j, if_pos ⟨Nat.zero_le _, hj⟩]
      have em : mN (I' 64) (J 63) 29 (I' 64 i) = mN (fun j => kpI I0 m k (cbN j)) (fun j => wtI I0 m (cbN j)) 29 (kpI I0 m k (cbN i)) := by
        unfold mN
        exact sN_c 29 (fun j hj => by rw [ek j hj, ek i (by omega), hJ j hj])
      show J 63 i * mN (I' 64) (J 63) 29 (I' 64 i) = _
      rw [em, hJ i (by omega)]
    rw [e1, e2]
/-! the reference -/
theorem tsL {I0 A : Iv} {B : Jv} {m k s : Nat} {e : Int32} (hk : k < 7) (hs : s < 128) (hcs : cb s = true) (h97 : ∀ j k, j < 128 → cb j = true → k < 7 → A 97 (7 * j + k) = sgI I0 m j k) (h96 : ∀ j, j < 128 → B 96 j = wcb I0 m j) {K : Int64 → Int32 → Int32 × Iv × Jv} : ∀ (f o fu : Nat) (x : Int64), o + f = 128 → f < fu → fl_X10_tellsOf_59_2 A B (n3 k) e (n3 s) K fu x (n3 o) = K (sm6 (fun o => if cb o = true then (if sgI I0 m o k / e = sgI I0 m s k / e then wtI I0 m o else 0) else 0) (List.range' o f) x) 128
  | f, o, 0, _, _, h => absurd h (Nat.not_lt_zero _)
  | 0, o, fu + 1, x, ho, _ => by
    rw [fl_X10_tellsOf_59_2.eq_2, if_pos (by rw [show (128 : Int32) = n3 128 from rfl, n3_le (by omega) (by omega)]; omega), show o = 128 by omega]; rfl
  | f + 1, o, fu + 1, x, ho, hf => by
    have ei : ∀ j, j < 128 → ((7 * n3 j) + n3 k).toNatClampNeg = 7 * j + k := fun j hj => by
      rw [show (7 : Int32) = n3 7 from rfl, n3_mul, n3_add, nb_tn (by omega)]
    rw [fl_X10_tellsOf_59_2.eq_2, if_neg (by rw [show (128 : Int32) = n3 128 from rfl, n3_le (by omega) (by omega)]; omega), fX10_cb (by omega), b_n3_mk, ei o (by omega), ei s hs, h97 s k hs hcs hk, n3_tn (show o ≤ 1000 by omega), List.range'_succ]
    show _ = K (sm6 _ (List.range' (o + 1) f) (x + (if cb o = true then (if sgI I0 m o k / e = sgI I0 m s k / e then wtI I0 m o else 0) else 0))) 128
    by_cases hc : cb o = true
    · have wc : wcb I0 m o = wtI I0 m o := if_pos hc
      rw [if_pos hc, hc, if_neg (show ¬ b3 true = 0 by decide), h97 o k (by omega) hc hk, h96 o (by omega), wc]
      by_cases y : sgI I0 m o k / e = sgI I0 m s k / e
      · rw [if_pos y, if_pos y, l_t, n3_up, tsL hk hs hcs h97 h96 f (o + 1) fu _ (by omega) (by omega)]
      · rw [if_neg y, if_neg y, n3_up, tsL hk hs hcs h97 h96 f (o + 1) fu _ (by omega) (by omega), Int64.add_zero]
    · have hc' : cb o = false := by simpa using hc
      rw [if_neg hc, hc', if_pos (show b3 false = 0 from rfl), n3_up, tsL hk hs hcs h97 h96 f (o + 1) fu _ (by omega) (by omega), Int64.add_zero]
theorem toL {I0 A : Iv} {B : Jv} {m k : Nat} {e : Int32} (hk : k < 7) (h97 : ∀ j k, j < 128 → cb j = true → k < 7 → A 97 (7 * j + k) = sgI I0 m j k) (h96 : ∀ j, j < 128 → B 96 j = wcb I0 m j) {K : Int64 → Int32 → Int32 × Iv × Jv} : ∀ (f s fu : Nat) (x : Int64), s + f = 128 → f < fu → fl_X10_tellsOf_37_1 A B (n3 k) e K fu x (n3 s) = K (sm6 (fun s => if cb s = true then wtI I0 m s * sm6 (fun o => if cb o = true then (if sgI I0 m o k / e = sgI I0 m s k / e then wtI I0 m o else 0) else 0) (List.range' 0 128) 0 else 0) (List.range' s f) x) 128
  | f, s, 0, _, _, h => absurd h (Nat.not_lt_zero _)
  | 0, s, fu + 1, x, hs, _ => by
    rw [fl_X10_tellsOf_37_1.eq_2, if_pos (by rw [show (128 : Int32) = n3 128 from rfl, n3_le (by omega) (by omega)]; omega), show s = 128 by omega]; rfl
  | f + 1, s, fu + 1, x, hs, hf => by
    rw [fl_X10_tellsOf_37_1.eq_2, if_neg (by rw [show (128 : Int32) = n3 128 from rfl, n3_le (by omega) (by omega)]; omega), fX10_cb (by omega), b_n3_mk, show List.range' s (f + 1) = s :: List.range' (s + 1) f from rfl]
    show _ = K (sm6 _ (List.range' (s + 1) f) (x + (if cb s = true then wtI I0 m s * sm6 (fun o => if cb o = true then (if sgI I0 m o k / e = sgI I0 m s k / e then wtI I0 m o else 0) else 0) (List.range' 0 128) 0 else 0))) 128
    by_cases hc : cb s = true
    · have wc : wcb I0 m s = wtI I0 m s := if_pos hc
      have t : ∀ K2 : Int64 → Int32 → Int32 × Iv × Jv, fl_X10_tellsOf_59_2 A B (n3 k) e (n3 s) K2 (mU (128 : Int32) ((0 : Int32)) + 1) 0 (0 : Int32) = K2 (sm6 (fun o => if cb o = true then (if sgI I0 m o k / e = sgI I0 m s k / e then wtI I0 m o else 0) else 0) (List.range' 0 128) 0) 128 := fun K2 => tsL hk (by omega) hc h97 h96 128 0 _ 0 rfl (by decide)
      rw [if_pos hc, hc, if_neg (show ¬ b3 true = 0 by decide), t, n3_tn (show s ≤ 1000 by omega), h96 s (by omega), wc, l_t, n3_up, toL hk h97 h96 f (s + 1) fu _ (by omega) (by omega)]
    · have hc' : cb s = false := by simpa using hc
      rw [if_neg hc, hc', if_pos (show b3 false = 0 from rfl), n3_up, toL hk h97 h96 f (s + 1) fu _ (by omega) (by omega), Int64.add_zero]
theorem tellR {I0 A : Iv} {B : Jv} {m k : Nat} (hk : k < 7) (g : GR I0 A) (h97 : ∀ j k, j < 128 → cb j = true → k < 7 → A 97 (7 * j + k) = sgI I0 m j k) (h96 : ∀ j, j < 128 → B 96 j = wcb I0 m j) (h28 : B 78 28 = allI I0 m) : fn_X10_tellsOf (n3 k) A B = (tlI I0 m k, A, B) := by
  unfold fn_X10_tellsOf tlI
  rw [h28]
  by_cases z : allI I0 m = 0
  · rw [if_pos z, if_pos z]
  · have sq : sm6 (fun s => if cb s = true then wtI I0 m s * sm6 (fun o => if cb o = true then (if sgI I0 m o k / exV I0 k = sgI I0 m s k / exV I0 k then wtI I0 m o else 0) else 0) (List.range' 0 128) 0 else 0) (List.range' 0 128) 0 = sqI I0 m k := by
      have e1 := sm6_cb (fun s => wtI I0 m s * sm6 (fun o => if cb o = true then (if sgI I0 m o k / exV I0 k = sgI I0 m s k / exV I0 k then wtI I0 m o else 0) else 0) (List.range' 0 128) 0) 0
      rw [← e1]
      unfold sqI
      refine sm6_c 29 0 0 (fun i _ hi => ?_)
      have e2 := sm6_cb (fun o => if sgI I0 m o k / exV I0 k = sgI I0 m (cbN i) k / exV I0 k then wtI I0 m o else 0) 0
      rw [← e2, sN_s]
      rfl
    have t := toL (A := A) (B := B) (e := exV I0 k) hk h97 h96 (K := fun (x2 : Int64) (_ : Int32) => ((Int64.toInt32 ((1000 : Int64) - (((1000 : Int64) * x2) / (allI I0 m * allI I0 m)))), A, B)) 128 0 (mU (128 : Int32) ((0 : Int32)) + 1) 0 rfl (by decide)
    have t' : fl_X10_tellsOf_37_1 A B (n3 k) (exV I0 k) (fun (x2 : Int64) (_ : Int32) => ((Int64.toInt32 ((1000 : Int64) - (((1000 : Int64) * x2) / (allI I0 m * allI I0 m)))), A, B)) (mU (128 : Int32) ((0 : Int32)) + 1) 0 0 = _ := t
    rw [if_neg z, if_neg z, n3_tn (by omega)]
    dsimp only [j_n]
    have gk := g k hk
    rw [sq] at t'
    unfold exV at t'
    by_cases y : I0 58 k = 0
    · rw [if_pos y] at t'
      rw [if_pos (by rw [← gk.1]; exact y)]
      exact t'
    · rw [if_neg y, (gk.2.1 y).2.1] at t'
      rw [if_neg (by rw [← gk.1]; exact y)]
      exact t'
theorem gr_64 {I I' C : Iv} (g : GR I' C) (e : ∀ b, b ≠ 64 → I' b = I b) : GR I C := by
  intro k hk
  have q := g k hk
  rw [e 58 (by decide), e 59 (by decide), e 60 (by decide), e 61 (by decide), e 62 (by decide)] at q
  exact q
/-- the reference, from where the class's guess ended -/
theorem guessR {c m : Nat} {I I3 I4 : Iv} {J J3 J4 : Jv} (hm : 1 ≤ m ∧ m ≤ 6) (h : CQx c I J) (hs : CS I) (l1 : fn_X1_learnCouldBe (n3 m) I J = (I3, J3)) (h4 : ∀ b, b ≠ 64 → I4 b = I3 b) (hJ : J4 79 = J 79) : ∃ (C : Iv) (D : Jv) (A' : Iv) (B' : Jv), fn_X10_begin I4 J4 = (C, D) ∧ fn_X10_weigh (n3 m) C D = (A', B') ∧ GR I3 A' ∧ (∀ j k, j < 128 → cb j = true → k < 7 → A' 97 (7 * j + k) = sgI I3 m j k) ∧ (∀ j, j < 128 → B' 96 j = wcb I3 m j) ∧ B' 78 28 = allI I3 m := by
  obtain ⟨I5, J5, x1, x2, x3, x4, x5, x6, x7⟩ := guess hm h hs
  rw [l1] at x1
  have y5 : I3 = I5 := congrArg (fun (y : Iv × Jv) => y.1) x1
  rw [← y5] at x2 x3 x5 x6 x7
  have h78 : ∀ b, 78 ≤ b → I4 b = I b := fun b hb => by rw [h4 b (by omega), x3 b hb]
  obtain ⟨C, D, eb, n2, lo, lj, q⟩ := cq_open (I1 := I4) (J1 := J4) h h78 hJ
  have q4 : GQ I4 := gq_row x6 (fun b hb => h4 b (by omega)) (by rw [h4 78 (by decide)])
  have gC : GR I3 C := gr_64 (gr_open (I := I) h78 q4 eb) h4
  have hE : ENv I3 C := by
    obtain ⟨I6, J6, z1, z2, z3, -, -⟩ := learnAll (m := m) I J hm h.2.1 hs.1
    rw [l1] at z1
    have z5 : I3 = I6 := congrArg (fun (y : Iv × Jv) => y.1) z1
    rw [z5]
    exact env_row q.2.1 (fun b hb => z3 b (by omega) (by omega)) rfl (fun _ _ => rfl) rfl rfl
  obtain ⟨A', B', r1, r2, r3, r4, r5⟩ := weighR (m := m) D hm gC hE x2 x5
  exact ⟨C, D, A', B', eb, r1, gr_row gC r2, r3, r4, r5⟩
theorem cs_tells {c : Nat} {w n v1 v2 : Int32} {I I1 I2 : Iv} {J J1 J2 : Jv} (h : CQx c I J) (hs : CS I) (e1 : fn_X9_tells w n I J = (v1, I1, J1)) (e2 : fn_X10_tells w n I1 J1 = (v2, I2, J2)) : v1 = v2 := by
  unfold fn_X9_tells at e1
  unfold fn_X10_tells at e2
  rw [isSign9, b_n3_mk] at e1
  by_cases h1 : 0 ≤ w ∧ w ≤ 6
  rotate_left
  · rw [decide_eq_false h1, if_pos (show b3 false = 0 from rfl)] at e1
    exact (cq_ref h e1 (fun C D eb => by rw [eb, b_n2_mk, isSign10, b_n3_mk, decide_eq_false h1, if_pos (show b3 false = 0 from rfl)] at e2; exact e2)).1
  obtain ⟨k, hk, rfl⟩ := sgn_n h1
  rw [decide_eq_true h1, if_neg (show ¬ b3 true = 0 by decide), days9, b_n3_mk] at e1
  by_cases h3 : 1 ≤ n ∧ n ≤ 6
  rotate_left
  · rw [decide_eq_false h3, if_pos (show b3 false = 0 from rfl)] at e1
    exact (cq_ref h e1 (fun C D eb => by rw [eb, b_n2_mk, isSign10, b_n3_mk, decide_eq_true h1, if_neg (show ¬ b3 true = 0 by decide), days10, b_n3_mk, decide_eq_false h3, if_pos (show b3 false = 0 from rfl)] at e2; exact e2)).1
  obtain ⟨m, hm, rfl⟩ := days_n h3
  obtain ⟨I3, J3, l1, l2, l3, l4, l5, l6, l7⟩ := guess hm h hs
  obtain ⟨J4, w1, w2, w3⟩ := weighC J3 hm l7 l2 l5
  obtain ⟨I4, t1, t2⟩ := tellC (J := J4) (I := I3) hm hk l7 (fun _ _ => rfl) w3
  rw [decide_eq_true h3, if_neg (show ¬ b3 true = 0 by decide), l1, b_n2_mk] at e1
  have eo : fn_X2_howMuchTells (n3 k) (n3 m) I3 J3 = (tlI I3 m k, I4, J4) := by
    unfold fn_X2_howMuchTells
    rw [w1, b_n3_mk, t1, b_n3_mk]
  rw [eo, b_n3_mk] at e1
  have y0 : tlI I3 m k = v1 := congrArg (fun (y : Int32 × Iv × Jv) => y.1) e1
  have y1 : I4 = I1 := congrArg (fun (y : Int32 × Iv × Jv) => y.2.1) e1
  have y2 : J4 = J1 := congrArg (fun (y : Int32 × Iv × Jv) => y.2.2) e1
  rw [← y1, ← y2] at e2
  obtain ⟨C, D, A', B', eb, r1, r2, r3, r4, r5⟩ := guessR (J4 := J4) hm h hs l1 t2 (by rw [w2 79 (by decide)]; exact l4)
  rw [eb, b_n2_mk, isSign10, b_n3_mk, decide_eq_true h1, if_neg (show ¬ b3 true = 0 by decide), days10, b_n3_mk, decide_eq_true h3, if_neg (show ¬ b3 true = 0 by decide), r1, b_n2_mk, tellR hk r2 r3 r4 r5, b_n3_mk] at e2
  have y3 : tlI I3 m k = v2 := congrArg (fun (y : Int32 × Iv × Jv) => y.1) e2
  rw [← y0, ← y3]
/-! ===== THE NEXT ===== -/
def nxF (sn : Nat → Bool) (wo : Nat → Int32) : Nat → Nat → Int32 → Int32 → Int32 × Int32
  | 0, _, x, y => (x, y)
  | f + 1, k, x, y => if sn k = true then nxF sn wo f (k + 1) x y else if x = -1 then nxF sn wo f (k + 1) (n3 k) (wo k) else if wo k ≤ y then nxF sn wo f (k + 1) x y else nxF sn wo f (k + 1) (n3 k) (wo k)
def woI (I : Iv) (m k : Nat) : Int32 := tlI I m k - I 62 k
theorem nxC {I0 A : Iv} {J : Jv} {m : Nat} (hm : 1 ≤ m ∧ m ≤ 6) (g : GR I0 A) (hJ : ∀ j, j < 29 → J 63 j = wtI I0 m (cbN j)) : ∀ (f k fu : Nat) (x y : Int32) (I : Iv), k + f = 7 → f < fu → (∀ b, b ≠ 64 → I b = I0 b) → ∃ I' : Iv, (∀ K : Int32 → Int32 → Int32 → Iv → Jv → Int32 × Iv × Jv, fl_X2_nextSign_15_0 (n3 m) (allI I0 m) K fu x y (n3 k) I J = K (nxF (snI I0) (woI I0 m) f k x y).1 (nxF (snI I0) (woI I0 m) f k x y).2 7 I' J) ∧ ∀ b, b ≠ 64 → I' b = I0 b
  | f, k, 0, _, _, _, _, h, _ => absurd h (Nat.not_lt_zero _)
  | 0, k, fu + 1, x, y, I, hk, _, e => ⟨I, fun K => by
      rw [fl_X2_nextSign_15_0.eq_2, if_pos (by rw [show (7 : Int32) = n3 7 from rfl, n3_le (by omega) (by omega)]; omega), show k = 7 by omega]; rfl, e⟩
  | f + 1, k, fu + 1, x, y, I, hk, hf, e => by
    have nx : ¬ (7 : Int32) ≤ n3 k := by rw [show (7 : Int32) = n3 7 from rfl, n3_le (by omega) (by omega)]; omega
    by_cases z : I0 58 k = 0
    · have sn : ¬ snI I0 k = true := by unfold snI; rw [z]; decide
      obtain ⟨I4, t1, t2⟩ := tellC (J := J) (I := I) hm (show k < 7 by omega) g e hJ
      have ew : tlI I0 m k - I4 62 k = woI I0 m k := by rw [t2 62 (by decide)]; rfl
      by_cases z1 : x = -1
      · obtain ⟨I', q1, q2⟩ := nxC hm g hJ f (k + 1) fu (n3 k) (woI I0 m k) I4 (by omega) (by omega) t2
        refine ⟨I', fun K => ?_, q2⟩
        have en : nxF (snI I0) (woI I0 m) (f + 1) k x y = nxF (snI I0) (woI I0 m) f (k + 1) (n3 k) (woI I0 m k) := by
          rw [nxF, if_neg sn, if_pos z1]
        rw [fl_X2_nextSign_15_0.eq_2, if_neg nx, n3_tn (by omega), e 58 (by decide), if_pos z, t1, b_n3_mk, ew, l_t]
        dsimp only [j_n]
        rw [if_pos z1, n3_up, en]
        exact q1 K
      · by_cases z2 : woI I0 m k ≤ y
        · obtain ⟨I', q1, q2⟩ := nxC hm g hJ f (k + 1) fu x y I4 (by omega) (by omega) t2
          refine ⟨I', fun K => ?_, q2⟩
          have en : nxF (snI I0) (woI I0 m) (f + 1) k x y = nxF (snI I0) (woI I0 m) f (k + 1) x y := by
            rw [nxF, if_neg sn, if_neg z1, if_pos z2]
          rw [fl_X2_nextSign_15_0.eq_2, if_neg nx, n3_tn (by omega), e 58 (by decide), if_pos z, t1, b_n3_mk, ew, l_t]
          dsimp only [j_n]
          rw [if_neg z1, if_pos z2, n3_up, en]
          exact q1 K
        · obtain ⟨I', q1, q2⟩ := nxC hm g hJ f (k + 1) fu (n3 k) (woI I0 m k) I4 (by omega) (by omega) t2
          refine ⟨I', fun K => ?_, q2⟩
          have en : nxF (snI I0) (woI I0 m) (f + 1) k x y = nxF (snI I0) (woI I0 m) f (k + 1) (n3 k) (woI I0 m k) := by
            rw [nxF, if_neg sn, if_neg z1, if_neg z2]
          rw [fl_X2_nextSign_15_0.eq_2, if_neg nx, n3_tn (by omega), e 58 (by decide), if_pos z, t1, b_n3_mk, ew, l_t]
          dsimp only [j_n]
          rw [if_neg z1, if_neg z2, n3_up, en]
          exact q1 K
    · have sn : snI I0 k = true := by unfold snI; exact decide_eq_true z
      obtain ⟨I', q1, q2⟩ := nxC hm g hJ f (k + 1) fu x y I (by omega) (by omega) e
      refine ⟨I', fun K => ?_, q2⟩
      have en : nxF (snI I0) (woI I0 m) (f + 1) k x y = nxF (snI I0) (woI I0 m) f (k + 1) x y := by
        rw [nxF, if_pos sn]
      rw [fl_X2_nextSign_15_0.eq_2, if_neg nx, n3_tn (by omega), e 58 (by decide), if_neg z, n3_up, en]
      exact q1 K
theorem nxR {I0 A : Iv} {B : Jv} {m : Nat} (g : GR I0 A) (h97 : ∀ j k, j < 128 → cb j = true → k < 7 → A 97 (7 * j + k) = sgI I0 m j k) (h96 : ∀ j, j < 128 → B 96 j = wcb I0 m j) (h28 : B 78 28 = allI I0 m) {K : Int32 → Int32 → Int32 → Int32 × Iv × Jv} : ∀ (f k fu : Nat) (x y : Int32), k + f = 7 → f < fu → (x = -1 ∨ ∃ a, a < 7 ∧ x = n3 a) → fl_X10_next_26_0 A B K fu x y (n3 k) = K (nxF (snI I0) (woI I0 m) f k x y).1 (nxF (snI I0) (woI I0 m) f k x y).2 7
  | f, k, 0, _, _, _, h, _ => absurd h (Nat.not_lt_zero _)
  | 0, k, fu + 1, x, y, hk, _, _ => by
    rw [fl_X10_next_26_0.eq_2, if_pos (by rw [show (7 : Int32) = n3 7 from rfl, n3_le (by omega) (by omega)]; omega), show k = 7 by omega]; rfl
  | f + 1, k, fu + 1, x, y, hk, hf, hx => by
    have nx : ¬ (7 : Int32) ≤ n3 k := by rw [show (7 : Int32) = n3 7 from rfl, n3_le (by omega) (by omega)]; omega
    have lt : x < 0 ↔ x = -1 := by
      rcases hx with r | ⟨a, ha, r⟩
      · rw [r]; decide
      · rw [r]
        exact ⟨fun z => absurd z (n3_no0 (by omega)), fun z => absurd z (by
          intro y
          have t := congrArg Int32.toInt y
          rw [nb_t (by omega), show (-1 : Int32).toInt = -1 by decide] at t
          omega)⟩
    have gk := g k (by omega)
    have ew : tlI I0 m k - A 95 k = woI I0 m k := by rw [← gk.2.2.2.2]; rfl
    rw [fl_X10_next_26_0.eq_2, if_neg nx, n3_tn (by omega), ← gk.1]
    dsimp only [j_n]
    by_cases z : I0 58 k = 0
    · have sn : ¬ snI I0 k = true := by unfold snI; rw [z]; decide
      rw [if_pos z, tellR (by omega) g h97 h96 h28, b_n3_mk, ew, if_pos z, nxF, if_neg sn]
      by_cases z1 : x = -1
      · rw [if_pos (lt.mpr z1), if_pos z1, n3_up, nxR g h97 h96 h28 f (k + 1) fu _ _ (by omega) (by omega) (Or.inr ⟨k, by omega, rfl⟩)]
      · rw [if_neg (fun t => z1 (lt.mp t)), if_neg z1]
        by_cases z2 : woI I0 m k ≤ y
        · rw [if_pos z2, if_pos z2, n3_up, nxR g h97 h96 h28 f (k + 1) fu x y (by omega) (by omega) hx]
        · rw [if_neg z2, if_neg z2, n3_up, nxR g h97 h96 h28 f (k + 1) fu _ _ (by omega) (by omega) (Or.inr ⟨k, by omega, rfl⟩)]
    · have sn : snI I0 k = true := by unfold snI; exact decide_eq_true z
      rw [if_neg z, if_neg z, nxF, if_pos sn, n3_up, nxR g h97 h96 h28 f (k + 1) fu x y (by omega) (by omega) hx]
theorem cs_next {c : Nat} {n v1 v2 : Int32} {I I1 I2 : Iv} {J J1 J2 : Jv} (h : CQx c I J) (hs : CS I) (e1 : fn_X9_next n I J = (v1, I1, J1)) (e2 : fn_X10_next n I1 J1 = (v2, I2, J2)) : v1 = v2 := by
  unfold fn_X9_next at e1
  unfold fn_X10_next at e2
  rw [days9, b_n3_mk] at e1
  by_cases h3 : 1 ≤ n ∧ n ≤ 6
  rotate_left
  · rw [decide_eq_false h3, if_pos (show b3 false = 0 from rfl)] at e1
    exact (cq_ref h e1 (fun C D eb => by rw [eb, b_n2_mk, days10, b_n3_mk, decide_eq_false h3, if_pos (show b3 false = 0 from rfl)] at e2; exact e2)).1
  obtain ⟨m, hm, rfl⟩ := days_n h3
  obtain ⟨I3, J3, l1, l2, l3, l4, l5, l6, l7⟩ := guess hm h hs
  obtain ⟨J4, w1, w2, w3⟩ := weighC J3 hm l7 l2 l5
  obtain ⟨I4, t1, t2⟩ := nxC hm l7 w3 7 0 8 (-1) 0 I3 rfl (by decide) (fun _ _ => rfl)
  have t1' : ∀ K : Int32 → Int32 → Int32 → Iv → Jv → Int32 × Iv × Jv, fl_X2_nextSign_15_0 (n3 m) (allI I3 m) K 8 (-1) 0 0 I3 J4 = K (nxF (snI I3) (woI I3 m) 7 0 (-1) 0).1 (nxF (snI I3) (woI I3 m) 7 0 (-1) 0).2 7 I4 J4 := t1
  rw [decide_eq_true h3, if_neg (show ¬ b3 true = 0 by decide), l1, b_n2_mk] at e1
  have eo : fn_X2_nextSign (n3 m) I3 J3 = ((nxF (snI I3) (woI I3 m) 7 0 (-1) 0).1, I4, J4) := by
    unfold fn_X2_nextSign
    rw [w1, b_n3_mk, show mU (7 : Int32) ((0 : Int32)) + 1 = 8 by decide, t1']
  rw [eo, b_n3_mk] at e1
  have y0 : (nxF (snI I3) (woI I3 m) 7 0 (-1) 0).1 = v1 := congrArg (fun (y : Int32 × Iv × Jv) => y.1) e1
  have y1 : I4 = I1 := congrArg (fun (y : Int32 × Iv × Jv) => y.2.1) e1
  have y2 : J4 = J1 := congrArg (fun (y : Int32 × Iv × Jv) => y.2.2) e1
  rw [← y1, ← y2] at e2
  obtain ⟨C, D, A', B', eb, r1, r2, r3, r4, r5⟩ := guessR (J4 := J4) hm h hs l1 t2 (by rw [w2 79 (by decide)]; exact l4)
  have z := nxR (A := A') (B := B') r2 r3 r4 r5 (K := fun (x22 : Int32) (_ : Int32) (_ : Int32) => (x22, A', B')) 7 0 (mU (7 : Int32) ((0 : Int32)) + 1) (-1) 0 rfl (by decide) (Or.inl rfl)
  have z' : fl_X10_next_26_0 A' B' (fun (x22 : Int32) (_ : Int32) (_ : Int32) => (x22, A', B')) (mU (7 : Int32) ((0 : Int32)) + 1) (-1) 0 0 = ((nxF (snI I3) (woI I3 m) 7 0 (-1) 0).1, A', B') := z
  rw [eb, b_n2_mk, days10, b_n3_mk, decide_eq_true h3, if_neg (show ¬ b3 true = 0 by decide), r1, b_n2_mk, z'] at e2
  have y3 : (nxF (snI I3) (woI I3 m) 7 0 (-1) 0).1 = v2 := congrArg (fun (y : Int32 × Iv × Jv) => y.1) e2
  rw [← y0, ← y3]
