/-! ===== WEIGHTS ===== -/
def wP (p : Nat → Int32) (s : Nat) : Nat → Nat → Int64 → Int64
  | 0, _, x => x
  | f + 1, k, x => wP p s f (k + 1) (x * (if bitI (n3 s) k = true then p k else 1000 - p k).toInt64 / 1000)
theorem wP_c {p q : Nat → Int32} {s : Nat} : ∀ (f k : Nat) (x : Int64), (∀ j, k ≤ j → j < k + f → p j = q j) → wP p s f k x = wP q s f k x
  | 0, _, _, _ => rfl
  | f + 1, k, x, h => by
    simp only [wP]
    rw [h k (Nat.le_refl _) (by omega), wP_c f (k + 1) _ (fun j h1 h2 => h j (by omega) (by omega))]
theorem wP_b {p : Nat → Int32} {s : Nat} (hp : ∀ k, k < 7 → 0 ≤ (p k).toInt ∧ (p k).toInt ≤ 1000) : ∀ (f k : Nat) (x : Int64), k + f = 7 → 0 ≤ x.toInt → x.toInt ≤ 1000000 → 0 ≤ (wP p s f k x).toInt ∧ (wP p s f k x).toInt ≤ 1000000
  | 0, _, _, _, h0, h1 => ⟨h0, h1⟩
  | f + 1, k, x, hk, h0, h1 => by
    simp only [wP]
    have pk := hp k (by omega)
    have pb : 0 ≤ (if bitI (n3 s) k = true then p k else 1000 - p k).toInt ∧ (if bitI (n3 s) k = true then p k else 1000 - p k).toInt ≤ 1000 := by
      by_cases z : bitI (n3 s) k = true
      · rw [if_pos z]; exact pk
      · have c : (1000 : Int32).toInt = 1000 := by decide
        rw [if_neg z, i3_sub (by rw [c]; omega) (by rw [c]; omega), c]; omega
    generalize (if bitI (n3 s) k = true then p k else 1000 - p k) = y at *
    have m0 : 0 ≤ x.toInt * y.toInt := Int.mul_nonneg h0 pb.1
    have m1 : x.toInt * y.toInt ≤ x.toInt * 1000 := Int.mul_le_mul_of_nonneg_left pb.2 h0
    have c : (1000 : Int64).toInt = 1000 := by decide
    have m : (x * y.toInt64).toInt = x.toInt * y.toInt := by rw [i6_mul (by rw [wd6]; omega) (by rw [wd6]; omega), wd6]
    have d : (x * y.toInt64 / 1000).toInt = (x.toInt * y.toInt).tdiv 1000 := by rw [i6_div (by decide), m, c]
    have t := td_ge (by decide : (0 : Int) < 1000) m0
    exact wP_b hp f (k + 1) _ (by omega) (by rw [d]; omega) (by rw [d]; omega)
/-- halved so often -/
def hvN : Nat → Int64 → Int64
  | 0, x => x
  | f + 1, x => hvN f (x / 2)
theorem hv_t : ∀ (h a : Nat) (x : Int64), x.toInt = (a : Int) → (hvN h x).toInt = ((a / 2 ^ h : Nat) : Int)
  | 0, a, x, e => by
    show x.toInt = _
    rw [Nat.pow_zero, Nat.div_one]; exact e
  | h + 1, a, x, e => by
    have d : (x / 2).toInt = ((a / 2 : Nat) : Int) := by
      rw [i6_div (by decide), e, show (2 : Int64).toInt = ((2 : Nat) : Int) by decide]
      exact (Int.ofNat_tdiv a 2).symm
    show (hvN h (x / 2)).toInt = _
    rw [hv_t h (a / 2) (x / 2) d, Nat.div_div_eq_div_mul, Nat.pow_succ, Nat.mul_comm 2]
theorem sh_tab : ∀ h : Fin 21, ((((n3 h.val).toInt64 &&& 63).toBitVec.smod 64).toNat) = h.val := by decide +kernel
theorem sh_hv {h : Nat} {x : Int64} (hh : h ≤ 20) (hx : 0 ≤ x.toInt) : x >>> ((n3 h).toInt64 &&& 63) = hvN h x := by
  apply Int64.toInt_inj.mp
  have e : x.toInt = ((x.toInt.toNat : Nat) : Int) := by omega
  rw [hv_t h x.toInt.toNat x e]
  have t := sh_tab ⟨h, by omega⟩
  show (BitVec.sshiftRight' x.toBitVec (((n3 h).toInt64 &&& 63).toBitVec.smod 64)).toInt = _
  rw [BitVec.toInt_sshiftRight', t]
  show x.toInt >>> h = _
  rw [Int.shiftRight_eq_div_pow, e]
  rfl
theorem hv_b {h : Nat} {x : Int64} (hx : 0 ≤ x.toInt) : 0 ≤ (hvN h x).toInt ∧ (hvN h x).toInt ≤ x.toInt := by
  have e : x.toInt = ((x.toInt.toNat : Nat) : Int) := by omega
  rw [hv_t h x.toInt.toNat x e]
  have d := Nat.div_le_self x.toInt.toNat (2 ^ h)
  generalize x.toInt.toNat / 2 ^ h = y at d ⊢
  omega
/-- how often: by the difference without sign, by e -/
def wQ (v sg e : Int32) : Int32 := (if 0 ≤ v - sg then v - sg else 0 - (v - sg)) / e
def wN (q : Int32) : Nat := (if q < 20 then q else 20).toInt.toNat
theorem z0t : (0 : Int32).toInt = 0 := by decide
theorem ab_eq {v sg : Int32} (hv : -99999 ≤ v.toInt ∧ v.toInt ≤ 99999) (hs : -1000000 ≤ sg.toInt ∧ sg.toInt ≤ 1000000) : (if 0 ≤ sg - v then sg - v else -(sg - v)) = (if 0 ≤ v - sg then v - sg else 0 - (v - sg)) ∧ 0 ≤ (if 0 ≤ v - sg then v - sg else 0 - (v - sg)).toInt := by
  have a : (v - sg).toInt = v.toInt - sg.toInt := i3_sub (by omega) (by omega)
  have b : (sg - v).toInt = sg.toInt - v.toInt := i3_sub (by omega) (by omega)
  have na : (0 - (v - sg)).toInt = -(v.toInt - sg.toInt) := by rw [i3_sub (by rw [z0t, a]; omega) (by rw [z0t, a]; omega), z0t, a]; omega
  have nb : (-(sg - v)).toInt = -(sg.toInt - v.toInt) := by
    rw [show -(sg - v) = 0 - (sg - v) from (Int32.zero_sub _).symm, i3_sub (by rw [z0t, b]; omega) (by rw [z0t, b]; omega), z0t, b]; omega
  have l1 : 0 ≤ v - sg ↔ 0 ≤ v.toInt - sg.toInt := by rw [Int32.le_iff_toInt_le, z0t, a]
  have l2 : 0 ≤ sg - v ↔ 0 ≤ sg.toInt - v.toInt := by rw [Int32.le_iff_toInt_le, z0t, b]
  constructor
  · apply Int32.toInt_inj.mp
    by_cases q1 : 0 ≤ v - sg
    · rw [if_pos q1, a]
      by_cases q2 : 0 ≤ sg - v
      · rw [if_pos q2, b]
        have := l1.mp q1
        have := l2.mp q2
        omega
      · rw [if_neg q2, nb]; omega
    · rw [if_neg q1, na]
      have n1 : ¬ 0 ≤ v.toInt - sg.toInt := fun z => q1 (l1.mpr z)
      rw [if_pos (l2.mpr (by omega)), b]; omega
  · by_cases q1 : 0 ≤ v - sg
    · rw [if_pos q1, a]; exact l1.mp q1
    · rw [if_neg q1, na]
      have n1 : ¬ 0 ≤ v.toInt - sg.toInt := fun z => q1 (l1.mpr z)
      omega
theorem wQ_0 {v sg e : Int32} (hv : -99999 ≤ v.toInt ∧ v.toInt ≤ 99999) (hs : -1000000 ≤ sg.toInt ∧ sg.toInt ≤ 1000000) (he : 1 ≤ e.toInt ∧ e.toInt ≤ 999) : 0 ≤ (wQ v sg e).toInt := by
  have a := (ab_eq hv hs).2
  unfold wQ
  have ne : e ≠ -1 := fun z => by
    rw [z, show (-1 : Int32).toInt = -1 by decide] at he; omega
  rw [i3_div ne]
  exact Int.tdiv_nonneg a (by omega)
theorem wN_is {q : Int32} (h : 0 ≤ q.toInt) : wN q ≤ 20 ∧ (if q < 20 then q else 20) = n3 (wN q) ∧ (∀ k, k < wN q → ¬ q ≤ n3 k ∧ ¬ 20 ≤ n3 k) ∧ (q ≤ n3 (wN q) ∨ 20 ≤ n3 (wN q)) ∧ wN q ≤ q.toInt.toNat := by
  have c20 : (20 : Int32).toInt = 20 := by decide
  have lt : q < 20 ↔ q.toInt < 20 := by rw [Int32.lt_iff_toInt_lt, c20]
  by_cases z : q < 20
  · have z' := lt.mp z
    have e : wN q = q.toInt.toNat := by unfold wN; rw [if_pos z]
    have en : n3 (wN q) = q := by
      rw [e]
      exact (n3_of (Int32.le_iff_toInt_le.mpr (by rw [z0t]; exact h))).symm
    refine ⟨by omega, by rw [if_pos z, en], fun k hk => ⟨?_, ?_⟩, Or.inl (by rw [en]; exact Int32.le_refl _), by omega⟩
    · rw [Int32.le_iff_toInt_le, nb_t (by omega)]; omega
    · rw [Int32.le_iff_toInt_le, nb_t (by omega), c20]; omega
  · have z' : ¬ q.toInt < 20 := fun y => z (lt.mpr y)
    have e : wN q = 20 := by unfold wN; rw [if_neg z]; rfl
    refine ⟨by omega, by rw [if_neg z, e]; rfl, fun k hk => ⟨?_, ?_⟩, Or.inr (by rw [e]; exact Int32.le_refl _), by omega⟩
    · rw [Int32.le_iff_toInt_le, nb_t (by omega)]; omega
    · rw [Int32.le_iff_toInt_le, nb_t (by omega), c20]; omega
def wH (sn : Nat → Bool) (h : Nat → Nat) : Nat → Nat → Int64 → Int64
  | 0, _, x => x
  | f + 1, k, x => wH sn h f (k + 1) (if sn k = true then hvN (h k) x else x)
theorem wH_b {sn : Nat → Bool} {h : Nat → Nat} : ∀ (f k : Nat) (x : Int64), 0 ≤ x.toInt → 0 ≤ (wH sn h f k x).toInt ∧ (wH sn h f k x).toInt ≤ x.toInt
  | 0, _, _, h0 => ⟨h0, Int.le_refl _⟩
  | f + 1, k, x, h0 => by
    simp only [wH]
    by_cases z : sn k = true
    · rw [if_pos z]
      have a := hv_b (h := h k) h0
      have b := wH_b (sn := sn) (h := h) f (k + 1) (hvN (h k) x) a.1
      omega
    · rw [if_neg z]
      exact wH_b f (k + 1) x h0
/-- the WEIGHT of a SET, by what the class holds -/
def sgI (I : Iv) (m s k : Nat) : Int32 := I 56 ((s * 6 + (m - 1)) * 7 + k)
def snI (I : Iv) (k : Nat) : Bool := decide (¬ I 58 k = 0)
def hwI (I : Iv) (m s k : Nat) : Nat := wN (wQ (I 59 k) (sgI I m s k) (I 60 k))
def wtI (I : Iv) (m s : Nat) : Int64 := wH (snI I) (hwI I m s) 7 0 (wP (I 61) s 7 0 1000000)
/-- class and reference, as the guess wants them -/
def GR (I A : Iv) : Prop := ∀ k, k < 7 → I 58 k = A 91 k ∧ (¬ I 58 k = 0 → I 59 k = A 92 k ∧ I 60 k = A 93 k ∧ (-99999 ≤ (I 59 k).toInt ∧ (I 59 k).toInt ≤ 99999) ∧ (1 ≤ (I 60 k).toInt ∧ (I 60 k).toInt ≤ 999)) ∧ I 61 k = A 94 k ∧ (0 ≤ (I 61 k).toInt ∧ (I 61 k).toInt ≤ 1000) ∧ I 62 k = A 95 k
theorem wt_b {I A : Iv} (m s : Nat) (g : GR I A) : 0 ≤ (wtI I m s).toInt ∧ (wtI I m s).toInt ≤ 1000000 := by
  have a := wP_b (s := s) (fun k hk => (g k hk).2.2.2.1) 7 0 1000000 rfl (by decide) (by decide)
  have b := wH_b (sn := snI I) (h := hwI I m s) 7 0 _ a.1
  unfold wtI
  omega
/-! the class weighs -/
theorem wPC {I : Iv} {J : Jv} {s : Nat} (hs : s < 128) {K : Int64 → Int32 → Int64 × Iv × Jv} : ∀ (f k fu : Nat) (x : Int64), k + f = 7 → f < fu → fl_X2_weightOf_7_0 I J (n3 s) K fu x (n3 k) = K (wP (I 61) s f k x) 7
  | f, k, 0, _, _, h => absurd h (Nat.not_lt_zero _)
  | 0, k, fu + 1, x, hk, _ => by
    rw [fl_X2_weightOf_7_0.eq_2, if_pos (by rw [show (7 : Int32) = n3 7 from rfl, n3_le (by omega) (by omega)]; omega), show k = 7 by omega]; rfl
  | f + 1, k, fu + 1, x, hk, hf => by
    have b := bit_s hs (show k < 7 by omega)
    rw [fl_X2_weightOf_7_0.eq_2, if_neg (by rw [show (7 : Int32) = n3 7 from rfl, n3_le (by omega) (by omega)]; omega), n3_tn (by omega)]
    dsimp only [j_n]
    show _ = K (wP (I 61) s f (k + 1) (x * (if bitI (n3 s) k = true then I 61 k else 1000 - I 61 k).toInt64 / 1000)) 7
    by_cases z : ((n3 s >>> (n3 k &&& 31)) &&& 1) = 0
    · rw [if_pos z, l_t, n3_up, wPC hs f (k + 1) fu _ (by omega) (by omega), b.mp z, if_neg (by decide)]
    · have zb : bitI (n3 s) k = true := by
        cases h : bitI (n3 s) k with
        | true => rfl
        | false => exact absurd (b.mpr h) z
      rw [if_neg z, l_t, n3_up, wPC hs f (k + 1) fu _ (by omega) (by omega), zb, if_pos rfl]
theorem exactIs {I A : Iv} {k : Nat} (hk : k < 7) (g : GR I A) (J : Jv) (h : ¬ I 58 k = 0) : fn_X2_exactOf (n3 k) I J = (I 60 k, I, J) := by
  have e := ((g k hk).2.1 h).2.2.2
  unfold fn_X2_exactOf
  rw [n3_tn (by omega), if_neg h, if_neg (by rw [Int32.le_iff_toInt_le, z0t]; omega)]
theorem wHC {I A : Iv} {J : Jv} {s m : Nat} (hs : s < 128) (hm : 1 ≤ m ∧ m ≤ 6) (g : GR I A) (hb : ∀ k, k < 7 → -1000000 ≤ (sgI I m s k).toInt ∧ (sgI I m s k).toInt ≤ 1000000) {K : Int64 → Int32 → Int64 × Iv × Jv} : ∀ (f k fu : Nat) (x : Int64), k + f = 7 → f < fu → 0 ≤ x.toInt → fl_X2_weightOf_61_1 I J (n3 s) (n3 m) K fu x (n3 k) = K (wH (snI I) (hwI I m s) f k x) 7
  | f, k, 0, _, _, h, _ => absurd h (Nat.not_lt_zero _)
  | 0, k, fu + 1, x, hk, _, _ => by
    rw [fl_X2_weightOf_61_1.eq_2, if_pos (by rw [show (7 : Int32) = n3 7 from rfl, n3_le (by omega) (by omega)]; omega), show k = 7 by omega]; rfl
  | f + 1, k, fu + 1, x, hk, hf, hx => by
    rw [fl_X2_weightOf_61_1.eq_2, if_neg (by rw [show (7 : Int32) = n3 7 from rfl, n3_le (by omega) (by omega)]; omega), n3_tn (by omega)]
    show _ = K (wH (snI I) (hwI I m s) f (k + 1) (if snI I k = true then hvN (hwI I m s k) x else x)) 7
    by_cases z : I 58 k = 0
    · have sn : snI I k = false := by unfold snI; rw [z]; rfl
      rw [if_pos z, n3_up, wHC hs hm g hb f (k + 1) fu x (by omega) (by omega) hx, sn, if_neg (by decide)]
    · have sn : snI I k = true := by unfold snI; exact decide_eq_true z
      obtain ⟨g1, g2, g3, g4⟩ := (g k (by omega)).2.1 z
      have q0 := wQ_0 g3 (hb k (by omega)) g4
      obtain ⟨w1, w2, -, -, -⟩ := wN_is q0
      have eh : fn_X2_halvings (n3 s) (n3 m) (n3 k) I J = (n3 (hwI I m s k), I, J) := by
        unfold fn_X2_halvings
        rw [signIs hs hm (by omega), b_n3_mk, n3_tn (by omega), l_t, exactIs (by omega) g J z, b_n3_mk]
        show ((if wQ (I 59 k) (sgI I m s k) (I 60 k) < 20 then wQ (I 59 k) (sgI I m s k) (I 60 k) else 20), I, J) = _
        rw [w2]; rfl
      have hb2 := hv_b (h := hwI I m s k) hx
      have w1' : hwI I m s k ≤ 20 := w1
      rw [if_neg z, eh, b_n3_mk, l_t, n3_up, sh_hv w1' hx, wHC hs hm g hb f (k + 1) fu _ (by omega) (by omega) hb2.1, sn, if_pos rfl]
theorem wtC {I A : Iv} {s m : Nat} (J : Jv) (hs : s < 128) (hm : 1 ≤ m ∧ m ≤ 6) (g : GR I A) (hb : ∀ k, k < 7 → -1000000 ≤ (sgI I m s k).toInt ∧ (sgI I m s k).toInt ≤ 1000000) : fn_X2_weightOf (n3 s) (n3 m) I J = (wtI I m s, I, J) := by
  have a := wP_b (s := s) (fun k hk => (g k hk).2.2.2.1) 7 0 1000000 rfl (by decide) (by decide)
  have z1 := wPC (I := I) (J := J) hs (K := fun (x1 : Int64) (_ : Int32) => fl_X2_weightOf_61_1 I J (n3 s) (n3 m) (fun (x4 : Int64) (_ : Int32) => (x4, I, J)) (mU (7 : Int32) ((0 : Int32)) + 1) x1 (0 : Int32)) 7 0 (mU (7 : Int32) ((0 : Int32)) + 1) 1000000 rfl (by decide)
  have z2 := wHC (J := J) hs hm g hb (K := fun (x4 : Int64) (_ : Int32) => (x4, I, J)) 7 0 (mU (7 : Int32) ((0 : Int32)) + 1) (wP (I 61) s 7 0 1000000) rfl (by decide) a.1
  unfold fn_X2_weightOf
  exact z1.trans z2
/-! the reference weighs -/
theorem wPR {I A : Iv} {B : Jv} {s : Nat} (g : GR I A) {K : Int64 → Int32 → Int64 × Iv × Jv} : ∀ (f k fu : Nat) (x : Int64), k + f = 7 → f < fu → fl_X10_weightOf_7_0 A B (n3 s) K fu x (n3 k) = K (wP (I 61) s f k x) 7
  | f, k, 0, _, _, h => absurd h (Nat.not_lt_zero _)
  | 0, k, fu + 1, x, hk, _ => by
    rw [fl_X10_weightOf_7_0.eq_2, if_pos (by rw [show (7 : Int32) = n3 7 from rfl, n3_le (by omega) (by omega)]; omega), show k = 7 by omega]; rfl
  | f + 1, k, fu + 1, x, hk, hf => by
    have e := (g k (by omega)).2.2.1
    rw [fl_X10_weightOf_7_0.eq_2, if_neg (by rw [show (7 : Int32) = n3 7 from rfl, n3_le (by omega) (by omega)]; omega), has_w (by omega), b_n3_mk, n3_tn (by omega), ← e]
    dsimp only [j_n]
    show _ = K (wP (I 61) s f (k + 1) (x * (if bitI (n3 s) k = true then I 61 k else 1000 - I 61 k).toInt64 / 1000)) 7
    cases z : bitI (n3 s) k with
    | false =>
      rw [if_pos (show b3 false = 0 from rfl), l_t, n3_up, wPR g f (k + 1) fu _ (by omega) (by omega), if_neg (by decide)]
    | true =>
      rw [if_neg (show ¬ b3 true = 0 by decide), l_t, n3_up, wPR g f (k + 1) fu _ (by omega) (by omega), if_pos rfl]
theorem hvR {A : Iv} {B : Jv} {q : Int32} (hq : 0 ≤ q.toInt) {K : Int64 → Int32 → Int64 × Iv × Jv} : ∀ (f k fu : Nat) (x : Int64), k + f = wN q → f < fu → fl_X10_weightOf_127_3 A B q K fu x (n3 k) = K (hvN f x) (n3 (wN q))
  | f, k, 0, _, _, h => absurd h (Nat.not_lt_zero _)
  | 0, k, fu + 1, x, hk, _ => by
    obtain ⟨w1, w2, w3, w4, w5⟩ := wN_is hq
    have ek : k = wN q := by omega
    rw [fl_X10_weightOf_127_3.eq_2, ek]
    rcases w4 with z | z
    · rw [if_pos z]; rfl
    · by_cases y : q ≤ n3 (wN q)
      · rw [if_pos y]; rfl
      · rw [if_neg y, if_pos z]; rfl
  | f + 1, k, fu + 1, x, hk, hf => by
    obtain ⟨w1, w2, w3, w4, w5⟩ := wN_is hq
    have n := w3 k (by omega)
    rw [fl_X10_weightOf_127_3.eq_2, if_neg n.1, if_neg n.2, l_t, n3_up, hvR hq f (k + 1) fu (x / 2) (by omega) (by omega)]
    rfl
theorem wHR {I A : Iv} {B : Jv} {s m : Nat} (hs : s < 128) (g : GR I A) (hb : ∀ k, k < 7 → -1000000 ≤ (sgI I m s k).toInt ∧ (sgI I m s k).toInt ≤ 1000000) (h97 : ∀ k, k < 7 → A 97 (7 * s + k) = sgI I m s k) {K : Int64 → Int32 → Int64 × Iv × Jv} : ∀ (f k fu : Nat) (x : Int64), k + f = 7 → f < fu → fl_X10_weightOf_62_1 A B (n3 s) K fu x (n3 k) = K (wH (snI I) (hwI I m s) f k x) 7
  | f, k, 0, _, _, h => absurd h (Nat.not_lt_zero _)
  | 0, k, fu + 1, x, hk, _ => by
    rw [fl_X10_weightOf_62_1.eq_2, if_pos (by rw [show (7 : Int32) = n3 7 from rfl, n3_le (by omega) (by omega)]; omega), show k = 7 by omega]; rfl
  | f + 1, k, fu + 1, x, hk, hf => by
    have e58 := (g k (by omega)).1
    rw [fl_X10_weightOf_62_1.eq_2, if_neg (by rw [show (7 : Int32) = n3 7 from rfl, n3_le (by omega) (by omega)]; omega), n3_tn (show k ≤ 1000 by omega), ← e58]
    show _ = K (wH (snI I) (hwI I m s) f (k + 1) (if snI I k = true then hvN (hwI I m s k) x else x)) 7
    by_cases z : I 58 k = 0
    · have sn : snI I k = false := by unfold snI; rw [z]; rfl
      rw [if_pos z, n3_up, wHR hs g hb h97 f (k + 1) fu x (by omega) (by omega), sn, if_neg (by decide)]
    · have sn : snI I k = true := by unfold snI; exact decide_eq_true z
      obtain ⟨g1, g2, g3, g4⟩ := (g k (by omega)).2.1 z
      have q0 := wQ_0 g3 (hb k (by omega)) g4
      have ab := (ab_eq g3 (hb k (by omega))).1
      obtain ⟨w1, w2, w3, w4, w5⟩ := wN_is q0
      have ei : ((7 * n3 s) + n3 k).toNatClampNeg = 7 * s + k := by
        rw [show (7 : Int32) = n3 7 from rfl, n3_mul, n3_add, nb_tn (by omega)]
      have hw : ∀ (K2 : Int64 → Int32 → Int64 × Iv × Jv), fl_X10_weightOf_127_3 A B (wQ (I 59 k) (sgI I m s k) (I 60 k)) K2 (mU (wQ (I 59 k) (sgI I m s k) (I 60 k)) ((0 : Int32)) + 1) x (0 : Int32) = K2 (hvN (hwI I m s k) x) (n3 (hwI I m s k)) := fun K2 =>
        hvR q0 (wN (wQ (I 59 k) (sgI I m s k) (I 60 k))) 0 _ x (by omega) (by
          unfold mU; rw [z0t]; omega)
      rw [if_neg z, ei, h97 k (by omega), ← g1, ← g2, l_t]
      dsimp only [j_n]
      have fin : fl_X10_weightOf_62_1 A B (n3 s) K fu (hvN (hwI I m s k) x) (n3 k + 1) = K (wH (snI I) (hwI I m s) f (k + 1) (if snI I k = true then hvN (hwI I m s k) x else x)) 7 := by
        rw [n3_up, wHR hs g hb h97 f (k + 1) fu _ (by omega) (by omega), sn, if_pos rfl]
      by_cases y : 0 ≤ sgI I m s k - I 59 k
      · rw [if_pos y] at ab
        rw [if_pos y, ab, l_t]
        exact (hw _).trans fin
      · rw [if_neg y] at ab
        rw [if_neg y, ab, l_t]
        exact (hw _).trans fin
theorem wtR {I A : Iv} {s m : Nat} (B : Jv) (hs : s < 128) (g : GR I A) (hb : ∀ k, k < 7 → -1000000 ≤ (sgI I m s k).toInt ∧ (sgI I m s k).toInt ≤ 1000000) (h97 : ∀ k, k < 7 → A 97 (7 * s + k) = sgI I m s k) : fn_X10_weightOf (n3 s) A B = (wtI I m s, A, B) := by
  have z1 := wPR (B := B) (s := s) g (K := fun (x1 : Int64) (_ : Int32) => fl_X10_weightOf_62_1 A B (n3 s) (fun (x4 : Int64) (_ : Int32) => (x4, A, B)) (mU (7 : Int32) ((0 : Int32)) + 1) x1 (0 : Int32)) 7 0 (mU (7 : Int32) ((0 : Int32)) + 1) 1000000 rfl (by decide)
  have z2 := wHR (B := B) hs g hb h97 (K := fun (x4 : Int64) (_ : Int32) => (x4, A, B)) 7 0 (mU (7 : Int32) ((0 : Int32)) + 1) (wP (I 61) s 7 0 1000000) rfl (by decide)
  unfold fn_X10_weightOf
  exact z1.trans z2
