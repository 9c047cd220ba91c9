/-! ===== a State and a block of the reference hold the same; a tick keeps it ===== -/
def wmT (t : Int32) : Int := 10000 + 30 * t.toInt
def cpC (k : Nat) : Int := if k = 3 then 40 else 20
def STf (o X : Nat) (I : Iv) (J B : Jv) (f : Nat) : Prop :=
  (I (o + 3) f = 0 ∧ B 79 (X + 12 + f) = 0 ∧ J (o + 1) (4 + f) = 0) ∨ (I (o + 3) f = 1 ∧ B 79 (X + 12 + f) = 1 ∧ B 79 (X + 20 + f) = (I (o + 4) f).toInt64 ∧ (0 ≤ (I (o + 4) f).toInt ∧ (I (o + 4) f).toInt ≤ 2) ∧ B 79 (X + 28 + f) = (I (o + 2) (4 + f)).toInt64 ∧ (1 ≤ (I (o + 2) (4 + f)).toInt ∧ (I (o + 2) (4 + f)).toInt ≤ 200) ∧
    B 79 (X + 36 + f) = (I (o + 5) f).toInt64 ∧ B 79 (X + 44 + f) = (I (o + 6) f).toInt64 ∧ -(wmT (I (o + 8) 0)) ≤ (J (o + 1) (4 + f)).toInt.tdiv (I (o + 2) (4 + f)).toInt ∧ (J (o + 1) (4 + f)).toInt.tdiv (I (o + 2) (4 + f)).toInt ≤ wmT (I (o + 8) 0))
/-- the seed: the trial's is let go -/
def SDm (o X : Nat) (I : Iv) (B : Jv) : Prop := X = 80 ∨ (B 79 (X + 70) = (I o 13).toInt64 ∧ 0 ≤ (I o 13).toInt)
def STn (N : Int) (o X : Nat) (I : Iv) (B : Jv) : Prop :=
  (SB (I o 8) ∧ B 79 (X + 52) = (I o 8).toInt64) ∧ ((0 ≤ (I (o + 8) 5).toInt ∧ (I (o + 8) 5).toInt ≤ 9999) ∧ B 79 (X + 53) = (I (o + 8) 5).toInt64) ∧ ((0 ≤ (I (o + 8) 0).toInt ∧ (I (o + 8) 0).toInt ≤ N) ∧ B 79 (X + 54) = (I (o + 8) 0).toInt64) ∧
  ((B 79 (X + 60)).toInt32 = I (o + 8) 4 ∧ (B 79 (X + 61)).toInt32 = I (o + 8) 6 ∧ (B 79 (X + 62)).toInt32 = I (o + 8) 7 ∧ (B 79 (X + 63)).toInt32 = I (o + 8) 1 ∧ (B 79 (X + 64)).toInt32 = I (o + 8) 2 ∧ (B 79 (X + 65)).toInt32 = I (o + 8) 3) ∧
  (∃ was : Bool, I o 10 = b3 was ∧ B 79 (X + 66) = (b3 was).toInt64) ∧ (B 79 (X + 67) = (I o 9).toInt64 ∧ -(wmT (I (o + 8) 0)) ≤ (I o 9).toInt ∧ (I o 9).toInt ≤ wmT (I (o + 8) 0)) ∧ (∃ cov : Bool, I o 11 = b3 cov ∧ B 79 (X + 68) = (b3 cov).toInt64) ∧ (∃ cur : Bool, I o 12 = b3 cur ∧ B 79 (X + 69) = (b3 cur).toInt64) ∧ SDm o X I B
def STm (N : Int) (o X : Nat) (I : Iv) (J B : Jv) : Prop :=
  (∀ k, k < 12 → B 79 (X + k) = J (o + 1) k) ∧ (∀ k, k < 4 → (I (o + 2) k).toInt = cpC k ∧ -(wmT (I (o + 8) 0)) ≤ (J (o + 1) k).toInt.tdiv (cpC k) ∧ (J (o + 1) k).toInt.tdiv (cpC k) ≤ wmT (I (o + 8) 0)) ∧ (∀ f, f < 8 → STf o X I J B f) ∧ (∀ j, 1 ≤ j → j < 6 → B 79 (X + 54 + j) = J (o + 7) j) ∧ STn N o X I B
/-- the warmths as they are told by the class -/
def wS (o : Nat) (I : Iv) (J : Jv) (k : Nat) : Int64 := J (o + 1) k / (I (o + 2) k).toInt64
def thS (o : Nat) (I : Iv) (f : Nat) : Bool := decide (I (o + 3) f = 1)
def shS (o : Nat) (I : Iv) (f : Nat) : Nat := (I (o + 4) f).toNatClampNeg
theorem wS_t {o k : Nat} {I : Iv} {J : Jv} (h : 1 ≤ (I (o + 2) k).toInt) : (wS o I J k).toInt = (J (o + 1) k).toInt.tdiv (I (o + 2) k).toInt := by
  unfold wS
  have ne : (I (o + 2) k).toInt64 ≠ -1 := by
    intro z
    have := congrArg Int64.toInt z
    rw [wd6, show (-1 : Int64).toInt = -1 by decide] at this; omega
  rw [i6_div ne, wd6]
theorem wC_S {o k : Nat} {I : Iv} {J : Jv} {M : Int} (hM : M ≤ 100000000) (h : 1 ≤ (I (o + 2) k).toInt) (h1 : -M ≤ (J (o + 1) k).toInt.tdiv (I (o + 2) k).toInt) (h2 : (J (o + 1) k).toInt.tdiv (I (o + 2) k).toInt ≤ M) : (wC o I J k).toInt64 = wS o I J k ∧ WB M (wS o I J k) ∧ -M ≤ (wC o I J k).toInt ∧ (wC o I J k).toInt ≤ M := by
  have t := wS_t (J := J) h
  have e : wC o I J k = (wS o I J k).toInt32 := by
    unfold wC wS
    rw [if_pos (Int32.le_iff_toInt_le.mpr (by rw [show (1 : Int32).toInt = 1 by decide]; exact h))]
  have s : (wS o I J k).toInt32.toInt = (wS o I J k).toInt := sd6 (by omega) (by omega)
  refine ⟨by rw [e]; exact sd6w (by omega) (by omega), ⟨by omega, by omega⟩, by rw [e, s]; omega, by rw [e, s]; omega⟩
theorem sh_of {x : Int32} (h : 0 ≤ x.toInt ∧ x.toInt ≤ 2) : x = n3 x.toNatClampNeg ∧ x.toNatClampNeg < 3 := by
  constructor
  · exact n3_of (Int32.le_iff_toInt_le.mpr (by rw [show (0 : Int32).toInt = 0 by decide]; exact h.1))
  · show x.toInt.toNat < 3; omega
theorem st_W {N : Int} {o X : Nat} {I : Iv} {J B : Jv} {M : Int} (hM : M = wmT (I (o + 8) 0)) (hM2 : M ≤ 100000000) (h : STm N o X I J B) : WIv o I J M (wS o I J) (thS o I) (shS o I) ∧ WIr X B (wS o I J) (thS o I) (shS o I) := by
  obtain ⟨hh, hc, hf, -, -⟩ := h
  have cap : ∀ k, k < 4 → cpR X B k = (I (o + 2) k).toInt64 := by
    intro k hk
    have := (hc k hk).1
    unfold cpR
    unfold cpC at this
    by_cases q : k = 3
    · rw [if_neg (by omega), if_pos q]
      rw [if_pos q] at this
      exact (wd6_eq (by rw [this]; decide)).symm
    · rw [if_pos (by omega)]
      rw [if_neg q] at this
      exact (wd6_eq (by rw [this]; decide)).symm
  have lo : ∀ k, k < 4 → 1 ≤ (I (o + 2) k).toInt := by
    intro k hk
    have := (hc k hk).1
    unfold cpC at this
    by_cases q : k = 3
    · rw [if_pos q] at this; omega
    · rw [if_neg q] at this; omega
  have w4 : ∀ k, k < 4 → (wC o I J k).toInt64 = wS o I J k ∧ WB M (wS o I J k) := by
    intro k hk
    obtain ⟨c1, c2, c3⟩ := hc k hk
    have := wC_S (o := o) (k := k) (I := I) (J := J) hM2 (lo k hk) (by rw [c1, hM]; exact c2) (by rw [c1, hM]; exact c3)
    exact ⟨this.1, this.2.1⟩
  refine ⟨⟨w4, fun f hf8 => ?_⟩, ⟨fun k hk => ?_, fun f hf8 => ?_⟩⟩
  · rcases hf f hf8 with ⟨a1, a2, a3⟩ | ⟨a1, a2, a3, a4, a5, a6, a7, a8, a9, a10⟩
    · refine Or.inl ⟨?_, a1⟩
      unfold thS; rw [a1]; decide
    · have := wC_S (o := o) (k := 4 + f) (I := I) (J := J) hM2 a6.1 (by rw [hM]; exact a9) (by rw [hM]; exact a10)
      have s := sh_of a4
      refine Or.inr ⟨?_, by rw [a1]; decide, this.1, this.2.1, s.1, s.2⟩
      unfold thS; rw [a1]; decide
  · rw [hh k (by omega), cap k hk]; rfl
  · rcases hf f hf8 with ⟨a1, a2, a3⟩ | ⟨a1, a2, a3, a4, a5, a6, a7, a8, a9, a10⟩
    · refine Or.inl ⟨?_, a2⟩
      unfold thS; rw [a1]; decide
    · have s := sh_of a4
      refine Or.inr ⟨?_, a2, ?_, ?_, s.2⟩
      · unfold thS; rw [a1]; decide
      · have ec : cpR X B (4 + f) = (I (o + 2) (4 + f)).toInt64 := by
          unfold cpR
          rw [if_neg (by omega), if_neg (by omega), show X + 28 + (4 + f - 4) = X + 28 + f by omega]; exact a5
        rw [hh _ (by omega), ec]; rfl
      · rw [a3]; show (I (o + 4) f).toInt64 = (n3 (I (o + 4) f).toNatClampNeg).toInt64
        rw [← s.1]
theorem add0_6 (x : Int64) : x + 0 = x := Int64.add_zero x
theorem to32_add {a b : Int64} {x y : Int32} (h1 : a.toInt32 = x) (h2 : b = y.toInt64) : (a + b).toInt32 = x + y := by
  rw [Int64.toInt32_add, h1, h2, wsd6]
theorem st_tick {N : Int} {o X u : Nat} {less : Int32} {op : Bool} {I A : Iv} {J B : Jv} (ho : 15 < o) (hX : X ≤ 240) (hu : u < 3) (hN : N ≤ 2000000) (hb : BX I) (hA : ∀ j, j < 15 → A 81 j = I 8 j) (hl : 0 ≤ less.toInt ∧ less.toInt ≤ 40) (h : STm N o X I J B) :
    ∃ (I' : Iv) (J' B' : Jv), fn_X7_pass o (b3 op) (n3 u) less I J = (I', J') ∧ fn_X10_tick (n3 X) (b3 op) (n3 u) less A B = (A, B') ∧ STm (N + 1) o X I' J' B' ∧ (∀ b, b ≠ 14 → b ≠ o → b ≠ o + 8 → I' b = I b) ∧ (∀ k, k ≠ 9 → k ≠ 10 → I' o k = I o k) ∧ I' (o + 8) 0 = I (o + 8) 0 + 1 ∧ (∀ r, r ≠ 15 → r ≠ o + 1 → r ≠ o + 7 → J' r = J r) ∧ (∀ r, r ≠ 79 → r ≠ 88 → B' r = B r) ∧ ∀ k, k < X ∨ X + 70 ≤ k → B' 79 k = B 79 k := by
  have hh := h
  obtain ⟨g1, g2, g3, g4, ⟨n1, n52⟩, ⟨n2, n53⟩, ⟨n3', n54⟩, ⟨n60, n61, n62, n63, n64, n65⟩, ⟨was, n10, n66⟩, ⟨n67, n9a, n9b⟩, ⟨cov, n11, n68⟩, ⟨cur, n12, n69⟩, n70⟩ := hh
  have hT : TkB (I (o + 8) 0) := ⟨n3'.1, by omega⟩
  have hM : wmT (I (o + 8) 0) ≤ 100000000 := by unfold wmT; omega
  have hM0 : 10000 ≤ wmT (I (o + 8) 0) := by unfold wmT; omega
  obtain ⟨hW, hR⟩ := st_W rfl hM h
  obtain ⟨I', J', e1, p1, p2, p3, p4, p5, p6, p7, p8, p9, p10, p11, p12, p13, p14, p15, p16, p17, p18⟩ := passC (op := op) (less := less) ho hu hM hb n1 hT n2 n11 n10 n12 hW
  -- the class's numbers, as longs
  have wb : ∀ k, k < 4 → (wC o I J k).toInt64 = wS o I J k ∧ -(wmT (I (o + 8) 0)) ≤ (wC o I J k).toInt ∧ (wC o I J k).toInt ≤ wmT (I (o + 8) 0) := by
    intro k hk
    have := hW.1 k hk
    refine ⟨this.1, ?_, ?_⟩
    · have := this.2.1; rw [← (hW.1 k hk).1, wd6] at this; exact this
    · have := this.2.2; rw [← (hW.1 k hk).1, wd6] at this; exact this
  obtain ⟨q1, q2, q3⟩ := rd_eq (cov := cov) (rd := I o 9) (w := wC o I J u) hM ⟨n9a, n9b⟩ (wb u (by omega)).2
  have b6 := hb.2.2.2.2.2.2.1
  have b7 := hb.2.2.2.2.2.2.2.1
  have qon : tkOn o u less I J cov was cur = onR cur (bitI (I o 8) 4) was (tkRd o u I J cov).toInt64 (10 * (A 81 6 - less).toInt64) (10 * (A 81 7 - less).toInt64) := by
    unfold tkOn; rw [on_eq b6 b7 hl, hA 6 (by omega), hA 7 (by omega)]
  have qrd : (tkRd o u I J cov).toInt64 = rdR cov (B 79 (X + 67)) (wS o I J u) := by
    rw [n67, ← (wb u (by omega)).1]; exact q1
  have qrm : (tkRm o I).toInt64 = rmR A (I o 8) (hrB (A 81 12) (A 81 13) (dT (I (o + 8) 0))) := rm_eq hb hA
  obtain ⟨qg, qg2⟩ := gap_eq (s := I o 8) (op := op) hb hA
  have rmb := bnd_room (I := I) (s := I o 8) (d := dT (I (o + 8) 0)) hb
  obtain ⟨v1, pp, v2, v3⟩ := mv_eq (s := I o 8) (rm := tkRm o I) (w := wC o I J 3) hb hA ⟨rmb.1, rmb.2.1⟩ hM (wb 3 (by omega)).2
  generalize hon : tkOn o u less I J cov was cur = on at *
  have qout : (tkOut o I J on).toInt64 = opR on (mvR A (I o 8) (tkRm o I).toInt64 (wS o I J 3)) := by
    unfold tkOut opR
    cases on with
    | false => rfl
    | true => rw [if_pos rfl, if_pos rfl, v1, (wb 3 (by omega)).1]
  have qout2 : (tkOut o I J on).toInt64.toInt = 0 ∨ (0 ≤ (tkOut o I J on).toInt64.toInt ∧ (tkOut o I J on).toInt64.toInt = pp - ((tkRm o I).toInt - (wC o I J 3).toInt).tdiv 8) := by
    rw [wd6]
    unfold tkOut
    cases on with
    | false => exact Or.inl (show (0 : Int32).toInt = 0 by decide)
    | true => rw [if_pos rfl]; exact v3
  obtain ⟨B', e2, r1, r2, r3, r4, r5, r6, r7, r8, r9, r10, r11, r12, r13, r14, r15, r16, r17, r18⟩ := tickR (X := X) (u := u) (less := less) (s := I o 8) (t := I (o + 8) 0) (op := op) (cov := cov) (was := was) (cur := cur) (I := A) B hX hu n52 n54 hT n68 n66 n69 hR (tkRd o u I J cov).toInt64 (tkRm o I).toInt64 (I 8 1 + seV I (I o 8) + opN op 60).toInt64 (tkOut o I J on).toInt64 on (tkLit o I op cur) (tkG o I op (wS o I J) (thS o I) (shS o I)) qrd qon qrm qg (by
    unfold tkG
    rw [hA 3 (by omega), hA 4 (by omega), hA 5 (by omega), n53]) (by unfold tkLit; rw [Bool.and_comm]) qout
  refine ⟨I', J', B', e1, e2, ?_, p1, p3, p11, p2, r1, r2⟩
  -- bounds of what flows
  have bgp := bnd_gap (s := I o 8) (op := op) hb
  have b1' := hb.2.1
  have he : EaB (I 8 1 + seV I (I o 8) + opN op 60).toInt64 (I 8 3).toInt64 (I 8 4).toInt64 (I 8 5).toInt64 (I (o + 8) 5).toInt64 := by
    unfold EaB
    rw [wd6, wd6, wd6, wd6, wd6, bgp.2.2.1]
    refine ⟨?_, hb.2.2.2.1, hb.2.2.2.2.1, hb.2.2.2.2.2.1, n2⟩
    cases op <;> simp <;> omega
  have hrW : WB (wmT (I (o + 8) 0)) (tkRm o I).toInt64 := by
    have h1 := rmb.1
    have h2 := rmb.2.1
    unfold WB
    rw [wd6]
    show -(wmT (I (o + 8) 0)) ≤ (rmV I (I o 8) (dT (I (o + 8) 0))).toInt ∧ (rmV I (I o 8) (dT (I (o + 8) 0))).toInt ≤ wmT (I (o + 8) 0)
    omega
  have hsf : ∀ f, f < 8 → thS o I f = true → WB (wmT (I (o + 8) 0)) (wS o I J (4 + f)) ∧ shS o I f < 3 := by
    intro f hf q
    rcases hW.2 f hf with ⟨z, -⟩ | ⟨-, -, -, z1, -, z2⟩
    · rw [z] at q; exact absurd q (by decide)
    · exact ⟨z1, z2⟩
  obtain ⟨t1, t2, t3, t4⟩ := gT_b (th := thS o I) (sh := shS o I) he hM hrW (fun k hk => (hW.1 k hk).2) hsf
  have lam : opR (tkLit o I op cur) (5 * (A 81 10).toInt64) = tkLh o I op cur := by
    unfold opR tkLh
    rw [hA 10 (by omega), Int64.mul_comm]
  have b10 := hb.2.2.2.2.2.2.2.2.2.2.1
  have lamb : 0 ≤ (tkLh o I op cur).toInt ∧ (tkLh o I op cur).toInt ≤ 495 := by
    unfold tkLh
    by_cases q : tkLit o I op cur = true
    · rw [if_pos q, i6_mul (by rw [wd6, show (5 : Int64).toInt = 5 by decide]; omega) (by rw [wd6, show (5 : Int64).toInt = 5 by decide]; omega), wd6, show (5 : Int64).toInt = 5 by decide]; omega
    · rw [if_neg q]; decide
  have T1 : (I' (o + 8) 0).toInt = (I (o + 8) 0).toInt + 1 := by
    rw [p11, i3_add (by rw [show (1 : Int32).toInt = 1 by decide]; omega) (by rw [show (1 : Int32).toInt = 1 by decide]; omega)]; rfl
  have W1 : wmT (I' (o + 8) 0) = wmT (I (o + 8) 0) + 30 := by unfold wmT; rw [T1]; omega
  have i2 : I' (o + 2) = I (o + 2) := p1 _ (by omega) (by omega) (by omega)
  have i3 : I' (o + 3) = I (o + 3) := p1 _ (by omega) (by omega) (by omega)
  have i4 : I' (o + 4) = I (o + 4) := p1 _ (by omega) (by omega) (by omega)
  have i5 : I' (o + 5) = I (o + 5) := p1 _ (by omega) (by omega) (by omega)
  have i6 : I' (o + 6) = I (o + 6) := p1 _ (by omega) (by omega) (by omega)
  have hM2 : 10000 ≤ wmT (I (o + 8) 0) ∧ wmT (I (o + 8) 0) ≤ 100000000 := ⟨hM0, hM⟩
  -- the heats
  have heat : ∀ k, k < 12 → B' 79 (X + k) = J' (o + 1) k := by
    intro k hk
    rw [r5 k hk, p6 k hk, lam]
    unfold tkH
    by_cases z0 : k = 0
    · subst z0; rw [if_pos rfl, if_pos rfl, g1 0 (by omega)]
    · by_cases z3 : k = 3
      · subst z3; rw [if_neg (by decide), if_pos rfl, if_neg (by decide), if_pos rfl, g1 3 (by omega)]
      · rw [if_neg z0, if_neg z3, if_neg z0, if_neg z3, g1 k hk]
  have xk : ∀ k, k < 4 → (wS o I J k).toInt = (J (o + 1) k).toInt.tdiv (cpC k) := by
    intro k hk
    have c1 := (g2 k hk).1
    have : 1 ≤ (I (o + 2) k).toInt := by
      rw [c1]; unfold cpC
      by_cases q : k = 3
      · rw [if_pos q]; omega
      · rw [if_neg q]; omega
    rw [wS_t this, c1]
  have air : ∀ k, k < 4 → -(wmT (I (o + 8) 0) + 30) ≤ (J' (o + 1) k).toInt.tdiv (cpC k) ∧ (J' (o + 1) k).toInt.tdiv (cpC k) ≤ wmT (I (o + 8) 0) + 30 := by
    intro k hk
    rw [p6 k (by omega)]
    unfold tkH
    have bk := (g2 k hk).2
    by_cases z3 : k = 3
    · subst z3
      rw [if_neg (by decide), if_pos rfl]
      have x3 := xk 3 (by omega)
      have := coil_b (h := J (o + 1) 3) (g := tkG o I op (wS o I J) (thS o I) (shS o I) 3) (o := (tkOut o I J on).toInt64) (R := (tkRm o I).toInt) (p := pp) hM2 (show (wS o I J 3).toInt = (J (o + 1) 3).toInt.tdiv 40 from x3) (by rw [x3]; exact bk) t2 ⟨rmb.1, by have := rmb.2.1; show (rmV I (I o 8) (dT (I (o + 8) 0))).toInt ≤ 10000; omega⟩ v2 (by
        have e3 : (wC o I J 3).toInt = (wS o I J 3).toInt := by rw [← (wb 3 (by omega)).1, wd6]
        rw [← e3]; exact qout2)
      exact this.2
    · have kc : cpC k = 20 := if_neg z3
      rw [kc] at bk ⊢
      have x3 := xk k hk
      rw [kc] at x3
      by_cases z0 : k = 0
      · subst z0
        rw [if_pos rfl]
        exact (air_b hM2 x3 (by rw [x3]; exact bk) (t1 0 (by omega)) lamb).2
      · rw [if_neg z0, if_neg z3]
        have := (air_b (e := 0) hM2 x3 (by rw [x3]; exact bk) (t1 k (by omega)) (by decide)).2
        rw [add0_6] at this
        exact this
  -- what freezes
  have c40 : (I (o + 2) 3).toInt = 40 := (g2 3 (by omega)).1
  have a3 := air 3 (by omega)
  have wc3 := wC_S (o := o) (k := 3) (I := I) (J := J') (M := wmT (I (o + 8) 0) + 30) (by unfold wmT; omega) (by omega) (by rw [c40]; exact a3.1) (by rw [c40]; exact a3.2)
  have wc40 : wS o I J' 3 = B' 79 (X + 3) / 40 := by
    unfold wS
    rw [heat 3 (by omega), show (I (o + 2) 3).toInt64 = 40 from wd6_eq (by rw [c40]; decide)]
  have wtb : 0 ≤ (seV I (I o 8) + opN op 20).toInt ∧ (seV I (I o 8) + opN op 20).toInt ≤ 1000 := by
    rw [bgp.2.2.2]
    cases op <;> simp <;> omega
  obtain ⟨y1, y2, y3, y4, y5⟩ := wt_eq (c := wC o I J' 3) (fur := I (o + 8) 5) (wt := seV I (I o 8) + opN op 20) (by have := wc3.2.2; unfold wmT at this; omega) n2 wtb
  rw [wc3.1, wc40, ← n53, qg2] at y1 y3
  rw [wc3.1, wc40, ← n53] at y2
  refine ⟨heat, fun k hk => ?_, fun f hf => ?_, fun j h1 h6 => ?_, ⟨?_, ?_⟩, ⟨?_, ?_⟩, ⟨?_, ?_⟩, ⟨?_, ?_, ?_, ?_, ?_, ?_⟩, ⟨on, p5, r13⟩, ⟨?_, ?_⟩, ⟨cov, ?_, ?_⟩, ⟨cur, ?_, ?_⟩, ?_⟩
  · rw [i2, W1]; exact ⟨(g2 k hk).1, air k hk⟩
  · unfold STf
    rw [i2, i3, i4, i5, i6, W1, show X + 12 + f = X + (12 + f) by omega, show X + 20 + f = X + (20 + f) by omega, show X + 28 + f = X + (28 + f) by omega, show X + 36 + f = X + (36 + f) by omega, show X + 44 + f = X + (44 + f) by omega, r3 _ (by omega) (by omega), r3 _ (by omega) (by omega), r3 _ (by omega) (by omega), r3 _ (by omega) (by omega), r3 _ (by omega) (by omega)]
    have g3f := g3 f hf
    unfold STf at g3f
    rw [show X + 12 + f = X + (12 + f) by omega, show X + 20 + f = X + (20 + f) by omega, show X + 28 + f = X + (28 + f) by omega, show X + 36 + f = X + (36 + f) by omega, show X + 44 + f = X + (44 + f) by omega] at g3f
    have eh : J' (o + 1) (4 + f) = J (o + 1) (4 + f) + tkG o I op (wS o I J) (thS o I) (shS o I) (4 + f) := by
      rw [p6 _ (by omega)]; unfold tkH; rw [if_neg (by omega), if_neg (by omega)]
    rcases g3f with ⟨a1, a2, a3⟩ | ⟨a1, a2, a3, a4, a5, a6, a7, a8, a9, a10⟩
    · have tf : thS o I f = false := by unfold thS; rw [a1]; decide
      refine Or.inl ⟨a1, a2, ?_⟩
      rw [eh, a3]
      have := t4 f hf tf
      show 0 + tkG o I op (wS o I J) (thS o I) (shS o I) (4 + f) = 0
      unfold tkG
      rw [this]; rfl
    · have tf : thS o I f = true := by unfold thS; rw [a1]; decide
      have xf := wS_t (o := o) (k := 4 + f) (I := I) (J := J) a6.1
      have := (food_b (h := J (o + 1) (4 + f)) (g := tkG o I op (wS o I J) (thS o I) (shS o I) (4 + f)) hM2 a6 xf (by rw [xf]; exact ⟨a9, a10⟩) (t3 f hf tf)).2
      rw [eh]
      exact Or.inr ⟨a1, a2, a3, a4, a5, a6, a7, a8, this.1, this.2⟩
  · rcases (show j = 1 ∨ j = 2 ∨ j = 3 ∨ j = 4 ∨ j = 5 by omega) with rfl | rfl | rfl | rfl | rfl
    · show B' 79 (X + 55) = _
      have := g4 1 (by omega) (by omega)
      rw [r7, p8, ← this]
    · show B' 79 (X + 56) = _
      have := g4 2 (by omega) (by omega)
      rw [r4.1, p7 2 (by decide) (by decide) (by decide), ← this]
    · show B' 79 (X + 57) = _
      have := g4 3 (by omega) (by omega)
      rw [r8, p9, lam, ← this]
    · show B' 79 (X + 58) = _
      have := g4 4 (by omega) (by omega)
      rw [r9, p10, ← this]
    · show B' 79 (X + 59) = _
      have := g4 5 (by omega) (by omega)
      rw [r4.2.1, p7 5 (by decide) (by decide) (by decide), ← this]
  · rw [p3 8 (by decide) (by decide)]; exact n1
  · rw [p3 8 (by decide) (by decide), r3 52 (by omega) (by omega)]; exact n52
  · rw [p16]; exact ⟨y4, y5⟩
  · rw [p16, r16, y1]
  · rw [T1]; omega
  · rw [r6, n54, p11, wd6_add (by rw [show (1 : Int32).toInt = 1 by decide]; omega) (by rw [show (1 : Int32).toInt = 1 by decide]; omega)]; rfl
  · rw [r15, p15]; exact to32_add n60 qg2.symm
  · rw [r17, p17]; exact to32_add n61 y2.symm
  · rw [r18, p18]; exact to32_add n62 y3.symm
  · rw [r10, p12, hA 10 (by omega), hA 9 (by omega)]
    exact to32_add (to32_add n63 op_eq.symm) op_eq.symm
  · rw [r11, p13]
    refine to32_add n64 ?_
    cases (on && !was) <;> decide
  · rw [r12, p14]
    refine to32_add n65 ?_
    cases on <;> decide
  · rw [r14, p4]
  · have qa : -(wmT (I (o + 8) 0)) ≤ (tkRd o u I J cov).toInt := q2
    have qb : (tkRd o u I J cov).toInt ≤ wmT (I (o + 8) 0) := q3
    rw [p4, W1]; omega
  · rw [p3 11 (by decide) (by decide)]; exact n11
  · rw [r4.2.2.1]; exact n68
  · rw [p3 12 (by decide) (by decide)]; exact n12
  · rw [r4.2.2.2]; exact n69
  · rcases n70 with z | ⟨n70, n13⟩
    · exact Or.inl z
    · exact Or.inr ⟨by rw [r2 _ (Or.inr (Nat.le_refl _)), p3 13 (by decide) (by decide)]; exact n70, by rw [p3 13 (by decide) (by decide)]; exact n13⟩
