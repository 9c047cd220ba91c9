/-! ===== the class's tick, whole ===== -/
theorem lightC {o : Nat} (I : Iv) (J : Jv) (ho : 15 < o) : fn_X7_giveLight o I J = (wI I (o + 8) 1 (I (o + 8) 1 + I 8 10), wJ (wJ J (o + 1) 0 (J (o + 1) 0 + (I 8 10).toInt64 * 5)) (o + 7) 3 (J (o + 7) 3 + (I 8 10).toInt64 * 5)) := by
  unfold fn_X7_giveLight
  simp only [l_t]
  rw [wJ_row (show o + 7 ≠ o + 1 by omega)]
def mx0 (p : Int32) : Int32 := if 0 < p then p else 0
theorem moveC {o : Nat} {p : Int32} (I : Iv) (J : Jv) (ho : 15 < o) : fn_X7_moveOut o p I J = (wI (wI I (o + 8) 3 (I (o + 8) 3 + 1)) (o + 8) 1 (I (o + 8) 1 + I 8 9), wJ (wJ J (o + 1) 3 (J (o + 1) 3 - (mx0 p).toInt64)) (o + 7) 4 (J (o + 7) 4 + (mx0 p).toInt64)) := by
  unfold fn_X7_moveOut mx0
  simp only [l_t]
  rw [wJ_row (show o + 7 ≠ o + 1 by omega), wI_ne (show o + 8 ≠ o + 8 ∨ 1 ≠ 3 by omega), wI_row (show 8 ≠ o + 8 by omega)]
/-- FUR, what drains, what passes: by the coil's warmth c, of what comes in -/
def wtF (c fur wt : Int32) : Int32 := if 0 ≤ c then fur - (if c / 20 + 1 < fur then c / 20 + 1 else fur) else fur + (if 9999 - fur < wt then 9999 - fur else wt)
def wtD (c fur : Int32) : Int32 := if 0 ≤ c then (if c / 20 + 1 < fur then c / 20 + 1 else fur) else 0
def wtP (c fur wt : Int32) : Int32 := if 0 ≤ c then wt else wt - (if 9999 - fur < wt then 9999 - fur else wt)
theorem wetC {o : Nat} {wt : Int32} (I : Iv) (J : Jv) (ho : 15 < o) : ∃ I' : Iv, fn_X7_takeWet o wt I J = (I', J) ∧ (∀ b, b ≠ o + 8 → I' b = I b) ∧ (∀ k, k ≠ 4 → k ≠ 5 → k ≠ 6 → k ≠ 7 → I' (o + 8) k = I (o + 8) k) ∧ I' (o + 8) 4 = I (o + 8) 4 + wt ∧ I' (o + 8) 5 = wtF (wC o I J 3) (I (o + 8) 5) wt ∧ I' (o + 8) 6 = I (o + 8) 6 + wtD (wC o I J 3) (I (o + 8) 5) ∧ I' (o + 8) 7 = I (o + 8) 7 + wtP (wC o I J 3) (I (o + 8) 5) wt := by
  unfold fn_X7_takeWet
  rw [l_t, show (3 : Int32) = n3 3 from rfl, fX6_warmthOf (by omega), b_n3_mk]
  have ew : wC o (wI I (o + 8) 4 (I (o + 8) 4 + wt)) J 3 = wC o I J 3 := by unfold wC; rw [wI_row (show o + 2 ≠ o + 8 by omega)]
  rw [ew]
  generalize wC o I J 3 = c
  unfold wtF wtD wtP
  simp only [l_t]
  by_cases q : 0 ≤ c
  · simp only [if_pos q]
    refine ⟨_, rfl, fun b h => by rw [wI_row h, wI_row h, wI_row h, wI_row h], fun k k4 k5 k6 k7 => by rw [wI_ne (Or.inr k7), wI_ne (Or.inr k6), wI_ne (Or.inr k5), wI_ne (Or.inr k4)], ?_, ?_, ?_, ?_⟩
    · rw [wI_ne (by omega), wI_ne (by omega), wI_ne (by omega), wI_self]
    · rw [wI_ne (by omega), wI_ne (by omega), wI_self, wI_ne (by omega)]
    · rw [wI_ne (by omega), wI_self, wI_ne (by omega), wI_ne (by omega), wI_ne (by omega)]
    · rw [wI_self, wI_ne (by omega), wI_ne (by omega), wI_ne (by omega)]
  · simp only [if_neg q]
    refine ⟨_, rfl, fun b h => by rw [wI_row h, wI_row h, wI_row h], fun k k4 k5 k6 k7 => by rw [wI_ne (Or.inr k7), wI_ne (Or.inr k5), wI_ne (Or.inr k4)], ?_, ?_, ?_, ?_⟩
    · rw [wI_ne (by omega), wI_ne (by omega), wI_self]
    · rw [wI_ne (by omega), wI_self, wI_ne (by omega)]
    · rw [wI_ne (by omega), wI_ne (by omega), wI_ne (by omega)]
      exact (Int32.add_zero _).symm
    · rw [wI_self, wI_ne (by omega), wI_ne (by omega), wI_ne (by omega)]
/-- what the flows read, before the tick -/
def WIv (o : Nat) (I : Iv) (J : Jv) (M : Int) (w : Nat → Int64) (th : Nat → Bool) (sh : Nat → Nat) : Prop :=
  (∀ k, k < 4 → (wC o I J k).toInt64 = w k ∧ WB M (w k)) ∧ ∀ f, f < 8 → (th f = false ∧ I (o + 3) f = 0) ∨ (th f = true ∧ ¬ I (o + 3) f = 0 ∧ (wC o I J (4 + f)).toInt64 = w (4 + f) ∧ WB M (w (4 + f)) ∧ I (o + 4) f = n3 (sh f) ∧ sh f < 3)
def opN (b : Bool) (n : Int32) : Int32 := if b = true then n else 0
/-- the class's numbers of a tick -/
def tkRd (o u : Nat) (I : Iv) (J : Jv) (cov : Bool) : Int32 := rdV cov (I o 9) (wC o I J u)
def tkOn (o u : Nat) (less : Int32) (I : Iv) (J : Jv) (cov was cur : Bool) : Bool := onV cur (bitI (I o 8) 4) was (tkRd o u I J cov) ((I 8 6 - less) * 10) ((I 8 7 - less) * 10)
def tkRm (o : Nat) (I : Iv) : Int32 := rmV I (I o 8) (dT (I (o + 8) 0))
def tkG (o : Nat) (I : Iv) (op : Bool) (w : Nat → Int64) (th : Nat → Bool) (sh : Nat → Nat) : Nat → Int64 := gT (tkRm o I).toInt64 (I 8 1 + seV I (I o 8) + opN op 60).toInt64 (I 8 3).toInt64 (I 8 4).toInt64 (I 8 5).toInt64 (I (o + 8) 5).toInt64 w th sh
def tkLit (o : Nat) (I : Iv) (op cur : Bool) : Bool := cur && (op || bitI (I o 8) 5)
def tkLh (o : Nat) (I : Iv) (op cur : Bool) : Int64 := if tkLit o I op cur = true then (I 8 10).toInt64 * 5 else 0
def tkOut (o : Nat) (I : Iv) (J : Jv) (on : Bool) : Int32 := if on = true then mx0 (pwV I (I o 8) - (tkRm o I - wC o I J 3) / 8) else 0
def tkH (o : Nat) (I : Iv) (J : Jv) (op cur on : Bool) (w : Nat → Int64) (th : Nat → Bool) (sh : Nat → Nat) (k : Nat) : Int64 :=
  if k = 0 then J (o + 1) 0 + tkG o I op w th sh 0 + tkLh o I op cur else if k = 3 then J (o + 1) 3 + tkG o I op w th sh 3 - (tkOut o I J on).toInt64 else J (o + 1) k + tkG o I op w th sh k
theorem SB.fo {s : Int32} (h : SB s) : 0 ≤ s.toInt := h.1
theorem bnd_gap {I : Iv} {s : Int32} {op : Bool} (hb : BX I) : 0 ≤ (seV I s).toInt ∧ (seV I s).toInt ≤ 408 ∧ (I 8 1 + seV I s + opN op 60).toInt = (I 8 1).toInt + (seV I s).toInt + (if op = true then 60 else 0) ∧ (seV I s + opN op 20).toInt = (seV I s).toInt + (if op = true then 20 else 0) := by
  obtain ⟨-, b1, b2, -⟩ := hb
  have hs : (seV I s).toInt = (if bitI s 0 = true then 4 * (I 8 2).toInt + 12 else (I 8 2).toInt) := by
    unfold seV
    by_cases q : bitI s 0 = true
    · rw [if_pos q, if_pos q]
      have c4 : (4 : Int32).toInt = 4 := by decide
      have c12 : (12 : Int32).toInt = 12 := by decide
      have m : (4 * I 8 2).toInt = 4 * (I 8 2).toInt := by rw [i3_mul (by rw [c4]; omega) (by rw [c4]; omega), c4]
      rw [i3_add (by rw [m, c12]; omega) (by rw [m, c12]; omega), m, c12]
    · rw [if_neg q, if_neg q]
  have h0 : 0 ≤ (seV I s).toInt ∧ (seV I s).toInt ≤ 408 := by rw [hs]; split <;> omega
  have ho : ∀ n : Int32, (opN op n).toInt = (if op = true then n.toInt else 0) := by
    intro n; unfold opN
    by_cases q : op = true
    · rw [if_pos q, if_pos q]
    · rw [if_neg q, if_neg q]; decide
  have e60 := ho 60
  have e20 := ho 20
  have c60 : (60 : Int32).toInt = 60 := by decide
  have c20 : (20 : Int32).toInt = 20 := by decide
  rw [c60] at e60
  rw [c20] at e20
  have l60 : 0 ≤ (opN op 60).toInt ∧ (opN op 60).toInt ≤ 60 := by rw [e60]; split <;> omega
  have l20 : 0 ≤ (opN op 20).toInt ∧ (opN op 20).toInt ≤ 20 := by rw [e20]; split <;> omega
  have a1 : (I 8 1 + seV I s).toInt = (I 8 1).toInt + (seV I s).toInt := i3_add (by omega) (by omega)
  refine ⟨h0.1, h0.2, ?_, ?_⟩
  · rw [i3_add (by rw [a1]; omega) (by rw [a1]; omega), a1, e60]
  · rw [i3_add (by omega) (by omega), e20]
theorem bnd_room {I : Iv} {s : Int32} {d : Nat} (hb : BX I) : 0 ≤ (rmV I s d).toInt ∧ (rmV I s d).toInt ≤ 6800 ∧ (rmV I s d).toInt = (I 8 11).toInt * 10 + (if hrB (I 8 12) (I 8 13) d = true then (I 8 14).toInt * 10 else 0) + (if bitI s 6 = true then 800 else 0) := by
  have b11 := hb.2.2.2.2.2.2.2.2.2.2.2.1
  have b14 := hb.2.2.2.2.2.2.2.2.2.2.2.2.2.2
  have c10 : (10 : Int32).toInt = 10 := by decide
  have c8 : (800 : Int32).toInt = 800 := by decide
  have m1 : (I 8 11 * 10).toInt = (I 8 11).toInt * 10 := by rw [i3_mul (by rw [c10]; omega) (by rw [c10]; omega), c10]
  have m2 : (I 8 14 * 10).toInt = (I 8 14).toInt * 10 := by rw [i3_mul (by rw [c10]; omega) (by rw [c10]; omega), c10]
  have y : (if hrB (I 8 12) (I 8 13) d = true then I 8 11 * 10 + I 8 14 * 10 else I 8 11 * 10).toInt = (I 8 11).toInt * 10 + (if hrB (I 8 12) (I 8 13) d = true then (I 8 14).toInt * 10 else 0) := by
    by_cases q : hrB (I 8 12) (I 8 13) d = true
    · rw [if_pos q, if_pos q, i3_add (by rw [m1, m2]; omega) (by rw [m1, m2]; omega), m1, m2]
    · rw [if_neg q, if_neg q, m1]; omega
  have yb : 0 ≤ (I 8 11).toInt * 10 + (if hrB (I 8 12) (I 8 13) d = true then (I 8 14).toInt * 10 else 0) ∧ (I 8 11).toInt * 10 + (if hrB (I 8 12) (I 8 13) d = true then (I 8 14).toInt * 10 else 0) ≤ 6000 := by
    by_cases q : hrB (I 8 12) (I 8 13) d = true
    · rw [if_pos q]; omega
    · rw [if_neg q]; omega
  have e : (rmV I s d).toInt = (I 8 11).toInt * 10 + (if hrB (I 8 12) (I 8 13) d = true then (I 8 14).toInt * 10 else 0) + (if bitI s 6 = true then 800 else 0) := by
    unfold rmV
    by_cases q : bitI s 6 = true
    · rw [if_pos q, if_pos q, i3_add (by rw [y, c8]; omega) (by rw [y, c8]; omega), y, c8]
    · rw [if_neg q, if_neg q, y]; omega
  refine ⟨?_, ?_, e⟩
  · rw [e]; by_cases q : bitI s 6 = true
    · rw [if_pos q]; omega
    · rw [if_neg q]; omega
  · rw [e]; by_cases q : bitI s 6 = true
    · rw [if_pos q]; omega
    · rw [if_neg q]; omega
theorem passC {o u : Nat} {less : Int32} {op cov was cur : Bool} {I : Iv} {J : Jv} {M : Int} {w : Nat → Int64} {th : Nat → Bool} {sh : Nat → Nat} (ho : 15 < o) (hu : u < 3) (hM : M ≤ 100000000) (hb : BX I) (hs : SB (I o 8)) (ht : TkB (I (o + 8) 0))
    (hf : 0 ≤ (I (o + 8) 5).toInt ∧ (I (o + 8) 5).toInt ≤ 9999) (h11 : I o 11 = b3 cov) (h10 : I o 10 = b3 was) (h12 : I o 12 = b3 cur) (hW : WIv o I J M w th sh) :
    ∃ (I' : Iv) (J' : Jv), fn_X7_pass o (b3 op) (n3 u) less I J = (I', J') ∧ (∀ b, b ≠ 14 → b ≠ o → b ≠ o + 8 → I' b = I b) ∧ (∀ r, r ≠ 15 → r ≠ o + 1 → r ≠ o + 7 → J' r = J r) ∧
      (∀ k, k ≠ 9 → k ≠ 10 → I' o k = I o k) ∧ I' o 9 = tkRd o u I J cov ∧ I' o 10 = b3 (tkOn o u less I J cov was cur) ∧
      (∀ k, k < 12 → J' (o + 1) k = tkH o I J op cur (tkOn o u less I J cov was cur) w th sh k) ∧
      (∀ j, j ≠ 1 → j ≠ 3 → j ≠ 4 → J' (o + 7) j = J (o + 7) j) ∧ J' (o + 7) 1 = cA (gS (tkRm o I).toInt64 (I 8 1 + seV I (I o 8) + opN op 60).toInt64 w) 3 0 (J (o + 7) 1) ∧ J' (o + 7) 3 = J (o + 7) 3 + tkLh o I op cur ∧ J' (o + 7) 4 = J (o + 7) 4 + (tkOut o I J (tkOn o u less I J cov was cur)).toInt64 ∧
      I' (o + 8) 0 = I (o + 8) 0 + 1 ∧ I' (o + 8) 1 = I (o + 8) 1 + opN (tkLit o I op cur) (I 8 10) + opN (tkOn o u less I J cov was cur) (I 8 9) ∧
      I' (o + 8) 2 = I (o + 8) 2 + opN (tkOn o u less I J cov was cur && !was) 1 ∧ I' (o + 8) 3 = I (o + 8) 3 + opN (tkOn o u less I J cov was cur) 1 ∧ I' (o + 8) 4 = I (o + 8) 4 + (seV I (I o 8) + opN op 20) ∧
      I' (o + 8) 5 = wtF (wC o I J' 3) (I (o + 8) 5) (seV I (I o 8) + opN op 20) ∧ I' (o + 8) 6 = I (o + 8) 6 + wtD (wC o I J' 3) (I (o + 8) 5) ∧ I' (o + 8) 7 = I (o + 8) 7 + wtP (wC o I J' 3) (I (o + 8) 5) (seV I (I o 8) + opN op 20) := by
  obtain ⟨I1, e1, a1, a2⟩ := fX7_look ho I J
  have r8 : I1 8 = I 8 := a1 8 (by omega)
  have ro : ∀ k, I1 (o + k) = I (o + k) := fun k => a1 _ (by omega)
  have ro0 : I1 o = I o := a1 o (by omega)
  have hb1 : BX I1 := bx_row hb r8
  have hs1 : SB (I1 o 8) := by rw [ro0]; exact hs
  have ht1 : TkB (I1 (o + 8) 0) := by rw [ro 8]; exact ht
  have e2 := roomC (o := o) (I := I1) J hb1 hs1 ht1
  have e3 := sealC (o := o) (I := I1) J hs1
  obtain ⟨I2, e4, s1, s2, s3, s4, s5, sd6⟩ := switchC (o := o) (u := u) (less := less) (I := I1) J cov was cur ho hu hs1 (by rw [ro0]; exact h11) (by rw [ro0]; exact h10) (by rw [ro0]; exact h12)
  have erd : rdV cov (I1 o 9) (I1 14 u) = tkRd o u I J cov := by unfold tkRd; rw [ro0, a2 u (by omega)]
  have eon : onV cur (bitI (I1 o 8) 4) was (rdV cov (I1 o 9) (I1 14 u)) ((I1 8 6 - less) * 10) ((I1 8 7 - less) * 10) = tkOn o u less I J cov was cur := by unfold tkOn; rw [erd, ro0, r8]
  rw [eon] at s4 sd6
  rw [erd] at s3
  have erm : rmV I1 (I1 o 8) (dT (I1 (o + 8) 0)) = tkRm o I := by unfold tkRm rmV; rw [ro0, ro 8, r8]
  have esl : seV I1 (I1 o 8) = seV I (I o 8) := by unfold seV; rw [ro0, r8]
  rw [erm] at e2
  rw [esl] at e3
  generalize hon : tkOn o u less I J cov was cur = on at *
  have q8 : I2 8 = I 8 := (s1 8 (by omega) (by omega)).trans r8
  have q14 : I2 14 = I1 14 := s1 14 (by omega) (by omega)
  have q3 : I2 (o + 3) = I (o + 3) := (s1 _ (by omega) (by omega)).trans (ro 3)
  have q4 : I2 (o + 4) = I (o + 4) := (s1 _ (by omega) (by omega)).trans (ro 4)
  have qo8 : I2 o 8 = I o 8 := (s2 8 (by omega) (by omega)).trans (by rw [ro0])
  have qo12 : I2 o 12 = b3 cur := (s2 12 (by omega) (by omega)).trans (by rw [ro0]; exact h12)
  have qc : ∀ k, k ≠ 2 → I2 (o + 8) k = I (o + 8) k := fun k hk => (s5 k hk).trans (by rw [ro 8])
  have hW2 : WIc o I2 M w th sh := by
    refine ⟨fun k hk => ?_, fun f hf => ?_⟩
    · rw [q14, a2 k (by omega)]; exact hW.1 k hk
    · rw [q14, q3, q4, a2 (4 + f) (by omega)]; exact hW.2 f hf
  obtain ⟨b0, b1, b2, b3', b4, b5, -⟩ := id hb
  have rmb := bnd_room (I := I) (s := I o 8) (d := dT (I (o + 8) 0)) hb
  obtain ⟨J3, e5, x1, x2, x3, x4⟩ := exchangeC (o := o) (room := tkRm o I) (leak := I 8 1 + seV I (I o 8) + opN op 60) (I := I2) (M := M) (w := w) (th := th) (sh := sh) J ho hM hW2 ⟨by have := rmb.1; show -10000 ≤ (rmV I (I o 8) (dT (I (o + 8) 0))).toInt; omega, by have := rmb.2.1; show (rmV I (I o 8) (dT (I (o + 8) 0))).toInt ≤ 10000; omega⟩ (by rw [q8]; exact b3') (by rw [q8]; exact b4) (by rw [q8]; exact b5) (by rw [qc 5 (by decide)]; exact hf)
  rw [q8, qc 5 (by decide)] at x2
  have x2' : ∀ k, k < 12 → J3 (o + 1) k = J (o + 1) k + tkG o I op w th sh k := x2
  -- the lamp
  have op60 : (if b3 op = 0 then (0 : Int32) else 60) = opN op 60 := ite_b0
  have op20 : (if b3 op = 0 then (0 : Int32) else 20) = opN op 20 := ite_b0
  have eh5 := fX6_has (o := o) (I := I2) 32 (bitI (I o 8) 5) (by have := (sb_bits (show SB (I2 o 8) by rw [qo8]; exact hs)).2.2.2.2.2.1; rw [qo8] at this ⊢; exact this) J3
  have hlit : tkLit o I op cur = true ↔ ¬ I2 o 12 = 0 ∧ (¬ b3 op = 0 ∨ ¬ b3 (bitI (I o 8) 5) = 0) := by
    rw [qo12, b3_ne, b3_ne, b3_ne]
    unfold tkLit
    rw [Bool.and_eq_true, Bool.or_eq_true]
  obtain ⟨I4, J4, l1, l2, l3, l4, l5, l6, l7, l8⟩ : ∃ (I4 : Iv) (J4 : Jv), (if tkLit o I op cur = true then ((wI I2 (o + 8) 1 (I2 (o + 8) 1 + I2 8 10), wJ (wJ J3 (o + 1) 0 (J3 (o + 1) 0 + (I2 8 10).toInt64 * 5)) (o + 7) 3 (J3 (o + 7) 3 + (I2 8 10).toInt64 * 5)) : Iv × Jv) else (I2, J3)) = (I4, J4) ∧ (∀ b, b ≠ o + 8 → I4 b = I2 b) ∧ (∀ k, k ≠ 1 → I4 (o + 8) k = I2 (o + 8) k) ∧ I4 (o + 8) 1 = I (o + 8) 1 + opN (tkLit o I op cur) (I 8 10) ∧ (∀ r, r ≠ o + 1 → r ≠ o + 7 → J4 r = J3 r) ∧ (∀ j, j ≠ 3 → J4 (o + 7) j = J3 (o + 7) j) ∧ J4 (o + 7) 3 = J3 (o + 7) 3 + tkLh o I op cur ∧ ∀ k, J4 (o + 1) k = (if k = 0 then J3 (o + 1) 0 + tkLh o I op cur else J3 (o + 1) k) := by
    unfold tkLh
    by_cases q : tkLit o I op cur = true
    · refine ⟨_, _, by rw [if_pos q], fun b h => wI_row h, fun k h => wI_ne (Or.inr h), ?_, fun r h1 h2 => by rw [wJ_row h2, wJ_row h1], fun j h => by rw [wJ_ne (Or.inr h), wJ_row (by omega)], ?_, fun k => ?_⟩
      · rw [wI_self, qc 1 (by decide), q8]; unfold opN; rw [if_pos q]
      · rw [wJ_self, if_pos q, q8]
      · rw [wJ_row (by omega)]
        by_cases z : k = 0
        · subst z; rw [wJ_self, if_pos rfl, if_pos q, q8]
        · rw [wJ_ne (Or.inr z), if_neg z]
    · refine ⟨I2, J3, by rw [if_neg q], fun b _ => rfl, fun k _ => rfl, ?_, fun r _ _ => rfl, fun j _ => rfl, ?_, fun k => ?_⟩
      · rw [qc 1 (by decide)]; unfold opN; rw [if_neg q]; exact (Int32.add_zero _).symm
      · rw [if_neg q]; exact (Int64.add_zero _).symm
      · rw [if_neg q]
        by_cases z : k = 0
        · subst z; rw [if_pos rfl]; exact (Int64.add_zero _).symm
        · rw [if_neg z]
  have k8 : I4 8 = I 8 := (l2 8 (by omega)).trans q8
  have ko : I4 o = I2 o := l2 o (by omega)
  have k14 : I4 14 = I1 14 := (l2 14 (by omega)).trans q14
  -- the machine
  have h10' : I4 o 10 = b3 on := by rw [ko]; exact s4
  have ew3 : I4 14 3 = wC o I J 3 := by rw [k14, a2 3 (by omega)]
  have epw := powerC (o := o) (I := I4) J4 (show SB (I4 o 8) by rw [ko, qo8]; exact hs)
  rw [show pwV I4 (I4 o 8) = pwV I (I o 8) by unfold pwV; rw [k8, ko, qo8]] at epw
  have hmv : on = true ↔ ¬ I4 o 10 = 0 := by rw [h10', b3_ne]
  obtain ⟨I5, J5, m1, m2, m3, m4, m5, m6, m7, m8, m9⟩ : ∃ (I5 : Iv) (J5 : Jv), (if on = true then fn_X7_moveOut o (pwV I (I o 8) - ((tkRm o I - wC o I J 3) / (8 : Int32))) I4 J4 else (I4, J4)) = (I5, J5) ∧ (∀ b, b ≠ o + 8 → I5 b = I4 b) ∧ (∀ k, k ≠ 1 → k ≠ 3 → I5 (o + 8) k = I4 (o + 8) k) ∧ I5 (o + 8) 1 = I4 (o + 8) 1 + opN on (I 8 9) ∧ I5 (o + 8) 3 = I4 (o + 8) 3 + opN on 1 ∧ (∀ r, r ≠ o + 1 → r ≠ o + 7 → J5 r = J4 r) ∧ (∀ j, j ≠ 4 → J5 (o + 7) j = J4 (o + 7) j) ∧ J5 (o + 7) 4 = J4 (o + 7) 4 + (tkOut o I J on).toInt64 ∧ ∀ k, J5 (o + 1) k = (if k = 3 then J4 (o + 1) 3 - (tkOut o I J on).toInt64 else J4 (o + 1) k) := by
    unfold tkOut
    rw [moveC I4 J4 ho]
    cases on with
    | false =>
      refine ⟨I4, J4, rfl, fun b _ => rfl, fun k _ _ => rfl, ?_, ?_, fun r _ _ => rfl, fun j _ => rfl, ?_, fun k => ?_⟩
      · exact (Int32.add_zero _).symm
      · exact (Int32.add_zero _).symm
      · exact (Int64.add_zero _).symm
      · by_cases z : k = 3
        · subst z; rw [if_pos rfl]; exact (Int64.sub_zero _).symm
        · rw [if_neg z]
    | true =>
      refine ⟨_, _, rfl, fun b h => by rw [wI_row h, wI_row h], fun k h1 h3 => by rw [wI_ne (Or.inr h1), wI_ne (Or.inr h3)], ?_, ?_, fun r h1 h2 => by rw [wJ_row h2, wJ_row h1], fun j h => by rw [wJ_ne (Or.inr h), wJ_row (by omega)], ?_, fun k => ?_⟩
      · rw [wI_self, k8]; rfl
      · rw [wI_ne (by omega), wI_self]; rfl
      · rw [wJ_self]; rfl
      · rw [wJ_row (by omega)]
        by_cases z : k = 3
        · subst z; rw [wJ_self, if_pos rfl]; rfl
        · rw [wJ_ne (Or.inr z), if_neg z]
  obtain ⟨I6, e6, w1, w2, w3, w4, w5, w66⟩ := wetC (o := o) (wt := seV I (I o 8) + opN op 20) I5 J5 ho
  have c5 : I5 (o + 8) 5 = I (o + 8) 5 := by rw [m3 5 (by decide) (by decide), l3 5 (by decide), qc 5 (by decide)]
  have cap : I5 (o + 2) = I (o + 2) := by rw [m2 _ (by omega), l2 _ (by omega), s1 _ (by omega) (by omega), ro 2]
  have ewc : wC o I5 J5 3 = wC o I J5 3 := by unfold wC; rw [cap]
  rw [ewc, c5] at w4 w5 w66
  refine ⟨wI I6 (o + 8) 0 (I6 (o + 8) 0 + 1), J5, ?_, fun b h14 h0 h8 => ?_, fun r r15 r1 r7 => ?_, fun k k9 k10 => ?_, ?_, ?_, fun k hk => ?_, fun j j1 j3 j4 => ?_, ?_, ?_, ?_, ?_, ?_, ?_, ?_, ?_, ?_, ?_, ?_⟩
  · unfold fn_X7_pass
    rw [e1, b_n2_mk, e2, b_n3_mk, e3, b_n3_mk, e4, b_n2_mk, j_ite, op60, q8, e5, b_n2_mk, lightC I2 J3 ho, eh5, j_lit _ (tkLit o I op cur) hlit, l1]
    dsimp only
    rw [epw, ew3, j_mv _ on hmv, m1]
    dsimp only
    rw [j_ite, op20, e6, b_n2_mk, l_t]
  · rw [wI_row h8, w1 b h8, m2 b h8, l2 b h8, s1 b h0 h8, a1 b h14]
  · rw [m6 r r1 r7, l5 r r1 r7, x1 r r15 r1 r7]
  · rw [wI_row (by omega), w1 o (by omega), m2 o (by omega), ko, s2 k k9 k10, ro0]
  · rw [wI_row (by omega), w1 o (by omega), m2 o (by omega), ko, s3]
  · rw [wI_row (by omega), w1 o (by omega), m2 o (by omega), ko, s4]
  · rw [m9 k, l8 k]
    unfold tkH
    by_cases z0 : k = 0
    · subst z0
      rw [if_neg (by decide), if_pos rfl, if_pos rfl, x2' 0 (by omega)]
    · by_cases z3 : k = 3
      · subst z3
        rw [if_pos rfl, l8 3, if_neg (by decide), if_neg (by decide), if_pos rfl, x2' 3 (by omega)]
      · rw [if_neg z3, if_neg z0, if_neg z0, if_neg z3, x2' k hk]
  · rw [m7 j j4, l6 j j3, x3 j j1]
  · rw [m7 1 (by decide), l6 1 (by decide), x4]
  · rw [m7 3 (by decide), l7, x3 3 (by decide)]
  · rw [m8, l6 4 (by decide), x3 4 (by decide)]
  · rw [wI_self, w2 0 (by decide) (by decide) (by decide) (by decide), m3 0 (by decide) (by decide), l3 0 (by decide), qc 0 (by decide)]
  · rw [wI_ne (by omega), w2 1 (by decide) (by decide) (by decide) (by decide), m4, l4]
  · rw [wI_ne (by omega), w2 2 (by decide) (by decide) (by decide) (by decide), m3 2 (by decide) (by decide), l3 2 (by decide), sd6, ro 8]
    unfold opN
    by_cases z : (on && !was) = true
    · rw [if_pos z, if_pos z]
    · rw [if_neg z, if_neg z]; exact (Int32.add_zero _).symm
  · rw [wI_ne (by omega), w2 3 (by decide) (by decide) (by decide) (by decide), m5, l3 3 (by decide), qc 3 (by decide)]
  · rw [wI_ne (by omega), w3, m3 4 (by decide) (by decide), l3 4 (by decide), qc 4 (by decide)]
  · rw [wI_ne (by omega), w4]
  · rw [wI_ne (by omega), w5, m3 6 (by decide) (by decide), l3 6 (by decide), qc 6 (by decide)]
  · rw [wI_ne (by omega), w66, m3 7 (by decide) (by decide), l3 7 (by decide), qc 7 (by decide)]
