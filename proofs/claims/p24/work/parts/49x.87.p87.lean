/-! ===== what the class reckons in ints is what the reference reckons in longs ===== -/
theorem c8_ : (8 : Int32).toInt = 8 := by decide
theorem rd_eq {cov : Bool} {rd w : Int32} {M : Int} (hM : M ≤ 100000000) (h1 : -M ≤ rd.toInt ∧ rd.toInt ≤ M) (h2 : -M ≤ w.toInt ∧ w.toInt ≤ M) : (rdV cov rd w).toInt64 = rdR cov rd.toInt64 w.toInt64 ∧ -M ≤ (rdV cov rd w).toInt ∧ (rdV cov rd w).toInt ≤ M := by
  unfold rdV rdR
  cases cov with
  | false => rw [if_neg (by decide), if_neg (by decide)]; exact ⟨rfl, h2⟩
  | true =>
    rw [if_pos rfl, if_pos rfl]
    have d : (w - rd).toInt = w.toInt - rd.toInt := i3_sub (by omega) (by omega)
    have q : ((w - rd) / 8).toInt = (w.toInt - rd.toInt).tdiv 8 := by rw [i3_div (by decide), d, c8_]
    have b : -M ≤ rd.toInt + (w.toInt - rd.toInt).tdiv 8 ∧ rd.toInt + (w.toInt - rd.toInt).tdiv 8 ≤ M := by
      rcases Int.le_total 0 (w.toInt - rd.toInt) with z | z
      · have := td_ge (by decide : (0 : Int) < 8) z; omega
      · have := td_le (by decide : (0 : Int) < 8) z; omega
    have s : (rd + (w - rd) / 8).toInt = rd.toInt + (w.toInt - rd.toInt).tdiv 8 := by rw [i3_add (by rw [q]; omega) (by rw [q]; omega), q]
    refine ⟨?_, by rw [s]; exact b.1, by rw [s]; exact b.2⟩
    rw [wd6_add (by rw [q]; omega) (by rw [q]; omega), wd6_div (by decide), wd6_sub (by omega) (by omega)]
    rfl
theorem lim_eq {a less : Int32} (ha : 0 ≤ a.toInt ∧ a.toInt ≤ 200) (hl : 0 ≤ less.toInt ∧ less.toInt ≤ 40) : ((a - less) * 10).toInt64 = 10 * (a - less).toInt64 := by
  have c10 : (10 : Int32).toInt = 10 := by decide
  have d : (a - less).toInt = a.toInt - less.toInt := i3_sub (by omega) (by omega)
  rw [wd6_mul (by rw [d, c10]; omega) (by rw [d, c10]; omega), Int64.mul_comm]
  rfl
theorem on_eq {cur stuck was : Bool} {rd a b less : Int32} (ha : 0 ≤ a.toInt ∧ a.toInt ≤ 200) (hb : 0 ≤ b.toInt ∧ b.toInt ≤ 200) (hl : 0 ≤ less.toInt ∧ less.toInt ≤ 40) :
    onV cur stuck was rd ((a - less) * 10) ((b - less) * 10) = onR cur stuck was rd.toInt64 (10 * (a - less).toInt64) (10 * (b - less).toInt64) := by
  unfold onV onR
  rw [← lim_eq ha hl, ← lim_eq hb hl]
  have e1 : decide ((a - less) * 10 ≤ rd) = decide (((a - less) * 10).toInt64 ≤ rd.toInt64) := by
    by_cases q : (a - less) * 10 ≤ rd
    · rw [decide_eq_true q, decide_eq_true (wd6_le.mpr q)]
    · rw [decide_eq_false q, decide_eq_false (fun z => q (wd6_le.mp z))]
  have e2 : decide (rd ≤ (b - less) * 10) = decide (rd.toInt64 ≤ ((b - less) * 10).toInt64) := by
    by_cases q : rd ≤ (b - less) * 10
    · rw [decide_eq_true q, decide_eq_true (wd6_le.mpr q)]
    · rw [decide_eq_false q, decide_eq_false (fun z => q (wd6_le.mp z))]
  rw [e1, e2]
theorem rm_eq {I A : Iv} {s : Int32} {d : Nat} (hb : BX I) (hA : ∀ j, j < 15 → A 81 j = I 8 j) : (rmV I s d).toInt64 = rmR A s (hrB (A 81 12) (A 81 13) d) := by
  have b11 := hb.2.2.2.2.2.2.2.2.2.2.2.1
  have b14 := hb.2.2.2.2.2.2.2.2.2.2.2.2.2.2
  have c10 : (10 : Int32).toInt = 10 := by decide
  have c8 : (800 : Int32).toInt = 800 := by decide
  have k10 : (10 : Int32).toInt64 = 10 := by decide
  have k8 : (800 : Int32).toInt64 = 800 := by decide
  have m1 : (I 8 11 * 10).toInt = (I 8 11).toInt * 10 := by rw [i3_mul (by rw [c10]; omega) (by rw [c10]; omega), c10]
  have m2 : (I 8 14 * 10).toInt = (I 8 14).toInt * 10 := by rw [i3_mul (by rw [c10]; omega) (by rw [c10]; omega), c10]
  have n1 : (I 8 11 * 10).toInt64 = 10 * (I 8 11).toInt64 := by rw [wd6_mul (by rw [c10]; omega) (by rw [c10]; omega), k10, Int64.mul_comm]
  have n2 : (I 8 14 * 10).toInt64 = 10 * (I 8 14).toInt64 := by rw [wd6_mul (by rw [c10]; omega) (by rw [c10]; omega), k10, Int64.mul_comm]
  unfold rmR rmV
  rw [hA 11 (by omega), hA 12 (by omega), hA 13 (by omega), hA 14 (by omega)]
  have y : (if hrB (I 8 12) (I 8 13) d = true then I 8 11 * 10 + I 8 14 * 10 else I 8 11 * 10).toInt64 = 10 * (I 8 11).toInt64 + (if hrB (I 8 12) (I 8 13) d = true then 10 * (I 8 14).toInt64 else 0) ∧ 0 ≤ (if hrB (I 8 12) (I 8 13) d = true then I 8 11 * 10 + I 8 14 * 10 else I 8 11 * 10).toInt ∧ (if hrB (I 8 12) (I 8 13) d = true then I 8 11 * 10 + I 8 14 * 10 else I 8 11 * 10).toInt ≤ 6000 := by
    by_cases q : hrB (I 8 12) (I 8 13) d = true
    · rw [if_pos q, if_pos q, wd6_add (by rw [m1, m2]; omega) (by rw [m1, m2]; omega), n1, n2, i3_add (by rw [m1, m2]; omega) (by rw [m1, m2]; omega), m1, m2]
      exact ⟨rfl, by omega, by omega⟩
    · rw [if_neg q, if_neg q, n1, m1]
      exact ⟨(Int64.add_zero _).symm, by omega, by omega⟩
  obtain ⟨y1, y2, y3⟩ := y
  by_cases q : bitI s 6 = true
  · rw [if_pos q, if_pos q, wd6_add (by rw [c8]; omega) (by rw [c8]; omega), y1, k8]
  · rw [if_neg q, if_neg q, y1]; exact (Int64.add_zero _).symm
theorem se_eq {I A : Iv} {s : Int32} (hb : BX I) (hA : ∀ j, j < 15 → A 81 j = I 8 j) : (seV I s).toInt64 = slR A s := by
  have b2 := hb.2.2.1
  have c4 : (4 : Int32).toInt = 4 := by decide
  have c12 : (12 : Int32).toInt = 12 := by decide
  have m : (4 * I 8 2).toInt = 4 * (I 8 2).toInt := by rw [i3_mul (by rw [c4]; omega) (by rw [c4]; omega), c4]
  unfold seV slR
  rw [hA 2 (by omega)]
  by_cases q : bitI s 0 = true
  · rw [if_pos q, if_pos q, wd6_add (by rw [m, c12]; omega) (by rw [m, c12]; omega), wd6_mul (by rw [c4]; omega) (by rw [c4]; omega)]; rfl
  · rw [if_neg q, if_neg q]
theorem op_eq {op : Bool} {n : Int32} : (opN op n).toInt64 = opR op n.toInt64 := by
  unfold opN opR
  cases op with
  | false => rfl
  | true => rfl
theorem gap_eq {I A : Iv} {s : Int32} {op : Bool} (hb : BX I) (hA : ∀ j, j < 15 → A 81 j = I 8 j) : (I 8 1 + seV I s + opN op 60).toInt64 = (A 81 1).toInt64 + slR A s + opR op 60 ∧ (seV I s + opN op 20).toInt64 = slR A s + opR op 20 := by
  obtain ⟨g0, g1, g2, g3⟩ := bnd_gap (s := s) (op := op) hb
  have b1 := hb.2.1
  have a1 : (I 8 1 + seV I s).toInt = (I 8 1).toInt + (seV I s).toInt := i3_add (by omega) (by omega)
  have o6 : 0 ≤ (opN op 60).toInt ∧ (opN op 60).toInt ≤ 60 := by cases op <;> decide
  have o2 : 0 ≤ (opN op 20).toInt ∧ (opN op 20).toInt ≤ 20 := by cases op <;> decide
  constructor
  · rw [wd6_add (by rw [a1]; omega) (by rw [a1]; omega), wd6_add (by omega) (by omega), se_eq hb hA, op_eq, hA 1 (by omega)]; rfl
  · rw [wd6_add (by omega) (by omega), se_eq hb hA, op_eq]; rfl
theorem pw_eq {p n : Int32} {b : Bool} (hp : 0 ≤ p.toInt ∧ p.toInt ≤ 999) (hn : 0 ≤ n.toInt ∧ n.toInt ≤ 50) : (pwA p b n).toInt64 = pwR p.toInt64 b n.toInt64 ∧ 0 ≤ (pwA p b n).toInt ∧ (pwA p b n).toInt ≤ 999 := by
  unfold pwA pwR
  cases b with
  | false => rw [if_neg (by decide), if_neg (by decide)]; exact ⟨(Int64.sub_zero _).symm, hp⟩
  | true =>
    rw [if_pos rfl, if_pos rfl]
    have c : (100 : Int32).toInt = 100 := by decide
    have m0 : 0 ≤ p.toInt * n.toInt := Int.mul_nonneg hp.1 hn.1
    have m1 : p.toInt * n.toInt ≤ p.toInt * 50 := Int.mul_le_mul_of_nonneg_left hn.2 hp.1
    have m : (p * n).toInt = p.toInt * n.toInt := i3_mul (by omega) (by omega)
    have q : (p * n / 100).toInt = (p.toInt * n.toInt).tdiv 100 := by rw [i3_div (by decide), m, c]
    have t := td_ge (by decide : (0 : Int) < 100) m0
    have s : (p - p * n / 100).toInt = p.toInt - (p.toInt * n.toInt).tdiv 100 := by rw [i3_sub (by rw [q]; omega) (by rw [q]; omega), q]
    refine ⟨?_, by rw [s]; omega, by rw [s]; omega⟩
    rw [wd6_sub (by rw [q]; omega) (by rw [q]; omega), wd6_div (by decide), wd6_mul (by omega) (by omega)]
    rfl
theorem mv_eq {I A : Iv} {s rm w : Int32} {M : Int} (hb : BX I) (hA : ∀ j, j < 15 → A 81 j = I 8 j) (hr : 0 ≤ rm.toInt ∧ rm.toInt ≤ 6800) (hM : M ≤ 100000000) (hw : -M ≤ w.toInt ∧ w.toInt ≤ M) : (mx0 (pwV I s - (rm - w) / 8)).toInt64 = mvR A s rm.toInt64 w.toInt64 ∧ ∃ p : Int, (0 ≤ p ∧ p ≤ 999) ∧ ((mx0 (pwV I s - (rm - w) / 8)).toInt = 0 ∨ (0 ≤ (mx0 (pwV I s - (rm - w) / 8)).toInt ∧ (mx0 (pwV I s - (rm - w) / 8)).toInt = p - (rm.toInt - w.toInt).tdiv 8)) := by
  have b0 := hb.1
  obtain ⟨p1, p2⟩ := pw_eq (p := I 8 0) (n := 50) (b := bitI s 2) ⟨by omega, by omega⟩ (by decide)
  obtain ⟨q1, q2⟩ := pw_eq (p := pwA (I 8 0) (bitI s 2) 50) (n := 45) (b := bitI s 3) p2 (by decide)
  rw [p1] at q1
  have d : (rm - w).toInt = rm.toInt - w.toInt := i3_sub (by omega) (by omega)
  have q : ((rm - w) / 8).toInt = (rm.toInt - w.toInt).tdiv 8 := by rw [i3_div (by decide), d, c8_]
  have qb : -(100006800) ≤ (rm.toInt - w.toInt).tdiv 8 ∧ (rm.toInt - w.toInt).tdiv 8 ≤ 100006800 := by
    rcases Int.le_total 0 (rm.toInt - w.toInt) with z | z
    · have := td_ge (by decide : (0 : Int) < 8) z; omega
    · have := td_le (by decide : (0 : Int) < 8) z; omega
  have e : (pwV I s - (rm - w) / 8).toInt64 = pwR (pwR (A 81 0).toInt64 (bitI s 2) 50) (bitI s 3) 45 - (rm.toInt64 - w.toInt64) / 8 := by
    unfold pwV
    rw [wd6_sub (by rw [q]; omega) (by rw [q]; omega), wd6_div (by decide), wd6_sub (by omega) (by omega), q1, hA 0 (by omega)]; rfl
  have t : (pwV I s - (rm - w) / 8).toInt = (pwV I s).toInt - (rm.toInt - w.toInt).tdiv 8 := by
    unfold pwV; rw [i3_sub (by rw [q]; omega) (by rw [q]; omega), q]
  have z0 : (0 : Int32).toInt64 = 0 := by decide
  have zt : (0 : Int32).toInt = 0 := by decide
  refine ⟨?_, (pwV I s).toInt, q2, ?_⟩
  · unfold mvR mx0
    rw [← e]
    by_cases z : 0 < pwV I s - (rm - w) / 8
    · rw [if_pos z, if_pos (by rw [← z0]; exact wd6_le.mpr (Int32.le_of_lt z))]
    · rw [if_neg z]
      by_cases y : (0 : Int64) ≤ (pwV I s - (rm - w) / 8).toInt64
      · rw [if_pos y]
        rw [← z0] at y
        have y' := Int32.le_iff_toInt_le.mp (wd6_le.mp y)
        have z' := Int32.le_iff_toInt_le.mp (Int32.not_lt.mp z)
        have : (0 : Int32) = pwV I s - (rm - w) / 8 := Int32.toInt_inj.mp (by omega)
        rw [← this]
      · rw [if_neg y]; rfl
  · unfold mx0
    by_cases z : 0 < pwV I s - (rm - w) / 8
    · rw [if_pos z]
      have := Int32.lt_iff_toInt_lt.mp z
      rw [zt] at this
      exact Or.inr ⟨by omega, t⟩
    · rw [if_neg z]; exact Or.inl zt
theorem c20_ : (20 : Int32).toInt = 20 := by decide
theorem wt_eq {c fur wt : Int32} (hc : -100000000 ≤ c.toInt ∧ c.toInt ≤ 100000000) (hf : 0 ≤ fur.toInt ∧ fur.toInt ≤ 9999) (hw : 0 ≤ wt.toInt ∧ wt.toInt ≤ 1000) :
    (wtF c fur wt).toInt64 = wtFr c.toInt64 fur.toInt64 wt.toInt64 ∧ (wtD c fur).toInt64 = wtDr c.toInt64 fur.toInt64 ∧ (wtP c fur wt).toInt64 = wtPr c.toInt64 fur.toInt64 wt.toInt64 ∧ 0 ≤ (wtF c fur wt).toInt ∧ (wtF c fur wt).toInt ≤ 9999 := by
  have z0 : (0 : Int32).toInt64 = 0 := by decide
  have zt : (0 : Int32).toInt = 0 := by decide
  unfold wtF wtD wtP wtFr wtDr wtPr
  by_cases q : 0 ≤ c
  · have q' : (0 : Int64) ≤ c.toInt64 := by rw [← z0]; exact wd6_le.mpr q
    rw [if_pos q, if_pos q, if_pos q, if_pos q', if_pos q', if_pos q']
    have qt := Int32.le_iff_toInt_le.mp q
    rw [zt] at qt
    have d : (c / 20).toInt = c.toInt.tdiv 20 := by rw [i3_div (by decide), c20_]
    have t := td_ge (by decide : (0 : Int) < 20) qt
    have c1 : (1 : Int32).toInt = 1 := by decide
    have s : (c / 20 + 1).toInt = c.toInt.tdiv 20 + 1 := by rw [i3_add (by rw [d, c1]; omega) (by rw [d, c1]; omega), d, c1]
    have s6 : (c / 20 + 1).toInt64 = c.toInt64 / 20 + 1 := by rw [wd6_add (by rw [d, c1]; omega) (by rw [d, c1]; omega), wd6_div (by decide)]; rfl
    have m : (if c / 20 + 1 < fur then c / 20 + 1 else fur).toInt64 = (if c.toInt64 / 20 + 1 ≤ fur.toInt64 then c.toInt64 / 20 + 1 else fur.toInt64) ∧ 0 ≤ (if c / 20 + 1 < fur then c / 20 + 1 else fur).toInt ∧ (if c / 20 + 1 < fur then c / 20 + 1 else fur).toInt ≤ fur.toInt := by
      rw [← s6]
      by_cases y : c / 20 + 1 < fur
      · have y' := Int32.lt_iff_toInt_lt.mp y
        rw [if_pos y, if_pos (wd6_le.mpr (Int32.le_of_lt y))]; exact ⟨rfl, by rw [s]; omega, by omega⟩
      · rw [if_neg y]
        by_cases x : (c / 20 + 1).toInt64 ≤ fur.toInt64
        · rw [if_pos x]
          have x' := Int32.le_iff_toInt_le.mp (wd6_le.mp x)
          have y' := Int32.le_iff_toInt_le.mp (Int32.not_lt.mp y)
          have : fur = c / 20 + 1 := Int32.toInt_inj.mp (by omega)
          rw [← this]; exact ⟨rfl, hf.1, Int.le_refl _⟩
        · rw [if_neg x]; exact ⟨rfl, hf.1, Int.le_refl _⟩
    obtain ⟨m1, m2, m3⟩ := m
    refine ⟨?_, m1, rfl, ?_, ?_⟩
    · rw [wd6_sub (by omega) (by omega), m1]
    · rw [i3_sub (by omega) (by omega)]; omega
    · rw [i3_sub (by omega) (by omega)]; omega
  · have q' : ¬ (0 : Int64) ≤ c.toInt64 := by rw [← z0]; exact fun z => q (wd6_le.mp z)
    rw [if_neg q, if_neg q, if_neg q, if_neg q', if_neg q', if_neg q']
    have c9 : (9999 : Int32).toInt = 9999 := by decide
    have k9 : (9999 : Int32).toInt64 = 9999 := by decide
    have d : (9999 - fur).toInt = 9999 - fur.toInt := by rw [i3_sub (by rw [c9]; omega) (by rw [c9]; omega), c9]
    have s : (fur + wt).toInt = fur.toInt + wt.toInt := i3_add (by omega) (by omega)
    have s6 : (fur + wt).toInt64 = fur.toInt64 + wt.toInt64 := wd6_add (by omega) (by omega)
    rw [← s6]
    by_cases y : 9999 - fur < wt
    · have y' := Int32.lt_iff_toInt_lt.mp y
      rw [d] at y'
      have n9 : ¬ (fur + wt).toInt64 ≤ 9999 := by
        rw [← k9]; intro z
        have := Int32.le_iff_toInt_le.mp (wd6_le.mp z)
        rw [s, c9] at this; omega
      have m : (fur + wt - 9999).toInt = fur.toInt + wt.toInt - 9999 := by rw [i3_sub (by rw [s, c9]; omega) (by rw [s, c9]; omega), s, c9]
      have m6 : (fur + wt - 9999).toInt64 = (fur + wt).toInt64 - 9999 := by rw [wd6_sub (by rw [s, c9]; omega) (by rw [s, c9]; omega), k9]
      rw [if_pos y, if_neg n9, ← m6]
      refine ⟨?_, z0, ?_, ?_, ?_⟩
      · rw [← wd6_sub (by rw [s, m]; omega) (by rw [s, m]; omega), wd6_inj]; grind
      · rw [wd6_inj]; grind
      · rw [i3_add (by rw [d]; omega) (by rw [d]; omega), d]; omega
      · rw [i3_add (by rw [d]; omega) (by rw [d]; omega), d]; omega
    · have y' := Int32.le_iff_toInt_le.mp (Int32.not_lt.mp y)
      rw [d] at y'
      have n9 : (fur + wt).toInt64 ≤ 9999 := by
        rw [← k9]; refine wd6_le.mpr (Int32.le_iff_toInt_le.mpr ?_)
        rw [s, c9]; omega
      rw [if_neg y, if_pos n9]
      refine ⟨(Int64.sub_zero _).symm, z0, ?_, by rw [s]; omega, by rw [s]; omega⟩
      have : wt - wt = 0 := by grind
      rw [this]; exact z0
