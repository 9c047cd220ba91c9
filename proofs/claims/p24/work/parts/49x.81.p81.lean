/-! ===== the flows of a tick, and that no warmth runs away ===== -/
def gM (g : Nat → Int64) (a b : Nat) (v : Int64) : Nat → Int64 := fun k => if k = b then g b + v else if k = a then g a - v else g k
def gS (room gap : Int64) (w : Nat → Int64) : Nat → Int64 := fun k => if k < 3 then fl6 gap room (w k) else 0
def gX (mx : Int64) (w : Nat → Int64) (g : Nat → Int64) : Nat → Int64 := gM (gM g 0 1 (fl6 mx (w 0) (w 1))) 1 2 (fl6 mx (w 1) (w 2))
def gC (cd fur : Int64) (w : Nat → Int64) (g : Nat → Int64) : Nat → Int64 := gM g 0 3 (fu6 (fl6 cd (w 0) (w 3)) fur)
def gF (fd : Int64) (w : Nat → Int64) (th : Nat → Bool) (sh : Nat → Nat) : Nat → Nat → (Nat → Int64) → (Nat → Int64)
  | 0, _, g => g
  | n + 1, f, g => gF fd w th sh n (f + 1) (if th f = true then gM g (sh f) (4 + f) (fl6 fd (w (sh f)) (w (4 + f))) else g)
def gT (room gap mx cd fd fur : Int64) (w : Nat → Int64) (th : Nat → Bool) (sh : Nat → Nat) : Nat → Int64 := gF fd w th sh 8 0 (gC cd fur w (gX mx w (gS room gap w)))
/-- what comes to a cell of warmth x, in a hundredth part, stays within E times what is wanting to M, to -M -/
def GBd (M x E : Int) (g : Int64) : Prop := -(E * (M + x)) ≤ 100 * g.toInt ∧ 100 * g.toInt ≤ E * (M - x)
theorem gbd_0 {M x : Int} : GBd M x 0 0 := by
  unfold GBd; rw [Int.zero_mul, Int.zero_mul, show (0 : Int64).toInt = 0 by decide]; omega
theorem gbd_mono {M x E F : Int} {g : Int64} (hx : -M ≤ x ∧ x ≤ M) (hE : E ≤ F) (h : GBd M x E g) : GBd M x F g := by
  unfold GBd at *
  have h1 : E * (M + x) ≤ F * (M + x) := Int.mul_le_mul_of_nonneg_right hE (by omega)
  have h2 : E * (M - x) ≤ F * (M - x) := Int.mul_le_mul_of_nonneg_right hE (by omega)
  omega
theorem gbd_rng {M x E : Int} {g : Int64} (hM : M ≤ 100000000) (hx : -M ≤ x ∧ x ≤ M) (hE : 0 ≤ E ∧ E ≤ 2000) (h : GBd M x E g) : -4000000000 ≤ g.toInt ∧ g.toInt ≤ 4000000000 := by
  unfold GBd at h
  have h1 : E * (M + x) ≤ 2000 * (M + x) := Int.mul_le_mul_of_nonneg_right hE.2 (by omega)
  have h2 : E * (M - x) ≤ 2000 * (M - x) := Int.mul_le_mul_of_nonneg_right hE.2 (by omega)
  omega
theorem gbd_add {M x E F : Int} {g v : Int64} (hM : M ≤ 100000000) (hx : -M ≤ x ∧ x ≤ M) (hE : 0 ≤ E) (hF : 0 ≤ F) (hs : E + F ≤ 2000) (h : GBd M x E g) (hv : GBd M x F v) : GBd M x (E + F) (g + v) := by
  have r1 := gbd_rng hM hx ⟨hE, by omega⟩ h
  have r2 := gbd_rng hM hx ⟨hF, by omega⟩ hv
  unfold GBd at *
  rw [i6_add (by omega) (by omega), Int.add_mul, Int.add_mul]; omega
theorem gbd_neg {M x F : Int} {v : Int64} (h : 100 * v.toInt ≤ F * (M + x) ∧ -(F * (M - x)) ≤ 100 * v.toInt) (hM : M ≤ 100000000) (hx : -M ≤ x ∧ x ≤ M) (hF : 0 ≤ F ∧ F ≤ 2000) : GBd M x F (0 - v) := by
  have h1 : F * (M + x) ≤ 2000 * (M + x) := Int.mul_le_mul_of_nonneg_right hF.2 (by omega)
  have h2 : F * (M - x) ≤ 2000 * (M - x) := Int.mul_le_mul_of_nonneg_right hF.2 (by omega)
  have z : (0 : Int64).toInt = 0 := by decide
  unfold GBd
  rw [i6_sub (by rw [z]; omega) (by rw [z]; omega), z]; omega
theorem sub_as (g v : Int64) : g - v = g + (0 - v) := by
  rw [Int64.zero_sub, ← Int64.sub_eq_add_neg]
theorem gbd_sub {M x E F : Int} {g v : Int64} (hM : M ≤ 100000000) (hx : -M ≤ x ∧ x ≤ M) (hE : 0 ≤ E) (hF : 0 ≤ F) (hs : E + F ≤ 2000) (h : GBd M x E g) (hv : 100 * v.toInt ≤ F * (M + x) ∧ -(F * (M - x)) ≤ 100 * v.toInt) : GBd M x (E + F) (g - v) := by
  rw [sub_as]; exact gbd_add hM hx hE hF hs h (gbd_neg hv hM hx ⟨hF, by omega⟩)
/-- a flow moved from a to b -/
theorem gM_b {g : Nat → Int64} {a b : Nat} {v : Int64} : gM g a b v b = g b + v := if_pos rfl
theorem gM_a {g : Nat → Int64} {a b : Nat} {v : Int64} (h : a ≠ b) : gM g a b v a = g a - v := by unfold gM; rw [if_neg h, if_pos rfl]
theorem gM_o {g : Nat → Int64} {a b k : Nat} {v : Int64} (ha : k ≠ a) (hb : k ≠ b) : gM g a b v k = g k := by unfold gM; rw [if_neg hb, if_neg ha]
/-- the eases are in bounds -/
def EaB (gap mx cd fd fur : Int64) : Prop := (0 ≤ gap.toInt ∧ gap.toInt ≤ 567) ∧ (0 ≤ mx.toInt ∧ mx.toInt ≤ 99) ∧ (0 ≤ cd.toInt ∧ cd.toInt ≤ 99) ∧ (0 ≤ fd.toInt ∧ fd.toInt ≤ 99) ∧ (0 ≤ fur.toInt ∧ fur.toInt ≤ 9999)
def WB (M : Int) (v : Int64) : Prop := -M ≤ v.toInt ∧ v.toInt ≤ M
theorem fl_mv {e a b : Int64} {E M : Int} (he : 0 ≤ e.toInt ∧ e.toInt ≤ E) (hE : E ≤ 1000) (hM : M ≤ 100000000) (ha : WB M a) (hb : WB M b) : GBd M b.toInt E (fl6 e a b) ∧ (100 * (fl6 e a b).toInt ≤ E * (M + a.toInt) ∧ -(E * (M - a.toInt)) ≤ 100 * (fl6 e a b).toInt) := by
  obtain ⟨p1, p2, p3, p4⟩ := fl6_b he hE hM ha hb
  exact ⟨⟨p2, p1⟩, p3, p4⟩
theorem gS_b {room gap : Int64} {w : Nat → Int64} {M : Int} (hg : 0 ≤ gap.toInt ∧ gap.toInt ≤ 567) (hM : M ≤ 100000000) (hr : WB M room) (hw : ∀ k, k < 4 → WB M (w k)) : (∀ k, k < 3 → GBd M (w k).toInt 567 (gS room gap w k)) ∧ ∀ k, 3 ≤ k → gS room gap w k = 0 := by
  refine ⟨fun k hk => ?_, fun k hk => by unfold gS; rw [if_neg (by omega)]⟩
  unfold gS; rw [if_pos hk]
  exact (fl_mv hg (by omega) hM hr (hw k (by omega))).1
theorem gX_b {mx : Int64} {w g : Nat → Int64} {M : Int} (hm : 0 ≤ mx.toInt ∧ mx.toInt ≤ 99) (hM : M ≤ 100000000) (hw : ∀ k, k < 4 → WB M (w k)) (h : ∀ k, k < 3 → GBd M (w k).toInt 567 (g k)) : (∀ k, k < 3 → GBd M (w k).toInt 765 (gX mx w g k)) ∧ ∀ k, 3 ≤ k → gX mx w g k = g k := by
  have w0 := hw 0 (by omega)
  have w1 := hw 1 (by omega)
  have w2 := hw 2 (by omega)
  obtain ⟨a1, a2⟩ := fl_mv hm (by omega) hM w0 w1
  obtain ⟨b1, b2⟩ := fl_mv hm (by omega) hM w1 w2
  refine ⟨fun k hk => ?_, fun k hk => ?_⟩
  · unfold gX
    rcases (show k = 0 ∨ k = 1 ∨ k = 2 by omega) with rfl | rfl | rfl
    · rw [gM_o (by omega) (by omega), gM_a (by omega)]
      exact gbd_mono w0 (by omega) (gbd_sub (F := 99) hM w0 (by omega) (by omega) (by omega) (h 0 (by omega)) a2)
    · rw [gM_a (by omega), gM_b]
      have q := gbd_sub (F := 99) hM w1 (by omega) (by omega) (by omega) (gbd_add (F := 99) hM w1 (by omega) (by omega) (by omega) (h 1 (by omega)) a1) b2
      exact gbd_mono w1 (by omega) q
    · rw [gM_b, gM_o (by omega) (by omega)]
      exact gbd_mono w2 (by omega) (gbd_add (F := 99) hM w2 (by omega) (by omega) (by omega) (h 2 (by omega)) b1)
  · unfold gX; rw [gM_o (by omega) (by omega), gM_o (by omega) (by omega)]
theorem fl6_r {e a b : Int64} {M : Int} (he : 0 ≤ e.toInt ∧ e.toInt ≤ 1000) (hM : M ≤ 100000000) (ha : WB M a) (hb : WB M b) : -1000000000000 ≤ (fl6 e a b).toInt ∧ (fl6 e a b).toInt ≤ 1000000000000 := by
  have h := (fl_mv (E := 1000) he (by omega) hM ha hb).1
  have h2 := gbd_rng hM hb (by omega) h
  omega
theorem gC_b {cd fur : Int64} {w g : Nat → Int64} {M : Int} (hc : 0 ≤ cd.toInt ∧ cd.toInt ≤ 99) (hf : 0 ≤ fur.toInt ∧ fur.toInt ≤ 9999) (hM : M ≤ 100000000) (hw : ∀ k, k < 4 → WB M (w k)) (h : ∀ k, k < 3 → GBd M (w k).toInt 765 (g k)) (h3 : g 3 = 0) :
    (∀ k, k < 3 → GBd M (w k).toInt 864 (gC cd fur w g k)) ∧ GBd M (w 3).toInt 99 (gC cd fur w g 3) ∧ ∀ k, 4 ≤ k → gC cd fur w g k = g k := by
  have w0 := hw 0 (by omega)
  have w3 := hw 3 (by omega)
  have rg := fl6_r ⟨hc.1, by omega⟩ hM w0 w3
  obtain ⟨a1, a2⟩ := fl_mv hc (by omega) hM w0 w3
  have n1 : (0 : Int) ≤ 99 * (M - (w 3).toInt) := by unfold WB at w3; omega
  have n2 : (0 : Int) ≤ 99 * (M + (w 3).toInt) := by unfold WB at w3; omega
  have n3 : (0 : Int) ≤ 99 * (M + (w 0).toInt) := by unfold WB at w0; omega
  have n4 : (0 : Int) ≤ 99 * (M - (w 0).toInt) := by unfold WB at w0; omega
  have b1 := fu6_b rg hf n1 n2 a1.2 a1.1
  have b2 := fu6_b rg hf n3 n4 a2.1 a2.2
  have d1 : GBd M (w 3).toInt 99 (fu6 (fl6 cd (w 0) (w 3)) fur) := ⟨b1.2, b1.1⟩
  refine ⟨fun k hk => ?_, ?_, fun k hk => ?_⟩
  · unfold gC
    by_cases q : k = 0
    · subst q
      rw [gM_a (by omega)]
      exact gbd_sub (E := 765) (F := 99) hM w0 (by omega) (by omega) (by omega) (h 0 (by omega)) b2
    · rw [gM_o q (by omega)]
      exact gbd_mono (hw k (by omega)) (by omega) (h k hk)
  · unfold gC
    rw [gM_b, h3, Int64.zero_add]; exact d1
  · unfold gC; rw [gM_o (by omega) (by omega)]
theorem gF_b {fd : Int64} {w : Nat → Int64} {th : Nat → Bool} {sh : Nat → Nat} {M : Int} (hf : 0 ≤ fd.toInt ∧ fd.toInt ≤ 99) (hM : M ≤ 100000000) (hw : ∀ k, k < 4 → WB M (w k)) (hw2 : ∀ f, f < 8 → th f = true → WB M (w (4 + f)) ∧ sh f < 3) :
    ∀ (n f : Nat) (g : Nat → Int64), n + f = 8 → (∀ k, k < 3 → GBd M (w k).toInt (864 + 99 * (f : Int)) (g k)) → GBd M (w 3).toInt 99 (g 3) → (∀ j, j < f → th j = true → GBd M (w (4 + j)).toInt 99 (g (4 + j))) → (∀ j, j < 8 → (f ≤ j ∨ th j = false) → g (4 + j) = 0) →
      (∀ k, k < 3 → GBd M (w k).toInt 1656 (gF fd w th sh n f g k)) ∧ GBd M (w 3).toInt 99 (gF fd w th sh n f g 3) ∧ (∀ j, j < 8 → th j = true → GBd M (w (4 + j)).toInt 99 (gF fd w th sh n f g (4 + j))) ∧ ∀ j, j < 8 → th j = false → gF fd w th sh n f g (4 + j) = 0
  | 0, f, g, hn, h1, h2, h3, h4 => by
    have e : f = 8 := by omega
    subst e
    exact ⟨fun k hk => h1 k hk, h2, fun j hj hq => h3 j hj hq, fun j hj hq => h4 j hj (Or.inr hq)⟩
  | n + 1, f, g, hn, h1, h2, h3, h4 => by
    simp only [gF]
    have hf8 : f < 8 := by omega
    by_cases q : th f = true
    · rw [if_pos q]
      obtain ⟨wf, hs⟩ := hw2 f hf8 q
      have ws := hw (sh f) (by omega)
      obtain ⟨a1, a2⟩ := fl_mv hf (by omega) hM ws wf
      refine gF_b hf hM hw hw2 n (f + 1) _ (by omega) (fun k hk => ?_) ?_ (fun j hj hq => ?_) (fun j hj hq => ?_)
      · have e : 864 + 99 * ((f + 1 : Nat) : Int) = 864 + 99 * (f : Int) + 99 := by omega
        rw [e]
        by_cases z : k = sh f
        · rw [z, gM_a (by omega)]
          exact gbd_sub hM ws (by omega) (by omega) (by omega) (h1 (sh f) hs) a2
        · rw [gM_o z (by omega)]
          exact gbd_mono (hw k (by omega)) (by omega) (h1 k hk)
      · rw [gM_o (by omega) (by omega)]; exact h2
      · by_cases z : j = f
        · subst z
          rw [gM_b, h4 j (by omega) (Or.inl (Nat.le_refl _)), Int64.zero_add]; exact a1
        · rw [gM_o (by omega) (by omega)]; exact h3 j (by omega) hq
      · rcases Nat.lt_or_ge j f with z | z
        · rw [gM_o (by omega) (by omega)]
          exact h4 j hj (Or.inr (by rcases hq with y | y; omega; exact y))
        · by_cases y : j = f
          · subst y
            rcases hq with x | x
            · omega
            · rw [q] at x; exact absurd x (by decide)
          · rw [gM_o (by omega) (by omega)]; exact h4 j hj (Or.inl (by omega))
    · rw [if_neg q]
      refine gF_b hf hM hw hw2 n (f + 1) _ (by omega) (fun k hk => ?_) h2 (fun j hj hq => ?_) (fun j hj hq => ?_)
      · exact gbd_mono (hw k (by omega)) (by omega) (h1 k hk)
      · by_cases z : j = f
        · rw [z] at hq; exact absurd hq q
        · exact h3 j (by omega) hq
      · rcases hq with y | y
        · exact h4 j hj (Or.inl (by omega))
        · exact h4 j hj (Or.inr y)
theorem gT_b {room gap mx cd fd fur : Int64} {w : Nat → Int64} {th : Nat → Bool} {sh : Nat → Nat} {M : Int} (he : EaB gap mx cd fd fur) (hM : M ≤ 100000000) (hr : WB M room) (hw : ∀ k, k < 4 → WB M (w k)) (hw2 : ∀ f, f < 8 → th f = true → WB M (w (4 + f)) ∧ sh f < 3) :
    (∀ k, k < 3 → GBd M (w k).toInt 1656 (gT room gap mx cd fd fur w th sh k)) ∧ GBd M (w 3).toInt 99 (gT room gap mx cd fd fur w th sh 3) ∧ (∀ j, j < 8 → th j = true → GBd M (w (4 + j)).toInt 99 (gT room gap mx cd fd fur w th sh (4 + j))) ∧ ∀ j, j < 8 → th j = false → gT room gap mx cd fd fur w th sh (4 + j) = 0 := by
  obtain ⟨e1, e2, e3, e4, e5⟩ := he
  obtain ⟨s1, s2⟩ := gS_b e1 hM hr hw
  obtain ⟨x1, x2⟩ := gX_b (g := gS room gap w) e2 hM hw s1
  obtain ⟨c1, c2, c3⟩ := gC_b (fur := fur) e3 e5 hM hw x1 ((x2 3 (by omega)).trans (s2 3 (by omega)))
  unfold gT
  refine gF_b e4 hM hw hw2 8 0 _ rfl (fun k hk => ?_) c2 (fun j hj => absurd hj (Nat.not_lt_zero _)) (fun j hj _ => ?_)
  · exact gbd_mono (hw k (by omega)) (by omega) (c1 k hk)
  · rw [c3 _ (by omega), x2 _ (by omega), s2 _ (by omega)]
/-! the cells behind the tick -/
theorem tdq {h n x : Int} (hn : 0 < n) (hx : x = h.tdiv n) : n * x - n < h ∧ h < n * x + n := by
  subst hx
  rcases Int.le_total 0 h with q | q
  · have := td_ge hn q; omega
  · have := td_le hn q; omega
theorem td_lim {h n B : Int} (hn : 0 < n) (hB : 0 ≤ B) (h1 : h < n * B + n) (h2 : -(n * B) - n < h) : -B ≤ h.tdiv n ∧ h.tdiv n ≤ B := by
  constructor
  · rcases Int.le_total 0 h with q | q
    · have := td_ge hn q; omega
    · have t := td_le hn q
      have : n * (-B - 1) < n * h.tdiv n := by
        rw [Int.mul_sub, Int.mul_neg, Int.mul_one]; omega
      have := Int.lt_of_mul_lt_mul_left this (Int.le_of_lt hn)
      omega
  · rcases Int.le_total 0 h with q | q
    · have t := td_ge hn q
      have : n * h.tdiv n < n * (B + 1) := by
        rw [Int.mul_add, Int.mul_one]; omega
      have := Int.lt_of_mul_lt_mul_left this (Int.le_of_lt hn)
      omega
    · have := td_le hn q; omega
theorem air_b {h g e : Int64} {M x : Int} (hM : 10000 ≤ M ∧ M ≤ 100000000) (hx : x = h.toInt.tdiv 20) (hw : -M ≤ x ∧ x ≤ M) (hg : GBd M x 1656 g) (he : 0 ≤ e.toInt ∧ e.toInt ≤ 495) :
    (h + g + e).toInt = h.toInt + g.toInt + e.toInt ∧ -(M + 30) ≤ (h + g + e).toInt.tdiv 20 ∧ (h + g + e).toInt.tdiv 20 ≤ M + 30 := by
  have hh := tdq (by decide) hx
  have r := gbd_rng hM.2 hw (by omega) hg
  have s1 : (h + g).toInt = h.toInt + g.toInt := i6_add (by omega) (by omega)
  have s2 : (h + g + e).toInt = h.toInt + g.toInt + e.toInt := by rw [i6_add (by rw [s1]; omega) (by rw [s1]; omega), s1]
  unfold GBd at hg
  refine ⟨s2, ?_⟩
  rw [s2]
  exact td_lim (by decide) (by omega) (by omega) (by omega)
theorem coil_b {h g o : Int64} {M x R p : Int} (hM : 10000 ≤ M ∧ M ≤ 100000000) (hx : x = h.toInt.tdiv 40) (hw : -M ≤ x ∧ x ≤ M) (hg : GBd M x 99 g) (hR : 0 ≤ R ∧ R ≤ 10000) (hp : 0 ≤ p ∧ p ≤ 999) (ho : o.toInt = 0 ∨ (0 ≤ o.toInt ∧ o.toInt = p - (R - x).tdiv 8)) :
    (h + g - o).toInt = h.toInt + g.toInt - o.toInt ∧ -(M + 30) ≤ (h + g - o).toInt.tdiv 40 ∧ (h + g - o).toInt.tdiv 40 ≤ M + 30 := by
  have hh := tdq (by decide) hx
  have r := gbd_rng hM.2 hw (by omega) hg
  have s1 : (h + g).toInt = h.toInt + g.toInt := i6_add (by omega) (by omega)
  have oo : 0 ≤ o.toInt ∧ (o.toInt ≤ 1000 ∨ (0 < x ∧ 8 * o.toInt ≤ 8000 + x)) := by
    rcases ho with z | ⟨z1, z2⟩
    · omega
    · refine ⟨z1, ?_⟩
      rcases Int.le_total 0 (R - x) with q | q
      · have := td_ge (by decide : (0 : Int) < 8) q; omega
      · have := td_le (by decide : (0 : Int) < 8) q; omega
  have s2 : (h + g - o).toInt = h.toInt + g.toInt - o.toInt := by rw [i6_sub (by rw [s1]; omega) (by rw [s1]; omega), s1]
  unfold GBd at hg
  refine ⟨s2, ?_⟩
  rw [s2]
  exact td_lim (by decide) (by omega) (by omega) (by omega)
theorem food_b {h g : Int64} {M x c : Int} (hM : 10000 ≤ M ∧ M ≤ 100000000) (hc : 1 ≤ c ∧ c ≤ 200) (hx : x = h.toInt.tdiv c) (hw : -M ≤ x ∧ x ≤ M) (hg : GBd M x 99 g) :
    (h + g).toInt = h.toInt + g.toInt ∧ -(M + 30) ≤ (h + g).toInt.tdiv c ∧ (h + g).toInt.tdiv c ≤ M + 30 := by
  have hh := tdq (by omega) hx
  have r := gbd_rng hM.2 hw (by omega) hg
  have c1 : c * x ≤ 200 * 100000000 := by
    have h1 : c * x ≤ c * M := Int.mul_le_mul_of_nonneg_left hw.2 (by omega)
    have h2 : c * M ≤ 200 * M := Int.mul_le_mul_of_nonneg_right hc.2 (by omega)
    omega
  have c2 : -(200 * 100000000) ≤ c * x := by
    have h1 : c * -M ≤ c * x := Int.mul_le_mul_of_nonneg_left hw.1 (by omega)
    have h2 : c * M ≤ 200 * M := Int.mul_le_mul_of_nonneg_right hc.2 (by omega)
    rw [Int.mul_neg] at h1; omega
  have s1 : (h + g).toInt = h.toInt + g.toInt := i6_add (by omega) (by omega)
  have k1 : 1 * (M - x) ≤ c * (M - x) := Int.mul_le_mul_of_nonneg_right hc.1 (by omega)
  have k2 : 1 * (M + x) ≤ c * (M + x) := Int.mul_le_mul_of_nonneg_right hc.1 (by omega)
  rw [Int.mul_sub c M x] at k1
  rw [Int.mul_add c M x] at k2
  have k3 : c * (M + 30) = c * M + c * 30 := Int.mul_add _ _ _
  unfold GBd at hg
  refine ⟨s1, ?_⟩
  rw [s1]
  refine td_lim (by omega) (by omega) ?_ ?_
  · rw [k3]; omega
  · rw [k3]; omega
