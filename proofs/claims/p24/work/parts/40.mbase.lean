/-! ===== the reference: its row w (79) in blocks of 80 ===== -/
theorem tn_nat {a : Int32} : a.toNatClampNeg = a.toInt.toNat := rfl
theorem tn_add {a b : Int32} (ha : 0 ≤ a ∧ a ≤ 1000) (hb : 0 ≤ b ∧ b ≤ 1000) : (a + b).toNatClampNeg = a.toNatClampNeg + b.toNatClampNeg := by
  have a0 := Int32.le_iff_toInt_le.mp ha.1
  have a1 := Int32.le_iff_toInt_le.mp ha.2
  have b0 := Int32.le_iff_toInt_le.mp hb.1
  have b1 := Int32.le_iff_toInt_le.mp hb.2
  have c : (1000 : Int32).toInt = 1000 := by decide
  simp at a0 b0
  rw [c] at a1 b1
  have e : (a + b).toInt = a.toInt + b.toInt := by
    rw [Int32.toInt_add]
    apply Int.bmod_eq_of_le <;> omega
  rw [tn_nat, tn_nat, tn_nat, e]; omega
theorem tn_lt {a : Int32} {n : Int32} (h0 : 0 ≤ a) (h : ¬ n ≤ a) : a.toNatClampNeg < n.toNatClampNeg := by
  have a0 := Int32.le_iff_toInt_le.mp h0
  have a1 := Int32.lt_iff_toInt_lt.mp (Int32.not_le.mp h)
  simp at a0
  rw [tn_nat, tn_nat]; omega
abbrev HX (x : Int32) : Prop := x = 0 ∨ x = 80 ∨ x = 160 ∨ x = 240
abbrev FU (X : Nat) (J : Jv) : Prop := 0 ≤ J 79 (X + 53) ∧ J 79 (X + 53) ≤ 9999
def KP (X k : Nat) : Prop := k < X ∨ X + 80 ≤ k ∨ (X + 12 ≤ k ∧ k < X + 53) ∨ k = X + 54 ∨ k = X + 69 ∨ k = X + 70
def KG (X k : Nat) : Prop := k < X ∨ X + 80 ≤ k ∨ (X + 12 ≤ k ∧ k < X + 53) ∨ k = X + 69 ∨ k = X + 70
def TK (X : Nat) (J J' : Jv) : Prop := (∀ b, b ≠ 79 → b ≠ 88 → J' b = J b) ∧ (∀ k, KP X k → J' 79 k = J 79 k) ∧ FU X J'
def TG (X : Nat) (J J' : Jv) : Prop := (∀ b, b ≠ 79 → b ≠ 88 → J' b = J b) ∧ (∀ k, KG X k → J' 79 k = J 79 k) ∧ FU X J'
theorem tk_rfl {X : Nat} {J : Jv} (h : FU X J) : TK X J J := ⟨fun _ _ _ => rfl, fun _ _ => rfl, h⟩
theorem tg_rfl {X : Nat} {J : Jv} (h : FU X J) : TG X J J := ⟨fun _ _ _ => rfl, fun _ _ => rfl, h⟩
theorem TK.tr {X : Nat} {J J1 J2 : Jv} (h : TK X J J1) (k : TK X J1 J2) : TK X J J2 :=
  ⟨fun b h1 h2 => (k.1 b h1 h2).trans (h.1 b h1 h2), fun i hi => (k.2.1 i hi).trans (h.2.1 i hi), k.2.2⟩
theorem TG.tr {X : Nat} {J J1 J2 : Jv} (h : TG X J J1) (k : TG X J1 J2) : TG X J J2 :=
  ⟨fun b h1 h2 => (k.1 b h1 h2).trans (h.1 b h1 h2), fun i hi => (k.2.1 i hi).trans (h.2.1 i hi), k.2.2⟩
theorem TK.tg {X : Nat} {J J1 : Jv} (h : TK X J J1) : TG X J J1 :=
  ⟨h.1, fun i hi => h.2.1 i (by unfold KG at hi; unfold KP; omega), h.2.2⟩
theorem TK.tick {X : Nat} {J J1 : Jv} (h : TK X J J1) : J1 79 (X + 54) = J 79 (X + 54) := h.2.1 _ (by unfold KP; omega)
theorem tk_w {X k : Nat} {v : Int64} {J J1 : Jv} (h : TK X J J1) (hk : ¬ KP X k) (hF : k = X + 53 → 0 ≤ v ∧ v ≤ 9999) : TK X J (wJ J1 79 k v) := by
  refine ⟨fun b h1 h2 => ?_, fun i hi => ?_, ?_⟩
  · rw [wJ_row h1]; exact h.1 b h1 h2
  · rw [wJ_ne (Or.inr (fun (e : i = k) => hk (e ▸ hi)))]; exact h.2.1 i hi
  · by_cases e : k = X + 53
    · subst e; unfold FU; rw [wJ_self]; exact hF rfl
    · unfold FU; rw [wJ_ne (Or.inr (fun q => e q.symm))]; exact h.2.2
theorem tg_w {X k : Nat} {v : Int64} {J J1 : Jv} (h : TG X J J1) (hk : ¬ KG X k) (hF : k ≠ X + 53) : TG X J (wJ J1 79 k v) := by
  refine ⟨fun b h1 h2 => ?_, fun i hi => ?_, ?_⟩
  · rw [wJ_row h1]; exact h.1 b h1 h2
  · rw [wJ_ne (Or.inr (fun (e : i = k) => hk (e ▸ hi)))]; exact h.2.1 i hi
  · unfold FU; rw [wJ_ne (Or.inr (fun q => hF q.symm))]; exact h.2.2
theorem tk_f {X k : Nat} {v : Int64} {J J1 : Jv} (h : TK X J J1) : TK X J (wJ J1 88 k v) := by
  refine ⟨fun b h1 h2 => ?_, fun i hi => ?_, ?_⟩
  · rw [wJ_row h2]; exact h.1 b h1 h2
  · rw [wJ_row (by decide)]; exact h.2.1 i hi
  · unfold FU; rw [wJ_row (by decide)]; exact h.2.2
theorem fu_div {X : Nat} {J J1 : Jv} (h : TK X J J1) : ¬ 1000 + J1 79 (X + 53) = 0 := by
  have := h.2.2; grind
abbrev BI (X : Nat) (J : Jv) : Prop := ∀ f, f < 8 → (J 79 (X + 12 + f) = 0 ∨ J 79 (X + 12 + f) = 1) ∧ (J 79 (X + 12 + f) = 1 → (0 ≤ J 79 (X + 20 + f) ∧ J 79 (X + 20 + f) ≤ 2) ∧ (1 ≤ J 79 (X + 28 + f) ∧ J 79 (X + 28 + f) ≤ 200))
theorem bi_eq {X : Nat} {J J1 : Jv} (h : ∀ k, X + 12 ≤ k → k < X + 36 → J1 79 k = J 79 k) (b : BI X J) : BI X J1 := by
  intro f hf
  rw [h (X + 12 + f) (by omega) (by omega), h (X + 20 + f) (by omega) (by omega), h (X + 28 + f) (by omega) (by omega)]
  exact b f hf
theorem TG.bi {X : Nat} {J J1 : Jv} (h : TG X J J1) (b : BI X J) : BI X J1 := bi_eq (fun k h1 h2 => h.2.1 k (by unfold KG; omega)) b
theorem TK.bi {X : Nat} {J J1 : Jv} (h : TK X J J1) (b : BI X J) : BI X J1 := h.tg.bi b
theorem cap_ix {x f : Int32} (hx : HX x) (h0 : 0 ≤ f) (h1 : f < 8) : (x + 28 + (4 + f) - 4).toNatClampNeg = x.toNatClampNeg + 28 + f.toNatClampNeg := by
  have e : x + 28 + (4 + f) - 4 = x + 28 + f := by grind
  rw [e, tn_add (by constructor <;> grind) (by constructor <;> grind), tn_add (by constructor <;> grind) (by decide)]
  rfl
theorem i2l_bd {a b : Int32} (h : 0 ≤ a ∧ a ≤ b) : 0 ≤ a.toInt64 ∧ a.toInt64 ≤ b.toInt64 := by
  have a0 := Int32.le_iff_toInt_le.mp h.1
  have a1 := Int32.le_iff_toInt_le.mp h.2
  rw [Int64.le_iff_toInt_le, Int64.le_iff_toInt_le, Int32.toInt_toInt64, Int32.toInt_toInt64]
  simp at a0
  simp
  omega
theorem l2i_bd {a : Int64} (h0 : 0 ≤ a) (h1 : a ≤ 1000000) : 0 ≤ a.toInt32 ∧ a.toInt32.toInt = a.toInt := by
  have a0 := Int64.le_iff_toInt_le.mp h0
  have a1 := Int64.le_iff_toInt_le.mp h1
  have c : (1000000 : Int64).toInt = 1000000 := by decide
  simp at a0
  rw [c] at a1
  have e : a.toInt32.toInt = a.toInt := by
    rw [Int64.toInt_toInt32]
    apply Int.bmod_eq_of_le <;> omega
  rw [Int32.le_iff_toInt_le, e]
  exact ⟨by simpa using a0, rfl⟩
theorem l2i_2 {a : Int64} (h : 0 ≤ a ∧ a ≤ 2) : 0 ≤ a.toInt32 ∧ a.toInt32 ≤ 2 := by
  have q := l2i_bd h.1 (by have := h.2; grind)
  have a1 := Int64.le_iff_toInt_le.mp h.2
  refine ⟨q.1, ?_⟩
  rw [Int32.le_iff_toInt_le, q.2]; exact a1
theorem melt_pos {c : Int64} (h : 0 ≤ c) : 1 ≤ c / 20 + 1 := by
  have a0 := Int64.le_iff_toInt_le.mp h
  have a2 := Int64.toInt_lt c
  simp at a0
  have c20 : (20 : Int64).toInt = 20 := by decide
  have c1 : (1 : Int64).toInt = 1 := by decide
  have e1 : (c / 20).toInt = c.toInt / 20 := by
    rw [Int64.toInt_div, c20, Int.tdiv_eq_ediv_of_nonneg a0]
    apply Int.bmod_eq_of_le <;> omega
  have e2 : (c / 20 + 1).toInt = c.toInt / 20 + 1 := by
    rw [Int64.toInt_add, e1, c1]
    apply Int.bmod_eq_of_le <;> omega
  rw [Int64.le_iff_toInt_le, e2, c1]; omega
theorem i2l_up {c N : Int32} (h : ¬ N ≤ c) : (c + 1).toInt64 = c.toInt64 + 1 := by
  have u := i32_up (Int32.not_le.mp h)
  have a := Int32.le_toInt c
  have b := Int32.toInt_lt c
  apply Int64.toInt_inj.mp
  have c1 : (1 : Int64).toInt = 1 := by decide
  rw [Int32.toInt_toInt64, u, Int64.toInt_add, Int32.toInt_toInt64, c1, Int.bmod_eq_of_le] <;> omega
theorem hx_le {x : Int32} (hx : HX x) : 0 ≤ x ∧ x ≤ 1000 := by rcases hx with rfl | rfl | rfl | rfl <;> decide
theorem ixc {x c : Int32} (hx : HX x) (h : 0 ≤ c ∧ c < 80) : 0 ≤ x + c ∧ x + c < 320 := by
  rcases hx with rfl | rfl | rfl | rfl <;> constructor <;> grind
theorem tnc {x c : Int32} (hx : HX x) (h : 0 ≤ c ∧ c < 80) : (x + c).toNatClampNeg = x.toNatClampNeg + c.toNatClampNeg := tn_add (hx_le hx) (by constructor <;> grind)
theorem ixcf {x c f : Int32} (hx : HX x) (h : 0 ≤ c ∧ c ≤ 72) (hf : 0 ≤ f ∧ f < 8) : 0 ≤ x + c + f ∧ x + c + f < 320 := by
  have e : x + c + f = x + (c + f) := by grind
  rw [e]; exact ixc hx (by constructor <;> grind)
theorem tncf {x c f : Int32} (hx : HX x) (h : 0 ≤ c ∧ c ≤ 72) (hf : 0 ≤ f ∧ f < 8) : (x + c + f).toNatClampNeg = x.toNatClampNeg + c.toNatClampNeg + f.toNatClampNeg := by
  have h1 := ixc hx (c := c) (by constructor <;> grind)
  rw [tn_add (a := x + c) (b := f) (by constructor <;> grind) (by constructor <;> grind), tnc hx (by constructor <;> grind)]
theorem bi_int {J : Jv} {x : Int32} (b : BI 0 J) (h0 : 0 ≤ x) (h1 : x < 8) : 0 ≤ (J 79 (12 + x.toNatClampNeg)).toInt32 ∧ (J 79 (12 + x.toNatClampNeg)).toInt32 ≤ 1 := by
  have hl : x.toNatClampNeg < 8 := tn_lt (n := 8) h0 (Int32.not_le.mpr h1)
  have := (b _ hl).1
  rw [Nat.zero_add] at this
  rcases this with q | q <;> rw [q] <;> decide
