/-! ===== what a method does, as a function: written by program beside its walk; a walk carries what is left of it ===== -/
def l_t {α β : Type} (x : α) (k : α → β) : β := k x
def j_n {α β : Type} (x : α) (k : α → β) : β := k x
def b_n3 {α β : Type} (x : α × Iv × Jv) (k : α → Iv → Jv → β) : β := k x.1 x.2.1 x.2.2
def b_n2 {β : Type} (x : Iv × Jv) (k : Iv → Jv → β) : β := k x.1 x.2
def FE {β : Type} (a : β) (b : Unit → β) : Prop := a = b ()
theorem fe_of {β : Type} {a b : β} (h : a = b) : FE a (fun _ => b) := h
theorem fe_lt {α β : Type} {a : β} {x v : α} {k : α → β} (h : FE a (fun _ => l_t x k)) (e : v = x) : FE a (fun _ => k v) := by
  subst e; exact h
theorem fe_b3 {α β : Type} {a : β} {x : α × Iv × Jv} {v : α} {i : Iv} {j : Jv} {k : α → Iv → Jv → β} (h : FE a (fun _ => b_n3 x k)) (e : x = (v, i, j)) : FE a (fun _ => k v i j) := by
  subst e; exact h
theorem fe_b2 {β : Type} {a : β} {x : Iv × Jv} {i : Iv} {j : Jv} {k : Iv → Jv → β} (h : FE a (fun _ => b_n2 x k)) (e : x = (i, j)) : FE a (fun _ => k i j) := by
  subst e; exact h
theorem fe_pos {β : Type} {a t e : β} {c : Prop} [Decidable c] (h : FE a (fun _ => if c then t else e)) (hc : c) : FE a (fun _ => t) := Eq.trans (show a = if c then t else e from h) (if_pos hc)
theorem fe_neg {β : Type} {a t e : β} {c : Prop} [Decidable c] (h : FE a (fun _ => if c then t else e)) (hc : ¬ c) : FE a (fun _ => e) := Eq.trans (show a = if c then t else e from h) (if_neg hc)
theorem fe_eq {β : Type} {a b c : β} (h : FE a (fun _ => b)) (e : b = c) : FE a (fun _ => c) := Eq.trans (show a = b from h) e
theorem fe_jx {α β : Type} {a : β} {R : α} {f : α → β} (h : FE a (fun _ => j_n R f)) : ∃ j, j = R ∧ FE a (fun _ => f j) := ⟨R, rfl, h⟩
theorem fe_kx {α β : Type} {a : β} {K : α} {f : α → β} (h : FE a (fun _ => f K)) : ∃ k, k = K ∧ FE a (fun _ => f k) := ⟨K, rfl, h⟩
theorem fe_fu {P : Nat → Prop} {nu : Nat} (h : ∃ k, nu < k ∧ P k) : ∃ k, nu ≤ k ∧ P (k + 1) := by
  obtain ⟨k, h1, h2⟩ := h
  cases k with
  | zero => exact absurd h1 (Nat.not_lt_zero _)
  | succ k => exact ⟨k, Nat.le_of_lt_succ h1, h2⟩
