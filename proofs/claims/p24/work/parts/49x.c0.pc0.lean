/-! ===== SETS that could be; sums over them ===== -/
def cbL : List Nat := [0, 1, 2, 4, 8, 16, 32, 64, 3, 5, 9, 17, 33, 65, 6, 10, 18, 34, 66, 12, 20, 36, 68, 24, 40, 72, 48, 80, 96]
def cbN (i : Nat) : Nat := cbL.getD i 0
def cb (s : Nat) : Bool := cbL.contains s
theorem cb_tab : ∀ i : Fin 29, ((stI.getD 3 default).2).getD i.val 0 = n3 (cbN i.val) ∧ cbN i.val < 128 ∧ cb (cbN i.val) = true := by decide +kernel
theorem cb_t {i : Nat} (h : i < 29) : ((stI.getD 3 default).2).getD i 0 = n3 (cbN i) ∧ cbN i < 128 ∧ cb (cbN i) = true := cb_tab ⟨i, h⟩
theorem cb_perm : List.Perm cbL ((List.range' 0 128).filter cb) := List.isPerm_iff.mp (by decide +kernel)
theorem cb_map : (List.range' 0 29).map cbN = cbL := by decide +kernel
def sm6 (v : Nat → Int64) (l : List Nat) (c : Int64) : Int64 := l.foldl (fun a j => a + v j) c
def sm3 (v : Nat → Int32) (l : List Nat) (c : Int32) : Int32 := l.foldl (fun a j => a + v j) c
theorem sm6_cb (W : Nat → Int64) (c : Int64) : sm6 (fun i => W (cbN i)) (List.range' 0 29) c = sm6 (fun s => if cb s = true then W s else 0) (List.range' 0 128) c := by
  have e1 : sm6 (fun i => W (cbN i)) (List.range' 0 29) c = sm6 W cbL c := by
    unfold sm6; rw [← cb_map, List.foldl_map]
  have e2 : sm6 W cbL c = sm6 W ((List.range' 0 128).filter cb) c := cb_perm.foldl_eq' (fun x _ y _ z => by rw [Int64.add_assoc, Int64.add_assoc, Int64.add_comm (W x)]) c
  have e3 : sm6 W ((List.range' 0 128).filter cb) c = sm6 (fun s => if cb s = true then W s else 0) (List.range' 0 128) c := by
    unfold sm6
    rw [List.foldl_filter]
    have ef : (fun (x : Int64) (y : Nat) => if cb y = true then x + W y else x) = fun (a : Int64) (j : Nat) => a + (if cb j = true then W j else 0) := by
      funext a j
      by_cases z : cb j = true
      · rw [if_pos z, if_pos z]
      · rw [if_neg z, if_neg z, Int64.add_zero]
    rw [ef]
  rw [e1, e2, e3]
theorem sm3_cb (W : Nat → Int32) (c : Int32) : sm3 (fun i => W (cbN i)) (List.range' 0 29) c = sm3 (fun s => if cb s = true then W s else 0) (List.range' 0 128) c := by
  have e1 : sm3 (fun i => W (cbN i)) (List.range' 0 29) c = sm3 W cbL c := by
    unfold sm3; rw [← cb_map, List.foldl_map]
  have e2 : sm3 W cbL c = sm3 W ((List.range' 0 128).filter cb) c := cb_perm.foldl_eq' (fun x _ y _ z => by rw [Int32.add_assoc, Int32.add_assoc, Int32.add_comm (W x)]) c
  have e3 : sm3 W ((List.range' 0 128).filter cb) c = sm3 (fun s => if cb s = true then W s else 0) (List.range' 0 128) c := by
    unfold sm3
    rw [List.foldl_filter]
    have ef : (fun (x : Int32) (y : Nat) => if cb y = true then x + W y else x) = fun (a : Int32) (j : Nat) => a + (if cb j = true then W j else 0) := by
      funext a j
      by_cases z : cb j = true
      · rw [if_pos z, if_pos z]
      · rw [if_neg z, if_neg z, Int32.add_zero]
    rw [ef]
  rw [e1, e2, e3]
theorem sm6_c {v w : Nat → Int64} : ∀ (f k : Nat) (c : Int64), (∀ j, k ≤ j → j < k + f → v j = w j) → sm6 v (List.range' k f) c = sm6 w (List.range' k f) c
  | 0, _, _, _ => rfl
  | f + 1, k, c, h => by
    rw [List.range'_succ]
    show sm6 v (List.range' (k + 1) f) (c + v k) = sm6 w (List.range' (k + 1) f) (c + w k)
    rw [h k (Nat.le_refl _) (by omega)]
    exact sm6_c f (k + 1) _ (fun j h1 h2 => h j (by omega) (by omega))
theorem sm3_c {v w : Nat → Int32} : ∀ (f k : Nat) (c : Int32), (∀ j, k ≤ j → j < k + f → v j = w j) → sm3 v (List.range' k f) c = sm3 w (List.range' k f) c
  | 0, _, _, _ => rfl
  | f + 1, k, c, h => by
    rw [List.range'_succ]
    show sm3 v (List.range' (k + 1) f) (c + v k) = sm3 w (List.range' (k + 1) f) (c + w k)
    rw [h k (Nat.le_refl _) (by omega)]
    exact sm3_c f (k + 1) _ (fun j h1 h2 => h j (by omega) (by omega))
theorem sm6_b {v : Nat → Int64} : ∀ (f k : Nat) (c : Int64), f ≤ 1000 → (∀ j, k ≤ j → j < k + f → 0 ≤ (v j).toInt ∧ (v j).toInt ≤ 1000000) → 0 ≤ c.toInt → c.toInt + 1000000 * (f : Int) ≤ 9000000000000 → 0 ≤ (sm6 v (List.range' k f) c).toInt ∧ (sm6 v (List.range' k f) c).toInt ≤ c.toInt + 1000000 * (f : Int) := by
  intro f
  induction f with
  | zero => intro k c _ _ h0 _; exact ⟨h0, by show c.toInt ≤ _; omega⟩
  | succ f ih =>
    intro k c hf h h0 h1
    have hk := h k (Nat.le_refl _) (by omega)
    have a : (c + v k).toInt = c.toInt + (v k).toInt := i6_add (by omega) (by omega)
    rw [List.range'_succ]
    show 0 ≤ (sm6 v (List.range' (k + 1) f) (c + v k)).toInt ∧ (sm6 v (List.range' (k + 1) f) (c + v k)).toInt ≤ _
    have := ih (k + 1) (c + v k) (by omega) (fun j h1 h2 => h j (by omega) (by omega)) (by omega) (by omega)
    omega
/-! could be -/
def onesV (s : Int32) : Int32 := sm3 (fun j => (s >>> (n3 j &&& 31)) &&& 1) (List.range' 0 16) 0
theorem ones_cb : ∀ m : Fin 128, 3 ≤ onesV (n3 m.val) ↔ cb m.val = false := by decide +kernel
theorem onL {I : Iv} {J : Jv} {s : Int32} : ∀ (f k fu : Nat) (x : Int32), k + f = 16 → f < fu → ∀ K : Int32 → Int32 → Int32 × Iv × Jv, fl_X10_ones_4_0 I J s K fu x (n3 k) = K (sm3 (fun j => (s >>> (n3 j &&& 31)) &&& 1) (List.range' k f) x) 16
  | f, k, 0, _, _, h, _ => absurd h (Nat.not_lt_zero _)
  | 0, k, fu + 1, x, hk, _, K => by
    rw [fl_X10_ones_4_0.eq_2, if_pos (by rw [show (16 : Int32) = n3 16 from rfl, n3_le (by omega) (by omega)]; omega), show k = 16 by omega]; rfl
  | f + 1, k, fu + 1, x, hk, hf, K => by
    rw [fl_X10_ones_4_0.eq_2, if_neg (by rw [show (16 : Int32) = n3 16 from rfl, n3_le (by omega) (by omega)]; omega), l_t, n3_up, onL f (k + 1) fu _ (by omega) (by omega) K, List.range'_succ]
    rfl
theorem fX10_cb {s : Nat} (hs : s < 128) (I : Iv) (J : Jv) : fn_X10_couldBe (n3 s) I J = (b3 (cb s), I, J) := by
  have z := onL (I := I) (J := J) (s := n3 s) 16 0 (mU (16 : Int32) ((0 : Int32)) + 1) 0 rfl (by decide) (fun (x1 : Int32) (_ : Int32) => (x1, I, J))
  have z' : fn_X10_ones (n3 s) I J = (onesV (n3 s), I, J) := z
  have o := ones_cb ⟨s, hs⟩
  unfold fn_X10_couldBe
  rw [z', b_n3_mk]
  by_cases q : 3 ≤ onesV (n3 s)
  · rw [if_pos q, o.mp q]; rfl
  · rw [if_neg q]
    cases h : cb s with
    | true => rfl
    | false => exact absurd (o.mpr h) q
noncomputable def bcV (x : Int32) : Int32 := (fn_J6_bitCount_0f7a4 x (fun _ _ => 0) (fun _ _ => 0)).1
theorem bc_cb : ∀ m : Fin 128, bcV (n3 m.val) ≤ 2 ↔ cb m.val = true := by decide +kernel
theorem bcIs (x : Int32) (I : Iv) (J : Jv) : fn_J6_bitCount_0f7a4 x I J = (bcV x, I, J) := rfl
/-- the bits of a SET, as ints tell them -/
theorem bit_cb : ∀ (m : Fin 128) (k : Fin 7), ((n3 m.val >>> (n3 k.val &&& 31)) &&& 1) = 0 ↔ bitI (n3 m.val) k.val = false := by decide +kernel
theorem bit_s {s k : Nat} (hs : s < 128) (hk : k < 7) : ((n3 s >>> (n3 k &&& 31)) &&& 1) = 0 ↔ bitI (n3 s) k = false := bit_cb ⟨s, hs⟩ ⟨k, hk⟩
