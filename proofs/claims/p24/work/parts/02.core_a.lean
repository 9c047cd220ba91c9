/-! ===== CORE: worlds by numbers from one base on; a method's walk over (shapes, ints, longs) ===== -/
abbrev Mr : Type := MethodName × ByteArray × Nat × Option FieldType × Room
abbrev yn (y : Mr) : MethodName := y.1
abbrev yc (y : Mr) : ByteArray := y.2.1
abbrev yl (y : Mr) : Nat := y.2.2.1
abbrev yr (y : Mr) : Option FieldType := y.2.2.2.1
abbrev yR (y : Mr) : Room := y.2.2.2.2
def isNst : Cond → Bool
  | .fieldLinkNest .. => true
  | .methodLinkNest .. => true
  | _ => false
def TB : List Cond := lw_tbl.filter goodWord
def NB : List Cond := tables_1.filter isNst
theorem tb_of {w : Cond} (h : w ∈ lw_tbl) (g : goodWord w = true) : w ∈ TB := List.mem_filter.mpr ⟨h, g⟩
theorem tb_at {w : Cond} (i : Nat) (h : tables_1[i]? = some w) (g : goodWord w = true) : w ∈ TB := tb_of (List.mem_append_right _ (List.mem_of_getElem? h)) g
theorem tb_sel {w : Cond} (i : Nat) (h : (k2_sels lw_privs)[i]? = some w) (g : goodWord w = true) : w ∈ TB := tb_of (List.mem_append_left _ (List.mem_of_getElem? h)) g
theorem nb_at {w : Cond} (i : Nat) (h : tables_1[i]? = some w) (g : isNst w = true) : w ∈ NB := List.mem_filter.mpr ⟨List.mem_of_getElem? h, g⟩
def wsA (y : Mr) : List Cond := Cond.code (yn y) (yc y) (yl y) (yr y) :: TB
theorem good_ws {y z : Mr} (h : Cond.code (yn z) (yc z) (yl z) (yr z) ∈ TB) : GoodIn (wsA y) (wsA z) := by
  intro w hw
  rcases List.mem_cons.mp hw with rfl | hw
  · exact ⟨List.mem_cons_of_mem _ h, good_of_word (List.mem_filter.mp h).2⟩
  · exact ⟨List.mem_cons_of_mem _ hw, good_of_word (List.mem_filter.mp hw).2⟩
theorem good_TB {z : Mr} (h : Cond.code (yn z) (yc z) (yl z) (yr z) ∈ TB) : GoodIn TB (wsA z) := by
  intro w hw
  rcases List.mem_cons.mp hw with rfl | hw
  · exact ⟨h, good_of_word (List.mem_filter.mp h).2⟩
  · exact ⟨hw, good_of_word (List.mem_filter.mp hw).2⟩
/-- a value at its real address -/
def rl (ad : Nat → Nat) : Value → Value
  | .ref a => .ref (ad a)
  | v => v
/-- the shape of a cell: an array of a type and a length, or an object of a class, by fields: a reference (or null), or a number of a type -/
abbrev Sc : Type := (FieldType × Nat) ⊕ (Nat × List (Option Nat ⊕ FieldType))
abbrev Shp : Type := List Sc
abbrev Iv : Type := Nat → Nat → Int32
abbrev Jv : Type := Nat → Nat → Int64
def fv (ad : Nat → Nat) (x : Option Nat ⊕ FieldType) (i : Int32) (j : Int64) : Value := match x with
  | .inl none => .null
  | .inl (some r) => .ref (ad r)
  | .inr .long => .long j
  | .inr _ => .int i
def fl (ad : Nat → Nat) (f : Nat → Int32) (g : Nat → Int64) : Nat → List (Option Nat ⊕ FieldType) → List Value
  | _, [] => []
  | k, x :: xs => fv ad x (f k) (g k) :: fl ad f g (k + 1) xs
def cE (ad : Nat → Nat) (ca : FieldType → ClassId) (c : Sc) (f : Nat → Int32) (g : Nat → Int64) : va_E := match c with
  | .inl (.long, n) => .inl (ca .long, n, .inr (.inl g))
  | .inl (ty, n) => .inl (ca ty, n, .inl f)
  | .inr (ci, fs) => .inr (ci, fl ad f g 0 fs)
def wlf (ad : Nat → Nat) (ca : FieldType → ClassId) (I : Iv) (J : Jv) : Nat → Shp → va_W
  | _, [] => []
  | k, c :: cs => (ad k, cE ad ca c (I k) (J k)) :: wlf ad ca I J (k + 1) cs
abbrev wl (ad : Nat → Nat) (ca : FieldType → ClassId) (S : Shp) (I : Iv) (J : Jv) : va_W := wlf ad ca I J 0 S
theorem fl_at {ad : Nat → Nat} {f : Nat → Int32} {g : Nat → Int64} : ∀ (fs : List (Option Nat ⊕ FieldType)) (k j : Nat) (x : Option Nat ⊕ FieldType), fs[j]? = some x → (fl ad f g k fs)[j]? = some (fv ad x (f (k + j)) (g (k + j)))
  | [], _, _, _, h => by simp at h
  | y :: ys, k, 0, x, h => by
    simp only [List.getElem?_cons_zero, Option.some.injEq] at h
    subst h
    simp [fl]
  | y :: ys, k, j + 1, x, h => by
    simp only [List.getElem?_cons_succ] at h
    have := fl_at (ad := ad) (f := f) (g := g) ys (k + 1) j x h
    simp only [fl, List.getElem?_cons_succ, this]
    rw [show k + 1 + j = k + (j + 1) by omega]
theorem fl_len {ad : Nat → Nat} {f : Nat → Int32} {g : Nat → Int64} : ∀ (fs : List (Option Nat ⊕ FieldType)) (k : Nat), (fl ad f g k fs).length = fs.length
  | [], _ => rfl
  | y :: ys, k => by simp [fl, fl_len ys (k + 1)]
theorem wlf_at {ad : Nat → Nat} {ca : FieldType → ClassId} {I : Iv} {J : Jv} : ∀ (S : Shp) (k j : Nat) (c : Sc), S[j]? = some c → (wlf ad ca I J k S)[j]? = some (ad (k + j), cE ad ca c (I (k + j)) (J (k + j)))
  | [], _, _, _, h => by simp at h
  | y :: ys, k, 0, x, h => by
    simp only [List.getElem?_cons_zero, Option.some.injEq] at h
    subst h
    simp [wlf]
  | y :: ys, k, j + 1, x, h => by
    simp only [List.getElem?_cons_succ] at h
    have := wlf_at (ad := ad) (ca := ca) (I := I) (J := J) ys (k + 1) j x h
    simp only [wlf, List.getElem?_cons_succ, this]
    rw [show k + 1 + j = k + (j + 1) by omega]
theorem wlf_len {ad : Nat → Nat} {ca : FieldType → ClassId} {I : Iv} {J : Jv} : ∀ (S : Shp) (k : Nat), (wlf ad ca I J k S).length = S.length
  | [], _ => rfl
  | y :: ys, k => by simp [wlf, wlf_len ys (k + 1)]
theorem wl_at {ad : Nat → Nat} {ca : FieldType → ClassId} {S : Shp} {I : Iv} {J : Jv} {j : Nat} {c : Sc} (h : S[j]? = some c) : (wl ad ca S I J)[j]? = some (ad j, cE ad ca c (I j) (J j)) := by
  have := wlf_at (ad := ad) (ca := ca) (I := I) (J := J) S 0 j c h
  simpa using this
/-- one number stored -/
def wI (I : Iv) (a i : Nat) (v : Int32) : Iv := fun b j => if b = a ∧ j = i then v else I b j
def wJ (J : Jv) (a i : Nat) (v : Int64) : Jv := fun b j => if b = a ∧ j = i then v else J b j
theorem wI_self {I : Iv} {a i : Nat} {v : Int32} : wI I a i v a i = v := by simp [wI]
theorem wJ_self {J : Jv} {a i : Nat} {v : Int64} : wJ J a i v a i = v := by simp [wJ]
theorem wI_ne {I : Iv} {a i b j : Nat} {v : Int32} (h : b ≠ a ∨ j ≠ i) : wI I a i v b j = I b j := by
  simp only [wI]; rw [if_neg]; rintro ⟨h1, h2⟩; rcases h with h | h <;> contradiction
theorem wJ_ne {J : Jv} {a i b j : Nat} {v : Int64} (h : b ≠ a ∨ j ≠ i) : wJ J a i v b j = J b j := by
  simp only [wJ]; rw [if_neg]; rintro ⟨h1, h2⟩; rcases h with h | h <;> contradiction
theorem wI_row {I : Iv} {a i b : Nat} {v : Int32} (h : b ≠ a) : wI I a i v b = I b := by
  funext j; exact wI_ne (Or.inl h)
theorem wJ_row {J : Jv} {a i b : Nat} {v : Int64} (h : b ≠ a) : wJ J a i v b = J b := by
  funext j; exact wJ_ne (Or.inl h)
/-- the world's list with one cell set -/
theorem wlf_set {ad : Nat → Nat} {ca : FieldType → ClassId} {I I' : Iv} {J J' : Jv} {c' : Sc} : ∀ (S : Shp) (k j : Nat), (∀ b, b ≠ k + j → I' b = I b) → (∀ b, b ≠ k + j → J' b = J b) →
    (wlf ad ca I J k S).set j (ad (k + j), cE ad ca c' (I' (k + j)) (J' (k + j))) = wlf ad ca I' J' k (S.set j c')
  | [], _, _, _, _ => rfl
  | y :: ys, k, 0, h1, h2 => by
    simp only [wlf, List.set_cons_zero, Nat.add_zero]
    congr 1
    have go : ∀ (S : Shp) (m : Nat), k < m → wlf ad ca I J m S = wlf ad ca I' J' m S := by
      intro S
      induction S with
      | nil => intro m _; rfl
      | cons z zs ih =>
        intro m hm
        simp only [wlf]
        rw [h1 m (by omega), h2 m (by omega), ih (m + 1) (by omega)]
    exact go ys (k + 1) (by omega)
  | y :: ys, k, j + 1, h1, h2 => by
    simp only [wlf, List.set_cons_succ]
    have e : k + (j + 1) = k + 1 + j := by omega
    rw [h1 k (by omega), h2 k (by omega), e, wlf_set ys (k + 1) j (fun b hb => h1 b (by omega)) (fun b hb => h2 b (by omega))]
theorem wl_set {ad : Nat → Nat} {ca : FieldType → ClassId} {S : Shp} {I I' : Iv} {J J' : Jv} {j : Nat} {c' : Sc} (h1 : ∀ b, b ≠ j → I' b = I b) (h2 : ∀ b, b ≠ j → J' b = J b) :
    (wl ad ca S I J).set j (ad j, cE ad ca c' (I' j) (J' j)) = wl ad ca (S.set j c') I' J' := by
  have := wlf_set (ad := ad) (ca := ca) (I := I) (I' := I') (J := J) (J' := J') (c' := c') S 0 j (by simpa using h1) (by simpa using h2)
  simpa using this
theorem list_set_same {α : Type} {S : List α} {j : Nat} {c : α} (h : S[j]? = some c) : S.set j c = S := by
  apply List.ext_getElem?
  intro i
  by_cases hi : i = j
  · subst hi
    rw [List.getElem?_set_self (List.getElem?_eq_some_iff.mp h).1, h]
  · rw [List.getElem?_set_ne (Ne.symm hi)]
theorem wl_push {ad : Nat → Nat} {ca : FieldType → ClassId} {I : Iv} {J : Jv} {c : Sc} : ∀ (S : Shp) (k : Nat), wlf ad ca I J k (S ++ [c]) = wlf ad ca I J k S ++ [(ad (k + S.length), cE ad ca c (I (k + S.length)) (J (k + S.length)))]
  | [], k => by simp [wlf]
  | y :: ys, k => by
    simp only [List.cons_append, wlf, wl_push ys (k + 1), List.length_cons]
    rw [show k + 1 + ys.length = k + (ys.length + 1) by omega]
theorem wlf_tail {ad : Nat → Nat} {ca : FieldType → ClassId} {I I' : Iv} {J J' : Jv} : ∀ (S : Shp) (k : Nat), (∀ b, k ≤ b → b < k + S.length → I' b = I b ∧ J' b = J b) → wlf ad ca I' J' k S = wlf ad ca I J k S
  | [], _, _ => rfl
  | y :: ys, k, h => by
    simp only [wlf]
    have h0 := h k (Nat.le_refl k) (by simp)
    rw [h0.1, h0.2, wlf_tail ys (k + 1) (fun b h1 h2 => h b (by omega) (by simp at h2 ⊢; omega))]
/-- addresses: from ad 0 on, one behind the other -/
def adC (ad : Nat → Nat) : Prop := ∀ k, k < 1000000 → ad k = ad 0 + k
theorem wlf_addr {ad : Nat → Nat} {ca : FieldType → ClassId} {I : Iv} {J : Jv} : ∀ (S : Shp) (k j : Nat) (q : Nat × va_E), (wlf ad ca I J k S)[j]? = some q → q.1 = ad (k + j) ∧ j < S.length
  | [], _, _, _, h => by simp [wlf] at h
  | y :: ys, k, 0, q, h => by
    simp only [wlf, List.getElem?_cons_zero, Option.some.injEq] at h
    subst h
    simp
  | y :: ys, k, j + 1, q, h => by
    simp only [wlf, List.getElem?_cons_succ] at h
    have := wlf_addr ys (k + 1) j q h
    rw [show k + (j + 1) = k + 1 + j by omega]
    simp
    exact this
theorem wl_D {ad : Nat → Nat} {ca : FieldType → ClassId} {S : Shp} {I : Iv} {J : Jv} (hc : adC ad) (hS : S.length ≤ 1000000) : va_D (fun q => ad 0 ≤ q) (wl ad ca S I J) := by
  refine ⟨fun i j p q hi hj h => ?_, fun k q hq => ?_⟩
  · have h1 := wlf_addr S 0 i p hi
    have h2 := wlf_addr S 0 j q hj
    simp only [Nat.zero_add] at h1 h2
    have e1 := hc i (by omega)
    have e2 := hc j (by omega)
    omega
  · have h1 := wlf_addr S 0 k q hq
    simp only [Nat.zero_add] at h1
    have e1 := hc k (by omega)
    show ad 0 ≤ q.1
    omega
/-- the types of arrays that there are -/
def tyl (ca : FieldType → ClassId) : List (ClassId × FieldType) := [(ca .int, .int), (ca .long, .long), (ca .boolean, .boolean), (ca .char, .char)]
/-- numbers that fit their types -/
def wbC (c : Sc) (f : Nat → Int32) : Prop := match c with
  | .inl (.boolean, _) => ∀ j, f j = 0 ∨ f j = 1
  | .inl (.char, _) => ∀ j, fits .char (.int (f j)) = true
  | .inr (_, fs) => ∀ k, fs[k]? = some (.inr .boolean) → f k = 0 ∨ f k = 1
  | _ => True
def wb (S : Shp) (I : Iv) : Prop := ∀ a c, S[a]? = some c → wbC c (I a)
