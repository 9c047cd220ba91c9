/-! ===== statics and Strings that nobody writes; a method's context; its walk; its contract ===== -/
abbrev aA (ad : Nat → Nat) : Nat → Prop := fun q => ad 0 ≤ q
def stI : List (String × List Int32) := [("UNTOLD", [900, 4, 3, 40, 60, 10, 70, 30, 1, 10, 4, 200, -1, -1, 0]), ("LEAST", [1, 0, 0, 0, 0, 1, 0, 0, 0, 1, 0, 0, 0, 0, 0]), ("MOST", [999, 99, 99, 99, 99, 99, 200, 200, 2, 99, 99, 400, 24, 24, 200]), ("COULD_BE", [0, 1, 2, 4, 8, 16, 32, 64, 3, 5, 9, 17, 33, 65, 6, 10, 18, 34, 66, 12, 20, 36, 68, 24, 40, 72, 48, 80, 96])]
def stS : List (Nat × String × List Int32) := [(122, "power", [112, 111, 119, 101, 114]), (124, "wall", [119, 97, 108, 108]), (126, "seal", [115, 101, 97, 108]), (128, "mix", [109, 105, 120]), (130, "cold", [99, 111, 108, 100]), (132, "food", [102, 111, 111, 100]), (134, "on", [111, 110]), (136, "off", [111, 102, 102]), (138, "bulb", [98, 117, 108, 98]), (140, "use", [117, 115, 101]), (142, "lamp", [108, 97, 109, 112]), (144, "room", [114, 111, 111, 109]), (146, "stove", [115, 116, 111, 118, 101]), (96, "open", [111, 112, 101, 110])]
def Stt (ad : Nat → Nat) (s : State) (H : Heap) : Prop :=
  (∀ j nm vs, stI[j]? = some (nm, vs) → va_Z "ColdBox" nm "[I" (.ref (ad (1000000 + j))) (aA ad) s H ∧ va_T .int (ad (1000000 + j)) vs.length (fun i => .int (vs.getD i 0)) (aA ad) s H) ∧
  vk_S 14 (stS.map fun q => q.2.2.length) (stS.map fun q => q.2.2) (fun i => ad (2000000 + i)) (fun i => ad (3000000 + i)) (aA ad) s H ∧
  (∀ j idx tx b, stS[j]? = some (idx, tx, b) → vk_R "ColdBox$Reader" idx tx (ad (2000000 + j)) s) ∧
  va_Z "java/lang/String" "COMPACT_STRINGS" "Z" (.int 1) (aA ad) s H ∧
  (va_Z "jdk/internal/util/Preconditions" "SIOOBE_FORMATTER" "Ljava/util/function/BiFunction;" .null (aA ad) s H ∨ va_Z "jdk/internal/util/Preconditions" "SIOOBE_FORMATTER" "Ljava/util/function/BiFunction;" (.ref (ad 4000000)) (aA ad) s H)
theorem Stt.warm {ad : Nat → Nat} {s U : State} {H : Heap} (hW : s.WarmedH U.vm) (h : Stt ad s H) : Stt ad U H := by
  obtain ⟨h1, h2, h3, h4, h5⟩ := h
  have hv := hW.alike
  refine ⟨fun j nm vs hj => ⟨va_Z.moved hv (h1 j nm vs hj).1, va_T.moved hv (h1 j nm vs hj).2⟩, vk_S.moved hv h2, fun j idx tx b hj => vk_R.warm hW (h3 j idx tx b hj), va_Z.moved hv h4, ?_⟩
  rcases h5 with h5 | h5
  · exact Or.inl (va_Z.moved hv h5)
  · exact Or.inr (va_Z.moved hv h5)
theorem Stt.kept {ad : Nat → Nat} {s : State} {H H1 : Heap} (h : Stt ad s H) (hq : ∀ a : Nat, a < H.size → ¬ aA ad a → H1[a]? = H[a]?) : Stt ad s H1 := by
  obtain ⟨h1, h2, h3, h4, h5⟩ := h
  refine ⟨fun j nm vs hj => ⟨(h1 j nm vs hj).1.kept hq, (h1 j nm vs hj).2.kept hq⟩, h2.kept hq, h3, h4.kept hq, ?_⟩
  rcases h5 with h5 | h5
  · exact Or.inl (h5.kept hq)
  · exact Or.inr (h5.kept hq)
theorem nb_warm {s U : State} (hW : s.WarmedH U.vm) (h : ∀ w ∈ NB, va_Nw w s) : ∀ w ∈ NB, va_Nw w U := by
  intro w hw
  have h1 := h w hw
  have h2 := (List.mem_filter.mp hw).2
  cases w <;> first | exact va_Nw.warmF hW h1 | exact va_Nw.warmM hW h1 | (simp [isNst] at h2)
def Cx (y : Mr) (p : Program) (s : State) (m : MethodId) (args : Array Value) (meth : Method) (c : Code) (D : va_G) (ca : FieldType → ClassId) (ad : Nat → Nat) : Prop :=
  p.tables.exec = Jvm.exec ∧ c.code = yc y ∧ c.maxLocals = yl y ∧ meth.sig.returnType = yr y ∧ s.vm.findClass (yn y).cls = some m.cls ∧ (∀ w ∈ TB, w.before args s = true) ∧ (∀ w ∈ NB, va_Nw w s) ∧ meth.locks = false ∧ ((yn y).name = "<init>" → meth.name = "<init>") ∧ va_K D vwCl (tyl ca) s ∧ Stt ad s s.heap ∧ adC ad ∧ ad 0 ≤ s.heap.size
def Rp (ad : Nat → Nat) (ca : FieldType → ClassId) (D : va_G) (s : State) (S : Shp) (I : Iv) (J : Jv) (H : Heap) (locs : List Loc) : Prop :=
  H.size = ad 0 + S.length ∧ S.length ≤ 1000000 ∧ va_P D vwCl (wl ad ca S I J) H ∧ va_S (aA ad) s.heap H locs ∧ wb S I
def Bb (D : va_G) (ca : FieldType → ClassId) (ad : Nat → Nat) (S : Shp) (I : Iv) (J : Jv) (U : State) : Prop :=
  U.heap.size = ad 0 + S.length ∧ S.length ≤ 1000000 ∧ va_P D vwCl (wl ad ca S I J) U.heap ∧ va_K D vwCl (tyl ca) U ∧ Stt ad U U.heap ∧ (∀ w ∈ NB, va_Nw w U) ∧ wb S I
theorem Bb.of {y : Mr} {p : Program} {s : State} {m : MethodId} {args : Array Value} {meth : Method} {c : Code} {D : va_G} {ca : FieldType → ClassId} {ad : Nat → Nat} {S : Shp} {I : Iv} {J : Jv} {H : Heap} {locs : List Loc}
    (C : Cx y p s m args meth c D ca ad) (R : Rp ad ca D s S I J H locs) {t : State} (ht : t.heap = H) (hW : s.WarmedH t.vm) : Bb D ca ad S I J t := by
  obtain ⟨-, -, -, -, -, -, hnb, -, -, hK, hSt, -, -⟩ := C
  obtain ⟨h1, h2, h3, h4, h5⟩ := R
  exact ⟨by rw [ht]; exact h1, h2, by rw [ht]; exact h3, va_K.moved hW.alike hK, by rw [ht]; exact (hSt.warm hW).kept h4.2.1, nb_warm hW hnb, h5⟩
abbrev RQt : Type := va_G → (FieldType → ClassId) → (Nat → Nat) → List Frame → Array Value → State → State → Prop
def lpr (ad : Nat → Nat) : Nat → List (Option Value) → List (Nat × Value)
  | _, [] => []
  | k, none :: r => lpr ad (k + 1) r
  | k, some v :: r => (k, rl ad v) :: lpr ad (k + 1) r
def G (y : Mr) (RQ : RQt) (nc ns pc : Nat) (L : List (Option Value)) (st : List Value) (S : Shp) (I : Iv) (J : Jv) : Prop :=
  ∀ (p : Program) (l : Launch) (e : Env) (s : State) (m : MethodId) (args : Array Value) (below : List Frame) (meth : Method) (c : Code) (D : va_G) (ca : FieldType → ClassId) (ad : Nat → Nat) (H : Heap) (locs : List Loc) (ls : Array Slot),
    Cx y p s m args meth c D ca ad → Rp ad ca D s S I J H locs → lv_has ls (yl y) (lpr ad 0 L) → W p l e (yR y) s m args below meth c H locs nc ns (RQ D ca ad below args s) (F0 m pc ls (st.map (rl ad)))
abbrev Post : Type := Option Value → Shp → Iv → Jv → Prop
def Qcx (D : va_G) (ca : FieldType → ClassId) (ad : Nat → Nat) (Q : Post) : Array Value → State → Outcome → State → Prop := fun _ st oc t =>
  (∃ (r : Option Value) (S' : Shp) (I' : Iv) (J' : Jv), oc = .returned (r.map (rl ad)) ∧ Q r S' I' J' ∧ Bb D ca ad S' I' J' t) ∧ va_F (aA ad) st t
def rq (y : Mr) (Q : Post) : RQt := fun D ca ad below args s => MQ below (Qcx D ca ad Q) args s (yR y).cells (yR y).slots (aA ad)
/-- the contract: from the world (S, I, J), with these arguments, y returns, and Q holds of what it answers and of the world then -/
def Ct (y : Mr) (av : List Value) (S : Shp) (I : Iv) (J : Jv) (Q : Post) : Prop :=
  ∀ (l : Launch) (D : va_G) (ca : FieldType → ClassId) (ad : Nat → Nat), adC ad → Met l (yn y) (wsA y) (yR y) (va_Pc (av.map (rl ad)) (Bb D ca ad S I J)) (Qcx D ca ad Q) (yR y).cells (yR y).slots (aA ad)
theorem lpr_mem {ad : Nat → Nat} : ∀ (L : List (Option Value)) (k : Nat) (q : Nat × Value), q ∈ lpr ad k L ↔ ∃ (j : Nat) (v : Value), q.1 = k + j ∧ L[j]? = some (some v) ∧ q.2 = rl ad v
  | [], k, q => by simp [lpr]
  | none :: r, k, q => by
    rw [lpr, lpr_mem r (k + 1) q]
    constructor
    · rintro ⟨j, v, h1, h2, h3⟩
      exact ⟨j + 1, v, by omega, by simpa using h2, h3⟩
    · rintro ⟨j, v, h1, h2, h3⟩
      cases j with
      | zero => simp at h2
      | succ j => exact ⟨j, v, by omega, by simpa using h2, h3⟩
  | some w :: r, k, q => by
    rw [lpr, List.mem_cons, lpr_mem r (k + 1) q]
    constructor
    · rintro (rfl | ⟨j, v, h1, h2, h3⟩)
      · exact ⟨0, w, by simp, by simp, rfl⟩
      · exact ⟨j + 1, v, by omega, by simpa using h2, h3⟩
    · rintro ⟨j, v, h1, h2, h3⟩
      cases j with
      | zero =>
        simp at h2
        subst h2
        left
        exact Prod.ext (by simpa using h1) h3
      | succ j => exact Or.inr ⟨j, v, by omega, by simpa using h2, h3⟩
theorem lp_at {ad : Nat → Nat} {ls : Array Slot} {nL : Nat} {L : List (Option Value)} (h : lv_has ls nL (lpr ad 0 L)) {i : Nat} {v : Value} (hi : L[i]? = some (some v)) : ls[i]? = some (.val (rl ad v)) :=
  h.2.2 (i, rl ad v) ((lpr_mem L 0 _).mpr ⟨i, v, by simp, hi, rfl⟩)
theorem rl_cat (ad : Nat → Nat) (v : Value) : (rl ad v).category = v.category := by cases v <;> rfl
theorem rl_cats (ad : Nat → Nat) (st : List Value) : ((st.map (rl ad)).map fun v => v.category).sum = (st.map fun v => v.category).sum := by
  induction st with
  | nil => rfl
  | cons x xs ih => simp only [List.map_cons, List.sum_cons, ih, rl_cat]
/-- locals behind a store -/
def kl2 (L : List (Option Value)) (i : Nat) : List (Option Value) := match i with
  | 0 => L
  | j + 1 => match L[j]? with
    | some (some w) => if w.category = 2 then L.set j none else L
    | _ => L
def ls1 (L : List (Option Value)) (i : Nat) (v : Value) : List (Option Value) := (kl2 L i).set i (some v)
def ls2 (L : List (Option Value)) (i : Nat) (v : Value) : List (Option Value) := ((kl2 L i).set (i + 1) none).set i (some v)
theorem kl2_at {L : List (Option Value)} {i j : Nat} {w : Value} (h : (kl2 L i)[j]? = some (some w)) : L[j]? = some (some w) ∧ ¬ (j + 1 = i ∧ w.category = 2) := by
  cases i with
  | zero => exact ⟨h, by omega⟩
  | succ i =>
    simp only [kl2] at h
    split at h
    next w' hw' =>
      split at h
      next hc =>
        by_cases hj : j = i
        · subst hj
          rw [List.getElem?_set_self (List.getElem?_eq_some_iff.mp hw').1] at h
          simp at h
        · rw [List.getElem?_set_ne (Ne.symm hj)] at h
          exact ⟨h, fun q => hj (by omega)⟩
      next hc =>
        refine ⟨h, fun q => ?_⟩
        have : j = i := by omega
        subst this
        rw [hw'] at h
        simp at h
        subst h
        exact hc q.2
    next hx =>
      refine ⟨h, fun q => ?_⟩
      have : j = i := by omega
      subst this
      exact hx _ h
theorem lp_st1 {ad : Nat → Nat} {ls' : Array Slot} {nL i : Nat} {L : List (Option Value)} {v : Value} (h : lv_has ls' nL ((i, rl ad v) :: (lpr ad 0 L).filter (fun q => !(q.1 == i) && !(q.1 + 1 == i && q.2.category == 2)))) : lv_has ls' nL (lpr ad 0 (ls1 L i v)) := by
  refine ⟨h.1, h.2.1, fun q hq => h.2.2 q ?_⟩
  obtain ⟨j, w, h1, h2, h3⟩ := (lpr_mem _ 0 q).mp hq
  simp only [Nat.zero_add] at h1
  by_cases hj : j = i
  · subst hj
    have hlt : j < (ls1 L j v).length := (List.getElem?_eq_some_iff.mp h2).1
    rw [ls1, List.getElem?_set_self (by simpa [ls1] using hlt)] at h2
    simp at h2
    subst h2
    exact List.mem_cons.mpr (Or.inl (Prod.ext h1 h3))
  · rw [ls1, List.getElem?_set_ne (Ne.symm hj)] at h2
    obtain ⟨h4, h5⟩ := kl2_at h2
    refine List.mem_cons_of_mem _ (List.mem_filter.mpr ⟨(lpr_mem L 0 q).mpr ⟨j, w, by simpa using h1, h4, h3⟩, ?_⟩)
    have hc : q.2.category = w.category := by rw [h3, rl_cat]
    simp only [h1, hc, Bool.and_eq_true, Bool.not_eq_true', beq_eq_false_iff_ne, ne_eq, Bool.and_eq_false_iff]
    refine ⟨hj, ?_⟩
    by_cases h6 : j + 1 = i
    · exact Or.inr (fun h7 => h5 ⟨h6, h7⟩)
    · exact Or.inl h6
theorem lp_st2 {ad : Nat → Nat} {ls' : Array Slot} {nL i : Nat} {L : List (Option Value)} {v : Value} (h : lv_has ls' nL ((i, rl ad v) :: (lpr ad 0 L).filter (fun q => !(q.1 == i) && (!(q.1 == i + 1) && !(q.1 + 1 == i && q.2.category == 2))))) : lv_has ls' nL (lpr ad 0 (ls2 L i v)) := by
  refine ⟨h.1, h.2.1, fun q hq => h.2.2 q ?_⟩
  obtain ⟨j, w, h1, h2, h3⟩ := (lpr_mem _ 0 q).mp hq
  simp only [Nat.zero_add] at h1
  by_cases hj : j = i
  · subst hj
    have hlt : j < (ls2 L j v).length := (List.getElem?_eq_some_iff.mp h2).1
    rw [ls2, List.getElem?_set_self (by simpa [ls2] using hlt)] at h2
    simp at h2
    subst h2
    exact List.mem_cons.mpr (Or.inl (Prod.ext h1 h3))
  · rw [ls2, List.getElem?_set_ne (Ne.symm hj)] at h2
    by_cases hj1 : j = i + 1
    · subst hj1
      rw [List.getElem?_set] at h2
      simp at h2
    · rw [List.getElem?_set_ne (Ne.symm hj1)] at h2
      obtain ⟨h4, h5⟩ := kl2_at h2
      refine List.mem_cons_of_mem _ (List.mem_filter.mpr ⟨(lpr_mem L 0 q).mpr ⟨j, w, by simpa using h1, h4, h3⟩, ?_⟩)
      have hc : q.2.category = w.category := by rw [h3, rl_cat]
      simp only [h1, hc, Bool.and_eq_true, Bool.not_eq_true', beq_eq_false_iff_ne, ne_eq, Bool.and_eq_false_iff]
      refine ⟨hj, hj1, ?_⟩
      by_cases h6 : j + 1 = i
      · exact Or.inr (fun h7 => h5 ⟨h6, h7⟩)
      · exact Or.inl h6
theorem lp_sub {ad : Nat → Nat} {ls : Array Slot} {nL : Nat} {L L' : List (Option Value)} (h : lv_has ls nL (lpr ad 0 L)) (hs : ∀ (j : Nat) (v : Value), L'[j]? = some (some v) → L[j]? = some (some v)) : lv_has ls nL (lpr ad 0 L') := by
  refine ⟨h.1, h.2.1, fun q hq => h.2.2 q ?_⟩
  obtain ⟨j, w, h1, h2, h3⟩ := (lpr_mem _ 0 q).mp hq
  exact (lpr_mem L 0 q).mpr ⟨j, w, h1, hs j w h2, h3⟩
