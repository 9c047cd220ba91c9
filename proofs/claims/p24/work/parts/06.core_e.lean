theorem vin {i N : Int32} {n : Nat} (hN : N.toInt = (n : Int)) (h : 0 ≤ i ∧ i < N) : vp_in i n := by
  intro q
  have h0 : (0 : Int) ≤ i.toInt := by simpa using Int32.le_iff_toInt_le.mp h.1
  have h1 := Int32.lt_iff_toInt_lt.mp h.2
  rcases q with q | q
  · have := Int32.lt_iff_toInt_lt.mp q
    simp at this
    omega
  · have e : i.toNatClampNeg = i.toInt.toNat := rfl
    omega
theorem wb_set {S : Shp} {I I' : Iv} {a : Nat} {c' : Sc} (h : wb S I) (h1 : ∀ b, b ≠ a → I' b = I b) (h2 : wbC c' (I' a)) : wb (S.set a c') I' := by
  intro b c hb
  by_cases hba : b = a
  · subst hba
    rw [List.getElem?_set_self (by simpa using (List.getElem?_eq_some_iff.mp hb).1)] at hb
    cases hb
    exact h2
  · rw [List.getElem?_set_ne (Ne.symm hba)] at hb
    rw [h1 b hba]
    exact h b c hb
theorem wI_off {I : Iv} {a i : Nat} {v : Int32} (b : Nat) (h : b ≠ a) : wI I a i v b = I b := wI_row h
theorem wJ_off {J : Jv} {a i : Nat} {v : Int64} (b : Nat) (h : b ≠ a) : wJ J a i v b = J b := wJ_row h
theorem g_putI {y : Mr} {RQ : RQt} {nc ns pc pc1 : Nat} {L : List (Option Value)} {st : List Value} {S : Shp} {I : Iv} {J : Jv} {idx ci k a : Nat} {fs : List (Option Nat ⊕ FieldType)} {v : Int32} (hd : Dc (yc y) pc (.putfield idx) 3 pc1) (hf : Fq (yn y).cls idx ci k .int false) (hS : S[a]? = some (.inr (ci, fs))) (hk : fs[k]? = some (.inr .int))  (kk : G y RQ nc ns pc1 L st S (wI I a k v) J) : G y RQ nc ns pc L (.int v :: .ref a :: st) S I J := by
  have hkl := (List.getElem?_eq_some_iff.mp hk).1
  have e1 : fs.set k (.inr .int) = fs := list_set_same hk
  refine g_putv (x' := .inr .int) (S' := S) (I' := (wI I a k v)) (J' := J) hd hf (Or.inl rfl) hS hkl (by rw [e1]; exact list_set_same hS) ?_ ?_ (fun ad => ?_) (fun ad => ?_) (fun ad => ?_) ?_ kk
  · intro b j h; exact wI_ne h
  · intro b j h; rfl
  · show Value.int _ = Value.int _; rw [wI_self]
  · rfl
  · rfl
  · intro hw
    rw [← list_set_same hS]
    refine wb_set hw (fun b hb => wI_row hb) ?_
    intro j hj
    have := hw a _ hS j hj
    by_cases hjk : j = k
    · subst hjk; rw [hk] at hj; cases hj
    · rw [wI_ne (Or.inr hjk)]; exact this
theorem g_putZ {y : Mr} {RQ : RQt} {nc ns pc pc1 : Nat} {L : List (Option Value)} {st : List Value} {S : Shp} {I : Iv} {J : Jv} {idx ci k a : Nat} {fs : List (Option Nat ⊕ FieldType)} {v : Int32} (hd : Dc (yc y) pc (.putfield idx) 3 pc1) (hf : Fq (yn y).cls idx ci k .boolean false) (hS : S[a]? = some (.inr (ci, fs))) (hk : fs[k]? = some (.inr .boolean)) (hv : v = 0 ∨ v = 1) (kk : G y RQ nc ns pc1 L st S (wI I a k v) J) : G y RQ nc ns pc L (.int v :: .ref a :: st) S I J := by
  have hkl := (List.getElem?_eq_some_iff.mp hk).1
  have e1 : fs.set k (.inr .boolean) = fs := list_set_same hk
  refine g_putv (x' := .inr .boolean) (S' := S) (I' := (wI I a k v)) (J' := J) hd hf (Or.inl rfl) hS hkl (by rw [e1]; exact list_set_same hS) ?_ ?_ (fun ad => ?_) (fun ad => ?_) (fun ad => ?_) ?_ kk
  · intro b j h; exact wI_ne h
  · intro b j h; rfl
  · show Value.int _ = Value.int _; rw [wI_self]
  · rcases hv with rfl | rfl <;> rfl
  · rcases hv with rfl | rfl <;> rfl
  · intro hw
    rw [← list_set_same hS]
    refine wb_set hw (fun b hb => wI_row hb) ?_
    intro j hj
    have := hw a _ hS j hj
    by_cases hjk : j = k
    · subst hjk; rw [wI_self]; exact hv
    · rw [wI_ne (Or.inr hjk)]; exact this
theorem g_putJ {y : Mr} {RQ : RQt} {nc ns pc pc1 : Nat} {L : List (Option Value)} {st : List Value} {S : Shp} {I : Iv} {J : Jv} {idx ci k a : Nat} {fs : List (Option Nat ⊕ FieldType)} {v : Int64} (hd : Dc (yc y) pc (.putfield idx) 3 pc1) (hf : Fq (yn y).cls idx ci k .long false) (hS : S[a]? = some (.inr (ci, fs))) (hk : fs[k]? = some (.inr .long))  (kk : G y RQ nc ns pc1 L st S I (wJ J a k v)) : G y RQ nc ns pc L (.long v :: .ref a :: st) S I J := by
  have hkl := (List.getElem?_eq_some_iff.mp hk).1
  have e1 : fs.set k (.inr .long) = fs := list_set_same hk
  refine g_putv (x' := .inr .long) (S' := S) (I' := I) (J' := (wJ J a k v)) hd hf (Or.inl rfl) hS hkl (by rw [e1]; exact list_set_same hS) ?_ ?_ (fun ad => ?_) (fun ad => ?_) (fun ad => ?_) ?_ kk
  · intro b j h; rfl
  · intro b j h; exact wJ_ne h
  · show Value.long _ = Value.long _; rw [wJ_self]
  · rfl
  · rfl
  · exact fun hw => hw
theorem g_putR {y : Mr} {RQ : RQt} {nc ns pc pc1 : Nat} {L : List (Option Value)} {st : List Value} {S : Shp} {I : Iv} {J : Jv} {idx ci k a r : Nat} {fs fs' : List (Option Nat ⊕ FieldType)} {ty : FieldType} {fin : Bool} {z : Option Nat} {S' : Shp} (hd : Dc (yc y) pc (.putfield idx) 3 pc1) (hf : Fq (yn y).cls idx ci k ty fin) (hfin : fin = false ∨ (yn y).name = "<init>" ∧ ∃ Cn T N, vwCl[ci]? = some (Cn, T, N) ∧ Cn = (yn y).cls) (hS : S[a]? = some (.inr (ci, fs))) (hk : fs[k]? = some (.inl z)) (hty : (∃ n, ty = .object n) ∨ ∃ t, ty = .array t) (hfs : fs.set k (.inl (some r)) = fs') (hS' : S.set a (.inr (ci, fs')) = S') (kk : G y RQ nc ns pc1 L st S' I J) : G y RQ nc ns pc L (.ref r :: .ref a :: st) S I J := by
  subst hfs
  have hkl := (List.getElem?_eq_some_iff.mp hk).1
  refine g_putv (x' := .inl (some r)) (S' := S') (I' := I) (J' := J) hd hf hfin hS hkl hS' (fun _ _ _ => rfl) (fun _ _ _ => rfl) (fun ad => rfl) (fun ad => ?_) (fun ad => ?_) ?_ kk
  · rcases hty with ⟨n, rfl⟩ | ⟨t, rfl⟩ <;> rfl
  · rcases hty with ⟨n, rfl⟩ | ⟨t, rfl⟩ <;> rfl
  · intro hw
    subst hS'
    refine wb_set hw (fun b hb => rfl) ?_
    intro j hj
    by_cases hjk : j = k
    · subst hjk; rw [List.getElem?_set_self hkl] at hj; cases hj
    · rw [List.getElem?_set_ne (Ne.symm hjk)] at hj; exact hw a _ hS j hj
theorem g_iaload {y : Mr} {RQ : RQt} {nc ns pc pc1 : Nat} {L : List (Option Value)} {st : List Value} {S : Shp} {I : Iv} {J : Jv} {a n j : Nat} {i N : Int32} (hd : Dc (yc y) pc .iaload 1 pc1) (hS : S[a]? = some (.inl (.int, n))) (hN : N.toInt = (n : Int)) (hi : 0 ≤ i ∧ i < N) (hj : i.toNatClampNeg = j) (kk : (G y RQ nc ns pc1 L (.int (I a j) :: st) S I J)) : G y RQ nc ns pc L (.int i :: .ref a :: st) S I J := by
  obtain ⟨hd, rfl⟩ := hd
  subst hj
  intro p l e s m args below meth c D ca ad H locs ls C R hl
  have he := wl_at (ad := ad) (ca := ca) (I := I) (J := J) hS
  exact va_iald C.1 C.2.1 C.2.2.2.2.2.2.2.2.2.1 R.2.2.1 a 0 he rfl (vin hN hi) hd (kk p l e s m args below meth c D ca ad H locs ls C R hl)
theorem g_laload {y : Mr} {RQ : RQt} {nc ns pc pc1 : Nat} {L : List (Option Value)} {st : List Value} {S : Shp} {I : Iv} {J : Jv} {a n j : Nat} {i N : Int32} (hd : Dc (yc y) pc .laload 1 pc1) (hS : S[a]? = some (.inl (.long, n))) (hN : N.toInt = (n : Int)) (hi : 0 ≤ i ∧ i < N) (hj : i.toNatClampNeg = j) (kk : (G y RQ nc ns pc1 L (.long (J a j) :: st) S I J)) : G y RQ nc ns pc L (.int i :: .ref a :: st) S I J := by
  obtain ⟨hd, rfl⟩ := hd
  subst hj
  intro p l e s m args below meth c D ca ad H locs ls C R hl
  have he := wl_at (ad := ad) (ca := ca) (I := I) (J := J) hS
  exact va_lald C.1 C.2.1 C.2.2.2.2.2.2.2.2.2.1 R.2.2.1 a 1 he rfl (vin hN hi) hd (kk p l e s m args below meth c D ca ad H locs ls C R hl)
theorem g_baload {y : Mr} {RQ : RQt} {nc ns pc pc1 : Nat} {L : List (Option Value)} {st : List Value} {S : Shp} {I : Iv} {J : Jv} {a n j : Nat} {i N : Int32} (hd : Dc (yc y) pc .baload 1 pc1) (hS : S[a]? = some (.inl (.boolean, n))) (hN : N.toInt = (n : Int)) (hi : 0 ≤ i ∧ i < N) (hj : i.toNatClampNeg = j) (kk : ((I a j = 0 ∨ I a j = 1) → G y RQ nc ns pc1 L (.int (I a j) :: st) S I J)) : G y RQ nc ns pc L (.int i :: .ref a :: st) S I J := by
  obtain ⟨hd, rfl⟩ := hd
  subst hj
  intro p l e s m args below meth c D ca ad H locs ls C R hl
  have kk := kk (R.2.2.2.2 a _ hS i.toNatClampNeg)
  have he := wl_at (ad := ad) (ca := ca) (I := I) (J := J) hS
  exact va_zald C.1 C.2.1 C.2.2.2.2.2.2.2.2.2.1 R.2.2.1 a 2 he rfl (vin hN hi) hd (kk p l e s m args below meth c D ca ad H locs ls C R hl)
theorem g_caload {y : Mr} {RQ : RQt} {nc ns pc pc1 : Nat} {L : List (Option Value)} {st : List Value} {S : Shp} {I : Iv} {J : Jv} {a n j : Nat} {i N : Int32} (hd : Dc (yc y) pc .caload 1 pc1) (hS : S[a]? = some (.inl (.char, n))) (hN : N.toInt = (n : Int)) (hi : 0 ≤ i ∧ i < N) (hj : i.toNatClampNeg = j) (kk : (G y RQ nc ns pc1 L (.int (I a j) :: st) S I J)) : G y RQ nc ns pc L (.int i :: .ref a :: st) S I J := by
  obtain ⟨hd, rfl⟩ := hd
  subst hj
  intro p l e s m args below meth c D ca ad H locs ls C R hl
  have he := wl_at (ad := ad) (ca := ca) (I := I) (J := J) hS
  exact va_cald C.1 C.2.1 C.2.2.2.2.2.2.2.2.2.1 R.2.2.1 a 3 he rfl (vin hN hi) hd (kk p l e s m args below meth c D ca ad H locs ls C R hl)
theorem g_iastore {y : Mr} {RQ : RQt} {nc ns pc pc1 : Nat} {L : List (Option Value)} {st : List Value} {S : Shp} {I : Iv} {J : Jv} {a n j : Nat} {i N : Int32} {v : Int32} (hd : Dc (yc y) pc .iastore 1 pc1) (hS : S[a]? = some (.inl (.int, n))) (hN : N.toInt = (n : Int)) (hi : 0 ≤ i ∧ i < N) (hj : i.toNatClampNeg = j)  (kk : G y RQ nc ns pc1 L st S (wI I a j v) J) : G y RQ nc ns pc L (.int v :: .int i :: .ref a :: st) S I J := by
  obtain ⟨hd, rfl⟩ := hd
  subst hj
  intro p l e s m args below meth c D ca ad H locs ls C R hl
  have he := wl_at (ad := ad) (ca := ca) (I := I) (J := J) hS
  have hD := wl_D (ca := ca) (I := I) (J := J) C.2.2.2.2.2.2.2.2.2.2.2.1 R.2.1
  have hAa : aA ad (ad a) := hD.2 a _ he
  have hcell := R.2.2.1 a _ he
  refine W.iast C.1 C.2.1 hcell ((C.2.2.2.2.2.2.2.2.2.1.2 0 _ rfl).1 n (fun z => .int (I a z))) (fun q => by cases q) (by show ¬ (i < 0 ∨ (arrV _ _ _).slots.size ≤ _); rw [arrV_size]; exact vin hN hi) rfl rfl hd fun H1 e1 z oq => ?_
  refine kk p l e s m args below meth c D ca ad H1 _ ls C (R.put (c' := .inl (.int, n)) (list_set_same hS) (fun b hb => wI_row hb) (fun b hb => rfl) z (R.2.2.1.set hD he ?_ oq) (R.2.2.2.1.put z oq hAa) ?_) hl
  · show H1[ad a]? = some (vp_cell _ _)
    rw [e1]
    dsimp only
    rw [vp_cell_i, vp_cell_i, arrV_store]
    congr 2
    funext q
    by_cases hq : q = i.toNatClampNeg
    · subst hq; simp [updV, wI]
    · simp [updV, wI, hq]
  · rw [← list_set_same hS]; exact wb_set R.2.2.2.2 (fun b hb => wI_row hb) trivial
theorem g_lastore {y : Mr} {RQ : RQt} {nc ns pc pc1 : Nat} {L : List (Option Value)} {st : List Value} {S : Shp} {I : Iv} {J : Jv} {a n j : Nat} {i N : Int32} {v : Int64} (hd : Dc (yc y) pc .lastore 1 pc1) (hS : S[a]? = some (.inl (.long, n))) (hN : N.toInt = (n : Int)) (hi : 0 ≤ i ∧ i < N) (hj : i.toNatClampNeg = j)  (kk : G y RQ nc ns pc1 L st S I (wJ J a j v)) : G y RQ nc ns pc L (.long v :: .int i :: .ref a :: st) S I J := by
  obtain ⟨hd, rfl⟩ := hd
  subst hj
  intro p l e s m args below meth c D ca ad H locs ls C R hl
  have he := wl_at (ad := ad) (ca := ca) (I := I) (J := J) hS
  have hD := wl_D (ca := ca) (I := I) (J := J) C.2.2.2.2.2.2.2.2.2.2.2.1 R.2.1
  have hAa : aA ad (ad a) := hD.2 a _ he
  have hcell := R.2.2.1 a _ he
  refine W.last C.1 C.2.1 hcell ((C.2.2.2.2.2.2.2.2.2.1.2 1 _ rfl).1 n (fun z => .long (J a z))) (fun q => by cases q) (by show ¬ (i < 0 ∨ (arrV _ _ _).slots.size ≤ _); rw [arrV_size]; exact vin hN hi) rfl rfl hd fun H1 e1 z oq => ?_
  refine kk p l e s m args below meth c D ca ad H1 _ ls C (R.put (c' := .inl (.long, n)) (list_set_same hS) (fun b hb => rfl) (fun b hb => wJ_row hb) z (R.2.2.1.set hD he ?_ oq) (R.2.2.2.1.put z oq hAa) ?_) hl
  · show H1[ad a]? = some (vp_cell _ _)
    rw [e1]
    dsimp only
    rw [vp_cell_l, vp_cell_l, arrV_store]
    congr 2
    funext q
    by_cases hq : q = i.toNatClampNeg
    · subst hq; simp [updV, wJ]
    · simp [updV, wJ, hq]
  · exact R.2.2.2.2
theorem g_bastore {y : Mr} {RQ : RQt} {nc ns pc pc1 : Nat} {L : List (Option Value)} {st : List Value} {S : Shp} {I : Iv} {J : Jv} {a n j : Nat} {i N : Int32} {v : Int32} (hd : Dc (yc y) pc .bastore 1 pc1) (hS : S[a]? = some (.inl (.boolean, n))) (hN : N.toInt = (n : Int)) (hi : 0 ≤ i ∧ i < N) (hj : i.toNatClampNeg = j) (hv : v = 0 ∨ v = 1) (kk : G y RQ nc ns pc1 L st S (wI I a j v) J) : G y RQ nc ns pc L (.int v :: .int i :: .ref a :: st) S I J := by
  obtain ⟨hd, rfl⟩ := hd
  subst hj
  intro p l e s m args below meth c D ca ad H locs ls C R hl
  have he := wl_at (ad := ad) (ca := ca) (I := I) (J := J) hS
  have hD := wl_D (ca := ca) (I := I) (J := J) C.2.2.2.2.2.2.2.2.2.2.2.1 R.2.1
  have hAa : aA ad (ad a) := hD.2 a _ he
  have hcell := R.2.2.1 a _ he
  refine W.zast C.1 C.2.1 hcell ((C.2.2.2.2.2.2.2.2.2.1.2 2 _ rfl).1 n (fun z => .int (I a z))) (fun q => by cases q) (by show ¬ (i < 0 ∨ (arrV _ _ _).slots.size ≤ _); rw [arrV_size]; exact vin hN hi) rfl rfl hd fun H1 e1 z oq => ?_
  refine kk p l e s m args below meth c D ca ad H1 _ ls C (R.put (c' := .inl (.boolean, n)) (list_set_same hS) (fun b hb => wI_row hb) (fun b hb => rfl) z (R.2.2.1.set hD he ?_ oq) (R.2.2.2.1.put z oq hAa) ?_) hl
  · show H1[ad a]? = some (vp_cell _ _)
    rw [e1, show narrow .boolean (.int v) = .int v by rcases hv with rfl | rfl <;> rfl]
    dsimp only
    rw [vp_cell_i, vp_cell_i, arrV_store]
    congr 2
    funext q
    by_cases hq : q = i.toNatClampNeg
    · subst hq; simp [updV, wI]
    · simp [updV, wI, hq]
  · rw [← list_set_same hS]
    refine wb_set R.2.2.2.2 (fun b hb => wI_row hb) ?_
    intro q
    by_cases hq : q = i.toNatClampNeg
    · subst hq; rw [wI_self]; exact hv
    · rw [wI_ne (Or.inr hq)]; exact R.2.2.2.2 a _ hS q
theorem g_castore {y : Mr} {RQ : RQt} {nc ns pc pc1 : Nat} {L : List (Option Value)} {st : List Value} {S : Shp} {I : Iv} {J : Jv} {a n j : Nat} {i N : Int32} {v : Int32} (hd : Dc (yc y) pc .castore 1 pc1) (hS : S[a]? = some (.inl (.char, n))) (hN : N.toInt = (n : Int)) (hi : 0 ≤ i ∧ i < N) (hj : i.toNatClampNeg = j) (hv : narrow .char (.int v) = .int v) (hv2 : fits .char (.int v) = true) (kk : G y RQ nc ns pc1 L st S (wI I a j v) J) : G y RQ nc ns pc L (.int v :: .int i :: .ref a :: st) S I J := by
  obtain ⟨hd, rfl⟩ := hd
  subst hj
  intro p l e s m args below meth c D ca ad H locs ls C R hl
  have he := wl_at (ad := ad) (ca := ca) (I := I) (J := J) hS
  have hD := wl_D (ca := ca) (I := I) (J := J) C.2.2.2.2.2.2.2.2.2.2.2.1 R.2.1
  have hAa : aA ad (ad a) := hD.2 a _ he
  have hcell := R.2.2.1 a _ he
  refine W.cast C.1 C.2.1 hcell ((C.2.2.2.2.2.2.2.2.2.1.2 3 _ rfl).1 n (fun z => .int (I a z))) (fun q => by cases q) (by show ¬ (i < 0 ∨ (arrV _ _ _).slots.size ≤ _); rw [arrV_size]; exact vin hN hi) rfl rfl hd fun H1 e1 z oq => ?_
  refine kk p l e s m args below meth c D ca ad H1 _ ls C (R.put (c' := .inl (.char, n)) (list_set_same hS) (fun b hb => wI_row hb) (fun b hb => rfl) z (R.2.2.1.set hD he ?_ oq) (R.2.2.2.1.put z oq hAa) ?_) hl
  · show H1[ad a]? = some (vp_cell _ _)
    rw [e1, hv]
    dsimp only
    rw [vp_cell_i, vp_cell_i, arrV_store]
    congr 2
    funext q
    by_cases hq : q = i.toNatClampNeg
    · subst hq; simp [updV, wI]
    · simp [updV, wI, hq]
  · rw [← list_set_same hS]
    refine wb_set R.2.2.2.2 (fun b hb => wI_row hb) ?_
    intro q
    by_cases hq : q = i.toNatClampNeg
    · subst hq; rw [wI_self]; exact hv2
    · rw [wI_ne (Or.inr hq)]; exact R.2.2.2.2 a _ hS q
theorem g_alen {y : Mr} {RQ : RQt} {nc ns pc pc1 : Nat} {L : List (Option Value)} {st : List Value} {S : Shp} {I : Iv} {J : Jv} {a n : Nat} {ty : FieldType} {v : Int32} (hd : Dc (yc y) pc .arraylength 1 pc1) (hS : S[a]? = some (.inl (ty, n))) (hty : ty = .int ∨ ty = .long ∨ ty = .boolean ∨ ty = .char) (hv : Int32.ofNat n = v) (kk : G y RQ nc ns pc1 L (.int v :: st) S I J) : G y RQ nc ns pc L (.ref a :: st) S I J := by
  obtain ⟨hd, rfl⟩ := hd
  intro p l e s m args below meth c D ca ad H locs ls C R hl
  have he := wl_at (ad := ad) (ca := ca) (I := I) (J := J) hS
  have kk := kk p l e s m args below meth c D ca ad H locs ls C R hl
  rcases hty with rfl | rfl | rfl | rfl
  · exact va_alen C.1 C.2.1 C.2.2.2.2.2.2.2.2.2.1 R.2.2.1 a 0 he rfl hv hd kk
  · exact va_alen C.1 C.2.1 C.2.2.2.2.2.2.2.2.2.1 R.2.2.1 a 1 he rfl hv hd kk
  · exact va_alen C.1 C.2.1 C.2.2.2.2.2.2.2.2.2.1 R.2.2.1 a 2 he rfl hv hd kk
  · exact va_alen C.1 C.2.1 C.2.2.2.2.2.2.2.2.2.1 R.2.2.1 a 3 he rfl hv hd kk
theorem g_gets {y : Mr} {RQ : RQt} {nc ns pc pc1 : Nat} {L : List (Option Value)} {st : List Value} {S : Shp} {I : Iv} {J : Jv} {idx j : Nat} {nm : String} {vs : List Int32} (hd : Dc (yc y) pc (.getstatic idx) 3 pc1) (hj : stI[j]? = some (nm, vs)) (hlink : Cond.fieldLinkNest (yn y).cls idx "ColdBox" nm "[I" "ColdBox" ∈ NB) (kk : G y RQ nc ns pc1 L (.ref (1000000 + j) :: st) S I J) : G y RQ nc ns pc L st S I J := by
  obtain ⟨hd, rfl⟩ := hd
  intro p l e s m args below meth c D ca ad H locs ls C R hl
  have kk := kk p l e s m args below meth c D ca ad H locs ls C R hl
  obtain ⟨hx, hb, -, -, hown, hts, hnb, -, -, hK, hSt, -, -⟩ := id C
  exact va_getsN hx hb (hSt.1 j nm vs hj).1 R.2.2.2.1 hown (hnb _ hlink) (fun x q => q) hd kk
theorem g_tload {y : Mr} {RQ : RQt} {nc ns pc pc1 : Nat} {L : List (Option Value)} {st : List Value} {S : Shp} {I : Iv} {J : Jv} {j q : Nat} {nm : String} {vs : List Int32} {i N : Int32} (hd : Dc (yc y) pc .iaload 1 pc1) (hj : stI[j]? = some (nm, vs)) (hN : N.toInt = (vs.length : Int)) (hi : 0 ≤ i ∧ i < N) (hq : i.toNatClampNeg = q) (kk : G y RQ nc ns pc1 L (.int (vs.getD q 0) :: st) S I J) : G y RQ nc ns pc L (.int i :: .ref (1000000 + j) :: st) S I J := by
  obtain ⟨hd, rfl⟩ := hd
  subst hq
  intro p l e s m args below meth c D ca ad H locs ls C R hl
  have kk := kk p l e s m args below meth c D ca ad H locs ls C R hl
  exact va_ti C.1 C.2.1 (C.2.2.2.2.2.2.2.2.2.2.1.1 j nm vs hj).2 R.2.2.2.1 (vin hN hi) rfl hd kk
theorem g_tlen {y : Mr} {RQ : RQt} {nc ns pc pc1 : Nat} {L : List (Option Value)} {st : List Value} {S : Shp} {I : Iv} {J : Jv} {j : Nat} {nm : String} {vs : List Int32} {v : Int32} (hd : Dc (yc y) pc .arraylength 1 pc1) (hj : stI[j]? = some (nm, vs)) (hv : Int32.ofNat vs.length = v) (kk : G y RQ nc ns pc1 L (.int v :: st) S I J) : G y RQ nc ns pc L (.ref (1000000 + j) :: st) S I J := by
  obtain ⟨hd, rfl⟩ := hd
  intro p l e s m args below meth c D ca ad H locs ls C R hl
  have kk := kk p l e s m args below meth c D ca ad H locs ls C R hl
  exact va_tlen C.1 C.2.1 (C.2.2.2.2.2.2.2.2.2.2.1.1 j nm vs hj).2 R.2.2.2.1 hv hd kk
theorem g_ldc {y : Mr} {RQ : RQt} {nc ns pc pc1 : Nat} {L : List (Option Value)} {st : List Value} {S : Shp} {I : Iv} {J : Jv} {idx : Nat} {v : Int32} (hd : Dc (yc y) pc (.ldc idx) 2 pc1) (hw : Cond.constant (yn y).cls idx v ∈ TB) (kk : G y RQ nc ns pc1 L (.int v :: st) S I J) : G y RQ nc ns pc L st S I J := by
  obtain ⟨hd, rfl⟩ := hd
  intro p l e s m args below meth c D ca ad H locs ls C R hl
  exact lv_ldc C.1 C.2.1 C.2.2.2.2.1 (C.2.2.2.2.2.1 _ hw) hd (kk p l e s m args below meth c D ca ad H locs ls C R hl)
theorem g_ldcw {y : Mr} {RQ : RQt} {nc ns pc pc1 : Nat} {L : List (Option Value)} {st : List Value} {S : Shp} {I : Iv} {J : Jv} {idx : Nat} {v : Int32} (hd : Dc (yc y) pc (.ldc_w idx) 3 pc1) (hw : Cond.constant (yn y).cls idx v ∈ TB) (kk : G y RQ nc ns pc1 L (.int v :: st) S I J) : G y RQ nc ns pc L st S I J := by
  obtain ⟨hd, rfl⟩ := hd
  intro p l e s m args below meth c D ca ad H locs ls C R hl
  exact lv_ldcw C.1 C.2.1 C.2.2.2.2.1 (C.2.2.2.2.2.1 _ hw) hd (kk p l e s m args below meth c D ca ad H locs ls C R hl)
theorem g_ldc2 {y : Mr} {RQ : RQt} {nc ns pc pc1 : Nat} {L : List (Option Value)} {st : List Value} {S : Shp} {I : Iv} {J : Jv} {idx : Nat} {v : Int64} (hd : Dc (yc y) pc (.ldc2_w idx) 3 pc1) (hw : Cond.constantLong (yn y).cls idx v ∈ TB) (kk : G y RQ nc ns pc1 L (.long v :: st) S I J) : G y RQ nc ns pc L st S I J := by
  obtain ⟨hd, rfl⟩ := hd
  intro p l e s m args below meth c D ca ad H locs ls C R hl
  exact lv_ldc2 C.1 C.2.1 C.2.2.2.2.1 (C.2.2.2.2.2.1 _ hw) hd (kk p l e s m args below meth c D ca ad H locs ls C R hl)
theorem g_ldcS {y : Mr} {RQ : RQt} {nc ns pc pc1 : Nat} {L : List (Option Value)} {st : List Value} {S : Shp} {I : Iv} {J : Jv} {idx j : Nat} {tx : String} {b : List Int32} (hd : Dc (yc y) pc (.ldc idx) 2 pc1) (hy : (yn y).cls = "ColdBox$Reader") (hj : stS[j]? = some (idx, tx, b)) (kk : G y RQ nc ns pc1 L (.ref (2000000 + j) :: st) S I J) : G y RQ nc ns pc L st S I J := by
  obtain ⟨hd, rfl⟩ := hd
  intro p l e s m args below meth c D ca ad H locs ls C R hl
  have kk := kk p l e s m args below meth c D ca ad H locs ls C R hl
  have hown := C.2.2.2.2.1
  rw [hy] at hown
  exact va_ldcS C.1 C.2.1 hown (C.2.2.2.2.2.2.2.2.2.2.1.2.2.1 j idx tx b hj) hd kk
theorem g_swOut {y : Mr} {RQ : RQt} {nc ns pc pc1 : Nat} {L : List (Option Value)} {st : List Value} {S : Shp} {I : Iv} {J : Jv} {dflt lo hi : Int} {offs : Array Int} {len tg : Nat} {x : Int32} (hd : Dj (yc y) pc (.tableswitch dflt lo hi offs) len pc1 dflt tg) (h : x.toInt < lo ∨ hi < x.toInt) (kk : G y RQ nc ns tg L st S I J) : G y RQ nc ns pc L (.int x :: st) S I J := by
  obtain ⟨hd, rfl, ht⟩ := hd
  intro p l e s m args below meth c D ca ad H locs ls C R hl
  exact lv_tableOut C.1 C.2.1 hd h ht (kk p l e s m args below meth c D ca ad H locs ls C R hl)
theorem g_swIn {y : Mr} {RQ : RQt} {nc ns pc pc1 : Nat} {L : List (Option Value)} {st : List Value} {S : Shp} {I : Iv} {J : Jv} {dflt lo hi off : Int} {offs : Array Int} {len tg : Nat} {x : Int32} (hd : Dj (yc y) pc (.tableswitch dflt lo hi offs) len pc1 off tg) (h1 : ¬ x.toInt < lo) (h2 : ¬ hi < x.toInt) (ho : offs[(x.toInt - lo).toNat]? = some off) (kk : G y RQ nc ns tg L st S I J) : G y RQ nc ns pc L (.int x :: st) S I J := by
  obtain ⟨hd, rfl, ht⟩ := hd
  intro p l e s m args below meth c D ca ad H locs ls C R hl
  exact lv_tableIn C.1 C.2.1 hd h1 h2 ho ht (kk p l e s m args below meth c D ca ad H locs ls C R hl)
theorem g_lookup {y : Mr} {RQ : RQt} {nc ns pc pc1 : Nat} {L : List (Option Value)} {st : List Value} {S : Shp} {I : Iv} {J : Jv} {dflt off : Int} {ps : Array (Int × Int)} {len tg : Nat} {x : Int32} (hd : Dj (yc y) pc (.lookupswitch dflt ps) len pc1 off tg) (hp : (ps.toList.zip (ps.toList.drop 1)).all (fun (a, next) => a.1 < next.1) = true) (ho : Op.lookupswitch.offset ps.toList dflt x.toInt = off) (kk : G y RQ nc ns tg L st S I J) : G y RQ nc ns pc L (.int x :: st) S I J := by
  obtain ⟨hd, rfl, ht⟩ := hd
  intro p l e s m args below meth c D ca ad H locs ls C R hl
  exact lv_lookup C.1 C.2.1 hd hp ho ht (kk p l e s m args below meth c D ca ad H locs ls C R hl)
