theorem g_mmax {y : Mr} {RQ : RQt} {nc ns pc pc1 : Nat} {L : List (Option Value)} {st : List Value} {S : Shp} {I : Iv} {J : Jv} {idx : Nat} {a b : Int32} (hd : Dc (yc y) pc (.invokestatic idx) 3 pc1) (hlk : Cond.methodLink (yn y).cls idx Lib.Math.max.name ∈ TB) (hstt : Cond.static Lib.Math.max.name ∈ TB) (hini : Cond.initialized "java/lang/Math" ∈ TB) (hcode : Cond.code Lib.Math.max.name Lib.Math.max.code 2 (some .int) ∈ TB) (hfr : 1 ≤ (yR y).frames ∧ 21 ≤ (yR y).locals) (hroom : nc ≤ (yR y).cells ∧ ns ≤ (yR y).slots) (hcat : (st.map fun v => v.category).sum ≤ 8) (kk : G y RQ nc ns pc1 L (.int (if a < b then b else a) :: st) S I J) : G y RQ nc ns pc L (.int b :: .int a :: st) S I J := by
  obtain ⟨hd, rfl⟩ := hd
  intro p l e s m args below meth c D ca ad H locs ls C R hl
  obtain ⟨hx, hb, hml, -, hown, hts, -⟩ := id C
  exact va_mmax hx hb (hml.trans hl.1.symm) hown (hts _ hlk) (hts _ hstt) (hts _ hini) (hts _ hcode) hfr.1 (by rw [rl_cats]; omega) hroom.1 hroom.2 hd (kk p l e s m args below meth c D ca ad H locs ls C R hl)
theorem g_mmin {y : Mr} {RQ : RQt} {nc ns pc pc1 : Nat} {L : List (Option Value)} {st : List Value} {S : Shp} {I : Iv} {J : Jv} {idx : Nat} {a b : Int32} (hd : Dc (yc y) pc (.invokestatic idx) 3 pc1) (hlk : Cond.methodLink (yn y).cls idx Lib.Math.min.name ∈ TB) (hstt : Cond.static Lib.Math.min.name ∈ TB) (hini : Cond.initialized "java/lang/Math" ∈ TB) (hcode : Cond.code Lib.Math.min.name Lib.Math.min.code 2 (some .int) ∈ TB) (hfr : 1 ≤ (yR y).frames ∧ 21 ≤ (yR y).locals) (hroom : nc ≤ (yR y).cells ∧ ns ≤ (yR y).slots) (hcat : (st.map fun v => v.category).sum ≤ 8) (kk : G y RQ nc ns pc1 L (.int (if b < a then b else a) :: st) S I J) : G y RQ nc ns pc L (.int b :: .int a :: st) S I J := by
  obtain ⟨hd, rfl⟩ := hd
  intro p l e s m args below meth c D ca ad H locs ls C R hl
  obtain ⟨hx, hb, hml, -, hown, hts, -⟩ := id C
  exact va_mmin hx hb (hml.trans hl.1.symm) hown (hts _ hlk) (hts _ hstt) (hts _ hini) (hts _ hcode) hfr.1 (by rw [rl_cats]; omega) hroom.1 hroom.2 hd (kk p l e s m args below meth c D ca ad H locs ls C R hl)
theorem g_mabs {y : Mr} {RQ : RQt} {nc ns pc pc1 : Nat} {L : List (Option Value)} {st : List Value} {S : Shp} {I : Iv} {J : Jv} {idx : Nat} {a : Int32} (hd : Dc (yc y) pc (.invokestatic idx) 3 pc1) (hlk : Cond.methodLink (yn y).cls idx Lib.Math.abs.name ∈ TB) (hstt : Cond.static Lib.Math.abs.name ∈ TB) (hini : Cond.initialized "java/lang/Math" ∈ TB) (hcode : Cond.code Lib.Math.abs.name Lib.Math.abs.code 1 (some .int) ∈ TB) (hfr : 1 ≤ (yR y).frames ∧ 21 ≤ (yR y).locals) (hroom : nc ≤ (yR y).cells ∧ ns ≤ (yR y).slots) (hcat : (st.map fun v => v.category).sum ≤ 8) (kk : G y RQ nc ns pc1 L (.int (if 0 ≤ a then a else 0 - a) :: st) S I J) : G y RQ nc ns pc L (.int a :: st) S I J := by
  obtain ⟨hd, rfl⟩ := hd
  intro p l e s m args below meth c D ca ad H locs ls C R hl
  obtain ⟨hx, hb, hml, -, hown, hts, -⟩ := id C
  exact va_mabs hx hb (hml.trans hl.1.symm) hown (hts _ hlk) (hts _ hstt) (hts _ hini) (hts _ hcode) hfr.1 (by rw [rl_cats]; omega) hroom.1 hroom.2 hd (kk p l e s m args below meth c D ca ad H locs ls C R hl)
theorem g_oinit {y : Mr} {RQ : RQt} {nc ns pc pc1 : Nat} {L : List (Option Value)} {st : List Value} {S : Shp} {I : Iv} {J : Jv} {idx o : Nat} (hd : Dc (yc y) pc (.invokespecial idx) 3 pc1) (hlk : Cond.methodLink (yn y).cls idx Lib.objectInit ∈ TB) (hin : Cond.instanceMethod Lib.objectInit ∈ TB) (hcode : Cond.code Lib.objectInit ⟨#[0xb1]⟩ 1 none ∈ TB) (hfr : 1 ≤ (yR y).frames ∧ 20 ≤ (yR y).locals) (hcat : (st.map fun v => v.category).sum ≤ 8) (kk : G y RQ nc ns pc1 L st S I J) : G y RQ nc ns pc L (.ref o :: st) S I J := by
  obtain ⟨hd, rfl⟩ := hd
  intro p l e s m args below meth c D ca ad H locs ls C R hl
  obtain ⟨hx, hb, hml, -, hown, hts, -⟩ := id C
  exact W.objInit hx hb hown (hts _ hlk) (hts _ hin) (hts _ hcode) rfl (hl.1.trans hml.symm) (a := ad o) (rest := st.map (rl ad)) rfl hd hfr.1 (by rw [rl_cats]; show 2 * 0 + _ + 12 ≤ _; omega) (kk p l e s m args below meth c D ca ad H locs ls C R hl)
def zI (I : Iv) (a : Nat) : Iv := fun b j => if b = a then 0 else I b j
def zJ (J : Jv) (a : Nat) : Jv := fun b j => if b = a then 0 else J b j
theorem zI_row {I : Iv} {a b : Nat} (h : b ≠ a) : zI I a b = I b := by funext j; simp [zI, h]
theorem zJ_row {J : Jv} {a b : Nat} (h : b ≠ a) : zJ J a b = J b := by funext j; simp [zJ, h]
theorem zI_self {I : Iv} {a : Nat} : zI I a a = fun _ => 0 := by funext j; simp [zI]
theorem zJ_self {J : Jv} {a : Nat} : zJ J a a = fun _ => 0 := by funext j; simp [zJ]
theorem wl_grow {ad : Nat → Nat} {ca : FieldType → ClassId} {S : Shp} {I : Iv} {J : Jv} {c : Sc} : wl ad ca (S ++ [c]) (zI I S.length) (zJ J S.length) = wl ad ca S I J ++ [(ad S.length, cE ad ca c (fun _ => 0) (fun _ => 0))] := by
  show wlf _ _ _ _ 0 _ = _
  rw [wl_push S 0]
  simp only [Nat.zero_add, zI_self, zJ_self]
  congr 1
  exact wlf_tail S 0 (fun b _ hb => ⟨zI_row (by omega), zJ_row (by omega)⟩)
theorem wb_grow {S : Shp} {I : Iv} {c : Sc} (h : wb S I) : wb (S ++ [c]) (zI I S.length) := by
  intro b d hb
  by_cases hl : b < S.length
  · rw [List.getElem?_append_left hl] at hb
    rw [zI_row (by omega)]
    exact h b d hb
  · rw [List.getElem?_append_right (by omega)] at hb
    have hz : b - S.length < 1 := (List.getElem?_eq_some_iff.mp hb).1
    rw [show b = S.length by omega, zI_self]
    cases d with
    | inl q => obtain ⟨ty, n⟩ := q; cases ty <;> first | trivial | exact fun _ => Or.inl rfl | exact fun _ => rfl
    | inr q => exact fun _ _ => Or.inl rfl
theorem Rp.grow {ad : Nat → Nat} {ca : FieldType → ClassId} {D : va_G} {s : State} {S : Shp} {I : Iv} {J : Jv} {H H1 : Heap} {locs : List Loc} {c : Sc} (hac : adC ad) (hs : ad 0 ≤ s.heap.size) (R : Rp ad ca D s S I J H locs) (hlen : S.length < 999999) (hz : H1.size = H.size + 1) (hk : ∀ q, q < H.size → H1[q]? = H[q]?) (hn : va_at D vwCl (ad S.length, cE ad ca c (fun _ => 0) (fun _ => 0)) H1) : Rp ad ca D s (S ++ [c]) (zI I S.length) (zJ J S.length) H1 locs := by
  refine ⟨by rw [hz, R.1]; simp; omega, by simp; omega, ?_, ⟨Nat.le_trans R.2.2.2.1.1 (by omega), fun q h1 h2 => (hk q (Nat.lt_of_lt_of_le h1 R.2.2.2.1.1)).trans (R.2.2.2.1.2.1 q h1 h2), R.2.2.2.1.2.2⟩, wb_grow R.2.2.2.2⟩
  rw [wl_grow]
  refine (R.2.2.1.kept fun k x hx => hk x.1 (R.2.2.1 k x hx).lt).app (fun k x hx => ?_)
  have hz : k < 1 := (List.getElem?_eq_some_iff.mp hx).1
  rw [show k = 0 by omega] at hx
  cases hx
  exact hn
theorem g_new {y : Mr} {RQ : RQt} {nc ns pc pc1 : Nat} {L : List (Option Value)} {st : List Value} {S : Shp} {I : Iv} {J : Jv} {idx ci N nc1 ns1 k : Nat} {Cn : String} {T : u_T} {fs : List (Option Nat ⊕ FieldType)} {S' : Shp} (hd : Dc (yc y) pc (.new idx) 3 pc1) (hc : vwCl[ci]? = some (Cn, T, N)) (hcl : Cond.classLink (yn y).cls idx Cn ∈ TB) (hins : Cond.instantiable Cn N ∈ TB) (hini : Cond.initialized Cn ∈ TB) (hfs : ∀ (ad : Nat → Nat) (ty : Nat → FieldType), (∀ k, k < N → parseFieldDescriptor (T k).2.2.1 = some (ty k)) → ∀ j, j < N → defaultValue (ty j) = vp_V (fl ad (fun _ => 0) (fun _ => 0) 0 fs) j) (hk : S.length = k) (hS' : S ++ [.inr (ci, fs)] = S') (hlen : k < 999999) (h1 : nc + 1 = nc1 ∧ ns + N = ns1) (h2 : nc1 ≤ (yR y).cells ∧ ns1 ≤ (yR y).slots) (kk : G y RQ nc1 ns1 pc1 L (.ref k :: st) S' (zI I k) (zJ J k)) : G y RQ nc ns pc L st S I J := by
  obtain ⟨hd, rfl⟩ := hd
  obtain ⟨rfl, rfl⟩ := h1
  subst hk; subst hS'
  intro p l e s m args below meth c D ca ad H locs ls C R hl
  obtain ⟨hx, hb, hml, -, hown, hts, hnb, -, -, hK, hSt, hac, hs0⟩ := id C
  obtain ⟨hin, tyf, hty, hnm⟩ := cl_ok ci Cn T N hc
  have hKn := hK.1 ci _ hc
  have hadk : H.size = ad S.length := R.1.trans (hac _ (by omega)).symm
  refine W.newcK hx hb hown (hts _ hcl) (hts _ hins) (hts _ hini) rfl hd h2.1 h2.2 hKn.2.1 rfl fun H1 kC hkC e1 z1 o1 => ?_
  rw [hadk] at e1 ⊢
  refine kk p l e s m args below meth c D ca ad H1 locs ls C (R.grow hac hs0 hlen z1 o1 ⟨_, hc, (u_born tyf hts hin hKn hkC e1 hty).to (hfs ad tyf hty)⟩) hl
theorem g_newa {y : Mr} {RQ : RQt} {nc ns pc pc1 : Nat} {L : List (Option Value)} {st : List Value} {S : Shp} {I : Iv} {J : Jv} {k N nc1 ns1 : Nat} {n : Int32} {at_ : ArrayType} {ty : FieldType} {S' : Shp} (hd : Dc (yc y) pc (.newarray at_) 2 pc1) (hty : newarray.typeOf at_ = ty) (ht4 : ty = .int ∨ ty = .long ∨ ty = .boolean ∨ ty = .char) (harr : Cond.arrayClass ty ∈ TB) (hn : ¬ n < 0) (hN : n.toNatClampNeg = N) (hbytes : N * componentBytes ty ≤ 536870912) (hk : S.length = k) (hS' : S ++ [.inl (ty, N)] = S') (hlen : k < 999999) (h1 : nc + 1 = nc1 ∧ ns + N = ns1) (h2 : nc1 ≤ (yR y).cells ∧ ns1 ≤ (yR y).slots) (kk : G y RQ nc1 ns1 pc1 L (.ref k :: st) S' (zI I k) (zJ J k)) : G y RQ nc ns pc L (.int n :: st) S I J := by
  obtain ⟨hd, rfl⟩ := hd
  obtain ⟨rfl, rfl⟩ := h1
  subst hk; subst hS'; subst hty
  intro p l e s m args below meth c D ca ad H locs ls C R hl
  obtain ⟨hx, hb, hml, -, hown, hts, hnb, -, -, hK, hSt, hac, hs0⟩ := id C
  have hadk : H.size = ad S.length := R.1.trans (hac _ (by omega)).symm
  refine va_newaK hx hb (hts _ harr) rfl hd rfl hn hN hbytes h2.1 h2.2 rfl fun H1 cA e1 z1 o1 hAr hNm => ?_
  rw [hadk] at e1 ⊢
  refine kk p l e s m args below meth c D ca ad H1 locs ls C (R.grow hac hs0 hlen z1 o1 ?_) hl
  generalize newarray.typeOf at_ = ty at *
  rcases ht4 with rfl | rfl | rfl | rfl
  · have h3 : s.vm.findClass ("[" ++ FieldType.int.toString) = some (ca .int) := (hK.2 0 (ca .int, .int) rfl).2
    cases hNm.symm.trans h3; exact e1
  · have h3 : s.vm.findClass ("[" ++ FieldType.long.toString) = some (ca .long) := (hK.2 1 (ca .long, .long) rfl).2
    cases hNm.symm.trans h3; exact e1
  · have h3 : s.vm.findClass ("[" ++ FieldType.boolean.toString) = some (ca .boolean) := (hK.2 2 (ca .boolean, .boolean) rfl).2
    cases hNm.symm.trans h3; exact e1
  · have h3 : s.vm.findClass ("[" ++ FieldType.char.toString) = some (ca .char) := (hK.2 3 (ca .char, .char) rfl).2
    cases hNm.symm.trans h3; exact e1
def cI (I : Iv) (a n : Nat) (f : Nat → Int32) : Iv := fun b j => if b = a ∧ j < n then f j else I b j
def cJ (J : Jv) (a n : Nat) (f : Nat → Int64) : Jv := fun b j => if b = a ∧ j < n then f j else J b j
theorem cI_row {I : Iv} {a n b : Nat} {f : Nat → Int32} (h : b ≠ a) : cI I a n f b = I b := by funext j; simp [cI, h]
theorem cJ_row {J : Jv} {a n b : Nat} {f : Nat → Int64} (h : b ≠ a) : cJ J a n f b = J b := by funext j; simp [cJ, h]
theorem nn_of {z : Int32} (hz : ¬ z < 0) : z.toInt = (z.toNatClampNeg : Int) := by
  have hz0 : (0 : Int) ≤ z.toInt := by
    have := Int32.not_lt.mp hz
    simpa using Int32.le_iff_toInt_le.mp this
  show z.toInt = ((z.toInt.toNat : Nat) : Int)
  omega
abbrev CpH (y : Mr) (idx : Nat) : Prop := Cond.methodLink (yn y).cls idx arraycopyName ∈ TB ∧ Cond.native arraycopyName ∈ TB ∧ Cond.static arraycopyName ∈ TB ∧ Cond.initialized "java/lang/System" ∈ TB ∧ 1 ≤ (yR y).frames ∧ 8 + (nativeFrameWords "java/lang/System" "arraycopy" 5 + 11) ≤ (yR y).locals
theorem g_copyI {y : Mr} {RQ : RQt} {nc ns pc pc1 : Nat} {L : List (Option Value)} {st : List Value} {S : Shp} {I : Iv} {J : Jv} {idx a a0 n0 j : Nat} {ty : FieldType} {sp dp n : Int32} {f : Nat → Int32} (hd : Dc (yc y) pc (.invokestatic idx) 3 pc1) (hh : CpH y idx) (hS0 : S[a0]? = some (.inl (ty, n0))) (hf : I a0 = f) (hS1 : S[a]? = some (.inl (ty, n0))) (hty : ty = .int ∨ ty = .boolean) (h1 : sp.toNatClampNeg = 0 ∧ ¬ sp < 0) (h2 : dp.toNatClampNeg = 0 ∧ ¬ dp < 0) (h3 : n.toNatClampNeg = n0 ∧ ¬ n < 0) (hcat : (st.map fun v => v.category).sum ≤ 8) (kk : G y RQ nc ns pc1 L st S (cI I a n0 f) J) : G y RQ nc ns pc L (.int n :: .int dp :: .ref a :: .int sp :: .ref a0 :: st) S I J := by
  obtain ⟨hd, rfl⟩ := hd
  intro p l e s m args below meth c D ca ad H locs ls C R hl
  obtain ⟨hx, hb, hml, -, hown, hts, hnb, -, -, hK, hSt, hac, hs0⟩ := id C
  obtain ⟨g1, g2, g3, g4, g5, g6⟩ := hh
  have hD := wl_D (ca := ca) (I := I) (J := J) hac R.2.1
  have he1 := wl_at (ad := ad) (ca := ca) (I := I) (J := J) hS1
  have hAa : aA ad (ad a) := hD.2 a _ he1
  have hce1 : cE ad ca (.inl (ty, n0)) (I a) (J a) = .inl (ca ty, n0, .inl (I a)) := by
    rcases hty with rfl | rfl <;> rfl
  rw [hce1] at he1
  have hc1 : H[ad a]? = some (vp_cell (ca ty) (n0, .inl (I a))) := R.2.2.1 a _ he1
  have hAr : ArrOfT s (ca ty) ty := by
    rcases hty with rfl | rfl; exact (hK.2 0 _ rfl).1; exact (hK.2 2 _ rfl).1
  have hprim : refKind ty = false := by
    rcases hty with rfl | rfl <;> rfl
  obtain ⟨-, k1, hk1, cm1, hkk1⟩ := hAr n0 (fun q => .int (I a q))
  have he0 := wl_at (ad := ad) (ca := ca) (I := I) (J := J) hS0
  have hce0 : cE ad ca (.inl (ty, n0)) (I a0) (J a0) = .inl (ca ty, n0, .inl f) := by
    subst hf
    rcases hty with rfl | rfl <;> rfl
  rw [hce0] at he0
  have hc0 : H[ad a0]? = some (vp_cell (ca ty) (n0, .inl f)) := R.2.2.1 a0 _ he0
  have hnst : ∀ q, (vp_cell (ca ty) (n0, .inl f)).vm ≠ .statics q := fun _ h => by cases h
  have hnun : (vp_cell (ca ty) (n0, .inl f)).vm ≠ .unknown := fun h => by cases h
  have hsz : (vp_cell (ca ty) (n0, .inl f)).slots.size = n0 := by show (arrV _ _ _).slots.size = _; rw [arrV_size]
  have hrd : ∀ i : Nat, i < n0 → (vp_cell (ca ty) (n0, .inl f)).slots[i]? = some (.int (f i)) := fun i hi => by show (arrV _ _ _).slots[_]? = _; rw [arrV_read _ _ hi]
  obtain ⟨-, k0, hk0, cm0, hkk0⟩ := hAr n0 (fun q => .int (f q))
  have hfit : ∀ i : Nat, i < n0 → fits ty (.int (f i)) = true := by
    subst hf
    intro i _
    rcases hty with rfl | rfl
    · rfl
    · have := R.2.2.2.2 a0 _ hS0 i
      rcases this with h | h <;> rw [h] <;> rfl
  have hk0 : s.vm.classes[(vp_cell (ca ty) (n0, .inl f)).cls]? = some k0 := hk0
  generalize vp_cell (ca ty) (n0, .inl f) = scr at hc0 hnst hnun hsz hrd hk0
  intro T hT X
  obtain ⟨vm', X', step⟩ := X.arraycopy hx hown (hts _ g1) (hts _ g2) (hts _ g3) (hts _ g4) (src := ad a0) (dst := ad a) (cs := scr) (cd := vp_cell (ca ty) (n0, .inl (I a))) (srcPos := sp) (destPos := dp) (n := n) (by rw [hT]; exact hc0) (by rw [hT]; exact hc1)
    hnst (fun _ h => by cases h) hnun (fun h => by cases h) hk0 hk1 hkk0 hkk1 (by simp [hprim]) h1.2 h2.2 h3.2
    (by rw [nn_of h1.2, nn_of h3.2, h1.1, h3.1]; omega)
    (by rw [nn_of h2.2, nn_of h3.2, h2.1, h3.1]; show ¬ _ > ((arrV (ca ty) n0 (fun q => .int (I a q))).slots.size : Int); rw [arrV_size]; omega)
    (fun vm₁ _ i hi => by
      rw [h3.1] at hi
      have ez : scr.slots.getD (sp.toNatClampNeg + i) .null = .int (f i) := by
        rw [Array.getD_eq_getD_getElem?, h1.1, Nat.zero_add, hrd _ hi]
        rfl
      refine ⟨?_, ?_⟩
      · rw [ez]
        exact hfit i hi
      · rw [ez]
        exact trivial)
    (g := F0 m pc ls ((.int n :: .int dp :: .ref a :: .int sp :: .ref a0 :: st).map (rl ad))) rfl (by rw [hml]; exact hl.1) (rest := st.map (rl ad)) rfl (by rw [hb]; exact hd) g5 (by rw [rl_cats]; show 2 * 0 + _ + _ ≤ _; omega)
  have e0 : copied scr (vp_cell (ca ty) (n0, .inl (I a))) sp dp n = vp_cell (ca ty) (n0, .inl (va_cpy f (I a) sp.toNatClampNeg dp.toNatClampNeg n.toNatClampNeg)) := va_copiedX (fun z => .int z) scr (ca ty) f (I a) hrd (by rw [h1.1, h3.1]; omega)
  have ec : va_cpy f (I a) sp.toNatClampNeg dp.toNatClampNeg n.toNatClampNeg = (fun q => if q < n0 then f q else I a q) := by
    funext q
    simp only [va_cpy, h1.1, h2.1, h3.1, Nat.zero_le, true_and, Nat.zero_add, Nat.sub_zero]
  rw [e0, ec] at X' step
  have hll : ad a < H.size := (Array.getElem?_eq_some_iff.mp hc1).1
  generalize hnew : vp_cell (ca ty) (n0, .inl (fun q => if q < n0 then f q else I a q)) = nw at X' step
  have hheap : ((T.setVm vm').setCell (ad a) nw).heap = H.setIfInBounds (ad a) nw := by rw [← hT]; rfl
  have oq : ∀ q : Nat, q ≠ ad a → (H.setIfInBounds (ad a) nw)[q]? = H[q]? := fun q hq => by simp [Array.getElem?_setIfInBounds, Ne.symm hq]
  have hsame : S.set a (.inl (ty, n0)) = S := list_set_same hS1
  have hcel : cE ad ca (.inl (ty, n0)) ((cI I a n0 f) a) (J a) = .inl (ca ty, n0, .inl (fun q => if q < n0 then f q else I a q)) := by
    have : cI I a n0 f a = (fun q => if q < n0 then f q else I a q) := by funext q; simp [cI]
    rw [this]
    rcases hty with rfl | rfl <;> rfl
  have hPn : va_P D vwCl ((wl ad ca S I J).set a (ad a, cE ad ca (.inl (ty, n0)) ((cI I a n0 f) a) (J a))) (H.setIfInBounds (ad a) nw) := by
    rw [hcel]
    refine R.2.2.1.set hD he1 ?_ oq
    show (H.setIfInBounds (ad a) nw)[ad a]? = some (vp_cell _ _)
    rw [hnew]
    simp [Array.getElem?_setIfInBounds, hll]
  have hwb : wb S (cI I a n0 f) := by
    rw [← hsame]
    refine wb_set R.2.2.2.2 (fun b hb => cI_row hb) ?_
    subst hf
    rcases hty with rfl | rfl
    · trivial
    · intro q
      have z1 := R.2.2.2.2 a0 _ hS0 q
      have z2 := R.2.2.2.2 a _ hS1 q
      simp only [cI, true_and]
      split
      · exact z1
      · exact z2
  obtain ⟨t, a1, b1⟩ := kk p l e s m args below meth c D ca ad _ _ ls C (R.put (c' := .inl (ty, n0)) hsame (fun b hb => cI_row hb) (fun b hb => rfl) (by simp) hPn ⟨by simp; exact R.2.2.2.1.1, fun q z1 z2 => by
      rw [oq q (fun e => z2 (by rw [e]; exact hAa))]
      exact R.2.2.2.1.2.1 q z1 z2, fun q hq => by
      rcases List.mem_append.mp hq with h | h
      · exact R.2.2.2.1.2.2 q h
      · obtain ⟨z, -, hz⟩ := List.mem_map.mp h
        rw [← hz]
        exact hAa⟩ hwb) hl _ hheap X'
  exact ⟨t, step t a1, b1⟩
theorem g_copyJ {y : Mr} {RQ : RQt} {nc ns pc pc1 : Nat} {L : List (Option Value)} {st : List Value} {S : Shp} {I : Iv} {J : Jv} {idx a a0 n0 j : Nat} {ty : FieldType} {sp dp n : Int32} {f : Nat → Int64} (hd : Dc (yc y) pc (.invokestatic idx) 3 pc1) (hh : CpH y idx) (hS0 : S[a0]? = some (.inl (ty, n0))) (hf : J a0 = f) (hS1 : S[a]? = some (.inl (ty, n0))) (hty : ty = .long) (h1 : sp.toNatClampNeg = 0 ∧ ¬ sp < 0) (h2 : dp.toNatClampNeg = 0 ∧ ¬ dp < 0) (h3 : n.toNatClampNeg = n0 ∧ ¬ n < 0) (hcat : (st.map fun v => v.category).sum ≤ 8) (kk : G y RQ nc ns pc1 L st S I (cJ J a n0 f)) : G y RQ nc ns pc L (.int n :: .int dp :: .ref a :: .int sp :: .ref a0 :: st) S I J := by
  obtain ⟨hd, rfl⟩ := hd
  intro p l e s m args below meth c D ca ad H locs ls C R hl
  obtain ⟨hx, hb, hml, -, hown, hts, hnb, -, -, hK, hSt, hac, hs0⟩ := id C
  obtain ⟨g1, g2, g3, g4, g5, g6⟩ := hh
  have hD := wl_D (ca := ca) (I := I) (J := J) hac R.2.1
  have he1 := wl_at (ad := ad) (ca := ca) (I := I) (J := J) hS1
  have hAa : aA ad (ad a) := hD.2 a _ he1
  have hce1 : cE ad ca (.inl (ty, n0)) (I a) (J a) = .inl (ca ty, n0, .inr (.inl (J a))) := by
    subst hty; rfl
  rw [hce1] at he1
  have hc1 : H[ad a]? = some (vp_cell (ca ty) (n0, .inr (.inl (J a)))) := R.2.2.1 a _ he1
  have hAr : ArrOfT s (ca ty) ty := by
    subst hty; exact (hK.2 1 _ rfl).1
  have hprim : refKind ty = false := by
    subst hty; rfl
  obtain ⟨-, k1, hk1, cm1, hkk1⟩ := hAr n0 (fun q => .long (J a q))
  have he0 := wl_at (ad := ad) (ca := ca) (I := I) (J := J) hS0
  have hce0 : cE ad ca (.inl (ty, n0)) (I a0) (J a0) = .inl (ca ty, n0, .inr (.inl f)) := by
    subst hf
    subst hty; rfl
  rw [hce0] at he0
  have hc0 : H[ad a0]? = some (vp_cell (ca ty) (n0, .inr (.inl f))) := R.2.2.1 a0 _ he0
  have hnst : ∀ q, (vp_cell (ca ty) (n0, .inr (.inl f))).vm ≠ .statics q := fun _ h => by cases h
  have hnun : (vp_cell (ca ty) (n0, .inr (.inl f))).vm ≠ .unknown := fun h => by cases h
  have hsz : (vp_cell (ca ty) (n0, .inr (.inl f))).slots.size = n0 := by show (arrV _ _ _).slots.size = _; rw [arrV_size]
  have hrd : ∀ i : Nat, i < n0 → (vp_cell (ca ty) (n0, .inr (.inl f))).slots[i]? = some (.long (f i)) := fun i hi => by show (arrV _ _ _).slots[_]? = _; rw [arrV_read _ _ hi]
  obtain ⟨-, k0, hk0, cm0, hkk0⟩ := hAr n0 (fun q => .long (f q))
  have hfit : ∀ i : Nat, i < n0 → fits ty (.long (f i)) = true := by
    subst hf
    intro i _
    subst hty; rfl
  have hk0 : s.vm.classes[(vp_cell (ca ty) (n0, .inr (.inl f))).cls]? = some k0 := hk0
  generalize vp_cell (ca ty) (n0, .inr (.inl f)) = scr at hc0 hnst hnun hsz hrd hk0
  intro T hT X
  obtain ⟨vm', X', step⟩ := X.arraycopy hx hown (hts _ g1) (hts _ g2) (hts _ g3) (hts _ g4) (src := ad a0) (dst := ad a) (cs := scr) (cd := vp_cell (ca ty) (n0, .inr (.inl (J a)))) (srcPos := sp) (destPos := dp) (n := n) (by rw [hT]; exact hc0) (by rw [hT]; exact hc1)
    hnst (fun _ h => by cases h) hnun (fun h => by cases h) hk0 hk1 hkk0 hkk1 (by simp [hprim]) h1.2 h2.2 h3.2
    (by rw [nn_of h1.2, nn_of h3.2, h1.1, h3.1]; omega)
    (by rw [nn_of h2.2, nn_of h3.2, h2.1, h3.1]; show ¬ _ > ((arrV (ca ty) n0 (fun q => .long (J a q))).slots.size : Int); rw [arrV_size]; omega)
    (fun vm₁ _ i hi => by
      rw [h3.1] at hi
      have ez : scr.slots.getD (sp.toNatClampNeg + i) .null = .long (f i) := by
        rw [Array.getD_eq_getD_getElem?, h1.1, Nat.zero_add, hrd _ hi]
        rfl
      refine ⟨?_, ?_⟩
      · rw [ez]
        exact hfit i hi
      · rw [ez]
        exact trivial)
    (g := F0 m pc ls ((.int n :: .int dp :: .ref a :: .int sp :: .ref a0 :: st).map (rl ad))) rfl (by rw [hml]; exact hl.1) (rest := st.map (rl ad)) rfl (by rw [hb]; exact hd) g5 (by rw [rl_cats]; show 2 * 0 + _ + _ ≤ _; omega)
  have e0 : copied scr (vp_cell (ca ty) (n0, .inr (.inl (J a)))) sp dp n = vp_cell (ca ty) (n0, .inr (.inl (va_cpy f (J a) sp.toNatClampNeg dp.toNatClampNeg n.toNatClampNeg))) := va_copiedX (fun z => .long z) scr (ca ty) f (J a) hrd (by rw [h1.1, h3.1]; omega)
  have ec : va_cpy f (J a) sp.toNatClampNeg dp.toNatClampNeg n.toNatClampNeg = (fun q => if q < n0 then f q else J a q) := by
    funext q
    simp only [va_cpy, h1.1, h2.1, h3.1, Nat.zero_le, true_and, Nat.zero_add, Nat.sub_zero]
  rw [e0, ec] at X' step
  have hll : ad a < H.size := (Array.getElem?_eq_some_iff.mp hc1).1
  generalize hnew : vp_cell (ca ty) (n0, .inr (.inl (fun q => if q < n0 then f q else J a q))) = nw at X' step
  have hheap : ((T.setVm vm').setCell (ad a) nw).heap = H.setIfInBounds (ad a) nw := by rw [← hT]; rfl
  have oq : ∀ q : Nat, q ≠ ad a → (H.setIfInBounds (ad a) nw)[q]? = H[q]? := fun q hq => by simp [Array.getElem?_setIfInBounds, Ne.symm hq]
  have hsame : S.set a (.inl (ty, n0)) = S := list_set_same hS1
  have hcel : cE ad ca (.inl (ty, n0)) (I a) ((cJ J a n0 f) a) = .inl (ca ty, n0, .inr (.inl (fun q => if q < n0 then f q else J a q))) := by
    have : cJ J a n0 f a = (fun q => if q < n0 then f q else J a q) := by funext q; simp [cJ]
    rw [this]
    subst hty; rfl
  have hPn : va_P D vwCl ((wl ad ca S I J).set a (ad a, cE ad ca (.inl (ty, n0)) (I a) ((cJ J a n0 f) a))) (H.setIfInBounds (ad a) nw) := by
    rw [hcel]
    refine R.2.2.1.set hD he1 ?_ oq
    show (H.setIfInBounds (ad a) nw)[ad a]? = some (vp_cell _ _)
    rw [hnew]
    simp [Array.getElem?_setIfInBounds, hll]
  have hwb : wb S I := by
    exact R.2.2.2.2
  obtain ⟨t, a1, b1⟩ := kk p l e s m args below meth c D ca ad _ _ ls C (R.put (c' := .inl (ty, n0)) hsame (fun b hb => rfl) (fun b hb => cJ_row hb) (by simp) hPn ⟨by simp; exact R.2.2.2.1.1, fun q z1 z2 => by
      rw [oq q (fun e => z2 (by rw [e]; exact hAa))]
      exact R.2.2.2.1.2.1 q z1 z2, fun q hq => by
      rcases List.mem_append.mp hq with h | h
      · exact R.2.2.2.1.2.2 q h
      · obtain ⟨z, -, hz⟩ := List.mem_map.mp h
        rw [← hz]
        exact hAa⟩ hwb) hl _ hheap X'
  exact ⟨t, step t a1, b1⟩
theorem g_copyT {y : Mr} {RQ : RQt} {nc ns pc pc1 : Nat} {L : List (Option Value)} {st : List Value} {S : Shp} {I : Iv} {J : Jv} {idx a a0 n0 j : Nat} {ty : FieldType} {sp dp n : Int32} {f : Nat → Int32} (hd : Dc (yc y) pc (.invokestatic idx) 3 pc1) (hh : CpH y idx) {nm : String} {vs : List Int32} (hj : stI[j]? = some (nm, vs)) (hvs : vs.length = n0) (hf : (fun i => vs.getD i 0) = f) (hS1 : S[a]? = some (.inl (ty, n0))) (hty : ty = .int) (h1 : sp.toNatClampNeg = 0 ∧ ¬ sp < 0) (h2 : dp.toNatClampNeg = 0 ∧ ¬ dp < 0) (h3 : n.toNatClampNeg = n0 ∧ ¬ n < 0) (hcat : (st.map fun v => v.category).sum ≤ 8) (kk : G y RQ nc ns pc1 L st S (cI I a n0 f) J) : G y RQ nc ns pc L (.int n :: .int dp :: .ref a :: .int sp :: .ref (1000000 + j) :: st) S I J := by
  obtain ⟨hd, rfl⟩ := hd
  subst hty
  intro p l e s m args below meth c D ca ad H locs ls C R hl
  obtain ⟨hx, hb, hml, -, hown, hts, hnb, -, -, hK, hSt, hac, hs0⟩ := id C
  obtain ⟨g1, g2, g3, g4, g5, g6⟩ := hh
  have hD := wl_D (ca := ca) (I := I) (J := J) hac R.2.1
  have he1 := wl_at (ad := ad) (ca := ca) (I := I) (J := J) hS1
  have hAa : aA ad (ad a) := hD.2 a _ he1
  have hce1 : cE ad ca (.inl (FieldType.int, n0)) (I a) (J a) = .inl (ca FieldType.int, n0, .inl (I a)) := by
    rfl
  rw [hce1] at he1
  have hc1 : H[ad a]? = some (vp_cell (ca FieldType.int) (n0, .inl (I a))) := R.2.2.1 a _ he1
  have hAr : ArrOfT s (ca FieldType.int) FieldType.int := by
    exact (hK.2 0 _ rfl).1
  have hprim : refKind FieldType.int = false := by
    rfl
  obtain ⟨-, k1, hk1, cm1, hkk1⟩ := hAr n0 (fun q => .int (I a q))
  obtain ⟨scr, hs1, hs2, hs3, -, hs4, hs5, hs7⟩ := (hSt.1 j nm vs hj).2
  obtain ⟨hnst, k0, hk0, cm0, hkk0⟩ := hs2
  have hc0 : H[ad (1000000 + j)]? = some scr := by rw [R.2.2.2.1.2.1 _ (Array.getElem?_eq_some_iff.mp hs1).1 hs7]; exact hs1
  have hnun := hs3
  have hrd : ∀ i : Nat, i < n0 → scr.slots[i]? = some (.int (f i)) := by subst hf; subst hvs; exact hs5
  have hsz : n0 ≤ scr.slots.size := by
    cases n0 with
    | zero => exact Nat.zero_le _
    | succ q => exact (Array.getElem?_eq_some_iff.mp (hrd q (Nat.lt_succ_self q))).1
  have hfit : ∀ i : Nat, i < n0 → fits .int (.int (f i)) = true := fun _ _ => rfl
  intro T hT X
  obtain ⟨vm', X', step⟩ := X.arraycopy hx hown (hts _ g1) (hts _ g2) (hts _ g3) (hts _ g4) (src := ad (1000000 + j)) (dst := ad a) (cs := scr) (cd := vp_cell (ca FieldType.int) (n0, .inl (I a))) (srcPos := sp) (destPos := dp) (n := n) (by rw [hT]; exact hc0) (by rw [hT]; exact hc1)
    hnst (fun _ h => by cases h) hnun (fun h => by cases h) hk0 hk1 hkk0 hkk1 (by simp [hprim]) h1.2 h2.2 h3.2
    (by rw [nn_of h1.2, nn_of h3.2, h1.1, h3.1]; omega)
    (by rw [nn_of h2.2, nn_of h3.2, h2.1, h3.1]; show ¬ _ > ((arrV (ca FieldType.int) n0 (fun q => .int (I a q))).slots.size : Int); rw [arrV_size]; omega)
    (fun vm₁ _ i hi => by
      rw [h3.1] at hi
      have ez : scr.slots.getD (sp.toNatClampNeg + i) .null = .int (f i) := by
        rw [Array.getD_eq_getD_getElem?, h1.1, Nat.zero_add, hrd _ hi]
        rfl
      refine ⟨?_, ?_⟩
      · rw [ez]
        exact hfit i hi
      · rw [ez]
        exact trivial)
    (g := F0 m pc ls ((.int n :: .int dp :: .ref a :: .int sp :: .ref (1000000 + j) :: st).map (rl ad))) rfl (by rw [hml]; exact hl.1) (rest := st.map (rl ad)) rfl (by rw [hb]; exact hd) g5 (by rw [rl_cats]; show 2 * 0 + _ + _ ≤ _; omega)
  have e0 : copied scr (vp_cell (ca FieldType.int) (n0, .inl (I a))) sp dp n = vp_cell (ca FieldType.int) (n0, .inl (va_cpy f (I a) sp.toNatClampNeg dp.toNatClampNeg n.toNatClampNeg)) := va_copiedX (fun z => .int z) scr (ca FieldType.int) f (I a) hrd (by rw [h1.1, h3.1]; omega)
  have ec : va_cpy f (I a) sp.toNatClampNeg dp.toNatClampNeg n.toNatClampNeg = (fun q => if q < n0 then f q else I a q) := by
    funext q
    simp only [va_cpy, h1.1, h2.1, h3.1, Nat.zero_le, true_and, Nat.zero_add, Nat.sub_zero]
  rw [e0, ec] at X' step
  have hll : ad a < H.size := (Array.getElem?_eq_some_iff.mp hc1).1
  generalize hnew : vp_cell (ca FieldType.int) (n0, .inl (fun q => if q < n0 then f q else I a q)) = nw at X' step
  have hheap : ((T.setVm vm').setCell (ad a) nw).heap = H.setIfInBounds (ad a) nw := by rw [← hT]; rfl
  have oq : ∀ q : Nat, q ≠ ad a → (H.setIfInBounds (ad a) nw)[q]? = H[q]? := fun q hq => by simp [Array.getElem?_setIfInBounds, Ne.symm hq]
  have hsame : S.set a (.inl (FieldType.int, n0)) = S := list_set_same hS1
  have hcel : cE ad ca (.inl (FieldType.int, n0)) ((cI I a n0 f) a) (J a) = .inl (ca FieldType.int, n0, .inl (fun q => if q < n0 then f q else I a q)) := by
    have : cI I a n0 f a = (fun q => if q < n0 then f q else I a q) := by funext q; simp [cI]
    rw [this]
    rfl
  have hPn : va_P D vwCl ((wl ad ca S I J).set a (ad a, cE ad ca (.inl (FieldType.int, n0)) ((cI I a n0 f) a) (J a))) (H.setIfInBounds (ad a) nw) := by
    rw [hcel]
    refine R.2.2.1.set hD he1 ?_ oq
    show (H.setIfInBounds (ad a) nw)[ad a]? = some (vp_cell _ _)
    rw [hnew]
    simp [Array.getElem?_setIfInBounds, hll]
  have hwb : wb S (cI I a n0 f) := by
    rw [← hsame]
    exact wb_set R.2.2.2.2 (fun b hb => cI_row hb) trivial
  obtain ⟨t, a1, b1⟩ := kk p l e s m args below meth c D ca ad _ _ ls C (R.put (c' := .inl (FieldType.int, n0)) hsame (fun b hb => cI_row hb) (fun b hb => rfl) (by simp) hPn ⟨by simp; exact R.2.2.2.1.1, fun q z1 z2 => by
      rw [oq q (fun e => z2 (by rw [e]; exact hAa))]
      exact R.2.2.2.1.2.1 q z1 z2, fun q hq => by
      rcases List.mem_append.mp hq with h | h
      · exact R.2.2.2.1.2.2 q h
      · obtain ⟨z, -, hz⟩ := List.mem_map.mp h
        rw [← hz]
        exact hAa⟩ hwb) hl _ hheap X'
  exact ⟨t, step t a1, b1⟩
