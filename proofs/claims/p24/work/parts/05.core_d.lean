theorem lg_lt {a b : Int64} : lg_cmp a b < 0 ↔ a < b := by
  unfold lg_cmp; split
  · rename_i h; constructor
    · intro q; exact absurd q (by decide)
    · intro q; exact absurd (Int64.lt_trans h q) Int64.lt_irrefl
  · rename_i h; split
    · rename_i h2; subst h2; constructor
      · intro q; exact absurd q (by decide)
      · intro q; exact absurd q h
    · rename_i h2; constructor
      · intro _
        rcases Int64.lt_or_le a b with q | q
        · exact q
        · exact absurd (Int64.le_antisymm q (Int64.not_lt.mp h)) (fun z => h2 z.symm)
      · intro _; decide
theorem lg_gt {a b : Int64} : 0 < lg_cmp a b ↔ b < a := by
  unfold lg_cmp; split
  · rename_i h; exact ⟨fun _ => h, fun _ => by decide⟩
  · rename_i h; split
    · exact ⟨fun q => absurd q (by decide), fun q => absurd q h⟩
    · exact ⟨fun q => absurd q (by decide), fun q => absurd q h⟩
theorem lg_eq {a b : Int64} : lg_cmp a b = 0 ↔ a = b := by
  unfold lg_cmp; split
  · rename_i h; constructor
    · intro q; exact absurd q (by decide)
    · intro q; subst q; exact absurd h Int64.lt_irrefl
  · rename_i h; split
    · rename_i h2; exact ⟨fun _ => h2, fun _ => rfl⟩
    · rename_i h2; exact ⟨fun q => absurd q (by decide), fun q => absurd q h2⟩
theorem lg_le {a b : Int64} : lg_cmp a b ≤ 0 ↔ a ≤ b := by
  rw [← Int32.not_lt, lg_gt, Int64.not_lt]
theorem lg_ge {a b : Int64} : 0 ≤ lg_cmp a b ↔ b ≤ a := by
  rw [← Int32.not_lt, lg_lt, Int64.not_lt]
theorem g_lcmp_eq {y : Mr} {RQ : RQt} {nc ns pc pc1 : Nat} {L : List (Option Value)} {st : List Value} {S : Shp} {I : Iv} {J : Jv} {pc2 : Nat} {off : Int} {tg : Nat} {a b : Int64} (h1 : Dc (yc y) pc .lcmp 1 pc2) (hd : Dj (yc y) pc2 (.ifCond .eq off) 3 pc1 off tg) (kt : a = b → G y RQ nc ns tg L st S I J) (kf : ¬ a = b → G y RQ nc ns pc1 L st S I J) : G y RQ nc ns pc L (.long b :: .long a :: st) S I J := by
  have k2 : G y RQ nc ns pc2 L (.int (lg_cmp a b) :: st) S I J := g_if_eq hd (fun h => kt (lg_eq.mp h)) (fun h => kf (fun q => h (lg_eq.mpr q)))
  obtain ⟨h1, rfl⟩ := h1
  intro p l e s m args below meth c D ca ad H locs ls C R hl
  exact W.lcmp C.1 C.2.1 h1 (k2 p l e s m args below meth c D ca ad H locs ls C R hl)
theorem g_lcmp_ne {y : Mr} {RQ : RQt} {nc ns pc pc1 : Nat} {L : List (Option Value)} {st : List Value} {S : Shp} {I : Iv} {J : Jv} {pc2 : Nat} {off : Int} {tg : Nat} {a b : Int64} (h1 : Dc (yc y) pc .lcmp 1 pc2) (hd : Dj (yc y) pc2 (.ifCond .ne off) 3 pc1 off tg) (kt : ¬ a = b → G y RQ nc ns tg L st S I J) (kf : a = b → G y RQ nc ns pc1 L st S I J) : G y RQ nc ns pc L (.long b :: .long a :: st) S I J := by
  have k2 : G y RQ nc ns pc2 L (.int (lg_cmp a b) :: st) S I J := g_if_ne hd (fun h => kt (fun q => h (lg_eq.mpr q))) (fun h => kf (lg_eq.mp h))
  obtain ⟨h1, rfl⟩ := h1
  intro p l e s m args below meth c D ca ad H locs ls C R hl
  exact W.lcmp C.1 C.2.1 h1 (k2 p l e s m args below meth c D ca ad H locs ls C R hl)
theorem g_lcmp_lt {y : Mr} {RQ : RQt} {nc ns pc pc1 : Nat} {L : List (Option Value)} {st : List Value} {S : Shp} {I : Iv} {J : Jv} {pc2 : Nat} {off : Int} {tg : Nat} {a b : Int64} (h1 : Dc (yc y) pc .lcmp 1 pc2) (hd : Dj (yc y) pc2 (.ifCond .lt off) 3 pc1 off tg) (kt : a < b → G y RQ nc ns tg L st S I J) (kf : ¬ a < b → G y RQ nc ns pc1 L st S I J) : G y RQ nc ns pc L (.long b :: .long a :: st) S I J := by
  have k2 : G y RQ nc ns pc2 L (.int (lg_cmp a b) :: st) S I J := g_if_lt hd (fun h => kt (lg_lt.mp h)) (fun h => kf (fun q => h (lg_lt.mpr q)))
  obtain ⟨h1, rfl⟩ := h1
  intro p l e s m args below meth c D ca ad H locs ls C R hl
  exact W.lcmp C.1 C.2.1 h1 (k2 p l e s m args below meth c D ca ad H locs ls C R hl)
theorem g_lcmp_ge {y : Mr} {RQ : RQt} {nc ns pc pc1 : Nat} {L : List (Option Value)} {st : List Value} {S : Shp} {I : Iv} {J : Jv} {pc2 : Nat} {off : Int} {tg : Nat} {a b : Int64} (h1 : Dc (yc y) pc .lcmp 1 pc2) (hd : Dj (yc y) pc2 (.ifCond .ge off) 3 pc1 off tg) (kt : b ≤ a → G y RQ nc ns tg L st S I J) (kf : ¬ b ≤ a → G y RQ nc ns pc1 L st S I J) : G y RQ nc ns pc L (.long b :: .long a :: st) S I J := by
  have k2 : G y RQ nc ns pc2 L (.int (lg_cmp a b) :: st) S I J := g_if_ge hd (fun h => kt (lg_ge.mp h)) (fun h => kf (fun q => h (lg_ge.mpr q)))
  obtain ⟨h1, rfl⟩ := h1
  intro p l e s m args below meth c D ca ad H locs ls C R hl
  exact W.lcmp C.1 C.2.1 h1 (k2 p l e s m args below meth c D ca ad H locs ls C R hl)
theorem g_lcmp_gt {y : Mr} {RQ : RQt} {nc ns pc pc1 : Nat} {L : List (Option Value)} {st : List Value} {S : Shp} {I : Iv} {J : Jv} {pc2 : Nat} {off : Int} {tg : Nat} {a b : Int64} (h1 : Dc (yc y) pc .lcmp 1 pc2) (hd : Dj (yc y) pc2 (.ifCond .gt off) 3 pc1 off tg) (kt : b < a → G y RQ nc ns tg L st S I J) (kf : ¬ b < a → G y RQ nc ns pc1 L st S I J) : G y RQ nc ns pc L (.long b :: .long a :: st) S I J := by
  have k2 : G y RQ nc ns pc2 L (.int (lg_cmp a b) :: st) S I J := g_if_gt hd (fun h => kt (lg_gt.mp h)) (fun h => kf (fun q => h (lg_gt.mpr q)))
  obtain ⟨h1, rfl⟩ := h1
  intro p l e s m args below meth c D ca ad H locs ls C R hl
  exact W.lcmp C.1 C.2.1 h1 (k2 p l e s m args below meth c D ca ad H locs ls C R hl)
theorem g_lcmp_le {y : Mr} {RQ : RQt} {nc ns pc pc1 : Nat} {L : List (Option Value)} {st : List Value} {S : Shp} {I : Iv} {J : Jv} {pc2 : Nat} {off : Int} {tg : Nat} {a b : Int64} (h1 : Dc (yc y) pc .lcmp 1 pc2) (hd : Dj (yc y) pc2 (.ifCond .le off) 3 pc1 off tg) (kt : a ≤ b → G y RQ nc ns tg L st S I J) (kf : ¬ a ≤ b → G y RQ nc ns pc1 L st S I J) : G y RQ nc ns pc L (.long b :: .long a :: st) S I J := by
  have k2 : G y RQ nc ns pc2 L (.int (lg_cmp a b) :: st) S I J := g_if_le hd (fun h => kt (lg_le.mp h)) (fun h => kf (fun q => h (lg_le.mpr q)))
  obtain ⟨h1, rfl⟩ := h1
  intro p l e s m args below meth c D ca ad H locs ls C R hl
  exact W.lcmp C.1 C.2.1 h1 (k2 p l e s m args below meth c D ca ad H locs ls C R hl)
abbrev Fq (own : String) (idx ci k : Nat) (ty : FieldType) (fin : Bool) : Prop :=
  ∃ (Cn : String) (T : u_T) (N : Nat), vwCl[ci]? = some (Cn, T, N) ∧ k < N ∧ (T k).1 = Cn ∧ (T k).2.2.2 = fin ∧ parseFieldDescriptor (T k).2.2.1 = some ty ∧ (Cond.fieldLink own idx Cn (T k).2.1 (T k).2.2.1 ∈ TB ∨ ∃ h : String, Cond.fieldLinkNest own idx Cn (T k).2.1 (T k).2.2.1 h ∈ NB)
abbrev ClOK : Prop := ∀ (ci : Nat) (Cn : String) (T : u_T) (N : Nat), vwCl[ci]? = some (Cn, T, N) → (∀ w ∈ u_ws Cn T N, w ∈ TB) ∧ ∃ ty : Nat → FieldType, (∀ k, k < N → parseFieldDescriptor (T k).2.2.1 = some (ty k)) ∧ ∀ a, a < N → ∀ b, b < N → a ≠ b → (T a).2.1 ≠ (T b).2.1
theorem cl_ok : ClOK := by
  intro ci Cn T N h
  have key : ∀ w : Cond, w ∈ lw_tbl ∧ goodWord w = true → w ∈ TB := fun w q => tb_of q.1 q.2
  match ci, h with
  | 0, h => cases h; exact ⟨fun w hw => key w ((by decide +kernel : ∀ w ∈ wsX00, w ∈ lw_tbl ∧ goodWord w = true) w hw), tyX0, tyX0_ok, nmX0⟩
  | 1, h => cases h; exact ⟨fun w hw => key w ((by decide +kernel : ∀ w ∈ wsX10, w ∈ lw_tbl ∧ goodWord w = true) w hw), tyX1, tyX1_ok, nmX1⟩
  | 2, h => cases h; exact ⟨fun w hw => key w ((by decide +kernel : ∀ w ∈ wsX20, w ∈ lw_tbl ∧ goodWord w = true) w hw), tyX2, tyX2_ok, nmX2⟩
  | 3, h => cases h; exact ⟨fun w hw => key w ((by decide +kernel : ∀ w ∈ wsX30, w ∈ lw_tbl ∧ goodWord w = true) w hw), tyX3, tyX3_ok, nmX3⟩
  | 4, h => cases h; exact ⟨fun w hw => key w ((by decide +kernel : ∀ w ∈ wsX40, w ∈ lw_tbl ∧ goodWord w = true) w hw), tyX4, tyX4_ok, nmX4⟩
  | 5, h => cases h; exact ⟨fun w hw => key w ((by decide +kernel : ∀ w ∈ wsX50, w ∈ lw_tbl ∧ goodWord w = true) w hw), tyX5, tyX5_ok, nmX5⟩
  | 6, h => cases h; exact ⟨fun w hw => key w ((by decide +kernel : ∀ w ∈ wsX60, w ∈ lw_tbl ∧ goodWord w = true) w hw), tyX6, tyX6_ok, nmX6⟩
  | 7, h => cases h; exact ⟨fun w hw => key w ((by decide +kernel : ∀ w ∈ wsX70, w ∈ lw_tbl ∧ goodWord w = true) w hw), tyX7, tyX7_ok, nmX7⟩
  | 8, h => cases h; exact ⟨fun w hw => key w ((by decide +kernel : ∀ w ∈ wsX80, w ∈ lw_tbl ∧ goodWord w = true) w hw), tyX8, tyX8_ok, nmX8⟩
  | 9, h => cases h; exact ⟨fun w hw => key w ((by decide +kernel : ∀ w ∈ wsX90, w ∈ lw_tbl ∧ goodWord w = true) w hw), tyX9, tyX9_ok, nmX9⟩
  | 10, h => cases h; exact ⟨fun w hw => key w ((by decide +kernel : ∀ w ∈ wsX100, w ∈ lw_tbl ∧ goodWord w = true) w hw), tyX10, tyX10_ok, nmX10⟩
  | n + 11, h => simp [vwCl] at h
theorem g_getv {y : Mr} {RQ : RQt} {nc ns pc pc1 : Nat} {L : List (Option Value)} {st : List Value} {S : Shp} {I : Iv} {J : Jv} {idx ci k a : Nat} {fs : List (Option Nat ⊕ FieldType)} {x : Option Nat ⊕ FieldType} {ty : FieldType} {fin : Bool} {v : Value} (hd : Dc (yc y) pc (.getfield idx) 3 pc1) (hf : Fq (yn y).cls idx ci k ty fin) (hS : S[a]? = some (.inr (ci, fs))) (hk : fs[k]? = some x) (hv : ∀ ad, rl ad v = fv ad x (I a k) (J a k)) (kk : G y RQ nc ns pc1 L (v :: st) S I J) : G y RQ nc ns pc L (.ref a :: st) S I J := by
  obtain ⟨hd, rfl⟩ := hd
  intro p l e s m args below meth c D ca ad H locs ls C R hl
  have kk := kk p l e s m args below meth c D ca ad H locs ls C R hl
  obtain ⟨hx, hb, -, -, hown, hts, hnb, -, -, hK, -, -, -⟩ := id C
  obtain ⟨Cn, T, N, hc, hkN, hself, -, -, hlink⟩ := hf
  have he := wl_at (ad := ad) (ca := ca) (I := I) (J := J) hS
  have hvv : (fl ad (I a) (J a) 0 fs)[k]? = some (rl ad v) := by
    rw [fl_at fs 0 k x hk, Nat.zero_add, hv ad]
  rcases hlink with hlink | ⟨h, hlink⟩
  · exact va_get hx hb hts (cl_ok ci Cn T N hc).1 hown hK R.2.2.1 a he hc k hkN (hts _ hlink) (fun x q => by rw [hself] at q; exact q) hvv hd kk
  · exact va_getN hx hb hts (cl_ok ci Cn T N hc).1 hown hK R.2.2.1 a he hc k hkN ((hnb _ hlink).use rfl) (fun x q => by rw [hself] at q; exact q) hvv hd kk
theorem g_getI {y : Mr} {RQ : RQt} {nc ns pc pc1 : Nat} {L : List (Option Value)} {st : List Value} {S : Shp} {I : Iv} {J : Jv} {idx ci k a : Nat} {fs : List (Option Nat ⊕ FieldType)} {fin : Bool} (hd : Dc (yc y) pc (.getfield idx) 3 pc1) (hf : Fq (yn y).cls idx ci k .int fin) (hS : S[a]? = some (.inr (ci, fs))) (hk : fs[k]? = some (.inr .int)) (kk : G y RQ nc ns pc1 L (.int (I a k) :: st) S I J) : G y RQ nc ns pc L (.ref a :: st) S I J :=
  g_getv hd hf hS hk (fun _ => rfl) kk
theorem g_getJ {y : Mr} {RQ : RQt} {nc ns pc pc1 : Nat} {L : List (Option Value)} {st : List Value} {S : Shp} {I : Iv} {J : Jv} {idx ci k a : Nat} {fs : List (Option Nat ⊕ FieldType)} {fin : Bool} (hd : Dc (yc y) pc (.getfield idx) 3 pc1) (hf : Fq (yn y).cls idx ci k .long fin) (hS : S[a]? = some (.inr (ci, fs))) (hk : fs[k]? = some (.inr .long)) (kk : G y RQ nc ns pc1 L (.long (J a k) :: st) S I J) : G y RQ nc ns pc L (.ref a :: st) S I J :=
  g_getv hd hf hS hk (fun _ => rfl) kk
theorem g_wb {y : Mr} {RQ : RQt} {nc ns pc : Nat} {L : List (Option Value)} {st : List Value} {S : Shp} {I : Iv} {J : Jv} (kk : wb S I → G y RQ nc ns pc L st S I J) : G y RQ nc ns pc L st S I J := by
  intro p l e s m args below meth c D ca ad H locs ls C R hl
  exact kk R.2.2.2.2 p l e s m args below meth c D ca ad H locs ls C R hl
theorem g_getZ {y : Mr} {RQ : RQt} {nc ns pc pc1 : Nat} {L : List (Option Value)} {st : List Value} {S : Shp} {I : Iv} {J : Jv} {idx ci k a : Nat} {fs : List (Option Nat ⊕ FieldType)} {fin : Bool} (hd : Dc (yc y) pc (.getfield idx) 3 pc1) (hf : Fq (yn y).cls idx ci k .boolean fin) (hS : S[a]? = some (.inr (ci, fs))) (hk : fs[k]? = some (.inr .boolean)) (kk : (I a k = 0 ∨ I a k = 1) → G y RQ nc ns pc1 L (.int (I a k) :: st) S I J) : G y RQ nc ns pc L (.ref a :: st) S I J :=
  g_wb (fun hw => g_getv hd hf hS hk (fun _ => rfl) (kk (hw a _ hS k hk)))
theorem g_getR {y : Mr} {RQ : RQt} {nc ns pc pc1 : Nat} {L : List (Option Value)} {st : List Value} {S : Shp} {I : Iv} {J : Jv} {idx ci k a r : Nat} {fs : List (Option Nat ⊕ FieldType)} {ty : FieldType} {fin : Bool} (hd : Dc (yc y) pc (.getfield idx) 3 pc1) (hf : Fq (yn y).cls idx ci k ty fin) (hS : S[a]? = some (.inr (ci, fs))) (hk : fs[k]? = some (.inl (some r))) (kk : G y RQ nc ns pc1 L (.ref r :: st) S I J) : G y RQ nc ns pc L (.ref a :: st) S I J :=
  g_getv hd hf hS hk (fun _ => rfl) kk
theorem fl_set {ad : Nat → Nat} {f f' : Nat → Int32} {g g' : Nat → Int64} {x' : Option Nat ⊕ FieldType} : ∀ (fs : List (Option Nat ⊕ FieldType)) (k j : Nat), (∀ b, b ≠ k + j → f' b = f b) → (∀ b, b ≠ k + j → g' b = g b) →
    (fl ad f g k fs).set j (fv ad x' (f' (k + j)) (g' (k + j))) = fl ad f' g' k (fs.set j x')
  | [], _, _, _, _ => rfl
  | y :: ys, k, 0, h1, h2 => by
    simp only [fl, List.set_cons_zero, Nat.add_zero]
    congr 1
    have go : ∀ (S : List (Option Nat ⊕ FieldType)) (m : Nat), k < m → fl ad f g m S = fl ad f' g' m S := by
      intro S
      induction S with
      | nil => intro m _; rfl
      | cons z zs ih =>
        intro m hm
        simp only [fl]
        rw [h1 m (by omega), h2 m (by omega), ih (m + 1) (by omega)]
    exact go ys (k + 1) (by omega)
  | y :: ys, k, j + 1, h1, h2 => by
    simp only [fl, List.set_cons_succ]
    have e : k + (j + 1) = k + 1 + j := by omega
    rw [h1 k (by omega), h2 k (by omega), e, fl_set ys (k + 1) j (fun b hb => h1 b (by omega)) (fun b hb => h2 b (by omega))]
theorem Rp.put {ad : Nat → Nat} {ca : FieldType → ClassId} {D : va_G} {s : State} {S S' : Shp} {I I' : Iv} {J J' : Jv} {H H1 : Heap} {locs locs1 : List Loc} {a : Nat} {c' : Sc} (R : Rp ad ca D s S I J H locs) (hS' : S.set a c' = S') (h1 : ∀ b, b ≠ a → I' b = I b) (h2 : ∀ b, b ≠ a → J' b = J b) (hz : H1.size = H.size) (hP : va_P D vwCl ((wl ad ca S I J).set a (ad a, cE ad ca c' (I' a) (J' a))) H1) (hSt : va_S (aA ad) s.heap H1 locs1) (hw : wb S' I') : Rp ad ca D s S' I' J' H1 locs1 := by
  subst hS'
  rw [wl_set h1 h2] at hP
  exact ⟨by rw [hz, R.1]; simp, by simpa using R.2.1, hP, hSt, hw⟩
theorem g_putv {y : Mr} {RQ : RQt} {nc ns pc pc1 : Nat} {L : List (Option Value)} {st : List Value} {S : Shp} {I : Iv} {J : Jv} {idx ci k a : Nat} {fs : List (Option Nat ⊕ FieldType)} {x' : Option Nat ⊕ FieldType} {ty : FieldType} {fin : Bool} {v : Value} {S' : Shp} {I' : Iv} {J' : Jv} (hd : Dc (yc y) pc (.putfield idx) 3 pc1) (hf : Fq (yn y).cls idx ci k ty fin) (hfin : fin = false ∨ (yn y).name = "<init>" ∧ ∃ Cn T N, vwCl[ci]? = some (Cn, T, N) ∧ Cn = (yn y).cls) (hS : S[a]? = some (.inr (ci, fs))) (hk : k < fs.length) (hS' : S.set a (.inr (ci, fs.set k x')) = S')
    (h1 : ∀ b j, (b ≠ a ∨ j ≠ k) → I' b j = I b j) (h2 : ∀ b j, (b ≠ a ∨ j ≠ k) → J' b j = J b j) (hv : ∀ ad, rl ad v = fv ad x' (I' a k) (J' a k)) (hn : ∀ ad, narrow ty (rl ad v) = rl ad v) (hfit : ∀ ad, fits ty (rl ad v) = true) (hw : wb S I → wb S' I')
    (kk : G y RQ nc ns pc1 L st S' I' J') : G y RQ nc ns pc L (v :: .ref a :: st) S I J := by
  obtain ⟨hd, rfl⟩ := hd
  intro p l e s m args below meth c D ca ad H locs ls C R hl
  obtain ⟨hx, hb, -, -, hown, hts, hnb, -, hini, hK, -, hac, -⟩ := id C
  obtain ⟨Cn, T, N, hc, hkN, hself, hfn, hpar, hlink⟩ := hf
  obtain ⟨hin, tyf, hty, hnm⟩ := cl_ok ci Cn T N hc
  have he := wl_at (ad := ad) (ca := ca) (I := I) (J := J) hS
  have hap := va_apart (own := (yn y).cls) hts hin tyf hty hnm hK hc
  have hP := R.2.2.1
  have hD := wl_D (ca := ca) (I := I) (J := J) hac R.2.1
  obtain ⟨r, g1, cell, q1, q2, q3, q4⟩ := hP a _ he
  have hr : r = (Cn, T, N) := Option.some.inj (g1.symm.trans hc)
  subst hr
  obtain ⟨hSl, hfc, kC, hkC, hkind⟩ := hK.1 ci _ hc
  obtain ⟨cf, kf, fi, f, hi, hsl⟩ := hSl k hkN
  have hst := (u_facts hfc hkC (u_lays hts hin hkN) hi).1
  have hlen : k < (fl ad (I a) (J a) 0 fs).length := by rw [fl_len]; exact hk
  have fin' : ∀ (H' : Heap) (locs1 : List Loc), H'[ad a]? = some (cell.setSlot f.slot (rl ad v)) → H'.size = H.size → (∀ q, q ≠ ad a → H'[q]? = H[q]?) → va_S (aA ad) s.heap H' locs1 → W p l e (yR y) s m args below meth c H' locs1 nc ns (RQ D ca ad below args s) (F0 m (pc + 3) ls (st.map (rl ad))) := by
    intro H' locs1 e1 e2 e3 e4
    rw [hsl] at e1
    have hset : (fl ad (I a) (J a) 0 fs).set k (rl ad v) = fl ad (I' a) (J' a) 0 (fs.set k x') := by
      have := fl_set (ad := ad) (f := I a) (f' := I' a) (g := J a) (g' := J' a) (x' := x') fs 0 k (fun b hb => h1 a b (Or.inr (by omega))) (fun b hb => h2 a b (Or.inr (by omega)))
      rw [Nat.zero_add] at this
      rw [← this, hv ad]
    have hP1 := hP.set hD he (e := .inr (ci, (fl ad (I a) (J a) 0 fs).set k (rl ad v))) ⟨_, hc, t_OB.to (V := updV (vp_V (fl ad (I a) (J a) 0 fs)) k (rl ad v)) ⟨_, e1, q2, q3, t_set q4 hap hkN (rl ad v)⟩ (fun j _ => vp_updV_set hlen (rl ad v) j)⟩ e3
    rw [hset] at hP1
    exact kk p l e s m args below meth c D ca ad H' locs1 ls C (R.put hS' (fun b hb => funext fun j => h1 b j (Or.inl hb)) (fun b hb => funext fun j => h2 b j (Or.inl hb)) e2 hP1 e4 (hw R.2.2.2.2)) hl
  have hAa : aA ad (ad a) := hD.2 a _ he
  have hlay := hts _ (hin _ (u_in_lay hkN))
  unfold u_lay at hlay
  rcases hfin with hfin | ⟨hi1, Cn', T', N', hc', hCn⟩
  · rw [if_neg (by rw [hfn, hfin]; decide)] at hlay
    have h6 := u_store hfc hkC hkind hlay hi hpar (hn ad) (hfit ad)
    rcases hlink with hlink | ⟨h, hlink⟩
    · exact W.putK hx hb (f := f) ⟨hown, hts _ hlink, ⟨_, _, _, by rw [hself] at hi; exact hi⟩, hst⟩ (by rw [q2]; exact h6) q1 q3 (by rw [hsl]; exact k2_hasslot (q4 k hkN)) rfl rfl hd fun H' e1 e2 e3 => fin' H' _ e1 e2 e3 (R.2.2.2.1.put e2 e3 hAa)
    · exact va_WputK hx hb (f := f) hown ((hnb _ hlink).use rfl) (by rw [hself] at hi; exact hi) hst (by rw [q2]; exact h6) q1 q3 (by rw [hsl]; exact k2_hasslot (q4 k hkN)) rfl rfl hd fun H' e1 e2 e3 => fin' H' _ e1 e2 e3 (R.2.2.2.1.put e2 e3 hAa)
  · cases hfnn : (T k).2.2.2 with
    | false =>
      rw [if_neg (by rw [hfnn]; decide)] at hlay
      have h6 := u_store hfc hkC hkind hlay hi hpar (hn ad) (hfit ad)
      rcases hlink with hlink | ⟨h, hlink⟩
      · exact W.putK hx hb (f := f) ⟨hown, hts _ hlink, ⟨_, _, _, by rw [hself] at hi; exact hi⟩, hst⟩ (by rw [q2]; exact h6) q1 q3 (by rw [hsl]; exact k2_hasslot (q4 k hkN)) rfl rfl hd fun H' e1 e2 e3 => fin' H' _ e1 e2 e3 (R.2.2.2.1.put e2 e3 hAa)
      · exact va_WputK hx hb (f := f) hown ((hnb _ hlink).use rfl) (by rw [hself] at hi; exact hi) hst (by rw [q2]; exact h6) q1 q3 (by rw [hsl]; exact k2_hasslot (q4 k hkN)) rfl rfl hd fun H' e1 e2 e3 => fin' H' _ e1 e2 e3 (R.2.2.2.1.put e2 e3 hAa)
    | true =>
      rw [if_pos hfnn] at hlay
      rw [hc] at hc'
      cases hc'
      have hcf : m.cls = cf := by
        obtain ⟨_, _, c', _, _, _, -, -, hf', -, -, -, hown2, -⟩ := Cond.laysFinal_spec hlay
        have e1 : c' = cf := by have := hi.symm.trans hf'; simp at this; exact this.1.symm
        rw [hself, hCn] at hown2
        rw [← e1]; exact Option.some.inj (hown.symm.trans hown2)
      have h6 := u_fits hfc hkC hkind (Or.inr hlay) hi hpar (hn ad) (hfit ad)
      rcases hlink with hlink | ⟨h, hlink⟩
      · exact W.putFinK hx hb hown (hts _ hlink) (by rw [hself] at hi; exact hi) hst hcf (hini hi1) (by rw [q2]; exact h6) q1 q3 (by rw [hsl]; exact k2_hasslot (q4 k hkN)) rfl rfl hd fun H' e1 e2 e3 => fin' H' _ e1 e2 e3 (R.2.2.2.1.put e2 e3 hAa)
      · have ha : ad a < H.size := (Array.getElem?_eq_some_iff.mp q1).1
        refine va_Wputf hx hb hown ((hnb _ hlink).use rfl) (by rw [hself] at hi; exact hi) hst (Or.inr ⟨hcf, hini hi1⟩) q1 (by rw [q3]; exact fun h => by cases h) (by rw [hsl]; exact k2_hasslot (q4 k hkN)) h6.1 (by rw [q3, q2]; exact h6.2) rfl rfl hd ?_
        have e3 : ∀ q, q ≠ ad a → (H.setIfInBounds (ad a) (cell.setSlot f.slot (rl ad v)))[q]? = H[q]? := fun q hq => by simp [Array.getElem?_setIfInBounds, Ne.symm hq]
        exact fin' _ _ (by simp [Array.getElem?_setIfInBounds, ha]) (by simp) e3 (R.2.2.2.1.put (by simp) e3 hAa)
