abbrev Dc (c : ByteArray) (pc : Nat) (i : Instr) (n pc1 : Nat) : Prop := decode c pc = .ok (i, n) ∧ pc + n = pc1
abbrev Dj (c : ByteArray) (pc : Nat) (i : Instr) (n pc1 : Nat) (off : Int) (tg : Nat) : Prop := decode c pc = .ok (i, n) ∧ pc + n = pc1 ∧ (pc : Int) + off = (tg : Int)
theorem g_iconst {y : Mr} {RQ : RQt} {nc ns pc pc1 : Nat} {L : List (Option Value)} {st : List Value} {S : Shp} {I : Iv} {J : Jv} {n : Int} {v : Int32} (hd : Dc (yc y) pc (.iconst n) 1 pc1) (hv : Int32.ofInt n = v) (k : G y RQ nc ns pc1 L (.int v :: st) S I J) : G y RQ nc ns pc L (st) S I J := by
  obtain ⟨hd, rfl⟩ := hd
  intro p l e s m args below meth c D ca ad H locs ls C R hl
  exact lv_iconst C.1 C.2.1 hd hv (k p l e s m args below meth c D ca ad H locs ls C R hl)
theorem g_bipush {y : Mr} {RQ : RQt} {nc ns pc pc1 : Nat} {L : List (Option Value)} {st : List Value} {S : Shp} {I : Iv} {J : Jv} {n : Int} {v : Int32} (hd : Dc (yc y) pc (.bipush n) 2 pc1) (hv : (Int8.ofInt n).toInt32 = v) (k : G y RQ nc ns pc1 L (.int v :: st) S I J) : G y RQ nc ns pc L (st) S I J := by
  obtain ⟨hd, rfl⟩ := hd
  intro p l e s m args below meth c D ca ad H locs ls C R hl
  exact lv_bipush C.1 C.2.1 hd hv (k p l e s m args below meth c D ca ad H locs ls C R hl)
theorem g_sipush {y : Mr} {RQ : RQt} {nc ns pc pc1 : Nat} {L : List (Option Value)} {st : List Value} {S : Shp} {I : Iv} {J : Jv} {n : Int} {v : Int32} (hd : Dc (yc y) pc (.sipush n) 3 pc1) (hv : (Int16.ofInt n).toInt32 = v) (k : G y RQ nc ns pc1 L (.int v :: st) S I J) : G y RQ nc ns pc L (st) S I J := by
  obtain ⟨hd, rfl⟩ := hd
  intro p l e s m args below meth c D ca ad H locs ls C R hl
  exact lv_sipush C.1 C.2.1 hd hv (k p l e s m args below meth c D ca ad H locs ls C R hl)
theorem g_lconst {y : Mr} {RQ : RQt} {nc ns pc pc1 : Nat} {L : List (Option Value)} {st : List Value} {S : Shp} {I : Iv} {J : Jv} {n : Fin 2} {v : Int64} (hd : Dc (yc y) pc (.lconst n) 1 pc1) (hv : Int64.ofNat (n : Nat) = v) (k : G y RQ nc ns pc1 L (.long v :: st) S I J) : G y RQ nc ns pc L (st) S I J := by
  obtain ⟨hd, rfl⟩ := hd
  intro p l e s m args below meth c D ca ad H locs ls C R hl
  exact lv_lconst C.1 C.2.1 hd hv (k p l e s m args below meth c D ca ad H locs ls C R hl)
theorem g_iload {y : Mr} {RQ : RQt} {nc ns pc pc1 : Nat} {L : List (Option Value)} {st : List Value} {S : Shp} {I : Iv} {J : Jv} {i : Nat} {x : Int32} (hd : Dc (yc y) pc (.iload i) 2 pc1) (hL : L[i]? = some (some (.int x))) (k : G y RQ nc ns pc1 L (.int x :: st) S I J) : G y RQ nc ns pc L (st) S I J := by
  obtain ⟨hd, rfl⟩ := hd
  intro p l e s m args below meth c D ca ad H locs ls C R hl
  exact lv_iload C.1 C.2.1 hd (lp_at hl hL) (k p l e s m args below meth c D ca ad H locs ls C R hl)
theorem g_iload_n {y : Mr} {RQ : RQt} {nc ns pc pc1 : Nat} {L : List (Option Value)} {st : List Value} {S : Shp} {I : Iv} {J : Jv} {i : Fin 4} {x : Int32} (hd : Dc (yc y) pc (.iload_n i) 1 pc1) (hL : L[(i : Nat)]? = some (some (.int x))) (k : G y RQ nc ns pc1 L (.int x :: st) S I J) : G y RQ nc ns pc L (st) S I J := by
  obtain ⟨hd, rfl⟩ := hd
  intro p l e s m args below meth c D ca ad H locs ls C R hl
  exact lv_iload_n C.1 C.2.1 hd rfl (lp_at hl hL) (k p l e s m args below meth c D ca ad H locs ls C R hl)
theorem g_lload {y : Mr} {RQ : RQt} {nc ns pc pc1 : Nat} {L : List (Option Value)} {st : List Value} {S : Shp} {I : Iv} {J : Jv} {i : Nat} {x : Int64} (hd : Dc (yc y) pc (.lload i) 2 pc1) (hL : L[i]? = some (some (.long x))) (k : G y RQ nc ns pc1 L (.long x :: st) S I J) : G y RQ nc ns pc L (st) S I J := by
  obtain ⟨hd, rfl⟩ := hd
  intro p l e s m args below meth c D ca ad H locs ls C R hl
  exact lv_lload C.1 C.2.1 hd (lp_at hl hL) (k p l e s m args below meth c D ca ad H locs ls C R hl)
theorem g_lload_n {y : Mr} {RQ : RQt} {nc ns pc pc1 : Nat} {L : List (Option Value)} {st : List Value} {S : Shp} {I : Iv} {J : Jv} {i : Fin 4} {x : Int64} (hd : Dc (yc y) pc (.lload_n i) 1 pc1) (hL : L[(i : Nat)]? = some (some (.long x))) (k : G y RQ nc ns pc1 L (.long x :: st) S I J) : G y RQ nc ns pc L (st) S I J := by
  obtain ⟨hd, rfl⟩ := hd
  intro p l e s m args below meth c D ca ad H locs ls C R hl
  exact lv_lload_n C.1 C.2.1 hd rfl (lp_at hl hL) (k p l e s m args below meth c D ca ad H locs ls C R hl)
theorem g_aload {y : Mr} {RQ : RQt} {nc ns pc pc1 : Nat} {L : List (Option Value)} {st : List Value} {S : Shp} {I : Iv} {J : Jv} {i : Nat} {x : Nat} (hd : Dc (yc y) pc (.aload i) 2 pc1) (hL : L[i]? = some (some (.ref x))) (k : G y RQ nc ns pc1 L (.ref x :: st) S I J) : G y RQ nc ns pc L (st) S I J := by
  obtain ⟨hd, rfl⟩ := hd
  intro p l e s m args below meth c D ca ad H locs ls C R hl
  exact lv_aload C.1 C.2.1 hd (lp_at hl hL) (k p l e s m args below meth c D ca ad H locs ls C R hl)
theorem g_aload_n {y : Mr} {RQ : RQt} {nc ns pc pc1 : Nat} {L : List (Option Value)} {st : List Value} {S : Shp} {I : Iv} {J : Jv} {i : Fin 4} {x : Nat} (hd : Dc (yc y) pc (.aload_n i) 1 pc1) (hL : L[(i : Nat)]? = some (some (.ref x))) (k : G y RQ nc ns pc1 L (.ref x :: st) S I J) : G y RQ nc ns pc L (st) S I J := by
  obtain ⟨hd, rfl⟩ := hd
  intro p l e s m args below meth c D ca ad H locs ls C R hl
  exact lv_aload_n C.1 C.2.1 hd rfl (lp_at hl hL) (k p l e s m args below meth c D ca ad H locs ls C R hl)
theorem g_istore {y : Mr} {RQ : RQt} {nc ns pc pc1 : Nat} {L : List (Option Value)} {st : List Value} {S : Shp} {I : Iv} {J : Jv} {i : Nat} {x : Int32} {L' : List (Option Value)} (hd : Dc (yc y) pc (.istore i) 2 pc1) (hn : i < yl y) (hL : ls1 L i (.int x) = L') (k : G y RQ nc ns pc1 L' st S I J) : G y RQ nc ns pc L (.int x :: st) S I J := by
  obtain ⟨hd, rfl⟩ := hd
  subst hL
  intro p l e s m args below meth c D ca ad H locs ls C R hl
  exact lv_istore C.1 C.2.1 hd hl hn rfl (fun ls' h' => k p l e s m args below meth c D ca ad H locs ls' C R (lp_st1 h'))
theorem g_istore_n {y : Mr} {RQ : RQt} {nc ns pc pc1 : Nat} {L : List (Option Value)} {st : List Value} {S : Shp} {I : Iv} {J : Jv} {i : Fin 4} {x : Int32} {L' : List (Option Value)} (hd : Dc (yc y) pc (.istore_n i) 1 pc1) (hn : (i : Nat) < yl y) (hL : ls1 L (i : Nat) (.int x) = L') (k : G y RQ nc ns pc1 L' st S I J) : G y RQ nc ns pc L (.int x :: st) S I J := by
  obtain ⟨hd, rfl⟩ := hd
  subst hL
  intro p l e s m args below meth c D ca ad H locs ls C R hl
  exact lv_istore_n C.1 C.2.1 hd rfl hl hn rfl (fun ls' h' => k p l e s m args below meth c D ca ad H locs ls' C R (lp_st1 h'))
theorem g_lstore {y : Mr} {RQ : RQt} {nc ns pc pc1 : Nat} {L : List (Option Value)} {st : List Value} {S : Shp} {I : Iv} {J : Jv} {i : Nat} {x : Int64} {L' : List (Option Value)} (hd : Dc (yc y) pc (.lstore i) 2 pc1) (hn : i + 1 < yl y) (hL : ls2 L i (.long x) = L') (k : G y RQ nc ns pc1 L' st S I J) : G y RQ nc ns pc L (.long x :: st) S I J := by
  obtain ⟨hd, rfl⟩ := hd
  subst hL
  intro p l e s m args below meth c D ca ad H locs ls C R hl
  exact lv_lstore C.1 C.2.1 hd hl hn rfl (fun ls' h' => k p l e s m args below meth c D ca ad H locs ls' C R (lp_st2 h'))
theorem g_lstore_n {y : Mr} {RQ : RQt} {nc ns pc pc1 : Nat} {L : List (Option Value)} {st : List Value} {S : Shp} {I : Iv} {J : Jv} {i : Fin 4} {x : Int64} {L' : List (Option Value)} (hd : Dc (yc y) pc (.lstore_n i) 1 pc1) (hn : (i : Nat) + 1 < yl y) (hL : ls2 L (i : Nat) (.long x) = L') (k : G y RQ nc ns pc1 L' st S I J) : G y RQ nc ns pc L (.long x :: st) S I J := by
  obtain ⟨hd, rfl⟩ := hd
  subst hL
  intro p l e s m args below meth c D ca ad H locs ls C R hl
  exact lv_lstore_n C.1 C.2.1 hd rfl hl hn rfl (fun ls' h' => k p l e s m args below meth c D ca ad H locs ls' C R (lp_st2 h'))
theorem g_astore {y : Mr} {RQ : RQt} {nc ns pc pc1 : Nat} {L : List (Option Value)} {st : List Value} {S : Shp} {I : Iv} {J : Jv} {i : Nat} {x : Nat} {L' : List (Option Value)} (hd : Dc (yc y) pc (.astore i) 2 pc1) (hn : i < yl y) (hL : ls1 L i (.ref x) = L') (k : G y RQ nc ns pc1 L' st S I J) : G y RQ nc ns pc L (.ref x :: st) S I J := by
  obtain ⟨hd, rfl⟩ := hd
  subst hL
  intro p l e s m args below meth c D ca ad H locs ls C R hl
  exact lv_astore C.1 C.2.1 hd hl hn rfl (fun ls' h' => k p l e s m args below meth c D ca ad H locs ls' C R (lp_st1 h'))
theorem g_astore_n {y : Mr} {RQ : RQt} {nc ns pc pc1 : Nat} {L : List (Option Value)} {st : List Value} {S : Shp} {I : Iv} {J : Jv} {i : Fin 4} {x : Nat} {L' : List (Option Value)} (hd : Dc (yc y) pc (.astore_n i) 1 pc1) (hn : (i : Nat) < yl y) (hL : ls1 L (i : Nat) (.ref x) = L') (k : G y RQ nc ns pc1 L' st S I J) : G y RQ nc ns pc L (.ref x :: st) S I J := by
  obtain ⟨hd, rfl⟩ := hd
  subst hL
  intro p l e s m args below meth c D ca ad H locs ls C R hl
  exact lv_astore_n C.1 C.2.1 hd rfl hl hn rfl (fun ls' h' => k p l e s m args below meth c D ca ad H locs ls' C R (lp_st1 h'))
theorem g_iinc {y : Mr} {RQ : RQt} {nc ns pc pc1 : Nat} {L : List (Option Value)} {st : List Value} {S : Shp} {I : Iv} {J : Jv} {i : Nat} {n : Int} {x v : Int32} {L' : List (Option Value)} (hd : Dc (yc y) pc (.iinc i n) 3 pc1) (hx : L[i]? = some (some (.int x))) (hv : x + Int32.ofInt n = v) (hn : i < yl y) (hL : ls1 L i (.int v) = L') (k : G y RQ nc ns pc1 L' st S I J) : G y RQ nc ns pc L st S I J := by
  obtain ⟨hd, rfl⟩ := hd
  subst hL
  intro p l e s m args below meth c D ca ad H locs ls C R hl
  obtain ⟨kk, hk⟩ := List.getElem?_of_mem ((lpr_mem L 0 (i, .int x)).mpr ⟨i, .int x, by simp, hx, rfl⟩)
  exact lv_iinc C.1 C.2.1 hd hl hk hv hn rfl (fun ls' h' => k p l e s m args below meth c D ca ad H locs ls' C R (lp_st1 h'))
theorem g_iadd {y : Mr} {RQ : RQt} {nc ns pc pc1 : Nat} {L : List (Option Value)} {st : List Value} {S : Shp} {I : Iv} {J : Jv} {a b : Int32} (hd : Dc (yc y) pc (.iadd) 1 pc1)  (k : G y RQ nc ns pc1 L (.int (a + b) :: st) S I J) : G y RQ nc ns pc L (.int b :: .int a :: st) S I J := by
  obtain ⟨hd, rfl⟩ := hd
  intro p l e s m args below meth c D ca ad H locs ls C R hl
  exact lv_iadd C.1 C.2.1 hd  (k p l e s m args below meth c D ca ad H locs ls C R hl)
theorem g_isub {y : Mr} {RQ : RQt} {nc ns pc pc1 : Nat} {L : List (Option Value)} {st : List Value} {S : Shp} {I : Iv} {J : Jv} {a b : Int32} (hd : Dc (yc y) pc (.isub) 1 pc1)  (k : G y RQ nc ns pc1 L (.int (a - b) :: st) S I J) : G y RQ nc ns pc L (.int b :: .int a :: st) S I J := by
  obtain ⟨hd, rfl⟩ := hd
  intro p l e s m args below meth c D ca ad H locs ls C R hl
  exact lv_isub C.1 C.2.1 hd  (k p l e s m args below meth c D ca ad H locs ls C R hl)
theorem g_imul {y : Mr} {RQ : RQt} {nc ns pc pc1 : Nat} {L : List (Option Value)} {st : List Value} {S : Shp} {I : Iv} {J : Jv} {a b : Int32} (hd : Dc (yc y) pc (.imul) 1 pc1)  (k : G y RQ nc ns pc1 L (.int (a * b) :: st) S I J) : G y RQ nc ns pc L (.int b :: .int a :: st) S I J := by
  obtain ⟨hd, rfl⟩ := hd
  intro p l e s m args below meth c D ca ad H locs ls C R hl
  exact lv_imul C.1 C.2.1 hd  (k p l e s m args below meth c D ca ad H locs ls C R hl)
theorem g_iand {y : Mr} {RQ : RQt} {nc ns pc pc1 : Nat} {L : List (Option Value)} {st : List Value} {S : Shp} {I : Iv} {J : Jv} {a b : Int32} (hd : Dc (yc y) pc (.iand) 1 pc1)  (k : G y RQ nc ns pc1 L (.int (a &&& b) :: st) S I J) : G y RQ nc ns pc L (.int b :: .int a :: st) S I J := by
  obtain ⟨hd, rfl⟩ := hd
  intro p l e s m args below meth c D ca ad H locs ls C R hl
  exact lv_iand C.1 C.2.1 hd  (k p l e s m args below meth c D ca ad H locs ls C R hl)
theorem g_ior {y : Mr} {RQ : RQt} {nc ns pc pc1 : Nat} {L : List (Option Value)} {st : List Value} {S : Shp} {I : Iv} {J : Jv} {a b : Int32} (hd : Dc (yc y) pc (.ior) 1 pc1)  (k : G y RQ nc ns pc1 L (.int (a ||| b) :: st) S I J) : G y RQ nc ns pc L (.int b :: .int a :: st) S I J := by
  obtain ⟨hd, rfl⟩ := hd
  intro p l e s m args below meth c D ca ad H locs ls C R hl
  exact lv_ior C.1 C.2.1 hd  (k p l e s m args below meth c D ca ad H locs ls C R hl)
theorem g_ixor {y : Mr} {RQ : RQt} {nc ns pc pc1 : Nat} {L : List (Option Value)} {st : List Value} {S : Shp} {I : Iv} {J : Jv} {a b : Int32} (hd : Dc (yc y) pc (.ixor) 1 pc1)  (k : G y RQ nc ns pc1 L (.int (a ^^^ b) :: st) S I J) : G y RQ nc ns pc L (.int b :: .int a :: st) S I J := by
  obtain ⟨hd, rfl⟩ := hd
  intro p l e s m args below meth c D ca ad H locs ls C R hl
  exact lv_ixor C.1 C.2.1 hd  (k p l e s m args below meth c D ca ad H locs ls C R hl)
theorem g_ladd {y : Mr} {RQ : RQt} {nc ns pc pc1 : Nat} {L : List (Option Value)} {st : List Value} {S : Shp} {I : Iv} {J : Jv} {a b : Int64} (hd : Dc (yc y) pc (.ladd) 1 pc1)  (k : G y RQ nc ns pc1 L (.long (a + b) :: st) S I J) : G y RQ nc ns pc L (.long b :: .long a :: st) S I J := by
  obtain ⟨hd, rfl⟩ := hd
  intro p l e s m args below meth c D ca ad H locs ls C R hl
  exact lv_ladd C.1 C.2.1 hd  (k p l e s m args below meth c D ca ad H locs ls C R hl)
theorem g_lsub {y : Mr} {RQ : RQt} {nc ns pc pc1 : Nat} {L : List (Option Value)} {st : List Value} {S : Shp} {I : Iv} {J : Jv} {a b : Int64} (hd : Dc (yc y) pc (.lsub) 1 pc1)  (k : G y RQ nc ns pc1 L (.long (a - b) :: st) S I J) : G y RQ nc ns pc L (.long b :: .long a :: st) S I J := by
  obtain ⟨hd, rfl⟩ := hd
  intro p l e s m args below meth c D ca ad H locs ls C R hl
  exact lv_lsub C.1 C.2.1 hd  (k p l e s m args below meth c D ca ad H locs ls C R hl)
theorem g_lmul {y : Mr} {RQ : RQt} {nc ns pc pc1 : Nat} {L : List (Option Value)} {st : List Value} {S : Shp} {I : Iv} {J : Jv} {a b : Int64} (hd : Dc (yc y) pc (.lmul) 1 pc1)  (k : G y RQ nc ns pc1 L (.long (a * b) :: st) S I J) : G y RQ nc ns pc L (.long b :: .long a :: st) S I J := by
  obtain ⟨hd, rfl⟩ := hd
  intro p l e s m args below meth c D ca ad H locs ls C R hl
  exact lv_lmul C.1 C.2.1 hd  (k p l e s m args below meth c D ca ad H locs ls C R hl)
theorem g_land {y : Mr} {RQ : RQt} {nc ns pc pc1 : Nat} {L : List (Option Value)} {st : List Value} {S : Shp} {I : Iv} {J : Jv} {a b : Int64} (hd : Dc (yc y) pc (.land) 1 pc1)  (k : G y RQ nc ns pc1 L (.long (a &&& b) :: st) S I J) : G y RQ nc ns pc L (.long b :: .long a :: st) S I J := by
  obtain ⟨hd, rfl⟩ := hd
  intro p l e s m args below meth c D ca ad H locs ls C R hl
  exact lv_land C.1 C.2.1 hd  (k p l e s m args below meth c D ca ad H locs ls C R hl)
theorem g_lor {y : Mr} {RQ : RQt} {nc ns pc pc1 : Nat} {L : List (Option Value)} {st : List Value} {S : Shp} {I : Iv} {J : Jv} {a b : Int64} (hd : Dc (yc y) pc (.lor) 1 pc1)  (k : G y RQ nc ns pc1 L (.long (a ||| b) :: st) S I J) : G y RQ nc ns pc L (.long b :: .long a :: st) S I J := by
  obtain ⟨hd, rfl⟩ := hd
  intro p l e s m args below meth c D ca ad H locs ls C R hl
  exact lv_lor C.1 C.2.1 hd  (k p l e s m args below meth c D ca ad H locs ls C R hl)
theorem g_lxor {y : Mr} {RQ : RQt} {nc ns pc pc1 : Nat} {L : List (Option Value)} {st : List Value} {S : Shp} {I : Iv} {J : Jv} {a b : Int64} (hd : Dc (yc y) pc (.lxor) 1 pc1)  (k : G y RQ nc ns pc1 L (.long (a ^^^ b) :: st) S I J) : G y RQ nc ns pc L (.long b :: .long a :: st) S I J := by
  obtain ⟨hd, rfl⟩ := hd
  intro p l e s m args below meth c D ca ad H locs ls C R hl
  exact lv_lxor C.1 C.2.1 hd  (k p l e s m args below meth c D ca ad H locs ls C R hl)
theorem g_idiv {y : Mr} {RQ : RQt} {nc ns pc pc1 : Nat} {L : List (Option Value)} {st : List Value} {S : Shp} {I : Iv} {J : Jv} {a b : Int32} (hd : Dc (yc y) pc (.idiv) 1 pc1) (hb : ¬ b = 0) (k : G y RQ nc ns pc1 L (.int (a / b) :: st) S I J) : G y RQ nc ns pc L (.int b :: .int a :: st) S I J := by
  obtain ⟨hd, rfl⟩ := hd
  intro p l e s m args below meth c D ca ad H locs ls C R hl
  exact lv_idiv C.1 C.2.1 hd hb (k p l e s m args below meth c D ca ad H locs ls C R hl)
theorem g_ldiv {y : Mr} {RQ : RQt} {nc ns pc pc1 : Nat} {L : List (Option Value)} {st : List Value} {S : Shp} {I : Iv} {J : Jv} {a b : Int64} (hd : Dc (yc y) pc (.ldiv) 1 pc1) (hb : ¬ b = 0) (k : G y RQ nc ns pc1 L (.long (a / b) :: st) S I J) : G y RQ nc ns pc L (.long b :: .long a :: st) S I J := by
  obtain ⟨hd, rfl⟩ := hd
  intro p l e s m args below meth c D ca ad H locs ls C R hl
  exact lv_ldiv C.1 C.2.1 hd hb (k p l e s m args below meth c D ca ad H locs ls C R hl)
theorem g_irem {y : Mr} {RQ : RQt} {nc ns pc pc1 : Nat} {L : List (Option Value)} {st : List Value} {S : Shp} {I : Iv} {J : Jv} {a b : Int32} (hd : Dc (yc y) pc (.irem) 1 pc1) (hb : ¬ b = 0) (k : G y RQ nc ns pc1 L (.int (a - a / b * b) :: st) S I J) : G y RQ nc ns pc L (.int b :: .int a :: st) S I J := by
  obtain ⟨hd, rfl⟩ := hd
  intro p l e s m args below meth c D ca ad H locs ls C R hl
  exact lv_irem C.1 C.2.1 hd hb (k p l e s m args below meth c D ca ad H locs ls C R hl)
theorem g_lrem {y : Mr} {RQ : RQt} {nc ns pc pc1 : Nat} {L : List (Option Value)} {st : List Value} {S : Shp} {I : Iv} {J : Jv} {a b : Int64} (hd : Dc (yc y) pc (.lrem) 1 pc1) (hb : ¬ b = 0) (k : G y RQ nc ns pc1 L (.long (a - a / b * b) :: st) S I J) : G y RQ nc ns pc L (.long b :: .long a :: st) S I J := by
  obtain ⟨hd, rfl⟩ := hd
  intro p l e s m args below meth c D ca ad H locs ls C R hl
  exact lv_lrem C.1 C.2.1 hd hb (k p l e s m args below meth c D ca ad H locs ls C R hl)
theorem g_ineg {y : Mr} {RQ : RQt} {nc ns pc pc1 : Nat} {L : List (Option Value)} {st : List Value} {S : Shp} {I : Iv} {J : Jv} {a : Int32} (hd : Dc (yc y) pc (.ineg) 1 pc1)  (k : G y RQ nc ns pc1 L (.int (-a) :: st) S I J) : G y RQ nc ns pc L (.int a :: st) S I J := by
  obtain ⟨hd, rfl⟩ := hd
  intro p l e s m args below meth c D ca ad H locs ls C R hl
  exact lv_ineg C.1 C.2.1 hd  (k p l e s m args below meth c D ca ad H locs ls C R hl)
theorem g_lneg {y : Mr} {RQ : RQt} {nc ns pc pc1 : Nat} {L : List (Option Value)} {st : List Value} {S : Shp} {I : Iv} {J : Jv} {a : Int64} (hd : Dc (yc y) pc (.lneg) 1 pc1)  (k : G y RQ nc ns pc1 L (.long (-a) :: st) S I J) : G y RQ nc ns pc L (.long a :: st) S I J := by
  obtain ⟨hd, rfl⟩ := hd
  intro p l e s m args below meth c D ca ad H locs ls C R hl
  exact lv_lneg C.1 C.2.1 hd  (k p l e s m args below meth c D ca ad H locs ls C R hl)
theorem g_ishl {y : Mr} {RQ : RQt} {nc ns pc pc1 : Nat} {L : List (Option Value)} {st : List Value} {S : Shp} {I : Iv} {J : Jv} {a b : Int32} (hd : Dc (yc y) pc (.ishl) 1 pc1)  (k : G y RQ nc ns pc1 L (.int (a <<< (b &&& 31)) :: st) S I J) : G y RQ nc ns pc L (.int b :: .int a :: st) S I J := by
  obtain ⟨hd, rfl⟩ := hd
  intro p l e s m args below meth c D ca ad H locs ls C R hl
  exact lv_ishl C.1 C.2.1 hd  (k p l e s m args below meth c D ca ad H locs ls C R hl)
theorem g_ishr {y : Mr} {RQ : RQt} {nc ns pc pc1 : Nat} {L : List (Option Value)} {st : List Value} {S : Shp} {I : Iv} {J : Jv} {a b : Int32} (hd : Dc (yc y) pc (.ishr) 1 pc1)  (k : G y RQ nc ns pc1 L (.int (a >>> (b &&& 31)) :: st) S I J) : G y RQ nc ns pc L (.int b :: .int a :: st) S I J := by
  obtain ⟨hd, rfl⟩ := hd
  intro p l e s m args below meth c D ca ad H locs ls C R hl
  exact lv_ishr C.1 C.2.1 hd  (k p l e s m args below meth c D ca ad H locs ls C R hl)
theorem g_iushr {y : Mr} {RQ : RQt} {nc ns pc pc1 : Nat} {L : List (Option Value)} {st : List Value} {S : Shp} {I : Iv} {J : Jv} {a b : Int32} (hd : Dc (yc y) pc (.iushr) 1 pc1)  (k : G y RQ nc ns pc1 L (.int (a.toUInt32 >>> (b.toUInt32 &&& Int32.toUInt32 31)).toInt32 :: st) S I J) : G y RQ nc ns pc L (.int b :: .int a :: st) S I J := by
  obtain ⟨hd, rfl⟩ := hd
  intro p l e s m args below meth c D ca ad H locs ls C R hl
  exact lv_iushr C.1 C.2.1 hd rfl (k p l e s m args below meth c D ca ad H locs ls C R hl)
theorem g_lshl {y : Mr} {RQ : RQt} {nc ns pc pc1 : Nat} {L : List (Option Value)} {st : List Value} {S : Shp} {I : Iv} {J : Jv} {a : Int64} {b : Int32} (hd : Dc (yc y) pc (.lshl) 1 pc1)  (k : G y RQ nc ns pc1 L (.long (a <<< (b.toInt64 &&& 63)) :: st) S I J) : G y RQ nc ns pc L (.int b :: .long a :: st) S I J := by
  obtain ⟨hd, rfl⟩ := hd
  intro p l e s m args below meth c D ca ad H locs ls C R hl
  exact lv_lshl C.1 C.2.1 hd rfl (k p l e s m args below meth c D ca ad H locs ls C R hl)
theorem g_lshr {y : Mr} {RQ : RQt} {nc ns pc pc1 : Nat} {L : List (Option Value)} {st : List Value} {S : Shp} {I : Iv} {J : Jv} {a : Int64} {b : Int32} (hd : Dc (yc y) pc (.lshr) 1 pc1)  (k : G y RQ nc ns pc1 L (.long (a >>> (b.toInt64 &&& 63)) :: st) S I J) : G y RQ nc ns pc L (.int b :: .long a :: st) S I J := by
  obtain ⟨hd, rfl⟩ := hd
  intro p l e s m args below meth c D ca ad H locs ls C R hl
  exact lv_lshr C.1 C.2.1 hd rfl (k p l e s m args below meth c D ca ad H locs ls C R hl)
theorem g_lushr {y : Mr} {RQ : RQt} {nc ns pc pc1 : Nat} {L : List (Option Value)} {st : List Value} {S : Shp} {I : Iv} {J : Jv} {a : Int64} {b : Int32} (hd : Dc (yc y) pc (.lushr) 1 pc1)  (k : G y RQ nc ns pc1 L (.long (a.toUInt64 >>> (b.toInt64.toUInt64 &&& Int64.toUInt64 63)).toInt64 :: st) S I J) : G y RQ nc ns pc L (.int b :: .long a :: st) S I J := by
  obtain ⟨hd, rfl⟩ := hd
  intro p l e s m args below meth c D ca ad H locs ls C R hl
  exact lv_lushr C.1 C.2.1 hd rfl (k p l e s m args below meth c D ca ad H locs ls C R hl)
theorem g_i2l {y : Mr} {RQ : RQt} {nc ns pc pc1 : Nat} {L : List (Option Value)} {st : List Value} {S : Shp} {I : Iv} {J : Jv} {a : Int32} (hd : Dc (yc y) pc (.i2l) 1 pc1)  (k : G y RQ nc ns pc1 L (.long a.toInt64 :: st) S I J) : G y RQ nc ns pc L (.int a :: st) S I J := by
  obtain ⟨hd, rfl⟩ := hd
  intro p l e s m args below meth c D ca ad H locs ls C R hl
  exact lv_i2l C.1 C.2.1 hd rfl (k p l e s m args below meth c D ca ad H locs ls C R hl)
theorem g_l2i {y : Mr} {RQ : RQt} {nc ns pc pc1 : Nat} {L : List (Option Value)} {st : List Value} {S : Shp} {I : Iv} {J : Jv} {a : Int64} (hd : Dc (yc y) pc (.l2i) 1 pc1)  (k : G y RQ nc ns pc1 L (.int a.toInt32 :: st) S I J) : G y RQ nc ns pc L (.long a :: st) S I J := by
  obtain ⟨hd, rfl⟩ := hd
  intro p l e s m args below meth c D ca ad H locs ls C R hl
  exact lv_l2i C.1 C.2.1 hd rfl (k p l e s m args below meth c D ca ad H locs ls C R hl)
theorem g_i2b {y : Mr} {RQ : RQt} {nc ns pc pc1 : Nat} {L : List (Option Value)} {st : List Value} {S : Shp} {I : Iv} {J : Jv} {a : Int32} (hd : Dc (yc y) pc (.i2b) 1 pc1)  (k : G y RQ nc ns pc1 L (.int a.toInt8.toInt32 :: st) S I J) : G y RQ nc ns pc L (.int a :: st) S I J := by
  obtain ⟨hd, rfl⟩ := hd
  intro p l e s m args below meth c D ca ad H locs ls C R hl
  exact lv_i2b C.1 C.2.1 hd rfl (k p l e s m args below meth c D ca ad H locs ls C R hl)
theorem g_i2c {y : Mr} {RQ : RQt} {nc ns pc pc1 : Nat} {L : List (Option Value)} {st : List Value} {S : Shp} {I : Iv} {J : Jv} {a : Int32} (hd : Dc (yc y) pc (.i2c) 1 pc1)  (k : G y RQ nc ns pc1 L (.int (a.toUInt32 % 65536).toInt32 :: st) S I J) : G y RQ nc ns pc L (.int a :: st) S I J := by
  obtain ⟨hd, rfl⟩ := hd
  intro p l e s m args below meth c D ca ad H locs ls C R hl
  exact lv_i2c C.1 C.2.1 hd rfl (k p l e s m args below meth c D ca ad H locs ls C R hl)
theorem g_dup {y : Mr} {RQ : RQt} {nc ns pc pc1 : Nat} {L : List (Option Value)} {st : List Value} {S : Shp} {I : Iv} {J : Jv} {v : Value} (hd : Dc (yc y) pc (.dup) 1 pc1) (hv : v.category = 1) (k : G y RQ nc ns pc1 L (v :: v :: st) S I J) : G y RQ nc ns pc L (v :: st) S I J := by
  obtain ⟨hd, rfl⟩ := hd
  intro p l e s m args below meth c D ca ad H locs ls C R hl
  exact lv_dup C.1 C.2.1 hd ((rl_cat ad v).trans hv) (k p l e s m args below meth c D ca ad H locs ls C R hl)
theorem g_pop {y : Mr} {RQ : RQt} {nc ns pc pc1 : Nat} {L : List (Option Value)} {st : List Value} {S : Shp} {I : Iv} {J : Jv} {v : Value} (hd : Dc (yc y) pc (.pop) 1 pc1) (hv : v.category = 1) (k : G y RQ nc ns pc1 L (st) S I J) : G y RQ nc ns pc L (v :: st) S I J := by
  obtain ⟨hd, rfl⟩ := hd
  intro p l e s m args below meth c D ca ad H locs ls C R hl
  exact lv_pop C.1 C.2.1 hd ((rl_cat ad v).trans hv) (k p l e s m args below meth c D ca ad H locs ls C R hl)
theorem g_pop2 {y : Mr} {RQ : RQt} {nc ns pc pc1 : Nat} {L : List (Option Value)} {st : List Value} {S : Shp} {I : Iv} {J : Jv} {v : Value} (hd : Dc (yc y) pc (.pop2) 1 pc1) (hv : v.category = 2) (k : G y RQ nc ns pc1 L (st) S I J) : G y RQ nc ns pc L (v :: st) S I J := by
  obtain ⟨hd, rfl⟩ := hd
  intro p l e s m args below meth c D ca ad H locs ls C R hl
  exact lv_pop2_2 C.1 C.2.1 hd ((rl_cat ad v).trans hv) (k p l e s m args below meth c D ca ad H locs ls C R hl)
theorem g_dup_x1 {y : Mr} {RQ : RQt} {nc ns pc pc1 : Nat} {L : List (Option Value)} {st : List Value} {S : Shp} {I : Iv} {J : Jv} {v w : Value} (hd : Dc (yc y) pc (.dup_x1) 1 pc1) (hv : v.category = 1) (hw : w.category = 1) (k : G y RQ nc ns pc1 L (v :: w :: v :: st) S I J) : G y RQ nc ns pc L (v :: w :: st) S I J := by
  obtain ⟨hd, rfl⟩ := hd
  intro p l e s m args below meth c D ca ad H locs ls C R hl
  exact lv_dup_x1 C.1 C.2.1 hd ((rl_cat ad v).trans hv) ((rl_cat ad w).trans hw) (k p l e s m args below meth c D ca ad H locs ls C R hl)
theorem g_dup2 {y : Mr} {RQ : RQt} {nc ns pc pc1 : Nat} {L : List (Option Value)} {st : List Value} {S : Shp} {I : Iv} {J : Jv} {v w : Value} (hd : Dc (yc y) pc (.dup2) 1 pc1) (hv : v.category = 1) (hw : w.category = 1) (k : G y RQ nc ns pc1 L (v :: w :: v :: w :: st) S I J) : G y RQ nc ns pc L (v :: w :: st) S I J := by
  obtain ⟨hd, rfl⟩ := hd
  intro p l e s m args below meth c D ca ad H locs ls C R hl
  exact lv_dup2_11 C.1 C.2.1 hd ((rl_cat ad v).trans hv) ((rl_cat ad w).trans hw) (k p l e s m args below meth c D ca ad H locs ls C R hl)
theorem g_dup2_2 {y : Mr} {RQ : RQt} {nc ns pc pc1 : Nat} {L : List (Option Value)} {st : List Value} {S : Shp} {I : Iv} {J : Jv} {v : Value} (hd : Dc (yc y) pc (.dup2) 1 pc1) (hv : v.category = 2) (k : G y RQ nc ns pc1 L (v :: v :: st) S I J) : G y RQ nc ns pc L (v :: st) S I J := by
  obtain ⟨hd, rfl⟩ := hd
  intro p l e s m args below meth c D ca ad H locs ls C R hl
  exact lv_dup2_2 C.1 C.2.1 hd ((rl_cat ad v).trans hv) (k p l e s m args below meth c D ca ad H locs ls C R hl)
def lcm (a b : Int64) : Int32 := if a > b then 1 else if a = b then 0 else -1
theorem g_if_eq {y : Mr} {RQ : RQt} {nc ns pc pc1 : Nat} {L : List (Option Value)} {st : List Value} {S : Shp} {I : Iv} {J : Jv} {off : Int} {tg : Nat} {a : Int32} (hd : Dj (yc y) pc (.ifCond .eq off) 3 pc1 off tg) (kt : a = 0 → G y RQ nc ns tg L st S I J) (kf : ¬ a = 0 → G y RQ nc ns pc1 L st S I J) : G y RQ nc ns pc L (.int a :: st) S I J := by
  obtain ⟨hd, rfl, ht⟩ := hd
  intro p l e s m args below meth c D ca ad H locs ls C R hl
  exact lv_if_eq C.1 C.2.1 hd ht (fun h => kt h p l e s m args below meth c D ca ad H locs ls C R hl) (fun h => kf h p l e s m args below meth c D ca ad H locs ls C R hl)
theorem g_icmp_eq {y : Mr} {RQ : RQt} {nc ns pc pc1 : Nat} {L : List (Option Value)} {st : List Value} {S : Shp} {I : Iv} {J : Jv} {off : Int} {tg : Nat} {a b : Int32} (hd : Dj (yc y) pc (.if_icmp .eq off) 3 pc1 off tg) (kt : a = b → G y RQ nc ns tg L st S I J) (kf : ¬ a = b → G y RQ nc ns pc1 L st S I J) : G y RQ nc ns pc L (.int b :: .int a :: st) S I J := by
  obtain ⟨hd, rfl, ht⟩ := hd
  intro p l e s m args below meth c D ca ad H locs ls C R hl
  exact lv_icmp_eq C.1 C.2.1 hd ht (fun h => kt h p l e s m args below meth c D ca ad H locs ls C R hl) (fun h => kf h p l e s m args below meth c D ca ad H locs ls C R hl)
theorem g_if_ne {y : Mr} {RQ : RQt} {nc ns pc pc1 : Nat} {L : List (Option Value)} {st : List Value} {S : Shp} {I : Iv} {J : Jv} {off : Int} {tg : Nat} {a : Int32} (hd : Dj (yc y) pc (.ifCond .ne off) 3 pc1 off tg) (kt : ¬ a = 0 → G y RQ nc ns tg L st S I J) (kf : a = 0 → G y RQ nc ns pc1 L st S I J) : G y RQ nc ns pc L (.int a :: st) S I J := by
  obtain ⟨hd, rfl, ht⟩ := hd
  intro p l e s m args below meth c D ca ad H locs ls C R hl
  exact lv_if_ne C.1 C.2.1 hd ht (fun h => kt h p l e s m args below meth c D ca ad H locs ls C R hl) (fun h => kf h p l e s m args below meth c D ca ad H locs ls C R hl)
theorem g_icmp_ne {y : Mr} {RQ : RQt} {nc ns pc pc1 : Nat} {L : List (Option Value)} {st : List Value} {S : Shp} {I : Iv} {J : Jv} {off : Int} {tg : Nat} {a b : Int32} (hd : Dj (yc y) pc (.if_icmp .ne off) 3 pc1 off tg) (kt : ¬ a = b → G y RQ nc ns tg L st S I J) (kf : a = b → G y RQ nc ns pc1 L st S I J) : G y RQ nc ns pc L (.int b :: .int a :: st) S I J := by
  obtain ⟨hd, rfl, ht⟩ := hd
  intro p l e s m args below meth c D ca ad H locs ls C R hl
  exact lv_icmp_ne C.1 C.2.1 hd ht (fun h => kt h p l e s m args below meth c D ca ad H locs ls C R hl) (fun h => kf h p l e s m args below meth c D ca ad H locs ls C R hl)
theorem g_if_lt {y : Mr} {RQ : RQt} {nc ns pc pc1 : Nat} {L : List (Option Value)} {st : List Value} {S : Shp} {I : Iv} {J : Jv} {off : Int} {tg : Nat} {a : Int32} (hd : Dj (yc y) pc (.ifCond .lt off) 3 pc1 off tg) (kt : a < 0 → G y RQ nc ns tg L st S I J) (kf : ¬ a < 0 → G y RQ nc ns pc1 L st S I J) : G y RQ nc ns pc L (.int a :: st) S I J := by
  obtain ⟨hd, rfl, ht⟩ := hd
  intro p l e s m args below meth c D ca ad H locs ls C R hl
  exact lv_if_lt C.1 C.2.1 hd ht (fun h => kt h p l e s m args below meth c D ca ad H locs ls C R hl) (fun h => kf h p l e s m args below meth c D ca ad H locs ls C R hl)
theorem g_icmp_lt {y : Mr} {RQ : RQt} {nc ns pc pc1 : Nat} {L : List (Option Value)} {st : List Value} {S : Shp} {I : Iv} {J : Jv} {off : Int} {tg : Nat} {a b : Int32} (hd : Dj (yc y) pc (.if_icmp .lt off) 3 pc1 off tg) (kt : a < b → G y RQ nc ns tg L st S I J) (kf : ¬ a < b → G y RQ nc ns pc1 L st S I J) : G y RQ nc ns pc L (.int b :: .int a :: st) S I J := by
  obtain ⟨hd, rfl, ht⟩ := hd
  intro p l e s m args below meth c D ca ad H locs ls C R hl
  exact lv_icmp_lt C.1 C.2.1 hd ht (fun h => kt h p l e s m args below meth c D ca ad H locs ls C R hl) (fun h => kf h p l e s m args below meth c D ca ad H locs ls C R hl)
theorem g_if_ge {y : Mr} {RQ : RQt} {nc ns pc pc1 : Nat} {L : List (Option Value)} {st : List Value} {S : Shp} {I : Iv} {J : Jv} {off : Int} {tg : Nat} {a : Int32} (hd : Dj (yc y) pc (.ifCond .ge off) 3 pc1 off tg) (kt : 0 ≤ a → G y RQ nc ns tg L st S I J) (kf : ¬ 0 ≤ a → G y RQ nc ns pc1 L st S I J) : G y RQ nc ns pc L (.int a :: st) S I J := by
  obtain ⟨hd, rfl, ht⟩ := hd
  intro p l e s m args below meth c D ca ad H locs ls C R hl
  exact lv_if_ge C.1 C.2.1 hd ht (fun h => kt h p l e s m args below meth c D ca ad H locs ls C R hl) (fun h => kf h p l e s m args below meth c D ca ad H locs ls C R hl)
theorem g_icmp_ge {y : Mr} {RQ : RQt} {nc ns pc pc1 : Nat} {L : List (Option Value)} {st : List Value} {S : Shp} {I : Iv} {J : Jv} {off : Int} {tg : Nat} {a b : Int32} (hd : Dj (yc y) pc (.if_icmp .ge off) 3 pc1 off tg) (kt : b ≤ a → G y RQ nc ns tg L st S I J) (kf : ¬ b ≤ a → G y RQ nc ns pc1 L st S I J) : G y RQ nc ns pc L (.int b :: .int a :: st) S I J := by
  obtain ⟨hd, rfl, ht⟩ := hd
  intro p l e s m args below meth c D ca ad H locs ls C R hl
  exact lv_icmp_ge C.1 C.2.1 hd ht (fun h => kt h p l e s m args below meth c D ca ad H locs ls C R hl) (fun h => kf h p l e s m args below meth c D ca ad H locs ls C R hl)
theorem g_if_gt {y : Mr} {RQ : RQt} {nc ns pc pc1 : Nat} {L : List (Option Value)} {st : List Value} {S : Shp} {I : Iv} {J : Jv} {off : Int} {tg : Nat} {a : Int32} (hd : Dj (yc y) pc (.ifCond .gt off) 3 pc1 off tg) (kt : 0 < a → G y RQ nc ns tg L st S I J) (kf : ¬ 0 < a → G y RQ nc ns pc1 L st S I J) : G y RQ nc ns pc L (.int a :: st) S I J := by
  obtain ⟨hd, rfl, ht⟩ := hd
  intro p l e s m args below meth c D ca ad H locs ls C R hl
  exact lv_if_gt C.1 C.2.1 hd ht (fun h => kt h p l e s m args below meth c D ca ad H locs ls C R hl) (fun h => kf h p l e s m args below meth c D ca ad H locs ls C R hl)
theorem g_icmp_gt {y : Mr} {RQ : RQt} {nc ns pc pc1 : Nat} {L : List (Option Value)} {st : List Value} {S : Shp} {I : Iv} {J : Jv} {off : Int} {tg : Nat} {a b : Int32} (hd : Dj (yc y) pc (.if_icmp .gt off) 3 pc1 off tg) (kt : b < a → G y RQ nc ns tg L st S I J) (kf : ¬ b < a → G y RQ nc ns pc1 L st S I J) : G y RQ nc ns pc L (.int b :: .int a :: st) S I J := by
  obtain ⟨hd, rfl, ht⟩ := hd
  intro p l e s m args below meth c D ca ad H locs ls C R hl
  exact lv_icmp_gt C.1 C.2.1 hd ht (fun h => kt h p l e s m args below meth c D ca ad H locs ls C R hl) (fun h => kf h p l e s m args below meth c D ca ad H locs ls C R hl)
theorem g_if_le {y : Mr} {RQ : RQt} {nc ns pc pc1 : Nat} {L : List (Option Value)} {st : List Value} {S : Shp} {I : Iv} {J : Jv} {off : Int} {tg : Nat} {a : Int32} (hd : Dj (yc y) pc (.ifCond .le off) 3 pc1 off tg) (kt : a ≤ 0 → G y RQ nc ns tg L st S I J) (kf : ¬ a ≤ 0 → G y RQ nc ns pc1 L st S I J) : G y RQ nc ns pc L (.int a :: st) S I J := by
  obtain ⟨hd, rfl, ht⟩ := hd
  intro p l e s m args below meth c D ca ad H locs ls C R hl
  exact lv_if_le C.1 C.2.1 hd ht (fun h => kt h p l e s m args below meth c D ca ad H locs ls C R hl) (fun h => kf h p l e s m args below meth c D ca ad H locs ls C R hl)
theorem g_icmp_le {y : Mr} {RQ : RQt} {nc ns pc pc1 : Nat} {L : List (Option Value)} {st : List Value} {S : Shp} {I : Iv} {J : Jv} {off : Int} {tg : Nat} {a b : Int32} (hd : Dj (yc y) pc (.if_icmp .le off) 3 pc1 off tg) (kt : a ≤ b → G y RQ nc ns tg L st S I J) (kf : ¬ a ≤ b → G y RQ nc ns pc1 L st S I J) : G y RQ nc ns pc L (.int b :: .int a :: st) S I J := by
  obtain ⟨hd, rfl, ht⟩ := hd
  intro p l e s m args below meth c D ca ad H locs ls C R hl
  exact lv_icmp_le C.1 C.2.1 hd ht (fun h => kt h p l e s m args below meth c D ca ad H locs ls C R hl) (fun h => kf h p l e s m args below meth c D ca ad H locs ls C R hl)
theorem g_goto {y : Mr} {RQ : RQt} {nc ns pc pc1 : Nat} {L : List (Option Value)} {st : List Value} {S : Shp} {I : Iv} {J : Jv} {off : Int} {tg : Nat} (hd : Dj (yc y) pc (.goto off) 3 pc1 off tg) (k : G y RQ nc ns tg L st S I J) : G y RQ nc ns pc L st S I J := by
  obtain ⟨hd, rfl, ht⟩ := hd
  intro p l e s m args below meth c D ca ad H locs ls C R hl
  exact lv_goto C.1 C.2.1 hd ht (k p l e s m args below meth c D ca ad H locs ls C R hl)
