def R_law : String := "ColdBoxLaw"
def lw_P (b : Addr) (xs : List Int32) (args : Array Value) (s : State) : Prop := args = #[.ref b] ∧ s.IntsAt b xs ∧ xs.length ≤ 3072 ∧ (Jvm.Cond.and given_1 narrow_1).before args s = true
def lw_Q (_ : Array Value) (s : State) (o : Outcome) (t : State) : Prop := o = .returned (some (.int 1)) ∧ Framed s o t [] 600000 7302249
def lw_Z (below : List Frame) (a : Array Value) (s : State) : State → Prop := fun t => ∃ o, t.status = .running ∧ Ended t below o ∧ lw_Q a s o t
/-- the law's own end, with 1 on the stack, nothing written that was there before, its room as the claim has it -/
theorem lw_ret {p : Program} {l : Launch} {e : Env} {s : State} {m : MethodId} {below : List Frame} {meth : Method} {c : Code} {b : Nat} (hx : p.tables.exec = Jvm.exec) (hb : c.code = code) (hr : meth.sig.returnType = ret) (hlocks : meth.locks = false) {pc : Nat} {H : Heap} {ls : Array Slot} (hdg : decode code pc = .ok (.ireturn, 1)) : W p l e room_1 s m #[Value.ref b] below meth c H [] 600000 7302249 (lw_Z below #[Value.ref b] s) (F0 m pc ls [.int 1]) := by
  intro T hT X
  obtain ⟨fs, hret, hrun, hended, hW, hframe⟩ := X.leave (v := some (.int 1)) (hlocks := hlocks) (fun h => by rw [hr] at h; cases h)
  have hmeth' : T.vm.method? m = some meth := X.method'
  refine ⟨T.setFrames fs, ?_, .returned (some (.int 1)), hrun, hended, rfl, ⟨_, rfl⟩, hW, hframe⟩
  jvm_step X.here [X.here.top, hx, hb, hdg, hmeth', hr, ret, narrow_b1]
  (try refine ⟨rfl, ?_⟩); (try refine ⟨rfl, ?_⟩)
  first | (intro acts; rw [hret _ acts rfl rfl rfl]) | rw [hret _ _ rfl rfl rfl]
  exact Steps.refl _
/-- what holds at the law's entry: the machine, the code, the tables' words (any of lw_tbl by 'hts w (by decide +kernel)'), the script of L ints xs at the cell b, what the Statement gives of the start (any of its parts by flat_of_before) -/
def lw_At (p : Program) (s : State) (m : MethodId) (meth : Method) (c : Code) (b L : Nat) (xs : Nat → Int32) : Prop :=
  p.tables.exec = Jvm.exec ∧ c.code = code ∧ meth.sig.returnType = ret ∧ c.maxLocals = 4 ∧ s.vm.findClass R_law = some m.cls ∧ (∀ w ∈ lw_tbl, w.before #[Value.ref b] s = true) ∧ va_X b L xs s s.heap ∧ b < s.heap.size ∧ meth.locks = false ∧ (Jvm.Cond.and given_1 narrow_1).before #[Value.ref b] s = true
/-! ===== the law: rows for the script, and its end ===== -/
def HXp (L : Nat) (xs : Nat → Int32) (ad : Nat → Nat) (s : State) (args : Array Value) : Prop := va_X (ad 5000000) L xs s s.heap ∧ ad 5000000 < s.heap.size ∧ ¬ aA ad (ad 5000000) ∧ args = #[.ref (ad 5000000)] ∧ ∀ a, aA ad a → s.heap.size ≤ a
def RQL (L : Nat) (xs : Nat → Int32) : RQt := fun D ca ad below args s t => HXp L xs ad s args → lw_Z below args s t
theorem g_triv {y : Mr} {L0 : Nat} {xs : Nat → Int32} {p : Program} {l : Launch} {e : Env} {s : State} {m : MethodId} {args : Array Value} {below : List Frame} {meth : Method} {c : Code} {D : va_G} {ca : FieldType → ClassId} {ad : Nat → Nat} {H : Heap} {locs : List Loc} {nc ns : Nat} {g : JFrame} (h : ¬ HXp L0 xs ad s args) : W p l e (yR y) s m args below meth c H locs nc ns (RQL L0 xs D ca ad below args s) g :=
  fun T hT X => ⟨T.setTop g, Steps.refl _, fun q => absurd q h⟩
theorem g_sld {y : Mr} {nc ns pc pc1 : Nat} {L : List (Option Value)} {st : List Value} {S : Shp} {I : Iv} {J : Jv} {L0 : Nat} {xs : Nat → Int32} {i : Int32} (hd : Dc (yc y) pc .iaload 1 pc1) (hi : 0 ≤ i ∧ i.toNatClampNeg < L0) (kk : G y (RQL L0 xs) nc ns pc1 L (.int (xs i.toNatClampNeg) :: st) S I J) : G y (RQL L0 xs) nc ns pc L (.int i :: .ref 5000000 :: st) S I J := by
  obtain ⟨hd, rfl⟩ := hd
  intro p l e s m args below meth c D ca ad H locs ls C R hl
  by_cases hx : HXp L0 xs ad s args
  · exact va_sld C.1 C.2.1 hx.1 hx.2.1 hx.2.2.1 R.2.2.2.1 (fun q => by rcases q with q | q; exact Int32.not_lt.mpr hi.1 q; omega) hd (kk p l e s m args below meth c D ca ad H locs ls C R hl)
  · exact g_triv hx
theorem g_slen {y : Mr} {nc ns pc pc1 : Nat} {L : List (Option Value)} {st : List Value} {S : Shp} {I : Iv} {J : Jv} {L0 : Nat} {xs : Nat → Int32} (hd : Dc (yc y) pc .arraylength 1 pc1) (kk : G y (RQL L0 xs) nc ns pc1 L (.int (Int32.ofNat L0) :: st) S I J) : G y (RQL L0 xs) nc ns pc L (.ref 5000000 :: st) S I J := by
  obtain ⟨hd, rfl⟩ := hd
  intro p l e s m args below meth c D ca ad H locs ls C R hl
  by_cases hx : HXp L0 xs ad s args
  · exact va_slen C.1 C.2.1 hx.1 hx.2.1 hx.2.2.1 R.2.2.2.1 hd (kk p l e s m args below meth c D ca ad H locs ls C R hl)
  · exact g_triv hx
theorem g_lret {y : Mr} {nc ns pc pc1 : Nat} {L : List (Option Value)} {S : Shp} {I : Iv} {J : Jv} {L0 : Nat} {xs : Nat → Int32} (hy : yc y = code ∧ yr y = ret ∧ yR y = room_1) (hd : Dc (yc y) pc .ireturn 1 pc1) (hr : nc ≤ 600000 ∧ ns ≤ 7302249) : G y (RQL L0 xs) nc ns pc L [.int 1] S I J := by
  obtain ⟨hd, -⟩ := hd
  intro p l e s m args below meth c D ca ad H locs ls C R hl
  by_cases hx : HXp L0 xs ad s args
  · obtain ⟨-, -, -, rfl, hnew⟩ := id hx
    refine va_forget (fun q hq => hnew _ (R.2.2.2.1.2.2 q hq)) ?_
    refine W.widen (k := 600000) (n := 7302249) hr.1 hr.2 ?_
    rw [hy.2.2]
    rw [hy.1] at hd
    intro T hT X
    obtain ⟨t, h1, h2⟩ := lw_ret (b := ad 5000000) C.1 (C.2.1.trans hy.1) (C.2.2.2.1.trans hy.2.1) C.2.2.2.2.2.2.2.1 hd T hT X
    exact ⟨t, h1, fun _ => h2⟩
  · exact g_triv hx
