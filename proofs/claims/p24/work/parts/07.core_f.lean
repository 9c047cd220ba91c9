theorem g_ireturn {y : Mr} {Q : Post} {nc ns pc pc1 : Nat} {L : List (Option Value)} {S : Shp} {I : Iv} {J : Jv} {ty : FieldType} {v : Int32} (hd : Dc (yc y) pc .ireturn 1 pc1) (hc : nc = (yR y).cells) (hs : ns = (yR y).slots) (hr : yr y = some ty) (hn : narrow ty (.int v) = .int v) (hQ : Q (some (.int v)) S I J) : G y (rq y Q) nc ns pc L [.int v] S I J := by
  obtain ⟨hd, rfl⟩ := hd
  subst hc; subst hs
  intro p l e s m args below meth c D ca ad H locs ls C R hl
  have hq : ∀ t : State, t.heap = H → s.WarmedH t.vm → Qcx D ca ad Q args s (.returned ((some (.int v) : Option Value).map (rl ad))) t := fun t ht hW => ⟨⟨_, S, I, J, rfl, hQ, Bb.of C R ht hW⟩, R.2.2.2.1.F ht⟩
  exact W.zret C.1 C.2.1 (C.2.2.2.1.trans hr) hn hq R.2.2.2.1.2.2 hd C.2.2.2.2.2.2.2.1
theorem g_lreturn {y : Mr} {Q : Post} {nc ns pc pc1 : Nat} {L : List (Option Value)} {S : Shp} {I : Iv} {J : Jv} {v : Int64} (hd : Dc (yc y) pc .lreturn 1 pc1) (hc : nc = (yR y).cells) (hs : ns = (yR y).slots) (hr : yr y = some .long) (hQ : Q (some (.long v)) S I J) : G y (rq y Q) nc ns pc L [.long v] S I J := by
  obtain ⟨hd, rfl⟩ := hd
  subst hc; subst hs
  intro p l e s m args below meth c D ca ad H locs ls C R hl
  have hq : ∀ t : State, t.heap = H → s.WarmedH t.vm → Qcx D ca ad Q args s (.returned ((some (.long v) : Option Value).map (rl ad))) t := fun t ht hW => ⟨⟨_, S, I, J, rfl, hQ, Bb.of C R ht hW⟩, R.2.2.2.1.F ht⟩
  exact W.lret C.1 C.2.1 (C.2.2.2.1.trans hr) hq R.2.2.2.1.2.2 hd C.2.2.2.2.2.2.2.1
theorem g_return {y : Mr} {Q : Post} {nc ns pc pc1 : Nat} {L : List (Option Value)} {S : Shp} {I : Iv} {J : Jv}  (hd : Dc (yc y) pc .return_ 1 pc1) (hc : nc = (yR y).cells) (hs : ns = (yR y).slots) (hr : yr y = none) (hQ : Q (none) S I J) : G y (rq y Q) nc ns pc L [] S I J := by
  obtain ⟨hd, rfl⟩ := hd
  subst hc; subst hs
  intro p l e s m args below meth c D ca ad H locs ls C R hl
  have hq : ∀ t : State, t.heap = H → s.WarmedH t.vm → Qcx D ca ad Q args s (.returned ((none : Option Value).map (rl ad))) t := fun t ht hW => ⟨⟨_, S, I, J, rfl, hQ, Bb.of C R ht hW⟩, R.2.2.2.1.F ht⟩
  exact W.vret C.1 C.2.1 (C.2.2.2.1.trans hr) hq R.2.2.2.1.2.2 hd C.2.2.2.2.2.2.2.1
theorem g_areturn {y : Mr} {Q : Post} {nc ns pc pc1 : Nat} {L : List (Option Value)} {S : Shp} {I : Iv} {J : Jv} {rt : FieldType} {r : Nat} (hd : Dc (yc y) pc .areturn 1 pc1) (hc : nc = (yR y).cells) (hs : ns = (yR y).slots) (hr : yr y = some rt) (hrt : (∃ n, rt = .object n) ∨ ∃ t, rt = .array t) (hQ : Q (some (.ref r)) S I J) : G y (rq y Q) nc ns pc L [.ref r] S I J := by
  obtain ⟨hd, rfl⟩ := hd
  subst hc; subst hs
  intro p l e s m args below meth c D ca ad H locs ls C R hl
  have hq : ∀ t : State, t.heap = H → s.WarmedH t.vm → Qcx D ca ad Q args s (.returned ((some (.ref r) : Option Value).map (rl ad))) t := fun t ht hW => ⟨⟨_, S, I, J, rfl, hQ, Bb.of C R ht hW⟩, R.2.2.2.1.F ht⟩
  exact W.aret C.1 C.2.1 (C.2.2.2.1.trans hr) hrt (Or.inr ⟨ad r, rfl⟩) hq R.2.2.2.1.2.2 hd C.2.2.2.2.2.2.2.1
theorem g_widen {y : Mr} {RQ : RQt} {nc ns nc' ns' pc : Nat} {L : List (Option Value)} {st : List Value} {S : Shp} {I : Iv} {J : Jv} (h1 : nc ≤ nc') (h2 : ns ≤ ns') (k : G y RQ nc' ns' pc L st S I J) : G y RQ nc ns pc L st S I J := by
  intro p l e s m args below meth c D ca ad H locs ls C R hl
  exact W.widen h1 h2 (k p l e s m args below meth c D ca ad H locs ls C R hl)
theorem g_sub {y : Mr} {RQ : RQt} {nc ns pc : Nat} {L : List (Option Value)} (L' : List (Option Value)) {st : List Value} {S : Shp} {I : Iv} {J : Jv} (hs : ∀ (j : Nat) (v : Value), L'[j]? = some (some v) → L[j]? = some (some v)) (k : G y RQ nc ns pc L' st S I J) : G y RQ nc ns pc L st S I J := by
  intro p l e s m args below meth c D ca ad H locs ls C R hl
  exact k p l e s m args below meth c D ca ad H locs ls C R (lp_sub hl hs)
def enL : List Value → List (Option Value)
  | [] => []
  | v :: vs => if v.category = 2 then some v :: none :: enL vs else some v :: enL vs
theorem enL_args {ad : Nat → Nat} : ∀ (av : List Value) (k : Nat), lpr ad k (enL av) = lv_args k (av.map (rl ad))
  | [], _ => rfl
  | v :: vs, k => by
    by_cases h : v.category = 2
    · simp only [enL, if_pos h, lpr, List.map_cons, lv_args, rl_cat, enL_args vs (k + 1 + 1)]
    · simp only [enL, if_neg h, lpr, List.map_cons, lv_args, rl_cat, enL_args vs (k + 1)]
theorem enL_len {ad : Nat → Nat} : ∀ (av : List Value), (lg_sl (av.map (rl ad))).length = (enL av).length
  | [] => rfl
  | v :: vs => by
    have := enL_len (ad := ad) vs
    by_cases h : v.category = 2
    · simp only [enL, if_pos h, List.map_cons, lg_sl, List.flatMap_cons, rl_cat, List.length_append, List.length_cons, List.length_nil] at this ⊢
      omega
    · simp only [enL, if_neg h, List.map_cons, lg_sl, List.flatMap_cons, rl_cat, List.length_append, List.length_cons, List.length_nil] at this ⊢
      omega
theorem lpr_none {ad : Nat → Nat} : ∀ (k n : Nat), lpr ad k (List.replicate n none) = []
  | _, 0 => rfl
  | k, n + 1 => by simp only [List.replicate_succ, lpr, lpr_none (k + 1) n]
theorem lpr_app {ad : Nat → Nat} : ∀ (A B : List (Option Value)) (k : Nat), lpr ad k (A ++ B) = lpr ad k A ++ lpr ad (k + A.length) B
  | [], B, k => by simp [lpr]
  | none :: A, B, k => by simp only [List.cons_append, lpr, lpr_app A B (k + 1), List.length_cons]; rw [show k + 1 + A.length = k + (A.length + 1) by omega]
  | some v :: A, B, k => by simp only [List.cons_append, lpr, lpr_app A B (k + 1), List.length_cons]; rw [show k + 1 + A.length = k + (A.length + 1) by omega]
theorem ct_of {y : Mr} {av : List Value} {S : Shp} {I : Iv} {J : Jv} {Q : Post} {L : List (Option Value)} (k : Nat) (hpl : plainName (yn y).cls = true) (hL : enL av ++ List.replicate k none = L) (hk : L.length = yl y) (h : G y (rq y Q) 0 0 0 L [] S I J) : Ct y av S I J Q := by
  intro l D ca ad hac
  refine Met.ofW (cc := yc y) (maxL := yl y) (ret := yr y) hpl rfl ?_
  intro p e s m args below meth c s₁ B hml hv
  obtain ⟨rfl, hz, hlen, hP, hK, hSt, hnb, hw⟩ := hv
  have hts0 := atoms_spec (ws := wsA y) B.pre
  have hlk : (enL av).length ≤ yl y := by rw [← hk, ← hL]; simp
  have hl := lv_entry (av.map (rl ad)) (n := yl y) (by rw [enL_len]; exact hlk)
  rw [lg_entry_eq]
  generalize (lg_sl (av.map (rl ad)) ++ List.replicate (yl y - (lg_sl (av.map (rl ad))).length) Slot.unset).toArray = ls at hl ⊢
  have hl2 : lv_has ls (yl y) (lpr ad 0 L) := by
    rw [← hL, lpr_app, lpr_none, List.append_nil, enL_args]
    exact hl
  exact h p l e s m _ below meth c D ca ad s.heap [] ls ⟨B.exec, B.bytes, hml, B.returns, findClass_of_methodNamed B.named, fun w hw => hts0 w (List.mem_cons_of_mem _ hw), hnb, B.notSynchronized, fun hi => (name_of_methodNamed B.named B.method).1.trans hi, hK, hSt, hac, by rw [hz]; omega⟩ ⟨hz, hlen, hP, va_S.rf, hw⟩ hl2
theorem Ct.mono {y : Mr} {av : List Value} {S : Shp} {I : Iv} {J : Jv} {Q Q' : Post} (h : Ct y av S I J Q) (hq : ∀ r S' I' J', Q r S' I' J' → Q' r S' I' J') : Ct y av S I J Q' := by
  intro l D ca ad hac
  have := h l D ca ad hac
  intro p e ha hc hk s m args below hf hp hP hT
  obtain ⟨k, o, h1, h2, h3, ⟨⟨⟨r, S', I', J', q1, q2, q3⟩, q4⟩, q5⟩⟩ := this p e ha hc hk s m args below hf hp hP hT
  exact ⟨k, o, h1, h2, h3, ⟨⟨⟨r, S', I', J', q1, hq _ _ _ _ q2, q3⟩, q4⟩, q5⟩⟩
abbrev Cs (y z : Mr) (n : Nat) : Prop := Cond.code (yn z) (yc z) (yl z) (yr z) ∈ TB ∧ Cond.initialized (yn z).cls ∈ TB ∧ ((yn z).cls ≠ "java/lang/invoke/MethodHandle" ∧ (yn z).cls ≠ "java/lang/invoke/VarHandle" ∧ (parseMethodDescriptor (yn z).desc).map (fun d => d.parameters.length) = some n) ∧ ((yR z).frames + 1 ≤ (yR y).frames ∧ 8 + (yl z + 11) + (yR z).locals ≤ (yR y).locals)
abbrev Lk (own : String) (idx : Nat) (x : MethodName) : Prop := Cond.methodLink own idx x ∈ TB ∨ ∃ h : String, Cond.methodLinkNest own idx x h ∈ NB
theorem bb_blind {D : va_G} {ca : FieldType → ClassId} {ad : Nat → Nat} {S : Shp} {I : Iv} {J : Jv} {av : List Value} : FrameBlind (va_Pc av (Bb D ca ad S I J)) := by
  intro a U g mk hq
  obtain ⟨h1, h2, h3, h4, h5, h6, h7, h8⟩ := hq
  exact ⟨h1, h2, h3, h4, va_K.moved (u := U) (U := U.calling g mk a) (Vm.Alike.refl U.vm) h5, Stt.warm (s := U) (U := U.calling g mk a) (State.WarmedH.refl U) h6, nb_warm (s := U) (U := U.calling g mk a) (State.WarmedH.refl U) h7, h8⟩
theorem map_toList {f : Value → Value} (r : Option Value) (st : List Value) : (r.map f).toList ++ st.map f = (r.toList ++ st).map f := by
  cases r <;> rfl
theorem after_call {y : Mr} {RQ : RQt} {nc ns mc ms pc : Nat} {L : List (Option Value)} {st0 : List Value} {st : List Value} {S : Shp} {I : Iv} {J : Jv} {Q : Post} {a : Array Value}
    {p : Program} {l : Launch} {e : Env} {s : State} {m : MethodId} {args : Array Value} {below : List Frame} {meth : Method} {c : Code} {D : va_G} {ca : FieldType → ClassId} {ad : Nat → Nat} {H : Heap} {locs : List Loc} {ls : Array Slot}
    (C : Cx y p s m args meth c D ca ad) (R : Rp ad ca D s S I J H locs) (hl : lv_has ls (yl y) (lpr ad 0 L))
    (hr : va_Run p l e (yR y) s m args below meth c H locs nc ns mc ms (F0 m pc ls st0) (st.map (rl ad)) (Qcx D ca ad Q a) (aA ad))
    (k : ∀ r S' I' J', Q r S' I' J' → G y RQ (nc + mc) (ns + ms) (pc + 3) L (r.toList ++ st) S' I' J') : W p l e (yR y) s m args below meth c H locs nc ns (RQ D ca ad below args s) (F0 m pc ls st0) := by
  intro T hT X
  obtain ⟨v, st₀, t, T', L', h0, X', hL, e1, e2, ⟨⟨r, S', I', J', hv, hq, hB⟩, hF⟩, stp⟩ := hr T hT X
  have hv := Outcome.returned.inj hv
  subst hv
  subst h0
  have hR : Rp ad ca D s S' I' J' T'.heap (locs ++ L') := by
    refine ⟨by rw [e1]; exact hB.1, hB.2.1, by rw [e1]; exact hB.2.2.1, ⟨Nat.le_trans R.2.2.2.1.1 (by rw [e1]; exact hF.1), fun q h1 h2 => ?_, fun q hq => ?_⟩, hB.2.2.2.2.2.2⟩
    · rw [e1, hF.2 q (Nat.lt_of_lt_of_le h1 R.2.2.2.1.1) h2]
      exact R.2.2.2.1.2.1 q h1 h2
    · rcases List.mem_append.mp hq with h | h
      · exact R.2.2.2.1.2.2 q h
      · exact hL q h
  have kk := k r S' I' J' hq p l e s m args below meth c D ca ad T'.heap (locs ++ L') ls C hR hl
  obtain ⟨t2, a1, b1⟩ := kk T' rfl X'
  refine ⟨t2, stp t2 ?_, b1⟩
  rw [map_toList]
  exact a1
theorem g_callV {y : Mr} {RQ : RQt} {nc ns pc pc1 : Nat} {L : List (Option Value)} {st : List Value} {S : Shp} {I : Iv} {J : Jv} {z : Mr} {idx n o ci : Nat} {fs : List (Option Nat ⊕ FieldType)} {q : vw_C} {Q : Post} (As : List Value) (hd : Dc (yc y) pc (.invokevirtual idx) 3 pc1) (cs : Cs y z n) (hlk : Lk (yn y).cls idx (yn z)) (hin : Cond.instanceMethod (yn z) ∈ TB) (hse : Cond.selects (yn z).cls (yn z) (yn z) ∈ TB) (hS : S[o]? = some (.inr (ci, fs))) (hc : vwCl[ci]? = some q) (hcn : q.1 = (yn z).cls)
    (hC : Ct z (.ref o :: As) S I J Q) (hn : As.length = n) (hcat : (st.map fun v => v.category).sum ≤ 8) (hroom : nc + (yR z).cells ≤ (yR y).cells ∧ ns + (yR z).slots ≤ (yR y).slots) (k : ∀ r S' I' J', Q r S' I' J' → G y RQ (nc + (yR z).cells) (ns + (yR z).slots) pc1 L (r.toList ++ st) S' I' J') : G y RQ nc ns pc L (As.reverse ++ .ref o :: st) S I J := by
  obtain ⟨hd, rfl⟩ := hd
  intro p l e s m args below meth c D ca ad H locs ls C R hl
  obtain ⟨hx, hb, hml, -, hown, hts, hnb, -, -, hK, hSt, hac, -⟩ := id C
  obtain ⟨hcode, hini, hdd, hR⟩ := cs
  have hM := hC l D ca ad hac
  have he := wl_at (ad := ad) (ca := ca) (I := I) (J := J) hS
  have hpre : PreV s H (yn z).cls (ad o) (va_Pc ((Value.ref o :: As).map (rl ad)) (Bb D ca ad S I J)) (As.map (rl ad)) := by
    refine ⟨bb_blind, ?_, fun U hU hW => ⟨rfl, Bb.of C R hU hW⟩⟩
    rw [← hcn]
    exact va_recv hK R.2.2.1 hc he
  have hstk : (F0 m pc ls ((As.reverse ++ .ref o :: st).map (rl ad))).stack = (As.map (rl ad)).reverse ++ .ref (ad o) :: st.map (rl ad) := by
    show (As.reverse ++ .ref o :: st).map (rl ad) = _
    rw [List.map_append, List.map_reverse]; rfl
  have hW8 : 2 * (F0 m pc ls ((As.reverse ++ .ref o :: st).map (rl ad))).monitorRoom + ((st.map (rl ad)).map fun v => v.category).sum ≤ 8 := by
    rw [rl_cats]; show 2 * 0 + _ ≤ 8; omega
  rcases hlk with hlk | ⟨h, hlk⟩
  · exact after_call C R hl (va_runV ⟨hx, hb, hml, hown, hts⟩ hM ⟨callB_of n hts (good_TB hcode) rfl rfl rfl (hts _ hini) (hts _ hlk) hdd hR, hts _ hin, hts _ hse⟩ hpre rfl (by rw [List.length_map]; exact hn) hl.1 hstk hW8 hd hroom) k
  · exact after_call C R hl (va_runVN ⟨hx, hb, hml, hown, hts⟩ hM ⟨va_cnB n hts (good_TB hcode) rfl rfl rfl (hnb _ hlk) (hts _ hini) hdd hR, hts _ hin, hts _ hse⟩ hpre rfl (by rw [List.length_map]; exact hn) hl.1 hstk hW8 hd hroom) k
theorem g_callI {y : Mr} {RQ : RQt} {nc ns pc pc1 : Nat} {L : List (Option Value)} {st : List Value} {S : Shp} {I : Iv} {J : Jv} {z : Mr} {idx n o : Nat} {Q : Post} (As : List Value) (hd : Dc (yc y) pc (.invokespecial idx) 3 pc1) (cs : Cs y z n) (hz : (yn z).name = "<init>" ∧ yr z = none) (hlk : Lk (yn y).cls idx (yn z)) (hin : Cond.instanceMethod (yn z) ∈ TB)
    (hC : Ct z (.ref o :: As) S I J Q) (hn : As.length = n) (hcat : (st.map fun v => v.category).sum ≤ 8) (hroom : nc + (yR z).cells ≤ (yR y).cells ∧ ns + (yR z).slots ≤ (yR y).slots) (k : ∀ r S' I' J', Q r S' I' J' → G y RQ (nc + (yR z).cells) (ns + (yR z).slots) pc1 L (r.toList ++ st) S' I' J') : G y RQ nc ns pc L (As.reverse ++ .ref o :: st) S I J := by
  obtain ⟨hd, rfl⟩ := hd
  intro p l e s m args below meth c D ca ad H locs ls C R hl
  obtain ⟨hx, hb, hml, -, hown, hts, hnb, -, -, hK, hSt, hac, -⟩ := id C
  obtain ⟨hcode, hini, hdd, hR⟩ := cs
  have hg := good_TB hcode
  rw [hz.2] at hcode
  have hM := hC l D ca ad hac
  have hpre : PreS s H (va_Pc ((Value.ref o :: As).map (rl ad)) (Bb D ca ad S I J)) (.ref (ad o) :: As.map (rl ad)) := ⟨bb_blind, fun U hU hW => ⟨rfl, Bb.of C R hU hW⟩⟩
  have hstk : (F0 m pc ls ((As.reverse ++ .ref o :: st).map (rl ad))).stack = (As.map (rl ad)).reverse ++ .ref (ad o) :: st.map (rl ad) := by
    show (As.reverse ++ .ref o :: st).map (rl ad) = _
    rw [List.map_append, List.map_reverse]; rfl
  have hW8 : 2 * (F0 m pc ls ((As.reverse ++ .ref o :: st).map (rl ad))).monitorRoom + ((st.map (rl ad)).map fun v => v.category).sum ≤ 8 := by
    rw [rl_cats]; show 2 * 0 + _ ≤ 8; omega
  have hws : wsA z = Cond.code (yn z) (yc z) (yl z) none :: TB := by unfold wsA; rw [hz.2]
  rcases hlk with hlk | ⟨h, hlk⟩
  · exact after_call C R hl (va_runI ⟨hx, hb, hml, hown, hts⟩ hM ⟨callB_of n hts hg hws rfl rfl (hts _ hini) (hts _ hlk) hdd hR, hz.1, hts _ hin⟩ hpre rfl (by rw [List.length_map]; exact hn) hl.1 hstk hW8 hd hroom) k
  · exact after_call C R hl (va_runIN ⟨hx, hb, hml, hown, hts⟩ hM ⟨va_cnB n hts hg hws rfl rfl (hnb _ hlk) (hts _ hini) hdd hR, hz.1, hts _ hin⟩ hpre rfl (by rw [List.length_map]; exact hn) hl.1 hstk hW8 hd hroom) k
theorem g_callS {y : Mr} {RQ : RQt} {nc ns pc pc1 : Nat} {L : List (Option Value)} {st : List Value} {S : Shp} {I : Iv} {J : Jv} {z : Mr} {idx n : Nat} {Q : Post} (As : List Value) (hd : Dc (yc y) pc (.invokestatic idx) 3 pc1) (cs : Cs y z n) (hlk : Lk (yn y).cls idx (yn z)) (hstt : Cond.static (yn z) ∈ TB)
    (hC : Ct z As S I J Q) (hn : As.length = n) (hcat : (st.map fun v => v.category).sum ≤ 8) (hroom : nc + (yR z).cells ≤ (yR y).cells ∧ ns + (yR z).slots ≤ (yR y).slots) (k : ∀ r S' I' J', Q r S' I' J' → G y RQ (nc + (yR z).cells) (ns + (yR z).slots) pc1 L (r.toList ++ st) S' I' J') : G y RQ nc ns pc L (As.reverse ++ st) S I J := by
  obtain ⟨hd, rfl⟩ := hd
  intro p l e s m args below meth c D ca ad H locs ls C R hl
  obtain ⟨hx, hb, hml, -, hown, hts, hnb, -, -, hK, hSt, hac, -⟩ := id C
  obtain ⟨hcode, hini, hdd, hR⟩ := cs
  have hM := hC l D ca ad hac
  have hpre : PreS s H (va_Pc (As.map (rl ad)) (Bb D ca ad S I J)) (As.map (rl ad)) := ⟨bb_blind, fun U hU hW => ⟨rfl, Bb.of C R hU hW⟩⟩
  have hstk : (F0 m pc ls ((As.reverse ++ st).map (rl ad))).stack = (As.map (rl ad)).reverse ++ st.map (rl ad) := by
    show (As.reverse ++ st).map (rl ad) = _
    rw [List.map_append, List.map_reverse]
  have hW8 : 2 * (F0 m pc ls ((As.reverse ++ st).map (rl ad))).monitorRoom + ((st.map (rl ad)).map fun v => v.category).sum ≤ 8 := by
    rw [rl_cats]; show 2 * 0 + _ ≤ 8; omega
  rcases hlk with hlk | ⟨h, hlk⟩
  · exact after_call C R hl (va_runS ⟨hx, hb, hml, hown, hts⟩ hM ⟨callB_of n hts (good_TB hcode) rfl rfl rfl (hts _ hini) (hts _ hlk) hdd hR, hts _ hstt⟩ hpre rfl (by rw [List.length_map]; exact hn) hl.1 hstk hW8 hd hroom) k
  · exact after_call C R hl (va_runSN ⟨hx, hb, hml, hown, hts⟩ hM ⟨va_cnB n hts (good_TB hcode) rfl rfl rfl (hnb _ hlk) (hts _ hini) hdd hR, hts _ hstt, trivial⟩ hpre rfl (by rw [List.length_map]; exact hn) hl.1 hstk hW8 hd hroom) k
theorem g_V0 {y : Mr} {RQ : RQt} {nc ns pc pc1 : Nat} {L : List (Option Value)} {st : List Value} {S : Shp} {I : Iv} {J : Jv} {z : Mr} {idx o ci : Nat}  {fs : List (Option Nat ⊕ FieldType)} {q : vw_C} {Q : Post} (hd : Dc (yc y) pc (.invokevirtual idx) 3 pc1) (cs : Cs y z 0) (hlk : Lk (yn y).cls idx (yn z)) (hin : Cond.instanceMethod (yn z) ∈ TB) (hse : Cond.selects (yn z).cls (yn z) (yn z) ∈ TB) (hS : S[o]? = some (.inr (ci, fs))) (hc : vwCl[ci]? = some q) (hcn : q.1 = (yn z).cls) (hcat : (st.map fun v => v.category).sum ≤ 8) (hz0 : (yR z).cells = 0 ∧ (yR z).slots = 0) (hroom : nc ≤ (yR y).cells ∧ ns ≤ (yR y).slots) (hC : Ct z (.ref o :: []) S I J Q) (k : ∀ r S' I' J', Q r S' I' J' → G y RQ nc ns pc1 L (r.toList ++ st) S' I' J') : G y RQ nc ns pc L (.ref o :: st) S I J :=
  g_callV [] hd cs hlk hin hse hS hc hcn hC rfl hcat (by rw [hz0.1, hz0.2]; exact hroom) (by rw [hz0.1, hz0.2]; exact k)
theorem g_V1 {y : Mr} {RQ : RQt} {nc ns pc pc1 : Nat} {L : List (Option Value)} {st : List Value} {S : Shp} {I : Iv} {J : Jv} {z : Mr} {idx o ci : Nat} {x1 : Value} {fs : List (Option Nat ⊕ FieldType)} {q : vw_C} {Q : Post} (hd : Dc (yc y) pc (.invokevirtual idx) 3 pc1) (cs : Cs y z 1) (hlk : Lk (yn y).cls idx (yn z)) (hin : Cond.instanceMethod (yn z) ∈ TB) (hse : Cond.selects (yn z).cls (yn z) (yn z) ∈ TB) (hS : S[o]? = some (.inr (ci, fs))) (hc : vwCl[ci]? = some q) (hcn : q.1 = (yn z).cls) (hcat : (st.map fun v => v.category).sum ≤ 8) (hz0 : (yR z).cells = 0 ∧ (yR z).slots = 0) (hroom : nc ≤ (yR y).cells ∧ ns ≤ (yR y).slots) (hC : Ct z (.ref o :: [x1]) S I J Q) (k : ∀ r S' I' J', Q r S' I' J' → G y RQ nc ns pc1 L (r.toList ++ st) S' I' J') : G y RQ nc ns pc L (x1 :: .ref o :: st) S I J :=
  g_callV [x1] hd cs hlk hin hse hS hc hcn hC rfl hcat (by rw [hz0.1, hz0.2]; exact hroom) (by rw [hz0.1, hz0.2]; exact k)
theorem g_V2 {y : Mr} {RQ : RQt} {nc ns pc pc1 : Nat} {L : List (Option Value)} {st : List Value} {S : Shp} {I : Iv} {J : Jv} {z : Mr} {idx o ci : Nat} {x1 x2 : Value} {fs : List (Option Nat ⊕ FieldType)} {q : vw_C} {Q : Post} (hd : Dc (yc y) pc (.invokevirtual idx) 3 pc1) (cs : Cs y z 2) (hlk : Lk (yn y).cls idx (yn z)) (hin : Cond.instanceMethod (yn z) ∈ TB) (hse : Cond.selects (yn z).cls (yn z) (yn z) ∈ TB) (hS : S[o]? = some (.inr (ci, fs))) (hc : vwCl[ci]? = some q) (hcn : q.1 = (yn z).cls) (hcat : (st.map fun v => v.category).sum ≤ 8) (hz0 : (yR z).cells = 0 ∧ (yR z).slots = 0) (hroom : nc ≤ (yR y).cells ∧ ns ≤ (yR y).slots) (hC : Ct z (.ref o :: [x1, x2]) S I J Q) (k : ∀ r S' I' J', Q r S' I' J' → G y RQ nc ns pc1 L (r.toList ++ st) S' I' J') : G y RQ nc ns pc L (x2 :: x1 :: .ref o :: st) S I J :=
  g_callV [x1, x2] hd cs hlk hin hse hS hc hcn hC rfl hcat (by rw [hz0.1, hz0.2]; exact hroom) (by rw [hz0.1, hz0.2]; exact k)
theorem g_V3 {y : Mr} {RQ : RQt} {nc ns pc pc1 : Nat} {L : List (Option Value)} {st : List Value} {S : Shp} {I : Iv} {J : Jv} {z : Mr} {idx o ci : Nat} {x1 x2 x3 : Value} {fs : List (Option Nat ⊕ FieldType)} {q : vw_C} {Q : Post} (hd : Dc (yc y) pc (.invokevirtual idx) 3 pc1) (cs : Cs y z 3) (hlk : Lk (yn y).cls idx (yn z)) (hin : Cond.instanceMethod (yn z) ∈ TB) (hse : Cond.selects (yn z).cls (yn z) (yn z) ∈ TB) (hS : S[o]? = some (.inr (ci, fs))) (hc : vwCl[ci]? = some q) (hcn : q.1 = (yn z).cls) (hcat : (st.map fun v => v.category).sum ≤ 8) (hz0 : (yR z).cells = 0 ∧ (yR z).slots = 0) (hroom : nc ≤ (yR y).cells ∧ ns ≤ (yR y).slots) (hC : Ct z (.ref o :: [x1, x2, x3]) S I J Q) (k : ∀ r S' I' J', Q r S' I' J' → G y RQ nc ns pc1 L (r.toList ++ st) S' I' J') : G y RQ nc ns pc L (x3 :: x2 :: x1 :: .ref o :: st) S I J :=
  g_callV [x1, x2, x3] hd cs hlk hin hse hS hc hcn hC rfl hcat (by rw [hz0.1, hz0.2]; exact hroom) (by rw [hz0.1, hz0.2]; exact k)
theorem g_V4 {y : Mr} {RQ : RQt} {nc ns pc pc1 : Nat} {L : List (Option Value)} {st : List Value} {S : Shp} {I : Iv} {J : Jv} {z : Mr} {idx o ci : Nat} {x1 x2 x3 x4 : Value} {fs : List (Option Nat ⊕ FieldType)} {q : vw_C} {Q : Post} (hd : Dc (yc y) pc (.invokevirtual idx) 3 pc1) (cs : Cs y z 4) (hlk : Lk (yn y).cls idx (yn z)) (hin : Cond.instanceMethod (yn z) ∈ TB) (hse : Cond.selects (yn z).cls (yn z) (yn z) ∈ TB) (hS : S[o]? = some (.inr (ci, fs))) (hc : vwCl[ci]? = some q) (hcn : q.1 = (yn z).cls) (hcat : (st.map fun v => v.category).sum ≤ 8) (hz0 : (yR z).cells = 0 ∧ (yR z).slots = 0) (hroom : nc ≤ (yR y).cells ∧ ns ≤ (yR y).slots) (hC : Ct z (.ref o :: [x1, x2, x3, x4]) S I J Q) (k : ∀ r S' I' J', Q r S' I' J' → G y RQ nc ns pc1 L (r.toList ++ st) S' I' J') : G y RQ nc ns pc L (x4 :: x3 :: x2 :: x1 :: .ref o :: st) S I J :=
  g_callV [x1, x2, x3, x4] hd cs hlk hin hse hS hc hcn hC rfl hcat (by rw [hz0.1, hz0.2]; exact hroom) (by rw [hz0.1, hz0.2]; exact k)
theorem g_V5 {y : Mr} {RQ : RQt} {nc ns pc pc1 : Nat} {L : List (Option Value)} {st : List Value} {S : Shp} {I : Iv} {J : Jv} {z : Mr} {idx o ci : Nat} {x1 x2 x3 x4 x5 : Value} {fs : List (Option Nat ⊕ FieldType)} {q : vw_C} {Q : Post} (hd : Dc (yc y) pc (.invokevirtual idx) 3 pc1) (cs : Cs y z 5) (hlk : Lk (yn y).cls idx (yn z)) (hin : Cond.instanceMethod (yn z) ∈ TB) (hse : Cond.selects (yn z).cls (yn z) (yn z) ∈ TB) (hS : S[o]? = some (.inr (ci, fs))) (hc : vwCl[ci]? = some q) (hcn : q.1 = (yn z).cls) (hcat : (st.map fun v => v.category).sum ≤ 8) (hz0 : (yR z).cells = 0 ∧ (yR z).slots = 0) (hroom : nc ≤ (yR y).cells ∧ ns ≤ (yR y).slots) (hC : Ct z (.ref o :: [x1, x2, x3, x4, x5]) S I J Q) (k : ∀ r S' I' J', Q r S' I' J' → G y RQ nc ns pc1 L (r.toList ++ st) S' I' J') : G y RQ nc ns pc L (x5 :: x4 :: x3 :: x2 :: x1 :: .ref o :: st) S I J :=
  g_callV [x1, x2, x3, x4, x5] hd cs hlk hin hse hS hc hcn hC rfl hcat (by rw [hz0.1, hz0.2]; exact hroom) (by rw [hz0.1, hz0.2]; exact k)
theorem g_V6 {y : Mr} {RQ : RQt} {nc ns pc pc1 : Nat} {L : List (Option Value)} {st : List Value} {S : Shp} {I : Iv} {J : Jv} {z : Mr} {idx o ci : Nat} {x1 x2 x3 x4 x5 x6 : Value} {fs : List (Option Nat ⊕ FieldType)} {q : vw_C} {Q : Post} (hd : Dc (yc y) pc (.invokevirtual idx) 3 pc1) (cs : Cs y z 6) (hlk : Lk (yn y).cls idx (yn z)) (hin : Cond.instanceMethod (yn z) ∈ TB) (hse : Cond.selects (yn z).cls (yn z) (yn z) ∈ TB) (hS : S[o]? = some (.inr (ci, fs))) (hc : vwCl[ci]? = some q) (hcn : q.1 = (yn z).cls) (hcat : (st.map fun v => v.category).sum ≤ 8) (hz0 : (yR z).cells = 0 ∧ (yR z).slots = 0) (hroom : nc ≤ (yR y).cells ∧ ns ≤ (yR y).slots) (hC : Ct z (.ref o :: [x1, x2, x3, x4, x5, x6]) S I J Q) (k : ∀ r S' I' J', Q r S' I' J' → G y RQ nc ns pc1 L (r.toList ++ st) S' I' J') : G y RQ nc ns pc L (x6 :: x5 :: x4 :: x3 :: x2 :: x1 :: .ref o :: st) S I J :=
  g_callV [x1, x2, x3, x4, x5, x6] hd cs hlk hin hse hS hc hcn hC rfl hcat (by rw [hz0.1, hz0.2]; exact hroom) (by rw [hz0.1, hz0.2]; exact k)
theorem g_S0 {y : Mr} {RQ : RQt} {nc ns pc pc1 : Nat} {L : List (Option Value)} {st : List Value} {S : Shp} {I : Iv} {J : Jv} {z : Mr} {idx : Nat}  {Q : Post} (hd : Dc (yc y) pc (.invokestatic idx) 3 pc1) (cs : Cs y z 0) (hlk : Lk (yn y).cls idx (yn z)) (hstt : Cond.static (yn z) ∈ TB) (hcat : (st.map fun v => v.category).sum ≤ 8) (hz0 : (yR z).cells = 0 ∧ (yR z).slots = 0) (hroom : nc ≤ (yR y).cells ∧ ns ≤ (yR y).slots) (hC : Ct z [] S I J Q) (k : ∀ r S' I' J', Q r S' I' J' → G y RQ nc ns pc1 L (r.toList ++ st) S' I' J') : G y RQ nc ns pc L (st) S I J :=
  g_callS [] hd cs hlk hstt hC rfl hcat (by rw [hz0.1, hz0.2]; exact hroom) (by rw [hz0.1, hz0.2]; exact k)
theorem g_S1 {y : Mr} {RQ : RQt} {nc ns pc pc1 : Nat} {L : List (Option Value)} {st : List Value} {S : Shp} {I : Iv} {J : Jv} {z : Mr} {idx : Nat} {x1 : Value} {Q : Post} (hd : Dc (yc y) pc (.invokestatic idx) 3 pc1) (cs : Cs y z 1) (hlk : Lk (yn y).cls idx (yn z)) (hstt : Cond.static (yn z) ∈ TB) (hcat : (st.map fun v => v.category).sum ≤ 8) (hz0 : (yR z).cells = 0 ∧ (yR z).slots = 0) (hroom : nc ≤ (yR y).cells ∧ ns ≤ (yR y).slots) (hC : Ct z [x1] S I J Q) (k : ∀ r S' I' J', Q r S' I' J' → G y RQ nc ns pc1 L (r.toList ++ st) S' I' J') : G y RQ nc ns pc L (x1 :: st) S I J :=
  g_callS [x1] hd cs hlk hstt hC rfl hcat (by rw [hz0.1, hz0.2]; exact hroom) (by rw [hz0.1, hz0.2]; exact k)
theorem g_S2 {y : Mr} {RQ : RQt} {nc ns pc pc1 : Nat} {L : List (Option Value)} {st : List Value} {S : Shp} {I : Iv} {J : Jv} {z : Mr} {idx : Nat} {x1 x2 : Value} {Q : Post} (hd : Dc (yc y) pc (.invokestatic idx) 3 pc1) (cs : Cs y z 2) (hlk : Lk (yn y).cls idx (yn z)) (hstt : Cond.static (yn z) ∈ TB) (hcat : (st.map fun v => v.category).sum ≤ 8) (hz0 : (yR z).cells = 0 ∧ (yR z).slots = 0) (hroom : nc ≤ (yR y).cells ∧ ns ≤ (yR y).slots) (hC : Ct z [x1, x2] S I J Q) (k : ∀ r S' I' J', Q r S' I' J' → G y RQ nc ns pc1 L (r.toList ++ st) S' I' J') : G y RQ nc ns pc L (x2 :: x1 :: st) S I J :=
  g_callS [x1, x2] hd cs hlk hstt hC rfl hcat (by rw [hz0.1, hz0.2]; exact hroom) (by rw [hz0.1, hz0.2]; exact k)
theorem g_S3 {y : Mr} {RQ : RQt} {nc ns pc pc1 : Nat} {L : List (Option Value)} {st : List Value} {S : Shp} {I : Iv} {J : Jv} {z : Mr} {idx : Nat} {x1 x2 x3 : Value} {Q : Post} (hd : Dc (yc y) pc (.invokestatic idx) 3 pc1) (cs : Cs y z 3) (hlk : Lk (yn y).cls idx (yn z)) (hstt : Cond.static (yn z) ∈ TB) (hcat : (st.map fun v => v.category).sum ≤ 8) (hz0 : (yR z).cells = 0 ∧ (yR z).slots = 0) (hroom : nc ≤ (yR y).cells ∧ ns ≤ (yR y).slots) (hC : Ct z [x1, x2, x3] S I J Q) (k : ∀ r S' I' J', Q r S' I' J' → G y RQ nc ns pc1 L (r.toList ++ st) S' I' J') : G y RQ nc ns pc L (x3 :: x2 :: x1 :: st) S I J :=
  g_callS [x1, x2, x3] hd cs hlk hstt hC rfl hcat (by rw [hz0.1, hz0.2]; exact hroom) (by rw [hz0.1, hz0.2]; exact k)
theorem g_S4 {y : Mr} {RQ : RQt} {nc ns pc pc1 : Nat} {L : List (Option Value)} {st : List Value} {S : Shp} {I : Iv} {J : Jv} {z : Mr} {idx : Nat} {x1 x2 x3 x4 : Value} {Q : Post} (hd : Dc (yc y) pc (.invokestatic idx) 3 pc1) (cs : Cs y z 4) (hlk : Lk (yn y).cls idx (yn z)) (hstt : Cond.static (yn z) ∈ TB) (hcat : (st.map fun v => v.category).sum ≤ 8) (hz0 : (yR z).cells = 0 ∧ (yR z).slots = 0) (hroom : nc ≤ (yR y).cells ∧ ns ≤ (yR y).slots) (hC : Ct z [x1, x2, x3, x4] S I J Q) (k : ∀ r S' I' J', Q r S' I' J' → G y RQ nc ns pc1 L (r.toList ++ st) S' I' J') : G y RQ nc ns pc L (x4 :: x3 :: x2 :: x1 :: st) S I J :=
  g_callS [x1, x2, x3, x4] hd cs hlk hstt hC rfl hcat (by rw [hz0.1, hz0.2]; exact hroom) (by rw [hz0.1, hz0.2]; exact k)
theorem g_S5 {y : Mr} {RQ : RQt} {nc ns pc pc1 : Nat} {L : List (Option Value)} {st : List Value} {S : Shp} {I : Iv} {J : Jv} {z : Mr} {idx : Nat} {x1 x2 x3 x4 x5 : Value} {Q : Post} (hd : Dc (yc y) pc (.invokestatic idx) 3 pc1) (cs : Cs y z 5) (hlk : Lk (yn y).cls idx (yn z)) (hstt : Cond.static (yn z) ∈ TB) (hcat : (st.map fun v => v.category).sum ≤ 8) (hz0 : (yR z).cells = 0 ∧ (yR z).slots = 0) (hroom : nc ≤ (yR y).cells ∧ ns ≤ (yR y).slots) (hC : Ct z [x1, x2, x3, x4, x5] S I J Q) (k : ∀ r S' I' J', Q r S' I' J' → G y RQ nc ns pc1 L (r.toList ++ st) S' I' J') : G y RQ nc ns pc L (x5 :: x4 :: x3 :: x2 :: x1 :: st) S I J :=
  g_callS [x1, x2, x3, x4, x5] hd cs hlk hstt hC rfl hcat (by rw [hz0.1, hz0.2]; exact hroom) (by rw [hz0.1, hz0.2]; exact k)
theorem g_I0 {y : Mr} {RQ : RQt} {nc ns pc pc1 : Nat} {L : List (Option Value)} {st : List Value} {S : Shp} {I : Iv} {J : Jv} {z : Mr} {idx o nc1 ns1 : Nat}  {Q : Post} (hd : Dc (yc y) pc (.invokespecial idx) 3 pc1) (cs : Cs y z 0) (hz : (yn z).name = "<init>" ∧ yr z = none) (hlk : Lk (yn y).cls idx (yn z)) (hin : Cond.instanceMethod (yn z) ∈ TB) (hcat : (st.map fun v => v.category).sum ≤ 8) (hz0 : nc + (yR z).cells = nc1 ∧ ns + (yR z).slots = ns1) (hroom : nc1 ≤ (yR y).cells ∧ ns1 ≤ (yR y).slots) (hC : Ct z (.ref o :: []) S I J Q) (k : ∀ r S' I' J', Q r S' I' J' → G y RQ nc1 ns1 pc1 L (r.toList ++ st) S' I' J') : G y RQ nc ns pc L (.ref o :: st) S I J :=
  g_callI [] hd cs hz hlk hin hC rfl hcat (by rw [hz0.1, hz0.2]; exact hroom) (by rw [hz0.1, hz0.2]; exact k)
theorem g_I1 {y : Mr} {RQ : RQt} {nc ns pc pc1 : Nat} {L : List (Option Value)} {st : List Value} {S : Shp} {I : Iv} {J : Jv} {z : Mr} {idx o nc1 ns1 : Nat} {x1 : Value} {Q : Post} (hd : Dc (yc y) pc (.invokespecial idx) 3 pc1) (cs : Cs y z 1) (hz : (yn z).name = "<init>" ∧ yr z = none) (hlk : Lk (yn y).cls idx (yn z)) (hin : Cond.instanceMethod (yn z) ∈ TB) (hcat : (st.map fun v => v.category).sum ≤ 8) (hz0 : nc + (yR z).cells = nc1 ∧ ns + (yR z).slots = ns1) (hroom : nc1 ≤ (yR y).cells ∧ ns1 ≤ (yR y).slots) (hC : Ct z (.ref o :: [x1]) S I J Q) (k : ∀ r S' I' J', Q r S' I' J' → G y RQ nc1 ns1 pc1 L (r.toList ++ st) S' I' J') : G y RQ nc ns pc L (x1 :: .ref o :: st) S I J :=
  g_callI [x1] hd cs hz hlk hin hC rfl hcat (by rw [hz0.1, hz0.2]; exact hroom) (by rw [hz0.1, hz0.2]; exact k)
theorem g_I2 {y : Mr} {RQ : RQt} {nc ns pc pc1 : Nat} {L : List (Option Value)} {st : List Value} {S : Shp} {I : Iv} {J : Jv} {z : Mr} {idx o nc1 ns1 : Nat} {x1 x2 : Value} {Q : Post} (hd : Dc (yc y) pc (.invokespecial idx) 3 pc1) (cs : Cs y z 2) (hz : (yn z).name = "<init>" ∧ yr z = none) (hlk : Lk (yn y).cls idx (yn z)) (hin : Cond.instanceMethod (yn z) ∈ TB) (hcat : (st.map fun v => v.category).sum ≤ 8) (hz0 : nc + (yR z).cells = nc1 ∧ ns + (yR z).slots = ns1) (hroom : nc1 ≤ (yR y).cells ∧ ns1 ≤ (yR y).slots) (hC : Ct z (.ref o :: [x1, x2]) S I J Q) (k : ∀ r S' I' J', Q r S' I' J' → G y RQ nc1 ns1 pc1 L (r.toList ++ st) S' I' J') : G y RQ nc ns pc L (x2 :: x1 :: .ref o :: st) S I J :=
  g_callI [x1, x2] hd cs hz hlk hin hC rfl hcat (by rw [hz0.1, hz0.2]; exact hroom) (by rw [hz0.1, hz0.2]; exact k)
