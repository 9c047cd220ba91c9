/-! ===== the law's entry: what the Statement gives of the start ===== -/
def FG : List Cond := flatC (Jvm.Cond.and given_1 narrow_1)
def pA : List Nat := [4, 59, 77, 22]
def pS : List Nat := [95, 104, 113, 123, 133, 145, 158, 170, 184, 200, 216, 234, 253, 274]
def nmA (j : Nat) : String := (stI.getD j default).1
def vsA (j : Nat) : List Int32 := (stI.getD j default).2
def tmA (j : Nat) : Term := .static "ColdBox" (nmA j) "[I"
def lnS : List Nat := stS.map fun q => q.2.2.length
def byS : List (List Int32) := stS.map fun q => q.2.2
def tmS (i : Nat) : Term := .string "ColdBox$Reader" (stS.getD i default).1
def vlS (i : Nat) : Term := .field (tmS i) "java/lang/String" "value" "[B"
set_option maxRecDepth 100000 in
theorem fa_arr : ∀ j : Nat, j < 4 → FG[pA.getD j 0 + 1]? = some (Cond.arrayOf (tmA j) .int) := by decide +kernel
set_option maxRecDepth 100000 in
theorem fa_len : ∀ j : Nat, j < 4 → FG[pA.getD j 0 + 2]? = some (Cond.eq (.length (tmA j)) (.int (Int32.ofNat (vsA j).length))) := by decide +kernel
set_option maxRecDepth 100000 in
theorem fa_el : ∀ j : Nat, j < 4 → ∀ i : Nat, i < (vsA j).length → FG[pA.getD j 0 + 3 + i]? = some (Cond.eq (.elem (tmA j) (.int (Int32.ofNat i))) (.int ((vsA j).getD i 0))) := by decide +kernel
set_option maxRecDepth 100000 in
theorem fs_ex : ∀ i : Nat, i < 14 → FG[pS.getD i 0]? = some (Cond.exactly (tmS i) "java/lang/String") := by decide +kernel
set_option maxRecDepth 100000 in
theorem fs_co : ∀ i : Nat, i < 14 → FG[pS.getD i 0 + 1]? = some (Cond.eq (.field (tmS i) "java/lang/String" "coder" "B") (.int 0)) := by decide +kernel
set_option maxRecDepth 100000 in
theorem fs_ar : ∀ i : Nat, i < 14 → FG[pS.getD i 0 + 2]? = some (Cond.arrayOf (vlS i) .byte) := by decide +kernel
set_option maxRecDepth 100000 in
theorem fs_le : ∀ i : Nat, i < 14 → FG[pS.getD i 0 + 3]? = some (Cond.eq (.length (vlS i)) (.int (Int32.ofNat (lnS.getD i 0)))) := by decide +kernel
set_option maxRecDepth 100000 in
theorem fs_el : ∀ i : Nat, i < 14 → ∀ j : Nat, j < lnS.getD i 0 → FG[pS.getD i 0 + 4 + j]? = some (Cond.eq (.elem (vlS i) (.int (Int32.ofNat j))) (.int ((byS.getD i []).getD j 0))) := by decide +kernel
set_option maxRecDepth 100000 in
theorem fs_ne : ∀ j : Nat, j < 14 → ∀ i : Nat, i < j → FG[pS.getD j 0 + 4 + lnS.getD j 0 + i]? = some (Cond.not (Cond.eq (tmS i) (tmS j))) := by decide +kernel
set_option maxRecDepth 100000 in
theorem f_cs : FG[54]? = some (Cond.eq (.static "java/lang/String" "COMPACT_STRINGS" "Z") (.int 1)) := by decide +kernel
set_option maxRecDepth 100000 in
theorem f_fm : FG[55]? = some (Cond.isRef (.static "jdk/internal/util/Preconditions" "SIOOBE_FORMATTER" "Ljava/util/function/BiFunction;")) := by decide +kernel
set_option maxRecDepth 100000 in
theorem f_ln : (∀ j : Nat, j < 4 → (vsA j).length < 100) ∧ ∀ i : Nat, i < 14 → lnS.getD i 0 < 100 := by decide +kernel
theorem ly_A : ∀ j : Nat, j < 4 → Cond.laysStatic "ColdBox" (nmA j) "[I" ∈ lw_tbl := by
  intro j hj
  match j, hj with
  | 0, _ => exact (List.mem_append_right _ (List.mem_of_getElem? (i := 82) (by decide +kernel)))
  | 1, _ => exact (List.mem_append_right _ (List.mem_of_getElem? (i := 513) (by decide +kernel)))
  | 2, _ => exact (List.mem_append_right _ (List.mem_of_getElem? (i := 515) (by decide +kernel)))
  | 3, _ => exact (List.mem_append_right _ (List.mem_of_getElem? (i := 244) (by decide +kernel)))
  | k + 4, h => exact absurd h (by omega)
theorem sr_S : ∀ j : Nat, j < 14 → Cond.stringRef "ColdBox$Reader" (stS.getD j default).1 (stS.getD j default).2.1 ∈ lw_tbl := by
  intro j hj
  match j, hj with
  | 0, _ => exact (List.mem_append_right _ (List.mem_of_getElem? (i := 439) (by decide +kernel)))
  | 1, _ => exact (List.mem_append_right _ (List.mem_of_getElem? (i := 440) (by decide +kernel)))
  | 2, _ => exact (List.mem_append_right _ (List.mem_of_getElem? (i := 441) (by decide +kernel)))
  | 3, _ => exact (List.mem_append_right _ (List.mem_of_getElem? (i := 442) (by decide +kernel)))
  | 4, _ => exact (List.mem_append_right _ (List.mem_of_getElem? (i := 443) (by decide +kernel)))
  | 5, _ => exact (List.mem_append_right _ (List.mem_of_getElem? (i := 444) (by decide +kernel)))
  | 6, _ => exact (List.mem_append_right _ (List.mem_of_getElem? (i := 445) (by decide +kernel)))
  | 7, _ => exact (List.mem_append_right _ (List.mem_of_getElem? (i := 446) (by decide +kernel)))
  | 8, _ => exact (List.mem_append_right _ (List.mem_of_getElem? (i := 447) (by decide +kernel)))
  | 9, _ => exact (List.mem_append_right _ (List.mem_of_getElem? (i := 448) (by decide +kernel)))
  | 10, _ => exact (List.mem_append_right _ (List.mem_of_getElem? (i := 449) (by decide +kernel)))
  | 11, _ => exact (List.mem_append_right _ (List.mem_of_getElem? (i := 450) (by decide +kernel)))
  | 12, _ => exact (List.mem_append_right _ (List.mem_of_getElem? (i := 451) (by decide +kernel)))
  | 13, _ => exact (List.mem_append_right _ (List.mem_of_getElem? (i := 549) (by decide +kernel)))
  | k + 14, h => exact absurd h (by omega)
theorem hkn {s : State} {a : Array Value} (hTB : ∀ c ∈ TB, c.before a s = true) : ∀ k : Nat, ∃ z : ClassId × (Nat → Nat), ∀ q : vw_C, vwCl[k]? = some q → u_Kn s q.1 q.2.1 q.2.2 z.1 z.2 := by
  have h0 : ∀ (k : Nat) (Cn : String) (T : u_T) (N : Nat), vwCl[k]? = some (Cn, T, N) → Cond.instantiable Cn N ∈ TB → ∃ z : ClassId × (Nat → Nat), ∀ q : vw_C, vwCl[k]? = some q → u_Kn s q.1 q.2.1 q.2.2 z.1 z.2 := by
    intro k Cn T N hk hw
    obtain ⟨c, i, h⟩ := u_known (n := N) hTB (cl_ok k Cn T N hk).1 (hTB _ hw)
    exact ⟨(c, i), fun q hq => by rw [hk] at hq; cases hq; exact h⟩
  obtain ⟨z0, hz0⟩ := h0 0 _ _ _ rfl tw_76
  intro k
  match k with
  | 0 => exact ⟨z0, hz0⟩
  | 1 => exact h0 1 _ _ _ rfl tw_217
  | 2 => exact h0 2 _ _ _ rfl tw_238
  | 3 => exact h0 3 _ _ _ rfl tw_95
  | 4 => exact h0 4 _ _ _ rfl tw_279
  | 5 => exact h0 5 _ _ _ rfl tw_29
  | 6 => exact h0 6 _ _ _ rfl tw_140
  | 7 => exact h0 7 _ _ _ rfl tw_117
  | 8 => exact h0 8 _ _ _ rfl tw_298
  | 9 => exact h0 9 _ _ _ rfl tw_21
  | 10 => exact h0 10 _ _ _ rfl tw_1083
  | k + 11 => exact ⟨z0, fun q hq => by simp [vwCl] at hq⟩
theorem harr {s : State} {a : Array Value} {ty : FieldType} (ht : ty = .int ∨ ty = .long ∨ ty = .boolean ∨ ty = .char) (h : (Cond.arrayClass ty).before a s = true) : ∃ cA : ClassId, ArrOfT s cA ty ∧ va_RA s cA ty := by
  obtain ⟨c, k, comp, h1, h2, h3⟩ := Cond.arrayClass_spec h
  refine ⟨c, fun n z => ⟨fun k h => (by cases h), k, h2, comp, h3⟩, ?_⟩
  rcases ht with rfl | rfl | rfl | rfl <;> exact h1
set_option maxRecDepth 100000 in
set_option maxHeartbeats 4000000 in
theorem whole_start {p : Program} {e : Env} {s : State} {m : MethodId} {below : List Frame} {meth : Method} {c : Code} (l : Launch) (hflags : l.flags = flags0) {b L : Nat} {xs : Nat → Int32} (hL : L ≤ 3072) (C0 : lw_At p s m meth c b L xs) : W p l e room_1 s m #[Value.ref b] below meth c s.heap [] 0 0 (lw_Z below #[Value.ref b] s) (entryFrame m ([Value.ref b] : List Value).toArray 4) := by
  obtain ⟨hx, hb, hr, hml, hown, hts, hX, hbl, hlocks, hgv⟩ := id C0
  have hTB : ∀ w ∈ TB, w.before #[Value.ref b] s = true := fun w hw => hts w (List.mem_filter.mp hw).1
  have hNB : ∀ w ∈ NB, va_Nw w s := by
    intro w hw
    have h2 := (List.mem_filter.mp hw).2
    have h1 := hts w (List.mem_append_right _ (List.mem_filter.mp hw).1)
    cases w <;> first | exact va_Nw.of rfl h1 | (simp [isNst] at h2)
  have hs : ∀ (k : Nat) (w : Cond), FG[k]? = some w → w.before #[Value.ref b] s = true := fun k w hk => flat_of_before _ hgv w (List.mem_of_getElem? hk)
  have hA : ∀ a : Nat, a < s.heap.size → ¬ (fun q : Nat => s.heap.size ≤ q) a := fun a h => Nat.not_le.mpr h
  -- classes
  obtain ⟨D0, hD0⟩ := Classical.axiomOfChoice (hkn hTB)
  obtain ⟨a1, u1⟩ := harr (ty := .int) (Or.inl rfl) (hTB _ tw_74)
  obtain ⟨a2, u2⟩ := harr (ty := .long) (Or.inr (Or.inl rfl)) (hTB _ tw_138)
  obtain ⟨a3, u3⟩ := harr (ty := .boolean) (Or.inr (Or.inr (Or.inl rfl))) (hTB _ tw_73)
  obtain ⟨a4, u4⟩ := harr (ty := .char) (Or.inr (Or.inr (Or.inr rfl))) (hTB _ tw_72)
  obtain ⟨ca, k1, k2, k3, k4⟩ : ∃ ca : FieldType → ClassId, ca .int = a1 ∧ ca .long = a2 ∧ ca .boolean = a3 ∧ ca .char = a4 := ⟨fun t => match t with | .int => a1 | .long => a2 | .boolean => a3 | _ => a4, rfl, rfl, rfl, rfl⟩
  have hK : va_K (fun k => (D0 k).1, fun k => (D0 k).2) vwCl (tyl ca) s := by
    refine ⟨fun k q hq => hD0 k q hq, fun k q hq => ?_⟩
    match k, hq with
    | 0, hq => cases hq; show ArrOfT s (ca .int) .int ∧ va_RA s (ca .int) .int; rw [k1]; exact u1
    | 1, hq => cases hq; show ArrOfT s (ca .long) .long ∧ va_RA s (ca .long) .long; rw [k2]; exact u2
    | 2, hq => cases hq; show ArrOfT s (ca .boolean) .boolean ∧ va_RA s (ca .boolean) .boolean; rw [k3]; exact u3
    | 3, hq => cases hq; show ArrOfT s (ca .char) .char ∧ va_RA s (ca .char) .char; rw [k4]; exact u4
    | k + 4, hq => simp [tyl] at hq
  -- statics
  have hT : ∀ j : Nat, ∃ t : Nat, j < 4 → (tmA j).eval #[Value.ref b] s none [] s = some (.ref t) ∧ va_T .int t (vsA j).length (fun i => .int ((vsA j).getD i 0)) (fun q : Nat => s.heap.size ≤ q) s s.heap := by
    intro j
    by_cases hj : j < 4
    · obtain ⟨t, q1, q2⟩ := va_Tof (f := fun i => .int ((vsA j).getD i 0)) (Nat.lt_trans (f_ln.1 j hj) (by decide)) (hs _ _ (fa_arr j hj)) (va_eqt (hs _ _ (fa_len j hj))) (fun i hi => va_eqt (hs _ _ (fa_el j hj i hi))) hA
      exact ⟨t, fun _ => ⟨q1, q2⟩⟩
    · exact ⟨0, fun h => absurd h hj⟩
  obtain ⟨tA, htA⟩ := Classical.axiomOfChoice hT
  obtain ⟨adK, adV, hvS, hvR⟩ := vk_Sof (N := 14) (tm := tmS) (len := lnS) (byt := byS) (A := fun q : Nat => s.heap.size ≤ q) (fun i hi => Nat.lt_trans (f_ln.2 i hi) (by decide)) (fun i hi => hs _ _ (fs_ex i hi)) (fun i hi => hs _ _ (fs_co i hi)) (fun i hi => hs _ _ (fs_ar i hi)) (fun i hi => hs _ _ (fs_le i hi)) (fun i hi j hj => hs _ _ (fs_el i hi j hj)) (fun i j hi hj hij => by
    rcases Nat.lt_or_gt_of_ne hij with h | h
    · exact Or.inl (hs _ _ (fs_ne j hj i h))
    · exact Or.inr (hs _ _ (fs_ne i hi j h))) hA
  have hCS := va_Zof (A := fun q : Nat => s.heap.size ≤ q) (hts _ (List.mem_append_right _ (List.mem_of_getElem? (i := 465) (by decide +kernel)))) (hTB _ tw_14) (va_eqt (hs _ _ f_cs)) hA
  have hFM := va_Zqof (A := fun q : Nat => s.heap.size ≤ q) (hts _ (List.mem_append_right _ (List.mem_of_getElem? (i := 481) (by decide +kernel)))) (hTB _ tw_16) (hs _ _ f_fm) hA
  obtain ⟨fm, hfm⟩ : ∃ fm : Nat, va_Z "jdk/internal/util/Preconditions" "SIOOBE_FORMATTER" "Ljava/util/function/BiFunction;" .null (fun q : Nat => s.heap.size ≤ q) s s.heap ∨ va_Z "jdk/internal/util/Preconditions" "SIOOBE_FORMATTER" "Ljava/util/function/BiFunction;" (.ref fm) (fun q : Nat => s.heap.size ≤ q) s s.heap := by
    rcases hFM with h | ⟨t, h⟩
    · exact ⟨0, Or.inl h⟩
    · exact ⟨t, Or.inr h⟩
  obtain ⟨ad, d0, d1, d2, d3, d4, d5⟩ : ∃ ad : Nat → Nat, (∀ k, k < 1000000 → ad k = s.heap.size + k) ∧ (∀ j, j < 4 → ad (1000000 + j) = tA j) ∧ (∀ j, j < 14 → ad (2000000 + j) = adK j) ∧ (∀ j, j < 14 → ad (3000000 + j) = adV j) ∧ ad 4000000 = fm ∧ ad 5000000 = b := by
    refine ⟨fun k => if k < 1000000 then s.heap.size + k else if k < 2000000 then tA (k - 1000000) else if k < 3000000 then adK (k - 2000000) else if k < 4000000 then adV (k - 3000000) else if k < 5000000 then fm else b, fun k hk => if_pos hk, fun j hj => ?_, fun j hj => ?_, fun j hj => ?_, ?_, ?_⟩
    · simp only [if_neg (show ¬ 1000000 + j < 1000000 by omega), if_pos (show 1000000 + j < 2000000 by omega), Nat.add_sub_cancel_left]
    · simp only [if_neg (show ¬ 2000000 + j < 1000000 by omega), if_neg (show ¬ 2000000 + j < 2000000 by omega), if_pos (show 2000000 + j < 3000000 by omega), Nat.add_sub_cancel_left]
    · simp only [if_neg (show ¬ 3000000 + j < 1000000 by omega), if_neg (show ¬ 3000000 + j < 2000000 by omega), if_neg (show ¬ 3000000 + j < 3000000 by omega), if_pos (show 3000000 + j < 4000000 by omega), Nat.add_sub_cancel_left]
    · simp only [if_neg (show ¬ 4000000 < 1000000 by omega), if_neg (show ¬ 4000000 < 2000000 by omega), if_neg (show ¬ 4000000 < 3000000 by omega), if_neg (show ¬ 4000000 < 4000000 by omega), if_pos (show 4000000 < 5000000 by omega)]
    · simp only [if_neg (show ¬ 5000000 < 1000000 by omega), if_neg (show ¬ 5000000 < 2000000 by omega), if_neg (show ¬ 5000000 < 3000000 by omega), if_neg (show ¬ 5000000 < 4000000 by omega), if_neg (show ¬ 5000000 < 5000000 by omega)]
  have d00 : ad 0 = s.heap.size := d0 0 (by omega)
  have eA : aA ad = fun q : Nat => s.heap.size ≤ q := by funext q; show (ad 0 ≤ q) = _; rw [d00]
  have hSt : Stt ad s s.heap := by
    unfold Stt
    rw [eA, d4]
    refine ⟨fun j nm vs hj => ?_, ⟨fun i hi => ?_, fun i j hi hj e => ?_⟩, fun j idx tx bb hj => ?_, hCS, hfm⟩
    · have hj4 : j < 4 := (List.getElem?_eq_some_iff.mp hj).1
      have e : stI.getD j default = (nm, vs) := by rw [List.getD_eq_getElem?_getD, hj]; rfl
      have e1 : nmA j = nm := by unfold nmA; rw [e]
      have e2 : vsA j = vs := by unfold vsA; rw [e]
      obtain ⟨q1, q2⟩ := htA j hj4
      have q3 := va_Zof (A := fun q : Nat => s.heap.size ≤ q) (hts _ (ly_A j hj4)) (hTB _ tw_1) q1 hA
      rw [d1 j hj4, ← e1, ← e2]
      exact ⟨q3, q2⟩
    · have q := hvS.1 i hi
      dsimp only; rw [d2 i hi, d3 i hi]; exact q
    · have e : ad (2000000 + i) = ad (2000000 + j) := e
      rw [d2 i hi, d2 j hj] at e; exact hvS.2 i j hi hj e
    · have hj4 : j < 14 := (List.getElem?_eq_some_iff.mp hj).1
      have e : stS.getD j default = (idx, tx, bb) := by rw [List.getD_eq_getElem?_getD, hj]; rfl
      have q1 := hts _ (sr_S j hj4)
      have q2 := hvR j hj4
      rw [d2 j hj4]
      unfold tmS at q2
      rw [e] at q1 q2
      exact vk_R.of q1 q2
  have hl := lv_entry ([.ref b]) (n := 4) (Nat.le_of_ble_eq_true rfl)
  rw [lg_entry_eq]
  generalize (lg_sl ([.ref b]) ++ List.replicate (4 - (lg_sl ([.ref b])).length) Slot.unset).toArray = ls at hl ⊢
  have hl2 : lv_has ls (yl m_L_law) (lpr ad 0 [some (.ref 5000000), none, none, none]) := by
    show lv_has ls 4 [(0, .ref (ad 5000000))]
    rw [d5]; exact hl
  have hac : adC ad := fun k hk => by rw [d0 k hk, d00]
  have hXp : HXp L xs ad s #[Value.ref b] := by
    refine ⟨by rw [d5]; exact hX, by rw [d5]; exact hbl, by rw [d5]; show ¬ ad 0 ≤ b; rw [d00]; omega, by rw [d5], fun a ha => ?_⟩
    have ha : ad 0 ≤ a := ha
    rw [d00] at ha; exact ha
  have K := law_start (xs := xs) (I := fun _ _ => 0) (J := fun _ _ => 0) hL p l e s m #[Value.ref b] below meth c (fun k => (D0 k).1, fun k => (D0 k).2) ca ad s.heap [] ls ⟨hx, hb, hml, hr, hown, hTB, hNB, hlocks, fun h => absurd h (by decide), hK, hSt, hac, by rw [d00]; exact Nat.le_refl _⟩ ⟨by rw [d00]; rfl, by decide, fun k q h => by simp [wl, wlf] at h, va_S.rf, fun a c h => by simp at h⟩ hl2
  intro T hT X
  obtain ⟨t, h1, h2⟩ := K T hT X
  exact ⟨t, h1, h2 hXp⟩
