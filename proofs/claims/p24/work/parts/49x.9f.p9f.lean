/-! ===== CQ over calls that leave it be ===== -/
theorem KI2.tr {I I1 I2 : Iv} (h : KI2 I I1) (k : KI2 I1 I2) : KI2 I I2 := fun b j hb => (k b j hb).trans (h b j hb)
theorem KJ2.tr {J J1 J2 : Jv} (h : KJ2 J J1) (k : KJ2 J1 J2) : KJ2 J J2 := fun b j hb => (k b j hb).trans (h b j hb)
theorem s2_row {b : Nat} (h : (8 ≤ b ∧ b ≤ 12) ∨ (16 ≤ b ∧ b ≤ 43)) (k : Nat) : S2 b k = true := by
  unfold S2
  rcases h with ⟨h1, h2⟩ | ⟨h1, h2⟩
  · rw [Nat.ble_eq_true_of_le h1, Nat.ble_eq_true_of_le h2]; simp
  · rw [Nat.ble_eq_true_of_le h1, Nat.ble_eq_true_of_le h2]; simp
theorem t2_row {r : Nat} (h1 : 16 ≤ r) (h2 : r ≤ 42) (k : Nat) : T2 r k = true := by
  unfold T2
  rw [Nat.ble_eq_true_of_le h1, Nat.ble_eq_true_of_le h2]; simp
theorem t2_79 {k : Nat} (h : k < 80 ∨ 160 ≤ k) : T2 79 k = true := by
  show (false || (true && (Nat.ble k 79 || Nat.ble 160 k))) = true
  rcases h with h | h
  · rw [Nat.ble_eq_true_of_le (show k ≤ 79 by omega)]; simp
  · rw [Nat.ble_eq_true_of_le h]; simp
theorem KI2.row {I0 I : Iv} (h : KI2 I0 I) {b : Nat} (hb : ∀ k, S2 b k = true) : I b = I0 b := by funext k; exact h b k (hb k)
theorem KI2.r {I0 I : Iv} (h : KI2 I0 I) {b : Nat} (hb : (8 ≤ b ∧ b ≤ 12) ∨ (16 ≤ b ∧ b ≤ 43)) : I b = I0 b := h.row (s2_row hb)
theorem KJ2.r {J0 J : Jv} (h : KJ2 J0 J) {r : Nat} (h1 : 16 ≤ r) (h2 : r ≤ 42) : J r = J0 r := by funext k; exact h r k (t2_row h1 h2 k)
theorem freshR_0 {f g : Nat → Int64} {k : Nat} (h52 : f (0 + 52) = g (0 + 52)) (hk : f k = g k) : freshR 0 f k = freshR 0 g k := by
  unfold freshR
  rw [h52, hk]
theorem begG_ag {z : Int32} {f g : Nat → Int64} (h : ∀ k, k < 80 ∨ 160 ≤ k → f k = g k) (k : Nat) (hk : k < 80 ∨ 160 ≤ k) : begG z f k = begG z g k := by
  unfold begG
  by_cases hz : z = 0
  · rw [if_pos hz, if_pos hz]
    refine freshR_0 ?_ ?_
    · show (if 0 + 52 = 69 then (1 : Int64) else f (0 + 52)) = (if 0 + 52 = 69 then (1 : Int64) else g (0 + 52))
      rw [h (0 + 52) (by omega)]
    · show (if k = 69 then (1 : Int64) else f k) = (if k = 69 then (1 : Int64) else g k)
      rw [h k hk]
  · rw [if_neg hz, if_neg hz]; exact h k hk
theorem cq_ki {c : Nat} {I I1 : Iv} {J J1 : Jv} (h : CQx c I J) (k : KI2 I I1) (l : KJ2 J J1) : CQx c I1 J1 := by
  have e2 : I1 78 2 = I 78 2 := k 78 2 rfl
  have e5 : I1 78 5 = I 78 5 := k 78 5 rfl
  have r80 : I1 80 = I 80 := k.row (fun _ => rfl)
  have r81 : I1 81 = I 81 := k.row (fun _ => rfl)
  have r83 : I1 83 = I 83 := k.row (fun _ => rfl)
  have r84 : I1 84 = I 84 := k.row (fun _ => rfl)
  obtain ⟨C, D, e, n2, q, qk, q81⟩ := begR I1 J1
  obtain ⟨C0, D0, e0, n20, q0, qk0, q810⟩ := begR I J
  have g := (begJ I1 J1).2
  have g0 := (begJ I J).2
  unfold CQx at h ⊢
  rw [e] at g ⊢
  rw [e0] at g0 h
  have g' : D 79 = begG (I1 78 2) (J1 79) := g
  have g0' : D0 79 = begG (I 78 2) (J 79) := g0
  refine cq_row (A := C0) (B := D0) h (fun b hb => k.r hb) (fun r h1 h2 => l.r h1 h2) (fun j hj => ?_) (fun j hj => ?_) ?_ ?_ ?_ ?_
  · show D 79 j = D0 79 j
    rw [g', g0', e2]
    exact begG_ag (fun m hm => l 79 m (t2_79 hm)) j hj
  · show C 81 j = C0 81 j
    rw [q81 j hj, q810 j hj, e2, r81]
  · show C 83 = C0 83
    rw [q 83 (by omega) (by omega) (by omega) (by omega), q0 83 (by omega) (by omega) (by omega) (by omega), r83]
  · show C 84 = C0 84
    rw [q 84 (by omega) (by omega) (by omega) (by omega), q0 84 (by omega) (by omega) (by omega) (by omega), r84]
  · show C 80 = C0 80
    rw [q 80 (by omega) (by omega) (by omega) (by omega), q0 80 (by omega) (by omega) (by omega) (by omega), r80]
  · show C 78 5 = C0 78 5
    rw [qk 5 (by omega) (by omega) (by omega), qk0 5 (by omega) (by omega) (by omega), e5]
theorem CQx.up {c : Nat} {I : Iv} {J : Jv} (h : CQx c I J) : CQx (c + 1) I J := CQ.mono h
theorem cq_begun {c : Nat} {I : Iv} {J : Jv} (h : CQx c I J) : CQx c (fn_X10_begin I J).1 (fn_X10_begin I J).2 := cqx_fin (I1 := I) (J1 := J) (C := (fn_X10_begin I J).1) (D := (fn_X10_begin I J).2) rfl (fun _ _ => rfl) (fun _ _ => rfl) rfl h
/-- the class's call -/
theorem cq_cls {α : Type} {c : Nat} {v : α} {I I1 : Iv} {J J1 : Jv} (h : CQx c I J) (q : Qb3 I J (v, I1, J1)) : CQx c I1 J1 := cq_ki h q.1 q.2
/-- the reference's, where it begins late -/
theorem cq_rb {α : Type} {c : Nat} {v : α} {I1 I2 : Iv} {J1 J2 : Jv} (h : CQx c I1 J1) (q : Qb3 (fn_X10_begin I1 J1).1 (fn_X10_begin I1 J1).2 (v, I2, J2)) : CQx (c + 1) I2 J2 := (cq_ki (cq_begun h) q.1 q.2).up
/-- the reference's, where it doesn't -/
theorem cq_rn {α : Type} {c : Nat} {v : α} {I1 I2 : Iv} {J1 J2 : Jv} (h : CQx c I1 J1) (q : Qb3 I1 J1 (v, I2, J2)) : CQx (c + 1) I2 J2 := (cq_ki h q.1 q.2).up
theorem qb2_rfl {I : Iv} {J : Jv} : Qb2 (fn_X10_begin I J).1 (fn_X10_begin I J).2 (fn_X10_begin I J) := ⟨ki2_rfl, kj2_rfl⟩
/-! ===== box ===== -/
theorem bx_nu {nu : Nat → Int32} {I : Iv} (h : BN nu) (e : ∀ j, j < 15 → I 8 j = nu j) : BX I := by
  unfold BN BX at h
  unfold BX
  rw [e 0 (by omega), e 1 (by omega), e 2 (by omega), e 3 (by omega), e 4 (by omega), e 5 (by omega), e 6 (by omega), e 7 (by omega), e 8 (by omega), e 9 (by omega), e 10 (by omega), e 11 (by omega), e 12 (by omega), e 13 (by omega), e 14 (by omega)]
  exact h
theorem s2_78 {k : Nat} (h : S2 78 k = true) : k = 2 ∨ k = 5 := by
  have e : S2 78 k = (k == 2 || k == 5) := rfl
  rw [e] at h
  simpa using h
theorem cq_box {c : Nat} {v1 v2 : Int32} {I I1 I2 : Iv} {J J1 J2 : Jv} (hp : CP I) (h : CQx c I J) (e1 : fn_X9_box I J = (v1, I1, J1)) (e2 : fn_X10_box I1 J1 = (v2, I2, J2)) : CQx (c + 1) I2 J2 := by
  have cp2 := (cp_box hp e1 e2).2
  have b81 : ¬ I2 78 2 = 0 → ∀ j, j < 15 → I2 81 j = I2 8 j := fun z j hj => by
    have := cp2.2.1 j hj
    unfold B81 at this
    rw [if_neg z] at this; exact this.symm
  obtain ⟨⟨p1, p2, p3⟩, p4, p5, p6, n, n1, n2⟩ := hp
  obtain ⟨I1', J1', ea, a1, a2, a3, a4, a5⟩ := boxCall J n1 n2
  rw [ea] at e1
  have x1 : I1' = I1 := congrArg (fun (y : Int32 × Iv × Jv) => y.2.1) e1
  have x2 : J1' = J1 := congrArg (fun (y : Int32 × Iv × Jv) => y.2.2) e1
  rw [x1, x2] at ea
  rw [x1] at a1 a2 a3 a4 a5
  clear x1 x2 e1
  obtain ⟨B, JB, eb, b0, br, bk, -⟩ := begR I1 J1
  have bj := (begJ I1 J1).2
  rw [eb] at bj
  have bj' : JB 79 = begG (I1 78 2) (J1 79) := bj
  have bl := (begJ I1 J1).1
  rw [eb] at bl
  have r87 : B 87 = I 2 := by rw [br 87 (by decide) (by decide) (by decide) (by decide), p1]; funext k; exact a5 87 k rfl (by decide) (by decide)
  have d11 : B 78 11 = n3 n := by rw [bk 11 (by decide) (by decide) (by decide), a5 78 11 rfl (by decide) (by decide), ← p2, n2]
  obtain ⟨C, ec, c11, c15, c16, c81, c81', c81'', cr, ck⟩ := boxR n1 (by rw [r87]; exact p6) eb d11
  rw [ec] at e2
  rw [r87] at e2 c81 c81'
  -- the class
  obtain ⟨A, e3, s1, f1⟩ := readBoxC J n1 n2
  have e1 := ea
  unfold fn_X9_box at e1
  rw [e3, b_n2_mk, l_t] at e1
  obtain ⟨t1, u1, d1, v1'⟩ := s1
  have h13 : wI A 1 1 0 1 3 = (boxP (I 2) n).c.1 := by rw [wI_ne (by omega)]; exact u1.2.1
  have fA : ∀ b, b ≠ 1 → b ≠ 3 → b ≠ 4 → (wI A 1 1 0) b = I b := fun b x y z => by rw [wI_row x, f1.1 b x y z]
  by_cases h0 : (boxP (I 2) n).c.1 = 0
  · obtain ⟨v4, v5⟩ := v1' h0
    rw [if_pos (by rw [h13]; exact h0)] at e1
    have ecp : fn_X0_copyFrom (wI A 1 1 0) J = (cI (wI A 1 1 0) 8 15 ((wI A 1 1 0) 4), J) := by
      unfold fn_X0_copyFrom; rw [if_pos rfl]; rfl
    rw [ecp, b_n2_mk] at e1
    have fK : ∀ b, b ≠ 1 → b ≠ 3 → b ≠ 4 → b ≠ 8 → (cI (wI A 1 1 0) 8 15 ((wI A 1 1 0) 4)) b = I b := fun b x y z w => by rw [cI_row w]; exact fA b x y z
    have k8 : ∀ j, j < 15 → (cI (wI A 1 1 0) 8 15 ((wI A 1 1 0) 4)) 8 j = (boxP (I 2) n).nu j := fun j hj => by
      simp only [cI, hj, and_self, if_true]
      rw [wI_row (by decide)]; exact v4 j hj
    generalize cI (wI A 1 1 0) 8 15 ((wI A 1 1 0) 4) = K at *
    have k16 : K 16 = I 16 := fK 16 (by decide) (by decide) (by decide) (by decide)
    have hs : SB (I 16 8) := h.1.2.2.2.2.1.1
    obtain ⟨F, G, g1, g2, g3, c3, c4, c5, c6, c7, c8, c9, c10, c11'⟩ := frshC (o := 16) K J (by omega) (by rw [k16]; exact hs)
    rw [g1, b_n2_mk] at e1
    have fg := fr2_fn_X1_forgetSigns F ki2_rfl G kj2_rfl
    generalize fn_X1_forgetSigns F G = q2 at e1 fg
    obtain ⟨F2, G2⟩ := q2
    rw [b_n2_mk] at e1
    have x1 : F2 = I1 := congrArg (fun (y : Int32 × Iv × Jv) => y.2.1) e1
    have x2 : G2 = J1 := congrArg (fun (y : Int32 × Iv × Jv) => y.2.2) e1
    have fi : KI2 F I1 := by rw [← x1]; exact fg.1
    have fj : KJ2 G J1 := by rw [← x2]; exact fg.2
    rw [if_pos h0] at e2
    obtain ⟨D2, y1, y2, y3⟩ := freshenR (X := 0) C JB (by omega)
    have y1' : fn_X10_freshen 0 C JB = (C, D2) := y1
    rw [y1'] at e2
    have z1 : C = I2 := congrArg (fun (y : Int32 × Iv × Jv) => y.2.1) e2
    have z2 : D2 = J2 := congrArg (fun (y : Int32 × Iv × Jv) => y.2.2) e2
    rw [← z1] at b81 ⊢
    rw [← z2]
    have n2' : ¬ C 78 2 = 0 := by rw [ck 2 (by omega)]; exact b0
    have rows : ∀ b, (8 ≤ b ∧ b ≤ 12) ∨ (16 ≤ b ∧ b ≤ 43) → C b = F b := fun b hb => by
      rw [cr b (by omega) (by omega) (by omega), br b (by omega) (by omega) (by omega) (by omega)]; exact fi.r hb
    have jrows : ∀ r, 16 ≤ r → r ≤ 42 → D2 r = G r := fun r h1 h2 => by
      rw [y2 r (by omega)]
      exact (bl r (by omega)).trans (fj.r h1 h2)
    obtain ⟨C0, D0, e0, n20, q0, qk0, q810⟩ := begR I J
    have g0 := (begJ I J).2
    unfold CQx at h
    rw [e0] at g0 h
    have g0' : D0 79 = begG (I 78 2) (J 79) := g0
    have e78 : I1 78 2 = I 78 2 := a5 78 2 rfl (by decide) (by decide)
    have jb : ∀ k, k < 80 ∨ 160 ≤ k → JB 79 k = D0 79 k := fun k hk => by
      rw [bj', g0', e78]
      refine begG_ag (fun m hm => ?_) k hk
      rw [fj 79 m (t2_79 hm), g3 79 (by decide) (by decide)]
    obtain ⟨st0, env0, im0⟩ := h
    have st0' := st0
    obtain ⟨-, -, -, -, ⟨-, n52⟩, -, -, -, -, -, -, ⟨cur, n12, n69⟩, n70⟩ := st0'
    obtain ⟨n70, n13⟩ := Or.resolve_left n70 (by decide)
    have n52' : D0 79 52 = (I 16 8).toInt64 := n52
    have n69' : D0 79 69 = (b3 cur).toInt64 := n69
    have n70' : D0 79 70 = (I 16 13).toInt64 := n70
    refine cqx_id n2' ⟨?_, ⟨?_, b81 n2', ?_⟩, fun i hi => ⟨?_, fun z => ?_⟩⟩
    · refine st_fresh (I := K) (B := JB) (by omega) (by rw [k16]; exact hs) (by rw [k16]; show JB 79 52 = _; rw [jb 52 (by omega)]; exact n52') ⟨cur, by rw [k16]; exact n12, by show JB 79 69 = _; rw [jb 69 (by omega)]; exact n69'⟩ (Or.inr ⟨by rw [k16]; show JB 79 70 = _; rw [jb 70 (by omega)]; exact n70', by rw [k16]; exact n13⟩)
        (fun k a b d => by rw [rows 16 (by omega)]; exact c3 k a b d) (by rw [rows 16 (by omega)]; exact c4) (by rw [rows 16 (by omega)]; exact c5) (by rw [rows 16 (by omega)]; exact c6) (fun k hk => by rw [rows 18 (by omega)]; exact c7 k hk) (fun f hf => by rw [rows 19 (by omega)]; exact c8 f hf) (fun k hk => by rw [rows 24 (by omega)]; exact c9 k hk) (fun k hk => by rw [jrows 17 (by omega) (by omega)]; exact c10 k hk) (fun j hj => by rw [jrows 23 (by omega) (by omega)]; exact c11' j hj) y3
    · refine bx_nu (box_bn h0) (fun j hj => ?_)
      rw [rows 8 (by omega), g2 8 (by decide) (by decide) (by decide) (by decide)]; exact k8 j hj
    · obtain ⟨m, m1, m2, m3, m4⟩ := env0.2.2
      have same : ∀ b, (9 ≤ b ∧ b ≤ 12) → C b = I b := fun b hb => by
        rw [rows b (by omega), g2 b (by omega) (by omega) (by omega) (by omega), fK b (by omega) (by omega) (by omega) (by omega)]
      have hi : ∀ b, b = 83 ∨ b = 84 → C b = C0 b := fun b hb => by
        rw [cr b (by omega) (by omega) (by omega), br b (by omega) (by omega) (by omega) (by omega), q0 b (by omega) (by omega) (by omega) (by omega)]
        funext k
        rcases hb with rfl | rfl
        · exact a5 83 k rfl (by decide) (by decide)
        · exact a5 84 k rfl (by decide) (by decide)
      refine ⟨m, m1, ?_, ?_, ?_⟩
      · rw [ck 5 (by omega), bk 5 (by decide) (by decide) (by decide), a5 78 5 rfl (by decide) (by decide), ← qk0 5 (by decide) (by decide) (by decide)]; exact m2
      · rw [hi 83 (by omega), hi 84 (by omega), same 10 (by omega), same 11 (by omega)]; exact m3
      · rw [same 10 (by omega), same 11 (by omega), same 12 (by omega)]; exact m4
    · rw [rows 43 (by omega), g2 43 (by decide) (by decide) (by decide) (by decide), fK 43 (by decide) (by decide) (by decide) (by decide), (im0 i hi).1, show (C0, D0).fst 80 i = C0 80 i from rfl, q0 80 (by decide) (by decide) (by decide) (by decide), cr 80 (by decide) (by decide) (by decide), br 80 (by decide) (by decide) (by decide) (by decide), fi.row (b := 80) (fun _ => rfl), g2 80 (by decide) (by decide) (by decide) (by decide), fK 80 (by decide) (by decide) (by decide) (by decide)]
    · have z' : ¬ I 43 i = 0 := by
        rw [rows 43 (by omega), g2 43 (by decide) (by decide) (by decide) (by decide), fK 43 (by decide) (by decide) (by decide) (by decide)] at z; exact z
      refine (st_row ((im0 i hi).2 z') (fun b h1 h2 => ?_) ⟨?_, ?_⟩ (fun k hk => ?_)).mono (up1 c)
      · rw [rows b (by omega), g2 b (by omega) (by omega) (by omega) (by omega), fK b (by omega) (by omega) (by omega) (by omega)]
      · rw [jrows _ (by omega) (by omega), g3 _ (by omega) (by omega)]
      · rw [jrows _ (by omega) (by omega), g3 _ (by omega) (by omega)]
      · show D2 79 _ = D0 79 _
        rw [y3]
        unfold freshR
        rw [if_neg (by omega), jb _ (by omega)]
  · rw [if_neg (by rw [h13]; exact h0)] at e1
    have x1 : wI A 1 1 0 = I1 := congrArg (fun (y : Int32 × Iv × Jv) => y.2.1) e1
    have x2 : J = J1 := congrArg (fun (y : Int32 × Iv × Jv) => y.2.2) e1
    have kI : KI2 I I1 := by
      intro b k hb
      rw [← x1, fA b (by rintro rfl; exact absurd (show false = true from hb) (by decide)) (by rintro rfl; exact absurd (show false = true from hb) (by decide)) (by rintro rfl; exact absurd (show false = true from hb) (by decide))]
    have q := cq_begun (cq_ki h kI (show KJ2 J J1 by rw [← x2]; exact kj2_rfl))
    rw [eb] at q
    rw [if_neg h0] at e2
    have z1 : C = I2 := congrArg (fun (y : Int32 × Iv × Jv) => y.2.1) e2
    have z2 : JB = J2 := congrArg (fun (y : Int32 × Iv × Jv) => y.2.2) e2
    rw [← z1, ← z2]
    refine (cq_ki (I := B) (J := JB) q (fun b k hb => ?_) kj2_rfl).up
    by_cases y : b = 81
    · rw [y, c81' h0]
    · by_cases y2 : b = 78
      · subst y2
        rcases s2_78 hb with w | w
        · rw [w, ck 2 (by omega)]
        · rw [w, ck 5 (by omega)]
      · rw [cr b y2 y (by rintro rfl; exact absurd (show false = true from hb) (by decide))]
/-! ===== day ===== -/
theorem cq_day {c : Nat} {v1 v2 : Int32} {I I1 I2 : Iv} {J J1 J2 : Jv} (hp : CP I) (h : CQx c I J) (e1 : fn_X9_day I J = (v1, I1, J1)) (e2 : fn_X10_day I1 J1 = (v2, I2, J2)) : CQx (c + 1) I2 J2 := by
  have cp2 := (cp_day hp e1 e2).2
  have b81 : ¬ I2 78 2 = 0 → ∀ j, j < 15 → I2 81 j = I2 8 j := fun z j hj => by
    have := cp2.2.1 j hj
    unfold B81 at this
    rw [if_neg z] at this; exact this.symm
  obtain ⟨⟨p1, p2, p3⟩, p4, p5, p6, n, n1, n2⟩ := hp
  obtain ⟨I1', J1', ea, a1, a2, a3, a4, a5⟩ := dayCall J n1 n2
  rw [ea] at e1
  have x1 : I1' = I1 := congrArg (fun (y : Int32 × Iv × Jv) => y.2.1) e1
  have x2 : J1' = J1 := congrArg (fun (y : Int32 × Iv × Jv) => y.2.2) e1
  rw [x1, x2] at ea
  rw [x1] at a1 a2 a3 a4 a5
  clear x1 x2 e1
  obtain ⟨B, JB, eb, b0, br, bk, -⟩ := begR I1 J1
  have bj := (begJ I1 J1).2
  rw [eb] at bj
  have bj' : JB 79 = begG (I1 78 2) (J1 79) := bj
  have bl := (begJ I1 J1).1
  rw [eb] at bl
  have r87 : B 87 = I 2 := by rw [br 87 (by decide) (by decide) (by decide) (by decide), p1]; funext k; exact a5 87 k rfl (by decide) (by decide) (by decide) (by decide) (by decide)
  have d11 : B 78 11 = n3 n := by rw [bk 11 (by decide) (by decide) (by decide), a5 78 11 rfl (by decide) (by decide) (by decide) (by decide) (by decide), ← p2, n2]
  obtain ⟨C, ec, c11, c15, c16, c5, c5', cr, ck⟩ := dayR n1 (by rw [r87]; exact p6) eb d11
  rw [ec] at e2
  rw [r87] at e2 c5 c5'
  have z1 : C = I2 := congrArg (fun (y : Int32 × Iv × Jv) => y.2.1) e2
  have z2 : JB = J2 := congrArg (fun (y : Int32 × Iv × Jv) => y.2.2) e2
  rw [← z1] at b81
  rw [← z1, ← z2]
  have n2' : ¬ C 78 2 = 0 := by rw [ck 2 (by decide) (by omega)]; exact b0
  -- the class
  obtain ⟨A, e3, s1, f1⟩ := readDayC J n1 n2
  have e1 := ea
  unfold fn_X9_day at e1
  rw [e3, b_n2_mk, l_t] at e1
  obtain ⟨t1, u1, v1'⟩ := s1
  have h13 : wI A 1 1 0 1 3 = (dayP (I 2) n).c.1 := by rw [wI_ne (by omega)]; exact u1.2.1
  have fA : ∀ b, b ≠ 1 → b ≠ 5 → b ≠ 6 → (wI A 1 1 0) b = I b := fun b x y z => by rw [wI_row x, f1.1 b x y z]
  by_cases h0 : (dayP (I 2) n).c.1 = 0
  · obtain ⟨v4, v5, v6⟩ := v1' h0
    have dn := day_dn h0
    obtain ⟨s1, s2, s3⟩ := c5 h0
    have hF : ∀ j, j < (dayP (I 2) n).ct → (0 ≤ ((wI A 1 1 0) 5 j).toInt ∧ ((wI A 1 1 0) 5 j).toInt ≤ 287) ∧ (1 ≤ ((wI A 1 1 0) 6 j).toInt ∧ ((wI A 1 1 0) 6 j).toInt ≤ 20) := fun j hj => by
      rw [wI_row (show (5 : Nat) ≠ 1 by decide), wI_row (show (6 : Nat) ≠ 1 by decide), (v4 j hj).1, (v4 j hj).2]; exact dn j hj
    rw [if_pos (by rw [h13]; exact h0), show wI A 1 1 0 1 5 = n3 (dayP (I 2) n).ct by rw [wI_ne (by omega)]; exact v5] at e1
    obtain ⟨F, g1, g2, g3, g4, g5⟩ := copyDv (I := wI A 1 1 0) J v6 hF
    rw [g1, b_n2_mk] at e1
    have fg := fr2_fn_X1_forgetSigns F ki2_rfl J kj2_rfl
    generalize fn_X1_forgetSigns F J = q2 at e1 fg
    obtain ⟨F2, G2⟩ := q2
    rw [b_n2_mk] at e1
    have x1 : F2 = I1 := congrArg (fun (y : Int32 × Iv × Jv) => y.2.1) e1
    have x2 : G2 = J1 := congrArg (fun (y : Int32 × Iv × Jv) => y.2.2) e1
    have fi : KI2 F I1 := by rw [← x1]; exact fg.1
    have fj : KJ2 J J1 := by rw [← x2]; exact fg.2
    have rows : ∀ b, (8 ≤ b ∧ b ≤ 12) ∨ (16 ≤ b ∧ b ≤ 43) → C b = F b := fun b hb => by
      rw [cr b (by omega) (by omega) (by omega) (by omega) (by omega), br b (by omega) (by omega) (by omega) (by omega)]; exact fi.r hb
    have same : ∀ b, b = 8 ∨ (16 ≤ b ∧ b ≤ 43) → C b = I b := fun b hb => by
      rw [rows b (by omega), g2 b (by omega) (by omega) (by omega) (by omega)]; exact fA b (by omega) (by omega) (by omega)
    have jrows : ∀ r, 16 ≤ r → r ≤ 42 → JB r = J r := fun r h1 h2 => (bl r (by omega)).trans (fj.r h1 h2)
    obtain ⟨C0, D0, e0, n20, q0, qk0, q810⟩ := begR I J
    have g0 := (begJ I J).2
    unfold CQx at h
    rw [e0] at g0 h
    have g0' : D0 79 = begG (I 78 2) (J 79) := g0
    have e78 : I1 78 2 = I 78 2 := a5 78 2 rfl (by decide) (by decide) (by decide) (by decide) (by decide)
    have jb : ∀ k, k < 80 ∨ 160 ≤ k → JB 79 k = D0 79 k := fun k hk => by
      rw [bj', g0', e78]
      exact begG_ag (fun m hm => fj 79 m (t2_79 hm)) k hk
    obtain ⟨st0, env0, im0⟩ := h
    refine cqx_id n2' ⟨?_, ⟨?_, b81 n2', ?_⟩, fun i hi => ⟨?_, fun z => ?_⟩⟩
    · exact (st_row st0 (fun b h1 h2 => same b (by omega)) ⟨jrows _ (by omega) (by omega), jrows _ (by omega) (by omega)⟩ (fun k hk => by show JB 79 _ = D0 79 _; rw [jb _ (by omega)])).mono (up1 c)
    · exact bx_row env0.1 (same 8 (by omega))
    · refine ⟨(dayP (I 2) n).ct, v6, s1, fun j hj => ?_, fun t ht => ?_⟩
      · have d := dn j hj
        have e5 : C 10 j = (dayP (I 2) n).nu j := by rw [rows 10 (by omega), (g4 j hj).1, wI_row (by decide)]; exact (v4 j hj).1
        have e6 : C 11 j = (dayP (I 2) n).nu (20 + j) := by rw [rows 11 (by omega), (g4 j hj).2, wI_row (by decide)]; exact (v4 j hj).2
        rw [e5, e6]
        exact ⟨(s3 j hj).1, (s3 j hj).2, d.1, d.2⟩
      · rw [rows 12 (by omega), g5 t ht]
        refine congrArg b3 (opB_c (fun j hj => ?_))
        rw [rows 10 (by omega), rows 11 (by omega)]
        exact ⟨(g4 j hj).1.symm, (g4 j hj).2.symm⟩
    · rw [same 43 (by omega), (im0 i hi).1, show (C0, D0).fst 80 i = C0 80 i from rfl, q0 80 (by decide) (by decide) (by decide) (by decide), cr 80 (by decide) (by decide) (by decide) (by decide) (by decide), br 80 (by decide) (by decide) (by decide) (by decide), fi.row (b := 80) (fun _ => rfl), g2 80 (by decide) (by decide) (by decide) (by decide), fA 80 (by decide) (by decide) (by decide)]
    · have z' : ¬ I 43 i = 0 := by rw [same 43 (by omega)] at z; exact z
      exact (st_row ((im0 i hi).2 z') (fun b h1 h2 => same b (by omega)) ⟨jrows _ (by omega) (by omega), jrows _ (by omega) (by omega)⟩ (fun k hk => by show JB 79 _ = D0 79 _; rw [jb _ (by omega)])).mono (up1 c)
  · rw [if_neg (by rw [h13]; exact h0)] at e1
    have x1 : wI A 1 1 0 = I1 := congrArg (fun (y : Int32 × Iv × Jv) => y.2.1) e1
    have x2 : J = J1 := congrArg (fun (y : Int32 × Iv × Jv) => y.2.2) e1
    have kI : KI2 I I1 := by
      intro b k hb
      rw [← x1, fA b (by rintro rfl; exact absurd (show false = true from hb) (by decide)) (by rintro rfl; exact absurd (show false = true from hb) (by decide)) (by rintro rfl; exact absurd (show false = true from hb) (by decide))]
    have q := cq_begun (cq_ki h kI (show KJ2 J J1 by rw [← x2]; exact kj2_rfl))
    rw [eb] at q
    obtain ⟨o1, o2, o3⟩ := c5' h0
    refine (cq_ki (I := B) (J := JB) q (fun b k hb => ?_) kj2_rfl).up
    by_cases y : b = 83
    · rw [y, o1]
    · by_cases y1 : b = 84
      · rw [y1, o2]
      · by_cases y2 : b = 78
        · subst y2
          rcases s2_78 hb with w | w
          · rw [w, ck 2 (by decide) (by omega)]
          · rw [w, o3]
        · rw [cr b y2 y y1 (by rintro rfl; exact absurd (show false = true from hb) (by decide)) (by rintro rfl; exact absurd (show false = true from hb) (by decide))]
/-! ===== the start ===== -/
theorem cq_0 {I I0 I1 : Iv} {J J0 J1 : Jv} (hf : fn_X6_becomeFresh 16 I0 J0 = (I1, J1)) (h8 : I0 16 8 = 0) (h12 : I0 16 12 = 1) (h13 : I0 16 13 = 0) (e : ∀ b, b < 78 → I b = I1 b) (ej : ∀ b, b < 78 → J b = J1 b) (r12 : ∀ k, 0 ≤ k → I 12 k = 0) (r43 : ∀ k, k < 2 → I 43 k = 0) (r8 : ∀ k, k < 15 → I 8 k = nu0 k) (m1 : ∀ b, 78 < b → b < 99 → ∀ k, I b k = 0 ∧ J b k = 0) (m2 : ∀ k, k ≠ 16 → I 78 k = 0) : CQx 0 I J := by
  obtain ⟨K, L, g1, g2, g3, c3, c4, c5, c6, c7, c8, c9, c10, c11⟩ := frshC (o := 16) I0 J0 (by omega) (by rw [h8]; exact ⟨by decide, by decide⟩)
  rw [g1] at hf
  have x1 : K = I1 := congrArg (fun (y : Iv × Jv) => y.1) hf
  have x2 : L = J1 := congrArg (fun (y : Iv × Jv) => y.2) hf
  obtain ⟨C, D, eb, n2, q, qk, q81⟩ := begR I J
  have bj := (begJ I J).2
  unfold CQx
  rw [eb] at bj ⊢
  have bj' : D 79 = begG (I 78 2) (J 79) := bj
  have z2 : I 78 2 = 0 := m2 2 (by decide)
  unfold begG at bj'
  rw [if_pos z2] at bj'
  have w79 : (wJ J 79 69 1) 79 = (fun k => if k = 69 then 1 else J 79 k) := by
    funext k
    by_cases q : k = 69
    · subst q; rw [wJ_self, if_pos rfl]
    · rw [wJ_ne (Or.inr q), if_neg q]
  have rr : ∀ b, b < 78 → I b = K b := fun b hb => by rw [e b hb, x1]
  have jj : ∀ b, b < 78 → J b = L b := fun b hb => by rw [ej b hb, x2]
  refine ⟨?_, ⟨bx_nu bn_0 r8, fun j hj => ?_, 0, Nat.zero_le _, ?_, fun j hj => absurd hj (Nat.not_lt_zero _), fun t _ => ?_⟩, fun i hi => ⟨?_, fun z => absurd (r43 i hi) z⟩⟩
  · refine st_fresh (I := I0) (B := wJ J 79 69 1) (by omega) (by rw [h8]; exact ⟨by decide, by decide⟩) ?_ ⟨true, h12, ?_⟩ (Or.inr ⟨?_, by rw [h13]; decide⟩) (fun k a b d => by rw [rr 16 (by omega)]; exact c3 k a b d) (by rw [rr 16 (by omega)]; exact c4) (by rw [rr 16 (by omega)]; exact c5) (by rw [rr 16 (by omega)]; exact c6) (fun k hk => by rw [rr 18 (by omega)]; exact c7 k hk) (fun f hf => by rw [rr 19 (by omega)]; exact c8 f hf) (fun k hk => by rw [rr 24 (by omega)]; exact c9 k hk) (fun k hk => by rw [jj 17 (by omega)]; exact c10 k hk) (fun j hj => by rw [jj 23 (by omega)]; exact c11 j hj) (by rw [w79]; exact bj')
    · show wJ J 79 69 1 79 52 = _
      rw [wJ_ne (by omega), (m1 79 (by omega) (by omega) 52).2, h8]; rfl
    · show wJ J 79 69 1 79 69 = _
      rw [wJ_self]; rfl
    · show wJ J 79 69 1 79 70 = _
      rw [wJ_ne (by omega), (m1 79 (by omega) (by omega) 70).2, h13]; rfl
  · show C 81 j = I 8 j
    rw [q81 j hj, if_pos z2, r8 j hj]
  · show C 78 5 = n3 0
    rw [qk 5 (by decide) (by decide) (by decide), m2 5 (by decide)]; rfl
  · rw [r12 t (Nat.zero_le _)]; rfl
  · show I 43 i = C 80 i
    rw [r43 i hi, q 80 (by decide) (by decide) (by decide) (by decide), (m1 80 (by omega) (by omega) i).1]
/-! ===== feed, fault, told, opening ===== -/
theorem cq_feed {c : Nat} {n v1 v2 : Int32} {b : Int64} {I I1 I2 : Iv} {J J1 J2 : Jv} (_hp : CP I) (h : CQx c I J) (e1 : fn_X9_feed n b I J = (v1, I1, J1)) (e2 : fn_X10_feed n b I1 J1 = (v2, I2, J2)) : CQx (c + 1) I2 J2 := by
  have a := fr2_fn_X9_feed n b I ki2_rfl J kj2_rfl
  rw [e1] at a
  have d := fr2_fn_X10_feed n b I1 ki2_rfl J1 kj2_rfl
  rw [e2] at d
  exact cq_rn (cq_cls h a) d
theorem cq_fault {c : Nat} {v1 v2 : Int32} {I I1 I2 : Iv} {J J1 J2 : Jv} (_hp : CP I) (h : CQx c I J) (e1 : fn_X9_fault I J = (v1, I1, J1)) (e2 : fn_X10_fault I1 J1 = (v2, I2, J2)) : CQx (c + 1) I2 J2 := by
  have a := fr2_fn_X9_fault I ki2_rfl J kj2_rfl
  rw [e1] at a
  have d := fr2_fn_X10_fault I1 ki2_rfl J1 kj2_rfl
  rw [e2] at d
  exact cq_rn (cq_cls h a) d
theorem cq_told {c : Nat} {w v1 v2 : Int32} {I I1 I2 : Iv} {J J1 J2 : Jv} (_hp : CP I) (h : CQx c I J) (e1 : fn_X9_told w I J = (v1, I1, J1)) (e2 : fn_X10_told w I1 J1 = (v2, I2, J2)) : CQx (c + 1) I2 J2 := by
  have a := fr2_fn_X9_told w I ki2_rfl J kj2_rfl
  rw [e1] at a
  have d := fr2_fn_X10_told w I1 J1 qb2_rfl
  rw [e2] at d
  exact cq_rb (cq_cls h a) d
theorem cq_opening {c : Nat} {i w v1 v2 : Int32} {I I1 I2 : Iv} {J J1 J2 : Jv} (_hp : CP I) (h : CQx c I J) (e1 : fn_X9_opening i w I J = (v1, I1, J1)) (e2 : fn_X10_opening i w I1 J1 = (v2, I2, J2)) : CQx (c + 1) I2 J2 := by
  have a := fr2_fn_X9_opening i w I ki2_rfl J kj2_rfl
  rw [e1] at a
  have d := fr2_fn_X10_opening i w I1 ki2_rfl J1 kj2_rfl
  rw [e2] at d
  exact cq_rn (cq_cls h a) d
