/-! ===== calls on what is so ===== -/
theorem cqx_fin {c : Nat} {I1 C C2 : Iv} {J1 D D2 : Jv} (e : fn_X10_begin I1 J1 = (C, D)) (hI : ∀ b, b < 78 → C2 b = C b) (hJ : ∀ r, r < 78 → D2 r = D r) (hn : C2 78 2 = C 78 2) (h : CQ c I1 J1 C2 D2) : CQx c C2 D2 := by
  obtain ⟨C', D', e', n2, r, rk, r81⟩ := begR I1 J1
  rw [e] at e'
  cases e'
  have bj := (begJ I1 J1).1
  rw [e] at bj
  refine cqx_id (by rw [hn]; exact n2) (cq_row h (fun b hb => by rw [hI b (by omega)]; exact r b (by omega) (by omega) (by omega) (by omega)) (fun q h1 h2 => by rw [hJ q (by omega)]; exact bj q (by omega)) (fun _ _ => rfl) (fun _ _ => rfl) rfl rfl rfl rfl)
theorem cq_open {c : Nat} {I I1 : Iv} {J J1 : Jv} (h : CQx c I J) (hI : ∀ b, 78 ≤ b → I1 b = I b) (hJ : J1 79 = J 79) : ∃ (C : Iv) (D : Jv), fn_X10_begin I1 J1 = (C, D) ∧ ¬ C 78 2 = 0 ∧ (∀ b, b < 78 → C b = I1 b) ∧ (∀ r, r ≠ 79 → D r = J1 r) ∧ CQ c I J C D := by
  obtain ⟨C, D, e, n2, r, rk, r81⟩ := begR I1 J1
  obtain ⟨e80, e83, e84, e81, e5, e11, e79⟩ := beg_hi hI hJ
  have bj := (begJ I1 J1).1
  rw [e] at e80 e83 e84 e81 e5 e11 e79 bj
  refine ⟨C, D, e, n2, fun b hb => r b (by omega) (by omega) (by omega) (by omega), bj, ?_⟩
  exact cq_row h (fun _ _ => rfl) (fun _ _ _ => rfl) (fun k _ => congrFun e79 k) e81 e83 e84 e80 e5
theorem cq_now {c : Nat} {I I1 C C2 : Iv} {J J1 D D2 : Jv} (h : CQ c I J C D) (s : STm (2880 * ((c + 1 : Nat) : Int)) 16 0 I1 J1 D2) (hI : ∀ b, (8 ≤ b ∧ b ≤ 12) ∨ (25 ≤ b ∧ b ≤ 43) → I1 b = I b) (hJ : ∀ r, 25 ≤ r → r ≤ 42 → J1 r = J r) (hB : ∀ k, 160 ≤ k → D2 79 k = D 79 k) (hC : C2 = C) : CQ (c + 1) I1 J1 C2 D2 := by
  subst hC
  obtain ⟨q1, q2, q3⟩ := h.mono
  refine ⟨s, env_row q2 (fun b hb => hI b (by omega)) rfl (fun _ _ => rfl) rfl rfl, fun i hi => ⟨by rw [hI 43 (by omega)]; exact (q3 i hi).1, fun z => ?_⟩⟩
  rw [hI 43 (by omega)] at z
  exact st_row ((q3 i hi).2 z) (fun b h1 h2 => hI b (by omega)) ⟨hJ _ (by omega) (by omega), hJ _ (by omega) (by omega)⟩ (fun k hk => hB _ (by omega))
theorem st_sc {N : Int} {o X : Nat} {I I' : Iv} {J B B' : Jv} (h : STm N o X I J B) (hI : ∀ b, o < b → b < o + 8 → I' b = I b) (t0 : I' (o + 8) 0 = I (o + 8) 0) (hB : ∀ k, k < 52 ∨ (55 ≤ k ∧ k ≤ 59) → B' 79 (X + k) = B 79 (X + k)) (n : STn N o X I' B') : STm N o X I' J B' := by
  obtain ⟨h1, h2, h3, h4, h5⟩ := h
  have i2 : I' (o + 2) = I (o + 2) := hI _ (by omega) (by omega)
  have i3 : I' (o + 3) = I (o + 3) := hI _ (by omega) (by omega)
  have i4 : I' (o + 4) = I (o + 4) := hI _ (by omega) (by omega)
  have i5 : I' (o + 5) = I (o + 5) := hI _ (by omega) (by omega)
  have i6 : I' (o + 6) = I (o + 6) := hI _ (by omega) (by omega)
  refine ⟨fun k hk => by rw [hB k (by omega)]; exact h1 k hk, fun k hk => by rw [i2, t0]; exact h2 k hk, fun f hf => ?_, fun j j1 j6 => by rw [show X + 54 + j = X + (54 + j) by omega, hB _ (by omega), show X + (54 + j) = X + 54 + j by omega]; exact h4 j j1 j6, n⟩
  have := h3 f hf
  unfold STf at this ⊢
  rw [show X + 12 + f = X + (12 + f) by omega, show X + 20 + f = X + (20 + f) by omega, show X + 28 + f = X + (28 + f) by omega, show X + 36 + f = X + (36 + f) by omega, show X + 44 + f = X + (44 + f) by omega] at this ⊢
  rw [hB _ (by omega), hB _ (by omega), hB _ (by omega), hB _ (by omega), hB _ (by omega), i2, i3, i4, i5, i6, t0]; exact this
theorem up1 (c : Nat) : (2880 * (c : Int)) ≤ 2880 * ((c + 1 : Nat) : Int) := by omega
theorem cq_fresh {c : Nat} {v1 v2 : Int32} {I I1 I2 : Iv} {J J1 J2 : Jv} (h : CQx c I J) (e1 : fn_X9_fresh I J = (v1, I1, J1)) (e2 : fn_X10_fresh I1 J1 = (v2, I2, J2)) : v1 = v2 ∧ CQx (c + 1) I2 J2 := by
  have hs : SB (I 16 8) := h.1.2.2.2.2.1.1
  obtain ⟨K, L, f1, f2, f3, c3, c4, c5, c6, c7, c8, c9, c10, c11⟩ := frshC (o := 16) I J (by omega) hs
  unfold fn_X9_fresh at e1
  rw [l_t, f1, b_n2_mk] at e1
  cases e1
  obtain ⟨C, D, eb, n2, lo, lj, q⟩ := cq_open (I1 := I1) (J1 := J1) h (fun b hb => f2 b (by omega) (by omega) (by omega) (by omega)) (f3 79 (by omega) (by omega))
  obtain ⟨D2, g1, g2, g3⟩ := freshenR (X := 0) C D (by omega)
  have g1' : fn_X10_freshen 0 C D = (C, D2) := g1
  unfold fn_X10_fresh at e2
  rw [eb, b_n2_mk, l_t, g1', b_n2_mk] at e2
  cases e2
  have s := q.1
  obtain ⟨-, -, -, -, ⟨n1, n52⟩, -, ⟨-, n54⟩, -, -, -, -, n69, n70⟩ := s
  have n54' : D 79 54 = (I 24 0).toInt64 := n54
  refine ⟨by rw [n54', wsd6], cqx_fin eb (fun _ _ => rfl) (fun r hr => g2 r (by omega)) rfl ?_⟩
  refine cq_now q ?_ (fun b hb => f2 b (by omega) (by omega) (by omega) (by omega)) (fun r h1 h2 => f3 r (by omega) (by omega)) (fun k hk => ?_) rfl
  · exact st_fresh (by omega) n1 n52 n69 n70 c3 c4 c5 c6 c7 c8 c9 c10 c11 g3
  · rw [g3]; unfold freshR; rw [if_neg (by omega)]
/-- a scalar's change -/
theorem cq_cover {c : Nat} {on v1 v2 : Int32} {I I1 I2 : Iv} {J J1 J2 : Jv} (hon : on = 0 ∨ on = 1) (h : CQx c I J) (e1 : fn_X9_cover on I J = (v1, I1, J1)) (e2 : fn_X10_cover on I1 J1 = (v2, I2, J2)) : v1 = v2 ∧ CQx (c + 1) I2 J2 := by
  obtain ⟨b, hb⟩ : ∃ b : Bool, on = b3 b := by
    rcases hon with z | z
    · exact ⟨false, z⟩
    · exact ⟨true, z⟩
  subst hb
  unfold fn_X9_cover at e1
  rw [j_ite, l_t] at e1
  cases e1
  obtain ⟨C, D, eb, n2, lo, lj, q⟩ := cq_open (I1 := wI I 16 11 (b3 b)) (J1 := J) h (fun b hb => wI_row (by omega)) rfl
  unfold fn_X10_cover at e2
  rw [eb, b_n2_mk, l_t, fX10_one, b_n3_mk, l_t] at e2
  cases e2
  obtain ⟨s1, s2, s3, s4, ⟨n1, n52⟩, n53, n54, n60, n66, n67, ⟨cov, n11, n68⟩, n69, n70⟩ := q.1
  have n68' : D 79 68 = (b3 cov).toInt64 := n68
  refine ⟨?_, cqx_fin eb (fun _ _ => rfl) (fun r hr => wJ_row (by omega)) rfl ?_⟩
  · rw [n68', wsd6, n11]; cases cov <;> rfl
  refine cq_now q ?_ (fun b hb => wI_row (by omega)) (fun r h1 h2 => rfl) (fun k hk => wJ_ne (by omega)) rfl
  refine STm.mono (st_sc (X := 0) q.1 (fun b h1 h2 => wI_row (by omega)) (by rw [wI_row (by omega)]) (fun k hk => wJ_ne (by omega)) ?_) (up1 c)
  have r8 : (wI I 16 11 (b3 b)) (16 + 8) = I (16 + 8) := wI_row (by omega)
  have rk : ∀ k, k ≠ 11 → wI I 16 11 (b3 b) 16 k = I 16 k := fun k hk => wI_ne (Or.inr hk)
  have dk : ∀ k, k ≠ 68 → wJ D 79 68 (b3 b).toInt64 79 (0 + k) = D 79 (0 + k) := fun k hk => wJ_ne (by omega)
  unfold STn SDm
  rw [r8, rk 8 (by omega), rk 9 (by omega), rk 10 (by omega), rk 12 (by omega), rk 13 (by omega), dk 52 (by omega), dk 53 (by omega), dk 54 (by omega), dk 60 (by omega), dk 61 (by omega), dk 62 (by omega), dk 63 (by omega), dk 64 (by omega), dk 65 (by omega), dk 66 (by omega), dk 67 (by omega), dk 69 (by omega), dk 70 (by omega)]
  exact ⟨⟨n1, n52⟩, n53, n54, n60, n66, n67, ⟨b, wI_self, wJ_self⟩, n69, n70⟩
