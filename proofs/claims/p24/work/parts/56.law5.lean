set_option maxRecDepth 100000 in
set_option maxHeartbeats 4000000 in
theorem law_loop {L0 : Nat} {xs : Nat → Int32} {nc ns : Nat} (hroom : nc ≤ room_1.cells ∧ ns ≤ room_1.slots) (hL : L0 ≤ 3072) : ∀ (n c : Nat) (i : Int32) (I : Iv) (J : Jv), c + n = 600 → i.toInt = 6 * (c : Int) → LI c I J → CP I → CQx c I J → CS I → G m_L_law (RQL L0 xs) nc ns 18 [some (.ref 5000000), some (.ref 0), some (.ref 78), some (.int i)] [] SHF I J := by
  intro n
  induction n using Nat.strongRecOn with
  | ind n ihn =>
    intro c i I J hcn hi h hcp hcq hcs
    have hi0 := li_pos hi
    refine g_iload_n d_L_law_18 rfl ?_
    refine g_aload_n d_L_law_19 rfl ?_
    refine g_slen d_L_law_20 ?_
    refine g_bipush (v := 6) d_L_law_21 kB_6 ?_
    refine g_isub d_L_law_23 ?_
    refine g_icmp_gt d_L_law_24 (fun hx => ?_) (fun hx => ?_)
    · refine g_iconst (v := 1) d_L_law_1571 kI_1 ?_
      exact g_lret ⟨rfl, rfl, rfl⟩ d_L_law_1572 hroom
    · have hi6 := li_end hL hx
      have hc : c ≤ 511 := by omega
      have hc6 : c ≤ 600 := by omega
      have K : ∀ (I2 : Iv) (J2 : Jv), LI (c + 1) I2 J2 → CP I2 → CQx (c + 1) I2 J2 → CS I2 → G m_L_law (RQL L0 xs) nc ns 1565 [some (.ref 5000000), some (.ref 0), some (.ref 78), some (.int i)] [] SHF I2 J2 := by
        intro I2 J2 k kc kq ks
        refine g_iinc (v := i + 6) (L' := [some (.ref 5000000), some (.ref 0), some (.ref 78), some (.int (i + 6))]) d_L_law_1565 rfl (by rw [kI_6]) (by decide) rfl ?_
        refine g_goto d_L_law_1568 ?_
        exact ihn (n - 1) (by omega) (c + 1) (i + 6) I2 J2 (by omega) (li_up hi hc6) k kc kq ks
      refine g_aload_n d_L_law_27 rfl ?_
      refine g_iload_n d_L_law_28 rfl ?_
      refine g_sld d_L_law_29 (li_ix0 hi0 hi6) ?_
      refine g_bipush (v := 63) d_L_law_30 kB_63 ?_
      refine g_iand d_L_law_32 ?_
      refine g_topI (fun x ex => ?_)
      rcases sw_split x (0) (44) with h33 | h33
      · refine g_swOut d_L_law_33 h33 ?_
        exact K I J h.mono hcp hcq.up hcs
      · have hz : ∃ k : Nat, k < 45 ∧ x.toInt = (0 : Int) + (k : Int) := by obtain ⟨k, h1, h2⟩ := sw_k h33; exact ⟨k, by omega, h2⟩
        obtain ⟨k, hk, hz⟩ := hz
        match k, hk, hz with
        | 0, _, hz =>
          refine g_swIn d_L_law_33_0 (by rw [hz]; decide) (by rw [hz]; decide) (by rw [hz]; rfl) ?_
          exact law_0 hroom hL hi0 hi6 hc6 h hcp hcq hcs K
        | 1, _, hz =>
          refine g_swIn d_L_law_33_1 (by rw [hz]; decide) (by rw [hz]; decide) (by rw [hz]; rfl) ?_
          exact law_1 hroom hL hi0 hi6 hc6 h hcp hcq hcs K
        | 2, _, hz =>
          refine g_swIn d_L_law_33_2 (by rw [hz]; decide) (by rw [hz]; decide) (by rw [hz]; rfl) ?_
          exact law_2 hroom hL hi0 hi6 hc6 h hcp hcq hcs K
        | 3, _, hz =>
          refine g_swIn d_L_law_33_3 (by rw [hz]; decide) (by rw [hz]; decide) (by rw [hz]; rfl) ?_
          exact law_3 hroom hL hi0 hi6 hc6 h hcp hcq hcs K
        | 4, _, hz =>
          refine g_swIn d_L_law_33_4 (by rw [hz]; decide) (by rw [hz]; decide) (by rw [hz]; rfl) ?_
          exact law_4 hroom hL hi0 hi6 hc6 h hcp hcq hcs K
        | 5, _, hz =>
          refine g_swIn d_L_law_33_5 (by rw [hz]; decide) (by rw [hz]; decide) (by rw [hz]; rfl) ?_
          exact law_5 hroom hL hi0 hi6 hc6 h hcp hcq hcs K
        | 6, _, hz =>
          refine g_swIn d_L_law_33_6 (by rw [hz]; decide) (by rw [hz]; decide) (by rw [hz]; rfl) ?_
          exact law_6 hroom hL hi0 hi6 hc6 h hcp hcq hcs K
        | 7, _, hz =>
          refine g_swIn d_L_law_33_7 (by rw [hz]; decide) (by rw [hz]; decide) (by rw [hz]; rfl) ?_
          exact law_7 hroom hL hi0 hi6 hc6 h hcp hcq hcs K
        | 8, _, hz =>
          refine g_swIn d_L_law_33_8 (by rw [hz]; decide) (by rw [hz]; decide) (by rw [hz]; rfl) ?_
          exact law_8 hroom hL hi0 hi6 hc6 h hcp hcq hcs K
        | 9, _, hz =>
          refine g_swIn d_L_law_33_9 (by rw [hz]; decide) (by rw [hz]; decide) (by rw [hz]; rfl) ?_
          exact law_9 hroom hL hi0 hi6 hc6 h hcp hcq hcs K
        | 10, _, hz =>
          refine g_swIn d_L_law_33_10 (by rw [hz]; decide) (by rw [hz]; decide) (by rw [hz]; rfl) ?_
          exact law_10 hroom hL hi0 hi6 hc6 h hcp hcq hcs K
        | 11, _, hz =>
          refine g_swIn d_L_law_33_11 (by rw [hz]; decide) (by rw [hz]; decide) (by rw [hz]; rfl) ?_
          exact law_11 hroom hL hi0 hi6 hc6 h hcp hcq hcs K
        | 12, _, hz =>
          refine g_swIn d_L_law_33_12 (by rw [hz]; decide) (by rw [hz]; decide) (by rw [hz]; rfl) ?_
          exact law_12 hroom hL hi0 hi6 hc6 h hcp hcq hcs K
        | 13, _, hz =>
          refine g_swIn d_L_law_33_13 (by rw [hz]; decide) (by rw [hz]; decide) (by rw [hz]; rfl) ?_
          exact law_13 hroom hL hi0 hi6 hc6 h hcp hcq hcs K
        | 14, _, hz =>
          refine g_swIn d_L_law_33_14 (by rw [hz]; decide) (by rw [hz]; decide) (by rw [hz]; rfl) ?_
          exact law_14 hroom hL hi0 hi6 hc6 h hcp hcq hcs K
        | 15, _, hz =>
          refine g_swIn d_L_law_33_15 (by rw [hz]; decide) (by rw [hz]; decide) (by rw [hz]; rfl) ?_
          exact law_15 hroom hL hi0 hi6 hc6 h hcp hcq hcs K
        | 16, _, hz =>
          refine g_swIn d_L_law_33_16 (by rw [hz]; decide) (by rw [hz]; decide) (by rw [hz]; rfl) ?_
          exact law_16 hroom hL hi0 hi6 hc6 h hcp hcq hcs K
        | 17, _, hz =>
          refine g_swIn d_L_law_33_17 (by rw [hz]; decide) (by rw [hz]; decide) (by rw [hz]; rfl) ?_
          exact law_17 hroom hL hi0 hi6 hc6 h hcp hcq hcs K
        | 18, _, hz =>
          refine g_swIn d_L_law_33_18 (by rw [hz]; decide) (by rw [hz]; decide) (by rw [hz]; rfl) ?_
          exact law_18 hroom hL hi0 hi6 hc6 h hcp hcq hcs K
        | 19, _, hz =>
          refine g_swIn d_L_law_33_19 (by rw [hz]; decide) (by rw [hz]; decide) (by rw [hz]; rfl) ?_
          exact law_19 hroom hL hi0 hi6 hc6 h hcp hcq hcs K
        | 20, _, hz =>
          refine g_swIn d_L_law_33_20 (by rw [hz]; decide) (by rw [hz]; decide) (by rw [hz]; rfl) ?_
          exact law_20 hroom hL hi0 hi6 hc6 h hcp hcq hcs K
        | 21, _, hz =>
          refine g_swIn d_L_law_33_21 (by rw [hz]; decide) (by rw [hz]; decide) (by rw [hz]; rfl) ?_
          exact law_21 hroom hL hi0 hi6 hc6 h hcp hcq hcs K
        | 22, _, hz =>
          refine g_swIn d_L_law_33_22 (by rw [hz]; decide) (by rw [hz]; decide) (by rw [hz]; rfl) ?_
          exact law_22 hroom hL hi0 hi6 hc6 h hcp hcq hcs K
        | 23, _, hz =>
          refine g_swIn d_L_law_33_23 (by rw [hz]; decide) (by rw [hz]; decide) (by rw [hz]; rfl) ?_
          exact law_23 hroom hL hi0 hi6 hc6 h hcp hcq hcs K
        | 24, _, hz =>
          refine g_swIn d_L_law_33_24 (by rw [hz]; decide) (by rw [hz]; decide) (by rw [hz]; rfl) ?_
          exact law_24 hroom hL hi0 hi6 hc6 h hcp hcq hcs K
        | 25, _, hz =>
          refine g_swIn d_L_law_33_25 (by rw [hz]; decide) (by rw [hz]; decide) (by rw [hz]; rfl) ?_
          exact law_25 hroom hL hi0 hi6 hc6 h hcp hcq hcs K
        | 26, _, hz =>
          refine g_swIn d_L_law_33_26 (by rw [hz]; decide) (by rw [hz]; decide) (by rw [hz]; rfl) ?_
          exact law_26 hroom hL hi0 hi6 hc6 h hcp hcq hcs K
        | 27, _, hz =>
          refine g_swIn d_L_law_33_27 (by rw [hz]; decide) (by rw [hz]; decide) (by rw [hz]; rfl) ?_
          exact law_27 hroom hL hi0 hi6 hc6 h hcp hcq hcs K
        | 28, _, hz =>
          refine g_swIn d_L_law_33_28 (by rw [hz]; decide) (by rw [hz]; decide) (by rw [hz]; rfl) ?_
          exact law_28 hroom hL hi0 hi6 hc6 h hcp hcq hcs K
        | 29, _, hz =>
          refine g_swIn d_L_law_33_29 (by rw [hz]; decide) (by rw [hz]; decide) (by rw [hz]; rfl) ?_
          exact law_29 hroom hL hi0 hi6 hc6 h hcp hcq hcs K
        | 30, _, hz =>
          refine g_swIn d_L_law_33_30 (by rw [hz]; decide) (by rw [hz]; decide) (by rw [hz]; rfl) ?_
          exact law_30 hroom hL hi0 hi6 hc6 h hcp hcq hcs K
        | 31, _, hz =>
          refine g_swIn d_L_law_33_31 (by rw [hz]; decide) (by rw [hz]; decide) (by rw [hz]; rfl) ?_
          exact law_31 hroom hL hi0 hi6 hc6 h hcp hcq hcs K
        | 32, _, hz =>
          refine g_swIn d_L_law_33_32 (by rw [hz]; decide) (by rw [hz]; decide) (by rw [hz]; rfl) ?_
          exact law_32 hroom hL hi0 hi6 hc6 h hcp hcq hcs K
        | 33, _, hz =>
          refine g_swIn d_L_law_33_33 (by rw [hz]; decide) (by rw [hz]; decide) (by rw [hz]; rfl) ?_
          exact law_33 hroom hL hi0 hi6 hc6 h hcp hcq hcs K
        | 34, _, hz =>
          refine g_swIn d_L_law_33_34 (by rw [hz]; decide) (by rw [hz]; decide) (by rw [hz]; rfl) ?_
          exact law_34 hroom hL hi0 hi6 hc6 h hcp hcq hcs K
        | 35, _, hz =>
          refine g_swIn d_L_law_33_35 (by rw [hz]; decide) (by rw [hz]; decide) (by rw [hz]; rfl) ?_
          exact law_35 hroom hL hi0 hi6 hc6 h hcp hcq hcs K
        | 36, _, hz =>
          refine g_swIn d_L_law_33_36 (by rw [hz]; decide) (by rw [hz]; decide) (by rw [hz]; rfl) ?_
          exact law_36 hroom hL hi0 hi6 hc6 h hcp hcq hcs K
        | 37, _, hz =>
          refine g_swIn d_L_law_33_37 (by rw [hz]; decide) (by rw [hz]; decide) (by rw [hz]; rfl) ?_
          exact law_37 hroom hL hi0 hi6 hc6 h hcp hcq hcs K
        | 38, _, hz =>
          refine g_swIn d_L_law_33_38 (by rw [hz]; decide) (by rw [hz]; decide) (by rw [hz]; rfl) ?_
          exact law_38 hroom hL hi0 hi6 hc6 h hcp hcq hcs K
        | 39, _, hz =>
          refine g_swIn d_L_law_33_39 (by rw [hz]; decide) (by rw [hz]; decide) (by rw [hz]; rfl) ?_
          exact law_39 hroom hL hi0 hi6 hc6 h hcp hcq hcs K
        | 40, _, hz =>
          refine g_swIn d_L_law_33_40 (by rw [hz]; decide) (by rw [hz]; decide) (by rw [hz]; rfl) ?_
          exact law_40 hroom hL hi0 hi6 hc6 h hcp hcq hcs K
        | 41, _, hz =>
          refine g_swIn d_L_law_33_41 (by rw [hz]; decide) (by rw [hz]; decide) (by rw [hz]; rfl) ?_
          exact law_41 hroom hL hi0 hi6 hc6 h hcp hcq hcs K
        | 42, _, hz =>
          refine g_swIn d_L_law_33_42 (by rw [hz]; decide) (by rw [hz]; decide) (by rw [hz]; rfl) ?_
          exact law_42 hroom hL hi0 hi6 hc6 h hcp hcq hcs K
        | 43, _, hz =>
          refine g_swIn d_L_law_33_43 (by rw [hz]; decide) (by rw [hz]; decide) (by rw [hz]; rfl) ?_
          exact law_43 hroom hL hi0 hi6 hc6 h hcp hcq hcs K
        | 44, _, hz =>
          refine g_swIn d_L_law_33_44 (by rw [hz]; decide) (by rw [hz]; decide) (by rw [hz]; rfl) ?_
          exact law_44 hroom hL hi0 hi6 hc6 h hcp hcq hcs K
        | k + 45, hk, _ => exact absurd hk (by omega)
set_option maxRecDepth 100000 in
set_option maxHeartbeats 4000000 in
theorem law_start {L0 : Nat} {xs : Nat → Int32} {I : Iv} {J : Jv} (hL : L0 ≤ 3072) : G m_L_law (RQL L0 xs) 0 0 0 [some (.ref 5000000), none, none, none] [] [] I J := by
  refine g_new (ci := 9) (k := 0) (fs := [.inl none, .inl none, .inl none, .inl none, .inl none, .inl none, .inl none, .inl none, .inl none, .inl none, .inl none, .inl none, .inl none]) d_L_law_0 rfl tw_20 tw_21 tw_1 hfs_9 rfl rfl (by decide) ⟨rfl, rfl⟩ ⟨Nat.le_of_ble_eq_true rfl, Nat.le_of_ble_eq_true rfl⟩ ?_
  refine g_dup d_L_law_3 rfl ?_
  refine g_shp (S' := SH_0) rfl ?_
  refine g_I0 d_L_law_4 cs_L_law_X9_init ⟨rfl, rfl⟩ lk_RL_9 im_X9_init (Nat.le_of_ble_eq_true rfl) ⟨rfl, rfl⟩ ⟨Nat.le_of_ble_eq_true rfl, Nat.le_of_ble_eq_true rfl⟩ (ci_X9_init _ _) (fun r_ S_ I1 J1 q1 => ?_)
  obtain ⟨rfl, rfl, f1, f2, f3, f4, f5, f6, f7, f8, f9, f10, f11, f12, f13, f14, f15, f16, f17, f18, f19, f20, f21, f22, f23, f24, f25⟩ := q1
  refine g_st (st' := [.ref 0]) rfl ?_
  refine g_astore_n (L' := [some (.ref 5000000), some (.ref 0), none, none]) d_L_law_7 (by decide) rfl ?_
  refine g_new (ci := 10) (k := 78) (fs := [.inl none, .inl none, .inr .boolean, .inl none, .inl none, .inr .int, .inl none, .inl none, .inl none, .inl none, .inl none, .inr .int, .inr .int, .inr .int, .inr .int, .inr .int, .inr .int, .inr .int, .inl none, .inl none, .inl none, .inl none, .inl none, .inl none, .inl none, .inl none, .inl none, .inl none, .inr .long, .inl none, .inr .int, .inr .int, .inr .int, .inr .int]) d_L_law_8 rfl tw_1082 tw_1083 tw_13 hfs_10 rfl rfl (by decide) ⟨rfl, rfl⟩ ⟨Nat.le_of_ble_eq_true rfl, Nat.le_of_ble_eq_true rfl⟩ ?_
  refine g_dup d_L_law_11 rfl ?_
  refine g_shp (S' := SH_27) rfl ?_
  refine g_I0 d_L_law_12 cs_L_law_X10_init ⟨rfl, rfl⟩ lk_RL_12 im_X10_init (Nat.le_of_ble_eq_true rfl) ⟨rfl, rfl⟩ ⟨Nat.le_of_ble_eq_true rfl, Nat.le_of_ble_eq_true rfl⟩ (ci_X10_init_78 _ _) (fun r_ S_ I2 J2 q2 => ?_)
  obtain ⟨rfl, cf, rfl, m1, m2, m3, m16⟩ := q2
  refine g_shp (S' := SHF) rfl ?_
  refine g_st (st' := [.ref 78]) rfl ?_
  refine g_astore_n (L' := [some (.ref 5000000), some (.ref 0), some (.ref 78), none]) d_L_law_15 (by decide) rfl ?_
  refine g_iconst (v := 0) d_L_law_16 kI_0 ?_
  refine g_istore_n (L' := [some (.ref 5000000), some (.ref 0), some (.ref 78), some (.int 0)]) d_L_law_17 (by decide) rfl ?_
  have e : ∀ b, b < 78 → I2 b = I1 b := fun b hb => (cf b hb).1.trans (zI_row (by omega))
  have ej : ∀ b, b < 78 → J2 b = J1 b := fun b hb => (cf b hb).2.trans (zJ_row (by omega))
  obtain ⟨I0, J0, fz1, fz8, fz12, fz13⟩ := f1
  exact law_loop ⟨Nat.le_of_ble_eq_true rfl, Nat.le_of_ble_eq_true rfl⟩ hL 600 0 0 I2 J2 rfl (by decide) (li_0 (by rw [e 1 (by decide)]; exact f2) (by rw [e 24 (by decide)]; exact f8) (by rw [e 33 (by decide)]; exact f11) (by rw [e 42 (by decide)]; exact f15) (fun k hk => by rw [e 61 (by decide)]; exact f21 k hk) (by rw [e 65 (by decide)]; exact f24) (by rw [e 16 (by decide)]; exact f9) (by rw [e 16 (by decide)]; exact f10) (by rw [e 25 (by decide)]; exact f12) (by rw [e 25 (by decide)]; exact f13) (by rw [e 34 (by decide)]; exact f16) (by rw [e 34 (by decide)]; exact f17) (fun k hk => by rw [e 66 (by decide)]; exact f25 k hk) (fun k hk => by rw [e 62 (by decide)]; exact f23 k hk) (fun k hk => by rw [e 58 (by decide)]; exact f22 k hk) (fun k hk => by rw [e 43 (by decide)]; exact f19 k hk) m1 (fun k hk => (m2 k hk).trans (by simp [zI]))) (cp_0 (by rw [e 1 (by decide)]; exact f2) (by rw [e 1 (by decide)]; exact f3) (fun k hk => by rw [e 2 (by decide)]; exact f4 k hk) (fun k hk => by rw [e 8 (by decide)]; exact f5 k hk) (by rw [e 9 (by decide)]; exact f6) m1 (fun k hk => (m2 k hk).trans (by simp [zI])) m16) (cq_0 fz1 fz8 fz12 fz13 e ej (fun k hk => by rw [e 12 (by decide)]; exact f7 k hk) (fun k hk => by rw [e 43 (by decide)]; exact f19 k hk) (fun k hk => by rw [e 8 (by decide)]; exact f5 k hk) m1 (fun k hk => (m2 k hk).trans (by simp [zI]))) (cs_0 (fun k hk => by rw [e 55 (by decide)]; exact f20 k hk) (fun k hk => by rw [e 58 (by decide)]; exact f22 k hk) (fun k hk => by rw [e 61 (by decide)]; exact f21 k hk) (fun k hk => by rw [e 62 (by decide)]; exact f23 k hk) m1 (fun k hk => (m2 k hk).trans (by simp [zI])))
