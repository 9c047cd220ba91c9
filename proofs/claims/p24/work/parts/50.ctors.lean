theorem g_shp {y : Mr} {RQ : RQt} {nc ns pc : Nat} {L : List (Option Value)} {st : List Value} {S S' : Shp} {I : Iv} {J : Jv} (h : S = S') (k : G y RQ nc ns pc L st S' I J) : G y RQ nc ns pc L st S I J := h ▸ k
def CF (o : Nat) (I : Iv) (J : Jv) (I' : Iv) (J' : Jv) : Prop := ∀ b, b < o → I' b = I b ∧ J' b = J b
theorem cz_z {o k : Nat} {I I1 : Iv} {J J1 : Jv} (h : CF o I J I1 J1) (hk : o ≤ k) : CF o I J (zI I1 k) (zJ J1 k) := fun b hb => by rw [zI_row (by omega), zJ_row (by omega)]; exact h b hb
theorem cz_w {o a k : Nat} {v : Int32} {I I1 : Iv} {J J1 : Jv} (h : CF o I J I1 J1) (hk : o ≤ a) : CF o I J (wI I1 a k v) J1 := fun b hb => by rw [wI_row (by omega)]; exact h b hb
theorem cz_row {o a : Nat} {I I1 I2 : Iv} {J J1 : Jv} (h : CF o I J I1 J1) (hr : ∀ b, b ≠ a → I2 b = I1 b) (hk : o ≤ a) : CF o I J I2 J1 := fun b hb => by rw [hr b (by omega)]; exact h b hb
theorem cz_tr {o : Nat} {I I1 I2 : Iv} {J J1 J2 : Jv} (h : CF o I J I1 J1) (k : CF o I1 J1 I2 J2) : CF o I J I2 J2 := fun b hb => ⟨(k b hb).1.trans (h b hb).1, (k b hb).2.trans (h b hb).2⟩
theorem cz_mono {o p : Nat} {I I1 : Iv} {J J1 : Jv} (h : CF p I J I1 J1) (hk : o ≤ p) : CF o I J I1 J1 := fun b hb => h b (by omega)
theorem hfs_0 (ad : Nat → Nat) (ty : Nat → FieldType) (h : ∀ k, k < 1 → parseFieldDescriptor (TX0 k).2.2.1 = some (ty k)) : ∀ j, j < 1 → defaultValue (ty j) = vp_V (fl ad (fun _ => 0) (fun _ => 0) 0 [.inl none]) j := by
  intro j hj
  have e : ty j = tyX0 j := Option.some.inj ((h j hj).symm.trans (tyX0_ok j hj))
  rw [e]
  match j, hj with
  | 0, _ => rfl
  | k + 1, hk => exact absurd hk (by omega)
theorem hfs_1 (ad : Nat → Nat) (ty : Nat → FieldType) (h : ∀ k, k < 4 → parseFieldDescriptor (TX1 k).2.2.1 = some (ty k)) : ∀ j, j < 4 → defaultValue (ty j) = vp_V (fl ad (fun _ => 0) (fun _ => 0) 0 [.inl none, .inl none, .inl none, .inl none]) j := by
  intro j hj
  have e : ty j = tyX1 j := Option.some.inj ((h j hj).symm.trans (tyX1_ok j hj))
  rw [e]
  match j, hj with
  | 0, _ => rfl
  | 1, _ => rfl
  | 2, _ => rfl
  | 3, _ => rfl
  | k + 4, hk => exact absurd hk (by omega)
theorem hfs_2 (ad : Nat → Nat) (ty : Nat → FieldType) (h : ∀ k, k < 8 → parseFieldDescriptor (TX2 k).2.2.1 = some (ty k)) : ∀ j, j < 8 → defaultValue (ty j) = vp_V (fl ad (fun _ => 0) (fun _ => 0) 0 [.inl none, .inl none, .inl none, .inl none, .inl none, .inl none, .inl none, .inl none]) j := by
  intro j hj
  have e : ty j = tyX2 j := Option.some.inj ((h j hj).symm.trans (tyX2_ok j hj))
  rw [e]
  match j, hj with
  | 0, _ => rfl
  | 1, _ => rfl
  | 2, _ => rfl
  | 3, _ => rfl
  | 4, _ => rfl
  | 5, _ => rfl
  | 6, _ => rfl
  | 7, _ => rfl
  | k + 8, hk => exact absurd hk (by omega)
theorem hfs_3 (ad : Nat → Nat) (ty : Nat → FieldType) (h : ∀ k, k < 4 → parseFieldDescriptor (TX3 k).2.2.1 = some (ty k)) : ∀ j, j < 4 → defaultValue (ty j) = vp_V (fl ad (fun _ => 0) (fun _ => 0) 0 [.inr .int, .inl none, .inl none, .inl none]) j := by
  intro j hj
  have e : ty j = tyX3 j := Option.some.inj ((h j hj).symm.trans (tyX3_ok j hj))
  rw [e]
  match j, hj with
  | 0, _ => rfl
  | 1, _ => rfl
  | 2, _ => rfl
  | 3, _ => rfl
  | k + 4, hk => exact absurd hk (by omega)
theorem hfs_4 (ad : Nat → Nat) (ty : Nat → FieldType) (h : ∀ k, k < 3 → parseFieldDescriptor (TX4 k).2.2.1 = some (ty k)) : ∀ j, j < 3 → defaultValue (ty j) = vp_V (fl ad (fun _ => 0) (fun _ => 0) 0 [.inl none, .inl none, .inr .int]) j := by
  intro j hj
  have e : ty j = tyX4 j := Option.some.inj ((h j hj).symm.trans (tyX4_ok j hj))
  rw [e]
  match j, hj with
  | 0, _ => rfl
  | 1, _ => rfl
  | 2, _ => rfl
  | k + 3, hk => exact absurd hk (by omega)
theorem hfs_5 (ad : Nat → Nat) (ty : Nat → FieldType) (h : ∀ k, k < 10 → parseFieldDescriptor (TX5 k).2.2.1 = some (ty k)) : ∀ j, j < 10 → defaultValue (ty j) = vp_V (fl ad (fun _ => 0) (fun _ => 0) 0 [.inl none, .inr .int, .inr .int, .inr .int, .inr .int, .inr .int, .inl none, .inl none, .inl none, .inl none]) j := by
  intro j hj
  have e : ty j = tyX5 j := Option.some.inj ((h j hj).symm.trans (tyX5_ok j hj))
  rw [e]
  match j, hj with
  | 0, _ => rfl
  | 1, _ => rfl
  | 2, _ => rfl
  | 3, _ => rfl
  | 4, _ => rfl
  | 5, _ => rfl
  | 6, _ => rfl
  | 7, _ => rfl
  | 8, _ => rfl
  | 9, _ => rfl
  | k + 10, hk => exact absurd hk (by omega)
theorem hfs_6 (ad : Nat → Nat) (ty : Nat → FieldType) (h : ∀ k, k < 14 → parseFieldDescriptor (TX6 k).2.2.1 = some (ty k)) : ∀ j, j < 14 → defaultValue (ty j) = vp_V (fl ad (fun _ => 0) (fun _ => 0) 0 [.inl none, .inl none, .inl none, .inl none, .inl none, .inl none, .inl none, .inl none, .inr .int, .inr .int, .inr .boolean, .inr .boolean, .inr .boolean, .inr .int]) j := by
  intro j hj
  have e : ty j = tyX6 j := Option.some.inj ((h j hj).symm.trans (tyX6_ok j hj))
  rw [e]
  match j, hj with
  | 0, _ => rfl
  | 1, _ => rfl
  | 2, _ => rfl
  | 3, _ => rfl
  | 4, _ => rfl
  | 5, _ => rfl
  | 6, _ => rfl
  | 7, _ => rfl
  | 8, _ => rfl
  | 9, _ => rfl
  | 10, _ => rfl
  | 11, _ => rfl
  | 12, _ => rfl
  | 13, _ => rfl
  | k + 14, hk => exact absurd hk (by omega)
theorem hfs_7 (ad : Nat → Nat) (ty : Nat → FieldType) (h : ∀ k, k < 4 → parseFieldDescriptor (TX7 k).2.2.1 = some (ty k)) : ∀ j, j < 4 → defaultValue (ty j) = vp_V (fl ad (fun _ => 0) (fun _ => 0) 0 [.inl none, .inl none, .inl none, .inl none]) j := by
  intro j hj
  have e : ty j = tyX7 j := Option.some.inj ((h j hj).symm.trans (tyX7_ok j hj))
  rw [e]
  match j, hj with
  | 0, _ => rfl
  | 1, _ => rfl
  | 2, _ => rfl
  | 3, _ => rfl
  | k + 4, hk => exact absurd hk (by omega)
theorem hfs_8 (ad : Nat → Nat) (ty : Nat → FieldType) (h : ∀ k, k < 9 → parseFieldDescriptor (TX8 k).2.2.1 = some (ty k)) : ∀ j, j < 9 → defaultValue (ty j) = vp_V (fl ad (fun _ => 0) (fun _ => 0) 0 [.inl none, .inl none, .inl none, .inl none, .inr .int, .inr .int, .inr .int, .inr .int, .inr .int]) j := by
  intro j hj
  have e : ty j = tyX8 j := Option.some.inj ((h j hj).symm.trans (tyX8_ok j hj))
  rw [e]
  match j, hj with
  | 0, _ => rfl
  | 1, _ => rfl
  | 2, _ => rfl
  | 3, _ => rfl
  | 4, _ => rfl
  | 5, _ => rfl
  | 6, _ => rfl
  | 7, _ => rfl
  | 8, _ => rfl
  | k + 9, hk => exact absurd hk (by omega)
theorem hfs_9 (ad : Nat → Nat) (ty : Nat → FieldType) (h : ∀ k, k < 13 → parseFieldDescriptor (TX9 k).2.2.1 = some (ty k)) : ∀ j, j < 13 → defaultValue (ty j) = vp_V (fl ad (fun _ => 0) (fun _ => 0) 0 [.inl none, .inl none, .inl none, .inl none, .inl none, .inl none, .inl none, .inl none, .inl none, .inl none, .inl none, .inl none, .inl none]) j := by
  intro j hj
  have e : ty j = tyX9 j := Option.some.inj ((h j hj).symm.trans (tyX9_ok j hj))
  rw [e]
  match j, hj with
  | 0, _ => rfl
  | 1, _ => rfl
  | 2, _ => rfl
  | 3, _ => rfl
  | 4, _ => rfl
  | 5, _ => rfl
  | 6, _ => rfl
  | 7, _ => rfl
  | 8, _ => rfl
  | 9, _ => rfl
  | 10, _ => rfl
  | 11, _ => rfl
  | 12, _ => rfl
  | k + 13, hk => exact absurd hk (by omega)
theorem hfs_10 (ad : Nat → Nat) (ty : Nat → FieldType) (h : ∀ k, k < 34 → parseFieldDescriptor (TX10 k).2.2.1 = some (ty k)) : ∀ j, j < 34 → defaultValue (ty j) = vp_V (fl ad (fun _ => 0) (fun _ => 0) 0 [.inl none, .inl none, .inr .boolean, .inl none, .inl none, .inr .int, .inl none, .inl none, .inl none, .inl none, .inl none, .inr .int, .inr .int, .inr .int, .inr .int, .inr .int, .inr .int, .inr .int, .inl none, .inl none, .inl none, .inl none, .inl none, .inl none, .inl none, .inl none, .inl none, .inl none, .inr .long, .inl none, .inr .int, .inr .int, .inr .int, .inr .int]) j := by
  intro j hj
  have e : ty j = tyX10 j := Option.some.inj ((h j hj).symm.trans (tyX10_ok j hj))
  rw [e]
  match j, hj with
  | 0, _ => rfl
  | 1, _ => rfl
  | 2, _ => rfl
  | 3, _ => rfl
  | 4, _ => rfl
  | 5, _ => rfl
  | 6, _ => rfl
  | 7, _ => rfl
  | 8, _ => rfl
  | 9, _ => rfl
  | 10, _ => rfl
  | 11, _ => rfl
  | 12, _ => rfl
  | 13, _ => rfl
  | 14, _ => rfl
  | 15, _ => rfl
  | 16, _ => rfl
  | 17, _ => rfl
  | 18, _ => rfl
  | 19, _ => rfl
  | 20, _ => rfl
  | 21, _ => rfl
  | 22, _ => rfl
  | 23, _ => rfl
  | 24, _ => rfl
  | 25, _ => rfl
  | 26, _ => rfl
  | 27, _ => rfl
  | 28, _ => rfl
  | 29, _ => rfl
  | 30, _ => rfl
  | 31, _ => rfl
  | 32, _ => rfl
  | 33, _ => rfl
  | k + 34, hk => exact absurd hk (by omega)
def SHC : Shp := [.inr (9, [.inl (some 1), .inl (some 7), .inl (some 9), .inl (some 13), .inl (some 16), .inl (some 25), .inl (some 34), .inl (some 43), .inl (some 44), .inl (some 45), .inl (some 57), .inl (some 65), .inl (some 67)]), .inr (5, [.inl (some 2), .inr .int, .inr .int, .inr .int, .inr .int, .inr .int, .inl (some 3), .inl (some 4), .inl (some 5), .inl (some 6)]), .inl (.char, 300), .inl (.boolean, 13), .inl (.int, 15), .inl (.int, 12), .inl (.int, 12), .inr (0, [.inl (some 8)]), .inl (.int, 15), .inr (3, [.inr .int, .inl (some 10), .inl (some 11), .inl (some 12)]), .inl (.int, 12), .inl (.int, 12), .inl (.boolean, 288), .inr (7, [.inl (some 7), .inl (some 9), .inl (some 14), .inl (some 15)]), .inl (.int, 12), .inl (.long, 12), .inr (6, [.inl (some 17), .inl (some 18), .inl (some 19), .inl (some 20), .inl (some 21), .inl (some 22), .inl (some 23), .inl (some 24), .inr .int, .inr .int, .inr .boolean, .inr .boolean, .inr .boolean, .inr .int]), .inl (.long, 12), .inl (.int, 12), .inl (.boolean, 8), .inl (.int, 8), .inl (.int, 8), .inl (.int, 8), .inl (.long, 6), .inl (.int, 8), .inr (6, [.inl (some 26), .inl (some 27), .inl (some 28), .inl (some 29), .inl (some 30), .inl (some 31), .inl (some 32), .inl (some 33), .inr .int, .inr .int, .inr .boolean, .inr .boolean, .inr .boolean, .inr .int]), .inl (.long, 12), .inl (.int, 12), .inl (.boolean, 8), .inl (.int, 8), .inl (.int, 8), .inl (.int, 8), .inl (.long, 6), .inl (.int, 8), .inr (6, [.inl (some 35), .inl (some 36), .inl (some 37), .inl (some 38), .inl (some 39), .inl (some 40), .inl (some 41), .inl (some 42), .inr .int, .inr .int, .inr .boolean, .inr .boolean, .inr .boolean, .inr .int]), .inl (.long, 12), .inl (.int, 12), .inl (.boolean, 8), .inl (.int, 8), .inl (.int, 8), .inl (.int, 8), .inl (.long, 6), .inl (.int, 8), .inl (.boolean, 2), .inl (.boolean, 288), .inr (1, [.inl (some 13), .inl (some 46), .inl (some 55), .inl (some 56)]), .inr (6, [.inl (some 47), .inl (some 48), .inl (some 49), .inl (some 50), .inl (some 51), .inl (some 52), .inl (some 53), .inl (some 54), .inr .int, .inr .int, .inr .boolean, .inr .boolean, .inr .boolean, .inr .int]), .inl (.long, 12), .inl (.int, 12), .inl (.boolean, 8), .inl (.int, 8), .inl (.int, 8), .inl (.int, 8), .inl (.long, 6), .inl (.int, 8), .inl (.int, 128), .inl (.int, 5376), .inr (2, [.inl (some 45), .inl (some 58), .inl (some 59), .inl (some 60), .inl (some 61), .inl (some 62), .inl (some 63), .inl (some 64)]), .inl (.boolean, 7), .inl (.int, 7), .inl (.int, 7), .inl (.int, 7), .inl (.int, 7), .inl (.long, 29), .inl (.int, 29), .inr (4, [.inl (some 45), .inl (some 66), .inr .int]), .inl (.int, 7), .inr (8, [.inl (some 13), .inl (some 16), .inl (some 68), .inl (some 77), .inr .int, .inr .int, .inr .int, .inr .int, .inr .int]), .inr (6, [.inl (some 69), .inl (some 70), .inl (some 71), .inl (some 72), .inl (some 73), .inl (some 74), .inl (some 75), .inl (some 76), .inr .int, .inr .int, .inr .boolean, .inr .boolean, .inr .boolean, .inr .int]), .inl (.long, 12), .inl (.int, 12), .inl (.boolean, 8), .inl (.int, 8), .inl (.int, 8), .inl (.int, 8), .inl (.long, 6), .inl (.int, 8), .inl (.int, 8)]
theorem sb0 {o : Nat} (h : o = 16) : SHC[o]? = some (.inr (6, [.inl (some (o + 1)), .inl (some (o + 2)), .inl (some (o + 3)), .inl (some (o + 4)), .inl (some (o + 5)), .inl (some (o + 6)), .inl (some (o + 7)), .inl (some (o + 8)), .inr .int, .inr .int, .inr .boolean, .inr .boolean, .inr .boolean, .inr .int])) := by subst h; rfl
theorem sb1 {o : Nat} (h : o = 16) : SHC[o + 1]? = some (.inl (.long, 12)) := by subst h; rfl
theorem sb2 {o : Nat} (h : o = 16) : SHC[o + 2]? = some (.inl (.int, 12)) := by subst h; rfl
theorem sb3 {o : Nat} (h : o = 16) : SHC[o + 3]? = some (.inl (.boolean, 8)) := by subst h; rfl
theorem sb4 {o : Nat} (h : o = 16) : SHC[o + 4]? = some (.inl (.int, 8)) := by subst h; rfl
theorem sb5 {o : Nat} (h : o = 16) : SHC[o + 5]? = some (.inl (.int, 8)) := by subst h; rfl
theorem sb6 {o : Nat} (h : o = 16) : SHC[o + 6]? = some (.inl (.int, 8)) := by subst h; rfl
theorem sb7 {o : Nat} (h : o = 16) : SHC[o + 7]? = some (.inl (.long, 6)) := by subst h; rfl
theorem sb8 {o : Nat} (h : o = 16) : SHC[o + 8]? = some (.inl (.int, 8)) := by subst h; rfl
theorem stA_of {o : Nat} (h : o = 16) : StA o := h ▸ stA_16
set_option maxRecDepth 100000 in
set_option maxHeartbeats 4000000 in
theorem cc_X6_has (t : Int32) {o : Nat} (I : Iv) (J : Jv) (ho : o = 16) : Ct m_X6_has [.ref o, .int t] SHC I J (fun r S' I' J' => S' = SHC ∧ I = I' ∧ J = J' ∧ ∃ v : Int32, r = some (.int v) ∧ (v = 0 ∨ v = 1) ∧ fn_X6_has o t I J = (v, I', J')) := by
  refine ct_of 0 (by decide +kernel) rfl rfl ?_
  have hF := fe_of (fn_X6_has.eq_1 o t I J)
  refine g_aload_n d_X6_has_0 rfl ?_
  refine g_getI d_X6_has_1 fq_RX6_72 (sb0 ho) rfl ?_
  refine g_iload_n d_X6_has_4 rfl ?_
  refine g_iand d_X6_has_5 ?_
  refine g_if_eq d_X6_has_6 (fun h6 => ?_) (fun h6 => ?_)
  · skip
    replace hF := fe_pos hF h6
    refine g_iconst (v := 0) d_X6_has_13 kI_0 ?_
    exact g_ireturn d_X6_has_14 rfl rfl rfl rfl ⟨rfl, rfl, rfl, (0 : Int32), rfl, Or.inl rfl, hF⟩
  · skip
    replace hF := fe_neg hF h6
    refine g_iconst (v := 1) d_X6_has_9 kI_1 ?_
    refine g_goto d_X6_has_10 ?_
    exact g_ireturn d_X6_has_14 rfl rfl rfl rfl ⟨rfl, rfl, rfl, (1 : Int32), rfl, Or.inr rfl, hF⟩
set_option maxRecDepth 100000 in
set_option maxHeartbeats 4000000 in
theorem cc_X6_becomeFresh {o : Nat} (I : Iv) (J : Jv) (ho : o = 16) : Ct m_X6_becomeFresh [.ref o] SHC I J (fun r S' I' J' => S' = SHC ∧ FSx o I J I' J' ∧ r = none ∧ fn_X6_becomeFresh o I J = (I', J') ∧ I' (o + 8) 0 = 0) := by
  refine ct_of 1 (by decide +kernel) rfl rfl ?_
  have hK0 : FSx o I J I J := fsx_rfl
  have hF := fe_of (fn_X6_becomeFresh.eq_1 o I J)
  refine g_iconst (v := 0) d_X6_becomeFresh_0 kI_0 ?_
  refine g_istore_n (L' := [some (.ref o), some (.int (0 : Int32))]) d_X6_becomeFresh_1 (by decide) rfl ?_
  obtain ⟨Kf0, hKf0, hF⟩ := fe_kx (f := fun K => fl_X6_becomeFresh_2_0 o K (mU (3 : Int32) ((0 : Int32)) + 1) (0 : Int32) I J) hF
  have K_2 : ∀ (nu : Nat) (x1 : Int32) (I2 : Iv) (J3 : Jv), mU (3 : Int32) x1 = nu → (FSx o I J I2 J3) → ((0 : Int32) ≤ x1) → (∃ kq : Nat, nu < kq ∧ (fun kq => FE (fn_X6_becomeFresh o I J) (fun _ => fl_X6_becomeFresh_2_0 o Kf0 kq x1 I2 J3)) kq) → G m_X6_becomeFresh (rq m_X6_becomeFresh (fun r S' I' J' => S' = SHC ∧ FSx o I J I' J' ∧ r = none ∧ fn_X6_becomeFresh o I J = (I', J') ∧ I' (o + 8) 0 = 0)) 0 0 2 [some (.ref o), some (.int x1)] [] SHC I2 J3 := by
    intro nu
    induction nu using Nat.strongRecOn with
    | ind nu ih_2 =>
      intro x1 I2 J3 hmu_2 hK4 hl5 hF_Kf0
      obtain ⟨kf0, hkf0, hF⟩ := fe_fu (P := fun kq => FE (fn_X6_becomeFresh o I J) (fun _ => fl_X6_becomeFresh_2_0 o Kf0 kq x1 I2 J3)) hF_Kf0
      replace hF := fe_eq hF (fl_X6_becomeFresh_2_0.eq_2 _ _ _ _ _ _)
      refine g_iload_n d_X6_becomeFresh_2 rfl ?_
      refine g_iconst (v := 3) d_X6_becomeFresh_3 kI_3 ?_
      refine g_icmp_ge d_X6_becomeFresh_4 (fun h4 => ?_) (fun h4 => ?_)
      · skip
        replace hF := fe_pos hF h4
        replace hF := fe_eq hF (congrFun (congrFun (congrFun hKf0 x1) I2) J3)
        refine g_aload_n d_X6_becomeFresh_30 rfl ?_
        refine g_getR d_X6_becomeFresh_31 fq_RX6_15 (sb0 ho) rfl ?_
        refine g_iconst (v := 3) d_X6_becomeFresh_34 kI_3 ?_
        refine g_bipush (v := 40) d_X6_becomeFresh_35 kB_40 ?_
        refine g_iastore (N := 12) d_X6_becomeFresh_37 (sb2 ho) kT_12 ⟨by decide, by decide⟩ kN_3  ?_
        refine g_nmI (fun I6 eI6 => ?_)
        replace hF := fe_lt hF eI6
        have hK7 : FSx o I J I6 J3 := (by rw [eI6]; exact fsx_wI (stA_of ho) hK4 (by omega))
        refine g_aload_n d_X6_becomeFresh_38 rfl ?_
        refine g_getR d_X6_becomeFresh_39 fq_RX6_9 (sb0 ho) rfl ?_
        refine g_iconst (v := 3) d_X6_becomeFresh_42 kI_3 ?_
        refine g_ldc2 (v := -40000) d_X6_becomeFresh_43 tw_343 ?_
        refine g_lastore (N := 12) d_X6_becomeFresh_46 (sb1 ho) kT_12 ⟨by decide, by decide⟩ kN_3  ?_
        refine g_nmJ (fun J8 eJ8 => ?_)
        replace hF := fe_lt hF eJ8
        have hK9 : FSx o I J I6 J8 := (by rw [eJ8]; exact fsx_wJ hK7 (by omega))
        refine g_iconst (v := 0) d_X6_becomeFresh_47 kI_0 ?_
        refine g_istore_n (L' := [some (.ref o), some (.int (0 : Int32))]) d_X6_becomeFresh_48 (by decide) rfl ?_
        obtain ⟨Kf1, hKf1, hF⟩ := fe_kx (f := fun K => fl_X6_becomeFresh_49_1 o K (mU (8 : Int32) ((0 : Int32)) + 1) (0 : Int32) I6 J8) hF
        have K_49 : ∀ (nu : Nat) (x10 : Int32) (I11 : Iv) (J12 : Jv), mU (8 : Int32) x10 = nu → (FSx o I J I11 J12) → ((0 : Int32) ≤ x10) → (∃ kq : Nat, nu < kq ∧ (fun kq => FE (fn_X6_becomeFresh o I J) (fun _ => fl_X6_becomeFresh_49_1 o Kf1 kq x10 I11 J12)) kq) → G m_X6_becomeFresh (rq m_X6_becomeFresh (fun r S' I' J' => S' = SHC ∧ FSx o I J I' J' ∧ r = none ∧ fn_X6_becomeFresh o I J = (I', J') ∧ I' (o + 8) 0 = 0)) 0 0 49 [some (.ref o), some (.int x10)] [] SHC I11 J12 := by
          intro nu
          induction nu using Nat.strongRecOn with
          | ind nu ih_49 =>
            intro x10 I11 J12 hmu_49 hK13 hl14 hF_Kf1
            obtain ⟨kf1, hkf1, hF⟩ := fe_fu (P := fun kq => FE (fn_X6_becomeFresh o I J) (fun _ => fl_X6_becomeFresh_49_1 o Kf1 kq x10 I11 J12)) hF_Kf1
            replace hF := fe_eq hF (fl_X6_becomeFresh_49_1.eq_2 _ _ _ _ _ _)
            refine g_iload_n d_X6_becomeFresh_49 rfl ?_
            refine g_bipush (v := 8) d_X6_becomeFresh_50 kB_8 ?_
            refine g_icmp_ge d_X6_becomeFresh_52 (fun h52 => ?_) (fun h52 => ?_)
            · skip
              replace hF := fe_pos hF h52
              replace hF := fe_eq hF (congrFun (congrFun (congrFun hKf1 x10) I11) J12)
              refine g_aload_n d_X6_becomeFresh_77 rfl ?_
              refine g_getR d_X6_becomeFresh_78 fq_RX6_32 (sb0 ho) rfl ?_
              refine g_lconst d_X6_becomeFresh_81 kL_0 ?_
              refine g_S2 d_X6_becomeFresh_82 cs_X6_becomeFresh_J7_fill_d0a16 lk_RX6_42 im_J7_fill_d0a16 (Nat.le_of_ble_eq_true rfl) ⟨rfl, rfl⟩ ⟨Nat.zero_le _, Nat.zero_le _⟩ (ct_fillJ SHC (sb7 ho) kT_6 (by decide) (0 : Int64) I11 J12) (fun r82 S82 I15 J16 q82_16 => ?_)
              obtain ⟨rfl, hc82_17, rfl⟩ := q82_16
              replace hF := fe_lt hF hc82_17.2
              replace hF := fe_lt hF hc82_17.1.symm
              refine g_st (st' := []) rfl ?_
              have hK21 : FSx o I J I15 J16 := (by obtain ⟨e1, e2⟩ := hc82_17; rw [← e1, e2]; exact fsx_rowJ hK13 (fun b hb => cJ_row hb) (by omega))
              refine g_aload_n d_X6_becomeFresh_85 rfl ?_
              refine g_getR d_X6_becomeFresh_86 fq_RX6_35 (sb0 ho) rfl ?_
              refine g_iconst (v := 0) d_X6_becomeFresh_89 kI_0 ?_
              refine g_S2 d_X6_becomeFresh_90 cs_X6_becomeFresh_J7_fill_53178 lk_RX6_48 im_J7_fill_53178 (Nat.le_of_ble_eq_true rfl) ⟨rfl, rfl⟩ ⟨Nat.zero_le _, Nat.zero_le _⟩ (ct_fillI SHC (sb8 ho) kT_8 (by decide) (0 : Int32) I15 J16) (fun r90 S90 I22 J23 q90_23 => ?_)
              obtain ⟨rfl, hc90_24, rfl⟩ := q90_23
              replace hF := fe_lt hF hc90_24.2
              replace hF := fe_lt hF hc90_24.1.symm
              refine g_st (st' := []) rfl ?_
              have hK28 : FSx o I J I22 J23 := (by obtain ⟨e1, e2⟩ := hc90_24; rw [← e1, e2]; exact fsx_rowI hK21 (fun b hb => cI_row hb) (by omega))
              have htk : I22 (o + 8) 0 = 0 := by rw [hc90_24.2]; simp [cI]
              refine g_aload_n d_X6_becomeFresh_93 rfl ?_
              refine g_iconst (v := 2) d_X6_becomeFresh_94 kI_2 ?_
              refine g_V1 d_X6_becomeFresh_95 cs_X6_becomeFresh_X6_has lk_RX6_51 im_X6_has se_X6_has (sb0 ho) rfl rfl (Nat.le_of_ble_eq_true rfl) ⟨rfl, rfl⟩ ⟨Nat.zero_le _, Nat.zero_le _⟩ (cc_X6_has (2 : Int32) I22 J23 ho) (fun r95 S95 Ic30 Jc31 q95_28 => ?_)
              obtain ⟨rfl, rfl, rfl, r34, rfl, hz95, hf95_32⟩ := q95_28
              replace hF := fe_b3 hF hf95_32
              refine g_st (st' := [.int r34]) rfl ?_
              obtain ⟨j110_2, hj110_2, hF⟩ := fe_jx hF
              have J_110 : ∀ (I36 : Iv), (FSx o I J I36 J23) → (I36 (o + 8) 0 = 0) → (FE (fn_X6_becomeFresh o I J) (fun _ => j110_2 I36)) → G m_X6_becomeFresh (rq m_X6_becomeFresh (fun r S' I' J' => S' = SHC ∧ FSx o I J I' J' ∧ r = none ∧ fn_X6_becomeFresh o I J = (I', J') ∧ I' (o + 8) 0 = 0)) 0 0 110 [some (.ref o), some (.int x10)] [] SHC I36 J23 := by
                intro I36 hK37 ht_110 hF_j110_2
                have hF := fe_eq hF_j110_2 (congrFun hj110_2 I36)
                refine g_aload_n d_X6_becomeFresh_110 rfl ?_
                refine g_sipush (v := 500) d_X6_becomeFresh_111 kS_500 ?_
                refine g_putI d_X6_becomeFresh_114 fq_RX6_55 (sb0 ho) rfl ?_
                refine g_nmI (fun I38 eI38 => ?_)
                replace hF := fe_lt hF eI38
                have hK39 : FSx o I J I38 J23 := (by rw [eI38]; exact fsx_wI (stA_of ho) hK37 (by omega))
                refine g_aload_n d_X6_becomeFresh_117 rfl ?_
                refine g_iconst (v := 0) d_X6_becomeFresh_118 kI_0 ?_
                refine g_putZ d_X6_becomeFresh_119 fq_RX6_59 (sb0 ho) rfl (Or.inl rfl) ?_
                refine g_nmI (fun I40 eI40 => ?_)
                replace hF := fe_lt hF eI40
                have hK41 : FSx o I J I40 J23 := (by rw [eI40]; exact fsx_wI (stA_of ho) hK39 (by omega))
                refine g_aload_n d_X6_becomeFresh_122 rfl ?_
                refine g_iconst (v := 0) d_X6_becomeFresh_123 kI_0 ?_
                refine g_putZ d_X6_becomeFresh_124 fq_RX6_63 (sb0 ho) rfl (Or.inl rfl) ?_
                refine g_nmI (fun I42 eI42 => ?_)
                replace hF := fe_lt hF eI42
                have hK43 : FSx o I J I42 J23 := (by rw [eI42]; exact fsx_wI (stA_of ho) hK41 (by omega))
                exact g_return d_X6_becomeFresh_127 rfl rfl rfl ⟨rfl, hK43, rfl, hF, (by simp only [eI38, eI40, eI42]; simp [wI, ht_110])⟩
              refine g_if_eq d_X6_becomeFresh_98 (fun h98 => ?_) (fun h98 => ?_)
              · skip
                replace hF := fe_pos hF h98
                exact J_110 I22 hK28 (by first | exact htk | (simp only [NOE]; simp [wI, htk])) hF
              · skip
                replace hF := fe_neg hF h98
                refine g_aload_n d_X6_becomeFresh_101 rfl ?_
                refine g_getR d_X6_becomeFresh_102 fq_RX6_35 (sb0 ho) rfl ?_
                refine g_iconst (v := 5) d_X6_becomeFresh_105 kI_5 ?_
                refine g_sipush (v := 600) d_X6_becomeFresh_106 kS_600 ?_
                refine g_iastore (N := 8) d_X6_becomeFresh_109 (sb8 ho) kT_8 ⟨by decide, by decide⟩ kN_5  ?_
                refine g_nmI (fun I44 eI44 => ?_)
                replace hF := fe_lt hF eI44
                have hK45 : FSx o I J I44 J23 := (by rw [eI44]; exact fsx_wI (stA_of ho) hK28 (by omega))
                exact J_110 I44 hK45 (by first | exact htk | (simp only [eI44]; simp [wI, htk])) hF
            · skip
              replace hF := fe_neg hF h52
              refine g_aload_n d_X6_becomeFresh_55 rfl ?_
              refine g_getR d_X6_becomeFresh_56 fq_RX6_19 (sb0 ho) rfl ?_
              refine g_iload_n d_X6_becomeFresh_59 rfl ?_
              refine g_iconst (v := 0) d_X6_becomeFresh_60 kI_0 ?_
              refine g_bastore (N := 8) d_X6_becomeFresh_61 (sb3 ho) kT_8 ⟨hl14, Int32.not_le.mp h52⟩ rfl (Or.inl rfl) ?_
              refine g_nmI (fun I46 eI46 => ?_)
              replace hF := fe_lt hF eI46
              have hK47 : FSx o I J I46 J12 := (by rw [eI46]; exact fsx_wI (stA_of ho) hK13 (by omega))
              refine g_aload_n d_X6_becomeFresh_62 rfl ?_
              refine g_getR d_X6_becomeFresh_63 fq_RX6_9 (sb0 ho) rfl ?_
              refine g_iconst (v := 4) d_X6_becomeFresh_66 kI_4 ?_
              refine g_iload_n d_X6_becomeFresh_67 rfl ?_
              refine g_iadd d_X6_becomeFresh_68 ?_
              refine g_lconst d_X6_becomeFresh_69 kL_0 ?_
              refine g_lastore (N := 12) d_X6_becomeFresh_70 (sb1 ho) kT_12 (by constructor <;> grind) rfl  ?_
              refine g_nmJ (fun J48 eJ48 => ?_)
              replace hF := fe_lt hF eJ48
              have hK49 : FSx o I J I46 J48 := (by rw [eJ48]; exact fsx_wJ hK47 (by omega))
              refine g_iinc (v := (x10 + (1 : Int32))) (L' := [some (.ref o), some (.int (x10 + (1 : Int32)))]) d_X6_becomeFresh_71 rfl (by rw [kI_1]) (by decide) rfl ?_
              refine g_goto d_X6_becomeFresh_74 ?_
              exact ih_49 _ (by rw [← hmu_49]; exact mu_up h52) (x10 + (1 : Int32)) I46 J48 rfl hK49 (lo_up hl14 h52) ⟨kf1, Nat.lt_of_lt_of_le (by rw [← hmu_49]; exact mu_up h52) hkf1, hF⟩
        exact K_49 _ (0 : Int32) I6 J8 rfl hK9 (Int32.le_refl _) ⟨_, Nat.lt_succ_self _, hF⟩
      · skip
        replace hF := fe_neg hF h4
        refine g_aload_n d_X6_becomeFresh_7 rfl ?_
        refine g_getR d_X6_becomeFresh_8 fq_RX6_15 (sb0 ho) rfl ?_
        refine g_iload_n d_X6_becomeFresh_11 rfl ?_
        refine g_bipush (v := 20) d_X6_becomeFresh_12 kB_20 ?_
        refine g_iastore (N := 12) d_X6_becomeFresh_14 (sb2 ho) kT_12 (by constructor <;> grind) rfl  ?_
        refine g_nmI (fun I50 eI50 => ?_)
        replace hF := fe_lt hF eI50
        have hK51 : FSx o I J I50 J3 := (by rw [eI50]; exact fsx_wI (stA_of ho) hK4 (by omega))
        refine g_aload_n d_X6_becomeFresh_15 rfl ?_
        refine g_getR d_X6_becomeFresh_16 fq_RX6_9 (sb0 ho) rfl ?_
        refine g_iload_n d_X6_becomeFresh_19 rfl ?_
        refine g_ldc2 (v := 10000) d_X6_becomeFresh_20 tw_342 ?_
        refine g_lastore (N := 12) d_X6_becomeFresh_23 (sb1 ho) kT_12 (by constructor <;> grind) rfl  ?_
        refine g_nmJ (fun J52 eJ52 => ?_)
        replace hF := fe_lt hF eJ52
        have hK53 : FSx o I J I50 J52 := (by rw [eJ52]; exact fsx_wJ hK51 (by omega))
        refine g_iinc (v := (x1 + (1 : Int32))) (L' := [some (.ref o), some (.int (x1 + (1 : Int32)))]) d_X6_becomeFresh_24 rfl (by rw [kI_1]) (by decide) rfl ?_
        refine g_goto d_X6_becomeFresh_27 ?_
        exact ih_2 _ (by rw [← hmu_2]; exact mu_up h4) (x1 + (1 : Int32)) I50 J52 rfl hK53 (lo_up hl5 h4) ⟨kf0, Nat.lt_of_lt_of_le (by rw [← hmu_2]; exact mu_up h4) hkf0, hF⟩
  exact K_2 _ (0 : Int32) I J rfl hK0 (Int32.le_refl _) ⟨_, Nat.lt_succ_self _, hF⟩
def SH_0 : Shp := [.inr (9, [.inl none, .inl none, .inl none, .inl none, .inl none, .inl none, .inl none, .inl none, .inl none, .inl none, .inl none, .inl none, .inl none])]
def SH_1 : Shp := [.inr (9, [.inl none, .inl none, .inl none, .inl none, .inl none, .inl none, .inl none, .inl none, .inl none, .inl none, .inl none, .inl none, .inl none]), .inr (5, [.inl none, .inr .int, .inr .int, .inr .int, .inr .int, .inr .int, .inl none, .inl none, .inl none, .inl none])]
def SH_2 : Shp := [.inr (9, [.inl none, .inl none, .inl none, .inl none, .inl none, .inl none, .inl none, .inl none, .inl none, .inl none, .inl none, .inl none, .inl none]), .inr (5, [.inl (some 2), .inr .int, .inr .int, .inr .int, .inr .int, .inr .int, .inl (some 3), .inl (some 4), .inl (some 5), .inl (some 6)]), .inl (.char, 300), .inl (.boolean, 13), .inl (.int, 15), .inl (.int, 12), .inl (.int, 12)]
set_option maxRecDepth 100000 in
set_option maxHeartbeats 4000000 in
theorem ci_X5_init_1 (I : Iv) (J : Jv) : Ct m_X5_init [.ref 1] SH_1 I J (fun r S' I' J' => S' = SH_2 ∧ CF 1 I J I' J' ∧ r = none ∧ I' 1 1 = I 1 1 ∧ I' 1 4 = -1 ∧ (∀ k, 0 ≤ k → I' 2 k = 0)) := by
  refine ct_of 0 (by decide +kernel) rfl rfl ?_
  have hC0 : CF 1 I J I J := fun _ _ => ⟨rfl, rfl⟩
  refine g_aload_n d_X5_init_0 rfl ?_
  refine g_oinit d_X5_init_1 tw_33 tw_26 tw_27 ⟨Nat.le_of_ble_eq_true rfl, Nat.le_of_ble_eq_true rfl⟩ (Nat.le_of_ble_eq_true rfl) ?_
  refine g_aload_n d_X5_init_4 rfl ?_
  refine g_sipush (v := 300) d_X5_init_5 kS_300 ?_
  refine g_newa (N := 300) (k := 2) d_X5_init_8 rfl (Or.inr (Or.inr (Or.inr rfl))) tw_72 (by decide) kN_300 (by decide) rfl rfl (by decide) ⟨rfl, rfl⟩ ⟨Nat.le_of_ble_eq_true rfl, Nat.le_of_ble_eq_true rfl⟩ ?_
  have hC1 : CF 1 I J (zI I 2) (zJ J 2) := cz_z hC0 (by decide)
  refine g_putR d_X5_init_10 fq_RX5_9 (Or.inr ⟨rfl, _, _, _, rfl, rfl⟩) rfl rfl (Or.inr ⟨_, rfl⟩) rfl rfl ?_
  refine g_aload_n d_X5_init_13 rfl ?_
  refine g_iconst (v := -1) d_X5_init_14 kI_m1 ?_
  refine g_putI d_X5_init_15 fq_RX5_15 rfl rfl ?_
  have hC2 : CF 1 I J (wI (zI I 2) 1 4 (-1 : Int32)) (zJ J 2) := cz_w hC1 (by decide)
  refine g_aload_n d_X5_init_18 rfl ?_
  refine g_bipush (v := 13) d_X5_init_19 kB_13 ?_
  refine g_newa (N := 13) (k := 3) d_X5_init_21 rfl (Or.inr (Or.inr (Or.inl rfl))) tw_73 (by decide) kN_13 (by decide) rfl rfl (by decide) ⟨rfl, rfl⟩ ⟨Nat.le_of_ble_eq_true rfl, Nat.le_of_ble_eq_true rfl⟩ ?_
  have hC3 : CF 1 I J (zI (wI (zI I 2) 1 4 (-1 : Int32)) 3) (zJ (zJ J 2) 3) := cz_z hC2 (by decide)
  refine g_putR d_X5_init_23 fq_RX5_19 (Or.inr ⟨rfl, _, _, _, rfl, rfl⟩) rfl rfl (Or.inr ⟨_, rfl⟩) rfl rfl ?_
  refine g_aload_n d_X5_init_26 rfl ?_
  refine g_bipush (v := 15) d_X5_init_27 kB_15 ?_
  refine g_newa (N := 15) (k := 4) d_X5_init_29 rfl (Or.inl rfl) tw_74 (by decide) kN_15 (by decide) rfl rfl (by decide) ⟨rfl, rfl⟩ ⟨Nat.le_of_ble_eq_true rfl, Nat.le_of_ble_eq_true rfl⟩ ?_
  have hC4 : CF 1 I J (zI (zI (wI (zI I 2) 1 4 (-1 : Int32)) 3) 4) (zJ (zJ (zJ J 2) 3) 4) := cz_z hC3 (by decide)
  refine g_putR d_X5_init_31 fq_RX5_23 (Or.inr ⟨rfl, _, _, _, rfl, rfl⟩) rfl rfl (Or.inr ⟨_, rfl⟩) rfl rfl ?_
  refine g_aload_n d_X5_init_34 rfl ?_
  refine g_bipush (v := 12) d_X5_init_35 kB_12 ?_
  refine g_newa (N := 12) (k := 5) d_X5_init_37 rfl (Or.inl rfl) tw_74 (by decide) kN_12 (by decide) rfl rfl (by decide) ⟨rfl, rfl⟩ ⟨Nat.le_of_ble_eq_true rfl, Nat.le_of_ble_eq_true rfl⟩ ?_
  have hC5 : CF 1 I J (zI (zI (zI (wI (zI I 2) 1 4 (-1 : Int32)) 3) 4) 5) (zJ (zJ (zJ (zJ J 2) 3) 4) 5) := cz_z hC4 (by decide)
  refine g_putR d_X5_init_39 fq_RX5_27 (Or.inr ⟨rfl, _, _, _, rfl, rfl⟩) rfl rfl (Or.inr ⟨_, rfl⟩) rfl rfl ?_
  refine g_aload_n d_X5_init_42 rfl ?_
  refine g_bipush (v := 12) d_X5_init_43 kB_12 ?_
  refine g_newa (N := 12) (k := 6) d_X5_init_45 rfl (Or.inl rfl) tw_74 (by decide) kN_12 (by decide) rfl rfl (by decide) ⟨rfl, rfl⟩ ⟨Nat.le_of_ble_eq_true rfl, Nat.le_of_ble_eq_true rfl⟩ ?_
  have hC6 : CF 1 I J (zI (zI (zI (zI (wI (zI I 2) 1 4 (-1 : Int32)) 3) 4) 5) 6) (zJ (zJ (zJ (zJ (zJ J 2) 3) 4) 5) 6) := cz_z hC5 (by decide)
  refine g_putR d_X5_init_47 fq_RX5_30 (Or.inr ⟨rfl, _, _, _, rfl, rfl⟩) rfl rfl (Or.inr ⟨_, rfl⟩) rfl rfl ?_
  exact g_return d_X5_init_50 rfl rfl rfl ⟨rfl, hC6, rfl, by simp [zI, wI], by simp [zI, wI], by simp [zI, wI]⟩
def SH_3 : Shp := [.inr (9, [.inl (some 1), .inl none, .inl none, .inl none, .inl none, .inl none, .inl none, .inl none, .inl none, .inl none, .inl none, .inl none, .inl none]), .inr (5, [.inl (some 2), .inr .int, .inr .int, .inr .int, .inr .int, .inr .int, .inl (some 3), .inl (some 4), .inl (some 5), .inl (some 6)]), .inl (.char, 300), .inl (.boolean, 13), .inl (.int, 15), .inl (.int, 12), .inl (.int, 12), .inr (0, [.inl none])]
def SH_4 : Shp := [.inr (9, [.inl (some 1), .inl none, .inl none, .inl none, .inl none, .inl none, .inl none, .inl none, .inl none, .inl none, .inl none, .inl none, .inl none]), .inr (5, [.inl (some 2), .inr .int, .inr .int, .inr .int, .inr .int, .inr .int, .inl (some 3), .inl (some 4), .inl (some 5), .inl (some 6)]), .inl (.char, 300), .inl (.boolean, 13), .inl (.int, 15), .inl (.int, 12), .inl (.int, 12), .inr (0, [.inl (some 8)]), .inl (.int, 15)]
set_option maxRecDepth 100000 in
set_option maxHeartbeats 4000000 in
theorem ci_X0_init_7 (I : Iv) (J : Jv) : Ct m_X0_init [.ref 7] SH_3 I J (fun r S' I' J' => S' = SH_4 ∧ CF 7 I J I' J' ∧ r = none ∧ (∀ k, k < 15 → I' 8 k = nu0 k)) := by
  refine ct_of 0 (by decide +kernel) rfl rfl ?_
  have hC0 : CF 7 I J I J := fun _ _ => ⟨rfl, rfl⟩
  refine g_aload_n d_X0_init_0 rfl ?_
  refine g_oinit d_X0_init_1 tw_80 tw_26 tw_27 ⟨Nat.le_of_ble_eq_true rfl, Nat.le_of_ble_eq_true rfl⟩ (Nat.le_of_ble_eq_true rfl) ?_
  refine g_aload_n d_X0_init_4 rfl ?_
  refine g_bipush (v := 15) d_X0_init_5 kB_15 ?_
  refine g_newa (N := 15) (k := 8) d_X0_init_7 rfl (Or.inl rfl) tw_74 (by decide) kN_15 (by decide) rfl rfl (by decide) ⟨rfl, rfl⟩ ⟨Nat.le_of_ble_eq_true rfl, Nat.le_of_ble_eq_true rfl⟩ ?_
  have hC1 : CF 7 I J (zI I 8) (zJ J 8) := cz_z hC0 (by decide)
  refine g_putR d_X0_init_9 fq_RX0_9 (Or.inr ⟨rfl, _, _, _, rfl, rfl⟩) rfl rfl (Or.inr ⟨_, rfl⟩) rfl rfl ?_
  refine g_gets (j := 0) d_X0_init_12 rfl sl_RX0_15 ?_
  refine g_iconst (v := 0) d_X0_init_15 kI_0 ?_
  refine g_aload_n d_X0_init_16 rfl ?_
  refine g_getR d_X0_init_17 fq_RX0_9 rfl rfl ?_
  refine g_iconst (v := 0) d_X0_init_20 kI_0 ?_
  refine g_bipush (v := 15) d_X0_init_21 kB_15 ?_
  refine g_copyT (a0 := 0) (j := 0) d_X0_init_23 ⟨tw_83, tw_85, tw_84, tw_4, by decide, by decide⟩ rfl rfl rfl rfl rfl ⟨kN_0, by decide⟩ ⟨kN_0, by decide⟩ ⟨kN_15, by decide⟩ (Nat.le_of_ble_eq_true rfl) ?_
  refine g_nmI (fun I2 eI2 => ?_)
  have hC3 : CF 7 I J I2 (zJ J 8) := by rw [eI2]; exact cz_row hC1 (fun b hb => cI_row hb) (by decide)
  exact g_return d_X0_init_26 rfl rfl rfl ⟨rfl, hC3, rfl, fun k hk => by rw [eI2]; exact if_pos ⟨rfl, hk⟩⟩
def SH_5 : Shp := [.inr (9, [.inl (some 1), .inl (some 7), .inl none, .inl none, .inl none, .inl none, .inl none, .inl none, .inl none, .inl none, .inl none, .inl none, .inl none]), .inr (5, [.inl (some 2), .inr .int, .inr .int, .inr .int, .inr .int, .inr .int, .inl (some 3), .inl (some 4), .inl (some 5), .inl (some 6)]), .inl (.char, 300), .inl (.boolean, 13), .inl (.int, 15), .inl (.int, 12), .inl (.int, 12), .inr (0, [.inl (some 8)]), .inl (.int, 15), .inr (3, [.inr .int, .inl none, .inl none, .inl none])]
def SH_6 : Shp := [.inr (9, [.inl (some 1), .inl (some 7), .inl none, .inl none, .inl none, .inl none, .inl none, .inl none, .inl none, .inl none, .inl none, .inl none, .inl none]), .inr (5, [.inl (some 2), .inr .int, .inr .int, .inr .int, .inr .int, .inr .int, .inl (some 3), .inl (some 4), .inl (some 5), .inl (some 6)]), .inl (.char, 300), .inl (.boolean, 13), .inl (.int, 15), .inl (.int, 12), .inl (.int, 12), .inr (0, [.inl (some 8)]), .inl (.int, 15), .inr (3, [.inr .int, .inl (some 10), .inl (some 11), .inl (some 12)]), .inl (.int, 12), .inl (.int, 12), .inl (.boolean, 288)]
set_option maxRecDepth 100000 in
set_option maxHeartbeats 4000000 in
theorem ci_X3_init_9 (I : Iv) (J : Jv) : Ct m_X3_init [.ref 9] SH_5 I J (fun r S' I' J' => S' = SH_6 ∧ CF 9 I J I' J' ∧ r = none ∧ I' 9 0 = I 9 0 ∧ (∀ k, 0 ≤ k → I' 12 k = 0)) := by
  refine ct_of 0 (by decide +kernel) rfl rfl ?_
  have hC0 : CF 9 I J I J := fun _ _ => ⟨rfl, rfl⟩
  refine g_aload_n d_X3_init_0 rfl ?_
  refine g_oinit d_X3_init_1 tw_99 tw_26 tw_27 ⟨Nat.le_of_ble_eq_true rfl, Nat.le_of_ble_eq_true rfl⟩ (Nat.le_of_ble_eq_true rfl) ?_
  refine g_aload_n d_X3_init_4 rfl ?_
  refine g_bipush (v := 12) d_X3_init_5 kB_12 ?_
  refine g_newa (N := 12) (k := 10) d_X3_init_7 rfl (Or.inl rfl) tw_74 (by decide) kN_12 (by decide) rfl rfl (by decide) ⟨rfl, rfl⟩ ⟨Nat.le_of_ble_eq_true rfl, Nat.le_of_ble_eq_true rfl⟩ ?_
  have hC1 : CF 9 I J (zI I 10) (zJ J 10) := cz_z hC0 (by decide)
  refine g_putR d_X3_init_9 fq_RX3_9 (Or.inr ⟨rfl, _, _, _, rfl, rfl⟩) rfl rfl (Or.inr ⟨_, rfl⟩) rfl rfl ?_
  refine g_aload_n d_X3_init_12 rfl ?_
  refine g_bipush (v := 12) d_X3_init_13 kB_12 ?_
  refine g_newa (N := 12) (k := 11) d_X3_init_15 rfl (Or.inl rfl) tw_74 (by decide) kN_12 (by decide) rfl rfl (by decide) ⟨rfl, rfl⟩ ⟨Nat.le_of_ble_eq_true rfl, Nat.le_of_ble_eq_true rfl⟩ ?_
  have hC2 : CF 9 I J (zI (zI I 10) 11) (zJ (zJ J 10) 11) := cz_z hC1 (by decide)
  refine g_putR d_X3_init_17 fq_RX3_15 (Or.inr ⟨rfl, _, _, _, rfl, rfl⟩) rfl rfl (Or.inr ⟨_, rfl⟩) rfl rfl ?_
  refine g_aload_n d_X3_init_20 rfl ?_
  refine g_sipush (v := 288) d_X3_init_21 kS_288 ?_
  refine g_newa (N := 288) (k := 12) d_X3_init_24 rfl (Or.inr (Or.inr (Or.inl rfl))) tw_73 (by decide) kN_288 (by decide) rfl rfl (by decide) ⟨rfl, rfl⟩ ⟨Nat.le_of_ble_eq_true rfl, Nat.le_of_ble_eq_true rfl⟩ ?_
  have hC3 : CF 9 I J (zI (zI (zI I 10) 11) 12) (zJ (zJ (zJ J 10) 11) 12) := cz_z hC2 (by decide)
  refine g_putR d_X3_init_26 fq_RX3_18 (Or.inr ⟨rfl, _, _, _, rfl, rfl⟩) rfl rfl (Or.inr ⟨_, rfl⟩) rfl rfl ?_
  exact g_return d_X3_init_29 rfl rfl rfl ⟨rfl, hC3, rfl, by simp [zI, wI], by simp [zI, wI]⟩
def SH_7 : Shp := [.inr (9, [.inl (some 1), .inl (some 7), .inl (some 9), .inl none, .inl none, .inl none, .inl none, .inl none, .inl none, .inl none, .inl none, .inl none, .inl none]), .inr (5, [.inl (some 2), .inr .int, .inr .int, .inr .int, .inr .int, .inr .int, .inl (some 3), .inl (some 4), .inl (some 5), .inl (some 6)]), .inl (.char, 300), .inl (.boolean, 13), .inl (.int, 15), .inl (.int, 12), .inl (.int, 12), .inr (0, [.inl (some 8)]), .inl (.int, 15), .inr (3, [.inr .int, .inl (some 10), .inl (some 11), .inl (some 12)]), .inl (.int, 12), .inl (.int, 12), .inl (.boolean, 288), .inr (7, [.inl none, .inl none, .inl none, .inl none])]
def SH_8 : Shp := [.inr (9, [.inl (some 1), .inl (some 7), .inl (some 9), .inl none, .inl none, .inl none, .inl none, .inl none, .inl none, .inl none, .inl none, .inl none, .inl none]), .inr (5, [.inl (some 2), .inr .int, .inr .int, .inr .int, .inr .int, .inr .int, .inl (some 3), .inl (some 4), .inl (some 5), .inl (some 6)]), .inl (.char, 300), .inl (.boolean, 13), .inl (.int, 15), .inl (.int, 12), .inl (.int, 12), .inr (0, [.inl (some 8)]), .inl (.int, 15), .inr (3, [.inr .int, .inl (some 10), .inl (some 11), .inl (some 12)]), .inl (.int, 12), .inl (.int, 12), .inl (.boolean, 288), .inr (7, [.inl (some 7), .inl (some 9), .inl (some 14), .inl (some 15)]), .inl (.int, 12), .inl (.long, 12)]
set_option maxRecDepth 100000 in
set_option maxHeartbeats 4000000 in
theorem ci_X7_init_13 (I : Iv) (J : Jv) : Ct m_X7_init [.ref 13, .ref 7, .ref 9] SH_7 I J (fun r S' I' J' => S' = SH_8 ∧ CF 13 I J I' J' ∧ r = none) := by
  refine ct_of 0 (by decide +kernel) rfl rfl ?_
  have hC0 : CF 13 I J I J := fun _ _ => ⟨rfl, rfl⟩
  refine g_aload_n d_X7_init_0 rfl ?_
  refine g_oinit d_X7_init_1 tw_121 tw_26 tw_27 ⟨Nat.le_of_ble_eq_true rfl, Nat.le_of_ble_eq_true rfl⟩ (Nat.le_of_ble_eq_true rfl) ?_
  refine g_aload_n d_X7_init_4 rfl ?_
  refine g_bipush (v := 12) d_X7_init_5 kB_12 ?_
  refine g_newa (N := 12) (k := 14) d_X7_init_7 rfl (Or.inl rfl) tw_74 (by decide) kN_12 (by decide) rfl rfl (by decide) ⟨rfl, rfl⟩ ⟨Nat.le_of_ble_eq_true rfl, Nat.le_of_ble_eq_true rfl⟩ ?_
  have hC1 : CF 13 I J (zI I 14) (zJ J 14) := cz_z hC0 (by decide)
  refine g_putR d_X7_init_9 fq_RX7_9 (Or.inr ⟨rfl, _, _, _, rfl, rfl⟩) rfl rfl (Or.inr ⟨_, rfl⟩) rfl rfl ?_
  refine g_aload_n d_X7_init_12 rfl ?_
  refine g_bipush (v := 12) d_X7_init_13 kB_12 ?_
  refine g_newa (N := 12) (k := 15) d_X7_init_15 rfl (Or.inr (Or.inl rfl)) tw_138 (by decide) kN_12 (by decide) rfl rfl (by decide) ⟨rfl, rfl⟩ ⟨Nat.le_of_ble_eq_true rfl, Nat.le_of_ble_eq_true rfl⟩ ?_
  have hC2 : CF 13 I J (zI (zI I 14) 15) (zJ (zJ J 14) 15) := cz_z hC1 (by decide)
  refine g_putR d_X7_init_17 fq_RX7_15 (Or.inr ⟨rfl, _, _, _, rfl, rfl⟩) rfl rfl (Or.inr ⟨_, rfl⟩) rfl rfl ?_
  refine g_aload_n d_X7_init_20 rfl ?_
  refine g_aload_n d_X7_init_21 rfl ?_
  refine g_putR d_X7_init_22 fq_RX7_19 (Or.inr ⟨rfl, _, _, _, rfl, rfl⟩) rfl rfl (Or.inl ⟨_, rfl⟩) rfl rfl ?_
  refine g_aload_n d_X7_init_25 rfl ?_
  refine g_aload_n d_X7_init_26 rfl ?_
  refine g_putR d_X7_init_27 fq_RX7_23 (Or.inr ⟨rfl, _, _, _, rfl, rfl⟩) rfl rfl (Or.inl ⟨_, rfl⟩) rfl rfl ?_
  exact g_return d_X7_init_30 rfl rfl rfl ⟨rfl, hC2, rfl⟩
def SH_9 : Shp := [.inr (9, [.inl (some 1), .inl (some 7), .inl (some 9), .inl (some 13), .inl none, .inl none, .inl none, .inl none, .inl none, .inl none, .inl none, .inl none, .inl none]), .inr (5, [.inl (some 2), .inr .int, .inr .int, .inr .int, .inr .int, .inr .int, .inl (some 3), .inl (some 4), .inl (some 5), .inl (some 6)]), .inl (.char, 300), .inl (.boolean, 13), .inl (.int, 15), .inl (.int, 12), .inl (.int, 12), .inr (0, [.inl (some 8)]), .inl (.int, 15), .inr (3, [.inr .int, .inl (some 10), .inl (some 11), .inl (some 12)]), .inl (.int, 12), .inl (.int, 12), .inl (.boolean, 288), .inr (7, [.inl (some 7), .inl (some 9), .inl (some 14), .inl (some 15)]), .inl (.int, 12), .inl (.long, 12), .inr (6, [.inl none, .inl none, .inl none, .inl none, .inl none, .inl none, .inl none, .inl none, .inr .int, .inr .int, .inr .boolean, .inr .boolean, .inr .boolean, .inr .int])]
def SH_10 : Shp := [.inr (9, [.inl (some 1), .inl (some 7), .inl (some 9), .inl (some 13), .inl none, .inl none, .inl none, .inl none, .inl none, .inl none, .inl none, .inl none, .inl none]), .inr (5, [.inl (some 2), .inr .int, .inr .int, .inr .int, .inr .int, .inr .int, .inl (some 3), .inl (some 4), .inl (some 5), .inl (some 6)]), .inl (.char, 300), .inl (.boolean, 13), .inl (.int, 15), .inl (.int, 12), .inl (.int, 12), .inr (0, [.inl (some 8)]), .inl (.int, 15), .inr (3, [.inr .int, .inl (some 10), .inl (some 11), .inl (some 12)]), .inl (.int, 12), .inl (.int, 12), .inl (.boolean, 288), .inr (7, [.inl (some 7), .inl (some 9), .inl (some 14), .inl (some 15)]), .inl (.int, 12), .inl (.long, 12), .inr (6, [.inl (some 17), .inl (some 18), .inl (some 19), .inl (some 20), .inl (some 21), .inl (some 22), .inl (some 23), .inl (some 24), .inr .int, .inr .int, .inr .boolean, .inr .boolean, .inr .boolean, .inr .int]), .inl (.long, 12), .inl (.int, 12), .inl (.boolean, 8), .inl (.int, 8), .inl (.int, 8), .inl (.int, 8), .inl (.long, 6), .inl (.int, 8)]
set_option maxRecDepth 100000 in
set_option maxHeartbeats 4000000 in
theorem ci_X6_init_16 (I : Iv) (J : Jv) : Ct m_X6_init [.ref 16] SH_9 I J (fun r S' I' J' => S' = SH_10 ∧ CF 16 I J I' J' ∧ r = none ∧ I' 24 0 = 0 ∧ I' 16 8 = I 16 8 ∧ I' 16 12 = I 16 12 ∧ I' 16 13 = I 16 13) := by
  refine ct_of 0 (by decide +kernel) rfl rfl ?_
  have hC0 : CF 16 I J I J := fun _ _ => ⟨rfl, rfl⟩
  refine g_aload_n d_X6_init_0 rfl ?_
  refine g_oinit d_X6_init_1 tw_144 tw_26 tw_27 ⟨Nat.le_of_ble_eq_true rfl, Nat.le_of_ble_eq_true rfl⟩ (Nat.le_of_ble_eq_true rfl) ?_
  refine g_aload_n d_X6_init_4 rfl ?_
  refine g_bipush (v := 12) d_X6_init_5 kB_12 ?_
  refine g_newa (N := 12) (k := 17) d_X6_init_7 rfl (Or.inr (Or.inl rfl)) tw_138 (by decide) kN_12 (by decide) rfl rfl (by decide) ⟨rfl, rfl⟩ ⟨Nat.le_of_ble_eq_true rfl, Nat.le_of_ble_eq_true rfl⟩ ?_
  have hC1 : CF 16 I J (zI I 17) (zJ J 17) := cz_z hC0 (by decide)
  refine g_putR d_X6_init_9 fq_RX6_9 (Or.inr ⟨rfl, _, _, _, rfl, rfl⟩) rfl rfl (Or.inr ⟨_, rfl⟩) rfl rfl ?_
  refine g_aload_n d_X6_init_12 rfl ?_
  refine g_bipush (v := 12) d_X6_init_13 kB_12 ?_
  refine g_newa (N := 12) (k := 18) d_X6_init_15 rfl (Or.inl rfl) tw_74 (by decide) kN_12 (by decide) rfl rfl (by decide) ⟨rfl, rfl⟩ ⟨Nat.le_of_ble_eq_true rfl, Nat.le_of_ble_eq_true rfl⟩ ?_
  have hC2 : CF 16 I J (zI (zI I 17) 18) (zJ (zJ J 17) 18) := cz_z hC1 (by decide)
  refine g_putR d_X6_init_17 fq_RX6_15 (Or.inr ⟨rfl, _, _, _, rfl, rfl⟩) rfl rfl (Or.inr ⟨_, rfl⟩) rfl rfl ?_
  refine g_aload_n d_X6_init_20 rfl ?_
  refine g_bipush (v := 8) d_X6_init_21 kB_8 ?_
  refine g_newa (N := 8) (k := 19) d_X6_init_23 rfl (Or.inr (Or.inr (Or.inl rfl))) tw_73 (by decide) kN_8 (by decide) rfl rfl (by decide) ⟨rfl, rfl⟩ ⟨Nat.le_of_ble_eq_true rfl, Nat.le_of_ble_eq_true rfl⟩ ?_
  have hC3 : CF 16 I J (zI (zI (zI I 17) 18) 19) (zJ (zJ (zJ J 17) 18) 19) := cz_z hC2 (by decide)
  refine g_putR d_X6_init_25 fq_RX6_19 (Or.inr ⟨rfl, _, _, _, rfl, rfl⟩) rfl rfl (Or.inr ⟨_, rfl⟩) rfl rfl ?_
  refine g_aload_n d_X6_init_28 rfl ?_
  refine g_bipush (v := 8) d_X6_init_29 kB_8 ?_
  refine g_newa (N := 8) (k := 20) d_X6_init_31 rfl (Or.inl rfl) tw_74 (by decide) kN_8 (by decide) rfl rfl (by decide) ⟨rfl, rfl⟩ ⟨Nat.le_of_ble_eq_true rfl, Nat.le_of_ble_eq_true rfl⟩ ?_
  have hC4 : CF 16 I J (zI (zI (zI (zI I 17) 18) 19) 20) (zJ (zJ (zJ (zJ J 17) 18) 19) 20) := cz_z hC3 (by decide)
  refine g_putR d_X6_init_33 fq_RX6_23 (Or.inr ⟨rfl, _, _, _, rfl, rfl⟩) rfl rfl (Or.inr ⟨_, rfl⟩) rfl rfl ?_
  refine g_aload_n d_X6_init_36 rfl ?_
  refine g_bipush (v := 8) d_X6_init_37 kB_8 ?_
  refine g_newa (N := 8) (k := 21) d_X6_init_39 rfl (Or.inl rfl) tw_74 (by decide) kN_8 (by decide) rfl rfl (by decide) ⟨rfl, rfl⟩ ⟨Nat.le_of_ble_eq_true rfl, Nat.le_of_ble_eq_true rfl⟩ ?_
  have hC5 : CF 16 I J (zI (zI (zI (zI (zI I 17) 18) 19) 20) 21) (zJ (zJ (zJ (zJ (zJ J 17) 18) 19) 20) 21) := cz_z hC4 (by decide)
  refine g_putR d_X6_init_41 fq_RX6_26 (Or.inr ⟨rfl, _, _, _, rfl, rfl⟩) rfl rfl (Or.inr ⟨_, rfl⟩) rfl rfl ?_
  refine g_aload_n d_X6_init_44 rfl ?_
  refine g_bipush (v := 8) d_X6_init_45 kB_8 ?_
  refine g_newa (N := 8) (k := 22) d_X6_init_47 rfl (Or.inl rfl) tw_74 (by decide) kN_8 (by decide) rfl rfl (by decide) ⟨rfl, rfl⟩ ⟨Nat.le_of_ble_eq_true rfl, Nat.le_of_ble_eq_true rfl⟩ ?_
  have hC6 : CF 16 I J (zI (zI (zI (zI (zI (zI I 17) 18) 19) 20) 21) 22) (zJ (zJ (zJ (zJ (zJ (zJ J 17) 18) 19) 20) 21) 22) := cz_z hC5 (by decide)
  refine g_putR d_X6_init_49 fq_RX6_29 (Or.inr ⟨rfl, _, _, _, rfl, rfl⟩) rfl rfl (Or.inr ⟨_, rfl⟩) rfl rfl ?_
  refine g_aload_n d_X6_init_52 rfl ?_
  refine g_bipush (v := 6) d_X6_init_53 kB_6 ?_
  refine g_newa (N := 6) (k := 23) d_X6_init_55 rfl (Or.inr (Or.inl rfl)) tw_138 (by decide) kN_6 (by decide) rfl rfl (by decide) ⟨rfl, rfl⟩ ⟨Nat.le_of_ble_eq_true rfl, Nat.le_of_ble_eq_true rfl⟩ ?_
  have hC7 : CF 16 I J (zI (zI (zI (zI (zI (zI (zI I 17) 18) 19) 20) 21) 22) 23) (zJ (zJ (zJ (zJ (zJ (zJ (zJ J 17) 18) 19) 20) 21) 22) 23) := cz_z hC6 (by decide)
  refine g_putR d_X6_init_57 fq_RX6_32 (Or.inr ⟨rfl, _, _, _, rfl, rfl⟩) rfl rfl (Or.inr ⟨_, rfl⟩) rfl rfl ?_
  refine g_aload_n d_X6_init_60 rfl ?_
  refine g_bipush (v := 8) d_X6_init_61 kB_8 ?_
  refine g_newa (N := 8) (k := 24) d_X6_init_63 rfl (Or.inl rfl) tw_74 (by decide) kN_8 (by decide) rfl rfl (by decide) ⟨rfl, rfl⟩ ⟨Nat.le_of_ble_eq_true rfl, Nat.le_of_ble_eq_true rfl⟩ ?_
  have hC8 : CF 16 I J (zI (zI (zI (zI (zI (zI (zI (zI I 17) 18) 19) 20) 21) 22) 23) 24) (zJ (zJ (zJ (zJ (zJ (zJ (zJ (zJ J 17) 18) 19) 20) 21) 22) 23) 24) := cz_z hC7 (by decide)
  refine g_putR d_X6_init_65 fq_RX6_35 (Or.inr ⟨rfl, _, _, _, rfl, rfl⟩) rfl rfl (Or.inr ⟨_, rfl⟩) rfl rfl ?_
  exact g_return d_X6_init_68 rfl rfl rfl ⟨rfl, hC8, rfl, by simp [zI, wI], by simp [zI, wI], by simp [zI, wI], by simp [zI, wI]⟩
def SH_11 : Shp := [.inr (9, [.inl (some 1), .inl (some 7), .inl (some 9), .inl (some 13), .inl (some 16), .inl none, .inl none, .inl none, .inl none, .inl none, .inl none, .inl none, .inl none]), .inr (5, [.inl (some 2), .inr .int, .inr .int, .inr .int, .inr .int, .inr .int, .inl (some 3), .inl (some 4), .inl (some 5), .inl (some 6)]), .inl (.char, 300), .inl (.boolean, 13), .inl (.int, 15), .inl (.int, 12), .inl (.int, 12), .inr (0, [.inl (some 8)]), .inl (.int, 15), .inr (3, [.inr .int, .inl (some 10), .inl (some 11), .inl (some 12)]), .inl (.int, 12), .inl (.int, 12), .inl (.boolean, 288), .inr (7, [.inl (some 7), .inl (some 9), .inl (some 14), .inl (some 15)]), .inl (.int, 12), .inl (.long, 12), .inr (6, [.inl (some 17), .inl (some 18), .inl (some 19), .inl (some 20), .inl (some 21), .inl (some 22), .inl (some 23), .inl (some 24), .inr .int, .inr .int, .inr .boolean, .inr .boolean, .inr .boolean, .inr .int]), .inl (.long, 12), .inl (.int, 12), .inl (.boolean, 8), .inl (.int, 8), .inl (.int, 8), .inl (.int, 8), .inl (.long, 6), .inl (.int, 8), .inr (6, [.inl none, .inl none, .inl none, .inl none, .inl none, .inl none, .inl none, .inl none, .inr .int, .inr .int, .inr .boolean, .inr .boolean, .inr .boolean, .inr .int])]
def SH_12 : Shp := [.inr (9, [.inl (some 1), .inl (some 7), .inl (some 9), .inl (some 13), .inl (some 16), .inl none, .inl none, .inl none, .inl none, .inl none, .inl none, .inl none, .inl none]), .inr (5, [.inl (some 2), .inr .int, .inr .int, .inr .int, .inr .int, .inr .int, .inl (some 3), .inl (some 4), .inl (some 5), .inl (some 6)]), .inl (.char, 300), .inl (.boolean, 13), .inl (.int, 15), .inl (.int, 12), .inl (.int, 12), .inr (0, [.inl (some 8)]), .inl (.int, 15), .inr (3, [.inr .int, .inl (some 10), .inl (some 11), .inl (some 12)]), .inl (.int, 12), .inl (.int, 12), .inl (.boolean, 288), .inr (7, [.inl (some 7), .inl (some 9), .inl (some 14), .inl (some 15)]), .inl (.int, 12), .inl (.long, 12), .inr (6, [.inl (some 17), .inl (some 18), .inl (some 19), .inl (some 20), .inl (some 21), .inl (some 22), .inl (some 23), .inl (some 24), .inr .int, .inr .int, .inr .boolean, .inr .boolean, .inr .boolean, .inr .int]), .inl (.long, 12), .inl (.int, 12), .inl (.boolean, 8), .inl (.int, 8), .inl (.int, 8), .inl (.int, 8), .inl (.long, 6), .inl (.int, 8), .inr (6, [.inl (some 26), .inl (some 27), .inl (some 28), .inl (some 29), .inl (some 30), .inl (some 31), .inl (some 32), .inl (some 33), .inr .int, .inr .int, .inr .boolean, .inr .boolean, .inr .boolean, .inr .int]), .inl (.long, 12), .inl (.int, 12), .inl (.boolean, 8), .inl (.int, 8), .inl (.int, 8), .inl (.int, 8), .inl (.long, 6), .inl (.int, 8)]
set_option maxRecDepth 100000 in
set_option maxHeartbeats 4000000 in
theorem ci_X6_init_25 (I : Iv) (J : Jv) : Ct m_X6_init [.ref 25] SH_11 I J (fun r S' I' J' => S' = SH_12 ∧ CF 25 I J I' J' ∧ r = none ∧ I' 33 0 = 0 ∧ I' 25 8 = I 25 8 ∧ I' 25 12 = I 25 12 ∧ I' 25 13 = I 25 13) := by
  refine ct_of 0 (by decide +kernel) rfl rfl ?_
  have hC0 : CF 25 I J I J := fun _ _ => ⟨rfl, rfl⟩
  refine g_aload_n d_X6_init_0 rfl ?_
  refine g_oinit d_X6_init_1 tw_144 tw_26 tw_27 ⟨Nat.le_of_ble_eq_true rfl, Nat.le_of_ble_eq_true rfl⟩ (Nat.le_of_ble_eq_true rfl) ?_
  refine g_aload_n d_X6_init_4 rfl ?_
  refine g_bipush (v := 12) d_X6_init_5 kB_12 ?_
  refine g_newa (N := 12) (k := 26) d_X6_init_7 rfl (Or.inr (Or.inl rfl)) tw_138 (by decide) kN_12 (by decide) rfl rfl (by decide) ⟨rfl, rfl⟩ ⟨Nat.le_of_ble_eq_true rfl, Nat.le_of_ble_eq_true rfl⟩ ?_
  have hC1 : CF 25 I J (zI I 26) (zJ J 26) := cz_z hC0 (by decide)
  refine g_putR d_X6_init_9 fq_RX6_9 (Or.inr ⟨rfl, _, _, _, rfl, rfl⟩) rfl rfl (Or.inr ⟨_, rfl⟩) rfl rfl ?_
  refine g_aload_n d_X6_init_12 rfl ?_
  refine g_bipush (v := 12) d_X6_init_13 kB_12 ?_
  refine g_newa (N := 12) (k := 27) d_X6_init_15 rfl (Or.inl rfl) tw_74 (by decide) kN_12 (by decide) rfl rfl (by decide) ⟨rfl, rfl⟩ ⟨Nat.le_of_ble_eq_true rfl, Nat.le_of_ble_eq_true rfl⟩ ?_
  have hC2 : CF 25 I J (zI (zI I 26) 27) (zJ (zJ J 26) 27) := cz_z hC1 (by decide)
  refine g_putR d_X6_init_17 fq_RX6_15 (Or.inr ⟨rfl, _, _, _, rfl, rfl⟩) rfl rfl (Or.inr ⟨_, rfl⟩) rfl rfl ?_
  refine g_aload_n d_X6_init_20 rfl ?_
  refine g_bipush (v := 8) d_X6_init_21 kB_8 ?_
  refine g_newa (N := 8) (k := 28) d_X6_init_23 rfl (Or.inr (Or.inr (Or.inl rfl))) tw_73 (by decide) kN_8 (by decide) rfl rfl (by decide) ⟨rfl, rfl⟩ ⟨Nat.le_of_ble_eq_true rfl, Nat.le_of_ble_eq_true rfl⟩ ?_
  have hC3 : CF 25 I J (zI (zI (zI I 26) 27) 28) (zJ (zJ (zJ J 26) 27) 28) := cz_z hC2 (by decide)
  refine g_putR d_X6_init_25 fq_RX6_19 (Or.inr ⟨rfl, _, _, _, rfl, rfl⟩) rfl rfl (Or.inr ⟨_, rfl⟩) rfl rfl ?_
  refine g_aload_n d_X6_init_28 rfl ?_
  refine g_bipush (v := 8) d_X6_init_29 kB_8 ?_
  refine g_newa (N := 8) (k := 29) d_X6_init_31 rfl (Or.inl rfl) tw_74 (by decide) kN_8 (by decide) rfl rfl (by decide) ⟨rfl, rfl⟩ ⟨Nat.le_of_ble_eq_true rfl, Nat.le_of_ble_eq_true rfl⟩ ?_
  have hC4 : CF 25 I J (zI (zI (zI (zI I 26) 27) 28) 29) (zJ (zJ (zJ (zJ J 26) 27) 28) 29) := cz_z hC3 (by decide)
  refine g_putR d_X6_init_33 fq_RX6_23 (Or.inr ⟨rfl, _, _, _, rfl, rfl⟩) rfl rfl (Or.inr ⟨_, rfl⟩) rfl rfl ?_
  refine g_aload_n d_X6_init_36 rfl ?_
  refine g_bipush (v := 8) d_X6_init_37 kB_8 ?_
  refine g_newa (N := 8) (k := 30) d_X6_init_39 rfl (Or.inl rfl) tw_74 (by decide) kN_8 (by decide) rfl rfl (by decide) ⟨rfl, rfl⟩ ⟨Nat.le_of_ble_eq_true rfl, Nat.le_of_ble_eq_true rfl⟩ ?_
  have hC5 : CF 25 I J (zI (zI (zI (zI (zI I 26) 27) 28) 29) 30) (zJ (zJ (zJ (zJ (zJ J 26) 27) 28) 29) 30) := cz_z hC4 (by decide)
  refine g_putR d_X6_init_41 fq_RX6_26 (Or.inr ⟨rfl, _, _, _, rfl, rfl⟩) rfl rfl (Or.inr ⟨_, rfl⟩) rfl rfl ?_
  refine g_aload_n d_X6_init_44 rfl ?_
  refine g_bipush (v := 8) d_X6_init_45 kB_8 ?_
  refine g_newa (N := 8) (k := 31) d_X6_init_47 rfl (Or.inl rfl) tw_74 (by decide) kN_8 (by decide) rfl rfl (by decide) ⟨rfl, rfl⟩ ⟨Nat.le_of_ble_eq_true rfl, Nat.le_of_ble_eq_true rfl⟩ ?_
  have hC6 : CF 25 I J (zI (zI (zI (zI (zI (zI I 26) 27) 28) 29) 30) 31) (zJ (zJ (zJ (zJ (zJ (zJ J 26) 27) 28) 29) 30) 31) := cz_z hC5 (by decide)
  refine g_putR d_X6_init_49 fq_RX6_29 (Or.inr ⟨rfl, _, _, _, rfl, rfl⟩) rfl rfl (Or.inr ⟨_, rfl⟩) rfl rfl ?_
  refine g_aload_n d_X6_init_52 rfl ?_
  refine g_bipush (v := 6) d_X6_init_53 kB_6 ?_
  refine g_newa (N := 6) (k := 32) d_X6_init_55 rfl (Or.inr (Or.inl rfl)) tw_138 (by decide) kN_6 (by decide) rfl rfl (by decide) ⟨rfl, rfl⟩ ⟨Nat.le_of_ble_eq_true rfl, Nat.le_of_ble_eq_true rfl⟩ ?_
  have hC7 : CF 25 I J (zI (zI (zI (zI (zI (zI (zI I 26) 27) 28) 29) 30) 31) 32) (zJ (zJ (zJ (zJ (zJ (zJ (zJ J 26) 27) 28) 29) 30) 31) 32) := cz_z hC6 (by decide)
  refine g_putR d_X6_init_57 fq_RX6_32 (Or.inr ⟨rfl, _, _, _, rfl, rfl⟩) rfl rfl (Or.inr ⟨_, rfl⟩) rfl rfl ?_
  refine g_aload_n d_X6_init_60 rfl ?_
  refine g_bipush (v := 8) d_X6_init_61 kB_8 ?_
  refine g_newa (N := 8) (k := 33) d_X6_init_63 rfl (Or.inl rfl) tw_74 (by decide) kN_8 (by decide) rfl rfl (by decide) ⟨rfl, rfl⟩ ⟨Nat.le_of_ble_eq_true rfl, Nat.le_of_ble_eq_true rfl⟩ ?_
  have hC8 : CF 25 I J (zI (zI (zI (zI (zI (zI (zI (zI I 26) 27) 28) 29) 30) 31) 32) 33) (zJ (zJ (zJ (zJ (zJ (zJ (zJ (zJ J 26) 27) 28) 29) 30) 31) 32) 33) := cz_z hC7 (by decide)
  refine g_putR d_X6_init_65 fq_RX6_35 (Or.inr ⟨rfl, _, _, _, rfl, rfl⟩) rfl rfl (Or.inr ⟨_, rfl⟩) rfl rfl ?_
  exact g_return d_X6_init_68 rfl rfl rfl ⟨rfl, hC8, rfl, by simp [zI, wI], by simp [zI, wI], by simp [zI, wI], by simp [zI, wI]⟩
def SH_13 : Shp := [.inr (9, [.inl (some 1), .inl (some 7), .inl (some 9), .inl (some 13), .inl (some 16), .inl (some 25), .inl none, .inl none, .inl none, .inl none, .inl none, .inl none, .inl none]), .inr (5, [.inl (some 2), .inr .int, .inr .int, .inr .int, .inr .int, .inr .int, .inl (some 3), .inl (some 4), .inl (some 5), .inl (some 6)]), .inl (.char, 300), .inl (.boolean, 13), .inl (.int, 15), .inl (.int, 12), .inl (.int, 12), .inr (0, [.inl (some 8)]), .inl (.int, 15), .inr (3, [.inr .int, .inl (some 10), .inl (some 11), .inl (some 12)]), .inl (.int, 12), .inl (.int, 12), .inl (.boolean, 288), .inr (7, [.inl (some 7), .inl (some 9), .inl (some 14), .inl (some 15)]), .inl (.int, 12), .inl (.long, 12), .inr (6, [.inl (some 17), .inl (some 18), .inl (some 19), .inl (some 20), .inl (some 21), .inl (some 22), .inl (some 23), .inl (some 24), .inr .int, .inr .int, .inr .boolean, .inr .boolean, .inr .boolean, .inr .int]), .inl (.long, 12), .inl (.int, 12), .inl (.boolean, 8), .inl (.int, 8), .inl (.int, 8), .inl (.int, 8), .inl (.long, 6), .inl (.int, 8), .inr (6, [.inl (some 26), .inl (some 27), .inl (some 28), .inl (some 29), .inl (some 30), .inl (some 31), .inl (some 32), .inl (some 33), .inr .int, .inr .int, .inr .boolean, .inr .boolean, .inr .boolean, .inr .int]), .inl (.long, 12), .inl (.int, 12), .inl (.boolean, 8), .inl (.int, 8), .inl (.int, 8), .inl (.int, 8), .inl (.long, 6), .inl (.int, 8), .inr (6, [.inl none, .inl none, .inl none, .inl none, .inl none, .inl none, .inl none, .inl none, .inr .int, .inr .int, .inr .boolean, .inr .boolean, .inr .boolean, .inr .int])]
def SH_14 : Shp := [.inr (9, [.inl (some 1), .inl (some 7), .inl (some 9), .inl (some 13), .inl (some 16), .inl (some 25), .inl none, .inl none, .inl none, .inl none, .inl none, .inl none, .inl none]), .inr (5, [.inl (some 2), .inr .int, .inr .int, .inr .int, .inr .int, .inr .int, .inl (some 3), .inl (some 4), .inl (some 5), .inl (some 6)]), .inl (.char, 300), .inl (.boolean, 13), .inl (.int, 15), .inl (.int, 12), .inl (.int, 12), .inr (0, [.inl (some 8)]), .inl (.int, 15), .inr (3, [.inr .int, .inl (some 10), .inl (some 11), .inl (some 12)]), .inl (.int, 12), .inl (.int, 12), .inl (.boolean, 288), .inr (7, [.inl (some 7), .inl (some 9), .inl (some 14), .inl (some 15)]), .inl (.int, 12), .inl (.long, 12), .inr (6, [.inl (some 17), .inl (some 18), .inl (some 19), .inl (some 20), .inl (some 21), .inl (some 22), .inl (some 23), .inl (some 24), .inr .int, .inr .int, .inr .boolean, .inr .boolean, .inr .boolean, .inr .int]), .inl (.long, 12), .inl (.int, 12), .inl (.boolean, 8), .inl (.int, 8), .inl (.int, 8), .inl (.int, 8), .inl (.long, 6), .inl (.int, 8), .inr (6, [.inl (some 26), .inl (some 27), .inl (some 28), .inl (some 29), .inl (some 30), .inl (some 31), .inl (some 32), .inl (some 33), .inr .int, .inr .int, .inr .boolean, .inr .boolean, .inr .boolean, .inr .int]), .inl (.long, 12), .inl (.int, 12), .inl (.boolean, 8), .inl (.int, 8), .inl (.int, 8), .inl (.int, 8), .inl (.long, 6), .inl (.int, 8), .inr (6, [.inl (some 35), .inl (some 36), .inl (some 37), .inl (some 38), .inl (some 39), .inl (some 40), .inl (some 41), .inl (some 42), .inr .int, .inr .int, .inr .boolean, .inr .boolean, .inr .boolean, .inr .int]), .inl (.long, 12), .inl (.int, 12), .inl (.boolean, 8), .inl (.int, 8), .inl (.int, 8), .inl (.int, 8), .inl (.long, 6), .inl (.int, 8)]
set_option maxRecDepth 100000 in
set_option maxHeartbeats 4000000 in
theorem ci_X6_init_34 (I : Iv) (J : Jv) : Ct m_X6_init [.ref 34] SH_13 I J (fun r S' I' J' => S' = SH_14 ∧ CF 34 I J I' J' ∧ r = none ∧ I' 42 0 = 0 ∧ I' 34 8 = I 34 8 ∧ I' 34 12 = I 34 12 ∧ I' 34 13 = I 34 13) := by
  refine ct_of 0 (by decide +kernel) rfl rfl ?_
  have hC0 : CF 34 I J I J := fun _ _ => ⟨rfl, rfl⟩
  refine g_aload_n d_X6_init_0 rfl ?_
  refine g_oinit d_X6_init_1 tw_144 tw_26 tw_27 ⟨Nat.le_of_ble_eq_true rfl, Nat.le_of_ble_eq_true rfl⟩ (Nat.le_of_ble_eq_true rfl) ?_
  refine g_aload_n d_X6_init_4 rfl ?_
  refine g_bipush (v := 12) d_X6_init_5 kB_12 ?_
  refine g_newa (N := 12) (k := 35) d_X6_init_7 rfl (Or.inr (Or.inl rfl)) tw_138 (by decide) kN_12 (by decide) rfl rfl (by decide) ⟨rfl, rfl⟩ ⟨Nat.le_of_ble_eq_true rfl, Nat.le_of_ble_eq_true rfl⟩ ?_
  have hC1 : CF 34 I J (zI I 35) (zJ J 35) := cz_z hC0 (by decide)
  refine g_putR d_X6_init_9 fq_RX6_9 (Or.inr ⟨rfl, _, _, _, rfl, rfl⟩) rfl rfl (Or.inr ⟨_, rfl⟩) rfl rfl ?_
  refine g_aload_n d_X6_init_12 rfl ?_
  refine g_bipush (v := 12) d_X6_init_13 kB_12 ?_
  refine g_newa (N := 12) (k := 36) d_X6_init_15 rfl (Or.inl rfl) tw_74 (by decide) kN_12 (by decide) rfl rfl (by decide) ⟨rfl, rfl⟩ ⟨Nat.le_of_ble_eq_true rfl, Nat.le_of_ble_eq_true rfl⟩ ?_
  have hC2 : CF 34 I J (zI (zI I 35) 36) (zJ (zJ J 35) 36) := cz_z hC1 (by decide)
  refine g_putR d_X6_init_17 fq_RX6_15 (Or.inr ⟨rfl, _, _, _, rfl, rfl⟩) rfl rfl (Or.inr ⟨_, rfl⟩) rfl rfl ?_
  refine g_aload_n d_X6_init_20 rfl ?_
  refine g_bipush (v := 8) d_X6_init_21 kB_8 ?_
  refine g_newa (N := 8) (k := 37) d_X6_init_23 rfl (Or.inr (Or.inr (Or.inl rfl))) tw_73 (by decide) kN_8 (by decide) rfl rfl (by decide) ⟨rfl, rfl⟩ ⟨Nat.le_of_ble_eq_true rfl, Nat.le_of_ble_eq_true rfl⟩ ?_
  have hC3 : CF 34 I J (zI (zI (zI I 35) 36) 37) (zJ (zJ (zJ J 35) 36) 37) := cz_z hC2 (by decide)
  refine g_putR d_X6_init_25 fq_RX6_19 (Or.inr ⟨rfl, _, _, _, rfl, rfl⟩) rfl rfl (Or.inr ⟨_, rfl⟩) rfl rfl ?_
  refine g_aload_n d_X6_init_28 rfl ?_
  refine g_bipush (v := 8) d_X6_init_29 kB_8 ?_
  refine g_newa (N := 8) (k := 38) d_X6_init_31 rfl (Or.inl rfl) tw_74 (by decide) kN_8 (by decide) rfl rfl (by decide) ⟨rfl, rfl⟩ ⟨Nat.le_of_ble_eq_true rfl, Nat.le_of_ble_eq_true rfl⟩ ?_
  have hC4 : CF 34 I J (zI (zI (zI (zI I 35) 36) 37) 38) (zJ (zJ (zJ (zJ J 35) 36) 37) 38) := cz_z hC3 (by decide)
  refine g_putR d_X6_init_33 fq_RX6_23 (Or.inr ⟨rfl, _, _, _, rfl, rfl⟩) rfl rfl (Or.inr ⟨_, rfl⟩) rfl rfl ?_
  refine g_aload_n d_X6_init_36 rfl ?_
  refine g_bipush (v := 8) d_X6_init_37 kB_8 ?_
  refine g_newa (N := 8) (k := 39) d_X6_init_39 rfl (Or.inl rfl) tw_74 (by decide) kN_8 (by decide) rfl rfl (by decide) ⟨rfl, rfl⟩ ⟨Nat.le_of_ble_eq_true rfl, Nat.le_of_ble_eq_true rfl⟩ ?_
  have hC5 : CF 34 I J (zI (zI (zI (zI (zI I 35) 36) 37) 38) 39) (zJ (zJ (zJ (zJ (zJ J 35) 36) 37) 38) 39) := cz_z hC4 (by decide)
  refine g_putR d_X6_init_41 fq_RX6_26 (Or.inr ⟨rfl, _, _, _, rfl, rfl⟩) rfl rfl (Or.inr ⟨_, rfl⟩) rfl rfl ?_
  refine g_aload_n d_X6_init_44 rfl ?_
  refine g_bipush (v := 8) d_X6_init_45 kB_8 ?_
  refine g_newa (N := 8) (k := 40) d_X6_init_47 rfl (Or.inl rfl) tw_74 (by decide) kN_8 (by decide) rfl rfl (by decide) ⟨rfl, rfl⟩ ⟨Nat.le_of_ble_eq_true rfl, Nat.le_of_ble_eq_true rfl⟩ ?_
  have hC6 : CF 34 I J (zI (zI (zI (zI (zI (zI I 35) 36) 37) 38) 39) 40) (zJ (zJ (zJ (zJ (zJ (zJ J 35) 36) 37) 38) 39) 40) := cz_z hC5 (by decide)
  refine g_putR d_X6_init_49 fq_RX6_29 (Or.inr ⟨rfl, _, _, _, rfl, rfl⟩) rfl rfl (Or.inr ⟨_, rfl⟩) rfl rfl ?_
  refine g_aload_n d_X6_init_52 rfl ?_
  refine g_bipush (v := 6) d_X6_init_53 kB_6 ?_
  refine g_newa (N := 6) (k := 41) d_X6_init_55 rfl (Or.inr (Or.inl rfl)) tw_138 (by decide) kN_6 (by decide) rfl rfl (by decide) ⟨rfl, rfl⟩ ⟨Nat.le_of_ble_eq_true rfl, Nat.le_of_ble_eq_true rfl⟩ ?_
  have hC7 : CF 34 I J (zI (zI (zI (zI (zI (zI (zI I 35) 36) 37) 38) 39) 40) 41) (zJ (zJ (zJ (zJ (zJ (zJ (zJ J 35) 36) 37) 38) 39) 40) 41) := cz_z hC6 (by decide)
  refine g_putR d_X6_init_57 fq_RX6_32 (Or.inr ⟨rfl, _, _, _, rfl, rfl⟩) rfl rfl (Or.inr ⟨_, rfl⟩) rfl rfl ?_
  refine g_aload_n d_X6_init_60 rfl ?_
  refine g_bipush (v := 8) d_X6_init_61 kB_8 ?_
  refine g_newa (N := 8) (k := 42) d_X6_init_63 rfl (Or.inl rfl) tw_74 (by decide) kN_8 (by decide) rfl rfl (by decide) ⟨rfl, rfl⟩ ⟨Nat.le_of_ble_eq_true rfl, Nat.le_of_ble_eq_true rfl⟩ ?_
  have hC8 : CF 34 I J (zI (zI (zI (zI (zI (zI (zI (zI I 35) 36) 37) 38) 39) 40) 41) 42) (zJ (zJ (zJ (zJ (zJ (zJ (zJ (zJ J 35) 36) 37) 38) 39) 40) 41) 42) := cz_z hC7 (by decide)
  refine g_putR d_X6_init_65 fq_RX6_35 (Or.inr ⟨rfl, _, _, _, rfl, rfl⟩) rfl rfl (Or.inr ⟨_, rfl⟩) rfl rfl ?_
  exact g_return d_X6_init_68 rfl rfl rfl ⟨rfl, hC8, rfl, by simp [zI, wI], by simp [zI, wI], by simp [zI, wI], by simp [zI, wI]⟩
def SH_15 : Shp := [.inr (9, [.inl (some 1), .inl (some 7), .inl (some 9), .inl (some 13), .inl (some 16), .inl (some 25), .inl (some 34), .inl (some 43), .inl (some 44), .inl none, .inl none, .inl none, .inl none]), .inr (5, [.inl (some 2), .inr .int, .inr .int, .inr .int, .inr .int, .inr .int, .inl (some 3), .inl (some 4), .inl (some 5), .inl (some 6)]), .inl (.char, 300), .inl (.boolean, 13), .inl (.int, 15), .inl (.int, 12), .inl (.int, 12), .inr (0, [.inl (some 8)]), .inl (.int, 15), .inr (3, [.inr .int, .inl (some 10), .inl (some 11), .inl (some 12)]), .inl (.int, 12), .inl (.int, 12), .inl (.boolean, 288), .inr (7, [.inl (some 7), .inl (some 9), .inl (some 14), .inl (some 15)]), .inl (.int, 12), .inl (.long, 12), .inr (6, [.inl (some 17), .inl (some 18), .inl (some 19), .inl (some 20), .inl (some 21), .inl (some 22), .inl (some 23), .inl (some 24), .inr .int, .inr .int, .inr .boolean, .inr .boolean, .inr .boolean, .inr .int]), .inl (.long, 12), .inl (.int, 12), .inl (.boolean, 8), .inl (.int, 8), .inl (.int, 8), .inl (.int, 8), .inl (.long, 6), .inl (.int, 8), .inr (6, [.inl (some 26), .inl (some 27), .inl (some 28), .inl (some 29), .inl (some 30), .inl (some 31), .inl (some 32), .inl (some 33), .inr .int, .inr .int, .inr .boolean, .inr .boolean, .inr .boolean, .inr .int]), .inl (.long, 12), .inl (.int, 12), .inl (.boolean, 8), .inl (.int, 8), .inl (.int, 8), .inl (.int, 8), .inl (.long, 6), .inl (.int, 8), .inr (6, [.inl (some 35), .inl (some 36), .inl (some 37), .inl (some 38), .inl (some 39), .inl (some 40), .inl (some 41), .inl (some 42), .inr .int, .inr .int, .inr .boolean, .inr .boolean, .inr .boolean, .inr .int]), .inl (.long, 12), .inl (.int, 12), .inl (.boolean, 8), .inl (.int, 8), .inl (.int, 8), .inl (.int, 8), .inl (.long, 6), .inl (.int, 8), .inl (.boolean, 2), .inl (.boolean, 288), .inr (1, [.inl none, .inl none, .inl none, .inl none])]
def SH_16 : Shp := [.inr (9, [.inl (some 1), .inl (some 7), .inl (some 9), .inl (some 13), .inl (some 16), .inl (some 25), .inl (some 34), .inl (some 43), .inl (some 44), .inl none, .inl none, .inl none, .inl none]), .inr (5, [.inl (some 2), .inr .int, .inr .int, .inr .int, .inr .int, .inr .int, .inl (some 3), .inl (some 4), .inl (some 5), .inl (some 6)]), .inl (.char, 300), .inl (.boolean, 13), .inl (.int, 15), .inl (.int, 12), .inl (.int, 12), .inr (0, [.inl (some 8)]), .inl (.int, 15), .inr (3, [.inr .int, .inl (some 10), .inl (some 11), .inl (some 12)]), .inl (.int, 12), .inl (.int, 12), .inl (.boolean, 288), .inr (7, [.inl (some 7), .inl (some 9), .inl (some 14), .inl (some 15)]), .inl (.int, 12), .inl (.long, 12), .inr (6, [.inl (some 17), .inl (some 18), .inl (some 19), .inl (some 20), .inl (some 21), .inl (some 22), .inl (some 23), .inl (some 24), .inr .int, .inr .int, .inr .boolean, .inr .boolean, .inr .boolean, .inr .int]), .inl (.long, 12), .inl (.int, 12), .inl (.boolean, 8), .inl (.int, 8), .inl (.int, 8), .inl (.int, 8), .inl (.long, 6), .inl (.int, 8), .inr (6, [.inl (some 26), .inl (some 27), .inl (some 28), .inl (some 29), .inl (some 30), .inl (some 31), .inl (some 32), .inl (some 33), .inr .int, .inr .int, .inr .boolean, .inr .boolean, .inr .boolean, .inr .int]), .inl (.long, 12), .inl (.int, 12), .inl (.boolean, 8), .inl (.int, 8), .inl (.int, 8), .inl (.int, 8), .inl (.long, 6), .inl (.int, 8), .inr (6, [.inl (some 35), .inl (some 36), .inl (some 37), .inl (some 38), .inl (some 39), .inl (some 40), .inl (some 41), .inl (some 42), .inr .int, .inr .int, .inr .boolean, .inr .boolean, .inr .boolean, .inr .int]), .inl (.long, 12), .inl (.int, 12), .inl (.boolean, 8), .inl (.int, 8), .inl (.int, 8), .inl (.int, 8), .inl (.long, 6), .inl (.int, 8), .inl (.boolean, 2), .inl (.boolean, 288), .inr (1, [.inl none, .inl none, .inl none, .inl none]), .inr (6, [.inl none, .inl none, .inl none, .inl none, .inl none, .inl none, .inl none, .inl none, .inr .int, .inr .int, .inr .boolean, .inr .boolean, .inr .boolean, .inr .int])]
def SH_17 : Shp := [.inr (9, [.inl (some 1), .inl (some 7), .inl (some 9), .inl (some 13), .inl (some 16), .inl (some 25), .inl (some 34), .inl (some 43), .inl (some 44), .inl none, .inl none, .inl none, .inl none]), .inr (5, [.inl (some 2), .inr .int, .inr .int, .inr .int, .inr .int, .inr .int, .inl (some 3), .inl (some 4), .inl (some 5), .inl (some 6)]), .inl (.char, 300), .inl (.boolean, 13), .inl (.int, 15), .inl (.int, 12), .inl (.int, 12), .inr (0, [.inl (some 8)]), .inl (.int, 15), .inr (3, [.inr .int, .inl (some 10), .inl (some 11), .inl (some 12)]), .inl (.int, 12), .inl (.int, 12), .inl (.boolean, 288), .inr (7, [.inl (some 7), .inl (some 9), .inl (some 14), .inl (some 15)]), .inl (.int, 12), .inl (.long, 12), .inr (6, [.inl (some 17), .inl (some 18), .inl (some 19), .inl (some 20), .inl (some 21), .inl (some 22), .inl (some 23), .inl (some 24), .inr .int, .inr .int, .inr .boolean, .inr .boolean, .inr .boolean, .inr .int]), .inl (.long, 12), .inl (.int, 12), .inl (.boolean, 8), .inl (.int, 8), .inl (.int, 8), .inl (.int, 8), .inl (.long, 6), .inl (.int, 8), .inr (6, [.inl (some 26), .inl (some 27), .inl (some 28), .inl (some 29), .inl (some 30), .inl (some 31), .inl (some 32), .inl (some 33), .inr .int, .inr .int, .inr .boolean, .inr .boolean, .inr .boolean, .inr .int]), .inl (.long, 12), .inl (.int, 12), .inl (.boolean, 8), .inl (.int, 8), .inl (.int, 8), .inl (.int, 8), .inl (.long, 6), .inl (.int, 8), .inr (6, [.inl (some 35), .inl (some 36), .inl (some 37), .inl (some 38), .inl (some 39), .inl (some 40), .inl (some 41), .inl (some 42), .inr .int, .inr .int, .inr .boolean, .inr .boolean, .inr .boolean, .inr .int]), .inl (.long, 12), .inl (.int, 12), .inl (.boolean, 8), .inl (.int, 8), .inl (.int, 8), .inl (.int, 8), .inl (.long, 6), .inl (.int, 8), .inl (.boolean, 2), .inl (.boolean, 288), .inr (1, [.inl none, .inl none, .inl none, .inl none]), .inr (6, [.inl (some 47), .inl (some 48), .inl (some 49), .inl (some 50), .inl (some 51), .inl (some 52), .inl (some 53), .inl (some 54), .inr .int, .inr .int, .inr .boolean, .inr .boolean, .inr .boolean, .inr .int]), .inl (.long, 12), .inl (.int, 12), .inl (.boolean, 8), .inl (.int, 8), .inl (.int, 8), .inl (.int, 8), .inl (.long, 6), .inl (.int, 8)]
set_option maxRecDepth 100000 in
set_option maxHeartbeats 4000000 in
theorem ci_X6_init_46 (I : Iv) (J : Jv) : Ct m_X6_init [.ref 46] SH_16 I J (fun r S' I' J' => S' = SH_17 ∧ CF 46 I J I' J' ∧ r = none ∧ I' 54 0 = 0 ∧ I' 46 8 = I 46 8 ∧ I' 46 12 = I 46 12 ∧ I' 46 13 = I 46 13) := by
  refine ct_of 0 (by decide +kernel) rfl rfl ?_
  have hC0 : CF 46 I J I J := fun _ _ => ⟨rfl, rfl⟩
  refine g_aload_n d_X6_init_0 rfl ?_
  refine g_oinit d_X6_init_1 tw_144 tw_26 tw_27 ⟨Nat.le_of_ble_eq_true rfl, Nat.le_of_ble_eq_true rfl⟩ (Nat.le_of_ble_eq_true rfl) ?_
  refine g_aload_n d_X6_init_4 rfl ?_
  refine g_bipush (v := 12) d_X6_init_5 kB_12 ?_
  refine g_newa (N := 12) (k := 47) d_X6_init_7 rfl (Or.inr (Or.inl rfl)) tw_138 (by decide) kN_12 (by decide) rfl rfl (by decide) ⟨rfl, rfl⟩ ⟨Nat.le_of_ble_eq_true rfl, Nat.le_of_ble_eq_true rfl⟩ ?_
  have hC1 : CF 46 I J (zI I 47) (zJ J 47) := cz_z hC0 (by decide)
  refine g_putR d_X6_init_9 fq_RX6_9 (Or.inr ⟨rfl, _, _, _, rfl, rfl⟩) rfl rfl (Or.inr ⟨_, rfl⟩) rfl rfl ?_
  refine g_aload_n d_X6_init_12 rfl ?_
  refine g_bipush (v := 12) d_X6_init_13 kB_12 ?_
  refine g_newa (N := 12) (k := 48) d_X6_init_15 rfl (Or.inl rfl) tw_74 (by decide) kN_12 (by decide) rfl rfl (by decide) ⟨rfl, rfl⟩ ⟨Nat.le_of_ble_eq_true rfl, Nat.le_of_ble_eq_true rfl⟩ ?_
  have hC2 : CF 46 I J (zI (zI I 47) 48) (zJ (zJ J 47) 48) := cz_z hC1 (by decide)
  refine g_putR d_X6_init_17 fq_RX6_15 (Or.inr ⟨rfl, _, _, _, rfl, rfl⟩) rfl rfl (Or.inr ⟨_, rfl⟩) rfl rfl ?_
  refine g_aload_n d_X6_init_20 rfl ?_
  refine g_bipush (v := 8) d_X6_init_21 kB_8 ?_
  refine g_newa (N := 8) (k := 49) d_X6_init_23 rfl (Or.inr (Or.inr (Or.inl rfl))) tw_73 (by decide) kN_8 (by decide) rfl rfl (by decide) ⟨rfl, rfl⟩ ⟨Nat.le_of_ble_eq_true rfl, Nat.le_of_ble_eq_true rfl⟩ ?_
  have hC3 : CF 46 I J (zI (zI (zI I 47) 48) 49) (zJ (zJ (zJ J 47) 48) 49) := cz_z hC2 (by decide)
  refine g_putR d_X6_init_25 fq_RX6_19 (Or.inr ⟨rfl, _, _, _, rfl, rfl⟩) rfl rfl (Or.inr ⟨_, rfl⟩) rfl rfl ?_
  refine g_aload_n d_X6_init_28 rfl ?_
  refine g_bipush (v := 8) d_X6_init_29 kB_8 ?_
  refine g_newa (N := 8) (k := 50) d_X6_init_31 rfl (Or.inl rfl) tw_74 (by decide) kN_8 (by decide) rfl rfl (by decide) ⟨rfl, rfl⟩ ⟨Nat.le_of_ble_eq_true rfl, Nat.le_of_ble_eq_true rfl⟩ ?_
  have hC4 : CF 46 I J (zI (zI (zI (zI I 47) 48) 49) 50) (zJ (zJ (zJ (zJ J 47) 48) 49) 50) := cz_z hC3 (by decide)
  refine g_putR d_X6_init_33 fq_RX6_23 (Or.inr ⟨rfl, _, _, _, rfl, rfl⟩) rfl rfl (Or.inr ⟨_, rfl⟩) rfl rfl ?_
  refine g_aload_n d_X6_init_36 rfl ?_
  refine g_bipush (v := 8) d_X6_init_37 kB_8 ?_
  refine g_newa (N := 8) (k := 51) d_X6_init_39 rfl (Or.inl rfl) tw_74 (by decide) kN_8 (by decide) rfl rfl (by decide) ⟨rfl, rfl⟩ ⟨Nat.le_of_ble_eq_true rfl, Nat.le_of_ble_eq_true rfl⟩ ?_
  have hC5 : CF 46 I J (zI (zI (zI (zI (zI I 47) 48) 49) 50) 51) (zJ (zJ (zJ (zJ (zJ J 47) 48) 49) 50) 51) := cz_z hC4 (by decide)
  refine g_putR d_X6_init_41 fq_RX6_26 (Or.inr ⟨rfl, _, _, _, rfl, rfl⟩) rfl rfl (Or.inr ⟨_, rfl⟩) rfl rfl ?_
  refine g_aload_n d_X6_init_44 rfl ?_
  refine g_bipush (v := 8) d_X6_init_45 kB_8 ?_
  refine g_newa (N := 8) (k := 52) d_X6_init_47 rfl (Or.inl rfl) tw_74 (by decide) kN_8 (by decide) rfl rfl (by decide) ⟨rfl, rfl⟩ ⟨Nat.le_of_ble_eq_true rfl, Nat.le_of_ble_eq_true rfl⟩ ?_
  have hC6 : CF 46 I J (zI (zI (zI (zI (zI (zI I 47) 48) 49) 50) 51) 52) (zJ (zJ (zJ (zJ (zJ (zJ J 47) 48) 49) 50) 51) 52) := cz_z hC5 (by decide)
  refine g_putR d_X6_init_49 fq_RX6_29 (Or.inr ⟨rfl, _, _, _, rfl, rfl⟩) rfl rfl (Or.inr ⟨_, rfl⟩) rfl rfl ?_
  refine g_aload_n d_X6_init_52 rfl ?_
  refine g_bipush (v := 6) d_X6_init_53 kB_6 ?_
  refine g_newa (N := 6) (k := 53) d_X6_init_55 rfl (Or.inr (Or.inl rfl)) tw_138 (by decide) kN_6 (by decide) rfl rfl (by decide) ⟨rfl, rfl⟩ ⟨Nat.le_of_ble_eq_true rfl, Nat.le_of_ble_eq_true rfl⟩ ?_
  have hC7 : CF 46 I J (zI (zI (zI (zI (zI (zI (zI I 47) 48) 49) 50) 51) 52) 53) (zJ (zJ (zJ (zJ (zJ (zJ (zJ J 47) 48) 49) 50) 51) 52) 53) := cz_z hC6 (by decide)
  refine g_putR d_X6_init_57 fq_RX6_32 (Or.inr ⟨rfl, _, _, _, rfl, rfl⟩) rfl rfl (Or.inr ⟨_, rfl⟩) rfl rfl ?_
  refine g_aload_n d_X6_init_60 rfl ?_
  refine g_bipush (v := 8) d_X6_init_61 kB_8 ?_
  refine g_newa (N := 8) (k := 54) d_X6_init_63 rfl (Or.inl rfl) tw_74 (by decide) kN_8 (by decide) rfl rfl (by decide) ⟨rfl, rfl⟩ ⟨Nat.le_of_ble_eq_true rfl, Nat.le_of_ble_eq_true rfl⟩ ?_
  have hC8 : CF 46 I J (zI (zI (zI (zI (zI (zI (zI (zI I 47) 48) 49) 50) 51) 52) 53) 54) (zJ (zJ (zJ (zJ (zJ (zJ (zJ (zJ J 47) 48) 49) 50) 51) 52) 53) 54) := cz_z hC7 (by decide)
  refine g_putR d_X6_init_65 fq_RX6_35 (Or.inr ⟨rfl, _, _, _, rfl, rfl⟩) rfl rfl (Or.inr ⟨_, rfl⟩) rfl rfl ?_
  exact g_return d_X6_init_68 rfl rfl rfl ⟨rfl, hC8, rfl, by simp [zI, wI], by simp [zI, wI], by simp [zI, wI], by simp [zI, wI]⟩
def SH_18 : Shp := [.inr (9, [.inl (some 1), .inl (some 7), .inl (some 9), .inl (some 13), .inl (some 16), .inl (some 25), .inl (some 34), .inl (some 43), .inl (some 44), .inl none, .inl none, .inl none, .inl none]), .inr (5, [.inl (some 2), .inr .int, .inr .int, .inr .int, .inr .int, .inr .int, .inl (some 3), .inl (some 4), .inl (some 5), .inl (some 6)]), .inl (.char, 300), .inl (.boolean, 13), .inl (.int, 15), .inl (.int, 12), .inl (.int, 12), .inr (0, [.inl (some 8)]), .inl (.int, 15), .inr (3, [.inr .int, .inl (some 10), .inl (some 11), .inl (some 12)]), .inl (.int, 12), .inl (.int, 12), .inl (.boolean, 288), .inr (7, [.inl (some 7), .inl (some 9), .inl (some 14), .inl (some 15)]), .inl (.int, 12), .inl (.long, 12), .inr (6, [.inl (some 17), .inl (some 18), .inl (some 19), .inl (some 20), .inl (some 21), .inl (some 22), .inl (some 23), .inl (some 24), .inr .int, .inr .int, .inr .boolean, .inr .boolean, .inr .boolean, .inr .int]), .inl (.long, 12), .inl (.int, 12), .inl (.boolean, 8), .inl (.int, 8), .inl (.int, 8), .inl (.int, 8), .inl (.long, 6), .inl (.int, 8), .inr (6, [.inl (some 26), .inl (some 27), .inl (some 28), .inl (some 29), .inl (some 30), .inl (some 31), .inl (some 32), .inl (some 33), .inr .int, .inr .int, .inr .boolean, .inr .boolean, .inr .boolean, .inr .int]), .inl (.long, 12), .inl (.int, 12), .inl (.boolean, 8), .inl (.int, 8), .inl (.int, 8), .inl (.int, 8), .inl (.long, 6), .inl (.int, 8), .inr (6, [.inl (some 35), .inl (some 36), .inl (some 37), .inl (some 38), .inl (some 39), .inl (some 40), .inl (some 41), .inl (some 42), .inr .int, .inr .int, .inr .boolean, .inr .boolean, .inr .boolean, .inr .int]), .inl (.long, 12), .inl (.int, 12), .inl (.boolean, 8), .inl (.int, 8), .inl (.int, 8), .inl (.int, 8), .inl (.long, 6), .inl (.int, 8), .inl (.boolean, 2), .inl (.boolean, 288), .inr (1, [.inl (some 13), .inl (some 46), .inl (some 55), .inl (some 56)]), .inr (6, [.inl (some 47), .inl (some 48), .inl (some 49), .inl (some 50), .inl (some 51), .inl (some 52), .inl (some 53), .inl (some 54), .inr .int, .inr .int, .inr .boolean, .inr .boolean, .inr .boolean, .inr .int]), .inl (.long, 12), .inl (.int, 12), .inl (.boolean, 8), .inl (.int, 8), .inl (.int, 8), .inl (.int, 8), .inl (.long, 6), .inl (.int, 8), .inl (.int, 128), .inl (.int, 5376)]
set_option maxRecDepth 100000 in
set_option maxHeartbeats 4000000 in
theorem ci_X1_init_45 (I : Iv) (J : Jv) : Ct m_X1_init [.ref 45, .ref 13] SH_15 I J (fun r S' I' J' => S' = SH_18 ∧ CF 45 I J I' J' ∧ r = none ∧ (∀ k, 0 ≤ k → I' 55 k = 0)) := by
  refine ct_of 0 (by decide +kernel) rfl rfl ?_
  have hC0 : CF 45 I J I J := fun _ _ => ⟨rfl, rfl⟩
  refine g_aload_n d_X1_init_0 rfl ?_
  refine g_oinit d_X1_init_1 tw_221 tw_26 tw_27 ⟨Nat.le_of_ble_eq_true rfl, Nat.le_of_ble_eq_true rfl⟩ (Nat.le_of_ble_eq_true rfl) ?_
  refine g_aload_n d_X1_init_4 rfl ?_
  refine g_new (ci := 6) (k := 46) (fs := [.inl none, .inl none, .inl none, .inl none, .inl none, .inl none, .inl none, .inl none, .inr .int, .inr .int, .inr .boolean, .inr .boolean, .inr .boolean, .inr .int]) d_X1_init_5 rfl tw_222 tw_140 tw_7 hfs_6 rfl rfl (by decide) ⟨rfl, rfl⟩ ⟨Nat.le_of_ble_eq_true rfl, Nat.le_of_ble_eq_true rfl⟩ ?_
  have hC1 : CF 45 I J (zI I 46) (zJ J 46) := cz_z hC0 (by decide)
  refine g_dup d_X1_init_8 rfl ?_
  refine g_shp (S' := SH_16) rfl ?_
  refine g_I0 d_X1_init_9 cs_X1_init_X6_init ⟨rfl, rfl⟩ lk_RX1_11 im_X6_init (Nat.le_of_ble_eq_true rfl) ⟨rfl, rfl⟩ ⟨Nat.le_of_ble_eq_true rfl, Nat.le_of_ble_eq_true rfl⟩ (ci_X6_init_46 (zI I 46) (zJ J 46)) (fun r S1 I2 J3 q4 => ?_)
  obtain ⟨rfl, hc5, rfl, f6, f7, f8, f9⟩ := q4
  have hC10 : CF 45 I J I2 J3 := cz_tr hC1 (cz_mono hc5 (by decide))
  have f11 : I2 46 8 = 0 := by rw [f7]; simp [zI]
  have f12 : I2 46 12 = 0 := by rw [f8]; simp [zI]
  have f13 : I2 46 13 = 0 := by rw [f9]; simp [zI]
  refine g_st (st' := [.ref 46, .ref 45]) rfl ?_
  refine g_putR d_X1_init_12 fq_RX1_12 (Or.inr ⟨rfl, _, _, _, rfl, rfl⟩) rfl rfl (Or.inl ⟨_, rfl⟩) rfl rfl ?_
  refine g_aload_n d_X1_init_15 rfl ?_
  refine g_sipush (v := 128) d_X1_init_16 kS_128 ?_
  refine g_newa (N := 128) (k := 55) d_X1_init_19 rfl (Or.inl rfl) tw_74 (by decide) kN_128 (by decide) rfl rfl (by decide) ⟨rfl, rfl⟩ ⟨Nat.le_of_ble_eq_true rfl, Nat.le_of_ble_eq_true rfl⟩ ?_
  have hC14 : CF 45 I J (zI I2 55) (zJ J3 55) := cz_z hC10 (by decide)
  refine g_putR d_X1_init_21 fq_RX1_18 (Or.inr ⟨rfl, _, _, _, rfl, rfl⟩) rfl rfl (Or.inr ⟨_, rfl⟩) rfl rfl ?_
  refine g_aload_n d_X1_init_24 rfl ?_
  refine g_sipush (v := 5376) d_X1_init_25 kS_5376 ?_
  refine g_newa (N := 5376) (k := 56) d_X1_init_28 rfl (Or.inl rfl) tw_74 (by decide) kN_5376 (by decide) rfl rfl (by decide) ⟨rfl, rfl⟩ ⟨Nat.le_of_ble_eq_true rfl, Nat.le_of_ble_eq_true rfl⟩ ?_
  have hC15 : CF 45 I J (zI (zI I2 55) 56) (zJ (zJ J3 55) 56) := cz_z hC14 (by decide)
  refine g_putR d_X1_init_30 fq_RX1_22 (Or.inr ⟨rfl, _, _, _, rfl, rfl⟩) rfl rfl (Or.inr ⟨_, rfl⟩) rfl rfl ?_
  refine g_aload_n d_X1_init_33 rfl ?_
  refine g_aload_n d_X1_init_34 rfl ?_
  refine g_putR d_X1_init_35 fq_RX1_25 (Or.inr ⟨rfl, _, _, _, rfl, rfl⟩) rfl rfl (Or.inl ⟨_, rfl⟩) rfl rfl ?_
  exact g_return d_X1_init_38 rfl rfl rfl ⟨rfl, hC15, rfl, by simp [zI, wI]⟩
def SH_19 : Shp := [.inr (9, [.inl (some 1), .inl (some 7), .inl (some 9), .inl (some 13), .inl (some 16), .inl (some 25), .inl (some 34), .inl (some 43), .inl (some 44), .inl (some 45), .inl none, .inl none, .inl none]), .inr (5, [.inl (some 2), .inr .int, .inr .int, .inr .int, .inr .int, .inr .int, .inl (some 3), .inl (some 4), .inl (some 5), .inl (some 6)]), .inl (.char, 300), .inl (.boolean, 13), .inl (.int, 15), .inl (.int, 12), .inl (.int, 12), .inr (0, [.inl (some 8)]), .inl (.int, 15), .inr (3, [.inr .int, .inl (some 10), .inl (some 11), .inl (some 12)]), .inl (.int, 12), .inl (.int, 12), .inl (.boolean, 288), .inr (7, [.inl (some 7), .inl (some 9), .inl (some 14), .inl (some 15)]), .inl (.int, 12), .inl (.long, 12), .inr (6, [.inl (some 17), .inl (some 18), .inl (some 19), .inl (some 20), .inl (some 21), .inl (some 22), .inl (some 23), .inl (some 24), .inr .int, .inr .int, .inr .boolean, .inr .boolean, .inr .boolean, .inr .int]), .inl (.long, 12), .inl (.int, 12), .inl (.boolean, 8), .inl (.int, 8), .inl (.int, 8), .inl (.int, 8), .inl (.long, 6), .inl (.int, 8), .inr (6, [.inl (some 26), .inl (some 27), .inl (some 28), .inl (some 29), .inl (some 30), .inl (some 31), .inl (some 32), .inl (some 33), .inr .int, .inr .int, .inr .boolean, .inr .boolean, .inr .boolean, .inr .int]), .inl (.long, 12), .inl (.int, 12), .inl (.boolean, 8), .inl (.int, 8), .inl (.int, 8), .inl (.int, 8), .inl (.long, 6), .inl (.int, 8), .inr (6, [.inl (some 35), .inl (some 36), .inl (some 37), .inl (some 38), .inl (some 39), .inl (some 40), .inl (some 41), .inl (some 42), .inr .int, .inr .int, .inr .boolean, .inr .boolean, .inr .boolean, .inr .int]), .inl (.long, 12), .inl (.int, 12), .inl (.boolean, 8), .inl (.int, 8), .inl (.int, 8), .inl (.int, 8), .inl (.long, 6), .inl (.int, 8), .inl (.boolean, 2), .inl (.boolean, 288), .inr (1, [.inl (some 13), .inl (some 46), .inl (some 55), .inl (some 56)]), .inr (6, [.inl (some 47), .inl (some 48), .inl (some 49), .inl (some 50), .inl (some 51), .inl (some 52), .inl (some 53), .inl (some 54), .inr .int, .inr .int, .inr .boolean, .inr .boolean, .inr .boolean, .inr .int]), .inl (.long, 12), .inl (.int, 12), .inl (.boolean, 8), .inl (.int, 8), .inl (.int, 8), .inl (.int, 8), .inl (.long, 6), .inl (.int, 8), .inl (.int, 128), .inl (.int, 5376), .inr (2, [.inl none, .inl none, .inl none, .inl none, .inl none, .inl none, .inl none, .inl none])]
def SH_20 : Shp := [.inr (9, [.inl (some 1), .inl (some 7), .inl (some 9), .inl (some 13), .inl (some 16), .inl (some 25), .inl (some 34), .inl (some 43), .inl (some 44), .inl (some 45), .inl none, .inl none, .inl none]), .inr (5, [.inl (some 2), .inr .int, .inr .int, .inr .int, .inr .int, .inr .int, .inl (some 3), .inl (some 4), .inl (some 5), .inl (some 6)]), .inl (.char, 300), .inl (.boolean, 13), .inl (.int, 15), .inl (.int, 12), .inl (.int, 12), .inr (0, [.inl (some 8)]), .inl (.int, 15), .inr (3, [.inr .int, .inl (some 10), .inl (some 11), .inl (some 12)]), .inl (.int, 12), .inl (.int, 12), .inl (.boolean, 288), .inr (7, [.inl (some 7), .inl (some 9), .inl (some 14), .inl (some 15)]), .inl (.int, 12), .inl (.long, 12), .inr (6, [.inl (some 17), .inl (some 18), .inl (some 19), .inl (some 20), .inl (some 21), .inl (some 22), .inl (some 23), .inl (some 24), .inr .int, .inr .int, .inr .boolean, .inr .boolean, .inr .boolean, .inr .int]), .inl (.long, 12), .inl (.int, 12), .inl (.boolean, 8), .inl (.int, 8), .inl (.int, 8), .inl (.int, 8), .inl (.long, 6), .inl (.int, 8), .inr (6, [.inl (some 26), .inl (some 27), .inl (some 28), .inl (some 29), .inl (some 30), .inl (some 31), .inl (some 32), .inl (some 33), .inr .int, .inr .int, .inr .boolean, .inr .boolean, .inr .boolean, .inr .int]), .inl (.long, 12), .inl (.int, 12), .inl (.boolean, 8), .inl (.int, 8), .inl (.int, 8), .inl (.int, 8), .inl (.long, 6), .inl (.int, 8), .inr (6, [.inl (some 35), .inl (some 36), .inl (some 37), .inl (some 38), .inl (some 39), .inl (some 40), .inl (some 41), .inl (some 42), .inr .int, .inr .int, .inr .boolean, .inr .boolean, .inr .boolean, .inr .int]), .inl (.long, 12), .inl (.int, 12), .inl (.boolean, 8), .inl (.int, 8), .inl (.int, 8), .inl (.int, 8), .inl (.long, 6), .inl (.int, 8), .inl (.boolean, 2), .inl (.boolean, 288), .inr (1, [.inl (some 13), .inl (some 46), .inl (some 55), .inl (some 56)]), .inr (6, [.inl (some 47), .inl (some 48), .inl (some 49), .inl (some 50), .inl (some 51), .inl (some 52), .inl (some 53), .inl (some 54), .inr .int, .inr .int, .inr .boolean, .inr .boolean, .inr .boolean, .inr .int]), .inl (.long, 12), .inl (.int, 12), .inl (.boolean, 8), .inl (.int, 8), .inl (.int, 8), .inl (.int, 8), .inl (.long, 6), .inl (.int, 8), .inl (.int, 128), .inl (.int, 5376), .inr (2, [.inl (some 45), .inl (some 58), .inl (some 59), .inl (some 60), .inl (some 61), .inl (some 62), .inl (some 63), .inl (some 64)]), .inl (.boolean, 7), .inl (.int, 7), .inl (.int, 7), .inl (.int, 7), .inl (.int, 7), .inl (.long, 29), .inl (.int, 29)]
set_option maxRecDepth 100000 in
set_option maxHeartbeats 4000000 in
theorem ci_X2_init_57 (I : Iv) (J : Jv) : Ct m_X2_init [.ref 57, .ref 45] SH_19 I J (fun r S' I' J' => S' = SH_20 ∧ CF 57 I J I' J' ∧ r = none ∧ (∀ k, k < 7 → I' 61 k = 100) ∧ (∀ k, k < 7 → I' 58 k = 0) ∧ (∀ k, k < 7 → I' 62 k = 0)) := by
  refine ct_of 0 (by decide +kernel) rfl rfl ?_
  have hC0 : CF 57 I J I J := fun _ _ => ⟨rfl, rfl⟩
  refine g_aload_n d_X2_init_0 rfl ?_
  refine g_oinit d_X2_init_1 tw_242 tw_26 tw_27 ⟨Nat.le_of_ble_eq_true rfl, Nat.le_of_ble_eq_true rfl⟩ (Nat.le_of_ble_eq_true rfl) ?_
  refine g_aload_n d_X2_init_4 rfl ?_
  refine g_bipush (v := 7) d_X2_init_5 kB_7 ?_
  refine g_newa (N := 7) (k := 58) d_X2_init_7 rfl (Or.inr (Or.inr (Or.inl rfl))) tw_73 (by decide) kN_7 (by decide) rfl rfl (by decide) ⟨rfl, rfl⟩ ⟨Nat.le_of_ble_eq_true rfl, Nat.le_of_ble_eq_true rfl⟩ ?_
  have hC1 : CF 57 I J (zI I 58) (zJ J 58) := cz_z hC0 (by decide)
  refine g_putR d_X2_init_9 fq_RX2_9 (Or.inr ⟨rfl, _, _, _, rfl, rfl⟩) rfl rfl (Or.inr ⟨_, rfl⟩) rfl rfl ?_
  refine g_aload_n d_X2_init_12 rfl ?_
  refine g_bipush (v := 7) d_X2_init_13 kB_7 ?_
  refine g_newa (N := 7) (k := 59) d_X2_init_15 rfl (Or.inl rfl) tw_74 (by decide) kN_7 (by decide) rfl rfl (by decide) ⟨rfl, rfl⟩ ⟨Nat.le_of_ble_eq_true rfl, Nat.le_of_ble_eq_true rfl⟩ ?_
  have hC2 : CF 57 I J (zI (zI I 58) 59) (zJ (zJ J 58) 59) := cz_z hC1 (by decide)
  refine g_putR d_X2_init_17 fq_RX2_15 (Or.inr ⟨rfl, _, _, _, rfl, rfl⟩) rfl rfl (Or.inr ⟨_, rfl⟩) rfl rfl ?_
  refine g_aload_n d_X2_init_20 rfl ?_
  refine g_bipush (v := 7) d_X2_init_21 kB_7 ?_
  refine g_newa (N := 7) (k := 60) d_X2_init_23 rfl (Or.inl rfl) tw_74 (by decide) kN_7 (by decide) rfl rfl (by decide) ⟨rfl, rfl⟩ ⟨Nat.le_of_ble_eq_true rfl, Nat.le_of_ble_eq_true rfl⟩ ?_
  have hC3 : CF 57 I J (zI (zI (zI I 58) 59) 60) (zJ (zJ (zJ J 58) 59) 60) := cz_z hC2 (by decide)
  refine g_putR d_X2_init_25 fq_RX2_19 (Or.inr ⟨rfl, _, _, _, rfl, rfl⟩) rfl rfl (Or.inr ⟨_, rfl⟩) rfl rfl ?_
  refine g_aload_n d_X2_init_28 rfl ?_
  refine g_bipush (v := 7) d_X2_init_29 kB_7 ?_
  refine g_newa (N := 7) (k := 61) d_X2_init_31 rfl (Or.inl rfl) tw_74 (by decide) kN_7 (by decide) rfl rfl (by decide) ⟨rfl, rfl⟩ ⟨Nat.le_of_ble_eq_true rfl, Nat.le_of_ble_eq_true rfl⟩ ?_
  have hC4 : CF 57 I J (zI (zI (zI (zI I 58) 59) 60) 61) (zJ (zJ (zJ (zJ J 58) 59) 60) 61) := cz_z hC3 (by decide)
  refine g_putR d_X2_init_33 fq_RX2_22 (Or.inr ⟨rfl, _, _, _, rfl, rfl⟩) rfl rfl (Or.inr ⟨_, rfl⟩) rfl rfl ?_
  refine g_aload_n d_X2_init_36 rfl ?_
  refine g_bipush (v := 7) d_X2_init_37 kB_7 ?_
  refine g_newa (N := 7) (k := 62) d_X2_init_39 rfl (Or.inl rfl) tw_74 (by decide) kN_7 (by decide) rfl rfl (by decide) ⟨rfl, rfl⟩ ⟨Nat.le_of_ble_eq_true rfl, Nat.le_of_ble_eq_true rfl⟩ ?_
  have hC5 : CF 57 I J (zI (zI (zI (zI (zI I 58) 59) 60) 61) 62) (zJ (zJ (zJ (zJ (zJ J 58) 59) 60) 61) 62) := cz_z hC4 (by decide)
  refine g_putR d_X2_init_41 fq_RX2_25 (Or.inr ⟨rfl, _, _, _, rfl, rfl⟩) rfl rfl (Or.inr ⟨_, rfl⟩) rfl rfl ?_
  refine g_aload_n d_X2_init_44 rfl ?_
  refine g_gets (j := 3) d_X2_init_45 rfl sl_RX2_28 ?_
  refine g_tlen (j := 3) (v := 29) d_X2_init_48 rfl rfl ?_
  refine g_newa (N := 29) (k := 63) d_X2_init_49 rfl (Or.inr (Or.inl rfl)) tw_138 (by decide) kN_29 (by decide) rfl rfl (by decide) ⟨rfl, rfl⟩ ⟨Nat.le_of_ble_eq_true rfl, Nat.le_of_ble_eq_true rfl⟩ ?_
  have hC6 : CF 57 I J (zI (zI (zI (zI (zI (zI I 58) 59) 60) 61) 62) 63) (zJ (zJ (zJ (zJ (zJ (zJ J 58) 59) 60) 61) 62) 63) := cz_z hC5 (by decide)
  refine g_putR d_X2_init_51 fq_RX2_31 (Or.inr ⟨rfl, _, _, _, rfl, rfl⟩) rfl rfl (Or.inr ⟨_, rfl⟩) rfl rfl ?_
  refine g_aload_n d_X2_init_54 rfl ?_
  refine g_gets (j := 3) d_X2_init_55 rfl sl_RX2_28 ?_
  refine g_tlen (j := 3) (v := 29) d_X2_init_58 rfl rfl ?_
  refine g_newa (N := 29) (k := 64) d_X2_init_59 rfl (Or.inl rfl) tw_74 (by decide) kN_29 (by decide) rfl rfl (by decide) ⟨rfl, rfl⟩ ⟨Nat.le_of_ble_eq_true rfl, Nat.le_of_ble_eq_true rfl⟩ ?_
  have hC7 : CF 57 I J (zI (zI (zI (zI (zI (zI (zI I 58) 59) 60) 61) 62) 63) 64) (zJ (zJ (zJ (zJ (zJ (zJ (zJ J 58) 59) 60) 61) 62) 63) 64) := cz_z hC6 (by decide)
  refine g_putR d_X2_init_61 fq_RX2_35 (Or.inr ⟨rfl, _, _, _, rfl, rfl⟩) rfl rfl (Or.inr ⟨_, rfl⟩) rfl rfl ?_
  refine g_aload_n d_X2_init_64 rfl ?_
  refine g_aload_n d_X2_init_65 rfl ?_
  refine g_putR d_X2_init_66 fq_RX2_38 (Or.inr ⟨rfl, _, _, _, rfl, rfl⟩) rfl rfl (Or.inl ⟨_, rfl⟩) rfl rfl ?_
  refine g_aload_n d_X2_init_69 rfl ?_
  refine g_getR d_X2_init_70 fq_RX2_22 rfl rfl ?_
  refine g_bipush (v := 100) d_X2_init_73 kB_100 ?_
  refine g_shp (S' := SH_20) rfl ?_
  refine g_S2 d_X2_init_75 cs_X2_init_J7_fill_53178 lk_RX2_42 im_J7_fill_53178 (Nat.le_of_ble_eq_true rfl) ⟨rfl, rfl⟩ ⟨Nat.le_of_ble_eq_true rfl, Nat.le_of_ble_eq_true rfl⟩ (ct_fillI (a := 61) (n := 7) (N := 7) SH_20 rfl kT_7 (by decide) (100 : Int32) (zI (zI (zI (zI (zI (zI (zI I 58) 59) 60) 61) 62) 63) 64) (zJ (zJ (zJ (zJ (zJ (zJ (zJ J 58) 59) 60) 61) 62) 63) 64)) (fun r S1 I8 J9 q10 => ?_)
  obtain ⟨rfl, ⟨rfl, hc11⟩, rfl⟩ := q10
  have hC12 : CF 57 I J I8 (zJ (zJ (zJ (zJ (zJ (zJ (zJ J 58) 59) 60) 61) 62) 63) 64) := by rw [hc11]; exact cz_row hC7 (fun b hb => cI_row hb) (by decide)
  refine g_st (st' := []) rfl ?_
  refine g_aload_n d_X2_init_78 rfl ?_
  refine g_getR d_X2_init_79 fq_RX2_19 rfl rfl ?_
  refine g_bipush (v := 50) d_X2_init_82 kB_50 ?_
  refine g_shp (S' := SH_20) rfl ?_
  refine g_S2 d_X2_init_84 cs_X2_init_J7_fill_53178 lk_RX2_42 im_J7_fill_53178 (Nat.le_of_ble_eq_true rfl) ⟨rfl, rfl⟩ ⟨Nat.le_of_ble_eq_true rfl, Nat.le_of_ble_eq_true rfl⟩ (ct_fillI (a := 60) (n := 7) (N := 7) SH_20 rfl kT_7 (by decide) (50 : Int32) I8 (zJ (zJ (zJ (zJ (zJ (zJ (zJ J 58) 59) 60) 61) 62) 63) 64)) (fun r S1 I13 J14 q15 => ?_)
  obtain ⟨rfl, ⟨rfl, hc16⟩, rfl⟩ := q15
  have hC17 : CF 57 I J I13 (zJ (zJ (zJ (zJ (zJ (zJ (zJ J 58) 59) 60) 61) 62) 63) 64) := by rw [hc16]; exact cz_row hC12 (fun b hb => cI_row hb) (by decide)
  refine g_st (st' := []) rfl ?_
  exact g_return d_X2_init_87 rfl rfl rfl ⟨rfl, hC17, rfl, fun k hk => by rw [hc16, hc11]; simp [cI, hk], fun k hk => by rw [hc16, hc11]; simp [cI, zI], fun k hk => by rw [hc16, hc11]; simp [cI, zI]⟩
def SH_21 : Shp := [.inr (9, [.inl (some 1), .inl (some 7), .inl (some 9), .inl (some 13), .inl (some 16), .inl (some 25), .inl (some 34), .inl (some 43), .inl (some 44), .inl (some 45), .inl (some 57), .inl none, .inl none]), .inr (5, [.inl (some 2), .inr .int, .inr .int, .inr .int, .inr .int, .inr .int, .inl (some 3), .inl (some 4), .inl (some 5), .inl (some 6)]), .inl (.char, 300), .inl (.boolean, 13), .inl (.int, 15), .inl (.int, 12), .inl (.int, 12), .inr (0, [.inl (some 8)]), .inl (.int, 15), .inr (3, [.inr .int, .inl (some 10), .inl (some 11), .inl (some 12)]), .inl (.int, 12), .inl (.int, 12), .inl (.boolean, 288), .inr (7, [.inl (some 7), .inl (some 9), .inl (some 14), .inl (some 15)]), .inl (.int, 12), .inl (.long, 12), .inr (6, [.inl (some 17), .inl (some 18), .inl (some 19), .inl (some 20), .inl (some 21), .inl (some 22), .inl (some 23), .inl (some 24), .inr .int, .inr .int, .inr .boolean, .inr .boolean, .inr .boolean, .inr .int]), .inl (.long, 12), .inl (.int, 12), .inl (.boolean, 8), .inl (.int, 8), .inl (.int, 8), .inl (.int, 8), .inl (.long, 6), .inl (.int, 8), .inr (6, [.inl (some 26), .inl (some 27), .inl (some 28), .inl (some 29), .inl (some 30), .inl (some 31), .inl (some 32), .inl (some 33), .inr .int, .inr .int, .inr .boolean, .inr .boolean, .inr .boolean, .inr .int]), .inl (.long, 12), .inl (.int, 12), .inl (.boolean, 8), .inl (.int, 8), .inl (.int, 8), .inl (.int, 8), .inl (.long, 6), .inl (.int, 8), .inr (6, [.inl (some 35), .inl (some 36), .inl (some 37), .inl (some 38), .inl (some 39), .inl (some 40), .inl (some 41), .inl (some 42), .inr .int, .inr .int, .inr .boolean, .inr .boolean, .inr .boolean, .inr .int]), .inl (.long, 12), .inl (.int, 12), .inl (.boolean, 8), .inl (.int, 8), .inl (.int, 8), .inl (.int, 8), .inl (.long, 6), .inl (.int, 8), .inl (.boolean, 2), .inl (.boolean, 288), .inr (1, [.inl (some 13), .inl (some 46), .inl (some 55), .inl (some 56)]), .inr (6, [.inl (some 47), .inl (some 48), .inl (some 49), .inl (some 50), .inl (some 51), .inl (some 52), .inl (some 53), .inl (some 54), .inr .int, .inr .int, .inr .boolean, .inr .boolean, .inr .boolean, .inr .int]), .inl (.long, 12), .inl (.int, 12), .inl (.boolean, 8), .inl (.int, 8), .inl (.int, 8), .inl (.int, 8), .inl (.long, 6), .inl (.int, 8), .inl (.int, 128), .inl (.int, 5376), .inr (2, [.inl (some 45), .inl (some 58), .inl (some 59), .inl (some 60), .inl (some 61), .inl (some 62), .inl (some 63), .inl (some 64)]), .inl (.boolean, 7), .inl (.int, 7), .inl (.int, 7), .inl (.int, 7), .inl (.int, 7), .inl (.long, 29), .inl (.int, 29), .inr (4, [.inl none, .inl none, .inr .int])]
def SH_22 : Shp := [.inr (9, [.inl (some 1), .inl (some 7), .inl (some 9), .inl (some 13), .inl (some 16), .inl (some 25), .inl (some 34), .inl (some 43), .inl (some 44), .inl (some 45), .inl (some 57), .inl none, .inl none]), .inr (5, [.inl (some 2), .inr .int, .inr .int, .inr .int, .inr .int, .inr .int, .inl (some 3), .inl (some 4), .inl (some 5), .inl (some 6)]), .inl (.char, 300), .inl (.boolean, 13), .inl (.int, 15), .inl (.int, 12), .inl (.int, 12), .inr (0, [.inl (some 8)]), .inl (.int, 15), .inr (3, [.inr .int, .inl (some 10), .inl (some 11), .inl (some 12)]), .inl (.int, 12), .inl (.int, 12), .inl (.boolean, 288), .inr (7, [.inl (some 7), .inl (some 9), .inl (some 14), .inl (some 15)]), .inl (.int, 12), .inl (.long, 12), .inr (6, [.inl (some 17), .inl (some 18), .inl (some 19), .inl (some 20), .inl (some 21), .inl (some 22), .inl (some 23), .inl (some 24), .inr .int, .inr .int, .inr .boolean, .inr .boolean, .inr .boolean, .inr .int]), .inl (.long, 12), .inl (.int, 12), .inl (.boolean, 8), .inl (.int, 8), .inl (.int, 8), .inl (.int, 8), .inl (.long, 6), .inl (.int, 8), .inr (6, [.inl (some 26), .inl (some 27), .inl (some 28), .inl (some 29), .inl (some 30), .inl (some 31), .inl (some 32), .inl (some 33), .inr .int, .inr .int, .inr .boolean, .inr .boolean, .inr .boolean, .inr .int]), .inl (.long, 12), .inl (.int, 12), .inl (.boolean, 8), .inl (.int, 8), .inl (.int, 8), .inl (.int, 8), .inl (.long, 6), .inl (.int, 8), .inr (6, [.inl (some 35), .inl (some 36), .inl (some 37), .inl (some 38), .inl (some 39), .inl (some 40), .inl (some 41), .inl (some 42), .inr .int, .inr .int, .inr .boolean, .inr .boolean, .inr .boolean, .inr .int]), .inl (.long, 12), .inl (.int, 12), .inl (.boolean, 8), .inl (.int, 8), .inl (.int, 8), .inl (.int, 8), .inl (.long, 6), .inl (.int, 8), .inl (.boolean, 2), .inl (.boolean, 288), .inr (1, [.inl (some 13), .inl (some 46), .inl (some 55), .inl (some 56)]), .inr (6, [.inl (some 47), .inl (some 48), .inl (some 49), .inl (some 50), .inl (some 51), .inl (some 52), .inl (some 53), .inl (some 54), .inr .int, .inr .int, .inr .boolean, .inr .boolean, .inr .boolean, .inr .int]), .inl (.long, 12), .inl (.int, 12), .inl (.boolean, 8), .inl (.int, 8), .inl (.int, 8), .inl (.int, 8), .inl (.long, 6), .inl (.int, 8), .inl (.int, 128), .inl (.int, 5376), .inr (2, [.inl (some 45), .inl (some 58), .inl (some 59), .inl (some 60), .inl (some 61), .inl (some 62), .inl (some 63), .inl (some 64)]), .inl (.boolean, 7), .inl (.int, 7), .inl (.int, 7), .inl (.int, 7), .inl (.int, 7), .inl (.long, 29), .inl (.int, 29), .inr (4, [.inl (some 45), .inl (some 66), .inr .int]), .inl (.int, 7)]
set_option maxRecDepth 100000 in
set_option maxHeartbeats 4000000 in
theorem ci_X4_init_65 (I : Iv) (J : Jv) : Ct m_X4_init [.ref 65, .ref 45] SH_21 I J (fun r S' I' J' => S' = SH_22 ∧ CF 65 I J I' J' ∧ r = none ∧ I' 65 2 = 30 ∧ (∀ k, k < 7 → I' 66 k = 50)) := by
  refine ct_of 0 (by decide +kernel) rfl rfl ?_
  have hC0 : CF 65 I J I J := fun _ _ => ⟨rfl, rfl⟩
  refine g_aload_n d_X4_init_0 rfl ?_
  refine g_oinit d_X4_init_1 tw_283 tw_26 tw_27 ⟨Nat.le_of_ble_eq_true rfl, Nat.le_of_ble_eq_true rfl⟩ (Nat.le_of_ble_eq_true rfl) ?_
  refine g_aload_n d_X4_init_4 rfl ?_
  refine g_bipush (v := 7) d_X4_init_5 kB_7 ?_
  refine g_newa (N := 7) (k := 66) d_X4_init_7 rfl (Or.inl rfl) tw_74 (by decide) kN_7 (by decide) rfl rfl (by decide) ⟨rfl, rfl⟩ ⟨Nat.le_of_ble_eq_true rfl, Nat.le_of_ble_eq_true rfl⟩ ?_
  have hC1 : CF 65 I J (zI I 66) (zJ J 66) := cz_z hC0 (by decide)
  refine g_putR d_X4_init_9 fq_RX4_9 (Or.inr ⟨rfl, _, _, _, rfl, rfl⟩) rfl rfl (Or.inr ⟨_, rfl⟩) rfl rfl ?_
  refine g_aload_n d_X4_init_12 rfl ?_
  refine g_bipush (v := 30) d_X4_init_13 kB_30 ?_
  refine g_putI d_X4_init_15 fq_RX4_15 rfl rfl ?_
  have hC2 : CF 65 I J (wI (zI I 66) 65 2 (30 : Int32)) (zJ J 66) := cz_w hC1 (by decide)
  refine g_aload_n d_X4_init_18 rfl ?_
  refine g_aload_n d_X4_init_19 rfl ?_
  refine g_putR d_X4_init_20 fq_RX4_19 (Or.inr ⟨rfl, _, _, _, rfl, rfl⟩) rfl rfl (Or.inl ⟨_, rfl⟩) rfl rfl ?_
  refine g_aload_n d_X4_init_23 rfl ?_
  refine g_getR d_X4_init_24 fq_RX4_9 rfl rfl ?_
  refine g_bipush (v := 50) d_X4_init_27 kB_50 ?_
  refine g_shp (S' := SH_22) rfl ?_
  refine g_S2 d_X4_init_29 cs_X4_init_J7_fill_53178 lk_RX4_23 im_J7_fill_53178 (Nat.le_of_ble_eq_true rfl) ⟨rfl, rfl⟩ ⟨Nat.le_of_ble_eq_true rfl, Nat.le_of_ble_eq_true rfl⟩ (ct_fillI (a := 66) (n := 7) (N := 7) SH_22 rfl kT_7 (by decide) (50 : Int32) (wI (zI I 66) 65 2 (30 : Int32)) (zJ J 66)) (fun r S1 I3 J4 q5 => ?_)
  obtain ⟨rfl, ⟨rfl, hc6⟩, rfl⟩ := q5
  have hC7 : CF 65 I J I3 (zJ J 66) := by rw [hc6]; exact cz_row hC2 (fun b hb => cI_row hb) (by decide)
  refine g_st (st' := []) rfl ?_
  exact g_return d_X4_init_32 rfl rfl rfl ⟨rfl, hC7, rfl, by rw [hc6]; simp [cI, wI], fun k hk => by rw [hc6]; simp [cI, hk]⟩
def SH_23 : Shp := [.inr (9, [.inl (some 1), .inl (some 7), .inl (some 9), .inl (some 13), .inl (some 16), .inl (some 25), .inl (some 34), .inl (some 43), .inl (some 44), .inl (some 45), .inl (some 57), .inl (some 65), .inl none]), .inr (5, [.inl (some 2), .inr .int, .inr .int, .inr .int, .inr .int, .inr .int, .inl (some 3), .inl (some 4), .inl (some 5), .inl (some 6)]), .inl (.char, 300), .inl (.boolean, 13), .inl (.int, 15), .inl (.int, 12), .inl (.int, 12), .inr (0, [.inl (some 8)]), .inl (.int, 15), .inr (3, [.inr .int, .inl (some 10), .inl (some 11), .inl (some 12)]), .inl (.int, 12), .inl (.int, 12), .inl (.boolean, 288), .inr (7, [.inl (some 7), .inl (some 9), .inl (some 14), .inl (some 15)]), .inl (.int, 12), .inl (.long, 12), .inr (6, [.inl (some 17), .inl (some 18), .inl (some 19), .inl (some 20), .inl (some 21), .inl (some 22), .inl (some 23), .inl (some 24), .inr .int, .inr .int, .inr .boolean, .inr .boolean, .inr .boolean, .inr .int]), .inl (.long, 12), .inl (.int, 12), .inl (.boolean, 8), .inl (.int, 8), .inl (.int, 8), .inl (.int, 8), .inl (.long, 6), .inl (.int, 8), .inr (6, [.inl (some 26), .inl (some 27), .inl (some 28), .inl (some 29), .inl (some 30), .inl (some 31), .inl (some 32), .inl (some 33), .inr .int, .inr .int, .inr .boolean, .inr .boolean, .inr .boolean, .inr .int]), .inl (.long, 12), .inl (.int, 12), .inl (.boolean, 8), .inl (.int, 8), .inl (.int, 8), .inl (.int, 8), .inl (.long, 6), .inl (.int, 8), .inr (6, [.inl (some 35), .inl (some 36), .inl (some 37), .inl (some 38), .inl (some 39), .inl (some 40), .inl (some 41), .inl (some 42), .inr .int, .inr .int, .inr .boolean, .inr .boolean, .inr .boolean, .inr .int]), .inl (.long, 12), .inl (.int, 12), .inl (.boolean, 8), .inl (.int, 8), .inl (.int, 8), .inl (.int, 8), .inl (.long, 6), .inl (.int, 8), .inl (.boolean, 2), .inl (.boolean, 288), .inr (1, [.inl (some 13), .inl (some 46), .inl (some 55), .inl (some 56)]), .inr (6, [.inl (some 47), .inl (some 48), .inl (some 49), .inl (some 50), .inl (some 51), .inl (some 52), .inl (some 53), .inl (some 54), .inr .int, .inr .int, .inr .boolean, .inr .boolean, .inr .boolean, .inr .int]), .inl (.long, 12), .inl (.int, 12), .inl (.boolean, 8), .inl (.int, 8), .inl (.int, 8), .inl (.int, 8), .inl (.long, 6), .inl (.int, 8), .inl (.int, 128), .inl (.int, 5376), .inr (2, [.inl (some 45), .inl (some 58), .inl (some 59), .inl (some 60), .inl (some 61), .inl (some 62), .inl (some 63), .inl (some 64)]), .inl (.boolean, 7), .inl (.int, 7), .inl (.int, 7), .inl (.int, 7), .inl (.int, 7), .inl (.long, 29), .inl (.int, 29), .inr (4, [.inl (some 45), .inl (some 66), .inr .int]), .inl (.int, 7), .inr (8, [.inl none, .inl none, .inl none, .inl none, .inr .int, .inr .int, .inr .int, .inr .int, .inr .int])]
def SH_24 : Shp := [.inr (9, [.inl (some 1), .inl (some 7), .inl (some 9), .inl (some 13), .inl (some 16), .inl (some 25), .inl (some 34), .inl (some 43), .inl (some 44), .inl (some 45), .inl (some 57), .inl (some 65), .inl none]), .inr (5, [.inl (some 2), .inr .int, .inr .int, .inr .int, .inr .int, .inr .int, .inl (some 3), .inl (some 4), .inl (some 5), .inl (some 6)]), .inl (.char, 300), .inl (.boolean, 13), .inl (.int, 15), .inl (.int, 12), .inl (.int, 12), .inr (0, [.inl (some 8)]), .inl (.int, 15), .inr (3, [.inr .int, .inl (some 10), .inl (some 11), .inl (some 12)]), .inl (.int, 12), .inl (.int, 12), .inl (.boolean, 288), .inr (7, [.inl (some 7), .inl (some 9), .inl (some 14), .inl (some 15)]), .inl (.int, 12), .inl (.long, 12), .inr (6, [.inl (some 17), .inl (some 18), .inl (some 19), .inl (some 20), .inl (some 21), .inl (some 22), .inl (some 23), .inl (some 24), .inr .int, .inr .int, .inr .boolean, .inr .boolean, .inr .boolean, .inr .int]), .inl (.long, 12), .inl (.int, 12), .inl (.boolean, 8), .inl (.int, 8), .inl (.int, 8), .inl (.int, 8), .inl (.long, 6), .inl (.int, 8), .inr (6, [.inl (some 26), .inl (some 27), .inl (some 28), .inl (some 29), .inl (some 30), .inl (some 31), .inl (some 32), .inl (some 33), .inr .int, .inr .int, .inr .boolean, .inr .boolean, .inr .boolean, .inr .int]), .inl (.long, 12), .inl (.int, 12), .inl (.boolean, 8), .inl (.int, 8), .inl (.int, 8), .inl (.int, 8), .inl (.long, 6), .inl (.int, 8), .inr (6, [.inl (some 35), .inl (some 36), .inl (some 37), .inl (some 38), .inl (some 39), .inl (some 40), .inl (some 41), .inl (some 42), .inr .int, .inr .int, .inr .boolean, .inr .boolean, .inr .boolean, .inr .int]), .inl (.long, 12), .inl (.int, 12), .inl (.boolean, 8), .inl (.int, 8), .inl (.int, 8), .inl (.int, 8), .inl (.long, 6), .inl (.int, 8), .inl (.boolean, 2), .inl (.boolean, 288), .inr (1, [.inl (some 13), .inl (some 46), .inl (some 55), .inl (some 56)]), .inr (6, [.inl (some 47), .inl (some 48), .inl (some 49), .inl (some 50), .inl (some 51), .inl (some 52), .inl (some 53), .inl (some 54), .inr .int, .inr .int, .inr .boolean, .inr .boolean, .inr .boolean, .inr .int]), .inl (.long, 12), .inl (.int, 12), .inl (.boolean, 8), .inl (.int, 8), .inl (.int, 8), .inl (.int, 8), .inl (.long, 6), .inl (.int, 8), .inl (.int, 128), .inl (.int, 5376), .inr (2, [.inl (some 45), .inl (some 58), .inl (some 59), .inl (some 60), .inl (some 61), .inl (some 62), .inl (some 63), .inl (some 64)]), .inl (.boolean, 7), .inl (.int, 7), .inl (.int, 7), .inl (.int, 7), .inl (.int, 7), .inl (.long, 29), .inl (.int, 29), .inr (4, [.inl (some 45), .inl (some 66), .inr .int]), .inl (.int, 7), .inr (8, [.inl none, .inl none, .inl none, .inl none, .inr .int, .inr .int, .inr .int, .inr .int, .inr .int]), .inr (6, [.inl none, .inl none, .inl none, .inl none, .inl none, .inl none, .inl none, .inl none, .inr .int, .inr .int, .inr .boolean, .inr .boolean, .inr .boolean, .inr .int])]
def SH_25 : Shp := [.inr (9, [.inl (some 1), .inl (some 7), .inl (some 9), .inl (some 13), .inl (some 16), .inl (some 25), .inl (some 34), .inl (some 43), .inl (some 44), .inl (some 45), .inl (some 57), .inl (some 65), .inl none]), .inr (5, [.inl (some 2), .inr .int, .inr .int, .inr .int, .inr .int, .inr .int, .inl (some 3), .inl (some 4), .inl (some 5), .inl (some 6)]), .inl (.char, 300), .inl (.boolean, 13), .inl (.int, 15), .inl (.int, 12), .inl (.int, 12), .inr (0, [.inl (some 8)]), .inl (.int, 15), .inr (3, [.inr .int, .inl (some 10), .inl (some 11), .inl (some 12)]), .inl (.int, 12), .inl (.int, 12), .inl (.boolean, 288), .inr (7, [.inl (some 7), .inl (some 9), .inl (some 14), .inl (some 15)]), .inl (.int, 12), .inl (.long, 12), .inr (6, [.inl (some 17), .inl (some 18), .inl (some 19), .inl (some 20), .inl (some 21), .inl (some 22), .inl (some 23), .inl (some 24), .inr .int, .inr .int, .inr .boolean, .inr .boolean, .inr .boolean, .inr .int]), .inl (.long, 12), .inl (.int, 12), .inl (.boolean, 8), .inl (.int, 8), .inl (.int, 8), .inl (.int, 8), .inl (.long, 6), .inl (.int, 8), .inr (6, [.inl (some 26), .inl (some 27), .inl (some 28), .inl (some 29), .inl (some 30), .inl (some 31), .inl (some 32), .inl (some 33), .inr .int, .inr .int, .inr .boolean, .inr .boolean, .inr .boolean, .inr .int]), .inl (.long, 12), .inl (.int, 12), .inl (.boolean, 8), .inl (.int, 8), .inl (.int, 8), .inl (.int, 8), .inl (.long, 6), .inl (.int, 8), .inr (6, [.inl (some 35), .inl (some 36), .inl (some 37), .inl (some 38), .inl (some 39), .inl (some 40), .inl (some 41), .inl (some 42), .inr .int, .inr .int, .inr .boolean, .inr .boolean, .inr .boolean, .inr .int]), .inl (.long, 12), .inl (.int, 12), .inl (.boolean, 8), .inl (.int, 8), .inl (.int, 8), .inl (.int, 8), .inl (.long, 6), .inl (.int, 8), .inl (.boolean, 2), .inl (.boolean, 288), .inr (1, [.inl (some 13), .inl (some 46), .inl (some 55), .inl (some 56)]), .inr (6, [.inl (some 47), .inl (some 48), .inl (some 49), .inl (some 50), .inl (some 51), .inl (some 52), .inl (some 53), .inl (some 54), .inr .int, .inr .int, .inr .boolean, .inr .boolean, .inr .boolean, .inr .int]), .inl (.long, 12), .inl (.int, 12), .inl (.boolean, 8), .inl (.int, 8), .inl (.int, 8), .inl (.int, 8), .inl (.long, 6), .inl (.int, 8), .inl (.int, 128), .inl (.int, 5376), .inr (2, [.inl (some 45), .inl (some 58), .inl (some 59), .inl (some 60), .inl (some 61), .inl (some 62), .inl (some 63), .inl (some 64)]), .inl (.boolean, 7), .inl (.int, 7), .inl (.int, 7), .inl (.int, 7), .inl (.int, 7), .inl (.long, 29), .inl (.int, 29), .inr (4, [.inl (some 45), .inl (some 66), .inr .int]), .inl (.int, 7), .inr (8, [.inl none, .inl none, .inl none, .inl none, .inr .int, .inr .int, .inr .int, .inr .int, .inr .int]), .inr (6, [.inl (some 69), .inl (some 70), .inl (some 71), .inl (some 72), .inl (some 73), .inl (some 74), .inl (some 75), .inl (some 76), .inr .int, .inr .int, .inr .boolean, .inr .boolean, .inr .boolean, .inr .int]), .inl (.long, 12), .inl (.int, 12), .inl (.boolean, 8), .inl (.int, 8), .inl (.int, 8), .inl (.int, 8), .inl (.long, 6), .inl (.int, 8)]
set_option maxRecDepth 100000 in
set_option maxHeartbeats 4000000 in
theorem ci_X6_init_68 (I : Iv) (J : Jv) : Ct m_X6_init [.ref 68] SH_24 I J (fun r S' I' J' => S' = SH_25 ∧ CF 68 I J I' J' ∧ r = none ∧ I' 76 0 = 0 ∧ I' 68 8 = I 68 8 ∧ I' 68 12 = I 68 12 ∧ I' 68 13 = I 68 13) := by
  refine ct_of 0 (by decide +kernel) rfl rfl ?_
  have hC0 : CF 68 I J I J := fun _ _ => ⟨rfl, rfl⟩
  refine g_aload_n d_X6_init_0 rfl ?_
  refine g_oinit d_X6_init_1 tw_144 tw_26 tw_27 ⟨Nat.le_of_ble_eq_true rfl, Nat.le_of_ble_eq_true rfl⟩ (Nat.le_of_ble_eq_true rfl) ?_
  refine g_aload_n d_X6_init_4 rfl ?_
  refine g_bipush (v := 12) d_X6_init_5 kB_12 ?_
  refine g_newa (N := 12) (k := 69) d_X6_init_7 rfl (Or.inr (Or.inl rfl)) tw_138 (by decide) kN_12 (by decide) rfl rfl (by decide) ⟨rfl, rfl⟩ ⟨Nat.le_of_ble_eq_true rfl, Nat.le_of_ble_eq_true rfl⟩ ?_
  have hC1 : CF 68 I J (zI I 69) (zJ J 69) := cz_z hC0 (by decide)
  refine g_putR d_X6_init_9 fq_RX6_9 (Or.inr ⟨rfl, _, _, _, rfl, rfl⟩) rfl rfl (Or.inr ⟨_, rfl⟩) rfl rfl ?_
  refine g_aload_n d_X6_init_12 rfl ?_
  refine g_bipush (v := 12) d_X6_init_13 kB_12 ?_
  refine g_newa (N := 12) (k := 70) d_X6_init_15 rfl (Or.inl rfl) tw_74 (by decide) kN_12 (by decide) rfl rfl (by decide) ⟨rfl, rfl⟩ ⟨Nat.le_of_ble_eq_true rfl, Nat.le_of_ble_eq_true rfl⟩ ?_
  have hC2 : CF 68 I J (zI (zI I 69) 70) (zJ (zJ J 69) 70) := cz_z hC1 (by decide)
  refine g_putR d_X6_init_17 fq_RX6_15 (Or.inr ⟨rfl, _, _, _, rfl, rfl⟩) rfl rfl (Or.inr ⟨_, rfl⟩) rfl rfl ?_
  refine g_aload_n d_X6_init_20 rfl ?_
  refine g_bipush (v := 8) d_X6_init_21 kB_8 ?_
  refine g_newa (N := 8) (k := 71) d_X6_init_23 rfl (Or.inr (Or.inr (Or.inl rfl))) tw_73 (by decide) kN_8 (by decide) rfl rfl (by decide) ⟨rfl, rfl⟩ ⟨Nat.le_of_ble_eq_true rfl, Nat.le_of_ble_eq_true rfl⟩ ?_
  have hC3 : CF 68 I J (zI (zI (zI I 69) 70) 71) (zJ (zJ (zJ J 69) 70) 71) := cz_z hC2 (by decide)
  refine g_putR d_X6_init_25 fq_RX6_19 (Or.inr ⟨rfl, _, _, _, rfl, rfl⟩) rfl rfl (Or.inr ⟨_, rfl⟩) rfl rfl ?_
  refine g_aload_n d_X6_init_28 rfl ?_
  refine g_bipush (v := 8) d_X6_init_29 kB_8 ?_
  refine g_newa (N := 8) (k := 72) d_X6_init_31 rfl (Or.inl rfl) tw_74 (by decide) kN_8 (by decide) rfl rfl (by decide) ⟨rfl, rfl⟩ ⟨Nat.le_of_ble_eq_true rfl, Nat.le_of_ble_eq_true rfl⟩ ?_
  have hC4 : CF 68 I J (zI (zI (zI (zI I 69) 70) 71) 72) (zJ (zJ (zJ (zJ J 69) 70) 71) 72) := cz_z hC3 (by decide)
  refine g_putR d_X6_init_33 fq_RX6_23 (Or.inr ⟨rfl, _, _, _, rfl, rfl⟩) rfl rfl (Or.inr ⟨_, rfl⟩) rfl rfl ?_
  refine g_aload_n d_X6_init_36 rfl ?_
  refine g_bipush (v := 8) d_X6_init_37 kB_8 ?_
  refine g_newa (N := 8) (k := 73) d_X6_init_39 rfl (Or.inl rfl) tw_74 (by decide) kN_8 (by decide) rfl rfl (by decide) ⟨rfl, rfl⟩ ⟨Nat.le_of_ble_eq_true rfl, Nat.le_of_ble_eq_true rfl⟩ ?_
  have hC5 : CF 68 I J (zI (zI (zI (zI (zI I 69) 70) 71) 72) 73) (zJ (zJ (zJ (zJ (zJ J 69) 70) 71) 72) 73) := cz_z hC4 (by decide)
  refine g_putR d_X6_init_41 fq_RX6_26 (Or.inr ⟨rfl, _, _, _, rfl, rfl⟩) rfl rfl (Or.inr ⟨_, rfl⟩) rfl rfl ?_
  refine g_aload_n d_X6_init_44 rfl ?_
  refine g_bipush (v := 8) d_X6_init_45 kB_8 ?_
  refine g_newa (N := 8) (k := 74) d_X6_init_47 rfl (Or.inl rfl) tw_74 (by decide) kN_8 (by decide) rfl rfl (by decide) ⟨rfl, rfl⟩ ⟨Nat.le_of_ble_eq_true rfl, Nat.le_of_ble_eq_true rfl⟩ ?_
  have hC6 : CF 68 I J (zI (zI (zI (zI (zI (zI I 69) 70) 71) 72) 73) 74) (zJ (zJ (zJ (zJ (zJ (zJ J 69) 70) 71) 72) 73) 74) := cz_z hC5 (by decide)
  refine g_putR d_X6_init_49 fq_RX6_29 (Or.inr ⟨rfl, _, _, _, rfl, rfl⟩) rfl rfl (Or.inr ⟨_, rfl⟩) rfl rfl ?_
  refine g_aload_n d_X6_init_52 rfl ?_
  refine g_bipush (v := 6) d_X6_init_53 kB_6 ?_
  refine g_newa (N := 6) (k := 75) d_X6_init_55 rfl (Or.inr (Or.inl rfl)) tw_138 (by decide) kN_6 (by decide) rfl rfl (by decide) ⟨rfl, rfl⟩ ⟨Nat.le_of_ble_eq_true rfl, Nat.le_of_ble_eq_true rfl⟩ ?_
  have hC7 : CF 68 I J (zI (zI (zI (zI (zI (zI (zI I 69) 70) 71) 72) 73) 74) 75) (zJ (zJ (zJ (zJ (zJ (zJ (zJ J 69) 70) 71) 72) 73) 74) 75) := cz_z hC6 (by decide)
  refine g_putR d_X6_init_57 fq_RX6_32 (Or.inr ⟨rfl, _, _, _, rfl, rfl⟩) rfl rfl (Or.inr ⟨_, rfl⟩) rfl rfl ?_
  refine g_aload_n d_X6_init_60 rfl ?_
  refine g_bipush (v := 8) d_X6_init_61 kB_8 ?_
  refine g_newa (N := 8) (k := 76) d_X6_init_63 rfl (Or.inl rfl) tw_74 (by decide) kN_8 (by decide) rfl rfl (by decide) ⟨rfl, rfl⟩ ⟨Nat.le_of_ble_eq_true rfl, Nat.le_of_ble_eq_true rfl⟩ ?_
  have hC8 : CF 68 I J (zI (zI (zI (zI (zI (zI (zI (zI I 69) 70) 71) 72) 73) 74) 75) 76) (zJ (zJ (zJ (zJ (zJ (zJ (zJ (zJ J 69) 70) 71) 72) 73) 74) 75) 76) := cz_z hC7 (by decide)
  refine g_putR d_X6_init_65 fq_RX6_35 (Or.inr ⟨rfl, _, _, _, rfl, rfl⟩) rfl rfl (Or.inr ⟨_, rfl⟩) rfl rfl ?_
  exact g_return d_X6_init_68 rfl rfl rfl ⟨rfl, hC8, rfl, by simp [zI, wI], by simp [zI, wI], by simp [zI, wI], by simp [zI, wI]⟩
def SH_26 : Shp := [.inr (9, [.inl (some 1), .inl (some 7), .inl (some 9), .inl (some 13), .inl (some 16), .inl (some 25), .inl (some 34), .inl (some 43), .inl (some 44), .inl (some 45), .inl (some 57), .inl (some 65), .inl none]), .inr (5, [.inl (some 2), .inr .int, .inr .int, .inr .int, .inr .int, .inr .int, .inl (some 3), .inl (some 4), .inl (some 5), .inl (some 6)]), .inl (.char, 300), .inl (.boolean, 13), .inl (.int, 15), .inl (.int, 12), .inl (.int, 12), .inr (0, [.inl (some 8)]), .inl (.int, 15), .inr (3, [.inr .int, .inl (some 10), .inl (some 11), .inl (some 12)]), .inl (.int, 12), .inl (.int, 12), .inl (.boolean, 288), .inr (7, [.inl (some 7), .inl (some 9), .inl (some 14), .inl (some 15)]), .inl (.int, 12), .inl (.long, 12), .inr (6, [.inl (some 17), .inl (some 18), .inl (some 19), .inl (some 20), .inl (some 21), .inl (some 22), .inl (some 23), .inl (some 24), .inr .int, .inr .int, .inr .boolean, .inr .boolean, .inr .boolean, .inr .int]), .inl (.long, 12), .inl (.int, 12), .inl (.boolean, 8), .inl (.int, 8), .inl (.int, 8), .inl (.int, 8), .inl (.long, 6), .inl (.int, 8), .inr (6, [.inl (some 26), .inl (some 27), .inl (some 28), .inl (some 29), .inl (some 30), .inl (some 31), .inl (some 32), .inl (some 33), .inr .int, .inr .int, .inr .boolean, .inr .boolean, .inr .boolean, .inr .int]), .inl (.long, 12), .inl (.int, 12), .inl (.boolean, 8), .inl (.int, 8), .inl (.int, 8), .inl (.int, 8), .inl (.long, 6), .inl (.int, 8), .inr (6, [.inl (some 35), .inl (some 36), .inl (some 37), .inl (some 38), .inl (some 39), .inl (some 40), .inl (some 41), .inl (some 42), .inr .int, .inr .int, .inr .boolean, .inr .boolean, .inr .boolean, .inr .int]), .inl (.long, 12), .inl (.int, 12), .inl (.boolean, 8), .inl (.int, 8), .inl (.int, 8), .inl (.int, 8), .inl (.long, 6), .inl (.int, 8), .inl (.boolean, 2), .inl (.boolean, 288), .inr (1, [.inl (some 13), .inl (some 46), .inl (some 55), .inl (some 56)]), .inr (6, [.inl (some 47), .inl (some 48), .inl (some 49), .inl (some 50), .inl (some 51), .inl (some 52), .inl (some 53), .inl (some 54), .inr .int, .inr .int, .inr .boolean, .inr .boolean, .inr .boolean, .inr .int]), .inl (.long, 12), .inl (.int, 12), .inl (.boolean, 8), .inl (.int, 8), .inl (.int, 8), .inl (.int, 8), .inl (.long, 6), .inl (.int, 8), .inl (.int, 128), .inl (.int, 5376), .inr (2, [.inl (some 45), .inl (some 58), .inl (some 59), .inl (some 60), .inl (some 61), .inl (some 62), .inl (some 63), .inl (some 64)]), .inl (.boolean, 7), .inl (.int, 7), .inl (.int, 7), .inl (.int, 7), .inl (.int, 7), .inl (.long, 29), .inl (.int, 29), .inr (4, [.inl (some 45), .inl (some 66), .inr .int]), .inl (.int, 7), .inr (8, [.inl (some 13), .inl (some 16), .inl (some 68), .inl (some 77), .inr .int, .inr .int, .inr .int, .inr .int, .inr .int]), .inr (6, [.inl (some 69), .inl (some 70), .inl (some 71), .inl (some 72), .inl (some 73), .inl (some 74), .inl (some 75), .inl (some 76), .inr .int, .inr .int, .inr .boolean, .inr .boolean, .inr .boolean, .inr .int]), .inl (.long, 12), .inl (.int, 12), .inl (.boolean, 8), .inl (.int, 8), .inl (.int, 8), .inl (.int, 8), .inl (.long, 6), .inl (.int, 8), .inl (.int, 8)]
set_option maxRecDepth 100000 in
set_option maxHeartbeats 4000000 in
theorem ci_X8_init_67 (I : Iv) (J : Jv) : Ct m_X8_init [.ref 67, .ref 13, .ref 16] SH_23 I J (fun r S' I' J' => S' = SH_26 ∧ CF 67 I J I' J' ∧ r = none) := by
  refine ct_of 0 (by decide +kernel) rfl rfl ?_
  have hC0 : CF 67 I J I J := fun _ _ => ⟨rfl, rfl⟩
  refine g_aload_n d_X8_init_0 rfl ?_
  refine g_oinit d_X8_init_1 tw_302 tw_26 tw_27 ⟨Nat.le_of_ble_eq_true rfl, Nat.le_of_ble_eq_true rfl⟩ (Nat.le_of_ble_eq_true rfl) ?_
  refine g_aload_n d_X8_init_4 rfl ?_
  refine g_new (ci := 6) (k := 68) (fs := [.inl none, .inl none, .inl none, .inl none, .inl none, .inl none, .inl none, .inl none, .inr .int, .inr .int, .inr .boolean, .inr .boolean, .inr .boolean, .inr .int]) d_X8_init_5 rfl tw_303 tw_140 tw_7 hfs_6 rfl rfl (by decide) ⟨rfl, rfl⟩ ⟨Nat.le_of_ble_eq_true rfl, Nat.le_of_ble_eq_true rfl⟩ ?_
  have hC1 : CF 67 I J (zI I 68) (zJ J 68) := cz_z hC0 (by decide)
  refine g_dup d_X8_init_8 rfl ?_
  refine g_shp (S' := SH_24) rfl ?_
  refine g_I0 d_X8_init_9 cs_X8_init_X6_init ⟨rfl, rfl⟩ lk_RX8_11 im_X6_init (Nat.le_of_ble_eq_true rfl) ⟨rfl, rfl⟩ ⟨Nat.le_of_ble_eq_true rfl, Nat.le_of_ble_eq_true rfl⟩ (ci_X6_init_68 (zI I 68) (zJ J 68)) (fun r S1 I2 J3 q4 => ?_)
  obtain ⟨rfl, hc5, rfl, f6, f7, f8, f9⟩ := q4
  have hC10 : CF 67 I J I2 J3 := cz_tr hC1 (cz_mono hc5 (by decide))
  have f11 : I2 68 8 = 0 := by rw [f7]; simp [zI]
  have f12 : I2 68 12 = 0 := by rw [f8]; simp [zI]
  have f13 : I2 68 13 = 0 := by rw [f9]; simp [zI]
  refine g_st (st' := [.ref 68, .ref 67]) rfl ?_
  refine g_putR d_X8_init_12 fq_RX8_12 (Or.inr ⟨rfl, _, _, _, rfl, rfl⟩) rfl rfl (Or.inl ⟨_, rfl⟩) rfl rfl ?_
  refine g_aload_n d_X8_init_15 rfl ?_
  refine g_bipush (v := 8) d_X8_init_16 kB_8 ?_
  refine g_newa (N := 8) (k := 77) d_X8_init_18 rfl (Or.inl rfl) tw_74 (by decide) kN_8 (by decide) rfl rfl (by decide) ⟨rfl, rfl⟩ ⟨Nat.le_of_ble_eq_true rfl, Nat.le_of_ble_eq_true rfl⟩ ?_
  have hC14 : CF 67 I J (zI I2 77) (zJ J3 77) := cz_z hC10 (by decide)
  refine g_putR d_X8_init_20 fq_RX8_18 (Or.inr ⟨rfl, _, _, _, rfl, rfl⟩) rfl rfl (Or.inr ⟨_, rfl⟩) rfl rfl ?_
  refine g_aload_n d_X8_init_23 rfl ?_
  refine g_iconst (v := -1) d_X8_init_24 kI_m1 ?_
  refine g_putI d_X8_init_25 fq_RX8_22 rfl rfl ?_
  have hC15 : CF 67 I J (wI (zI I2 77) 67 4 (-1 : Int32)) (zJ J3 77) := cz_w hC14 (by decide)
  refine g_aload_n d_X8_init_28 rfl ?_
  refine g_iconst (v := -1) d_X8_init_29 kI_m1 ?_
  refine g_putI d_X8_init_30 fq_RX8_26 rfl rfl ?_
  have hC16 : CF 67 I J (wI (wI (zI I2 77) 67 4 (-1 : Int32)) 67 5 (-1 : Int32)) (zJ J3 77) := cz_w hC15 (by decide)
  refine g_aload_n d_X8_init_33 rfl ?_
  refine g_aload_n d_X8_init_34 rfl ?_
  refine g_putR d_X8_init_35 fq_RX8_29 (Or.inr ⟨rfl, _, _, _, rfl, rfl⟩) rfl rfl (Or.inl ⟨_, rfl⟩) rfl rfl ?_
  refine g_aload_n d_X8_init_38 rfl ?_
  refine g_aload_n d_X8_init_39 rfl ?_
  refine g_putR d_X8_init_40 fq_RX8_33 (Or.inr ⟨rfl, _, _, _, rfl, rfl⟩) rfl rfl (Or.inl ⟨_, rfl⟩) rfl rfl ?_
  exact g_return d_X8_init_43 rfl rfl rfl ⟨rfl, hC16, rfl⟩
set_option maxRecDepth 100000 in
set_option maxHeartbeats 4000000 in
theorem ci_X9_init (I : Iv) (J : Jv) : Ct m_X9_init [.ref 0] SH_0 I J (fun r S' I' J' => S' = SHC ∧ r = none ∧ (∃ (I0 : Iv) (J0 : Jv), fn_X6_becomeFresh 16 I0 J0 = (I', J') ∧ I0 16 8 = 0 ∧ I0 16 12 = 1 ∧ I0 16 13 = 0) ∧ (I' 1 1 = 0) ∧ (I' 1 4 = -1) ∧ (∀ k, 0 ≤ k → I' 2 k = 0) ∧ (∀ k, k < 15 → I' 8 k = nu0 k) ∧ (I' 9 0 = 0) ∧ (∀ k, 0 ≤ k → I' 12 k = 0) ∧ (I' 24 0 = 0) ∧ (I' 16 8 = 0) ∧ (I' 16 12 = 1) ∧ (I' 33 0 = 0) ∧ (I' 25 8 = 0) ∧ (I' 25 12 = 0) ∧ (I' 25 13 = 0) ∧ (I' 42 0 = 0) ∧ (I' 34 8 = 0) ∧ (I' 34 12 = 0) ∧ (I' 34 13 = 0) ∧ (∀ k, k < 2 → I' 43 k = 0) ∧ (∀ k, 0 ≤ k → I' 55 k = 0) ∧ (∀ k, k < 7 → I' 61 k = 100) ∧ (∀ k, k < 7 → I' 58 k = 0) ∧ (∀ k, k < 7 → I' 62 k = 0) ∧ (I' 65 2 = 30) ∧ (∀ k, k < 7 → I' 66 k = 50)) := by
  refine ct_of 0 (by decide +kernel) rfl rfl ?_
  have hC0 : CF 0 I J I J := fun _ _ => ⟨rfl, rfl⟩
  refine g_aload_n d_X9_init_0 rfl ?_
  refine g_oinit d_X9_init_1 tw_25 tw_26 tw_27 ⟨Nat.le_of_ble_eq_true rfl, Nat.le_of_ble_eq_true rfl⟩ (Nat.le_of_ble_eq_true rfl) ?_
  refine g_aload_n d_X9_init_4 rfl ?_
  refine g_new (ci := 5) (k := 1) (fs := [.inl none, .inr .int, .inr .int, .inr .int, .inr .int, .inr .int, .inl none, .inl none, .inl none, .inl none]) d_X9_init_5 rfl tw_28 tw_29 tw_2 hfs_5 rfl rfl (by decide) ⟨rfl, rfl⟩ ⟨Nat.le_of_ble_eq_true rfl, Nat.le_of_ble_eq_true rfl⟩ ?_
  have hC1 : CF 0 I J (zI I 1) (zJ J 1) := cz_z hC0 (by decide)
  refine g_dup d_X9_init_8 rfl ?_
  refine g_shp (S' := SH_1) rfl ?_
  refine g_I0 d_X9_init_9 cs_X9_init_X5_init ⟨rfl, rfl⟩ lk_RX9_9 im_X5_init (Nat.le_of_ble_eq_true rfl) ⟨rfl, rfl⟩ ⟨Nat.le_of_ble_eq_true rfl, Nat.le_of_ble_eq_true rfl⟩ (ci_X5_init_1 (zI I 1) (zJ J 1)) (fun r S1 I2 J3 q4 => ?_)
  obtain ⟨rfl, hc5, rfl, f6, f7, f8⟩ := q4
  have hC9 : CF 0 I J I2 J3 := cz_tr hC1 (cz_mono hc5 (by decide))
  have f10 : I2 1 1 = 0 := by rw [f6]; simp [zI]
  refine g_st (st' := [.ref 1, .ref 0]) rfl ?_
  refine g_putR d_X9_init_12 fq_RX9_10 (Or.inr ⟨rfl, _, _, _, rfl, rfl⟩) rfl rfl (Or.inl ⟨_, rfl⟩) rfl rfl ?_
  refine g_aload_n d_X9_init_15 rfl ?_
  refine g_new (ci := 0) (k := 7) (fs := [.inl none]) d_X9_init_16 rfl tw_75 tw_76 tw_3 hfs_0 rfl rfl (by decide) ⟨rfl, rfl⟩ ⟨Nat.le_of_ble_eq_true rfl, Nat.le_of_ble_eq_true rfl⟩ ?_
  have hC11 : CF 0 I J (zI I2 7) (zJ J3 7) := cz_z hC9 (by decide)
  refine g_dup d_X9_init_19 rfl ?_
  refine g_shp (S' := SH_3) rfl ?_
  refine g_I0 d_X9_init_20 cs_X9_init_X0_init ⟨rfl, rfl⟩ lk_RX9_18 im_X0_init (Nat.le_of_ble_eq_true rfl) ⟨rfl, rfl⟩ ⟨Nat.le_of_ble_eq_true rfl, Nat.le_of_ble_eq_true rfl⟩ (ci_X0_init_7 (zI I2 7) (zJ J3 7)) (fun r S1 I12 J13 q14 => ?_)
  obtain ⟨rfl, hc15, rfl, f16⟩ := q14
  have hC17 : CF 0 I J I12 J13 := cz_tr hC11 (cz_mono hc15 (by decide))
  have f18 : I12 1 1 = 0 := by rw [(hc15 1 (by decide)).1]; simpa [zI, wI] using f10
  have f19 : I12 1 4 = -1 := by rw [(hc15 1 (by decide)).1]; simpa [zI, wI] using f7
  have f20 : ∀ k, 0 ≤ k → I12 2 k = 0 := by intro k hk; rw [(hc15 2 (by decide)).1]; simpa [zI, wI] using f8 k hk
  refine g_st (st' := [.ref 7, .ref 0]) rfl ?_
  refine g_putR d_X9_init_23 fq_RX9_19 (Or.inr ⟨rfl, _, _, _, rfl, rfl⟩) rfl rfl (Or.inl ⟨_, rfl⟩) rfl rfl ?_
  refine g_aload_n d_X9_init_26 rfl ?_
  refine g_new (ci := 3) (k := 9) (fs := [.inr .int, .inl none, .inl none, .inl none]) d_X9_init_27 rfl tw_94 tw_95 tw_5 hfs_3 rfl rfl (by decide) ⟨rfl, rfl⟩ ⟨Nat.le_of_ble_eq_true rfl, Nat.le_of_ble_eq_true rfl⟩ ?_
  have hC21 : CF 0 I J (zI I12 9) (zJ J13 9) := cz_z hC17 (by decide)
  refine g_dup d_X9_init_30 rfl ?_
  refine g_shp (S' := SH_5) rfl ?_
  refine g_I0 d_X9_init_31 cs_X9_init_X3_init ⟨rfl, rfl⟩ lk_RX9_25 im_X3_init (Nat.le_of_ble_eq_true rfl) ⟨rfl, rfl⟩ ⟨Nat.le_of_ble_eq_true rfl, Nat.le_of_ble_eq_true rfl⟩ (ci_X3_init_9 (zI I12 9) (zJ J13 9)) (fun r S1 I22 J23 q24 => ?_)
  obtain ⟨rfl, hc25, rfl, f26, f27⟩ := q24
  have hC28 : CF 0 I J I22 J23 := cz_tr hC21 (cz_mono hc25 (by decide))
  have f29 : I22 1 1 = 0 := by rw [(hc25 1 (by decide)).1]; simpa [zI, wI] using f18
  have f30 : I22 1 4 = -1 := by rw [(hc25 1 (by decide)).1]; simpa [zI, wI] using f19
  have f31 : ∀ k, 0 ≤ k → I22 2 k = 0 := by intro k hk; rw [(hc25 2 (by decide)).1]; simpa [zI, wI] using f20 k hk
  have f32 : ∀ k, k < 15 → I22 8 k = nu0 k := by intro k hk; rw [(hc25 8 (by decide)).1]; simpa [zI, wI] using f16 k hk
  have f33 : I22 9 0 = 0 := by rw [f26]; simp [zI]
  refine g_st (st' := [.ref 9, .ref 0]) rfl ?_
  refine g_putR d_X9_init_34 fq_RX9_26 (Or.inr ⟨rfl, _, _, _, rfl, rfl⟩) rfl rfl (Or.inl ⟨_, rfl⟩) rfl rfl ?_
  refine g_aload_n d_X9_init_37 rfl ?_
  refine g_new (ci := 7) (k := 13) (fs := [.inl none, .inl none, .inl none, .inl none]) d_X9_init_38 rfl tw_116 tw_117 tw_6 hfs_7 rfl rfl (by decide) ⟨rfl, rfl⟩ ⟨Nat.le_of_ble_eq_true rfl, Nat.le_of_ble_eq_true rfl⟩ ?_
  have hC34 : CF 0 I J (zI I22 13) (zJ J23 13) := cz_z hC28 (by decide)
  refine g_dup d_X9_init_41 rfl ?_
  refine g_aload_n d_X9_init_42 rfl ?_
  refine g_getR d_X9_init_43 fq_RX9_19 rfl rfl ?_
  refine g_aload_n d_X9_init_46 rfl ?_
  refine g_getR d_X9_init_47 fq_RX9_26 rfl rfl ?_
  refine g_shp (S' := SH_7) rfl ?_
  refine g_I2 d_X9_init_50 cs_X9_init_X7_init ⟨rfl, rfl⟩ lk_RX9_32 im_X7_init (Nat.le_of_ble_eq_true rfl) ⟨rfl, rfl⟩ ⟨Nat.le_of_ble_eq_true rfl, Nat.le_of_ble_eq_true rfl⟩ (ci_X7_init_13 (zI I22 13) (zJ J23 13)) (fun r S1 I35 J36 q37 => ?_)
  obtain ⟨rfl, hc38, rfl⟩ := q37
  have hC39 : CF 0 I J I35 J36 := cz_tr hC34 (cz_mono hc38 (by decide))
  have f40 : I35 1 1 = 0 := by rw [(hc38 1 (by decide)).1]; simpa [zI, wI] using f29
  have f41 : I35 1 4 = -1 := by rw [(hc38 1 (by decide)).1]; simpa [zI, wI] using f30
  have f42 : ∀ k, 0 ≤ k → I35 2 k = 0 := by intro k hk; rw [(hc38 2 (by decide)).1]; simpa [zI, wI] using f31 k hk
  have f43 : ∀ k, k < 15 → I35 8 k = nu0 k := by intro k hk; rw [(hc38 8 (by decide)).1]; simpa [zI, wI] using f32 k hk
  have f44 : I35 9 0 = 0 := by rw [(hc38 9 (by decide)).1]; simpa [zI, wI] using f33
  have f45 : ∀ k, 0 ≤ k → I35 12 k = 0 := by intro k hk; rw [(hc38 12 (by decide)).1]; simpa [zI, wI] using f27 k hk
  refine g_st (st' := [.ref 13, .ref 0]) rfl ?_
  refine g_putR d_X9_init_53 fq_RX9_35 (Or.inr ⟨rfl, _, _, _, rfl, rfl⟩) rfl rfl (Or.inl ⟨_, rfl⟩) rfl rfl ?_
  refine g_aload_n d_X9_init_56 rfl ?_
  refine g_new (ci := 6) (k := 16) (fs := [.inl none, .inl none, .inl none, .inl none, .inl none, .inl none, .inl none, .inl none, .inr .int, .inr .int, .inr .boolean, .inr .boolean, .inr .boolean, .inr .int]) d_X9_init_57 rfl tw_139 tw_140 tw_7 hfs_6 rfl rfl (by decide) ⟨rfl, rfl⟩ ⟨Nat.le_of_ble_eq_true rfl, Nat.le_of_ble_eq_true rfl⟩ ?_
  have hC46 : CF 0 I J (zI I35 16) (zJ J36 16) := cz_z hC39 (by decide)
  refine g_dup d_X9_init_60 rfl ?_
  refine g_shp (S' := SH_9) rfl ?_
  refine g_I0 d_X9_init_61 cs_X9_init_X6_init ⟨rfl, rfl⟩ lk_RX9_41 im_X6_init (Nat.le_of_ble_eq_true rfl) ⟨rfl, rfl⟩ ⟨Nat.le_of_ble_eq_true rfl, Nat.le_of_ble_eq_true rfl⟩ (ci_X6_init_16 (zI I35 16) (zJ J36 16)) (fun r S1 I47 J48 q49 => ?_)
  obtain ⟨rfl, hc50, rfl, f51, f52, f53, f54⟩ := q49
  have hC55 : CF 0 I J I47 J48 := cz_tr hC46 (cz_mono hc50 (by decide))
  have f56 : I47 1 1 = 0 := by rw [(hc50 1 (by decide)).1]; simpa [zI, wI] using f40
  have f57 : I47 1 4 = -1 := by rw [(hc50 1 (by decide)).1]; simpa [zI, wI] using f41
  have f58 : ∀ k, 0 ≤ k → I47 2 k = 0 := by intro k hk; rw [(hc50 2 (by decide)).1]; simpa [zI, wI] using f42 k hk
  have f59 : ∀ k, k < 15 → I47 8 k = nu0 k := by intro k hk; rw [(hc50 8 (by decide)).1]; simpa [zI, wI] using f43 k hk
  have f60 : I47 9 0 = 0 := by rw [(hc50 9 (by decide)).1]; simpa [zI, wI] using f44
  have f61 : ∀ k, 0 ≤ k → I47 12 k = 0 := by intro k hk; rw [(hc50 12 (by decide)).1]; simpa [zI, wI] using f45 k hk
  have f62 : I47 16 8 = 0 := by rw [f52]; simp [zI]
  have f63 : I47 16 12 = 0 := by rw [f53]; simp [zI]
  have f64 : I47 16 13 = 0 := by rw [f54]; simp [zI]
  refine g_st (st' := [.ref 16, .ref 0]) rfl ?_
  refine g_putR d_X9_init_64 fq_RX9_42 (Or.inr ⟨rfl, _, _, _, rfl, rfl⟩) rfl rfl (Or.inl ⟨_, rfl⟩) rfl rfl ?_
  refine g_aload_n d_X9_init_67 rfl ?_
  refine g_new (ci := 6) (k := 25) (fs := [.inl none, .inl none, .inl none, .inl none, .inl none, .inl none, .inl none, .inl none, .inr .int, .inr .int, .inr .boolean, .inr .boolean, .inr .boolean, .inr .int]) d_X9_init_68 rfl tw_139 tw_140 tw_7 hfs_6 rfl rfl (by decide) ⟨rfl, rfl⟩ ⟨Nat.le_of_ble_eq_true rfl, Nat.le_of_ble_eq_true rfl⟩ ?_
  have hC65 : CF 0 I J (zI I47 25) (zJ J48 25) := cz_z hC55 (by decide)
  refine g_dup d_X9_init_71 rfl ?_
  refine g_shp (S' := SH_11) rfl ?_
  refine g_I0 d_X9_init_72 cs_X9_init_X6_init ⟨rfl, rfl⟩ lk_RX9_41 im_X6_init (Nat.le_of_ble_eq_true rfl) ⟨rfl, rfl⟩ ⟨Nat.le_of_ble_eq_true rfl, Nat.le_of_ble_eq_true rfl⟩ (ci_X6_init_25 (zI I47 25) (zJ J48 25)) (fun r S1 I66 J67 q68 => ?_)
  obtain ⟨rfl, hc69, rfl, f70, f71, f72, f73⟩ := q68
  have hC74 : CF 0 I J I66 J67 := cz_tr hC65 (cz_mono hc69 (by decide))
  have f75 : I66 1 1 = 0 := by rw [(hc69 1 (by decide)).1]; simpa [zI, wI] using f56
  have f76 : I66 1 4 = -1 := by rw [(hc69 1 (by decide)).1]; simpa [zI, wI] using f57
  have f77 : ∀ k, 0 ≤ k → I66 2 k = 0 := by intro k hk; rw [(hc69 2 (by decide)).1]; simpa [zI, wI] using f58 k hk
  have f78 : ∀ k, k < 15 → I66 8 k = nu0 k := by intro k hk; rw [(hc69 8 (by decide)).1]; simpa [zI, wI] using f59 k hk
  have f79 : I66 9 0 = 0 := by rw [(hc69 9 (by decide)).1]; simpa [zI, wI] using f60
  have f80 : ∀ k, 0 ≤ k → I66 12 k = 0 := by intro k hk; rw [(hc69 12 (by decide)).1]; simpa [zI, wI] using f61 k hk
  have f81 : I66 24 0 = 0 := by rw [(hc69 24 (by decide)).1]; simpa [zI, wI] using f51
  have f82 : I66 16 8 = 0 := by rw [(hc69 16 (by decide)).1]; simpa [zI, wI] using f62
  have f83 : I66 16 12 = 0 := by rw [(hc69 16 (by decide)).1]; simpa [zI, wI] using f63
  have f84 : I66 16 13 = 0 := by rw [(hc69 16 (by decide)).1]; simpa [zI, wI] using f64
  have f85 : I66 25 8 = 0 := by rw [f71]; simp [zI]
  have f86 : I66 25 12 = 0 := by rw [f72]; simp [zI]
  have f87 : I66 25 13 = 0 := by rw [f73]; simp [zI]
  refine g_st (st' := [.ref 25, .ref 0]) rfl ?_
  refine g_putR d_X9_init_75 fq_RX9_46 (Or.inr ⟨rfl, _, _, _, rfl, rfl⟩) rfl rfl (Or.inl ⟨_, rfl⟩) rfl rfl ?_
  refine g_aload_n d_X9_init_78 rfl ?_
  refine g_new (ci := 6) (k := 34) (fs := [.inl none, .inl none, .inl none, .inl none, .inl none, .inl none, .inl none, .inl none, .inr .int, .inr .int, .inr .boolean, .inr .boolean, .inr .boolean, .inr .int]) d_X9_init_79 rfl tw_139 tw_140 tw_7 hfs_6 rfl rfl (by decide) ⟨rfl, rfl⟩ ⟨Nat.le_of_ble_eq_true rfl, Nat.le_of_ble_eq_true rfl⟩ ?_
  have hC88 : CF 0 I J (zI I66 34) (zJ J67 34) := cz_z hC74 (by decide)
  refine g_dup d_X9_init_82 rfl ?_
  refine g_shp (S' := SH_13) rfl ?_
  refine g_I0 d_X9_init_83 cs_X9_init_X6_init ⟨rfl, rfl⟩ lk_RX9_41 im_X6_init (Nat.le_of_ble_eq_true rfl) ⟨rfl, rfl⟩ ⟨Nat.le_of_ble_eq_true rfl, Nat.le_of_ble_eq_true rfl⟩ (ci_X6_init_34 (zI I66 34) (zJ J67 34)) (fun r S1 I89 J90 q91 => ?_)
  obtain ⟨rfl, hc92, rfl, f93, f94, f95, f96⟩ := q91
  have hC97 : CF 0 I J I89 J90 := cz_tr hC88 (cz_mono hc92 (by decide))
  have f98 : I89 1 1 = 0 := by rw [(hc92 1 (by decide)).1]; simpa [zI, wI] using f75
  have f99 : I89 1 4 = -1 := by rw [(hc92 1 (by decide)).1]; simpa [zI, wI] using f76
  have f100 : ∀ k, 0 ≤ k → I89 2 k = 0 := by intro k hk; rw [(hc92 2 (by decide)).1]; simpa [zI, wI] using f77 k hk
  have f101 : ∀ k, k < 15 → I89 8 k = nu0 k := by intro k hk; rw [(hc92 8 (by decide)).1]; simpa [zI, wI] using f78 k hk
  have f102 : I89 9 0 = 0 := by rw [(hc92 9 (by decide)).1]; simpa [zI, wI] using f79
  have f103 : ∀ k, 0 ≤ k → I89 12 k = 0 := by intro k hk; rw [(hc92 12 (by decide)).1]; simpa [zI, wI] using f80 k hk
  have f104 : I89 24 0 = 0 := by rw [(hc92 24 (by decide)).1]; simpa [zI, wI] using f81
  have f105 : I89 16 8 = 0 := by rw [(hc92 16 (by decide)).1]; simpa [zI, wI] using f82
  have f106 : I89 16 12 = 0 := by rw [(hc92 16 (by decide)).1]; simpa [zI, wI] using f83
  have f107 : I89 16 13 = 0 := by rw [(hc92 16 (by decide)).1]; simpa [zI, wI] using f84
  have f108 : I89 33 0 = 0 := by rw [(hc92 33 (by decide)).1]; simpa [zI, wI] using f70
  have f109 : I89 25 8 = 0 := by rw [(hc92 25 (by decide)).1]; simpa [zI, wI] using f85
  have f110 : I89 25 12 = 0 := by rw [(hc92 25 (by decide)).1]; simpa [zI, wI] using f86
  have f111 : I89 25 13 = 0 := by rw [(hc92 25 (by decide)).1]; simpa [zI, wI] using f87
  have f112 : I89 34 8 = 0 := by rw [f94]; simp [zI]
  have f113 : I89 34 12 = 0 := by rw [f95]; simp [zI]
  have f114 : I89 34 13 = 0 := by rw [f96]; simp [zI]
  refine g_st (st' := [.ref 34, .ref 0]) rfl ?_
  refine g_putR d_X9_init_86 fq_RX9_49 (Or.inr ⟨rfl, _, _, _, rfl, rfl⟩) rfl rfl (Or.inl ⟨_, rfl⟩) rfl rfl ?_
  refine g_aload_n d_X9_init_89 rfl ?_
  refine g_iconst (v := 2) d_X9_init_90 kI_2 ?_
  refine g_newa (N := 2) (k := 43) d_X9_init_91 rfl (Or.inr (Or.inr (Or.inl rfl))) tw_73 (by decide) kN_2 (by decide) rfl rfl (by decide) ⟨rfl, rfl⟩ ⟨Nat.le_of_ble_eq_true rfl, Nat.le_of_ble_eq_true rfl⟩ ?_
  have hC115 : CF 0 I J (zI I89 43) (zJ J90 43) := cz_z hC97 (by decide)
  have f116 : ∀ k, k < 2 → (zI I89 43) 43 k = 0 := fun k hk => by simp [zI]
  refine g_putR d_X9_init_93 fq_RX9_52 (Or.inr ⟨rfl, _, _, _, rfl, rfl⟩) rfl rfl (Or.inr ⟨_, rfl⟩) rfl rfl ?_
  refine g_aload_n d_X9_init_96 rfl ?_
  refine g_sipush (v := 288) d_X9_init_97 kS_288 ?_
  refine g_newa (N := 288) (k := 44) d_X9_init_100 rfl (Or.inr (Or.inr (Or.inl rfl))) tw_73 (by decide) kN_288 (by decide) rfl rfl (by decide) ⟨rfl, rfl⟩ ⟨Nat.le_of_ble_eq_true rfl, Nat.le_of_ble_eq_true rfl⟩ ?_
  have hC117 : CF 0 I J (zI (zI I89 43) 44) (zJ (zJ J90 43) 44) := cz_z hC115 (by decide)
  refine g_putR d_X9_init_102 fq_RX9_56 (Or.inr ⟨rfl, _, _, _, rfl, rfl⟩) rfl rfl (Or.inr ⟨_, rfl⟩) rfl rfl ?_
  refine g_aload_n d_X9_init_105 rfl ?_
  refine g_new (ci := 1) (k := 45) (fs := [.inl none, .inl none, .inl none, .inl none]) d_X9_init_106 rfl tw_216 tw_217 tw_8 hfs_1 rfl rfl (by decide) ⟨rfl, rfl⟩ ⟨Nat.le_of_ble_eq_true rfl, Nat.le_of_ble_eq_true rfl⟩ ?_
  have hC118 : CF 0 I J (zI (zI (zI I89 43) 44) 45) (zJ (zJ (zJ J90 43) 44) 45) := cz_z hC117 (by decide)
  refine g_dup d_X9_init_109 rfl ?_
  refine g_aload_n d_X9_init_110 rfl ?_
  refine g_getR d_X9_init_111 fq_RX9_35 rfl rfl ?_
  refine g_shp (S' := SH_15) rfl ?_
  refine g_I1 d_X9_init_114 cs_X9_init_X1_init ⟨rfl, rfl⟩ lk_RX9_61 im_X1_init (Nat.le_of_ble_eq_true rfl) ⟨rfl, rfl⟩ ⟨Nat.le_of_ble_eq_true rfl, Nat.le_of_ble_eq_true rfl⟩ (ci_X1_init_45 (zI (zI (zI I89 43) 44) 45) (zJ (zJ (zJ J90 43) 44) 45)) (fun r S1 I119 J120 q121 => ?_)
  obtain ⟨rfl, hc122, rfl, f123⟩ := q121
  have hC124 : CF 0 I J I119 J120 := cz_tr hC118 (cz_mono hc122 (by decide))
  have f125 : I119 1 1 = 0 := by rw [(hc122 1 (by decide)).1]; simpa [zI, wI] using f98
  have f126 : I119 1 4 = -1 := by rw [(hc122 1 (by decide)).1]; simpa [zI, wI] using f99
  have f127 : ∀ k, 0 ≤ k → I119 2 k = 0 := by intro k hk; rw [(hc122 2 (by decide)).1]; simpa [zI, wI] using f100 k hk
  have f128 : ∀ k, k < 15 → I119 8 k = nu0 k := by intro k hk; rw [(hc122 8 (by decide)).1]; simpa [zI, wI] using f101 k hk
  have f129 : I119 9 0 = 0 := by rw [(hc122 9 (by decide)).1]; simpa [zI, wI] using f102
  have f130 : ∀ k, 0 ≤ k → I119 12 k = 0 := by intro k hk; rw [(hc122 12 (by decide)).1]; simpa [zI, wI] using f103 k hk
  have f131 : I119 24 0 = 0 := by rw [(hc122 24 (by decide)).1]; simpa [zI, wI] using f104
  have f132 : I119 16 8 = 0 := by rw [(hc122 16 (by decide)).1]; simpa [zI, wI] using f105
  have f133 : I119 16 12 = 0 := by rw [(hc122 16 (by decide)).1]; simpa [zI, wI] using f106
  have f134 : I119 16 13 = 0 := by rw [(hc122 16 (by decide)).1]; simpa [zI, wI] using f107
  have f135 : I119 33 0 = 0 := by rw [(hc122 33 (by decide)).1]; simpa [zI, wI] using f108
  have f136 : I119 25 8 = 0 := by rw [(hc122 25 (by decide)).1]; simpa [zI, wI] using f109
  have f137 : I119 25 12 = 0 := by rw [(hc122 25 (by decide)).1]; simpa [zI, wI] using f110
  have f138 : I119 25 13 = 0 := by rw [(hc122 25 (by decide)).1]; simpa [zI, wI] using f111
  have f139 : I119 42 0 = 0 := by rw [(hc122 42 (by decide)).1]; simpa [zI, wI] using f93
  have f140 : I119 34 8 = 0 := by rw [(hc122 34 (by decide)).1]; simpa [zI, wI] using f112
  have f141 : I119 34 12 = 0 := by rw [(hc122 34 (by decide)).1]; simpa [zI, wI] using f113
  have f142 : I119 34 13 = 0 := by rw [(hc122 34 (by decide)).1]; simpa [zI, wI] using f114
  have f143 : ∀ k, k < 2 → I119 43 k = 0 := by intro k hk; rw [(hc122 43 (by decide)).1]; simpa [zI, wI] using f116 k hk
  refine g_st (st' := [.ref 45, .ref 0]) rfl ?_
  refine g_putR d_X9_init_117 fq_RX9_64 (Or.inr ⟨rfl, _, _, _, rfl, rfl⟩) rfl rfl (Or.inl ⟨_, rfl⟩) rfl rfl ?_
  refine g_aload_n d_X9_init_120 rfl ?_
  refine g_new (ci := 2) (k := 57) (fs := [.inl none, .inl none, .inl none, .inl none, .inl none, .inl none, .inl none, .inl none]) d_X9_init_121 rfl tw_237 tw_238 tw_9 hfs_2 rfl rfl (by decide) ⟨rfl, rfl⟩ ⟨Nat.le_of_ble_eq_true rfl, Nat.le_of_ble_eq_true rfl⟩ ?_
  have hC144 : CF 0 I J (zI I119 57) (zJ J120 57) := cz_z hC124 (by decide)
  refine g_dup d_X9_init_124 rfl ?_
  refine g_aload_n d_X9_init_125 rfl ?_
  refine g_getR d_X9_init_126 fq_RX9_64 rfl rfl ?_
  refine g_shp (S' := SH_19) rfl ?_
  refine g_I1 d_X9_init_129 cs_X9_init_X2_init ⟨rfl, rfl⟩ lk_RX9_70 im_X2_init (Nat.le_of_ble_eq_true rfl) ⟨rfl, rfl⟩ ⟨Nat.le_of_ble_eq_true rfl, Nat.le_of_ble_eq_true rfl⟩ (ci_X2_init_57 (zI I119 57) (zJ J120 57)) (fun r S1 I145 J146 q147 => ?_)
  obtain ⟨rfl, hc148, rfl, f149, f150, f151⟩ := q147
  have hC152 : CF 0 I J I145 J146 := cz_tr hC144 (cz_mono hc148 (by decide))
  have f153 : I145 1 1 = 0 := by rw [(hc148 1 (by decide)).1]; simpa [zI, wI] using f125
  have f154 : I145 1 4 = -1 := by rw [(hc148 1 (by decide)).1]; simpa [zI, wI] using f126
  have f155 : ∀ k, 0 ≤ k → I145 2 k = 0 := by intro k hk; rw [(hc148 2 (by decide)).1]; simpa [zI, wI] using f127 k hk
  have f156 : ∀ k, k < 15 → I145 8 k = nu0 k := by intro k hk; rw [(hc148 8 (by decide)).1]; simpa [zI, wI] using f128 k hk
  have f157 : I145 9 0 = 0 := by rw [(hc148 9 (by decide)).1]; simpa [zI, wI] using f129
  have f158 : ∀ k, 0 ≤ k → I145 12 k = 0 := by intro k hk; rw [(hc148 12 (by decide)).1]; simpa [zI, wI] using f130 k hk
  have f159 : I145 24 0 = 0 := by rw [(hc148 24 (by decide)).1]; simpa [zI, wI] using f131
  have f160 : I145 16 8 = 0 := by rw [(hc148 16 (by decide)).1]; simpa [zI, wI] using f132
  have f161 : I145 16 12 = 0 := by rw [(hc148 16 (by decide)).1]; simpa [zI, wI] using f133
  have f162 : I145 16 13 = 0 := by rw [(hc148 16 (by decide)).1]; simpa [zI, wI] using f134
  have f163 : I145 33 0 = 0 := by rw [(hc148 33 (by decide)).1]; simpa [zI, wI] using f135
  have f164 : I145 25 8 = 0 := by rw [(hc148 25 (by decide)).1]; simpa [zI, wI] using f136
  have f165 : I145 25 12 = 0 := by rw [(hc148 25 (by decide)).1]; simpa [zI, wI] using f137
  have f166 : I145 25 13 = 0 := by rw [(hc148 25 (by decide)).1]; simpa [zI, wI] using f138
  have f167 : I145 42 0 = 0 := by rw [(hc148 42 (by decide)).1]; simpa [zI, wI] using f139
  have f168 : I145 34 8 = 0 := by rw [(hc148 34 (by decide)).1]; simpa [zI, wI] using f140
  have f169 : I145 34 12 = 0 := by rw [(hc148 34 (by decide)).1]; simpa [zI, wI] using f141
  have f170 : I145 34 13 = 0 := by rw [(hc148 34 (by decide)).1]; simpa [zI, wI] using f142
  have f171 : ∀ k, k < 2 → I145 43 k = 0 := by intro k hk; rw [(hc148 43 (by decide)).1]; simpa [zI, wI] using f143 k hk
  have f172 : ∀ k, 0 ≤ k → I145 55 k = 0 := by intro k hk; rw [(hc148 55 (by decide)).1]; simpa [zI, wI] using f123 k hk
  refine g_st (st' := [.ref 57, .ref 0]) rfl ?_
  refine g_putR d_X9_init_132 fq_RX9_73 (Or.inr ⟨rfl, _, _, _, rfl, rfl⟩) rfl rfl (Or.inl ⟨_, rfl⟩) rfl rfl ?_
  refine g_aload_n d_X9_init_135 rfl ?_
  refine g_new (ci := 4) (k := 65) (fs := [.inl none, .inl none, .inr .int]) d_X9_init_136 rfl tw_278 tw_279 tw_11 hfs_4 rfl rfl (by decide) ⟨rfl, rfl⟩ ⟨Nat.le_of_ble_eq_true rfl, Nat.le_of_ble_eq_true rfl⟩ ?_
  have hC173 : CF 0 I J (zI I145 65) (zJ J146 65) := cz_z hC152 (by decide)
  refine g_dup d_X9_init_139 rfl ?_
  refine g_aload_n d_X9_init_140 rfl ?_
  refine g_getR d_X9_init_141 fq_RX9_64 rfl rfl ?_
  refine g_shp (S' := SH_21) rfl ?_
  refine g_I1 d_X9_init_144 cs_X9_init_X4_init ⟨rfl, rfl⟩ lk_RX9_79 im_X4_init (Nat.le_of_ble_eq_true rfl) ⟨rfl, rfl⟩ ⟨Nat.le_of_ble_eq_true rfl, Nat.le_of_ble_eq_true rfl⟩ (ci_X4_init_65 (zI I145 65) (zJ J146 65)) (fun r S1 I174 J175 q176 => ?_)
  obtain ⟨rfl, hc177, rfl, f178, f179⟩ := q176
  have hC180 : CF 0 I J I174 J175 := cz_tr hC173 (cz_mono hc177 (by decide))
  have f181 : I174 1 1 = 0 := by rw [(hc177 1 (by decide)).1]; simpa [zI, wI] using f153
  have f182 : I174 1 4 = -1 := by rw [(hc177 1 (by decide)).1]; simpa [zI, wI] using f154
  have f183 : ∀ k, 0 ≤ k → I174 2 k = 0 := by intro k hk; rw [(hc177 2 (by decide)).1]; simpa [zI, wI] using f155 k hk
  have f184 : ∀ k, k < 15 → I174 8 k = nu0 k := by intro k hk; rw [(hc177 8 (by decide)).1]; simpa [zI, wI] using f156 k hk
  have f185 : I174 9 0 = 0 := by rw [(hc177 9 (by decide)).1]; simpa [zI, wI] using f157
  have f186 : ∀ k, 0 ≤ k → I174 12 k = 0 := by intro k hk; rw [(hc177 12 (by decide)).1]; simpa [zI, wI] using f158 k hk
  have f187 : I174 24 0 = 0 := by rw [(hc177 24 (by decide)).1]; simpa [zI, wI] using f159
  have f188 : I174 16 8 = 0 := by rw [(hc177 16 (by decide)).1]; simpa [zI, wI] using f160
  have f189 : I174 16 12 = 0 := by rw [(hc177 16 (by decide)).1]; simpa [zI, wI] using f161
  have f190 : I174 16 13 = 0 := by rw [(hc177 16 (by decide)).1]; simpa [zI, wI] using f162
  have f191 : I174 33 0 = 0 := by rw [(hc177 33 (by decide)).1]; simpa [zI, wI] using f163
  have f192 : I174 25 8 = 0 := by rw [(hc177 25 (by decide)).1]; simpa [zI, wI] using f164
  have f193 : I174 25 12 = 0 := by rw [(hc177 25 (by decide)).1]; simpa [zI, wI] using f165
  have f194 : I174 25 13 = 0 := by rw [(hc177 25 (by decide)).1]; simpa [zI, wI] using f166
  have f195 : I174 42 0 = 0 := by rw [(hc177 42 (by decide)).1]; simpa [zI, wI] using f167
  have f196 : I174 34 8 = 0 := by rw [(hc177 34 (by decide)).1]; simpa [zI, wI] using f168
  have f197 : I174 34 12 = 0 := by rw [(hc177 34 (by decide)).1]; simpa [zI, wI] using f169
  have f198 : I174 34 13 = 0 := by rw [(hc177 34 (by decide)).1]; simpa [zI, wI] using f170
  have f199 : ∀ k, k < 2 → I174 43 k = 0 := by intro k hk; rw [(hc177 43 (by decide)).1]; simpa [zI, wI] using f171 k hk
  have f200 : ∀ k, 0 ≤ k → I174 55 k = 0 := by intro k hk; rw [(hc177 55 (by decide)).1]; simpa [zI, wI] using f172 k hk
  have f201 : ∀ k, k < 7 → I174 61 k = 100 := by intro k hk; rw [(hc177 61 (by decide)).1]; simpa [zI, wI] using f149 k hk
  have f202 : ∀ k, k < 7 → I174 58 k = 0 := by intro k hk; rw [(hc177 58 (by decide)).1]; simpa [zI, wI] using f150 k hk
  have f203 : ∀ k, k < 7 → I174 62 k = 0 := by intro k hk; rw [(hc177 62 (by decide)).1]; simpa [zI, wI] using f151 k hk
  refine g_st (st' := [.ref 65, .ref 0]) rfl ?_
  refine g_putR d_X9_init_147 fq_RX9_80 (Or.inr ⟨rfl, _, _, _, rfl, rfl⟩) rfl rfl (Or.inl ⟨_, rfl⟩) rfl rfl ?_
  refine g_aload_n d_X9_init_150 rfl ?_
  refine g_new (ci := 8) (k := 67) (fs := [.inl none, .inl none, .inl none, .inl none, .inr .int, .inr .int, .inr .int, .inr .int, .inr .int]) d_X9_init_151 rfl tw_297 tw_298 tw_12 hfs_8 rfl rfl (by decide) ⟨rfl, rfl⟩ ⟨Nat.le_of_ble_eq_true rfl, Nat.le_of_ble_eq_true rfl⟩ ?_
  have hC204 : CF 0 I J (zI I174 67) (zJ J175 67) := cz_z hC180 (by decide)
  refine g_dup d_X9_init_154 rfl ?_
  refine g_aload_n d_X9_init_155 rfl ?_
  refine g_getR d_X9_init_156 fq_RX9_35 rfl rfl ?_
  refine g_aload_n d_X9_init_159 rfl ?_
  refine g_getR d_X9_init_160 fq_RX9_42 rfl rfl ?_
  refine g_shp (S' := SH_23) rfl ?_
  refine g_I2 d_X9_init_163 cs_X9_init_X8_init ⟨rfl, rfl⟩ lk_RX9_86 im_X8_init (Nat.le_of_ble_eq_true rfl) ⟨rfl, rfl⟩ ⟨Nat.le_of_ble_eq_true rfl, Nat.le_of_ble_eq_true rfl⟩ (ci_X8_init_67 (zI I174 67) (zJ J175 67)) (fun r S1 I205 J206 q207 => ?_)
  obtain ⟨rfl, hc208, rfl⟩ := q207
  have hC209 : CF 0 I J I205 J206 := cz_tr hC204 (cz_mono hc208 (by decide))
  have f210 : I205 1 1 = 0 := by rw [(hc208 1 (by decide)).1]; simpa [zI, wI] using f181
  have f211 : I205 1 4 = -1 := by rw [(hc208 1 (by decide)).1]; simpa [zI, wI] using f182
  have f212 : ∀ k, 0 ≤ k → I205 2 k = 0 := by intro k hk; rw [(hc208 2 (by decide)).1]; simpa [zI, wI] using f183 k hk
  have f213 : ∀ k, k < 15 → I205 8 k = nu0 k := by intro k hk; rw [(hc208 8 (by decide)).1]; simpa [zI, wI] using f184 k hk
  have f214 : I205 9 0 = 0 := by rw [(hc208 9 (by decide)).1]; simpa [zI, wI] using f185
  have f215 : ∀ k, 0 ≤ k → I205 12 k = 0 := by intro k hk; rw [(hc208 12 (by decide)).1]; simpa [zI, wI] using f186 k hk
  have f216 : I205 24 0 = 0 := by rw [(hc208 24 (by decide)).1]; simpa [zI, wI] using f187
  have f217 : I205 16 8 = 0 := by rw [(hc208 16 (by decide)).1]; simpa [zI, wI] using f188
  have f218 : I205 16 12 = 0 := by rw [(hc208 16 (by decide)).1]; simpa [zI, wI] using f189
  have f219 : I205 16 13 = 0 := by rw [(hc208 16 (by decide)).1]; simpa [zI, wI] using f190
  have f220 : I205 33 0 = 0 := by rw [(hc208 33 (by decide)).1]; simpa [zI, wI] using f191
  have f221 : I205 25 8 = 0 := by rw [(hc208 25 (by decide)).1]; simpa [zI, wI] using f192
  have f222 : I205 25 12 = 0 := by rw [(hc208 25 (by decide)).1]; simpa [zI, wI] using f193
  have f223 : I205 25 13 = 0 := by rw [(hc208 25 (by decide)).1]; simpa [zI, wI] using f194
  have f224 : I205 42 0 = 0 := by rw [(hc208 42 (by decide)).1]; simpa [zI, wI] using f195
  have f225 : I205 34 8 = 0 := by rw [(hc208 34 (by decide)).1]; simpa [zI, wI] using f196
  have f226 : I205 34 12 = 0 := by rw [(hc208 34 (by decide)).1]; simpa [zI, wI] using f197
  have f227 : I205 34 13 = 0 := by rw [(hc208 34 (by decide)).1]; simpa [zI, wI] using f198
  have f228 : ∀ k, k < 2 → I205 43 k = 0 := by intro k hk; rw [(hc208 43 (by decide)).1]; simpa [zI, wI] using f199 k hk
  have f229 : ∀ k, 0 ≤ k → I205 55 k = 0 := by intro k hk; rw [(hc208 55 (by decide)).1]; simpa [zI, wI] using f200 k hk
  have f230 : ∀ k, k < 7 → I205 61 k = 100 := by intro k hk; rw [(hc208 61 (by decide)).1]; simpa [zI, wI] using f201 k hk
  have f231 : ∀ k, k < 7 → I205 58 k = 0 := by intro k hk; rw [(hc208 58 (by decide)).1]; simpa [zI, wI] using f202 k hk
  have f232 : ∀ k, k < 7 → I205 62 k = 0 := by intro k hk; rw [(hc208 62 (by decide)).1]; simpa [zI, wI] using f203 k hk
  have f233 : I205 65 2 = 30 := by rw [(hc208 65 (by decide)).1]; simpa [zI, wI] using f178
  have f234 : ∀ k, k < 7 → I205 66 k = 50 := by intro k hk; rw [(hc208 66 (by decide)).1]; simpa [zI, wI] using f179 k hk
  refine g_st (st' := [.ref 67, .ref 0]) rfl ?_
  refine g_putR d_X9_init_166 fq_RX9_89 (Or.inr ⟨rfl, _, _, _, rfl, rfl⟩) rfl rfl (Or.inl ⟨_, rfl⟩) rfl rfl ?_
  refine g_aload_n d_X9_init_169 rfl ?_
  refine g_getR d_X9_init_170 fq_RX9_42 rfl rfl ?_
  refine g_iconst (v := 1) d_X9_init_173 kI_1 ?_
  refine g_putZ d_X9_init_174 fq_RX9_93 rfl rfl (Or.inr rfl) ?_
  have hC235 : CF 0 I J (wI I205 16 12 (1 : Int32)) J206 := cz_w hC209 (by decide)
  refine g_aload_n d_X9_init_177 rfl ?_
  refine g_getR d_X9_init_178 fq_RX9_42 rfl rfl ?_
  refine g_shp (S' := SHC) rfl ?_
  refine g_V0 d_X9_init_181 cs_X9_init_X6_becomeFresh lk_RX9_97 im_X6_becomeFresh se_X6_becomeFresh (o := 16) rfl rfl rfl (Nat.le_of_ble_eq_true rfl) ⟨rfl, rfl⟩ ⟨Nat.le_of_ble_eq_true rfl, Nat.le_of_ble_eq_true rfl⟩ (cc_X6_becomeFresh (o := 16) (wI I205 16 12 (1 : Int32)) J206 rfl) (fun r S1 I236 J237 q238 => ?_)
  obtain ⟨rfl, hc239, rfl, hfn, f240⟩ := q238
  have f241 : ∃ (I0 : Iv) (J0 : Jv), fn_X6_becomeFresh 16 I0 J0 = (I236, J237) ∧ I0 16 8 = 0 ∧ I0 16 12 = 1 ∧ I0 16 13 = 0 := ⟨_, _, hfn, by simpa [zI, wI] using f217, by simp [wI], by simpa [zI, wI] using f219⟩
  have f242 : I236 1 1 = 0 := by rw [(hc239.1 1 (by decide) (by decide) (by decide)).1]; simpa [zI, wI] using f210
  have f243 : I236 1 4 = -1 := by rw [(hc239.1 1 (by decide) (by decide) (by decide)).1]; simpa [zI, wI] using f211
  have f244 : ∀ k, 0 ≤ k → I236 2 k = 0 := by intro k hk; rw [(hc239.1 2 (by decide) (by decide) (by decide)).1]; simpa [zI, wI] using f212 k hk
  have f245 : ∀ k, k < 15 → I236 8 k = nu0 k := by intro k hk; rw [(hc239.1 8 (by decide) (by decide) (by decide)).1]; simpa [zI, wI] using f213 k hk
  have f246 : I236 9 0 = 0 := by rw [(hc239.1 9 (by decide) (by decide) (by decide)).1]; simpa [zI, wI] using f214
  have f247 : ∀ k, 0 ≤ k → I236 12 k = 0 := by intro k hk; rw [(hc239.1 12 (by decide) (by decide) (by decide)).1]; simpa [zI, wI] using f215 k hk
  have f248 : I236 16 8 = 0 := by rw [hc239.2.1]; simpa [zI, wI] using f217
  have f249 : I236 16 12 = 1 := by rw [hc239.2.2]; simp [wI]
  have f250 : I236 33 0 = 0 := by rw [(hc239.1 33 (by decide) (by decide) (by decide)).1]; simpa [zI, wI] using f220
  have f251 : I236 25 8 = 0 := by rw [(hc239.1 25 (by decide) (by decide) (by decide)).1]; simpa [zI, wI] using f221
  have f252 : I236 25 12 = 0 := by rw [(hc239.1 25 (by decide) (by decide) (by decide)).1]; simpa [zI, wI] using f222
  have f253 : I236 25 13 = 0 := by rw [(hc239.1 25 (by decide) (by decide) (by decide)).1]; simpa [zI, wI] using f223
  have f254 : I236 42 0 = 0 := by rw [(hc239.1 42 (by decide) (by decide) (by decide)).1]; simpa [zI, wI] using f224
  have f255 : I236 34 8 = 0 := by rw [(hc239.1 34 (by decide) (by decide) (by decide)).1]; simpa [zI, wI] using f225
  have f256 : I236 34 12 = 0 := by rw [(hc239.1 34 (by decide) (by decide) (by decide)).1]; simpa [zI, wI] using f226
  have f257 : I236 34 13 = 0 := by rw [(hc239.1 34 (by decide) (by decide) (by decide)).1]; simpa [zI, wI] using f227
  have f258 : ∀ k, k < 2 → I236 43 k = 0 := by intro k hk; rw [(hc239.1 43 (by decide) (by decide) (by decide)).1]; simpa [zI, wI] using f228 k hk
  have f259 : ∀ k, 0 ≤ k → I236 55 k = 0 := by intro k hk; rw [(hc239.1 55 (by decide) (by decide) (by decide)).1]; simpa [zI, wI] using f229 k hk
  have f260 : ∀ k, k < 7 → I236 61 k = 100 := by intro k hk; rw [(hc239.1 61 (by decide) (by decide) (by decide)).1]; simpa [zI, wI] using f230 k hk
  have f261 : ∀ k, k < 7 → I236 58 k = 0 := by intro k hk; rw [(hc239.1 58 (by decide) (by decide) (by decide)).1]; simpa [zI, wI] using f231 k hk
  have f262 : ∀ k, k < 7 → I236 62 k = 0 := by intro k hk; rw [(hc239.1 62 (by decide) (by decide) (by decide)).1]; simpa [zI, wI] using f232 k hk
  have f263 : I236 65 2 = 30 := by rw [(hc239.1 65 (by decide) (by decide) (by decide)).1]; simpa [zI, wI] using f233
  have f264 : ∀ k, k < 7 → I236 66 k = 50 := by intro k hk; rw [(hc239.1 66 (by decide) (by decide) (by decide)).1]; simpa [zI, wI] using f234 k hk
  refine g_st (st' := []) rfl ?_
  exact g_return d_X9_init_184 rfl rfl rfl ⟨rfl, rfl, f241, f242, f243, f244, f245, f246, f247, f240, f248, f249, f250, f251, f252, f253, f254, f255, f256, f257, f258, f259, f260, f261, f262, f263, f264⟩
def SH_27 : Shp := [.inr (9, [.inl (some 1), .inl (some 7), .inl (some 9), .inl (some 13), .inl (some 16), .inl (some 25), .inl (some 34), .inl (some 43), .inl (some 44), .inl (some 45), .inl (some 57), .inl (some 65), .inl (some 67)]), .inr (5, [.inl (some 2), .inr .int, .inr .int, .inr .int, .inr .int, .inr .int, .inl (some 3), .inl (some 4), .inl (some 5), .inl (some 6)]), .inl (.char, 300), .inl (.boolean, 13), .inl (.int, 15), .inl (.int, 12), .inl (.int, 12), .inr (0, [.inl (some 8)]), .inl (.int, 15), .inr (3, [.inr .int, .inl (some 10), .inl (some 11), .inl (some 12)]), .inl (.int, 12), .inl (.int, 12), .inl (.boolean, 288), .inr (7, [.inl (some 7), .inl (some 9), .inl (some 14), .inl (some 15)]), .inl (.int, 12), .inl (.long, 12), .inr (6, [.inl (some 17), .inl (some 18), .inl (some 19), .inl (some 20), .inl (some 21), .inl (some 22), .inl (some 23), .inl (some 24), .inr .int, .inr .int, .inr .boolean, .inr .boolean, .inr .boolean, .inr .int]), .inl (.long, 12), .inl (.int, 12), .inl (.boolean, 8), .inl (.int, 8), .inl (.int, 8), .inl (.int, 8), .inl (.long, 6), .inl (.int, 8), .inr (6, [.inl (some 26), .inl (some 27), .inl (some 28), .inl (some 29), .inl (some 30), .inl (some 31), .inl (some 32), .inl (some 33), .inr .int, .inr .int, .inr .boolean, .inr .boolean, .inr .boolean, .inr .int]), .inl (.long, 12), .inl (.int, 12), .inl (.boolean, 8), .inl (.int, 8), .inl (.int, 8), .inl (.int, 8), .inl (.long, 6), .inl (.int, 8), .inr (6, [.inl (some 35), .inl (some 36), .inl (some 37), .inl (some 38), .inl (some 39), .inl (some 40), .inl (some 41), .inl (some 42), .inr .int, .inr .int, .inr .boolean, .inr .boolean, .inr .boolean, .inr .int]), .inl (.long, 12), .inl (.int, 12), .inl (.boolean, 8), .inl (.int, 8), .inl (.int, 8), .inl (.int, 8), .inl (.long, 6), .inl (.int, 8), .inl (.boolean, 2), .inl (.boolean, 288), .inr (1, [.inl (some 13), .inl (some 46), .inl (some 55), .inl (some 56)]), .inr (6, [.inl (some 47), .inl (some 48), .inl (some 49), .inl (some 50), .inl (some 51), .inl (some 52), .inl (some 53), .inl (some 54), .inr .int, .inr .int, .inr .boolean, .inr .boolean, .inr .boolean, .inr .int]), .inl (.long, 12), .inl (.int, 12), .inl (.boolean, 8), .inl (.int, 8), .inl (.int, 8), .inl (.int, 8), .inl (.long, 6), .inl (.int, 8), .inl (.int, 128), .inl (.int, 5376), .inr (2, [.inl (some 45), .inl (some 58), .inl (some 59), .inl (some 60), .inl (some 61), .inl (some 62), .inl (some 63), .inl (some 64)]), .inl (.boolean, 7), .inl (.int, 7), .inl (.int, 7), .inl (.int, 7), .inl (.int, 7), .inl (.long, 29), .inl (.int, 29), .inr (4, [.inl (some 45), .inl (some 66), .inr .int]), .inl (.int, 7), .inr (8, [.inl (some 13), .inl (some 16), .inl (some 68), .inl (some 77), .inr .int, .inr .int, .inr .int, .inr .int, .inr .int]), .inr (6, [.inl (some 69), .inl (some 70), .inl (some 71), .inl (some 72), .inl (some 73), .inl (some 74), .inl (some 75), .inl (some 76), .inr .int, .inr .int, .inr .boolean, .inr .boolean, .inr .boolean, .inr .int]), .inl (.long, 12), .inl (.int, 12), .inl (.boolean, 8), .inl (.int, 8), .inl (.int, 8), .inl (.int, 8), .inl (.long, 6), .inl (.int, 8), .inl (.int, 8), .inr (10, [.inl none, .inl none, .inr .boolean, .inl none, .inl none, .inr .int, .inl none, .inl none, .inl none, .inl none, .inl none, .inr .int, .inr .int, .inr .int, .inr .int, .inr .int, .inr .int, .inr .int, .inl none, .inl none, .inl none, .inl none, .inl none, .inl none, .inl none, .inl none, .inl none, .inl none, .inr .long, .inl none, .inr .int, .inr .int, .inr .int, .inr .int])]
def SH_28 : Shp := [.inr (9, [.inl (some 1), .inl (some 7), .inl (some 9), .inl (some 13), .inl (some 16), .inl (some 25), .inl (some 34), .inl (some 43), .inl (some 44), .inl (some 45), .inl (some 57), .inl (some 65), .inl (some 67)]), .inr (5, [.inl (some 2), .inr .int, .inr .int, .inr .int, .inr .int, .inr .int, .inl (some 3), .inl (some 4), .inl (some 5), .inl (some 6)]), .inl (.char, 300), .inl (.boolean, 13), .inl (.int, 15), .inl (.int, 12), .inl (.int, 12), .inr (0, [.inl (some 8)]), .inl (.int, 15), .inr (3, [.inr .int, .inl (some 10), .inl (some 11), .inl (some 12)]), .inl (.int, 12), .inl (.int, 12), .inl (.boolean, 288), .inr (7, [.inl (some 7), .inl (some 9), .inl (some 14), .inl (some 15)]), .inl (.int, 12), .inl (.long, 12), .inr (6, [.inl (some 17), .inl (some 18), .inl (some 19), .inl (some 20), .inl (some 21), .inl (some 22), .inl (some 23), .inl (some 24), .inr .int, .inr .int, .inr .boolean, .inr .boolean, .inr .boolean, .inr .int]), .inl (.long, 12), .inl (.int, 12), .inl (.boolean, 8), .inl (.int, 8), .inl (.int, 8), .inl (.int, 8), .inl (.long, 6), .inl (.int, 8), .inr (6, [.inl (some 26), .inl (some 27), .inl (some 28), .inl (some 29), .inl (some 30), .inl (some 31), .inl (some 32), .inl (some 33), .inr .int, .inr .int, .inr .boolean, .inr .boolean, .inr .boolean, .inr .int]), .inl (.long, 12), .inl (.int, 12), .inl (.boolean, 8), .inl (.int, 8), .inl (.int, 8), .inl (.int, 8), .inl (.long, 6), .inl (.int, 8), .inr (6, [.inl (some 35), .inl (some 36), .inl (some 37), .inl (some 38), .inl (some 39), .inl (some 40), .inl (some 41), .inl (some 42), .inr .int, .inr .int, .inr .boolean, .inr .boolean, .inr .boolean, .inr .int]), .inl (.long, 12), .inl (.int, 12), .inl (.boolean, 8), .inl (.int, 8), .inl (.int, 8), .inl (.int, 8), .inl (.long, 6), .inl (.int, 8), .inl (.boolean, 2), .inl (.boolean, 288), .inr (1, [.inl (some 13), .inl (some 46), .inl (some 55), .inl (some 56)]), .inr (6, [.inl (some 47), .inl (some 48), .inl (some 49), .inl (some 50), .inl (some 51), .inl (some 52), .inl (some 53), .inl (some 54), .inr .int, .inr .int, .inr .boolean, .inr .boolean, .inr .boolean, .inr .int]), .inl (.long, 12), .inl (.int, 12), .inl (.boolean, 8), .inl (.int, 8), .inl (.int, 8), .inl (.int, 8), .inl (.long, 6), .inl (.int, 8), .inl (.int, 128), .inl (.int, 5376), .inr (2, [.inl (some 45), .inl (some 58), .inl (some 59), .inl (some 60), .inl (some 61), .inl (some 62), .inl (some 63), .inl (some 64)]), .inl (.boolean, 7), .inl (.int, 7), .inl (.int, 7), .inl (.int, 7), .inl (.int, 7), .inl (.long, 29), .inl (.int, 29), .inr (4, [.inl (some 45), .inl (some 66), .inr .int]), .inl (.int, 7), .inr (8, [.inl (some 13), .inl (some 16), .inl (some 68), .inl (some 77), .inr .int, .inr .int, .inr .int, .inr .int, .inr .int]), .inr (6, [.inl (some 69), .inl (some 70), .inl (some 71), .inl (some 72), .inl (some 73), .inl (some 74), .inl (some 75), .inl (some 76), .inr .int, .inr .int, .inr .boolean, .inr .boolean, .inr .boolean, .inr .int]), .inl (.long, 12), .inl (.int, 12), .inl (.boolean, 8), .inl (.int, 8), .inl (.int, 8), .inl (.int, 8), .inl (.long, 6), .inl (.int, 8), .inl (.int, 8), .inr (10, [.inl (some 79), .inl (some 80), .inr .boolean, .inl (some 81), .inl (some 82), .inr .int, .inl (some 83), .inl (some 84), .inl (some 85), .inl (some 86), .inl (some 87), .inr .int, .inr .int, .inr .int, .inr .int, .inr .int, .inr .int, .inr .int, .inl (some 88), .inl (some 89), .inl (some 90), .inl (some 91), .inl (some 92), .inl (some 93), .inl (some 94), .inl (some 95), .inl (some 96), .inl (some 97), .inr .long, .inl (some 98), .inr .int, .inr .int, .inr .int, .inr .int]), .inl (.long, 320), .inl (.boolean, 2), .inl (.int, 15), .inl (.int, 15), .inl (.int, 12), .inl (.int, 12), .inl (.int, 12), .inl (.int, 12), .inl (.int, 300), .inl (.long, 12), .inl (.boolean, 288), .inl (.int, 7), .inl (.boolean, 7), .inl (.int, 7), .inl (.int, 7), .inl (.int, 7), .inl (.int, 7), .inl (.long, 128), .inl (.int, 896), .inl (.int, 7)]
set_option maxRecDepth 100000 in
set_option maxHeartbeats 4000000 in
theorem ci_X10_init_78 (I : Iv) (J : Jv) : Ct m_X10_init [.ref 78] SH_27 I J (fun r S' I' J' => S' = SH_28 ∧ CF 78 I J I' J' ∧ r = none ∧ (∀ b, 78 < b → b < 99 → ∀ k, I' b k = 0 ∧ J' b k = 0) ∧ (∀ k, k ≠ 16 → I' 78 k = I 78 k) ∧ J' 78 = J 78 ∧ (I' 78 16 = -1)) := by
  refine ct_of 0 (by decide +kernel) rfl rfl ?_
  have hC0 : CF 78 I J I J := fun _ _ => ⟨rfl, rfl⟩
  refine g_aload_n d_X10_init_0 rfl ?_
  refine g_oinit d_X10_init_1 tw_1087 tw_26 tw_27 ⟨Nat.le_of_ble_eq_true rfl, Nat.le_of_ble_eq_true rfl⟩ (Nat.le_of_ble_eq_true rfl) ?_
  refine g_aload_n d_X10_init_4 rfl ?_
  refine g_sipush (v := 320) d_X10_init_5 kS_320 ?_
  refine g_newa (N := 320) (k := 79) d_X10_init_8 rfl (Or.inr (Or.inl rfl)) tw_138 (by decide) kN_320 (by decide) rfl rfl (by decide) ⟨rfl, rfl⟩ ⟨Nat.le_of_ble_eq_true rfl, Nat.le_of_ble_eq_true rfl⟩ ?_
  have hC1 : CF 78 I J (zI I 79) (zJ J 79) := cz_z hC0 (by decide)
  refine g_putR d_X10_init_10 fq_RX10_7 (Or.inr ⟨rfl, _, _, _, rfl, rfl⟩) rfl rfl (Or.inr ⟨_, rfl⟩) rfl rfl ?_
  refine g_aload_n d_X10_init_13 rfl ?_
  refine g_iconst (v := 2) d_X10_init_14 kI_2 ?_
  refine g_newa (N := 2) (k := 80) d_X10_init_15 rfl (Or.inr (Or.inr (Or.inl rfl))) tw_73 (by decide) kN_2 (by decide) rfl rfl (by decide) ⟨rfl, rfl⟩ ⟨Nat.le_of_ble_eq_true rfl, Nat.le_of_ble_eq_true rfl⟩ ?_
  have hC2 : CF 78 I J (zI (zI I 79) 80) (zJ (zJ J 79) 80) := cz_z hC1 (by decide)
  refine g_putR d_X10_init_17 fq_RX10_13 (Or.inr ⟨rfl, _, _, _, rfl, rfl⟩) rfl rfl (Or.inr ⟨_, rfl⟩) rfl rfl ?_
  refine g_aload_n d_X10_init_20 rfl ?_
  refine g_bipush (v := 15) d_X10_init_21 kB_15 ?_
  refine g_newa (N := 15) (k := 81) d_X10_init_23 rfl (Or.inl rfl) tw_74 (by decide) kN_15 (by decide) rfl rfl (by decide) ⟨rfl, rfl⟩ ⟨Nat.le_of_ble_eq_true rfl, Nat.le_of_ble_eq_true rfl⟩ ?_
  have hC3 : CF 78 I J (zI (zI (zI I 79) 80) 81) (zJ (zJ (zJ J 79) 80) 81) := cz_z hC2 (by decide)
  refine g_putR d_X10_init_25 fq_RX10_17 (Or.inr ⟨rfl, _, _, _, rfl, rfl⟩) rfl rfl (Or.inr ⟨_, rfl⟩) rfl rfl ?_
  refine g_aload_n d_X10_init_28 rfl ?_
  refine g_bipush (v := 15) d_X10_init_29 kB_15 ?_
  refine g_newa (N := 15) (k := 82) d_X10_init_31 rfl (Or.inl rfl) tw_74 (by decide) kN_15 (by decide) rfl rfl (by decide) ⟨rfl, rfl⟩ ⟨Nat.le_of_ble_eq_true rfl, Nat.le_of_ble_eq_true rfl⟩ ?_
  have hC4 : CF 78 I J (zI (zI (zI (zI I 79) 80) 81) 82) (zJ (zJ (zJ (zJ J 79) 80) 81) 82) := cz_z hC3 (by decide)
  refine g_putR d_X10_init_33 fq_RX10_21 (Or.inr ⟨rfl, _, _, _, rfl, rfl⟩) rfl rfl (Or.inr ⟨_, rfl⟩) rfl rfl ?_
  refine g_aload_n d_X10_init_36 rfl ?_
  refine g_bipush (v := 12) d_X10_init_37 kB_12 ?_
  refine g_newa (N := 12) (k := 83) d_X10_init_39 rfl (Or.inl rfl) tw_74 (by decide) kN_12 (by decide) rfl rfl (by decide) ⟨rfl, rfl⟩ ⟨Nat.le_of_ble_eq_true rfl, Nat.le_of_ble_eq_true rfl⟩ ?_
  have hC5 : CF 78 I J (zI (zI (zI (zI (zI I 79) 80) 81) 82) 83) (zJ (zJ (zJ (zJ (zJ J 79) 80) 81) 82) 83) := cz_z hC4 (by decide)
  refine g_putR d_X10_init_41 fq_RX10_24 (Or.inr ⟨rfl, _, _, _, rfl, rfl⟩) rfl rfl (Or.inr ⟨_, rfl⟩) rfl rfl ?_
  refine g_aload_n d_X10_init_44 rfl ?_
  refine g_bipush (v := 12) d_X10_init_45 kB_12 ?_
  refine g_newa (N := 12) (k := 84) d_X10_init_47 rfl (Or.inl rfl) tw_74 (by decide) kN_12 (by decide) rfl rfl (by decide) ⟨rfl, rfl⟩ ⟨Nat.le_of_ble_eq_true rfl, Nat.le_of_ble_eq_true rfl⟩ ?_
  have hC6 : CF 78 I J (zI (zI (zI (zI (zI (zI I 79) 80) 81) 82) 83) 84) (zJ (zJ (zJ (zJ (zJ (zJ J 79) 80) 81) 82) 83) 84) := cz_z hC5 (by decide)
  refine g_putR d_X10_init_49 fq_RX10_27 (Or.inr ⟨rfl, _, _, _, rfl, rfl⟩) rfl rfl (Or.inr ⟨_, rfl⟩) rfl rfl ?_
  refine g_aload_n d_X10_init_52 rfl ?_
  refine g_bipush (v := 12) d_X10_init_53 kB_12 ?_
  refine g_newa (N := 12) (k := 85) d_X10_init_55 rfl (Or.inl rfl) tw_74 (by decide) kN_12 (by decide) rfl rfl (by decide) ⟨rfl, rfl⟩ ⟨Nat.le_of_ble_eq_true rfl, Nat.le_of_ble_eq_true rfl⟩ ?_
  have hC7 : CF 78 I J (zI (zI (zI (zI (zI (zI (zI I 79) 80) 81) 82) 83) 84) 85) (zJ (zJ (zJ (zJ (zJ (zJ (zJ J 79) 80) 81) 82) 83) 84) 85) := cz_z hC6 (by decide)
  refine g_putR d_X10_init_57 fq_RX10_30 (Or.inr ⟨rfl, _, _, _, rfl, rfl⟩) rfl rfl (Or.inr ⟨_, rfl⟩) rfl rfl ?_
  refine g_aload_n d_X10_init_60 rfl ?_
  refine g_bipush (v := 12) d_X10_init_61 kB_12 ?_
  refine g_newa (N := 12) (k := 86) d_X10_init_63 rfl (Or.inl rfl) tw_74 (by decide) kN_12 (by decide) rfl rfl (by decide) ⟨rfl, rfl⟩ ⟨Nat.le_of_ble_eq_true rfl, Nat.le_of_ble_eq_true rfl⟩ ?_
  have hC8 : CF 78 I J (zI (zI (zI (zI (zI (zI (zI (zI I 79) 80) 81) 82) 83) 84) 85) 86) (zJ (zJ (zJ (zJ (zJ (zJ (zJ (zJ J 79) 80) 81) 82) 83) 84) 85) 86) := cz_z hC7 (by decide)
  refine g_putR d_X10_init_65 fq_RX10_33 (Or.inr ⟨rfl, _, _, _, rfl, rfl⟩) rfl rfl (Or.inr ⟨_, rfl⟩) rfl rfl ?_
  refine g_aload_n d_X10_init_68 rfl ?_
  refine g_sipush (v := 300) d_X10_init_69 kS_300 ?_
  refine g_newa (N := 300) (k := 87) d_X10_init_72 rfl (Or.inl rfl) tw_74 (by decide) kN_300 (by decide) rfl rfl (by decide) ⟨rfl, rfl⟩ ⟨Nat.le_of_ble_eq_true rfl, Nat.le_of_ble_eq_true rfl⟩ ?_
  have hC9 : CF 78 I J (zI (zI (zI (zI (zI (zI (zI (zI (zI I 79) 80) 81) 82) 83) 84) 85) 86) 87) (zJ (zJ (zJ (zJ (zJ (zJ (zJ (zJ (zJ J 79) 80) 81) 82) 83) 84) 85) 86) 87) := cz_z hC8 (by decide)
  refine g_putR d_X10_init_74 fq_RX10_36 (Or.inr ⟨rfl, _, _, _, rfl, rfl⟩) rfl rfl (Or.inr ⟨_, rfl⟩) rfl rfl ?_
  refine g_aload_n d_X10_init_77 rfl ?_
  refine g_iconst (v := -1) d_X10_init_78 kI_m1 ?_
  refine g_putI d_X10_init_79 fq_RX10_39 rfl rfl ?_
  have hC10 : CF 78 I J (wI (zI (zI (zI (zI (zI (zI (zI (zI (zI I 79) 80) 81) 82) 83) 84) 85) 86) 87) 78 16 (-1 : Int32)) (zJ (zJ (zJ (zJ (zJ (zJ (zJ (zJ (zJ J 79) 80) 81) 82) 83) 84) 85) 86) 87) := cz_w hC9 (by decide)
  refine g_aload_n d_X10_init_82 rfl ?_
  refine g_bipush (v := 12) d_X10_init_83 kB_12 ?_
  refine g_newa (N := 12) (k := 88) d_X10_init_85 rfl (Or.inr (Or.inl rfl)) tw_138 (by decide) kN_12 (by decide) rfl rfl (by decide) ⟨rfl, rfl⟩ ⟨Nat.le_of_ble_eq_true rfl, Nat.le_of_ble_eq_true rfl⟩ ?_
  have hC11 : CF 78 I J (zI (wI (zI (zI (zI (zI (zI (zI (zI (zI (zI I 79) 80) 81) 82) 83) 84) 85) 86) 87) 78 16 (-1 : Int32)) 88) (zJ (zJ (zJ (zJ (zJ (zJ (zJ (zJ (zJ (zJ J 79) 80) 81) 82) 83) 84) 85) 86) 87) 88) := cz_z hC10 (by decide)
  refine g_putR d_X10_init_87 fq_RX10_43 (Or.inr ⟨rfl, _, _, _, rfl, rfl⟩) rfl rfl (Or.inr ⟨_, rfl⟩) rfl rfl ?_
  refine g_aload_n d_X10_init_90 rfl ?_
  refine g_sipush (v := 288) d_X10_init_91 kS_288 ?_
  refine g_newa (N := 288) (k := 89) d_X10_init_94 rfl (Or.inr (Or.inr (Or.inl rfl))) tw_73 (by decide) kN_288 (by decide) rfl rfl (by decide) ⟨rfl, rfl⟩ ⟨Nat.le_of_ble_eq_true rfl, Nat.le_of_ble_eq_true rfl⟩ ?_
  have hC12 : CF 78 I J (zI (zI (wI (zI (zI (zI (zI (zI (zI (zI (zI (zI I 79) 80) 81) 82) 83) 84) 85) 86) 87) 78 16 (-1 : Int32)) 88) 89) (zJ (zJ (zJ (zJ (zJ (zJ (zJ (zJ (zJ (zJ (zJ J 79) 80) 81) 82) 83) 84) 85) 86) 87) 88) 89) := cz_z hC11 (by decide)
  refine g_putR d_X10_init_96 fq_RX10_46 (Or.inr ⟨rfl, _, _, _, rfl, rfl⟩) rfl rfl (Or.inr ⟨_, rfl⟩) rfl rfl ?_
  refine g_aload_n d_X10_init_99 rfl ?_
  refine g_bipush (v := 7) d_X10_init_100 kB_7 ?_
  refine g_newa (N := 7) (k := 90) d_X10_init_102 rfl (Or.inl rfl) tw_74 (by decide) kN_7 (by decide) rfl rfl (by decide) ⟨rfl, rfl⟩ ⟨Nat.le_of_ble_eq_true rfl, Nat.le_of_ble_eq_true rfl⟩ ?_
  have hC13 : CF 78 I J (zI (zI (zI (wI (zI (zI (zI (zI (zI (zI (zI (zI (zI I 79) 80) 81) 82) 83) 84) 85) 86) 87) 78 16 (-1 : Int32)) 88) 89) 90) (zJ (zJ (zJ (zJ (zJ (zJ (zJ (zJ (zJ (zJ (zJ (zJ J 79) 80) 81) 82) 83) 84) 85) 86) 87) 88) 89) 90) := cz_z hC12 (by decide)
  refine g_putR d_X10_init_104 fq_RX10_49 (Or.inr ⟨rfl, _, _, _, rfl, rfl⟩) rfl rfl (Or.inr ⟨_, rfl⟩) rfl rfl ?_
  refine g_aload_n d_X10_init_107 rfl ?_
  refine g_bipush (v := 7) d_X10_init_108 kB_7 ?_
  refine g_newa (N := 7) (k := 91) d_X10_init_110 rfl (Or.inr (Or.inr (Or.inl rfl))) tw_73 (by decide) kN_7 (by decide) rfl rfl (by decide) ⟨rfl, rfl⟩ ⟨Nat.le_of_ble_eq_true rfl, Nat.le_of_ble_eq_true rfl⟩ ?_
  have hC14 : CF 78 I J (zI (zI (zI (zI (wI (zI (zI (zI (zI (zI (zI (zI (zI (zI I 79) 80) 81) 82) 83) 84) 85) 86) 87) 78 16 (-1 : Int32)) 88) 89) 90) 91) (zJ (zJ (zJ (zJ (zJ (zJ (zJ (zJ (zJ (zJ (zJ (zJ (zJ J 79) 80) 81) 82) 83) 84) 85) 86) 87) 88) 89) 90) 91) := cz_z hC13 (by decide)
  refine g_putR d_X10_init_112 fq_RX10_52 (Or.inr ⟨rfl, _, _, _, rfl, rfl⟩) rfl rfl (Or.inr ⟨_, rfl⟩) rfl rfl ?_
  refine g_aload_n d_X10_init_115 rfl ?_
  refine g_bipush (v := 7) d_X10_init_116 kB_7 ?_
  refine g_newa (N := 7) (k := 92) d_X10_init_118 rfl (Or.inl rfl) tw_74 (by decide) kN_7 (by decide) rfl rfl (by decide) ⟨rfl, rfl⟩ ⟨Nat.le_of_ble_eq_true rfl, Nat.le_of_ble_eq_true rfl⟩ ?_
  have hC15 : CF 78 I J (zI (zI (zI (zI (zI (wI (zI (zI (zI (zI (zI (zI (zI (zI (zI I 79) 80) 81) 82) 83) 84) 85) 86) 87) 78 16 (-1 : Int32)) 88) 89) 90) 91) 92) (zJ (zJ (zJ (zJ (zJ (zJ (zJ (zJ (zJ (zJ (zJ (zJ (zJ (zJ J 79) 80) 81) 82) 83) 84) 85) 86) 87) 88) 89) 90) 91) 92) := cz_z hC14 (by decide)
  refine g_putR d_X10_init_120 fq_RX10_55 (Or.inr ⟨rfl, _, _, _, rfl, rfl⟩) rfl rfl (Or.inr ⟨_, rfl⟩) rfl rfl ?_
  refine g_aload_n d_X10_init_123 rfl ?_
  refine g_bipush (v := 7) d_X10_init_124 kB_7 ?_
  refine g_newa (N := 7) (k := 93) d_X10_init_126 rfl (Or.inl rfl) tw_74 (by decide) kN_7 (by decide) rfl rfl (by decide) ⟨rfl, rfl⟩ ⟨Nat.le_of_ble_eq_true rfl, Nat.le_of_ble_eq_true rfl⟩ ?_
  have hC16 : CF 78 I J (zI (zI (zI (zI (zI (zI (wI (zI (zI (zI (zI (zI (zI (zI (zI (zI I 79) 80) 81) 82) 83) 84) 85) 86) 87) 78 16 (-1 : Int32)) 88) 89) 90) 91) 92) 93) (zJ (zJ (zJ (zJ (zJ (zJ (zJ (zJ (zJ (zJ (zJ (zJ (zJ (zJ (zJ J 79) 80) 81) 82) 83) 84) 85) 86) 87) 88) 89) 90) 91) 92) 93) := cz_z hC15 (by decide)
  refine g_putR d_X10_init_128 fq_RX10_58 (Or.inr ⟨rfl, _, _, _, rfl, rfl⟩) rfl rfl (Or.inr ⟨_, rfl⟩) rfl rfl ?_
  refine g_aload_n d_X10_init_131 rfl ?_
  refine g_bipush (v := 7) d_X10_init_132 kB_7 ?_
  refine g_newa (N := 7) (k := 94) d_X10_init_134 rfl (Or.inl rfl) tw_74 (by decide) kN_7 (by decide) rfl rfl (by decide) ⟨rfl, rfl⟩ ⟨Nat.le_of_ble_eq_true rfl, Nat.le_of_ble_eq_true rfl⟩ ?_
  have hC17 : CF 78 I J (zI (zI (zI (zI (zI (zI (zI (wI (zI (zI (zI (zI (zI (zI (zI (zI (zI I 79) 80) 81) 82) 83) 84) 85) 86) 87) 78 16 (-1 : Int32)) 88) 89) 90) 91) 92) 93) 94) (zJ (zJ (zJ (zJ (zJ (zJ (zJ (zJ (zJ (zJ (zJ (zJ (zJ (zJ (zJ (zJ J 79) 80) 81) 82) 83) 84) 85) 86) 87) 88) 89) 90) 91) 92) 93) 94) := cz_z hC16 (by decide)
  refine g_putR d_X10_init_136 fq_RX10_61 (Or.inr ⟨rfl, _, _, _, rfl, rfl⟩) rfl rfl (Or.inr ⟨_, rfl⟩) rfl rfl ?_
  refine g_aload_n d_X10_init_139 rfl ?_
  refine g_bipush (v := 7) d_X10_init_140 kB_7 ?_
  refine g_newa (N := 7) (k := 95) d_X10_init_142 rfl (Or.inl rfl) tw_74 (by decide) kN_7 (by decide) rfl rfl (by decide) ⟨rfl, rfl⟩ ⟨Nat.le_of_ble_eq_true rfl, Nat.le_of_ble_eq_true rfl⟩ ?_
  have hC18 : CF 78 I J (zI (zI (zI (zI (zI (zI (zI (zI (wI (zI (zI (zI (zI (zI (zI (zI (zI (zI I 79) 80) 81) 82) 83) 84) 85) 86) 87) 78 16 (-1 : Int32)) 88) 89) 90) 91) 92) 93) 94) 95) (zJ (zJ (zJ (zJ (zJ (zJ (zJ (zJ (zJ (zJ (zJ (zJ (zJ (zJ (zJ (zJ (zJ J 79) 80) 81) 82) 83) 84) 85) 86) 87) 88) 89) 90) 91) 92) 93) 94) 95) := cz_z hC17 (by decide)
  refine g_putR d_X10_init_144 fq_RX10_64 (Or.inr ⟨rfl, _, _, _, rfl, rfl⟩) rfl rfl (Or.inr ⟨_, rfl⟩) rfl rfl ?_
  refine g_aload_n d_X10_init_147 rfl ?_
  refine g_sipush (v := 128) d_X10_init_148 kS_128 ?_
  refine g_newa (N := 128) (k := 96) d_X10_init_151 rfl (Or.inr (Or.inl rfl)) tw_138 (by decide) kN_128 (by decide) rfl rfl (by decide) ⟨rfl, rfl⟩ ⟨Nat.le_of_ble_eq_true rfl, Nat.le_of_ble_eq_true rfl⟩ ?_
  have hC19 : CF 78 I J (zI (zI (zI (zI (zI (zI (zI (zI (zI (wI (zI (zI (zI (zI (zI (zI (zI (zI (zI I 79) 80) 81) 82) 83) 84) 85) 86) 87) 78 16 (-1 : Int32)) 88) 89) 90) 91) 92) 93) 94) 95) 96) (zJ (zJ (zJ (zJ (zJ (zJ (zJ (zJ (zJ (zJ (zJ (zJ (zJ (zJ (zJ (zJ (zJ (zJ J 79) 80) 81) 82) 83) 84) 85) 86) 87) 88) 89) 90) 91) 92) 93) 94) 95) 96) := cz_z hC18 (by decide)
  refine g_putR d_X10_init_153 fq_RX10_67 (Or.inr ⟨rfl, _, _, _, rfl, rfl⟩) rfl rfl (Or.inr ⟨_, rfl⟩) rfl rfl ?_
  refine g_aload_n d_X10_init_156 rfl ?_
  refine g_sipush (v := 896) d_X10_init_157 kS_896 ?_
  refine g_newa (N := 896) (k := 97) d_X10_init_160 rfl (Or.inl rfl) tw_74 (by decide) kN_896 (by decide) rfl rfl (by decide) ⟨rfl, rfl⟩ ⟨Nat.le_of_ble_eq_true rfl, Nat.le_of_ble_eq_true rfl⟩ ?_
  have hC20 : CF 78 I J (zI (zI (zI (zI (zI (zI (zI (zI (zI (zI (wI (zI (zI (zI (zI (zI (zI (zI (zI (zI I 79) 80) 81) 82) 83) 84) 85) 86) 87) 78 16 (-1 : Int32)) 88) 89) 90) 91) 92) 93) 94) 95) 96) 97) (zJ (zJ (zJ (zJ (zJ (zJ (zJ (zJ (zJ (zJ (zJ (zJ (zJ (zJ (zJ (zJ (zJ (zJ (zJ J 79) 80) 81) 82) 83) 84) 85) 86) 87) 88) 89) 90) 91) 92) 93) 94) 95) 96) 97) := cz_z hC19 (by decide)
  refine g_putR d_X10_init_162 fq_RX10_70 (Or.inr ⟨rfl, _, _, _, rfl, rfl⟩) rfl rfl (Or.inr ⟨_, rfl⟩) rfl rfl ?_
  refine g_aload_n d_X10_init_165 rfl ?_
  refine g_bipush (v := 7) d_X10_init_166 kB_7 ?_
  refine g_newa (N := 7) (k := 98) d_X10_init_168 rfl (Or.inl rfl) tw_74 (by decide) kN_7 (by decide) rfl rfl (by decide) ⟨rfl, rfl⟩ ⟨Nat.le_of_ble_eq_true rfl, Nat.le_of_ble_eq_true rfl⟩ ?_
  have hC21 : CF 78 I J (zI (zI (zI (zI (zI (zI (zI (zI (zI (zI (zI (wI (zI (zI (zI (zI (zI (zI (zI (zI (zI I 79) 80) 81) 82) 83) 84) 85) 86) 87) 78 16 (-1 : Int32)) 88) 89) 90) 91) 92) 93) 94) 95) 96) 97) 98) (zJ (zJ (zJ (zJ (zJ (zJ (zJ (zJ (zJ (zJ (zJ (zJ (zJ (zJ (zJ (zJ (zJ (zJ (zJ (zJ J 79) 80) 81) 82) 83) 84) 85) 86) 87) 88) 89) 90) 91) 92) 93) 94) 95) 96) 97) 98) := cz_z hC20 (by decide)
  refine g_putR d_X10_init_170 fq_RX10_73 (Or.inr ⟨rfl, _, _, _, rfl, rfl⟩) rfl rfl (Or.inr ⟨_, rfl⟩) rfl rfl ?_
  exact g_return d_X10_init_173 rfl rfl rfl ⟨rfl, hC21, rfl, by first | (intro b h1 h2 k; obtain (rfl | rfl | rfl | rfl | rfl | rfl | rfl | rfl | rfl | rfl | rfl | rfl | rfl | rfl | rfl | rfl | rfl | rfl | rfl | rfl) : b = 79 ∨ b = 80 ∨ b = 81 ∨ b = 82 ∨ b = 83 ∨ b = 84 ∨ b = 85 ∨ b = 86 ∨ b = 87 ∨ b = 88 ∨ b = 89 ∨ b = 90 ∨ b = 91 ∨ b = 92 ∨ b = 93 ∨ b = 94 ∨ b = 95 ∨ b = 96 ∨ b = 97 ∨ b = 98 := (by omega) <;> (constructor <;> simp [zI, zJ, wI])) | (intro k hk; simp [zI, wI, hk]) | (funext k; simp [zJ]) | (simp [zI, wI]), by first | (intro b h1 h2 k; obtain (rfl | rfl | rfl | rfl | rfl | rfl | rfl | rfl | rfl | rfl | rfl | rfl | rfl | rfl | rfl | rfl | rfl | rfl | rfl | rfl) : b = 79 ∨ b = 80 ∨ b = 81 ∨ b = 82 ∨ b = 83 ∨ b = 84 ∨ b = 85 ∨ b = 86 ∨ b = 87 ∨ b = 88 ∨ b = 89 ∨ b = 90 ∨ b = 91 ∨ b = 92 ∨ b = 93 ∨ b = 94 ∨ b = 95 ∨ b = 96 ∨ b = 97 ∨ b = 98 := (by omega) <;> (constructor <;> simp [zI, zJ, wI])) | (intro k hk; simp [zI, wI, hk]) | (funext k; simp [zJ]) | (simp [zI, wI]), by first | (intro b h1 h2 k; obtain (rfl | rfl | rfl | rfl | rfl | rfl | rfl | rfl | rfl | rfl | rfl | rfl | rfl | rfl | rfl | rfl | rfl | rfl | rfl | rfl) : b = 79 ∨ b = 80 ∨ b = 81 ∨ b = 82 ∨ b = 83 ∨ b = 84 ∨ b = 85 ∨ b = 86 ∨ b = 87 ∨ b = 88 ∨ b = 89 ∨ b = 90 ∨ b = 91 ∨ b = 92 ∨ b = 93 ∨ b = 94 ∨ b = 95 ∨ b = 96 ∨ b = 97 ∨ b = 98 := (by omega) <;> (constructor <;> simp [zI, zJ, wI])) | (intro k hk; simp [zI, wI, hk]) | (funext k; simp [zJ]) | (simp [zI, wI]), by first | (intro b h1 h2 k; obtain (rfl | rfl | rfl | rfl | rfl | rfl | rfl | rfl | rfl | rfl | rfl | rfl | rfl | rfl | rfl | rfl | rfl | rfl | rfl | rfl) : b = 79 ∨ b = 80 ∨ b = 81 ∨ b = 82 ∨ b = 83 ∨ b = 84 ∨ b = 85 ∨ b = 86 ∨ b = 87 ∨ b = 88 ∨ b = 89 ∨ b = 90 ∨ b = 91 ∨ b = 92 ∨ b = 93 ∨ b = 94 ∨ b = 95 ∨ b = 96 ∨ b = 97 ∨ b = 98 := (by omega) <;> (constructor <;> simp [zI, zJ, wI])) | (intro k hk; simp [zI, wI, hk]) | (funext k; simp [zJ]) | (simp [zI, wI])⟩
