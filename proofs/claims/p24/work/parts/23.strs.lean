theorem g_callT {y : Mr} {RQ : RQt} {nc ns pc pc1 : Nat} {L : List (Option Value)} {st : List Value} {S : Shp} {I : Iv} {J : Jv} {z : Mr} {idx n j : Nat} {Q : Post} (As : List Value) (hd : Dc (yc y) pc (.invokevirtual idx) 3 pc1) (cs : Cs y z n) (hlk : Lk (yn y).cls idx (yn z)) (hin : Cond.instanceMethod (yn z) ∈ TB) (hse : Cond.selects (yn z).cls (yn z) (yn z) ∈ TB) (hj : j < 14) (hcn : (yn z).cls = "java/lang/String")
    (hC : Ct z (.ref (2000000 + j) :: As) S I J Q) (hn : As.length = n) (hcat : (st.map fun v => v.category).sum ≤ 8) (hroom : nc + (yR z).cells ≤ (yR y).cells ∧ ns + (yR z).slots ≤ (yR y).slots) (k : ∀ r S' I' J', Q r S' I' J' → G y RQ (nc + (yR z).cells) (ns + (yR z).slots) pc1 L (r.toList ++ st) S' I' J') : G y RQ nc ns pc L (As.reverse ++ .ref (2000000 + j) :: st) S I J := by
  obtain ⟨hd, rfl⟩ := hd
  intro p l e s m args below meth c D ca ad H locs ls C R hl
  obtain ⟨hx, hb, hml, -, hown, hts, hnb, -, -, hK, hSt, hac, -⟩ := id C
  obtain ⟨hcode, hini, hdd, hR⟩ := cs
  have hM := hC l D ca ad hac
  have hpre : PreV s H (yn z).cls (ad (2000000 + j)) (va_Pc ((Value.ref (2000000 + j) :: As).map (rl ad)) (Bb D ca ad S I J)) (As.map (rl ad)) := by
    refine ⟨bb_blind, ?_, fun U hU hW => ⟨rfl, Bb.of C R hU hW⟩⟩
    rw [hcn]
    exact vk_recv (adK := fun i => ad (2000000 + i)) (i := j) hSt.2.1 hj R.2.2.2.1
  have hstk : (F0 m pc ls ((As.reverse ++ .ref (2000000 + j) :: st).map (rl ad))).stack = (As.map (rl ad)).reverse ++ .ref (ad (2000000 + j)) :: st.map (rl ad) := by
    show (As.reverse ++ .ref (2000000 + j) :: st).map (rl ad) = _
    rw [List.map_append, List.map_reverse]; rfl
  have hW8 : 2 * (F0 m pc ls ((As.reverse ++ .ref (2000000 + j) :: st).map (rl ad))).monitorRoom + ((st.map (rl ad)).map fun v => v.category).sum ≤ 8 := by
    rw [rl_cats]; show 2 * 0 + _ ≤ 8; omega
  rcases hlk with hlk | ⟨h, hlk⟩
  · exact after_call C R hl (va_runV ⟨hx, hb, hml, hown, hts⟩ hM ⟨callB_of n hts (good_TB hcode) rfl rfl rfl (hts _ hini) (hts _ hlk) hdd hR, hts _ hin, hts _ hse⟩ hpre rfl (by rw [List.length_map]; exact hn) hl.1 hstk hW8 hd hroom) k
  · exact after_call C R hl (va_runVN ⟨hx, hb, hml, hown, hts⟩ hM ⟨va_cnB n hts (good_TB hcode) rfl rfl rfl (hnb _ hlk) (hts _ hini) hdd hR, hts _ hin, hts _ hse⟩ hpre rfl (by rw [List.length_map]; exact hn) hl.1 hstk hW8 hd hroom) k

def sB (j : Nat) : List Int32 := (stS.map fun q => q.2.2).getD j []
theorem g_strV {y : Mr} {RQ : RQt} {nc ns pc pc1 : Nat} {L : List (Option Value)} {st : List Value} {S : Shp} {I : Iv} {J : Jv} {j : Nat} (hy : (yn y).cls = "java/lang/String") (hj : j < 14) (hd : Dc (yc y) pc (.getfield 9) 3 pc1) (hw : Cond.fieldLink "java/lang/String" 9 "java/lang/String" "value" "[B" ∈ TB) (kk : G y RQ nc ns pc1 L (.ref (3000000 + j) :: st) S I J) : G y RQ nc ns pc L (.ref (2000000 + j) :: st) S I J := by
  obtain ⟨hd, rfl⟩ := hd
  intro p l e s m args below meth c D ca ad H locs ls C R hl
  have kk := kk p l e s m args below meth c D ca ad H locs ls C R hl
  obtain ⟨hx, hb, -, -, hown, hts, hnb, -, -, hK, hSt, -, -⟩ := id C
  rw [hy] at hown
  exact vk_getf hx hb (hSt.2.1.1 j hj).2.2.1 R.2.2.2.1 hown (hts _ hw) (fun _ q => q) hd kk
theorem g_strC {y : Mr} {RQ : RQt} {nc ns pc pc1 : Nat} {L : List (Option Value)} {st : List Value} {S : Shp} {I : Iv} {J : Jv} {j : Nat} (hy : (yn y).cls = "java/lang/String") (hj : j < 14) (hd : Dc (yc y) pc (.getfield 15) 3 pc1) (hw : Cond.fieldLink "java/lang/String" 15 "java/lang/String" "coder" "B" ∈ TB) (kk : G y RQ nc ns pc1 L (.int 0 :: st) S I J) : G y RQ nc ns pc L (.ref (2000000 + j) :: st) S I J := by
  obtain ⟨hd, rfl⟩ := hd
  intro p l e s m args below meth c D ca ad H locs ls C R hl
  have kk := kk p l e s m args below meth c D ca ad H locs ls C R hl
  obtain ⟨hx, hb, -, -, hown, hts, hnb, -, -, hK, hSt, -, -⟩ := id C
  rw [hy] at hown
  exact vk_getf hx hb (hSt.2.1.1 j hj).2.1 R.2.2.2.1 hown (hts _ hw) (fun _ q => q) hd kk
theorem g_strK {y : Mr} {RQ : RQt} {nc ns pc pc1 : Nat} {L : List (Option Value)} {st : List Value} {S : Shp} {I : Iv} {J : Jv} (hy : (yn y).cls = "java/lang/String") (hd : Dc (yc y) pc (.getstatic 38) 3 pc1) (hw : Cond.fieldLink "java/lang/String" 38 "java/lang/String" "COMPACT_STRINGS" "Z" ∈ TB) (kk : G y RQ nc ns pc1 L (.int 1 :: st) S I J) : G y RQ nc ns pc L st S I J := by
  obtain ⟨hd, rfl⟩ := hd
  intro p l e s m args below meth c D ca ad H locs ls C R hl
  have kk := kk p l e s m args below meth c D ca ad H locs ls C R hl
  obtain ⟨hx, hb, -, -, hown, hts, hnb, -, -, hK, hSt, -, -⟩ := id C
  rw [hy] at hown
  exact va_gets hx hb hSt.2.2.2.1 R.2.2.2.1 hown (hts _ hw) (fun _ q => q) hd kk
theorem g_strF {y : Mr} {RQ : RQt} {nc ns pc pc1 : Nat} {L : List (Option Value)} {st : List Value} {S : Shp} {I : Iv} {J : Jv} (hy : (yn y).cls = "java/lang/String") (hd : Dc (yc y) pc (.getstatic 1053) 3 pc1) (hw : Cond.fieldLink "java/lang/String" 1053 "jdk/internal/util/Preconditions" "SIOOBE_FORMATTER" "Ljava/util/function/BiFunction;" ∈ TB) (kk : ∀ f : Value, f = .null ∨ f = .ref 4000000 → G y RQ nc ns pc1 L (f :: st) S I J) : G y RQ nc ns pc L st S I J := by
  obtain ⟨hd, rfl⟩ := hd
  intro p l e s m args below meth c D ca ad H locs ls C R hl
  have k1 := kk .null (Or.inl rfl) p l e s m args below meth c D ca ad H locs ls C R hl
  have k2 := kk (.ref 4000000) (Or.inr rfl) p l e s m args below meth c D ca ad H locs ls C R hl
  obtain ⟨hx, hb, -, -, hown, hts, hnb, -, -, hK, hSt, -, -⟩ := id C
  rw [hy] at hown
  rcases hSt.2.2.2.2 with h | h
  · exact va_gets hx hb h R.2.2.2.1 hown (hts _ hw) (fun _ q => q) hd k1
  · exact va_gets hx hb h R.2.2.2.1 hown (hts _ hw) (fun _ q => q) hd k2
theorem sB_len {j : Nat} : (stS.map fun q => q.2.2.length).getD j 0 = (sB j).length := by
  unfold sB
  simp only [List.getD_eq_getElem?_getD, List.getElem?_map]
  cases stS[j]? <;> rfl
theorem g_strL {y : Mr} {RQ : RQt} {nc ns pc pc1 : Nat} {L : List (Option Value)} {st : List Value} {S : Shp} {I : Iv} {J : Jv} {j : Nat} {v : Int32} (hj : j < 14) (hd : Dc (yc y) pc .arraylength 1 pc1) (hv : Int32.ofNat (sB j).length = v) (kk : G y RQ nc ns pc1 L (.int v :: st) S I J) : G y RQ nc ns pc L (.ref (3000000 + j) :: st) S I J := by
  obtain ⟨hd, rfl⟩ := hd
  intro p l e s m args below meth c D ca ad H locs ls C R hl
  have kk := kk p l e s m args below meth c D ca ad H locs ls C R hl
  have hT := (C.2.2.2.2.2.2.2.2.2.2.1.2.1.1 j hj).2.2.2
  rw [sB_len] at hT
  exact va_tlen C.1 C.2.1 hT R.2.2.2.1 hv hd kk
theorem g_strB {y : Mr} {RQ : RQt} {nc ns pc pc1 : Nat} {L : List (Option Value)} {st : List Value} {S : Shp} {I : Iv} {J : Jv} {j q : Nat} {i N : Int32} (hj : j < 14) (hd : Dc (yc y) pc .baload 1 pc1) (hN : N.toInt = ((sB j).length : Int)) (hi : 0 ≤ i ∧ i < N) (hq : i.toNatClampNeg = q) (kk : G y RQ nc ns pc1 L (.int ((sB j).getD q 0) :: st) S I J) : G y RQ nc ns pc L (.int i :: .ref (3000000 + j) :: st) S I J := by
  obtain ⟨hd, rfl⟩ := hd
  subst hq
  intro p l e s m args below meth c D ca ad H locs ls C R hl
  have kk := kk p l e s m args below meth c D ca ad H locs ls C R hl
  have hT := (C.2.2.2.2.2.2.2.2.2.2.1.2.1.1 j hj).2.2.2
  rw [sB_len] at hT
  exact va_tb C.1 C.2.1 hT R.2.2.2.1 (vin hN hi) rfl hd kk
theorem sB_n {j : Nat} (hj : j < 14) : (Int32.ofNat (sB j).length).toInt = ((sB j).length : Int) ∧ (sB j).length ≤ 5 ∧ 2 ≤ (sB j).length := by
  revert j
  decide
theorem sB_b {j : Nat} (hj : j < 14) (q : Nat) : (((sB j).getD q 0 &&& 255).toUInt32 % 65536).toInt32 = (sB j).getD q 0 ∧ narrow .char (.int ((sB j).getD q 0)) = .int ((sB j).getD q 0) := by
  have h5 := (sB_n hj).2.1
  by_cases hq : q < 5
  · clear h5
    revert j q
    decide
  · have : (sB j).getD q 0 = 0 := by rw [List.getD_eq_getElem?_getD, List.getElem?_eq_none (by omega)]; rfl
    rw [this]; decide
theorem sB_sh {j : Nat} (hj : j < 14) : Int32.ofNat (sB j).length >>> ((0 : Int32) &&& 31) = Int32.ofNat (sB j).length := by
  revert j
  decide
set_option maxRecDepth 100000 in
set_option maxHeartbeats 4000000 in
theorem ct_coder {j : Nat} (hj : j < 14) (S : Shp) (I : Iv) (J : Jv) : Ct m_J0_coder_7d493 [.ref (2000000 + j)] S I J (fun r S' I' J' => S' = S ∧ (I = I' ∧ J = J') ∧ r = some (.int 0)) := by
  refine ct_of 0 (by decide +kernel) rfl rfl ?_
  refine g_strK rfl d_J0_coder_7d493_0 (tb_at 464 (by decide +kernel) rfl) ?_
  refine g_if_eq d_J0_coder_7d493_3 (fun h => absurd h (by decide)) (fun h => ?_)
  refine g_aload_n d_J0_coder_7d493_6 rfl ?_
  refine g_strC rfl hj d_J0_coder_7d493_7 (tb_at 1635 (by decide +kernel) rfl) ?_
  refine g_goto d_J0_coder_7d493_10 ?_
  exact g_ireturn d_J0_coder_7d493_14 rfl rfl rfl rfl ⟨rfl, ⟨rfl, rfl⟩, rfl⟩
set_option maxRecDepth 100000 in
set_option maxHeartbeats 4000000 in
theorem ct_isLatin1 {j : Nat} (hj : j < 14) (S : Shp) (I : Iv) (J : Jv) : Ct m_J0_isLatin1_aae02 [.ref (2000000 + j)] S I J (fun r S' I' J' => S' = S ∧ (I = I' ∧ J = J') ∧ r = some (.int 1)) := by
  refine ct_of 0 (by decide +kernel) rfl rfl ?_
  refine g_strK rfl d_J0_isLatin1_aae02_0 (tb_at 464 (by decide +kernel) rfl) ?_
  refine g_if_eq d_J0_isLatin1_aae02_3 (fun h => absurd h (by decide)) (fun h => ?_)
  refine g_aload_n d_J0_isLatin1_aae02_6 rfl ?_
  refine g_strC rfl hj d_J0_isLatin1_aae02_7 (tb_at 1635 (by decide +kernel) rfl) ?_
  refine g_if_ne d_J0_isLatin1_aae02_10 (fun h => absurd rfl h) (fun h => ?_)
  refine g_iconst (v := 1) d_J0_isLatin1_aae02_13 kI_1 ?_
  refine g_goto d_J0_isLatin1_aae02_14 ?_
  exact g_ireturn d_J0_isLatin1_aae02_18 rfl rfl rfl rfl ⟨rfl, ⟨rfl, rfl⟩, rfl⟩
set_option maxRecDepth 100000 in
set_option maxHeartbeats 4000000 in
theorem ct_strlen {j : Nat} (hj : j < 14) (S : Shp) (I : Iv) (J : Jv) : Ct m_J0_length_8abf5 [.ref (2000000 + j)] S I J (fun r S' I' J' => S' = S ∧ (I = I' ∧ J = J') ∧ r = some (.int (Int32.ofNat (sB j).length))) := by
  refine ct_of 0 (by decide +kernel) rfl rfl ?_
  refine g_aload_n d_J0_length_8abf5_0 rfl ?_
  refine g_strV rfl hj d_J0_length_8abf5_1 (tb_at 1634 (by decide +kernel) rfl) ?_
  refine g_strL hj d_J0_length_8abf5_4 rfl ?_
  refine g_aload_n d_J0_length_8abf5_5 rfl ?_
  refine g_callT [] d_J0_length_8abf5_6 cs_J0_length_8abf5_J0_coder_7d493 lk_RJ0_335 im_J0_coder_7d493 se_J0_coder_7d493 hj rfl (ct_coder hj S I J) rfl (Nat.le_of_ble_eq_true rfl) ⟨Nat.zero_le _, Nat.zero_le _⟩ (fun r S1 I1 J1 q => ?_)
  obtain ⟨rfl, ⟨rfl, rfl⟩, rfl⟩ := q
  refine g_st (st' := [.int 0, .int (Int32.ofNat (sB j).length)]) rfl ?_
  refine g_ishr d_J0_length_8abf5_9 ?_
  rw [sB_sh hj]
  exact g_ireturn d_J0_length_8abf5_10 rfl rfl rfl rfl ⟨rfl, ⟨rfl, rfl⟩, rfl⟩
set_option maxRecDepth 100000 in
set_option maxHeartbeats 4000000 in
theorem ct_chk3n (i n : Int32) (hi : 0 ≤ i ∧ i < n) (S : Shp) (I : Iv) (J : Jv) : Ct m_J3_checkIndex_8e157 [.int i, .int n, .null] S I J (fun r S' I' J' => S' = S ∧ (I = I' ∧ J = J') ∧ r = some (.int i)) := by
  refine ct_of 0 (by decide +kernel) rfl rfl ?_
  refine g_iload_n d_J3_checkIndex_8e157_0 rfl ?_
  refine g_if_lt d_J3_checkIndex_8e157_1 (fun h => absurd hi.1 (Int32.not_le.mpr h)) (fun h => ?_)
  refine g_iload_n d_J3_checkIndex_8e157_4 rfl ?_
  refine g_iload_n d_J3_checkIndex_8e157_5 rfl ?_
  refine g_icmp_lt d_J3_checkIndex_8e157_6 (fun h => ?_) (fun h => absurd hi.2 h)
  refine g_iload_n d_J3_checkIndex_8e157_16 rfl ?_
  exact g_ireturn d_J3_checkIndex_8e157_17 rfl rfl rfl rfl ⟨rfl, ⟨rfl, rfl⟩, rfl⟩
set_option maxRecDepth 100000 in
set_option maxHeartbeats 4000000 in
theorem ct_chk3r (i n : Int32) (hi : 0 ≤ i ∧ i < n) (S : Shp) (I : Iv) (J : Jv) : Ct m_J3_checkIndex_8e157 [.int i, .int n, .ref 4000000] S I J (fun r S' I' J' => S' = S ∧ (I = I' ∧ J = J') ∧ r = some (.int i)) := by
  refine ct_of 0 (by decide +kernel) rfl rfl ?_
  refine g_iload_n d_J3_checkIndex_8e157_0 rfl ?_
  refine g_if_lt d_J3_checkIndex_8e157_1 (fun h => absurd hi.1 (Int32.not_le.mpr h)) (fun h => ?_)
  refine g_iload_n d_J3_checkIndex_8e157_4 rfl ?_
  refine g_iload_n d_J3_checkIndex_8e157_5 rfl ?_
  refine g_icmp_lt d_J3_checkIndex_8e157_6 (fun h => ?_) (fun h => absurd hi.2 h)
  refine g_iload_n d_J3_checkIndex_8e157_16 rfl ?_
  exact g_ireturn d_J3_checkIndex_8e157_17 rfl rfl rfl rfl ⟨rfl, ⟨rfl, rfl⟩, rfl⟩
set_option maxRecDepth 100000 in
set_option maxHeartbeats 4000000 in
theorem ct_chk (i n : Int32) (hi : 0 ≤ i ∧ i < n) (S : Shp) (I : Iv) (J : Jv) : Ct m_J0_checkIndex_df160 [.int i, .int n] S I J (fun r S' I' J' => S' = S ∧ (I = I' ∧ J = J') ∧ r = none) := by
  refine ct_of 0 (by decide +kernel) rfl rfl ?_
  refine g_iload_n d_J0_checkIndex_df160_0 rfl ?_
  refine g_iload_n d_J0_checkIndex_df160_1 rfl ?_
  refine g_strF rfl d_J0_checkIndex_df160_2 (tb_at 480 (by decide +kernel) rfl) (fun f hf => ?_)
  rcases hf with rfl | rfl
  · skip
    refine g_callS [.int i, .int n, .null] d_J0_checkIndex_df160_5 cs_J0_checkIndex_df160_J3_checkIndex_8e157 lk_RJ0_1059 im_J3_checkIndex_8e157 (ct_chk3n i n hi S I J) rfl (Nat.le_of_ble_eq_true rfl) ⟨Nat.zero_le _, Nat.zero_le _⟩ (fun r S1 I1 J1 q => ?_)
    obtain ⟨rfl, ⟨rfl, rfl⟩, rfl⟩ := q
    refine g_st (st' := [.int i]) rfl ?_
    refine g_pop d_J0_checkIndex_df160_8 rfl ?_
    exact g_return d_J0_checkIndex_df160_9 rfl rfl rfl ⟨rfl, ⟨rfl, rfl⟩, rfl⟩
  · skip
    refine g_callS [.int i, .int n, .ref 4000000] d_J0_checkIndex_df160_5 cs_J0_checkIndex_df160_J3_checkIndex_8e157 lk_RJ0_1059 im_J3_checkIndex_8e157 (ct_chk3r i n hi S I J) rfl (Nat.le_of_ble_eq_true rfl) ⟨Nat.zero_le _, Nat.zero_le _⟩ (fun r S1 I1 J1 q => ?_)
    obtain ⟨rfl, ⟨rfl, rfl⟩, rfl⟩ := q
    refine g_st (st' := [.int i]) rfl ?_
    refine g_pop d_J0_checkIndex_df160_8 rfl ?_
    exact g_return d_J0_checkIndex_df160_9 rfl rfl rfl ⟨rfl, ⟨rfl, rfl⟩, rfl⟩
set_option maxRecDepth 100000 in
set_option maxHeartbeats 4000000 in
theorem ct_chL {j : Nat} (hj : j < 14) (i : Int32) (hi : 0 ≤ i ∧ i < Int32.ofNat (sB j).length) (S : Shp) (I : Iv) (J : Jv) : Ct m_J1_charAt_3b067 [.ref (3000000 + j), .int i] S I J (fun r S' I' J' => S' = S ∧ (I = I' ∧ J = J') ∧ r = some (.int ((sB j).getD i.toNatClampNeg 0))) := by
  refine ct_of 0 (by decide +kernel) rfl rfl ?_
  refine g_iload_n d_J1_charAt_3b067_0 rfl ?_
  refine g_aload_n d_J1_charAt_3b067_1 rfl ?_
  refine g_strL hj d_J1_charAt_3b067_2 rfl ?_
  refine g_callS [.int i, .int (Int32.ofNat (sB j).length)] d_J1_charAt_3b067_3 cs_J1_charAt_3b067_J0_checkIndex_df160 lk_RJ1_9 im_J0_checkIndex_df160 (ct_chk i _ hi S I J) rfl (Nat.le_of_ble_eq_true rfl) ⟨Nat.zero_le _, Nat.zero_le _⟩ (fun r S1 I1 J1 q => ?_)
  obtain ⟨rfl, ⟨rfl, rfl⟩, rfl⟩ := q
  refine g_st (st' := []) rfl ?_
  refine g_aload_n d_J1_charAt_3b067_6 rfl ?_
  refine g_iload_n d_J1_charAt_3b067_7 rfl ?_
  refine g_strB hj d_J1_charAt_3b067_8 (sB_n hj).1 hi rfl ?_
  refine g_sipush (v := 255) d_J1_charAt_3b067_9 kS_255 ?_
  refine g_iand d_J1_charAt_3b067_12 ?_
  refine g_i2c d_J1_charAt_3b067_13 ?_
  rw [(sB_b hj _).1]
  exact g_ireturn d_J1_charAt_3b067_14 rfl rfl rfl (sB_b hj _).2 ⟨rfl, ⟨rfl, rfl⟩, rfl⟩
set_option maxRecDepth 100000 in
set_option maxHeartbeats 4000000 in
theorem ct_charAt {j : Nat} (hj : j < 14) (i : Int32) (hi : 0 ≤ i ∧ i < Int32.ofNat (sB j).length) (S : Shp) (I : Iv) (J : Jv) : Ct m_J0_charAt_5068e [.ref (2000000 + j), .int i] S I J (fun r S' I' J' => S' = S ∧ (I = I' ∧ J = J') ∧ r = some (.int ((sB j).getD i.toNatClampNeg 0))) := by
  refine ct_of 0 (by decide +kernel) rfl rfl ?_
  refine g_aload_n d_J0_charAt_5068e_0 rfl ?_
  refine g_callT [] d_J0_charAt_5068e_1 cs_J0_charAt_5068e_J0_isLatin1_aae02 lk_RJ0_492 im_J0_isLatin1_aae02 se_J0_isLatin1_aae02 hj rfl (ct_isLatin1 hj S I J) rfl (Nat.le_of_ble_eq_true rfl) ⟨Nat.zero_le _, Nat.zero_le _⟩ (fun r S1 I1 J1 q => ?_)
  obtain ⟨rfl, ⟨rfl, rfl⟩, rfl⟩ := q
  refine g_st (st' := [.int 1]) rfl ?_
  refine g_if_eq d_J0_charAt_5068e_4 (fun h => absurd h (by decide)) (fun h => ?_)
  refine g_aload_n d_J0_charAt_5068e_7 rfl ?_
  refine g_strV rfl hj d_J0_charAt_5068e_8 (tb_at 1634 (by decide +kernel) rfl) ?_
  refine g_iload_n d_J0_charAt_5068e_11 rfl ?_
  refine g_callS [.ref (3000000 + j), .int i] d_J0_charAt_5068e_12 cs_J0_charAt_5068e_J1_charAt_3b067 lk_RJ0_495 im_J1_charAt_3b067 (ct_chL hj i hi _ I J) rfl (Nat.le_of_ble_eq_true rfl) ⟨Nat.zero_le _, Nat.zero_le _⟩ (fun r S1 I1 J1 q => ?_)
  obtain ⟨rfl, ⟨rfl, rfl⟩, rfl⟩ := q
  refine g_st (st' := [.int ((sB j).getD i.toNatClampNeg 0)]) rfl ?_
  exact g_ireturn d_J0_charAt_5068e_15 rfl rfl rfl (sB_b hj _).2 ⟨rfl, ⟨rfl, rfl⟩, rfl⟩
theorem g_T0 {y : Mr} {RQ : RQt} {nc ns pc pc1 : Nat} {L : List (Option Value)} {st : List Value} {S : Shp} {I : Iv} {J : Jv} {z : Mr} {idx j : Nat}  {Q : Post} (hd : Dc (yc y) pc (.invokevirtual idx) 3 pc1) (cs : Cs y z 0) (hlk : Lk (yn y).cls idx (yn z)) (hin : Cond.instanceMethod (yn z) ∈ TB) (hse : Cond.selects (yn z).cls (yn z) (yn z) ∈ TB) (hj : j < 14) (hcn : (yn z).cls = "java/lang/String") (hcat : (st.map fun v => v.category).sum ≤ 8) (hz0 : (yR z).cells = 0 ∧ (yR z).slots = 0) (hroom : nc ≤ (yR y).cells ∧ ns ≤ (yR y).slots) (hC : Ct z (.ref (2000000 + j) :: []) S I J Q) (k : ∀ r S' I' J', Q r S' I' J' → G y RQ nc ns pc1 L (r.toList ++ st) S' I' J') : G y RQ nc ns pc L (.ref (2000000 + j) :: st) S I J :=
  g_callT [] hd cs hlk hin hse hj hcn hC rfl hcat (by rw [hz0.1, hz0.2]; exact hroom) (by rw [hz0.1, hz0.2]; exact k)
theorem g_T1 {y : Mr} {RQ : RQt} {nc ns pc pc1 : Nat} {L : List (Option Value)} {st : List Value} {S : Shp} {I : Iv} {J : Jv} {z : Mr} {idx j : Nat} {x1 : Value} {Q : Post} (hd : Dc (yc y) pc (.invokevirtual idx) 3 pc1) (cs : Cs y z 1) (hlk : Lk (yn y).cls idx (yn z)) (hin : Cond.instanceMethod (yn z) ∈ TB) (hse : Cond.selects (yn z).cls (yn z) (yn z) ∈ TB) (hj : j < 14) (hcn : (yn z).cls = "java/lang/String") (hcat : (st.map fun v => v.category).sum ≤ 8) (hz0 : (yR z).cells = 0 ∧ (yR z).slots = 0) (hroom : nc ≤ (yR y).cells ∧ ns ≤ (yR y).slots) (hC : Ct z (.ref (2000000 + j) :: [x1]) S I J Q) (k : ∀ r S' I' J', Q r S' I' J' → G y RQ nc ns pc1 L (r.toList ++ st) S' I' J') : G y RQ nc ns pc L (x1 :: .ref (2000000 + j) :: st) S I J :=
  g_callT [x1] hd cs hlk hin hse hj hcn hC rfl hcat (by rw [hz0.1, hz0.2]; exact hroom) (by rw [hz0.1, hz0.2]; exact k)
