theorem nar_c (w : UInt32) : narrow .char (.int (w % 65536).toInt32) = .int (w % 65536).toInt32 := by
  have e : ((w % 65536).toInt32.toUInt32.toUInt16.toUInt32) = w % 65536 := by
    rw [UInt32.toUInt32_toInt32]
    apply UInt32.toNat_inj.mp
    simp
  show Value.int ((w % 65536).toInt32.toUInt32.toUInt16.toUInt32).toInt32 = _
  rw [e]
theorem fit_c (w : UInt32) : fits .char (.int (w % 65536).toInt32) = true := by
  have e : (w % 65536).toInt32.toInt = ((w.toNat % 65536 : Nat) : Int) := by
    have h : (w % 65536).toNat = w.toNat % 65536 := by simp
    rw [← Int32.toInt_toBitVec, UInt32.toBitVec_toInt32, BitVec.toInt_eq_toNat_of_lt]
    · rw [UInt32.toNat_toBitVec, h]
    · rw [UInt32.toNat_toBitVec, h]; omega
  show ((decide (0 ≤ (w % 65536).toInt32)) && (decide ((w % 65536).toInt32 ≤ 65535))) = true
  have h1 : 0 ≤ (w % 65536).toInt32 := by rw [Int32.le_iff_toInt_le, e]; simp; omega
  have h2 : (w % 65536).toInt32 ≤ 65535 := by
    rw [Int32.le_iff_toInt_le, e]
    have : (65535 : Int32).toInt = 65535 := by decide
    rw [this]; omega
  simp [h1, h2]
theorem rd_wI {I : Iv} {a k : Nat} {v : Int32} (h : RDI I) (hn : ¬ (a = 1 ∧ (k = 1 ∨ k = 2 ∨ k = 5))) : RDI (wI I a k v) ∧ (wI I a k v) 1 2 = I 1 2 := by
  have e1 : wI I a k v 1 1 = I 1 1 := wI_ne (by omega)
  have e2 : wI I a k v 1 2 = I 1 2 := wI_ne (by omega)
  have e5 : wI I a k v 1 5 = I 1 5 := wI_ne (by omega)
  unfold RDI at *
  rw [e1, e2, e5]
  exact ⟨h, rfl⟩
theorem rd_row {I I' : Iv} (h : RDI I) (hr : I' 1 = I 1) : RDI I' ∧ I' 1 2 = I 1 2 := by
  unfold RDI at *
  rw [hr]; exact ⟨h, rfl⟩
theorem rd_at {I : Iv} (h : RDI I) (g : ¬ I 1 1 ≤ I 1 2) : RDI (wI I 1 2 (I 1 2 + 1)) ∧ I 1 2 ≤ (wI I 1 2 (I 1 2 + 1)) 1 2 := by
  have e1 : wI I 1 2 (I 1 2 + 1) 1 1 = I 1 1 := wI_ne (by omega)
  have e2 : wI I 1 2 (I 1 2 + 1) 1 2 = I 1 2 + 1 := wI_self
  have e5 : wI I 1 2 (I 1 2 + 1) 1 5 = I 1 5 := wI_ne (by omega)
  unfold RDI at *
  rw [e1, e2, e5]
  grind
theorem rd_cl {I : Iv} (h : RDI I) (g : I 1 5 < I 1 2) : RDI (wI I 1 5 (I 1 5 + 1)) ∧ (wI I 1 5 (I 1 5 + 1)) 1 2 = I 1 2 := by
  have e1 : wI I 1 5 (I 1 5 + 1) 1 1 = I 1 1 := wI_ne (by omega)
  have e5 : wI I 1 5 (I 1 5 + 1) 1 5 = I 1 5 + 1 := wI_self
  have e2 : wI I 1 5 (I 1 5 + 1) 1 2 = I 1 2 := wI_ne (by omega)
  unfold RDI at *
  rw [e1, e2, e5]
  grind
theorem rd_step {I : Iv} (h : ¬ I 1 1 ≤ I 1 2) : mU (wI I 1 2 (I 1 2 + 1) 1 1) (wI I 1 2 (I 1 2 + 1) 1 2) < mU (I 1 1) (I 1 2) := by
  have e1 : wI I 1 2 (I 1 2 + 1) 1 1 = I 1 1 := wI_ne (by omega)
  have e2 : wI I 1 2 (I 1 2 + 1) 1 2 = I 1 2 + 1 := wI_self
  rw [e1, e2]; exact mu_up h
theorem wI_own {I : Iv} {a k : Nat} : wI I a k (I a k) = I := by
  funext b j; simp only [wI]; split
  · next h => rw [h.1, h.2]
  · rfl
theorem wI_two {I : Iv} {a k : Nat} {v w : Int32} : wI (wI I a k v) a k w = wI I a k w := by
  funext b j; simp only [wI]; split <;> rfl
theorem xt_app {I I' : Iv} {J J' : Jv} {v c : Int32} (h : XT I' J' = XT (wI I 1 1 c) J) : XT (wI I' 1 1 v) J' = XT (wI I 1 1 v) J := by
  have := xt_cong (a := 1) (k := 1) (v := v) h
  rwa [wI_two] at this
theorem ct_J0_length_8abf5 {j : Nat} (hj : j < 14) (I : Iv) (J : Jv) : Ct m_J0_length_8abf5 [.ref (2000000 + j)] SHF I J (fun r S' I' J' => S' = SHF ∧ I = I' ∧ J = J' ∧ ∃ v : Int32, r = some (.int v) ∧ v = Int32.ofNat (sB j).length) :=
  (ct_strlen hj SHF I J).mono fun r S' I' J' h => ⟨h.1, h.2.1.1, h.2.1.2, _, h.2.2, rfl⟩
theorem ct_J0_charAt_5068e {j : Nat} (hj : j < 14) (i : Int32) (hi : 0 ≤ i ∧ i < Int32.ofNat (sB j).length) (I : Iv) (J : Jv) : Ct m_J0_charAt_5068e [.ref (2000000 + j), .int i] SHF I J (fun r S' I' J' => S' = SHF ∧ I = I' ∧ J = J' ∧ ∃ v : Int32, r = some (.int v) ∧ v = (sB j).getD i.toNatClampNeg 0) :=
  (ct_charAt hj i hi SHF I J).mono fun r S' I' J' h => ⟨h.1, h.2.1.1, h.2.1.2, _, h.2.2, rfl⟩
theorem xt_xn {I I' : Iv} {J J' : Jv} (h : XT I' J' = XT I J) : XN I' J' = XN I J := congrArg Prod.snd h
theorem xt_tk {I I' : Iv} {J J' : Jv} (h : XT I' J' = XT I J) : I' 24 0 = I 24 0 := congrArg Prod.fst h
def kp (I : Iv) (i : Int32) : Iv := wI (wI (wI I (iA i) 8 (I 16 8)) (iA i) 12 (I 16 12)) (iA i + 8) 0 (I 24 0)
def gb (I : Iv) (i : Int32) : Iv := wI (wI (wI I 16 8 (I (iA i) 8)) 16 12 (I (iA i) 12)) 24 0 (I (iA i + 8) 0)
theorem xt_keep {i : Int32} {I I' : Iv} {J J' : Jv} (h : ∀ b, (b < iA i ∨ iA i + 8 < b) → I' b = I b ∧ J' b = J b) (r : I' (iA i) 8 = I 16 8 ∧ I' (iA i) 12 = I 16 12 ∧ I' (iA i + 8) 0 = I (16 + 8) 0) : XT I' J' = XT (kp I i) J := by
  unfold kp iA at *
  split at h
  · next e => rw [if_pos e] at *; exact xt_copy25 h r.1 r.2.1 r.2.2
  · next e => rw [if_neg e] at *; exact xt_copy34 h r.1 r.2.1 r.2.2
theorem xt_back {i : Int32} {I I' : Iv} {J J' : Jv} (h : ∀ b, (b < 16 ∨ 16 + 8 < b) → I' b = I b ∧ J' b = J b) (r : I' 16 8 = I (iA i) 8 ∧ I' 16 12 = I (iA i) 12 ∧ I' (16 + 8) 0 = I (iA i + 8) 0) : XT I' J' = XT (gb I i) J := xt_copy16 h r.1 r.2.1 r.2.2
theorem kp_cong {i : Int32} {I I' : Iv} {J J' : Jv} (h : XT I' J' = XT I J) : XT (kp I' i) J' = XT (kp I i) J := by
  have e1 : I' 16 8 = I 16 8 := by
    have := congrArg (fun q => q.2.2.2.2.2.2.2.1) h; exact this
  have e2 : I' 16 12 = I 16 12 := by
    have := congrArg (fun q => q.2.2.2.2.2.2.2.2.1) h; exact this
  unfold kp
  rw [e1, e2, xt_tk h]
  exact xt_cong (xt_cong (xt_cong h))
theorem rI_own {I : Iv} {a : Nat} : rI I a (I a) = I := by
  funext b; simp only [rI]; split
  · next q => rw [q]
  · rfl
theorem xt_forg {k : Nat} {v : Int32} {I I' : Iv} {J J' : Jv} (h : XT I' J' = XT (rI I 58 (I' 58)) J) : XT (wI I' 58 k v) J' = XT (rI I 58 (wI I' 58 k v 58)) J := by
  have q := xt_cong (a := 58) (k := k) (v := v) h
  have e : wI (rI I 58 (I' 58)) 58 k v = rI I 58 (wI I' 58 k v 58) := by
    funext b j; simp only [wI, rI]
    by_cases z : b = 58
    · subst z; simp [wI]
    · simp [z]
  rw [e] at q; exact q
