set_option maxRecDepth 100000 in
set_option maxHeartbeats 4000000 in
theorem law_0 {L0 : Nat} {xs : Nat → Int32} {i : Int32} {c nc ns : Nat} {I : Iv} {J : Jv} (hroom : nc ≤ room_1.cells ∧ ns ≤ room_1.slots) (hL : L0 ≤ 3072) (hi0 : 0 ≤ i) (hi6 : i.toInt + 6 ≤ (L0 : Int)) (hc : c ≤ 600) (h : LI c I J) (hcp : CP I) (hcq : CQx c I J) (hcs : CS I) (ih : ∀ (I2 : Iv) (J2 : Jv), LI (c + 1) I2 J2 → CP I2 → CQx (c + 1) I2 J2 → CS I2 → G m_L_law (RQL L0 xs) nc ns 1565 [some (.ref 5000000), some (.ref 0), some (.ref 78), some (.int i)] [] SHF I2 J2) : G m_L_law (RQL L0 xs) nc ns 228 [some (.ref 5000000), some (.ref 0), some (.ref 78), some (.int i)] [] SHF I J := by
  refine g_aload_n d_L_law_228 rfl ?_
  refine g_aload_n d_L_law_229 rfl ?_
  refine g_iload_n d_L_law_230 rfl ?_
  refine g_iconst (v := 1) d_L_law_231 kI_1 ?_
  refine g_iadd d_L_law_232 ?_
  refine g_sld d_L_law_233 (li_ix hi0 hi6 hL (by decide)) ?_
  refine g_topI (fun x1 ex1 => ?_)
  refine g_aload_n d_L_law_234 rfl ?_
  refine g_iload_n d_L_law_235 rfl ?_
  refine g_iconst (v := 2) d_L_law_236 kI_2 ?_
  refine g_iadd d_L_law_237 ?_
  refine g_sld d_L_law_238 (li_ix hi0 hi6 hL (by decide)) ?_
  refine g_topI (fun x2 ex2 => ?_)
  refine g_i2l d_L_law_239 ?_
  refine g_bipush (v := 32) d_L_law_240 kB_32 ?_
  refine g_lshl d_L_law_242 ?_
  refine g_aload_n d_L_law_243 rfl ?_
  refine g_iload_n d_L_law_244 rfl ?_
  refine g_iconst (v := 3) d_L_law_245 kI_3 ?_
  refine g_iadd d_L_law_246 ?_
  refine g_sld d_L_law_247 (li_ix hi0 hi6 hL (by decide)) ?_
  refine g_topI (fun x3 ex3 => ?_)
  refine g_i2l d_L_law_248 ?_
  refine g_ldc2 (v := 4294967295) d_L_law_249 tw_1633 ?_
  refine g_land d_L_law_252 ?_
  refine g_lor d_L_law_253 ?_
  refine g_topJ (fun z4 ez4 => ?_)
  refine g_V2 d_L_law_254 cs_L_law_X9_feed lk_RL_15 im_X9_feed se_X9_feed (o := 0) rfl rfl rfl (Nat.le_of_ble_eq_true rfl) ⟨rfl, rfl⟩ hroom (ct_X9_feed x1 z4 I J h.1.1.2.1) (fun r_ S_ I5 J6 q7 => ?_)
  obtain ⟨rfl, hc7, v8, rfl, hf8, hr7⟩ := q7
  refine g_st (st' := [.int v8]) rfl ?_
  have cs1 : CS I5 := by have q := fr3_fn_X9_feed x1 z4 I ki3_rfl J; rw [hf8] at q; have q4 := fr4_fn_X9_feed x1 z4 I kI4_rfl J; rw [hf8] at q4; exact cs_cls hcq hcs q q4
  have kt : LQ (c + 1) I5 J6 ∧ LIt c J6 := by
    rcases hr7 with ⟨g1, g2, g3, gv, hx⟩ | ⟨g1, g2, g3, gv, hx⟩ | ⟨g1, gv, hx⟩
    · exact ⟨lq_x hx (lq_len h.1.mono (by have q := h.1.1.2.1; constructor <;> grind)), lit_x hx h.1.2.1⟩
    · exact ⟨lq_x hx (h.1.mono), lit_x hx h.1.2.1⟩
    · exact ⟨lq_x hx (h.1.mono), lit_x hx h.1.2.1⟩
  obtain ⟨k1, t1⟩ := kt
  refine g_pop d_L_law_257 rfl ?_
  refine g_aload_n d_L_law_258 rfl ?_
  refine g_aload_n d_L_law_259 rfl ?_
  refine g_iload_n d_L_law_260 rfl ?_
  refine g_iconst (v := 1) d_L_law_261 kI_1 ?_
  refine g_iadd d_L_law_262 ?_
  refine g_sld d_L_law_263 (li_ix hi0 hi6 hL (by decide)) ?_
  rw [← ex1]
  refine g_aload_n d_L_law_264 rfl ?_
  refine g_iload_n d_L_law_265 rfl ?_
  refine g_iconst (v := 2) d_L_law_266 kI_2 ?_
  refine g_iadd d_L_law_267 ?_
  refine g_sld d_L_law_268 (li_ix hi0 hi6 hL (by decide)) ?_
  rw [← ex2]
  refine g_i2l d_L_law_269 ?_
  refine g_bipush (v := 32) d_L_law_270 kB_32 ?_
  refine g_lshl d_L_law_272 ?_
  refine g_aload_n d_L_law_273 rfl ?_
  refine g_iload_n d_L_law_274 rfl ?_
  refine g_iconst (v := 3) d_L_law_275 kI_3 ?_
  refine g_iadd d_L_law_276 ?_
  refine g_sld d_L_law_277 (li_ix hi0 hi6 hL (by decide)) ?_
  rw [← ex3]
  refine g_i2l d_L_law_278 ?_
  refine g_ldc2 (v := 4294967295) d_L_law_279 tw_1633 ?_
  refine g_land d_L_law_282 ?_
  refine g_lor d_L_law_283 ?_
  rw [← ez4]
  refine g_V2 d_L_law_284 cs_L_law_X10_feed lk_RL_19 im_X10_feed se_X10_feed (o := 78) rfl rfl rfl (Nat.le_of_ble_eq_true rfl) ⟨rfl, rfl⟩ hroom (ct_X10_feed x1 z4 I5 J6 k1.2.2.1 k1.2.2.2) (fun r_ S_ I12 J13 q14 => ?_)
  obtain ⟨rfl, hc14, v15, rfl, hf15, hr14⟩ := q14
  refine g_st (st' := [.int v15]) rfl ?_
  obtain ⟨ceq, cp2⟩ := cp_feed hcp hf8 hf15
  have cq2 := cq_feed hcp hcq hf8 hf15
  have cs2 : CS I12 := by have q := fr5_fn_X10_feed x1 z4 I5 kI5_rfl J6; rw [hf15] at q; exact cs_rn cs1 q
  have kk : LI (c + 1) I12 J13 := by
    rcases hr7 with ⟨g1, g2, g3, gv, hx⟩ | ⟨g1, g2, g3, gv, hx⟩ | ⟨g1, gv, hx⟩
    · skip
      have hsz : I5 78 11 = I 1 1 := by rw [(xt_lo hx (hi_w (by omega))).1 78 (by omega)]; exact (bg_11 (I := I)).symm.trans h.2.1.2.symm
      obtain ⟨hq, hj⟩ := hr14
      rcases hq with ⟨m1, mv, hi⟩ | ⟨m1, m2, m3, mv, hi⟩ | ⟨m1, m2, m3, mv, hi⟩
      · skip
        exact absurd (show False by exact m1 ⟨g1, g2⟩) id
      · skip
        exact absurd (show False by exact m3 (by rw [hsz]; exact (feed_a h.1.1.2.1 g1 g2).mp g3)) id
      · skip
        have ux := xt_lo hx (hi_w (by omega))
        exact li_fin hx hi hj (lo_w (by omega)) k1.1 k1.2.1 (by rw [bgI_w (by omega), bgJ_w (by omega), hsz]; exact ((rl_hi (wI_hi (bgI_hi ux.1)) (bgJ_hi ux.1 ux.2) (rl_len h.2))))
    · skip
      have hsz : I5 78 11 = I 1 1 := by rw [(xt_lo hx (fun _ _ => rfl)).1 78 (by omega)]; exact (bg_11 (I := I)).symm.trans h.2.1.2.symm
      obtain ⟨hq, hj⟩ := hr14
      rcases hq with ⟨m1, mv, hi⟩ | ⟨m1, m2, m3, mv, hi⟩ | ⟨m1, m2, m3, mv, hi⟩
      · skip
        exact absurd (show False by exact m1 ⟨g1, g2⟩) id
      · skip
        have ux := xt_lo hx (fun _ _ => rfl)
        exact li_fin hx hi hj (fun _ _ => rfl) k1.1 k1.2.1 ((rl_up ux.1 ux.2 (h.2)))
      · skip
        exact absurd (show False by exact g3 ((feed_a h.1.1.2.1 g1 g2).mpr (by rw [hsz] at m3; exact m3))) id
    · skip
      have hsz : I5 78 11 = I 1 1 := by rw [(xt_lo hx (fun _ _ => rfl)).1 78 (by omega)]; exact (bg_11 (I := I)).symm.trans h.2.1.2.symm
      obtain ⟨hq, hj⟩ := hr14
      rcases hq with ⟨m1, mv, hi⟩ | ⟨m1, m2, m3, mv, hi⟩ | ⟨m1, m2, m3, mv, hi⟩
      · skip
        have ux := xt_lo hx (fun _ _ => rfl)
        exact li_fin hx hi hj (fun _ _ => rfl) k1.1 k1.2.1 ((rl_up ux.1 ux.2 (h.2)))
      · skip
        exact absurd (show False by exact g1 ⟨m1, m2⟩) id
      · skip
        exact absurd (show False by exact g1 ⟨m1, m2⟩) id
  have k2 := kk
  refine g_pop d_L_law_287 rfl ?_
  refine g_goto d_L_law_288 ?_
  exact ih _ _ k2 cp2 cq2 cs2
set_option maxRecDepth 100000 in
set_option maxHeartbeats 4000000 in
theorem law_1 {L0 : Nat} {xs : Nat → Int32} {i : Int32} {c nc ns : Nat} {I : Iv} {J : Jv} (hroom : nc ≤ room_1.cells ∧ ns ≤ room_1.slots) (hL : L0 ≤ 3072) (hi0 : 0 ≤ i) (hi6 : i.toInt + 6 ≤ (L0 : Int)) (hc : c ≤ 600) (h : LI c I J) (hcp : CP I) (hcq : CQx c I J) (hcs : CS I) (ih : ∀ (I2 : Iv) (J2 : Jv), LI (c + 1) I2 J2 → CP I2 → CQx (c + 1) I2 J2 → CS I2 → G m_L_law (RQL L0 xs) nc ns 1565 [some (.ref 5000000), some (.ref 0), some (.ref 78), some (.int i)] [] SHF I2 J2) : G m_L_law (RQL L0 xs) nc ns 291 [some (.ref 5000000), some (.ref 0), some (.ref 78), some (.int i)] [] SHF I J := by
  refine g_aload_n d_L_law_291 rfl ?_
  refine g_V0 d_L_law_292 cs_L_law_X9_box lk_RL_20 im_X9_box se_X9_box (o := 0) rfl rfl rfl (Nat.le_of_ble_eq_true rfl) ⟨rfl, rfl⟩ hroom (ct_X9_box  I J h.1.1.2.1) (fun r_ S_ I1 J2 q3 => ?_)
  obtain ⟨rfl, hc3, v4, rfl, hf4, hr3⟩ := q3
  refine g_st (st' := [.int v4]) rfl ?_
  have kt : LQ (c + 1) I1 J2 ∧ LIt c J2 := by
    rcases hr3 with hx | hx
    · exact ⟨lq_x hx (lq_len h.1.mono (by decide)), lit_x hx h.1.2.1⟩
    · exact ⟨lq_x hx (lq_tick (lq_len h.1.mono (by decide)) tkb_0), lit_x hx h.1.2.1⟩
  obtain ⟨k1, t1⟩ := kt
  refine g_pop d_L_law_295 rfl ?_
  refine g_aload_n d_L_law_296 rfl ?_
  refine g_V0 d_L_law_297 cs_L_law_X10_box lk_RL_24 im_X10_box se_X10_box (o := 78) rfl rfl rfl (Nat.le_of_ble_eq_true rfl) ⟨rfl, rfl⟩ hroom (ct_X10_box  I1 J2 k1.2.2.1 k1.2.2.2) (fun r_ S_ I5 J6 q7 => ?_)
  obtain ⟨rfl, hc7, v8, rfl, hf8, hr7⟩ := q7
  refine g_st (st' := [.int v8]) rfl ?_
  obtain ⟨ceq, cp2⟩ := cp_box hcp hf4 hf8
  have cq2 := cq_box hcp hcq hf4 hf8
  have cs2 := cs_box hcp hcs hf4 hf8
  have kk : LI (c + 1) I5 J6 := by
    rcases hr3 with hx | hx
    · skip
      obtain ⟨hi, hj⟩ := hr7
      rcases hj with hj | hj
      · skip
        have ux := xt_lo hx (hi_w (by omega))
        exact li_fin hx hi hj (lo_bw (by omega)) k1.1 (lit_bg k1.2.1) (rl_bg (bg_nw (by omega)) ((rl_hi (wI_hi (bgI_hi ux.1)) (bgJ_hi ux.1 ux.2) (rl_len h.2))))
      · skip
        have ux := xt_lo hx (hi_w (by omega))
        exact li_fin hx hi hj (lo_bw (by omega)) k1.1 (lit_t (lit_bg k1.2.1) tkl_0) (rl_bg (bg_nw (by omega)) (rl_t54 (rl_hi (wI_hi (bgI_hi ux.1)) (bgJ_hi ux.1 ux.2) (rl_len h.2))))
    · skip
      obtain ⟨hi, hj⟩ := hr7
      rcases hj with hj | hj
      · skip
        have ux := xt_lo hx (hi_w2 (by omega))
        exact li_fin hx hi hj (lo_bw (by omega)) k1.1 (lit_bg k1.2.1) (rl_bg (bg_nw (by omega)) ((rl_hi (wI_hi (bgI_hi ux.1)) (bgJ_hi ux.1 ux.2) (rl_tick (rl_len h.2)))))
      · skip
        have ux := xt_lo hx (hi_w2 (by omega))
        exact li_fin hx hi hj (lo_bw (by omega)) k1.1 (lit_t (lit_bg k1.2.1) tkl_0) (rl_bg (bg_nw (by omega)) (rl_t54 (rl_hi (wI_hi (bgI_hi ux.1)) (bgJ_hi ux.1 ux.2) (rl_tick (rl_len h.2)))))
  have k2 := kk
  refine g_pop d_L_law_300 rfl ?_
  refine g_goto d_L_law_301 ?_
  exact ih _ _ k2 cp2 cq2 cs2
set_option maxRecDepth 100000 in
set_option maxHeartbeats 4000000 in
theorem law_2 {L0 : Nat} {xs : Nat → Int32} {i : Int32} {c nc ns : Nat} {I : Iv} {J : Jv} (hroom : nc ≤ room_1.cells ∧ ns ≤ room_1.slots) (hL : L0 ≤ 3072) (hi0 : 0 ≤ i) (hi6 : i.toInt + 6 ≤ (L0 : Int)) (hc : c ≤ 600) (h : LI c I J) (hcp : CP I) (hcq : CQx c I J) (hcs : CS I) (ih : ∀ (I2 : Iv) (J2 : Jv), LI (c + 1) I2 J2 → CP I2 → CQx (c + 1) I2 J2 → CS I2 → G m_L_law (RQL L0 xs) nc ns 1565 [some (.ref 5000000), some (.ref 0), some (.ref 78), some (.int i)] [] SHF I2 J2) : G m_L_law (RQL L0 xs) nc ns 304 [some (.ref 5000000), some (.ref 0), some (.ref 78), some (.int i)] [] SHF I J := by
  refine g_aload_n d_L_law_304 rfl ?_
  refine g_V0 d_L_law_305 cs_L_law_X9_day lk_RL_25 im_X9_day se_X9_day (o := 0) rfl rfl rfl (Nat.le_of_ble_eq_true rfl) ⟨rfl, rfl⟩ hroom (ct_X9_day  I J h.1.1.2.1) (fun r_ S_ I1 J2 q3 => ?_)
  obtain ⟨rfl, hc3, v4, rfl, hf4, hr3⟩ := q3
  refine g_st (st' := [.int v4]) rfl ?_
  have hx := hr3
  have k1 : LQ (c + 1) I1 J2 := lq_x hx (lq_len h.1.mono (by decide))
  have t1 : LIt c J2 := lit_x hx h.1.2.1
  refine g_pop d_L_law_308 rfl ?_
  refine g_aload_n d_L_law_309 rfl ?_
  refine g_V0 d_L_law_310 cs_L_law_X10_day lk_RL_28 im_X10_day se_X10_day (o := 78) rfl rfl rfl (Nat.le_of_ble_eq_true rfl) ⟨rfl, rfl⟩ hroom (ct_X10_day  I1 J2 k1.2.2.1 k1.2.2.2) (fun r_ S_ I5 J6 q7 => ?_)
  obtain ⟨rfl, hc7, v8, rfl, hf8, hr7⟩ := q7
  refine g_st (st' := [.int v8]) rfl ?_
  obtain ⟨ceq, cp2⟩ := cp_day hcp hf4 hf8
  have cq2 := cq_day hcp hcq hf4 hf8
  have cs2 := cs_day hcp hcs hf4 hf8
  have kk : LI (c + 1) I5 J6 := by
    obtain ⟨hi, hj⟩ := hr7
    have ux := xt_lo hx (hi_w (by omega))
    exact li_fin hx hi hj (lo_bw (by omega)) k1.1 (lit_bg k1.2.1) (rl_bg (bg_nw (by omega)) ((rl_hi (wI_hi (bgI_hi ux.1)) (bgJ_hi ux.1 ux.2) (rl_len h.2))))
  have k2 := kk
  refine g_pop d_L_law_313 rfl ?_
  refine g_goto d_L_law_314 ?_
  exact ih _ _ k2 cp2 cq2 cs2
set_option maxRecDepth 100000 in
set_option maxHeartbeats 4000000 in
theorem law_3 {L0 : Nat} {xs : Nat → Int32} {i : Int32} {c nc ns : Nat} {I : Iv} {J : Jv} (hroom : nc ≤ room_1.cells ∧ ns ≤ room_1.slots) (hL : L0 ≤ 3072) (hi0 : 0 ≤ i) (hi6 : i.toInt + 6 ≤ (L0 : Int)) (hc : c ≤ 600) (h : LI c I J) (hcp : CP I) (hcq : CQx c I J) (hcs : CS I) (ih : ∀ (I2 : Iv) (J2 : Jv), LI (c + 1) I2 J2 → CP I2 → CQx (c + 1) I2 J2 → CS I2 → G m_L_law (RQL L0 xs) nc ns 1565 [some (.ref 5000000), some (.ref 0), some (.ref 78), some (.int i)] [] SHF I2 J2) : G m_L_law (RQL L0 xs) nc ns 317 [some (.ref 5000000), some (.ref 0), some (.ref 78), some (.int i)] [] SHF I J := by
  refine g_aload_n d_L_law_317 rfl ?_
  refine g_V0 d_L_law_318 cs_L_law_X9_fault lk_RL_29 im_X9_fault se_X9_fault (o := 0) rfl rfl rfl (Nat.le_of_ble_eq_true rfl) ⟨rfl, rfl⟩ hroom (ct_X9_fault  I J ) (fun r_ S_ I1 J2 q3 => ?_)
  obtain ⟨rfl, rfl, rfl, v4, rfl, hf4⟩ := q3
  refine g_st (st' := [.int v4]) rfl ?_
  have cs1 : CS I := by have q := fr3_fn_X9_fault I ki3_rfl J; rw [hf4] at q; have q4 := fr4_fn_X9_fault I kI4_rfl J; rw [hf4] at q4; exact cs_cls hcq hcs q q4
  have hx : XT I J = XT I J := rfl
  have k1 : LQ (c + 1) I J := lq_x hx h.1.mono
  have t1 : LIt c J := lit_x hx h.1.2.1
  refine g_pop d_L_law_321 rfl ?_
  refine g_aload_n d_L_law_322 rfl ?_
  refine g_V0 d_L_law_323 cs_L_law_X10_fault lk_RL_32 im_X10_fault se_X10_fault (o := 78) rfl rfl rfl (Nat.le_of_ble_eq_true rfl) ⟨rfl, rfl⟩ hroom (ct_X10_fault  I J ) (fun r_ S_ I5 J6 q7 => ?_)
  obtain ⟨rfl, rfl, rfl, v8, rfl, hf8⟩ := q7
  refine g_st (st' := [.int v8]) rfl ?_
  obtain ⟨ceq, cp2⟩ := cp_fault hcp hf4 hf8
  have cq2 := cq_fault hcp hcq hf4 hf8
  have cs2 : CS I := by have q := fr5_fn_X10_fault  I kI5_rfl J; rw [hf8] at q; exact cs_rn cs1 q
  have kk : LI (c + 1) I J := by
    have ux := xt_lo hx (fun _ _ => rfl)
    exact ⟨⟨k1.1, k1.2⟩, rl_c hx (rl_up ux.1 ux.2 h.2)⟩
  have k2 := kk
  refine g_pop d_L_law_326 rfl ?_
  refine g_goto d_L_law_327 ?_
  exact ih _ _ k2 cp2 cq2 cs2
set_option maxRecDepth 100000 in
set_option maxHeartbeats 4000000 in
theorem law_4 {L0 : Nat} {xs : Nat → Int32} {i : Int32} {c nc ns : Nat} {I : Iv} {J : Jv} (hroom : nc ≤ room_1.cells ∧ ns ≤ room_1.slots) (hL : L0 ≤ 3072) (hi0 : 0 ≤ i) (hi6 : i.toInt + 6 ≤ (L0 : Int)) (hc : c ≤ 600) (h : LI c I J) (hcp : CP I) (hcq : CQx c I J) (hcs : CS I) (ih : ∀ (I2 : Iv) (J2 : Jv), LI (c + 1) I2 J2 → CP I2 → CQx (c + 1) I2 J2 → CS I2 → G m_L_law (RQL L0 xs) nc ns 1565 [some (.ref 5000000), some (.ref 0), some (.ref 78), some (.int i)] [] SHF I2 J2) : G m_L_law (RQL L0 xs) nc ns 330 [some (.ref 5000000), some (.ref 0), some (.ref 78), some (.int i)] [] SHF I J := by
  refine g_aload_n d_L_law_330 rfl ?_
  refine g_aload_n d_L_law_331 rfl ?_
  refine g_iload_n d_L_law_332 rfl ?_
  refine g_iconst (v := 1) d_L_law_333 kI_1 ?_
  refine g_iadd d_L_law_334 ?_
  refine g_sld d_L_law_335 (li_ix hi0 hi6 hL (by decide)) ?_
  refine g_topI (fun x1 ex1 => ?_)
  refine g_V1 d_L_law_336 cs_L_law_X9_told lk_RL_33 im_X9_told se_X9_told (o := 0) rfl rfl rfl (Nat.le_of_ble_eq_true rfl) ⟨rfl, rfl⟩ hroom (ct_X9_told x1 I J ) (fun r_ S_ I2 J3 q4 => ?_)
  obtain ⟨rfl, rfl, rfl, v5, rfl, hf5⟩ := q4
  refine g_st (st' := [.int v5]) rfl ?_
  have cs1 : CS I := by have q := fr3_fn_X9_told x1 I ki3_rfl J; rw [hf5] at q; have q4 := fr4_fn_X9_told x1 I kI4_rfl J; rw [hf5] at q4; exact cs_cls hcq hcs q q4
  have hx : XT I J = XT I J := rfl
  have k1 : LQ (c + 1) I J := lq_x hx h.1.mono
  have t1 : LIt c J := lit_x hx h.1.2.1
  refine g_pop d_L_law_339 rfl ?_
  refine g_aload_n d_L_law_340 rfl ?_
  refine g_aload_n d_L_law_341 rfl ?_
  refine g_iload_n d_L_law_342 rfl ?_
  refine g_iconst (v := 1) d_L_law_343 kI_1 ?_
  refine g_iadd d_L_law_344 ?_
  refine g_sld d_L_law_345 (li_ix hi0 hi6 hL (by decide)) ?_
  rw [← ex1]
  refine g_V1 d_L_law_346 cs_L_law_X10_told lk_RL_37 im_X10_told se_X10_told (o := 78) rfl rfl rfl (Nat.le_of_ble_eq_true rfl) ⟨rfl, rfl⟩ hroom (ct_X10_told x1 I J k1.2.2.1 k1.2.2.2) (fun r_ S_ I7 J8 q9 => ?_)
  obtain ⟨rfl, hc9, v10, rfl, hf10, hr9⟩ := q9
  refine g_st (st' := [.int v10]) rfl ?_
  obtain ⟨ceq, cp2⟩ := cp_told hcp hf5 hf10
  have cq2 := cq_told hcp hcq hf5 hf10
  have cs2 : CS I7 := by have q := fr5_fn_X10_told x1 I J kI5_rfl; rw [hf10] at q; exact cs_rb cs1 q
  have kk : LI (c + 1) I7 J8 := by
    have ux := xt_lo hx (fun _ _ => rfl)
    exact li_d hx k1 (rl_up ux.1 ux.2 h.2) hr9
  have k2 := kk
  refine g_pop d_L_law_349 rfl ?_
  refine g_goto d_L_law_350 ?_
  exact ih _ _ k2 cp2 cq2 cs2
set_option maxRecDepth 100000 in
set_option maxHeartbeats 4000000 in
theorem law_5 {L0 : Nat} {xs : Nat → Int32} {i : Int32} {c nc ns : Nat} {I : Iv} {J : Jv} (hroom : nc ≤ room_1.cells ∧ ns ≤ room_1.slots) (hL : L0 ≤ 3072) (hi0 : 0 ≤ i) (hi6 : i.toInt + 6 ≤ (L0 : Int)) (hc : c ≤ 600) (h : LI c I J) (hcp : CP I) (hcq : CQx c I J) (hcs : CS I) (ih : ∀ (I2 : Iv) (J2 : Jv), LI (c + 1) I2 J2 → CP I2 → CQx (c + 1) I2 J2 → CS I2 → G m_L_law (RQL L0 xs) nc ns 1565 [some (.ref 5000000), some (.ref 0), some (.ref 78), some (.int i)] [] SHF I2 J2) : G m_L_law (RQL L0 xs) nc ns 353 [some (.ref 5000000), some (.ref 0), some (.ref 78), some (.int i)] [] SHF I J := by
  refine g_aload_n d_L_law_353 rfl ?_
  refine g_aload_n d_L_law_354 rfl ?_
  refine g_iload_n d_L_law_355 rfl ?_
  refine g_iconst (v := 1) d_L_law_356 kI_1 ?_
  refine g_iadd d_L_law_357 ?_
  refine g_sld d_L_law_358 (li_ix hi0 hi6 hL (by decide)) ?_
  refine g_topI (fun x1 ex1 => ?_)
  refine g_aload_n d_L_law_359 rfl ?_
  refine g_iload_n d_L_law_360 rfl ?_
  refine g_iconst (v := 2) d_L_law_361 kI_2 ?_
  refine g_iadd d_L_law_362 ?_
  refine g_sld d_L_law_363 (li_ix hi0 hi6 hL (by decide)) ?_
  refine g_topI (fun x2 ex2 => ?_)
  refine g_V2 d_L_law_364 cs_L_law_X9_opening lk_RL_38 im_X9_opening se_X9_opening (o := 0) rfl rfl rfl (Nat.le_of_ble_eq_true rfl) ⟨rfl, rfl⟩ hroom (ct_X9_opening x1 x2 I J ) (fun r_ S_ I3 J4 q5 => ?_)
  obtain ⟨rfl, rfl, rfl, v6, rfl, hf6⟩ := q5
  refine g_st (st' := [.int v6]) rfl ?_
  have cs1 : CS I := by have q := fr3_fn_X9_opening x1 x2 I ki3_rfl J; rw [hf6] at q; have q4 := fr4_fn_X9_opening x1 x2 I kI4_rfl J; rw [hf6] at q4; exact cs_cls hcq hcs q q4
  have hx : XT I J = XT I J := rfl
  have k1 : LQ (c + 1) I J := lq_x hx h.1.mono
  have t1 : LIt c J := lit_x hx h.1.2.1
  refine g_pop d_L_law_367 rfl ?_
  refine g_aload_n d_L_law_368 rfl ?_
  refine g_aload_n d_L_law_369 rfl ?_
  refine g_iload_n d_L_law_370 rfl ?_
  refine g_iconst (v := 1) d_L_law_371 kI_1 ?_
  refine g_iadd d_L_law_372 ?_
  refine g_sld d_L_law_373 (li_ix hi0 hi6 hL (by decide)) ?_
  rw [← ex1]
  refine g_aload_n d_L_law_374 rfl ?_
  refine g_iload_n d_L_law_375 rfl ?_
  refine g_iconst (v := 2) d_L_law_376 kI_2 ?_
  refine g_iadd d_L_law_377 ?_
  refine g_sld d_L_law_378 (li_ix hi0 hi6 hL (by decide)) ?_
  rw [← ex2]
  refine g_V2 d_L_law_379 cs_L_law_X10_opening lk_RL_42 im_X10_opening se_X10_opening (o := 78) rfl rfl rfl (Nat.le_of_ble_eq_true rfl) ⟨rfl, rfl⟩ hroom (ct_X10_opening x1 x2 I J k1.2.2.1.2.1) (fun r_ S_ I9 J10 q11 => ?_)
  obtain ⟨rfl, rfl, rfl, v12, rfl, hf12⟩ := q11
  refine g_st (st' := [.int v12]) rfl ?_
  obtain ⟨ceq, cp2⟩ := cp_opening hcp hf6 hf12
  have cq2 := cq_opening hcp hcq hf6 hf12
  have cs2 : CS I := by have q := fr5_fn_X10_opening x1 x2 I kI5_rfl J; rw [hf12] at q; exact cs_rn cs1 q
  have kk : LI (c + 1) I J := by
    have ux := xt_lo hx (fun _ _ => rfl)
    exact ⟨⟨k1.1, k1.2⟩, rl_c hx (rl_up ux.1 ux.2 h.2)⟩
  have k2 := kk
  refine g_pop d_L_law_382 rfl ?_
  refine g_goto d_L_law_383 ?_
  exact ih _ _ k2 cp2 cq2 cs2
set_option maxRecDepth 100000 in
set_option maxHeartbeats 4000000 in
theorem law_6 {L0 : Nat} {xs : Nat → Int32} {i : Int32} {c nc ns : Nat} {I : Iv} {J : Jv} (hroom : nc ≤ room_1.cells ∧ ns ≤ room_1.slots) (hL : L0 ≤ 3072) (hi0 : 0 ≤ i) (hi6 : i.toInt + 6 ≤ (L0 : Int)) (hc : c ≤ 600) (h : LI c I J) (hcp : CP I) (hcq : CQx c I J) (hcs : CS I) (ih : ∀ (I2 : Iv) (J2 : Jv), LI (c + 1) I2 J2 → CP I2 → CQx (c + 1) I2 J2 → CS I2 → G m_L_law (RQL L0 xs) nc ns 1565 [some (.ref 5000000), some (.ref 0), some (.ref 78), some (.int i)] [] SHF I2 J2) : G m_L_law (RQL L0 xs) nc ns 386 [some (.ref 5000000), some (.ref 0), some (.ref 78), some (.int i)] [] SHF I J := by
  refine g_aload_n d_L_law_386 rfl ?_
  refine g_aload_n d_L_law_387 rfl ?_
  refine g_iload_n d_L_law_388 rfl ?_
  refine g_iconst (v := 1) d_L_law_389 kI_1 ?_
  refine g_iadd d_L_law_390 ?_
  refine g_sld d_L_law_391 (li_ix hi0 hi6 hL (by decide)) ?_
  refine g_topI (fun x1 ex1 => ?_)
  refine g_V1 d_L_law_392 cs_L_law_X9_trouble lk_RL_43 im_X9_trouble se_X9_trouble (o := 0) rfl rfl rfl (Nat.le_of_ble_eq_true rfl) ⟨rfl, rfl⟩ hroom (ct_X9_trouble x1 I J ) (fun r_ S_ I2 J3 q4 => ?_)
  obtain ⟨rfl, hc4, v5, rfl, hf5, hr4⟩ := q4
  refine g_st (st' := [.int v5]) rfl ?_
  have cp1 : CP I2 := by have q := fr_fn_X9_trouble x1 I ki_rfl J; rw [hf5] at q; exact cp_ki hcp q
  have cs1 : CS I2 := by have q := fr3_fn_X9_trouble x1 I ki3_rfl J; rw [hf5] at q; have q4 := fr4_fn_X9_trouble x1 I kI4_rfl J; rw [hf5] at q4; exact cs_cls hcq hcs q q4
  have kt : LQ (c + 1) I2 J3 ∧ LIt c J3 := by
    rcases hr4 with ⟨g1, g2, gv, hx⟩ | ⟨g1, gv, hx⟩
    · exact ⟨lq_x hx (lq_free h.1.mono (by omega) (by omega)), lit_x hx h.1.2.1⟩
    · exact ⟨lq_x hx (h.1.mono), lit_x hx h.1.2.1⟩
  obtain ⟨k1, t1⟩ := kt
  refine g_pop d_L_law_395 rfl ?_
  refine g_aload_n d_L_law_396 rfl ?_
  refine g_aload_n d_L_law_397 rfl ?_
  refine g_iload_n d_L_law_398 rfl ?_
  refine g_iconst (v := 1) d_L_law_399 kI_1 ?_
  refine g_iadd d_L_law_400 ?_
  refine g_sld d_L_law_401 (li_ix hi0 hi6 hL (by decide)) ?_
  rw [← ex1]
  refine g_V1 d_L_law_402 cs_L_law_X10_trouble lk_RL_46 im_X10_trouble se_X10_trouble (o := 78) rfl rfl rfl (Nat.le_of_ble_eq_true rfl) ⟨rfl, rfl⟩ hroom (ct_X10_trouble x1 I2 J3 k1.2.2.1 k1.2.2.2) (fun r_ S_ I7 J8 q9 => ?_)
  obtain ⟨rfl, hc9, v10, rfl, hf10, hr9⟩ := q9
  refine g_st (st' := [.int v10]) rfl ?_
  have cp2 : CP I7 := by have q := fr_fn_X10_trouble x1 I2 J3 ki_rfl; rw [hf10] at q; exact cp_ki (cp_beg J3 cp1) q
  obtain ⟨ceq, cq2⟩ := cq_trouble hcq hf5 hf10
  have cs2 : CS I7 := by have q := fr5_fn_X10_trouble x1 I2 J3 kI5_rfl; rw [hf10] at q; exact cs_rb cs1 q
  have kk : LI (c + 1) I7 J8 := by
    rcases hr4 with ⟨g1, g2, gv, hx⟩ | ⟨g1, gv, hx⟩
    · skip
      obtain ⟨hi, hq⟩ := hr9
      rcases hq with ⟨m1, mv, hj⟩ | ⟨m1, m2, mv, hj⟩
      · skip
        exact absurd (show False by grind) id
      · skip
        have ux := xt_lo hx (hi_w (by omega))
        exact li_fin hx hi hj lo_bg k1.1 (lit_w (lit_bg k1.2.1) (by omega)) (rl_bg bg_ne ((rl_hi (bgI_hi ux.1) (wJ_hi (bgJ_hi ux.1 ux.2)) (rl_trou h.2))))
    · skip
      obtain ⟨hi, hq⟩ := hr9
      rcases hq with ⟨m1, mv, hj⟩ | ⟨m1, m2, mv, hj⟩
      · skip
        have ux := xt_lo hx (fun _ _ => rfl)
        exact li_fin hx hi hj lo_bg k1.1 (lit_bg k1.2.1) (rl_bg bg_ne (rl_up ux.1 ux.2 (h.2)))
      · skip
        exact absurd (show False by grind) id
  have k2 := kk
  refine g_pop d_L_law_405 rfl ?_
  refine g_goto d_L_law_406 ?_
  exact ih _ _ k2 cp2 cq2 cs2
set_option maxRecDepth 100000 in
set_option maxHeartbeats 4000000 in
theorem law_7 {L0 : Nat} {xs : Nat → Int32} {i : Int32} {c nc ns : Nat} {I : Iv} {J : Jv} (hroom : nc ≤ room_1.cells ∧ ns ≤ room_1.slots) (hL : L0 ≤ 3072) (hi0 : 0 ≤ i) (hi6 : i.toInt + 6 ≤ (L0 : Int)) (hc : c ≤ 600) (h : LI c I J) (hcp : CP I) (hcq : CQx c I J) (hcs : CS I) (ih : ∀ (I2 : Iv) (J2 : Jv), LI (c + 1) I2 J2 → CP I2 → CQx (c + 1) I2 J2 → CS I2 → G m_L_law (RQL L0 xs) nc ns 1565 [some (.ref 5000000), some (.ref 0), some (.ref 78), some (.int i)] [] SHF I2 J2) : G m_L_law (RQL L0 xs) nc ns 409 [some (.ref 5000000), some (.ref 0), some (.ref 78), some (.int i)] [] SHF I J := by
  refine g_aload_n d_L_law_409 rfl ?_
  refine g_V0 d_L_law_410 cs_L_law_X9_fresh lk_RL_47 im_X9_fresh se_X9_fresh (o := 0) rfl rfl rfl (Nat.le_of_ble_eq_true rfl) ⟨rfl, rfl⟩ hroom (ct_X9_fresh  I J ) (fun r_ S_ I1 J2 q3 => ?_)
  obtain ⟨rfl, hc3, v4, rfl, hf4, hr3⟩ := q3
  refine g_st (st' := [.int v4]) rfl ?_
  have cp1 : CP I1 := by have q := fr_fn_X9_fresh I ki_rfl J; rw [hf4] at q; exact cp_ki hcp q
  have cs1 : CS I1 := by have q := fr3_fn_X9_fresh I ki3_rfl J; rw [hf4] at q; have q4 := fr4_fn_X9_fresh I kI4_rfl J; rw [hf4] at q4; exact cs_cls hcq hcs q q4
  obtain ⟨gv, hx⟩ := hr3
  have k1 : LQ (c + 1) I1 J2 := lq_x hx (lq_tick h.1.mono tkb_0)
  have t1 : LIt c J2 := lit_x hx h.1.2.1
  refine g_pop d_L_law_413 rfl ?_
  refine g_aload_n d_L_law_414 rfl ?_
  refine g_V0 d_L_law_415 cs_L_law_X10_fresh lk_RL_50 im_X10_fresh se_X10_fresh (o := 78) rfl rfl rfl (Nat.le_of_ble_eq_true rfl) ⟨rfl, rfl⟩ hroom (ct_X10_fresh  I1 J2 k1.2.2.1 k1.2.2.2) (fun r_ S_ I5 J6 q7 => ?_)
  obtain ⟨rfl, hc7, v8, rfl, hf8, hr7⟩ := q7
  refine g_st (st' := [.int v8]) rfl ?_
  have cp2 : CP I5 := by have q := fr_fn_X10_fresh  I1 J2 ki_rfl; rw [hf8] at q; exact cp_ki (cp_beg J2 cp1) q
  obtain ⟨ceq, cq2⟩ := cq_fresh hcq hf4 hf8
  have cs2 : CS I5 := by have q := fr5_fn_X10_fresh  I1 J2 kI5_rfl; rw [hf8] at q; exact cs_rb cs1 q
  have kk : LI (c + 1) I5 J6 := by
    obtain ⟨hi, hj⟩ := hr7
    have ux := xt_lo hx (hi_w (by omega))
    exact li_fin hx hi hj lo_bg k1.1 (lit_t (lit_bg k1.2.1) tkl_0) (rl_bg bg_ne (rl_t54 (rl_up ux.1 ux.2 (rl_tick h.2))))
  have k2 := kk
  refine g_pop d_L_law_418 rfl ?_
  refine g_goto d_L_law_419 ?_
  exact ih _ _ k2 cp2 cq2 cs2
set_option maxRecDepth 100000 in
set_option maxHeartbeats 4000000 in
theorem law_8 {L0 : Nat} {xs : Nat → Int32} {i : Int32} {c nc ns : Nat} {I : Iv} {J : Jv} (hroom : nc ≤ room_1.cells ∧ ns ≤ room_1.slots) (hL : L0 ≤ 3072) (hi0 : 0 ≤ i) (hi6 : i.toInt + 6 ≤ (L0 : Int)) (hc : c ≤ 600) (h : LI c I J) (hcp : CP I) (hcq : CQx c I J) (hcs : CS I) (ih : ∀ (I2 : Iv) (J2 : Jv), LI (c + 1) I2 J2 → CP I2 → CQx (c + 1) I2 J2 → CS I2 → G m_L_law (RQL L0 xs) nc ns 1565 [some (.ref 5000000), some (.ref 0), some (.ref 78), some (.int i)] [] SHF I2 J2) : G m_L_law (RQL L0 xs) nc ns 422 [some (.ref 5000000), some (.ref 0), some (.ref 78), some (.int i)] [] SHF I J := by
  refine g_aload_n d_L_law_422 rfl ?_
  refine g_aload_n d_L_law_423 rfl ?_
  refine g_iload_n d_L_law_424 rfl ?_
  refine g_iconst (v := 1) d_L_law_425 kI_1 ?_
  refine g_iadd d_L_law_426 ?_
  refine g_sld d_L_law_427 (li_ix hi0 hi6 hL (by decide)) ?_
  refine g_topI (fun x1 ex1 => ?_)
  refine g_if_eq d_L_law_428 (fun hb2 => ?_) (fun hb2 => ?_)
  · skip
    refine g_iconst (v := 0) d_L_law_435 kI_0 ?_
    refine g_V1 d_L_law_436 cs_L_law_X9_current lk_RL_51 im_X9_current se_X9_current (o := 0) rfl rfl rfl (Nat.le_of_ble_eq_true rfl) ⟨rfl, rfl⟩ hroom (ct_X9_current (0 : Int32) I J (by decide)) (fun r_ S_ I3 J4 q5 => ?_)
    obtain ⟨rfl, hc5, v6, rfl, hf6, hr5⟩ := q5
    refine g_st (st' := [.int v6]) rfl ?_
    have cp1 : CP I3 := by have q := fr_fn_X9_current (0 : Int32) I ki_rfl J; rw [hf6] at q; exact cp_ki hcp q
    have cs1 : CS I3 := by have q := fr3_fn_X9_current (0 : Int32) I ki3_rfl J; rw [hf6] at q; have q4 := fr4_fn_X9_current (0 : Int32) I kI4_rfl J; rw [hf6] at q4; exact cs_cls hcq hcs q q4
    obtain ⟨gv, hx⟩ := hr5
    have k1 : LQ (c + 1) I3 J4 := lq_x hx (lq_free h.1.mono (by omega) (by omega))
    have t1 : LIt c J4 := lit_x hx h.1.2.1
    refine g_pop d_L_law_439 rfl ?_
    refine g_aload_n d_L_law_440 rfl ?_
    refine g_aload_n d_L_law_441 rfl ?_
    refine g_iload_n d_L_law_442 rfl ?_
    refine g_iconst (v := 1) d_L_law_443 kI_1 ?_
    refine g_iadd d_L_law_444 ?_
    refine g_sld d_L_law_445 (li_ix hi0 hi6 hL (by decide)) ?_
    rw [← ex1]
    refine g_if_eq d_L_law_446 (fun hb8 => ?_) (fun hb8 => ?_)
    · skip
      refine g_iconst (v := 0) d_L_law_453 kI_0 ?_
      refine g_V1 d_L_law_454 cs_L_law_X10_current lk_RL_55 im_X10_current se_X10_current (o := 78) rfl rfl rfl (Nat.le_of_ble_eq_true rfl) ⟨rfl, rfl⟩ hroom (ct_X10_current (0 : Int32) I3 J4 k1.2.2.1 k1.2.2.2) (fun r_ S_ I9 J10 q11 => ?_)
      obtain ⟨rfl, hc11, v12, rfl, hf12, hr11⟩ := q11
      refine g_st (st' := [.int v12]) rfl ?_
      have cp2 : CP I9 := by have q := fr_fn_X10_current (0 : Int32) I3 J4 ki_rfl; rw [hf12] at q; exact cp_ki (cp_beg J4 cp1) q
      obtain ⟨ceq, cq2⟩ := cq_current (by decide) hcq hf6 hf12
      have cs2 : CS I9 := by have q := fr5_fn_X10_current (0 : Int32) I3 J4 kI5_rfl; rw [hf12] at q; exact cs_rb cs1 q
      have kk : LI (c + 1) I9 J10 := by
        obtain ⟨mv, hi, hj⟩ := hr11
        have ux := xt_lo hx (hi_w (by omega))
        exact li_fin hx hi hj lo_bg k1.1 (lit_w (lit_bg k1.2.1) (by omega)) (rl_bg bg_ne ((rl_hi (bgI_hi ux.1) (wJ_hi (bgJ_hi ux.1 ux.2)) (rl_cur0 h.2 (by decide)))))
      have k2 := kk
      refine g_pop d_L_law_457 rfl ?_
      refine g_goto d_L_law_458 ?_
      exact ih _ _ k2 cp2 cq2 cs2
    · skip
      exact absurd hb2 hb8
  · skip
    refine g_iconst (v := 1) d_L_law_431 kI_1 ?_
    refine g_goto d_L_law_432 ?_
    refine g_V1 d_L_law_436 cs_L_law_X9_current lk_RL_51 im_X9_current se_X9_current (o := 0) rfl rfl rfl (Nat.le_of_ble_eq_true rfl) ⟨rfl, rfl⟩ hroom (ct_X9_current (1 : Int32) I J (by decide)) (fun r_ S_ I13 J14 q15 => ?_)
    obtain ⟨rfl, hc15, v16, rfl, hf16, hr15⟩ := q15
    refine g_st (st' := [.int v16]) rfl ?_
    have cp1 : CP I13 := by have q := fr_fn_X9_current (1 : Int32) I ki_rfl J; rw [hf16] at q; exact cp_ki hcp q
    have cs1 : CS I13 := by have q := fr3_fn_X9_current (1 : Int32) I ki3_rfl J; rw [hf16] at q; have q4 := fr4_fn_X9_current (1 : Int32) I kI4_rfl J; rw [hf16] at q4; exact cs_cls hcq hcs q q4
    obtain ⟨gv, hx⟩ := hr15
    have k1 : LQ (c + 1) I13 J14 := lq_x hx (lq_free h.1.mono (by omega) (by omega))
    have t1 : LIt c J14 := lit_x hx h.1.2.1
    refine g_pop d_L_law_439 rfl ?_
    refine g_aload_n d_L_law_440 rfl ?_
    refine g_aload_n d_L_law_441 rfl ?_
    refine g_iload_n d_L_law_442 rfl ?_
    refine g_iconst (v := 1) d_L_law_443 kI_1 ?_
    refine g_iadd d_L_law_444 ?_
    refine g_sld d_L_law_445 (li_ix hi0 hi6 hL (by decide)) ?_
    rw [← ex1]
    refine g_if_eq d_L_law_446 (fun hb18 => ?_) (fun hb18 => ?_)
    · skip
      exact absurd hb18 hb2
    · skip
      refine g_iconst (v := 1) d_L_law_449 kI_1 ?_
      refine g_goto d_L_law_450 ?_
      refine g_V1 d_L_law_454 cs_L_law_X10_current lk_RL_55 im_X10_current se_X10_current (o := 78) rfl rfl rfl (Nat.le_of_ble_eq_true rfl) ⟨rfl, rfl⟩ hroom (ct_X10_current (1 : Int32) I13 J14 k1.2.2.1 k1.2.2.2) (fun r_ S_ I19 J20 q21 => ?_)
      obtain ⟨rfl, hc21, v22, rfl, hf22, hr21⟩ := q21
      refine g_st (st' := [.int v22]) rfl ?_
      have cp2 : CP I19 := by have q := fr_fn_X10_current (1 : Int32) I13 J14 ki_rfl; rw [hf22] at q; exact cp_ki (cp_beg J14 cp1) q
      obtain ⟨ceq, cq2⟩ := cq_current (by decide) hcq hf16 hf22
      have cs2 : CS I19 := by have q := fr5_fn_X10_current (1 : Int32) I13 J14 kI5_rfl; rw [hf22] at q; exact cs_rb cs1 q
      have kk : LI (c + 1) I19 J20 := by
        obtain ⟨mv, hi, hj⟩ := hr21
        have ux := xt_lo hx (hi_w (by omega))
        exact li_fin hx hi hj lo_bg k1.1 (lit_w (lit_bg k1.2.1) (by omega)) (rl_bg bg_ne ((rl_hi (bgI_hi ux.1) (wJ_hi (bgJ_hi ux.1 ux.2)) (rl_cur0 h.2 (by decide)))))
      have k2 := kk
      refine g_pop d_L_law_457 rfl ?_
      refine g_goto d_L_law_458 ?_
      exact ih _ _ k2 cp2 cq2 cs2
set_option maxRecDepth 100000 in
set_option maxHeartbeats 4000000 in
theorem law_9 {L0 : Nat} {xs : Nat → Int32} {i : Int32} {c nc ns : Nat} {I : Iv} {J : Jv} (hroom : nc ≤ room_1.cells ∧ ns ≤ room_1.slots) (hL : L0 ≤ 3072) (hi0 : 0 ≤ i) (hi6 : i.toInt + 6 ≤ (L0 : Int)) (hc : c ≤ 600) (h : LI c I J) (hcp : CP I) (hcq : CQx c I J) (hcs : CS I) (ih : ∀ (I2 : Iv) (J2 : Jv), LI (c + 1) I2 J2 → CP I2 → CQx (c + 1) I2 J2 → CS I2 → G m_L_law (RQL L0 xs) nc ns 1565 [some (.ref 5000000), some (.ref 0), some (.ref 78), some (.int i)] [] SHF I2 J2) : G m_L_law (RQL L0 xs) nc ns 461 [some (.ref 5000000), some (.ref 0), some (.ref 78), some (.int i)] [] SHF I J := by
  refine g_aload_n d_L_law_461 rfl ?_
  refine g_aload_n d_L_law_462 rfl ?_
  refine g_iload_n d_L_law_463 rfl ?_
  refine g_iconst (v := 1) d_L_law_464 kI_1 ?_
  refine g_iadd d_L_law_465 ?_
  refine g_sld d_L_law_466 (li_ix hi0 hi6 hL (by decide)) ?_
  refine g_topI (fun x1 ex1 => ?_)
  refine g_if_eq d_L_law_467 (fun hb2 => ?_) (fun hb2 => ?_)
  · skip
    refine g_iconst (v := 0) d_L_law_474 kI_0 ?_
    refine g_V1 d_L_law_475 cs_L_law_X9_cover lk_RL_56 im_X9_cover se_X9_cover (o := 0) rfl rfl rfl (Nat.le_of_ble_eq_true rfl) ⟨rfl, rfl⟩ hroom (ct_X9_cover (0 : Int32) I J (by decide)) (fun r_ S_ I3 J4 q5 => ?_)
    obtain ⟨rfl, hc5, v6, rfl, hf6⟩ := q5
    refine g_st (st' := [.int v6]) rfl ?_
    have cp1 : CP I3 := by have q := fr_fn_X9_cover (0 : Int32) I ki_rfl J; rw [hf6] at q; exact cp_ki hcp q
    have cs1 : CS I3 := by have q := fr3_fn_X9_cover (0 : Int32) I ki3_rfl J; rw [hf6] at q; have q4 := fr4_fn_X9_cover (0 : Int32) I kI4_rfl J; rw [hf6] at q4; exact cs_cls hcq hcs q q4
    have hx : XT I3 J4 = XT I J := hc5
    have k1 : LQ (c + 1) I3 J4 := lq_x hx h.1.mono
    have t1 : LIt c J4 := lit_x hx h.1.2.1
    refine g_pop d_L_law_478 rfl ?_
    refine g_aload_n d_L_law_479 rfl ?_
    refine g_aload_n d_L_law_480 rfl ?_
    refine g_iload_n d_L_law_481 rfl ?_
    refine g_iconst (v := 1) d_L_law_482 kI_1 ?_
    refine g_iadd d_L_law_483 ?_
    refine g_sld d_L_law_484 (li_ix hi0 hi6 hL (by decide)) ?_
    rw [← ex1]
    refine g_if_eq d_L_law_485 (fun hb8 => ?_) (fun hb8 => ?_)
    · skip
      refine g_iconst (v := 0) d_L_law_492 kI_0 ?_
      refine g_V1 d_L_law_493 cs_L_law_X10_cover lk_RL_59 im_X10_cover se_X10_cover (o := 78) rfl rfl rfl (Nat.le_of_ble_eq_true rfl) ⟨rfl, rfl⟩ hroom (ct_X10_cover (0 : Int32) I3 J4 k1.2.2.1 k1.2.2.2) (fun r_ S_ I9 J10 q11 => ?_)
      obtain ⟨rfl, hc11, v12, rfl, hf12, hr11⟩ := q11
      refine g_st (st' := [.int v12]) rfl ?_
      have cp2 : CP I9 := by have q := fr_fn_X10_cover (0 : Int32) I3 J4 ki_rfl; rw [hf12] at q; exact cp_ki (cp_beg J4 cp1) q
      obtain ⟨ceq, cq2⟩ := cq_cover (by decide) hcq hf6 hf12
      have cs2 : CS I9 := by have q := fr5_fn_X10_cover (0 : Int32) I3 J4 kI5_rfl; rw [hf12] at q; exact cs_rb cs1 q
      have kk : LI (c + 1) I9 J10 := by
        have ux := xt_lo hx (fun _ _ => rfl)
        exact li_d hx k1 (rl_up ux.1 ux.2 h.2) hr11
      have k2 := kk
      refine g_pop d_L_law_496 rfl ?_
      refine g_goto d_L_law_497 ?_
      exact ih _ _ k2 cp2 cq2 cs2
    · skip
      exact absurd hb2 hb8
  · skip
    refine g_iconst (v := 1) d_L_law_470 kI_1 ?_
    refine g_goto d_L_law_471 ?_
    refine g_V1 d_L_law_475 cs_L_law_X9_cover lk_RL_56 im_X9_cover se_X9_cover (o := 0) rfl rfl rfl (Nat.le_of_ble_eq_true rfl) ⟨rfl, rfl⟩ hroom (ct_X9_cover (1 : Int32) I J (by decide)) (fun r_ S_ I13 J14 q15 => ?_)
    obtain ⟨rfl, hc15, v16, rfl, hf16⟩ := q15
    refine g_st (st' := [.int v16]) rfl ?_
    have cp1 : CP I13 := by have q := fr_fn_X9_cover (1 : Int32) I ki_rfl J; rw [hf16] at q; exact cp_ki hcp q
    have cs1 : CS I13 := by have q := fr3_fn_X9_cover (1 : Int32) I ki3_rfl J; rw [hf16] at q; have q4 := fr4_fn_X9_cover (1 : Int32) I kI4_rfl J; rw [hf16] at q4; exact cs_cls hcq hcs q q4
    have hx : XT I13 J14 = XT I J := hc15
    have k1 : LQ (c + 1) I13 J14 := lq_x hx h.1.mono
    have t1 : LIt c J14 := lit_x hx h.1.2.1
    refine g_pop d_L_law_478 rfl ?_
    refine g_aload_n d_L_law_479 rfl ?_
    refine g_aload_n d_L_law_480 rfl ?_
    refine g_iload_n d_L_law_481 rfl ?_
    refine g_iconst (v := 1) d_L_law_482 kI_1 ?_
    refine g_iadd d_L_law_483 ?_
    refine g_sld d_L_law_484 (li_ix hi0 hi6 hL (by decide)) ?_
    rw [← ex1]
    refine g_if_eq d_L_law_485 (fun hb18 => ?_) (fun hb18 => ?_)
    · skip
      exact absurd hb18 hb2
    · skip
      refine g_iconst (v := 1) d_L_law_488 kI_1 ?_
      refine g_goto d_L_law_489 ?_
      refine g_V1 d_L_law_493 cs_L_law_X10_cover lk_RL_59 im_X10_cover se_X10_cover (o := 78) rfl rfl rfl (Nat.le_of_ble_eq_true rfl) ⟨rfl, rfl⟩ hroom (ct_X10_cover (1 : Int32) I13 J14 k1.2.2.1 k1.2.2.2) (fun r_ S_ I19 J20 q21 => ?_)
      obtain ⟨rfl, hc21, v22, rfl, hf22, hr21⟩ := q21
      refine g_st (st' := [.int v22]) rfl ?_
      have cp2 : CP I19 := by have q := fr_fn_X10_cover (1 : Int32) I13 J14 ki_rfl; rw [hf22] at q; exact cp_ki (cp_beg J14 cp1) q
      obtain ⟨ceq, cq2⟩ := cq_cover (by decide) hcq hf16 hf22
      have cs2 : CS I19 := by have q := fr5_fn_X10_cover (1 : Int32) I13 J14 kI5_rfl; rw [hf22] at q; exact cs_rb cs1 q
      have kk : LI (c + 1) I19 J20 := by
        have ux := xt_lo hx (fun _ _ => rfl)
        exact li_d hx k1 (rl_up ux.1 ux.2 h.2) hr21
      have k2 := kk
      refine g_pop d_L_law_496 rfl ?_
      refine g_goto d_L_law_497 ?_
      exact ih _ _ k2 cp2 cq2 cs2
set_option maxRecDepth 100000 in
set_option maxHeartbeats 4000000 in
theorem law_10 {L0 : Nat} {xs : Nat → Int32} {i : Int32} {c nc ns : Nat} {I : Iv} {J : Jv} (hroom : nc ≤ room_1.cells ∧ ns ≤ room_1.slots) (hL : L0 ≤ 3072) (hi0 : 0 ≤ i) (hi6 : i.toInt + 6 ≤ (L0 : Int)) (hc : c ≤ 600) (h : LI c I J) (hcp : CP I) (hcq : CQx c I J) (hcs : CS I) (ih : ∀ (I2 : Iv) (J2 : Jv), LI (c + 1) I2 J2 → CP I2 → CQx (c + 1) I2 J2 → CS I2 → G m_L_law (RQL L0 xs) nc ns 1565 [some (.ref 5000000), some (.ref 0), some (.ref 78), some (.int i)] [] SHF I2 J2) : G m_L_law (RQL L0 xs) nc ns 500 [some (.ref 5000000), some (.ref 0), some (.ref 78), some (.int i)] [] SHF I J := by
  refine g_aload_n d_L_law_500 rfl ?_
  refine g_aload_n d_L_law_501 rfl ?_
  refine g_iload_n d_L_law_502 rfl ?_
  refine g_iconst (v := 1) d_L_law_503 kI_1 ?_
  refine g_iadd d_L_law_504 ?_
  refine g_sld d_L_law_505 (li_ix hi0 hi6 hL (by decide)) ?_
  refine g_topI (fun x1 ex1 => ?_)
  refine g_aload_n d_L_law_506 rfl ?_
  refine g_iload_n d_L_law_507 rfl ?_
  refine g_iconst (v := 2) d_L_law_508 kI_2 ?_
  refine g_iadd d_L_law_509 ?_
  refine g_sld d_L_law_510 (li_ix hi0 hi6 hL (by decide)) ?_
  refine g_topI (fun x2 ex2 => ?_)
  refine g_aload_n d_L_law_511 rfl ?_
  refine g_iload_n d_L_law_512 rfl ?_
  refine g_iconst (v := 3) d_L_law_513 kI_3 ?_
  refine g_iadd d_L_law_514 ?_
  refine g_sld d_L_law_515 (li_ix hi0 hi6 hL (by decide)) ?_
  refine g_topI (fun x3 ex3 => ?_)
  refine g_aload_n d_L_law_516 rfl ?_
  refine g_iload_n d_L_law_517 rfl ?_
  refine g_iconst (v := 4) d_L_law_518 kI_4 ?_
  refine g_iadd d_L_law_519 ?_
  refine g_sld d_L_law_520 (li_ix hi0 hi6 hL (by decide)) ?_
  refine g_topI (fun x4 ex4 => ?_)
  refine g_aload_n d_L_law_521 rfl ?_
  refine g_iload_n d_L_law_522 rfl ?_
  refine g_iconst (v := 5) d_L_law_523 kI_5 ?_
  refine g_iadd d_L_law_524 ?_
  refine g_sld d_L_law_525 (li_ix hi0 hi6 hL (by decide)) ?_
  refine g_topI (fun x5 ex5 => ?_)
  refine g_V5 d_L_law_526 cs_L_law_X9_put lk_RL_60 im_X9_put se_X9_put (o := 0) rfl rfl rfl (Nat.le_of_ble_eq_true rfl) ⟨rfl, rfl⟩ hroom (ct_X9_put x1 x2 x3 x4 x5 I J ) (fun r_ S_ I6 J7 q8 => ?_)
  obtain ⟨rfl, hc8, v9, rfl, hf9⟩ := q8
  refine g_st (st' := [.int v9]) rfl ?_
  have cp1 : CP I6 := by have q := fr_fn_X9_put x1 x2 x3 x4 x5 I ki_rfl J; rw [hf9] at q; exact cp_ki hcp q
  have cs1 : CS I6 := by have q := fr3_fn_X9_put x1 x2 x3 x4 x5 I ki3_rfl J; rw [hf9] at q; have q4 := fr4_fn_X9_put x1 x2 x3 x4 x5 I kI4_rfl J; rw [hf9] at q4; exact cs_cls hcq hcs q q4
  have hx : XT I6 J7 = XT I J := hc8
  have k1 : LQ (c + 1) I6 J7 := lq_x hx h.1.mono
  have t1 : LIt c J7 := lit_x hx h.1.2.1
  refine g_pop d_L_law_529 rfl ?_
  refine g_aload_n d_L_law_530 rfl ?_
  refine g_aload_n d_L_law_531 rfl ?_
  refine g_iload_n d_L_law_532 rfl ?_
  refine g_iconst (v := 1) d_L_law_533 kI_1 ?_
  refine g_iadd d_L_law_534 ?_
  refine g_sld d_L_law_535 (li_ix hi0 hi6 hL (by decide)) ?_
  rw [← ex1]
  refine g_aload_n d_L_law_536 rfl ?_
  refine g_iload_n d_L_law_537 rfl ?_
  refine g_iconst (v := 2) d_L_law_538 kI_2 ?_
  refine g_iadd d_L_law_539 ?_
  refine g_sld d_L_law_540 (li_ix hi0 hi6 hL (by decide)) ?_
  rw [← ex2]
  refine g_aload_n d_L_law_541 rfl ?_
  refine g_iload_n d_L_law_542 rfl ?_
  refine g_iconst (v := 3) d_L_law_543 kI_3 ?_
  refine g_iadd d_L_law_544 ?_
  refine g_sld d_L_law_545 (li_ix hi0 hi6 hL (by decide)) ?_
  rw [← ex3]
  refine g_aload_n d_L_law_546 rfl ?_
  refine g_iload_n d_L_law_547 rfl ?_
  refine g_iconst (v := 4) d_L_law_548 kI_4 ?_
  refine g_iadd d_L_law_549 ?_
  refine g_sld d_L_law_550 (li_ix hi0 hi6 hL (by decide)) ?_
  rw [← ex4]
  refine g_aload_n d_L_law_551 rfl ?_
  refine g_iload_n d_L_law_552 rfl ?_
  refine g_iconst (v := 5) d_L_law_553 kI_5 ?_
  refine g_iadd d_L_law_554 ?_
  refine g_sld d_L_law_555 (li_ix hi0 hi6 hL (by decide)) ?_
  rw [← ex5]
  refine g_V5 d_L_law_556 cs_L_law_X10_put lk_RL_64 im_X10_put se_X10_put (o := 78) rfl rfl rfl (Nat.le_of_ble_eq_true rfl) ⟨rfl, rfl⟩ hroom (ct_X10_put x1 x2 x3 x4 x5 I6 J7 k1.2.2.1 k1.2.2.2) (fun r_ S_ I15 J16 q17 => ?_)
  obtain ⟨rfl, hc17, v18, rfl, hf18, hr17⟩ := q17
  refine g_st (st' := [.int v18]) rfl ?_
  have cp2 : CP I15 := by have q := fr_fn_X10_put x1 x2 x3 x4 x5 I6 J7 ki_rfl; rw [hf18] at q; exact cp_ki (cp_beg J7 cp1) q
  obtain ⟨ceq, cq2⟩ := cq_put hc hcq hf9 hf18
  have cs2 : CS I15 := by have q := fr5_fn_X10_put x1 x2 x3 x4 x5 I6 J7 kI5_rfl; rw [hf18] at q; exact cs_rb cs1 q
  have kk : LI (c + 1) I15 J16 := by
    have ux := xt_lo hx (fun _ _ => rfl)
    exact li_d hx k1 (rl_up ux.1 ux.2 h.2) hr17
  have k2 := kk
  refine g_pop d_L_law_559 rfl ?_
  refine g_goto d_L_law_560 ?_
  exact ih _ _ k2 cp2 cq2 cs2
set_option maxRecDepth 100000 in
set_option maxHeartbeats 4000000 in
theorem law_11 {L0 : Nat} {xs : Nat → Int32} {i : Int32} {c nc ns : Nat} {I : Iv} {J : Jv} (hroom : nc ≤ room_1.cells ∧ ns ≤ room_1.slots) (hL : L0 ≤ 3072) (hi0 : 0 ≤ i) (hi6 : i.toInt + 6 ≤ (L0 : Int)) (hc : c ≤ 600) (h : LI c I J) (hcp : CP I) (hcq : CQx c I J) (hcs : CS I) (ih : ∀ (I2 : Iv) (J2 : Jv), LI (c + 1) I2 J2 → CP I2 → CQx (c + 1) I2 J2 → CS I2 → G m_L_law (RQL L0 xs) nc ns 1565 [some (.ref 5000000), some (.ref 0), some (.ref 78), some (.int i)] [] SHF I2 J2) : G m_L_law (RQL L0 xs) nc ns 563 [some (.ref 5000000), some (.ref 0), some (.ref 78), some (.int i)] [] SHF I J := by
  refine g_aload_n d_L_law_563 rfl ?_
  refine g_aload_n d_L_law_564 rfl ?_
  refine g_iload_n d_L_law_565 rfl ?_
  refine g_iconst (v := 1) d_L_law_566 kI_1 ?_
  refine g_iadd d_L_law_567 ?_
  refine g_sld d_L_law_568 (li_ix hi0 hi6 hL (by decide)) ?_
  refine g_topI (fun x1 ex1 => ?_)
  refine g_V1 d_L_law_569 cs_L_law_X9_take lk_RL_65 im_X9_take se_X9_take (o := 0) rfl rfl rfl (Nat.le_of_ble_eq_true rfl) ⟨rfl, rfl⟩ hroom (ct_X9_take x1 I J ) (fun r_ S_ I2 J3 q4 => ?_)
  obtain ⟨rfl, hc4, v5, rfl, hf5⟩ := q4
  refine g_st (st' := [.int v5]) rfl ?_
  have cp1 : CP I2 := by have q := fr_fn_X9_take x1 I ki_rfl J; rw [hf5] at q; exact cp_ki hcp q
  have cs1 : CS I2 := by have q := fr3_fn_X9_take x1 I ki3_rfl J; rw [hf5] at q; have q4 := fr4_fn_X9_take x1 I kI4_rfl J; rw [hf5] at q4; exact cs_cls hcq hcs q q4
  have hx : XT I2 J3 = XT I J := hc4
  have k1 : LQ (c + 1) I2 J3 := lq_x hx h.1.mono
  have t1 : LIt c J3 := lit_x hx h.1.2.1
  refine g_pop d_L_law_572 rfl ?_
  refine g_aload_n d_L_law_573 rfl ?_
  refine g_aload_n d_L_law_574 rfl ?_
  refine g_iload_n d_L_law_575 rfl ?_
  refine g_iconst (v := 1) d_L_law_576 kI_1 ?_
  refine g_iadd d_L_law_577 ?_
  refine g_sld d_L_law_578 (li_ix hi0 hi6 hL (by decide)) ?_
  rw [← ex1]
  refine g_V1 d_L_law_579 cs_L_law_X10_take lk_RL_68 im_X10_take se_X10_take (o := 78) rfl rfl rfl (Nat.le_of_ble_eq_true rfl) ⟨rfl, rfl⟩ hroom (ct_X10_take x1 I2 J3 k1.2.2.1 k1.2.2.2) (fun r_ S_ I7 J8 q9 => ?_)
  obtain ⟨rfl, hc9, v10, rfl, hf10, hr9⟩ := q9
  refine g_st (st' := [.int v10]) rfl ?_
  have cp2 : CP I7 := by have q := fr_fn_X10_take x1 I2 J3 ki_rfl; rw [hf10] at q; exact cp_ki (cp_beg J3 cp1) q
  obtain ⟨ceq, cq2⟩ := cq_take hcq hf5 hf10
  have cs2 : CS I7 := by have q := fr5_fn_X10_take x1 I2 J3 kI5_rfl; rw [hf10] at q; exact cs_rb cs1 q
  have kk : LI (c + 1) I7 J8 := by
    have ux := xt_lo hx (fun _ _ => rfl)
    exact li_d hx k1 (rl_up ux.1 ux.2 h.2) hr9
  have k2 := kk
  refine g_pop d_L_law_582 rfl ?_
  refine g_goto d_L_law_583 ?_
  exact ih _ _ k2 cp2 cq2 cs2
set_option maxRecDepth 100000 in
set_option maxHeartbeats 4000000 in
theorem law_12 {L0 : Nat} {xs : Nat → Int32} {i : Int32} {c nc ns : Nat} {I : Iv} {J : Jv} (hroom : nc ≤ room_1.cells ∧ ns ≤ room_1.slots) (hL : L0 ≤ 3072) (hi0 : 0 ≤ i) (hi6 : i.toInt + 6 ≤ (L0 : Int)) (hc : c ≤ 600) (h : LI c I J) (hcp : CP I) (hcq : CQx c I J) (hcs : CS I) (ih : ∀ (I2 : Iv) (J2 : Jv), LI (c + 1) I2 J2 → CP I2 → CQx (c + 1) I2 J2 → CS I2 → G m_L_law (RQL L0 xs) nc ns 1565 [some (.ref 5000000), some (.ref 0), some (.ref 78), some (.int i)] [] SHF I2 J2) : G m_L_law (RQL L0 xs) nc ns 586 [some (.ref 5000000), some (.ref 0), some (.ref 78), some (.int i)] [] SHF I J := by
  refine g_aload_n d_L_law_586 rfl ?_
  refine g_aload_n d_L_law_587 rfl ?_
  refine g_iload_n d_L_law_588 rfl ?_
  refine g_iconst (v := 1) d_L_law_589 kI_1 ?_
  refine g_iadd d_L_law_590 ?_
  refine g_sld d_L_law_591 (li_ix hi0 hi6 hL (by decide)) ?_
  refine g_topI (fun x1 ex1 => ?_)
  refine g_aload_n d_L_law_592 rfl ?_
  refine g_iload_n d_L_law_593 rfl ?_
  refine g_iconst (v := 2) d_L_law_594 kI_2 ?_
  refine g_iadd d_L_law_595 ?_
  refine g_sld d_L_law_596 (li_ix hi0 hi6 hL (by decide)) ?_
  refine g_topI (fun x2 ex2 => ?_)
  refine g_V2 d_L_law_597 cs_L_law_X9_lay lk_RL_69 im_X9_lay se_X9_lay (o := 0) rfl rfl rfl (Nat.le_of_ble_eq_true rfl) ⟨rfl, rfl⟩ hroom (ct_X9_lay x1 x2 I J ) (fun r_ S_ I3 J4 q5 => ?_)
  obtain ⟨rfl, hc5, v6, rfl, hf6⟩ := q5
  refine g_st (st' := [.int v6]) rfl ?_
  have cp1 : CP I3 := by have q := fr_fn_X9_lay x1 x2 I ki_rfl J; rw [hf6] at q; exact cp_ki hcp q
  have cs1 : CS I3 := by have q := fr3_fn_X9_lay x1 x2 I ki3_rfl J; rw [hf6] at q; have q4 := fr4_fn_X9_lay x1 x2 I kI4_rfl J; rw [hf6] at q4; exact cs_cls hcq hcs q q4
  have hx : XT I3 J4 = XT I J := hc5
  have k1 : LQ (c + 1) I3 J4 := lq_x hx h.1.mono
  have t1 : LIt c J4 := lit_x hx h.1.2.1
  refine g_pop d_L_law_600 rfl ?_
  refine g_aload_n d_L_law_601 rfl ?_
  refine g_aload_n d_L_law_602 rfl ?_
  refine g_iload_n d_L_law_603 rfl ?_
  refine g_iconst (v := 1) d_L_law_604 kI_1 ?_
  refine g_iadd d_L_law_605 ?_
  refine g_sld d_L_law_606 (li_ix hi0 hi6 hL (by decide)) ?_
  rw [← ex1]
  refine g_aload_n d_L_law_607 rfl ?_
  refine g_iload_n d_L_law_608 rfl ?_
  refine g_iconst (v := 2) d_L_law_609 kI_2 ?_
  refine g_iadd d_L_law_610 ?_
  refine g_sld d_L_law_611 (li_ix hi0 hi6 hL (by decide)) ?_
  rw [← ex2]
  refine g_V2 d_L_law_612 cs_L_law_X10_lay lk_RL_72 im_X10_lay se_X10_lay (o := 78) rfl rfl rfl (Nat.le_of_ble_eq_true rfl) ⟨rfl, rfl⟩ hroom (ct_X10_lay x1 x2 I3 J4 k1.2.2.1 k1.2.2.2) (fun r_ S_ I9 J10 q11 => ?_)
  obtain ⟨rfl, hc11, v12, rfl, hf12, hr11⟩ := q11
  refine g_st (st' := [.int v12]) rfl ?_
  have cp2 : CP I9 := by have q := fr_fn_X10_lay x1 x2 I3 J4 ki_rfl; rw [hf12] at q; exact cp_ki (cp_beg J4 cp1) q
  obtain ⟨ceq, cq2⟩ := cq_lay hcq hf6 hf12
  have cs2 : CS I9 := by have q := fr5_fn_X10_lay x1 x2 I3 J4 kI5_rfl; rw [hf12] at q; exact cs_rb cs1 q
  have kk : LI (c + 1) I9 J10 := by
    have ux := xt_lo hx (fun _ _ => rfl)
    exact li_d hx k1 (rl_up ux.1 ux.2 h.2) hr11
  have k2 := kk
  refine g_pop d_L_law_615 rfl ?_
  refine g_goto d_L_law_616 ?_
  exact ih _ _ k2 cp2 cq2 cs2
set_option maxRecDepth 100000 in
set_option maxHeartbeats 4000000 in
theorem law_13 {L0 : Nat} {xs : Nat → Int32} {i : Int32} {c nc ns : Nat} {I : Iv} {J : Jv} (hroom : nc ≤ room_1.cells ∧ ns ≤ room_1.slots) (hL : L0 ≤ 3072) (hi0 : 0 ≤ i) (hi6 : i.toInt + 6 ≤ (L0 : Int)) (hc : c ≤ 600) (h : LI c I J) (hcp : CP I) (hcq : CQx c I J) (hcs : CS I) (ih : ∀ (I2 : Iv) (J2 : Jv), LI (c + 1) I2 J2 → CP I2 → CQx (c + 1) I2 J2 → CS I2 → G m_L_law (RQL L0 xs) nc ns 1565 [some (.ref 5000000), some (.ref 0), some (.ref 78), some (.int i)] [] SHF I2 J2) : G m_L_law (RQL L0 xs) nc ns 619 [some (.ref 5000000), some (.ref 0), some (.ref 78), some (.int i)] [] SHF I J := by
  refine g_aload_n d_L_law_619 rfl ?_
  refine g_aload_n d_L_law_620 rfl ?_
  refine g_iload_n d_L_law_621 rfl ?_
  refine g_iconst (v := 1) d_L_law_622 kI_1 ?_
  refine g_iadd d_L_law_623 ?_
  refine g_sld d_L_law_624 (li_ix hi0 hi6 hL (by decide)) ?_
  refine g_topI (fun x1 ex1 => ?_)
  refine g_aload_n d_L_law_625 rfl ?_
  refine g_iload_n d_L_law_626 rfl ?_
  refine g_iconst (v := 2) d_L_law_627 kI_2 ?_
  refine g_iadd d_L_law_628 ?_
  refine g_sld d_L_law_629 (li_ix hi0 hi6 hL (by decide)) ?_
  refine g_topI (fun x2 ex2 => ?_)
  refine g_V2 d_L_law_630 cs_L_law_X9_food lk_RL_73 im_X9_food se_X9_food (o := 0) rfl rfl rfl (Nat.le_of_ble_eq_true rfl) ⟨rfl, rfl⟩ hroom (ct_X9_food x1 x2 I J ) (fun r_ S_ I3 J4 q5 => ?_)
  obtain ⟨rfl, rfl, rfl, v6, rfl, hf6⟩ := q5
  refine g_st (st' := [.int v6]) rfl ?_
  have cp1 : CP I := by have q := fr_fn_X9_food x1 x2 I ki_rfl J; rw [hf6] at q; exact cp_ki hcp q
  have cs1 : CS I := by have q := fr3_fn_X9_food x1 x2 I ki3_rfl J; rw [hf6] at q; have q4 := fr4_fn_X9_food x1 x2 I kI4_rfl J; rw [hf6] at q4; exact cs_cls hcq hcs q q4
  have hx : XT I J = XT I J := rfl
  have k1 : LQ (c + 1) I J := lq_x hx h.1.mono
  have t1 : LIt c J := lit_x hx h.1.2.1
  refine g_pop d_L_law_633 rfl ?_
  refine g_aload_n d_L_law_634 rfl ?_
  refine g_aload_n d_L_law_635 rfl ?_
  refine g_iload_n d_L_law_636 rfl ?_
  refine g_iconst (v := 1) d_L_law_637 kI_1 ?_
  refine g_iadd d_L_law_638 ?_
  refine g_sld d_L_law_639 (li_ix hi0 hi6 hL (by decide)) ?_
  rw [← ex1]
  refine g_aload_n d_L_law_640 rfl ?_
  refine g_iload_n d_L_law_641 rfl ?_
  refine g_iconst (v := 2) d_L_law_642 kI_2 ?_
  refine g_iadd d_L_law_643 ?_
  refine g_sld d_L_law_644 (li_ix hi0 hi6 hL (by decide)) ?_
  rw [← ex2]
  refine g_V2 d_L_law_645 cs_L_law_X10_food lk_RL_76 im_X10_food se_X10_food (o := 78) rfl rfl rfl (Nat.le_of_ble_eq_true rfl) ⟨rfl, rfl⟩ hroom (ct_X10_food x1 x2 I J k1.2.2.1 k1.2.2.2) (fun r_ S_ I9 J10 q11 => ?_)
  obtain ⟨rfl, hc11, v12, rfl, hf12, hr11⟩ := q11
  refine g_st (st' := [.int v12]) rfl ?_
  have cp2 : CP I9 := by have q := fr_fn_X10_food x1 x2 I J ki_rfl; rw [hf12] at q; exact cp_ki (cp_beg J cp1) q
  obtain ⟨ceq, cq2⟩ := cq_food hc hcq hf6 hf12
  have cs2 : CS I9 := by have q := fr5_fn_X10_food x1 x2 I J kI5_rfl; rw [hf12] at q; exact cs_rb cs1 q
  have kk : LI (c + 1) I9 J10 := by
    have ux := xt_lo hx (fun _ _ => rfl)
    exact li_d hx k1 (rl_up ux.1 ux.2 h.2) hr11
  have k2 := kk
  refine g_pop d_L_law_648 rfl ?_
  refine g_goto d_L_law_649 ?_
  exact ih _ _ k2 cp2 cq2 cs2
set_option maxRecDepth 100000 in
set_option maxHeartbeats 4000000 in
theorem law_14 {L0 : Nat} {xs : Nat → Int32} {i : Int32} {c nc ns : Nat} {I : Iv} {J : Jv} (hroom : nc ≤ room_1.cells ∧ ns ≤ room_1.slots) (hL : L0 ≤ 3072) (hi0 : 0 ≤ i) (hi6 : i.toInt + 6 ≤ (L0 : Int)) (hc : c ≤ 600) (h : LI c I J) (hcp : CP I) (hcq : CQx c I J) (hcs : CS I) (ih : ∀ (I2 : Iv) (J2 : Jv), LI (c + 1) I2 J2 → CP I2 → CQx (c + 1) I2 J2 → CS I2 → G m_L_law (RQL L0 xs) nc ns 1565 [some (.ref 5000000), some (.ref 0), some (.ref 78), some (.int i)] [] SHF I2 J2) : G m_L_law (RQL L0 xs) nc ns 652 [some (.ref 5000000), some (.ref 0), some (.ref 78), some (.int i)] [] SHF I J := by
  refine g_aload_n d_L_law_652 rfl ?_
  refine g_aload_n d_L_law_653 rfl ?_
  refine g_iload_n d_L_law_654 rfl ?_
  refine g_iconst (v := 1) d_L_law_655 kI_1 ?_
  refine g_iadd d_L_law_656 ?_
  refine g_sld d_L_law_657 (li_ix hi0 hi6 hL (by decide)) ?_
  refine g_topI (fun x1 ex1 => ?_)
  refine g_V1 d_L_law_658 cs_L_law_X9_run lk_RL_77 im_X9_run se_X9_run (o := 0) rfl rfl rfl (Nat.le_of_ble_eq_true rfl) ⟨rfl, rfl⟩ hroom (ct_X9_run x1 I J ) (fun r_ S_ I2 J3 q4 => ?_)
  obtain ⟨rfl, hc4, v5, rfl, hf5, hr4⟩ := q4
  refine g_st (st' := [.int v5]) rfl ?_
  have cp1 : CP I2 := by have q := fr_fn_X9_run x1 I ki_rfl J; rw [hf5] at q; exact cp_ki hcp q
  have cs1 : CS I2 := by have q := fr3_fn_X9_run x1 I ki3_rfl J; rw [hf5] at q; have q4 := fr4_fn_X9_run x1 I kI4_rfl J; rw [hf5] at q4; exact cs_cls hcq hcs q q4
  have kt : LQ (c + 1) I2 J3 ∧ LIt c J3 := by
    rcases hr4 with ⟨g1, g2, hx⟩ | ⟨g1, hx⟩
    · exact ⟨lq_x hx (lq_tick h.1.mono (tkb_add h.1.1.2.2.1 hc (by grind) g2)), lit_x hx h.1.2.1⟩
    · exact ⟨lq_x hx (h.1.mono), lit_x hx h.1.2.1⟩
  obtain ⟨k1, t1⟩ := kt
  refine g_pop d_L_law_661 rfl ?_
  refine g_aload_n d_L_law_662 rfl ?_
  refine g_aload_n d_L_law_663 rfl ?_
  refine g_iload_n d_L_law_664 rfl ?_
  refine g_iconst (v := 1) d_L_law_665 kI_1 ?_
  refine g_iadd d_L_law_666 ?_
  refine g_sld d_L_law_667 (li_ix hi0 hi6 hL (by decide)) ?_
  rw [← ex1]
  refine g_V1 d_L_law_668 cs_L_law_X10_run lk_RL_80 im_X10_run se_X10_run (o := 78) rfl rfl rfl (Nat.le_of_ble_eq_true rfl) ⟨rfl, rfl⟩ hroom (ct_X10_run x1 I2 J3 k1.2.2.1 k1.2.2.2) (fun r_ S_ I7 J8 q9 => ?_)
  obtain ⟨rfl, hc9, v10, rfl, hf10, hr9⟩ := q9
  refine g_st (st' := [.int v10]) rfl ?_
  have cp2 : CP I7 := by have q := fr_fn_X10_run x1 I2 J3 ki_rfl; rw [hf10] at q; exact cp_ki (cp_beg J3 cp1) q
  obtain ⟨ceq, cq2⟩ := cq_run hc hcq hf5 hf10
  have cs2 : CS I7 := by have q := fr5_fn_X10_run x1 I2 J3 kI5_rfl; rw [hf10] at q; exact cs_rb cs1 q
  have kk : LI (c + 1) I7 J8 := by
    rcases hr4 with ⟨g1, g2, hx⟩ | ⟨g1, hx⟩
    · skip
      obtain ⟨hi, n2, m1, m2, hj⟩ := hr9
      have ux := xt_lo hx (hi_w (by omega))
      exact li_fin hx hi hj lo_bg k1.1 (lit_t (lit_bg k1.2.1) (tkl_add (lit_bg t1).1 hc m1 m2)) (rl_bg bg_ne (rl_t54 (rl_up ux.1 ux.2 (rl_tick h.2))))
    · skip
      obtain ⟨hi, n2, m1, m2, hj⟩ := hr9
      have ux := xt_lo hx (fun _ _ => rfl)
      exact li_fin hx hi hj lo_bg k1.1 (lit_t (lit_bg k1.2.1) (tkl_add (lit_bg t1).1 hc m1 m2)) (rl_bg bg_ne (rl_t54 (rl_up ux.1 ux.2 (h.2))))
  have k2 := kk
  refine g_pop d_L_law_671 rfl ?_
  refine g_goto d_L_law_672 ?_
  exact ih _ _ k2 cp2 cq2 cs2
set_option maxRecDepth 100000 in
set_option maxHeartbeats 4000000 in
theorem law_15 {L0 : Nat} {xs : Nat → Int32} {i : Int32} {c nc ns : Nat} {I : Iv} {J : Jv} (hroom : nc ≤ room_1.cells ∧ ns ≤ room_1.slots) (hL : L0 ≤ 3072) (hi0 : 0 ≤ i) (hi6 : i.toInt + 6 ≤ (L0 : Int)) (hc : c ≤ 600) (h : LI c I J) (hcp : CP I) (hcq : CQx c I J) (hcs : CS I) (ih : ∀ (I2 : Iv) (J2 : Jv), LI (c + 1) I2 J2 → CP I2 → CQx (c + 1) I2 J2 → CS I2 → G m_L_law (RQL L0 xs) nc ns 1565 [some (.ref 5000000), some (.ref 0), some (.ref 78), some (.int i)] [] SHF I2 J2) : G m_L_law (RQL L0 xs) nc ns 675 [some (.ref 5000000), some (.ref 0), some (.ref 78), some (.int i)] [] SHF I J := by
  refine g_aload_n d_L_law_675 rfl ?_
  refine g_aload_n d_L_law_676 rfl ?_
  refine g_iload_n d_L_law_677 rfl ?_
  refine g_iconst (v := 1) d_L_law_678 kI_1 ?_
  refine g_iadd d_L_law_679 ?_
  refine g_sld d_L_law_680 (li_ix hi0 hi6 hL (by decide)) ?_
  refine g_topI (fun x1 ex1 => ?_)
  refine g_aload_n d_L_law_681 rfl ?_
  refine g_iload_n d_L_law_682 rfl ?_
  refine g_iconst (v := 2) d_L_law_683 kI_2 ?_
  refine g_iadd d_L_law_684 ?_
  refine g_sld d_L_law_685 (li_ix hi0 hi6 hL (by decide)) ?_
  refine g_topI (fun x2 ex2 => ?_)
  refine g_V2 d_L_law_686 cs_L_law_X9_drawn lk_RL_81 im_X9_drawn se_X9_drawn (o := 0) rfl rfl rfl (Nat.le_of_ble_eq_true rfl) ⟨rfl, rfl⟩ hroom (ct_X9_drawn x1 x2 I J (tkb_lim h.1.1.2.2.1 hc)) (fun r_ S_ I3 J4 q5 => ?_)
  obtain ⟨rfl, hc5, v6, rfl, hf6, hr5⟩ := q5
  refine g_st (st' := [.int v6]) rfl ?_
  have cp1 : CP I3 := by have q := fr_fn_X9_drawn x1 x2 I ki_rfl J; rw [hf6] at q; exact cp_ki hcp q
  have cs1 : CS I3 := by have q := fr3_fn_X9_drawn x1 x2 I ki3_rfl J; rw [hf6] at q; have q4 := fr4_fn_X9_drawn x1 x2 I kI4_rfl J; rw [hf6] at q4; exact cs_cls hcq hcs q q4
  obtain ⟨n1, g1, g2, hx⟩ := hr5
  have k1 : LQ (c + 1) I3 J4 := lq_x hx (lq_tick h.1.mono (tkb_add h.1.1.2.2.1 hc g1 g2))
  have t1 : LIt c J4 := lit_x hx h.1.2.1
  refine g_pop d_L_law_689 rfl ?_
  refine g_aload_n d_L_law_690 rfl ?_
  refine g_aload_n d_L_law_691 rfl ?_
  refine g_iload_n d_L_law_692 rfl ?_
  refine g_iconst (v := 1) d_L_law_693 kI_1 ?_
  refine g_iadd d_L_law_694 ?_
  refine g_sld d_L_law_695 (li_ix hi0 hi6 hL (by decide)) ?_
  rw [← ex1]
  refine g_aload_n d_L_law_696 rfl ?_
  refine g_iload_n d_L_law_697 rfl ?_
  refine g_iconst (v := 2) d_L_law_698 kI_2 ?_
  refine g_iadd d_L_law_699 ?_
  refine g_sld d_L_law_700 (li_ix hi0 hi6 hL (by decide)) ?_
  rw [← ex2]
  refine g_V2 d_L_law_701 cs_L_law_X10_drawn lk_RL_84 im_X10_drawn se_X10_drawn (o := 78) rfl rfl rfl (Nat.le_of_ble_eq_true rfl) ⟨rfl, rfl⟩ hroom (ct_X10_drawn x1 x2 I3 J4 k1.2.2.1 k1.2.2.2 (tkl_lim (lit_bg t1).1 hc)) (fun r_ S_ I9 J10 q11 => ?_)
  obtain ⟨rfl, hc11, v12, rfl, hf12, hr11⟩ := q11
  refine g_st (st' := [.int v12]) rfl ?_
  have cp2 : CP I9 := by have q := fr_fn_X10_drawn x1 x2 I3 J4 ki_rfl; rw [hf12] at q; exact cp_ki (cp_beg J4 cp1) q
  obtain ⟨ceq, cq2⟩ := cq_drawn hc hcq hf6 hf12
  have cs2 : CS I9 := by have q := fr5_fn_X10_drawn x1 x2 I3 J4 kI5_rfl; rw [hf12] at q; exact cs_rb cs1 q
  have kk : LI (c + 1) I9 J10 := by
    obtain ⟨hi, n2, m1, m2, hj⟩ := hr11
    have ux := xt_lo hx (hi_w (by omega))
    exact li_fin hx hi hj lo_bg k1.1 (lit_t (lit_bg k1.2.1) (tkl_add (lit_bg t1).1 hc m1 m2)) (rl_bg bg_ne (rl_t54 (rl_up ux.1 ux.2 (rl_tick h.2))))
  have k2 := kk
  refine g_pop d_L_law_704 rfl ?_
  refine g_goto d_L_law_705 ?_
  exact ih _ _ k2 cp2 cq2 cs2
set_option maxRecDepth 100000 in
set_option maxHeartbeats 4000000 in
theorem law_16 {L0 : Nat} {xs : Nat → Int32} {i : Int32} {c nc ns : Nat} {I : Iv} {J : Jv} (hroom : nc ≤ room_1.cells ∧ ns ≤ room_1.slots) (hL : L0 ≤ 3072) (hi0 : 0 ≤ i) (hi6 : i.toInt + 6 ≤ (L0 : Int)) (hc : c ≤ 600) (h : LI c I J) (hcp : CP I) (hcq : CQx c I J) (hcs : CS I) (ih : ∀ (I2 : Iv) (J2 : Jv), LI (c + 1) I2 J2 → CP I2 → CQx (c + 1) I2 J2 → CS I2 → G m_L_law (RQL L0 xs) nc ns 1565 [some (.ref 5000000), some (.ref 0), some (.ref 78), some (.int i)] [] SHF I2 J2) : G m_L_law (RQL L0 xs) nc ns 708 [some (.ref 5000000), some (.ref 0), some (.ref 78), some (.int i)] [] SHF I J := by
  refine g_aload_n d_L_law_708 rfl ?_
  refine g_aload_n d_L_law_709 rfl ?_
  refine g_iload_n d_L_law_710 rfl ?_
  refine g_iconst (v := 1) d_L_law_711 kI_1 ?_
  refine g_iadd d_L_law_712 ?_
  refine g_sld d_L_law_713 (li_ix hi0 hi6 hL (by decide)) ?_
  refine g_topI (fun x1 ex1 => ?_)
  refine g_V1 d_L_law_714 cs_L_law_X9_warmth lk_RL_85 im_X9_warmth se_X9_warmth (o := 0) rfl rfl rfl (Nat.le_of_ble_eq_true rfl) ⟨rfl, rfl⟩ hroom (ct_X9_warmth x1 I J ) (fun r_ S_ I2 J3 q4 => ?_)
  obtain ⟨rfl, rfl, rfl, v5, rfl, hf5⟩ := q4
  refine g_st (st' := [.int v5]) rfl ?_
  have cp1 : CP I := by have q := fr_fn_X9_warmth x1 I ki_rfl J; rw [hf5] at q; exact cp_ki hcp q
  have cs1 : CS I := by have q := fr3_fn_X9_warmth x1 I ki3_rfl J; rw [hf5] at q; have q4 := fr4_fn_X9_warmth x1 I kI4_rfl J; rw [hf5] at q4; exact cs_cls hcq hcs q q4
  have hx : XT I J = XT I J := rfl
  have k1 : LQ (c + 1) I J := lq_x hx h.1.mono
  have t1 : LIt c J := lit_x hx h.1.2.1
  refine g_pop d_L_law_717 rfl ?_
  refine g_aload_n d_L_law_718 rfl ?_
  refine g_aload_n d_L_law_719 rfl ?_
  refine g_iload_n d_L_law_720 rfl ?_
  refine g_iconst (v := 1) d_L_law_721 kI_1 ?_
  refine g_iadd d_L_law_722 ?_
  refine g_sld d_L_law_723 (li_ix hi0 hi6 hL (by decide)) ?_
  rw [← ex1]
  refine g_V1 d_L_law_724 cs_L_law_X10_warmth lk_RL_88 im_X10_warmth se_X10_warmth (o := 78) rfl rfl rfl (Nat.le_of_ble_eq_true rfl) ⟨rfl, rfl⟩ hroom (ct_X10_warmth x1 I J k1.2.2.1 k1.2.2.2) (fun r_ S_ I7 J8 q9 => ?_)
  obtain ⟨rfl, hc9, v10, rfl, hf10, hr9⟩ := q9
  refine g_st (st' := [.int v10]) rfl ?_
  have cp2 : CP I7 := by have q := fr_fn_X10_warmth x1 I J ki_rfl; rw [hf10] at q; exact cp_ki (cp_beg J cp1) q
  obtain ⟨ceq, cq2⟩ := cq_warmth hcq hf5 hf10
  have cs2 : CS I7 := by have q := fr5_fn_X10_warmth x1 I J kI5_rfl; rw [hf10] at q; exact cs_rb cs1 q
  have kk : LI (c + 1) I7 J8 := by
    have ux := xt_lo hx (fun _ _ => rfl)
    exact li_d hx k1 (rl_up ux.1 ux.2 h.2) hr9
  have k2 := kk
  refine g_pop d_L_law_727 rfl ?_
  refine g_goto d_L_law_728 ?_
  exact ih _ _ k2 cp2 cq2 cs2
set_option maxRecDepth 100000 in
set_option maxHeartbeats 4000000 in
theorem law_17 {L0 : Nat} {xs : Nat → Int32} {i : Int32} {c nc ns : Nat} {I : Iv} {J : Jv} (hroom : nc ≤ room_1.cells ∧ ns ≤ room_1.slots) (hL : L0 ≤ 3072) (hi0 : 0 ≤ i) (hi6 : i.toInt + 6 ≤ (L0 : Int)) (hc : c ≤ 600) (h : LI c I J) (hcp : CP I) (hcq : CQx c I J) (hcs : CS I) (ih : ∀ (I2 : Iv) (J2 : Jv), LI (c + 1) I2 J2 → CP I2 → CQx (c + 1) I2 J2 → CS I2 → G m_L_law (RQL L0 xs) nc ns 1565 [some (.ref 5000000), some (.ref 0), some (.ref 78), some (.int i)] [] SHF I2 J2) : G m_L_law (RQL L0 xs) nc ns 731 [some (.ref 5000000), some (.ref 0), some (.ref 78), some (.int i)] [] SHF I J := by
  refine g_aload_n d_L_law_731 rfl ?_
  refine g_aload_n d_L_law_732 rfl ?_
  refine g_iload_n d_L_law_733 rfl ?_
  refine g_iconst (v := 1) d_L_law_734 kI_1 ?_
  refine g_iadd d_L_law_735 ?_
  refine g_sld d_L_law_736 (li_ix hi0 hi6 hL (by decide)) ?_
  refine g_topI (fun x1 ex1 => ?_)
  refine g_V1 d_L_law_737 cs_L_law_X9_heat lk_RL_89 im_X9_heat se_X9_heat (o := 0) rfl rfl rfl (Nat.le_of_ble_eq_true rfl) ⟨rfl, rfl⟩ hroom (ct_X9_heat x1 I J ) (fun r_ S_ I2 J3 q4 => ?_)
  obtain ⟨rfl, rfl, rfl, v5, rfl, hf5⟩ := q4
  refine g_st (st' := [.long v5]) rfl ?_
  have cp1 : CP I := by have q := fr_fn_X9_heat x1 I ki_rfl J; rw [hf5] at q; exact cp_ki hcp q
  have cs1 : CS I := by have q := fr3_fn_X9_heat x1 I ki3_rfl J; rw [hf5] at q; have q4 := fr4_fn_X9_heat x1 I kI4_rfl J; rw [hf5] at q4; exact cs_cls hcq hcs q q4
  have hx : XT I J = XT I J := rfl
  have k1 : LQ (c + 1) I J := lq_x hx h.1.mono
  have t1 : LIt c J := lit_x hx h.1.2.1
  refine g_pop2 d_L_law_740 rfl ?_
  refine g_aload_n d_L_law_741 rfl ?_
  refine g_aload_n d_L_law_742 rfl ?_
  refine g_iload_n d_L_law_743 rfl ?_
  refine g_iconst (v := 1) d_L_law_744 kI_1 ?_
  refine g_iadd d_L_law_745 ?_
  refine g_sld d_L_law_746 (li_ix hi0 hi6 hL (by decide)) ?_
  rw [← ex1]
  refine g_V1 d_L_law_747 cs_L_law_X10_heat lk_RL_93 im_X10_heat se_X10_heat (o := 78) rfl rfl rfl (Nat.le_of_ble_eq_true rfl) ⟨rfl, rfl⟩ hroom (ct_X10_heat x1 I J k1.2.2.1 k1.2.2.2) (fun r_ S_ I7 J8 q9 => ?_)
  obtain ⟨rfl, hc9, v10, rfl, hf10, hr9⟩ := q9
  refine g_st (st' := [.long v10]) rfl ?_
  have cp2 : CP I7 := by have q := fr_fn_X10_heat x1 I J ki_rfl; rw [hf10] at q; exact cp_ki (cp_beg J cp1) q
  obtain ⟨ceq, cq2⟩ := cq_heat hcq hf5 hf10
  have cs2 : CS I7 := by have q := fr5_fn_X10_heat x1 I J kI5_rfl; rw [hf10] at q; exact cs_rb cs1 q
  have kk : LI (c + 1) I7 J8 := by
    have ux := xt_lo hx (fun _ _ => rfl)
    exact li_d hx k1 (rl_up ux.1 ux.2 h.2) hr9
  have k2 := kk
  refine g_pop2 d_L_law_750 rfl ?_
  refine g_goto d_L_law_751 ?_
  exact ih _ _ k2 cp2 cq2 cs2
set_option maxRecDepth 100000 in
set_option maxHeartbeats 4000000 in
theorem law_18 {L0 : Nat} {xs : Nat → Int32} {i : Int32} {c nc ns : Nat} {I : Iv} {J : Jv} (hroom : nc ≤ room_1.cells ∧ ns ≤ room_1.slots) (hL : L0 ≤ 3072) (hi0 : 0 ≤ i) (hi6 : i.toInt + 6 ≤ (L0 : Int)) (hc : c ≤ 600) (h : LI c I J) (hcp : CP I) (hcq : CQx c I J) (hcs : CS I) (ih : ∀ (I2 : Iv) (J2 : Jv), LI (c + 1) I2 J2 → CP I2 → CQx (c + 1) I2 J2 → CS I2 → G m_L_law (RQL L0 xs) nc ns 1565 [some (.ref 5000000), some (.ref 0), some (.ref 78), some (.int i)] [] SHF I2 J2) : G m_L_law (RQL L0 xs) nc ns 754 [some (.ref 5000000), some (.ref 0), some (.ref 78), some (.int i)] [] SHF I J := by
  refine g_aload_n d_L_law_754 rfl ?_
  refine g_aload_n d_L_law_755 rfl ?_
  refine g_iload_n d_L_law_756 rfl ?_
  refine g_iconst (v := 1) d_L_law_757 kI_1 ?_
  refine g_iadd d_L_law_758 ?_
  refine g_sld d_L_law_759 (li_ix hi0 hi6 hL (by decide)) ?_
  refine g_topI (fun x1 ex1 => ?_)
  refine g_V1 d_L_law_760 cs_L_law_X9_count lk_RL_94 im_X9_count se_X9_count (o := 0) rfl rfl rfl (Nat.le_of_ble_eq_true rfl) ⟨rfl, rfl⟩ hroom (ct_X9_count x1 I J ) (fun r_ S_ I2 J3 q4 => ?_)
  obtain ⟨rfl, rfl, rfl, v5, rfl, hf5⟩ := q4
  refine g_st (st' := [.int v5]) rfl ?_
  have cp1 : CP I := by have q := fr_fn_X9_count x1 I ki_rfl J; rw [hf5] at q; exact cp_ki hcp q
  have cs1 : CS I := by have q := fr3_fn_X9_count x1 I ki3_rfl J; rw [hf5] at q; have q4 := fr4_fn_X9_count x1 I kI4_rfl J; rw [hf5] at q4; exact cs_cls hcq hcs q q4
  have hx : XT I J = XT I J := rfl
  have k1 : LQ (c + 1) I J := lq_x hx h.1.mono
  have t1 : LIt c J := lit_x hx h.1.2.1
  refine g_pop d_L_law_763 rfl ?_
  refine g_aload_n d_L_law_764 rfl ?_
  refine g_aload_n d_L_law_765 rfl ?_
  refine g_iload_n d_L_law_766 rfl ?_
  refine g_iconst (v := 1) d_L_law_767 kI_1 ?_
  refine g_iadd d_L_law_768 ?_
  refine g_sld d_L_law_769 (li_ix hi0 hi6 hL (by decide)) ?_
  rw [← ex1]
  refine g_V1 d_L_law_770 cs_L_law_X10_count lk_RL_97 im_X10_count se_X10_count (o := 78) rfl rfl rfl (Nat.le_of_ble_eq_true rfl) ⟨rfl, rfl⟩ hroom (ct_X10_count x1 I J k1.2.2.1 k1.2.2.2) (fun r_ S_ I7 J8 q9 => ?_)
  obtain ⟨rfl, hc9, v10, rfl, hf10, hr9⟩ := q9
  refine g_st (st' := [.int v10]) rfl ?_
  have cp2 : CP I7 := by have q := fr_fn_X10_count x1 I J ki_rfl; rw [hf10] at q; exact cp_ki (cp_beg J cp1) q
  obtain ⟨ceq, cq2⟩ := cq_count hcp hcq hf5 hf10
  have cs2 : CS I7 := by have q := fr5_fn_X10_count x1 I J kI5_rfl; rw [hf10] at q; exact cs_rb cs1 q
  have kk : LI (c + 1) I7 J8 := by
    have ux := xt_lo hx (fun _ _ => rfl)
    exact li_d hx k1 (rl_up ux.1 ux.2 h.2) hr9
  have k2 := kk
  refine g_pop d_L_law_773 rfl ?_
  refine g_goto d_L_law_774 ?_
  exact ih _ _ k2 cp2 cq2 cs2
set_option maxRecDepth 100000 in
set_option maxHeartbeats 4000000 in
theorem law_19 {L0 : Nat} {xs : Nat → Int32} {i : Int32} {c nc ns : Nat} {I : Iv} {J : Jv} (hroom : nc ≤ room_1.cells ∧ ns ≤ room_1.slots) (hL : L0 ≤ 3072) (hi0 : 0 ≤ i) (hi6 : i.toInt + 6 ≤ (L0 : Int)) (hc : c ≤ 600) (h : LI c I J) (hcp : CP I) (hcq : CQx c I J) (hcs : CS I) (ih : ∀ (I2 : Iv) (J2 : Jv), LI (c + 1) I2 J2 → CP I2 → CQx (c + 1) I2 J2 → CS I2 → G m_L_law (RQL L0 xs) nc ns 1565 [some (.ref 5000000), some (.ref 0), some (.ref 78), some (.int i)] [] SHF I2 J2) : G m_L_law (RQL L0 xs) nc ns 777 [some (.ref 5000000), some (.ref 0), some (.ref 78), some (.int i)] [] SHF I J := by
  refine g_aload_n d_L_law_777 rfl ?_
  refine g_V0 d_L_law_778 cs_L_law_X9_thaw lk_RL_98 im_X9_thaw se_X9_thaw (o := 0) rfl rfl rfl (Nat.le_of_ble_eq_true rfl) ⟨rfl, rfl⟩ hroom (ct_X9_thaw  I J ) (fun r_ S_ I1 J2 q3 => ?_)
  obtain ⟨rfl, hc3, v4, rfl, hf4⟩ := q3
  refine g_st (st' := [.int v4]) rfl ?_
  have cp1 : CP I1 := by have q := fr_fn_X9_thaw I ki_rfl J; rw [hf4] at q; exact cp_ki hcp q
  have cs1 : CS I1 := by have q := fr3_fn_X9_thaw I ki3_rfl J; rw [hf4] at q; have q4 := fr4_fn_X9_thaw I kI4_rfl J; rw [hf4] at q4; exact cs_cls hcq hcs q q4
  have hx : XT I1 J2 = XT I J := hc3
  have k1 : LQ (c + 1) I1 J2 := lq_x hx h.1.mono
  have t1 : LIt c J2 := lit_x hx h.1.2.1
  refine g_pop d_L_law_781 rfl ?_
  refine g_aload_n d_L_law_782 rfl ?_
  refine g_V0 d_L_law_783 cs_L_law_X10_thaw lk_RL_101 im_X10_thaw se_X10_thaw (o := 78) rfl rfl rfl (Nat.le_of_ble_eq_true rfl) ⟨rfl, rfl⟩ hroom (ct_X10_thaw  I1 J2 k1.2.2.1 k1.2.2.2) (fun r_ S_ I5 J6 q7 => ?_)
  obtain ⟨rfl, hc7, v8, rfl, hf8, hr7⟩ := q7
  refine g_st (st' := [.int v8]) rfl ?_
  have cp2 : CP I5 := by have q := fr_fn_X10_thaw  I1 J2 ki_rfl; rw [hf8] at q; exact cp_ki (cp_beg J2 cp1) q
  obtain ⟨ceq, cq2⟩ := cq_thaw hc hcq hf4 hf8
  have cs2 : CS I5 := by have q := fr5_fn_X10_thaw  I1 J2 kI5_rfl; rw [hf8] at q; exact cs_rb cs1 q
  have kk : LI (c + 1) I5 J6 := by
    have ux := xt_lo hx (fun _ _ => rfl)
    exact li_d hx k1 (rl_up ux.1 ux.2 h.2) hr7
  have k2 := kk
  refine g_pop d_L_law_786 rfl ?_
  refine g_goto d_L_law_787 ?_
  exact ih _ _ k2 cp2 cq2 cs2
set_option maxRecDepth 100000 in
set_option maxHeartbeats 4000000 in
theorem law_20 {L0 : Nat} {xs : Nat → Int32} {i : Int32} {c nc ns : Nat} {I : Iv} {J : Jv} (hroom : nc ≤ room_1.cells ∧ ns ≤ room_1.slots) (hL : L0 ≤ 3072) (hi0 : 0 ≤ i) (hi6 : i.toInt + 6 ≤ (L0 : Int)) (hc : c ≤ 600) (h : LI c I J) (hcp : CP I) (hcq : CQx c I J) (hcs : CS I) (ih : ∀ (I2 : Iv) (J2 : Jv), LI (c + 1) I2 J2 → CP I2 → CQx (c + 1) I2 J2 → CS I2 → G m_L_law (RQL L0 xs) nc ns 1565 [some (.ref 5000000), some (.ref 0), some (.ref 78), some (.int i)] [] SHF I2 J2) : G m_L_law (RQL L0 xs) nc ns 790 [some (.ref 5000000), some (.ref 0), some (.ref 78), some (.int i)] [] SHF I J := by
  refine g_aload_n d_L_law_790 rfl ?_
  refine g_aload_n d_L_law_791 rfl ?_
  refine g_iload_n d_L_law_792 rfl ?_
  refine g_iconst (v := 1) d_L_law_793 kI_1 ?_
  refine g_iadd d_L_law_794 ?_
  refine g_sld d_L_law_795 (li_ix hi0 hi6 hL (by decide)) ?_
  refine g_topI (fun x1 ex1 => ?_)
  refine g_aload_n d_L_law_796 rfl ?_
  refine g_iload_n d_L_law_797 rfl ?_
  refine g_iconst (v := 2) d_L_law_798 kI_2 ?_
  refine g_iadd d_L_law_799 ?_
  refine g_sld d_L_law_800 (li_ix hi0 hi6 hL (by decide)) ?_
  refine g_topI (fun x2 ex2 => ?_)
  refine g_aload_n d_L_law_801 rfl ?_
  refine g_iload_n d_L_law_802 rfl ?_
  refine g_iconst (v := 3) d_L_law_803 kI_3 ?_
  refine g_iadd d_L_law_804 ?_
  refine g_sld d_L_law_805 (li_ix hi0 hi6 hL (by decide)) ?_
  refine g_topI (fun x3 ex3 => ?_)
  refine g_V3 d_L_law_806 cs_L_law_X9_sign lk_RL_102 im_X9_sign se_X9_sign (o := 0) rfl rfl rfl (Nat.le_of_ble_eq_true rfl) ⟨rfl, rfl⟩ hroom (ct_X9_sign x1 x2 x3 I J ) (fun r_ S_ I4 J5 q6 => ?_)
  obtain ⟨rfl, hc6, v7, rfl, hf7⟩ := q6
  refine g_st (st' := [.int v7]) rfl ?_
  have cp1 : CP I4 := by have q := fr_fn_X9_sign x1 x2 x3 I ki_rfl J; rw [hf7] at q; exact cp_ki hcp q
  have cq1 : CQx c I4 J5 := by have q := fr2_fn_X9_sign x1 x2 x3 I ki2_rfl J kj2_rfl; rw [hf7] at q; exact cq_cls hcq q
  have cs1 : CS I4 := by have q := fr3_fn_X9_sign x1 x2 x3 I ki3_rfl J; rw [hf7] at q; have q4 := fr4_fn_X9_sign x1 x2 x3 I kI4_rfl J; rw [hf7] at q4; exact cs_cls hcq hcs q q4
  have hx : XT I4 J5 = XT I J := hc6
  have k1 : LQ (c + 1) I4 J5 := lq_x hx h.1.mono
  have t1 : LIt c J5 := lit_x hx h.1.2.1
  refine g_pop d_L_law_809 rfl ?_
  refine g_aload_n d_L_law_810 rfl ?_
  refine g_aload_n d_L_law_811 rfl ?_
  refine g_iload_n d_L_law_812 rfl ?_
  refine g_iconst (v := 1) d_L_law_813 kI_1 ?_
  refine g_iadd d_L_law_814 ?_
  refine g_sld d_L_law_815 (li_ix hi0 hi6 hL (by decide)) ?_
  rw [← ex1]
  refine g_aload_n d_L_law_816 rfl ?_
  refine g_iload_n d_L_law_817 rfl ?_
  refine g_iconst (v := 2) d_L_law_818 kI_2 ?_
  refine g_iadd d_L_law_819 ?_
  refine g_sld d_L_law_820 (li_ix hi0 hi6 hL (by decide)) ?_
  rw [← ex2]
  refine g_aload_n d_L_law_821 rfl ?_
  refine g_iload_n d_L_law_822 rfl ?_
  refine g_iconst (v := 3) d_L_law_823 kI_3 ?_
  refine g_iadd d_L_law_824 ?_
  refine g_sld d_L_law_825 (li_ix hi0 hi6 hL (by decide)) ?_
  rw [← ex3]
  refine g_V3 d_L_law_826 cs_L_law_X10_sign lk_RL_106 im_X10_sign se_X10_sign (o := 78) rfl rfl rfl (Nat.le_of_ble_eq_true rfl) ⟨rfl, rfl⟩ hroom (ct_X10_sign x1 x2 x3 I4 J5 k1.2.2.1 k1.2.2.2) (fun r_ S_ I11 J12 q13 => ?_)
  obtain ⟨rfl, hc13, v14, rfl, hf14, hr13⟩ := q13
  refine g_st (st' := [.int v14]) rfl ?_
  have cp2 : CP I11 := by have q := fr_fn_X10_sign x1 x2 x3 I4 J5 ki_rfl; rw [hf14] at q; exact cp_ki (cp_beg J5 cp1) q
  have cq2 : CQx (c + 1) I11 J12 := by have q := fr2_fn_X10_sign x1 x2 x3 I4 J5 qb2_rfl; rw [hf14] at q; exact cq_rb cq1 q
  have ceq := cs_sign hcq hcs hf7 hf14
  have cs2 : CS I11 := by have q := fr5_fn_X10_sign x1 x2 x3 I4 J5 kI5_rfl; rw [hf14] at q; exact cs_rb cs1 q
  have kk : LI (c + 1) I11 J12 := by
    have ux := xt_lo hx (fun _ _ => rfl)
    exact li_d hx k1 (rl_up ux.1 ux.2 h.2) hr13
  have k2 := kk
  refine g_pop d_L_law_829 rfl ?_
  refine g_goto d_L_law_830 ?_
  exact ih _ _ k2 cp2 cq2 cs2
set_option maxRecDepth 100000 in
set_option maxHeartbeats 4000000 in
theorem law_21 {L0 : Nat} {xs : Nat → Int32} {i : Int32} {c nc ns : Nat} {I : Iv} {J : Jv} (hroom : nc ≤ room_1.cells ∧ ns ≤ room_1.slots) (hL : L0 ≤ 3072) (hi0 : 0 ≤ i) (hi6 : i.toInt + 6 ≤ (L0 : Int)) (hc : c ≤ 600) (h : LI c I J) (hcp : CP I) (hcq : CQx c I J) (hcs : CS I) (ih : ∀ (I2 : Iv) (J2 : Jv), LI (c + 1) I2 J2 → CP I2 → CQx (c + 1) I2 J2 → CS I2 → G m_L_law (RQL L0 xs) nc ns 1565 [some (.ref 5000000), some (.ref 0), some (.ref 78), some (.int i)] [] SHF I2 J2) : G m_L_law (RQL L0 xs) nc ns 833 [some (.ref 5000000), some (.ref 0), some (.ref 78), some (.int i)] [] SHF I J := by
  refine g_aload_n d_L_law_833 rfl ?_
  refine g_aload_n d_L_law_834 rfl ?_
  refine g_iload_n d_L_law_835 rfl ?_
  refine g_iconst (v := 1) d_L_law_836 kI_1 ?_
  refine g_iadd d_L_law_837 ?_
  refine g_sld d_L_law_838 (li_ix hi0 hi6 hL (by decide)) ?_
  refine g_topI (fun x1 ex1 => ?_)
  refine g_aload_n d_L_law_839 rfl ?_
  refine g_iload_n d_L_law_840 rfl ?_
  refine g_iconst (v := 2) d_L_law_841 kI_2 ?_
  refine g_iadd d_L_law_842 ?_
  refine g_sld d_L_law_843 (li_ix hi0 hi6 hL (by decide)) ?_
  refine g_topI (fun x2 ex2 => ?_)
  refine g_aload_n d_L_law_844 rfl ?_
  refine g_iload_n d_L_law_845 rfl ?_
  refine g_iconst (v := 3) d_L_law_846 kI_3 ?_
  refine g_iadd d_L_law_847 ?_
  refine g_sld d_L_law_848 (li_ix hi0 hi6 hL (by decide)) ?_
  refine g_topI (fun x3 ex3 => ?_)
  refine g_V3 d_L_law_849 cs_L_law_X9_seen lk_RL_107 im_X9_seen se_X9_seen (o := 0) rfl rfl rfl (Nat.le_of_ble_eq_true rfl) ⟨rfl, rfl⟩ hroom (ct_X9_seen x1 x2 x3 I J ) (fun r_ S_ I4 J5 q6 => ?_)
  obtain ⟨rfl, hc6, v7, rfl, hf7, hr6⟩ := q6
  refine g_st (st' := [.int v7]) rfl ?_
  have cp1 : CP I4 := by have q := fr_fn_X9_seen x1 x2 x3 I ki_rfl J; rw [hf7] at q; exact cp_ki hcp q
  have cq1 : CQx c I4 J5 := by have q := fr2_fn_X9_seen x1 x2 x3 I ki2_rfl J kj2_rfl; rw [hf7] at q; exact cq_cls hcq q
  have kt : LQ (c + 1) I4 J5 ∧ LIt c J5 := by
    rcases hr6 with ⟨g1, gv, hx⟩ | ⟨g1, g2, g3, gv, hx⟩ | ⟨g1, g2, g3, gv, hx⟩
    · exact ⟨lq_x hx (h.1.mono), lit_x hx h.1.2.1⟩
    · exact ⟨lq_x hx (h.1.mono), lit_x hx h.1.2.1⟩
    · exact ⟨lq_x hx (lq_free h.1.mono (by omega) (by omega)), lit_x hx h.1.2.1⟩
  obtain ⟨k1, t1⟩ := kt
  refine g_pop d_L_law_852 rfl ?_
  refine g_aload_n d_L_law_853 rfl ?_
  refine g_aload_n d_L_law_854 rfl ?_
  refine g_iload_n d_L_law_855 rfl ?_
  refine g_iconst (v := 1) d_L_law_856 kI_1 ?_
  refine g_iadd d_L_law_857 ?_
  refine g_sld d_L_law_858 (li_ix hi0 hi6 hL (by decide)) ?_
  rw [← ex1]
  refine g_aload_n d_L_law_859 rfl ?_
  refine g_iload_n d_L_law_860 rfl ?_
  refine g_iconst (v := 2) d_L_law_861 kI_2 ?_
  refine g_iadd d_L_law_862 ?_
  refine g_sld d_L_law_863 (li_ix hi0 hi6 hL (by decide)) ?_
  rw [← ex2]
  refine g_aload_n d_L_law_864 rfl ?_
  refine g_iload_n d_L_law_865 rfl ?_
  refine g_iconst (v := 3) d_L_law_866 kI_3 ?_
  refine g_iadd d_L_law_867 ?_
  refine g_sld d_L_law_868 (li_ix hi0 hi6 hL (by decide)) ?_
  rw [← ex3]
  refine g_V3 d_L_law_869 cs_L_law_X10_seen lk_RL_110 im_X10_seen se_X10_seen (o := 78) rfl rfl rfl (Nat.le_of_ble_eq_true rfl) ⟨rfl, rfl⟩ hroom (ct_X10_seen x1 x2 x3 I4 J5 k1.2.2.1 k1.2.2.2) (fun r_ S_ I11 J12 q13 => ?_)
  obtain ⟨rfl, hc13, v14, rfl, hf14, hr13⟩ := q13
  refine g_st (st' := [.int v14]) rfl ?_
  have cp2 : CP I11 := by have q := fr_fn_X10_seen x1 x2 x3 I4 ki_rfl J5; rw [hf14] at q; exact cp_ki cp1 q
  have cq2 : CQx (c + 1) I11 J12 := by have q := fr2_fn_X10_seen x1 x2 x3 I4 ki2_rfl J5 kj2_rfl; rw [hf14] at q; exact cq_rn cq1 q
  have cs2 := cs_seen hcs hf7 hf14
  have kk : LI (c + 1) I11 J12 := by
    rcases hr6 with ⟨g1, gv, hx⟩ | ⟨g1, g2, g3, gv, hx⟩ | ⟨g1, g2, g3, gv, hx⟩
    · skip
      obtain ⟨hq, hj⟩ := hr13
      rcases hq with ⟨m1, mv, hi⟩ | ⟨m1, m2, m3, mv, hi⟩ | ⟨m1, m2, m3, mv, hi⟩
      · skip
        have ux := xt_lo hx (fun _ _ => rfl)
        exact li_fin hx hi hj (fun _ _ => rfl) k1.1 k1.2.1 ((rl_up ux.1 ux.2 (h.2)))
      · skip
        exact absurd (show False by grind) id
      · skip
        exact absurd (show False by grind) id
    · skip
      obtain ⟨hq, hj⟩ := hr13
      rcases hq with ⟨m1, mv, hi⟩ | ⟨m1, m2, m3, mv, hi⟩ | ⟨m1, m2, m3, mv, hi⟩
      · skip
        exact absurd (show False by grind) id
      · skip
        have ux := xt_lo hx (fun _ _ => rfl)
        exact li_fin hx hi hj (fun _ _ => rfl) k1.1 k1.2.1 ((rl_up ux.1 ux.2 (h.2)))
      · skip
        exact absurd (show False by grind) id
    · skip
      obtain ⟨hq, hj⟩ := hr13
      rcases hq with ⟨m1, mv, hi⟩ | ⟨m1, m2, m3, mv, hi⟩ | ⟨m1, m2, m3, mv, hi⟩
      · skip
        exact absurd (show False by grind) id
      · skip
        exact absurd (show False by grind) id
      · skip
        have ux := xt_lo hx (hi_w (by omega))
        exact li_fin hx hi hj (lo_w (by omega)) k1.1 k1.2.1 (by rw [bgI_w (by omega), bgJ_w (by omega)]; exact ((rl_hi (wI_hi (bgI_hi ux.1)) (bgJ_hi ux.1 ux.2) (rl_seen h.2))))
  have k2 := kk
  refine g_pop d_L_law_872 rfl ?_
  refine g_goto d_L_law_873 ?_
  exact ih _ _ k2 cp2 cq2 cs2
set_option maxRecDepth 100000 in
set_option maxHeartbeats 4000000 in
theorem law_22 {L0 : Nat} {xs : Nat → Int32} {i : Int32} {c nc ns : Nat} {I : Iv} {J : Jv} (hroom : nc ≤ room_1.cells ∧ ns ≤ room_1.slots) (hL : L0 ≤ 3072) (hi0 : 0 ≤ i) (hi6 : i.toInt + 6 ≤ (L0 : Int)) (hc : c ≤ 600) (h : LI c I J) (hcp : CP I) (hcq : CQx c I J) (hcs : CS I) (ih : ∀ (I2 : Iv) (J2 : Jv), LI (c + 1) I2 J2 → CP I2 → CQx (c + 1) I2 J2 → CS I2 → G m_L_law (RQL L0 xs) nc ns 1565 [some (.ref 5000000), some (.ref 0), some (.ref 78), some (.int i)] [] SHF I2 J2) : G m_L_law (RQL L0 xs) nc ns 876 [some (.ref 5000000), some (.ref 0), some (.ref 78), some (.int i)] [] SHF I J := by
  refine g_aload_n d_L_law_876 rfl ?_
  refine g_V0 d_L_law_877 cs_L_law_X9_forget lk_RL_111 im_X9_forget se_X9_forget (o := 0) rfl rfl rfl (Nat.le_of_ble_eq_true rfl) ⟨rfl, rfl⟩ hroom (ct_X9_forget  I J ) (fun r_ S_ I1 J2 q3 => ?_)
  obtain ⟨rfl, hc3, v4, rfl, hf4, hr3⟩ := q3
  refine g_st (st' := [.int v4]) rfl ?_
  have cp1 : CP I1 := by have q := fr_fn_X9_forget I ki_rfl J; rw [hf4] at q; exact cp_ki hcp q
  have cq1 : CQx c I1 J2 := by have q := fr2_fn_X9_forget I ki2_rfl J kj2_rfl; rw [hf4] at q; exact cq_cls hcq q
  have hx := hc3
  obtain ⟨gv, gz⟩ := hr3
  have k1 : LQ (c + 1) I1 J2 := lq_x hx (lq_forg h.1.mono)
  have t1 : LIt c J2 := lit_x hx h.1.2.1
  refine g_aload_n d_L_law_880 rfl ?_
  refine g_V0 d_L_law_881 cs_L_law_X10_forget lk_RL_114 im_X10_forget se_X10_forget (o := 78) rfl rfl rfl (Nat.le_of_ble_eq_true rfl) ⟨rfl, rfl⟩ hroom (ct_X10_forget  I1 J2 k1.2.2.1 k1.2.2.2) (fun r_ S_ I5 J6 q7 => ?_)
  obtain ⟨rfl, hc7, v8, rfl, hf8, hr7⟩ := q7
  refine g_st (st' := [.int v8, .int v4]) rfl ?_
  have cp2 : CP I5 := by have q := fr_fn_X10_forget  I1 ki_rfl J2; rw [hf8] at q; exact cp_ki cp1 q
  have cq2 : CQx (c + 1) I5 J6 := by have q := fr2_fn_X10_forget  I1 ki2_rfl J2 kj2_rfl; rw [hf8] at q; exact cq_rn cq1 q
  have cs2 := cs_forget hcs hf4 hf8
  have kk : LI (c + 1) I5 J6 ∧ v4 = v8 := by
    obtain ⟨hi, hj⟩ := hc7
    obtain ⟨mv, mz⟩ := hr7
    have ux := xt_lo hx hi_r
    exact ⟨li_fin hx hi hj lo_r k1.1 k1.2.1 (by rw [bgI_r, bgJ_r]; exact ((rl_hi (rI2_hi (bgI_hi ux.1)) (bgJ_hi ux.1 ux.2) (rl_forg gz mz h.2)))), (by rw [gv, mv]; exact cn_congr 7 (fun j hj => by rw [(xt_lo hx hi_r).1 91 (by omega), ← bg_91 (I := I)]; exact h.2.2.2.2.2.2.2.1 j hj))⟩
  obtain ⟨k2, keq⟩ := kk
  refine g_icmp_eq d_L_law_884 (fun _ => ?_) (fun hb9 => ?_)
  · skip
    exact ih _ _ k2 cp2 cq2 cs2
  · skip
    exact absurd keq hb9
set_option maxRecDepth 100000 in
set_option maxHeartbeats 4000000 in
theorem law_23 {L0 : Nat} {xs : Nat → Int32} {i : Int32} {c nc ns : Nat} {I : Iv} {J : Jv} (hroom : nc ≤ room_1.cells ∧ ns ≤ room_1.slots) (hL : L0 ≤ 3072) (hi0 : 0 ≤ i) (hi6 : i.toInt + 6 ≤ (L0 : Int)) (hc : c ≤ 600) (h : LI c I J) (hcp : CP I) (hcq : CQx c I J) (hcs : CS I) (ih : ∀ (I2 : Iv) (J2 : Jv), LI (c + 1) I2 J2 → CP I2 → CQx (c + 1) I2 J2 → CS I2 → G m_L_law (RQL L0 xs) nc ns 1565 [some (.ref 5000000), some (.ref 0), some (.ref 78), some (.int i)] [] SHF I2 J2) : G m_L_law (RQL L0 xs) nc ns 889 [some (.ref 5000000), some (.ref 0), some (.ref 78), some (.int i)] [] SHF I J := by
  refine g_aload_n d_L_law_889 rfl ?_
  refine g_aload_n d_L_law_890 rfl ?_
  refine g_iload_n d_L_law_891 rfl ?_
  refine g_iconst (v := 1) d_L_law_892 kI_1 ?_
  refine g_iadd d_L_law_893 ?_
  refine g_sld d_L_law_894 (li_ix hi0 hi6 hL (by decide)) ?_
  refine g_topI (fun x1 ex1 => ?_)
  refine g_aload_n d_L_law_895 rfl ?_
  refine g_iload_n d_L_law_896 rfl ?_
  refine g_iconst (v := 2) d_L_law_897 kI_2 ?_
  refine g_iadd d_L_law_898 ?_
  refine g_sld d_L_law_899 (li_ix hi0 hi6 hL (by decide)) ?_
  refine g_topI (fun x2 ex2 => ?_)
  refine g_V2 d_L_law_900 cs_L_law_X9_prior lk_RL_115 im_X9_prior se_X9_prior (o := 0) rfl rfl rfl (Nat.le_of_ble_eq_true rfl) ⟨rfl, rfl⟩ hroom (ct_X9_prior x1 x2 I J ) (fun r_ S_ I3 J4 q5 => ?_)
  obtain ⟨rfl, hc5, v6, rfl, hf6, hr5⟩ := q5
  refine g_st (st' := [.int v6]) rfl ?_
  have cp1 : CP I3 := by have q := fr_fn_X9_prior x1 x2 I ki_rfl J; rw [hf6] at q; exact cp_ki hcp q
  have cq1 : CQx c I3 J4 := by have q := fr2_fn_X9_prior x1 x2 I ki2_rfl J kj2_rfl; rw [hf6] at q; exact cq_cls hcq q
  have kt : LQ (c + 1) I3 J4 ∧ LIt c J4 := by
    rcases hr5 with ⟨g1, g2, g3, g4, gv, hx⟩ | ⟨g1, gv, hx⟩ | ⟨g1, g2, g3, gv, hx⟩
    · exact ⟨lq_x hx (lq_pri h.1.mono ⟨g3, g4⟩), lit_x hx h.1.2.1⟩
    · exact ⟨lq_x hx (h.1.mono), lit_x hx h.1.2.1⟩
    · exact ⟨lq_x hx (h.1.mono), lit_x hx h.1.2.1⟩
  obtain ⟨k1, t1⟩ := kt
  refine g_pop d_L_law_903 rfl ?_
  refine g_aload_n d_L_law_904 rfl ?_
  refine g_aload_n d_L_law_905 rfl ?_
  refine g_iload_n d_L_law_906 rfl ?_
  refine g_iconst (v := 1) d_L_law_907 kI_1 ?_
  refine g_iadd d_L_law_908 ?_
  refine g_sld d_L_law_909 (li_ix hi0 hi6 hL (by decide)) ?_
  rw [← ex1]
  refine g_aload_n d_L_law_910 rfl ?_
  refine g_iload_n d_L_law_911 rfl ?_
  refine g_iconst (v := 2) d_L_law_912 kI_2 ?_
  refine g_iadd d_L_law_913 ?_
  refine g_sld d_L_law_914 (li_ix hi0 hi6 hL (by decide)) ?_
  rw [← ex2]
  refine g_V2 d_L_law_915 cs_L_law_X10_prior lk_RL_118 im_X10_prior se_X10_prior (o := 78) rfl rfl rfl (Nat.le_of_ble_eq_true rfl) ⟨rfl, rfl⟩ hroom (ct_X10_prior x1 x2 I3 J4 k1.2.2.1 k1.2.2.2) (fun r_ S_ I9 J10 q11 => ?_)
  obtain ⟨rfl, hc11, v12, rfl, hf12, hr11⟩ := q11
  refine g_st (st' := [.int v12]) rfl ?_
  have cp2 : CP I9 := by have q := fr_fn_X10_prior x1 x2 I3 J4 ki_rfl; rw [hf12] at q; exact cp_ki (cp_beg J4 cp1) q
  have cq2 : CQx (c + 1) I9 J10 := by have q := fr2_fn_X10_prior x1 x2 I3 J4 qb2_rfl; rw [hf12] at q; exact cq_rb cq1 q
  have cs2 := cs_prior hcs hf6 hf12
  have kk : LI (c + 1) I9 J10 := by
    rcases hr5 with ⟨g1, g2, g3, g4, gv, hx⟩ | ⟨g1, gv, hx⟩ | ⟨g1, g2, g3, gv, hx⟩
    · skip
      obtain ⟨hq, hj⟩ := hr11
      rcases hq with ⟨m1, mv, hi⟩ | ⟨m1, m2, m3, mv, hi⟩ | ⟨m1, m2, m3, m4, mv, hi⟩
      · skip
        exact absurd (show False by grind) id
      · skip
        exact absurd (show False by grind) id
      · skip
        have ux := xt_lo hx (hi_w (by omega))
        exact li_fin hx hi hj (lo_bw (by omega)) k1.1 (lit_bg k1.2.1) (rl_bg (bg_nw (by omega)) ((rl_hi (wI_hi (bgI_hi ux.1)) (bgJ_hi ux.1 ux.2) (rl_pri h.2))))
    · skip
      obtain ⟨hq, hj⟩ := hr11
      rcases hq with ⟨m1, mv, hi⟩ | ⟨m1, m2, m3, mv, hi⟩ | ⟨m1, m2, m3, m4, mv, hi⟩
      · skip
        have ux := xt_lo hx (fun _ _ => rfl)
        exact li_fin hx hi hj lo_bg k1.1 (lit_bg k1.2.1) (rl_bg bg_ne (rl_up ux.1 ux.2 (h.2)))
      · skip
        exact absurd (show False by grind) id
      · skip
        exact absurd (show False by grind) id
    · skip
      obtain ⟨hq, hj⟩ := hr11
      rcases hq with ⟨m1, mv, hi⟩ | ⟨m1, m2, m3, mv, hi⟩ | ⟨m1, m2, m3, m4, mv, hi⟩
      · skip
        exact absurd (show False by grind) id
      · skip
        have ux := xt_lo hx (fun _ _ => rfl)
        exact li_fin hx hi hj lo_bg k1.1 (lit_bg k1.2.1) (rl_bg bg_ne (rl_up ux.1 ux.2 (h.2)))
      · skip
        exact absurd (show False by grind) id
  have k2 := kk
  refine g_pop d_L_law_918 rfl ?_
  refine g_goto d_L_law_919 ?_
  exact ih _ _ k2 cp2 cq2 cs2
set_option maxRecDepth 100000 in
set_option maxHeartbeats 4000000 in
theorem law_24 {L0 : Nat} {xs : Nat → Int32} {i : Int32} {c nc ns : Nat} {I : Iv} {J : Jv} (hroom : nc ≤ room_1.cells ∧ ns ≤ room_1.slots) (hL : L0 ≤ 3072) (hi0 : 0 ≤ i) (hi6 : i.toInt + 6 ≤ (L0 : Int)) (hc : c ≤ 600) (h : LI c I J) (hcp : CP I) (hcq : CQx c I J) (hcs : CS I) (ih : ∀ (I2 : Iv) (J2 : Jv), LI (c + 1) I2 J2 → CP I2 → CQx (c + 1) I2 J2 → CS I2 → G m_L_law (RQL L0 xs) nc ns 1565 [some (.ref 5000000), some (.ref 0), some (.ref 78), some (.int i)] [] SHF I2 J2) : G m_L_law (RQL L0 xs) nc ns 922 [some (.ref 5000000), some (.ref 0), some (.ref 78), some (.int i)] [] SHF I J := by
  refine g_aload_n d_L_law_922 rfl ?_
  refine g_aload_n d_L_law_923 rfl ?_
  refine g_iload_n d_L_law_924 rfl ?_
  refine g_iconst (v := 1) d_L_law_925 kI_1 ?_
  refine g_iadd d_L_law_926 ?_
  refine g_sld d_L_law_927 (li_ix hi0 hi6 hL (by decide)) ?_
  refine g_topI (fun x1 ex1 => ?_)
  refine g_aload_n d_L_law_928 rfl ?_
  refine g_iload_n d_L_law_929 rfl ?_
  refine g_iconst (v := 2) d_L_law_930 kI_2 ?_
  refine g_iadd d_L_law_931 ?_
  refine g_sld d_L_law_932 (li_ix hi0 hi6 hL (by decide)) ?_
  refine g_topI (fun x2 ex2 => ?_)
  refine g_V2 d_L_law_933 cs_L_law_X9_bother lk_RL_119 im_X9_bother se_X9_bother (o := 0) rfl rfl rfl (Nat.le_of_ble_eq_true rfl) ⟨rfl, rfl⟩ hroom (ct_X9_bother x1 x2 I J ) (fun r_ S_ I3 J4 q5 => ?_)
  obtain ⟨rfl, hc5, v6, rfl, hf6, hr5⟩ := q5
  refine g_st (st' := [.int v6]) rfl ?_
  have cp1 : CP I3 := by have q := fr_fn_X9_bother x1 x2 I ki_rfl J; rw [hf6] at q; exact cp_ki hcp q
  have cq1 : CQx c I3 J4 := by have q := fr2_fn_X9_bother x1 x2 I ki2_rfl J kj2_rfl; rw [hf6] at q; exact cq_cls hcq q
  have kt : LQ (c + 1) I3 J4 ∧ LIt c J4 := by
    rcases hr5 with ⟨g1, g2, g3, g4, gv, hx⟩ | ⟨g1, gv, hx⟩ | ⟨g1, g2, g3, gv, hx⟩
    · exact ⟨lq_x hx (lq_free h.1.mono (by omega) (by omega)), lit_x hx h.1.2.1⟩
    · exact ⟨lq_x hx (h.1.mono), lit_x hx h.1.2.1⟩
    · exact ⟨lq_x hx (h.1.mono), lit_x hx h.1.2.1⟩
  obtain ⟨k1, t1⟩ := kt
  refine g_pop d_L_law_936 rfl ?_
  refine g_aload_n d_L_law_937 rfl ?_
  refine g_aload_n d_L_law_938 rfl ?_
  refine g_iload_n d_L_law_939 rfl ?_
  refine g_iconst (v := 1) d_L_law_940 kI_1 ?_
  refine g_iadd d_L_law_941 ?_
  refine g_sld d_L_law_942 (li_ix hi0 hi6 hL (by decide)) ?_
  rw [← ex1]
  refine g_aload_n d_L_law_943 rfl ?_
  refine g_iload_n d_L_law_944 rfl ?_
  refine g_iconst (v := 2) d_L_law_945 kI_2 ?_
  refine g_iadd d_L_law_946 ?_
  refine g_sld d_L_law_947 (li_ix hi0 hi6 hL (by decide)) ?_
  rw [← ex2]
  refine g_V2 d_L_law_948 cs_L_law_X10_bother lk_RL_122 im_X10_bother se_X10_bother (o := 78) rfl rfl rfl (Nat.le_of_ble_eq_true rfl) ⟨rfl, rfl⟩ hroom (ct_X10_bother x1 x2 I3 J4 k1.2.2.1 k1.2.2.2) (fun r_ S_ I9 J10 q11 => ?_)
  obtain ⟨rfl, hc11, v12, rfl, hf12, hr11⟩ := q11
  refine g_st (st' := [.int v12]) rfl ?_
  have cp2 : CP I9 := by have q := fr_fn_X10_bother x1 x2 I3 ki_rfl J4; rw [hf12] at q; exact cp_ki cp1 q
  have cq2 : CQx (c + 1) I9 J10 := by have q := fr2_fn_X10_bother x1 x2 I3 ki2_rfl J4 kj2_rfl; rw [hf12] at q; exact cq_rn cq1 q
  have cs2 := cs_bother hcs hf6 hf12
  have kk : LI (c + 1) I9 J10 := by
    rcases hr5 with ⟨g1, g2, g3, g4, gv, hx⟩ | ⟨g1, gv, hx⟩ | ⟨g1, g2, g3, gv, hx⟩
    · skip
      obtain ⟨hq, hj⟩ := hr11
      rcases hq with ⟨m1, mv, hi⟩ | ⟨m1, m2, m3, mv, hi⟩ | ⟨m1, m2, m3, m4, mv, hi⟩
      · skip
        exact absurd (show False by grind) id
      · skip
        exact absurd (show False by grind) id
      · skip
        have ux := xt_lo hx (hi_w (by omega))
        exact li_fin hx hi hj (lo_w (by omega)) k1.1 k1.2.1 (by rw [bgI_w (by omega), bgJ_w (by omega)]; exact ((rl_hi (wI_hi (bgI_hi ux.1)) (bgJ_hi ux.1 ux.2) (rl_both h.2))))
    · skip
      obtain ⟨hq, hj⟩ := hr11
      rcases hq with ⟨m1, mv, hi⟩ | ⟨m1, m2, m3, mv, hi⟩ | ⟨m1, m2, m3, m4, mv, hi⟩
      · skip
        have ux := xt_lo hx (fun _ _ => rfl)
        exact li_fin hx hi hj (fun _ _ => rfl) k1.1 k1.2.1 ((rl_up ux.1 ux.2 (h.2)))
      · skip
        exact absurd (show False by grind) id
      · skip
        exact absurd (show False by grind) id
    · skip
      obtain ⟨hq, hj⟩ := hr11
      rcases hq with ⟨m1, mv, hi⟩ | ⟨m1, m2, m3, mv, hi⟩ | ⟨m1, m2, m3, m4, mv, hi⟩
      · skip
        exact absurd (show False by grind) id
      · skip
        have ux := xt_lo hx (fun _ _ => rfl)
        exact li_fin hx hi hj (fun _ _ => rfl) k1.1 k1.2.1 ((rl_up ux.1 ux.2 (h.2)))
      · skip
        exact absurd (show False by grind) id
  have k2 := kk
  refine g_pop d_L_law_951 rfl ?_
  refine g_goto d_L_law_952 ?_
  exact ih _ _ k2 cp2 cq2 cs2
set_option maxRecDepth 100000 in
set_option maxHeartbeats 4000000 in
theorem law_25 {L0 : Nat} {xs : Nat → Int32} {i : Int32} {c nc ns : Nat} {I : Iv} {J : Jv} (hroom : nc ≤ room_1.cells ∧ ns ≤ room_1.slots) (hL : L0 ≤ 3072) (hi0 : 0 ≤ i) (hi6 : i.toInt + 6 ≤ (L0 : Int)) (hc : c ≤ 600) (h : LI c I J) (hcp : CP I) (hcq : CQx c I J) (hcs : CS I) (ih : ∀ (I2 : Iv) (J2 : Jv), LI (c + 1) I2 J2 → CP I2 → CQx (c + 1) I2 J2 → CS I2 → G m_L_law (RQL L0 xs) nc ns 1565 [some (.ref 5000000), some (.ref 0), some (.ref 78), some (.int i)] [] SHF I2 J2) : G m_L_law (RQL L0 xs) nc ns 955 [some (.ref 5000000), some (.ref 0), some (.ref 78), some (.int i)] [] SHF I J := by
  refine g_aload_n d_L_law_955 rfl ?_
  refine g_aload_n d_L_law_956 rfl ?_
  refine g_iload_n d_L_law_957 rfl ?_
  refine g_iconst (v := 1) d_L_law_958 kI_1 ?_
  refine g_iadd d_L_law_959 ?_
  refine g_sld d_L_law_960 (li_ix hi0 hi6 hL (by decide)) ?_
  refine g_topI (fun x1 ex1 => ?_)
  refine g_aload_n d_L_law_961 rfl ?_
  refine g_iload_n d_L_law_962 rfl ?_
  refine g_iconst (v := 2) d_L_law_963 kI_2 ?_
  refine g_iadd d_L_law_964 ?_
  refine g_sld d_L_law_965 (li_ix hi0 hi6 hL (by decide)) ?_
  refine g_topI (fun x2 ex2 => ?_)
  refine g_V2 d_L_law_966 cs_L_law_X9_odds lk_RL_123 im_X9_odds se_X9_odds (o := 0) rfl rfl rfl (Nat.le_of_ble_eq_true rfl) ⟨rfl, rfl⟩ hroom (ct_X9_odds x1 x2 I J h.1.1.1) (fun r_ S_ I3 J4 q5 => ?_)
  obtain ⟨rfl, hc5, v6, rfl, hf6⟩ := q5
  refine g_st (st' := [.int v6]) rfl ?_
  have cp1 : CP I3 := by have q := fr_fn_X9_odds x1 x2 I ki_rfl J; rw [hf6] at q; exact cp_ki hcp q
  have cq1 : CQx c I3 J4 := by have q := fr2_fn_X9_odds x1 x2 I ki2_rfl J kj2_rfl; rw [hf6] at q; exact cq_cls hcq q
  have cs1 : CS I3 := by have q := fr3_fn_X9_odds x1 x2 I ki3_rfl J; rw [hf6] at q; have q4 := fr4_fn_X9_odds x1 x2 I kI4_rfl J; rw [hf6] at q4; exact cs_cls hcq hcs q q4
  have hx : XT I3 J4 = XT I J := hc5
  have k1 : LQ (c + 1) I3 J4 := lq_x hx h.1.mono
  have t1 : LIt c J4 := lit_x hx h.1.2.1
  refine g_pop d_L_law_969 rfl ?_
  refine g_aload_n d_L_law_970 rfl ?_
  refine g_aload_n d_L_law_971 rfl ?_
  refine g_iload_n d_L_law_972 rfl ?_
  refine g_iconst (v := 1) d_L_law_973 kI_1 ?_
  refine g_iadd d_L_law_974 ?_
  refine g_sld d_L_law_975 (li_ix hi0 hi6 hL (by decide)) ?_
  rw [← ex1]
  refine g_aload_n d_L_law_976 rfl ?_
  refine g_iload_n d_L_law_977 rfl ?_
  refine g_iconst (v := 2) d_L_law_978 kI_2 ?_
  refine g_iadd d_L_law_979 ?_
  refine g_sld d_L_law_980 (li_ix hi0 hi6 hL (by decide)) ?_
  rw [← ex2]
  refine g_V2 d_L_law_981 cs_L_law_X10_odds lk_RL_126 im_X10_odds se_X10_odds (o := 78) rfl rfl rfl (Nat.le_of_ble_eq_true rfl) ⟨rfl, rfl⟩ hroom (ct_X10_odds x1 x2 I3 J4 k1.2.2.1 k1.2.2.2) (fun r_ S_ I9 J10 q11 => ?_)
  obtain ⟨rfl, hc11, v12, rfl, hf12, hr11⟩ := q11
  refine g_st (st' := [.int v12]) rfl ?_
  have cp2 : CP I9 := by have q := fr_fn_X10_odds x1 x2 I3 J4 ki_rfl; rw [hf12] at q; exact cp_ki (cp_beg J4 cp1) q
  have cq2 : CQx (c + 1) I9 J10 := by have q := fr2_fn_X10_odds x1 x2 I3 J4 qb2_rfl; rw [hf12] at q; exact cq_rb cq1 q
  have ceq := cs_odds hcq hcs hf6 hf12
  have cs2 : CS I9 := by have q := fr5_fn_X10_odds x1 x2 I3 J4 kI5_rfl; rw [hf12] at q; exact cs_rb cs1 q
  have kk : LI (c + 1) I9 J10 := by
    have ux := xt_lo hx (fun _ _ => rfl)
    exact li_d hx k1 (rl_up ux.1 ux.2 h.2) hr11
  have k2 := kk
  refine g_pop d_L_law_984 rfl ?_
  refine g_goto d_L_law_985 ?_
  exact ih _ _ k2 cp2 cq2 cs2
set_option maxRecDepth 100000 in
set_option maxHeartbeats 4000000 in
theorem law_26 {L0 : Nat} {xs : Nat → Int32} {i : Int32} {c nc ns : Nat} {I : Iv} {J : Jv} (hroom : nc ≤ room_1.cells ∧ ns ≤ room_1.slots) (hL : L0 ≤ 3072) (hi0 : 0 ≤ i) (hi6 : i.toInt + 6 ≤ (L0 : Int)) (hc : c ≤ 600) (h : LI c I J) (hcp : CP I) (hcq : CQx c I J) (hcs : CS I) (ih : ∀ (I2 : Iv) (J2 : Jv), LI (c + 1) I2 J2 → CP I2 → CQx (c + 1) I2 J2 → CS I2 → G m_L_law (RQL L0 xs) nc ns 1565 [some (.ref 5000000), some (.ref 0), some (.ref 78), some (.int i)] [] SHF I2 J2) : G m_L_law (RQL L0 xs) nc ns 988 [some (.ref 5000000), some (.ref 0), some (.ref 78), some (.int i)] [] SHF I J := by
  refine g_aload_n d_L_law_988 rfl ?_
  refine g_aload_n d_L_law_989 rfl ?_
  refine g_iload_n d_L_law_990 rfl ?_
  refine g_iconst (v := 1) d_L_law_991 kI_1 ?_
  refine g_iadd d_L_law_992 ?_
  refine g_sld d_L_law_993 (li_ix hi0 hi6 hL (by decide)) ?_
  refine g_topI (fun x1 ex1 => ?_)
  refine g_aload_n d_L_law_994 rfl ?_
  refine g_iload_n d_L_law_995 rfl ?_
  refine g_iconst (v := 2) d_L_law_996 kI_2 ?_
  refine g_iadd d_L_law_997 ?_
  refine g_sld d_L_law_998 (li_ix hi0 hi6 hL (by decide)) ?_
  refine g_topI (fun x2 ex2 => ?_)
  refine g_V2 d_L_law_999 cs_L_law_X9_each lk_RL_127 im_X9_each se_X9_each (o := 0) rfl rfl rfl (Nat.le_of_ble_eq_true rfl) ⟨rfl, rfl⟩ hroom (ct_X9_each x1 x2 I J h.1.1.1) (fun r_ S_ I3 J4 q5 => ?_)
  obtain ⟨rfl, hc5, v6, rfl, hf6⟩ := q5
  refine g_st (st' := [.int v6]) rfl ?_
  have cp1 : CP I3 := by have q := fr_fn_X9_each x1 x2 I ki_rfl J; rw [hf6] at q; exact cp_ki hcp q
  have cq1 : CQx c I3 J4 := by have q := fr2_fn_X9_each x1 x2 I ki2_rfl J kj2_rfl; rw [hf6] at q; exact cq_cls hcq q
  have cs1 : CS I3 := by have q := fr3_fn_X9_each x1 x2 I ki3_rfl J; rw [hf6] at q; have q4 := fr4_fn_X9_each x1 x2 I kI4_rfl J; rw [hf6] at q4; exact cs_cls hcq hcs q q4
  have hx : XT I3 J4 = XT I J := hc5
  have k1 : LQ (c + 1) I3 J4 := lq_x hx h.1.mono
  have t1 : LIt c J4 := lit_x hx h.1.2.1
  refine g_pop d_L_law_1002 rfl ?_
  refine g_aload_n d_L_law_1003 rfl ?_
  refine g_aload_n d_L_law_1004 rfl ?_
  refine g_iload_n d_L_law_1005 rfl ?_
  refine g_iconst (v := 1) d_L_law_1006 kI_1 ?_
  refine g_iadd d_L_law_1007 ?_
  refine g_sld d_L_law_1008 (li_ix hi0 hi6 hL (by decide)) ?_
  rw [← ex1]
  refine g_aload_n d_L_law_1009 rfl ?_
  refine g_iload_n d_L_law_1010 rfl ?_
  refine g_iconst (v := 2) d_L_law_1011 kI_2 ?_
  refine g_iadd d_L_law_1012 ?_
  refine g_sld d_L_law_1013 (li_ix hi0 hi6 hL (by decide)) ?_
  rw [← ex2]
  refine g_V2 d_L_law_1014 cs_L_law_X10_each lk_RL_130 im_X10_each se_X10_each (o := 78) rfl rfl rfl (Nat.le_of_ble_eq_true rfl) ⟨rfl, rfl⟩ hroom (ct_X10_each x1 x2 I3 J4 k1.2.2.1 k1.2.2.2) (fun r_ S_ I9 J10 q11 => ?_)
  obtain ⟨rfl, hc11, v12, rfl, hf12, hr11⟩ := q11
  refine g_st (st' := [.int v12]) rfl ?_
  have cp2 : CP I9 := by have q := fr_fn_X10_each x1 x2 I3 J4 ki_rfl; rw [hf12] at q; exact cp_ki (cp_beg J4 cp1) q
  have cq2 : CQx (c + 1) I9 J10 := by have q := fr2_fn_X10_each x1 x2 I3 J4 qb2_rfl; rw [hf12] at q; exact cq_rb cq1 q
  have ceq := cs_each hcq hcs hf6 hf12
  have cs2 : CS I9 := by have q := fr5_fn_X10_each x1 x2 I3 J4 kI5_rfl; rw [hf12] at q; exact cs_rb cs1 q
  have kk : LI (c + 1) I9 J10 := by
    have ux := xt_lo hx (fun _ _ => rfl)
    exact li_d hx k1 (rl_up ux.1 ux.2 h.2) hr11
  have k2 := kk
  refine g_pop d_L_law_1017 rfl ?_
  refine g_goto d_L_law_1018 ?_
  exact ih _ _ k2 cp2 cq2 cs2
set_option maxRecDepth 100000 in
set_option maxHeartbeats 4000000 in
theorem law_27 {L0 : Nat} {xs : Nat → Int32} {i : Int32} {c nc ns : Nat} {I : Iv} {J : Jv} (hroom : nc ≤ room_1.cells ∧ ns ≤ room_1.slots) (hL : L0 ≤ 3072) (hi0 : 0 ≤ i) (hi6 : i.toInt + 6 ≤ (L0 : Int)) (hc : c ≤ 600) (h : LI c I J) (hcp : CP I) (hcq : CQx c I J) (hcs : CS I) (ih : ∀ (I2 : Iv) (J2 : Jv), LI (c + 1) I2 J2 → CP I2 → CQx (c + 1) I2 J2 → CS I2 → G m_L_law (RQL L0 xs) nc ns 1565 [some (.ref 5000000), some (.ref 0), some (.ref 78), some (.int i)] [] SHF I2 J2) : G m_L_law (RQL L0 xs) nc ns 1021 [some (.ref 5000000), some (.ref 0), some (.ref 78), some (.int i)] [] SHF I J := by
  refine g_aload_n d_L_law_1021 rfl ?_
  refine g_aload_n d_L_law_1022 rfl ?_
  refine g_iload_n d_L_law_1023 rfl ?_
  refine g_iconst (v := 1) d_L_law_1024 kI_1 ?_
  refine g_iadd d_L_law_1025 ?_
  refine g_sld d_L_law_1026 (li_ix hi0 hi6 hL (by decide)) ?_
  refine g_topI (fun x1 ex1 => ?_)
  refine g_aload_n d_L_law_1027 rfl ?_
  refine g_iload_n d_L_law_1028 rfl ?_
  refine g_iconst (v := 2) d_L_law_1029 kI_2 ?_
  refine g_iadd d_L_law_1030 ?_
  refine g_sld d_L_law_1031 (li_ix hi0 hi6 hL (by decide)) ?_
  refine g_topI (fun x2 ex2 => ?_)
  refine g_V2 d_L_law_1032 cs_L_law_X9_tells lk_RL_131 im_X9_tells se_X9_tells (o := 0) rfl rfl rfl (Nat.le_of_ble_eq_true rfl) ⟨rfl, rfl⟩ hroom (ct_X9_tells x1 x2 I J h.1.1.1) (fun r_ S_ I3 J4 q5 => ?_)
  obtain ⟨rfl, hc5, v6, rfl, hf6⟩ := q5
  refine g_st (st' := [.int v6]) rfl ?_
  have cp1 : CP I3 := by have q := fr_fn_X9_tells x1 x2 I ki_rfl J; rw [hf6] at q; exact cp_ki hcp q
  have cq1 : CQx c I3 J4 := by have q := fr2_fn_X9_tells x1 x2 I ki2_rfl J kj2_rfl; rw [hf6] at q; exact cq_cls hcq q
  have cs1 : CS I3 := by have q := fr3_fn_X9_tells x1 x2 I ki3_rfl J; rw [hf6] at q; have q4 := fr4_fn_X9_tells x1 x2 I kI4_rfl J; rw [hf6] at q4; exact cs_cls hcq hcs q q4
  have hx : XT I3 J4 = XT I J := hc5
  have k1 : LQ (c + 1) I3 J4 := lq_x hx h.1.mono
  have t1 : LIt c J4 := lit_x hx h.1.2.1
  refine g_pop d_L_law_1035 rfl ?_
  refine g_aload_n d_L_law_1036 rfl ?_
  refine g_aload_n d_L_law_1037 rfl ?_
  refine g_iload_n d_L_law_1038 rfl ?_
  refine g_iconst (v := 1) d_L_law_1039 kI_1 ?_
  refine g_iadd d_L_law_1040 ?_
  refine g_sld d_L_law_1041 (li_ix hi0 hi6 hL (by decide)) ?_
  rw [← ex1]
  refine g_aload_n d_L_law_1042 rfl ?_
  refine g_iload_n d_L_law_1043 rfl ?_
  refine g_iconst (v := 2) d_L_law_1044 kI_2 ?_
  refine g_iadd d_L_law_1045 ?_
  refine g_sld d_L_law_1046 (li_ix hi0 hi6 hL (by decide)) ?_
  rw [← ex2]
  refine g_V2 d_L_law_1047 cs_L_law_X10_tells lk_RL_134 im_X10_tells se_X10_tells (o := 78) rfl rfl rfl (Nat.le_of_ble_eq_true rfl) ⟨rfl, rfl⟩ hroom (ct_X10_tells x1 x2 I3 J4 k1.2.2.1 k1.2.2.2) (fun r_ S_ I9 J10 q11 => ?_)
  obtain ⟨rfl, hc11, v12, rfl, hf12, hr11⟩ := q11
  refine g_st (st' := [.int v12]) rfl ?_
  have cp2 : CP I9 := by have q := fr_fn_X10_tells x1 x2 I3 J4 ki_rfl; rw [hf12] at q; exact cp_ki (cp_beg J4 cp1) q
  have cq2 : CQx (c + 1) I9 J10 := by have q := fr2_fn_X10_tells x1 x2 I3 J4 qb2_rfl; rw [hf12] at q; exact cq_rb cq1 q
  have ceq := cs_tells hcq hcs hf6 hf12
  have cs2 : CS I9 := by have q := fr5_fn_X10_tells x1 x2 I3 J4 kI5_rfl; rw [hf12] at q; exact cs_rb cs1 q
  have kk : LI (c + 1) I9 J10 := by
    have ux := xt_lo hx (fun _ _ => rfl)
    exact li_d hx k1 (rl_up ux.1 ux.2 h.2) hr11
  have k2 := kk
  refine g_pop d_L_law_1050 rfl ?_
  refine g_goto d_L_law_1051 ?_
  exact ih _ _ k2 cp2 cq2 cs2
set_option maxRecDepth 100000 in
set_option maxHeartbeats 4000000 in
theorem law_28 {L0 : Nat} {xs : Nat → Int32} {i : Int32} {c nc ns : Nat} {I : Iv} {J : Jv} (hroom : nc ≤ room_1.cells ∧ ns ≤ room_1.slots) (hL : L0 ≤ 3072) (hi0 : 0 ≤ i) (hi6 : i.toInt + 6 ≤ (L0 : Int)) (hc : c ≤ 600) (h : LI c I J) (hcp : CP I) (hcq : CQx c I J) (hcs : CS I) (ih : ∀ (I2 : Iv) (J2 : Jv), LI (c + 1) I2 J2 → CP I2 → CQx (c + 1) I2 J2 → CS I2 → G m_L_law (RQL L0 xs) nc ns 1565 [some (.ref 5000000), some (.ref 0), some (.ref 78), some (.int i)] [] SHF I2 J2) : G m_L_law (RQL L0 xs) nc ns 1054 [some (.ref 5000000), some (.ref 0), some (.ref 78), some (.int i)] [] SHF I J := by
  refine g_aload_n d_L_law_1054 rfl ?_
  refine g_aload_n d_L_law_1055 rfl ?_
  refine g_iload_n d_L_law_1056 rfl ?_
  refine g_iconst (v := 1) d_L_law_1057 kI_1 ?_
  refine g_iadd d_L_law_1058 ?_
  refine g_sld d_L_law_1059 (li_ix hi0 hi6 hL (by decide)) ?_
  refine g_topI (fun x1 ex1 => ?_)
  refine g_V1 d_L_law_1060 cs_L_law_X9_next lk_RL_135 im_X9_next se_X9_next (o := 0) rfl rfl rfl (Nat.le_of_ble_eq_true rfl) ⟨rfl, rfl⟩ hroom (ct_X9_next x1 I J h.1.1.1) (fun r_ S_ I2 J3 q4 => ?_)
  obtain ⟨rfl, hc4, v5, rfl, hf5⟩ := q4
  refine g_st (st' := [.int v5]) rfl ?_
  have cp1 : CP I2 := by have q := fr_fn_X9_next x1 I ki_rfl J; rw [hf5] at q; exact cp_ki hcp q
  have cq1 : CQx c I2 J3 := by have q := fr2_fn_X9_next x1 I ki2_rfl J kj2_rfl; rw [hf5] at q; exact cq_cls hcq q
  have cs1 : CS I2 := by have q := fr3_fn_X9_next x1 I ki3_rfl J; rw [hf5] at q; have q4 := fr4_fn_X9_next x1 I kI4_rfl J; rw [hf5] at q4; exact cs_cls hcq hcs q q4
  have hx : XT I2 J3 = XT I J := hc4
  have k1 : LQ (c + 1) I2 J3 := lq_x hx h.1.mono
  have t1 : LIt c J3 := lit_x hx h.1.2.1
  refine g_pop d_L_law_1063 rfl ?_
  refine g_aload_n d_L_law_1064 rfl ?_
  refine g_aload_n d_L_law_1065 rfl ?_
  refine g_iload_n d_L_law_1066 rfl ?_
  refine g_iconst (v := 1) d_L_law_1067 kI_1 ?_
  refine g_iadd d_L_law_1068 ?_
  refine g_sld d_L_law_1069 (li_ix hi0 hi6 hL (by decide)) ?_
  rw [← ex1]
  refine g_V1 d_L_law_1070 cs_L_law_X10_next lk_RL_138 im_X10_next se_X10_next (o := 78) rfl rfl rfl (Nat.le_of_ble_eq_true rfl) ⟨rfl, rfl⟩ hroom (ct_X10_next x1 I2 J3 k1.2.2.1 k1.2.2.2) (fun r_ S_ I7 J8 q9 => ?_)
  obtain ⟨rfl, hc9, v10, rfl, hf10, hr9⟩ := q9
  refine g_st (st' := [.int v10]) rfl ?_
  have cp2 : CP I7 := by have q := fr_fn_X10_next x1 I2 J3 ki_rfl; rw [hf10] at q; exact cp_ki (cp_beg J3 cp1) q
  have cq2 : CQx (c + 1) I7 J8 := by have q := fr2_fn_X10_next x1 I2 J3 qb2_rfl; rw [hf10] at q; exact cq_rb cq1 q
  have ceq := cs_next hcq hcs hf5 hf10
  have cs2 : CS I7 := by have q := fr5_fn_X10_next x1 I2 J3 kI5_rfl; rw [hf10] at q; exact cs_rb cs1 q
  have kk : LI (c + 1) I7 J8 := by
    have ux := xt_lo hx (fun _ _ => rfl)
    exact li_d hx k1 (rl_up ux.1 ux.2 h.2) hr9
  have k2 := kk
  refine g_pop d_L_law_1073 rfl ?_
  refine g_goto d_L_law_1074 ?_
  exact ih _ _ k2 cp2 cq2 cs2
set_option maxRecDepth 100000 in
set_option maxHeartbeats 4000000 in
theorem law_29 {L0 : Nat} {xs : Nat → Int32} {i : Int32} {c nc ns : Nat} {I : Iv} {J : Jv} (hroom : nc ≤ room_1.cells ∧ ns ≤ room_1.slots) (hL : L0 ≤ 3072) (hi0 : 0 ≤ i) (hi6 : i.toInt + 6 ≤ (L0 : Int)) (hc : c ≤ 600) (h : LI c I J) (hcp : CP I) (hcq : CQx c I J) (hcs : CS I) (ih : ∀ (I2 : Iv) (J2 : Jv), LI (c + 1) I2 J2 → CP I2 → CQx (c + 1) I2 J2 → CS I2 → G m_L_law (RQL L0 xs) nc ns 1565 [some (.ref 5000000), some (.ref 0), some (.ref 78), some (.int i)] [] SHF I2 J2) : G m_L_law (RQL L0 xs) nc ns 1077 [some (.ref 5000000), some (.ref 0), some (.ref 78), some (.int i)] [] SHF I J := by
  refine g_aload_n d_L_law_1077 rfl ?_
  refine g_aload_n d_L_law_1078 rfl ?_
  refine g_iload_n d_L_law_1079 rfl ?_
  refine g_iconst (v := 1) d_L_law_1080 kI_1 ?_
  refine g_iadd d_L_law_1081 ?_
  refine g_sld d_L_law_1082 (li_ix hi0 hi6 hL (by decide)) ?_
  refine g_topI (fun x1 ex1 => ?_)
  refine g_aload_n d_L_law_1083 rfl ?_
  refine g_iload_n d_L_law_1084 rfl ?_
  refine g_iconst (v := 2) d_L_law_1085 kI_2 ?_
  refine g_iadd d_L_law_1086 ?_
  refine g_sld d_L_law_1087 (li_ix hi0 hi6 hL (by decide)) ?_
  refine g_topI (fun x2 ex2 => ?_)
  refine g_V2 d_L_law_1088 cs_L_law_X9_makes lk_RL_139 im_X9_makes se_X9_makes (o := 0) rfl rfl rfl (Nat.le_of_ble_eq_true rfl) ⟨rfl, rfl⟩ hroom (ct_X9_makes x1 x2 I J ) (fun r_ S_ I3 J4 q5 => ?_)
  obtain ⟨rfl, hc5, v6, rfl, hf6⟩ := q5
  refine g_st (st' := [.int v6]) rfl ?_
  have cp1 : CP I3 := by have q := fr_fn_X9_makes x1 x2 I ki_rfl J; rw [hf6] at q; exact cp_ki hcp q
  have cq1 : CQx c I3 J4 := by have q := fr2_fn_X9_makes x1 x2 I ki2_rfl J kj2_rfl; rw [hf6] at q; exact cq_cls hcq q
  have cs1 : CS I3 := by have q := fr3_fn_X9_makes x1 x2 I ki3_rfl J; rw [hf6] at q; have q4 := fr4_fn_X9_makes x1 x2 I kI4_rfl J; rw [hf6] at q4; exact cs_cls hcq hcs q q4
  have hx : XT I3 J4 = XT I J := hc5
  have k1 : LQ (c + 1) I3 J4 := lq_x hx h.1.mono
  have t1 : LIt c J4 := lit_x hx h.1.2.1
  refine g_pop d_L_law_1091 rfl ?_
  refine g_aload_n d_L_law_1092 rfl ?_
  refine g_aload_n d_L_law_1093 rfl ?_
  refine g_iload_n d_L_law_1094 rfl ?_
  refine g_iconst (v := 1) d_L_law_1095 kI_1 ?_
  refine g_iadd d_L_law_1096 ?_
  refine g_sld d_L_law_1097 (li_ix hi0 hi6 hL (by decide)) ?_
  rw [← ex1]
  refine g_aload_n d_L_law_1098 rfl ?_
  refine g_iload_n d_L_law_1099 rfl ?_
  refine g_iconst (v := 2) d_L_law_1100 kI_2 ?_
  refine g_iadd d_L_law_1101 ?_
  refine g_sld d_L_law_1102 (li_ix hi0 hi6 hL (by decide)) ?_
  rw [← ex2]
  refine g_V2 d_L_law_1103 cs_L_law_X10_makes lk_RL_142 im_X10_makes se_X10_makes (o := 78) rfl rfl rfl (Nat.le_of_ble_eq_true rfl) ⟨rfl, rfl⟩ hroom (ct_X10_makes x1 x2 I3 J4 k1.2.2.1 k1.2.2.2) (fun r_ S_ I9 J10 q11 => ?_)
  obtain ⟨rfl, hc11, v12, rfl, hf12, hr11⟩ := q11
  refine g_st (st' := [.int v12]) rfl ?_
  have cp2 : CP I9 := by have q := fr_fn_X10_makes x1 x2 I3 J4 ki_rfl; rw [hf12] at q; exact cp_ki (cp_beg J4 cp1) q
  have cq2 : CQx (c + 1) I9 J10 := by have q := fr2_fn_X10_makes x1 x2 I3 J4 qb2_rfl; rw [hf12] at q; exact cq_rb cq1 q
  have cs2 : CS I9 := by have q := fr5_fn_X10_makes x1 x2 I3 J4 kI5_rfl; rw [hf12] at q; exact cs_rb cs1 q
  have kk : LI (c + 1) I9 J10 := by
    have ux := xt_lo hx (fun _ _ => rfl)
    exact li_d hx k1 (rl_up ux.1 ux.2 h.2) hr11
  have k2 := kk
  refine g_pop d_L_law_1106 rfl ?_
  refine g_goto d_L_law_1107 ?_
  exact ih _ _ k2 cp2 cq2 cs2
set_option maxRecDepth 100000 in
set_option maxHeartbeats 4000000 in
theorem law_30 {L0 : Nat} {xs : Nat → Int32} {i : Int32} {c nc ns : Nat} {I : Iv} {J : Jv} (hroom : nc ≤ room_1.cells ∧ ns ≤ room_1.slots) (hL : L0 ≤ 3072) (hi0 : 0 ≤ i) (hi6 : i.toInt + 6 ≤ (L0 : Int)) (hc : c ≤ 600) (h : LI c I J) (hcp : CP I) (hcq : CQx c I J) (hcs : CS I) (ih : ∀ (I2 : Iv) (J2 : Jv), LI (c + 1) I2 J2 → CP I2 → CQx (c + 1) I2 J2 → CS I2 → G m_L_law (RQL L0 xs) nc ns 1565 [some (.ref 5000000), some (.ref 0), some (.ref 78), some (.int i)] [] SHF I2 J2) : G m_L_law (RQL L0 xs) nc ns 1110 [some (.ref 5000000), some (.ref 0), some (.ref 78), some (.int i)] [] SHF I J := by
  refine g_aload_n d_L_law_1110 rfl ?_
  refine g_aload_n d_L_law_1111 rfl ?_
  refine g_iload_n d_L_law_1112 rfl ?_
  refine g_iconst (v := 1) d_L_law_1113 kI_1 ?_
  refine g_iadd d_L_law_1114 ?_
  refine g_sld d_L_law_1115 (li_ix hi0 hi6 hL (by decide)) ?_
  refine g_topI (fun x1 ex1 => ?_)
  refine g_aload_n d_L_law_1116 rfl ?_
  refine g_iload_n d_L_law_1117 rfl ?_
  refine g_iconst (v := 2) d_L_law_1118 kI_2 ?_
  refine g_iadd d_L_law_1119 ?_
  refine g_sld d_L_law_1120 (li_ix hi0 hi6 hL (by decide)) ?_
  refine g_topI (fun x2 ex2 => ?_)
  refine g_V2 d_L_law_1121 cs_L_law_X9_mending lk_RL_143 im_X9_mending se_X9_mending (o := 0) rfl rfl rfl (Nat.le_of_ble_eq_true rfl) ⟨rfl, rfl⟩ hroom (ct_X9_mending x1 x2 I J ) (fun r_ S_ I3 J4 q5 => ?_)
  obtain ⟨rfl, hc5, v6, rfl, hf6, hr5⟩ := q5
  refine g_st (st' := [.int v6]) rfl ?_
  have cp1 : CP I3 := by have q := fr_fn_X9_mending x1 x2 I ki_rfl J; rw [hf6] at q; exact cp_ki hcp q
  have cq1 : CQx c I3 J4 := by have q := fr2_fn_X9_mending x1 x2 I ki2_rfl J kj2_rfl; rw [hf6] at q; exact cq_cls hcq q
  have cs1 : CS I3 := by have q := fr3_fn_X9_mending x1 x2 I ki3_rfl J; rw [hf6] at q; have q4 := fr4_fn_X9_mending x1 x2 I kI4_rfl J; rw [hf6] at q4; exact cs_cls hcq hcs q q4
  have kt : LQ (c + 1) I3 J4 ∧ LIt c J4 := by
    rcases hr5 with ⟨g1, g2, g3, g4, gv, hx⟩ | ⟨g1, gv, hx⟩ | ⟨g1, g2, g3, gv, hx⟩
    · exact ⟨lq_x hx (lq_free h.1.mono (by omega) (by omega)), lit_x hx h.1.2.1⟩
    · exact ⟨lq_x hx (h.1.mono), lit_x hx h.1.2.1⟩
    · exact ⟨lq_x hx (h.1.mono), lit_x hx h.1.2.1⟩
  obtain ⟨k1, t1⟩ := kt
  refine g_pop d_L_law_1124 rfl ?_
  refine g_aload_n d_L_law_1125 rfl ?_
  refine g_aload_n d_L_law_1126 rfl ?_
  refine g_iload_n d_L_law_1127 rfl ?_
  refine g_iconst (v := 1) d_L_law_1128 kI_1 ?_
  refine g_iadd d_L_law_1129 ?_
  refine g_sld d_L_law_1130 (li_ix hi0 hi6 hL (by decide)) ?_
  rw [← ex1]
  refine g_aload_n d_L_law_1131 rfl ?_
  refine g_iload_n d_L_law_1132 rfl ?_
  refine g_iconst (v := 2) d_L_law_1133 kI_2 ?_
  refine g_iadd d_L_law_1134 ?_
  refine g_sld d_L_law_1135 (li_ix hi0 hi6 hL (by decide)) ?_
  rw [← ex2]
  refine g_V2 d_L_law_1136 cs_L_law_X10_mending lk_RL_146 im_X10_mending se_X10_mending (o := 78) rfl rfl rfl (Nat.le_of_ble_eq_true rfl) ⟨rfl, rfl⟩ hroom (ct_X10_mending x1 x2 I3 J4 k1.2.2.1 k1.2.2.2) (fun r_ S_ I9 J10 q11 => ?_)
  obtain ⟨rfl, hc11, v12, rfl, hf12, hr11⟩ := q11
  refine g_st (st' := [.int v12]) rfl ?_
  have cp2 : CP I9 := by have q := fr_fn_X10_mending x1 x2 I3 J4 ki_rfl; rw [hf12] at q; exact cp_ki (cp_beg J4 cp1) q
  have cq2 : CQx (c + 1) I9 J10 := by have q := fr2_fn_X10_mending x1 x2 I3 J4 qb2_rfl; rw [hf12] at q; exact cq_rb cq1 q
  have cs2 : CS I9 := by have q := fr5_fn_X10_mending x1 x2 I3 J4 kI5_rfl; rw [hf12] at q; exact cs_rb cs1 q
  have kk : LI (c + 1) I9 J10 := by
    rcases hr5 with ⟨g1, g2, g3, g4, gv, hx⟩ | ⟨g1, gv, hx⟩ | ⟨g1, g2, g3, gv, hx⟩
    · skip
      obtain ⟨hq, hj⟩ := hr11
      rcases hq with ⟨m1, mv, hi⟩ | ⟨m1, m2, m3, mv, hi⟩ | ⟨m1, m2, m3, m4, mv, hi⟩
      · skip
        exact absurd (show False by grind) id
      · skip
        exact absurd (show False by grind) id
      · skip
        have ux := xt_lo hx (hi_w (by omega))
        exact li_fin hx hi hj (lo_bw (by omega)) k1.1 (lit_bg k1.2.1) (rl_bg (bg_nw (by omega)) ((rl_hi (wI_hi (bgI_hi ux.1)) (bgJ_hi ux.1 ux.2) (rl_mend h.2))))
    · skip
      obtain ⟨hq, hj⟩ := hr11
      rcases hq with ⟨m1, mv, hi⟩ | ⟨m1, m2, m3, mv, hi⟩ | ⟨m1, m2, m3, m4, mv, hi⟩
      · skip
        have ux := xt_lo hx (fun _ _ => rfl)
        exact li_fin hx hi hj lo_bg k1.1 (lit_bg k1.2.1) (rl_bg bg_ne (rl_up ux.1 ux.2 (h.2)))
      · skip
        exact absurd (show False by grind) id
      · skip
        exact absurd (show False by grind) id
    · skip
      obtain ⟨hq, hj⟩ := hr11
      rcases hq with ⟨m1, mv, hi⟩ | ⟨m1, m2, m3, mv, hi⟩ | ⟨m1, m2, m3, m4, mv, hi⟩
      · skip
        exact absurd (show False by grind) id
      · skip
        have ux := xt_lo hx (fun _ _ => rfl)
        exact li_fin hx hi hj lo_bg k1.1 (lit_bg k1.2.1) (rl_bg bg_ne (rl_up ux.1 ux.2 (h.2)))
      · skip
        exact absurd (show False by grind) id
  have k2 := kk
  refine g_pop d_L_law_1139 rfl ?_
  refine g_goto d_L_law_1140 ?_
  exact ih _ _ k2 cp2 cq2 cs2
set_option maxRecDepth 100000 in
set_option maxHeartbeats 4000000 in
theorem law_31 {L0 : Nat} {xs : Nat → Int32} {i : Int32} {c nc ns : Nat} {I : Iv} {J : Jv} (hroom : nc ≤ room_1.cells ∧ ns ≤ room_1.slots) (hL : L0 ≤ 3072) (hi0 : 0 ≤ i) (hi6 : i.toInt + 6 ≤ (L0 : Int)) (hc : c ≤ 600) (h : LI c I J) (hcp : CP I) (hcq : CQx c I J) (hcs : CS I) (ih : ∀ (I2 : Iv) (J2 : Jv), LI (c + 1) I2 J2 → CP I2 → CQx (c + 1) I2 J2 → CS I2 → G m_L_law (RQL L0 xs) nc ns 1565 [some (.ref 5000000), some (.ref 0), some (.ref 78), some (.int i)] [] SHF I2 J2) : G m_L_law (RQL L0 xs) nc ns 1143 [some (.ref 5000000), some (.ref 0), some (.ref 78), some (.int i)] [] SHF I J := by
  refine g_aload_n d_L_law_1143 rfl ?_
  refine g_aload_n d_L_law_1144 rfl ?_
  refine g_iload_n d_L_law_1145 rfl ?_
  refine g_iconst (v := 1) d_L_law_1146 kI_1 ?_
  refine g_iadd d_L_law_1147 ?_
  refine g_sld d_L_law_1148 (li_ix hi0 hi6 hL (by decide)) ?_
  refine g_topI (fun x1 ex1 => ?_)
  refine g_V1 d_L_law_1149 cs_L_law_X9_price lk_RL_147 im_X9_price se_X9_price (o := 0) rfl rfl rfl (Nat.le_of_ble_eq_true rfl) ⟨rfl, rfl⟩ hroom (ct_X9_price x1 I J ) (fun r_ S_ I2 J3 q4 => ?_)
  obtain ⟨rfl, hc4, v5, rfl, hf5, hr4⟩ := q4
  refine g_st (st' := [.int v5]) rfl ?_
  have cp1 : CP I2 := by have q := fr_fn_X9_price x1 I ki_rfl J; rw [hf5] at q; exact cp_ki hcp q
  have cq1 : CQx c I2 J3 := by have q := fr2_fn_X9_price x1 I ki2_rfl J kj2_rfl; rw [hf5] at q; exact cq_cls hcq q
  have cs1 : CS I2 := by have q := fr3_fn_X9_price x1 I ki3_rfl J; rw [hf5] at q; have q4 := fr4_fn_X9_price x1 I kI4_rfl J; rw [hf5] at q4; exact cs_cls hcq hcs q q4
  have kt : LQ (c + 1) I2 J3 ∧ LIt c J3 := by
    rcases hr4 with ⟨g1, g2, gv, hx⟩ | ⟨g1, gv, hx⟩
    · exact ⟨lq_x hx (lq_free h.1.mono (by omega) (by omega)), lit_x hx h.1.2.1⟩
    · exact ⟨lq_x hx (h.1.mono), lit_x hx h.1.2.1⟩
  obtain ⟨k1, t1⟩ := kt
  refine g_pop d_L_law_1152 rfl ?_
  refine g_aload_n d_L_law_1153 rfl ?_
  refine g_aload_n d_L_law_1154 rfl ?_
  refine g_iload_n d_L_law_1155 rfl ?_
  refine g_iconst (v := 1) d_L_law_1156 kI_1 ?_
  refine g_iadd d_L_law_1157 ?_
  refine g_sld d_L_law_1158 (li_ix hi0 hi6 hL (by decide)) ?_
  rw [← ex1]
  refine g_V1 d_L_law_1159 cs_L_law_X10_price lk_RL_150 im_X10_price se_X10_price (o := 78) rfl rfl rfl (Nat.le_of_ble_eq_true rfl) ⟨rfl, rfl⟩ hroom (ct_X10_price x1 I2 J3 k1.2.2.1 k1.2.2.2) (fun r_ S_ I7 J8 q9 => ?_)
  obtain ⟨rfl, hc9, v10, rfl, hf10, hr9⟩ := q9
  refine g_st (st' := [.int v10]) rfl ?_
  have cp2 : CP I7 := by have q := fr_fn_X10_price x1 I2 J3 ki_rfl; rw [hf10] at q; exact cp_ki (cp_beg J3 cp1) q
  have cq2 : CQx (c + 1) I7 J8 := by have q := fr2_fn_X10_price x1 I2 J3 qb2_rfl; rw [hf10] at q; exact cq_rb cq1 q
  have cs2 : CS I7 := by have q := fr5_fn_X10_price x1 I2 J3 kI5_rfl; rw [hf10] at q; exact cs_rb cs1 q
  have kk : LI (c + 1) I7 J8 := by
    rcases hr4 with ⟨g1, g2, gv, hx⟩ | ⟨g1, gv, hx⟩
    · skip
      obtain ⟨hq, hj⟩ := hr9
      rcases hq with ⟨m1, m2, mv, hi⟩ | ⟨m1, mv, hi⟩
      · skip
        have ux := xt_lo hx (hi_w (by omega))
        exact li_fin hx hi hj (lo_bw (by omega)) k1.1 (lit_bg k1.2.1) (rl_bg (bg_nw (by omega)) ((rl_hi (wI_hi (bgI_hi ux.1)) (bgJ_hi ux.1 ux.2) (rl_price h.2))))
      · skip
        exact absurd (show False by grind) id
    · skip
      obtain ⟨hq, hj⟩ := hr9
      rcases hq with ⟨m1, m2, mv, hi⟩ | ⟨m1, mv, hi⟩
      · skip
        exact absurd (show False by grind) id
      · skip
        have ux := xt_lo hx (fun _ _ => rfl)
        exact li_fin hx hi hj lo_bg k1.1 (lit_bg k1.2.1) (rl_bg bg_ne (rl_up ux.1 ux.2 (h.2)))
  have k2 := kk
  refine g_pop d_L_law_1162 rfl ?_
  refine g_goto d_L_law_1163 ?_
  exact ih _ _ k2 cp2 cq2 cs2
set_option maxRecDepth 100000 in
set_option maxHeartbeats 4000000 in
theorem law_32 {L0 : Nat} {xs : Nat → Int32} {i : Int32} {c nc ns : Nat} {I : Iv} {J : Jv} (hroom : nc ≤ room_1.cells ∧ ns ≤ room_1.slots) (hL : L0 ≤ 3072) (hi0 : 0 ≤ i) (hi6 : i.toInt + 6 ≤ (L0 : Int)) (hc : c ≤ 600) (h : LI c I J) (hcp : CP I) (hcq : CQx c I J) (hcs : CS I) (ih : ∀ (I2 : Iv) (J2 : Jv), LI (c + 1) I2 J2 → CP I2 → CQx (c + 1) I2 J2 → CS I2 → G m_L_law (RQL L0 xs) nc ns 1565 [some (.ref 5000000), some (.ref 0), some (.ref 78), some (.int i)] [] SHF I2 J2) : G m_L_law (RQL L0 xs) nc ns 1166 [some (.ref 5000000), some (.ref 0), some (.ref 78), some (.int i)] [] SHF I J := by
  refine g_aload_n d_L_law_1166 rfl ?_
  refine g_aload_n d_L_law_1167 rfl ?_
  refine g_iload_n d_L_law_1168 rfl ?_
  refine g_iconst (v := 1) d_L_law_1169 kI_1 ?_
  refine g_iadd d_L_law_1170 ?_
  refine g_sld d_L_law_1171 (li_ix hi0 hi6 hL (by decide)) ?_
  refine g_topI (fun x1 ex1 => ?_)
  refine g_V1 d_L_law_1172 cs_L_law_X9_year lk_RL_151 im_X9_year se_X9_year (o := 0) rfl rfl rfl (Nat.le_of_ble_eq_true rfl) ⟨rfl, rfl⟩ hroom (ct_X9_year x1 I J ) (fun r_ S_ I2 J3 q4 => ?_)
  obtain ⟨rfl, hc4, v5, rfl, hf5⟩ := q4
  refine g_st (st' := [.int v5]) rfl ?_
  have cp1 : CP I2 := by have q := fr_fn_X9_year x1 I ki_rfl J; rw [hf5] at q; exact cp_ki hcp q
  have cq1 : CQx c I2 J3 := by have q := fr2_fn_X9_year x1 I ki2_rfl J kj2_rfl; rw [hf5] at q; exact cq_cls hcq q
  have cs1 : CS I2 := by have q := fr3_fn_X9_year x1 I ki3_rfl J; rw [hf5] at q; have q4 := fr4_fn_X9_year x1 I kI4_rfl J; rw [hf5] at q4; exact cs_cls hcq hcs q q4
  have hx : XT I2 J3 = XT I J := hc4
  have k1 : LQ (c + 1) I2 J3 := lq_x hx h.1.mono
  have t1 : LIt c J3 := lit_x hx h.1.2.1
  refine g_pop d_L_law_1175 rfl ?_
  refine g_aload_n d_L_law_1176 rfl ?_
  refine g_aload_n d_L_law_1177 rfl ?_
  refine g_iload_n d_L_law_1178 rfl ?_
  refine g_iconst (v := 1) d_L_law_1179 kI_1 ?_
  refine g_iadd d_L_law_1180 ?_
  refine g_sld d_L_law_1181 (li_ix hi0 hi6 hL (by decide)) ?_
  rw [← ex1]
  refine g_V1 d_L_law_1182 cs_L_law_X10_year lk_RL_154 im_X10_year se_X10_year (o := 78) rfl rfl rfl (Nat.le_of_ble_eq_true rfl) ⟨rfl, rfl⟩ hroom (ct_X10_year x1 I2 J3 k1.2.2.1 k1.2.2.2) (fun r_ S_ I7 J8 q9 => ?_)
  obtain ⟨rfl, hc9, v10, rfl, hf10, hr9⟩ := q9
  refine g_st (st' := [.int v10]) rfl ?_
  have cp2 : CP I7 := by have q := fr_fn_X10_year x1 I2 J3 ki_rfl; rw [hf10] at q; exact cp_ki (cp_beg J3 cp1) q
  have cq2 : CQx (c + 1) I7 J8 := by have q := fr2_fn_X10_year x1 I2 J3 qb2_rfl; rw [hf10] at q; exact cq_rb cq1 q
  have cs2 : CS I7 := by have q := fr5_fn_X10_year x1 I2 J3 kI5_rfl; rw [hf10] at q; exact cs_rb cs1 q
  have kk : LI (c + 1) I7 J8 := by
    have ux := xt_lo hx (fun _ _ => rfl)
    exact li_d hx k1 (rl_up ux.1 ux.2 h.2) hr9
  have k2 := kk
  refine g_pop d_L_law_1185 rfl ?_
  refine g_goto d_L_law_1186 ?_
  exact ih _ _ k2 cp2 cq2 cs2
set_option maxRecDepth 100000 in
set_option maxHeartbeats 4000000 in
theorem law_33 {L0 : Nat} {xs : Nat → Int32} {i : Int32} {c nc ns : Nat} {I : Iv} {J : Jv} (hroom : nc ≤ room_1.cells ∧ ns ≤ room_1.slots) (hL : L0 ≤ 3072) (hi0 : 0 ≤ i) (hi6 : i.toInt + 6 ≤ (L0 : Int)) (hc : c ≤ 600) (h : LI c I J) (hcp : CP I) (hcq : CQx c I J) (hcs : CS I) (ih : ∀ (I2 : Iv) (J2 : Jv), LI (c + 1) I2 J2 → CP I2 → CQx (c + 1) I2 J2 → CS I2 → G m_L_law (RQL L0 xs) nc ns 1565 [some (.ref 5000000), some (.ref 0), some (.ref 78), some (.int i)] [] SHF I2 J2) : G m_L_law (RQL L0 xs) nc ns 1189 [some (.ref 5000000), some (.ref 0), some (.ref 78), some (.int i)] [] SHF I J := by
  refine g_aload_n d_L_law_1189 rfl ?_
  refine g_aload_n d_L_law_1190 rfl ?_
  refine g_iload_n d_L_law_1191 rfl ?_
  refine g_iconst (v := 1) d_L_law_1192 kI_1 ?_
  refine g_iadd d_L_law_1193 ?_
  refine g_sld d_L_law_1194 (li_ix hi0 hi6 hL (by decide)) ?_
  refine g_topI (fun x1 ex1 => ?_)
  refine g_aload_n d_L_law_1195 rfl ?_
  refine g_iload_n d_L_law_1196 rfl ?_
  refine g_iconst (v := 2) d_L_law_1197 kI_2 ?_
  refine g_iadd d_L_law_1198 ?_
  refine g_sld d_L_law_1199 (li_ix hi0 hi6 hL (by decide)) ?_
  refine g_topI (fun x2 ex2 => ?_)
  refine g_V2 d_L_law_1200 cs_L_law_X9_saves lk_RL_155 im_X9_saves se_X9_saves (o := 0) rfl rfl rfl (Nat.le_of_ble_eq_true rfl) ⟨rfl, rfl⟩ hroom (ct_X9_saves x1 x2 I J ) (fun r_ S_ I3 J4 q5 => ?_)
  obtain ⟨rfl, hc5, v6, rfl, hf6⟩ := q5
  refine g_st (st' := [.int v6]) rfl ?_
  have cp1 : CP I3 := by have q := fr_fn_X9_saves x1 x2 I ki_rfl J; rw [hf6] at q; exact cp_ki hcp q
  have cq1 : CQx c I3 J4 := by have q := fr2_fn_X9_saves x1 x2 I ki2_rfl J kj2_rfl; rw [hf6] at q; exact cq_cls hcq q
  have cs1 : CS I3 := by have q := fr3_fn_X9_saves x1 x2 I ki3_rfl J; rw [hf6] at q; have q4 := fr4_fn_X9_saves x1 x2 I kI4_rfl J; rw [hf6] at q4; exact cs_cls hcq hcs q q4
  have hx : XT I3 J4 = XT I J := hc5
  have k1 : LQ (c + 1) I3 J4 := lq_x hx h.1.mono
  have t1 : LIt c J4 := lit_x hx h.1.2.1
  refine g_pop d_L_law_1203 rfl ?_
  refine g_aload_n d_L_law_1204 rfl ?_
  refine g_aload_n d_L_law_1205 rfl ?_
  refine g_iload_n d_L_law_1206 rfl ?_
  refine g_iconst (v := 1) d_L_law_1207 kI_1 ?_
  refine g_iadd d_L_law_1208 ?_
  refine g_sld d_L_law_1209 (li_ix hi0 hi6 hL (by decide)) ?_
  rw [← ex1]
  refine g_aload_n d_L_law_1210 rfl ?_
  refine g_iload_n d_L_law_1211 rfl ?_
  refine g_iconst (v := 2) d_L_law_1212 kI_2 ?_
  refine g_iadd d_L_law_1213 ?_
  refine g_sld d_L_law_1214 (li_ix hi0 hi6 hL (by decide)) ?_
  rw [← ex2]
  refine g_V2 d_L_law_1215 cs_L_law_X10_saves lk_RL_158 im_X10_saves se_X10_saves (o := 78) rfl rfl rfl (Nat.le_of_ble_eq_true rfl) ⟨rfl, rfl⟩ hroom (ct_X10_saves x1 x2 I3 J4 k1.2.2.1 k1.2.2.2) (fun r_ S_ I9 J10 q11 => ?_)
  obtain ⟨rfl, hc11, v12, rfl, hf12, hr11⟩ := q11
  refine g_st (st' := [.int v12]) rfl ?_
  have cp2 : CP I9 := by have q := fr_fn_X10_saves x1 x2 I3 J4 ki_rfl; rw [hf12] at q; exact cp_ki (cp_beg J4 cp1) q
  have cq2 : CQx (c + 1) I9 J10 := by have q := fr2_fn_X10_saves x1 x2 I3 J4 qb2_rfl; rw [hf12] at q; exact cq_rb cq1 q
  have cs2 : CS I9 := by have q := fr5_fn_X10_saves x1 x2 I3 J4 kI5_rfl; rw [hf12] at q; exact cs_rb cs1 q
  have kk : LI (c + 1) I9 J10 := by
    have ux := xt_lo hx (fun _ _ => rfl)
    exact li_d hx k1 (rl_up ux.1 ux.2 h.2) hr11
  have k2 := kk
  refine g_pop d_L_law_1218 rfl ?_
  refine g_goto d_L_law_1219 ?_
  exact ih _ _ k2 cp2 cq2 cs2
set_option maxRecDepth 100000 in
set_option maxHeartbeats 4000000 in
theorem law_34 {L0 : Nat} {xs : Nat → Int32} {i : Int32} {c nc ns : Nat} {I : Iv} {J : Jv} (hroom : nc ≤ room_1.cells ∧ ns ≤ room_1.slots) (hL : L0 ≤ 3072) (hi0 : 0 ≤ i) (hi6 : i.toInt + 6 ≤ (L0 : Int)) (hc : c ≤ 600) (h : LI c I J) (hcp : CP I) (hcq : CQx c I J) (hcs : CS I) (ih : ∀ (I2 : Iv) (J2 : Jv), LI (c + 1) I2 J2 → CP I2 → CQx (c + 1) I2 J2 → CS I2 → G m_L_law (RQL L0 xs) nc ns 1565 [some (.ref 5000000), some (.ref 0), some (.ref 78), some (.int i)] [] SHF I2 J2) : G m_L_law (RQL L0 xs) nc ns 1222 [some (.ref 5000000), some (.ref 0), some (.ref 78), some (.int i)] [] SHF I J := by
  refine g_aload_n d_L_law_1222 rfl ?_
  refine g_aload_n d_L_law_1223 rfl ?_
  refine g_iload_n d_L_law_1224 rfl ?_
  refine g_iconst (v := 1) d_L_law_1225 kI_1 ?_
  refine g_iadd d_L_law_1226 ?_
  refine g_sld d_L_law_1227 (li_ix hi0 hi6 hL (by decide)) ?_
  refine g_topI (fun x1 ex1 => ?_)
  refine g_aload_n d_L_law_1228 rfl ?_
  refine g_iload_n d_L_law_1229 rfl ?_
  refine g_iconst (v := 2) d_L_law_1230 kI_2 ?_
  refine g_iadd d_L_law_1231 ?_
  refine g_sld d_L_law_1232 (li_ix hi0 hi6 hL (by decide)) ?_
  refine g_topI (fun x2 ex2 => ?_)
  refine g_aload_n d_L_law_1233 rfl ?_
  refine g_iload_n d_L_law_1234 rfl ?_
  refine g_iconst (v := 3) d_L_law_1235 kI_3 ?_
  refine g_iadd d_L_law_1236 ?_
  refine g_sld d_L_law_1237 (li_ix hi0 hi6 hL (by decide)) ?_
  refine g_topI (fun x3 ex3 => ?_)
  refine g_V3 d_L_law_1238 cs_L_law_X9_best lk_RL_159 im_X9_best se_X9_best (o := 0) rfl rfl rfl (Nat.le_of_ble_eq_true rfl) ⟨rfl, rfl⟩ hroom (ct_X9_best x1 x2 x3 I J ) (fun r_ S_ I4 J5 q6 => ?_)
  obtain ⟨rfl, hc6, v7, rfl, hf7⟩ := q6
  refine g_st (st' := [.int v7]) rfl ?_
  have cp1 : CP I4 := by have q := fr_fn_X9_best x1 x2 x3 I ki_rfl J; rw [hf7] at q; exact cp_ki hcp q
  have cq1 : CQx c I4 J5 := by have q := fr2_fn_X9_best x1 x2 x3 I ki2_rfl J kj2_rfl; rw [hf7] at q; exact cq_cls hcq q
  have cs1 : CS I4 := by have q := fr3_fn_X9_best x1 x2 x3 I ki3_rfl J; rw [hf7] at q; have q4 := fr4_fn_X9_best x1 x2 x3 I kI4_rfl J; rw [hf7] at q4; exact cs_cls hcq hcs q q4
  have hx : XT I4 J5 = XT I J := hc6
  have k1 : LQ (c + 1) I4 J5 := lq_x hx h.1.mono
  have t1 : LIt c J5 := lit_x hx h.1.2.1
  refine g_pop d_L_law_1241 rfl ?_
  refine g_aload_n d_L_law_1242 rfl ?_
  refine g_aload_n d_L_law_1243 rfl ?_
  refine g_iload_n d_L_law_1244 rfl ?_
  refine g_iconst (v := 1) d_L_law_1245 kI_1 ?_
  refine g_iadd d_L_law_1246 ?_
  refine g_sld d_L_law_1247 (li_ix hi0 hi6 hL (by decide)) ?_
  rw [← ex1]
  refine g_aload_n d_L_law_1248 rfl ?_
  refine g_iload_n d_L_law_1249 rfl ?_
  refine g_iconst (v := 2) d_L_law_1250 kI_2 ?_
  refine g_iadd d_L_law_1251 ?_
  refine g_sld d_L_law_1252 (li_ix hi0 hi6 hL (by decide)) ?_
  rw [← ex2]
  refine g_aload_n d_L_law_1253 rfl ?_
  refine g_iload_n d_L_law_1254 rfl ?_
  refine g_iconst (v := 3) d_L_law_1255 kI_3 ?_
  refine g_iadd d_L_law_1256 ?_
  refine g_sld d_L_law_1257 (li_ix hi0 hi6 hL (by decide)) ?_
  rw [← ex3]
  refine g_V3 d_L_law_1258 cs_L_law_X10_best lk_RL_162 im_X10_best se_X10_best (o := 78) rfl rfl rfl (Nat.le_of_ble_eq_true rfl) ⟨rfl, rfl⟩ hroom (ct_X10_best x1 x2 x3 I4 J5 k1.2.2.1 k1.2.2.2) (fun r_ S_ I11 J12 q13 => ?_)
  obtain ⟨rfl, hc13, v14, rfl, hf14, hr13⟩ := q13
  refine g_st (st' := [.int v14]) rfl ?_
  have cp2 : CP I11 := by have q := fr_fn_X10_best x1 x2 x3 I4 J5 ki_rfl; rw [hf14] at q; exact cp_ki (cp_beg J5 cp1) q
  have cq2 : CQx (c + 1) I11 J12 := by have q := fr2_fn_X10_best x1 x2 x3 I4 J5 qb2_rfl; rw [hf14] at q; exact cq_rb cq1 q
  have cs2 : CS I11 := by have q := fr5_fn_X10_best x1 x2 x3 I4 J5 kI5_rfl; rw [hf14] at q; exact cs_rb cs1 q
  have kk : LI (c + 1) I11 J12 := by
    have ux := xt_lo hx (fun _ _ => rfl)
    exact li_d hx k1 (rl_up ux.1 ux.2 h.2) hr13
  have k2 := kk
  refine g_pop d_L_law_1261 rfl ?_
  refine g_goto d_L_law_1262 ?_
  exact ih _ _ k2 cp2 cq2 cs2
set_option maxRecDepth 100000 in
set_option maxHeartbeats 4000000 in
theorem law_35 {L0 : Nat} {xs : Nat → Int32} {i : Int32} {c nc ns : Nat} {I : Iv} {J : Jv} (hroom : nc ≤ room_1.cells ∧ ns ≤ room_1.slots) (hL : L0 ≤ 3072) (hi0 : 0 ≤ i) (hi6 : i.toInt + 6 ≤ (L0 : Int)) (hc : c ≤ 600) (h : LI c I J) (hcp : CP I) (hcq : CQx c I J) (hcs : CS I) (ih : ∀ (I2 : Iv) (J2 : Jv), LI (c + 1) I2 J2 → CP I2 → CQx (c + 1) I2 J2 → CS I2 → G m_L_law (RQL L0 xs) nc ns 1565 [some (.ref 5000000), some (.ref 0), some (.ref 78), some (.int i)] [] SHF I2 J2) : G m_L_law (RQL L0 xs) nc ns 1265 [some (.ref 5000000), some (.ref 0), some (.ref 78), some (.int i)] [] SHF I J := by
  refine g_aload_n d_L_law_1265 rfl ?_
  refine g_aload_n d_L_law_1266 rfl ?_
  refine g_iload_n d_L_law_1267 rfl ?_
  refine g_iconst (v := 1) d_L_law_1268 kI_1 ?_
  refine g_iadd d_L_law_1269 ?_
  refine g_sld d_L_law_1270 (li_ix hi0 hi6 hL (by decide)) ?_
  refine g_topI (fun x1 ex1 => ?_)
  refine g_aload_n d_L_law_1271 rfl ?_
  refine g_iload_n d_L_law_1272 rfl ?_
  refine g_iconst (v := 2) d_L_law_1273 kI_2 ?_
  refine g_iadd d_L_law_1274 ?_
  refine g_sld d_L_law_1275 (li_ix hi0 hi6 hL (by decide)) ?_
  refine g_topI (fun x2 ex2 => ?_)
  refine g_aload_n d_L_law_1276 rfl ?_
  refine g_iload_n d_L_law_1277 rfl ?_
  refine g_iconst (v := 3) d_L_law_1278 kI_3 ?_
  refine g_iadd d_L_law_1279 ?_
  refine g_sld d_L_law_1280 (li_ix hi0 hi6 hL (by decide)) ?_
  refine g_topI (fun x3 ex3 => ?_)
  refine g_V3 d_L_law_1281 cs_L_law_X9_pays lk_RL_163 im_X9_pays se_X9_pays (o := 0) rfl rfl rfl (Nat.le_of_ble_eq_true rfl) ⟨rfl, rfl⟩ hroom (ct_X9_pays x1 x2 x3 I J ) (fun r_ S_ I4 J5 q6 => ?_)
  obtain ⟨rfl, hc6, v7, rfl, hf7⟩ := q6
  refine g_st (st' := [.int v7]) rfl ?_
  have cp1 : CP I4 := by have q := fr_fn_X9_pays x1 x2 x3 I ki_rfl J; rw [hf7] at q; exact cp_ki hcp q
  have cq1 : CQx c I4 J5 := by have q := fr2_fn_X9_pays x1 x2 x3 I ki2_rfl J kj2_rfl; rw [hf7] at q; exact cq_cls hcq q
  have cs1 : CS I4 := by have q := fr3_fn_X9_pays x1 x2 x3 I ki3_rfl J; rw [hf7] at q; have q4 := fr4_fn_X9_pays x1 x2 x3 I kI4_rfl J; rw [hf7] at q4; exact cs_cls hcq hcs q q4
  have hx : XT I4 J5 = XT I J := hc6
  have k1 : LQ (c + 1) I4 J5 := lq_x hx h.1.mono
  have t1 : LIt c J5 := lit_x hx h.1.2.1
  refine g_pop d_L_law_1284 rfl ?_
  refine g_aload_n d_L_law_1285 rfl ?_
  refine g_aload_n d_L_law_1286 rfl ?_
  refine g_iload_n d_L_law_1287 rfl ?_
  refine g_iconst (v := 1) d_L_law_1288 kI_1 ?_
  refine g_iadd d_L_law_1289 ?_
  refine g_sld d_L_law_1290 (li_ix hi0 hi6 hL (by decide)) ?_
  rw [← ex1]
  refine g_aload_n d_L_law_1291 rfl ?_
  refine g_iload_n d_L_law_1292 rfl ?_
  refine g_iconst (v := 2) d_L_law_1293 kI_2 ?_
  refine g_iadd d_L_law_1294 ?_
  refine g_sld d_L_law_1295 (li_ix hi0 hi6 hL (by decide)) ?_
  rw [← ex2]
  refine g_aload_n d_L_law_1296 rfl ?_
  refine g_iload_n d_L_law_1297 rfl ?_
  refine g_iconst (v := 3) d_L_law_1298 kI_3 ?_
  refine g_iadd d_L_law_1299 ?_
  refine g_sld d_L_law_1300 (li_ix hi0 hi6 hL (by decide)) ?_
  rw [← ex3]
  refine g_V3 d_L_law_1301 cs_L_law_X10_pays lk_RL_166 im_X10_pays se_X10_pays (o := 78) rfl rfl rfl (Nat.le_of_ble_eq_true rfl) ⟨rfl, rfl⟩ hroom (ct_X10_pays x1 x2 x3 I4 J5 k1.2.2.1 k1.2.2.2) (fun r_ S_ I11 J12 q13 => ?_)
  obtain ⟨rfl, hc13, v14, rfl, hf14, hr13⟩ := q13
  refine g_st (st' := [.int v14]) rfl ?_
  have cp2 : CP I11 := by have q := fr_fn_X10_pays x1 x2 x3 I4 J5 ki_rfl; rw [hf14] at q; exact cp_ki (cp_beg J5 cp1) q
  have cq2 : CQx (c + 1) I11 J12 := by have q := fr2_fn_X10_pays x1 x2 x3 I4 J5 qb2_rfl; rw [hf14] at q; exact cq_rb cq1 q
  have cs2 : CS I11 := by have q := fr5_fn_X10_pays x1 x2 x3 I4 J5 kI5_rfl; rw [hf14] at q; exact cs_rb cs1 q
  have kk : LI (c + 1) I11 J12 := by
    have ux := xt_lo hx (fun _ _ => rfl)
    exact li_d hx k1 (rl_up ux.1 ux.2 h.2) hr13
  have k2 := kk
  refine g_pop d_L_law_1304 rfl ?_
  refine g_goto d_L_law_1305 ?_
  exact ih _ _ k2 cp2 cq2 cs2
set_option maxRecDepth 100000 in
set_option maxHeartbeats 4000000 in
theorem law_36 {L0 : Nat} {xs : Nat → Int32} {i : Int32} {c nc ns : Nat} {I : Iv} {J : Jv} (hroom : nc ≤ room_1.cells ∧ ns ≤ room_1.slots) (hL : L0 ≤ 3072) (hi0 : 0 ≤ i) (hi6 : i.toInt + 6 ≤ (L0 : Int)) (hc : c ≤ 600) (h : LI c I J) (hcp : CP I) (hcq : CQx c I J) (hcs : CS I) (ih : ∀ (I2 : Iv) (J2 : Jv), LI (c + 1) I2 J2 → CP I2 → CQx (c + 1) I2 J2 → CS I2 → G m_L_law (RQL L0 xs) nc ns 1565 [some (.ref 5000000), some (.ref 0), some (.ref 78), some (.int i)] [] SHF I2 J2) : G m_L_law (RQL L0 xs) nc ns 1308 [some (.ref 5000000), some (.ref 0), some (.ref 78), some (.int i)] [] SHF I J := by
  refine g_aload_n d_L_law_1308 rfl ?_
  refine g_aload_n d_L_law_1309 rfl ?_
  refine g_iload_n d_L_law_1310 rfl ?_
  refine g_iconst (v := 1) d_L_law_1311 kI_1 ?_
  refine g_iadd d_L_law_1312 ?_
  refine g_sld d_L_law_1313 (li_ix hi0 hi6 hL (by decide)) ?_
  refine g_topI (fun x1 ex1 => ?_)
  refine g_aload_n d_L_law_1314 rfl ?_
  refine g_iload_n d_L_law_1315 rfl ?_
  refine g_iconst (v := 2) d_L_law_1316 kI_2 ?_
  refine g_iadd d_L_law_1317 ?_
  refine g_sld d_L_law_1318 (li_ix hi0 hi6 hL (by decide)) ?_
  refine g_topI (fun x2 ex2 => ?_)
  refine g_aload_n d_L_law_1319 rfl ?_
  refine g_iload_n d_L_law_1320 rfl ?_
  refine g_iconst (v := 3) d_L_law_1321 kI_3 ?_
  refine g_iadd d_L_law_1322 ?_
  refine g_sld d_L_law_1323 (li_ix hi0 hi6 hL (by decide)) ?_
  refine g_topI (fun x3 ex3 => ?_)
  refine g_V3 d_L_law_1324 cs_L_law_X9_ice lk_RL_167 im_X9_ice se_X9_ice (o := 0) rfl rfl rfl (Nat.le_of_ble_eq_true rfl) ⟨rfl, rfl⟩ hroom (ct_X9_ice x1 x2 x3 I J ) (fun r_ S_ I4 J5 q6 => ?_)
  obtain ⟨rfl, hc6, v7, rfl, hf7⟩ := q6
  refine g_st (st' := [.int v7]) rfl ?_
  have cp1 : CP I4 := by have q := fr_fn_X9_ice x1 x2 x3 I ki_rfl J; rw [hf7] at q; exact cp_ki hcp q
  have cq1 : CQx c I4 J5 := by have q := fr2_fn_X9_ice x1 x2 x3 I ki2_rfl J kj2_rfl; rw [hf7] at q; exact cq_cls hcq q
  have cs1 : CS I4 := by have q := fr3_fn_X9_ice x1 x2 x3 I ki3_rfl J; rw [hf7] at q; have q4 := fr4_fn_X9_ice x1 x2 x3 I kI4_rfl J; rw [hf7] at q4; exact cs_cls hcq hcs q q4
  have hx : XT I4 J5 = XT I J := hc6
  have k1 : LQ (c + 1) I4 J5 := lq_x hx h.1.mono
  have t1 : LIt c J5 := lit_x hx h.1.2.1
  refine g_pop d_L_law_1327 rfl ?_
  refine g_aload_n d_L_law_1328 rfl ?_
  refine g_aload_n d_L_law_1329 rfl ?_
  refine g_iload_n d_L_law_1330 rfl ?_
  refine g_iconst (v := 1) d_L_law_1331 kI_1 ?_
  refine g_iadd d_L_law_1332 ?_
  refine g_sld d_L_law_1333 (li_ix hi0 hi6 hL (by decide)) ?_
  rw [← ex1]
  refine g_aload_n d_L_law_1334 rfl ?_
  refine g_iload_n d_L_law_1335 rfl ?_
  refine g_iconst (v := 2) d_L_law_1336 kI_2 ?_
  refine g_iadd d_L_law_1337 ?_
  refine g_sld d_L_law_1338 (li_ix hi0 hi6 hL (by decide)) ?_
  rw [← ex2]
  refine g_aload_n d_L_law_1339 rfl ?_
  refine g_iload_n d_L_law_1340 rfl ?_
  refine g_iconst (v := 3) d_L_law_1341 kI_3 ?_
  refine g_iadd d_L_law_1342 ?_
  refine g_sld d_L_law_1343 (li_ix hi0 hi6 hL (by decide)) ?_
  rw [← ex3]
  refine g_V3 d_L_law_1344 cs_L_law_X10_ice lk_RL_170 im_X10_ice se_X10_ice (o := 78) rfl rfl rfl (Nat.le_of_ble_eq_true rfl) ⟨rfl, rfl⟩ hroom (ct_X10_ice x1 x2 x3 I4 J5 k1.2.2.1 k1.2.2.2) (fun r_ S_ I11 J12 q13 => ?_)
  obtain ⟨rfl, hc13, v14, rfl, hf14, hr13⟩ := q13
  refine g_st (st' := [.int v14]) rfl ?_
  have cp2 : CP I11 := by have q := fr_fn_X10_ice x1 x2 x3 I4 J5 ki_rfl; rw [hf14] at q; exact cp_ki (cp_beg J5 cp1) q
  have cq2 : CQx (c + 1) I11 J12 := by have q := fr2_fn_X10_ice x1 x2 x3 I4 J5 qb2_rfl; rw [hf14] at q; exact cq_rb cq1 q
  have cs2 : CS I11 := by have q := fr5_fn_X10_ice x1 x2 x3 I4 J5 kI5_rfl; rw [hf14] at q; exact cs_rb cs1 q
  have kk : LI (c + 1) I11 J12 := by
    have ux := xt_lo hx (fun _ _ => rfl)
    exact li_d hx k1 (rl_up ux.1 ux.2 h.2) hr13
  have k2 := kk
  refine g_pop d_L_law_1347 rfl ?_
  refine g_goto d_L_law_1348 ?_
  exact ih _ _ k2 cp2 cq2 cs2
set_option maxRecDepth 100000 in
set_option maxHeartbeats 4000000 in
theorem law_37 {L0 : Nat} {xs : Nat → Int32} {i : Int32} {c nc ns : Nat} {I : Iv} {J : Jv} (hroom : nc ≤ room_1.cells ∧ ns ≤ room_1.slots) (hL : L0 ≤ 3072) (hi0 : 0 ≤ i) (hi6 : i.toInt + 6 ≤ (L0 : Int)) (hc : c ≤ 600) (h : LI c I J) (hcp : CP I) (hcq : CQx c I J) (hcs : CS I) (ih : ∀ (I2 : Iv) (J2 : Jv), LI (c + 1) I2 J2 → CP I2 → CQx (c + 1) I2 J2 → CS I2 → G m_L_law (RQL L0 xs) nc ns 1565 [some (.ref 5000000), some (.ref 0), some (.ref 78), some (.int i)] [] SHF I2 J2) : G m_L_law (RQL L0 xs) nc ns 1351 [some (.ref 5000000), some (.ref 0), some (.ref 78), some (.int i)] [] SHF I J := by
  refine g_aload_n d_L_law_1351 rfl ?_
  refine g_aload_n d_L_law_1352 rfl ?_
  refine g_iload_n d_L_law_1353 rfl ?_
  refine g_iconst (v := 1) d_L_law_1354 kI_1 ?_
  refine g_iadd d_L_law_1355 ?_
  refine g_sld d_L_law_1356 (li_ix hi0 hi6 hL (by decide)) ?_
  refine g_topI (fun x1 ex1 => ?_)
  refine g_V1 d_L_law_1357 cs_L_law_X9_lying lk_RL_171 im_X9_lying se_X9_lying (o := 0) rfl rfl rfl (Nat.le_of_ble_eq_true rfl) ⟨rfl, rfl⟩ hroom (ct_X9_lying x1 I J ) (fun r_ S_ I2 J3 q4 => ?_)
  obtain ⟨rfl, hc4, v5, rfl, hf5⟩ := q4
  refine g_st (st' := [.int v5]) rfl ?_
  have cp1 : CP I2 := by have q := fr_fn_X9_lying x1 I ki_rfl J; rw [hf5] at q; exact cp_ki hcp q
  have cq1 : CQx c I2 J3 := by have q := fr2_fn_X9_lying x1 I ki2_rfl J kj2_rfl; rw [hf5] at q; exact cq_cls hcq q
  have cs1 : CS I2 := by have q := fr3_fn_X9_lying x1 I ki3_rfl J; rw [hf5] at q; have q4 := fr4_fn_X9_lying x1 I kI4_rfl J; rw [hf5] at q4; exact cs_cls hcq hcs q q4
  have hx : XT I2 J3 = XT I J := hc4
  have k1 : LQ (c + 1) I2 J3 := lq_x hx h.1.mono
  have t1 : LIt c J3 := lit_x hx h.1.2.1
  refine g_pop d_L_law_1360 rfl ?_
  refine g_aload_n d_L_law_1361 rfl ?_
  refine g_aload_n d_L_law_1362 rfl ?_
  refine g_iload_n d_L_law_1363 rfl ?_
  refine g_iconst (v := 1) d_L_law_1364 kI_1 ?_
  refine g_iadd d_L_law_1365 ?_
  refine g_sld d_L_law_1366 (li_ix hi0 hi6 hL (by decide)) ?_
  rw [← ex1]
  refine g_V1 d_L_law_1367 cs_L_law_X10_lying lk_RL_174 im_X10_lying se_X10_lying (o := 78) rfl rfl rfl (Nat.le_of_ble_eq_true rfl) ⟨rfl, rfl⟩ hroom (ct_X10_lying x1 I2 J3 k1.2.2.1 k1.2.2.2) (fun r_ S_ I7 J8 q9 => ?_)
  obtain ⟨rfl, hc9, v10, rfl, hf10, hr9⟩ := q9
  refine g_st (st' := [.int v10]) rfl ?_
  have cp2 : CP I7 := by have q := fr_fn_X10_lying x1 I2 J3 ki_rfl; rw [hf10] at q; exact cp_ki (cp_beg J3 cp1) q
  have cq2 : CQx (c + 1) I7 J8 := by have q := fr2_fn_X10_lying x1 I2 J3 qb2_rfl; rw [hf10] at q; exact cq_rb cq1 q
  have ceq := cs_lying hc hcq hf5 hf10
  have cs2 : CS I7 := by have q := fr5_fn_X10_lying x1 I2 J3 kI5_rfl; rw [hf10] at q; exact cs_rb cs1 q
  have kk : LI (c + 1) I7 J8 := by
    have ux := xt_lo hx (fun _ _ => rfl)
    exact li_d hx k1 (rl_up ux.1 ux.2 h.2) hr9
  have k2 := kk
  refine g_pop d_L_law_1370 rfl ?_
  refine g_goto d_L_law_1371 ?_
  exact ih _ _ k2 cp2 cq2 cs2
set_option maxRecDepth 100000 in
set_option maxHeartbeats 4000000 in
theorem law_38 {L0 : Nat} {xs : Nat → Int32} {i : Int32} {c nc ns : Nat} {I : Iv} {J : Jv} (hroom : nc ≤ room_1.cells ∧ ns ≤ room_1.slots) (hL : L0 ≤ 3072) (hi0 : 0 ≤ i) (hi6 : i.toInt + 6 ≤ (L0 : Int)) (hc : c ≤ 600) (h : LI c I J) (hcp : CP I) (hcq : CQx c I J) (hcs : CS I) (ih : ∀ (I2 : Iv) (J2 : Jv), LI (c + 1) I2 J2 → CP I2 → CQx (c + 1) I2 J2 → CS I2 → G m_L_law (RQL L0 xs) nc ns 1565 [some (.ref 5000000), some (.ref 0), some (.ref 78), some (.int i)] [] SHF I2 J2) : G m_L_law (RQL L0 xs) nc ns 1374 [some (.ref 5000000), some (.ref 0), some (.ref 78), some (.int i)] [] SHF I J := by
  refine g_aload_n d_L_law_1374 rfl ?_
  refine g_aload_n d_L_law_1375 rfl ?_
  refine g_iload_n d_L_law_1376 rfl ?_
  refine g_iconst (v := 1) d_L_law_1377 kI_1 ?_
  refine g_iadd d_L_law_1378 ?_
  refine g_sld d_L_law_1379 (li_ix hi0 hi6 hL (by decide)) ?_
  refine g_topI (fun x1 ex1 => ?_)
  refine g_V1 d_L_law_1380 cs_L_law_X9_bulb lk_RL_175 im_X9_bulb se_X9_bulb (o := 0) rfl rfl rfl (Nat.le_of_ble_eq_true rfl) ⟨rfl, rfl⟩ hroom (ct_X9_bulb x1 I J ) (fun r_ S_ I2 J3 q4 => ?_)
  obtain ⟨rfl, hc4, v5, rfl, hf5⟩ := q4
  refine g_st (st' := [.int v5]) rfl ?_
  have cp1 : CP I2 := by have q := fr_fn_X9_bulb x1 I ki_rfl J; rw [hf5] at q; exact cp_ki hcp q
  have cq1 : CQx c I2 J3 := by have q := fr2_fn_X9_bulb x1 I ki2_rfl J kj2_rfl; rw [hf5] at q; exact cq_cls hcq q
  have cs1 : CS I2 := by have q := fr3_fn_X9_bulb x1 I ki3_rfl J; rw [hf5] at q; have q4 := fr4_fn_X9_bulb x1 I kI4_rfl J; rw [hf5] at q4; exact cs_cls hcq hcs q q4
  have hx : XT I2 J3 = XT I J := hc4
  have k1 : LQ (c + 1) I2 J3 := lq_x hx h.1.mono
  have t1 : LIt c J3 := lit_x hx h.1.2.1
  refine g_pop d_L_law_1383 rfl ?_
  refine g_aload_n d_L_law_1384 rfl ?_
  refine g_aload_n d_L_law_1385 rfl ?_
  refine g_iload_n d_L_law_1386 rfl ?_
  refine g_iconst (v := 1) d_L_law_1387 kI_1 ?_
  refine g_iadd d_L_law_1388 ?_
  refine g_sld d_L_law_1389 (li_ix hi0 hi6 hL (by decide)) ?_
  rw [← ex1]
  refine g_V1 d_L_law_1390 cs_L_law_X10_bulb lk_RL_178 im_X10_bulb se_X10_bulb (o := 78) rfl rfl rfl (Nat.le_of_ble_eq_true rfl) ⟨rfl, rfl⟩ hroom (ct_X10_bulb x1 I2 J3 k1.2.2.1 k1.2.2.2) (fun r_ S_ I7 J8 q9 => ?_)
  obtain ⟨rfl, hc9, v10, rfl, hf10, hr9⟩ := q9
  refine g_st (st' := [.int v10]) rfl ?_
  have cp2 : CP I7 := by have q := fr_fn_X10_bulb x1 I2 J3 ki_rfl; rw [hf10] at q; exact cp_ki (cp_beg J3 cp1) q
  have cq2 : CQx (c + 1) I7 J8 := by have q := fr2_fn_X10_bulb x1 I2 J3 qb2_rfl; rw [hf10] at q; exact cq_rb cq1 q
  have ceq := cs_bulb hc hcq hf5 hf10
  have cs2 : CS I7 := by have q := fr5_fn_X10_bulb x1 I2 J3 kI5_rfl; rw [hf10] at q; exact cs_rb cs1 q
  have kk : LI (c + 1) I7 J8 := by
    have ux := xt_lo hx (fun _ _ => rfl)
    exact li_d hx k1 (rl_up ux.1 ux.2 h.2) hr9
  have k2 := kk
  refine g_pop d_L_law_1393 rfl ?_
  refine g_goto d_L_law_1394 ?_
  exact ih _ _ k2 cp2 cq2 cs2
set_option maxRecDepth 100000 in
set_option maxHeartbeats 4000000 in
theorem law_39 {L0 : Nat} {xs : Nat → Int32} {i : Int32} {c nc ns : Nat} {I : Iv} {J : Jv} (hroom : nc ≤ room_1.cells ∧ ns ≤ room_1.slots) (hL : L0 ≤ 3072) (hi0 : 0 ≤ i) (hi6 : i.toInt + 6 ≤ (L0 : Int)) (hc : c ≤ 600) (h : LI c I J) (hcp : CP I) (hcq : CQx c I J) (hcs : CS I) (ih : ∀ (I2 : Iv) (J2 : Jv), LI (c + 1) I2 J2 → CP I2 → CQx (c + 1) I2 J2 → CS I2 → G m_L_law (RQL L0 xs) nc ns 1565 [some (.ref 5000000), some (.ref 0), some (.ref 78), some (.int i)] [] SHF I2 J2) : G m_L_law (RQL L0 xs) nc ns 1397 [some (.ref 5000000), some (.ref 0), some (.ref 78), some (.int i)] [] SHF I J := by
  refine g_aload_n d_L_law_1397 rfl ?_
  refine g_aload_n d_L_law_1398 rfl ?_
  refine g_iload_n d_L_law_1399 rfl ?_
  refine g_iconst (v := 1) d_L_law_1400 kI_1 ?_
  refine g_iadd d_L_law_1401 ?_
  refine g_sld d_L_law_1402 (li_ix hi0 hi6 hL (by decide)) ?_
  refine g_topI (fun x1 ex1 => ?_)
  refine g_V1 d_L_law_1403 cs_L_law_X9_without lk_RL_179 im_X9_without se_X9_without (o := 0) rfl rfl rfl (Nat.le_of_ble_eq_true rfl) ⟨rfl, rfl⟩ hroom (ct_X9_without x1 I J ) (fun r_ S_ I2 J3 q4 => ?_)
  obtain ⟨rfl, hc4, v5, rfl, hf5⟩ := q4
  refine g_st (st' := [.int v5]) rfl ?_
  have cp1 : CP I2 := by have q := fr_fn_X9_without x1 I ki_rfl J; rw [hf5] at q; exact cp_ki hcp q
  have cq1 : CQx c I2 J3 := by have q := fr2_fn_X9_without x1 I ki2_rfl J kj2_rfl; rw [hf5] at q; exact cq_cls hcq q
  have cs1 : CS I2 := by have q := fr3_fn_X9_without x1 I ki3_rfl J; rw [hf5] at q; have q4 := fr4_fn_X9_without x1 I kI4_rfl J; rw [hf5] at q4; exact cs_cls hcq hcs q q4
  have hx : XT I2 J3 = XT I J := hc4
  have k1 : LQ (c + 1) I2 J3 := lq_x hx h.1.mono
  have t1 : LIt c J3 := lit_x hx h.1.2.1
  refine g_pop d_L_law_1406 rfl ?_
  refine g_aload_n d_L_law_1407 rfl ?_
  refine g_aload_n d_L_law_1408 rfl ?_
  refine g_iload_n d_L_law_1409 rfl ?_
  refine g_iconst (v := 1) d_L_law_1410 kI_1 ?_
  refine g_iadd d_L_law_1411 ?_
  refine g_sld d_L_law_1412 (li_ix hi0 hi6 hL (by decide)) ?_
  rw [← ex1]
  refine g_V1 d_L_law_1413 cs_L_law_X10_without lk_RL_182 im_X10_without se_X10_without (o := 78) rfl rfl rfl (Nat.le_of_ble_eq_true rfl) ⟨rfl, rfl⟩ hroom (ct_X10_without x1 I2 J3 k1.2.2.1 k1.2.2.2) (fun r_ S_ I7 J8 q9 => ?_)
  obtain ⟨rfl, hc9, v10, rfl, hf10, hr9⟩ := q9
  refine g_st (st' := [.int v10]) rfl ?_
  have cp2 : CP I7 := by have q := fr_fn_X10_without x1 I2 J3 ki_rfl; rw [hf10] at q; exact cp_ki (cp_beg J3 cp1) q
  have cq2 : CQx (c + 1) I7 J8 := by have q := fr2_fn_X10_without x1 I2 J3 qb2_rfl; rw [hf10] at q; exact cq_rb cq1 q
  have ceq := cs_without hc hcq hf5 hf10
  have cs2 : CS I7 := by have q := fr5_fn_X10_without x1 I2 J3 kI5_rfl; rw [hf10] at q; exact cs_rb cs1 q
  have kk : LI (c + 1) I7 J8 := by
    have ux := xt_lo hx (fun _ _ => rfl)
    exact li_d hx k1 (rl_up ux.1 ux.2 h.2) hr9
  have k2 := kk
  refine g_pop d_L_law_1416 rfl ?_
  refine g_goto d_L_law_1417 ?_
  exact ih _ _ k2 cp2 cq2 cs2
set_option maxRecDepth 100000 in
set_option maxHeartbeats 4000000 in
theorem law_40 {L0 : Nat} {xs : Nat → Int32} {i : Int32} {c nc ns : Nat} {I : Iv} {J : Jv} (hroom : nc ≤ room_1.cells ∧ ns ≤ room_1.slots) (hL : L0 ≤ 3072) (hi0 : 0 ≤ i) (hi6 : i.toInt + 6 ≤ (L0 : Int)) (hc : c ≤ 600) (h : LI c I J) (hcp : CP I) (hcq : CQx c I J) (hcs : CS I) (ih : ∀ (I2 : Iv) (J2 : Jv), LI (c + 1) I2 J2 → CP I2 → CQx (c + 1) I2 J2 → CS I2 → G m_L_law (RQL L0 xs) nc ns 1565 [some (.ref 5000000), some (.ref 0), some (.ref 78), some (.int i)] [] SHF I2 J2) : G m_L_law (RQL L0 xs) nc ns 1420 [some (.ref 5000000), some (.ref 0), some (.ref 78), some (.int i)] [] SHF I J := by
  refine g_aload_n d_L_law_1420 rfl ?_
  refine g_aload_n d_L_law_1421 rfl ?_
  refine g_iload_n d_L_law_1422 rfl ?_
  refine g_iconst (v := 1) d_L_law_1423 kI_1 ?_
  refine g_iadd d_L_law_1424 ?_
  refine g_sld d_L_law_1425 (li_ix hi0 hi6 hL (by decide)) ?_
  refine g_topI (fun x1 ex1 => ?_)
  refine g_aload_n d_L_law_1426 rfl ?_
  refine g_iload_n d_L_law_1427 rfl ?_
  refine g_iconst (v := 2) d_L_law_1428 kI_2 ?_
  refine g_iadd d_L_law_1429 ?_
  refine g_sld d_L_law_1430 (li_ix hi0 hi6 hL (by decide)) ?_
  refine g_topI (fun x2 ex2 => ?_)
  refine g_aload_n d_L_law_1431 rfl ?_
  refine g_iload_n d_L_law_1432 rfl ?_
  refine g_iconst (v := 3) d_L_law_1433 kI_3 ?_
  refine g_iadd d_L_law_1434 ?_
  refine g_sld d_L_law_1435 (li_ix hi0 hi6 hL (by decide)) ?_
  refine g_topI (fun x3 ex3 => ?_)
  refine g_V3 d_L_law_1436 cs_L_law_X9_cheap lk_RL_183 im_X9_cheap se_X9_cheap (o := 0) rfl rfl rfl (Nat.le_of_ble_eq_true rfl) ⟨rfl, rfl⟩ hroom (ct_X9_cheap x1 x2 x3 I J ) (fun r_ S_ I4 J5 q6 => ?_)
  obtain ⟨rfl, hc6, v7, rfl, hf7⟩ := q6
  refine g_st (st' := [.int v7]) rfl ?_
  have cp1 : CP I4 := by have q := fr_fn_X9_cheap x1 x2 x3 I ki_rfl J; rw [hf7] at q; exact cp_ki hcp q
  have cq1 : CQx c I4 J5 := by have q := fr2_fn_X9_cheap x1 x2 x3 I ki2_rfl J kj2_rfl; rw [hf7] at q; exact cq_cls hcq q
  have cs1 : CS I4 := by have q := fr3_fn_X9_cheap x1 x2 x3 I ki3_rfl J; rw [hf7] at q; have q4 := fr4_fn_X9_cheap x1 x2 x3 I kI4_rfl J; rw [hf7] at q4; exact cs_cls hcq hcs q q4
  have hx : XT I4 J5 = XT I J := hc6
  have k1 : LQ (c + 1) I4 J5 := lq_x hx h.1.mono
  have t1 : LIt c J5 := lit_x hx h.1.2.1
  refine g_pop d_L_law_1439 rfl ?_
  refine g_aload_n d_L_law_1440 rfl ?_
  refine g_aload_n d_L_law_1441 rfl ?_
  refine g_iload_n d_L_law_1442 rfl ?_
  refine g_iconst (v := 1) d_L_law_1443 kI_1 ?_
  refine g_iadd d_L_law_1444 ?_
  refine g_sld d_L_law_1445 (li_ix hi0 hi6 hL (by decide)) ?_
  rw [← ex1]
  refine g_aload_n d_L_law_1446 rfl ?_
  refine g_iload_n d_L_law_1447 rfl ?_
  refine g_iconst (v := 2) d_L_law_1448 kI_2 ?_
  refine g_iadd d_L_law_1449 ?_
  refine g_sld d_L_law_1450 (li_ix hi0 hi6 hL (by decide)) ?_
  rw [← ex2]
  refine g_aload_n d_L_law_1451 rfl ?_
  refine g_iload_n d_L_law_1452 rfl ?_
  refine g_iconst (v := 3) d_L_law_1453 kI_3 ?_
  refine g_iadd d_L_law_1454 ?_
  refine g_sld d_L_law_1455 (li_ix hi0 hi6 hL (by decide)) ?_
  rw [← ex3]
  refine g_V3 d_L_law_1456 cs_L_law_X10_cheap lk_RL_186 im_X10_cheap se_X10_cheap (o := 78) rfl rfl rfl (Nat.le_of_ble_eq_true rfl) ⟨rfl, rfl⟩ hroom (ct_X10_cheap x1 x2 x3 I4 J5 k1.2.2.1 k1.2.2.2) (fun r_ S_ I11 J12 q13 => ?_)
  obtain ⟨rfl, hc13, v14, rfl, hf14, hr13⟩ := q13
  refine g_st (st' := [.int v14]) rfl ?_
  have cp2 : CP I11 := by have q := fr_fn_X10_cheap x1 x2 x3 I4 J5 ki_rfl; rw [hf14] at q; exact cp_ki (cp_beg J5 cp1) q
  have cq2 : CQx (c + 1) I11 J12 := by have q := fr2_fn_X10_cheap x1 x2 x3 I4 J5 qb2_rfl; rw [hf14] at q; exact cq_rb cq1 q
  have cs2 : CS I11 := by have q := fr5_fn_X10_cheap x1 x2 x3 I4 J5 kI5_rfl; rw [hf14] at q; exact cs_rb cs1 q
  have kk : LI (c + 1) I11 J12 := by
    have ux := xt_lo hx (fun _ _ => rfl)
    exact li_d hx k1 (rl_up ux.1 ux.2 h.2) hr13
  have k2 := kk
  refine g_pop d_L_law_1459 rfl ?_
  refine g_goto d_L_law_1460 ?_
  exact ih _ _ k2 cp2 cq2 cs2
set_option maxRecDepth 100000 in
set_option maxHeartbeats 4000000 in
theorem law_41 {L0 : Nat} {xs : Nat → Int32} {i : Int32} {c nc ns : Nat} {I : Iv} {J : Jv} (hroom : nc ≤ room_1.cells ∧ ns ≤ room_1.slots) (hL : L0 ≤ 3072) (hi0 : 0 ≤ i) (hi6 : i.toInt + 6 ≤ (L0 : Int)) (hc : c ≤ 600) (h : LI c I J) (hcp : CP I) (hcq : CQx c I J) (hcs : CS I) (ih : ∀ (I2 : Iv) (J2 : Jv), LI (c + 1) I2 J2 → CP I2 → CQx (c + 1) I2 J2 → CS I2 → G m_L_law (RQL L0 xs) nc ns 1565 [some (.ref 5000000), some (.ref 0), some (.ref 78), some (.int i)] [] SHF I2 J2) : G m_L_law (RQL L0 xs) nc ns 1463 [some (.ref 5000000), some (.ref 0), some (.ref 78), some (.int i)] [] SHF I J := by
  refine g_aload_n d_L_law_1463 rfl ?_
  refine g_aload_n d_L_law_1464 rfl ?_
  refine g_iload_n d_L_law_1465 rfl ?_
  refine g_iconst (v := 1) d_L_law_1466 kI_1 ?_
  refine g_iadd d_L_law_1467 ?_
  refine g_sld d_L_law_1468 (li_ix hi0 hi6 hL (by decide)) ?_
  refine g_topI (fun x1 ex1 => ?_)
  refine g_aload_n d_L_law_1469 rfl ?_
  refine g_iload_n d_L_law_1470 rfl ?_
  refine g_iconst (v := 2) d_L_law_1471 kI_2 ?_
  refine g_iadd d_L_law_1472 ?_
  refine g_sld d_L_law_1473 (li_ix hi0 hi6 hL (by decide)) ?_
  refine g_topI (fun x2 ex2 => ?_)
  refine g_V2 d_L_law_1474 cs_L_law_X9_store lk_RL_187 im_X9_store se_X9_store (o := 0) rfl rfl rfl (Nat.le_of_ble_eq_true rfl) ⟨rfl, rfl⟩ hroom (ct_X9_store x1 x2 I J ) (fun r_ S_ I3 J4 q5 => ?_)
  obtain ⟨rfl, hc5, v6, rfl, hf6⟩ := q5
  refine g_st (st' := [.int v6]) rfl ?_
  have cp1 : CP I3 := by have q := fr_fn_X9_store x1 x2 I ki_rfl J; rw [hf6] at q; exact cp_ki hcp q
  have cq1 : CQx c I3 J4 := by have q := fr2_fn_X9_store x1 x2 I ki2_rfl J kj2_rfl; rw [hf6] at q; exact cq_cls hcq q
  have cs1 : CS I3 := by have q := fr3_fn_X9_store x1 x2 I ki3_rfl J; rw [hf6] at q; have q4 := fr4_fn_X9_store x1 x2 I kI4_rfl J; rw [hf6] at q4; exact cs_cls hcq hcs q q4
  have hx : XT I3 J4 = XT I J := hc5
  have k1 : LQ (c + 1) I3 J4 := lq_x hx h.1.mono
  have t1 : LIt c J4 := lit_x hx h.1.2.1
  refine g_pop d_L_law_1477 rfl ?_
  refine g_aload_n d_L_law_1478 rfl ?_
  refine g_aload_n d_L_law_1479 rfl ?_
  refine g_iload_n d_L_law_1480 rfl ?_
  refine g_iconst (v := 1) d_L_law_1481 kI_1 ?_
  refine g_iadd d_L_law_1482 ?_
  refine g_sld d_L_law_1483 (li_ix hi0 hi6 hL (by decide)) ?_
  rw [← ex1]
  refine g_aload_n d_L_law_1484 rfl ?_
  refine g_iload_n d_L_law_1485 rfl ?_
  refine g_iconst (v := 2) d_L_law_1486 kI_2 ?_
  refine g_iadd d_L_law_1487 ?_
  refine g_sld d_L_law_1488 (li_ix hi0 hi6 hL (by decide)) ?_
  rw [← ex2]
  refine g_V2 d_L_law_1489 cs_L_law_X10_store lk_RL_190 im_X10_store se_X10_store (o := 78) rfl rfl rfl (Nat.le_of_ble_eq_true rfl) ⟨rfl, rfl⟩ hroom (ct_X10_store x1 x2 I3 J4 k1.2.2.1 k1.2.2.2) (fun r_ S_ I9 J10 q11 => ?_)
  obtain ⟨rfl, hc11, v12, rfl, hf12, hr11⟩ := q11
  refine g_st (st' := [.int v12]) rfl ?_
  have cp2 : CP I9 := by have q := fr_fn_X10_store x1 x2 I3 J4 ki_rfl; rw [hf12] at q; exact cp_ki (cp_beg J4 cp1) q
  have cq2 : CQx (c + 1) I9 J10 := by have q := fr2_fn_X10_store x1 x2 I3 J4 qb2_rfl; rw [hf12] at q; exact cq_rb cq1 q
  have cs2 : CS I9 := by have q := fr5_fn_X10_store x1 x2 I3 J4 kI5_rfl; rw [hf12] at q; exact cs_rb cs1 q
  have kk : LI (c + 1) I9 J10 := by
    have ux := xt_lo hx (fun _ _ => rfl)
    exact li_d hx k1 (rl_up ux.1 ux.2 h.2) hr11
  have k2 := kk
  refine g_pop d_L_law_1492 rfl ?_
  refine g_goto d_L_law_1493 ?_
  exact ih _ _ k2 cp2 cq2 cs2
set_option maxRecDepth 100000 in
set_option maxHeartbeats 4000000 in
theorem law_42 {L0 : Nat} {xs : Nat → Int32} {i : Int32} {c nc ns : Nat} {I : Iv} {J : Jv} (hroom : nc ≤ room_1.cells ∧ ns ≤ room_1.slots) (hL : L0 ≤ 3072) (hi0 : 0 ≤ i) (hi6 : i.toInt + 6 ≤ (L0 : Int)) (hc : c ≤ 600) (h : LI c I J) (hcp : CP I) (hcq : CQx c I J) (hcs : CS I) (ih : ∀ (I2 : Iv) (J2 : Jv), LI (c + 1) I2 J2 → CP I2 → CQx (c + 1) I2 J2 → CS I2 → G m_L_law (RQL L0 xs) nc ns 1565 [some (.ref 5000000), some (.ref 0), some (.ref 78), some (.int i)] [] SHF I2 J2) : G m_L_law (RQL L0 xs) nc ns 1496 [some (.ref 5000000), some (.ref 0), some (.ref 78), some (.int i)] [] SHF I J := by
  refine g_aload_n d_L_law_1496 rfl ?_
  refine g_aload_n d_L_law_1497 rfl ?_
  refine g_iload_n d_L_law_1498 rfl ?_
  refine g_iconst (v := 1) d_L_law_1499 kI_1 ?_
  refine g_iadd d_L_law_1500 ?_
  refine g_sld d_L_law_1501 (li_ix hi0 hi6 hL (by decide)) ?_
  refine g_topI (fun x1 ex1 => ?_)
  refine g_V1 d_L_law_1502 cs_L_law_X9_seed lk_RL_191 im_X9_seed se_X9_seed (o := 0) rfl rfl rfl (Nat.le_of_ble_eq_true rfl) ⟨rfl, rfl⟩ hroom (ct_X9_seed x1 I J ) (fun r_ S_ I2 J3 q4 => ?_)
  obtain ⟨rfl, hc4, v5, rfl, hf5⟩ := q4
  refine g_st (st' := [.int v5]) rfl ?_
  have cp1 : CP I2 := by have q := fr_fn_X9_seed x1 I ki_rfl J; rw [hf5] at q; exact cp_ki hcp q
  have cs1 : CS I2 := by have q := fr3_fn_X9_seed x1 I ki3_rfl J; rw [hf5] at q; have q4 := fr4_fn_X9_seed x1 I kI4_rfl J; rw [hf5] at q4; exact cs_cls hcq hcs q q4
  have hx : XT I2 J3 = XT I J := hc4
  have k1 : LQ (c + 1) I2 J3 := lq_x hx h.1.mono
  have t1 : LIt c J3 := lit_x hx h.1.2.1
  refine g_pop d_L_law_1505 rfl ?_
  refine g_aload_n d_L_law_1506 rfl ?_
  refine g_aload_n d_L_law_1507 rfl ?_
  refine g_iload_n d_L_law_1508 rfl ?_
  refine g_iconst (v := 1) d_L_law_1509 kI_1 ?_
  refine g_iadd d_L_law_1510 ?_
  refine g_sld d_L_law_1511 (li_ix hi0 hi6 hL (by decide)) ?_
  rw [← ex1]
  refine g_V1 d_L_law_1512 cs_L_law_X10_seed lk_RL_194 im_X10_seed se_X10_seed (o := 78) rfl rfl rfl (Nat.le_of_ble_eq_true rfl) ⟨rfl, rfl⟩ hroom (ct_X10_seed x1 I2 J3 k1.2.2.1 k1.2.2.2) (fun r_ S_ I7 J8 q9 => ?_)
  obtain ⟨rfl, hc9, v10, rfl, hf10, hr9⟩ := q9
  refine g_st (st' := [.int v10]) rfl ?_
  have cp2 : CP I7 := by have q := fr_fn_X10_seed x1 I2 J3 ki_rfl; rw [hf10] at q; exact cp_ki (cp_beg J3 cp1) q
  obtain ⟨ceq, cq2⟩ := cq_seed hcq hf5 hf10
  have cs2 : CS I7 := by have q := fr5_fn_X10_seed x1 I2 J3 kI5_rfl; rw [hf10] at q; exact cs_rb cs1 q
  have kk : LI (c + 1) I7 J8 := by
    have ux := xt_lo hx (fun _ _ => rfl)
    exact li_d hx k1 (rl_up ux.1 ux.2 h.2) hr9
  have k2 := kk
  refine g_pop d_L_law_1515 rfl ?_
  refine g_goto d_L_law_1516 ?_
  exact ih _ _ k2 cp2 cq2 cs2
set_option maxRecDepth 100000 in
set_option maxHeartbeats 4000000 in
theorem law_43 {L0 : Nat} {xs : Nat → Int32} {i : Int32} {c nc ns : Nat} {I : Iv} {J : Jv} (hroom : nc ≤ room_1.cells ∧ ns ≤ room_1.slots) (hL : L0 ≤ 3072) (hi0 : 0 ≤ i) (hi6 : i.toInt + 6 ≤ (L0 : Int)) (hc : c ≤ 600) (h : LI c I J) (hcp : CP I) (hcq : CQx c I J) (hcs : CS I) (ih : ∀ (I2 : Iv) (J2 : Jv), LI (c + 1) I2 J2 → CP I2 → CQx (c + 1) I2 J2 → CS I2 → G m_L_law (RQL L0 xs) nc ns 1565 [some (.ref 5000000), some (.ref 0), some (.ref 78), some (.int i)] [] SHF I2 J2) : G m_L_law (RQL L0 xs) nc ns 1519 [some (.ref 5000000), some (.ref 0), some (.ref 78), some (.int i)] [] SHF I J := by
  refine g_aload_n d_L_law_1519 rfl ?_
  refine g_aload_n d_L_law_1520 rfl ?_
  refine g_iload_n d_L_law_1521 rfl ?_
  refine g_iconst (v := 1) d_L_law_1522 kI_1 ?_
  refine g_iadd d_L_law_1523 ?_
  refine g_sld d_L_law_1524 (li_ix hi0 hi6 hL (by decide)) ?_
  refine g_topI (fun x1 ex1 => ?_)
  refine g_V1 d_L_law_1525 cs_L_law_X9_keep lk_RL_195 im_X9_keep se_X9_keep (o := 0) rfl rfl rfl (Nat.le_of_ble_eq_true rfl) ⟨rfl, rfl⟩ hroom (ct_X9_keep x1 I J ) (fun r_ S_ I2 J3 q4 => ?_)
  obtain ⟨rfl, hc4, v5, rfl, hf5, hr4⟩ := q4
  refine g_st (st' := [.int v5]) rfl ?_
  have cp1 : CP I2 := by have q := fr_fn_X9_keep x1 I ki_rfl J; rw [hf5] at q; exact cp_ki hcp q
  have cs1 : CS I2 := by have q := fr3_fn_X9_keep x1 I ki3_rfl J; rw [hf5] at q; have q4 := fr4_fn_X9_keep x1 I kI4_rfl J; rw [hf5] at q4; exact cs_cls hcq hcs q q4
  have kt : LQ (c + 1) I2 J3 ∧ LIt c J3 := by
    rcases hr4 with ⟨g1, g2, gv, hx⟩ | ⟨g1, gv, hx⟩
    · exact ⟨lq_x hx (lq_kp h.1.mono), lit_x hx h.1.2.1⟩
    · exact ⟨lq_x hx (h.1.mono), lit_x hx h.1.2.1⟩
  obtain ⟨k1, t1⟩ := kt
  refine g_pop d_L_law_1528 rfl ?_
  refine g_aload_n d_L_law_1529 rfl ?_
  refine g_aload_n d_L_law_1530 rfl ?_
  refine g_iload_n d_L_law_1531 rfl ?_
  refine g_iconst (v := 1) d_L_law_1532 kI_1 ?_
  refine g_iadd d_L_law_1533 ?_
  refine g_sld d_L_law_1534 (li_ix hi0 hi6 hL (by decide)) ?_
  rw [← ex1]
  refine g_V1 d_L_law_1535 cs_L_law_X10_keep lk_RL_198 im_X10_keep se_X10_keep (o := 78) rfl rfl rfl (Nat.le_of_ble_eq_true rfl) ⟨rfl, rfl⟩ hroom (ct_X10_keep x1 I2 J3 k1.2.2.1 k1.2.2.2) (fun r_ S_ I7 J8 q9 => ?_)
  obtain ⟨rfl, hc9, v10, rfl, hf10, hr9⟩ := q9
  refine g_st (st' := [.int v10]) rfl ?_
  have cp2 : CP I7 := by have q := fr_fn_X10_keep x1 I2 J3 ki_rfl; rw [hf10] at q; exact cp_ki (cp_beg J3 cp1) q
  obtain ⟨ceq, cq2⟩ := cq_keep hcq hf5 hf10
  have cs2 : CS I7 := by have q := fr5_fn_X10_keep x1 I2 J3 kI5_rfl; rw [hf10] at q; exact cs_rb cs1 q
  have kk : LI (c + 1) I7 J8 := by
    rcases hr4 with ⟨g1, g2, gv, hx⟩ | ⟨g1, gv, hx⟩
    · skip
      rcases hr9 with ⟨m1, mv, hi, hj⟩ | ⟨m1, m2, mv, hi, hj⟩
      · skip
        exact absurd (show False by grind) id
      · skip
        have ux := xt_lo hx hi_kp
        exact li_fin hx hi hj (lo_bw (by omega)) k1.1 (lit_kp (lit_bg k1.2.1)) (rl_bg (bg_nw (by omega)) ((rl_hi (wI_hi (bgI_hi ux.1)) (kpJ_hi (bgJ_hi ux.1 ux.2)) (rl_kept (rl_kp h.2)))))
    · skip
      rcases hr9 with ⟨m1, mv, hi, hj⟩ | ⟨m1, m2, mv, hi, hj⟩
      · skip
        have ux := xt_lo hx (fun _ _ => rfl)
        exact li_fin hx hi hj lo_bg k1.1 (lit_bg k1.2.1) (rl_bg bg_ne (rl_up ux.1 ux.2 (h.2)))
      · skip
        exact absurd (show False by grind) id
  have k2 := kk
  refine g_pop d_L_law_1538 rfl ?_
  refine g_goto d_L_law_1539 ?_
  exact ih _ _ k2 cp2 cq2 cs2
set_option maxRecDepth 100000 in
set_option maxHeartbeats 4000000 in
theorem law_44 {L0 : Nat} {xs : Nat → Int32} {i : Int32} {c nc ns : Nat} {I : Iv} {J : Jv} (hroom : nc ≤ room_1.cells ∧ ns ≤ room_1.slots) (hL : L0 ≤ 3072) (hi0 : 0 ≤ i) (hi6 : i.toInt + 6 ≤ (L0 : Int)) (hc : c ≤ 600) (h : LI c I J) (hcp : CP I) (hcq : CQx c I J) (hcs : CS I) (ih : ∀ (I2 : Iv) (J2 : Jv), LI (c + 1) I2 J2 → CP I2 → CQx (c + 1) I2 J2 → CS I2 → G m_L_law (RQL L0 xs) nc ns 1565 [some (.ref 5000000), some (.ref 0), some (.ref 78), some (.int i)] [] SHF I2 J2) : G m_L_law (RQL L0 xs) nc ns 1542 [some (.ref 5000000), some (.ref 0), some (.ref 78), some (.int i)] [] SHF I J := by
  refine g_aload_n d_L_law_1542 rfl ?_
  refine g_aload_n d_L_law_1543 rfl ?_
  refine g_iload_n d_L_law_1544 rfl ?_
  refine g_iconst (v := 1) d_L_law_1545 kI_1 ?_
  refine g_iadd d_L_law_1546 ?_
  refine g_sld d_L_law_1547 (li_ix hi0 hi6 hL (by decide)) ?_
  refine g_topI (fun x1 ex1 => ?_)
  refine g_V1 d_L_law_1548 cs_L_law_X9_goBack lk_RL_199 im_X9_goBack se_X9_goBack (o := 0) rfl rfl rfl (Nat.le_of_ble_eq_true rfl) ⟨rfl, rfl⟩ hroom (ct_X9_goBack x1 I J ) (fun r_ S_ I2 J3 q4 => ?_)
  obtain ⟨rfl, hc4, v5, rfl, hf5, hr4⟩ := q4
  refine g_st (st' := [.int v5]) rfl ?_
  have cp1 : CP I2 := by have q := fr_fn_X9_goBack x1 I ki_rfl J; rw [hf5] at q; exact cp_ki hcp q
  have cs1 : CS I2 := by have q := fr3_fn_X9_goBack x1 I ki3_rfl J; rw [hf5] at q; have q4 := fr4_fn_X9_goBack x1 I kI4_rfl J; rw [hf5] at q4; exact cs_cls hcq hcs q q4
  have kt : LQ (c + 1) I2 J3 ∧ LIt c J3 := by
    rcases hr4 with ⟨g1, g2, g3, gv, hx⟩ | ⟨g1, gv, hx⟩ | ⟨g1, g2, g3, gv, hx⟩
    · exact ⟨lq_x hx (lq_gb h.1.mono), lit_x hx h.1.2.1⟩
    · exact ⟨lq_x hx (h.1.mono), lit_x hx h.1.2.1⟩
    · exact ⟨lq_x hx (h.1.mono), lit_x hx h.1.2.1⟩
  obtain ⟨k1, t1⟩ := kt
  refine g_pop d_L_law_1551 rfl ?_
  refine g_aload_n d_L_law_1552 rfl ?_
  refine g_aload_n d_L_law_1553 rfl ?_
  refine g_iload_n d_L_law_1554 rfl ?_
  refine g_iconst (v := 1) d_L_law_1555 kI_1 ?_
  refine g_iadd d_L_law_1556 ?_
  refine g_sld d_L_law_1557 (li_ix hi0 hi6 hL (by decide)) ?_
  rw [← ex1]
  refine g_V1 d_L_law_1558 cs_L_law_X10_goBack lk_RL_202 im_X10_goBack se_X10_goBack (o := 78) rfl rfl rfl (Nat.le_of_ble_eq_true rfl) ⟨rfl, rfl⟩ hroom (ct_X10_goBack x1 I2 J3 k1.2.2.1 k1.2.2.2) (fun r_ S_ I7 J8 q9 => ?_)
  obtain ⟨rfl, hc9, v10, rfl, hf10, hr9⟩ := q9
  refine g_st (st' := [.int v10]) rfl ?_
  have cp2 : CP I7 := by have q := fr_fn_X10_goBack x1 I2 J3 ki_rfl; rw [hf10] at q; exact cp_ki (cp_beg J3 cp1) q
  obtain ⟨ceq, cq2⟩ := cq_goBack hcq hf5 hf10
  have cs2 : CS I7 := by have q := fr5_fn_X10_goBack x1 I2 J3 kI5_rfl; rw [hf10] at q; exact cs_rb cs1 q
  have kk : LI (c + 1) I7 J8 := by
    rcases hr4 with ⟨g1, g2, g3, gv, hx⟩ | ⟨g1, gv, hx⟩ | ⟨g1, g2, g3, gv, hx⟩
    · skip
      rcases hr9 with ⟨m1, mv, hi, hj⟩ | ⟨m1, m2, m3, mv, hi, hj⟩ | ⟨m1, m2, m3, mv, hi, hj⟩
      · skip
        exact absurd (show False by exact m1 ⟨g1, g2⟩) id
      · skip
        exact absurd (show False by exact g3 (by rw [h.2.2.2.2.2.2.2.2 _ (tn_2 g1 g2), ← bgI_hi (xt_lo hx hi_gb).1 80 (by omega)]; exact m3)) id
      · skip
        have ux := xt_lo hx hi_gb
        exact li_fin hx hi hj lo_bg k1.1 (lit_gb (lit_bg k1.2.1)) (rl_bg bg_ne ((rl_hi (bgI_hi ux.1) (gbJ_hi (bgJ_hi ux.1 ux.2)) (rl_gb h.2))))
    · skip
      rcases hr9 with ⟨m1, mv, hi, hj⟩ | ⟨m1, m2, m3, mv, hi, hj⟩ | ⟨m1, m2, m3, mv, hi, hj⟩
      · skip
        have ux := xt_lo hx (fun _ _ => rfl)
        exact li_fin hx hi hj lo_bg k1.1 (lit_bg k1.2.1) (rl_bg bg_ne (rl_up ux.1 ux.2 (h.2)))
      · skip
        exact absurd (show False by exact g1 ⟨m1, m2⟩) id
      · skip
        exact absurd (show False by exact g1 ⟨m1, m2⟩) id
    · skip
      rcases hr9 with ⟨m1, mv, hi, hj⟩ | ⟨m1, m2, m3, mv, hi, hj⟩ | ⟨m1, m2, m3, mv, hi, hj⟩
      · skip
        exact absurd (show False by exact m1 ⟨g1, g2⟩) id
      · skip
        have ux := xt_lo hx (fun _ _ => rfl)
        exact li_fin hx hi hj lo_bg k1.1 (lit_bg k1.2.1) (rl_bg bg_ne (rl_up ux.1 ux.2 (h.2)))
      · skip
        exact absurd (show False by exact m3 (by rw [bgI_hi (xt_lo hx (fun _ _ => rfl)).1 80 (by omega), ← h.2.2.2.2.2.2.2.2 _ (tn_2 g1 g2)]; exact g3)) id
  have k2 := kk
  refine g_pop d_L_law_1561 rfl ?_
  refine g_goto d_L_law_1562 ?_
  exact ih _ _ k2 cp2 cq2 cs2
