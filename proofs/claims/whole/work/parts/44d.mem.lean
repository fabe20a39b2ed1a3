-- ===== what is read and written at each address =====
theorem an_1 (x : Int32) : x &&& 1 = 0 ∨ x &&& 1 = 1 := by
  by_cases c : bt x 0 = true
  · exact Or.inr ((b1_1 x).mpr c)
  · exact Or.inl ((b1_0 x).mpr (by simpa using c))
theorem rd_64 (v_pe : Int32) (v_pr v_se : Nat → Int32) (v_ms v_me v_mt v_us v_ue v_ut : Int32) (v_ti v_co : Int64) (v_sf : Int32) : f_dv_readWord v_pe v_pr v_se v_ms v_me v_mt v_us v_ue v_ut v_ti v_co v_sf 64 = (v_pe, v_pe, v_se) := by
  unfold f_dv_readWord
  rw [if_pos (by decide), if_pos rfl]
theorem rd_128 (v_pe : Int32) (v_pr v_se : Nat → Int32) (v_ms v_me v_mt v_us v_ue v_ut : Int32) (v_ti v_co : Int64) (v_sf : Int32) : f_dv_readWord v_pe v_pr v_se v_ms v_me v_mt v_us v_ue v_ut v_ti v_co v_sf 128 = (v_me, v_pe, v_se) := by
  unfold f_dv_readWord
  rw [if_pos (by decide), if_neg (by decide), if_pos rfl]
theorem rd_132 (v_pe : Int32) (v_pr v_se : Nat → Int32) (v_ms v_me v_mt v_us v_ue v_ut : Int32) (v_ti v_co : Int64) (v_sf : Int32) : f_dv_readWord v_pe v_pr v_se v_ms v_me v_mt v_us v_ue v_ut v_ti v_co v_sf 132 = (v_mt, v_pe, v_se) := by
  unfold f_dv_readWord
  rw [if_pos (by decide), if_neg (by decide), if_neg (by decide), if_pos rfl]
theorem rd_136 (v_pe : Int32) (v_pr v_se : Nat → Int32) (v_ms v_me v_mt v_us v_ue v_ut : Int32) (v_ti v_co : Int64) (v_sf : Int32) : f_dv_readWord v_pe v_pr v_se v_ms v_me v_mt v_us v_ue v_ut v_ti v_co v_sf 136 = ((f_ct_claim v_ms v_me v_pe v_pr v_se).1, (f_ct_claim v_ms v_me v_pe v_pr v_se).2.1, (f_ct_claim v_ms v_me v_pe v_pr v_se).2.2) := by
  unfold f_dv_readWord
  rw [if_pos (by decide), if_neg (by decide), if_neg (by decide), if_neg (by decide), if_pos rfl]
theorem rd_144 (v_pe : Int32) (v_pr v_se : Nat → Int32) (v_ms v_me v_mt v_us v_ue v_ut : Int32) (v_ti v_co : Int64) (v_sf : Int32) : f_dv_readWord v_pe v_pr v_se v_ms v_me v_mt v_us v_ue v_ut v_ti v_co v_sf 144 = (v_ue, v_pe, v_se) := by
  unfold f_dv_readWord
  rw [if_pos (by decide), if_neg (by decide), if_neg (by decide), if_neg (by decide), if_neg (by decide), if_pos rfl]
theorem rd_148 (v_pe : Int32) (v_pr v_se : Nat → Int32) (v_ms v_me v_mt v_us v_ue v_ut : Int32) (v_ti v_co : Int64) (v_sf : Int32) : f_dv_readWord v_pe v_pr v_se v_ms v_me v_mt v_us v_ue v_ut v_ti v_co v_sf 148 = (v_ut, v_pe, v_se) := by
  unfold f_dv_readWord
  rw [if_pos (by decide), if_neg (by decide), if_neg (by decide), if_neg (by decide), if_neg (by decide), if_neg (by decide), if_pos rfl]
theorem rd_152 (v_pe : Int32) (v_pr v_se : Nat → Int32) (v_ms v_me v_mt v_us v_ue v_ut : Int32) (v_ti v_co : Int64) (v_sf : Int32) : f_dv_readWord v_pe v_pr v_se v_ms v_me v_mt v_us v_ue v_ut v_ti v_co v_sf 152 = ((f_ct_claim v_us v_ue v_pe v_pr v_se).1, (f_ct_claim v_us v_ue v_pe v_pr v_se).2.1, (f_ct_claim v_us v_ue v_pe v_pr v_se).2.2) := by
  unfold f_dv_readWord
  rw [if_pos (by decide), if_neg (by decide), if_neg (by decide), if_neg (by decide), if_neg (by decide), if_neg (by decide), if_neg (by decide), if_pos rfl]
theorem rd_192 (v_pe : Int32) (v_pr v_se : Nat → Int32) (v_ms v_me v_mt v_us v_ue v_ut : Int32) (v_ti v_co : Int64) (v_sf : Int32) : f_dv_readWord v_pe v_pr v_se v_ms v_me v_mt v_us v_ue v_ut v_ti v_co v_sf 192 = (v_sf, v_pe, v_se) := by
  unfold f_dv_readWord
  rw [if_pos (by decide), if_neg (by decide), if_neg (by decide), if_neg (by decide), if_neg (by decide), if_neg (by decide), if_neg (by decide), if_neg (by decide), if_pos rfl]
theorem rd_196 (v_pe : Int32) (v_pr v_se : Nat → Int32) (v_ms v_me v_mt v_us v_ue v_ut : Int32) (v_ti v_co : Int64) (v_sf : Int32) : f_dv_readWord v_pe v_pr v_se v_ms v_me v_mt v_us v_ue v_ut v_ti v_co v_sf 196 = ((v_co : Int64).toInt32, v_pe, v_se) := by
  unfold f_dv_readWord
  rw [if_pos (by decide), if_neg (by decide), if_neg (by decide), if_neg (by decide), if_neg (by decide), if_neg (by decide), if_neg (by decide), if_neg (by decide), if_neg (by decide), if_pos rfl]
theorem rd_200 (v_pe : Int32) (v_pr v_se : Nat → Int32) (v_ms v_me v_mt v_us v_ue v_ut : Int32) (v_ti v_co : Int64) (v_sf : Int32) : f_dv_readWord v_pe v_pr v_se v_ms v_me v_mt v_us v_ue v_ut v_ti v_co v_sf 200 = ((v_co >>> (((32 : Int32) : Int32).toInt64 &&& 63) : Int64).toInt32, v_pe, v_se) := by
  unfold f_dv_readWord
  rw [if_pos (by decide), if_neg (by decide), if_neg (by decide), if_neg (by decide), if_neg (by decide), if_neg (by decide), if_neg (by decide), if_neg (by decide), if_neg (by decide), if_neg (by decide), if_pos rfl, hi_32]
theorem rd_204 (v_pe : Int32) (v_pr v_se : Nat → Int32) (v_ms v_me v_mt v_us v_ue v_ut : Int32) (v_ti v_co : Int64) (v_sf : Int32) : f_dv_readWord v_pe v_pr v_se v_ms v_me v_mt v_us v_ue v_ut v_ti v_co v_sf 204 = ((v_ti : Int64).toInt32, v_pe, v_se) := by
  unfold f_dv_readWord
  rw [if_pos (by decide), if_neg (by decide), if_neg (by decide), if_neg (by decide), if_neg (by decide), if_neg (by decide), if_neg (by decide), if_neg (by decide), if_neg (by decide), if_neg (by decide), if_neg (by decide), if_pos rfl]
theorem rd_208 (v_pe : Int32) (v_pr v_se : Nat → Int32) (v_ms v_me v_mt v_us v_ue v_ut : Int32) (v_ti v_co : Int64) (v_sf : Int32) : f_dv_readWord v_pe v_pr v_se v_ms v_me v_mt v_us v_ue v_ut v_ti v_co v_sf 208 = ((v_ti >>> (((32 : Int32) : Int32).toInt64 &&& 63) : Int64).toInt32, v_pe, v_se) := by
  unfold f_dv_readWord
  rw [if_pos (by decide), if_neg (by decide), if_neg (by decide), if_neg (by decide), if_neg (by decide), if_neg (by decide), if_neg (by decide), if_neg (by decide), if_neg (by decide), if_neg (by decide), if_neg (by decide), if_neg (by decide), if_pos rfl, hi_32]
theorem tk_64 (w_ti w_co : Int64) (w_so : Int32) (w_pr w_pn w_se w_en w_tt : Nat → Int32) : f_mo_take w_ti w_co w_so w_pr w_pn w_se w_en w_tt 64 = (f_mo_pendingSet w_pn, w_pn, w_se) := by
  have hw : f_mo_wordAt 64 = 2 := by decide
  unfold f_mo_take
  rw [hw, if_neg (by decide), if_pos rfl]
theorem tk_128 (w_ti w_co : Int64) (w_so : Int32) (w_pr w_pn w_se w_en w_tt : Nat → Int32) : f_mo_take w_ti w_co w_so w_pr w_pn w_se w_en w_tt 128 = (w_en 0, w_pn, w_se) := by
  have hw : f_mo_wordAt 128 = 3 := by decide
  have hc : f_mo_contextAt 128 = 0 := by decide
  unfold f_mo_take
  rw [hw, if_neg (by decide), if_neg (by decide), if_pos rfl, hc]
  rfl
theorem tk_132 (w_ti w_co : Int64) (w_so : Int32) (w_pr w_pn w_se w_en w_tt : Nat → Int32) : f_mo_take w_ti w_co w_so w_pr w_pn w_se w_en w_tt 132 = (w_tt 0, w_pn, w_se) := by
  have hw : f_mo_wordAt 132 = 4 := by decide
  have hc : f_mo_contextAt 132 = 0 := by decide
  unfold f_mo_take
  rw [hw, if_neg (by decide), if_neg (by decide), if_neg (by decide), if_pos rfl, hc]
  rfl
theorem tk_136 (w_ti w_co : Int64) (w_so : Int32) (w_pr w_pn w_se w_en w_tt : Nat → Int32) : f_mo_take w_ti w_co w_so w_pr w_pn w_se w_en w_tt 136 = ((f_mo_claim w_pr w_pn w_se w_en 0).1, (f_mo_claim w_pr w_pn w_se w_en 0).2.1, (f_mo_claim w_pr w_pn w_se w_en 0).2.2) := by
  have hw : f_mo_wordAt 136 = 5 := by decide
  have hc : f_mo_contextAt 136 = 0 := by decide
  unfold f_mo_take
  rw [hw, if_neg (by decide), if_neg (by decide), if_neg (by decide), if_neg (by decide), if_pos rfl, hc]
theorem tk_144 (w_ti w_co : Int64) (w_so : Int32) (w_pr w_pn w_se w_en w_tt : Nat → Int32) : f_mo_take w_ti w_co w_so w_pr w_pn w_se w_en w_tt 144 = (w_en 1, w_pn, w_se) := by
  have hw : f_mo_wordAt 144 = 3 := by decide
  have hc : f_mo_contextAt 144 = 1 := by decide
  unfold f_mo_take
  rw [hw, if_neg (by decide), if_neg (by decide), if_pos rfl, hc]
  rfl
theorem tk_148 (w_ti w_co : Int64) (w_so : Int32) (w_pr w_pn w_se w_en w_tt : Nat → Int32) : f_mo_take w_ti w_co w_so w_pr w_pn w_se w_en w_tt 148 = (w_tt 1, w_pn, w_se) := by
  have hw : f_mo_wordAt 148 = 4 := by decide
  have hc : f_mo_contextAt 148 = 1 := by decide
  unfold f_mo_take
  rw [hw, if_neg (by decide), if_neg (by decide), if_neg (by decide), if_pos rfl, hc]
  rfl
theorem tk_152 (w_ti w_co : Int64) (w_so : Int32) (w_pr w_pn w_se w_en w_tt : Nat → Int32) : f_mo_take w_ti w_co w_so w_pr w_pn w_se w_en w_tt 152 = ((f_mo_claim w_pr w_pn w_se w_en 1).1, (f_mo_claim w_pr w_pn w_se w_en 1).2.1, (f_mo_claim w_pr w_pn w_se w_en 1).2.2) := by
  have hw : f_mo_wordAt 152 = 5 := by decide
  have hc : f_mo_contextAt 152 = 1 := by decide
  unfold f_mo_take
  rw [hw, if_neg (by decide), if_neg (by decide), if_neg (by decide), if_neg (by decide), if_pos rfl, hc]
theorem tk_192 (w_ti w_co : Int64) (w_so : Int32) (w_pr w_pn w_se w_en w_tt : Nat → Int32) : f_mo_take w_ti w_co w_so w_pr w_pn w_se w_en w_tt 192 = (w_so, w_pn, w_se) := by
  have hw : f_mo_wordAt 192 = 6 := by decide
  unfold f_mo_take
  rw [hw, if_neg (by decide), if_neg (by decide), if_neg (by decide), if_neg (by decide), if_neg (by decide), if_pos rfl]
theorem tk_196 (w_ti w_co : Int64) (w_so : Int32) (w_pr w_pn w_se w_en w_tt : Nat → Int32) : f_mo_take w_ti w_co w_so w_pr w_pn w_se w_en w_tt 196 = ((w_co : Int64).toInt32, w_pn, w_se) := by
  have hw : f_mo_wordAt 196 = 7 := by decide
  unfold f_mo_take
  rw [hw, if_neg (by decide), if_neg (by decide), if_neg (by decide), if_neg (by decide), if_neg (by decide), if_neg (by decide), if_pos rfl]
theorem tk_200 (w_ti w_co : Int64) (w_so : Int32) (w_pr w_pn w_se w_en w_tt : Nat → Int32) : f_mo_take w_ti w_co w_so w_pr w_pn w_se w_en w_tt 200 = ((w_co >>> (((32 : Int32) : Int32).toInt64 &&& 63) : Int64).toInt32, w_pn, w_se) := by
  have hw : f_mo_wordAt 200 = 8 := by decide
  unfold f_mo_take
  rw [hw, if_neg (by decide), if_neg (by decide), if_neg (by decide), if_neg (by decide), if_neg (by decide), if_neg (by decide), if_neg (by decide), if_pos rfl]
theorem tk_204 (w_ti w_co : Int64) (w_so : Int32) (w_pr w_pn w_se w_en w_tt : Nat → Int32) : f_mo_take w_ti w_co w_so w_pr w_pn w_se w_en w_tt 204 = ((w_ti : Int64).toInt32, w_pn, w_se) := by
  have hw : f_mo_wordAt 204 = 9 := by decide
  unfold f_mo_take
  rw [hw, if_neg (by decide), if_neg (by decide), if_neg (by decide), if_neg (by decide), if_neg (by decide), if_neg (by decide), if_neg (by decide), if_neg (by decide), if_pos rfl]
theorem tk_208 (w_ti w_co : Int64) (w_so : Int32) (w_pr w_pn w_se w_en w_tt : Nat → Int32) : f_mo_take w_ti w_co w_so w_pr w_pn w_se w_en w_tt 208 = ((w_ti >>> (((32 : Int32) : Int32).toInt64 &&& 63) : Int64).toInt32, w_pn, w_se) := by
  have hw : f_mo_wordAt 208 = 10 := by decide
  unfold f_mo_take
  rw [hw, if_neg (by decide), if_neg (by decide), if_neg (by decide), if_neg (by decide), if_neg (by decide), if_neg (by decide), if_neg (by decide), if_neg (by decide), if_neg (by decide)]
theorem wt_128 (v_eg v_hi v_pe : Int32) (v_pr v_wa v_se : Nat → Int32) (v_me v_mt v_ue v_ut : Int32) (v_ti v_co : Int64) (v_sf p1 : Int32) : f_dv_writeWord v_eg v_hi v_pe v_pr v_wa v_se v_me v_mt v_ue v_ut v_ti v_co v_sf 128 p1 = (v_pe, v_pr, v_wa, v_se, p1 &&& 65534, v_mt, v_ue, v_ut, v_ti, v_co, v_sf) := by
  unfold f_dv_writeWord
  rw [if_pos (by decide), if_pos rfl]
theorem wt_132 (v_eg v_hi v_pe : Int32) (v_pr v_wa v_se : Nat → Int32) (v_me v_mt v_ue v_ut : Int32) (v_ti v_co : Int64) (v_sf p1 : Int32) : f_dv_writeWord v_eg v_hi v_pe v_pr v_wa v_se v_me v_mt v_ue v_ut v_ti v_co v_sf 132 p1 = (v_pe, v_pr, v_wa, v_se, v_me, p1 &&& 7, v_ue, v_ut, v_ti, v_co, v_sf) := by
  unfold f_dv_writeWord
  rw [if_pos (by decide), if_neg (by decide), if_pos rfl]
theorem wt_136 (v_eg v_hi v_pe : Int32) (v_pr v_wa v_se : Nat → Int32) (v_me v_mt v_ue v_ut : Int32) (v_ti v_co : Int64) (v_sf p1 : Int32) : f_dv_writeWord v_eg v_hi v_pe v_pr v_wa v_se v_me v_mt v_ue v_ut v_ti v_co v_sf 136 p1 = ((f_ct_complete v_me v_eg v_hi v_pe v_wa v_se p1).1, v_pr, (f_ct_complete v_me v_eg v_hi v_pe v_wa v_se p1).2.1, (f_ct_complete v_me v_eg v_hi v_pe v_wa v_se p1).2.2, v_me, v_mt, v_ue, v_ut, v_ti, v_co, v_sf) := by
  unfold f_dv_writeWord
  rw [if_pos (by decide), if_neg (by decide), if_neg (by decide), if_pos rfl]
theorem wt_144 (v_eg v_hi v_pe : Int32) (v_pr v_wa v_se : Nat → Int32) (v_me v_mt v_ue v_ut : Int32) (v_ti v_co : Int64) (v_sf p1 : Int32) : f_dv_writeWord v_eg v_hi v_pe v_pr v_wa v_se v_me v_mt v_ue v_ut v_ti v_co v_sf 144 p1 = (v_pe, v_pr, v_wa, v_se, v_me, v_mt, p1 &&& 65534, v_ut, v_ti, v_co, v_sf) := by
  unfold f_dv_writeWord
  rw [if_pos (by decide), if_neg (by decide), if_neg (by decide), if_neg (by decide), if_pos rfl]
theorem wt_148 (v_eg v_hi v_pe : Int32) (v_pr v_wa v_se : Nat → Int32) (v_me v_mt v_ue v_ut : Int32) (v_ti v_co : Int64) (v_sf p1 : Int32) : f_dv_writeWord v_eg v_hi v_pe v_pr v_wa v_se v_me v_mt v_ue v_ut v_ti v_co v_sf 148 p1 = (v_pe, v_pr, v_wa, v_se, v_me, v_mt, v_ue, p1 &&& 7, v_ti, v_co, v_sf) := by
  unfold f_dv_writeWord
  rw [if_pos (by decide), if_neg (by decide), if_neg (by decide), if_neg (by decide), if_neg (by decide), if_pos rfl]
theorem wt_152 (v_eg v_hi v_pe : Int32) (v_pr v_wa v_se : Nat → Int32) (v_me v_mt v_ue v_ut : Int32) (v_ti v_co : Int64) (v_sf p1 : Int32) : f_dv_writeWord v_eg v_hi v_pe v_pr v_wa v_se v_me v_mt v_ue v_ut v_ti v_co v_sf 152 p1 = ((f_ct_complete v_ue v_eg v_hi v_pe v_wa v_se p1).1, v_pr, (f_ct_complete v_ue v_eg v_hi v_pe v_wa v_se p1).2.1, (f_ct_complete v_ue v_eg v_hi v_pe v_wa v_se p1).2.2, v_me, v_mt, v_ue, v_ut, v_ti, v_co, v_sf) := by
  unfold f_dv_writeWord
  rw [if_pos (by decide), if_neg (by decide), if_neg (by decide), if_neg (by decide), if_neg (by decide), if_neg (by decide), if_pos rfl]
theorem wt_192 (v_eg v_hi v_pe : Int32) (v_pr v_wa v_se : Nat → Int32) (v_me v_mt v_ue v_ut : Int32) (v_ti v_co : Int64) (v_sf p1 : Int32) : f_dv_writeWord v_eg v_hi v_pe v_pr v_wa v_se v_me v_mt v_ue v_ut v_ti v_co v_sf 192 p1 = (v_pe, v_pr, v_wa, v_se, v_me, v_mt, v_ue, v_ut, v_ti, v_co, p1 &&& 1) := by
  unfold f_dv_writeWord
  rw [if_pos (by decide), if_neg (by decide), if_neg (by decide), if_neg (by decide), if_neg (by decide), if_neg (by decide), if_neg (by decide), if_pos rfl]
theorem wt_196 (v_eg v_hi v_pe : Int32) (v_pr v_wa v_se : Nat → Int32) (v_me v_mt v_ue v_ut : Int32) (v_ti v_co : Int64) (v_sf p1 : Int32) : f_dv_writeWord v_eg v_hi v_pe v_pr v_wa v_se v_me v_mt v_ue v_ut v_ti v_co v_sf 196 p1 = (v_pe, v_pr, v_wa, v_se, v_me, v_mt, v_ue, v_ut, v_ti, f_mo_half v_co p1 0, v_sf) := by
  unfold f_dv_writeWord
  rw [if_pos (by decide), if_neg (by decide), if_neg (by decide), if_neg (by decide), if_neg (by decide), if_neg (by decide), if_neg (by decide), if_neg (by decide), if_pos rfl, lo_h]
theorem wt_200 (v_eg v_hi v_pe : Int32) (v_pr v_wa v_se : Nat → Int32) (v_me v_mt v_ue v_ut : Int32) (v_ti v_co : Int64) (v_sf p1 : Int32) : f_dv_writeWord v_eg v_hi v_pe v_pr v_wa v_se v_me v_mt v_ue v_ut v_ti v_co v_sf 200 p1 = (v_pe, v_pr, v_wa, v_se, v_me, v_mt, v_ue, v_ut, v_ti, f_mo_half v_co p1 1, v_sf) := by
  unfold f_dv_writeWord
  rw [if_pos (by decide), if_neg (by decide), if_neg (by decide), if_neg (by decide), if_neg (by decide), if_neg (by decide), if_neg (by decide), if_neg (by decide), if_neg (by decide), if_pos rfl, hi_h]
theorem wt_204 (v_eg v_hi v_pe : Int32) (v_pr v_wa v_se : Nat → Int32) (v_me v_mt v_ue v_ut : Int32) (v_ti v_co : Int64) (v_sf p1 : Int32) : f_dv_writeWord v_eg v_hi v_pe v_pr v_wa v_se v_me v_mt v_ue v_ut v_ti v_co v_sf 204 p1 = (v_pe, v_pr, v_wa, v_se, v_me, v_mt, v_ue, v_ut, f_mo_half v_ti p1 0, v_co, v_sf) := by
  unfold f_dv_writeWord
  rw [if_pos (by decide), if_neg (by decide), if_neg (by decide), if_neg (by decide), if_neg (by decide), if_neg (by decide), if_neg (by decide), if_neg (by decide), if_neg (by decide), if_neg (by decide), if_pos rfl, lo_h]
theorem wt_208 (v_eg v_hi v_pe : Int32) (v_pr v_wa v_se : Nat → Int32) (v_me v_mt v_ue v_ut : Int32) (v_ti v_co : Int64) (v_sf p1 : Int32) : f_dv_writeWord v_eg v_hi v_pe v_pr v_wa v_se v_me v_mt v_ue v_ut v_ti v_co v_sf 208 p1 = (v_pe, v_pr, v_wa, v_se, v_me, v_mt, v_ue, v_ut, f_mo_half v_ti p1 1, v_co, v_sf) := by
  unfold f_dv_writeWord
  rw [if_pos (by decide), if_neg (by decide), if_neg (by decide), if_neg (by decide), if_neg (by decide), if_neg (by decide), if_neg (by decide), if_neg (by decide), if_neg (by decide), if_neg (by decide), if_neg (by decide), if_pos rfl, hi_h]
theorem pt_128 (w_ti w_co : Int64) (w_so : Int32) (w_ed w_li w_pr w_pn w_se w_wa w_en w_tt : Nat → Int32) (p1 : Int32) : f_mo_put w_ti w_co w_so w_ed w_li w_pr w_pn w_se w_wa w_en w_tt 128 p1 = (w_ti, w_co, w_so, w_pr, w_pn, w_se, w_wa, upd w_en 0 (p1 &&& 65534), w_tt) := by
  have hw : f_mo_wordAt 128 = 3 := by decide
  have hc : f_mo_contextAt 128 = 0 := by decide
  unfold f_mo_put
  rw [hw, if_neg (by decide), if_neg (by decide), if_pos rfl, hc]
  rfl
theorem pt_132 (w_ti w_co : Int64) (w_so : Int32) (w_ed w_li w_pr w_pn w_se w_wa w_en w_tt : Nat → Int32) (p1 : Int32) : f_mo_put w_ti w_co w_so w_ed w_li w_pr w_pn w_se w_wa w_en w_tt 132 p1 = (w_ti, w_co, w_so, w_pr, w_pn, w_se, w_wa, w_en, upd w_tt 0 (p1 &&& 7)) := by
  have hw : f_mo_wordAt 132 = 4 := by decide
  have hc : f_mo_contextAt 132 = 0 := by decide
  unfold f_mo_put
  rw [hw, if_neg (by decide), if_neg (by decide), if_neg (by decide), if_pos rfl, hc]
  rfl
theorem pt_136 (w_ti w_co : Int64) (w_so : Int32) (w_ed w_li w_pr w_pn w_se w_wa w_en w_tt : Nat → Int32) (p1 : Int32) : f_mo_put w_ti w_co w_so w_ed w_li w_pr w_pn w_se w_wa w_en w_tt 136 p1 = (w_ti, w_co, w_so, w_pr, (f_mo_complete w_ed w_li w_pn w_se w_wa w_en 0 p1).1, (f_mo_complete w_ed w_li w_pn w_se w_wa w_en 0 p1).2.1, (f_mo_complete w_ed w_li w_pn w_se w_wa w_en 0 p1).2.2, w_en, w_tt) := by
  have hw : f_mo_wordAt 136 = 5 := by decide
  have hc : f_mo_contextAt 136 = 0 := by decide
  unfold f_mo_put
  rw [hw, if_neg (by decide), if_neg (by decide), if_neg (by decide), if_neg (by decide), if_pos rfl, hc]
theorem pt_144 (w_ti w_co : Int64) (w_so : Int32) (w_ed w_li w_pr w_pn w_se w_wa w_en w_tt : Nat → Int32) (p1 : Int32) : f_mo_put w_ti w_co w_so w_ed w_li w_pr w_pn w_se w_wa w_en w_tt 144 p1 = (w_ti, w_co, w_so, w_pr, w_pn, w_se, w_wa, upd w_en 1 (p1 &&& 65534), w_tt) := by
  have hw : f_mo_wordAt 144 = 3 := by decide
  have hc : f_mo_contextAt 144 = 1 := by decide
  unfold f_mo_put
  rw [hw, if_neg (by decide), if_neg (by decide), if_pos rfl, hc]
  rfl
theorem pt_148 (w_ti w_co : Int64) (w_so : Int32) (w_ed w_li w_pr w_pn w_se w_wa w_en w_tt : Nat → Int32) (p1 : Int32) : f_mo_put w_ti w_co w_so w_ed w_li w_pr w_pn w_se w_wa w_en w_tt 148 p1 = (w_ti, w_co, w_so, w_pr, w_pn, w_se, w_wa, w_en, upd w_tt 1 (p1 &&& 7)) := by
  have hw : f_mo_wordAt 148 = 4 := by decide
  have hc : f_mo_contextAt 148 = 1 := by decide
  unfold f_mo_put
  rw [hw, if_neg (by decide), if_neg (by decide), if_neg (by decide), if_pos rfl, hc]
  rfl
theorem pt_152 (w_ti w_co : Int64) (w_so : Int32) (w_ed w_li w_pr w_pn w_se w_wa w_en w_tt : Nat → Int32) (p1 : Int32) : f_mo_put w_ti w_co w_so w_ed w_li w_pr w_pn w_se w_wa w_en w_tt 152 p1 = (w_ti, w_co, w_so, w_pr, (f_mo_complete w_ed w_li w_pn w_se w_wa w_en 1 p1).1, (f_mo_complete w_ed w_li w_pn w_se w_wa w_en 1 p1).2.1, (f_mo_complete w_ed w_li w_pn w_se w_wa w_en 1 p1).2.2, w_en, w_tt) := by
  have hw : f_mo_wordAt 152 = 5 := by decide
  have hc : f_mo_contextAt 152 = 1 := by decide
  unfold f_mo_put
  rw [hw, if_neg (by decide), if_neg (by decide), if_neg (by decide), if_neg (by decide), if_pos rfl, hc]
theorem pt_192 (w_ti w_co : Int64) (w_so : Int32) (w_ed w_li w_pr w_pn w_se w_wa w_en w_tt : Nat → Int32) (p1 : Int32) : f_mo_put w_ti w_co w_so w_ed w_li w_pr w_pn w_se w_wa w_en w_tt 192 p1 = (w_ti, w_co, p1 &&& 1, w_pr, w_pn, w_se, w_wa, w_en, w_tt) := by
  have hw : f_mo_wordAt 192 = 6 := by decide
  unfold f_mo_put
  rw [hw, if_neg (by decide), if_neg (by decide), if_neg (by decide), if_neg (by decide), if_neg (by decide), if_pos rfl]
theorem pt_196 (w_ti w_co : Int64) (w_so : Int32) (w_ed w_li w_pr w_pn w_se w_wa w_en w_tt : Nat → Int32) (p1 : Int32) : f_mo_put w_ti w_co w_so w_ed w_li w_pr w_pn w_se w_wa w_en w_tt 196 p1 = (w_ti, f_mo_half w_co p1 0, w_so, w_pr, w_pn, w_se, w_wa, w_en, w_tt) := by
  have hw : f_mo_wordAt 196 = 7 := by decide
  unfold f_mo_put
  rw [hw, if_neg (by decide), if_neg (by decide), if_neg (by decide), if_neg (by decide), if_neg (by decide), if_neg (by decide), if_pos rfl]
theorem pt_200 (w_ti w_co : Int64) (w_so : Int32) (w_ed w_li w_pr w_pn w_se w_wa w_en w_tt : Nat → Int32) (p1 : Int32) : f_mo_put w_ti w_co w_so w_ed w_li w_pr w_pn w_se w_wa w_en w_tt 200 p1 = (w_ti, f_mo_half w_co p1 1, w_so, w_pr, w_pn, w_se, w_wa, w_en, w_tt) := by
  have hw : f_mo_wordAt 200 = 8 := by decide
  unfold f_mo_put
  rw [hw, if_neg (by decide), if_neg (by decide), if_neg (by decide), if_neg (by decide), if_neg (by decide), if_neg (by decide), if_neg (by decide), if_pos rfl]
theorem pt_204 (w_ti w_co : Int64) (w_so : Int32) (w_ed w_li w_pr w_pn w_se w_wa w_en w_tt : Nat → Int32) (p1 : Int32) : f_mo_put w_ti w_co w_so w_ed w_li w_pr w_pn w_se w_wa w_en w_tt 204 p1 = (f_mo_half w_ti p1 0, w_co, w_so, w_pr, w_pn, w_se, w_wa, w_en, w_tt) := by
  have hw : f_mo_wordAt 204 = 9 := by decide
  unfold f_mo_put
  rw [hw, if_neg (by decide), if_neg (by decide), if_neg (by decide), if_neg (by decide), if_neg (by decide), if_neg (by decide), if_neg (by decide), if_neg (by decide), if_pos rfl]
theorem pt_208 (w_ti w_co : Int64) (w_so : Int32) (w_ed w_li w_pr w_pn w_se w_wa w_en w_tt : Nat → Int32) (p1 : Int32) : f_mo_put w_ti w_co w_so w_ed w_li w_pr w_pn w_se w_wa w_en w_tt 208 p1 = (f_mo_half w_ti p1 1, w_co, w_so, w_pr, w_pn, w_se, w_wa, w_en, w_tt) := by
  have hw : f_mo_wordAt 208 = 10 := by decide
  unfold f_mo_put
  rw [hw, if_neg (by decide), if_neg (by decide), if_neg (by decide), if_neg (by decide), if_neg (by decide), if_neg (by decide), if_neg (by decide), if_neg (by decide), if_neg (by decide)]
theorem ld_eq {v_eg v_hi v_pe : Int32} {v_pr v_wa v_se : Nat → Int32} {v_ms v_me v_mt v_us v_ue v_ut : Int32} {v_ti v_co : Int64} {v_sf : Int32} {w_ed w_li w_pr w_pn w_se w_wa w_en w_tt : Nat → Int32} {p : Int32}
    (h : SR v_eg v_hi v_pe v_pr v_wa v_se w_ed w_li w_pr w_pn w_se w_wa) (h1 : w_en 0 = v_me) (h2 : w_en 1 = v_ue) (h3 : w_tt 0 = v_mt) (h4 : w_tt 1 = v_ut) (g1 : v_ms = 1) (g2 : v_us = 2) (hf : f_dv_faultAt p 0 = 0) :
    (f_dv_readWord v_pe v_pr v_se v_ms v_me v_mt v_us v_ue v_ut v_ti v_co v_sf p).1 = (f_mo_take v_ti v_co v_sf w_pr w_pn w_se w_en w_tt p).1 ∧
    SR v_eg v_hi (f_dv_readWord v_pe v_pr v_se v_ms v_me v_mt v_us v_ue v_ut v_ti v_co v_sf p).2.1 v_pr v_wa (f_dv_readWord v_pe v_pr v_se v_ms v_me v_mt v_us v_ue v_ut v_ti v_co v_sf p).2.2 w_ed w_li w_pr (f_mo_take v_ti v_co v_sf w_pr w_pn w_se w_en w_tt p).2.1 (f_mo_take v_ti v_co v_sf w_pr w_pn w_se w_en w_tt p).2.2 w_wa := by
  rcases adr (Or.inl rfl) hf with ⟨j, j1, j2, q1, q2, q3, q4⟩ | ⟨rfl, _⟩ | rfl | rfl | rfl | rfl | rfl | rfl | rfl | rfl | rfl | rfl | rfl
  · unfold f_dv_readWord f_mo_take
    rw [q1, q2, q3, q4, if_pos rfl, if_neg (show ¬ (1 : Int32) = 0 by decide)]
    exact ⟨(h.2 j j1 j2).1.symm, h⟩
  · rw [rd_64, tk_64]
    exact ⟨(ps_eq h.1 (fun k a b => (h.2 k a b).2.2.2.1)).symm, h⟩
  · rw [rd_128, tk_128]
    exact ⟨h1.symm, h⟩
  · rw [rd_132, tk_132]
    exact ⟨h3.symm, h⟩
  · rw [rd_136, tk_136]
    exact sr_claim h (show w_en ((0 : Int32)).toNatClampNeg = _ from h1) (by rw [g1]; decide) (by rw [g1]; decide)
  · rw [rd_144, tk_144]
    exact ⟨h2.symm, h⟩
  · rw [rd_148, tk_148]
    exact ⟨h4.symm, h⟩
  · rw [rd_152, tk_152]
    exact sr_claim h (show w_en ((1 : Int32)).toNatClampNeg = _ from h2) (by rw [g2]; decide) (by rw [g2]; decide)
  · rw [rd_192, tk_192]
    exact ⟨rfl, h⟩
  · rw [rd_196, tk_196]
    exact ⟨rfl, h⟩
  · rw [rd_200, tk_200]
    exact ⟨rfl, h⟩
  · rw [rd_204, tk_204]
    exact ⟨rfl, h⟩
  · rw [rd_208, tk_208]
    exact ⟨rfl, h⟩
theorem st_eq {v_eg v_hi v_pe : Int32} {v_pr v_wa v_se : Nat → Int32} {v_me v_mt v_ue v_ut : Int32} {v_ti v_co : Int64} {v_sf : Int32} {w_ed w_li w_pr w_pn w_se w_wa w_en w_tt : Nat → Int32} {p : Int32} (p1 : Int32)
    (h : SR v_eg v_hi v_pe v_pr v_wa v_se w_ed w_li w_pr w_pn w_se w_wa) (hF : v_sf = 0 ∨ v_sf = 1) (h1 : w_en 0 = v_me) (h2 : w_en 1 = v_ue) (h3 : w_tt 0 = v_mt) (h4 : w_tt 1 = v_ut) (hf : f_dv_faultAt p 1 = 0) :
    ((f_mo_put v_ti v_co v_sf w_ed w_li w_pr w_pn w_se w_wa w_en w_tt p p1).1 = (f_dv_writeWord v_eg v_hi v_pe v_pr v_wa v_se v_me v_mt v_ue v_ut v_ti v_co v_sf p p1).2.2.2.2.2.2.2.2.1 ∧ (f_mo_put v_ti v_co v_sf w_ed w_li w_pr w_pn w_se w_wa w_en w_tt p p1).2.1 = (f_dv_writeWord v_eg v_hi v_pe v_pr v_wa v_se v_me v_mt v_ue v_ut v_ti v_co v_sf p p1).2.2.2.2.2.2.2.2.2.1 ∧ (f_mo_put v_ti v_co v_sf w_ed w_li w_pr w_pn w_se w_wa w_en w_tt p p1).2.2.1 = (f_dv_writeWord v_eg v_hi v_pe v_pr v_wa v_se v_me v_mt v_ue v_ut v_ti v_co v_sf p p1).2.2.2.2.2.2.2.2.2.2) ∧
    ((f_mo_put v_ti v_co v_sf w_ed w_li w_pr w_pn w_se w_wa w_en w_tt p p1).2.2.2.2.2.2.2.1 0 = (f_dv_writeWord v_eg v_hi v_pe v_pr v_wa v_se v_me v_mt v_ue v_ut v_ti v_co v_sf p p1).2.2.2.2.1 ∧ (f_mo_put v_ti v_co v_sf w_ed w_li w_pr w_pn w_se w_wa w_en w_tt p p1).2.2.2.2.2.2.2.1 1 = (f_dv_writeWord v_eg v_hi v_pe v_pr v_wa v_se v_me v_mt v_ue v_ut v_ti v_co v_sf p p1).2.2.2.2.2.2.1 ∧ (f_mo_put v_ti v_co v_sf w_ed w_li w_pr w_pn w_se w_wa w_en w_tt p p1).2.2.2.2.2.2.2.2 0 = (f_dv_writeWord v_eg v_hi v_pe v_pr v_wa v_se v_me v_mt v_ue v_ut v_ti v_co v_sf p p1).2.2.2.2.2.1 ∧ (f_mo_put v_ti v_co v_sf w_ed w_li w_pr w_pn w_se w_wa w_en w_tt p p1).2.2.2.2.2.2.2.2 1 = (f_dv_writeWord v_eg v_hi v_pe v_pr v_wa v_se v_me v_mt v_ue v_ut v_ti v_co v_sf p p1).2.2.2.2.2.2.2.1) ∧
    ((f_dv_writeWord v_eg v_hi v_pe v_pr v_wa v_se v_me v_mt v_ue v_ut v_ti v_co v_sf p p1).2.2.2.2.2.2.2.2.2.2 = 0 ∨ (f_dv_writeWord v_eg v_hi v_pe v_pr v_wa v_se v_me v_mt v_ue v_ut v_ti v_co v_sf p p1).2.2.2.2.2.2.2.2.2.2 = 1) ∧
    SR v_eg v_hi (f_dv_writeWord v_eg v_hi v_pe v_pr v_wa v_se v_me v_mt v_ue v_ut v_ti v_co v_sf p p1).1 (f_dv_writeWord v_eg v_hi v_pe v_pr v_wa v_se v_me v_mt v_ue v_ut v_ti v_co v_sf p p1).2.1 (f_dv_writeWord v_eg v_hi v_pe v_pr v_wa v_se v_me v_mt v_ue v_ut v_ti v_co v_sf p p1).2.2.1 (f_dv_writeWord v_eg v_hi v_pe v_pr v_wa v_se v_me v_mt v_ue v_ut v_ti v_co v_sf p p1).2.2.2.1 w_ed w_li (f_mo_put v_ti v_co v_sf w_ed w_li w_pr w_pn w_se w_wa w_en w_tt p p1).2.2.2.1 (f_mo_put v_ti v_co v_sf w_ed w_li w_pr w_pn w_se w_wa w_en w_tt p p1).2.2.2.2.1 (f_mo_put v_ti v_co v_sf w_ed w_li w_pr w_pn w_se w_wa w_en w_tt p p1).2.2.2.2.2.1 (f_mo_put v_ti v_co v_sf w_ed w_li w_pr w_pn w_se w_wa w_en w_tt p p1).2.2.2.2.2.2.1 := by
  have n10 : (1 : Nat) ≠ 0 := by decide
  have n01 : (0 : Nat) ≠ 1 := by decide
  rcases adr (Or.inr rfl) hf with ⟨j, j1, j2, q1, q2, q3, q4⟩ | ⟨_, q⟩ | rfl | rfl | rfl | rfl | rfl | rfl | rfl | rfl | rfl | rfl | rfl
  · unfold f_dv_writeWord f_mo_put
    rw [q1, q2, q3, q4, if_pos rfl, if_neg (show ¬ (1 : Int32) = 0 by decide)]
    refine ⟨⟨rfl, rfl, rfl⟩, ⟨h1, h2, h3, h4⟩, hF, h.1, ?_⟩
    intro k a1 a2
    obtain ⟨b1, b2, b3, b4, b5, b6, b7⟩ := h.2 k a1 a2
    refine ⟨?_, b2, b3, b4, b5, b6, b7⟩
    by_cases d : k = j
    · subst d; exact pk_us.trans pk_us.symm
    · exact (pk_un d).trans (b1.trans (pk_un d).symm)
  · exact absurd q (by decide)
  · rw [wt_128, pt_128]
    exact ⟨⟨rfl, rfl, rfl⟩, ⟨(pk_us : upd w_en 0 (p1 &&& 65534) 0 = p1 &&& 65534), ((pk_un n10 : upd w_en 0 (p1 &&& 65534) 1 = w_en 1)).trans h2, h3, h4⟩, hF, h⟩
  · rw [wt_132, pt_132]
    exact ⟨⟨rfl, rfl, rfl⟩, ⟨h1, h2, (pk_us : upd w_tt 0 (p1 &&& 7) 0 = p1 &&& 7), ((pk_un n10 : upd w_tt 0 (p1 &&& 7) 1 = w_tt 1)).trans h4⟩, hF, h⟩
  · rw [wt_136, pt_136]
    exact ⟨⟨rfl, rfl, rfl⟩, ⟨h1, h2, h3, h4⟩, hF, sr_complete p1 h (show w_en ((0 : Int32)).toNatClampNeg = _ from h1)⟩
  · rw [wt_144, pt_144]
    exact ⟨⟨rfl, rfl, rfl⟩, ⟨((pk_un n01 : upd w_en 1 (p1 &&& 65534) 0 = w_en 0)).trans h1, (pk_us : upd w_en 1 (p1 &&& 65534) 1 = p1 &&& 65534), h3, h4⟩, hF, h⟩
  · rw [wt_148, pt_148]
    exact ⟨⟨rfl, rfl, rfl⟩, ⟨h1, h2, ((pk_un n01 : upd w_tt 1 (p1 &&& 7) 0 = w_tt 0)).trans h3, (pk_us : upd w_tt 1 (p1 &&& 7) 1 = p1 &&& 7)⟩, hF, h⟩
  · rw [wt_152, pt_152]
    exact ⟨⟨rfl, rfl, rfl⟩, ⟨h1, h2, h3, h4⟩, hF, sr_complete p1 h (show w_en ((1 : Int32)).toNatClampNeg = _ from h2)⟩
  · rw [wt_192, pt_192]
    exact ⟨⟨rfl, rfl, rfl⟩, ⟨h1, h2, h3, h4⟩, an_1 p1, h⟩
  · rw [wt_196, pt_196]
    exact ⟨⟨rfl, rfl, rfl⟩, ⟨h1, h2, h3, h4⟩, hF, h⟩
  · rw [wt_200, pt_200]
    exact ⟨⟨rfl, rfl, rfl⟩, ⟨h1, h2, h3, h4⟩, hF, h⟩
  · rw [wt_204, pt_204]
    exact ⟨⟨rfl, rfl, rfl⟩, ⟨h1, h2, h3, h4⟩, hF, h⟩
  · rw [wt_208, pt_208]
    exact ⟨⟨rfl, rfl, rfl⟩, ⟨h1, h2, h3, h4⟩, hF, h⟩
