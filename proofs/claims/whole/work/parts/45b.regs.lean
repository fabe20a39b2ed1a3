-- ===== the registers =====
theorem rg_770 {p : Int32} (h1 : ¬ p < 770) (h2 : p ≤ 773) : p = 770 ∨ p = 771 ∨ p = 772 ∨ p = 773 := by
  have a1 := Int32.le_iff_toInt_le.mp (Int32.not_lt.mp h1)
  have a2 := Int32.le_iff_toInt_le.mp h2
  have b0 : (770 : Int32).toInt = 770 := by decide
  have b1 : (771 : Int32).toInt = 771 := by decide
  have b2 : (772 : Int32).toInt = 772 := by decide
  have b3 : (773 : Int32).toInt = 773 := by decide
  rw [← Int32.toInt_inj, ← Int32.toInt_inj (y := 771), ← Int32.toInt_inj (y := 772), ← Int32.toInt_inj (y := 773)]
  omega
theorem rg_c (p : Int32) : (f_rg_isThere p = 0 ∧ f_mo_isRegister p = 0) ∨ p = 256 ∨ p = 260 ∨ p = 261 ∨ p = 321 ∨ p = 322 ∨ p = 324 ∨ p = 768 ∨ p = 770 ∨ p = 771 ∨ p = 772 ∨ p = 773 ∨ p = 833 ∨ p = 834 ∨ p = 836 := by
  by_cases c256 : p = 256
  · exact Or.inr (Or.inl c256)
  by_cases c260 : p = 260
  · exact Or.inr (Or.inr (Or.inl c260))
  by_cases c261 : p = 261
  · exact Or.inr (Or.inr (Or.inr (Or.inl c261)))
  by_cases c321 : p = 321
  · exact Or.inr (Or.inr (Or.inr (Or.inr (Or.inl c321))))
  by_cases c322 : p = 322
  · exact Or.inr (Or.inr (Or.inr (Or.inr (Or.inr (Or.inl c322)))))
  by_cases c324 : p = 324
  · exact Or.inr (Or.inr (Or.inr (Or.inr (Or.inr (Or.inr (Or.inl c324))))))
  by_cases c768 : p = 768
  · exact Or.inr (Or.inr (Or.inr (Or.inr (Or.inr (Or.inr (Or.inr (Or.inl c768)))))))
  by_cases c770 : p = 770
  · exact Or.inr (Or.inr (Or.inr (Or.inr (Or.inr (Or.inr (Or.inr (Or.inr (Or.inl c770))))))))
  by_cases c771 : p = 771
  · exact Or.inr (Or.inr (Or.inr (Or.inr (Or.inr (Or.inr (Or.inr (Or.inr (Or.inr (Or.inl c771)))))))))
  by_cases c772 : p = 772
  · exact Or.inr (Or.inr (Or.inr (Or.inr (Or.inr (Or.inr (Or.inr (Or.inr (Or.inr (Or.inr (Or.inl c772))))))))))
  by_cases c773 : p = 773
  · exact Or.inr (Or.inr (Or.inr (Or.inr (Or.inr (Or.inr (Or.inr (Or.inr (Or.inr (Or.inr (Or.inr (Or.inl c773)))))))))))
  by_cases c833 : p = 833
  · exact Or.inr (Or.inr (Or.inr (Or.inr (Or.inr (Or.inr (Or.inr (Or.inr (Or.inr (Or.inr (Or.inr (Or.inr (Or.inl c833))))))))))))
  by_cases c834 : p = 834
  · exact Or.inr (Or.inr (Or.inr (Or.inr (Or.inr (Or.inr (Or.inr (Or.inr (Or.inr (Or.inr (Or.inr (Or.inr (Or.inr (Or.inl c834)))))))))))))
  by_cases c836 : p = 836
  · exact Or.inr (Or.inr (Or.inr (Or.inr (Or.inr (Or.inr (Or.inr (Or.inr (Or.inr (Or.inr (Or.inr (Or.inr (Or.inr (Or.inr (c836))))))))))))))
  refine Or.inl ⟨?_, ?_⟩
  · unfold f_rg_isThere
    simp only [if_neg c256, if_neg c260, if_neg c261, if_neg c321, if_neg c322, if_neg c324, if_neg c768, if_neg c770, if_neg c771, if_neg c772, if_neg c773, if_neg c833, if_neg c834, if_neg c836]
  · unfold f_mo_isRegister
    by_cases d : p < 770
    · simp only [if_pos d, if_neg c256, if_neg c260, if_neg c261, if_neg c321, if_neg c322, if_neg c324, if_neg c768, if_neg c833, if_neg c834, if_neg c836]
    · by_cases e : p ≤ 773
      · rcases rg_770 d e with x | x | x | x
        · exact absurd x c770
        · exact absurd x c771
        · exact absurd x c772
        · exact absurd x c773
      · simp only [if_neg d, if_neg e, if_neg c256, if_neg c260, if_neg c261, if_neg c321, if_neg c322, if_neg c324, if_neg c768, if_neg c833, if_neg c834, if_neg c836]
theorem vl_256 (v_de v_di v_en v_wr v_pe : Int32) (v_pr : Nat → Int32) (v_me v_mt v_ue v_ut : Int32) (v_ti v_co : Int64) (v_sf v_bt v_xv v_xb v_xc v_yv v_yb v_yc : Int32) : f_rg_valueOf v_de v_di v_en v_wr v_pe v_pr v_me v_mt v_ue v_ut v_ti v_co v_sf v_bt v_xv v_xb v_xc v_yv v_yb v_yc 256 = v_bt &&& 290 := by
  unfold f_rg_valueOf
  rw [if_pos rfl]
theorem vl_260 (v_de v_di v_en v_wr v_pe : Int32) (v_pr : Nat → Int32) (v_me v_mt v_ue v_ut : Int32) (v_ti v_co : Int64) (v_sf v_bt v_xv v_xb v_xc v_yv v_yb v_yc : Int32) : f_rg_valueOf v_de v_di v_en v_wr v_pe v_pr v_me v_mt v_ue v_ut v_ti v_co v_sf v_bt v_xv v_xb v_xc v_yv v_yb v_yc 260 = v_en &&& v_di := by
  unfold f_rg_valueOf
  rw [if_neg (by decide), if_pos rfl]
theorem vl_261 (v_de v_di v_en v_wr v_pe : Int32) (v_pr : Nat → Int32) (v_me v_mt v_ue v_ut : Int32) (v_ti v_co : Int64) (v_sf v_bt v_xv v_xb v_xc v_yv v_yb v_yc : Int32) : f_rg_valueOf v_de v_di v_en v_wr v_pe v_pr v_me v_mt v_ue v_ut v_ti v_co v_sf v_bt v_xv v_xb v_xc v_yv v_yb v_yc 261 = v_yv := by
  unfold f_rg_valueOf
  rw [if_neg (by decide), if_neg (by decide), if_pos rfl]
theorem vl_321 (v_de v_di v_en v_wr v_pe : Int32) (v_pr : Nat → Int32) (v_me v_mt v_ue v_ut : Int32) (v_ti v_co : Int64) (v_sf v_bt v_xv v_xb v_xc v_yv v_yb v_yc : Int32) : f_rg_valueOf v_de v_di v_en v_wr v_pe v_pr v_me v_mt v_ue v_ut v_ti v_co v_sf v_bt v_xv v_xb v_xc v_yv v_yb v_yc 321 = v_yb := by
  unfold f_rg_valueOf
  rw [if_neg (by decide), if_neg (by decide), if_neg (by decide), if_pos rfl]
theorem vl_322 (v_de v_di v_en v_wr v_pe : Int32) (v_pr : Nat → Int32) (v_me v_mt v_ue v_ut : Int32) (v_ti v_co : Int64) (v_sf v_bt v_xv v_xb v_xc v_yv v_yb v_yc : Int32) : f_rg_valueOf v_de v_di v_en v_wr v_pe v_pr v_me v_mt v_ue v_ut v_ti v_co v_sf v_bt v_xv v_xb v_xc v_yv v_yb v_yc 322 = v_yc := by
  unfold f_rg_valueOf
  rw [if_neg (by decide), if_neg (by decide), if_neg (by decide), if_neg (by decide), if_pos rfl]
theorem vl_324 (v_de v_di v_en v_wr v_pe : Int32) (v_pr : Nat → Int32) (v_me v_mt v_ue v_ut : Int32) (v_ti v_co : Int64) (v_sf v_bt v_xv v_xb v_xc v_yv v_yb v_yc : Int32) : f_rg_valueOf v_de v_di v_en v_wr v_pe v_pr v_me v_mt v_ue v_ut v_ti v_co v_sf v_bt v_xv v_xb v_xc v_yv v_yb v_yc 324 = (f_rg_pendingInterrupts v_wr v_pe v_pr v_me v_mt v_ue v_ut v_ti v_co v_sf) &&& v_di := by
  unfold f_rg_valueOf
  rw [if_neg (by decide), if_neg (by decide), if_neg (by decide), if_neg (by decide), if_neg (by decide), if_pos rfl]
theorem vl_768 (v_de v_di v_en v_wr v_pe : Int32) (v_pr : Nat → Int32) (v_me v_mt v_ue v_ut : Int32) (v_ti v_co : Int64) (v_sf v_bt v_xv v_xb v_xc v_yv v_yb v_yc : Int32) : f_rg_valueOf v_de v_di v_en v_wr v_pe v_pr v_me v_mt v_ue v_ut v_ti v_co v_sf v_bt v_xv v_xb v_xc v_yv v_yb v_yc 768 = v_bt := by
  unfold f_rg_valueOf
  rw [if_neg (by decide), if_neg (by decide), if_neg (by decide), if_neg (by decide), if_neg (by decide), if_neg (by decide), if_pos rfl]
theorem vl_770 (v_de v_di v_en v_wr v_pe : Int32) (v_pr : Nat → Int32) (v_me v_mt v_ue v_ut : Int32) (v_ti v_co : Int64) (v_sf v_bt v_xv v_xb v_xc v_yv v_yb v_yc : Int32) : f_rg_valueOf v_de v_di v_en v_wr v_pe v_pr v_me v_mt v_ue v_ut v_ti v_co v_sf v_bt v_xv v_xb v_xc v_yv v_yb v_yc 770 = v_de := by
  unfold f_rg_valueOf
  rw [if_neg (by decide), if_neg (by decide), if_neg (by decide), if_neg (by decide), if_neg (by decide), if_neg (by decide), if_neg (by decide), if_pos rfl]
theorem vl_771 (v_de v_di v_en v_wr v_pe : Int32) (v_pr : Nat → Int32) (v_me v_mt v_ue v_ut : Int32) (v_ti v_co : Int64) (v_sf v_bt v_xv v_xb v_xc v_yv v_yb v_yc : Int32) : f_rg_valueOf v_de v_di v_en v_wr v_pe v_pr v_me v_mt v_ue v_ut v_ti v_co v_sf v_bt v_xv v_xb v_xc v_yv v_yb v_yc 771 = v_di := by
  unfold f_rg_valueOf
  rw [if_neg (by decide), if_neg (by decide), if_neg (by decide), if_neg (by decide), if_neg (by decide), if_neg (by decide), if_neg (by decide), if_neg (by decide), if_pos rfl]
theorem vl_772 (v_de v_di v_en v_wr v_pe : Int32) (v_pr : Nat → Int32) (v_me v_mt v_ue v_ut : Int32) (v_ti v_co : Int64) (v_sf v_bt v_xv v_xb v_xc v_yv v_yb v_yc : Int32) : f_rg_valueOf v_de v_di v_en v_wr v_pe v_pr v_me v_mt v_ue v_ut v_ti v_co v_sf v_bt v_xv v_xb v_xc v_yv v_yb v_yc 772 = v_en := by
  unfold f_rg_valueOf
  rw [if_neg (by decide), if_neg (by decide), if_neg (by decide), if_neg (by decide), if_neg (by decide), if_neg (by decide), if_neg (by decide), if_neg (by decide), if_neg (by decide), if_pos rfl]
theorem vl_773 (v_de v_di v_en v_wr v_pe : Int32) (v_pr : Nat → Int32) (v_me v_mt v_ue v_ut : Int32) (v_ti v_co : Int64) (v_sf v_bt v_xv v_xb v_xc v_yv v_yb v_yc : Int32) : f_rg_valueOf v_de v_di v_en v_wr v_pe v_pr v_me v_mt v_ue v_ut v_ti v_co v_sf v_bt v_xv v_xb v_xc v_yv v_yb v_yc 773 = v_xv := by
  unfold f_rg_valueOf
  rw [if_neg (by decide), if_neg (by decide), if_neg (by decide), if_neg (by decide), if_neg (by decide), if_neg (by decide), if_neg (by decide), if_neg (by decide), if_neg (by decide), if_neg (by decide), if_pos rfl]
theorem vl_833 (v_de v_di v_en v_wr v_pe : Int32) (v_pr : Nat → Int32) (v_me v_mt v_ue v_ut : Int32) (v_ti v_co : Int64) (v_sf v_bt v_xv v_xb v_xc v_yv v_yb v_yc : Int32) : f_rg_valueOf v_de v_di v_en v_wr v_pe v_pr v_me v_mt v_ue v_ut v_ti v_co v_sf v_bt v_xv v_xb v_xc v_yv v_yb v_yc 833 = v_xb := by
  unfold f_rg_valueOf
  rw [if_neg (by decide), if_neg (by decide), if_neg (by decide), if_neg (by decide), if_neg (by decide), if_neg (by decide), if_neg (by decide), if_neg (by decide), if_neg (by decide), if_neg (by decide), if_neg (by decide), if_pos rfl]
theorem vl_834 (v_de v_di v_en v_wr v_pe : Int32) (v_pr : Nat → Int32) (v_me v_mt v_ue v_ut : Int32) (v_ti v_co : Int64) (v_sf v_bt v_xv v_xb v_xc v_yv v_yb v_yc : Int32) : f_rg_valueOf v_de v_di v_en v_wr v_pe v_pr v_me v_mt v_ue v_ut v_ti v_co v_sf v_bt v_xv v_xb v_xc v_yv v_yb v_yc 834 = v_xc := by
  unfold f_rg_valueOf
  rw [if_neg (by decide), if_neg (by decide), if_neg (by decide), if_neg (by decide), if_neg (by decide), if_neg (by decide), if_neg (by decide), if_neg (by decide), if_neg (by decide), if_neg (by decide), if_neg (by decide), if_neg (by decide), if_pos rfl]
theorem vl_836 (v_de v_di v_en v_wr v_pe : Int32) (v_pr : Nat → Int32) (v_me v_mt v_ue v_ut : Int32) (v_ti v_co : Int64) (v_sf v_bt v_xv v_xb v_xc v_yv v_yb v_yc : Int32) : f_rg_valueOf v_de v_di v_en v_wr v_pe v_pr v_me v_mt v_ue v_ut v_ti v_co v_sf v_bt v_xv v_xb v_xc v_yv v_yb v_yc 836 = f_rg_pendingInterrupts v_wr v_pe v_pr v_me v_mt v_ue v_ut v_ti v_co v_sf := by
  unfold f_rg_valueOf
  rw [if_neg (by decide), if_neg (by decide), if_neg (by decide), if_neg (by decide), if_neg (by decide), if_neg (by decide), if_neg (by decide), if_neg (by decide), if_neg (by decide), if_neg (by decide), if_neg (by decide), if_neg (by decide), if_neg (by decide), if_pos rfl]
theorem mr_256 (w_pv : Int32) (w_ti w_co : Int64) (w_so w_st w_ge w_gi w_wn w_wr : Int32) (w_pr w_pn w_en w_tt w_ve w_ba w_ca : Nat → Int32) (h : f_mo_barRegister w_pv 256 = 0) : f_mo_read w_pv w_ti w_co w_so w_st w_ge w_gi w_wn w_wr w_pr w_pn w_en w_tt w_ve w_ba w_ca 256 = (w_st &&& 290, 0) := by
  unfold f_mo_read
  rw [h, if_pos (by decide), if_pos rfl]
theorem mr_260 (w_pv : Int32) (w_ti w_co : Int64) (w_so w_st w_ge w_gi w_wn w_wr : Int32) (w_pr w_pn w_en w_tt w_ve w_ba w_ca : Nat → Int32) (h : f_mo_barRegister w_pv 260 = 0) : f_mo_read w_pv w_ti w_co w_so w_st w_ge w_gi w_wn w_wr w_pr w_pn w_en w_tt w_ve w_ba w_ca 260 = (w_wn &&& w_gi, 0) := by
  unfold f_mo_read
  rw [h, if_pos (by decide), if_neg (by decide), if_pos rfl]
theorem mr_261 (w_pv : Int32) (w_ti w_co : Int64) (w_so w_st w_ge w_gi w_wn w_wr : Int32) (w_pr w_pn w_en w_tt w_ve w_ba w_ca : Nat → Int32) (h : f_mo_barRegister w_pv 261 = 0) : f_mo_read w_pv w_ti w_co w_so w_st w_ge w_gi w_wn w_wr w_pr w_pn w_en w_tt w_ve w_ba w_ca 261 = (w_ve 1, 0) := by
  unfold f_mo_read
  rw [h, if_pos (by decide), if_neg (by decide), if_neg (by decide), if_pos rfl, if_pos rfl]
  rfl
theorem mr_321 (w_pv : Int32) (w_ti w_co : Int64) (w_so w_st w_ge w_gi w_wn w_wr : Int32) (w_pr w_pn w_en w_tt w_ve w_ba w_ca : Nat → Int32) (h : f_mo_barRegister w_pv 321 = 0) : f_mo_read w_pv w_ti w_co w_so w_st w_ge w_gi w_wn w_wr w_pr w_pn w_en w_tt w_ve w_ba w_ca 321 = (w_ba 1, 0) := by
  unfold f_mo_read
  rw [h, if_pos (by decide), if_neg (by decide), if_neg (by decide), if_neg (by decide), if_pos rfl, if_pos rfl]
  rfl
theorem mr_322 (w_pv : Int32) (w_ti w_co : Int64) (w_so w_st w_ge w_gi w_wn w_wr : Int32) (w_pr w_pn w_en w_tt w_ve w_ba w_ca : Nat → Int32) (h : f_mo_barRegister w_pv 322 = 0) : f_mo_read w_pv w_ti w_co w_so w_st w_ge w_gi w_wn w_wr w_pr w_pn w_en w_tt w_ve w_ba w_ca 322 = (w_ca 1, 0) := by
  unfold f_mo_read
  rw [h, if_pos (by decide), if_neg (by decide), if_neg (by decide), if_neg (by decide), if_neg (by decide), if_neg (by decide), if_neg (by decide), if_neg (by decide), if_neg (by decide), if_neg (by decide), if_neg (by decide), if_neg (by decide), if_neg (by decide), if_pos rfl]
  rfl
theorem mr_324 (w_pv : Int32) (w_ti w_co : Int64) (w_so w_st w_ge w_gi w_wn w_wr : Int32) (w_pr w_pn w_en w_tt w_ve w_ba w_ca : Nat → Int32) (h : f_mo_barRegister w_pv 324 = 0) : f_mo_read w_pv w_ti w_co w_so w_st w_ge w_gi w_wn w_wr w_pr w_pn w_en w_tt w_ve w_ba w_ca 324 = ((f_mo_interrupts w_ti w_co w_so w_wr w_pr w_pn w_en w_tt) &&& w_gi, 0) := by
  unfold f_mo_read
  rw [h, if_pos (by decide), if_neg (by decide), if_neg (by decide), if_neg (by decide), if_neg (by decide), if_pos rfl]
theorem mr_768 (w_pv : Int32) (w_ti w_co : Int64) (w_so w_st w_ge w_gi w_wn w_wr : Int32) (w_pr w_pn w_en w_tt w_ve w_ba w_ca : Nat → Int32) (h : f_mo_barRegister w_pv 768 = 0) : f_mo_read w_pv w_ti w_co w_so w_st w_ge w_gi w_wn w_wr w_pr w_pn w_en w_tt w_ve w_ba w_ca 768 = (w_st, 0) := by
  unfold f_mo_read
  rw [h, if_pos (by decide), if_neg (by decide), if_neg (by decide), if_neg (by decide), if_neg (by decide), if_neg (by decide), if_pos rfl]
theorem mr_770 (w_pv : Int32) (w_ti w_co : Int64) (w_so w_st w_ge w_gi w_wn w_wr : Int32) (w_pr w_pn w_en w_tt w_ve w_ba w_ca : Nat → Int32) (h : f_mo_barRegister w_pv 770 = 0) : f_mo_read w_pv w_ti w_co w_so w_st w_ge w_gi w_wn w_wr w_pr w_pn w_en w_tt w_ve w_ba w_ca 770 = (w_ge, 0) := by
  unfold f_mo_read
  rw [h, if_pos (by decide), if_neg (by decide), if_neg (by decide), if_neg (by decide), if_neg (by decide), if_neg (by decide), if_neg (by decide), if_pos rfl]
theorem mr_771 (w_pv : Int32) (w_ti w_co : Int64) (w_so w_st w_ge w_gi w_wn w_wr : Int32) (w_pr w_pn w_en w_tt w_ve w_ba w_ca : Nat → Int32) (h : f_mo_barRegister w_pv 771 = 0) : f_mo_read w_pv w_ti w_co w_so w_st w_ge w_gi w_wn w_wr w_pr w_pn w_en w_tt w_ve w_ba w_ca 771 = (w_gi, 0) := by
  unfold f_mo_read
  rw [h, if_pos (by decide), if_neg (by decide), if_neg (by decide), if_neg (by decide), if_neg (by decide), if_neg (by decide), if_neg (by decide), if_neg (by decide), if_pos rfl]
theorem mr_772 (w_pv : Int32) (w_ti w_co : Int64) (w_so w_st w_ge w_gi w_wn w_wr : Int32) (w_pr w_pn w_en w_tt w_ve w_ba w_ca : Nat → Int32) (h : f_mo_barRegister w_pv 772 = 0) : f_mo_read w_pv w_ti w_co w_so w_st w_ge w_gi w_wn w_wr w_pr w_pn w_en w_tt w_ve w_ba w_ca 772 = (w_wn, 0) := by
  unfold f_mo_read
  rw [h, if_pos (by decide), if_neg (by decide), if_neg (by decide), if_neg (by decide), if_neg (by decide), if_neg (by decide), if_neg (by decide), if_neg (by decide), if_neg (by decide), if_pos rfl]
theorem mr_773 (w_pv : Int32) (w_ti w_co : Int64) (w_so w_st w_ge w_gi w_wn w_wr : Int32) (w_pr w_pn w_en w_tt w_ve w_ba w_ca : Nat → Int32) (h : f_mo_barRegister w_pv 773 = 0) : f_mo_read w_pv w_ti w_co w_so w_st w_ge w_gi w_wn w_wr w_pr w_pn w_en w_tt w_ve w_ba w_ca 773 = (w_ve 0, 0) := by
  unfold f_mo_read
  rw [h, if_pos (by decide), if_neg (by decide), if_neg (by decide), if_neg (by decide), if_neg (by decide), if_neg (by decide), if_neg (by decide), if_neg (by decide), if_neg (by decide), if_neg (by decide), if_pos rfl, if_neg (by decide)]
  rfl
theorem mr_833 (w_pv : Int32) (w_ti w_co : Int64) (w_so w_st w_ge w_gi w_wn w_wr : Int32) (w_pr w_pn w_en w_tt w_ve w_ba w_ca : Nat → Int32) (h : f_mo_barRegister w_pv 833 = 0) : f_mo_read w_pv w_ti w_co w_so w_st w_ge w_gi w_wn w_wr w_pr w_pn w_en w_tt w_ve w_ba w_ca 833 = (w_ba 0, 0) := by
  unfold f_mo_read
  rw [h, if_pos (by decide), if_neg (by decide), if_neg (by decide), if_neg (by decide), if_neg (by decide), if_neg (by decide), if_neg (by decide), if_neg (by decide), if_neg (by decide), if_neg (by decide), if_neg (by decide), if_pos rfl, if_neg (by decide)]
  rfl
theorem mr_834 (w_pv : Int32) (w_ti w_co : Int64) (w_so w_st w_ge w_gi w_wn w_wr : Int32) (w_pr w_pn w_en w_tt w_ve w_ba w_ca : Nat → Int32) (h : f_mo_barRegister w_pv 834 = 0) : f_mo_read w_pv w_ti w_co w_so w_st w_ge w_gi w_wn w_wr w_pr w_pn w_en w_tt w_ve w_ba w_ca 834 = (w_ca 0, 0) := by
  unfold f_mo_read
  rw [h, if_pos (by decide), if_neg (by decide), if_neg (by decide), if_neg (by decide), if_neg (by decide), if_neg (by decide), if_neg (by decide), if_neg (by decide), if_neg (by decide), if_neg (by decide), if_neg (by decide), if_neg (by decide), if_neg (by decide), if_neg (by decide)]
  rfl
theorem mr_836 (w_pv : Int32) (w_ti w_co : Int64) (w_so w_st w_ge w_gi w_wn w_wr : Int32) (w_pr w_pn w_en w_tt w_ve w_ba w_ca : Nat → Int32) (h : f_mo_barRegister w_pv 836 = 0) : f_mo_read w_pv w_ti w_co w_so w_st w_ge w_gi w_wn w_wr w_pr w_pn w_en w_tt w_ve w_ba w_ca 836 = (f_mo_interrupts w_ti w_co w_so w_wr w_pr w_pn w_en w_tt, 0) := by
  unfold f_mo_read
  rw [h, if_pos (by decide), if_neg (by decide), if_neg (by decide), if_neg (by decide), if_neg (by decide), if_neg (by decide), if_neg (by decide), if_neg (by decide), if_neg (by decide), if_neg (by decide), if_neg (by decide), if_neg (by decide), if_pos rfl]
theorem cg_256 (v_de v_di v_en v_wr v_bt v_xv v_xb v_xc v_yv v_yb v_yc p1 : Int32) : f_rg_change v_de v_di v_en v_wr v_bt v_xv v_xb v_xc v_yv v_yb v_yc 256 p1 = (v_de, v_di, v_en, v_wr, f_st_changeBySupervisor v_bt p1, v_xv, v_xb, v_xc, v_yv, v_yb, v_yc) := by
  unfold f_rg_change f_rg_changeOfSupervisor
  rw [if_pos (by decide), if_pos rfl]
theorem cg_260 (v_de v_di v_en v_wr v_bt v_xv v_xb v_xc v_yv v_yb v_yc p1 : Int32) : f_rg_change v_de v_di v_en v_wr v_bt v_xv v_xb v_xc v_yv v_yb v_yc 260 p1 = (v_de, v_di, f_th_replaceBits v_en p1 v_di, v_wr, v_bt, v_xv, v_xb, v_xc, v_yv, v_yb, v_yc) := by
  unfold f_rg_change f_rg_changeOfSupervisor
  rw [if_pos (by decide), if_neg (by decide), if_pos rfl]
theorem cg_261 (v_de v_di v_en v_wr v_bt v_xv v_xb v_xc v_yv v_yb v_yc p1 : Int32) : f_rg_change v_de v_di v_en v_wr v_bt v_xv v_xb v_xc v_yv v_yb v_yc 261 p1 = (v_de, v_di, v_en, v_wr, v_bt, v_xv, v_xb, v_xc, p1 &&& (-3), v_yb, v_yc) := by
  unfold f_rg_change f_rg_changeOfSupervisor
  rw [if_pos (by decide), if_neg (by decide), if_neg (by decide), if_pos rfl]
theorem cg_321 (v_de v_di v_en v_wr v_bt v_xv v_xb v_xc v_yv v_yb v_yc p1 : Int32) : f_rg_change v_de v_di v_en v_wr v_bt v_xv v_xb v_xc v_yv v_yb v_yc 321 p1 = (v_de, v_di, v_en, v_wr, v_bt, v_xv, v_xb, v_xc, v_yv, p1 &&& (-4), v_yc) := by
  unfold f_rg_change f_rg_changeOfSupervisor
  rw [if_pos (by decide), if_neg (by decide), if_neg (by decide), if_neg (by decide), if_pos rfl]
theorem cg_322 (v_de v_di v_en v_wr v_bt v_xv v_xb v_xc v_yv v_yb v_yc p1 : Int32) : f_rg_change v_de v_di v_en v_wr v_bt v_xv v_xb v_xc v_yv v_yb v_yc 322 p1 = (v_de, v_di, v_en, v_wr, v_bt, v_xv, v_xb, v_xc, v_yv, v_yb, p1) := by
  unfold f_rg_change f_rg_changeOfSupervisor
  rw [if_pos (by decide), if_neg (by decide), if_neg (by decide), if_neg (by decide), if_neg (by decide), if_pos rfl]
theorem cg_324 (v_de v_di v_en v_wr v_bt v_xv v_xb v_xc v_yv v_yb v_yc p1 : Int32) : f_rg_change v_de v_di v_en v_wr v_bt v_xv v_xb v_xc v_yv v_yb v_yc 324 p1 = (v_de, v_di, v_en, f_th_replaceBits v_wr p1 (v_di &&& 2), v_bt, v_xv, v_xb, v_xc, v_yv, v_yb, v_yc) := by
  unfold f_rg_change f_rg_changeOfSupervisor
  rw [if_pos (by decide), if_neg (by decide), if_neg (by decide), if_neg (by decide), if_neg (by decide), if_neg (by decide), if_pos rfl]
theorem cg_768 (v_de v_di v_en v_wr v_bt v_xv v_xb v_xc v_yv v_yb v_yc p1 : Int32) : f_rg_change v_de v_di v_en v_wr v_bt v_xv v_xb v_xc v_yv v_yb v_yc 768 p1 = (v_de, v_di, v_en, v_wr, f_st_changeByMachine v_bt p1, v_xv, v_xb, v_xc, v_yv, v_yb, v_yc) := by
  unfold f_rg_change f_rg_changeOfMachine
  rw [if_neg (by decide), if_pos rfl]
theorem cg_770 (v_de v_di v_en v_wr v_bt v_xv v_xb v_xc v_yv v_yb v_yc p1 : Int32) : f_rg_change v_de v_di v_en v_wr v_bt v_xv v_xb v_xc v_yv v_yb v_yc 770 p1 = (p1 &&& 46079, v_di, v_en, v_wr, v_bt, v_xv, v_xb, v_xc, v_yv, v_yb, v_yc) := by
  unfold f_rg_change f_rg_changeOfMachine
  rw [if_neg (by decide), if_neg (by decide), if_pos rfl]
theorem cg_771 (v_de v_di v_en v_wr v_bt v_xv v_xb v_xc v_yv v_yb v_yc p1 : Int32) : f_rg_change v_de v_di v_en v_wr v_bt v_xv v_xb v_xc v_yv v_yb v_yc 771 p1 = (v_de, p1 &&& 546, v_en, v_wr, v_bt, v_xv, v_xb, v_xc, v_yv, v_yb, v_yc) := by
  unfold f_rg_change f_rg_changeOfMachine
  rw [if_neg (by decide), if_neg (by decide), if_neg (by decide), if_pos rfl]
theorem cg_772 (v_de v_di v_en v_wr v_bt v_xv v_xb v_xc v_yv v_yb v_yc p1 : Int32) : f_rg_change v_de v_di v_en v_wr v_bt v_xv v_xb v_xc v_yv v_yb v_yc 772 p1 = (v_de, v_di, p1 &&& 2730, v_wr, v_bt, v_xv, v_xb, v_xc, v_yv, v_yb, v_yc) := by
  unfold f_rg_change f_rg_changeOfMachine
  rw [if_neg (by decide), if_neg (by decide), if_neg (by decide), if_neg (by decide), if_pos rfl]
theorem cg_773 (v_de v_di v_en v_wr v_bt v_xv v_xb v_xc v_yv v_yb v_yc p1 : Int32) : f_rg_change v_de v_di v_en v_wr v_bt v_xv v_xb v_xc v_yv v_yb v_yc 773 p1 = (v_de, v_di, v_en, v_wr, v_bt, p1 &&& (-3), v_xb, v_xc, v_yv, v_yb, v_yc) := by
  unfold f_rg_change f_rg_changeOfMachine
  rw [if_neg (by decide), if_neg (by decide), if_neg (by decide), if_neg (by decide), if_neg (by decide), if_pos rfl]
theorem cg_833 (v_de v_di v_en v_wr v_bt v_xv v_xb v_xc v_yv v_yb v_yc p1 : Int32) : f_rg_change v_de v_di v_en v_wr v_bt v_xv v_xb v_xc v_yv v_yb v_yc 833 p1 = (v_de, v_di, v_en, v_wr, v_bt, v_xv, p1 &&& (-4), v_xc, v_yv, v_yb, v_yc) := by
  unfold f_rg_change f_rg_changeOfMachine
  rw [if_neg (by decide), if_neg (by decide), if_neg (by decide), if_neg (by decide), if_neg (by decide), if_neg (by decide), if_pos rfl]
theorem cg_834 (v_de v_di v_en v_wr v_bt v_xv v_xb v_xc v_yv v_yb v_yc p1 : Int32) : f_rg_change v_de v_di v_en v_wr v_bt v_xv v_xb v_xc v_yv v_yb v_yc 834 p1 = (v_de, v_di, v_en, v_wr, v_bt, v_xv, v_xb, p1, v_yv, v_yb, v_yc) := by
  unfold f_rg_change f_rg_changeOfMachine
  rw [if_neg (by decide), if_neg (by decide), if_neg (by decide), if_neg (by decide), if_neg (by decide), if_neg (by decide), if_neg (by decide), if_pos rfl]
theorem cg_836 (v_de v_di v_en v_wr v_bt v_xv v_xb v_xc v_yv v_yb v_yc p1 : Int32) : f_rg_change v_de v_di v_en v_wr v_bt v_xv v_xb v_xc v_yv v_yb v_yc 836 p1 = (v_de, v_di, v_en, p1 &&& 546, v_bt, v_xv, v_xb, v_xc, v_yv, v_yb, v_yc) := by
  unfold f_rg_change f_rg_changeOfMachine
  rw [if_neg (by decide), if_neg (by decide), if_neg (by decide), if_neg (by decide), if_neg (by decide), if_neg (by decide), if_neg (by decide), if_neg (by decide), if_pos rfl]
theorem mw_256 (w_pv w_st w_ge w_gi w_wn w_wr : Int32) (w_ve w_ba w_ca : Nat → Int32) (p1 : Int32) (h : f_mo_barRegister w_pv 256 = 0) : f_mo_write w_pv w_st w_ge w_gi w_wn w_wr w_ve w_ba w_ca 256 p1 = (0, f_mo_mixed w_st p1 290, w_ge, w_gi, w_wn, w_wr, w_ve, w_ba, w_ca) := by
  unfold f_mo_write
  rw [h, if_pos (by decide), if_pos rfl]
theorem mw_260 (w_pv w_st w_ge w_gi w_wn w_wr : Int32) (w_ve w_ba w_ca : Nat → Int32) (p1 : Int32) (h : f_mo_barRegister w_pv 260 = 0) : f_mo_write w_pv w_st w_ge w_gi w_wn w_wr w_ve w_ba w_ca 260 p1 = (0, w_st, w_ge, w_gi, f_mo_mixed w_wn p1 w_gi, w_wr, w_ve, w_ba, w_ca) := by
  unfold f_mo_write
  rw [h, if_pos (by decide), if_neg (by decide), if_pos rfl]
theorem mw_261 (w_pv w_st w_ge w_gi w_wn w_wr : Int32) (w_ve w_ba w_ca : Nat → Int32) (p1 : Int32) (h : f_mo_barRegister w_pv 261 = 0) : f_mo_write w_pv w_st w_ge w_gi w_wn w_wr w_ve w_ba w_ca 261 p1 = (0, w_st, w_ge, w_gi, w_wn, w_wr, upd w_ve 1 (p1 &&& (-3)), w_ba, w_ca) := by
  unfold f_mo_write
  rw [h, if_pos (by decide), if_neg (by decide), if_neg (by decide), if_pos rfl, if_pos rfl]
  rfl
theorem mw_321 (w_pv w_st w_ge w_gi w_wn w_wr : Int32) (w_ve w_ba w_ca : Nat → Int32) (p1 : Int32) (h : f_mo_barRegister w_pv 321 = 0) : f_mo_write w_pv w_st w_ge w_gi w_wn w_wr w_ve w_ba w_ca 321 p1 = (0, w_st, w_ge, w_gi, w_wn, w_wr, w_ve, upd w_ba 1 (p1 &&& (-4)), w_ca) := by
  unfold f_mo_write
  rw [h, if_pos (by decide), if_neg (by decide), if_neg (by decide), if_neg (by decide), if_pos rfl, if_pos rfl]
  rfl
theorem mw_322 (w_pv w_st w_ge w_gi w_wn w_wr : Int32) (w_ve w_ba w_ca : Nat → Int32) (p1 : Int32) (h : f_mo_barRegister w_pv 322 = 0) : f_mo_write w_pv w_st w_ge w_gi w_wn w_wr w_ve w_ba w_ca 322 p1 = (0, w_st, w_ge, w_gi, w_wn, w_wr, w_ve, w_ba, upd w_ca 1 p1) := by
  unfold f_mo_write
  rw [h, if_pos (by decide), if_neg (by decide), if_neg (by decide), if_neg (by decide), if_neg (by decide), if_neg (by decide), if_neg (by decide), if_neg (by decide), if_neg (by decide), if_neg (by decide), if_neg (by decide), if_neg (by decide), if_neg (by decide), if_pos rfl]
  rfl
theorem mw_324 (w_pv w_st w_ge w_gi w_wn w_wr : Int32) (w_ve w_ba w_ca : Nat → Int32) (p1 : Int32) (h : f_mo_barRegister w_pv 324 = 0) : f_mo_write w_pv w_st w_ge w_gi w_wn w_wr w_ve w_ba w_ca 324 p1 = (0, w_st, w_ge, w_gi, w_wn, f_mo_mixed w_wr p1 (w_gi &&& 2), w_ve, w_ba, w_ca) := by
  unfold f_mo_write
  rw [h, if_pos (by decide), if_neg (by decide), if_neg (by decide), if_neg (by decide), if_neg (by decide), if_pos rfl]
theorem mw_768 (w_pv w_st w_ge w_gi w_wn w_wr : Int32) (w_ve w_ba w_ca : Nat → Int32) (p1 : Int32) (h : f_mo_barRegister w_pv 768 = 0) : f_mo_write w_pv w_st w_ge w_gi w_wn w_wr w_ve w_ba w_ca 768 p1 = (0, if ((p1 >>> ((11 : Int32) &&& 31)) &&& 3) = 2 then f_mo_mixed w_st p1 426 else f_mo_mixed w_st p1 6570, w_ge, w_gi, w_wn, w_wr, w_ve, w_ba, w_ca) := by
  unfold f_mo_write
  rw [h, if_pos (by decide), if_neg (by decide), if_neg (by decide), if_neg (by decide), if_neg (by decide), if_neg (by decide), if_pos rfl]
  by_cases c : ((p1 >>> ((11 : Int32) &&& 31)) &&& 3) = 2
  · rw [if_pos c, if_pos c]
  · rw [if_neg c, if_neg c]
theorem mw_770 (w_pv w_st w_ge w_gi w_wn w_wr : Int32) (w_ve w_ba w_ca : Nat → Int32) (p1 : Int32) (h : f_mo_barRegister w_pv 770 = 0) : f_mo_write w_pv w_st w_ge w_gi w_wn w_wr w_ve w_ba w_ca 770 p1 = (0, w_st, p1 &&& 46079, w_gi, w_wn, w_wr, w_ve, w_ba, w_ca) := by
  unfold f_mo_write
  rw [h, if_pos (by decide), if_neg (by decide), if_neg (by decide), if_neg (by decide), if_neg (by decide), if_neg (by decide), if_neg (by decide), if_pos rfl]
theorem mw_771 (w_pv w_st w_ge w_gi w_wn w_wr : Int32) (w_ve w_ba w_ca : Nat → Int32) (p1 : Int32) (h : f_mo_barRegister w_pv 771 = 0) : f_mo_write w_pv w_st w_ge w_gi w_wn w_wr w_ve w_ba w_ca 771 p1 = (0, w_st, w_ge, p1 &&& 546, w_wn, w_wr, w_ve, w_ba, w_ca) := by
  unfold f_mo_write
  rw [h, if_pos (by decide), if_neg (by decide), if_neg (by decide), if_neg (by decide), if_neg (by decide), if_neg (by decide), if_neg (by decide), if_neg (by decide), if_pos rfl]
theorem mw_772 (w_pv w_st w_ge w_gi w_wn w_wr : Int32) (w_ve w_ba w_ca : Nat → Int32) (p1 : Int32) (h : f_mo_barRegister w_pv 772 = 0) : f_mo_write w_pv w_st w_ge w_gi w_wn w_wr w_ve w_ba w_ca 772 p1 = (0, w_st, w_ge, w_gi, p1 &&& 2730, w_wr, w_ve, w_ba, w_ca) := by
  unfold f_mo_write
  rw [h, if_pos (by decide), if_neg (by decide), if_neg (by decide), if_neg (by decide), if_neg (by decide), if_neg (by decide), if_neg (by decide), if_neg (by decide), if_neg (by decide), if_pos rfl]
theorem mw_773 (w_pv w_st w_ge w_gi w_wn w_wr : Int32) (w_ve w_ba w_ca : Nat → Int32) (p1 : Int32) (h : f_mo_barRegister w_pv 773 = 0) : f_mo_write w_pv w_st w_ge w_gi w_wn w_wr w_ve w_ba w_ca 773 p1 = (0, w_st, w_ge, w_gi, w_wn, w_wr, upd w_ve 0 (p1 &&& (-3)), w_ba, w_ca) := by
  unfold f_mo_write
  rw [h, if_pos (by decide), if_neg (by decide), if_neg (by decide), if_neg (by decide), if_neg (by decide), if_neg (by decide), if_neg (by decide), if_neg (by decide), if_neg (by decide), if_neg (by decide), if_pos rfl, if_neg (by decide)]
  rfl
theorem mw_833 (w_pv w_st w_ge w_gi w_wn w_wr : Int32) (w_ve w_ba w_ca : Nat → Int32) (p1 : Int32) (h : f_mo_barRegister w_pv 833 = 0) : f_mo_write w_pv w_st w_ge w_gi w_wn w_wr w_ve w_ba w_ca 833 p1 = (0, w_st, w_ge, w_gi, w_wn, w_wr, w_ve, upd w_ba 0 (p1 &&& (-4)), w_ca) := by
  unfold f_mo_write
  rw [h, if_pos (by decide), if_neg (by decide), if_neg (by decide), if_neg (by decide), if_neg (by decide), if_neg (by decide), if_neg (by decide), if_neg (by decide), if_neg (by decide), if_neg (by decide), if_neg (by decide), if_pos rfl, if_neg (by decide)]
  rfl
theorem mw_834 (w_pv w_st w_ge w_gi w_wn w_wr : Int32) (w_ve w_ba w_ca : Nat → Int32) (p1 : Int32) (h : f_mo_barRegister w_pv 834 = 0) : f_mo_write w_pv w_st w_ge w_gi w_wn w_wr w_ve w_ba w_ca 834 p1 = (0, w_st, w_ge, w_gi, w_wn, w_wr, w_ve, w_ba, upd w_ca 0 p1) := by
  unfold f_mo_write
  rw [h, if_pos (by decide), if_neg (by decide), if_neg (by decide), if_neg (by decide), if_neg (by decide), if_neg (by decide), if_neg (by decide), if_neg (by decide), if_neg (by decide), if_neg (by decide), if_neg (by decide), if_neg (by decide), if_neg (by decide), if_neg (by decide)]
  rfl
theorem mw_836 (w_pv w_st w_ge w_gi w_wn w_wr : Int32) (w_ve w_ba w_ca : Nat → Int32) (p1 : Int32) (h : f_mo_barRegister w_pv 836 = 0) : f_mo_write w_pv w_st w_ge w_gi w_wn w_wr w_ve w_ba w_ca 836 p1 = (0, w_st, w_ge, w_gi, w_wn, p1 &&& 546, w_ve, w_ba, w_ca) := by
  unfold f_mo_write
  rw [h, if_pos (by decide), if_neg (by decide), if_neg (by decide), if_neg (by decide), if_neg (by decide), if_neg (by decide), if_neg (by decide), if_neg (by decide), if_neg (by decide), if_neg (by decide), if_neg (by decide), if_neg (by decide), if_pos rfl]
theorem mp_2 (p : Int32) : ((p >>> ((11 : Int32) &&& 31)) &&& 3) = 2 ↔ p &&& 6144 = 4096 := by
  have q : ∀ i, i < 32 → bt ((p >>> (nI 11 &&& 31)) &&& 3) i = (bt 3 i && (if 11 + i < 32 then bt p (11 + i) else bt p 31)) := by
    intro i hi
    rw [b_and, b_sshr 11 (by decide) p hi, Bool.and_comm]
  have l : ((p >>> ((11 : Int32) &&& 31)) &&& 3) = 2 ↔ (bt p 11 = false ∧ bt p 12 = true) := by
    show ((p >>> (nI 11 &&& 31)) &&& 3) = 2 ↔ _
    constructor
    · intro h
      have a := q 0 (by omega)
      have b := q 1 (by omega)
      rw [h] at a b
      exact ⟨by simpa [show bt 2 0 = false from by decide, show bt 3 0 = true from by decide] using a, by simpa [show bt 2 1 = true from by decide, show bt 3 1 = true from by decide] using b⟩
    · rintro ⟨a, b⟩
      refine b_ext (fun i hi => ?_)
      rw [q i hi, (by decide +kernel : ∀ i, i < 32 → bt 3 i = decide (i = 0 ∨ i = 1)) i hi, (by decide +kernel : ∀ i, i < 32 → bt 2 i = decide (i = 1)) i hi]
      by_cases c0 : i = 0
      · subst c0; simp [a]
      · by_cases c1 : i = 1
        · subst c1; simp [b]
        · simp [c0, c1]
  have r : p &&& 6144 = 4096 ↔ (bt p 11 = false ∧ bt p 12 = true) := by
    constructor
    · intro h
      have a := congrArg (fun z => bt z 11) h
      have b := congrArg (fun z => bt z 12) h
      simp only [b_and] at a b
      exact ⟨by simpa [show bt 6144 11 = true from by decide, show bt 4096 11 = false from by decide] using a, by simpa [show bt 6144 12 = true from by decide, show bt 4096 12 = true from by decide] using b⟩
    · rintro ⟨a, b⟩
      refine b_ext (fun i hi => ?_)
      rw [b_and, (by decide +kernel : ∀ i, i < 32 → bt 6144 i = decide (i = 11 ∨ i = 12)) i hi, (by decide +kernel : ∀ i, i < 32 → bt 4096 i = decide (i = 12)) i hi]
      by_cases c0 : i = 11
      · subst c0; simp [a]
      · by_cases c1 : i = 12
        · subst c1; simp [b]
        · simp [c0, c1]
  rw [l, r]
theorem rb_bt (x p m : Int32) {i : Nat} (hi : i < 32) : bt (f_th_replaceBits x p m) i = ((bt x i && !bt m i) || (bt p i && bt m i)) := by
  unfold f_th_replaceBits
  rw [b_or, b_and, b_and, b_xor, b_m1 i hi, Bool.xor_true]
theorem rb_m {x p m : Int32} (hx : x &&& 6570 = x) (hm : ∀ i, i < 32 → bt m i = true → bt 6570 i = true) : f_th_replaceBits x p m &&& 6570 = f_th_replaceBits x p m := by
  refine b_ext (fun i hi => ?_)
  have h : bt x i = (bt x i && bt 6570 i) := by
    have := congrArg (fun z => bt z i) hx
    simp only [b_and] at this
    exact this.symm
  have hm' := hm i hi
  rw [b_and, rb_bt x p m hi]
  revert h hm'
  cases bt x i <;> cases bt p i <;> cases bt m i <;> cases bt 6570 i <;> decide
theorem rb_k {x p m : Int32} (hm : ∀ i, i < 32 → (bt m i && bt 6144 i) = false) : f_th_replaceBits x p m &&& 6144 = x &&& 6144 := by
  refine b_ext (fun i hi => ?_)
  have hm' := hm i hi
  rw [b_and, b_and, rb_bt x p m hi]
  revert hm'
  cases bt x i <;> cases bt p i <;> cases bt m i <;> cases bt 6144 i <;> decide
theorem rb_n {x p m : Int32} (hm : ∀ i, i < 32 → bt 6144 i = true → bt m i = true) : f_th_replaceBits x p m &&& 6144 = p &&& 6144 := by
  refine b_ext (fun i hi => ?_)
  have hm' := hm i hi
  rw [b_and, b_and, rb_bt x p m hi]
  revert hm'
  cases bt x i <;> cases bt p i <;> cases bt m i <;> cases bt 6144 i <;> decide
theorem ok_S {x : Int32} (p : Int32) (h : okS x) : okS (f_st_changeBySupervisor x p) := by
  refine ⟨rb_m h.1 (by decide +kernel), ?_⟩
  show ¬ f_th_replaceBits x p 290 &&& 6144 = 4096
  rw [rb_k (by decide +kernel)]
  exact h.2
theorem ok_M {x : Int32} (p : Int32) (h : okS x) : okS (f_st_changeByMachine x p) ∧ (if ((p >>> ((11 : Int32) &&& 31)) &&& 3) = 2 then f_mo_mixed x p 426 else f_mo_mixed x p 6570) = f_st_changeByMachine x p := by
  have i10 : ¬ (1 : Int32) = 0 := by decide
  unfold f_st_changeByMachine f_st_changeByMachine_16 f_st_changeByMachine_36
  by_cases c : p &&& 6144 = 4096
  · rw [if_pos c, if_pos ((mp_2 p).mpr c), if_neg i10]
    refine ⟨⟨rb_m h.1 (by decide +kernel), ?_⟩, rfl⟩
    rw [rb_k (by decide +kernel)]
    exact h.2
  · rw [if_neg c, if_neg (fun q => c ((mp_2 p).mp q)), if_pos rfl]
    refine ⟨⟨rb_m h.1 (by decide +kernel), ?_⟩, rfl⟩
    rw [rb_n (by decide +kernel)]
    exact c
theorem br_0 {m p : Int32} (h1 : f_rg_isThere p = 0) (h2 : f_mo_isRegister p = 0) : x_th_refuseRegister m p = 4 ∧ f_mo_barRegister m p = 1 := by
  unfold x_th_refuseRegister f_mo_barRegister
  rw [if_pos h1, if_pos h2]
  exact ⟨rfl, rfl⟩
theorem br_e : ∀ p ∈ [(256 : Int32), (260 : Int32), (261 : Int32), (321 : Int32), (322 : Int32), (324 : Int32), (768 : Int32), (770 : Int32), (771 : Int32), (772 : Int32), (773 : Int32), (833 : Int32), (834 : Int32), (836 : Int32)], ∀ m ∈ [(0 : Int32), 1, 3], (x_th_refuseRegister m p = 0 ∧ f_mo_barRegister m p = 0) ∨ (x_th_refuseRegister m p = 5 ∧ f_mo_barRegister m p = 2) := by decide +kernel
theorem ok_mem {m : Int32} (h : okM m) : m ∈ [(0 : Int32), 1, 3] := by
  rcases h with rfl | rfl | rfl <;> simp
theorem sm_read (v_mo v_pc v_de v_di v_en v_wr v_eg v_hi v_pe : Int32) (v_pr v_wa v_se : (Nat → Int32)) (v_ms v_me v_mt v_us v_ue v_ut : Int32) (v_ti v_co : Int64) (v_sf v_bt v_xv v_xb v_xc v_yv v_yb v_yc : Int32) (w_th w_pv w_pc : Int32) (w_ti w_co : Int64) (w_so w_st w_ge w_gi w_wn w_wr : Int32) (w_ed w_li w_pr w_pn w_se w_wa w_en w_tt w_ve w_ba w_ca : (Nat → Int32)) (v_ot : Nat → Int64) (p0 : Int32) (hR : Rel v_mo v_pc v_de v_di v_en v_wr v_eg v_hi v_pe v_pr v_wa v_se v_ms v_me v_mt v_us v_ue v_ut v_ti v_co v_sf v_bt v_xv v_xb v_xc v_yv v_yb v_yc w_th w_pv w_pc w_ti w_co w_so w_st w_ge w_gi w_wn w_wr w_ed w_li w_pr w_pn w_se w_wa w_en w_tt w_ve w_ba w_ca) : f_mo_thrown ((f_mo_read w_pv w_ti w_co w_so w_st w_ge w_gi w_wn w_wr w_pr w_pn w_en w_tt w_ve w_ba w_ca p0).2) = (f_la_read v_mo v_de v_di v_en v_wr v_pe v_pr v_me v_mt v_ue v_ut v_ti v_co v_sf v_bt v_xv v_xb v_xc v_yv v_yb v_yc v_ot p0).1 ∧ ((f_la_read v_mo v_de v_di v_en v_wr v_pe v_pr v_me v_mt v_ue v_ut v_ti v_co v_sf v_bt v_xv v_xb v_xc v_yv v_yb v_yc v_ot p0).1 = 0 → ((f_la_read v_mo v_de v_di v_en v_wr v_pe v_pr v_me v_mt v_ue v_ut v_ti v_co v_sf v_bt v_xv v_xb v_xc v_yv v_yb v_yc v_ot p0).2) ((0 : Int32) : Int32).toNatClampNeg = ((f_mo_read w_pv w_ti w_co w_so w_st w_ge w_gi w_wn w_wr w_pr w_pn w_en w_tt w_ve w_ba w_ca p0).1 : Int32).toInt64) ∧ Rel v_mo v_pc v_de v_di v_en v_wr v_eg v_hi v_pe v_pr v_wa v_se v_ms v_me v_mt v_us v_ue v_ut v_ti v_co v_sf v_bt v_xv v_xb v_xc v_yv v_yb v_yc ((f_mo_read w_pv w_ti w_co w_so w_st w_ge w_gi w_wn w_wr w_pr w_pn w_en w_tt w_ve w_ba w_ca p0).2) w_pv w_pc w_ti w_co w_so w_st w_ge w_gi w_wn w_wr w_ed w_li w_pr w_pn w_se w_wa w_en w_tt w_ve w_ba w_ca := by
  obtain ⟨⟨rfl, rfl, rfl, rfl, rfl, rfl, rfl, rfl, rfl, rfl⟩, ⟨f1, f2, f3, f4, f5, f6, f7, f8, f9, f10⟩, hg, hM, hF, hS, hSR⟩ := hR
  have i10 : ¬ (1 : Int32) = 0 := by decide
  have i20 : ¬ (2 : Int32) = 0 := by decide
  have i40 : ¬ (4 : Int32) = 0 := by decide
  have i50 : ¬ (5 : Int32) = 0 := by decide
  have i54 : ¬ (5 : Int32) = 4 := by decide
  have l10 : ¬ (1 : Int32) ≤ 0 := by decide
  have l20 : ¬ (2 : Int32) ≤ 0 := by decide
  have n10 : (1 : Nat) ≠ 0 := by decide
  have n01 : (0 : Nat) ≠ 1 := by decide
  have irq := irq_eq (v_wr := w_wr) (v_ti := w_ti) (v_co := w_co) (fun k a b => ⟨(hSR.2 k a b).1, (hSR.2 k a b).2.2.2.1⟩) hF f7 f8 f9 f10
  unfold f_mo_thrown f_la_read x_th_read f_th_read
  rcases rg_c p0 with ⟨a1, a2⟩ | rfl | rfl | rfl | rfl | rfl | rfl | rfl | rfl | rfl | rfl | rfl | rfl | rfl | rfl
  · obtain ⟨b1, b2⟩ := br_0 (m := w_pv) a1 a2
    unfold f_mo_read
    rw [b1, b2]
    simp only [l10, i40, if_true, if_false]
    exact ⟨trivial, fun h => absurd h (by decide), ⟨rfl, rfl, rfl, rfl, rfl, rfl, rfl, rfl, rfl, rfl⟩, ⟨f1, f2, f3, f4, f5, f6, f7, f8, f9, f10⟩, hg, hM, hF, hS, hSR⟩
  · rcases br_e 256 (by simp) _ (ok_mem hM) with ⟨b1, b2⟩ | ⟨b1, b2⟩
    · rw [mr_256 _ _ _ _ _ _ _ _ _ _ _ _ _ _ _ _ b2, vl_256, b1]
      simp only [if_true]
      refine ⟨trivial, fun _ => ?_, ⟨rfl, rfl, rfl, rfl, rfl, rfl, rfl, rfl, rfl, rfl⟩, ⟨f1, f2, f3, f4, f5, f6, f7, f8, f9, f10⟩, hg, hM, hF, hS, hSR⟩
      rw [up_L]
    · unfold f_mo_read
      rw [b1, b2]
      simp only [l20, i50, i54, if_true, if_false]
      exact ⟨trivial, fun h => absurd h (by decide), ⟨rfl, rfl, rfl, rfl, rfl, rfl, rfl, rfl, rfl, rfl⟩, ⟨f1, f2, f3, f4, f5, f6, f7, f8, f9, f10⟩, hg, hM, hF, hS, hSR⟩
  · rcases br_e 260 (by simp) _ (ok_mem hM) with ⟨b1, b2⟩ | ⟨b1, b2⟩
    · rw [mr_260 _ _ _ _ _ _ _ _ _ _ _ _ _ _ _ _ b2, vl_260, b1]
      simp only [if_true]
      refine ⟨trivial, fun _ => ?_, ⟨rfl, rfl, rfl, rfl, rfl, rfl, rfl, rfl, rfl, rfl⟩, ⟨f1, f2, f3, f4, f5, f6, f7, f8, f9, f10⟩, hg, hM, hF, hS, hSR⟩
      rw [up_L]
    · unfold f_mo_read
      rw [b1, b2]
      simp only [l20, i50, i54, if_true, if_false]
      exact ⟨trivial, fun h => absurd h (by decide), ⟨rfl, rfl, rfl, rfl, rfl, rfl, rfl, rfl, rfl, rfl⟩, ⟨f1, f2, f3, f4, f5, f6, f7, f8, f9, f10⟩, hg, hM, hF, hS, hSR⟩
  · rcases br_e 261 (by simp) _ (ok_mem hM) with ⟨b1, b2⟩ | ⟨b1, b2⟩
    · rw [mr_261 _ _ _ _ _ _ _ _ _ _ _ _ _ _ _ _ b2, vl_261, b1]
      simp only [if_true]
      refine ⟨trivial, fun _ => ?_, ⟨rfl, rfl, rfl, rfl, rfl, rfl, rfl, rfl, rfl, rfl⟩, ⟨f1, f2, f3, f4, f5, f6, f7, f8, f9, f10⟩, hg, hM, hF, hS, hSR⟩
      rw [up_L, f2]
    · unfold f_mo_read
      rw [b1, b2]
      simp only [l20, i50, i54, if_true, if_false]
      exact ⟨trivial, fun h => absurd h (by decide), ⟨rfl, rfl, rfl, rfl, rfl, rfl, rfl, rfl, rfl, rfl⟩, ⟨f1, f2, f3, f4, f5, f6, f7, f8, f9, f10⟩, hg, hM, hF, hS, hSR⟩
  · rcases br_e 321 (by simp) _ (ok_mem hM) with ⟨b1, b2⟩ | ⟨b1, b2⟩
    · rw [mr_321 _ _ _ _ _ _ _ _ _ _ _ _ _ _ _ _ b2, vl_321, b1]
      simp only [if_true]
      refine ⟨trivial, fun _ => ?_, ⟨rfl, rfl, rfl, rfl, rfl, rfl, rfl, rfl, rfl, rfl⟩, ⟨f1, f2, f3, f4, f5, f6, f7, f8, f9, f10⟩, hg, hM, hF, hS, hSR⟩
      rw [up_L, f4]
    · unfold f_mo_read
      rw [b1, b2]
      simp only [l20, i50, i54, if_true, if_false]
      exact ⟨trivial, fun h => absurd h (by decide), ⟨rfl, rfl, rfl, rfl, rfl, rfl, rfl, rfl, rfl, rfl⟩, ⟨f1, f2, f3, f4, f5, f6, f7, f8, f9, f10⟩, hg, hM, hF, hS, hSR⟩
  · rcases br_e 322 (by simp) _ (ok_mem hM) with ⟨b1, b2⟩ | ⟨b1, b2⟩
    · rw [mr_322 _ _ _ _ _ _ _ _ _ _ _ _ _ _ _ _ b2, vl_322, b1]
      simp only [if_true]
      refine ⟨trivial, fun _ => ?_, ⟨rfl, rfl, rfl, rfl, rfl, rfl, rfl, rfl, rfl, rfl⟩, ⟨f1, f2, f3, f4, f5, f6, f7, f8, f9, f10⟩, hg, hM, hF, hS, hSR⟩
      rw [up_L, f6]
    · unfold f_mo_read
      rw [b1, b2]
      simp only [l20, i50, i54, if_true, if_false]
      exact ⟨trivial, fun h => absurd h (by decide), ⟨rfl, rfl, rfl, rfl, rfl, rfl, rfl, rfl, rfl, rfl⟩, ⟨f1, f2, f3, f4, f5, f6, f7, f8, f9, f10⟩, hg, hM, hF, hS, hSR⟩
  · rcases br_e 324 (by simp) _ (ok_mem hM) with ⟨b1, b2⟩ | ⟨b1, b2⟩
    · rw [mr_324 _ _ _ _ _ _ _ _ _ _ _ _ _ _ _ _ b2, vl_324, b1]
      simp only [if_true]
      refine ⟨trivial, fun _ => ?_, ⟨rfl, rfl, rfl, rfl, rfl, rfl, rfl, rfl, rfl, rfl⟩, ⟨f1, f2, f3, f4, f5, f6, f7, f8, f9, f10⟩, hg, hM, hF, hS, hSR⟩
      rw [up_L, irq]
    · unfold f_mo_read
      rw [b1, b2]
      simp only [l20, i50, i54, if_true, if_false]
      exact ⟨trivial, fun h => absurd h (by decide), ⟨rfl, rfl, rfl, rfl, rfl, rfl, rfl, rfl, rfl, rfl⟩, ⟨f1, f2, f3, f4, f5, f6, f7, f8, f9, f10⟩, hg, hM, hF, hS, hSR⟩
  · rcases br_e 768 (by simp) _ (ok_mem hM) with ⟨b1, b2⟩ | ⟨b1, b2⟩
    · rw [mr_768 _ _ _ _ _ _ _ _ _ _ _ _ _ _ _ _ b2, vl_768, b1]
      simp only [if_true]
      refine ⟨trivial, fun _ => ?_, ⟨rfl, rfl, rfl, rfl, rfl, rfl, rfl, rfl, rfl, rfl⟩, ⟨f1, f2, f3, f4, f5, f6, f7, f8, f9, f10⟩, hg, hM, hF, hS, hSR⟩
      rw [up_L]
    · unfold f_mo_read
      rw [b1, b2]
      simp only [l20, i50, i54, if_true, if_false]
      exact ⟨trivial, fun h => absurd h (by decide), ⟨rfl, rfl, rfl, rfl, rfl, rfl, rfl, rfl, rfl, rfl⟩, ⟨f1, f2, f3, f4, f5, f6, f7, f8, f9, f10⟩, hg, hM, hF, hS, hSR⟩
  · rcases br_e 770 (by simp) _ (ok_mem hM) with ⟨b1, b2⟩ | ⟨b1, b2⟩
    · rw [mr_770 _ _ _ _ _ _ _ _ _ _ _ _ _ _ _ _ b2, vl_770, b1]
      simp only [if_true]
      refine ⟨trivial, fun _ => ?_, ⟨rfl, rfl, rfl, rfl, rfl, rfl, rfl, rfl, rfl, rfl⟩, ⟨f1, f2, f3, f4, f5, f6, f7, f8, f9, f10⟩, hg, hM, hF, hS, hSR⟩
      rw [up_L]
    · unfold f_mo_read
      rw [b1, b2]
      simp only [l20, i50, i54, if_true, if_false]
      exact ⟨trivial, fun h => absurd h (by decide), ⟨rfl, rfl, rfl, rfl, rfl, rfl, rfl, rfl, rfl, rfl⟩, ⟨f1, f2, f3, f4, f5, f6, f7, f8, f9, f10⟩, hg, hM, hF, hS, hSR⟩
  · rcases br_e 771 (by simp) _ (ok_mem hM) with ⟨b1, b2⟩ | ⟨b1, b2⟩
    · rw [mr_771 _ _ _ _ _ _ _ _ _ _ _ _ _ _ _ _ b2, vl_771, b1]
      simp only [if_true]
      refine ⟨trivial, fun _ => ?_, ⟨rfl, rfl, rfl, rfl, rfl, rfl, rfl, rfl, rfl, rfl⟩, ⟨f1, f2, f3, f4, f5, f6, f7, f8, f9, f10⟩, hg, hM, hF, hS, hSR⟩
      rw [up_L]
    · unfold f_mo_read
      rw [b1, b2]
      simp only [l20, i50, i54, if_true, if_false]
      exact ⟨trivial, fun h => absurd h (by decide), ⟨rfl, rfl, rfl, rfl, rfl, rfl, rfl, rfl, rfl, rfl⟩, ⟨f1, f2, f3, f4, f5, f6, f7, f8, f9, f10⟩, hg, hM, hF, hS, hSR⟩
  · rcases br_e 772 (by simp) _ (ok_mem hM) with ⟨b1, b2⟩ | ⟨b1, b2⟩
    · rw [mr_772 _ _ _ _ _ _ _ _ _ _ _ _ _ _ _ _ b2, vl_772, b1]
      simp only [if_true]
      refine ⟨trivial, fun _ => ?_, ⟨rfl, rfl, rfl, rfl, rfl, rfl, rfl, rfl, rfl, rfl⟩, ⟨f1, f2, f3, f4, f5, f6, f7, f8, f9, f10⟩, hg, hM, hF, hS, hSR⟩
      rw [up_L]
    · unfold f_mo_read
      rw [b1, b2]
      simp only [l20, i50, i54, if_true, if_false]
      exact ⟨trivial, fun h => absurd h (by decide), ⟨rfl, rfl, rfl, rfl, rfl, rfl, rfl, rfl, rfl, rfl⟩, ⟨f1, f2, f3, f4, f5, f6, f7, f8, f9, f10⟩, hg, hM, hF, hS, hSR⟩
  · rcases br_e 773 (by simp) _ (ok_mem hM) with ⟨b1, b2⟩ | ⟨b1, b2⟩
    · rw [mr_773 _ _ _ _ _ _ _ _ _ _ _ _ _ _ _ _ b2, vl_773, b1]
      simp only [if_true]
      refine ⟨trivial, fun _ => ?_, ⟨rfl, rfl, rfl, rfl, rfl, rfl, rfl, rfl, rfl, rfl⟩, ⟨f1, f2, f3, f4, f5, f6, f7, f8, f9, f10⟩, hg, hM, hF, hS, hSR⟩
      rw [up_L, f1]
    · unfold f_mo_read
      rw [b1, b2]
      simp only [l20, i50, i54, if_true, if_false]
      exact ⟨trivial, fun h => absurd h (by decide), ⟨rfl, rfl, rfl, rfl, rfl, rfl, rfl, rfl, rfl, rfl⟩, ⟨f1, f2, f3, f4, f5, f6, f7, f8, f9, f10⟩, hg, hM, hF, hS, hSR⟩
  · rcases br_e 833 (by simp) _ (ok_mem hM) with ⟨b1, b2⟩ | ⟨b1, b2⟩
    · rw [mr_833 _ _ _ _ _ _ _ _ _ _ _ _ _ _ _ _ b2, vl_833, b1]
      simp only [if_true]
      refine ⟨trivial, fun _ => ?_, ⟨rfl, rfl, rfl, rfl, rfl, rfl, rfl, rfl, rfl, rfl⟩, ⟨f1, f2, f3, f4, f5, f6, f7, f8, f9, f10⟩, hg, hM, hF, hS, hSR⟩
      rw [up_L, f3]
    · unfold f_mo_read
      rw [b1, b2]
      simp only [l20, i50, i54, if_true, if_false]
      exact ⟨trivial, fun h => absurd h (by decide), ⟨rfl, rfl, rfl, rfl, rfl, rfl, rfl, rfl, rfl, rfl⟩, ⟨f1, f2, f3, f4, f5, f6, f7, f8, f9, f10⟩, hg, hM, hF, hS, hSR⟩
  · rcases br_e 834 (by simp) _ (ok_mem hM) with ⟨b1, b2⟩ | ⟨b1, b2⟩
    · rw [mr_834 _ _ _ _ _ _ _ _ _ _ _ _ _ _ _ _ b2, vl_834, b1]
      simp only [if_true]
      refine ⟨trivial, fun _ => ?_, ⟨rfl, rfl, rfl, rfl, rfl, rfl, rfl, rfl, rfl, rfl⟩, ⟨f1, f2, f3, f4, f5, f6, f7, f8, f9, f10⟩, hg, hM, hF, hS, hSR⟩
      rw [up_L, f5]
    · unfold f_mo_read
      rw [b1, b2]
      simp only [l20, i50, i54, if_true, if_false]
      exact ⟨trivial, fun h => absurd h (by decide), ⟨rfl, rfl, rfl, rfl, rfl, rfl, rfl, rfl, rfl, rfl⟩, ⟨f1, f2, f3, f4, f5, f6, f7, f8, f9, f10⟩, hg, hM, hF, hS, hSR⟩
  · rcases br_e 836 (by simp) _ (ok_mem hM) with ⟨b1, b2⟩ | ⟨b1, b2⟩
    · rw [mr_836 _ _ _ _ _ _ _ _ _ _ _ _ _ _ _ _ b2, vl_836, b1]
      simp only [if_true]
      refine ⟨trivial, fun _ => ?_, ⟨rfl, rfl, rfl, rfl, rfl, rfl, rfl, rfl, rfl, rfl⟩, ⟨f1, f2, f3, f4, f5, f6, f7, f8, f9, f10⟩, hg, hM, hF, hS, hSR⟩
      rw [up_L, irq]
    · unfold f_mo_read
      rw [b1, b2]
      simp only [l20, i50, i54, if_true, if_false]
      exact ⟨trivial, fun h => absurd h (by decide), ⟨rfl, rfl, rfl, rfl, rfl, rfl, rfl, rfl, rfl, rfl⟩, ⟨f1, f2, f3, f4, f5, f6, f7, f8, f9, f10⟩, hg, hM, hF, hS, hSR⟩
theorem sm_write (v_mo v_pc v_de v_di v_en v_wr v_eg v_hi v_pe : Int32) (v_pr v_wa v_se : (Nat → Int32)) (v_ms v_me v_mt v_us v_ue v_ut : Int32) (v_ti v_co : Int64) (v_sf v_bt v_xv v_xb v_xc v_yv v_yb v_yc : Int32) (w_th w_pv w_pc : Int32) (w_ti w_co : Int64) (w_so w_st w_ge w_gi w_wn w_wr : Int32) (w_ed w_li w_pr w_pn w_se w_wa w_en w_tt w_ve w_ba w_ca : (Nat → Int32)) (p0 p1 : Int32) (hR : Rel v_mo v_pc v_de v_di v_en v_wr v_eg v_hi v_pe v_pr v_wa v_se v_ms v_me v_mt v_us v_ue v_ut v_ti v_co v_sf v_bt v_xv v_xb v_xc v_yv v_yb v_yc w_th w_pv w_pc w_ti w_co w_so w_st w_ge w_gi w_wn w_wr w_ed w_li w_pr w_pn w_se w_wa w_en w_tt w_ve w_ba w_ca) : f_mo_thrown ((f_mo_write w_pv w_st w_ge w_gi w_wn w_wr w_ve w_ba w_ca p0 p1).1) = (f_la_write v_mo v_de v_di v_en v_wr v_bt v_xv v_xb v_xc v_yv v_yb v_yc p0 p1).1 ∧ Rel v_mo v_pc ((f_la_write v_mo v_de v_di v_en v_wr v_bt v_xv v_xb v_xc v_yv v_yb v_yc p0 p1).2.1) ((f_la_write v_mo v_de v_di v_en v_wr v_bt v_xv v_xb v_xc v_yv v_yb v_yc p0 p1).2.2.1) ((f_la_write v_mo v_de v_di v_en v_wr v_bt v_xv v_xb v_xc v_yv v_yb v_yc p0 p1).2.2.2.1) ((f_la_write v_mo v_de v_di v_en v_wr v_bt v_xv v_xb v_xc v_yv v_yb v_yc p0 p1).2.2.2.2.1) v_eg v_hi v_pe v_pr v_wa v_se v_ms v_me v_mt v_us v_ue v_ut v_ti v_co v_sf ((f_la_write v_mo v_de v_di v_en v_wr v_bt v_xv v_xb v_xc v_yv v_yb v_yc p0 p1).2.2.2.2.2.1) ((f_la_write v_mo v_de v_di v_en v_wr v_bt v_xv v_xb v_xc v_yv v_yb v_yc p0 p1).2.2.2.2.2.2.1) ((f_la_write v_mo v_de v_di v_en v_wr v_bt v_xv v_xb v_xc v_yv v_yb v_yc p0 p1).2.2.2.2.2.2.2.1) ((f_la_write v_mo v_de v_di v_en v_wr v_bt v_xv v_xb v_xc v_yv v_yb v_yc p0 p1).2.2.2.2.2.2.2.2.1) ((f_la_write v_mo v_de v_di v_en v_wr v_bt v_xv v_xb v_xc v_yv v_yb v_yc p0 p1).2.2.2.2.2.2.2.2.2.1) ((f_la_write v_mo v_de v_di v_en v_wr v_bt v_xv v_xb v_xc v_yv v_yb v_yc p0 p1).2.2.2.2.2.2.2.2.2.2.1) ((f_la_write v_mo v_de v_di v_en v_wr v_bt v_xv v_xb v_xc v_yv v_yb v_yc p0 p1).2.2.2.2.2.2.2.2.2.2.2) ((f_mo_write w_pv w_st w_ge w_gi w_wn w_wr w_ve w_ba w_ca p0 p1).1) w_pv w_pc w_ti w_co w_so ((f_mo_write w_pv w_st w_ge w_gi w_wn w_wr w_ve w_ba w_ca p0 p1).2.1) ((f_mo_write w_pv w_st w_ge w_gi w_wn w_wr w_ve w_ba w_ca p0 p1).2.2.1) ((f_mo_write w_pv w_st w_ge w_gi w_wn w_wr w_ve w_ba w_ca p0 p1).2.2.2.1) ((f_mo_write w_pv w_st w_ge w_gi w_wn w_wr w_ve w_ba w_ca p0 p1).2.2.2.2.1) ((f_mo_write w_pv w_st w_ge w_gi w_wn w_wr w_ve w_ba w_ca p0 p1).2.2.2.2.2.1) w_ed w_li w_pr w_pn w_se w_wa w_en w_tt ((f_mo_write w_pv w_st w_ge w_gi w_wn w_wr w_ve w_ba w_ca p0 p1).2.2.2.2.2.2.1) ((f_mo_write w_pv w_st w_ge w_gi w_wn w_wr w_ve w_ba w_ca p0 p1).2.2.2.2.2.2.2.1) ((f_mo_write w_pv w_st w_ge w_gi w_wn w_wr w_ve w_ba w_ca p0 p1).2.2.2.2.2.2.2.2) := by
  obtain ⟨⟨rfl, rfl, rfl, rfl, rfl, rfl, rfl, rfl, rfl, rfl⟩, ⟨f1, f2, f3, f4, f5, f6, f7, f8, f9, f10⟩, hg, hM, hF, hS, hSR⟩ := hR
  have i10 : ¬ (1 : Int32) = 0 := by decide
  have i20 : ¬ (2 : Int32) = 0 := by decide
  have i40 : ¬ (4 : Int32) = 0 := by decide
  have i50 : ¬ (5 : Int32) = 0 := by decide
  have i54 : ¬ (5 : Int32) = 4 := by decide
  have l10 : ¬ (1 : Int32) ≤ 0 := by decide
  have l20 : ¬ (2 : Int32) ≤ 0 := by decide
  have n10 : (1 : Nat) ≠ 0 := by decide
  have n01 : (0 : Nat) ≠ 1 := by decide
  have us0 : ∀ (f : Nat → Int32) (x : Int32), upd f 0 x 0 = x := fun _ _ => pk_us
  have us1 : ∀ (f : Nat → Int32) (x : Int32), upd f 1 x 1 = x := fun _ _ => pk_us
  have un0 : ∀ (f : Nat → Int32) (x : Int32), upd f 0 x 1 = f 1 := fun _ _ => pk_un n10
  have un1 : ∀ (f : Nat → Int32) (x : Int32), upd f 1 x 0 = f 0 := fun _ _ => pk_un n01
  unfold f_mo_thrown f_la_write x_th_write f_th_write
  rcases rg_c p0 with ⟨a1, a2⟩ | rfl | rfl | rfl | rfl | rfl | rfl | rfl | rfl | rfl | rfl | rfl | rfl | rfl | rfl
  · obtain ⟨b1, b2⟩ := br_0 (m := w_pv) a1 a2
    unfold f_mo_write
    rw [b1, b2]
    simp only [l10, i40, if_true, if_false]
    exact ⟨trivial, ⟨rfl, rfl, rfl, rfl, rfl, rfl, rfl, rfl, rfl, rfl⟩, ⟨f1, f2, f3, f4, f5, f6, f7, f8, f9, f10⟩, hg, hM, hF, hS, hSR⟩
  · rcases br_e 256 (by simp) _ (ok_mem hM) with ⟨b1, b2⟩ | ⟨b1, b2⟩
    · rw [mw_256 _ _ _ _ _ _ _ _ _ _ b2, cg_256, b1]
      simp only [if_true]
      exact ⟨trivial, ⟨rfl, rfl, rfl, rfl, rfl, rfl, rfl, rfl, rfl, rfl⟩, ⟨f1, f2, f3, f4, f5, f6, f7, f8, f9, f10⟩, hg, hM, hF, ok_S p1 hS, hSR⟩
    · unfold f_mo_write
      rw [b1, b2]
      simp only [l20, i50, i54, if_true, if_false]
      exact ⟨trivial, ⟨rfl, rfl, rfl, rfl, rfl, rfl, rfl, rfl, rfl, rfl⟩, ⟨f1, f2, f3, f4, f5, f6, f7, f8, f9, f10⟩, hg, hM, hF, hS, hSR⟩
  · rcases br_e 260 (by simp) _ (ok_mem hM) with ⟨b1, b2⟩ | ⟨b1, b2⟩
    · rw [mw_260 _ _ _ _ _ _ _ _ _ _ b2, cg_260, b1]
      simp only [if_true]
      exact ⟨trivial, ⟨rfl, rfl, rfl, rfl, rfl, rfl, rfl, rfl, rfl, rfl⟩, ⟨f1, f2, f3, f4, f5, f6, f7, f8, f9, f10⟩, hg, hM, hF, hS, hSR⟩
    · unfold f_mo_write
      rw [b1, b2]
      simp only [l20, i50, i54, if_true, if_false]
      exact ⟨trivial, ⟨rfl, rfl, rfl, rfl, rfl, rfl, rfl, rfl, rfl, rfl⟩, ⟨f1, f2, f3, f4, f5, f6, f7, f8, f9, f10⟩, hg, hM, hF, hS, hSR⟩
  · rcases br_e 261 (by simp) _ (ok_mem hM) with ⟨b1, b2⟩ | ⟨b1, b2⟩
    · rw [mw_261 _ _ _ _ _ _ _ _ _ _ b2, cg_261, b1]
      simp only [if_true]
      exact ⟨trivial, ⟨rfl, rfl, rfl, rfl, rfl, rfl, rfl, rfl, rfl, rfl⟩, ⟨(un1 _ _).trans f1, us1 _ _, f3, f4, f5, f6, f7, f8, f9, f10⟩, hg, hM, hF, hS, hSR⟩
    · unfold f_mo_write
      rw [b1, b2]
      simp only [l20, i50, i54, if_true, if_false]
      exact ⟨trivial, ⟨rfl, rfl, rfl, rfl, rfl, rfl, rfl, rfl, rfl, rfl⟩, ⟨f1, f2, f3, f4, f5, f6, f7, f8, f9, f10⟩, hg, hM, hF, hS, hSR⟩
  · rcases br_e 321 (by simp) _ (ok_mem hM) with ⟨b1, b2⟩ | ⟨b1, b2⟩
    · rw [mw_321 _ _ _ _ _ _ _ _ _ _ b2, cg_321, b1]
      simp only [if_true]
      exact ⟨trivial, ⟨rfl, rfl, rfl, rfl, rfl, rfl, rfl, rfl, rfl, rfl⟩, ⟨f1, f2, (un1 _ _).trans f3, us1 _ _, f5, f6, f7, f8, f9, f10⟩, hg, hM, hF, hS, hSR⟩
    · unfold f_mo_write
      rw [b1, b2]
      simp only [l20, i50, i54, if_true, if_false]
      exact ⟨trivial, ⟨rfl, rfl, rfl, rfl, rfl, rfl, rfl, rfl, rfl, rfl⟩, ⟨f1, f2, f3, f4, f5, f6, f7, f8, f9, f10⟩, hg, hM, hF, hS, hSR⟩
  · rcases br_e 322 (by simp) _ (ok_mem hM) with ⟨b1, b2⟩ | ⟨b1, b2⟩
    · rw [mw_322 _ _ _ _ _ _ _ _ _ _ b2, cg_322, b1]
      simp only [if_true]
      exact ⟨trivial, ⟨rfl, rfl, rfl, rfl, rfl, rfl, rfl, rfl, rfl, rfl⟩, ⟨f1, f2, f3, f4, (un1 _ _).trans f5, us1 _ _, f7, f8, f9, f10⟩, hg, hM, hF, hS, hSR⟩
    · unfold f_mo_write
      rw [b1, b2]
      simp only [l20, i50, i54, if_true, if_false]
      exact ⟨trivial, ⟨rfl, rfl, rfl, rfl, rfl, rfl, rfl, rfl, rfl, rfl⟩, ⟨f1, f2, f3, f4, f5, f6, f7, f8, f9, f10⟩, hg, hM, hF, hS, hSR⟩
  · rcases br_e 324 (by simp) _ (ok_mem hM) with ⟨b1, b2⟩ | ⟨b1, b2⟩
    · rw [mw_324 _ _ _ _ _ _ _ _ _ _ b2, cg_324, b1]
      simp only [if_true]
      exact ⟨trivial, ⟨rfl, rfl, rfl, rfl, rfl, rfl, rfl, rfl, rfl, rfl⟩, ⟨f1, f2, f3, f4, f5, f6, f7, f8, f9, f10⟩, hg, hM, hF, hS, hSR⟩
    · unfold f_mo_write
      rw [b1, b2]
      simp only [l20, i50, i54, if_true, if_false]
      exact ⟨trivial, ⟨rfl, rfl, rfl, rfl, rfl, rfl, rfl, rfl, rfl, rfl⟩, ⟨f1, f2, f3, f4, f5, f6, f7, f8, f9, f10⟩, hg, hM, hF, hS, hSR⟩
  · rcases br_e 768 (by simp) _ (ok_mem hM) with ⟨b1, b2⟩ | ⟨b1, b2⟩
    · rw [mw_768 _ _ _ _ _ _ _ _ _ _ b2, cg_768, b1]
      simp only [if_true]
      exact ⟨trivial, ⟨rfl, rfl, rfl, rfl, rfl, (ok_M p1 hS).2, rfl, rfl, rfl, rfl⟩, ⟨f1, f2, f3, f4, f5, f6, f7, f8, f9, f10⟩, hg, hM, hF, (ok_M p1 hS).1, hSR⟩
    · unfold f_mo_write
      rw [b1, b2]
      simp only [l20, i50, i54, if_true, if_false]
      exact ⟨trivial, ⟨rfl, rfl, rfl, rfl, rfl, rfl, rfl, rfl, rfl, rfl⟩, ⟨f1, f2, f3, f4, f5, f6, f7, f8, f9, f10⟩, hg, hM, hF, hS, hSR⟩
  · rcases br_e 770 (by simp) _ (ok_mem hM) with ⟨b1, b2⟩ | ⟨b1, b2⟩
    · rw [mw_770 _ _ _ _ _ _ _ _ _ _ b2, cg_770, b1]
      simp only [if_true]
      exact ⟨trivial, ⟨rfl, rfl, rfl, rfl, rfl, rfl, rfl, rfl, rfl, rfl⟩, ⟨f1, f2, f3, f4, f5, f6, f7, f8, f9, f10⟩, hg, hM, hF, hS, hSR⟩
    · unfold f_mo_write
      rw [b1, b2]
      simp only [l20, i50, i54, if_true, if_false]
      exact ⟨trivial, ⟨rfl, rfl, rfl, rfl, rfl, rfl, rfl, rfl, rfl, rfl⟩, ⟨f1, f2, f3, f4, f5, f6, f7, f8, f9, f10⟩, hg, hM, hF, hS, hSR⟩
  · rcases br_e 771 (by simp) _ (ok_mem hM) with ⟨b1, b2⟩ | ⟨b1, b2⟩
    · rw [mw_771 _ _ _ _ _ _ _ _ _ _ b2, cg_771, b1]
      simp only [if_true]
      exact ⟨trivial, ⟨rfl, rfl, rfl, rfl, rfl, rfl, rfl, rfl, rfl, rfl⟩, ⟨f1, f2, f3, f4, f5, f6, f7, f8, f9, f10⟩, hg, hM, hF, hS, hSR⟩
    · unfold f_mo_write
      rw [b1, b2]
      simp only [l20, i50, i54, if_true, if_false]
      exact ⟨trivial, ⟨rfl, rfl, rfl, rfl, rfl, rfl, rfl, rfl, rfl, rfl⟩, ⟨f1, f2, f3, f4, f5, f6, f7, f8, f9, f10⟩, hg, hM, hF, hS, hSR⟩
  · rcases br_e 772 (by simp) _ (ok_mem hM) with ⟨b1, b2⟩ | ⟨b1, b2⟩
    · rw [mw_772 _ _ _ _ _ _ _ _ _ _ b2, cg_772, b1]
      simp only [if_true]
      exact ⟨trivial, ⟨rfl, rfl, rfl, rfl, rfl, rfl, rfl, rfl, rfl, rfl⟩, ⟨f1, f2, f3, f4, f5, f6, f7, f8, f9, f10⟩, hg, hM, hF, hS, hSR⟩
    · unfold f_mo_write
      rw [b1, b2]
      simp only [l20, i50, i54, if_true, if_false]
      exact ⟨trivial, ⟨rfl, rfl, rfl, rfl, rfl, rfl, rfl, rfl, rfl, rfl⟩, ⟨f1, f2, f3, f4, f5, f6, f7, f8, f9, f10⟩, hg, hM, hF, hS, hSR⟩
  · rcases br_e 773 (by simp) _ (ok_mem hM) with ⟨b1, b2⟩ | ⟨b1, b2⟩
    · rw [mw_773 _ _ _ _ _ _ _ _ _ _ b2, cg_773, b1]
      simp only [if_true]
      exact ⟨trivial, ⟨rfl, rfl, rfl, rfl, rfl, rfl, rfl, rfl, rfl, rfl⟩, ⟨us0 _ _, (un0 _ _).trans f2, f3, f4, f5, f6, f7, f8, f9, f10⟩, hg, hM, hF, hS, hSR⟩
    · unfold f_mo_write
      rw [b1, b2]
      simp only [l20, i50, i54, if_true, if_false]
      exact ⟨trivial, ⟨rfl, rfl, rfl, rfl, rfl, rfl, rfl, rfl, rfl, rfl⟩, ⟨f1, f2, f3, f4, f5, f6, f7, f8, f9, f10⟩, hg, hM, hF, hS, hSR⟩
  · rcases br_e 833 (by simp) _ (ok_mem hM) with ⟨b1, b2⟩ | ⟨b1, b2⟩
    · rw [mw_833 _ _ _ _ _ _ _ _ _ _ b2, cg_833, b1]
      simp only [if_true]
      exact ⟨trivial, ⟨rfl, rfl, rfl, rfl, rfl, rfl, rfl, rfl, rfl, rfl⟩, ⟨f1, f2, us0 _ _, (un0 _ _).trans f4, f5, f6, f7, f8, f9, f10⟩, hg, hM, hF, hS, hSR⟩
    · unfold f_mo_write
      rw [b1, b2]
      simp only [l20, i50, i54, if_true, if_false]
      exact ⟨trivial, ⟨rfl, rfl, rfl, rfl, rfl, rfl, rfl, rfl, rfl, rfl⟩, ⟨f1, f2, f3, f4, f5, f6, f7, f8, f9, f10⟩, hg, hM, hF, hS, hSR⟩
  · rcases br_e 834 (by simp) _ (ok_mem hM) with ⟨b1, b2⟩ | ⟨b1, b2⟩
    · rw [mw_834 _ _ _ _ _ _ _ _ _ _ b2, cg_834, b1]
      simp only [if_true]
      exact ⟨trivial, ⟨rfl, rfl, rfl, rfl, rfl, rfl, rfl, rfl, rfl, rfl⟩, ⟨f1, f2, f3, f4, us0 _ _, (un0 _ _).trans f6, f7, f8, f9, f10⟩, hg, hM, hF, hS, hSR⟩
    · unfold f_mo_write
      rw [b1, b2]
      simp only [l20, i50, i54, if_true, if_false]
      exact ⟨trivial, ⟨rfl, rfl, rfl, rfl, rfl, rfl, rfl, rfl, rfl, rfl⟩, ⟨f1, f2, f3, f4, f5, f6, f7, f8, f9, f10⟩, hg, hM, hF, hS, hSR⟩
  · rcases br_e 836 (by simp) _ (ok_mem hM) with ⟨b1, b2⟩ | ⟨b1, b2⟩
    · rw [mw_836 _ _ _ _ _ _ _ _ _ _ b2, cg_836, b1]
      simp only [if_true]
      exact ⟨trivial, ⟨rfl, rfl, rfl, rfl, rfl, rfl, rfl, rfl, rfl, rfl⟩, ⟨f1, f2, f3, f4, f5, f6, f7, f8, f9, f10⟩, hg, hM, hF, hS, hSR⟩
    · unfold f_mo_write
      rw [b1, b2]
      simp only [l20, i50, i54, if_true, if_false]
      exact ⟨trivial, ⟨rfl, rfl, rfl, rfl, rfl, rfl, rfl, rfl, rfl, rfl⟩, ⟨f1, f2, f3, f4, f5, f6, f7, f8, f9, f10⟩, hg, hM, hF, hS, hSR⟩
