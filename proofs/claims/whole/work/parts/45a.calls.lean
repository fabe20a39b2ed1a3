-- ===== step, raise, leave, load, store, access =====
theorem nI_nn : ∀ k, k < 16 → ¬ nI k < 0 ∧ ¬ nI k = -1 := by decide +kernel
theorem sm_step (v_mo v_pc v_de v_di v_en v_wr v_eg v_hi v_pe : Int32) (v_pr v_wa v_se : (Nat → Int32)) (v_ms v_me v_mt v_us v_ue v_ut : Int32) (v_ti v_co : Int64) (v_sf v_bt v_xv v_xb v_xc v_yv v_yb v_yc : Int32) (w_th w_pv w_pc : Int32) (w_ti w_co : Int64) (w_so w_st w_ge w_gi w_wn w_wr : Int32) (w_ed w_li w_pr w_pn w_se w_wa w_en w_tt w_ve w_ba w_ca : (Nat → Int32)) (hR : Rel v_mo v_pc v_de v_di v_en v_wr v_eg v_hi v_pe v_pr v_wa v_se v_ms v_me v_mt v_us v_ue v_ut v_ti v_co v_sf v_bt v_xv v_xb v_xc v_yv v_yb v_yc w_th w_pv w_pc w_ti w_co w_so w_st w_ge w_gi w_wn w_wr w_ed w_li w_pr w_pn w_se w_wa w_en w_tt w_ve w_ba w_ca) : (f_th_step v_mo v_pc v_de v_di v_en v_wr v_pe v_pr v_me v_mt v_ue v_ut v_ti v_co v_sf v_bt v_xv v_xb v_xc v_yv v_yb v_yc).1 = (f_mo_step w_pv w_pc w_ti w_co w_so w_st w_ge w_gi w_wn w_wr w_pr w_pn w_en w_tt w_ve w_ba w_ca).1 ∧ Rel ((f_th_step v_mo v_pc v_de v_di v_en v_wr v_pe v_pr v_me v_mt v_ue v_ut v_ti v_co v_sf v_bt v_xv v_xb v_xc v_yv v_yb v_yc).2.1) ((f_th_step v_mo v_pc v_de v_di v_en v_wr v_pe v_pr v_me v_mt v_ue v_ut v_ti v_co v_sf v_bt v_xv v_xb v_xc v_yv v_yb v_yc).2.2.1) v_de v_di v_en v_wr v_eg v_hi v_pe v_pr v_wa v_se v_ms v_me v_mt v_us v_ue v_ut v_ti v_co v_sf ((f_th_step v_mo v_pc v_de v_di v_en v_wr v_pe v_pr v_me v_mt v_ue v_ut v_ti v_co v_sf v_bt v_xv v_xb v_xc v_yv v_yb v_yc).2.2.2.1) v_xv ((f_th_step v_mo v_pc v_de v_di v_en v_wr v_pe v_pr v_me v_mt v_ue v_ut v_ti v_co v_sf v_bt v_xv v_xb v_xc v_yv v_yb v_yc).2.2.2.2.1) ((f_th_step v_mo v_pc v_de v_di v_en v_wr v_pe v_pr v_me v_mt v_ue v_ut v_ti v_co v_sf v_bt v_xv v_xb v_xc v_yv v_yb v_yc).2.2.2.2.2.1) v_yv ((f_th_step v_mo v_pc v_de v_di v_en v_wr v_pe v_pr v_me v_mt v_ue v_ut v_ti v_co v_sf v_bt v_xv v_xb v_xc v_yv v_yb v_yc).2.2.2.2.2.2.1) ((f_th_step v_mo v_pc v_de v_di v_en v_wr v_pe v_pr v_me v_mt v_ue v_ut v_ti v_co v_sf v_bt v_xv v_xb v_xc v_yv v_yb v_yc).2.2.2.2.2.2.2) ((f_mo_step w_pv w_pc w_ti w_co w_so w_st w_ge w_gi w_wn w_wr w_pr w_pn w_en w_tt w_ve w_ba w_ca).2.1) ((f_mo_step w_pv w_pc w_ti w_co w_so w_st w_ge w_gi w_wn w_wr w_pr w_pn w_en w_tt w_ve w_ba w_ca).2.2.1) ((f_mo_step w_pv w_pc w_ti w_co w_so w_st w_ge w_gi w_wn w_wr w_pr w_pn w_en w_tt w_ve w_ba w_ca).2.2.2.1) w_ti w_co w_so ((f_mo_step w_pv w_pc w_ti w_co w_so w_st w_ge w_gi w_wn w_wr w_pr w_pn w_en w_tt w_ve w_ba w_ca).2.2.2.2.1) w_ge w_gi w_wn w_wr w_ed w_li w_pr w_pn w_se w_wa w_en w_tt w_ve ((f_mo_step w_pv w_pc w_ti w_co w_so w_st w_ge w_gi w_wn w_wr w_pr w_pn w_en w_tt w_ve w_ba w_ca).2.2.2.2.2.1) ((f_mo_step w_pv w_pc w_ti w_co w_so w_st w_ge w_gi w_wn w_wr w_pr w_pn w_en w_tt w_ve w_ba w_ca).2.2.2.2.2.2) := by
  obtain ⟨⟨rfl, rfl, rfl, rfl, rfl, rfl, rfl, rfl, rfl, rfl⟩, ⟨f1, f2, f3, f4, f5, f6, f7, f8, f9, f10⟩, hg, hM, hF, hS, hSR⟩ := hR
  obtain ⟨d1, d2⟩ := due_eq (v_di := w_gi) (v_en := w_wn) (v_wr := w_wr) (v_ti := w_ti) (v_co := w_co) (v_bt := w_st) hM (fun k a b => ⟨(hSR.2 k a b).1, (hSR.2 k a b).2.2.2.1⟩) hF f7 f8 f9 f10
  unfold f_th_step f_mo_step
  rw [d1]
  rcases d2 with e | ⟨k, hk, e⟩
  · rw [e]
    simp only [if_true, if_pos (show (-1 : Int32) < 0 by decide)]
    exact ⟨trivial, ⟨rfl, rfl, rfl, rfl, rfl, rfl, rfl, rfl, rfl, rfl⟩, ⟨f1, f2, f3, f4, f5, f6, f7, f8, f9, f10⟩, hg, hM, hF, hS, hSR⟩
  · rw [e]
    obtain ⟨n1, n2⟩ := nI_nn k hk
    simp only [if_neg n1, if_neg n2]
    obtain ⟨t1, t2, t3, t4, t5, t6, t7, t8, t9⟩ := trap_eq w_pc (v_de := w_ge) (v_di := w_gi) (show k < 32 by omega) (q := 1) (Or.inr rfl) hM hS f1 f2 f3 f4 f5 f6
    exact ⟨trivial, ⟨t1.symm, t2.symm, rfl, rfl, rfl, t3.symm, rfl, rfl, rfl, rfl⟩, ⟨f1, f2, t6, t7, t8, t9, f7, f8, f9, f10⟩, hg, t4, hF, t5, hSR⟩
def rcn (p : Int32) : Int32 := (if p < 0 then (if p = 11 then 1 else (if p = 12 then 1 else (if p = 13 then 1 else (if p = 15 then 1 else 0)))) else (if p ≤ 9 then 1 else (if p = 11 then 1 else (if p = 12 then 1 else (if p = 13 then 1 else (if p = 15 then 1 else 0))))))
theorem rcn_r (w_pv w_pc w_st w_ge w_gi : Int32) (w_ve w_ba w_ca : Nat → Int32) (p0 : Int32) : f_mo_raise w_pv w_pc w_st w_ge w_gi w_ve w_ba w_ca p0 = f_mo_raise_39 w_pv w_pc w_st w_ge w_gi w_ve w_ba w_ca p0 (rcn p0) := by
  unfold f_mo_raise rcn
  repeat' split
  all_goals rfl
theorem rcn_16 : ∀ k, k < 16 → (x_th_raise (nI k) = 0 ∧ rcn (nI k) = 1) ∨ (x_th_raise (nI k) = 1 ∧ rcn (nI k) = 0) := by decide +kernel
theorem ix_0 {p : Int32} (h1 : ¬ p < 0) (h2 : ¬ 15 < p) : ∃ i, i < 16 ∧ p = nI i := by
  have a1 : (0 : Int32).toInt ≤ p.toInt := Int32.le_iff_toInt_le.mp (Int32.not_lt.mp h1)
  have a2 : p.toInt ≤ (15 : Int32).toInt := Int32.le_iff_toInt_le.mp (Int32.not_lt.mp h2)
  have b1 : (0 : Int32).toInt = 0 := by decide
  have b2 : (15 : Int32).toInt = 15 := by decide
  refine ⟨p.toInt.toNat, by omega, ?_⟩
  apply Int32.toInt_inj.mp
  unfold nI
  rw [Int32.toInt_ofNat_of_lt (by omega)]
  omega
theorem rcn_e (p : Int32) : (x_th_raise p = 0 ∧ rcn p = 1 ∧ ∃ k, k < 16 ∧ p = nI k) ∨ (x_th_raise p = 1 ∧ rcn p = 0) := by
  by_cases c0 : p < 0
  · right
    have n : ∀ y : Int32, ¬ y < 0 → ¬ p = y := fun y hy q => hy (q ▸ c0)
    unfold x_th_raise rcn
    simp only [if_pos c0, if_neg (n 11 (by decide)), if_neg (n 12 (by decide)), if_neg (n 13 (by decide)), if_neg (n 15 (by decide))]
    exact ⟨trivial, trivial⟩
  · by_cases c1 : 15 < p
    · right
      have n : ∀ y : Int32, ¬ 15 < y → ¬ p = y := fun y hy q => hy (q ▸ c1)
      have n9 : ¬ p ≤ 9 := by
        intro q
        have a := Int32.le_iff_toInt_le.mp q
        have b := Int32.lt_iff_toInt_lt.mp c1
        rw [show (9 : Int32).toInt = 9 from by decide] at a
        rw [show (15 : Int32).toInt = 15 from by decide] at b
        omega
      unfold x_th_raise rcn
      simp only [if_neg c0, if_pos c1, if_neg n9, if_neg (n 11 (by decide)), if_neg (n 12 (by decide)), if_neg (n 13 (by decide)), if_neg (n 15 (by decide))]
      exact ⟨trivial, trivial⟩
    · obtain ⟨k, hk, rfl⟩ := ix_0 c0 c1
      rcases rcn_16 k hk with h | h
      · exact Or.inl ⟨h.1, h.2, k, hk, rfl⟩
      · exact Or.inr h
theorem up_L (f : Nat → Int64) (x : Int64) : vp_updL f ((0 : Int32) : Int32).toNatClampNeg x ((0 : Int32) : Int32).toNatClampNeg = x := by
  unfold vp_updL
  rw [if_pos rfl]
theorem sm_raise (v_mo v_pc v_de v_di v_en v_wr v_eg v_hi v_pe : Int32) (v_pr v_wa v_se : (Nat → Int32)) (v_ms v_me v_mt v_us v_ue v_ut : Int32) (v_ti v_co : Int64) (v_sf v_bt v_xv v_xb v_xc v_yv v_yb v_yc : Int32) (w_th w_pv w_pc : Int32) (w_ti w_co : Int64) (w_so w_st w_ge w_gi w_wn w_wr : Int32) (w_ed w_li w_pr w_pn w_se w_wa w_en w_tt w_ve w_ba w_ca : (Nat → Int32)) (v_ot : Nat → Int64) (p0 : Int32) (hR : Rel v_mo v_pc v_de v_di v_en v_wr v_eg v_hi v_pe v_pr v_wa v_se v_ms v_me v_mt v_us v_ue v_ut v_ti v_co v_sf v_bt v_xv v_xb v_xc v_yv v_yb v_yc w_th w_pv w_pc w_ti w_co w_so w_st w_ge w_gi w_wn w_wr w_ed w_li w_pr w_pn w_se w_wa w_en w_tt w_ve w_ba w_ca) : f_mo_thrown ((f_mo_raise w_pv w_pc w_st w_ge w_gi w_ve w_ba w_ca p0).2.1) = (f_la_raise v_mo v_pc v_de v_di v_bt v_xv v_xb v_xc v_yv v_yb v_yc v_ot p0).1 ∧ ((f_la_raise v_mo v_pc v_de v_di v_bt v_xv v_xb v_xc v_yv v_yb v_yc v_ot p0).1 = 0 → ((f_la_raise v_mo v_pc v_de v_di v_bt v_xv v_xb v_xc v_yv v_yb v_yc v_ot p0).2.2.2.2.2.2.2.2) ((0 : Int32) : Int32).toNatClampNeg = ((f_mo_raise w_pv w_pc w_st w_ge w_gi w_ve w_ba w_ca p0).1 : Int32).toInt64) ∧ Rel ((f_la_raise v_mo v_pc v_de v_di v_bt v_xv v_xb v_xc v_yv v_yb v_yc v_ot p0).2.1) ((f_la_raise v_mo v_pc v_de v_di v_bt v_xv v_xb v_xc v_yv v_yb v_yc v_ot p0).2.2.1) v_de v_di v_en v_wr v_eg v_hi v_pe v_pr v_wa v_se v_ms v_me v_mt v_us v_ue v_ut v_ti v_co v_sf ((f_la_raise v_mo v_pc v_de v_di v_bt v_xv v_xb v_xc v_yv v_yb v_yc v_ot p0).2.2.2.1) v_xv ((f_la_raise v_mo v_pc v_de v_di v_bt v_xv v_xb v_xc v_yv v_yb v_yc v_ot p0).2.2.2.2.1) ((f_la_raise v_mo v_pc v_de v_di v_bt v_xv v_xb v_xc v_yv v_yb v_yc v_ot p0).2.2.2.2.2.1) v_yv ((f_la_raise v_mo v_pc v_de v_di v_bt v_xv v_xb v_xc v_yv v_yb v_yc v_ot p0).2.2.2.2.2.2.1) ((f_la_raise v_mo v_pc v_de v_di v_bt v_xv v_xb v_xc v_yv v_yb v_yc v_ot p0).2.2.2.2.2.2.2.1) ((f_mo_raise w_pv w_pc w_st w_ge w_gi w_ve w_ba w_ca p0).2.1) ((f_mo_raise w_pv w_pc w_st w_ge w_gi w_ve w_ba w_ca p0).2.2.1) ((f_mo_raise w_pv w_pc w_st w_ge w_gi w_ve w_ba w_ca p0).2.2.2.1) w_ti w_co w_so ((f_mo_raise w_pv w_pc w_st w_ge w_gi w_ve w_ba w_ca p0).2.2.2.2.1) w_ge w_gi w_wn w_wr w_ed w_li w_pr w_pn w_se w_wa w_en w_tt w_ve ((f_mo_raise w_pv w_pc w_st w_ge w_gi w_ve w_ba w_ca p0).2.2.2.2.2.1) ((f_mo_raise w_pv w_pc w_st w_ge w_gi w_ve w_ba w_ca p0).2.2.2.2.2.2) := by
  obtain ⟨⟨rfl, rfl, rfl, rfl, rfl, rfl, rfl, rfl, rfl, rfl⟩, ⟨f1, f2, f3, f4, f5, f6, f7, f8, f9, f10⟩, hg, hM, hF, hS, hSR⟩ := hR
  have i10 : ¬ (1 : Int32) = 0 := by decide
  rw [rcn_r]
  unfold f_mo_thrown f_mo_raise_39 f_mo_raise_50 f_mo_raise_63 f_la_raise
  rcases rcn_e p0 with ⟨x0, x1, k, hk, rfl⟩ | ⟨x0, x1⟩
  · rw [x0, x1]
    have y := x0
    unfold x_th_raise at y
    unfold f_th_raise
    by_cases c1 : nI k < 0
    · rw [if_pos c1] at y; exact absurd y (by decide)
    · by_cases c2 : 15 < nI k
      · rw [if_neg c1, if_pos c2] at y; exact absurd y (by decide)
      · by_cases c3 : f_th_hasBit 48127 (nI k) = 0
        · rw [if_neg c1, if_neg c2, if_pos c3] at y; exact absurd y (by decide)
        · simp only [if_true, i10, if_false, if_neg c1, if_neg c2, if_neg c3]
          obtain ⟨t1, t2, t3, t4, t5, t6, t7, t8, t9⟩ := trap_eq w_pc (v_de := w_ge) (v_di := w_gi) (show k < 32 by omega) (q := 0) (Or.inl rfl) hM hS f1 f2 f3 f4 f5 f6
          refine ⟨trivial, ?_, ⟨t1.symm, t2.symm, rfl, rfl, rfl, t3.symm, rfl, rfl, rfl, rfl⟩, ⟨f1, f2, t6, t7, t8, t9, f7, f8, f9, f10⟩, hg, t4, hF, t5, hSR⟩
          intro _
          rw [up_L, t1]
  · rw [x0, x1]
    simp only [if_true, i10, if_false]
    exact ⟨trivial, fun h => absurd h (by decide), ⟨rfl, rfl, rfl, rfl, rfl, rfl, rfl, rfl, rfl, rfl⟩, ⟨f1, f2, f3, f4, f5, f6, f7, f8, f9, f10⟩, hg, hM, hF, hS, hSR⟩
theorem sm_leave (v_mo v_pc v_de v_di v_en v_wr v_eg v_hi v_pe : Int32) (v_pr v_wa v_se : (Nat → Int32)) (v_ms v_me v_mt v_us v_ue v_ut : Int32) (v_ti v_co : Int64) (v_sf v_bt v_xv v_xb v_xc v_yv v_yb v_yc : Int32) (w_th w_pv w_pc : Int32) (w_ti w_co : Int64) (w_so w_st w_ge w_gi w_wn w_wr : Int32) (w_ed w_li w_pr w_pn w_se w_wa w_en w_tt w_ve w_ba w_ca : (Nat → Int32)) (v_ot : Nat → Int64) (p0 : Int32) (hz : p0 = 0 ∨ p0 = 1) (hR : Rel v_mo v_pc v_de v_di v_en v_wr v_eg v_hi v_pe v_pr v_wa v_se v_ms v_me v_mt v_us v_ue v_ut v_ti v_co v_sf v_bt v_xv v_xb v_xc v_yv v_yb v_yc w_th w_pv w_pc w_ti w_co w_so w_st w_ge w_gi w_wn w_wr w_ed w_li w_pr w_pn w_se w_wa w_en w_tt w_ve w_ba w_ca) : f_mo_thrown ((f_mo_leave w_pv w_pc w_st w_ba p0).2.1) = (f_la_leave v_mo v_pc v_bt v_xb v_yb v_ot p0).1 ∧ ((f_la_leave v_mo v_pc v_bt v_xb v_yb v_ot p0).1 = 0 → ((f_la_leave v_mo v_pc v_bt v_xb v_yb v_ot p0).2.2.2.2) ((0 : Int32) : Int32).toNatClampNeg = ((f_mo_leave w_pv w_pc w_st w_ba p0).1 : Int32).toInt64) ∧ Rel ((f_la_leave v_mo v_pc v_bt v_xb v_yb v_ot p0).2.1) ((f_la_leave v_mo v_pc v_bt v_xb v_yb v_ot p0).2.2.1) v_de v_di v_en v_wr v_eg v_hi v_pe v_pr v_wa v_se v_ms v_me v_mt v_us v_ue v_ut v_ti v_co v_sf ((f_la_leave v_mo v_pc v_bt v_xb v_yb v_ot p0).2.2.2.1) v_xv v_xb v_xc v_yv v_yb v_yc ((f_mo_leave w_pv w_pc w_st w_ba p0).2.1) ((f_mo_leave w_pv w_pc w_st w_ba p0).2.2.1) ((f_mo_leave w_pv w_pc w_st w_ba p0).2.2.2.1) w_ti w_co w_so ((f_mo_leave w_pv w_pc w_st w_ba p0).2.2.2.2) w_ge w_gi w_wn w_wr w_ed w_li w_pr w_pn w_se w_wa w_en w_tt w_ve w_ba w_ca := by
  obtain ⟨⟨rfl, rfl, rfl, rfl, rfl, rfl, rfl, rfl, rfl, rfl⟩, ⟨f1, f2, f3, f4, f5, f6, f7, f8, f9, f10⟩, hg, hM, hF, hS, hSR⟩ := hR
  have i10 : ¬ (1 : Int32) = 0 := by decide
  have i50 : ¬ (5 : Int32) = 0 := by decide
  have z0 : (0 : Int32).toNatClampNeg = 0 := by decide
  have z1 : (1 : Int32).toNatClampNeg = 1 := by decide
  unfold f_mo_thrown f_mo_leave f_la_leave x_th_leave f_th_leave
  rcases hz with rfl | rfl
  · by_cases c : w_pv = 0
    · simp only [if_true, if_pos c, i50, if_false]
      exact ⟨trivial, fun h => absurd h (by decide), ⟨rfl, rfl, rfl, rfl, rfl, rfl, rfl, rfl, rfl, rfl⟩, ⟨f1, f2, f3, f4, f5, f6, f7, f8, f9, f10⟩, hg, hM, hF, hS, hSR⟩
    · obtain ⟨s1, s2, s3⟩ := st_L hS
      by_cases d : f_mo_bit w_st 8 = 0
      · rw [if_pos d] at s3
        simp only [if_true, if_neg c, if_pos d, s1, s3]
        refine ⟨trivial, fun _ => up_L _ _, ⟨rfl, f4, rfl, rfl, rfl, rfl, rfl, rfl, rfl, rfl⟩, ⟨f1, f2, f3, f4, f5, f6, f7, f8, f9, f10⟩, hg, Or.inl rfl, hF, s2, hSR⟩
      · rw [if_neg d] at s3
        simp only [if_true, if_neg c, if_neg d, s1, s3]
        refine ⟨trivial, fun _ => up_L _ _, ⟨rfl, f4, rfl, rfl, rfl, rfl, rfl, rfl, rfl, rfl⟩, ⟨f1, f2, f3, f4, f5, f6, f7, f8, f9, f10⟩, hg, Or.inr (Or.inl rfl), hF, s2, hSR⟩
  · by_cases c : w_pv = 3
    · have c1 : ¬ w_pv < 3 := by rw [c]; decide
      have c2 : ¬ w_pv = 0 := by rw [c]; decide
      obtain ⟨s1, s2, s3, s4⟩ := st_R hS
      simp only [if_true, i10, if_false, if_pos c, if_neg c1, if_neg c2, s1]
      refine ⟨trivial, fun _ => ?_, ⟨s3.symm, f3, rfl, rfl, rfl, rfl, rfl, rfl, rfl, rfl⟩, ⟨f1, f2, f3, f4, f5, f6, f7, f8, f9, f10⟩, hg, s4, hF, s2, hSR⟩
      rw [up_L, s3]
    · have c1 : w_pv < 3 := by
        rcases hM with x | x | x
        · rw [x]; decide
        · rw [x]; decide
        · exact absurd x c
      simp only [if_true, i10, i50, if_false, if_neg c, if_pos c1]
      exact ⟨trivial, fun h => absurd h (by decide), ⟨rfl, rfl, rfl, rfl, rfl, rfl, rfl, rfl, rfl, rfl⟩, ⟨f1, f2, f3, f4, f5, f6, f7, f8, f9, f10⟩, hg, hM, hF, hS, hSR⟩
theorem flt_0 (p : Int32) : f_dv_faultAt p 0 = 0 ∨ f_dv_faultAt p 0 = 1 ∨ f_dv_faultAt p 0 = 2 := by
  unfold f_dv_faultAt
  rw [if_pos rfl]
  by_cases c : p &&& 3 = 0
  · rw [if_pos c]
    by_cases d : f_dv_isWord p = 0
    · rw [if_pos d]; exact Or.inr (Or.inr rfl)
    · rw [if_neg d]; exact Or.inl rfl
  · rw [if_neg c]; exact Or.inr (Or.inl rfl)
theorem flt_s (p : Int32) : f_dv_faultAt p 1 = 0 ∨ f_dv_faultAt p 1 = 1 ∨ f_dv_faultAt p 1 = 2 ∨ f_dv_faultAt p 1 = 3 := by
  unfold f_dv_faultAt
  rw [if_neg (show ¬ (1 : Int32) = 0 by decide)]
  by_cases c : p &&& 3 = 0
  · rw [if_pos c]
    by_cases d : f_dv_isWord p = 0
    · rw [if_pos d]; exact Or.inr (Or.inr (Or.inl rfl))
    · rw [if_neg d]
      by_cases e : p = 64
      · rw [if_pos e]; exact Or.inr (Or.inr (Or.inr rfl))
      · rw [if_neg e]; exact Or.inl rfl
  · rw [if_neg c]; exact Or.inr (Or.inl rfl)
theorem sm_load (v_mo v_pc v_de v_di v_en v_wr v_eg v_hi v_pe : Int32) (v_pr v_wa v_se : (Nat → Int32)) (v_ms v_me v_mt v_us v_ue v_ut : Int32) (v_ti v_co : Int64) (v_sf v_bt v_xv v_xb v_xc v_yv v_yb v_yc : Int32) (w_th w_pv w_pc : Int32) (w_ti w_co : Int64) (w_so w_st w_ge w_gi w_wn w_wr : Int32) (w_ed w_li w_pr w_pn w_se w_wa w_en w_tt w_ve w_ba w_ca : (Nat → Int32)) (v_ot : Nat → Int64) (p0 : Int32) (hR : Rel v_mo v_pc v_de v_di v_en v_wr v_eg v_hi v_pe v_pr v_wa v_se v_ms v_me v_mt v_us v_ue v_ut v_ti v_co v_sf v_bt v_xv v_xb v_xc v_yv v_yb v_yc w_th w_pv w_pc w_ti w_co w_so w_st w_ge w_gi w_wn w_wr w_ed w_li w_pr w_pn w_se w_wa w_en w_tt w_ve w_ba w_ca) : f_mo_thrown ((f_mo_load w_ti w_co w_so w_pr w_pn w_se w_en w_tt p0).2.1) = (f_la_load v_pe v_pr v_se v_ms v_me v_mt v_us v_ue v_ut v_ti v_co v_sf v_ot p0).1 ∧ ((f_la_load v_pe v_pr v_se v_ms v_me v_mt v_us v_ue v_ut v_ti v_co v_sf v_ot p0).1 = 0 → ((f_la_load v_pe v_pr v_se v_ms v_me v_mt v_us v_ue v_ut v_ti v_co v_sf v_ot p0).2.2.2) ((0 : Int32) : Int32).toNatClampNeg = ((f_mo_load w_ti w_co w_so w_pr w_pn w_se w_en w_tt p0).1 : Int32).toInt64) ∧ Rel v_mo v_pc v_de v_di v_en v_wr v_eg v_hi ((f_la_load v_pe v_pr v_se v_ms v_me v_mt v_us v_ue v_ut v_ti v_co v_sf v_ot p0).2.1) v_pr v_wa ((f_la_load v_pe v_pr v_se v_ms v_me v_mt v_us v_ue v_ut v_ti v_co v_sf v_ot p0).2.2.1) v_ms v_me v_mt v_us v_ue v_ut v_ti v_co v_sf v_bt v_xv v_xb v_xc v_yv v_yb v_yc ((f_mo_load w_ti w_co w_so w_pr w_pn w_se w_en w_tt p0).2.1) w_pv w_pc w_ti w_co w_so w_st w_ge w_gi w_wn w_wr w_ed w_li w_pr ((f_mo_load w_ti w_co w_so w_pr w_pn w_se w_en w_tt p0).2.2.1) ((f_mo_load w_ti w_co w_so w_pr w_pn w_se w_en w_tt p0).2.2.2) w_wa w_en w_tt w_ve w_ba w_ca := by
  obtain ⟨⟨rfl, rfl, rfl, rfl, rfl, rfl, rfl, rfl, rfl, rfl⟩, ⟨f1, f2, f3, f4, f5, f6, f7, f8, f9, f10⟩, hg, hM, hF, hS, hSR⟩ := hR
  have i10 : ¬ (1 : Int32) = 0 := by decide
  have i20 : ¬ (2 : Int32) = 0 := by decide
  have i21 : ¬ (2 : Int32) = 1 := by decide
  have i01 : ¬ (0 : Int32) = 1 := by decide
  have i02 : ¬ (0 : Int32) = 2 := by decide
  unfold f_mo_thrown f_mo_load f_la_load x_th_load x_th_refuseWrongOrAbsent f_th_load x_th_refuseWrongOrAbsent
  rw [bar_eq p0 (Or.inl rfl)]
  rcases flt_0 p0 with e | e | e
  · obtain ⟨a, b⟩ := ld_eq (v_ti := w_ti) (v_co := w_co) (v_sf := w_so) hSR f7 f8 f9 f10 hg.1 hg.2 e
    rw [e]
    simp only [i01, i02, if_true, if_false]
    refine ⟨trivial, fun _ => ?_, ⟨rfl, rfl, rfl, rfl, rfl, rfl, rfl, rfl, rfl, rfl⟩, ⟨f1, f2, f3, f4, f5, f6, f7, f8, f9, f10⟩, hg, hM, hF, hS, b⟩
    rw [up_L, a]
  · rw [e]
    simp only [i10, if_true, if_false]
    exact ⟨trivial, fun h => absurd h (by decide), ⟨rfl, rfl, rfl, rfl, rfl, rfl, rfl, rfl, rfl, rfl⟩, ⟨f1, f2, f3, f4, f5, f6, f7, f8, f9, f10⟩, hg, hM, hF, hS, hSR⟩
  · rw [e]
    simp only [i20, i21, if_true, if_false]
    exact ⟨trivial, fun h => absurd h (by decide), ⟨rfl, rfl, rfl, rfl, rfl, rfl, rfl, rfl, rfl, rfl⟩, ⟨f1, f2, f3, f4, f5, f6, f7, f8, f9, f10⟩, hg, hM, hF, hS, hSR⟩
theorem sm_store (v_mo v_pc v_de v_di v_en v_wr v_eg v_hi v_pe : Int32) (v_pr v_wa v_se : (Nat → Int32)) (v_ms v_me v_mt v_us v_ue v_ut : Int32) (v_ti v_co : Int64) (v_sf v_bt v_xv v_xb v_xc v_yv v_yb v_yc : Int32) (w_th w_pv w_pc : Int32) (w_ti w_co : Int64) (w_so w_st w_ge w_gi w_wn w_wr : Int32) (w_ed w_li w_pr w_pn w_se w_wa w_en w_tt w_ve w_ba w_ca : (Nat → Int32)) (p0 p1 : Int32) (hR : Rel v_mo v_pc v_de v_di v_en v_wr v_eg v_hi v_pe v_pr v_wa v_se v_ms v_me v_mt v_us v_ue v_ut v_ti v_co v_sf v_bt v_xv v_xb v_xc v_yv v_yb v_yc w_th w_pv w_pc w_ti w_co w_so w_st w_ge w_gi w_wn w_wr w_ed w_li w_pr w_pn w_se w_wa w_en w_tt w_ve w_ba w_ca) : f_mo_thrown ((f_mo_store w_ti w_co w_so w_ed w_li w_pr w_pn w_se w_wa w_en w_tt p0 p1).1) = (f_la_store v_eg v_hi v_pe v_pr v_wa v_se v_me v_mt v_ue v_ut v_ti v_co v_sf p0 p1).1 ∧ Rel v_mo v_pc v_de v_di v_en v_wr v_eg v_hi ((f_la_store v_eg v_hi v_pe v_pr v_wa v_se v_me v_mt v_ue v_ut v_ti v_co v_sf p0 p1).2.1) ((f_la_store v_eg v_hi v_pe v_pr v_wa v_se v_me v_mt v_ue v_ut v_ti v_co v_sf p0 p1).2.2.1) ((f_la_store v_eg v_hi v_pe v_pr v_wa v_se v_me v_mt v_ue v_ut v_ti v_co v_sf p0 p1).2.2.2.1) ((f_la_store v_eg v_hi v_pe v_pr v_wa v_se v_me v_mt v_ue v_ut v_ti v_co v_sf p0 p1).2.2.2.2.1) v_ms ((f_la_store v_eg v_hi v_pe v_pr v_wa v_se v_me v_mt v_ue v_ut v_ti v_co v_sf p0 p1).2.2.2.2.2.1) ((f_la_store v_eg v_hi v_pe v_pr v_wa v_se v_me v_mt v_ue v_ut v_ti v_co v_sf p0 p1).2.2.2.2.2.2.1) v_us ((f_la_store v_eg v_hi v_pe v_pr v_wa v_se v_me v_mt v_ue v_ut v_ti v_co v_sf p0 p1).2.2.2.2.2.2.2.1) ((f_la_store v_eg v_hi v_pe v_pr v_wa v_se v_me v_mt v_ue v_ut v_ti v_co v_sf p0 p1).2.2.2.2.2.2.2.2.1) ((f_la_store v_eg v_hi v_pe v_pr v_wa v_se v_me v_mt v_ue v_ut v_ti v_co v_sf p0 p1).2.2.2.2.2.2.2.2.2.1) ((f_la_store v_eg v_hi v_pe v_pr v_wa v_se v_me v_mt v_ue v_ut v_ti v_co v_sf p0 p1).2.2.2.2.2.2.2.2.2.2.1) ((f_la_store v_eg v_hi v_pe v_pr v_wa v_se v_me v_mt v_ue v_ut v_ti v_co v_sf p0 p1).2.2.2.2.2.2.2.2.2.2.2) v_bt v_xv v_xb v_xc v_yv v_yb v_yc ((f_mo_store w_ti w_co w_so w_ed w_li w_pr w_pn w_se w_wa w_en w_tt p0 p1).1) w_pv w_pc ((f_mo_store w_ti w_co w_so w_ed w_li w_pr w_pn w_se w_wa w_en w_tt p0 p1).2.1) ((f_mo_store w_ti w_co w_so w_ed w_li w_pr w_pn w_se w_wa w_en w_tt p0 p1).2.2.1) ((f_mo_store w_ti w_co w_so w_ed w_li w_pr w_pn w_se w_wa w_en w_tt p0 p1).2.2.2.1) w_st w_ge w_gi w_wn w_wr w_ed w_li ((f_mo_store w_ti w_co w_so w_ed w_li w_pr w_pn w_se w_wa w_en w_tt p0 p1).2.2.2.2.1) ((f_mo_store w_ti w_co w_so w_ed w_li w_pr w_pn w_se w_wa w_en w_tt p0 p1).2.2.2.2.2.1) ((f_mo_store w_ti w_co w_so w_ed w_li w_pr w_pn w_se w_wa w_en w_tt p0 p1).2.2.2.2.2.2.1) ((f_mo_store w_ti w_co w_so w_ed w_li w_pr w_pn w_se w_wa w_en w_tt p0 p1).2.2.2.2.2.2.2.1) ((f_mo_store w_ti w_co w_so w_ed w_li w_pr w_pn w_se w_wa w_en w_tt p0 p1).2.2.2.2.2.2.2.2.1) ((f_mo_store w_ti w_co w_so w_ed w_li w_pr w_pn w_se w_wa w_en w_tt p0 p1).2.2.2.2.2.2.2.2.2) w_ve w_ba w_ca := by
  obtain ⟨⟨rfl, rfl, rfl, rfl, rfl, rfl, rfl, rfl, rfl, rfl⟩, ⟨f1, f2, f3, f4, f5, f6, f7, f8, f9, f10⟩, hg, hM, hF, hS, hSR⟩ := hR
  have i10 : ¬ (1 : Int32) = 0 := by decide
  have i20 : ¬ (2 : Int32) = 0 := by decide
  have i21 : ¬ (2 : Int32) = 1 := by decide
  have i01 : ¬ (0 : Int32) = 1 := by decide
  have i02 : ¬ (0 : Int32) = 2 := by decide
  have i03 : ¬ (0 : Int32) = 3 := by decide
  have i30 : ¬ (3 : Int32) = 0 := by decide
  have i31 : ¬ (3 : Int32) = 1 := by decide
  have i32 : ¬ (3 : Int32) = 2 := by decide
  unfold f_mo_thrown f_mo_store f_la_store x_th_store x_th_refuseWrongOrAbsent f_th_store x_th_refuseWrongOrAbsent
  rw [bar_eq p0 (Or.inr rfl)]
  rcases flt_s p0 with e | e | e | e
  · obtain ⟨⟨a1, a2, a3⟩, ⟨b1, b2, b3, b4⟩, c, d⟩ := st_eq (v_ti := w_ti) (v_co := w_co) (v_sf := w_so) p1 hSR hF f7 f8 f9 f10 e
    rw [e]
    simp only [i01, i02, i03, if_true, if_false]
    exact ⟨trivial, ⟨rfl, rfl, a1, a2, a3, rfl, rfl, rfl, rfl, rfl⟩, ⟨f1, f2, f3, f4, f5, f6, b1, b2, b3, b4⟩, hg, hM, c, hS, d⟩
  · rw [e]
    simp only [i10, if_true, if_false]
    exact ⟨trivial, ⟨rfl, rfl, rfl, rfl, rfl, rfl, rfl, rfl, rfl, rfl⟩, ⟨f1, f2, f3, f4, f5, f6, f7, f8, f9, f10⟩, hg, hM, hF, hS, hSR⟩
  · rw [e]
    simp only [i20, i21, if_true, if_false]
    exact ⟨trivial, ⟨rfl, rfl, rfl, rfl, rfl, rfl, rfl, rfl, rfl, rfl⟩, ⟨f1, f2, f3, f4, f5, f6, f7, f8, f9, f10⟩, hg, hM, hF, hS, hSR⟩
  · rw [e]
    simp only [i30, i31, i32, if_true, if_false]
    exact ⟨trivial, ⟨rfl, rfl, rfl, rfl, rfl, rfl, rfl, rfl, rfl, rfl⟩, ⟨f1, f2, f3, f4, f5, f6, f7, f8, f9, f10⟩, hg, hM, hF, hS, hSR⟩
theorem cs_1 : f_th_causeOf 1 0 = nI 4 ∧ f_th_causeOf 2 0 = nI 5 ∧ f_th_causeOf 1 1 = nI 6 ∧ f_th_causeOf 2 1 = nI 7 ∧ f_th_causeOf 3 1 = nI 7 := by decide
theorem cs_2 : (4 : Int32) + 0 = nI 4 ∧ (4 : Int32) + 1 = nI 5 ∧ (6 : Int32) + 0 = nI 6 ∧ (6 : Int32) + 1 = nI 7 := by decide
theorem sm_access (v_mo v_pc v_de v_di v_en v_wr v_eg v_hi v_pe : Int32) (v_pr v_wa v_se : (Nat → Int32)) (v_ms v_me v_mt v_us v_ue v_ut : Int32) (v_ti v_co : Int64) (v_sf v_bt v_xv v_xb v_xc v_yv v_yb v_yc : Int32) (w_th w_pv w_pc : Int32) (w_ti w_co : Int64) (w_so w_st w_ge w_gi w_wn w_wr : Int32) (w_ed w_li w_pr w_pn w_se w_wa w_en w_tt w_ve w_ba w_ca : (Nat → Int32)) (p0 p1 p2 : Int32) (hz : p1 = 0 ∨ p1 = 1) (hR : Rel v_mo v_pc v_de v_di v_en v_wr v_eg v_hi v_pe v_pr v_wa v_se v_ms v_me v_mt v_us v_ue v_ut v_ti v_co v_sf v_bt v_xv v_xb v_xc v_yv v_yb v_yc w_th w_pv w_pc w_ti w_co w_so w_st w_ge w_gi w_wn w_wr w_ed w_li w_pr w_pn w_se w_wa w_en w_tt w_ve w_ba w_ca) : (f_th_access v_mo v_pc v_de v_di v_eg v_hi v_pe v_pr v_wa v_se v_ms v_me v_mt v_us v_ue v_ut v_ti v_co v_sf v_bt v_xv v_xb v_xc v_yv v_yb v_yc p0 p1 p2).1 = (f_mo_access w_pv w_pc w_ti w_co w_so w_st w_ge w_gi w_ed w_li w_pr w_pn w_se w_wa w_en w_tt w_ve w_ba w_ca p0 p1 p2).1 ∧ Rel ((f_th_access v_mo v_pc v_de v_di v_eg v_hi v_pe v_pr v_wa v_se v_ms v_me v_mt v_us v_ue v_ut v_ti v_co v_sf v_bt v_xv v_xb v_xc v_yv v_yb v_yc p0 p1 p2).2.1) ((f_th_access v_mo v_pc v_de v_di v_eg v_hi v_pe v_pr v_wa v_se v_ms v_me v_mt v_us v_ue v_ut v_ti v_co v_sf v_bt v_xv v_xb v_xc v_yv v_yb v_yc p0 p1 p2).2.2.1) v_de v_di v_en v_wr v_eg v_hi ((f_th_access v_mo v_pc v_de v_di v_eg v_hi v_pe v_pr v_wa v_se v_ms v_me v_mt v_us v_ue v_ut v_ti v_co v_sf v_bt v_xv v_xb v_xc v_yv v_yb v_yc p0 p1 p2).2.2.2.1) ((f_th_access v_mo v_pc v_de v_di v_eg v_hi v_pe v_pr v_wa v_se v_ms v_me v_mt v_us v_ue v_ut v_ti v_co v_sf v_bt v_xv v_xb v_xc v_yv v_yb v_yc p0 p1 p2).2.2.2.2.1) ((f_th_access v_mo v_pc v_de v_di v_eg v_hi v_pe v_pr v_wa v_se v_ms v_me v_mt v_us v_ue v_ut v_ti v_co v_sf v_bt v_xv v_xb v_xc v_yv v_yb v_yc p0 p1 p2).2.2.2.2.2.1) ((f_th_access v_mo v_pc v_de v_di v_eg v_hi v_pe v_pr v_wa v_se v_ms v_me v_mt v_us v_ue v_ut v_ti v_co v_sf v_bt v_xv v_xb v_xc v_yv v_yb v_yc p0 p1 p2).2.2.2.2.2.2.1) v_ms ((f_th_access v_mo v_pc v_de v_di v_eg v_hi v_pe v_pr v_wa v_se v_ms v_me v_mt v_us v_ue v_ut v_ti v_co v_sf v_bt v_xv v_xb v_xc v_yv v_yb v_yc p0 p1 p2).2.2.2.2.2.2.2.1) ((f_th_access v_mo v_pc v_de v_di v_eg v_hi v_pe v_pr v_wa v_se v_ms v_me v_mt v_us v_ue v_ut v_ti v_co v_sf v_bt v_xv v_xb v_xc v_yv v_yb v_yc p0 p1 p2).2.2.2.2.2.2.2.2.1) v_us ((f_th_access v_mo v_pc v_de v_di v_eg v_hi v_pe v_pr v_wa v_se v_ms v_me v_mt v_us v_ue v_ut v_ti v_co v_sf v_bt v_xv v_xb v_xc v_yv v_yb v_yc p0 p1 p2).2.2.2.2.2.2.2.2.2.1) ((f_th_access v_mo v_pc v_de v_di v_eg v_hi v_pe v_pr v_wa v_se v_ms v_me v_mt v_us v_ue v_ut v_ti v_co v_sf v_bt v_xv v_xb v_xc v_yv v_yb v_yc p0 p1 p2).2.2.2.2.2.2.2.2.2.2.1) ((f_th_access v_mo v_pc v_de v_di v_eg v_hi v_pe v_pr v_wa v_se v_ms v_me v_mt v_us v_ue v_ut v_ti v_co v_sf v_bt v_xv v_xb v_xc v_yv v_yb v_yc p0 p1 p2).2.2.2.2.2.2.2.2.2.2.2.1) ((f_th_access v_mo v_pc v_de v_di v_eg v_hi v_pe v_pr v_wa v_se v_ms v_me v_mt v_us v_ue v_ut v_ti v_co v_sf v_bt v_xv v_xb v_xc v_yv v_yb v_yc p0 p1 p2).2.2.2.2.2.2.2.2.2.2.2.2.1) ((f_th_access v_mo v_pc v_de v_di v_eg v_hi v_pe v_pr v_wa v_se v_ms v_me v_mt v_us v_ue v_ut v_ti v_co v_sf v_bt v_xv v_xb v_xc v_yv v_yb v_yc p0 p1 p2).2.2.2.2.2.2.2.2.2.2.2.2.2.1) ((f_th_access v_mo v_pc v_de v_di v_eg v_hi v_pe v_pr v_wa v_se v_ms v_me v_mt v_us v_ue v_ut v_ti v_co v_sf v_bt v_xv v_xb v_xc v_yv v_yb v_yc p0 p1 p2).2.2.2.2.2.2.2.2.2.2.2.2.2.2.1) v_xv ((f_th_access v_mo v_pc v_de v_di v_eg v_hi v_pe v_pr v_wa v_se v_ms v_me v_mt v_us v_ue v_ut v_ti v_co v_sf v_bt v_xv v_xb v_xc v_yv v_yb v_yc p0 p1 p2).2.2.2.2.2.2.2.2.2.2.2.2.2.2.2.1) ((f_th_access v_mo v_pc v_de v_di v_eg v_hi v_pe v_pr v_wa v_se v_ms v_me v_mt v_us v_ue v_ut v_ti v_co v_sf v_bt v_xv v_xb v_xc v_yv v_yb v_yc p0 p1 p2).2.2.2.2.2.2.2.2.2.2.2.2.2.2.2.2.1) v_yv ((f_th_access v_mo v_pc v_de v_di v_eg v_hi v_pe v_pr v_wa v_se v_ms v_me v_mt v_us v_ue v_ut v_ti v_co v_sf v_bt v_xv v_xb v_xc v_yv v_yb v_yc p0 p1 p2).2.2.2.2.2.2.2.2.2.2.2.2.2.2.2.2.2.1) ((f_th_access v_mo v_pc v_de v_di v_eg v_hi v_pe v_pr v_wa v_se v_ms v_me v_mt v_us v_ue v_ut v_ti v_co v_sf v_bt v_xv v_xb v_xc v_yv v_yb v_yc p0 p1 p2).2.2.2.2.2.2.2.2.2.2.2.2.2.2.2.2.2.2) ((f_mo_access w_pv w_pc w_ti w_co w_so w_st w_ge w_gi w_ed w_li w_pr w_pn w_se w_wa w_en w_tt w_ve w_ba w_ca p0 p1 p2).2.1) ((f_mo_access w_pv w_pc w_ti w_co w_so w_st w_ge w_gi w_ed w_li w_pr w_pn w_se w_wa w_en w_tt w_ve w_ba w_ca p0 p1 p2).2.2.1) ((f_mo_access w_pv w_pc w_ti w_co w_so w_st w_ge w_gi w_ed w_li w_pr w_pn w_se w_wa w_en w_tt w_ve w_ba w_ca p0 p1 p2).2.2.2.1) ((f_mo_access w_pv w_pc w_ti w_co w_so w_st w_ge w_gi w_ed w_li w_pr w_pn w_se w_wa w_en w_tt w_ve w_ba w_ca p0 p1 p2).2.2.2.2.1) ((f_mo_access w_pv w_pc w_ti w_co w_so w_st w_ge w_gi w_ed w_li w_pr w_pn w_se w_wa w_en w_tt w_ve w_ba w_ca p0 p1 p2).2.2.2.2.2.1) ((f_mo_access w_pv w_pc w_ti w_co w_so w_st w_ge w_gi w_ed w_li w_pr w_pn w_se w_wa w_en w_tt w_ve w_ba w_ca p0 p1 p2).2.2.2.2.2.2.1) ((f_mo_access w_pv w_pc w_ti w_co w_so w_st w_ge w_gi w_ed w_li w_pr w_pn w_se w_wa w_en w_tt w_ve w_ba w_ca p0 p1 p2).2.2.2.2.2.2.2.1) w_ge w_gi w_wn w_wr w_ed w_li ((f_mo_access w_pv w_pc w_ti w_co w_so w_st w_ge w_gi w_ed w_li w_pr w_pn w_se w_wa w_en w_tt w_ve w_ba w_ca p0 p1 p2).2.2.2.2.2.2.2.2.1) ((f_mo_access w_pv w_pc w_ti w_co w_so w_st w_ge w_gi w_ed w_li w_pr w_pn w_se w_wa w_en w_tt w_ve w_ba w_ca p0 p1 p2).2.2.2.2.2.2.2.2.2.1) ((f_mo_access w_pv w_pc w_ti w_co w_so w_st w_ge w_gi w_ed w_li w_pr w_pn w_se w_wa w_en w_tt w_ve w_ba w_ca p0 p1 p2).2.2.2.2.2.2.2.2.2.2.1) ((f_mo_access w_pv w_pc w_ti w_co w_so w_st w_ge w_gi w_ed w_li w_pr w_pn w_se w_wa w_en w_tt w_ve w_ba w_ca p0 p1 p2).2.2.2.2.2.2.2.2.2.2.2.1) ((f_mo_access w_pv w_pc w_ti w_co w_so w_st w_ge w_gi w_ed w_li w_pr w_pn w_se w_wa w_en w_tt w_ve w_ba w_ca p0 p1 p2).2.2.2.2.2.2.2.2.2.2.2.2.1) ((f_mo_access w_pv w_pc w_ti w_co w_so w_st w_ge w_gi w_ed w_li w_pr w_pn w_se w_wa w_en w_tt w_ve w_ba w_ca p0 p1 p2).2.2.2.2.2.2.2.2.2.2.2.2.2.1) w_ve ((f_mo_access w_pv w_pc w_ti w_co w_so w_st w_ge w_gi w_ed w_li w_pr w_pn w_se w_wa w_en w_tt w_ve w_ba w_ca p0 p1 p2).2.2.2.2.2.2.2.2.2.2.2.2.2.2.1) ((f_mo_access w_pv w_pc w_ti w_co w_so w_st w_ge w_gi w_ed w_li w_pr w_pn w_se w_wa w_en w_tt w_ve w_ba w_ca p0 p1 p2).2.2.2.2.2.2.2.2.2.2.2.2.2.2.2) := by
  obtain ⟨⟨rfl, rfl, rfl, rfl, rfl, rfl, rfl, rfl, rfl, rfl⟩, ⟨f1, f2, f3, f4, f5, f6, f7, f8, f9, f10⟩, hg, hM, hF, hS, hSR⟩ := hR
  have i10 : ¬ (1 : Int32) = 0 := by decide
  have i20 : ¬ (2 : Int32) = 0 := by decide
  have i21 : ¬ (2 : Int32) = 1 := by decide
  have i30 : ¬ (3 : Int32) = 0 := by decide
  have i31 : ¬ (3 : Int32) = 1 := by decide
  have l00 : (0 : Int32) ≤ 0 := by decide
  have l10 : ¬ (1 : Int32) ≤ 0 := by decide
  have l20 : ¬ (2 : Int32) ≤ 0 := by decide
  have l30 : ¬ (3 : Int32) ≤ 0 := by decide
  obtain ⟨c1, c2, c3, c4, c5⟩ := cs_1
  obtain ⟨k1, k2, k3, k4⟩ := cs_2
  have T : ∀ k, k < 32 → _ := fun k hk => trap_eq (k := k) w_pc (v_de := w_ge) (v_di := w_gi) hk (q := 0) (Or.inl rfl) hM hS f1 f2 f3 f4 f5 f6
  unfold f_th_access f_th_access_69 f_mo_access f_mo_access_27 f_mo_access_38
  rw [bar_eq p0 hz]
  rcases hz with rfl | rfl
  · rcases flt_0 p0 with e | e | e
    · obtain ⟨a, b⟩ := ld_eq (v_ti := w_ti) (v_co := w_co) (v_sf := w_so) hSR f7 f8 f9 f10 hg.1 hg.2 e
      rw [e]
      simp only [l00, if_true, a]
      exact ⟨trivial, ⟨rfl, rfl, rfl, rfl, rfl, rfl, rfl, rfl, rfl, rfl⟩, ⟨f1, f2, f3, f4, f5, f6, f7, f8, f9, f10⟩, hg, hM, hF, hS, b⟩
    · rw [e, c1]
      simp only [l10, i10, if_true, if_false, k1]
      obtain ⟨t1, t2, t3, t4, t5, t6, t7, t8, t9⟩ := T 4 (by omega)
      exact ⟨trivial, ⟨t1.symm, t2.symm, rfl, rfl, rfl, t3.symm, rfl, rfl, rfl, rfl⟩, ⟨f1, f2, t6, t7, t8, t9, f7, f8, f9, f10⟩, hg, t4, hF, t5, hSR⟩
    · rw [e, c2]
      simp only [l20, i20, i21, if_true, if_false, k2]
      obtain ⟨t1, t2, t3, t4, t5, t6, t7, t8, t9⟩ := T 5 (by omega)
      exact ⟨trivial, ⟨t1.symm, t2.symm, rfl, rfl, rfl, t3.symm, rfl, rfl, rfl, rfl⟩, ⟨f1, f2, t6, t7, t8, t9, f7, f8, f9, f10⟩, hg, t4, hF, t5, hSR⟩
  · rcases flt_s p0 with e | e | e | e
    · obtain ⟨⟨a1, a2, a3⟩, ⟨b1, b2, b3, b4⟩, c, d⟩ := st_eq (v_ti := w_ti) (v_co := w_co) (v_sf := w_so) p2 hSR hF f7 f8 f9 f10 e
      rw [e]
      simp only [l00, i10, if_true, if_false]
      exact ⟨trivial, ⟨rfl, rfl, a1, a2, a3, rfl, rfl, rfl, rfl, rfl⟩, ⟨f1, f2, f3, f4, f5, f6, b1, b2, b3, b4⟩, hg, hM, c, hS, d⟩
    · rw [e, c3]
      simp only [l10, i10, if_true, if_false, k3]
      obtain ⟨t1, t2, t3, t4, t5, t6, t7, t8, t9⟩ := T 6 (by omega)
      exact ⟨trivial, ⟨t1.symm, t2.symm, rfl, rfl, rfl, t3.symm, rfl, rfl, rfl, rfl⟩, ⟨f1, f2, t6, t7, t8, t9, f7, f8, f9, f10⟩, hg, t4, hF, t5, hSR⟩
    · rw [e, c4]
      simp only [l20, i10, i20, i21, if_true, if_false, k4]
      obtain ⟨t1, t2, t3, t4, t5, t6, t7, t8, t9⟩ := T 7 (by omega)
      exact ⟨trivial, ⟨t1.symm, t2.symm, rfl, rfl, rfl, t3.symm, rfl, rfl, rfl, rfl⟩, ⟨f1, f2, t6, t7, t8, t9, f7, f8, f9, f10⟩, hg, t4, hF, t5, hSR⟩
    · rw [e, c5]
      simp only [l30, i10, i30, i31, if_true, if_false, k4]
      obtain ⟨t1, t2, t3, t4, t5, t6, t7, t8, t9⟩ := T 7 (by omega)
      exact ⟨trivial, ⟨t1.symm, t2.symm, rfl, rfl, rfl, t3.symm, rfl, rfl, rfl, rfl⟩, ⟨f1, f2, t6, t7, t8, t9, f7, f8, f9, f10⟩, hg, t4, hF, t5, hSR⟩
