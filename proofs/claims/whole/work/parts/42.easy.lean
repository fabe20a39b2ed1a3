-- ===== the easy calls =====
theorem sm_privilege (v_mo v_pc v_de v_di v_en v_wr v_eg v_hi v_pe : Int32) (v_pr v_wa v_se : (Nat → Int32)) (v_ms v_me v_mt v_us v_ue v_ut : Int32) (v_ti v_co : Int64) (v_sf v_bt v_xv v_xb v_xc v_yv v_yb v_yc : Int32) (w_th w_pv w_pc : Int32) (w_ti w_co : Int64) (w_so w_st w_ge w_gi w_wn w_wr : Int32) (w_ed w_li w_pr w_pn w_se w_wa w_en w_tt w_ve w_ba w_ca : (Nat → Int32)) (hR : Rel v_mo v_pc v_de v_di v_en v_wr v_eg v_hi v_pe v_pr v_wa v_se v_ms v_me v_mt v_us v_ue v_ut v_ti v_co v_sf v_bt v_xv v_xb v_xc v_yv v_yb v_yc w_th w_pv w_pc w_ti w_co w_so w_st w_ge w_gi w_wn w_wr w_ed w_li w_pr w_pn w_se w_wa w_en w_tt w_ve w_ba w_ca) : f_th_privilege v_mo = (f_mo_privilege w_pv).1 ∧ Rel v_mo v_pc v_de v_di v_en v_wr v_eg v_hi v_pe v_pr v_wa v_se v_ms v_me v_mt v_us v_ue v_ut v_ti v_co v_sf v_bt v_xv v_xb v_xc v_yv v_yb v_yc ((f_mo_privilege w_pv).2) w_pv w_pc w_ti w_co w_so w_st w_ge w_gi w_wn w_wr w_ed w_li w_pr w_pn w_se w_wa w_en w_tt w_ve w_ba w_ca := by
  obtain ⟨⟨e1, e2, e3⟩, hr⟩ := hR
  refine ⟨?_, ⟨e1, e2, e3⟩, hr⟩
  show v_mo = w_pv
  exact e1.symm
theorem sm_pc (v_mo v_pc v_de v_di v_en v_wr v_eg v_hi v_pe : Int32) (v_pr v_wa v_se : (Nat → Int32)) (v_ms v_me v_mt v_us v_ue v_ut : Int32) (v_ti v_co : Int64) (v_sf v_bt v_xv v_xb v_xc v_yv v_yb v_yc : Int32) (w_th w_pv w_pc : Int32) (w_ti w_co : Int64) (w_so w_st w_ge w_gi w_wn w_wr : Int32) (w_ed w_li w_pr w_pn w_se w_wa w_en w_tt w_ve w_ba w_ca : (Nat → Int32)) (hR : Rel v_mo v_pc v_de v_di v_en v_wr v_eg v_hi v_pe v_pr v_wa v_se v_ms v_me v_mt v_us v_ue v_ut v_ti v_co v_sf v_bt v_xv v_xb v_xc v_yv v_yb v_yc w_th w_pv w_pc w_ti w_co w_so w_st w_ge w_gi w_wn w_wr w_ed w_li w_pr w_pn w_se w_wa w_en w_tt w_ve w_ba w_ca) : f_th_pc v_pc = (f_mo_pc w_pc).1 ∧ Rel v_mo v_pc v_de v_di v_en v_wr v_eg v_hi v_pe v_pr v_wa v_se v_ms v_me v_mt v_us v_ue v_ut v_ti v_co v_sf v_bt v_xv v_xb v_xc v_yv v_yb v_yc ((f_mo_pc w_pc).2) w_pv w_pc w_ti w_co w_so w_st w_ge w_gi w_wn w_wr w_ed w_li w_pr w_pn w_se w_wa w_en w_tt w_ve w_ba w_ca := by
  obtain ⟨⟨e1, e2, e3⟩, hr⟩ := hR
  refine ⟨?_, ⟨e1, e2, e3⟩, hr⟩
  show v_pc = w_pc
  exact e2.symm
theorem sm_ticks (v_mo v_pc v_de v_di v_en v_wr v_eg v_hi v_pe : Int32) (v_pr v_wa v_se : (Nat → Int32)) (v_ms v_me v_mt v_us v_ue v_ut : Int32) (v_ti v_co : Int64) (v_sf v_bt v_xv v_xb v_xc v_yv v_yb v_yc : Int32) (w_th w_pv w_pc : Int32) (w_ti w_co : Int64) (w_so w_st w_ge w_gi w_wn w_wr : Int32) (w_ed w_li w_pr w_pn w_se w_wa w_en w_tt w_ve w_ba w_ca : (Nat → Int32)) (p0 : Int32) (hR : Rel v_mo v_pc v_de v_di v_en v_wr v_eg v_hi v_pe v_pr v_wa v_se v_ms v_me v_mt v_us v_ue v_ut v_ti v_co v_sf v_bt v_xv v_xb v_xc v_yv v_yb v_yc w_th w_pv w_pc w_ti w_co w_so w_st w_ge w_gi w_wn w_wr w_ed w_li w_pr w_pn w_se w_wa w_en w_tt w_ve w_ba w_ca) : f_mo_thrown ((f_mo_ticks w_ti p0).1) = (f_la_ticks v_ti p0).1 ∧ Rel v_mo v_pc v_de v_di v_en v_wr v_eg v_hi v_pe v_pr v_wa v_se v_ms v_me v_mt v_us v_ue v_ut ((f_la_ticks v_ti p0).2) v_co v_sf v_bt v_xv v_xb v_xc v_yv v_yb v_yc ((f_mo_ticks w_ti p0).1) w_pv w_pc ((f_mo_ticks w_ti p0).2) w_co w_so w_st w_ge w_gi w_wn w_wr w_ed w_li w_pr w_pn w_se w_wa w_en w_tt w_ve w_ba w_ca := by
  obtain ⟨⟨e1, e2, e3, e4⟩, hr⟩ := hR
  have h1 : f_mo_thrown ((f_mo_ticks w_ti p0).1) = (f_la_ticks v_ti p0).1 ∧ (f_mo_ticks w_ti p0).2 = (f_la_ticks v_ti p0).2 := by
    subst e3
    unfold f_mo_thrown f_mo_ticks f_mo_ticks_10 f_la_ticks x_th_ticks f_th_ticks
    by_cases c : 0 ≤ p0
    · have c' : ¬ p0 < 0 := by rw [Int32.not_lt]; exact c
      simp only [if_pos c, if_neg c', if_pos]
      exact ⟨trivial, trivial⟩
    · have c' : p0 < 0 := by rw [← Int32.not_le]; exact c
      simp only [if_neg c, if_pos c']
      exact ⟨rfl, rfl⟩
  exact ⟨h1.1, ⟨e1, e2, h1.2, e4⟩, hr⟩
theorem ix_16 {p : Int32} (h1 : ¬ p < 1) (h2 : p ≤ 15) : ∃ i, 1 ≤ i ∧ i < 16 ∧ p = nI i := by
  have a1 : (1 : Int32).toInt ≤ p.toInt := Int32.le_iff_toInt_le.mp (Int32.not_lt.mp h1)
  have a2 : p.toInt ≤ (15 : Int32).toInt := Int32.le_iff_toInt_le.mp h2
  have b1 : (1 : Int32).toInt = 1 := by decide
  have b2 : (15 : Int32).toInt = 15 := by decide
  refine ⟨p.toInt.toNat, by omega, by omega, ?_⟩
  apply Int32.toInt_inj.mp
  unfold nI
  rw [Int32.toInt_ofNat_of_lt (by omega)]
  omega
theorem sm_source (v_mo v_pc v_de v_di v_en v_wr v_eg v_hi v_pe : Int32) (v_pr v_wa v_se : (Nat → Int32)) (v_ms v_me v_mt v_us v_ue v_ut : Int32) (v_ti v_co : Int64) (v_sf v_bt v_xv v_xb v_xc v_yv v_yb v_yc : Int32) (w_th w_pv w_pc : Int32) (w_ti w_co : Int64) (w_so w_st w_ge w_gi w_wn w_wr : Int32) (w_ed w_li w_pr w_pn w_se w_wa w_en w_tt w_ve w_ba w_ca : (Nat → Int32)) (v_ot : Nat → Int64) (p0 : Int32) (hR : Rel v_mo v_pc v_de v_di v_en v_wr v_eg v_hi v_pe v_pr v_wa v_se v_ms v_me v_mt v_us v_ue v_ut v_ti v_co v_sf v_bt v_xv v_xb v_xc v_yv v_yb v_yc w_th w_pv w_pc w_ti w_co w_so w_st w_ge w_gi w_wn w_wr w_ed w_li w_pr w_pn w_se w_wa w_en w_tt w_ve w_ba w_ca) : f_mo_thrown ((f_mo_source w_se w_wa p0).2) = (f_la_source v_wa v_se v_ot p0).1 ∧ ((f_la_source v_wa v_se v_ot p0).1 = 0 → ((f_la_source v_wa v_se v_ot p0).2) ((0 : Int32) : Int32).toNatClampNeg = ((f_mo_source w_se w_wa p0).1 : Int32).toInt64) ∧ Rel v_mo v_pc v_de v_di v_en v_wr v_eg v_hi v_pe v_pr v_wa v_se v_ms v_me v_mt v_us v_ue v_ut v_ti v_co v_sf v_bt v_xv v_xb v_xc v_yv v_yb v_yc ((f_mo_source w_se w_wa p0).2) w_pv w_pc w_ti w_co w_so w_st w_ge w_gi w_wn w_wr w_ed w_li w_pr w_pn w_se w_wa w_en w_tt w_ve w_ba w_ca := by
  have hR0 := hR
  obtain ⟨he, hf, hg, hM, hF, hS, hSR⟩ := hR
  have n2 : ¬ (2 : Int32) = 0 := by decide
  unfold f_mo_thrown f_mo_source f_la_source x_th_source f_th_source
  by_cases c : p0 < 1
  · simp only [if_pos c, if_neg n2, if_true]
    refine ⟨by first | rfl | trivial, ?_, hR0⟩
    intro h; exact absurd h (by decide)
  · by_cases d : p0 ≤ 15
    · obtain ⟨i, hi1, hi2, rfl⟩ := ix_16 c d
      obtain ⟨q1, q2, q3, q4⟩ := hSR.2 i hi1 hi2
      simp only [if_neg c, if_pos d, if_pos, nI_clamp (show i < 2 ^ 31 by omega)]
      refine ⟨trivial, ?_, hR0⟩
      intro _
      rw [q2, q3, Int32.add_comm]
      rfl
    · simp only [if_neg c, if_neg d, if_neg n2, if_true]
      refine ⟨by first | rfl | trivial, ?_, hR0⟩
      intro h; exact absurd h (by decide)
theorem in_k (p0 : Int32) : ∀ (n i : Nat) (z : Nat → Int32), i + n = 16 → ∀ k, f_mo_init_L101 p0 n i z k = (if i ≤ k ∧ k < 16 then f_th_hasBit p0 (nI k) else z k) := by
  intro n
  induction n with
  | zero =>
    intro i z hi k
    have : ¬ (i ≤ k ∧ k < 16) := by omega
    rw [f_mo_init_L101, if_neg this]
  | succ n ih =>
    intro i z hi k
    rw [f_mo_init_L101, nI_clamp (by omega), nar1, nar0]
    have key : ∀ x, x = f_th_hasBit p0 (nI i) → f_mo_init_L101 p0 n (i + 1) (upd z i x) k = (if i ≤ k ∧ k < 16 then f_th_hasBit p0 (nI k) else z k) := by
      intro x hx
      rw [ih _ _ (by omega)]
      by_cases c : k = i
      · subst c
        rw [if_neg (by omega), if_pos (by omega), pk_us, hx]
      · have hiff : (i + 1 ≤ k ∧ k < 16) ↔ (i ≤ k ∧ k < 16) := by omega
        simp only [hiff]
        rw [pk_un c]
    by_cases c : bt p0 i = true
    · rw [if_pos ((sb_1 (by omega)).mpr c)]
      exact key _ (by rw [hb_bt (by omega), if_pos c])
    · rw [if_neg (fun q => c ((sb_1 (by omega)).mp q))]
      exact key _ (by rw [hb_bt (by omega), if_neg c])
theorem bt_65534 : ∀ i, i < 32 → bt 65534 i = decide (1 ≤ i ∧ i < 16) := by decide +kernel
theorem hb_m (x : Int32) {k : Nat} (h1 : 1 ≤ k) (h2 : k < 16) : f_th_hasBit (x &&& 65534) (nI k) = f_th_hasBit x (nI k) := by
  rw [hb_bt (by omega), hb_bt (by omega), b_and, bt_65534 k (by omega), decide_eq_true (show 1 ≤ k ∧ k < 16 from ⟨h1, h2⟩), Bool.and_true]
theorem hb_zero {k : Nat} (h : k < 32) : f_th_hasBit 0 (nI k) = 0 := by
  rw [hb_bt h, b_0]; rfl
theorem rel_0 (p0 : Int32) : Rel (3 : Int32) (0 : Int32) 0 0 0 0 (p0 &&& (65534 : Int32)) 0 0 (fun _ => 0) (fun _ => 0) (fun _ => 0) ((0 : Int32) + (1 : Int32)) 0 0 ((1 : Int32) + (1 : Int32)) 0 0 (0 : Int64) (-1 : Int64) (0 : Int32) 0 0 0 0 0 0 0 0 (3 : Int32) 0 0 (-1 : Int64) 0 0 0 0 0 0 (f_mo_init p0) (fun _ => 0) (fun _ => 0) (fun _ => 0) (fun _ => 0) (fun _ => 0) (fun _ => 0) (fun _ => 0) (fun _ => 0) (fun _ => 0) (fun _ => 0) := by
  refine ⟨⟨rfl, rfl, rfl, rfl, rfl, rfl, rfl, rfl, rfl, rfl⟩, ⟨rfl, rfl, rfl, rfl, rfl, rfl, rfl, rfl, rfl, rfl⟩, ⟨by decide, by decide⟩, by unfold okM; decide, Or.inl rfl, by unfold okS; decide, by decide, ?_⟩
  intro i h1 h2
  refine ⟨rfl, rfl, rfl, ?_, ?_, ?_, ?_⟩
  · rw [hb_zero (by omega)]
  · rw [hb_m p0 h1 h2]
    show f_mo_init_L101 p0 15 1 (fun _ => 0) i = _
    rw [in_k p0 15 1 _ (by omega) i, if_pos ⟨h1, h2⟩]
  · rw [hb_zero (by omega)]
  · intro _ _
    exact ⟨fun _ => hb_zero (by omega), fun _ => (by decide : (0 : Int32) ≤ 0)⟩
