-- ===== which interrupt is due =====
def chn (y t : Int32) : Int32 := if f_th_hasBit y 11 = 0 then (if f_th_hasBit y 3 = 0 then (if f_th_hasBit y 7 = 0 then (if f_th_hasBit y 9 = 0 then (if f_th_hasBit y 1 = 0 then (if f_th_hasBit y 5 = 0 then t else 5) else 1) else 9) else 7) else 3) else 11
theorem fi_chn (y : Int32) : f_rg_firstInterrupt y = chn y (-1) := by
  unfold f_rg_firstInterrupt chn
  simp only [f_rg_firstInterrupt_L2]
  rfl
theorem chn_or (y t : Int32) : chn y t = if chn y (-1) = -1 then t else chn y (-1) := by
  have a11 : ¬ (11 : Int32) = -1 := by decide
  have a3 : ¬ (3 : Int32) = -1 := by decide
  have a7 : ¬ (7 : Int32) = -1 := by decide
  have a9 : ¬ (9 : Int32) = -1 := by decide
  have a1 : ¬ (1 : Int32) = -1 := by decide
  have a5 : ¬ (5 : Int32) = -1 := by decide
  unfold chn
  by_cases c0 : f_th_hasBit y 11 = 0
  · by_cases c1 : f_th_hasBit y 3 = 0
    · by_cases c2 : f_th_hasBit y 7 = 0
      · by_cases c3 : f_th_hasBit y 9 = 0
        · by_cases c4 : f_th_hasBit y 1 = 0
          · by_cases c5 : f_th_hasBit y 5 = 0
            · simp only [if_pos c0, if_pos c1, if_pos c2, if_pos c3, if_pos c4, if_pos c5, if_true]
            · simp only [if_pos c0, if_pos c1, if_pos c2, if_pos c3, if_pos c4, if_neg c5, if_neg a5]
          · simp only [if_pos c0, if_pos c1, if_pos c2, if_pos c3, if_neg c4, if_neg a1]
        · simp only [if_pos c0, if_pos c1, if_pos c2, if_neg c3, if_neg a9]
      · simp only [if_pos c0, if_pos c1, if_neg c2, if_neg a7]
    · simp only [if_pos c0, if_neg c1, if_neg a3]
  · simp only [if_neg c0, if_neg a11]
theorem chn_v (y : Int32) : chn y (-1) = -1 ∨ ∃ k, k < 16 ∧ chn y (-1) = nI k := by
  unfold chn
  by_cases c0 : f_th_hasBit y 11 = 0
  · by_cases c1 : f_th_hasBit y 3 = 0
    · by_cases c2 : f_th_hasBit y 7 = 0
      · by_cases c3 : f_th_hasBit y 9 = 0
        · by_cases c4 : f_th_hasBit y 1 = 0
          · by_cases c5 : f_th_hasBit y 5 = 0
            · simp only [if_pos c0, if_pos c1, if_pos c2, if_pos c3, if_pos c4, if_pos c5]; exact Or.inl trivial
            · simp only [if_pos c0, if_pos c1, if_pos c2, if_pos c3, if_pos c4, if_neg c5]; exact Or.inr ⟨5, by decide, rfl⟩
          · simp only [if_pos c0, if_pos c1, if_pos c2, if_pos c3, if_neg c4]; exact Or.inr ⟨1, by decide, rfl⟩
        · simp only [if_pos c0, if_pos c1, if_pos c2, if_neg c3]; exact Or.inr ⟨9, by decide, rfl⟩
      · simp only [if_pos c0, if_pos c1, if_neg c2]; exact Or.inr ⟨7, by decide, rfl⟩
    · simp only [if_pos c0, if_neg c1]; exact Or.inr ⟨3, by decide, rfl⟩
  · simp only [if_neg c0]; exact Or.inr ⟨11, by decide, rfl⟩
/-- one step of the reference's search; c is the interrupt's number -/
theorem du_M (w_pv : Int32) (w_ti w_co : Int64) (w_so w_st w_gi w_wn w_wr : Int32) (w_pr w_pn w_en w_tt : Nat → Int32) (n i c : Nat) (hi : i < 6) (hc : c < 32) (ho : f_mo_order ((nI i) - (nI i) / (6 : Int32) * (6 : Int32)) = nI c) (hM : okM w_pv) :
    f_mo_dueNow_L12 w_pv w_ti w_co w_so w_st w_gi w_wn w_wr w_pr w_pn w_en w_tt (n + 1) i = if (w_pv = 3 ∧ f_mo_bit w_st 3 = 0) then f_mo_dueNow_L12 w_pv w_ti w_co w_so w_st w_gi w_wn w_wr w_pr w_pn w_en w_tt n (i + 1) else
      (if f_th_hasBit ((f_mo_interrupts w_ti w_co w_so w_wr w_pr w_pn w_en w_tt &&& w_wn) &&& (w_gi ^^^ (-1 : Int32))) (nI c) = 0 then f_mo_dueNow_L12 w_pv w_ti w_co w_so w_st w_gi w_wn w_wr w_pr w_pn w_en w_tt n (i + 1) else nI c) := by
  have h6 : nI i < 6 := (by decide +kernel : ∀ i, i < 6 → nI i < 6) i hi
  rw [f_mo_dueNow_L12, ho]
  have m03 : (0 : Int32) < 3 := by decide
  have m13 : (1 : Int32) < 3 := by decide
  have m33 : ¬ (3 : Int32) < 3 := by decide
  have e03 : ¬ (0 : Int32) = 3 := by decide
  have e13 : ¬ (1 : Int32) = 3 := by decide
  have e10 : ¬ (1 : Int32) = 0 := by decide
  have e30 : ¬ (3 : Int32) = 0 := by decide
  have e31 : ¬ (3 : Int32) = 1 := by decide
  generalize f_mo_dueNow_L12 w_pv w_ti w_co w_so w_st w_gi w_wn w_wr w_pr w_pn w_en w_tt n (i + 1) = nxt
  generalize f_mo_interrupts w_ti w_co w_so w_wr w_pr w_pn w_en w_tt &&& w_wn = X
  simp only [hb_0 hc, sb_1 hc, b_and, b_xor, b_m1 c hc]
  generalize bt w_gi c = D
  generalize bt X c = P
  generalize f_mo_bit w_st 3 = b3
  generalize f_mo_bit w_st 1 = b1
  rcases hM with rfl | rfl | rfl <;> cases D <;> cases P <;> by_cases c3 : b3 = 0 <;> by_cases c1 : b1 = 0 <;> simp [h6, m03, m13, m33, e03, e13, e10, e30, e31, c3, c1]
theorem du_S (w_pv : Int32) (w_ti w_co : Int64) (w_so w_st w_gi w_wn w_wr : Int32) (w_pr w_pn w_en w_tt : Nat → Int32) (n i c : Nat) (h6 : 6 ≤ i) (hi : i < 12) (hc : c < 32) (ho : f_mo_order ((nI i) - (nI i) / (6 : Int32) * (6 : Int32)) = nI c) (hM : okM w_pv) :
    f_mo_dueNow_L12 w_pv w_ti w_co w_so w_st w_gi w_wn w_wr w_pr w_pn w_en w_tt (n + 1) i = if (w_pv = 3 ∨ (w_pv = 1 ∧ f_mo_bit w_st 1 = 0)) then f_mo_dueNow_L12 w_pv w_ti w_co w_so w_st w_gi w_wn w_wr w_pr w_pn w_en w_tt n (i + 1) else
      (if f_th_hasBit ((f_mo_interrupts w_ti w_co w_so w_wr w_pr w_pn w_en w_tt &&& w_wn) &&& w_gi) (nI c) = 0 then f_mo_dueNow_L12 w_pv w_ti w_co w_so w_st w_gi w_wn w_wr w_pr w_pn w_en w_tt n (i + 1) else nI c) := by
  have h6' : ¬ nI i < 6 := (by decide +kernel : ∀ i, i < 12 → 6 ≤ i → ¬ nI i < 6) i hi h6
  rw [f_mo_dueNow_L12, ho]
  have m03 : (0 : Int32) < 3 := by decide
  have m13 : (1 : Int32) < 3 := by decide
  have m33 : ¬ (3 : Int32) < 3 := by decide
  have e03 : ¬ (0 : Int32) = 3 := by decide
  have e13 : ¬ (1 : Int32) = 3 := by decide
  have e01 : ¬ (0 : Int32) = 1 := by decide
  have e10 : ¬ (1 : Int32) = 0 := by decide
  have e30 : ¬ (3 : Int32) = 0 := by decide
  have e31 : ¬ (3 : Int32) = 1 := by decide
  generalize f_mo_dueNow_L12 w_pv w_ti w_co w_so w_st w_gi w_wn w_wr w_pr w_pn w_en w_tt n (i + 1) = nxt
  generalize f_mo_interrupts w_ti w_co w_so w_wr w_pr w_pn w_en w_tt &&& w_wn = X
  simp only [hb_0 hc, sb_1 hc, b_and, b_xor, b_m1 c hc]
  generalize bt w_gi c = D
  generalize bt X c = P
  generalize f_mo_bit w_st 3 = b3
  generalize f_mo_bit w_st 1 = b1
  rcases hM with rfl | rfl | rfl <;> cases D <;> cases P <;> by_cases c3 : b3 = 0 <;> by_cases c1 : b1 = 0 <;> simp [h6', m03, m13, m33, e03, e13, e01, e10, e30, e31, c3, c1]
theorem du_6 (w_pv : Int32) (w_ti w_co : Int64) (w_so w_st w_gi w_wn w_wr : Int32) (w_pr w_pn w_en w_tt : Nat → Int32) (hM : okM w_pv) :
    f_mo_dueNow_L12 w_pv w_ti w_co w_so w_st w_gi w_wn w_wr w_pr w_pn w_en w_tt 6 6 = if (w_pv = 3 ∨ (w_pv = 1 ∧ f_mo_bit w_st 1 = 0)) then -1 else chn ((f_mo_interrupts w_ti w_co w_so w_wr w_pr w_pn w_en w_tt &&& w_wn) &&& w_gi) (-1) := by
  rw [du_S _ _ _ _ _ _ _ _ _ _ _ _ 5 6 11 (by omega) (by omega) (by omega) (by decide) hM, du_S _ _ _ _ _ _ _ _ _ _ _ _ 4 7 3 (by omega) (by omega) (by omega) (by decide) hM, du_S _ _ _ _ _ _ _ _ _ _ _ _ 3 8 7 (by omega) (by omega) (by omega) (by decide) hM,
    du_S _ _ _ _ _ _ _ _ _ _ _ _ 2 9 9 (by omega) (by omega) (by omega) (by decide) hM, du_S _ _ _ _ _ _ _ _ _ _ _ _ 1 10 1 (by omega) (by omega) (by omega) (by decide) hM, du_S _ _ _ _ _ _ _ _ _ _ _ _ 0 11 5 (by omega) (by omega) (by omega) (by decide) hM, f_mo_dueNow_L12]
  by_cases c : (w_pv = 3 ∨ (w_pv = 1 ∧ f_mo_bit w_st 1 = 0))
  · simp only [if_pos c]
  · simp only [if_neg c]
    rfl
theorem du_0 (w_pv : Int32) (w_ti w_co : Int64) (w_so w_st w_gi w_wn w_wr : Int32) (w_pr w_pn w_en w_tt : Nat → Int32) (hM : okM w_pv) :
    f_mo_dueNow w_pv w_ti w_co w_so w_st w_gi w_wn w_wr w_pr w_pn w_en w_tt = if (w_pv = 3 ∧ f_mo_bit w_st 3 = 0) then f_mo_dueNow_L12 w_pv w_ti w_co w_so w_st w_gi w_wn w_wr w_pr w_pn w_en w_tt 6 6 else
      chn ((f_mo_interrupts w_ti w_co w_so w_wr w_pr w_pn w_en w_tt &&& w_wn) &&& (w_gi ^^^ (-1 : Int32))) (f_mo_dueNow_L12 w_pv w_ti w_co w_so w_st w_gi w_wn w_wr w_pr w_pn w_en w_tt 6 6) := by
  show f_mo_dueNow_L12 w_pv w_ti w_co w_so w_st w_gi w_wn w_wr w_pr w_pn w_en w_tt 12 0 = _
  rw [du_M _ _ _ _ _ _ _ _ _ _ _ _ 11 0 11 (by omega) (by omega) (by decide) hM, du_M _ _ _ _ _ _ _ _ _ _ _ _ 10 1 3 (by omega) (by omega) (by decide) hM, du_M _ _ _ _ _ _ _ _ _ _ _ _ 9 2 7 (by omega) (by omega) (by decide) hM,
    du_M _ _ _ _ _ _ _ _ _ _ _ _ 8 3 9 (by omega) (by omega) (by decide) hM, du_M _ _ _ _ _ _ _ _ _ _ _ _ 7 4 1 (by omega) (by omega) (by decide) hM, du_M _ _ _ _ _ _ _ _ _ _ _ _ 6 5 5 (by omega) (by omega) (by decide) hM]
  by_cases c : (w_pv = 3 ∧ f_mo_bit w_st 3 = 0)
  · simp only [if_pos c]
  · simp only [if_neg c]
    rfl
theorem bit_an {x : Int32} : (f_mo_bit x 3 = 0 ↔ f_st_machineOpen x = 0) ∧ (f_mo_bit x 1 = 0 ↔ f_st_supervisorOpen x = 0) := by
  have h8 : x &&& 8 = 0 ↔ bt x 3 = false := by
    constructor
    · intro h
      have := congrArg (fun z => bt z 3) h
      simp only [b_and, b_0] at this
      rw [show bt 8 3 = true from by decide, Bool.and_true] at this
      exact this
    · intro h
      refine b_ext (fun i hi => ?_)
      rw [b_and, b_0, (by decide +kernel : ∀ i, i < 32 → bt 8 i = decide (i = 3)) i hi]
      by_cases c : i = 3
      · subst c; rw [h]; rfl
      · rw [decide_eq_false c, Bool.and_false]
  have h2 : x &&& 2 = 0 ↔ bt x 1 = false := by
    constructor
    · intro h
      have := congrArg (fun z => bt z 1) h
      simp only [b_and, b_0] at this
      rw [show bt 2 1 = true from by decide, Bool.and_true] at this
      exact this
    · intro h
      refine b_ext (fun i hi => ?_)
      rw [b_and, b_0, (by decide +kernel : ∀ i, i < 32 → bt 2 i = decide (i = 1)) i hi]
      by_cases c : i = 1
      · subst c; rw [h]; rfl
      · rw [decide_eq_false c, Bool.and_false]
  have e3 : f_mo_bit x 3 = f_th_hasBit x (nI 3) := bit_hb (i := 3) (by decide)
  have e1 : f_mo_bit x 1 = f_th_hasBit x (nI 1) := bit_hb (i := 1) (by decide)
  rw [e3, e1, hb_0 (by omega), hb_0 (by omega), ← h8, ← h2]
  unfold f_st_machineOpen f_st_supervisorOpen
  constructor
  · by_cases c : x &&& 8 = 0
    · rw [if_pos c]; exact ⟨fun _ => rfl, fun _ => c⟩
    · rw [if_neg c]; exact ⟨fun q => absurd q c, fun q => absurd q (by decide)⟩
  · by_cases c : x &&& 2 = 0
    · rw [if_pos c]; exact ⟨fun _ => rfl, fun _ => c⟩
    · rw [if_neg c]; exact ⟨fun q => absurd q c, fun q => absurd q (by decide)⟩
theorem due_eq {v_mo v_di v_en v_wr v_pe : Int32} {v_pr : Nat → Int32} {v_me v_mt v_ue v_ut : Int32} {v_ti v_co : Int64} {v_sf v_bt : Int32} {w_pr w_pn w_en w_tt : Nat → Int32} (hM : okM v_mo)
    (h : ∀ k, 1 ≤ k → k < 16 → w_pr k = v_pr k ∧ w_pn k = f_th_hasBit v_pe (nI k)) (hF : v_sf = 0 ∨ v_sf = 1) (h1 : w_en 0 = v_me) (h2 : w_en 1 = v_ue) (h3 : w_tt 0 = v_mt) (h4 : w_tt 1 = v_ut) :
    f_th_interruptToTake v_mo v_di v_en v_wr v_pe v_pr v_me v_mt v_ue v_ut v_ti v_co v_sf v_bt = f_mo_dueNow v_mo v_ti v_co v_sf v_bt v_di v_en v_wr w_pr w_pn w_en w_tt ∧
    (f_mo_dueNow v_mo v_ti v_co v_sf v_bt v_di v_en v_wr w_pr w_pn w_en w_tt = -1 ∨ ∃ k, k < 16 ∧ f_mo_dueNow v_mo v_ti v_co v_sf v_bt v_di v_en v_wr w_pr w_pn w_en w_tt = nI k) := by
  have e03 : ¬ (0 : Int32) = 3 := by decide
  have e13 : ¬ (1 : Int32) = 3 := by decide
  have e01 : ¬ (0 : Int32) = 1 := by decide
  have e10 : ¬ (1 : Int32) = 0 := by decide
  have e30 : ¬ (3 : Int32) = 0 := by decide
  have e31 : ¬ (3 : Int32) = 1 := by decide
  rw [du_0 _ _ _ _ _ _ _ _ _ _ _ _ hM, du_6 _ _ _ _ _ _ _ _ _ _ _ _ hM, chn_or _ (ite _ _ _)]
  unfold f_th_interruptToTake
  rw [irq_eq (v_wr := v_wr) h hF h1 h2 h3 h4, fi_chn, fi_chn]
  simp only [(bit_an (x := v_bt)).1, (bit_an (x := v_bt)).2]
  have hA := chn_v ((f_mo_interrupts v_ti v_co v_sf v_wr w_pr w_pn w_en w_tt &&& v_en) &&& (v_di ^^^ (-1 : Int32)))
  have hB := chn_v ((f_mo_interrupts v_ti v_co v_sf v_wr w_pr w_pn w_en w_tt &&& v_en) &&& v_di)
  generalize chn ((f_mo_interrupts v_ti v_co v_sf v_wr w_pr w_pn w_en w_tt &&& v_en) &&& (v_di ^^^ (-1 : Int32))) (-1) = A at hA ⊢
  generalize chn ((f_mo_interrupts v_ti v_co v_sf v_wr w_pr w_pn w_en w_tt &&& v_en) &&& v_di) (-1) = B at hB ⊢
  rcases hM with rfl | rfl | rfl
  · by_cases c : A = -1
    · simp only [e03, e01, c, if_true, if_false, false_and, or_false]
      first | done | exact ⟨trivial, Or.inr (hA.resolve_left c)⟩ | exact Or.inr (hA.resolve_left c) | exact ⟨trivial, hB⟩ | exact ⟨trivial, Or.inl trivial⟩ | exact Or.inl trivial | exact ⟨trivial, trivial⟩ | trivial
    · simp only [e03, e01, c, if_true, if_false, false_and, or_false]
      first | done | exact ⟨trivial, Or.inr (hA.resolve_left c)⟩ | exact Or.inr (hA.resolve_left c) | exact ⟨trivial, hB⟩ | exact ⟨trivial, Or.inl trivial⟩ | exact Or.inl trivial | exact ⟨trivial, trivial⟩ | trivial
  · by_cases d : f_st_supervisorOpen v_bt = 0
    · by_cases c : A = -1
      · simp only [e13, e10, c, d, if_true, if_false, false_and, true_and, or_true]
        first | done | exact ⟨trivial, Or.inr (hA.resolve_left c)⟩ | exact Or.inr (hA.resolve_left c) | exact ⟨trivial, hB⟩ | exact ⟨trivial, Or.inl trivial⟩ | exact Or.inl trivial | exact ⟨trivial, trivial⟩ | trivial
      · simp only [e13, e10, c, d, if_true, if_false, false_and, true_and, or_true]
        first | done | exact ⟨trivial, Or.inr (hA.resolve_left c)⟩ | exact Or.inr (hA.resolve_left c) | exact ⟨trivial, hB⟩ | exact ⟨trivial, Or.inl trivial⟩ | exact Or.inl trivial | exact ⟨trivial, trivial⟩ | trivial
    · by_cases c : A = -1
      · simp only [e13, e10, c, d, if_true, if_false, false_and, and_false, or_false]
        first | done | exact ⟨trivial, Or.inr (hA.resolve_left c)⟩ | exact Or.inr (hA.resolve_left c) | exact ⟨trivial, hB⟩ | exact ⟨trivial, Or.inl trivial⟩ | exact Or.inl trivial | exact ⟨trivial, trivial⟩ | trivial
      · simp only [e13, e10, c, d, if_true, if_false, false_and, and_false, or_false]
        first | done | exact ⟨trivial, Or.inr (hA.resolve_left c)⟩ | exact Or.inr (hA.resolve_left c) | exact ⟨trivial, hB⟩ | exact ⟨trivial, Or.inl trivial⟩ | exact Or.inl trivial | exact ⟨trivial, trivial⟩ | trivial
  · by_cases d : f_st_machineOpen v_bt = 0
    · simp only [e30, e31, d, if_true, if_false, true_and, true_or]
      first | done | exact ⟨trivial, Or.inr (hA.resolve_left c)⟩ | exact Or.inr (hA.resolve_left c) | exact ⟨trivial, hB⟩ | exact ⟨trivial, Or.inl trivial⟩ | exact Or.inl trivial | exact ⟨trivial, trivial⟩ | trivial
    · by_cases c : A = -1
      · simp only [e30, e31, c, d, if_true, if_false, and_false, true_or]
        first | done | exact ⟨trivial, Or.inr (hA.resolve_left c)⟩ | exact Or.inr (hA.resolve_left c) | exact ⟨trivial, hB⟩ | exact ⟨trivial, Or.inl trivial⟩ | exact Or.inl trivial | exact ⟨trivial, trivial⟩ | trivial
      · simp only [e30, e31, c, d, if_true, if_false, and_false, true_or]
        first | done | exact ⟨trivial, Or.inr (hA.resolve_left c)⟩ | exact Or.inr (hA.resolve_left c) | exact ⟨trivial, hB⟩ | exact ⟨trivial, Or.inl trivial⟩ | exact Or.inl trivial | exact ⟨trivial, trivial⟩ | trivial
theorem sm_due (v_mo v_pc v_de v_di v_en v_wr v_eg v_hi v_pe : Int32) (v_pr v_wa v_se : (Nat → Int32)) (v_ms v_me v_mt v_us v_ue v_ut : Int32) (v_ti v_co : Int64) (v_sf v_bt v_xv v_xb v_xc v_yv v_yb v_yc : Int32) (w_th w_pv w_pc : Int32) (w_ti w_co : Int64) (w_so w_st w_ge w_gi w_wn w_wr : Int32) (w_ed w_li w_pr w_pn w_se w_wa w_en w_tt w_ve w_ba w_ca : (Nat → Int32)) (hR : Rel v_mo v_pc v_de v_di v_en v_wr v_eg v_hi v_pe v_pr v_wa v_se v_ms v_me v_mt v_us v_ue v_ut v_ti v_co v_sf v_bt v_xv v_xb v_xc v_yv v_yb v_yc w_th w_pv w_pc w_ti w_co w_so w_st w_ge w_gi w_wn w_wr w_ed w_li w_pr w_pn w_se w_wa w_en w_tt w_ve w_ba w_ca) : f_th_due v_mo v_di v_en v_wr v_pe v_pr v_me v_mt v_ue v_ut v_ti v_co v_sf v_bt = (f_mo_due w_pv w_ti w_co w_so w_st w_gi w_wn w_wr w_pr w_pn w_en w_tt).1 ∧ Rel v_mo v_pc v_de v_di v_en v_wr v_eg v_hi v_pe v_pr v_wa v_se v_ms v_me v_mt v_us v_ue v_ut v_ti v_co v_sf v_bt v_xv v_xb v_xc v_yv v_yb v_yc ((f_mo_due w_pv w_ti w_co w_so w_st w_gi w_wn w_wr w_pr w_pn w_en w_tt).2) w_pv w_pc w_ti w_co w_so w_st w_ge w_gi w_wn w_wr w_ed w_li w_pr w_pn w_se w_wa w_en w_tt w_ve w_ba w_ca := by
  have hR0 := hR
  obtain ⟨⟨rfl, rfl, rfl, rfl, rfl, rfl, rfl, rfl, rfl, rfl⟩, ⟨f1, f2, f3, f4, f5, f6, f7, f8, f9, f10⟩, hg, hM, hF, hS, hSR⟩ := hR
  refine ⟨?_, hR0⟩
  exact (due_eq hM (fun k a b => ⟨(hSR.2 k a b).1, (hSR.2 k a b).2.2.2.1⟩) hF f7 f8 f9 f10).1
