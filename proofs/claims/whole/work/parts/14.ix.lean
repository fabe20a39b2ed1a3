-- indices that stay in their rows
theorem ix_115 {x : Int32} (h1 : ¬ x < 1) (h2 : ¬ 15 < x) : vp_in x 16 := by
  rw [vp_in_iff]
  rw [Int32.lt_iff_toInt_lt] at h1 h2
  have e1 : (1 : Int32).toInt = 1 := by decide
  have e2 : (15 : Int32).toInt = 15 := by decide
  rw [e1] at h1
  rw [e2] at h2
  omega
theorem ix_pri {a : Int32} (h : ¬ f_dv_isPriority a = 0) : vp_in (a >>> ((2 : Int32) &&& 31)) 16 := by
  rw [vp_in_iff, pk_shr a _ 2 (by decide)]
  unfold f_dv_isPriority at h
  by_cases c1 : a < 4
  · rw [if_pos c1] at h; exact absurd rfl h
  · rw [if_neg c1] at h
    by_cases c2 : (60 : Int32) < a
    · rw [if_pos c2] at h; exact absurd rfl h
    · rw [Int32.lt_iff_toInt_lt] at c1 c2
      have e1 : (4 : Int32).toInt = 4 := by decide
      have e2 : (60 : Int32).toInt = 60 := by decide
      rw [e1] at c1
      rw [e2] at c2
      rw [Int.shiftRight_eq_div_pow]
      omega
theorem ix_bestL (v_pe : Int32) (v_pr : Nat → Int32) (p0 p1 : Int32) : ∀ (n i : Nat) (z0 z1 : Int32), i + n = 16 → vp_in z1 16 → vp_in (f_so_best_L8 v_pe v_pr p0 p1 n i z0 z1) 16 := by
  intro n
  induction n with
  | zero => intro i z0 z1 _ h; exact h
  | succ n ih =>
    intro i z0 z1 hi h
    rw [f_so_best_L8]
    split
    · exact ih _ _ _ (by omega) h
    · split
      · exact ih _ _ _ (by omega) h
      · exact ih _ _ _ (by omega) (vp_in_nI (by omega) (by decide))
theorem ix_best (v_pe : Int32) (v_pr : Nat → Int32) (p0 p1 : Int32) : vp_in (f_so_best v_pe v_pr p0 p1) 16 := ix_bestL v_pe v_pr p0 p1 15 1 p1 0 rfl (by unfold vp_in; decide)
