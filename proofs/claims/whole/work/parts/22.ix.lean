theorem ix_ctx (a : Int32) : vp_in (f_mo_contextAt a) 2 := by
  unfold f_mo_contextAt
  split <;> (unfold vp_in; decide)
theorem ix_w1 : ∀ j, j < 61 → 4 ≤ j → vp_in (nI j / 4) 16 := by
  intro j h1 h2
  rw [show (4 : Int32) = nI 4 from rfl, pk_div (by omega) (by decide) (by decide)]
  exact vp_in_nI (by omega) (by decide)
theorem ix_w2 : ∀ j, j < 209 → 192 ≤ j → ¬ (6 : Int32) + (nI j - 192) / 4 = 1 := by decide +kernel
theorem ix_w3 : ∀ j, j < 9 → ¬ (3 : Int32) + nI j / 4 = 1 := by decide +kernel
theorem i_le {x : Int32} {a b : Nat} {A B : Int32} (hA : A = nI a) (hB : B = nI b) (hb : b < 2 ^ 31) (h1 : A ≤ x) (h2 : x ≤ B) (hab : a < 2 ^ 31) : ∃ j, a ≤ j ∧ j < b + 1 ∧ x = nI j := by
  subst hA; subst hB
  have e0 : (0 : Int32).toInt = 0 := by decide
  rw [Int32.le_iff_toInt_le, nI_toInt hab] at h1
  have h3 := h2
  rw [Int32.le_iff_toInt_le, nI_toInt hb] at h3
  obtain ⟨j, hj, rfl⟩ := nI_of2 (M := nI b) (n := b) (nI_toInt hb) (x := x) (by rw [Int32.lt_iff_toInt_lt, e0]; omega) h2
  rw [nI_toInt (by omega)] at h1
  exact ⟨j, by omega, by omega, rfl⟩
theorem n_lt {x y : Int32} (h : ¬ x < y) : y ≤ x := by
  rw [Int32.lt_iff_toInt_lt] at h
  rw [Int32.le_iff_toInt_le]
  omega
theorem ix_66 {a x : Int32} (h : f_mo_wordAt_66 a x = 1) : False := by
  unfold f_mo_wordAt_66 at h
  split at h
  · exact absurd h (by decide)
  · split at h
    · exact absurd h (by decide)
    · rename_i c1 c2
      obtain ⟨j, h1, h2, rfl⟩ := i_le (x := x) (a := 0) (b := 8) (A := 0) (B := 8) rfl rfl (by decide) (n_lt c1) (n_lt c2) (by decide)
      exact ix_w3 j (by omega) h
theorem ix_r {a : Int32} (h : (if a = (64 : Int32) then (2 : Int32) else (if a < (192 : Int32) then (if a < (144 : Int32) then (f_mo_wordAt_66 a (a - (128 : Int32))) else (f_mo_wordAt_66 a (a - (144 : Int32)))) else (if (208 : Int32) < a then (if a < (144 : Int32) then (f_mo_wordAt_66 a (a - (128 : Int32))) else (f_mo_wordAt_66 a (a - (144 : Int32)))) else ((6 : Int32) + ((a - (192 : Int32)) / (4 : Int32)))))) = 1) : False := by
  split at h
  · exact absurd h (by decide)
  · split at h
    · split at h
      · exact ix_66 h
      · exact ix_66 h
    · split at h
      · split at h
        · exact ix_66 h
        · exact ix_66 h
      · rename_i c0 c1 c2
        obtain ⟨j, h1, h2, rfl⟩ := i_le (x := a) (a := 192) (b := 208) (A := 192) (B := 208) rfl rfl (by decide) (n_lt c1) (n_lt c2) (by decide)
        exact ix_w2 j (by omega) h1 h
theorem ix_word {a : Int32} (h : f_mo_wordAt a = 1) : vp_in (a / 4) 16 := by
  by_cases c1 : a < 4
  · exfalso
    unfold f_mo_wordAt at h
    rw [if_pos c1] at h
    exact ix_r h
  · by_cases c2 : (60 : Int32) < a
    · exfalso
      unfold f_mo_wordAt at h
      rw [if_neg c1, if_pos c2] at h
      exact ix_r h
    · obtain ⟨j, h1, h2, rfl⟩ := i_le (x := a) (a := 4) (b := 60) (A := 4) (B := 60) rfl rfl (by decide) (n_lt c1) (n_lt c2) (by decide)
      exact ix_w1 j (by omega) h1
