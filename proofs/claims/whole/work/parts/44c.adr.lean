-- ===== addresses =====
theorem al_4 (p : Int32) : (p - p / (4 : Int32) * (4 : Int32)) = 0 ↔ p &&& 3 = 0 := by
  have h4 : (4 : Int32).toInt = 4 := by decide
  have hr := Int32.toInt_lt p
  have hl := Int32.le_toInt p
  have hd : (p / 4).toInt = p.toInt.tdiv 4 := by
    rw [Int32.toInt_div_of_ne_right _ _ (by decide), h4]
  have ht : (0 ≤ p.toInt ∧ p.toInt.tdiv 4 = p.toInt / 4) ∨ (p.toInt ≤ 0 ∧ p.toInt.tdiv 4 = -((-p.toInt) / 4)) := by
    rcases Int.le_total 0 p.toInt with h | h
    · exact Or.inl ⟨h, Int.tdiv_eq_ediv_of_nonneg h⟩
    · refine Or.inr ⟨h, ?_⟩
      rw [← Int.tdiv_eq_ediv_of_nonneg (by omega), Int.neg_tdiv, Int.neg_neg]
  have hm : (p / 4 * 4).toInt = p.toInt.tdiv 4 * 4 := by
    rw [Int32.toInt_mul, hd, h4]
    apply Int.bmod_eq_of_le <;> omega
  have hs : (p - p / 4 * 4).toInt = p.toInt - p.toInt.tdiv 4 * 4 := by
    rw [Int32.toInt_sub, hm]
    apply Int.bmod_eq_of_le <;> omega
  have hn : p.toInt = if 2 * p.toBitVec.toNat < 2 ^ 32 then (p.toBitVec.toNat : Int) else (p.toBitVec.toNat : Int) - (2 ^ 32 : Nat) := by
    show p.toBitVec.toInt = _
    rw [BitVec.toInt_eq_toNat_cond]
  have ha : p &&& 3 = 0 ↔ p.toBitVec.toNat % 4 = 0 := by
    rw [← Int32.toBitVec_inj, Int32.toBitVec_and, ← BitVec.toNat_inj, BitVec.toNat_and]
    show p.toBitVec.toNat &&& 3 = 0 ↔ _
    rw [show (3 : Nat) = 2 ^ 2 - 1 from rfl, Nat.and_two_pow_sub_one_eq_mod]
  rw [ha, ← Int32.toInt_inj, hs]
  show p.toInt - p.toInt.tdiv 4 * 4 = 0 ↔ _
  split at hn <;> omega
theorem out_w {p : Int32} (h : p < 0 ∨ 208 < p) : f_dv_isWord p = 0 ∧ f_mo_wordAt p = 0 ∧ ¬ p = 64 := by
  rcases h with h | h
  · have h0 : p.toInt < 0 := Int32.lt_iff_toInt_lt.mp h
    have lt : ∀ y : Int32, 0 ≤ y.toInt → p < y := fun y hy => Int32.lt_iff_toInt_lt.mpr (by omega)
    have a4 : p < 4 := lt 4 (by decide)
    have a128 : p < 128 := lt 128 (by decide)
    have a144 : p < 144 := lt 144 (by decide)
    have a192 : p < 192 := lt 192 (by decide)
    have e64 : ¬ p = 64 := by intro q; subst q; exact absurd h (by decide)
    have hs : p - 128 < 0 ∨ 8 < p - 128 := by
      have hl := Int32.le_toInt p
      have hq : (p - 128).toInt = (p.toInt - 128).bmod (2 ^ 32) := by rw [Int32.toInt_sub]; rfl
      rw [Int32.lt_iff_toInt_lt, Int32.lt_iff_toInt_lt, hq, show (0 : Int32).toInt = 0 from by decide, show (8 : Int32).toInt = 8 from by decide]
      simp only [Int.bmod]
      omega
    refine ⟨?_, ?_, e64⟩
    · unfold f_dv_isWord f_dv_isPriority
      simp only [if_pos a4, if_pos a128, if_pos a144, if_pos a192, if_neg e64, if_true]
    · unfold f_mo_wordAt f_mo_wordAt_66
      simp only [if_pos a4, if_pos a144, if_pos a192, if_neg e64]
      rcases hs with q | q
      · rw [if_pos q]
      · by_cases d : p - 128 < 0
        · rw [if_pos d]
        · rw [if_neg d, if_pos q]
  · have h0 : (208 : Int32).toInt < p.toInt := Int32.lt_iff_toInt_lt.mp h
    have e208 : (208 : Int32).toInt = 208 := by decide
    have nl : ∀ y : Int32, y.toInt ≤ 208 → ¬ p < y := fun y hy q => by have := Int32.lt_iff_toInt_lt.mp q; omega
    have nle : ∀ y : Int32, y.toInt ≤ 208 → ¬ p ≤ y := fun y hy q => by have := Int32.le_iff_toInt_le.mp q; omega
    have a4 : ¬ p < 4 := nl 4 (by decide)
    have a60 : 60 < p := Int32.lt_iff_toInt_lt.mpr (by have : (60 : Int32).toInt = 60 := by decide
                                                       omega)
    have a128 : ¬ p < 128 := nl 128 (by decide)
    have a144 : ¬ p < 144 := nl 144 (by decide)
    have a192 : ¬ p < 192 := nl 192 (by decide)
    have a136 : ¬ p ≤ 136 := nle 136 (by decide)
    have a152 : ¬ p ≤ 152 := nle 152 (by decide)
    have e64 : ¬ p = 64 := by intro q; subst q; exact absurd h (by decide)
    have hs : 8 < p - 144 := by
      have hl := Int32.toInt_lt p
      have hq : (p - 144).toInt = (p.toInt - 144).bmod (2 ^ 32) := by rw [Int32.toInt_sub]; rfl
      rw [Int32.lt_iff_toInt_lt, hq, show (8 : Int32).toInt = 8 from by decide]
      simp only [Int.bmod]
      omega
    have hs0 : ¬ p - 144 < 0 := by
      intro q
      have q1 := Int32.lt_iff_toInt_lt.mp q
      have q2 := Int32.lt_iff_toInt_lt.mp hs
      rw [show (0 : Int32).toInt = 0 from by decide] at q1
      rw [show (8 : Int32).toInt = 8 from by decide] at q2
      omega
    refine ⟨?_, ?_, e64⟩
    · unfold f_dv_isWord f_dv_isPriority
      simp only [if_neg a4, if_pos a60, if_neg a128, if_neg a144, if_neg a192, if_neg a136, if_neg a152, if_neg e64, if_pos h, if_true]
    · unfold f_mo_wordAt f_mo_wordAt_66
      simp only [if_neg a4, if_pos a60, if_neg a144, if_neg a192, if_neg e64, if_pos h, if_neg hs0, if_pos hs]
theorem in_w {p : Int32} (h : ¬ (p < 0 ∨ 208 < p)) : ∃ k, k < 209 ∧ p = nI k := by
  have h1 : ¬ p < 0 := fun q => h (Or.inl q)
  have h2 : ¬ 208 < p := fun q => h (Or.inr q)
  have a1 : (0 : Int32).toInt ≤ p.toInt := Int32.le_iff_toInt_le.mp (Int32.not_lt.mp h1)
  have a2 : p.toInt ≤ (208 : Int32).toInt := Int32.le_iff_toInt_le.mp (Int32.not_lt.mp h2)
  have b1 : (0 : Int32).toInt = 0 := by decide
  have b2 : (208 : Int32).toInt = 208 := by decide
  refine ⟨p.toInt.toNat, by omega, ?_⟩
  apply Int32.toInt_inj.mp
  unfold nI
  rw [Int32.toInt_ofNat_of_lt (by omega)]
  omega
theorem bar_209 : ∀ k, k < 209 → f_mo_bar (nI k) 0 = f_dv_faultAt (nI k) 0 ∧ f_mo_bar (nI k) 1 = f_dv_faultAt (nI k) 1 := by decide +kernel
theorem bar_eq (p : Int32) {q : Int32} (hq : q = 0 ∨ q = 1) : f_mo_bar p q = f_dv_faultAt p q := by
  by_cases h : p < 0 ∨ 208 < p
  · obtain ⟨a, b, c⟩ := out_w h
    have n2 : ¬ (0 : Int32) = 2 := by decide
    unfold f_mo_bar f_dv_faultAt
    rw [a, b]
    by_cases d : p &&& 3 = 0
    · rw [if_pos ((al_4 p).mpr d), if_pos d, if_pos rfl, if_pos rfl]
    · rw [if_neg (fun x => d ((al_4 p).mp x)), if_neg d]
  · obtain ⟨k, hk, rfl⟩ := in_w h
    rcases hq with rfl | rfl
    · exact (bar_209 k hk).1
    · exact (bar_209 k hk).2
def adrL : List Nat := [64, 128, 132, 136, 144, 148, 152, 192, 196, 200, 204, 208]
theorem adr_209 : ∀ k, k < 209 → f_dv_faultAt (nI k) 0 = 0 → (4 ≤ k ∧ k ≤ 60 ∧ f_dv_isPriority (nI k) = 1 ∧ f_mo_wordAt (nI k) = 1 ∧ (nI k >>> ((2 : Int32) &&& 31)).toNatClampNeg = k / 4 ∧ (nI k / 4).toNatClampNeg = k / 4) ∨ (k ∈ adrL) := by decide +kernel
theorem flt_1 : ∀ k, k < 209 → f_dv_faultAt (nI k) 1 = 0 → f_dv_faultAt (nI k) 0 = 0 ∧ k ≠ 64 := by decide +kernel
theorem flt_v : ∀ k, k < 209 → (f_dv_faultAt (nI k) 0 = 0 ∨ f_dv_faultAt (nI k) 0 = 1 ∨ f_dv_faultAt (nI k) 0 = 2) := by decide +kernel
theorem adr {p : Int32} {q : Int32} (hq : q = 0 ∨ q = 1) (h : f_dv_faultAt p q = 0) : (∃ j, 1 ≤ j ∧ j < 16 ∧ f_dv_isPriority p = 1 ∧ f_mo_wordAt p = 1 ∧ (p >>> ((2 : Int32) &&& 31)).toNatClampNeg = j ∧ (p / 4).toNatClampNeg = j) ∨
    (p = 64 ∧ q = 0) ∨ p = 128 ∨ p = 132 ∨ p = 136 ∨ p = 144 ∨ p = 148 ∨ p = 152 ∨ p = 192 ∨ p = 196 ∨ p = 200 ∨ p = 204 ∨ p = 208 := by
  by_cases d : p < 0 ∨ 208 < p
  · obtain ⟨a, b, c⟩ := out_w d
    unfold f_dv_faultAt at h
    rw [a] at h
    by_cases e : p &&& 3 = 0
    · rw [if_pos e, if_pos rfl] at h; exact absurd h (by decide)
    · rw [if_neg e] at h; exact absurd h (by decide)
  · obtain ⟨k, hk, rfl⟩ := in_w d
    have h0 : f_dv_faultAt (nI k) 0 = 0 ∧ (q = 1 → k ≠ 64) := by
      rcases hq with rfl | rfl
      · exact ⟨h, fun x => absurd x (by decide)⟩
      · exact ⟨(flt_1 k hk h).1, fun _ => (flt_1 k hk h).2⟩
    rcases adr_209 k hk h0.1 with ⟨a1, a2, a3, a4, a5, a6⟩ | a
    · exact Or.inl ⟨k / 4, by omega, by omega, a3, a4, a5, a6⟩
    · right
      unfold adrL at a
      simp only [List.mem_cons, List.mem_nil_iff, or_false] at a
      rcases a with rfl | rfl | rfl | rfl | rfl | rfl | rfl | rfl | rfl | rfl | rfl | rfl
      · left
        refine ⟨rfl, ?_⟩
        rcases hq with x | x
        · exact x
        · exact absurd rfl (h0.2 x)
      all_goals right
      · exact Or.inl rfl
      all_goals right
      · exact Or.inl rfl
      all_goals right
      · exact Or.inl rfl
      all_goals right
      · exact Or.inl rfl
      all_goals right
      · exact Or.inl rfl
      all_goals right
      · exact Or.inl rfl
      all_goals right
      · exact Or.inl rfl
      all_goals right
      · exact Or.inl rfl
      all_goals right
      · exact Or.inl rfl
      all_goals right
      · exact Or.inl rfl
      · exact Or.inr rfl
-- ===== halves of a long =====
theorem hi_32 (x : Int64) : ((x.toUInt64 >>> (((32 : Int32) : Int32).toInt64.toUInt64 &&& Int64.toUInt64 63)).toInt64 : Int64).toInt32 = (x >>> (((32 : Int32) : Int32).toInt64 &&& 63) : Int64).toInt32 := by
  apply Int32.toBitVec_inj.mp
  show BitVec.signExtend 32 (x.toBitVec >>> ((((32 : Int32).toInt64.toUInt64 &&& Int64.toUInt64 63).toBitVec % 64).toNat)) = BitVec.signExtend 32 (x.toBitVec.sshiftRight ((((32 : Int32).toInt64 &&& 63).toBitVec.smod 64).toNat))
  have e1 : (((32 : Int32).toInt64.toUInt64 &&& Int64.toUInt64 63).toBitVec % 64).toNat = 32 := by decide +kernel
  have e2 : (((32 : Int32).toInt64 &&& 63).toBitVec.smod 64).toNat = 32 := by decide +kernel
  rw [e1, e2]
  apply BitVec.eq_of_getLsbD_eq
  intro i hi
  rw [BitVec.getLsbD_signExtend, BitVec.getLsbD_signExtend, BitVec.getLsbD_ushiftRight, BitVec.getLsbD_sshiftRight]
  simp [show i < 64 by omega, hi, show ¬ 64 ≤ i by omega, show 32 + i < 64 by omega]
theorem lo_h (x : Int64) (v : Int32) : f_tm_withLower x v = f_mo_half x v 0 := by
  unfold f_tm_withLower f_mo_half f_mo_half_18 f_mo_half_33
  rw [if_pos rfl, if_pos rfl]
  refine congrArg (fun z : Int64 => z ||| (v.toInt64 &&& 4294967295)) ?_
  apply Int64.toBitVec_inj.mp
  rw [Int64.toBitVec_and, Int64.toBitVec_shiftLeft, Int64.toBitVec_shiftRight]
  show x.toBitVec &&& (-4294967296 : Int64).toBitVec = (x.toBitVec.sshiftRight ((((32 : Int32).toInt64 &&& 63).toBitVec.smod 64).toNat)) <<< ((((32 : Int32).toInt64 &&& 63).toBitVec.smod 64).toNat)
  have e2 : (((32 : Int32).toInt64 &&& 63).toBitVec.smod 64).toNat = 32 := by decide +kernel
  rw [e2]
  have e3 : ∀ i, i < 64 → (-4294967296 : Int64).toBitVec.getLsbD i = decide (32 ≤ i) := by decide +kernel
  apply BitVec.eq_of_getLsbD_eq
  intro i hi
  rw [BitVec.getLsbD_and, e3 i hi, BitVec.getLsbD_shiftLeft, BitVec.getLsbD_sshiftRight]
  by_cases c : 32 ≤ i
  · simp [hi, c, show ¬ i < 32 by omega, show ¬ 64 ≤ i - 32 by omega, show 32 + (i - 32) = i by omega]
  · simp [hi, c, show i < 32 by omega]
theorem hi_h (x : Int64) (v : Int32) : f_tm_withHigher x v = f_mo_half x v 1 := by
  have n1 : ¬ (1 : Int32) = 0 := by decide
  unfold f_tm_withHigher f_mo_half f_mo_half_18 f_mo_half_33
  rw [if_neg n1, if_neg n1, Int64.or_comm]
