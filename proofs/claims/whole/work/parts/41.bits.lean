/-! ===== Int32 by its bits: bt x i ===== -/
def bt (x : Int32) (i : Nat) : Bool := x.toBitVec.getLsbD i
theorem b_ext {x y : Int32} (h : ∀ i, i < 32 → bt x i = bt y i) : x = y := Int32.toBitVec_inj.mp (BitVec.eq_of_getLsbD_eq (fun i hi => h i hi))
theorem b_or (x y : Int32) (i : Nat) : bt (x ||| y) i = (bt x i || bt y i) := by unfold bt; rw [Int32.toBitVec_or, BitVec.getLsbD_or]
theorem b_and (x y : Int32) (i : Nat) : bt (x &&& y) i = (bt x i && bt y i) := by unfold bt; rw [Int32.toBitVec_and, BitVec.getLsbD_and]
theorem b_xor (x y : Int32) (i : Nat) : bt (x ^^^ y) i = (bt x i ^^ bt y i) := by unfold bt; rw [Int32.toBitVec_xor, BitVec.getLsbD_xor]
theorem b_big {x : Int32} {i : Nat} (h : 32 ≤ i) : bt x i = false := BitVec.getLsbD_of_ge _ _ h
theorem b_255 (i : Nat) : bt 255 i = decide (i < 8) := by
  rcases Nat.lt_or_ge i 32 with h | h
  · exact (by decide +kernel : ∀ i, i < 32 → bt 255 i = decide (i < 8)) i h
  · rw [b_big h, decide_eq_false (by omega)]
theorem b_65535 (i : Nat) : bt 65535 i = decide (i < 16) := by
  rcases Nat.lt_or_ge i 32 with h | h
  · exact (by decide +kernel : ∀ i, i < 32 → bt 65535 i = decide (i < 16)) i h
  · rw [b_big h, decide_eq_false (by omega)]
theorem b_m1 : ∀ i, i < 32 → bt (-1) i = true := by decide +kernel
theorem b_0 (i : Nat) : bt 0 i = false := BitVec.getLsbD_zero
theorem s_l : ∀ n, n < 32 → ((nI n &&& 31).toBitVec.smod 32).toNat = n := by decide +kernel
theorem s_u : ∀ n, n < 32 → (((nI n).toUInt32 &&& Int32.toUInt32 31).toBitVec % 32).toNat = n := by decide +kernel
theorem b_shl (n : Nat) (hn : n < 32) (x : Int32) {i : Nat} (hi : i < 32) : bt (x <<< (nI n &&& 31)) i = (decide (n ≤ i) && bt x (i - n)) := by
  unfold bt
  rw [Int32.toBitVec_shiftLeft]
  show (x.toBitVec <<< ((nI n &&& 31).toBitVec.smod 32).toNat).getLsbD i = _
  rw [s_l n hn, BitVec.getLsbD_shiftLeft]
  rcases Nat.lt_or_ge i n with h | h
  · simp [h, Nat.not_le.mpr h]
  · simp [hi, h, Nat.not_lt.mpr h]
theorem b_ushr (n : Nat) (hn : n < 32) (x : Int32) (i : Nat) : bt ((x.toUInt32 >>> ((nI n).toUInt32 &&& Int32.toUInt32 31)).toInt32) i = bt x (n + i) := by
  show (x.toUInt32 >>> ((nI n).toUInt32 &&& Int32.toUInt32 31)).toBitVec.getLsbD i = x.toUInt32.toBitVec.getLsbD (n + i)
  rw [UInt32.toBitVec_shiftRight]
  show (x.toUInt32.toBitVec >>> (((nI n).toUInt32 &&& Int32.toUInt32 31).toBitVec % 32).toNat).getLsbD i = _
  rw [s_u n hn, BitVec.getLsbD_ushiftRight]
theorem b_sshr (n : Nat) (hn : n < 32) (x : Int32) {i : Nat} (hi : i < 32) : bt (x >>> (nI n &&& 31)) i = if n + i < 32 then bt x (n + i) else bt x 31 := by
  unfold bt
  rw [Int32.toBitVec_shiftRight]
  show (x.toBitVec.sshiftRight ((nI n &&& 31).toBitVec.smod 32).toNat).getLsbD i = _
  rw [s_l n hn, BitVec.getLsbD_sshiftRight, BitVec.msb_eq_getLsbD_last]
  simp [hi]
theorem b_shl8 (x : Int32) {i : Nat} (hi : i < 32) : bt (x <<< ((8 : Int32) &&& 31)) i = (decide (8 ≤ i) && bt x (i - 8)) := b_shl 8 (by omega) x hi
theorem b_shl16 (x : Int32) {i : Nat} (hi : i < 32) : bt (x <<< ((16 : Int32) &&& 31)) i = (decide (16 ≤ i) && bt x (i - 16)) := b_shl 16 (by omega) x hi
theorem b_shl24 (x : Int32) {i : Nat} (hi : i < 32) : bt (x <<< ((24 : Int32) &&& 31)) i = (decide (24 ≤ i) && bt x (i - 24)) := b_shl 24 (by omega) x hi
theorem b_sshr8 (x : Int32) {i : Nat} (hi : i < 32) : bt (x >>> ((8 : Int32) &&& 31)) i = if 8 + i < 32 then bt x (8 + i) else bt x 31 := b_sshr 8 (by omega) x hi
/-! ===== nI under and, xor, >>>, one bit, 65535 ===== -/
theorem nx_and (a b : Nat) : nI a &&& nI b = nI (a &&& b) := by
  apply Int32.toBitVec_inj.1
  show BitVec.ofNat 32 a &&& BitVec.ofNat 32 b = BitVec.ofNat 32 (a &&& b)
  apply BitVec.eq_of_getLsbD_eq
  intro i hi
  simp [hi]
-- ===== one bit, as the class asks for it and as the reference does =====
theorem bt1 : ∀ i, i < 32 → bt 1 i = decide (i = 0) := by decide +kernel
theorem b1_0 (y : Int32) : y &&& 1 = 0 ↔ bt y 0 = false := by
  constructor
  · intro h
    have h1 := congrArg (fun z => bt z 0) h
    simp only [b_and, b_0] at h1
    rw [show bt 1 0 = true from by decide, Bool.and_true] at h1
    exact h1
  · intro h
    refine b_ext (fun i hi => ?_)
    rw [b_and, b_0, bt1 i hi]
    by_cases c : i = 0
    · subst c; rw [h]; rfl
    · simp [c]
theorem b1_1 (y : Int32) : y &&& 1 = 1 ↔ bt y 0 = true := by
  constructor
  · intro h
    have h1 := congrArg (fun z => bt z 0) h
    simp only [b_and] at h1
    rw [show bt 1 0 = true from by decide, Bool.and_true] at h1
    exact h1
  · intro h
    refine b_ext (fun i hi => ?_)
    rw [b_and, bt1 i hi]
    by_cases c : i = 0
    · subst c; rw [h]; rfl
    · simp [c]
theorem hb_bt {x : Int32} {i : Nat} (hi : i < 32) : f_th_hasBit x (nI i) = if bt x i = true then 1 else 0 := by
  unfold f_th_hasBit
  have h : ((x.toUInt32 >>> ((nI i).toUInt32 &&& Int32.toUInt32 31)).toInt32 &&& 1 = 0) ↔ bt x i = false := by
    rw [b1_0, b_ushr i hi, Nat.add_zero]
  by_cases c : bt x i = true
  · rw [if_neg (fun q => by rw [h.mp q] at c; cases c), if_pos c]
  · rw [if_pos (h.mpr (by simpa using c)), if_neg c]
theorem hb_0 {x : Int32} {i : Nat} (hi : i < 32) : f_th_hasBit x (nI i) = 0 ↔ bt x i = false := by
  rw [hb_bt hi]
  cases bt x i <;> simp
theorem sb_1 {x : Int32} {i : Nat} (hi : i < 32) : ((x >>> (nI i &&& 31)) &&& 1) = 1 ↔ bt x i = true := by
  rw [b1_1, b_sshr i hi x (by omega), if_pos (by omega), Nat.add_zero]
theorem en_hb {w : Nat → Int32} {c : Int32} {i : Nat} (hi : i < 32) : f_mo_isEnabled w c (nI i) = f_th_hasBit (w c.toNatClampNeg) (nI i) := by
  unfold f_mo_isEnabled
  rw [hb_bt hi]
  by_cases h : bt (w c.toNatClampNeg) i = true
  · rw [if_pos h, if_pos ((sb_1 hi).mpr h)]
  · rw [if_neg h, if_neg (fun q => h ((sb_1 hi).mp q))]
theorem bit_hb {w : Int32} {i : Nat} (hi : i < 32) : f_mo_bit w (nI i) = f_th_hasBit w (nI i) := by
  unfold f_mo_bit
  rw [hb_bt hi]
  by_cases h : bt w i = true
  · rw [if_pos h, if_pos ((sb_1 hi).mpr h)]
  · rw [if_neg h, if_neg (fun q => h ((sb_1 hi).mp q))]
theorem bt_one {s i : Nat} (hs : s < 32) (hi : i < 32) : bt ((1 : Int32) <<< (nI s &&& 31)) i = decide (i = s) := by
  rw [b_shl s hs _ hi]
  by_cases c : i = s
  · subst c; simp [show bt 1 0 = true from by decide]
  · by_cases d : s ≤ i
    · rw [bt1 (i - s) (by omega)]
      simp [c]
      omega
    · simp [c, d]
theorem hb_z {x : Int32} {i : Nat} (hi : i < 32) : f_th_hasBit x (nI i) = 0 ∨ f_th_hasBit x (nI i) = 1 := by
  rw [hb_bt hi]
  cases bt x i <;> simp
theorem nar1 : vp_nar .boolean (1 : Int32) = 1 := by decide
theorem nar0 : vp_nar .boolean (0 : Int32) = 0 := by decide
-- ===== what forwarding makes of one source =====
def fwP (p s e l w : Int32) : Int32 := if p = 0 then (if s = 0 then (if e = 0 then (if l = 0 then p else 1) else (if w ≤ 0 then p else 1)) else p) else p
def fwW (p s e w : Int32) : Int32 := if p = 0 then (if s = 0 then (if e = 0 then w else (if w ≤ 0 then w else w - 1)) else w) else w
theorem mo_fw (ed li pn se wa : Nat → Int32) : ∀ (n i : Nat) (z0 z1 : Nat → Int32), i + n = 16 → ∀ k,
    (f_mo_forward_L2 ed li pn se wa n i z0 z1).1 k = (if i ≤ k ∧ k < 16 then fwP (z0 k) (se k) (ed k) (li k) (z1 k) else z0 k) ∧
    (f_mo_forward_L2 ed li pn se wa n i z0 z1).2 k = (if i ≤ k ∧ k < 16 then fwW (z0 k) (se k) (ed k) (z1 k) else z1 k) := by
  intro n
  induction n with
  | zero =>
    intro i z0 z1 hi k
    have : ¬ (i ≤ k ∧ k < 16) := by omega
    rw [f_mo_forward_L2, if_neg this, if_neg this]
    exact ⟨rfl, rfl⟩
  | succ n ih =>
    intro i z0 z1 hi k
    have hk : (nI i).toNatClampNeg = i := nI_clamp (by omega)
    rw [f_mo_forward_L2, hk, nar1]
    by_cases hki : k = i
    · subst hki
      have h1 : ¬ (k + 1 ≤ k ∧ k < 16) := by omega
      have h2 : k ≤ k ∧ k < 16 := by omega
      rw [if_pos h2, if_pos h2]
      unfold fwP fwW
      by_cases c1 : z0 k = 0
      · rw [if_pos c1, if_pos c1, if_pos c1]
        by_cases c2 : se k = 0
        · rw [if_pos c2, if_pos c2, if_pos c2]
          by_cases c3 : ed k = 0
          · rw [if_pos c3, if_pos c3, if_pos c3]
            by_cases c4 : li k = 0
            · rw [if_pos c4, if_pos c4, (ih _ _ _ (by omega) k).1, (ih _ _ _ (by omega) k).2, if_neg h1, if_neg h1]
              exact ⟨rfl, rfl⟩
            · rw [if_neg c4, if_neg c4, (ih _ _ _ (by omega) k).1, (ih _ _ _ (by omega) k).2, if_neg h1, if_neg h1, pk_us]
              exact ⟨rfl, rfl⟩
          · rw [if_neg c3, if_neg c3, if_neg c3]
            by_cases c4 : z1 k ≤ 0
            · rw [if_pos c4, if_pos c4, if_pos c4, (ih _ _ _ (by omega) k).1, (ih _ _ _ (by omega) k).2, if_neg h1, if_neg h1]
              exact ⟨rfl, rfl⟩
            · rw [if_neg c4, if_neg c4, if_neg c4, (ih _ _ _ (by omega) k).1, (ih _ _ _ (by omega) k).2, if_neg h1, if_neg h1, pk_us, pk_us]
              exact ⟨rfl, rfl⟩
        · rw [if_neg c2, if_neg c2, if_neg c2, (ih _ _ _ (by omega) k).1, (ih _ _ _ (by omega) k).2, if_neg h1, if_neg h1]
          exact ⟨rfl, rfl⟩
      · rw [if_neg c1, if_neg c1, if_neg c1, (ih _ _ _ (by omega) k).1, (ih _ _ _ (by omega) k).2, if_neg h1, if_neg h1]
        exact ⟨rfl, rfl⟩
    · have hiff : (i + 1 ≤ k ∧ k < 16) ↔ (i ≤ k ∧ k < 16) := by omega
      have key : ∀ (y0 y1 : Nat → Int32), y0 k = z0 k → y1 k = z1 k → (f_mo_forward_L2 ed li pn se wa n (i + 1) y0 y1).1 k = (if i ≤ k ∧ k < 16 then fwP (z0 k) (se k) (ed k) (li k) (z1 k) else z0 k) ∧ (f_mo_forward_L2 ed li pn se wa n (i + 1) y0 y1).2 k = (if i ≤ k ∧ k < 16 then fwW (z0 k) (se k) (ed k) (z1 k) else z1 k) := by
        intro y0 y1 e0 e1
        rw [(ih _ y0 y1 (by omega) k).1, (ih _ y0 y1 (by omega) k).2, e0, e1]
        simp only [hiff]
        exact ⟨trivial, trivial⟩
      generalize (if i ≤ k ∧ k < 16 then fwP (z0 k) (se k) (ed k) (li k) (z1 k) else z0 k) = r0 at key ⊢
      generalize (if i ≤ k ∧ k < 16 then fwW (z0 k) (se k) (ed k) (z1 k) else z1 k) = r1 at key ⊢
      repeat' split
      all_goals exact key _ _ (by first | rfl | exact pk_un hki) (by first | rfl | exact pk_un hki)
