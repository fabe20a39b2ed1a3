-- ===== driving the lines =====
theorem m_iff (x : Int32) : x &&& 65534 = x ↔ ∀ k, k < 32 → ¬ (1 ≤ k ∧ k < 16) → bt x k = false := by
  constructor
  · intro h k hk hn
    rw [← h, b_and, bt_65534 k hk, decide_eq_false hn, Bool.and_false]
  · intro h
    refine b_ext (fun k hk => ?_)
    rw [b_and, bt_65534 k hk]
    by_cases c : 1 ≤ k ∧ k < 16
    · rw [decide_eq_true c, Bool.and_true]
    · rw [decide_eq_false c, Bool.and_false, h k hk c]
theorem hb_eq {x y : Int32} {i : Nat} (hi : i < 32) (h : bt x i = bt y i) : f_th_hasBit x (nI i) = f_th_hasBit y (nI i) := by rw [hb_bt hi, hb_bt hi, h]
theorem bt_hb {x y : Int32} {i : Nat} (hi : i < 32) (h : f_th_hasBit x (nI i) = f_th_hasBit y (nI i)) : bt x i = bt y i := by
  rw [hb_bt hi, hb_bt hi] at h
  revert h
  cases bt x i <;> cases bt y i <;> decide
theorem hb_1 {x : Int32} {i : Nat} (hi : i < 32) : f_th_hasBit x (nI i) = 1 ↔ bt x i = true := by
  rw [hb_bt hi]
  cases bt x i <;> decide
/-- the class's forwarding of one source -/
theorem fw_c (eg hi pe : Int32) (wa se : Nat → Int32) (s : Nat) (hs1 : 1 ≤ s) (hs : s < 16) :
    (∀ k, k < 32 → k ≠ s → bt (f_so_forward eg hi pe wa se (nI s)).1 k = bt pe k) ∧
    f_th_hasBit (f_so_forward eg hi pe wa se (nI s)).1 (nI s) = fwP (f_th_hasBit pe (nI s)) (se s) (f_th_hasBit eg (nI s)) (f_th_hasBit hi (nI s)) (wa s) ∧
    (∀ k, k ≠ s → (f_so_forward eg hi pe wa se (nI s)).2 k = wa k) ∧
    (f_so_forward eg hi pe wa se (nI s)).2 s = fwW (f_th_hasBit pe (nI s)) (se s) (f_th_hasBit eg (nI s)) (wa s) := by
  unfold f_so_forward fwP fwW
  rw [nI_clamp (show s < 2 ^ 31 by omega)]
  have hs32 : s < 32 := by omega
  by_cases c1 : f_th_hasBit pe (nI s) = 0
  · simp only [if_pos c1]
    by_cases c2 : se s = 0
    · simp only [if_pos c2]
      by_cases c3 : f_th_hasBit eg (nI s) = 0
      · simp only [if_pos c3]
        refine ⟨?_, ?_, fun _ _ => trivial, trivial⟩
        · intro k hk hn
          rw [b_or, b_and, bt_one hs32 hk, decide_eq_false hn, Bool.and_false, Bool.or_false]
        · have e0 : bt pe s = false := (hb_0 hs32).mp c1
          rw [hb_bt hs32, b_or, b_and, bt_one hs32 hs32, e0, hb_bt hs32 (x := hi)]
          cases bt hi s <;> simp [c1]
      · simp only [if_neg c3]
        by_cases c4 : wa s ≤ 0
        · simp only [if_pos c4]
          exact ⟨fun _ _ _ => trivial, trivial, fun _ _ => trivial, trivial⟩
        · simp only [if_neg c4]
          refine ⟨?_, ?_, fun k hk => pk_un hk, pk_us⟩
          · intro k hk hn
            rw [b_or, bt_one hs32 hk, decide_eq_false hn, Bool.or_false]
          · rw [hb_bt hs32, b_or, bt_one hs32 hs32]
            simp
    · simp only [if_neg c2]
      exact ⟨fun _ _ _ => trivial, trivial, fun _ _ => trivial, trivial⟩
  · simp only [if_neg c1]
    exact ⟨fun _ _ _ => trivial, trivial, fun _ _ => trivial, trivial⟩
theorem fw_m (eg hi pe : Int32) (wa se : Nat → Int32) (s : Nat) (hs1 : 1 ≤ s) (hs : s < 16) (h : pe &&& 65534 = pe) : (f_so_forward eg hi pe wa se (nI s)).1 &&& 65534 = (f_so_forward eg hi pe wa se (nI s)).1 := by
  rw [m_iff] at h ⊢
  intro k hk hn
  rw [(fw_c eg hi pe wa se s hs1 hs).1 k hk (by omega)]
  exact h k hk hn
/-- a count raised by a rise, up to 15 -/
def rs (r w : Int32) : Int32 := if r = 0 then w else (if 15 ≤ w then w else w + 1)
theorem dr_1 (eg hl pe : Int32) (wa se : Nat → Int32) (p0 : Int32) (n i : Nat) (hi16 : i < 16) (z0 : Int32) (z1 : Nat → Int32) :
    ∃ z2 : Nat → Int32, (∀ k, k ≠ i → z2 k = z1 k) ∧ z2 i = rs (f_th_hasBit ((p0 &&& (hl ^^^ (-1 : Int32))) &&& eg) (nI i)) (z1 i) ∧
    f_so_drive_L24 eg hl pe wa se p0 (n + 1) i z0 z1 = f_so_drive_L24 eg hl pe wa se p0 n (i + 1) ((f_so_forward eg (p0 &&& 65534) z0 z2 se (nI i)).1) ((f_so_forward eg (p0 &&& 65534) z0 z2 se (nI i)).2) := by
  rw [f_so_drive_L24, nI_clamp (show i < 2 ^ 31 by omega)]
  unfold rs
  by_cases c1 : f_th_hasBit ((p0 &&& (hl ^^^ (-1 : Int32))) &&& eg) (nI i) = 0
  · rw [if_pos c1, if_pos c1]
    exact ⟨z1, fun _ _ => rfl, rfl, rfl⟩
  · rw [if_neg c1, if_neg c1]
    by_cases c2 : 15 ≤ z1 i
    · rw [if_pos c2, if_pos c2]
      exact ⟨z1, fun _ _ => rfl, rfl, rfl⟩
    · rw [if_neg c2, if_neg c2]
      exact ⟨upd z1 i (z1 i + 1), fun _ hk => pk_un hk, pk_us, rfl⟩
theorem dr_k (eg hl pe : Int32) (wa se : Nat → Int32) (p0 : Int32) : ∀ (n i : Nat) (z0 : Int32) (z1 : Nat → Int32), 1 ≤ i → i + n = 16 → z0 &&& 65534 = z0 →
    (f_so_drive_L24 eg hl pe wa se p0 n i z0 z1).1 = p0 &&& 65534 ∧
    (f_so_drive_L24 eg hl pe wa se p0 n i z0 z1).2.1 &&& 65534 = (f_so_drive_L24 eg hl pe wa se p0 n i z0 z1).2.1 ∧
    ∀ k, k < 16 →
      f_th_hasBit (f_so_drive_L24 eg hl pe wa se p0 n i z0 z1).2.1 (nI k) = (if i ≤ k then fwP (f_th_hasBit z0 (nI k)) (se k) (f_th_hasBit eg (nI k)) (f_th_hasBit (p0 &&& 65534) (nI k)) (rs (f_th_hasBit ((p0 &&& (hl ^^^ (-1 : Int32))) &&& eg) (nI k)) (z1 k)) else f_th_hasBit z0 (nI k)) ∧
      (f_so_drive_L24 eg hl pe wa se p0 n i z0 z1).2.2 k = (if i ≤ k then fwW (f_th_hasBit z0 (nI k)) (se k) (f_th_hasBit eg (nI k)) (rs (f_th_hasBit ((p0 &&& (hl ^^^ (-1 : Int32))) &&& eg) (nI k)) (z1 k)) else z1 k) := by
  intro n
  induction n with
  | zero =>
    intro i z0 z1 h1 hi hm
    rw [f_so_drive_L24]
    refine ⟨rfl, hm, ?_⟩
    intro k hk
    rw [if_neg (by omega), if_neg (by omega)]
    exact ⟨rfl, rfl⟩
  | succ n ih =>
    intro i z0 z1 h1 hi hm
    obtain ⟨z2, hz, hzi, he⟩ := dr_1 eg hl pe wa se p0 n i (by omega) z0 z1
    rw [he]
    obtain ⟨a1, a2, a3⟩ := ih (i + 1) ((f_so_forward eg (p0 &&& 65534) z0 z2 se (nI i)).1) ((f_so_forward eg (p0 &&& 65534) z0 z2 se (nI i)).2) (by omega) (by omega) (fw_m _ _ _ _ _ i h1 (by omega) hm)
    obtain ⟨b1, b2, b3, b4⟩ := fw_c eg (p0 &&& 65534) z0 z2 se i h1 (by omega)
    refine ⟨a1, a2, ?_⟩
    intro k hk
    obtain ⟨c1, c2⟩ := a3 k hk
    rw [c1, c2]
    by_cases c : k = i
    · subst c
      simp only [if_neg (show ¬ k + 1 ≤ k by omega), if_pos (Nat.le_refl k), b2, b4, hzi]
      exact ⟨trivial, trivial⟩
    · rw [hb_eq (by omega) (b1 k (by omega) c), b3 k c, hz k c]
      by_cases d : i ≤ k
      · simp only [if_pos (show i + 1 ≤ k by omega), if_pos d]
        exact ⟨trivial, trivial⟩
      · simp only [if_neg (show ¬ i + 1 ≤ k by omega), if_neg d]
        exact ⟨trivial, trivial⟩
/-- the reference's count after a rise -/
def rm (b e l w : Int32) : Int32 := if b = 0 then w else (if e = 0 then w else (if l = 0 then (if 15 ≤ w then w else w + 1) else w))
theorem ln_k (ed li pn se wa : Nat → Int32) (p0 : Int32) : ∀ (n i : Nat) (z0 z1 : Nat → Int32), i + n = 16 →
    ∃ l2 w2 : Nat → Int32, f_mo_lines_L7 ed li pn se wa p0 n i z0 z1 = (f_mo_pendingSet ((f_mo_forward ed l2 pn se w2).1), (0 : Int32), l2, (f_mo_forward ed l2 pn se w2).1, (f_mo_forward ed l2 pn se w2).2) ∧
    ∀ k, k < 16 → l2 k = (if i ≤ k then f_th_hasBit p0 (nI k) else z0 k) ∧ w2 k = (if i ≤ k then rm (f_th_hasBit p0 (nI k)) (ed k) (z0 k) (z1 k) else z1 k) := by
  intro n
  induction n with
  | zero =>
    intro i z0 z1 hi
    refine ⟨z0, z1, rfl, ?_⟩
    intro k hk
    rw [if_neg (by omega), if_neg (by omega)]
    exact ⟨rfl, rfl⟩
  | succ n ih =>
    intro i z0 z1 hi
    have key : ∀ y0 y1 : Nat → Int32, (∀ k, k ≠ i → y0 k = z0 k) → y0 i = f_th_hasBit p0 (nI i) → (∀ k, k ≠ i → y1 k = z1 k) → y1 i = rm (f_th_hasBit p0 (nI i)) (ed i) (z0 i) (z1 i) →
        ∃ l2 w2 : Nat → Int32, f_mo_lines_L7 ed li pn se wa p0 n (i + 1) y0 y1 = (f_mo_pendingSet ((f_mo_forward ed l2 pn se w2).1), (0 : Int32), l2, (f_mo_forward ed l2 pn se w2).1, (f_mo_forward ed l2 pn se w2).2) ∧
        ∀ k, k < 16 → l2 k = (if i ≤ k then f_th_hasBit p0 (nI k) else z0 k) ∧ w2 k = (if i ≤ k then rm (f_th_hasBit p0 (nI k)) (ed k) (z0 k) (z1 k) else z1 k) := by
      intro y0 y1 g0 g1 g2 g3
      obtain ⟨l2, w2, q, hq⟩ := ih (i + 1) y0 y1 (by omega)
      refine ⟨l2, w2, q, ?_⟩
      intro k hk
      rw [(hq k hk).1, (hq k hk).2]
      by_cases c : k = i
      · subst c
        simp only [if_neg (show ¬ k + 1 ≤ k by omega), if_pos (Nat.le_refl k)]
        exact ⟨g1, g3⟩
      · rw [g0 k c, g2 k c]
        by_cases d : i ≤ k
        · simp only [if_pos (show i + 1 ≤ k by omega), if_pos d]
          exact ⟨trivial, trivial⟩
        · simp only [if_neg (show ¬ i + 1 ≤ k by omega), if_neg d]
          exact ⟨trivial, trivial⟩
    have n1 : ¬ (1 : Int32) = 0 := by decide
    rw [f_mo_lines_L7, nI_clamp (show i < 2 ^ 31 by omega), nar1, nar0]
    by_cases c1 : bt p0 i = true
    · have hb : f_th_hasBit p0 (nI i) = 1 := (hb_1 (by omega)).mpr c1
      rw [if_pos ((sb_1 (by omega)).mpr c1)]
      rw [hb] at key
      unfold rm at key
      rw [if_neg n1] at key
      by_cases c2 : ed i = 0
      · rw [if_pos c2] at key ⊢
        exact key _ _ (fun k hk => pk_un hk) pk_us (fun k hk => rfl) rfl
      · rw [if_neg c2] at key ⊢
        by_cases c3 : z0 i = 0
        · rw [if_pos c3] at key ⊢
          by_cases c4 : 15 ≤ z1 i
          · rw [if_pos c4] at key ⊢
            exact key _ _ (fun k hk => pk_un hk) pk_us (fun k hk => rfl) rfl
          · rw [if_neg c4] at key ⊢
            exact key _ _ (fun k hk => pk_un hk) pk_us (fun k hk => pk_un hk) pk_us
        · rw [if_neg c3] at key ⊢
          exact key _ _ (fun k hk => pk_un hk) pk_us (fun k hk => rfl) rfl
    · have hb : f_th_hasBit p0 (nI i) = 0 := by rw [hb_bt (by omega), if_neg c1]
      rw [if_neg (fun q => c1 ((sb_1 (by omega)).mp q))]
      rw [hb] at key
      unfold rm at key
      rw [if_pos rfl] at key
      by_cases c2 : ed i = 0
      · rw [if_pos c2]
        exact key _ _ (fun k hk => pk_un hk) pk_us (fun k hk => rfl) rfl
      · rw [if_neg c2]
        exact key _ _ (fun k hk => pk_un hk) pk_us (fun k hk => rfl) rfl
theorem add_or {x y : Int32} (h : ∀ k, k < 32 → (bt x k && bt y k) = false) : x + y = x ||| y := by
  apply Int32.toBitVec_inj.mp
  rw [Int32.toBitVec_add, Int32.toBitVec_or]
  apply BitVec.add_eq_or_of_and_eq_zero
  apply BitVec.eq_of_getLsbD_eq
  intro k hk
  rw [BitVec.getLsbD_and, BitVec.getLsbD_zero]
  exact h k hk
theorem ps_k (pn : Nat → Int32) : ∀ (n i : Nat) (z : Int32), i + n = 16 → (∀ k, k < 32 → i ≤ k → bt z k = false) → ∀ k, k < 32 →
    bt (f_mo_pendingSet_L4 pn n i z) k = (if i ≤ k ∧ k < 16 then decide (pn k ≠ 0) else bt z k) := by
  intro n
  induction n with
  | zero =>
    intro i z hi hz k hk
    rw [f_mo_pendingSet_L4, if_neg (by omega)]
  | succ n ih =>
    intro i z hi hz k hk
    rw [f_mo_pendingSet_L4, nI_clamp (show i < 2 ^ 31 by omega)]
    by_cases c1 : pn i = 0
    · rw [if_pos c1, ih (i + 1) z (by omega) (fun k hk h => hz k hk (by omega)) k hk]
      by_cases c : k = i
      · subst c
        rw [if_neg (by omega), if_pos (by omega), hz k hk (by omega), decide_eq_false (fun q => q c1)]
      · have hiff : (i + 1 ≤ k ∧ k < 16) ↔ (i ≤ k ∧ k < 16) := by omega
        simp only [hiff]
    · have ho : z + ((1 : Int32) <<< (nI i &&& 31)) = z ||| ((1 : Int32) <<< (nI i &&& 31)) := by
        apply add_or
        intro j hj
        rw [bt_one (by omega) hj]
        by_cases c : j = i
        · subst c; rw [hz j hj (by omega)]; rfl
        · rw [decide_eq_false c, Bool.and_false]
      rw [if_neg c1, ho, ih (i + 1) _ (by omega) _ k hk]
      · by_cases c : k = i
        · subst c
          rw [if_neg (by omega), if_pos (by omega), b_or, bt_one (by omega) hk, decide_eq_true c1]
          simp
        · have hiff : (i + 1 ≤ k ∧ k < 16) ↔ (i ≤ k ∧ k < 16) := by omega
          simp only [hiff]
          rw [b_or, bt_one (by omega) hk, decide_eq_false c, Bool.or_false]
      · intro j hj h
        rw [b_or, bt_one (by omega) hj, hz j hj (by omega), decide_eq_false (by omega)]
        rfl
theorem ps_eq {pn : Nat → Int32} {x : Int32} (hm : x &&& 65534 = x) (h : ∀ k, 1 ≤ k → k < 16 → pn k = f_th_hasBit x (nI k)) : f_mo_pendingSet pn = x := by
  refine b_ext (fun k hk => ?_)
  show bt (f_mo_pendingSet_L4 pn 15 1 0) k = bt x k
  rw [ps_k pn 15 1 0 (by omega) (fun k _ _ => b_0 k) k hk]
  by_cases c : 1 ≤ k ∧ k < 16
  · rw [if_pos c, h k c.1 c.2, hb_bt hk]
    cases bt x k <;> decide
  · rw [if_neg c, b_0, (m_iff x).mp hm k hk c]
theorem ri_rm {p0 hi eg : Int32} {k : Nat} (hk : k < 32) (w : Int32) : rs (f_th_hasBit ((p0 &&& (hi ^^^ (-1 : Int32))) &&& eg) (nI k)) w = rm (f_th_hasBit p0 (nI k)) (f_th_hasBit eg (nI k)) (f_th_hasBit hi (nI k)) w := by
  rw [hb_bt hk, hb_bt hk, hb_bt hk, hb_bt hk, b_and, b_and, b_xor, b_m1 k hk]
  unfold rs rm
  cases bt p0 k <;> cases bt hi k <;> cases bt eg k <;> simp
theorem okF_of {eg hi pe wa se : Int32} {k : Nat} {p s e l w : Int32} (hs : s = se) (he : e = f_th_hasBit eg (nI k)) (hl : l = f_th_hasBit hi (nI k)) (hp : f_th_hasBit pe (nI k) = fwP p s e l w) (hw : wa = fwW p s e w) : okF eg hi pe wa se k := by
  unfold okF
  subst hs
  rw [hp, hw, ← he, ← hl]
  have n1 : ¬ (1 : Int32) = 0 := by decide
  unfold fwP fwW
  intro h1 h2
  by_cases c1 : p = 0
  · rw [if_pos c1, if_pos h2] at h1
    rw [if_pos c1, if_pos h2]
    by_cases c3 : e = 0
    · rw [if_pos c3] at h1
      refine ⟨fun _ => ?_, fun q => absurd c3 q⟩
      by_cases c4 : l = 0
      · exact c4
      · rw [if_neg c4] at h1; exact absurd h1 n1
    · rw [if_neg c3] at h1
      refine ⟨fun q => absurd q c3, fun _ => ?_⟩
      rw [if_neg c3]
      by_cases c4 : w ≤ 0
      · rw [if_pos c4]; exact c4
      · rw [if_neg c4] at h1; exact absurd h1 n1
  · rw [if_neg c1] at h1; exact absurd h1 c1
theorem fw_mo (ed li pn se wa : Nat → Int32) {k : Nat} (h1 : 1 ≤ k) (h2 : k < 16) : (f_mo_forward ed li pn se wa).1 k = fwP (pn k) (se k) (ed k) (li k) (wa k) ∧ (f_mo_forward ed li pn se wa).2 k = fwW (pn k) (se k) (ed k) (wa k) := by
  obtain ⟨a, b⟩ := mo_fw ed li pn se wa 15 1 pn wa (by omega) k
  rw [if_pos ⟨h1, h2⟩] at a b
  exact ⟨a, b⟩
theorem sm_lines (v_mo v_pc v_de v_di v_en v_wr v_eg v_hi v_pe : Int32) (v_pr v_wa v_se : (Nat → Int32)) (v_ms v_me v_mt v_us v_ue v_ut : Int32) (v_ti v_co : Int64) (v_sf v_bt v_xv v_xb v_xc v_yv v_yb v_yc : Int32) (w_th w_pv w_pc : Int32) (w_ti w_co : Int64) (w_so w_st w_ge w_gi w_wn w_wr : Int32) (w_ed w_li w_pr w_pn w_se w_wa w_en w_tt w_ve w_ba w_ca : (Nat → Int32)) (p0 : Int32) (hR : Rel v_mo v_pc v_de v_di v_en v_wr v_eg v_hi v_pe v_pr v_wa v_se v_ms v_me v_mt v_us v_ue v_ut v_ti v_co v_sf v_bt v_xv v_xb v_xc v_yv v_yb v_yc w_th w_pv w_pc w_ti w_co w_so w_st w_ge w_gi w_wn w_wr w_ed w_li w_pr w_pn w_se w_wa w_en w_tt w_ve w_ba w_ca) : (f_th_lines v_eg v_hi v_pe v_wa v_se p0).1 = (f_mo_lines w_ed w_li w_pn w_se w_wa p0).1 ∧ Rel v_mo v_pc v_de v_di v_en v_wr v_eg ((f_th_lines v_eg v_hi v_pe v_wa v_se p0).2.1) ((f_th_lines v_eg v_hi v_pe v_wa v_se p0).2.2.1) v_pr ((f_th_lines v_eg v_hi v_pe v_wa v_se p0).2.2.2) v_se v_ms v_me v_mt v_us v_ue v_ut v_ti v_co v_sf v_bt v_xv v_xb v_xc v_yv v_yb v_yc ((f_mo_lines w_ed w_li w_pn w_se w_wa p0).2.1) w_pv w_pc w_ti w_co w_so w_st w_ge w_gi w_wn w_wr w_ed ((f_mo_lines w_ed w_li w_pn w_se w_wa p0).2.2.1) w_pr ((f_mo_lines w_ed w_li w_pn w_se w_wa p0).2.2.2.1) w_se ((f_mo_lines w_ed w_li w_pn w_se w_wa p0).2.2.2.2) w_en w_tt w_ve w_ba w_ca := by
  obtain ⟨he, hf, hg, hM, hF, hS, hm, hk⟩ := hR
  obtain ⟨a1, a2, a3⟩ := dr_k v_eg v_hi v_pe v_wa v_se p0 15 1 v_pe v_wa (by omega) (by omega) hm
  obtain ⟨l2, w2, q, hq⟩ := ln_k w_ed w_li w_pn w_se w_wa p0 15 1 w_li w_wa (by omega)
  have q' : f_mo_lines w_ed w_li w_pn w_se w_wa p0 = (f_mo_pendingSet ((f_mo_forward w_ed l2 w_pn w_se w2).1), (0 : Int32), l2, (f_mo_forward w_ed l2 w_pn w_se w2).1, (f_mo_forward w_ed l2 w_pn w_se w2).2) := q
  rw [q']
  unfold f_th_lines f_so_drive
  have main : ∀ k, 1 ≤ k → k < 16 → (f_mo_forward w_ed l2 w_pn w_se w2).1 k = f_th_hasBit (f_so_drive_L24 v_eg v_hi v_pe v_wa v_se p0 15 1 v_pe v_wa).2.1 (nI k) ∧ (f_mo_forward w_ed l2 w_pn w_se w2).2 k = (f_so_drive_L24 v_eg v_hi v_pe v_wa v_se p0 15 1 v_pe v_wa).2.2 k ∧ l2 k = f_th_hasBit (f_so_drive_L24 v_eg v_hi v_pe v_wa v_se p0 15 1 v_pe v_wa).1 (nI k) := by
    intro k h1 h2
    obtain ⟨b1, b2, b3, b4, b5, b6, b7⟩ := hk k h1 h2
    obtain ⟨c1, c2⟩ := hq k h2
    obtain ⟨d1, d2⟩ := a3 k h2
    obtain ⟨e1, e2⟩ := fw_mo w_ed l2 w_pn w_se w2 h1 h2
    rw [if_pos h1] at c1 c2 d1 d2
    rw [e1, e2, d1, d2, a1, c1, c2, b2, b3, b4, b5, b6, hb_m p0 h1 h2, ri_rm (by omega)]
    exact ⟨rfl, rfl, rfl⟩
  refine ⟨(ps_eq a2 (fun k h1 h2 => (main k h1 h2).1)).symm, he, hf, hg, hM, hF, hS, a2, ?_⟩
  intro k h1 h2
  obtain ⟨b1, b2, b3, b4, b5, b6, b7⟩ := hk k h1 h2
  obtain ⟨m1, m2, m3⟩ := main k h1 h2
  refine ⟨b1, m2, b3, m1, b5, m3, ?_⟩
  obtain ⟨e1, e2⟩ := fw_mo w_ed l2 w_pn w_se w2 h1 h2
  exact okF_of b3 b5 m3 (m1.symm.trans e1) (m2.symm.trans e2)
