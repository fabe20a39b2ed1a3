-- ===== which source is the one to claim =====
def bs (b : Nat → Prop) (P : Nat → Int) (f : Int) (i m : Nat) : Prop :=
  (m = 0 ∧ ∀ k, 1 ≤ k → k < i → b k → P k ≤ f) ∨ (1 ≤ m ∧ m < i ∧ b m ∧ f < P m ∧ ∀ k, 1 ≤ k → k < i → b k → P k ≤ P m ∧ (k < m → P k < P m))
theorem bs_un {b : Nat → Prop} {P : Nat → Int} {f : Int} {i m m' : Nat} (h : bs b P f i m) (h' : bs b P f i m') : m = m' := by
  rcases h with ⟨h1, h2⟩ | ⟨h1, h2, h3, h4, h5⟩ <;> rcases h' with ⟨g1, g2⟩ | ⟨g1, g2, g3, g4, g5⟩
  · omega
  · have := h2 m' g1 g2 g3; omega
  · have := g2 m h1 h2 h3; omega
  · have a := h5 m' g1 g2 g3
    have c := g5 m h1 h2 h3
    rcases Nat.lt_trichotomy m m' with x | x | x
    · have := c.2 x; omega
    · exact x
    · have := a.2 x; omega
theorem nI_z16 {m : Nat} (h : m < 16) : nI m = 0 ↔ m = 0 := by
  have : ∀ m, m < 16 → (nI m = 0 ↔ m = 0) := by decide +kernel
  exact this m h
theorem nI_le0 {m : Nat} (h : m < 16) : nI m ≤ 0 ↔ m = 0 := by
  have : ∀ m, m < 16 → (nI m ≤ 0 ↔ m = 0) := by decide +kernel
  exact this m h
theorem so_best (pe : Int32) (pr : Nat → Int32) (en fl : Int32) : ∀ (n i m : Nat) (z : Int32), 1 ≤ i → i + n = 16 →
    ((m = 0 ∧ z = fl) ∨ (1 ≤ m ∧ z = pr m)) → bs (fun k => bt pe k = true ∧ bt en k = true) (fun k => (pr k).toInt) fl.toInt i m →
    ∃ m', m' < 16 ∧ f_so_best_L8 pe pr en fl n i z (nI m) = nI m' ∧ bs (fun k => bt pe k = true ∧ bt en k = true) (fun k => (pr k).toInt) fl.toInt 16 m' := by
  intro n
  induction n with
  | zero =>
    intro i m z h1 hi hz hb
    obtain rfl : i = 16 := by omega
    refine ⟨m, ?_, rfl, hb⟩
    rcases hb with h | h <;> omega
  | succ n ih =>
    intro i m z h1 hi hz hb
    rw [f_so_best_L8, nI_clamp (show i < 2 ^ 31 by omega)]
    have hzi : (m = 0 ∧ z.toInt = fl.toInt) ∨ (1 ≤ m ∧ z.toInt = (pr m).toInt) := by
      rcases hz with h | h
      · exact Or.inl ⟨h.1, by rw [h.2]⟩
      · exact Or.inr ⟨h.1, by rw [h.2]⟩
    by_cases c1 : f_th_hasBit (pe &&& en) (nI i) = 0
    · rw [if_pos c1]
      have c1' : bt (pe &&& en) i = false := (hb_0 (by omega)).mp c1
      rw [b_and] at c1'
      have nb : ¬ (bt pe i = true ∧ bt en i = true) := by
        rintro ⟨x, y⟩; rw [x, y] at c1'; cases c1'
      refine ih (i + 1) m z (by omega) (by omega) hz ?_
      rcases hb with ⟨g1, g2⟩ | ⟨g1, g2, g3, g4, g5⟩
      · refine Or.inl ⟨g1, fun k a1 a2 a3 => ?_⟩
        by_cases c : k = i
        · subst c; exact absurd a3 nb
        · exact g2 k a1 (by omega) a3
      · refine Or.inr ⟨g1, by omega, g3, g4, fun k a1 a2 a3 => ?_⟩
        by_cases c : k = i
        · subst c; exact absurd a3 nb
        · exact g5 k a1 (by omega) a3
    · rw [if_neg c1]
      have yb : bt pe i = true ∧ bt en i = true := by
        have c1' : ¬ bt (pe &&& en) i = false := fun q => c1 ((hb_0 (by omega)).mpr q)
        rw [b_and] at c1'
        revert c1'
        cases bt pe i <;> cases bt en i <;> decide
      by_cases c2 : pr i ≤ z
      · rw [if_pos c2]
        have c2' := Int32.le_iff_toInt_le.mp c2
        refine ih (i + 1) m z (by omega) (by omega) hz ?_
        rcases hb with ⟨g1, g2⟩ | ⟨g1, g2, g3, g4, g5⟩
        · refine Or.inl ⟨g1, fun k a1 a2 a3 => ?_⟩
          by_cases c : k = i
          · subst c; show (pr k).toInt ≤ _; omega
          · exact g2 k a1 (by omega) a3
        · refine Or.inr ⟨g1, by omega, g3, g4, fun k a1 a2 a3 => ?_⟩
          by_cases c : k = i
          · subst c; show (pr k).toInt ≤ (pr m).toInt ∧ (k < m → (pr k).toInt < (pr m).toInt); omega
          · exact g5 k a1 (by omega) a3
      · rw [if_neg c2]
        have c2' : z.toInt < (pr i).toInt := Int32.lt_iff_toInt_lt.mp (Int32.not_le.mp c2)
        refine ih (i + 1) i (pr i) (by omega) (by omega) (Or.inr ⟨h1, rfl⟩) ?_
        refine Or.inr ⟨h1, by omega, yb, ?_, fun k a1 a2 a3 => ?_⟩
        · show fl.toInt < (pr i).toInt
          rcases hb with ⟨g1, g2⟩ | ⟨g1, g2, g3, g4, g5⟩
          · omega
          · have g4' : fl.toInt < (pr m).toInt := g4
            omega
        · show (pr k).toInt ≤ (pr i).toInt ∧ (k < i → (pr k).toInt < (pr i).toInt)
          by_cases c : k = i
          · subst c; omega
          · rcases hb with ⟨g1, g2⟩ | ⟨g1, g2, g3, g4, g5⟩
            · have : (pr k).toInt ≤ fl.toInt := g2 k a1 (by omega) a3
              omega
            · have : (pr k).toInt ≤ (pr m).toInt := (g5 k a1 (by omega) a3).1
              omega
theorem so_b (pe : Int32) (pr : Nat → Int32) (en fl : Int32) : ∃ m', m' < 16 ∧ f_so_best pe pr en fl = nI m' ∧ bs (fun k => bt pe k = true ∧ bt en k = true) (fun k => (pr k).toInt) fl.toInt 16 m' :=
  so_best pe pr en fl 15 1 0 fl (by omega) (by omega) (Or.inl ⟨rfl, rfl⟩) (Or.inl ⟨rfl, fun k a b _ => by omega⟩)
/-- the reference's search, from the highest number down -/
def bd (b : Nat → Prop) (P : Nat → Int) (n m : Nat) : Prop :=
  (m = 0 ∧ ∀ k, n < k → k < 16 → b k → P k ≤ 0) ∨ (n < m ∧ m < 16 ∧ b m ∧ 0 < P m ∧ ∀ k, n < k → k < 16 → b k → P k ≤ P m ∧ (k < m → P k < P m))
theorem mo_claim (pr pn se en : Nat → Int32) (c : Int32) : ∀ (n i m : Nat), n < 16 → m < 16 →
    bd (fun k => ¬ pn k = 0 ∧ bt (en c.toNatClampNeg) k = true) (fun k => (pr k).toInt) n m →
    ∃ m', m' < 16 ∧ f_mo_claim_L5 pr pn se en c n i (nI m) = (nI m', (if m' = 0 then pn else upd pn m' 0), (if m' = 0 then se else upd se m' (c + 1))) ∧ bd (fun k => ¬ pn k = 0 ∧ bt (en c.toNatClampNeg) k = true) (fun k => (pr k).toInt) 0 m' := by
  intro n
  induction n with
  | zero =>
    intro i m hn hm hb
    refine ⟨m, hm, ?_, hb⟩
    rw [f_mo_claim_L5, nI_clamp (show m < 2 ^ 31 by omega), nar0]
    by_cases h : m = 0
    · rw [if_pos ((nI_le0 hm).mpr h), if_pos h, if_pos h]
    · rw [if_neg (fun q => h ((nI_le0 hm).mp q)), if_neg h, if_neg h]
  | succ n ih =>
    intro i m hn hm hb
    rw [f_mo_claim_L5, nI_clamp (show n + 1 < 2 ^ 31 by omega), nI_clamp (show m < 2 ^ 31 by omega), en_hb (show n + 1 < 32 by omega)]
    have skip : (¬ pn (n + 1) = 0 ∧ bt (en c.toNatClampNeg) (n + 1) = true → (pr (n + 1)).toInt ≤ 0 ∨ (1 ≤ m ∧ (pr (n + 1)).toInt < (pr m).toInt)) →
        bd (fun k => ¬ pn k = 0 ∧ bt (en c.toNatClampNeg) k = true) (fun k => (pr k).toInt) n m := by
      intro hs
      rcases hb with ⟨g1, g2⟩ | ⟨g1, g2, g3, g4, g5⟩
      · refine Or.inl ⟨g1, fun k a1 a2 a3 => ?_⟩
        by_cases d : k = n + 1
        · subst d
          rcases hs a3 with q | q
          · exact q
          · omega
        · exact g2 k (by omega) a2 a3
      · refine Or.inr ⟨by omega, g2, g3, g4, fun k a1 a2 a3 => ?_⟩
        by_cases d : k = n + 1
        · subst d
          have g4' : 0 < (pr m).toInt := g4
          show (pr (n + 1)).toInt ≤ (pr m).toInt ∧ (n + 1 < m → (pr (n + 1)).toInt < (pr m).toInt)
          rcases hs a3 with q | q <;> omega
        · exact g5 k (by omega) a2 a3
    have z32 : (0 : Int32).toInt = 0 := by decide
    by_cases c1 : pn (n + 1) = 0
    · rw [if_pos c1]
      exact ih (i + 1) m (by omega) hm (skip (fun q => absurd c1 q.1))
    · rw [if_neg c1]
      by_cases c2 : f_th_hasBit (en c.toNatClampNeg) (nI (n + 1)) = 0
      · rw [if_pos c2]
        refine ih (i + 1) m (by omega) hm (skip (fun q => ?_))
        rw [(hb_0 (by omega)).mp c2] at q
        exact absurd q.2 (by decide)
      · rw [if_neg c2]
        have yb : bt (en c.toNatClampNeg) (n + 1) = true := by
          have : ¬ bt (en c.toNatClampNeg) (n + 1) = false := fun q => c2 ((hb_0 (by omega)).mpr q)
          revert this
          cases bt (en c.toNatClampNeg) (n + 1) <;> decide
        by_cases c3 : pr (n + 1) ≤ 0
        · rw [if_pos c3]
          have := Int32.le_iff_toInt_le.mp c3
          exact ih (i + 1) m (by omega) hm (skip (fun q => Or.inl (by omega)))
        · rw [if_neg c3]
          have c3' := Int32.lt_iff_toInt_lt.mp (Int32.not_le.mp c3)
          by_cases c4 : nI m = 0
          · rw [if_pos c4]
            have hm0 := (nI_z16 hm).mp c4
            refine ih (i + 1) (n + 1) (by omega) hn ?_
            refine Or.inr ⟨by omega, hn, ⟨c1, yb⟩, ?_, fun k a1 a2 a3 => ?_⟩
            · show 0 < (pr (n + 1)).toInt; omega
            · show (pr k).toInt ≤ (pr (n + 1)).toInt ∧ (k < n + 1 → (pr k).toInt < (pr (n + 1)).toInt)
              rcases hb with ⟨g1, g2⟩ | ⟨g1, g2, g3, g4, g5⟩
              · by_cases d : k = n + 1
                · subst d; omega
                · have : (pr k).toInt ≤ 0 := g2 k (by omega) a2 a3
                  omega
              · omega
          · rw [if_neg c4]
            have hm0 : ¬ m = 0 := fun q => c4 ((nI_z16 hm).mpr q)
            by_cases c5 : pr (n + 1) < pr m
            · rw [if_pos c5]
              have := Int32.lt_iff_toInt_lt.mp c5
              exact ih (i + 1) m (by omega) hm (skip (fun q => Or.inr ⟨by omega, this⟩))
            · rw [if_neg c5]
              have c5' := Int32.le_iff_toInt_le.mp (Int32.not_lt.mp c5)
              refine ih (i + 1) (n + 1) (by omega) hn ?_
              refine Or.inr ⟨by omega, hn, ⟨c1, yb⟩, ?_, fun k a1 a2 a3 => ?_⟩
              · show 0 < (pr (n + 1)).toInt; omega
              · show (pr k).toInt ≤ (pr (n + 1)).toInt ∧ (k < n + 1 → (pr k).toInt < (pr (n + 1)).toInt)
                rcases hb with ⟨g1, g2⟩ | ⟨g1, g2, g3, g4, g5⟩
                · omega
                · by_cases d : k = n + 1
                  · subst d; omega
                  · have : (pr k).toInt ≤ (pr m).toInt := (g5 k (by omega) a2 a3).1
                    omega
theorem mo_c (pr pn se en : Nat → Int32) (c : Int32) : ∃ m', m' < 16 ∧ f_mo_claim pr pn se en c = (nI m', (if m' = 0 then pn else upd pn m' 0), (if m' = 0 then se else upd se m' (c + 1))) ∧ bd (fun k => ¬ pn k = 0 ∧ bt (en c.toNatClampNeg) k = true) (fun k => (pr k).toInt) 0 m' :=
  mo_claim pr pn se en c 15 0 0 (by omega) (by omega) (Or.inl ⟨rfl, fun k a b _ => by omega⟩)
/-- both searches find the same source -/
theorem claim_eq {pe en : Int32} {pr wpr wpn wse wen : Nat → Int32} {c : Int32} (hc : wen c.toNatClampNeg = en) (h : ∀ k, 1 ≤ k → k < 16 → wpr k = pr k ∧ wpn k = f_th_hasBit pe (nI k)) :
    ∃ m, m < 16 ∧ f_so_best pe pr en 0 = nI m ∧ (m ≠ 0 → bt pe m = true) ∧ f_mo_claim wpr wpn wse wen c = (nI m, (if m = 0 then wpn else upd wpn m 0), (if m = 0 then wse else upd wse m (c + 1))) := by
  obtain ⟨m, hm, he, hb⟩ := so_b pe pr en 0
  obtain ⟨m', hm', he', hb'⟩ := mo_c wpr wpn wse wen c
  have z32 : (0 : Int32).toInt = 0 := by decide
  have hbit : ∀ k, 1 ≤ k → k < 16 → ((¬ wpn k = 0 ∧ bt (wen c.toNatClampNeg) k = true) ↔ (bt pe k = true ∧ bt en k = true)) := by
    intro k a1 a2
    rw [(h k a1 a2).2, hc, hb_0 (by omega)]
    cases bt pe k <;> simp
  have hbb : bs (fun k => bt pe k = true ∧ bt en k = true) (fun k => (pr k).toInt) (0 : Int32).toInt 16 m' := by
    rw [z32]
    rcases hb' with ⟨g1, g2⟩ | ⟨g1, g2, g3, g4, g5⟩
    · refine Or.inl ⟨g1, fun k a1 a2 a3 => ?_⟩
      have := g2 k (by omega) a2 ((hbit k a1 a2).mpr a3)
      show (pr k).toInt ≤ 0
      rw [← (h k a1 a2).1]
      exact this
    · refine Or.inr ⟨by omega, g2, (hbit m' (by omega) g2).mp g3, ?_, fun k a1 a2 a3 => ?_⟩
      · show 0 < (pr m').toInt
        rw [← (h m' (by omega) g2).1]; exact g4
      · show (pr k).toInt ≤ (pr m').toInt ∧ (k < m' → (pr k).toInt < (pr m').toInt)
        rw [← (h k a1 a2).1, ← (h m' (by omega) g2).1]
        exact g5 k (by omega) a2 ((hbit k a1 a2).mpr a3)
  have hmm := bs_un hb hbb
  subst hmm
  refine ⟨m, hm, he, ?_, he'⟩
  intro h0
  rcases hb with ⟨g1, g2⟩ | ⟨g1, g2, g3, g4, g5⟩
  · exact absurd g1 h0
  · exact g3.1
theorem mo_calls (pr pn en tt : Nat → Int32) (c : Int32) : ∀ (n i : Nat) (z : Int32), i + n = 16 → (z = 0 ∨ z = 1) →
    (f_mo_calls_L4 pr pn en tt c n i z = 0 ∨ f_mo_calls_L4 pr pn en tt c n i z = 1) ∧
    (f_mo_calls_L4 pr pn en tt c n i z = 0 ↔ (z = 0 ∧ ∀ k, i ≤ k → k < 16 → (¬ pn k = 0 ∧ bt (en c.toNatClampNeg) k = true) → pr k ≤ tt c.toNatClampNeg)) := by
  intro n
  induction n with
  | zero =>
    intro i z hi hz
    rw [f_mo_calls_L4]
    exact ⟨hz, fun h => ⟨h, fun k a b _ => by omega⟩, fun h => h.1⟩
  | succ n ih =>
    intro i z hi hz
    have n1 : ¬ (1 : Int32) = 0 := by decide
    rw [f_mo_calls_L4, nI_clamp (show i < 2 ^ 31 by omega), en_hb (show i < 32 by omega)]
    have step : ((¬ pn i = 0 ∧ bt (en c.toNatClampNeg) i = true) → pr i ≤ tt c.toNatClampNeg) → z = 0 →
        (f_mo_calls_L4 pr pn en tt c n (i + 1) 0 = 0 ∨ f_mo_calls_L4 pr pn en tt c n (i + 1) 0 = 1) ∧ (f_mo_calls_L4 pr pn en tt c n (i + 1) 0 = 0 ↔ (z = 0 ∧ ∀ k, i ≤ k → k < 16 → (¬ pn k = 0 ∧ bt (en c.toNatClampNeg) k = true) → pr k ≤ tt c.toNatClampNeg)) := by
      intro hs hz0
      obtain ⟨a, b⟩ := ih (i + 1) 0 (by omega) (Or.inl rfl)
      refine ⟨a, b.trans ⟨fun h => ⟨hz0, fun k a1 a2 a3 => ?_⟩, fun h => ⟨rfl, fun k a1 a2 a3 => h.2 k (by omega) a2 a3⟩⟩⟩
      by_cases d : k = i
      · subst d; exact hs a3
      · exact h.2 k (by omega) a2 a3
    by_cases c0 : z = 0
    · rw [if_pos c0]
      by_cases c1 : pn i = 0
      · rw [if_pos c1]
        exact step (fun q => absurd c1 q.1) c0
      · rw [if_neg c1]
        by_cases c2 : f_th_hasBit (en c.toNatClampNeg) (nI i) = 0
        · rw [if_pos c2]
          refine step (fun q => ?_) c0
          rw [(hb_0 (by omega)).mp c2] at q
          exact absurd q.2 (by decide)
        · rw [if_neg c2]
          by_cases c3 : pr i ≤ tt c.toNatClampNeg
          · rw [if_pos c3]
            exact step (fun _ => c3) c0
          · rw [if_neg c3]
            obtain ⟨a, b⟩ := ih (i + 1) 1 (by omega) (Or.inr rfl)
            refine ⟨a, b.trans ⟨fun h => absurd h.1 n1, fun h => ?_⟩⟩
            refine absurd (h.2 i (by omega) (by omega) ⟨c1, ?_⟩) c3
            have : ¬ bt (en c.toNatClampNeg) i = false := fun q => c2 ((hb_0 (by omega)).mpr q)
            revert this
            cases bt (en c.toNatClampNeg) i <;> decide
    · rw [if_neg c0]
      obtain ⟨a, b⟩ := ih (i + 1) 1 (by omega) (Or.inr rfl)
      exact ⟨a, b.trans ⟨fun h => absurd h.1 n1, fun h => absurd h.1 c0⟩⟩
theorem calls_eq {pe en th : Int32} {pr wpr wpn wen wtt : Nat → Int32} {c : Int32} (hc : wen c.toNatClampNeg = en) (ht : wtt c.toNatClampNeg = th) (h : ∀ k, 1 ≤ k → k < 16 → wpr k = pr k ∧ wpn k = f_th_hasBit pe (nI k)) :
    f_ct_isCalling en th pe pr = f_mo_calls wpr wpn wen wtt c := by
  obtain ⟨m, hm, he, hb⟩ := so_b pe pr en th
  obtain ⟨a, b⟩ := mo_calls wpr wpn wen wtt c 15 1 0 (by omega) (Or.inl rfl)
  have hbit : ∀ k, 1 ≤ k → k < 16 → ((¬ wpn k = 0 ∧ bt (wen c.toNatClampNeg) k = true) ↔ (bt pe k = true ∧ bt en k = true)) := by
    intro k a1 a2
    rw [(h k a1 a2).2, hc, hb_0 (by omega)]
    cases bt pe k <;> simp
  unfold f_ct_isCalling
  show _ = f_mo_calls_L4 wpr wpn wen wtt c 15 1 0
  rw [he]
  rcases hb with ⟨g1, g2⟩ | ⟨g1, g2, g3, g4, g5⟩
  · rw [if_pos ((nI_z16 hm).mpr g1)]
    refine (b.mpr ⟨rfl, fun k a1 a2 a3 => ?_⟩).symm
    rw [(h k a1 a2).1, ht]
    exact Int32.le_iff_toInt_le.mpr (g2 k a1 a2 ((hbit k a1 a2).mp a3))
  · rw [if_neg (fun q => by have := (nI_z16 hm).mp q; omega)]
    rcases a with x | x
    · have := (b.mp x).2 m g1 g2 ((hbit m g1 g2).mpr g3)
      rw [(h m g1 g2).1, ht] at this
      have q : (pr m).toInt ≤ th.toInt := Int32.le_iff_toInt_le.mp this
      have g4' : th.toInt < (pr m).toInt := g4
      omega
    · exact x.symm
-- ===== the interrupts that stand =====
theorem irq_eq {v_pe : Int32} {v_pr : Nat → Int32} {v_me v_mt v_ue v_ut : Int32} {v_ti v_co : Int64} {v_sf v_wr : Int32} {w_pr w_pn w_en w_tt : Nat → Int32}
    (h : ∀ k, 1 ≤ k → k < 16 → w_pr k = v_pr k ∧ w_pn k = f_th_hasBit v_pe (nI k)) (hF : v_sf = 0 ∨ v_sf = 1) (h1 : w_en 0 = v_me) (h2 : w_en 1 = v_ue) (h3 : w_tt 0 = v_mt) (h4 : w_tt 1 = v_ut) :
    f_rg_pendingInterrupts v_wr v_pe v_pr v_me v_mt v_ue v_ut v_ti v_co v_sf = f_mo_interrupts v_ti v_co v_sf v_wr w_pr w_pn w_en w_tt := by
  have q0 : f_ct_isCalling v_me v_mt v_pe v_pr = f_mo_calls w_pr w_pn w_en w_tt 0 := calls_eq h1 h3 h
  have q1 : f_ct_isCalling v_ue v_ut v_pe v_pr = f_mo_calls w_pr w_pn w_en w_tt 1 := calls_eq h2 h4 h
  have q2 : f_tm_isReached v_ti v_co = f_mo_late v_ti v_co := rfl
  have n1 : ¬ (0 : Int32) = 1 := by decide
  have s0 : (0 : Int32) <<< ((3 : Int32) &&& 31) = 0 := by decide
  have s1 : (1 : Int32) <<< ((3 : Int32) &&& 31) = 8 := by decide
  unfold f_rg_pendingInterrupts f_dv_interrupts f_dv_interrupts_26 f_dv_interrupts_42 f_mo_interrupts f_mo_interrupts_21 f_mo_interrupts_38 f_mo_interrupts_56
  rw [q0, q1, q2]
  by_cases d0 : f_mo_calls w_pr w_pn w_en w_tt 0 = 0 <;> by_cases d1 : f_mo_calls w_pr w_pn w_en w_tt 1 = 0 <;> by_cases d2 : f_mo_late v_ti v_co = 0 <;> rcases hF with rfl | rfl <;>
    simp only [d0, d1, d2, if_true, if_false, n1, s0, s1, Int32.or_assoc, Int32.or_zero, Int32.zero_or] <;> first | rfl | exact congrArg (v_wr ||| ·) (by decide)
