-- ===== claim and complete keep the sources together =====
theorem sr_claim {v_eg v_hi v_pe : Int32} {v_pr v_wa v_se w_ed w_li w_pr w_pn w_se w_wa w_en : Nat → Int32} {c ce cs : Int32} (h : SR v_eg v_hi v_pe v_pr v_wa v_se w_ed w_li w_pr w_pn w_se w_wa) (hc : w_en c.toNatClampNeg = ce) (hs : cs = c + 1) (hs0 : ¬ cs = 0) :
    (f_ct_claim cs ce v_pe v_pr v_se).1 = (f_mo_claim w_pr w_pn w_se w_en c).1 ∧
    SR v_eg v_hi (f_ct_claim cs ce v_pe v_pr v_se).2.1 v_pr v_wa (f_ct_claim cs ce v_pe v_pr v_se).2.2 w_ed w_li w_pr (f_mo_claim w_pr w_pn w_se w_en c).2.1 (f_mo_claim w_pr w_pn w_se w_en c).2.2 w_wa := by
  obtain ⟨hm, hk⟩ := h
  obtain ⟨m, hm16, hb, hp, hq⟩ := claim_eq (wse := w_se) hc (fun k a b => ⟨(hk k a b).1, (hk k a b).2.2.2.1⟩)
  rw [hq]
  unfold f_ct_claim f_so_serve
  rw [hb]
  by_cases h0 : m = 0
  · subst h0
    simp only [if_pos ((nI_z16 hm16).mpr rfl), if_true]
    exact ⟨trivial, hm, hk⟩
  · have hz : ¬ nI m = 0 := fun q => h0 ((nI_z16 hm16).mp q)
    simp only [if_neg hz, if_neg h0, nI_clamp (show m < 2 ^ 31 by omega)]
    have bit : ∀ k, k < 32 → bt (v_pe &&& (((1 : Int32) <<< (nI m &&& 31)) ^^^ (-1 : Int32))) k = (bt v_pe k && !decide (k = m)) := by
      intro k hk32
      rw [b_and, b_xor, b_m1 k hk32, bt_one (by omega) hk32, Bool.xor_true]
    refine ⟨trivial, ?_, ?_⟩
    · rw [m_iff] at hm ⊢
      intro k a b
      rw [bit k a, hm k a b, Bool.false_and]
    · intro k a1 a2
      obtain ⟨b1, b2, b3, b4, b5, b6, b7⟩ := hk k a1 a2
      by_cases d : k = m
      · subst d
        refine ⟨b1, b2, ?_, ?_, b5, b6, ?_⟩
        · rw [pk_us, pk_us, hs]
        · rw [pk_us, hb_bt (by omega), bit k (by omega), decide_eq_true rfl]
          simp
        · intro _ q
          rw [pk_us] at q
          exact absurd q hs0
      · have e : bt (v_pe &&& (((1 : Int32) <<< (nI m &&& 31)) ^^^ (-1 : Int32))) k = bt v_pe k := by
          rw [bit k (by omega), decide_eq_false d]; simp
        refine ⟨b1, b2, ?_, ?_, b5, b6, ?_⟩
        · rw [pk_un d, pk_un d, b3]
        · rw [pk_un d, hb_eq (by omega) e, b4]
        · unfold okF at b7 ⊢
          rw [hb_eq (by omega) e, pk_un d]
          exact b7
theorem fw_id {eg hi pe wa se : Int32} {k : Nat} (h : okF eg hi pe wa se k) : fwP (f_th_hasBit pe (nI k)) se (f_th_hasBit eg (nI k)) (f_th_hasBit hi (nI k)) wa = f_th_hasBit pe (nI k) ∧ fwW (f_th_hasBit pe (nI k)) se (f_th_hasBit eg (nI k)) wa = wa := by
  unfold fwP fwW
  by_cases c1 : f_th_hasBit pe (nI k) = 0
  · by_cases c2 : se = 0
    · obtain ⟨h1, h2⟩ := h c1 c2
      by_cases c3 : f_th_hasBit eg (nI k) = 0
      · simp only [if_pos c1, if_pos c2, if_pos c3, if_pos (h1 c3)]
        exact ⟨trivial, trivial⟩
      · simp only [if_pos c1, if_pos c2, if_neg c3, if_pos (h2 c3)]
        exact ⟨trivial, trivial⟩
    · simp only [if_pos c1, if_neg c2]
      exact ⟨trivial, trivial⟩
  · simp only [if_neg c1]
    exact ⟨trivial, trivial⟩
theorem sr_complete {v_eg v_hi v_pe : Int32} {v_pr v_wa v_se w_ed w_li w_pr w_pn w_se w_wa w_en : Nat → Int32} {c ce : Int32} (p : Int32) (h : SR v_eg v_hi v_pe v_pr v_wa v_se w_ed w_li w_pr w_pn w_se w_wa) (hc : w_en c.toNatClampNeg = ce) :
    SR v_eg v_hi (f_ct_complete ce v_eg v_hi v_pe v_wa v_se p).1 v_pr (f_ct_complete ce v_eg v_hi v_pe v_wa v_se p).2.1 (f_ct_complete ce v_eg v_hi v_pe v_wa v_se p).2.2 w_ed w_li w_pr (f_mo_complete w_ed w_li w_pn w_se w_wa w_en c p).1 (f_mo_complete w_ed w_li w_pn w_se w_wa w_en c p).2.1 (f_mo_complete w_ed w_li w_pn w_se w_wa w_en c p).2.2 := by
  unfold f_ct_complete f_mo_complete
  by_cases c1 : p < 1
  · simp only [if_pos c1]; exact h
  · by_cases c2 : 15 < p
    · simp only [if_neg c1, if_pos c2]; exact h
    · obtain ⟨s, hs1, hs2, rfl⟩ := ix_16 c1 (Int32.not_lt.mp c2)
      rw [en_hb (show s < 32 by omega), hc]
      by_cases c3 : f_th_hasBit ce (nI s) = 0
      · simp only [if_neg c1, if_neg c2, if_pos c3]; exact h
      · simp only [if_neg c1, if_neg c2, if_neg c3, nI_clamp (show s < 2 ^ 31 by omega)]
        obtain ⟨hm, hk⟩ := h
        unfold f_so_release
        rw [nI_clamp (show s < 2 ^ 31 by omega)]
        by_cases c4 : v_se s = 0
        · simp only [if_pos c4]
          refine ⟨hm, ?_⟩
          intro k a1 a2
          obtain ⟨b1, b2, b3, b4, b5, b6, b7⟩ := hk k a1 a2
          have hse : upd w_se s 0 k = v_se k := by
            by_cases d : k = s
            · subst d; rw [pk_us, c4]
            · rw [pk_un d, b3]
          obtain ⟨e1, e2⟩ := fw_mo w_ed w_li w_pn (upd w_se s 0) w_wa a1 a2
          obtain ⟨f1, f2⟩ := fw_id b7
          rw [e1, e2, hse, b2, b4, b5, b6]
          exact ⟨b1, f2, rfl, f1, rfl, rfl, b7⟩
        · simp only [if_neg c4]
          obtain ⟨g1, g2, g3, g4⟩ := fw_c v_eg v_hi v_pe v_wa (upd v_se s 0) s hs1 hs2
          refine ⟨fw_m _ _ _ _ _ s hs1 hs2 hm, ?_⟩
          intro k a1 a2
          obtain ⟨b1, b2, b3, b4, b5, b6, b7⟩ := hk k a1 a2
          obtain ⟨e1, e2⟩ := fw_mo w_ed w_li w_pn (upd w_se s 0) w_wa a1 a2
          by_cases d : k = s
          · subst d
            rw [pk_us] at e1 e2 g2 g4
            rw [b2, b4, b5] at e2
            rw [b2, b4, b5, b6] at e1
            refine ⟨b1, ?_, by rw [pk_us, pk_us], ?_, b5, b6, ?_⟩
            · rw [e2, g4]
            · rw [e1, g2]
            · rw [pk_us]
              exact okF_of rfl rfl rfl g2 g4
          · rw [pk_un d] at e1 e2
            rw [b2, b3, b4, b5] at e2
            rw [b2, b3, b4, b5, b6] at e1
            obtain ⟨f1, f2⟩ := fw_id b7
            have eb := g1 k (by omega) d
            refine ⟨b1, ?_, by rw [pk_un d, pk_un d, b3], ?_, b5, b6, ?_⟩
            · rw [e2, f2, g3 k d]
            · rw [e1, f1, hb_eq (by omega) eb]
            · unfold okF at b7 ⊢
              rw [hb_eq (by omega) eb, pk_un d, g3 k d]
              exact b7
